/-! filling -/
def cf1 (f : Nat → Int) (s d : Int) : Int := if f_sb s d = -1 then 0 else f (f_sb s d).toNat
def cfb (f : Nat → Int) (s : Int) : Int := cf1 f s 0 + cf1 f s 1 + cf1 f s 2 + cf1 f s 3
def B01 (f : Nat → Int) : Prop := ∀ t, t < 36 → f t = 0 ∨ f t = 1
theorem cf1_b {f : Nat → Int} {s d : Int} (h : B01 f) (s0 : 0 ≤ s) (s1 : s < 36) (d0 : 0 ≤ d) (d1 : d < 4) : cf1 f s d = 0 ∨ cf1 f s d = 1 := by
  have := f_sb_b s0 s1 d0 d1
  unfold cf1
  split
  · exact Or.inl rfl
  · exact h _ (by omega)
theorem cfb_b {f : Nat → Int} {s : Int} (h : B01 f) (s0 : 0 ≤ s) (s1 : s < 36) : 0 ≤ cfb f s ∧ cfb f s ≤ 4 := by
  have h0 := cf1_b h s0 s1 (show (0 : Int) ≤ 0 by omega) (by omega)
  have h1 := cf1_b h s0 s1 (show (0 : Int) ≤ 1 by omega) (by omega)
  have h2 := cf1_b h s0 s1 (show (0 : Int) ≤ 2 by omega) (by omega)
  have h3 := cf1_b h s0 s1 (show (0 : Int) ≤ 3 by omega) (by omega)
  unfold cfb
  omega
theorem cfb_c {f g : Nat → Int} {s : Int} (h : ∀ t, t < 36 → f t = g t) (s0 : 0 ≤ s) (s1 : s < 36) : cfb f s = cfb g s := by
  have e : ∀ d, 0 ≤ d → d < 4 → cf1 f s d = cf1 g s d := fun d d0 d1 => by
    have := f_sb_b s0 s1 d0 d1
    unfold cf1
    split
    · rfl
    · exact h _ (by omega)
  unfold cfb
  rw [e 0 (by omega) (by omega), e 1 (by omega) (by omega), e 2 (by omega) (by omega), e 3 (by omega) (by omega)]
theorem cfb_bsd {p : Nat → Bool} {s : Int} (s0 : 0 ≤ s) (s1 : s < 36) : cfb (fun t => bi (p t)) s = bsd p s := by
  unfold cfb bsd cf1
  rw [f_sb0, f_sb1, f_sb2, f_sb3]
  have a0 : (if (if 0 < s / 6 then s - 6 else -1) = -1 then 0 else bi (p (if 0 < s / 6 then s - 6 else -1).toNat)) = if 5 < s then bi (p (s - 6).toNat) else 0 := by
    by_cases c : 5 < s
    · rw [if_pos (show 0 < s / 6 by omega), if_neg (by omega), if_pos c]
    · rw [if_neg (show ¬ 0 < s / 6 by omega), if_pos rfl, if_neg c]
  have a1 : (if (if 0 < s % 6 then s - 1 else -1) = -1 then 0 else bi (p (if 0 < s % 6 then s - 1 else -1).toNat)) = if 0 < s % 6 then bi (p (s - 1).toNat) else 0 := by
    by_cases c : 0 < s % 6
    · rw [if_pos c, if_neg (by omega), if_pos c]
    · rw [if_neg c, if_pos rfl, if_neg c]
  have a2 : (if (if s % 6 < 5 then s + 1 else -1) = -1 then 0 else bi (p (if s % 6 < 5 then s + 1 else -1).toNat)) = if s % 6 < 5 then bi (p (s + 1).toNat) else 0 := by
    by_cases c : s % 6 < 5
    · rw [if_pos c, if_neg (by omega), if_pos c]
    · rw [if_neg c, if_pos rfl, if_neg c]
  have a3 : (if (if s / 6 < 5 then s + 6 else -1) = -1 then 0 else bi (p (if s / 6 < 5 then s + 6 else -1).toNat)) = if s < 30 then bi (p (s + 6).toNat) else 0 := by
    by_cases c : s < 30
    · rw [if_pos (show s / 6 < 5 by omega), if_neg (by omega), if_pos c]
    · rw [if_neg (show ¬ s / 6 < 5 by omega), if_pos rfl, if_neg c]
  rw [a0, a1, a2, a3]
  omega
/-- who joins, and what is filled then -/
def jo (k : Int) (sh f : Nat → Int) (s : Nat) : Int := if f s = 0 ∧ sh s = 0 ∧ k ≤ cfb f s then 1 else 0
def nf (k : Int) (sh f : Nat → Int) : Nat → Int := fun s => if f s = 0 then jo k sh f s else f s
def fsq (k : Int) (sh w : Nat → Int) : Nat → Nat → Int
  | 0 => w
  | n + 1 => nf k sh (fsq k sh w n)
def stb (k : Int) (sh f : Nat → Int) : Prop := ∀ s, s < 36 → jo k sh f s = 0
theorem jo_b (k : Int) (sh f : Nat → Int) (s : Nat) : jo k sh f s = 0 ∨ jo k sh f s = 1 := by unfold jo; split <;> omega
theorem nf_b {k : Int} {sh f : Nat → Int} (h : B01 f) : B01 (nf k sh f) := fun t ht => by
  unfold nf
  split
  · exact jo_b k sh f t
  · exact h t ht
theorem fsq_b {k : Int} {sh w : Nat → Int} (h : B01 w) : ∀ n, B01 (fsq k sh w n)
  | 0 => h
  | n + 1 => nf_b (fsq_b h n)
theorem jo_c {k : Int} {sh sh2 f g : Nat → Int} (hs : ∀ t, t < 36 → sh t = sh2 t) (h : ∀ t, t < 36 → f t = g t) {s : Nat} (hs9 : s < 36) : jo k sh f s = jo k sh2 g s := by
  unfold jo
  rw [h s hs9, hs s hs9, cfb_c h (by omega) (by omega)]
theorem nf_c {k : Int} {sh sh2 f g : Nat → Int} (hs : ∀ t, t < 36 → sh t = sh2 t) (h : ∀ t, t < 36 → f t = g t) {s : Nat} (hs9 : s < 36) : nf k sh f s = nf k sh2 g s := by
  unfold nf
  rw [h s hs9, jo_c hs h hs9]
theorem sm_nf {k : Int} {sh f : Nat → Int} (h : B01 f) : ∀ n, n ≤ 36 → sm (nf k sh f) n = sm f n + sm (jo k sh f) n
  | 0, _ => rfl
  | n + 1, hn => by
    have ih := sm_nf (k := k) (sh := sh) h n (by omega)
    have b := h n (by omega)
    unfold sm
    rw [ih]
    unfold nf
    by_cases c : f n = 0
    · rw [if_pos c, c]; omega
    · have : jo k sh f n = 0 := if_neg (fun q => c q.1)
      rw [if_neg c, this]; omega
/-- so many are filled behind so many rounds -/
def FD (k : Int) (sh w : Nat → Int) (c : Int) (n : Nat) : Prop := (∀ i, i < n → ¬ stb k sh (fsq k sh w i)) ∧ stb k sh (fsq k sh w n) ∧ c = sm (fsq k sh w n) 36
theorem FD_u {k : Int} {sh w : Nat → Int} {c c2 : Int} {n n2 : Nat} (h : FD k sh w c n) (g : FD k sh w c2 n2) : c = c2 ∧ n = n2 := by
  have e : n = n2 := by
    apply Classical.byContradiction
    intro ne
    by_cases l : n < n2
    · exact g.1 n l h.2.1
    · exact h.1 n2 (by omega) g.2.1
  subst e
  exact ⟨h.2.2.trans g.2.2.symm, rfl⟩
theorem jo_sm {k : Int} {sh f : Nat → Int} : (stb k sh f → sm (jo k sh f) 36 = 0) ∧ (¬ stb k sh f → 0 < sm (jo k sh f) 36) := by
  refine ⟨fun h => sm_z 36 h, fun h => ?_⟩
  have b := sm_b (g := jo k sh f) 36 fun i _ => jo_b k sh f i
  apply Classical.byContradiction
  intro c
  apply h
  intro s hs
  rcases jo_b k sh f s with e | e
  · exact e
  · have e2 := sm_s (g := jo k sh f) (c := s) (v := 0) 36
    rw [if_pos hs, e] at e2
    have := sm_b (g := sw_s (jo k sh f) s 0) 36 fun i _ => by
      unfold sw_s
      split
      · exact Or.inl rfl
      · exact jo_b k sh f i
    omega
/-- each round that is not the last one adds one at least -/
theorem fsq_n {k : Int} {sh w : Nat → Int} (h : B01 w) : ∀ n, (∀ i, i < n → ¬ stb k sh (fsq k sh w i)) → (n : Int) ≤ sm (fsq k sh w n) 36
  | 0, _ => (sm_b 36 h).1
  | n + 1, q => by
    have ih := fsq_n h n fun i hi2 => q i (by omega)
    have := (jo_sm (k := k) (sh := sh) (f := fsq k sh w n)).2 (q n (by omega))
    have e : sm (fsq k sh w (n + 1)) 36 = _ := sm_nf (k := k) (sh := sh) (fsq_b h n) 36 (Nat.le_refl _)
    omega
theorem full_st {k : Int} {sh f : Nat → Int} (h : B01 f) (h2 : sm f 36 = 36) : stb k sh f := fun s hs => if_neg fun q => by
  have := sm_full h h2 hs
  omega
section sw_fi
variable {L : Nat} {A : Nat → Nat → Int} {F : Nat → Int} {T : Nat → sw_Ce} {X : Nat × Nat × Nat} {Q : sw_Ot → sw_HS → Prop}
theorem m41_d {s d c : Int} {x : Option Value} (h : B01 (A 12)) (s0 : 0 ≤ s) (s1 : s < 36) (d0 : 0 ≤ d) (d1 : d < 4) (c0 : 0 ≤ c) (c1 : c ≤ 4) : sw_A 41 4 [some (.ref 8), some (.int (Int32.ofInt s)), some (.int (Int32.ofInt c)), some (.int (Int32.ofInt d)), x] [] (sw_h L A F T X) Q = sw_A 41 4 [some (.ref 8), some (.int (Int32.ofInt s)), some (.int (Int32.ofInt (c + cf1 (A 12) s d))), some (.int (Int32.ofInt (d + 1))), some (.int (Int32.ofInt (f_sb s d)))] [] (sw_h L A F T X) Q := by
  have hb := f_sb_b s0 s1 d0 d1
  unfold cf1
  rw [r41_4]
  simp (disch := omega) only [r41_5, r41_6, r41_9, r41_10, r41_11, r41_14, r41_16, r41_18, r41_19, sw_ldi, sw_ldl, sw_lda, sw_has1, sw_i1, sw_i2, sw_l1, sw_l2, sw_li, sw_r1, sw_ri, sw_rix, sw_rv, sw_pop, sw_set1, sw_set2, List.set_cons_zero, List.set_cons_succ, List.getElem?_cons_zero, List.getElem?_cons_succ, ald_1, ald_2, ast_1, ast_2, aln_1, aln_2, gf_1, gf_2, pf_1, pf_2, nw_1, ck_0, ck_1, ck_2, ck_3, ck_4, rr_1, rc_1, rc_2, K_i, K_l, K_v, I_add, I_sub, I_mul, I_div, I_em, I_eq0, I_lt0, I_0lt, I_le0, I_0le, I_eq, I_lt, I_le, I_a1, I_r1, I_eq1, I32_at, I32_s, Int.toNat_natCast, List.set_cons_zero, reduceCtorEq, not_false_eq_true, not_true_eq_false, false_and, true_and, and_true, and_false, false_or, true_or, or_true, or_false, if_true, if_false, eq_self, ↓reduceIte, Int.reduceEq, Int.reduceLT, Int.reduceLE, Int.reduceAdd, Int.reduceSub, Int.reduceMul, Int.reduceNeg, Int.reduceToNat, Nat.reduceLT, Nat.reduceAdd, Nat.reduceEqDiff, List.length_cons, List.length_nil, m32]
  rw [if_neg (by omega)]
  by_cases e : f_sb s d = -1
  · rw [if_pos e, if_pos e]
    simp (disch := omega) only [r41_35, r41_38, sw_ldi, sw_ldl, sw_lda, sw_has1, sw_i1, sw_i2, sw_l1, sw_l2, sw_li, sw_r1, sw_ri, sw_rix, sw_rv, sw_pop, sw_set1, sw_set2, List.set_cons_zero, List.set_cons_succ, List.getElem?_cons_zero, List.getElem?_cons_succ, ald_1, ald_2, ast_1, ast_2, aln_1, aln_2, gf_1, gf_2, pf_1, pf_2, nw_1, ck_0, ck_1, ck_2, ck_3, ck_4, rr_1, rc_1, rc_2, K_i, K_l, K_v, I_add, I_sub, I_mul, I_div, I_em, I_eq0, I_lt0, I_0lt, I_le0, I_0le, I_eq, I_lt, I_le, I_a1, I_r1, I_eq1, I32_at, I32_s, Int.toNat_natCast, List.set_cons_zero, reduceCtorEq, not_false_eq_true, not_true_eq_false, false_and, true_and, and_true, and_false, false_or, true_or, or_true, or_false, if_true, if_false, eq_self, ↓reduceIte, Int.reduceEq, Int.reduceLT, Int.reduceLE, Int.reduceAdd, Int.reduceSub, Int.reduceMul, Int.reduceNeg, Int.reduceToNat, Nat.reduceLT, Nat.reduceAdd, Nat.reduceEqDiff, List.length_cons, List.length_nil, Int.add_zero]
  · have h9 := h (f_sb s d).toNat (by omega)
    rw [if_neg e, if_neg e]
    simp (disch := omega) only [r41_22, r41_23, r41_26, r41_28, r41_29, sw_ldi, sw_ldl, sw_lda, sw_has1, sw_i1, sw_i2, sw_l1, sw_l2, sw_li, sw_r1, sw_ri, sw_rix, sw_rv, sw_pop, sw_set1, sw_set2, List.set_cons_zero, List.set_cons_succ, List.getElem?_cons_zero, List.getElem?_cons_succ, ald_1, ald_2, ast_1, ast_2, aln_1, aln_2, gf_1, gf_2, pf_1, pf_2, nw_1, ck_0, ck_1, ck_2, ck_3, ck_4, rr_1, rc_1, rc_2, K_i, K_l, K_v, I_add, I_sub, I_mul, I_div, I_em, I_eq0, I_lt0, I_0lt, I_le0, I_0le, I_eq, I_lt, I_le, I_a1, I_r1, I_eq1, I32_at, I32_s, Int.toNat_natCast, List.set_cons_zero, reduceCtorEq, not_false_eq_true, not_true_eq_false, false_and, true_and, and_true, and_false, false_or, true_or, or_true, or_false, if_true, if_false, eq_self, ↓reduceIte, Int.reduceEq, Int.reduceLT, Int.reduceLE, Int.reduceAdd, Int.reduceSub, Int.reduceMul, Int.reduceNeg, Int.reduceToNat, Nat.reduceLT, Nat.reduceAdd, Nat.reduceEqDiff, List.length_cons, List.length_nil, h_8, h_12]
    rcases h9 with e2 | e2
    · rw [if_pos e2, e2]
      simp (disch := omega) only [r41_35, r41_38, sw_ldi, sw_ldl, sw_lda, sw_has1, sw_i1, sw_i2, sw_l1, sw_l2, sw_li, sw_r1, sw_ri, sw_rix, sw_rv, sw_pop, sw_set1, sw_set2, List.set_cons_zero, List.set_cons_succ, List.getElem?_cons_zero, List.getElem?_cons_succ, ald_1, ald_2, ast_1, ast_2, aln_1, aln_2, gf_1, gf_2, pf_1, pf_2, nw_1, ck_0, ck_1, ck_2, ck_3, ck_4, rr_1, rc_1, rc_2, K_i, K_l, K_v, I_add, I_sub, I_mul, I_div, I_em, I_eq0, I_lt0, I_0lt, I_le0, I_0le, I_eq, I_lt, I_le, I_a1, I_r1, I_eq1, I32_at, I32_s, Int.toNat_natCast, List.set_cons_zero, reduceCtorEq, not_false_eq_true, not_true_eq_false, false_and, true_and, and_true, and_false, false_or, true_or, or_true, or_false, if_true, if_false, eq_self, ↓reduceIte, Int.reduceEq, Int.reduceLT, Int.reduceLE, Int.reduceAdd, Int.reduceSub, Int.reduceMul, Int.reduceNeg, Int.reduceToNat, Nat.reduceLT, Nat.reduceAdd, Nat.reduceEqDiff, List.length_cons, List.length_nil, Int.add_zero]
    · rw [if_neg (by omega), e2]
      simp (disch := omega) only [r41_32, r41_35, r41_38, sw_ldi, sw_ldl, sw_lda, sw_has1, sw_i1, sw_i2, sw_l1, sw_l2, sw_li, sw_r1, sw_ri, sw_rix, sw_rv, sw_pop, sw_set1, sw_set2, List.set_cons_zero, List.set_cons_succ, List.getElem?_cons_zero, List.getElem?_cons_succ, ald_1, ald_2, ast_1, ast_2, aln_1, aln_2, gf_1, gf_2, pf_1, pf_2, nw_1, ck_0, ck_1, ck_2, ck_3, ck_4, rr_1, rc_1, rc_2, K_i, K_l, K_v, I_add, I_sub, I_mul, I_div, I_em, I_eq0, I_lt0, I_0lt, I_le0, I_0le, I_eq, I_lt, I_le, I_a1, I_r1, I_eq1, I32_at, I32_s, Int.toNat_natCast, List.set_cons_zero, reduceCtorEq, not_false_eq_true, not_true_eq_false, false_and, true_and, and_true, and_false, false_or, true_or, or_true, or_false, if_true, if_false, eq_self, ↓reduceIte, Int.reduceEq, Int.reduceLT, Int.reduceLE, Int.reduceAdd, Int.reduceSub, Int.reduceMul, Int.reduceNeg, Int.reduceToNat, Nat.reduceLT, Nat.reduceAdd, Nat.reduceEqDiff, List.length_cons, List.length_nil]
/-- countFilledBeside -/
theorem m41 {s : Int} (h : B01 (A 12)) (s0 : 0 ≤ s) (s1 : s < 36) : sw_M 41 [.ref 8, .int (Int32.ofInt s)] (sw_h L A F T X) Q = Q (some (some (.int (Int32.ofInt (cfb (A 12) s))))) (sw_h L A F T X) := by
  have h0 := cf1_b h s0 s1 (show (0 : Int) ≤ 0 by omega) (by omega)
  have h1 := cf1_b h s0 s1 (show (0 : Int) ≤ 1 by omega) (by omega)
  have h2 := cf1_b h s0 s1 (show (0 : Int) ≤ 2 by omega) (by omega)
  rw [e41]
  simp (disch := omega) only [r41_0, r41_1, r41_2, r41_3, sw_ldi, sw_ldl, sw_lda, sw_has1, sw_i1, sw_i2, sw_l1, sw_l2, sw_li, sw_r1, sw_ri, sw_rix, sw_rv, sw_pop, sw_set1, sw_set2, List.set_cons_zero, List.set_cons_succ, List.getElem?_cons_zero, List.getElem?_cons_succ, ald_1, ald_2, ast_1, ast_2, aln_1, aln_2, gf_1, gf_2, pf_1, pf_2, nw_1, ck_0, ck_1, ck_2, ck_3, ck_4, rr_1, rc_1, rc_2, K_i, K_l, K_v, I_add, I_sub, I_mul, I_div, I_em, I_eq0, I_lt0, I_0lt, I_le0, I_0le, I_eq, I_lt, I_le, I_a1, I_r1, I_eq1, I32_at, I32_s, Int.toNat_natCast, List.set_cons_zero, reduceCtorEq, not_false_eq_true, not_true_eq_false, false_and, true_and, and_true, and_false, false_or, true_or, or_true, or_false, if_true, if_false, eq_self, ↓reduceIte, Int.reduceEq, Int.reduceLT, Int.reduceLE, Int.reduceAdd, Int.reduceSub, Int.reduceMul, Int.reduceNeg, Int.reduceToNat, Nat.reduceLT, Nat.reduceAdd, Nat.reduceEqDiff, List.length_cons, List.length_nil]
  refine Eq.trans (m41_d (d := 0) (c := 0) h s0 s1 (by omega) (by omega) (by omega) (by omega)) ?_
  refine Eq.trans (m41_d (d := 1) h s0 s1 (by omega) (by omega) (by omega) (by omega)) ?_
  refine Eq.trans (m41_d (d := 2) h s0 s1 (by omega) (by omega) (by omega) (by omega)) ?_
  refine Eq.trans (m41_d (d := 3) h s0 s1 (by omega) (by omega) (by omega) (by omega)) ?_
  rw [r41_4]
  simp (disch := omega) only [r41_5, r41_6, r41_41, r41_42, sw_ldi, sw_ldl, sw_lda, sw_has1, sw_i1, sw_i2, sw_l1, sw_l2, sw_li, sw_r1, sw_ri, sw_rix, sw_rv, sw_pop, sw_set1, sw_set2, List.set_cons_zero, List.set_cons_succ, List.getElem?_cons_zero, List.getElem?_cons_succ, ald_1, ald_2, ast_1, ast_2, aln_1, aln_2, gf_1, gf_2, pf_1, pf_2, nw_1, ck_0, ck_1, ck_2, ck_3, ck_4, rr_1, rc_1, rc_2, K_i, K_l, K_v, I_add, I_sub, I_mul, I_div, I_em, I_eq0, I_lt0, I_0lt, I_le0, I_0le, I_eq, I_lt, I_le, I_a1, I_r1, I_eq1, I32_at, I32_s, Int.toNat_natCast, List.set_cons_zero, reduceCtorEq, not_false_eq_true, not_true_eq_false, false_and, true_and, and_true, and_false, false_or, true_or, or_true, or_false, if_true, if_false, eq_self, ↓reduceIte, Int.reduceEq, Int.reduceLT, Int.reduceLE, Int.reduceAdd, Int.reduceSub, Int.reduceMul, Int.reduceNeg, Int.reduceToNat, Nat.reduceLT, Nat.reduceAdd, Nat.reduceEqDiff, List.length_cons, List.length_nil, Int.le_refl]
  unfold cfb
  rw [Int.zero_add]
theorem m42_a {k : Int} (h : B01 (A 12)) (h9 : B01 (A 9)) (k0 : 1 ≤ k) (k1 : k ≤ 4) : ∀ (n i : Nat), i + n = 36 → sw_A 42 2 [some (.ref 8), some (.int (Int32.ofInt k)), some (.int (Int32.ofInt i))] [] (sw_h L (sw_s A 13 (mix i (jo k (A 9) (A 12)) (A 13))) F T X) Q = sw_A 42 52 [some (.ref 8), some (.int (Int32.ofInt k)), some (.int (Int32.ofInt 36))] [] (sw_h L (sw_s A 13 (mix 36 (jo k (A 9) (A 12)) (A 13))) F T X) Q
  | 0, i, hn => by
    have e : i = 36 := hn
    subst e
    rw [r42_2]
    simp (disch := omega) only [r42_3, r42_5, sw_ldi, sw_ldl, sw_lda, sw_has1, sw_i1, sw_i2, sw_l1, sw_l2, sw_li, sw_r1, sw_ri, sw_rix, sw_rv, sw_pop, sw_set1, sw_set2, List.set_cons_zero, List.set_cons_succ, List.getElem?_cons_zero, List.getElem?_cons_succ, ald_1, ald_2, ast_1, ast_2, aln_1, aln_2, gf_1, gf_2, pf_1, pf_2, nw_1, ck_0, ck_1, ck_2, ck_3, ck_4, rr_1, rc_1, rc_2, K_i, K_l, K_v, I_add, I_sub, I_mul, I_div, I_em, I_eq0, I_lt0, I_0lt, I_le0, I_0le, I_eq, I_lt, I_le, I_a1, I_r1, I_eq1, I32_at, I32_s, Int.toNat_natCast, List.set_cons_zero, reduceCtorEq, not_false_eq_true, not_true_eq_false, false_and, true_and, and_true, and_false, false_or, true_or, or_true, or_false, if_true, if_false, eq_self, ↓reduceIte, Int.reduceEq, Int.reduceLT, Int.reduceLE, Int.reduceAdd, Int.reduceSub, Int.reduceMul, Int.reduceNeg, Int.reduceToNat, Nat.reduceLT, Nat.reduceAdd, Nat.reduceEqDiff, List.length_cons, List.length_nil, Int.le_refl]
    rfl
  | n + 1, i, hn => by
    have hi2 : i < 36 := by omega
    have ih := m42_a h h9 k0 k1 n (i + 1) (by omega)
    have b1 := h i hi2
    have b2 := h9 i hi2
    have b3 := cfb_b h (s := i) (by omega) (by omega)
    have m1 := fun (Q : sw_Ot → sw_HS → Prop) => m41 (L := L) (A := sw_s A 13 (mix i (jo k (A 9) (A 12)) (A 13))) (F := F) (T := T) (X := X) (Q := Q) (s := i) h (by omega) (by omega)
    have a12 : sw_s A 13 (mix i (jo k (A 9) (A 12)) (A 13)) 12 = A 12 := rfl
    rw [a12] at m1
    have u : ∀ v, jo k (A 9) (A 12) i = v → sw_s (mix i (jo k (A 9) (A 12)) (A 13)) i v = mix (i + 1) (jo k (A 9) (A 12)) (A 13) := fun v hv => mix_up hv
    have j1 : (A 12 i = 0 ∧ A 9 i = 0 ∧ k ≤ cfb (A 12) i) → jo k (A 9) (A 12) i = 1 := fun q => if_pos q
    have j0 : ¬ (A 12 i = 0 ∧ A 9 i = 0 ∧ k ≤ cfb (A 12) i) → jo k (A 9) (A 12) i = 0 := fun q => if_neg q
    rw [r42_2]
    simp (disch := omega) only [r42_3, r42_5, r42_8, r42_9, r42_12, r42_13, r42_14, r42_17, r42_18, r42_19, sw_ldi, sw_ldl, sw_lda, sw_has1, sw_i1, sw_i2, sw_l1, sw_l2, sw_li, sw_r1, sw_ri, sw_rix, sw_rv, sw_pop, sw_set1, sw_set2, List.set_cons_zero, List.set_cons_succ, List.getElem?_cons_zero, List.getElem?_cons_succ, ald_1, ald_2, ast_1, ast_2, aln_1, aln_2, gf_1, gf_2, pf_1, pf_2, nw_1, ck_0, ck_1, ck_2, ck_3, ck_4, rr_1, rc_1, rc_2, K_i, K_l, K_v, I_add, I_sub, I_mul, I_div, I_em, I_eq0, I_lt0, I_0lt, I_le0, I_0le, I_eq, I_lt, I_le, I_a1, I_r1, I_eq1, I32_at, I32_s, Int.toNat_natCast, List.set_cons_zero, reduceCtorEq, not_false_eq_true, not_true_eq_false, false_and, true_and, and_true, and_false, false_or, true_or, or_true, or_false, if_true, if_false, eq_self, ↓reduceIte, Int.reduceEq, Int.reduceLT, Int.reduceLE, Int.reduceAdd, Int.reduceSub, Int.reduceMul, Int.reduceNeg, Int.reduceToNat, Nat.reduceLT, Nat.reduceAdd, Nat.reduceEqDiff, List.length_cons, List.length_nil, sA_at, ss, sA_cm, h_8, h_12]
    rw [if_neg (by omega)]
    by_cases c1 : A 12 i = 0
    · rw [if_neg (by omega)]
      simp (disch := omega) only [r42_22, r42_23, r42_26, r42_27, r42_28, sw_ldi, sw_ldl, sw_lda, sw_has1, sw_i1, sw_i2, sw_l1, sw_l2, sw_li, sw_r1, sw_ri, sw_rix, sw_rv, sw_pop, sw_set1, sw_set2, List.set_cons_zero, List.set_cons_succ, List.getElem?_cons_zero, List.getElem?_cons_succ, ald_1, ald_2, ast_1, ast_2, aln_1, aln_2, gf_1, gf_2, pf_1, pf_2, nw_1, ck_0, ck_1, ck_2, ck_3, ck_4, rr_1, rc_1, rc_2, K_i, K_l, K_v, I_add, I_sub, I_mul, I_div, I_em, I_eq0, I_lt0, I_0lt, I_le0, I_0le, I_eq, I_lt, I_le, I_a1, I_r1, I_eq1, I32_at, I32_s, Int.toNat_natCast, List.set_cons_zero, reduceCtorEq, not_false_eq_true, not_true_eq_false, false_and, true_and, and_true, and_false, false_or, true_or, or_true, or_false, if_true, if_false, eq_self, ↓reduceIte, Int.reduceEq, Int.reduceLT, Int.reduceLE, Int.reduceAdd, Int.reduceSub, Int.reduceMul, Int.reduceNeg, Int.reduceToNat, Nat.reduceLT, Nat.reduceAdd, Nat.reduceEqDiff, List.length_cons, List.length_nil, sA_at, ss, sA_cm, h_8, h_9]
      by_cases c2 : A 9 i = 0
      · rw [if_neg (by omega)]
        simp (disch := omega) only [r42_31, r42_32, r42_33, sw_ldi, sw_ldl, sw_lda, sw_has1, sw_i1, sw_i2, sw_l1, sw_l2, sw_li, sw_r1, sw_ri, sw_rix, sw_rv, sw_pop, sw_set1, sw_set2, List.set_cons_zero, List.set_cons_succ, List.getElem?_cons_zero, List.getElem?_cons_succ, ald_1, ald_2, ast_1, ast_2, aln_1, aln_2, gf_1, gf_2, pf_1, pf_2, nw_1, ck_0, ck_1, ck_2, ck_3, ck_4, rr_1, rc_1, rc_2, K_i, K_l, K_v, I_add, I_sub, I_mul, I_div, I_em, I_eq0, I_lt0, I_0lt, I_le0, I_0le, I_eq, I_lt, I_le, I_a1, I_r1, I_eq1, I32_at, I32_s, Int.toNat_natCast, List.set_cons_zero, reduceCtorEq, not_false_eq_true, not_true_eq_false, false_and, true_and, and_true, and_false, false_or, true_or, or_true, or_false, if_true, if_false, eq_self, ↓reduceIte, Int.reduceEq, Int.reduceLT, Int.reduceLE, Int.reduceAdd, Int.reduceSub, Int.reduceMul, Int.reduceNeg, Int.reduceToNat, Nat.reduceLT, Nat.reduceAdd, Nat.reduceEqDiff, List.length_cons, List.length_nil, sA_at, ss, sA_cm, h_8]
        rw [m1]
        simp (disch := omega) only [r42_36, r42_37, sw_ldi, sw_ldl, sw_lda, sw_has1, sw_i1, sw_i2, sw_l1, sw_l2, sw_li, sw_r1, sw_ri, sw_rix, sw_rv, sw_pop, sw_set1, sw_set2, List.set_cons_zero, List.set_cons_succ, List.getElem?_cons_zero, List.getElem?_cons_succ, ald_1, ald_2, ast_1, ast_2, aln_1, aln_2, gf_1, gf_2, pf_1, pf_2, nw_1, ck_0, ck_1, ck_2, ck_3, ck_4, rr_1, rc_1, rc_2, K_i, K_l, K_v, I_add, I_sub, I_mul, I_div, I_em, I_eq0, I_lt0, I_0lt, I_le0, I_0le, I_eq, I_lt, I_le, I_a1, I_r1, I_eq1, I32_at, I32_s, Int.toNat_natCast, List.set_cons_zero, reduceCtorEq, not_false_eq_true, not_true_eq_false, false_and, true_and, and_true, and_false, false_or, true_or, or_true, or_false, if_true, if_false, eq_self, ↓reduceIte, Int.reduceEq, Int.reduceLT, Int.reduceLE, Int.reduceAdd, Int.reduceSub, Int.reduceMul, Int.reduceNeg, Int.reduceToNat, Nat.reduceLT, Nat.reduceAdd, Nat.reduceEqDiff, List.length_cons, List.length_nil]
        by_cases c3 : k ≤ cfb (A 12) i
        · rw [if_neg (by omega)]
          simp (disch := omega) only [r42_40, r42_41, r42_44, r42_45, r42_46, r42_49, sw_ldi, sw_ldl, sw_lda, sw_has1, sw_i1, sw_i2, sw_l1, sw_l2, sw_li, sw_r1, sw_ri, sw_rix, sw_rv, sw_pop, sw_set1, sw_set2, List.set_cons_zero, List.set_cons_succ, List.getElem?_cons_zero, List.getElem?_cons_succ, ald_1, ald_2, ast_1, ast_2, aln_1, aln_2, gf_1, gf_2, pf_1, pf_2, nw_1, ck_0, ck_1, ck_2, ck_3, ck_4, rr_1, rc_1, rc_2, K_i, K_l, K_v, I_add, I_sub, I_mul, I_div, I_em, I_eq0, I_lt0, I_0lt, I_le0, I_0le, I_eq, I_lt, I_le, I_a1, I_r1, I_eq1, I32_at, I32_s, Int.toNat_natCast, List.set_cons_zero, reduceCtorEq, not_false_eq_true, not_true_eq_false, false_and, true_and, and_true, and_false, false_or, true_or, or_true, or_false, if_true, if_false, eq_self, ↓reduceIte, Int.reduceEq, Int.reduceLT, Int.reduceLE, Int.reduceAdd, Int.reduceSub, Int.reduceMul, Int.reduceNeg, Int.reduceToNat, Nat.reduceLT, Nat.reduceAdd, Nat.reduceEqDiff, List.length_cons, List.length_nil, sA_at, ss, sA_cm, h_13, w_13]
          rw [u 1 (j1 ⟨c1, c2, c3⟩)]
          exact ih
        · rw [if_pos (by omega)]
          simp (disch := omega) only [r42_44, r42_45, r42_46, r42_49, sw_ldi, sw_ldl, sw_lda, sw_has1, sw_i1, sw_i2, sw_l1, sw_l2, sw_li, sw_r1, sw_ri, sw_rix, sw_rv, sw_pop, sw_set1, sw_set2, List.set_cons_zero, List.set_cons_succ, List.getElem?_cons_zero, List.getElem?_cons_succ, ald_1, ald_2, ast_1, ast_2, aln_1, aln_2, gf_1, gf_2, pf_1, pf_2, nw_1, ck_0, ck_1, ck_2, ck_3, ck_4, rr_1, rc_1, rc_2, K_i, K_l, K_v, I_add, I_sub, I_mul, I_div, I_em, I_eq0, I_lt0, I_0lt, I_le0, I_0le, I_eq, I_lt, I_le, I_a1, I_r1, I_eq1, I32_at, I32_s, Int.toNat_natCast, List.set_cons_zero, reduceCtorEq, not_false_eq_true, not_true_eq_false, false_and, true_and, and_true, and_false, false_or, true_or, or_true, or_false, if_true, if_false, eq_self, ↓reduceIte, Int.reduceEq, Int.reduceLT, Int.reduceLE, Int.reduceAdd, Int.reduceSub, Int.reduceMul, Int.reduceNeg, Int.reduceToNat, Nat.reduceLT, Nat.reduceAdd, Nat.reduceEqDiff, List.length_cons, List.length_nil, sA_at, ss, sA_cm, h_13, w_13]
          rw [u 0 (j0 fun q => c3 q.2.2)]
          exact ih
      · rw [if_pos c2]
        simp (disch := omega) only [r42_44, r42_45, r42_46, r42_49, sw_ldi, sw_ldl, sw_lda, sw_has1, sw_i1, sw_i2, sw_l1, sw_l2, sw_li, sw_r1, sw_ri, sw_rix, sw_rv, sw_pop, sw_set1, sw_set2, List.set_cons_zero, List.set_cons_succ, List.getElem?_cons_zero, List.getElem?_cons_succ, ald_1, ald_2, ast_1, ast_2, aln_1, aln_2, gf_1, gf_2, pf_1, pf_2, nw_1, ck_0, ck_1, ck_2, ck_3, ck_4, rr_1, rc_1, rc_2, K_i, K_l, K_v, I_add, I_sub, I_mul, I_div, I_em, I_eq0, I_lt0, I_0lt, I_le0, I_0le, I_eq, I_lt, I_le, I_a1, I_r1, I_eq1, I32_at, I32_s, Int.toNat_natCast, List.set_cons_zero, reduceCtorEq, not_false_eq_true, not_true_eq_false, false_and, true_and, and_true, and_false, false_or, true_or, or_true, or_false, if_true, if_false, eq_self, ↓reduceIte, Int.reduceEq, Int.reduceLT, Int.reduceLE, Int.reduceAdd, Int.reduceSub, Int.reduceMul, Int.reduceNeg, Int.reduceToNat, Nat.reduceLT, Nat.reduceAdd, Nat.reduceEqDiff, List.length_cons, List.length_nil, sA_at, ss, sA_cm, h_13, w_13]
        rw [u 0 (j0 fun q => c2 q.2.1)]
        exact ih
    · rw [if_pos c1]
      simp (disch := omega) only [r42_44, r42_45, r42_46, r42_49, sw_ldi, sw_ldl, sw_lda, sw_has1, sw_i1, sw_i2, sw_l1, sw_l2, sw_li, sw_r1, sw_ri, sw_rix, sw_rv, sw_pop, sw_set1, sw_set2, List.set_cons_zero, List.set_cons_succ, List.getElem?_cons_zero, List.getElem?_cons_succ, ald_1, ald_2, ast_1, ast_2, aln_1, aln_2, gf_1, gf_2, pf_1, pf_2, nw_1, ck_0, ck_1, ck_2, ck_3, ck_4, rr_1, rc_1, rc_2, K_i, K_l, K_v, I_add, I_sub, I_mul, I_div, I_em, I_eq0, I_lt0, I_0lt, I_le0, I_0le, I_eq, I_lt, I_le, I_a1, I_r1, I_eq1, I32_at, I32_s, Int.toNat_natCast, List.set_cons_zero, reduceCtorEq, not_false_eq_true, not_true_eq_false, false_and, true_and, and_true, and_false, false_or, true_or, or_true, or_false, if_true, if_false, eq_self, ↓reduceIte, Int.reduceEq, Int.reduceLT, Int.reduceLE, Int.reduceAdd, Int.reduceSub, Int.reduceMul, Int.reduceNeg, Int.reduceToNat, Nat.reduceLT, Nat.reduceAdd, Nat.reduceEqDiff, List.length_cons, List.length_nil, sA_at, ss, sA_cm, h_13, w_13]
      rw [u 0 (j0 fun q => c1 q.1)]
      exact ih
theorem m42_b {k : Int} {j : Nat → Int} (h : B01 (A 12)) (hj : B01 j) (hA : A 13 = j) : ∀ (n i : Nat), i + n = 36 → sw_A 42 54 [some (.ref 8), some (.int (Int32.ofInt k)), some (.int (Int32.ofInt i))] [] (sw_h L (sw_s A 12 (mix i (fun s => if A 12 s = 0 then j s else A 12 s) (A 12))) F T X) Q = sw_A 42 95 [some (.ref 8), some (.int (Int32.ofInt k)), some (.int (Int32.ofInt 36))] [] (sw_h L (sw_s A 12 (mix 36 (fun s => if A 12 s = 0 then j s else A 12 s) (A 12))) F T X) Q
  | 0, i, hn => by
    have e : i = 36 := hn
    subst e
    rw [r42_54]
    simp (disch := omega) only [r42_55, r42_57, sw_ldi, sw_ldl, sw_lda, sw_has1, sw_i1, sw_i2, sw_l1, sw_l2, sw_li, sw_r1, sw_ri, sw_rix, sw_rv, sw_pop, sw_set1, sw_set2, List.set_cons_zero, List.set_cons_succ, List.getElem?_cons_zero, List.getElem?_cons_succ, ald_1, ald_2, ast_1, ast_2, aln_1, aln_2, gf_1, gf_2, pf_1, pf_2, nw_1, ck_0, ck_1, ck_2, ck_3, ck_4, rr_1, rc_1, rc_2, K_i, K_l, K_v, I_add, I_sub, I_mul, I_div, I_em, I_eq0, I_lt0, I_0lt, I_le0, I_0le, I_eq, I_lt, I_le, I_a1, I_r1, I_eq1, I32_at, I32_s, Int.toNat_natCast, List.set_cons_zero, reduceCtorEq, not_false_eq_true, not_true_eq_false, false_and, true_and, and_true, and_false, false_or, true_or, or_true, or_false, if_true, if_false, eq_self, ↓reduceIte, Int.reduceEq, Int.reduceLT, Int.reduceLE, Int.reduceAdd, Int.reduceSub, Int.reduceMul, Int.reduceNeg, Int.reduceToNat, Nat.reduceLT, Nat.reduceAdd, Nat.reduceEqDiff, List.length_cons, List.length_nil, Int.le_refl]
    rfl
  | n + 1, i, hn => by
    have hi2 : i < 36 := by omega
    have ih := m42_b (k := k) h hj hA n (i + 1) (by omega)
    have b1 := h i hi2
    have b2 := hj i hi2
    have at1 : mix i (fun s => if A 12 s = 0 then j s else A 12 s) (A 12) i = A 12 i := if_neg (Nat.lt_irrefl _)
    have u : ∀ v, (if A 12 i = 0 then j i else A 12 i) = v → sw_s (mix i (fun s => if A 12 s = 0 then j s else A 12 s) (A 12)) i v = mix (i + 1) (fun s => if A 12 s = 0 then j s else A 12 s) (A 12) := fun v hv => mix_up (f := fun s => if A 12 s = 0 then j s else A 12 s) hv
    rw [r42_54]
    simp (disch := omega) only [r42_55, r42_57, r42_60, r42_61, r42_64, r42_65, r42_66, r42_69, r42_70, r42_71, sw_ldi, sw_ldl, sw_lda, sw_has1, sw_i1, sw_i2, sw_l1, sw_l2, sw_li, sw_r1, sw_ri, sw_rix, sw_rv, sw_pop, sw_set1, sw_set2, List.set_cons_zero, List.set_cons_succ, List.getElem?_cons_zero, List.getElem?_cons_succ, ald_1, ald_2, ast_1, ast_2, aln_1, aln_2, gf_1, gf_2, pf_1, pf_2, nw_1, ck_0, ck_1, ck_2, ck_3, ck_4, rr_1, rc_1, rc_2, K_i, K_l, K_v, I_add, I_sub, I_mul, I_div, I_em, I_eq0, I_lt0, I_0lt, I_le0, I_0le, I_eq, I_lt, I_le, I_a1, I_r1, I_eq1, I32_at, I32_s, Int.toNat_natCast, List.set_cons_zero, reduceCtorEq, not_false_eq_true, not_true_eq_false, false_and, true_and, and_true, and_false, false_or, true_or, or_true, or_false, if_true, if_false, eq_self, ↓reduceIte, Int.reduceEq, Int.reduceLT, Int.reduceLE, Int.reduceAdd, Int.reduceSub, Int.reduceMul, Int.reduceNeg, Int.reduceToNat, Nat.reduceLT, Nat.reduceAdd, Nat.reduceEqDiff, List.length_cons, List.length_nil, sA_at, ss, sA_cm, h_8, h_12, at1]
    rw [if_neg (by omega)]
    rcases b1 with c1 | c1
    · rw [if_neg (by omega)]
      simp (disch := omega) only [r42_74, r42_75, r42_78, r42_79, r42_80, sw_ldi, sw_ldl, sw_lda, sw_has1, sw_i1, sw_i2, sw_l1, sw_l2, sw_li, sw_r1, sw_ri, sw_rix, sw_rv, sw_pop, sw_set1, sw_set2, List.set_cons_zero, List.set_cons_succ, List.getElem?_cons_zero, List.getElem?_cons_succ, ald_1, ald_2, ast_1, ast_2, aln_1, aln_2, gf_1, gf_2, pf_1, pf_2, nw_1, ck_0, ck_1, ck_2, ck_3, ck_4, rr_1, rc_1, rc_2, K_i, K_l, K_v, I_add, I_sub, I_mul, I_div, I_em, I_eq0, I_lt0, I_0lt, I_le0, I_0le, I_eq, I_lt, I_le, I_a1, I_r1, I_eq1, I32_at, I32_s, Int.toNat_natCast, List.set_cons_zero, reduceCtorEq, not_false_eq_true, not_true_eq_false, false_and, true_and, and_true, and_false, false_or, true_or, or_true, or_false, if_true, if_false, eq_self, ↓reduceIte, Int.reduceEq, Int.reduceLT, Int.reduceLE, Int.reduceAdd, Int.reduceSub, Int.reduceMul, Int.reduceNeg, Int.reduceToNat, Nat.reduceLT, Nat.reduceAdd, Nat.reduceEqDiff, List.length_cons, List.length_nil, sA_at, ss, sA_cm, h_8, h_13, hA]
      rcases b2 with c2 | c2
      · rw [if_pos c2]
        simp (disch := omega) only [r42_87, r42_88, r42_89, r42_92, sw_ldi, sw_ldl, sw_lda, sw_has1, sw_i1, sw_i2, sw_l1, sw_l2, sw_li, sw_r1, sw_ri, sw_rix, sw_rv, sw_pop, sw_set1, sw_set2, List.set_cons_zero, List.set_cons_succ, List.getElem?_cons_zero, List.getElem?_cons_succ, ald_1, ald_2, ast_1, ast_2, aln_1, aln_2, gf_1, gf_2, pf_1, pf_2, nw_1, ck_0, ck_1, ck_2, ck_3, ck_4, rr_1, rc_1, rc_2, K_i, K_l, K_v, I_add, I_sub, I_mul, I_div, I_em, I_eq0, I_lt0, I_0lt, I_le0, I_0le, I_eq, I_lt, I_le, I_a1, I_r1, I_eq1, I32_at, I32_s, Int.toNat_natCast, List.set_cons_zero, reduceCtorEq, not_false_eq_true, not_true_eq_false, false_and, true_and, and_true, and_false, false_or, true_or, or_true, or_false, if_true, if_false, eq_self, ↓reduceIte, Int.reduceEq, Int.reduceLT, Int.reduceLE, Int.reduceAdd, Int.reduceSub, Int.reduceMul, Int.reduceNeg, Int.reduceToNat, Nat.reduceLT, Nat.reduceAdd, Nat.reduceEqDiff, List.length_cons, List.length_nil, sA_at, ss, sA_cm, h_12, w_12]
        rw [u 0 (by rw [if_pos c1, c2])]
        exact ih
      · rw [if_neg (by omega)]
        simp (disch := omega) only [r42_83, r42_84, r42_87, r42_88, r42_89, r42_92, sw_ldi, sw_ldl, sw_lda, sw_has1, sw_i1, sw_i2, sw_l1, sw_l2, sw_li, sw_r1, sw_ri, sw_rix, sw_rv, sw_pop, sw_set1, sw_set2, List.set_cons_zero, List.set_cons_succ, List.getElem?_cons_zero, List.getElem?_cons_succ, ald_1, ald_2, ast_1, ast_2, aln_1, aln_2, gf_1, gf_2, pf_1, pf_2, nw_1, ck_0, ck_1, ck_2, ck_3, ck_4, rr_1, rc_1, rc_2, K_i, K_l, K_v, I_add, I_sub, I_mul, I_div, I_em, I_eq0, I_lt0, I_0lt, I_le0, I_0le, I_eq, I_lt, I_le, I_a1, I_r1, I_eq1, I32_at, I32_s, Int.toNat_natCast, List.set_cons_zero, reduceCtorEq, not_false_eq_true, not_true_eq_false, false_and, true_and, and_true, and_false, false_or, true_or, or_true, or_false, if_true, if_false, eq_self, ↓reduceIte, Int.reduceEq, Int.reduceLT, Int.reduceLE, Int.reduceAdd, Int.reduceSub, Int.reduceMul, Int.reduceNeg, Int.reduceToNat, Nat.reduceLT, Nat.reduceAdd, Nat.reduceEqDiff, List.length_cons, List.length_nil, sA_at, ss, sA_cm, h_12, w_12]
        rw [u 1 (by rw [if_pos c1, c2])]
        exact ih
    · rw [if_pos (by omega)]
      simp (disch := omega) only [r42_83, r42_84, r42_87, r42_88, r42_89, r42_92, sw_ldi, sw_ldl, sw_lda, sw_has1, sw_i1, sw_i2, sw_l1, sw_l2, sw_li, sw_r1, sw_ri, sw_rix, sw_rv, sw_pop, sw_set1, sw_set2, List.set_cons_zero, List.set_cons_succ, List.getElem?_cons_zero, List.getElem?_cons_succ, ald_1, ald_2, ast_1, ast_2, aln_1, aln_2, gf_1, gf_2, pf_1, pf_2, nw_1, ck_0, ck_1, ck_2, ck_3, ck_4, rr_1, rc_1, rc_2, K_i, K_l, K_v, I_add, I_sub, I_mul, I_div, I_em, I_eq0, I_lt0, I_0lt, I_le0, I_0le, I_eq, I_lt, I_le, I_a1, I_r1, I_eq1, I32_at, I32_s, Int.toNat_natCast, List.set_cons_zero, reduceCtorEq, not_false_eq_true, not_true_eq_false, false_and, true_and, and_true, and_false, false_or, true_or, or_true, or_false, if_true, if_false, eq_self, ↓reduceIte, Int.reduceEq, Int.reduceLT, Int.reduceLE, Int.reduceAdd, Int.reduceSub, Int.reduceMul, Int.reduceNeg, Int.reduceToNat, Nat.reduceLT, Nat.reduceAdd, Nat.reduceEqDiff, List.length_cons, List.length_nil, sA_at, ss, sA_cm, h_12, w_12]
      rw [u 1 (by rw [if_neg (by omega), c1])]
      exact ih
end sw_fi
