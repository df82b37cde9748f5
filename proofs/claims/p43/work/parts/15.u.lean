/-! invasion -/
/-- the bond over which the next one comes -/
def nxb (w sh th : Nat → Int) : Nat → Int
  | 0 => -1
  | n + 1 => if ¬ th (lo n) = th (hi n) ∧ sh (lo n) = 0 ∧ sh (hi n) = 0 ∧ (nxb w sh th n = -1 ∨ w n < w (nxb w sh th n).toNat) then (n : Int) else nxb w sh th n
theorem nxb_v {w sh th : Nat → Int} : ∀ n, nxb w sh th n = -1 ∨ ∃ b : Nat, nxb w sh th n = (b : Int) ∧ b < n ∧ ¬ th (lo b) = th (hi b)
  | 0 => Or.inl rfl
  | n + 1 => by
    unfold nxb
    split
    · next q => exact Or.inr ⟨n, rfl, by omega, q.1⟩
    · next q =>
      rcases nxb_v (w := w) (sh := sh) (th := th) n with e | ⟨b, e, h1, h2⟩
      · exact Or.inl e
      · exact Or.inr ⟨b, e, by omega, h2⟩
theorem nxb_c {w sh th w2 sh2 th2 : Nat → Int} (hw : ∀ b, b < 60 → w b = w2 b) (hs : ∀ t, t < 36 → sh t = sh2 t) (ht : ∀ t, t < 36 → th t = th2 t) : ∀ n, n ≤ 60 → nxb w sh th n = nxb w2 sh2 th2 n
  | 0, _ => rfl
  | n + 1, hn => by
    have ih := nxb_c hw hs ht n (by omega)
    have l1 := (lo_lt (show n < 60 by omega)).1
    have l2 := (hi_lt (show n < 60 by omega)).1
    have e : nxb w sh th n = -1 ∨ (nxb w sh th n).toNat < 60 := by
      rcases nxb_v (w := w) (sh := sh) (th := th) n with e | ⟨b, e, h1, -⟩
      · exact Or.inl e
      · exact Or.inr (by omega)
    unfold nxb
    rw [ht _ l1, ht _ l2, hs _ l1, hs _ l2, hw n (by omega)]
    rcases e with e | e
    · rw [← ih, e]
      congr 1
      · simp only [true_or, and_true]
    · rw [← ih, hw _ e]
abbrev sw_I3 : Type := (Nat → Int) × Int × Int
def ivt (th : Nat → Int) (b : Nat) : Nat := if th (lo b) = 0 then lo b else hi b
def ivs (w sh : Nat → Int) (σ : sw_I3) : sw_I3 := if nxb w sh σ.1 60 = -1 then σ else (sw_s σ.1 (ivt σ.1 (nxb w sh σ.1 60).toNat) 1, (ivt σ.1 (nxb w sh σ.1 60).toNat : Int), if σ.2.2 < w (nxb w sh σ.1 60).toNat then w (nxb w sh σ.1 60).toNat else σ.2.2)
def iv (w sh : Nat → Int) (fr : Nat) : Nat → sw_I3
  | 0 => (sw_s (fun _ => 0) fr 1, (fr : Int), -1)
  | n + 1 => ivs w sh (iv w sh fr n)
def ivo (w sh : Nat → Int) (fr n : Nat) : Prop := ∀ i, i < n → ¬ nxb w sh (iv w sh fr i).1 60 = -1
theorem iv_f {w sh : Nat → Int} {fr : Nat} (hf : fr < 36) (hw : ∀ b, b < 60 → 0 ≤ w b ∧ w b < 1000) : ∀ n, (∀ t, t < 36 → (iv w sh fr n).1 t = 0 ∨ (iv w sh fr n).1 t = 1) ∧ 0 ≤ (iv w sh fr n).2.1 ∧ (iv w sh fr n).2.1 < 36 ∧ -1 ≤ (iv w sh fr n).2.2 ∧ (iv w sh fr n).2.2 < 1000 ∧ (ivo w sh fr n → sm (iv w sh fr n).1 36 = n + 1)
  | 0 => by
    refine ⟨fun t ht => ?_, by show (0 : Int) ≤ (fr : Int); omega, by show (fr : Int) < 36; omega, by show (-1 : Int) ≤ -1; omega, by show (-1 : Int) < 1000; omega, fun _ => ?_⟩
    · show sw_s (fun _ => (0 : Int)) fr 1 t = 0 ∨ sw_s (fun _ => (0 : Int)) fr 1 t = 1
      unfold sw_s
      split
      · exact Or.inr rfl
      · exact Or.inl rfl
    · show sm (sw_s (fun _ => (0 : Int)) fr 1) 36 = _
      rw [sm_s, if_pos hf, sm_z 36 fun i _ => rfl]
      rfl
  | n + 1 => by
    obtain ⟨i1, i2, i3, i4, i5, i6⟩ := iv_f (sh := sh) hf hw n
    show (∀ t, t < 36 → (ivs w sh (iv w sh fr n)).1 t = 0 ∨ (ivs w sh (iv w sh fr n)).1 t = 1) ∧ 0 ≤ (ivs w sh (iv w sh fr n)).2.1 ∧ (ivs w sh (iv w sh fr n)).2.1 < 36 ∧ -1 ≤ (ivs w sh (iv w sh fr n)).2.2 ∧ (ivs w sh (iv w sh fr n)).2.2 < 1000 ∧ (ivo w sh fr (n + 1) → sm (ivs w sh (iv w sh fr n)).1 36 = ((n + 1 : Nat) : Int) + 1)
    have o1 : ivo w sh fr (n + 1) → ivo w sh fr n ∧ ¬ nxb w sh (iv w sh fr n).1 60 = -1 := fun q => ⟨fun i hi2 => q i (by omega), q n (by omega)⟩
    generalize iv w sh fr n = σ at *
    unfold ivs
    rcases nxb_v (w := w) (sh := sh) (th := σ.1) 60 with e | ⟨b, e, h1, h2⟩
    · rw [if_pos e]
      exact ⟨i1, i2, i3, i4, i5, fun q => absurd e (o1 q).2⟩
    · rw [if_neg (by omega), e, Int.toNat_natCast]
      have l1 := (lo_lt h1).1
      have l2 := (hi_lt h1).1
      have w9 := hw b h1
      have t36 : ivt σ.1 b < 36 := by unfold ivt; split <;> omega
      have t0 : σ.1 (ivt σ.1 b) = 0 := by
        unfold ivt
        split
        · next z => exact z
        · next z =>
          rcases i1 _ l1 with y | y
          · exact absurd y z
          · rcases i1 _ l2 with x | x
            · exact x
            · exact absurd (y.trans x.symm) h2
      refine ⟨fun t ht => ?_, by show (0 : Int) ≤ (ivt σ.1 b : Int); omega, by show (ivt σ.1 b : Int) < 36; omega, ?_, ?_, fun q => ?_⟩
      · show sw_s σ.1 _ 1 t = 0 ∨ sw_s σ.1 _ 1 t = 1
        unfold sw_s
        split
        · exact Or.inr rfl
        · exact i1 t ht
      · show -1 ≤ if σ.2.2 < w b then w b else σ.2.2
        split <;> omega
      · show (if σ.2.2 < w b then w b else σ.2.2) < 1000
        split <;> omega
      · show sm (sw_s σ.1 _ 1) 36 = _
        rw [sm_s, if_pos t36, t0, i6 (o1 q).1]
        omega
section sw_iv
variable {L : Nat} {A : Nat → Nat → Int} {F : Nat → Int} {T : Nat → sw_Ce} {X : Nat × Nat × Nat} {Q : sw_Ot → sw_HS → Prop}
theorem m138_l (hA : Nm A) (hth : ∀ t, t < 36 → A 41 t = 0 ∨ A 41 t = 1) : ∀ (n i : Nat) (x y z : Option Value), i + n = 60 → sw_A 138 5 [some (.ref 40), some (.ref 2), some (.ref 9), some (.int (Int32.ofInt (nxb (A 3) (A 9) (A 41) i))), some (.int (Int32.ofInt i)), x, y, z] [] (sw_h L A F T X) Q = Q (some (some (.int (Int32.ofInt (nxb (A 3) (A 9) (A 41) 60))))) (sw_h L A F T X)
  | 0, i, x, y, z, hn => by
    have e : i = 60 := hn
    subst e
    rw [r138_5]
    simp (disch := omega) only [r138_7, r138_9, r138_99, r138_100, sw_ldi, sw_ldl, sw_lda, sw_has1, sw_i1, sw_i2, sw_l1, sw_l2, sw_li, sw_r1, sw_ri, sw_rix, sw_rv, sw_pop, sw_set1, sw_set2, List.set_cons_zero, List.set_cons_succ, List.getElem?_cons_zero, List.getElem?_cons_succ, ald_1, ald_2, ast_1, ast_2, aln_1, aln_2, gf_1, gf_2, pf_1, pf_2, nw_1, ck_0, ck_1, ck_2, ck_3, ck_4, rr_1, rc_1, rc_2, K_i, K_l, K_v, I_add, I_sub, I_mul, I_div, I_em, I_eq0, I_lt0, I_0lt, I_le0, I_0le, I_eq, I_lt, I_le, I_a1, I_r1, I_eq1, I32_at, I32_s, Int.toNat_natCast, List.set_cons_zero, reduceCtorEq, not_false_eq_true, not_true_eq_false, false_and, true_and, and_true, and_false, false_or, true_or, or_true, or_false, if_true, if_false, eq_self, ↓reduceIte, Int.reduceEq, Int.reduceLT, Int.reduceLE, Int.reduceAdd, Int.reduceSub, Int.reduceMul, Int.reduceNeg, Int.reduceToNat, Nat.reduceLT, Nat.reduceAdd, Nat.reduceEqDiff, List.length_cons, List.length_nil, Int.le_refl]
    rfl
  | n + 1, i, x, y, z, hn => by
    have i60 : i < 60 := by omega
    have l1 := lo_lt i60
    have l2 := hi_lt i60
    have s1 := hA.2.2 (lo i) l1.1
    have s2 := hA.2.2 (hi i) l2.1
    have t1 := hth (lo i) l1.1
    have t2 := hth (hi i) l2.1
    have w9 := hA.1 i i60
    have ih1 := m138_l hA hth n (i + 1) (some (.int (Int32.ofInt (lo i)))) (some (.int (Int32.ofInt (hi i)))) (some (.int (Int32.ofInt 1))) (by omega)
    have ih0 := m138_l hA hth n (i + 1) (some (.int (Int32.ofInt (lo i)))) (some (.int (Int32.ofInt (hi i)))) (some (.int (Int32.ofInt 0))) (by omega)
    have u1 : (¬ A 41 (lo i) = A 41 (hi i) ∧ A 9 (lo i) = 0 ∧ A 9 (hi i) = 0 ∧ (nxb (A 3) (A 9) (A 41) i = -1 ∨ A 3 i < A 3 (nxb (A 3) (A 9) (A 41) i).toNat)) → nxb (A 3) (A 9) (A 41) (i + 1) = (i : Int) := fun h => if_pos h
    have u0 : ¬ (¬ A 41 (lo i) = A 41 (hi i) ∧ A 9 (lo i) = 0 ∧ A 9 (hi i) = 0 ∧ (nxb (A 3) (A 9) (A 41) i = -1 ∨ A 3 i < A 3 (nxb (A 3) (A 9) (A 41) i).toNat)) → nxb (A 3) (A 9) (A 41) (i + 1) = nxb (A 3) (A 9) (A 41) i := fun h => if_neg h
    have vb : True → (nxb (A 3) (A 9) (A 41) i = -1 ∨ ∃ b : Nat, nxb (A 3) (A 9) (A 41) i = (b : Int) ∧ b < 60) := fun _ => by
      rcases nxb_v (w := A 3) (sh := A 9) (th := A 41) i with e | ⟨b, e, h1, -⟩
      · exact Or.inl e
      · exact Or.inr ⟨b, e, by omega⟩
    generalize nxb (A 3) (A 9) (A 41) (i + 1) = v1 at *
    generalize nxb (A 3) (A 9) (A 41) i = v at *
    by_cases c : ¬ A 41 (lo i) = A 41 (hi i) ∧ A 9 (lo i) = 0 ∧ A 9 (hi i) = 0
    · rw [r138_5]
      simp (disch := omega) only [r138_7, r138_9, r138_12, r138_14, r138_17, r138_19, r138_21, r138_24, r138_26, r138_27, r138_30, r138_32, r138_33, r138_34, r138_37, r138_39, r138_40, r138_43, r138_44, r138_46, r138_47, r138_50, r138_51, r138_53, r138_54, r138_57, r138_58, r138_61, r138_62, r138_64, r138_66, sw_ldi, sw_ldl, sw_lda, sw_has1, sw_i1, sw_i2, sw_l1, sw_l2, sw_li, sw_r1, sw_ri, sw_rix, sw_rv, sw_pop, sw_set1, sw_set2, List.set_cons_zero, List.set_cons_succ, List.getElem?_cons_zero, List.getElem?_cons_succ, ald_1, ald_2, ast_1, ast_2, aln_1, aln_2, gf_1, gf_2, pf_1, pf_2, nw_1, ck_0, ck_1, ck_2, ck_3, ck_4, rr_1, rc_1, rc_2, K_i, K_l, K_v, I_add, I_sub, I_mul, I_div, I_em, I_eq0, I_lt0, I_0lt, I_le0, I_0le, I_eq, I_lt, I_le, I_a1, I_r1, I_eq1, I32_at, I32_s, Int.toNat_natCast, List.set_cons_zero, reduceCtorEq, not_false_eq_true, not_true_eq_false, false_and, true_and, and_true, and_false, false_or, true_or, or_true, or_false, if_true, if_false, eq_self, ↓reduceIte, Int.reduceEq, Int.reduceLT, Int.reduceLE, Int.reduceAdd, Int.reduceSub, Int.reduceMul, Int.reduceNeg, Int.reduceToNat, Nat.reduceLT, Nat.reduceAdd, Nat.reduceEqDiff, List.length_cons, List.length_nil, lo85, m86, l1.2, l2.2, h_40, h_41, h_9, c]
      rw [if_neg (by omega)]
      rcases vb trivial with rfl | ⟨b, rfl, hb9⟩
      · rw [u1 ⟨c.1, c.2.1, c.2.2, Or.inl rfl⟩] at ih1
        simp (disch := omega) only [r138_69, r138_70, r138_71, sw_ldi, sw_ldl, sw_lda, sw_has1, sw_i1, sw_i2, sw_l1, sw_l2, sw_li, sw_r1, sw_ri, sw_rix, sw_rv, sw_pop, sw_set1, sw_set2, List.set_cons_zero, List.set_cons_succ, List.getElem?_cons_zero, List.getElem?_cons_succ, ald_1, ald_2, ast_1, ast_2, aln_1, aln_2, gf_1, gf_2, pf_1, pf_2, nw_1, ck_0, ck_1, ck_2, ck_3, ck_4, rr_1, rc_1, rc_2, K_i, K_l, K_v, I_add, I_sub, I_mul, I_div, I_em, I_eq0, I_lt0, I_0lt, I_le0, I_0le, I_eq, I_lt, I_le, I_a1, I_r1, I_eq1, I32_at, I32_s, Int.toNat_natCast, List.set_cons_zero, reduceCtorEq, not_false_eq_true, not_true_eq_false, false_and, true_and, and_true, and_false, false_or, true_or, or_true, or_false, if_true, if_false, eq_self, ↓reduceIte, Int.reduceEq, Int.reduceLT, Int.reduceLE, Int.reduceAdd, Int.reduceSub, Int.reduceMul, Int.reduceNeg, Int.reduceToNat, Nat.reduceLT, Nat.reduceAdd, Nat.reduceEqDiff, List.length_cons, List.length_nil]
        simp (disch := omega) only [r138_90, r138_92, r138_93, r138_96, sw_ldi, sw_ldl, sw_lda, sw_has1, sw_i1, sw_i2, sw_l1, sw_l2, sw_li, sw_r1, sw_ri, sw_rix, sw_rv, sw_pop, sw_set1, sw_set2, List.set_cons_zero, List.set_cons_succ, List.getElem?_cons_zero, List.getElem?_cons_succ, ald_1, ald_2, ast_1, ast_2, aln_1, aln_2, gf_1, gf_2, pf_1, pf_2, nw_1, ck_0, ck_1, ck_2, ck_3, ck_4, rr_1, rc_1, rc_2, K_i, K_l, K_v, I_add, I_sub, I_mul, I_div, I_em, I_eq0, I_lt0, I_0lt, I_le0, I_0le, I_eq, I_lt, I_le, I_a1, I_r1, I_eq1, I32_at, I32_s, Int.toNat_natCast, List.set_cons_zero, reduceCtorEq, not_false_eq_true, not_true_eq_false, false_and, true_and, and_true, and_false, false_or, true_or, or_true, or_false, if_true, if_false, eq_self, ↓reduceIte, Int.reduceEq, Int.reduceLT, Int.reduceLE, Int.reduceAdd, Int.reduceSub, Int.reduceMul, Int.reduceNeg, Int.reduceToNat, Nat.reduceLT, Nat.reduceAdd, Nat.reduceEqDiff, List.length_cons, List.length_nil]
        exact ih1
      · have w8 := hA.1 b hb9
        simp (disch := omega) only [r138_69, r138_70, r138_71, sw_ldi, sw_ldl, sw_lda, sw_has1, sw_i1, sw_i2, sw_l1, sw_l2, sw_li, sw_r1, sw_ri, sw_rix, sw_rv, sw_pop, sw_set1, sw_set2, List.set_cons_zero, List.set_cons_succ, List.getElem?_cons_zero, List.getElem?_cons_succ, ald_1, ald_2, ast_1, ast_2, aln_1, aln_2, gf_1, gf_2, pf_1, pf_2, nw_1, ck_0, ck_1, ck_2, ck_3, ck_4, rr_1, rc_1, rc_2, K_i, K_l, K_v, I_add, I_sub, I_mul, I_div, I_em, I_eq0, I_lt0, I_0lt, I_le0, I_0le, I_eq, I_lt, I_le, I_a1, I_r1, I_eq1, I32_at, I32_s, Int.toNat_natCast, List.set_cons_zero, reduceCtorEq, not_false_eq_true, not_true_eq_false, false_and, true_and, and_true, and_false, false_or, true_or, or_true, or_false, if_true, if_false, eq_self, ↓reduceIte, Int.reduceEq, Int.reduceLT, Int.reduceLE, Int.reduceAdd, Int.reduceSub, Int.reduceMul, Int.reduceNeg, Int.reduceToNat, Nat.reduceLT, Nat.reduceAdd, Nat.reduceEqDiff, List.length_cons, List.length_nil]
        simp (disch := omega) only [r138_74, r138_75, r138_78, r138_80, r138_81, r138_82, r138_85, r138_86, sw_ldi, sw_ldl, sw_lda, sw_has1, sw_i1, sw_i2, sw_l1, sw_l2, sw_li, sw_r1, sw_ri, sw_rix, sw_rv, sw_pop, sw_set1, sw_set2, List.set_cons_zero, List.set_cons_succ, List.getElem?_cons_zero, List.getElem?_cons_succ, ald_1, ald_2, ast_1, ast_2, aln_1, aln_2, gf_1, gf_2, pf_1, pf_2, nw_1, ck_0, ck_1, ck_2, ck_3, ck_4, rr_1, rc_1, rc_2, K_i, K_l, K_v, I_add, I_sub, I_mul, I_div, I_em, I_eq0, I_lt0, I_0lt, I_le0, I_0le, I_eq, I_lt, I_le, I_a1, I_r1, I_eq1, I32_at, I32_s, Int.toNat_natCast, List.set_cons_zero, reduceCtorEq, not_false_eq_true, not_true_eq_false, false_and, true_and, and_true, and_false, false_or, true_or, or_true, or_false, if_true, if_false, eq_self, ↓reduceIte, Int.reduceEq, Int.reduceLT, Int.reduceLE, Int.reduceAdd, Int.reduceSub, Int.reduceMul, Int.reduceNeg, Int.reduceToNat, Nat.reduceLT, Nat.reduceAdd, Nat.reduceEqDiff, List.length_cons, List.length_nil, h_2, h_3]
        rw [Int.toNat_natCast] at u1 u0
        rw [r138_87]
        simp (disch := omega) only [sw_ldi, sw_ldl, sw_lda, sw_has1, sw_i1, sw_i2, sw_l1, sw_l2, sw_li, sw_r1, sw_ri, sw_rix, sw_rv, sw_pop, sw_set1, sw_set2, List.set_cons_zero, List.set_cons_succ, List.getElem?_cons_zero, List.getElem?_cons_succ, ald_1, ald_2, ast_1, ast_2, aln_1, aln_2, gf_1, gf_2, pf_1, pf_2, nw_1, ck_0, ck_1, ck_2, ck_3, ck_4, rr_1, rc_1, rc_2, K_i, K_l, K_v, I_add, I_sub, I_mul, I_div, I_em, I_eq0, I_lt0, I_0lt, I_le0, I_0le, I_eq, I_lt, I_le, I_a1, I_r1, I_eq1, I32_at, I32_s, Int.toNat_natCast, List.set_cons_zero, reduceCtorEq, not_false_eq_true, not_true_eq_false, false_and, true_and, and_true, and_false, false_or, true_or, or_true, or_false, if_true, if_false, eq_self, ↓reduceIte, Int.reduceEq, Int.reduceLT, Int.reduceLE, Int.reduceAdd, Int.reduceSub, Int.reduceMul, Int.reduceNeg, Int.reduceToNat, Nat.reduceLT, Nat.reduceAdd, Nat.reduceEqDiff, List.length_cons, List.length_nil]
        by_cases c2 : A 3 i < A 3 b
        · rw [u1 ⟨c.1, c.2.1, c.2.2, Or.inr c2⟩] at ih1
          rw [if_neg (Int.not_le.mpr c2)]
          simp (disch := omega) only [r138_90, r138_92, r138_93, r138_96, sw_ldi, sw_ldl, sw_lda, sw_has1, sw_i1, sw_i2, sw_l1, sw_l2, sw_li, sw_r1, sw_ri, sw_rix, sw_rv, sw_pop, sw_set1, sw_set2, List.set_cons_zero, List.set_cons_succ, List.getElem?_cons_zero, List.getElem?_cons_succ, ald_1, ald_2, ast_1, ast_2, aln_1, aln_2, gf_1, gf_2, pf_1, pf_2, nw_1, ck_0, ck_1, ck_2, ck_3, ck_4, rr_1, rc_1, rc_2, K_i, K_l, K_v, I_add, I_sub, I_mul, I_div, I_em, I_eq0, I_lt0, I_0lt, I_le0, I_0le, I_eq, I_lt, I_le, I_a1, I_r1, I_eq1, I32_at, I32_s, Int.toNat_natCast, List.set_cons_zero, reduceCtorEq, not_false_eq_true, not_true_eq_false, false_and, true_and, and_true, and_false, false_or, true_or, or_true, or_false, if_true, if_false, eq_self, ↓reduceIte, Int.reduceEq, Int.reduceLT, Int.reduceLE, Int.reduceAdd, Int.reduceSub, Int.reduceMul, Int.reduceNeg, Int.reduceToNat, Nat.reduceLT, Nat.reduceAdd, Nat.reduceEqDiff, List.length_cons, List.length_nil]
          exact ih1
        · rw [u0 (fun q => by
            rcases q.2.2.2 with z | z
            · omega
            · exact c2 z)] at ih1
          rw [if_pos (by omega)]
          simp (disch := omega) only [r138_93, r138_96, sw_ldi, sw_ldl, sw_lda, sw_has1, sw_i1, sw_i2, sw_l1, sw_l2, sw_li, sw_r1, sw_ri, sw_rix, sw_rv, sw_pop, sw_set1, sw_set2, List.set_cons_zero, List.set_cons_succ, List.getElem?_cons_zero, List.getElem?_cons_succ, ald_1, ald_2, ast_1, ast_2, aln_1, aln_2, gf_1, gf_2, pf_1, pf_2, nw_1, ck_0, ck_1, ck_2, ck_3, ck_4, rr_1, rc_1, rc_2, K_i, K_l, K_v, I_add, I_sub, I_mul, I_div, I_em, I_eq0, I_lt0, I_0lt, I_le0, I_0le, I_eq, I_lt, I_le, I_a1, I_r1, I_eq1, I32_at, I32_s, Int.toNat_natCast, List.set_cons_zero, reduceCtorEq, not_false_eq_true, not_true_eq_false, false_and, true_and, and_true, and_false, false_or, true_or, or_true, or_false, if_true, if_false, eq_self, ↓reduceIte, Int.reduceEq, Int.reduceLT, Int.reduceLE, Int.reduceAdd, Int.reduceSub, Int.reduceMul, Int.reduceNeg, Int.reduceToNat, Nat.reduceLT, Nat.reduceAdd, Nat.reduceEqDiff, List.length_cons, List.length_nil]
          exact ih1
    · rw [u0 (fun q => c ⟨q.1, q.2.1, q.2.2.1⟩)] at ih0
      rw [r138_5]
      simp (disch := omega) only [r138_7, r138_9, r138_12, r138_14, r138_17, r138_19, r138_21, r138_24, r138_26, r138_27, r138_30, r138_32, r138_33, r138_34, r138_37, r138_39, r138_40, sw_ldi, sw_ldl, sw_lda, sw_has1, sw_i1, sw_i2, sw_l1, sw_l2, sw_li, sw_r1, sw_ri, sw_rix, sw_rv, sw_pop, sw_set1, sw_set2, List.set_cons_zero, List.set_cons_succ, List.getElem?_cons_zero, List.getElem?_cons_succ, ald_1, ald_2, ast_1, ast_2, aln_1, aln_2, gf_1, gf_2, pf_1, pf_2, nw_1, ck_0, ck_1, ck_2, ck_3, ck_4, rr_1, rc_1, rc_2, K_i, K_l, K_v, I_add, I_sub, I_mul, I_div, I_em, I_eq0, I_lt0, I_0lt, I_le0, I_0le, I_eq, I_lt, I_le, I_a1, I_r1, I_eq1, I32_at, I32_s, Int.toNat_natCast, List.set_cons_zero, reduceCtorEq, not_false_eq_true, not_true_eq_false, false_and, true_and, and_true, and_false, false_or, true_or, or_true, or_false, if_true, if_false, eq_self, ↓reduceIte, Int.reduceEq, Int.reduceLT, Int.reduceLE, Int.reduceAdd, Int.reduceSub, Int.reduceMul, Int.reduceNeg, Int.reduceToNat, Nat.reduceLT, Nat.reduceAdd, Nat.reduceEqDiff, List.length_cons, List.length_nil, lo85, m86, l1.2, l2.2, h_40, h_41]
      rw [if_neg (by omega)]
      by_cases c1 : A 41 (lo i) = A 41 (hi i)
      · rw [if_pos c1]
        simp (disch := omega) only [r138_61, r138_62, r138_64, r138_66, r138_93, r138_96, sw_ldi, sw_ldl, sw_lda, sw_has1, sw_i1, sw_i2, sw_l1, sw_l2, sw_li, sw_r1, sw_ri, sw_rix, sw_rv, sw_pop, sw_set1, sw_set2, List.set_cons_zero, List.set_cons_succ, List.getElem?_cons_zero, List.getElem?_cons_succ, ald_1, ald_2, ast_1, ast_2, aln_1, aln_2, gf_1, gf_2, pf_1, pf_2, nw_1, ck_0, ck_1, ck_2, ck_3, ck_4, rr_1, rc_1, rc_2, K_i, K_l, K_v, I_add, I_sub, I_mul, I_div, I_em, I_eq0, I_lt0, I_0lt, I_le0, I_0le, I_eq, I_lt, I_le, I_a1, I_r1, I_eq1, I32_at, I32_s, Int.toNat_natCast, List.set_cons_zero, reduceCtorEq, not_false_eq_true, not_true_eq_false, false_and, true_and, and_true, and_false, false_or, true_or, or_true, or_false, if_true, if_false, eq_self, ↓reduceIte, Int.reduceEq, Int.reduceLT, Int.reduceLE, Int.reduceAdd, Int.reduceSub, Int.reduceMul, Int.reduceNeg, Int.reduceToNat, Nat.reduceLT, Nat.reduceAdd, Nat.reduceEqDiff, List.length_cons, List.length_nil]
        exact ih0
      · rw [if_neg c1]
        simp (disch := omega) only [r138_43, r138_44, r138_46, r138_47, r138_50, r138_51, r138_53, r138_54, sw_ldi, sw_ldl, sw_lda, sw_has1, sw_i1, sw_i2, sw_l1, sw_l2, sw_li, sw_r1, sw_ri, sw_rix, sw_rv, sw_pop, sw_set1, sw_set2, List.set_cons_zero, List.set_cons_succ, List.getElem?_cons_zero, List.getElem?_cons_succ, ald_1, ald_2, ast_1, ast_2, aln_1, aln_2, gf_1, gf_2, pf_1, pf_2, nw_1, ck_0, ck_1, ck_2, ck_3, ck_4, rr_1, rc_1, rc_2, K_i, K_l, K_v, I_add, I_sub, I_mul, I_div, I_em, I_eq0, I_lt0, I_0lt, I_le0, I_0le, I_eq, I_lt, I_le, I_a1, I_r1, I_eq1, I32_at, I32_s, Int.toNat_natCast, List.set_cons_zero, reduceCtorEq, not_false_eq_true, not_true_eq_false, false_and, true_and, and_true, and_false, false_or, true_or, or_true, or_false, if_true, if_false, eq_self, ↓reduceIte, Int.reduceEq, Int.reduceLT, Int.reduceLE, Int.reduceAdd, Int.reduceSub, Int.reduceMul, Int.reduceNeg, Int.reduceToNat, Nat.reduceLT, Nat.reduceAdd, Nat.reduceEqDiff, List.length_cons, List.length_nil, h_9]
        by_cases c2 : A 9 (lo i) = 0
        · rw [if_neg (by omega), if_pos (by omega)]
          simp (disch := omega) only [r138_61, r138_62, r138_64, r138_66, r138_93, r138_96, sw_ldi, sw_ldl, sw_lda, sw_has1, sw_i1, sw_i2, sw_l1, sw_l2, sw_li, sw_r1, sw_ri, sw_rix, sw_rv, sw_pop, sw_set1, sw_set2, List.set_cons_zero, List.set_cons_succ, List.getElem?_cons_zero, List.getElem?_cons_succ, ald_1, ald_2, ast_1, ast_2, aln_1, aln_2, gf_1, gf_2, pf_1, pf_2, nw_1, ck_0, ck_1, ck_2, ck_3, ck_4, rr_1, rc_1, rc_2, K_i, K_l, K_v, I_add, I_sub, I_mul, I_div, I_em, I_eq0, I_lt0, I_0lt, I_le0, I_0le, I_eq, I_lt, I_le, I_a1, I_r1, I_eq1, I32_at, I32_s, Int.toNat_natCast, List.set_cons_zero, reduceCtorEq, not_false_eq_true, not_true_eq_false, false_and, true_and, and_true, and_false, false_or, true_or, or_true, or_false, if_true, if_false, eq_self, ↓reduceIte, Int.reduceEq, Int.reduceLT, Int.reduceLE, Int.reduceAdd, Int.reduceSub, Int.reduceMul, Int.reduceNeg, Int.reduceToNat, Nat.reduceLT, Nat.reduceAdd, Nat.reduceEqDiff, List.length_cons, List.length_nil]
          exact ih0
        · rw [if_pos (by omega)]
          simp (disch := omega) only [r138_61, r138_62, r138_64, r138_66, r138_93, r138_96, sw_ldi, sw_ldl, sw_lda, sw_has1, sw_i1, sw_i2, sw_l1, sw_l2, sw_li, sw_r1, sw_ri, sw_rix, sw_rv, sw_pop, sw_set1, sw_set2, List.set_cons_zero, List.set_cons_succ, List.getElem?_cons_zero, List.getElem?_cons_succ, ald_1, ald_2, ast_1, ast_2, aln_1, aln_2, gf_1, gf_2, pf_1, pf_2, nw_1, ck_0, ck_1, ck_2, ck_3, ck_4, rr_1, rc_1, rc_2, K_i, K_l, K_v, I_add, I_sub, I_mul, I_div, I_em, I_eq0, I_lt0, I_0lt, I_le0, I_0le, I_eq, I_lt, I_le, I_a1, I_r1, I_eq1, I32_at, I32_s, Int.toNat_natCast, List.set_cons_zero, reduceCtorEq, not_false_eq_true, not_true_eq_false, false_and, true_and, and_true, and_false, false_or, true_or, or_true, or_false, if_true, if_false, eq_self, ↓reduceIte, Int.reduceEq, Int.reduceLT, Int.reduceLE, Int.reduceAdd, Int.reduceSub, Int.reduceMul, Int.reduceNeg, Int.reduceToNat, Nat.reduceLT, Nat.reduceAdd, Nat.reduceEqDiff, List.length_cons, List.length_nil]
          exact ih0
/-- nextBond -/
theorem m138 (hA : Nm A) (hth : ∀ t, t < 36 → A 41 t = 0 ∨ A 41 t = 1) : sw_M 138 [.ref 40, .ref 2, .ref 9] (sw_h L A F T X) Q = Q (some (some (.int (Int32.ofInt (nxb (A 3) (A 9) (A 41) 60))))) (sw_h L A F T X) := by
  have q := m138_l (L := L) (F := F) (T := T) (X := X) (Q := Q) hA hth 60 0 none none none (by omega)
  rw [e138]
  simp (disch := omega) only [r138_0, r138_1, r138_2, r138_3, sw_ldi, sw_ldl, sw_lda, sw_has1, sw_i1, sw_i2, sw_l1, sw_l2, sw_li, sw_r1, sw_ri, sw_rix, sw_rv, sw_pop, sw_set1, sw_set2, List.set_cons_zero, List.set_cons_succ, List.getElem?_cons_zero, List.getElem?_cons_succ, ald_1, ald_2, ast_1, ast_2, aln_1, aln_2, gf_1, gf_2, pf_1, pf_2, nw_1, ck_0, ck_1, ck_2, ck_3, ck_4, rr_1, rc_1, rc_2, K_i, K_l, K_v, I_add, I_sub, I_mul, I_div, I_em, I_eq0, I_lt0, I_0lt, I_le0, I_0le, I_eq, I_lt, I_le, I_a1, I_r1, I_eq1, I32_at, I32_s, Int.toNat_natCast, List.set_cons_zero, reduceCtorEq, not_false_eq_true, not_true_eq_false, false_and, true_and, and_true, and_false, false_or, true_or, or_true, or_false, if_true, if_false, eq_self, ↓reduceIte, Int.reduceEq, Int.reduceLT, Int.reduceLE, Int.reduceAdd, Int.reduceSub, Int.reduceMul, Int.reduceNeg, Int.reduceToNat, Nat.reduceLT, Nat.reduceAdd, Nat.reduceEqDiff, List.length_cons, List.length_nil]
  exact q
def hV (L : Nat) (A : Nat → Nat → Int) (F : Nat → Int) (T : Nat → sw_Ce) (X : Nat × Nat × Nat) (th : Nat → Int) (l g : Int) : sw_HS := sw_h L (sw_s A 41 th) (sw_s (sw_s F 12 l) 13 g) T X
theorem m139_l {fr n : Nat} (hA : Nm A) (hf : fr < 36) (hn : n < 36) : ∀ (d i : Nat) (th : Nat → Int) (x : Option Value), i + d = n → (∀ t, t < 36 → th t = (iv (A 3) (A 9) fr i).1 t) → ivo (A 3) (A 9) fr i → ∃ (th2 : Nat → Int) (l g r : Int), ((ivo (A 3) (A 9) fr n ∧ r = 1 ∧ l = (iv (A 3) (A 9) fr n).2.1 ∧ g = (iv (A 3) (A 9) fr n).2.2) ∨ (¬ ivo (A 3) (A 9) fr n ∧ r = 0)) ∧ sw_A 139 27 [some (.ref 40), some (.ref 2), some (.ref 9), some (.int (Int32.ofInt fr)), some (.int (Int32.ofInt n)), some (.int (Int32.ofInt i)), x] [] (hV L A F T X th (iv (A 3) (A 9) fr i).2.1 (iv (A 3) (A 9) fr i).2.2) Q = Q (some (some (.int (Int32.ofInt r)))) (hV L A F T X th2 l g)
  | 0, i, th, x, hd, hth, ho => by
    have e : i = n := hd
    subst e
    refine ⟨th, _, _, 1, Or.inl ⟨ho, rfl, rfl, rfl⟩, ?_⟩
    rw [r139_27]
    simp (disch := omega) only [r139_29, r139_31, r139_114, r139_115, sw_ldi, sw_ldl, sw_lda, sw_has1, sw_i1, sw_i2, sw_l1, sw_l2, sw_li, sw_r1, sw_ri, sw_rix, sw_rv, sw_pop, sw_set1, sw_set2, List.set_cons_zero, List.set_cons_succ, List.getElem?_cons_zero, List.getElem?_cons_succ, ald_1, ald_2, ast_1, ast_2, aln_1, aln_2, gf_1, gf_2, pf_1, pf_2, nw_1, ck_0, ck_1, ck_2, ck_3, ck_4, rr_1, rc_1, rc_2, K_i, K_l, K_v, I_add, I_sub, I_mul, I_div, I_em, I_eq0, I_lt0, I_0lt, I_le0, I_0le, I_eq, I_lt, I_le, I_a1, I_r1, I_eq1, I32_at, I32_s, Int.toNat_natCast, List.set_cons_zero, reduceCtorEq, not_false_eq_true, not_true_eq_false, false_and, true_and, and_true, and_false, false_or, true_or, or_true, or_false, if_true, if_false, eq_self, ↓reduceIte, Int.reduceEq, Int.reduceLT, Int.reduceLE, Int.reduceAdd, Int.reduceSub, Int.reduceMul, Int.reduceNeg, Int.reduceToNat, Nat.reduceLT, Nat.reduceAdd, Nat.reduceEqDiff, List.length_cons, List.length_nil, Int.le_refl]
  | d + 1, i, th, x, hd, hth, ho => by
    obtain ⟨f1, f2, f3, f4, f5, -⟩ := iv_f (sh := A 9) hf hA.1 i
    have mm := m138 (L := L) (A := sw_s A 41 th) (F := sw_s (sw_s F 12 (iv (A 3) (A 9) fr i).2.1) 13 (iv (A 3) (A 9) fr i).2.2) (T := T) (X := X) (Q := sw_K 139 40 none [some (.ref 40), some (.ref 2), some (.ref 9), some (.int (Int32.ofInt fr)), some (.int (Int32.ofInt n)), some (.int (Int32.ofInt i)), x] [] Q) hA (fun t ht => by show th t = 0 ∨ th t = 1; rw [hth t ht]; exact f1 t ht)
    have a3 : sw_s A 41 th 3 = A 3 := rfl
    have a9 : sw_s A 41 th 9 = A 9 := rfl
    have a41 : sw_s A 41 th 41 = th := rfl
    rw [a3, a9, a41] at mm
    have nc : nxb (A 3) (A 9) th 60 = nxb (A 3) (A 9) (iv (A 3) (A 9) fr i).1 60 := nxb_c (fun _ _ => rfl) (fun _ _ => rfl) hth 60 (Nat.le_refl _)
    rw [nc] at mm
    rcases nxb_v (w := A 3) (sh := A 9) (th := (iv (A 3) (A 9) fr i).1) 60 with e | ⟨b, e, h1, h2⟩
    · rw [e] at mm
      refine ⟨th, (iv (A 3) (A 9) fr i).2.1, (iv (A 3) (A 9) fr i).2.2, 0, Or.inr ⟨fun q => q i (by omega) e, rfl⟩, ?_⟩
      unfold hV
      rw [r139_27]
      simp (disch := omega) only [r139_29, r139_31, r139_34, r139_35, r139_36, r139_37, sw_ldi, sw_ldl, sw_lda, sw_has1, sw_i1, sw_i2, sw_l1, sw_l2, sw_li, sw_r1, sw_ri, sw_rix, sw_rv, sw_pop, sw_set1, sw_set2, List.set_cons_zero, List.set_cons_succ, List.getElem?_cons_zero, List.getElem?_cons_succ, ald_1, ald_2, ast_1, ast_2, aln_1, aln_2, gf_1, gf_2, pf_1, pf_2, nw_1, ck_0, ck_1, ck_2, ck_3, ck_4, rr_1, rc_1, rc_2, K_i, K_l, K_v, I_add, I_sub, I_mul, I_div, I_em, I_eq0, I_lt0, I_0lt, I_le0, I_0le, I_eq, I_lt, I_le, I_a1, I_r1, I_eq1, I32_at, I32_s, Int.toNat_natCast, List.set_cons_zero, reduceCtorEq, not_false_eq_true, not_true_eq_false, false_and, true_and, and_true, and_false, false_or, true_or, or_true, or_false, if_true, if_false, eq_self, ↓reduceIte, Int.reduceEq, Int.reduceLT, Int.reduceLE, Int.reduceAdd, Int.reduceSub, Int.reduceMul, Int.reduceNeg, Int.reduceToNat, Nat.reduceLT, Nat.reduceAdd, Nat.reduceEqDiff, List.length_cons, List.length_nil, h_40]
      rw [if_neg (by omega), mm]
      simp (disch := omega) only [r139_40, r139_42, r139_44, r139_45, r139_48, r139_49, sw_ldi, sw_ldl, sw_lda, sw_has1, sw_i1, sw_i2, sw_l1, sw_l2, sw_li, sw_r1, sw_ri, sw_rix, sw_rv, sw_pop, sw_set1, sw_set2, List.set_cons_zero, List.set_cons_succ, List.getElem?_cons_zero, List.getElem?_cons_succ, ald_1, ald_2, ast_1, ast_2, aln_1, aln_2, gf_1, gf_2, pf_1, pf_2, nw_1, ck_0, ck_1, ck_2, ck_3, ck_4, rr_1, rc_1, rc_2, K_i, K_l, K_v, I_add, I_sub, I_mul, I_div, I_em, I_eq0, I_lt0, I_0lt, I_le0, I_0le, I_eq, I_lt, I_le, I_a1, I_r1, I_eq1, I32_at, I32_s, Int.toNat_natCast, List.set_cons_zero, reduceCtorEq, not_false_eq_true, not_true_eq_false, false_and, true_and, and_true, and_false, false_or, true_or, or_true, or_false, if_true, if_false, eq_self, ↓reduceIte, Int.reduceEq, Int.reduceLT, Int.reduceLE, Int.reduceAdd, Int.reduceSub, Int.reduceMul, Int.reduceNeg, Int.reduceToNat, Nat.reduceLT, Nat.reduceAdd, Nat.reduceEqDiff, List.length_cons, List.length_nil]
    · rw [e] at mm
      have l1 := lo_lt h1
      have l2 := hi_lt h1
      have w9 := hA.1 b h1
      have es : iv (A 3) (A 9) fr (i + 1) = (sw_s (iv (A 3) (A 9) fr i).1 (ivt (iv (A 3) (A 9) fr i).1 b) 1, (ivt (iv (A 3) (A 9) fr i).1 b : Int), if (iv (A 3) (A 9) fr i).2.2 < A 3 b then A 3 b else (iv (A 3) (A 9) fr i).2.2) := by
        show ivs (A 3) (A 9) (iv (A 3) (A 9) fr i) = _
        unfold ivs
        rw [e, if_neg (by omega), Int.toNat_natCast]
      have tv : ivt (iv (A 3) (A 9) fr i).1 b = if th (lo b) = 0 then lo b else hi b := by
        unfold ivt
        rw [← hth (lo b) l1.1]
      have t36 : ivt (iv (A 3) (A 9) fr i).1 b < 36 := by unfold ivt; split <;> omega
      have tb := f1 (lo b) l1.1
      rw [← hth (lo b) l1.1] at tb
      have ho2 : ivo (A 3) (A 9) fr (i + 1) := fun j hj => by
        by_cases z : j = i
        · subst z; omega
        · exact ho j (by omega)
      obtain ⟨th2, l, g, r, k1, k2⟩ := m139_l hA hf hn d (i + 1) (sw_s th (ivt (iv (A 3) (A 9) fr i).1 b) 1) (some (.int (Int32.ofInt b))) (by omega) (fun t ht => by
        rw [es]
        show sw_s _ _ _ t = sw_s _ _ _ t
        unfold sw_s
        split
        · rfl
        · exact hth t ht) ho2
      rw [es] at k2
      refine ⟨th2, l, g, r, k1, Eq.trans ?_ k2⟩
      generalize iv (A 3) (A 9) fr i = σ at *
      have f12 : ∀ z, sw_s (sw_s F 12 z) 13 σ.2.2 12 = z := fun z => rfl
      have f13 : ∀ z, sw_s (sw_s F 12 z) 13 σ.2.2 13 = σ.2.2 := fun z => rfl
      have fc : ∀ z y : Int, sw_s (sw_s (sw_s F 12 z) 13 y) 12 = fun v => sw_s (sw_s F 12 v) 13 y := fun z y => by
        funext v j
        unfold sw_s
        (repeat' split) <;> first | rfl | (exfalso; omega)
      unfold hV
      rw [r139_27]
      simp (disch := omega) only [r139_29, r139_31, r139_34, r139_35, r139_36, r139_37, sw_ldi, sw_ldl, sw_lda, sw_has1, sw_i1, sw_i2, sw_l1, sw_l2, sw_li, sw_r1, sw_ri, sw_rix, sw_rv, sw_pop, sw_set1, sw_set2, List.set_cons_zero, List.set_cons_succ, List.getElem?_cons_zero, List.getElem?_cons_succ, ald_1, ald_2, ast_1, ast_2, aln_1, aln_2, gf_1, gf_2, pf_1, pf_2, nw_1, ck_0, ck_1, ck_2, ck_3, ck_4, rr_1, rc_1, rc_2, K_i, K_l, K_v, I_add, I_sub, I_mul, I_div, I_em, I_eq0, I_lt0, I_0lt, I_le0, I_0le, I_eq, I_lt, I_le, I_a1, I_r1, I_eq1, I32_at, I32_s, Int.toNat_natCast, List.set_cons_zero, reduceCtorEq, not_false_eq_true, not_true_eq_false, false_and, true_and, and_true, and_false, false_or, true_or, or_true, or_false, if_true, if_false, eq_self, ↓reduceIte, Int.reduceEq, Int.reduceLT, Int.reduceLE, Int.reduceAdd, Int.reduceSub, Int.reduceMul, Int.reduceNeg, Int.reduceToNat, Nat.reduceLT, Nat.reduceAdd, Nat.reduceEqDiff, List.length_cons, List.length_nil, h_40]
      rw [if_neg (by omega), mm]
      simp (disch := omega) only [r139_40, r139_42, r139_44, r139_45, sw_ldi, sw_ldl, sw_lda, sw_has1, sw_i1, sw_i2, sw_l1, sw_l2, sw_li, sw_r1, sw_ri, sw_rix, sw_rv, sw_pop, sw_set1, sw_set2, List.set_cons_zero, List.set_cons_succ, List.getElem?_cons_zero, List.getElem?_cons_succ, ald_1, ald_2, ast_1, ast_2, aln_1, aln_2, gf_1, gf_2, pf_1, pf_2, nw_1, ck_0, ck_1, ck_2, ck_3, ck_4, rr_1, rc_1, rc_2, K_i, K_l, K_v, I_add, I_sub, I_mul, I_div, I_em, I_eq0, I_lt0, I_0lt, I_le0, I_0le, I_eq, I_lt, I_le, I_a1, I_r1, I_eq1, I32_at, I32_s, Int.toNat_natCast, List.set_cons_zero, reduceCtorEq, not_false_eq_true, not_true_eq_false, false_and, true_and, and_true, and_false, false_or, true_or, or_true, or_false, if_true, if_false, eq_self, ↓reduceIte, Int.reduceEq, Int.reduceLT, Int.reduceLE, Int.reduceAdd, Int.reduceSub, Int.reduceMul, Int.reduceNeg, Int.reduceToNat, Nat.reduceLT, Nat.reduceAdd, Nat.reduceEqDiff, List.length_cons, List.length_nil]
      simp (disch := omega) only [r139_50, r139_51, r139_52, r139_55, r139_57, r139_60, r139_61, sw_ldi, sw_ldl, sw_lda, sw_has1, sw_i1, sw_i2, sw_l1, sw_l2, sw_li, sw_r1, sw_ri, sw_rix, sw_rv, sw_pop, sw_set1, sw_set2, List.set_cons_zero, List.set_cons_succ, List.getElem?_cons_zero, List.getElem?_cons_succ, ald_1, ald_2, ast_1, ast_2, aln_1, aln_2, gf_1, gf_2, pf_1, pf_2, nw_1, ck_0, ck_1, ck_2, ck_3, ck_4, rr_1, rc_1, rc_2, K_i, K_l, K_v, I_add, I_sub, I_mul, I_div, I_em, I_eq0, I_lt0, I_0lt, I_le0, I_0le, I_eq, I_lt, I_le, I_a1, I_r1, I_eq1, I32_at, I32_s, Int.toNat_natCast, List.set_cons_zero, reduceCtorEq, not_false_eq_true, not_true_eq_false, false_and, true_and, and_true, and_false, false_or, true_or, or_true, or_false, if_true, if_false, eq_self, ↓reduceIte, Int.reduceEq, Int.reduceLT, Int.reduceLE, Int.reduceAdd, Int.reduceSub, Int.reduceMul, Int.reduceNeg, Int.reduceToNat, Nat.reduceLT, Nat.reduceAdd, Nat.reduceEqDiff, List.length_cons, List.length_nil, sA_at, ss, sA_cm, lo85, l1.2, h_40, h_41]
      by_cases z : th (lo b) = 0
      · rw [if_pos z] at tv
        rw [if_pos z, tv]
        simp (disch := omega) only [r139_72, r139_74, r139_77, r139_80, r139_81, r139_84, r139_85, r139_88, r139_89, sw_ldi, sw_ldl, sw_lda, sw_has1, sw_i1, sw_i2, sw_l1, sw_l2, sw_li, sw_r1, sw_ri, sw_rix, sw_rv, sw_pop, sw_set1, sw_set2, List.set_cons_zero, List.set_cons_succ, List.getElem?_cons_zero, List.getElem?_cons_succ, ald_1, ald_2, ast_1, ast_2, aln_1, aln_2, gf_1, gf_2, pf_1, pf_2, nw_1, ck_0, ck_1, ck_2, ck_3, ck_4, rr_1, rc_1, rc_2, K_i, K_l, K_v, I_add, I_sub, I_mul, I_div, I_em, I_eq0, I_lt0, I_0lt, I_le0, I_0le, I_eq, I_lt, I_le, I_a1, I_r1, I_eq1, I32_at, I32_s, Int.toNat_natCast, List.set_cons_zero, reduceCtorEq, not_false_eq_true, not_true_eq_false, false_and, true_and, and_true, and_false, false_or, true_or, or_true, or_false, if_true, if_false, eq_self, ↓reduceIte, Int.reduceEq, Int.reduceLT, Int.reduceLE, Int.reduceAdd, Int.reduceSub, Int.reduceMul, Int.reduceNeg, Int.reduceToNat, Nat.reduceLT, Nat.reduceAdd, Nat.reduceEqDiff, List.length_cons, List.length_nil, sA_at, ss, sA_cm, lo85, l1.2, h_40, h_41, wf_12, fc, f12, w_41]
        simp (disch := omega) only [r139_90, r139_91, r139_92, r139_95, r139_96, r139_99, r139_101, r139_102, sw_ldi, sw_ldl, sw_lda, sw_has1, sw_i1, sw_i2, sw_l1, sw_l2, sw_li, sw_r1, sw_ri, sw_rix, sw_rv, sw_pop, sw_set1, sw_set2, List.set_cons_zero, List.set_cons_succ, List.getElem?_cons_zero, List.getElem?_cons_succ, ald_1, ald_2, ast_1, ast_2, aln_1, aln_2, gf_1, gf_2, pf_1, pf_2, nw_1, ck_0, ck_1, ck_2, ck_3, ck_4, rr_1, rc_1, rc_2, K_i, K_l, K_v, I_add, I_sub, I_mul, I_div, I_em, I_eq0, I_lt0, I_0lt, I_le0, I_0le, I_eq, I_lt, I_le, I_a1, I_r1, I_eq1, I32_at, I32_s, Int.toNat_natCast, List.set_cons_zero, reduceCtorEq, not_false_eq_true, not_true_eq_false, false_and, true_and, and_true, and_false, false_or, true_or, or_true, or_false, if_true, if_false, eq_self, ↓reduceIte, Int.reduceEq, Int.reduceLT, Int.reduceLE, Int.reduceAdd, Int.reduceSub, Int.reduceMul, Int.reduceNeg, Int.reduceToNat, Nat.reduceLT, Nat.reduceAdd, Nat.reduceEqDiff, List.length_cons, List.length_nil, sA_at, ss, sA_cm, h_40, h_2, h_3, f13]
        by_cases y : σ.2.2 < A 3 b
        · rw [if_pos y, if_pos y]
          simp (disch := omega) only [r139_105, r139_108, r139_111, sw_ldi, sw_ldl, sw_lda, sw_has1, sw_i1, sw_i2, sw_l1, sw_l2, sw_li, sw_r1, sw_ri, sw_rix, sw_rv, sw_pop, sw_set1, sw_set2, List.set_cons_zero, List.set_cons_succ, List.getElem?_cons_zero, List.getElem?_cons_succ, ald_1, ald_2, ast_1, ast_2, aln_1, aln_2, gf_1, gf_2, pf_1, pf_2, nw_1, ck_0, ck_1, ck_2, ck_3, ck_4, rr_1, rc_1, rc_2, K_i, K_l, K_v, I_add, I_sub, I_mul, I_div, I_em, I_eq0, I_lt0, I_0lt, I_le0, I_0le, I_eq, I_lt, I_le, I_a1, I_r1, I_eq1, I32_at, I32_s, Int.toNat_natCast, List.set_cons_zero, reduceCtorEq, not_false_eq_true, not_true_eq_false, false_and, true_and, and_true, and_false, false_or, true_or, or_true, or_false, if_true, if_false, eq_self, ↓reduceIte, Int.reduceEq, Int.reduceLT, Int.reduceLE, Int.reduceAdd, Int.reduceSub, Int.reduceMul, Int.reduceNeg, Int.reduceToNat, Nat.reduceLT, Nat.reduceAdd, Nat.reduceEqDiff, List.length_cons, List.length_nil, sA_at, ss, sA_cm, h_40, wf_13, ss]
          rfl
        · rw [if_neg y, if_neg y]
          simp (disch := omega) only [r139_105, r139_108, r139_111, sw_ldi, sw_ldl, sw_lda, sw_has1, sw_i1, sw_i2, sw_l1, sw_l2, sw_li, sw_r1, sw_ri, sw_rix, sw_rv, sw_pop, sw_set1, sw_set2, List.set_cons_zero, List.set_cons_succ, List.getElem?_cons_zero, List.getElem?_cons_succ, ald_1, ald_2, ast_1, ast_2, aln_1, aln_2, gf_1, gf_2, pf_1, pf_2, nw_1, ck_0, ck_1, ck_2, ck_3, ck_4, rr_1, rc_1, rc_2, K_i, K_l, K_v, I_add, I_sub, I_mul, I_div, I_em, I_eq0, I_lt0, I_0lt, I_le0, I_0le, I_eq, I_lt, I_le, I_a1, I_r1, I_eq1, I32_at, I32_s, Int.toNat_natCast, List.set_cons_zero, reduceCtorEq, not_false_eq_true, not_true_eq_false, false_and, true_and, and_true, and_false, false_or, true_or, or_true, or_false, if_true, if_false, eq_self, ↓reduceIte, Int.reduceEq, Int.reduceLT, Int.reduceLE, Int.reduceAdd, Int.reduceSub, Int.reduceMul, Int.reduceNeg, Int.reduceToNat, Nat.reduceLT, Nat.reduceAdd, Nat.reduceEqDiff, List.length_cons, List.length_nil, sA_at, ss, sA_cm, h_40, wf_13, ss]
          rfl
      · rw [if_neg z] at tv
        rw [if_neg z, tv]
        simp (disch := omega) only [r139_64, r139_66, r139_69, r139_72, r139_74, r139_77, r139_80, r139_81, r139_84, r139_85, r139_88, r139_89, sw_ldi, sw_ldl, sw_lda, sw_has1, sw_i1, sw_i2, sw_l1, sw_l2, sw_li, sw_r1, sw_ri, sw_rix, sw_rv, sw_pop, sw_set1, sw_set2, List.set_cons_zero, List.set_cons_succ, List.getElem?_cons_zero, List.getElem?_cons_succ, ald_1, ald_2, ast_1, ast_2, aln_1, aln_2, gf_1, gf_2, pf_1, pf_2, nw_1, ck_0, ck_1, ck_2, ck_3, ck_4, rr_1, rc_1, rc_2, K_i, K_l, K_v, I_add, I_sub, I_mul, I_div, I_em, I_eq0, I_lt0, I_0lt, I_le0, I_0le, I_eq, I_lt, I_le, I_a1, I_r1, I_eq1, I32_at, I32_s, Int.toNat_natCast, List.set_cons_zero, reduceCtorEq, not_false_eq_true, not_true_eq_false, false_and, true_and, and_true, and_false, false_or, true_or, or_true, or_false, if_true, if_false, eq_self, ↓reduceIte, Int.reduceEq, Int.reduceLT, Int.reduceLE, Int.reduceAdd, Int.reduceSub, Int.reduceMul, Int.reduceNeg, Int.reduceToNat, Nat.reduceLT, Nat.reduceAdd, Nat.reduceEqDiff, List.length_cons, List.length_nil, sA_at, ss, sA_cm, m86, l2.2, h_40, h_41, wf_12, fc, f12, w_41]
        simp (disch := omega) only [r139_90, r139_91, r139_92, r139_95, r139_96, r139_99, r139_101, r139_102, sw_ldi, sw_ldl, sw_lda, sw_has1, sw_i1, sw_i2, sw_l1, sw_l2, sw_li, sw_r1, sw_ri, sw_rix, sw_rv, sw_pop, sw_set1, sw_set2, List.set_cons_zero, List.set_cons_succ, List.getElem?_cons_zero, List.getElem?_cons_succ, ald_1, ald_2, ast_1, ast_2, aln_1, aln_2, gf_1, gf_2, pf_1, pf_2, nw_1, ck_0, ck_1, ck_2, ck_3, ck_4, rr_1, rc_1, rc_2, K_i, K_l, K_v, I_add, I_sub, I_mul, I_div, I_em, I_eq0, I_lt0, I_0lt, I_le0, I_0le, I_eq, I_lt, I_le, I_a1, I_r1, I_eq1, I32_at, I32_s, Int.toNat_natCast, List.set_cons_zero, reduceCtorEq, not_false_eq_true, not_true_eq_false, false_and, true_and, and_true, and_false, false_or, true_or, or_true, or_false, if_true, if_false, eq_self, ↓reduceIte, Int.reduceEq, Int.reduceLT, Int.reduceLE, Int.reduceAdd, Int.reduceSub, Int.reduceMul, Int.reduceNeg, Int.reduceToNat, Nat.reduceLT, Nat.reduceAdd, Nat.reduceEqDiff, List.length_cons, List.length_nil, sA_at, ss, sA_cm, h_40, h_2, h_3, f13]
        by_cases y : σ.2.2 < A 3 b
        · rw [if_pos y, if_pos y]
          simp (disch := omega) only [r139_105, r139_108, r139_111, sw_ldi, sw_ldl, sw_lda, sw_has1, sw_i1, sw_i2, sw_l1, sw_l2, sw_li, sw_r1, sw_ri, sw_rix, sw_rv, sw_pop, sw_set1, sw_set2, List.set_cons_zero, List.set_cons_succ, List.getElem?_cons_zero, List.getElem?_cons_succ, ald_1, ald_2, ast_1, ast_2, aln_1, aln_2, gf_1, gf_2, pf_1, pf_2, nw_1, ck_0, ck_1, ck_2, ck_3, ck_4, rr_1, rc_1, rc_2, K_i, K_l, K_v, I_add, I_sub, I_mul, I_div, I_em, I_eq0, I_lt0, I_0lt, I_le0, I_0le, I_eq, I_lt, I_le, I_a1, I_r1, I_eq1, I32_at, I32_s, Int.toNat_natCast, List.set_cons_zero, reduceCtorEq, not_false_eq_true, not_true_eq_false, false_and, true_and, and_true, and_false, false_or, true_or, or_true, or_false, if_true, if_false, eq_self, ↓reduceIte, Int.reduceEq, Int.reduceLT, Int.reduceLE, Int.reduceAdd, Int.reduceSub, Int.reduceMul, Int.reduceNeg, Int.reduceToNat, Nat.reduceLT, Nat.reduceAdd, Nat.reduceEqDiff, List.length_cons, List.length_nil, sA_at, ss, sA_cm, h_40, wf_13, ss]
          rfl
        · rw [if_neg y, if_neg y]
          simp (disch := omega) only [r139_105, r139_108, r139_111, sw_ldi, sw_ldl, sw_lda, sw_has1, sw_i1, sw_i2, sw_l1, sw_l2, sw_li, sw_r1, sw_ri, sw_rix, sw_rv, sw_pop, sw_set1, sw_set2, List.set_cons_zero, List.set_cons_succ, List.getElem?_cons_zero, List.getElem?_cons_succ, ald_1, ald_2, ast_1, ast_2, aln_1, aln_2, gf_1, gf_2, pf_1, pf_2, nw_1, ck_0, ck_1, ck_2, ck_3, ck_4, rr_1, rc_1, rc_2, K_i, K_l, K_v, I_add, I_sub, I_mul, I_div, I_em, I_eq0, I_lt0, I_0lt, I_le0, I_0le, I_eq, I_lt, I_le, I_a1, I_r1, I_eq1, I32_at, I32_s, Int.toNat_natCast, List.set_cons_zero, reduceCtorEq, not_false_eq_true, not_true_eq_false, false_and, true_and, and_true, and_false, false_or, true_or, or_true, or_false, if_true, if_false, eq_self, ↓reduceIte, Int.reduceEq, Int.reduceLT, Int.reduceLE, Int.reduceAdd, Int.reduceSub, Int.reduceMul, Int.reduceNeg, Int.reduceToNat, Nat.reduceLT, Nat.reduceAdd, Nat.reduceEqDiff, List.length_cons, List.length_nil, sA_at, ss, sA_cm, h_40, wf_13, ss]
          rfl
end sw_iv
