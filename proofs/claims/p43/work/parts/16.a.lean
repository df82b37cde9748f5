/-! filling in the law -/
def flk (k : Int) (shut all : Int64) : Nat → Int64
  | 0 => all
  | n + 1 => if hb shut n = false ∧ k ≤ bsd (hb all) n then wb (flk k shut all n) n else flk k shut all n
theorem flk_v {k : Int} {shut all : Int64} : ∀ n, n ≤ 36 → ∀ t, t < 64 → hb (flk k shut all n) t = (hb all t || decide (t < n ∧ hb shut t = false ∧ k ≤ bsd (hb all) t))
  | 0, _, t, ht => by
    rw [decide_eq_false (fun q => absurd q.1 (Nat.not_lt_zero _)), Bool.or_false]
    rfl
  | n + 1, hn, t, ht => by
    have ih := flk_v (k := k) (shut := shut) (all := all) n (by omega) t ht
    unfold flk
    by_cases c : hb shut n = false ∧ k ≤ bsd (hb all) n
    · rw [if_pos c, hb_wb _ n t (by omega) ht, ih]
      by_cases e : t = n
      · subst e
        rw [decide_eq_true rfl, Bool.or_true, decide_eq_true (show t < t + 1 ∧ _ from ⟨Nat.lt_succ_self _, c⟩), Bool.or_true]
      · rw [decide_eq_false e, Bool.or_false]
        congr 1
        exact decide_eq_decide.mpr ⟨fun q => ⟨by omega, q.2⟩, fun q => ⟨by omega, q.2⟩⟩
    · rw [if_neg c, ih]
      congr 1
      refine decide_eq_decide.mpr ⟨fun q => ⟨by omega, q.2⟩, fun q => ?_⟩
      by_cases e : t = n
      · subst e; exact absurd q.2 c
      · exact ⟨by omega, q.2⟩
theorem flk_n {k : Int} {shut all : Int64} {sh f : Nat → Int} (hs : ∀ t, t < 36 → bi (hb shut t) = sh t) (hf : ∀ t, t < 36 → bi (hb all t) = f t) : (∀ t, t < 36 → bi (hb (flk k shut all 36) t) = nf k sh f t) ∧ (flk k shut all 36 = all ↔ stb k sh f) := by
  have cf : ∀ t, t < 36 → cfb f (t : Nat) = bsd (hb all) (t : Nat) := fun t ht => by
    rw [← cfb_bsd (by omega) (by omega)]
    exact cfb_c (fun u hu => (hf u hu).symm) (by omega) (by omega)
  have jv : ∀ t, t < 36 → (jo k sh f t = 1 ↔ (hb all t = false ∧ hb shut t = false ∧ k ≤ bsd (hb all) t)) := fun t ht => by
    unfold jo
    rw [cf t ht, ← hf t ht, ← hs t ht]
    constructor
    · intro q
      split at q
      · next c => exact ⟨bi_0.mp c.1, bi_0.mp c.2.1, c.2.2⟩
      · cases q
    · intro q
      rw [if_pos ⟨bi_0.mpr q.1, bi_0.mpr q.2.1, q.2.2⟩]
  refine ⟨fun t ht => ?_, ?_⟩
  · have v := flk_v (k := k) (shut := shut) (all := all) 36 (Nat.le_refl _) t (by omega)
    unfold nf
    rw [← hf t ht, v]
    cases e : hb all t with
    | true => rw [Bool.true_or]; exact (if_neg (by decide)).symm
    | false =>
      rw [Bool.false_or, if_pos (show bi false = 0 from rfl)]
      rcases jo_b k sh f t with j | j
      · rw [j]
        have : ¬ (t < 36 ∧ hb shut t = false ∧ k ≤ bsd (hb all) t) := fun q => by
          have := (jv t ht).mpr ⟨e, q.2⟩
          omega
        rw [decide_eq_false this]; rfl
      · rw [j]
        rw [decide_eq_true (⟨ht, ((jv t ht).mp j).2⟩ : t < 36 ∧ hb shut t = false ∧ k ≤ bsd (hb all) t)]; rfl
  · constructor
    · intro q s hs9
      rcases jo_b k sh f s with j | j
      · exact j
      · have v := flk_v (k := k) (shut := shut) (all := all) 36 (Nat.le_refl _) s (by omega)
        have jj := (jv s hs9).mp j
        rw [q, jj.1, decide_eq_true (⟨hs9, jj.2⟩ : s < 36 ∧ hb shut s = false ∧ k ≤ bsd (hb all) s)] at v
        cases v
    · intro q
      apply hb_ext
      intro t ht
      rw [flk_v (k := k) (shut := shut) (all := all) 36 (Nat.le_refl _) t ht]
      cases e : hb all t with
      | true => rw [Bool.true_or]
      | false =>
        rw [Bool.false_or]
        refine decide_eq_false fun z => ?_
        have := (jv t z.1).mpr ⟨e, z.2⟩
        have := q t z.1
        omega
section sw_fg
variable {L : Nat} {A : Nat → Nat → Int} {F : Nat → Int} {T : Nat → sw_Ce} {X : Nat × Nat × Nat} {Q : sw_Ot → sw_HS → Prop} {H : sw_HS} {shut wet : Int64} {o : Value}
theorem m45_s {k : Int} {all : Int64} {r m : Int32} (k0 : 1 ≤ k) (k1 : k ≤ 4) : ∀ (d i : Nat), i + d = 36 → sw_A 45 30 [some o, some (.long shut), none, some (.long wet), none, some (.int (Int32.ofInt k)), some (.long all), none, some (.int r), some (.int m), some (.long (flk k shut all i)), none, some (.int (Int32.ofInt i))] [] H Q = sw_A 45 73 [some o, some (.long shut), none, some (.long wet), none, some (.int (Int32.ofInt k)), some (.long all), none, some (.int r), some (.int m), some (.long (flk k shut all 36)), none, some (.int (Int32.ofInt 36))] [] H Q
  | 0, i, hd => by
    have e : i = 36 := hd
    subst e
    rw [r45_30]
    simp (disch := omega) only [r45_32, r45_34, sw_ldi, sw_ldl, sw_lda, sw_has1, sw_i1, sw_i2, sw_l1, sw_l2, sw_li, sw_r1, sw_ri, sw_rix, sw_rv, sw_pop, sw_set1, sw_set2, List.set_cons_zero, List.set_cons_succ, List.getElem?_cons_zero, List.getElem?_cons_succ, ald_1, ald_2, ast_1, ast_2, aln_1, aln_2, gf_1, gf_2, pf_1, pf_2, nw_1, ck_0, ck_1, ck_2, ck_3, ck_4, rr_1, rc_1, rc_2, K_i, K_l, K_v, I_add, I_sub, I_mul, I_div, I_em, I_eq0, I_lt0, I_0lt, I_le0, I_0le, I_eq, I_lt, I_le, I_a1, I_r1, I_eq1, I32_at, I32_s, Int.toNat_natCast, List.set_cons_zero, reduceCtorEq, not_false_eq_true, not_true_eq_false, false_and, true_and, and_true, and_false, false_or, true_or, or_true, or_false, if_true, if_false, eq_self, ↓reduceIte, Int.reduceEq, Int.reduceLT, Int.reduceLE, Int.reduceAdd, Int.reduceSub, Int.reduceMul, Int.reduceNeg, Int.reduceToNat, Nat.reduceLT, Nat.reduceAdd, Nat.reduceEqDiff, List.length_cons, List.length_nil, Int.le_refl]
    rfl
  | d + 1, i, hd => by
    have ih := m45_s (all := all) (r := r) (m := m) k0 k1 d (i + 1) (by omega)
    have e : flk k shut all (i + 1) = if hb shut i = false ∧ k ≤ bsd (hb all) i then wb (flk k shut all i) i else flk k shut all i := rfl
    rw [e] at ih
    have bb := bi_b (hb shut i)
    have sb := bsd_b (hb all) i
    rw [r45_30]
    simp (disch := omega) only [r45_32, r45_34, r45_37, r45_38, r45_40, r45_43, sw_ldi, sw_ldl, sw_lda, sw_has1, sw_i1, sw_i2, sw_l1, sw_l2, sw_li, sw_r1, sw_ri, sw_rix, sw_rv, sw_pop, sw_set1, sw_set2, List.set_cons_zero, List.set_cons_succ, List.getElem?_cons_zero, List.getElem?_cons_succ, ald_1, ald_2, ast_1, ast_2, aln_1, aln_2, gf_1, gf_2, pf_1, pf_2, nw_1, ck_0, ck_1, ck_2, ck_3, ck_4, rr_1, rc_1, rc_2, K_i, K_l, K_v, I_add, I_sub, I_mul, I_div, I_em, I_eq0, I_lt0, I_0lt, I_le0, I_0le, I_eq, I_lt, I_le, I_a1, I_r1, I_eq1, I32_at, I32_s, Int.toNat_natCast, List.set_cons_zero, reduceCtorEq, not_false_eq_true, not_true_eq_false, false_and, true_and, and_true, and_false, false_or, true_or, or_true, or_false, if_true, if_false, eq_self, ↓reduceIte, Int.reduceEq, Int.reduceLT, Int.reduceLE, Int.reduceAdd, Int.reduceSub, Int.reduceMul, Int.reduceNeg, Int.reduceToNat, Nat.reduceLT, Nat.reduceAdd, Nat.reduceEqDiff, List.length_cons, List.length_nil, m30]
    rw [if_neg (by omega)]
    by_cases c1 : hb shut i = false
    · rw [if_neg (fun q => q (bi_0.mpr c1))]
      simp (disch := omega) only [r45_46, r45_48, r45_50, r45_53, r45_55, sw_ldi, sw_ldl, sw_lda, sw_has1, sw_i1, sw_i2, sw_l1, sw_l2, sw_li, sw_r1, sw_ri, sw_rix, sw_rv, sw_pop, sw_set1, sw_set2, List.set_cons_zero, List.set_cons_succ, List.getElem?_cons_zero, List.getElem?_cons_succ, ald_1, ald_2, ast_1, ast_2, aln_1, aln_2, gf_1, gf_2, pf_1, pf_2, nw_1, ck_0, ck_1, ck_2, ck_3, ck_4, rr_1, rc_1, rc_2, K_i, K_l, K_v, I_add, I_sub, I_mul, I_div, I_em, I_eq0, I_lt0, I_0lt, I_le0, I_0le, I_eq, I_lt, I_le, I_a1, I_r1, I_eq1, I32_at, I32_s, Int.toNat_natCast, List.set_cons_zero, reduceCtorEq, not_false_eq_true, not_true_eq_false, false_and, true_and, and_true, and_false, false_or, true_or, or_true, or_false, if_true, if_false, eq_self, ↓reduceIte, Int.reduceEq, Int.reduceLT, Int.reduceLE, Int.reduceAdd, Int.reduceSub, Int.reduceMul, Int.reduceNeg, Int.reduceToNat, Nat.reduceLT, Nat.reduceAdd, Nat.reduceEqDiff, List.length_cons, List.length_nil, m31]
      by_cases c2 : k ≤ bsd (hb all) i
      · rw [if_pos ⟨c1, c2⟩] at ih
        rw [if_neg (by omega)]
        simp (disch := omega) only [r45_58, r45_60, r45_61, r45_63, r45_64, r45_65, r45_67, r45_70, sw_ldi, sw_ldl, sw_lda, sw_has1, sw_i1, sw_i2, sw_l1, sw_l2, sw_li, sw_r1, sw_ri, sw_rix, sw_rv, sw_pop, sw_set1, sw_set2, List.set_cons_zero, List.set_cons_succ, List.getElem?_cons_zero, List.getElem?_cons_succ, ald_1, ald_2, ast_1, ast_2, aln_1, aln_2, gf_1, gf_2, pf_1, pf_2, nw_1, ck_0, ck_1, ck_2, ck_3, ck_4, rr_1, rc_1, rc_2, K_i, K_l, K_v, I_add, I_sub, I_mul, I_div, I_em, I_eq0, I_lt0, I_0lt, I_le0, I_0le, I_eq, I_lt, I_le, I_a1, I_r1, I_eq1, I32_at, I32_s, Int.toNat_natCast, List.set_cons_zero, reduceCtorEq, not_false_eq_true, not_true_eq_false, false_and, true_and, and_true, and_false, false_or, true_or, or_true, or_false, if_true, if_false, eq_self, ↓reduceIte, Int.reduceEq, Int.reduceLT, Int.reduceLE, Int.reduceAdd, Int.reduceSub, Int.reduceMul, Int.reduceNeg, Int.reduceToNat, Nat.reduceLT, Nat.reduceAdd, Nat.reduceEqDiff, List.length_cons, List.length_nil]
        exact ih
      · rw [if_neg (fun q => c2 q.2)] at ih
        rw [if_pos (by omega)]
        simp (disch := omega) only [r45_67, r45_70, sw_ldi, sw_ldl, sw_lda, sw_has1, sw_i1, sw_i2, sw_l1, sw_l2, sw_li, sw_r1, sw_ri, sw_rix, sw_rv, sw_pop, sw_set1, sw_set2, List.set_cons_zero, List.set_cons_succ, List.getElem?_cons_zero, List.getElem?_cons_succ, ald_1, ald_2, ast_1, ast_2, aln_1, aln_2, gf_1, gf_2, pf_1, pf_2, nw_1, ck_0, ck_1, ck_2, ck_3, ck_4, rr_1, rc_1, rc_2, K_i, K_l, K_v, I_add, I_sub, I_mul, I_div, I_em, I_eq0, I_lt0, I_0lt, I_le0, I_0le, I_eq, I_lt, I_le, I_a1, I_r1, I_eq1, I32_at, I32_s, Int.toNat_natCast, List.set_cons_zero, reduceCtorEq, not_false_eq_true, not_true_eq_false, false_and, true_and, and_true, and_false, false_or, true_or, or_true, or_false, if_true, if_false, eq_self, ↓reduceIte, Int.reduceEq, Int.reduceLT, Int.reduceLE, Int.reduceAdd, Int.reduceSub, Int.reduceMul, Int.reduceNeg, Int.reduceToNat, Nat.reduceLT, Nat.reduceAdd, Nat.reduceEqDiff, List.length_cons, List.length_nil]
        exact ih
    · rw [if_neg (fun q => c1 q.1)] at ih
      rw [if_pos (fun q => c1 (bi_0.mp q))]
      simp (disch := omega) only [r45_67, r45_70, sw_ldi, sw_ldl, sw_lda, sw_has1, sw_i1, sw_i2, sw_l1, sw_l2, sw_li, sw_r1, sw_ri, sw_rix, sw_rv, sw_pop, sw_set1, sw_set2, List.set_cons_zero, List.set_cons_succ, List.getElem?_cons_zero, List.getElem?_cons_succ, ald_1, ald_2, ast_1, ast_2, aln_1, aln_2, gf_1, gf_2, pf_1, pf_2, nw_1, ck_0, ck_1, ck_2, ck_3, ck_4, rr_1, rc_1, rc_2, K_i, K_l, K_v, I_add, I_sub, I_mul, I_div, I_em, I_eq0, I_lt0, I_0lt, I_le0, I_0le, I_eq, I_lt, I_le, I_a1, I_r1, I_eq1, I32_at, I32_s, Int.toNat_natCast, List.set_cons_zero, reduceCtorEq, not_false_eq_true, not_true_eq_false, false_and, true_and, and_true, and_false, false_or, true_or, or_true, or_false, if_true, if_false, eq_self, ↓reduceIte, Int.reduceEq, Int.reduceLT, Int.reduceLE, Int.reduceAdd, Int.reduceSub, Int.reduceMul, Int.reduceNeg, Int.reduceToNat, Nat.reduceLT, Nat.reduceAdd, Nat.reduceEqDiff, List.length_cons, List.length_nil]
      exact ih
theorem m45_w {k : Int} {sh w : Nat → Int} (k0 : 1 ≤ k) (k1 : k ≤ 4) (hs : ∀ t, t < 36 → bi (hb shut t) = sh t) (hw : B01 w) : ∀ (d n : Nat) (all : Int64) (x10 x12 : Option Value), n + d = 36 → ((x10 = none ∧ x12 = none) ∨ ∃ l z, x10 = some (.long l) ∧ x12 = some (.int z)) → (∀ t, t < 36 → bi (hb all t) = fsq k sh w n t) → (∀ i, i < n → ¬ stb k sh (fsq k sh w i)) → ∃ (all2 : Int64) (n2 : Nat) (y10 y12 : Option Value), n2 ≤ 36 ∧ (∃ l z, y10 = some (.long l) ∧ y12 = some (.int z)) ∧ FD k sh w (sm (fun t => bi (hb all2 t)) 36) n2 ∧ sw_A 45 18 [some o, some (.long shut), none, some (.long wet), none, some (.int (Int32.ofInt k)), some (.long all), none, some (.int (Int32.ofInt n)), some (.int (Int32.ofInt 1)), x10, none, x12] [] H Q = sw_A 45 110 [some o, some (.long shut), none, some (.long wet), none, some (.int (Int32.ofInt k)), some (.long all2), none, some (.int (Int32.ofInt n2)), some (.int (Int32.ofInt 0)), y10, none, y12] [] H Q := by
  intro d
  induction d with
  | zero =>
    intro n all x10 x12 hd hx hf hn
    have e : n = 36 := hd
    subst e
    have fb := fsq_b (k := k) (sh := sh) hw 36
    have s1 := fsq_n hw 36 hn
    have s2 := sm_b 36 fb
    have st := full_st (k := k) (sh := sh) fb (by omega)
    obtain ⟨v1, v2⟩ := flk_n (k := k) hs hf
    have ea := v2.mpr st
    refine ⟨all, 36, some (.long all), some (.int (Int32.ofInt 36)), Nat.le_refl _, ⟨_, _, rfl, rfl⟩, ⟨hn, st, sm_c 36 hf⟩, ?_⟩
    have sl := m45_s (H := H) (Q := Q) (o := o) (wet := wet) (shut := shut) (all := all) (r := Int32.ofInt ((36 : Nat) : Int)) (m := Int32.ofInt 1) k0 k1 36 0 (by omega)
    have f0 : flk k shut all 0 = all := rfl
    rw [ea, f0] at sl
    rw [r45_18]
    rcases hx with ⟨rfl, rfl⟩ | ⟨l, z, rfl, rfl⟩ <;>
    · simp (disch := omega) only [r45_20, r45_23, r45_25, r45_27, r45_28, sw_ldi, sw_ldl, sw_lda, sw_has1, sw_i1, sw_i2, sw_l1, sw_l2, sw_li, sw_r1, sw_ri, sw_rix, sw_rv, sw_pop, sw_set1, sw_set2, List.set_cons_zero, List.set_cons_succ, List.getElem?_cons_zero, List.getElem?_cons_succ, ald_1, ald_2, ast_1, ast_2, aln_1, aln_2, gf_1, gf_2, pf_1, pf_2, nw_1, ck_0, ck_1, ck_2, ck_3, ck_4, rr_1, rc_1, rc_2, K_i, K_l, K_v, I_add, I_sub, I_mul, I_div, I_em, I_eq0, I_lt0, I_0lt, I_le0, I_0le, I_eq, I_lt, I_le, I_a1, I_r1, I_eq1, I32_at, I32_s, Int.toNat_natCast, List.set_cons_zero, reduceCtorEq, not_false_eq_true, not_true_eq_false, false_and, true_and, and_true, and_false, false_or, true_or, or_true, or_false, if_true, if_false, eq_self, ↓reduceIte, Int.reduceEq, Int.reduceLT, Int.reduceLE, Int.reduceAdd, Int.reduceSub, Int.reduceMul, Int.reduceNeg, Int.reduceToNat, Nat.reduceLT, Nat.reduceAdd, Nat.reduceEqDiff, List.length_cons, List.length_nil]
      refine Eq.trans sl ?_
      simp (disch := omega) only [r45_73, r45_75, r45_77, sw_ldi, sw_ldl, sw_lda, sw_has1, sw_i1, sw_i2, sw_l1, sw_l2, sw_li, sw_r1, sw_ri, sw_rix, sw_rv, sw_pop, sw_set1, sw_set2, List.set_cons_zero, List.set_cons_succ, List.getElem?_cons_zero, List.getElem?_cons_succ, ald_1, ald_2, ast_1, ast_2, aln_1, aln_2, gf_1, gf_2, pf_1, pf_2, nw_1, ck_0, ck_1, ck_2, ck_3, ck_4, rr_1, rc_1, rc_2, K_i, K_l, K_v, I_add, I_sub, I_mul, I_div, I_em, I_eq0, I_lt0, I_0lt, I_le0, I_0le, I_eq, I_lt, I_le, I_a1, I_r1, I_eq1, I32_at, I32_s, Int.toNat_natCast, List.set_cons_zero, reduceCtorEq, not_false_eq_true, not_true_eq_false, false_and, true_and, and_true, and_false, false_or, true_or, or_true, or_false, if_true, if_false, eq_self, ↓reduceIte, Int.reduceEq, Int.reduceLT, Int.reduceLE, Int.reduceAdd, Int.reduceSub, Int.reduceMul, Int.reduceNeg, Int.reduceToNat, Nat.reduceLT, Nat.reduceAdd, Nat.reduceEqDiff, List.length_cons, List.length_nil]
      rw [r45_78]
      simp only [sw_i1]
      rw [if_pos ((lg_0 _ _).mpr rfl)]
      simp (disch := omega) only [r45_85, r45_86, r45_88, r45_90, r45_92, r45_95, r45_96, r45_99, r45_100, r45_101, r45_103, r45_105, r45_107, sw_ldi, sw_ldl, sw_lda, sw_has1, sw_i1, sw_i2, sw_l1, sw_l2, sw_li, sw_r1, sw_ri, sw_rix, sw_rv, sw_pop, sw_set1, sw_set2, List.set_cons_zero, List.set_cons_succ, List.getElem?_cons_zero, List.getElem?_cons_succ, ald_1, ald_2, ast_1, ast_2, aln_1, aln_2, gf_1, gf_2, pf_1, pf_2, nw_1, ck_0, ck_1, ck_2, ck_3, ck_4, rr_1, rc_1, rc_2, K_i, K_l, K_v, I_add, I_sub, I_mul, I_div, I_em, I_eq0, I_lt0, I_0lt, I_le0, I_0le, I_eq, I_lt, I_le, I_a1, I_r1, I_eq1, I32_at, I32_s, Int.toNat_natCast, List.set_cons_zero, reduceCtorEq, not_false_eq_true, not_true_eq_false, false_and, true_and, and_true, and_false, false_or, true_or, or_true, or_false, if_true, if_false, eq_self, ↓reduceIte, Int.reduceEq, Int.reduceLT, Int.reduceLE, Int.reduceAdd, Int.reduceSub, Int.reduceMul, Int.reduceNeg, Int.reduceToNat, Nat.reduceLT, Nat.reduceAdd, Nat.reduceEqDiff, List.length_cons, List.length_nil, Int.add_zero]
      rw [r45_18]
      simp (disch := omega) only [r45_20, sw_ldi, sw_ldl, sw_lda, sw_has1, sw_i1, sw_i2, sw_l1, sw_l2, sw_li, sw_r1, sw_ri, sw_rix, sw_rv, sw_pop, sw_set1, sw_set2, List.set_cons_zero, List.set_cons_succ, List.getElem?_cons_zero, List.getElem?_cons_succ, ald_1, ald_2, ast_1, ast_2, aln_1, aln_2, gf_1, gf_2, pf_1, pf_2, nw_1, ck_0, ck_1, ck_2, ck_3, ck_4, rr_1, rc_1, rc_2, K_i, K_l, K_v, I_add, I_sub, I_mul, I_div, I_em, I_eq0, I_lt0, I_0lt, I_le0, I_0le, I_eq, I_lt, I_le, I_a1, I_r1, I_eq1, I32_at, I32_s, Int.toNat_natCast, List.set_cons_zero, reduceCtorEq, not_false_eq_true, not_true_eq_false, false_and, true_and, and_true, and_false, false_or, true_or, or_true, or_false, if_true, if_false, eq_self, ↓reduceIte, Int.reduceEq, Int.reduceLT, Int.reduceLE, Int.reduceAdd, Int.reduceSub, Int.reduceMul, Int.reduceNeg, Int.reduceToNat, Nat.reduceLT, Nat.reduceAdd, Nat.reduceEqDiff, List.length_cons, List.length_nil]
  | succ d ih =>
    intro n all x10 x12 hd hx hf hn
    obtain ⟨v1, v2⟩ := flk_n (k := k) hs hf
    have sl := m45_s (H := H) (Q := Q) (o := o) (wet := wet) (shut := shut) (all := all) (r := Int32.ofInt (n : Int)) (m := Int32.ofInt 1) k0 k1 36 0 (by omega)
    have f0 : flk k shut all 0 = all := rfl
    rw [f0] at sl
    by_cases st : stb k sh (fsq k sh w n)
    · have ea := v2.mpr st
      rw [ea] at sl
      refine ⟨all, n, some (.long all), some (.int (Int32.ofInt 36)), by omega, ⟨_, _, rfl, rfl⟩, ⟨hn, st, sm_c 36 hf⟩, ?_⟩
      rw [r45_18]
      rcases hx with ⟨rfl, rfl⟩ | ⟨l, z, rfl, rfl⟩ <;>
      · simp (disch := omega) only [r45_20, r45_23, r45_25, r45_27, r45_28, sw_ldi, sw_ldl, sw_lda, sw_has1, sw_i1, sw_i2, sw_l1, sw_l2, sw_li, sw_r1, sw_ri, sw_rix, sw_rv, sw_pop, sw_set1, sw_set2, List.set_cons_zero, List.set_cons_succ, List.getElem?_cons_zero, List.getElem?_cons_succ, ald_1, ald_2, ast_1, ast_2, aln_1, aln_2, gf_1, gf_2, pf_1, pf_2, nw_1, ck_0, ck_1, ck_2, ck_3, ck_4, rr_1, rc_1, rc_2, K_i, K_l, K_v, I_add, I_sub, I_mul, I_div, I_em, I_eq0, I_lt0, I_0lt, I_le0, I_0le, I_eq, I_lt, I_le, I_a1, I_r1, I_eq1, I32_at, I32_s, Int.toNat_natCast, List.set_cons_zero, reduceCtorEq, not_false_eq_true, not_true_eq_false, false_and, true_and, and_true, and_false, false_or, true_or, or_true, or_false, if_true, if_false, eq_self, ↓reduceIte, Int.reduceEq, Int.reduceLT, Int.reduceLE, Int.reduceAdd, Int.reduceSub, Int.reduceMul, Int.reduceNeg, Int.reduceToNat, Nat.reduceLT, Nat.reduceAdd, Nat.reduceEqDiff, List.length_cons, List.length_nil]
        refine Eq.trans sl ?_
        simp (disch := omega) only [r45_73, r45_75, r45_77, sw_ldi, sw_ldl, sw_lda, sw_has1, sw_i1, sw_i2, sw_l1, sw_l2, sw_li, sw_r1, sw_ri, sw_rix, sw_rv, sw_pop, sw_set1, sw_set2, List.set_cons_zero, List.set_cons_succ, List.getElem?_cons_zero, List.getElem?_cons_succ, ald_1, ald_2, ast_1, ast_2, aln_1, aln_2, gf_1, gf_2, pf_1, pf_2, nw_1, ck_0, ck_1, ck_2, ck_3, ck_4, rr_1, rc_1, rc_2, K_i, K_l, K_v, I_add, I_sub, I_mul, I_div, I_em, I_eq0, I_lt0, I_0lt, I_le0, I_0le, I_eq, I_lt, I_le, I_a1, I_r1, I_eq1, I32_at, I32_s, Int.toNat_natCast, List.set_cons_zero, reduceCtorEq, not_false_eq_true, not_true_eq_false, false_and, true_and, and_true, and_false, false_or, true_or, or_true, or_false, if_true, if_false, eq_self, ↓reduceIte, Int.reduceEq, Int.reduceLT, Int.reduceLE, Int.reduceAdd, Int.reduceSub, Int.reduceMul, Int.reduceNeg, Int.reduceToNat, Nat.reduceLT, Nat.reduceAdd, Nat.reduceEqDiff, List.length_cons, List.length_nil]
        rw [r45_78]
        simp only [sw_i1]
        rw [if_pos ((lg_0 _ _).mpr rfl)]
        simp (disch := omega) only [r45_85, r45_86, r45_88, r45_90, r45_92, r45_95, r45_96, r45_99, r45_100, r45_101, r45_103, r45_105, r45_107, sw_ldi, sw_ldl, sw_lda, sw_has1, sw_i1, sw_i2, sw_l1, sw_l2, sw_li, sw_r1, sw_ri, sw_rix, sw_rv, sw_pop, sw_set1, sw_set2, List.set_cons_zero, List.set_cons_succ, List.getElem?_cons_zero, List.getElem?_cons_succ, ald_1, ald_2, ast_1, ast_2, aln_1, aln_2, gf_1, gf_2, pf_1, pf_2, nw_1, ck_0, ck_1, ck_2, ck_3, ck_4, rr_1, rc_1, rc_2, K_i, K_l, K_v, I_add, I_sub, I_mul, I_div, I_em, I_eq0, I_lt0, I_0lt, I_le0, I_0le, I_eq, I_lt, I_le, I_a1, I_r1, I_eq1, I32_at, I32_s, Int.toNat_natCast, List.set_cons_zero, reduceCtorEq, not_false_eq_true, not_true_eq_false, false_and, true_and, and_true, and_false, false_or, true_or, or_true, or_false, if_true, if_false, eq_self, ↓reduceIte, Int.reduceEq, Int.reduceLT, Int.reduceLE, Int.reduceAdd, Int.reduceSub, Int.reduceMul, Int.reduceNeg, Int.reduceToNat, Nat.reduceLT, Nat.reduceAdd, Nat.reduceEqDiff, List.length_cons, List.length_nil, Int.add_zero]
        rw [r45_18]
        simp (disch := omega) only [r45_20, sw_ldi, sw_ldl, sw_lda, sw_has1, sw_i1, sw_i2, sw_l1, sw_l2, sw_li, sw_r1, sw_ri, sw_rix, sw_rv, sw_pop, sw_set1, sw_set2, List.set_cons_zero, List.set_cons_succ, List.getElem?_cons_zero, List.getElem?_cons_succ, ald_1, ald_2, ast_1, ast_2, aln_1, aln_2, gf_1, gf_2, pf_1, pf_2, nw_1, ck_0, ck_1, ck_2, ck_3, ck_4, rr_1, rc_1, rc_2, K_i, K_l, K_v, I_add, I_sub, I_mul, I_div, I_em, I_eq0, I_lt0, I_0lt, I_le0, I_0le, I_eq, I_lt, I_le, I_a1, I_r1, I_eq1, I32_at, I32_s, Int.toNat_natCast, List.set_cons_zero, reduceCtorEq, not_false_eq_true, not_true_eq_false, false_and, true_and, and_true, and_false, false_or, true_or, or_true, or_false, if_true, if_false, eq_self, ↓reduceIte, Int.reduceEq, Int.reduceLT, Int.reduceLE, Int.reduceAdd, Int.reduceSub, Int.reduceMul, Int.reduceNeg, Int.reduceToNat, Nat.reduceLT, Nat.reduceAdd, Nat.reduceEqDiff, List.length_cons, List.length_nil]
    · have ea : ¬ flk k shut all 36 = all := fun q => st (v2.mp q)
      obtain ⟨all2, n2, y10, y12, g1, g2, g3, g4⟩ := ih (n + 1) (flk k shut all 36) (some (.long (flk k shut all 36))) (some (.int (Int32.ofInt 36))) (by omega) (Or.inr ⟨_, _, rfl, rfl⟩) v1 (fun i hi2 => by
        by_cases z : i = n
        · rw [z]; exact st
        · exact hn i (by omega))
      refine ⟨all2, n2, y10, y12, g1, g2, g3, Eq.trans ?_ g4⟩
      rw [r45_18]
      rcases hx with ⟨rfl, rfl⟩ | ⟨l, z, rfl, rfl⟩ <;>
      · simp (disch := omega) only [r45_20, r45_23, r45_25, r45_27, r45_28, sw_ldi, sw_ldl, sw_lda, sw_has1, sw_i1, sw_i2, sw_l1, sw_l2, sw_li, sw_r1, sw_ri, sw_rix, sw_rv, sw_pop, sw_set1, sw_set2, List.set_cons_zero, List.set_cons_succ, List.getElem?_cons_zero, List.getElem?_cons_succ, ald_1, ald_2, ast_1, ast_2, aln_1, aln_2, gf_1, gf_2, pf_1, pf_2, nw_1, ck_0, ck_1, ck_2, ck_3, ck_4, rr_1, rc_1, rc_2, K_i, K_l, K_v, I_add, I_sub, I_mul, I_div, I_em, I_eq0, I_lt0, I_0lt, I_le0, I_0le, I_eq, I_lt, I_le, I_a1, I_r1, I_eq1, I32_at, I32_s, Int.toNat_natCast, List.set_cons_zero, reduceCtorEq, not_false_eq_true, not_true_eq_false, false_and, true_and, and_true, and_false, false_or, true_or, or_true, or_false, if_true, if_false, eq_self, ↓reduceIte, Int.reduceEq, Int.reduceLT, Int.reduceLE, Int.reduceAdd, Int.reduceSub, Int.reduceMul, Int.reduceNeg, Int.reduceToNat, Nat.reduceLT, Nat.reduceAdd, Nat.reduceEqDiff, List.length_cons, List.length_nil]
        refine Eq.trans sl ?_
        simp (disch := omega) only [r45_73, r45_75, r45_77, sw_ldi, sw_ldl, sw_lda, sw_has1, sw_i1, sw_i2, sw_l1, sw_l2, sw_li, sw_r1, sw_ri, sw_rix, sw_rv, sw_pop, sw_set1, sw_set2, List.set_cons_zero, List.set_cons_succ, List.getElem?_cons_zero, List.getElem?_cons_succ, ald_1, ald_2, ast_1, ast_2, aln_1, aln_2, gf_1, gf_2, pf_1, pf_2, nw_1, ck_0, ck_1, ck_2, ck_3, ck_4, rr_1, rc_1, rc_2, K_i, K_l, K_v, I_add, I_sub, I_mul, I_div, I_em, I_eq0, I_lt0, I_0lt, I_le0, I_0le, I_eq, I_lt, I_le, I_a1, I_r1, I_eq1, I32_at, I32_s, Int.toNat_natCast, List.set_cons_zero, reduceCtorEq, not_false_eq_true, not_true_eq_false, false_and, true_and, and_true, and_false, false_or, true_or, or_true, or_false, if_true, if_false, eq_self, ↓reduceIte, Int.reduceEq, Int.reduceLT, Int.reduceLE, Int.reduceAdd, Int.reduceSub, Int.reduceMul, Int.reduceNeg, Int.reduceToNat, Nat.reduceLT, Nat.reduceAdd, Nat.reduceEqDiff, List.length_cons, List.length_nil]
        rw [r45_78]
        simp only [sw_i1]
        rw [if_neg (fun q => ea ((lg_0 _ _).mp q))]
        simp (disch := omega) only [r45_81, r45_82, r45_85, r45_86, r45_88, r45_90, r45_92, r45_95, r45_96, r45_99, r45_100, r45_101, r45_103, r45_105, r45_107, sw_ldi, sw_ldl, sw_lda, sw_has1, sw_i1, sw_i2, sw_l1, sw_l2, sw_li, sw_r1, sw_ri, sw_rix, sw_rv, sw_pop, sw_set1, sw_set2, List.set_cons_zero, List.set_cons_succ, List.getElem?_cons_zero, List.getElem?_cons_succ, ald_1, ald_2, ast_1, ast_2, aln_1, aln_2, gf_1, gf_2, pf_1, pf_2, nw_1, ck_0, ck_1, ck_2, ck_3, ck_4, rr_1, rc_1, rc_2, K_i, K_l, K_v, I_add, I_sub, I_mul, I_div, I_em, I_eq0, I_lt0, I_0lt, I_le0, I_0le, I_eq, I_lt, I_le, I_a1, I_r1, I_eq1, I32_at, I32_s, Int.toNat_natCast, List.set_cons_zero, reduceCtorEq, not_false_eq_true, not_true_eq_false, false_and, true_and, and_true, and_false, false_or, true_or, or_true, or_false, if_true, if_false, eq_self, ↓reduceIte, Int.reduceEq, Int.reduceLT, Int.reduceLE, Int.reduceAdd, Int.reduceSub, Int.reduceMul, Int.reduceNeg, Int.reduceToNat, Nat.reduceLT, Nat.reduceAdd, Nat.reduceEqDiff, List.length_cons, List.length_nil]
        rfl
theorem m45_k (hL : Lw A shut) (hw : ∀ t, t < 36 → bi (hb wet t) = A 10 t) : ∀ (d k : Nat) (B : Nat → Nat → Int) (G : Nat → Int) (x6 x8 x9 x10 x12 : Option Value), k + d = 5 → 1 ≤ k → ((x6 = none ∧ x8 = none ∧ x9 = none ∧ x10 = none ∧ x12 = none) ∨ ∃ l z1 z2 m z3, x6 = some (.long l) ∧ x8 = some (.int z1) ∧ x9 = some (.int z2) ∧ x10 = some (.long m) ∧ x12 = some (.int z3)) → Fm A B → G 0 = F 0 → (∀ (B : Nat → Nat → Int) (G : Nat → Int), Fm A B → G 0 = F 0 → Q (some (some (.int (Int32.ofInt 1)))) (sw_h L B G T X)) →
    sw_A 45 3 [some (.ref 1), some (.long shut), none, some (.long wet), none, some (.int (Int32.ofInt k)), x6, none, x8, x9, x10, none, x12] [] (sw_h L B G T X) Q := by
  have h10 : B01 (A 10) := fun t ht => by rw [← hw t ht]; exact bi_b _
  intro d
  induction d with
  | zero =>
    intro k B G x6 x8 x9 x10 x12 hk k1 hx fm a hQ
    have e : k = 5 := hk
    subst e
    rw [r45_3]
    simp (disch := omega) only [r45_5, r45_6, r45_145, r45_146, sw_ldi, sw_ldl, sw_lda, sw_has1, sw_i1, sw_i2, sw_l1, sw_l2, sw_li, sw_r1, sw_ri, sw_rix, sw_rv, sw_pop, sw_set1, sw_set2, List.set_cons_zero, List.set_cons_succ, List.getElem?_cons_zero, List.getElem?_cons_succ, ald_1, ald_2, ast_1, ast_2, aln_1, aln_2, gf_1, gf_2, pf_1, pf_2, nw_1, ck_0, ck_1, ck_2, ck_3, ck_4, rr_1, rc_1, rc_2, K_i, K_l, K_v, I_add, I_sub, I_mul, I_div, I_em, I_eq0, I_lt0, I_0lt, I_le0, I_0le, I_eq, I_lt, I_le, I_a1, I_r1, I_eq1, I32_at, I32_s, Int.toNat_natCast, List.set_cons_zero, reduceCtorEq, not_false_eq_true, not_true_eq_false, false_and, true_and, and_true, and_false, false_or, true_or, or_true, or_false, if_true, if_false, eq_self, ↓reduceIte, Int.reduceEq, Int.reduceLT, Int.reduceLE, Int.reduceAdd, Int.reduceSub, Int.reduceMul, Int.reduceNeg, Int.reduceToNat, Nat.reduceLT, Nat.reduceAdd, Nat.reduceEqDiff, List.length_cons, List.length_nil, Int.le_refl]
    exact hQ B G fm a
  | succ d ih =>
    intro k B G x6 x8 x9 x10 x12 hk k1 hx fm a hQ
    have e10 : B 10 = A 10 := fm.2.2.2.2.1
    have e9 : B 9 = A 9 := fm.2.2.2.1
    have hs := Lw_sh hL
    have key : ∀ x10 x12 : Option Value, ((x10 = none ∧ x12 = none) ∨ ∃ l z, x10 = some (.long l) ∧ x12 = some (.int z)) → sw_A 45 18 [some (.ref 1), some (.long shut), none, some (.long wet), none, some (.int (Int32.ofInt k)), some (.long wet), none, some (.int (Int32.ofInt ((0 : Nat) : Int))), some (.int (Int32.ofInt 1)), x10, none, x12] [] (sw_h L B G T X) Q := fun x10 x12 hx2 => by
      obtain ⟨all2, n2, y10, y12, g1, g2, g3, g4⟩ := m45_w (H := sw_h L B G T X) (Q := Q) (o := .ref 1) (wet := wet) (k := k) (by omega) (by omega) hs h10 36 0 wet x10 x12 (by omega) hx2 hw (fun i hi2 => absurd hi2 (Nat.not_lt_zero _))
      have sb := sm_b (g := fun t => bi (hb all2 t)) 36 fun t _ => bi_b _
      refine cast (Eq.symm g4) ?_
      simp (disch := omega) only [r45_110, r45_111, r45_113, r45_114, sw_ldi, sw_ldl, sw_lda, sw_has1, sw_i1, sw_i2, sw_l1, sw_l2, sw_li, sw_r1, sw_ri, sw_rix, sw_rv, sw_pop, sw_set1, sw_set2, List.set_cons_zero, List.set_cons_succ, List.getElem?_cons_zero, List.getElem?_cons_succ, ald_1, ald_2, ast_1, ast_2, aln_1, aln_2, gf_1, gf_2, pf_1, pf_2, nw_1, ck_0, ck_1, ck_2, ck_3, ck_4, rr_1, rc_1, rc_2, K_i, K_l, K_v, I_add, I_sub, I_mul, I_div, I_em, I_eq0, I_lt0, I_0lt, I_le0, I_0le, I_eq, I_lt, I_le, I_a1, I_r1, I_eq1, I32_at, I32_s, Int.toNat_natCast, List.set_cons_zero, reduceCtorEq, not_false_eq_true, not_true_eq_false, false_and, true_and, and_true, and_false, false_or, true_or, or_true, or_false, if_true, if_false, eq_self, ↓reduceIte, Int.reduceEq, Int.reduceLT, Int.reduceLE, Int.reduceAdd, Int.reduceSub, Int.reduceMul, Int.reduceNeg, Int.reduceToNat, Nat.reduceLT, Nat.reduceAdd, Nat.reduceEqDiff, List.length_cons, List.length_nil, h_1]
      refine m44 (by rw [e10]; exact h10) (by rw [e9]; exact hL.1.2.2) (by omega) (by omega) (Or.inl rfl) fun B2 G2 c n fd f2 a2 => ?_
      rw [e9, e10] at fd
      obtain ⟨u1, u2⟩ := FD_u fd g3
      subst u1
      subst u2
      rw [if_pos rfl]
      simp (disch := omega) only [r45_117, r45_119, r45_122, r45_125, r45_126, r45_128, r45_129, sw_ldi, sw_ldl, sw_lda, sw_has1, sw_i1, sw_i2, sw_l1, sw_l2, sw_li, sw_r1, sw_ri, sw_rix, sw_rv, sw_pop, sw_set1, sw_set2, List.set_cons_zero, List.set_cons_succ, List.getElem?_cons_zero, List.getElem?_cons_succ, ald_1, ald_2, ast_1, ast_2, aln_1, aln_2, gf_1, gf_2, pf_1, pf_2, nw_1, ck_0, ck_1, ck_2, ck_3, ck_4, rr_1, rc_1, rc_2, K_i, K_l, K_v, I_add, I_sub, I_mul, I_div, I_em, I_eq0, I_lt0, I_0lt, I_le0, I_0le, I_eq, I_lt, I_le, I_a1, I_r1, I_eq1, I32_at, I32_s, Int.toNat_natCast, List.set_cons_zero, reduceCtorEq, not_false_eq_true, not_true_eq_false, false_and, true_and, and_true, and_false, false_or, true_or, or_true, or_false, if_true, if_false, eq_self, ↓reduceIte, Int.reduceEq, Int.reduceLT, Int.reduceLE, Int.reduceAdd, Int.reduceSub, Int.reduceMul, Int.reduceNeg, Int.reduceToNat, Nat.reduceLT, Nat.reduceAdd, Nat.reduceEqDiff, List.length_cons, List.length_nil, m37, h_1]
      have fm2 := Fm_t fm f2
      have d10 : B2 10 = A 10 := fm2.2.2.2.2.1
      have d9 : B2 9 = A 9 := fm2.2.2.2.1
      refine m44 (by rw [d10]; exact h10) (by rw [d9]; exact hL.1.2.2) (by omega) (by omega) (Or.inr rfl) fun B3 G3 c3 n3 fd3 f3 a3 => ?_
      rw [d9, d10] at fd3
      obtain ⟨-, u4⟩ := FD_u fd3 g3
      subst u4
      rw [if_neg (by decide)]
      simp (disch := omega) only [r45_132, r45_134, r45_137, r45_138, r45_139, r45_142, sw_ldi, sw_ldl, sw_lda, sw_has1, sw_i1, sw_i2, sw_l1, sw_l2, sw_li, sw_r1, sw_ri, sw_rix, sw_rv, sw_pop, sw_set1, sw_set2, List.set_cons_zero, List.set_cons_succ, List.getElem?_cons_zero, List.getElem?_cons_succ, ald_1, ald_2, ast_1, ast_2, aln_1, aln_2, gf_1, gf_2, pf_1, pf_2, nw_1, ck_0, ck_1, ck_2, ck_3, ck_4, rr_1, rc_1, rc_2, K_i, K_l, K_v, I_add, I_sub, I_mul, I_div, I_em, I_eq0, I_lt0, I_0lt, I_le0, I_0le, I_eq, I_lt, I_le, I_a1, I_r1, I_eq1, I32_at, I32_s, Int.toNat_natCast, List.set_cons_zero, reduceCtorEq, not_false_eq_true, not_true_eq_false, false_and, true_and, and_true, and_false, false_or, true_or, or_true, or_false, if_true, if_false, eq_self, ↓reduceIte, Int.reduceEq, Int.reduceLT, Int.reduceLE, Int.reduceAdd, Int.reduceSub, Int.reduceMul, Int.reduceNeg, Int.reduceToNat, Nat.reduceLT, Nat.reduceAdd, Nat.reduceEqDiff, List.length_cons, List.length_nil]
      refine ih (k + 1) B3 G3 _ _ _ _ _ (by omega) (by omega) ?_ (Fm_t fm2 f3) (by rw [a3, a2, a]) hQ
      obtain ⟨l, z, rfl, rfl⟩ := g2
      · exact Or.inr ⟨_, _, _, _, _, rfl, rfl, rfl, rfl, rfl⟩
    rw [r45_3]
    rcases hx with ⟨rfl, rfl, rfl, rfl, rfl⟩ | ⟨l, z1, z2, m, z3, rfl, rfl, rfl, rfl, rfl⟩
    · simp (disch := omega) only [r45_5, r45_6, r45_9, r45_10, r45_12, r45_13, r45_15, r45_16, sw_ldi, sw_ldl, sw_lda, sw_has1, sw_i1, sw_i2, sw_l1, sw_l2, sw_li, sw_r1, sw_ri, sw_rix, sw_rv, sw_pop, sw_set1, sw_set2, List.set_cons_zero, List.set_cons_succ, List.getElem?_cons_zero, List.getElem?_cons_succ, ald_1, ald_2, ast_1, ast_2, aln_1, aln_2, gf_1, gf_2, pf_1, pf_2, nw_1, ck_0, ck_1, ck_2, ck_3, ck_4, rr_1, rc_1, rc_2, K_i, K_l, K_v, I_add, I_sub, I_mul, I_div, I_em, I_eq0, I_lt0, I_0lt, I_le0, I_0le, I_eq, I_lt, I_le, I_a1, I_r1, I_eq1, I32_at, I32_s, Int.toNat_natCast, List.set_cons_zero, reduceCtorEq, not_false_eq_true, not_true_eq_false, false_and, true_and, and_true, and_false, false_or, true_or, or_true, or_false, if_true, if_false, eq_self, ↓reduceIte, Int.reduceEq, Int.reduceLT, Int.reduceLE, Int.reduceAdd, Int.reduceSub, Int.reduceMul, Int.reduceNeg, Int.reduceToNat, Nat.reduceLT, Nat.reduceAdd, Nat.reduceEqDiff, List.length_cons, List.length_nil]
      rw [if_neg (by omega)]
      exact key none none (Or.inl ⟨rfl, rfl⟩)
    · simp (disch := omega) only [r45_5, r45_6, r45_9, r45_10, r45_12, r45_13, r45_15, r45_16, sw_ldi, sw_ldl, sw_lda, sw_has1, sw_i1, sw_i2, sw_l1, sw_l2, sw_li, sw_r1, sw_ri, sw_rix, sw_rv, sw_pop, sw_set1, sw_set2, List.set_cons_zero, List.set_cons_succ, List.getElem?_cons_zero, List.getElem?_cons_succ, ald_1, ald_2, ast_1, ast_2, aln_1, aln_2, gf_1, gf_2, pf_1, pf_2, nw_1, ck_0, ck_1, ck_2, ck_3, ck_4, rr_1, rc_1, rc_2, K_i, K_l, K_v, I_add, I_sub, I_mul, I_div, I_em, I_eq0, I_lt0, I_0lt, I_le0, I_0le, I_eq, I_lt, I_le, I_a1, I_r1, I_eq1, I32_at, I32_s, Int.toNat_natCast, List.set_cons_zero, reduceCtorEq, not_false_eq_true, not_true_eq_false, false_and, true_and, and_true, and_false, false_or, true_or, or_true, or_false, if_true, if_false, eq_self, ↓reduceIte, Int.reduceEq, Int.reduceLT, Int.reduceLE, Int.reduceAdd, Int.reduceSub, Int.reduceMul, Int.reduceNeg, Int.reduceToNat, Nat.reduceLT, Nat.reduceAdd, Nat.reduceEqDiff, List.length_cons, List.length_nil]
      rw [if_neg (by omega)]
      exact key _ _ (Or.inr ⟨_, _, rfl, rfl⟩)
/-- filling -/
theorem m45 (hL : Lw A shut) (hw : ∀ t, t < 36 → bi (hb wet t) = A 10 t)
    (hQ : ∀ (B : Nat → Nat → Int) (G : Nat → Int), Fm A B → G 0 = F 0 → Q (some (some (.int (Int32.ofInt 1)))) (sw_h L B G T X)) :
    sw_M 45 [.ref 1, .long shut, .long wet] (sw_h L A F T X) Q := by
  rw [e45]
  simp (disch := omega) only [r45_0, r45_1, sw_ldi, sw_ldl, sw_lda, sw_has1, sw_i1, sw_i2, sw_l1, sw_l2, sw_li, sw_r1, sw_ri, sw_rix, sw_rv, sw_pop, sw_set1, sw_set2, List.set_cons_zero, List.set_cons_succ, List.getElem?_cons_zero, List.getElem?_cons_succ, ald_1, ald_2, ast_1, ast_2, aln_1, aln_2, gf_1, gf_2, pf_1, pf_2, nw_1, ck_0, ck_1, ck_2, ck_3, ck_4, rr_1, rc_1, rc_2, K_i, K_l, K_v, I_add, I_sub, I_mul, I_div, I_em, I_eq0, I_lt0, I_0lt, I_le0, I_0le, I_eq, I_lt, I_le, I_a1, I_r1, I_eq1, I32_at, I32_s, Int.toNat_natCast, List.set_cons_zero, reduceCtorEq, not_false_eq_true, not_true_eq_false, false_and, true_and, and_true, and_false, false_or, true_or, or_true, or_false, if_true, if_false, eq_self, ↓reduceIte, Int.reduceEq, Int.reduceLT, Int.reduceLE, Int.reduceAdd, Int.reduceSub, Int.reduceMul, Int.reduceNeg, Int.reduceToNat, Nat.reduceLT, Nat.reduceAdd, Nat.reduceEqDiff, List.length_cons, List.length_nil]
  exact m45_k hL hw 4 1 A F none none none none none (by omega) (by omega) (Or.inl ⟨rfl, rfl, rfl, rfl, rfl⟩) (Fm_r A) rfl hQ
end sw_fg
