/-! load -/
theorem brk_PI {st ld wh bo : Nat → Int} {M : Int} (h : ∀ g, g < 12 → 0 ≤ bo g) (hs : Sw wh bo ≤ M) : PI9 (whn st ld wh) (brk st ld wh) bo 0 M := by
  refine ⟨h, ?_⟩
  have e : Sw (whn st ld wh) bo + pdg (brk st ld wh) bo 0 = Sw wh bo := by
    unfold Sw pdg
    rw [← su_add]
    refine su_c 12 fun f hf => ?_
    unfold whn brk
    by_cases c : wh f = 1
    · by_cases d : st f < ld f
      · rw [if_neg (fun q => by rw [if_neg (fun z => z.2 d)] at q; cases q), if_pos ⟨Nat.zero_le _, if_pos ⟨c, d⟩⟩, if_pos c]; omega
      · rw [if_pos (if_pos ⟨c, d⟩), if_neg (fun q => by rw [if_neg (fun z => d z.2)] at q; cases q.2), if_pos c]; omega
    · rw [if_neg (fun q => by rw [if_neg (fun z => c z.1)] at q; cases q), if_neg (fun q => by rw [if_neg (fun z => c z.1)] at q; cases q.2), if_neg c]
      rfl
  omega
theorem PI9_c {wh wh2 br br2 bo bo2 : Nat → Int} {M : Int} {f : Nat} (h1 : ∀ g, g < 12 → wh g = wh2 g) (h2 : ∀ g, g < 12 → br g = br2 g) (h3 : ∀ g, g < 12 → bo g = bo2 g) (h : PI9 wh br bo f M) : PI9 wh2 br2 bo2 f M := by
  refine ⟨fun g hg => by rw [← h3 g hg]; exact h.1 g hg, ?_⟩
  have e1 : Sw wh2 bo2 = Sw wh bo := su_c 12 fun g hg => by rw [h1 g hg, h3 g hg]
  have e2 : pdg br2 bo2 f = pdg br bo f := su_c 12 fun g hg => by rw [h2 g hg, h3 g hg]
  rw [e1, e2]
  exact h.2
theorem Sw_b {wh bo : Nat → Int} {M : Int} (h : ∀ g, g < 12 → 0 ≤ bo g) (hs : Sw wh bo ≤ M) {f : Nat} (hf : f < 12) (w : wh f = 1) : bo f ≤ M := by
  have := su_one (g := fun f => if wh f = 1 then bo f else 0) 12 hf fun i hi2 => by
    have := h i hi2
    split <;> omega
  rw [if_pos w] at this
  unfold Sw at hs
  omega
theorem whx {st ld wh : Nat → Int} {g : Nat} (q1 : whn st ld wh g = 1) : ¬ brk st ld wh g = 1 := fun q2 => by
  unfold whn at q1
  unfold brk at q2
  split at q1
  · next c =>
    rw [if_neg (fun q => c.2 q.2)] at q2
    cases q2
  · cases q1
section sw_le
variable {L : Nat} {A : Nat → Nat → Int} {F : Nat → Int} {T : Nat → sw_Ce} {X : Nat × Nat × Nat} {Q : sw_Ot → sw_HS → Prop}
/-- passOn -/
theorem m60 {M : Int} (hM : M ≤ 30000) (hw : ∀ f, f < 12 → A 44 f = 0 ∨ A 44 f = 1) (hb9 : ∀ f, f < 12 → A 45 f = 0 ∨ A 45 f = 1) (hx : ∀ g, g < 12 → A 44 g = 1 → ¬ A 45 g = 1) (h : PI9 (A 44) (A 45) (A 46) 0 M) : sw_M 60 [.ref 42] (sw_h L A F T X) Q = Q (some none) (sw_h L (sw_s A 46 (pfo (A 44) (A 45) (A 46) 12)) F T X) := by
  have q := m60_l (L := L) (F := F) (T := T) (X := X) (Q := Q) hM hw hb9 hx h 12 0 none none none (by omega)
  have e : pfo (A 44) (A 45) (A 46) 0 = A 46 := rfl
  rw [e, sA_id] at q
  rw [e60]
  simp (disch := omega) only [r60_0, r60_1, sw_ldi, sw_ldl, sw_lda, sw_has1, sw_i1, sw_i2, sw_l1, sw_l2, sw_li, sw_r1, sw_ri, sw_rix, sw_rv, sw_pop, sw_set1, sw_set2, List.set_cons_zero, List.set_cons_succ, List.getElem?_cons_zero, List.getElem?_cons_succ, ald_1, ald_2, ast_1, ast_2, aln_1, aln_2, gf_1, gf_2, pf_1, pf_2, nw_1, ck_0, ck_1, ck_2, ck_3, ck_4, rr_1, rc_1, rc_2, K_i, K_l, K_v, I_add, I_sub, I_mul, I_div, I_em, I_eq0, I_lt0, I_0lt, I_le0, I_0le, I_eq, I_lt, I_le, I_a1, I_r1, I_eq1, I32_at, I32_s, Int.toNat_natCast, List.set_cons_zero, reduceCtorEq, not_false_eq_true, not_true_eq_false, false_and, true_and, and_true, and_false, false_or, true_or, or_true, or_false, if_true, if_false, eq_self, ↓reduceIte, Int.reduceEq, Int.reduceLT, Int.reduceLE, Int.reduceAdd, Int.reduceSub, Int.reduceMul, Int.reduceNeg, Int.reduceToNat, Nat.reduceLT, Nat.reduceAdd, Nat.reduceEqDiff, List.length_cons, List.length_nil]
  exact q
def hY (L : Nat) (A : Nat → Nat → Int) (F : Nat → Int) (T : Nat → sw_Ce) (X : Nat × Nat × Nat) (w b o : Nat → Int) (c : Int) : sw_HS := sw_h L (sw_s (sw_s (sw_s A 44 w) 45 b) 46 o) (sw_s F 14 c) T X
theorem m61_l {load : Int} (hs : SB (A 43)) (l0 : 0 ≤ load) (l9 : load ≤ 30000) : ∀ (n i : Nat) (w b o : Nat → Int), i + n = 12 → (∀ f, f < 12 → w f = (bsq true load (A 43) i).1 f) → (∀ f, f < 12 → o f = (bsq true load (A 43) i).2 f) → (∀ j, j < i → 0 < sm (bsq true load (A 43) j).1 12 ∧ 0 < sm (brk (A 43) (bld true load (bsq true load (A 43) j)) (bsq true load (A 43) j).1) 12) → ∃ (w2 b2 o2 : Nat → Int) (c : Int), BR true load (A 43) (12 - c) ∧ sw_A 61 17 [some (.ref 42), some (.int (Int32.ofInt load)), some (.int (Int32.ofInt i))] [] (hY L A F T X w b o (sm (bsq true load (A 43) i).1 12)) Q = Q (some (some (.int (Int32.ofInt (12 - c))))) (hY L A F T X w2 b2 o2 c)
  | n, i, w, b, o, hn, hw, ho, hp => by
    obtain ⟨f1, f2, f3⟩ := bsq_f (loc := true) (st := A 43) l0 i
    have sb := sm_b 12 f1
    have lim := bsq_n (loc := true) (st := A 43) l0 i fun j hj => (hp j hj).2
    have f14 : sw_s F 14 (sm (bsq true load (A 43) i).1 12) 14 = sm (bsq true load (A 43) i).1 12 := rfl
    by_cases z : sm (bsq true load (A 43) i).1 12 = 0
    · refine ⟨w, b, o, _, ⟨i, hp, Or.inl z, rfl⟩, ?_⟩
      rw [z] at f14 ⊢
      by_cases c12 : i = 12
      · subst c12
        unfold hY
        rw [r61_17]
        simp (disch := omega) only [r61_18, r61_20, r61_50, r61_52, r61_53, r61_56, r61_57, sw_ldi, sw_ldl, sw_lda, sw_has1, sw_i1, sw_i2, sw_l1, sw_l2, sw_li, sw_r1, sw_ri, sw_rix, sw_rv, sw_pop, sw_set1, sw_set2, List.set_cons_zero, List.set_cons_succ, List.getElem?_cons_zero, List.getElem?_cons_succ, ald_1, ald_2, ast_1, ast_2, aln_1, aln_2, gf_1, gf_2, pf_1, pf_2, nw_1, ck_0, ck_1, ck_2, ck_3, ck_4, rr_1, rc_1, rc_2, K_i, K_l, K_v, I_add, I_sub, I_mul, I_div, I_em, I_eq0, I_lt0, I_0lt, I_le0, I_0le, I_eq, I_lt, I_le, I_a1, I_r1, I_eq1, I32_at, I32_s, Int.toNat_natCast, List.set_cons_zero, reduceCtorEq, not_false_eq_true, not_true_eq_false, false_and, true_and, and_true, and_false, false_or, true_or, or_true, or_false, if_true, if_false, eq_self, ↓reduceIte, Int.reduceEq, Int.reduceLT, Int.reduceLE, Int.reduceAdd, Int.reduceSub, Int.reduceMul, Int.reduceNeg, Int.reduceToNat, Nat.reduceLT, Nat.reduceAdd, Nat.reduceEqDiff, List.length_cons, List.length_nil, h_42, f14, Int.le_refl]
        rw [if_pos (by omega)]
      · unfold hY
        rw [r61_17]
        simp (disch := omega) only [r61_18, r61_20, r61_23, r61_24, r61_27, r61_50, r61_52, r61_53, r61_56, r61_57, sw_ldi, sw_ldl, sw_lda, sw_has1, sw_i1, sw_i2, sw_l1, sw_l2, sw_li, sw_r1, sw_ri, sw_rix, sw_rv, sw_pop, sw_set1, sw_set2, List.set_cons_zero, List.set_cons_succ, List.getElem?_cons_zero, List.getElem?_cons_succ, ald_1, ald_2, ast_1, ast_2, aln_1, aln_2, gf_1, gf_2, pf_1, pf_2, nw_1, ck_0, ck_1, ck_2, ck_3, ck_4, rr_1, rc_1, rc_2, K_i, K_l, K_v, I_add, I_sub, I_mul, I_div, I_em, I_eq0, I_lt0, I_0lt, I_le0, I_0le, I_eq, I_lt, I_le, I_a1, I_r1, I_eq1, I32_at, I32_s, Int.toNat_natCast, List.set_cons_zero, reduceCtorEq, not_false_eq_true, not_true_eq_false, false_and, true_and, and_true, and_false, false_or, true_or, or_true, or_false, if_true, if_false, eq_self, ↓reduceIte, Int.reduceEq, Int.reduceLT, Int.reduceLE, Int.reduceAdd, Int.reduceSub, Int.reduceMul, Int.reduceNeg, Int.reduceToNat, Nat.reduceLT, Nat.reduceAdd, Nat.reduceEqDiff, List.length_cons, List.length_nil, h_42, f14]
        rw [if_neg (by omega)]
    · match n, hn with
      | 0, hn => omega
      | n + 1, hn =>
        have hl : ∀ f, f < 12 → w f = 1 → 0 ≤ o f ∧ o f ≤ 30000 := fun f hf q => by
          rw [hw f hf] at q
          rw [ho f hf]
          have := Sw_b f2 f3 hf q
          have := f2 f hf
          omega
        obtain ⟨w1, b1, k1, k2, k3⟩ := m58 (L := L) (A := sw_s (sw_s (sw_s A 44 w) 45 b) 46 o) (F := sw_s F 14 (sm (bsq true load (A 43) i).1 12)) (T := T) (X := X) (Q := sw_K 61 34 none [some (.ref 42), some (.int (Int32.ofInt load)), some (.int (Int32.ofInt i))] [] Q) hs (fun f hf => by show w f = 0 ∨ w f = 1; rw [hw f hf]; exact f1 f hf) hl (by rw [f14]; omega)
        have a43 : sw_s (sw_s (sw_s A 44 w) 45 b) 46 o 43 = A 43 := rfl
        have a44 : sw_s (sw_s (sw_s A 44 w) 45 b) 46 o 44 = w := rfl
        have a46 : sw_s (sw_s (sw_s A 44 w) 45 b) 46 o 46 = o := rfl
        rw [a43, a44, a46] at k1 k2 k3
        have bl : bld true load (bsq true load (A 43) i) = (bsq true load (A 43) i).2 := if_pos rfl
        have es : sm (brk (A 43) o w) 12 = sm (brk (A 43) (bld true load (bsq true load (A 43) i)) (bsq true load (A 43) i).1) 12 := sm_c 12 fun f hf => brk_c rfl (by rw [bl]; exact ho f hf) (hw f hf)
        have bb := sm_b (g := brk (A 43) (bld true load (bsq true load (A 43) i)) (bsq true load (A 43) i).1) 12 fun f _ => brk_b _ _ _ f
        have wsm := wb_sm (st := A 43) (ld := bld true load (bsq true load (A 43) i)) f1 12 (Nat.le_refl _)
        have ca : sw_s (sw_s (sw_s (sw_s (sw_s A 44 w) 45 b) 46 o) 44 w1) 45 b1 = sw_s (sw_s (sw_s A 44 w1) 45 b1) 46 o := by
          funext t
          unfold sw_s
          (repeat' split) <;> first | rfl | (exfalso; omega)
        rw [es, f14, ca, ss] at k3
        by_cases y : sm (brk (A 43) (bld true load (bsq true load (A 43) i)) (bsq true load (A 43) i).1) 12 = 0
        · refine ⟨w1, b1, o, sm (bsq true load (A 43) i).1 12, ⟨i, hp, Or.inr y, rfl⟩, ?_⟩
          rw [y, Int.sub_zero] at k3
          unfold hY
          rw [r61_17]
          simp (disch := omega) only [r61_18, r61_20, r61_23, r61_24, r61_27, sw_ldi, sw_ldl, sw_lda, sw_has1, sw_i1, sw_i2, sw_l1, sw_l2, sw_li, sw_r1, sw_ri, sw_rix, sw_rv, sw_pop, sw_set1, sw_set2, List.set_cons_zero, List.set_cons_succ, List.getElem?_cons_zero, List.getElem?_cons_succ, ald_1, ald_2, ast_1, ast_2, aln_1, aln_2, gf_1, gf_2, pf_1, pf_2, nw_1, ck_0, ck_1, ck_2, ck_3, ck_4, rr_1, rc_1, rc_2, K_i, K_l, K_v, I_add, I_sub, I_mul, I_div, I_em, I_eq0, I_lt0, I_0lt, I_le0, I_0le, I_eq, I_lt, I_le, I_a1, I_r1, I_eq1, I32_at, I32_s, Int.toNat_natCast, List.set_cons_zero, reduceCtorEq, not_false_eq_true, not_true_eq_false, false_and, true_and, and_true, and_false, false_or, true_or, or_true, or_false, if_true, if_false, eq_self, ↓reduceIte, Int.reduceEq, Int.reduceLT, Int.reduceLE, Int.reduceAdd, Int.reduceSub, Int.reduceMul, Int.reduceNeg, Int.reduceToNat, Nat.reduceLT, Nat.reduceAdd, Nat.reduceEqDiff, List.length_cons, List.length_nil, h_42, f14]
          rw [if_neg (by omega), if_neg (by omega)]
          simp (disch := omega) only [r61_30, r61_31, sw_ldi, sw_ldl, sw_lda, sw_has1, sw_i1, sw_i2, sw_l1, sw_l2, sw_li, sw_r1, sw_ri, sw_rix, sw_rv, sw_pop, sw_set1, sw_set2, List.set_cons_zero, List.set_cons_succ, List.getElem?_cons_zero, List.getElem?_cons_succ, ald_1, ald_2, ast_1, ast_2, aln_1, aln_2, gf_1, gf_2, pf_1, pf_2, nw_1, ck_0, ck_1, ck_2, ck_3, ck_4, rr_1, rc_1, rc_2, K_i, K_l, K_v, I_add, I_sub, I_mul, I_div, I_em, I_eq0, I_lt0, I_0lt, I_le0, I_0le, I_eq, I_lt, I_le, I_a1, I_r1, I_eq1, I32_at, I32_s, Int.toNat_natCast, List.set_cons_zero, reduceCtorEq, not_false_eq_true, not_true_eq_false, false_and, true_and, and_true, and_false, false_or, true_or, or_true, or_false, if_true, if_false, eq_self, ↓reduceIte, Int.reduceEq, Int.reduceLT, Int.reduceLE, Int.reduceAdd, Int.reduceSub, Int.reduceMul, Int.reduceNeg, Int.reduceToNat, Nat.reduceLT, Nat.reduceAdd, Nat.reduceEqDiff, List.length_cons, List.length_nil, h_42]
          rw [k3]
          simp (disch := omega) only [r61_34, r61_37, r61_50, r61_52, r61_53, r61_56, r61_57, sw_ldi, sw_ldl, sw_lda, sw_has1, sw_i1, sw_i2, sw_l1, sw_l2, sw_li, sw_r1, sw_ri, sw_rix, sw_rv, sw_pop, sw_set1, sw_set2, List.set_cons_zero, List.set_cons_succ, List.getElem?_cons_zero, List.getElem?_cons_succ, ald_1, ald_2, ast_1, ast_2, aln_1, aln_2, gf_1, gf_2, pf_1, pf_2, nw_1, ck_0, ck_1, ck_2, ck_3, ck_4, rr_1, rc_1, rc_2, K_i, K_l, K_v, I_add, I_sub, I_mul, I_div, I_em, I_eq0, I_lt0, I_0lt, I_le0, I_0le, I_eq, I_lt, I_le, I_a1, I_r1, I_eq1, I32_at, I32_s, Int.toNat_natCast, List.set_cons_zero, reduceCtorEq, not_false_eq_true, not_true_eq_false, false_and, true_and, and_true, and_false, false_or, true_or, or_true, or_false, if_true, if_false, eq_self, ↓reduceIte, Int.reduceEq, Int.reduceLT, Int.reduceLE, Int.reduceAdd, Int.reduceSub, Int.reduceMul, Int.reduceNeg, Int.reduceToNat, Nat.reduceLT, Nat.reduceAdd, Nat.reduceEqDiff, List.length_cons, List.length_nil, h_42, f14]
        · have pi := PI9_c (wh2 := w1) (br2 := b1) (bo2 := o) (fun g hg => by rw [k1 g hg]; exact (whn_c rfl (by rw [bl]; exact ho g hg) (hw g hg)).symm) (fun g hg => by rw [k2 g hg]; exact (brk_c rfl (by rw [bl]; exact ho g hg) (hw g hg)).symm) (fun g hg => (ho g hg).symm) (brk_PI (st := A 43) (ld := bld true load (bsq true load (A 43) i)) f2 f3)
          have mp := m60 (L := L) (A := sw_s (sw_s (sw_s A 44 w1) 45 b1) 46 o) (F := sw_s F 14 (sm (bsq true load (A 43) i).1 12 - sm (brk (A 43) (bld true load (bsq true load (A 43) i)) (bsq true load (A 43) i).1) 12)) (T := T) (X := X) (Q := sw_K 61 44 none [some (.ref 42), some (.int (Int32.ofInt load)), some (.int (Int32.ofInt i))] [] Q) l9 (fun f hf => by show w1 f = 0 ∨ w1 f = 1; rw [k1 f hf]; exact whn_b _ _ _ f) (fun f hf => by show b1 f = 0 ∨ b1 f = 1; rw [k2 f hf]; exact brk_b _ _ _ f) (fun g hg q => by
            have q : w1 g = 1 := q
            show ¬ b1 g = 1
            rw [k1 g hg] at q
            rw [k2 g hg]
            exact whx q) pi
          have c44 : sw_s (sw_s (sw_s A 44 w1) 45 b1) 46 o 44 = w1 := rfl
          have c45 : sw_s (sw_s (sw_s A 44 w1) 45 b1) 46 o 45 = b1 := rfl
          have c46 : sw_s (sw_s (sw_s A 44 w1) 45 b1) 46 o 46 = o := rfl
          rw [c44, c45, c46, ss] at mp
          have e1 : sm (bsq true load (A 43) (i + 1)).1 12 = sm (bsq true load (A 43) i).1 12 - sm (brk (A 43) (bld true load (bsq true load (A 43) i)) (bsq true load (A 43) i).1) 12 := by
            show sm (whn _ _ _) 12 = _
            omega
          obtain ⟨w2, b2, o2, c, g1, g2⟩ := m61_l hs l0 l9 n (i + 1) w1 b1 (pfo w1 b1 o 12) (by omega) (fun f hf => by
            rw [k1 f hf]
            exact whn_c rfl (by rw [bl]; exact ho f hf) (hw f hf)) (fun f hf => pfo_c (fun g hg => by rw [k1 g hg]; exact whn_c rfl (by rw [bl]; exact ho g hg) (hw g hg)) (fun g hg => by rw [k2 g hg]; exact brk_c rfl (by rw [bl]; exact ho g hg) (hw g hg)) ho 12 (Nat.le_refl _) f hf) (fun j hj => by
            by_cases e : j = i
            · rw [e]; exact ⟨by omega, by omega⟩
            · exact hp j (by omega))
          rw [e1] at g2
          refine ⟨w2, b2, o2, c, g1, Eq.trans ?_ g2⟩
          unfold hY
          rw [r61_17]
          simp (disch := omega) only [r61_18, r61_20, r61_23, r61_24, r61_27, sw_ldi, sw_ldl, sw_lda, sw_has1, sw_i1, sw_i2, sw_l1, sw_l2, sw_li, sw_r1, sw_ri, sw_rix, sw_rv, sw_pop, sw_set1, sw_set2, List.set_cons_zero, List.set_cons_succ, List.getElem?_cons_zero, List.getElem?_cons_succ, ald_1, ald_2, ast_1, ast_2, aln_1, aln_2, gf_1, gf_2, pf_1, pf_2, nw_1, ck_0, ck_1, ck_2, ck_3, ck_4, rr_1, rc_1, rc_2, K_i, K_l, K_v, I_add, I_sub, I_mul, I_div, I_em, I_eq0, I_lt0, I_0lt, I_le0, I_0le, I_eq, I_lt, I_le, I_a1, I_r1, I_eq1, I32_at, I32_s, Int.toNat_natCast, List.set_cons_zero, reduceCtorEq, not_false_eq_true, not_true_eq_false, false_and, true_and, and_true, and_false, false_or, true_or, or_true, or_false, if_true, if_false, eq_self, ↓reduceIte, Int.reduceEq, Int.reduceLT, Int.reduceLE, Int.reduceAdd, Int.reduceSub, Int.reduceMul, Int.reduceNeg, Int.reduceToNat, Nat.reduceLT, Nat.reduceAdd, Nat.reduceEqDiff, List.length_cons, List.length_nil, h_42, f14]
          rw [if_neg (by omega), if_neg (by omega)]
          simp (disch := omega) only [r61_30, r61_31, sw_ldi, sw_ldl, sw_lda, sw_has1, sw_i1, sw_i2, sw_l1, sw_l2, sw_li, sw_r1, sw_ri, sw_rix, sw_rv, sw_pop, sw_set1, sw_set2, List.set_cons_zero, List.set_cons_succ, List.getElem?_cons_zero, List.getElem?_cons_succ, ald_1, ald_2, ast_1, ast_2, aln_1, aln_2, gf_1, gf_2, pf_1, pf_2, nw_1, ck_0, ck_1, ck_2, ck_3, ck_4, rr_1, rc_1, rc_2, K_i, K_l, K_v, I_add, I_sub, I_mul, I_div, I_em, I_eq0, I_lt0, I_0lt, I_le0, I_0le, I_eq, I_lt, I_le, I_a1, I_r1, I_eq1, I32_at, I32_s, Int.toNat_natCast, List.set_cons_zero, reduceCtorEq, not_false_eq_true, not_true_eq_false, false_and, true_and, and_true, and_false, false_or, true_or, or_true, or_false, if_true, if_false, eq_self, ↓reduceIte, Int.reduceEq, Int.reduceLT, Int.reduceLE, Int.reduceAdd, Int.reduceSub, Int.reduceMul, Int.reduceNeg, Int.reduceToNat, Nat.reduceLT, Nat.reduceAdd, Nat.reduceEqDiff, List.length_cons, List.length_nil, h_42]
          rw [k3]
          simp (disch := omega) only [r61_34, sw_ldi, sw_ldl, sw_lda, sw_has1, sw_i1, sw_i2, sw_l1, sw_l2, sw_li, sw_r1, sw_ri, sw_rix, sw_rv, sw_pop, sw_set1, sw_set2, List.set_cons_zero, List.set_cons_succ, List.getElem?_cons_zero, List.getElem?_cons_succ, ald_1, ald_2, ast_1, ast_2, aln_1, aln_2, gf_1, gf_2, pf_1, pf_2, nw_1, ck_0, ck_1, ck_2, ck_3, ck_4, rr_1, rc_1, rc_2, K_i, K_l, K_v, I_add, I_sub, I_mul, I_div, I_em, I_eq0, I_lt0, I_0lt, I_le0, I_0le, I_eq, I_lt, I_le, I_a1, I_r1, I_eq1, I32_at, I32_s, Int.toNat_natCast, List.set_cons_zero, reduceCtorEq, not_false_eq_true, not_true_eq_false, false_and, true_and, and_true, and_false, false_or, true_or, or_true, or_false, if_true, if_false, eq_self, ↓reduceIte, Int.reduceEq, Int.reduceLT, Int.reduceLE, Int.reduceAdd, Int.reduceSub, Int.reduceMul, Int.reduceNeg, Int.reduceToNat, Nat.reduceLT, Nat.reduceAdd, Nat.reduceEqDiff, List.length_cons, List.length_nil]
          rw [if_pos y]
          simp (disch := omega) only [r61_40, r61_41, sw_ldi, sw_ldl, sw_lda, sw_has1, sw_i1, sw_i2, sw_l1, sw_l2, sw_li, sw_r1, sw_ri, sw_rix, sw_rv, sw_pop, sw_set1, sw_set2, List.set_cons_zero, List.set_cons_succ, List.getElem?_cons_zero, List.getElem?_cons_succ, ald_1, ald_2, ast_1, ast_2, aln_1, aln_2, gf_1, gf_2, pf_1, pf_2, nw_1, ck_0, ck_1, ck_2, ck_3, ck_4, rr_1, rc_1, rc_2, K_i, K_l, K_v, I_add, I_sub, I_mul, I_div, I_em, I_eq0, I_lt0, I_0lt, I_le0, I_0le, I_eq, I_lt, I_le, I_a1, I_r1, I_eq1, I32_at, I32_s, Int.toNat_natCast, List.set_cons_zero, reduceCtorEq, not_false_eq_true, not_true_eq_false, false_and, true_and, and_true, and_false, false_or, true_or, or_true, or_false, if_true, if_false, eq_self, ↓reduceIte, Int.reduceEq, Int.reduceLT, Int.reduceLE, Int.reduceAdd, Int.reduceSub, Int.reduceMul, Int.reduceNeg, Int.reduceToNat, Nat.reduceLT, Nat.reduceAdd, Nat.reduceEqDiff, List.length_cons, List.length_nil, h_42]
          rw [mp]
          simp (disch := omega) only [r61_44, r61_47, sw_ldi, sw_ldl, sw_lda, sw_has1, sw_i1, sw_i2, sw_l1, sw_l2, sw_li, sw_r1, sw_ri, sw_rix, sw_rv, sw_pop, sw_set1, sw_set2, List.set_cons_zero, List.set_cons_succ, List.getElem?_cons_zero, List.getElem?_cons_succ, ald_1, ald_2, ast_1, ast_2, aln_1, aln_2, gf_1, gf_2, pf_1, pf_2, nw_1, ck_0, ck_1, ck_2, ck_3, ck_4, rr_1, rc_1, rc_2, K_i, K_l, K_v, I_add, I_sub, I_mul, I_div, I_em, I_eq0, I_lt0, I_0lt, I_le0, I_0le, I_eq, I_lt, I_le, I_a1, I_r1, I_eq1, I32_at, I32_s, Int.toNat_natCast, List.set_cons_zero, reduceCtorEq, not_false_eq_true, not_true_eq_false, false_and, true_and, and_true, and_false, false_or, true_or, or_true, or_false, if_true, if_false, eq_self, ↓reduceIte, Int.reduceEq, Int.reduceLT, Int.reduceLE, Int.reduceAdd, Int.reduceSub, Int.reduceMul, Int.reduceNeg, Int.reduceToNat, Nat.reduceLT, Nat.reduceAdd, Nat.reduceEqDiff, List.length_cons, List.length_nil]
          rfl
/-- breakByNeighbours -/
theorem m61 {load : Int} (hs : SB (A 43)) (l0 : 0 ≤ load) (l9 : load ≤ 30000) : ∃ (w2 b2 o2 : Nat → Int) (c : Int), BR true load (A 43) (12 - c) ∧ sw_M 61 [.ref 42, .int (Int32.ofInt load)] (sw_h L A F T X) Q = Q (some (some (.int (Int32.ofInt (12 - c))))) (hY L A F T X w2 b2 o2 c) := by
  have m0 := m9 (H := sw_h L (sw_s A 44 (mix 12 (fun _ => 1) (A 44))) (sw_s F 14 12) T X) (a := 46) (n := 12) (g := A 46) (v := load / 12) (Q := sw_K 61 15 none [some (.ref 42), some (.int (Int32.ofInt load)), none] [] Q) h_46 (by decide) (by decide)
  rw [w_46] at m0
  obtain ⟨w2, b2, o2, c, g1, g2⟩ := m61_l (L := L) (A := A) (F := F) (T := T) (X := X) (Q := Q) hs l0 l9 12 0 (mix 12 (fun _ => 1) (A 44)) (A 45) (fil 12 (load / 12) (A 46)) (by omega) (fun f hf => mix_at hf) (fun f hf => fil_at hf) (fun j hj => absurd hj (Nat.not_lt_zero _))
  refine ⟨w2, b2, o2, c, g1, Eq.trans ?_ g2⟩
  have e1 : sm (bsq true load (A 43) 0).1 12 = 12 := rfl
  have a45 : sw_s (sw_s (sw_s A 44 (mix 12 (fun _ => 1) (A 44))) 45 (A 45)) 46 (fil 12 (load / 12) (A 46)) = sw_s (sw_s A 44 (mix 12 (fun _ => 1) (A 44))) 46 (fil 12 (load / 12) (A 46)) := by
    funext t
    unfold sw_s
    (repeat' split) <;> first | rfl | (exfalso; omega) | (rename_i e _; rw [e]) | (rename_i _ e _; rw [e])
  unfold hY
  rw [e1, a45, e61]
  simp (disch := omega) only [r61_0, r61_1, r61_4, r61_5, r61_8, r61_9, r61_11, r61_12, sw_ldi, sw_ldl, sw_lda, sw_has1, sw_i1, sw_i2, sw_l1, sw_l2, sw_li, sw_r1, sw_ri, sw_rix, sw_rv, sw_pop, sw_set1, sw_set2, List.set_cons_zero, List.set_cons_succ, List.getElem?_cons_zero, List.getElem?_cons_succ, ald_1, ald_2, ast_1, ast_2, aln_1, aln_2, gf_1, gf_2, pf_1, pf_2, nw_1, ck_0, ck_1, ck_2, ck_3, ck_4, rr_1, rc_1, rc_2, K_i, K_l, K_v, I_add, I_sub, I_mul, I_div, I_em, I_eq0, I_lt0, I_0lt, I_le0, I_0le, I_eq, I_lt, I_le, I_a1, I_r1, I_eq1, I32_at, I32_s, Int.toNat_natCast, List.set_cons_zero, reduceCtorEq, not_false_eq_true, not_true_eq_false, false_and, true_and, and_true, and_false, false_or, true_or, or_true, or_false, if_true, if_false, eq_self, ↓reduceIte, Int.reduceEq, Int.reduceLT, Int.reduceLE, Int.reduceAdd, Int.reduceSub, Int.reduceMul, Int.reduceNeg, Int.reduceToNat, Nat.reduceLT, Nat.reduceAdd, Nat.reduceEqDiff, List.length_cons, List.length_nil, h_42, m57]
  rw [m0]
  simp (disch := omega) only [r61_15, r61_16, sw_ldi, sw_ldl, sw_lda, sw_has1, sw_i1, sw_i2, sw_l1, sw_l2, sw_li, sw_r1, sw_ri, sw_rix, sw_rv, sw_pop, sw_set1, sw_set2, List.set_cons_zero, List.set_cons_succ, List.getElem?_cons_zero, List.getElem?_cons_succ, ald_1, ald_2, ast_1, ast_2, aln_1, aln_2, gf_1, gf_2, pf_1, pf_2, nw_1, ck_0, ck_1, ck_2, ck_3, ck_4, rr_1, rc_1, rc_2, K_i, K_l, K_v, I_add, I_sub, I_mul, I_div, I_em, I_eq0, I_lt0, I_0lt, I_le0, I_0le, I_eq, I_lt, I_le, I_a1, I_r1, I_eq1, I32_at, I32_s, Int.toNat_natCast, List.set_cons_zero, reduceCtorEq, not_false_eq_true, not_true_eq_false, false_and, true_and, and_true, and_false, false_or, true_or, or_true, or_false, if_true, if_false, eq_self, ↓reduceIte, Int.reduceEq, Int.reduceLT, Int.reduceLE, Int.reduceAdd, Int.reduceSub, Int.reduceMul, Int.reduceNeg, Int.reduceToNat, Nat.reduceLT, Nat.reduceAdd, Nat.reduceEqDiff, List.length_cons, List.length_nil]
  rfl
end sw_le
