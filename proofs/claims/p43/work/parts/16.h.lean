/-! broken, to its end -/
theorem flr_c {br br2 : Nat → Int} : ∀ n, (∀ f, f < n → br f = br2 f) → flr br n = flr br2 n
  | 0, _ => rfl
  | n + 1, h => by
    unfold flr
    rw [h n (by omega), flr_c n fun f hf => h f (by omega)]
section sw_bl
variable {H : sw_HS} {Q : sw_Ot → sw_HS → Prop} {rs a : Nat} {st : Nat → Int}
theorem m64_w {load : Int} {loc : Bool} (a0 : ¬ a = 0) (hs0 : H.1 rs = .inr (0, 12, I32 st)) (ne : ¬ rs = a) (hs : SB st) (l0 : 0 ≤ load) (l9 : load ≤ 30000) : ∀ (n i : Nat) (W : Int32) (bo : Nat → Int) (x6 x7 x8 x9 : Option Value), i + n = 13 → (∀ f, f < 12 → bi (qb W f) = (bsq loc load st i).1 f) → (∀ f, f < 12 → bo f = (bsq loc load st i).2 f) → (∀ j, j < i → 0 < sm (bsq loc load st j).1 12 ∧ 0 < sm (brk st (bld loc load (bsq loc load st j)) (bsq loc load st j).1) 12) → ∃ (c : Int) (b2 : Nat → Int), BR loc load st c ∧ sw_A 64 38 [some (.ref rs), some (.int (Int32.ofInt load)), some (.int (Int32.ofInt (bi loc))), some (.ref a), some (.int W), some (.int (Int32.ofInt (sm (bsq loc load st i).1 12))), x6, x7, x8, x9] [] (HL H a bo) Q = Q (some (some (.int (Int32.ofInt c)))) (HL H a b2)
  | n, i, W, bo, x6, x7, x8, x9, hn, hW, ho, hp => by
    obtain ⟨f1, f2, f3⟩ := bsq_f (loc := loc) (st := st) l0 i
    have sb := sm_b 12 f1
    have lim := bsq_n (loc := loc) (st := st) l0 i fun j hj => (hp j hj).2
    by_cases z : sm (bsq loc load st i).1 12 = 0
    · refine ⟨12, bo, ⟨i, hp, Or.inl z, by omega⟩, ?_⟩
      rw [z, r64_38]
      simp (disch := omega) only [r64_40, r64_282, r64_284, sw_ldi, sw_ldl, sw_lda, sw_has1, sw_i1, sw_i2, sw_l1, sw_l2, sw_li, sw_r1, sw_ri, sw_rix, sw_rv, sw_pop, sw_set1, sw_set2, List.set_cons_zero, List.set_cons_succ, List.getElem?_cons_zero, List.getElem?_cons_succ, ald_1, ald_2, ast_1, ast_2, aln_1, aln_2, gf_1, gf_2, pf_1, pf_2, nw_1, ck_0, ck_1, ck_2, ck_3, ck_4, rr_1, rc_1, rc_2, K_i, K_l, K_v, I_add, I_sub, I_mul, I_div, I_em, I_eq0, I_lt0, I_0lt, I_le0, I_0le, I_eq, I_lt, I_le, I_a1, I_r1, I_eq1, I32_at, I32_s, Int.toNat_natCast, List.set_cons_zero, reduceCtorEq, not_false_eq_true, not_true_eq_false, false_and, true_and, and_true, and_false, false_or, true_or, or_true, or_false, if_true, if_false, eq_self, ↓reduceIte, Int.reduceEq, Int.reduceLT, Int.reduceLE, Int.reduceAdd, Int.reduceSub, Int.reduceMul, Int.reduceNeg, Int.reduceToNat, Nat.reduceLT, Nat.reduceAdd, Nat.reduceEqDiff, List.length_cons, List.length_nil]
    · match n, hn with
      | 0, hn => omega
      | n + 1, hn =>
        have hl : ∀ f, f < 12 → (bsq loc load st i).1 f = 1 → 0 ≤ bo f ∧ bo f ≤ 30000 := fun f hf q => by
          rw [ho f hf]
          have := Sw_b f2 f3 hf q
          have := f2 f hf
          omega
        have lc : ∀ f, f < 12 → (if loc = true then bo else fun _ => load / sm (bsq loc load st i).1 12) f = bld loc load (bsq loc load st i) f := fun f hf => by
          unfold bld
          cases loc with
          | true => exact ho f hf
          | false => rfl
        have bc : ∀ f, f < 12 → brk st (if loc = true then bo else fun _ => load / sm (bsq loc load st i).1 12) (bsq loc load st i).1 f = brk st (bld loc load (bsq loc load st i)) (bsq loc load st i).1 f := fun f hf => brk_c rfl (lc f hf) rfl
        have mf := m64_f (H := H) (Q := Q) (rs := rs) (a := a) (st := st) (load := load) (lf := sm (bsq loc load st i).1 12) (loc := loc) (W := W) (wh := (bsq loc load st i).1) (bo := bo) hs0 ne hs hW hl l0 l9 (by omega) (by omega) (x8 := x8) (x9 := x9) 12 0 (by omega)
        rw [flr_c 12 bc] at mf
        have fl0 : flr (brk st (if loc = true then bo else fun _ => load / sm (bsq loc load st i).1 12) (bsq loc load st i).1) 0 = Int32.ofInt 0 := rfl
        rw [fl0] at mf
        have bb := sm_b (g := brk st (bld loc load (bsq loc load st i)) (bsq loc load st i).1) 12 fun f _ => brk_b _ _ _ f
        have wsm := wb_sm (st := st) (ld := bld loc load (bsq loc load st i)) f1 12 (Nat.le_refl _)
        have f00 := flr_0 (br := brk st (bld loc load (bsq loc load st i)) (bsq loc load st i).1) fun f _ => brk_b _ _ _ f
        have pre : sw_A 64 38 [some (.ref rs), some (.int (Int32.ofInt load)), some (.int (Int32.ofInt (bi loc))), some (.ref a), some (.int W), some (.int (Int32.ofInt (sm (bsq loc load st i).1 12))), x6, x7, x8, x9] [] (HL H a bo) Q = sw_A 64 104 [some (.ref rs), some (.int (Int32.ofInt load)), some (.int (Int32.ofInt (bi loc))), some (.ref a), some (.int W), some (.int (Int32.ofInt (sm (bsq loc load st i).1 12))), some (.int (flr (brk st (bld loc load (bsq loc load st i)) (bsq loc load st i).1) 12)), some (.int (Int32.ofInt 12)), x8, x9] [] (HL H a bo) Q := by
          refine Eq.trans ?_ mf
          rw [r64_38]
          simp (disch := omega) only [r64_40, r64_43, r64_44, r64_46, r64_47, sw_ldi, sw_ldl, sw_lda, sw_has1, sw_i1, sw_i2, sw_l1, sw_l2, sw_li, sw_r1, sw_ri, sw_rix, sw_rv, sw_pop, sw_set1, sw_set2, List.set_cons_zero, List.set_cons_succ, List.getElem?_cons_zero, List.getElem?_cons_succ, ald_1, ald_2, ast_1, ast_2, aln_1, aln_2, gf_1, gf_2, pf_1, pf_2, nw_1, ck_0, ck_1, ck_2, ck_3, ck_4, rr_1, rc_1, rc_2, K_i, K_l, K_v, I_add, I_sub, I_mul, I_div, I_em, I_eq0, I_lt0, I_0lt, I_le0, I_0le, I_eq, I_lt, I_le, I_a1, I_r1, I_eq1, I32_at, I32_s, Int.toNat_natCast, List.set_cons_zero, reduceCtorEq, not_false_eq_true, not_true_eq_false, false_and, true_and, and_true, and_false, false_or, true_or, or_true, or_false, if_true, if_false, eq_self, ↓reduceIte, Int.reduceEq, Int.reduceLT, Int.reduceLE, Int.reduceAdd, Int.reduceSub, Int.reduceMul, Int.reduceNeg, Int.reduceToNat, Nat.reduceLT, Nat.reduceAdd, Nat.reduceEqDiff, List.length_cons, List.length_nil]
          rw [if_neg (by omega)]
          rfl
        rw [pre]
        by_cases y : sm (brk st (bld loc load (bsq loc load st i)) (bsq loc load st i).1) 12 = 0
        · refine ⟨12 - sm (bsq loc load st i).1 12, bo, ⟨i, hp, Or.inr y, rfl⟩, ?_⟩
          rw [f00.mpr y, r64_104]
          simp (disch := omega) only [r64_106, r64_109, r64_111, r64_113, r64_114, sw_ldi, sw_ldl, sw_lda, sw_has1, sw_i1, sw_i2, sw_l1, sw_l2, sw_li, sw_r1, sw_ri, sw_rix, sw_rv, sw_pop, sw_set1, sw_set2, List.set_cons_zero, List.set_cons_succ, List.getElem?_cons_zero, List.getElem?_cons_succ, ald_1, ald_2, ast_1, ast_2, aln_1, aln_2, gf_1, gf_2, pf_1, pf_2, nw_1, ck_0, ck_1, ck_2, ck_3, ck_4, rr_1, rc_1, rc_2, K_i, K_l, K_v, I_add, I_sub, I_mul, I_div, I_em, I_eq0, I_lt0, I_0lt, I_le0, I_0le, I_eq, I_lt, I_le, I_a1, I_r1, I_eq1, I32_at, I32_s, Int.toNat_natCast, List.set_cons_zero, reduceCtorEq, not_false_eq_true, not_true_eq_false, false_and, true_and, and_true, and_false, false_or, true_or, or_true, or_false, if_true, if_false, eq_self, ↓reduceIte, Int.reduceEq, Int.reduceLT, Int.reduceLE, Int.reduceAdd, Int.reduceSub, Int.reduceMul, Int.reduceNeg, Int.reduceToNat, Nat.reduceLT, Nat.reduceAdd, Nat.reduceEqDiff, List.length_cons, List.length_nil]
        · have nf : ¬ flr (brk st (bld loc load (bsq loc load st i)) (bsq loc load st i).1) 12 = 0 := fun q => y (f00.mp q)
          have e1 : (bsq loc load st (i + 1)).1 = whn st (bld loc load (bsq loc load st i)) (bsq loc load st i).1 := rfl
          have e2 : (bsq loc load st (i + 1)).2 = pfo (whn st (bld loc load (bsq loc load st i)) (bsq loc load st i).1) (brk st (bld loc load (bsq loc load st i)) (bsq loc load st i).1) (bsq loc load st i).2 12 := rfl
          have hp2 : ∀ j, j < i + 1 → 0 < sm (bsq loc load st j).1 12 ∧ 0 < sm (brk st (bld loc load (bsq loc load st j)) (bsq loc load st j).1) 12 := fun j hj => by
            by_cases e : j = i
            · rw [e]; exact ⟨by omega, by omega⟩
            · exact hp j (by omega)
          have hW2 : ∀ f, f < 12 → bi (qb (W &&& (flr (brk st (bld loc load (bsq loc load st i)) (bsq loc load st i).1) 12 ^^^ Int32.ofInt (-1))) f) = whn st (bld loc load (bsq loc load st i)) (bsq loc load st i).1 f := fun f hf => by
            have v := flr_v (br := brk st (bld loc load (bsq loc load st i)) (bsq loc load st i).1) 12 (Nat.le_refl _) f (by omega)
            have w := hW f hf
            rw [qb_and, qb_xor, qb_m1 f (by omega)]
            unfold whn
            rw [← w]
            have bk : brk st (bld loc load (bsq loc load st i)) (bsq loc load st i).1 f = 1 ↔ (bi (qb W f) = 1 ∧ st f < bld loc load (bsq loc load st i) f) := by
              unfold brk
              rw [← w]
              constructor
              · intro q
                split at q
                · next z => exact z
                · cases q
              · intro q; exact if_pos q
            rw [bk] at v
            cases e3 : qb W f with
            | false =>
              rw [Bool.false_and]
              exact (if_neg (fun q => absurd q.1 (by decide))).symm
            | true =>
              rw [e3] at v
              rw [Bool.true_and]
              by_cases q : st f < bld loc load (bsq loc load st i) f
              · rw [v.mpr ⟨hf, rfl, q⟩, if_neg (fun z => z.2 q)]
                rfl
              · have : qb (flr (brk st (bld loc load (bsq loc load st i)) (bsq loc load st i).1) 12) f = false := by
                  cases e4 : qb (flr (brk st (bld loc load (bsq loc load st i)) (bsq loc load st i).1) 12) f with
                  | false => rfl
                  | true =>
                    exact absurd (v.mp e4).2.2 q
                rw [this, if_pos ⟨rfl, q⟩]
                rfl
          have mc := m64_c (a := a) (Q := Q) (v0 := .ref rs) (v1 := .int (Int32.ofInt load)) (v2 := .int (Int32.ofInt (bi loc))) (H2 := HL H a bo) (fa := flr (brk st (bld loc load (bsq loc load st i)) (bsq loc load st i).1) 12) hW2 (x8 := x8) (x9 := x9) 12 0 (by omega)
          have s0 : sm (whn st (bld loc load (bsq loc load st i)) (bsq loc load st i).1) 0 = 0 := rfl
          rw [s0] at mc
          have pre2 : sw_A 64 104 [some (.ref rs), some (.int (Int32.ofInt load)), some (.int (Int32.ofInt (bi loc))), some (.ref a), some (.int W), some (.int (Int32.ofInt (sm (bsq loc load st i).1 12))), some (.int (flr (brk st (bld loc load (bsq loc load st i)) (bsq loc load st i).1) 12)), some (.int (Int32.ofInt 12)), x8, x9] [] (HL H a bo) Q = sw_A 64 158 [some (.ref rs), some (.int (Int32.ofInt load)), some (.int (Int32.ofInt (bi loc))), some (.ref a), some (.int (W &&& (flr (brk st (bld loc load (bsq loc load st i)) (bsq loc load st i).1) 12 ^^^ Int32.ofInt (-1)))), some (.int (Int32.ofInt (sm (whn st (bld loc load (bsq loc load st i)) (bsq loc load st i).1) 12))), some (.int (flr (brk st (bld loc load (bsq loc load st i)) (bsq loc load st i).1) 12)), some (.int (Int32.ofInt 0)), x8, x9] [] (HL H a bo) Q := by
            rw [r64_104]
            simp (disch := omega) only [r64_106, sw_ldi, sw_ldl, sw_lda, sw_has1, sw_i1, sw_i2, sw_l1, sw_l2, sw_li, sw_r1, sw_ri, sw_rix, sw_rv, sw_pop, sw_set1, sw_set2, List.set_cons_zero, List.set_cons_succ, List.getElem?_cons_zero, List.getElem?_cons_succ, ald_1, ald_2, ast_1, ast_2, aln_1, aln_2, gf_1, gf_2, pf_1, pf_2, nw_1, ck_0, ck_1, ck_2, ck_3, ck_4, rr_1, rc_1, rc_2, K_i, K_l, K_v, I_add, I_sub, I_mul, I_div, I_em, I_eq0, I_lt0, I_0lt, I_le0, I_0le, I_eq, I_lt, I_le, I_a1, I_r1, I_eq1, I32_at, I32_s, Int.toNat_natCast, List.set_cons_zero, reduceCtorEq, not_false_eq_true, not_true_eq_false, false_and, true_and, and_true, and_false, false_or, true_or, or_true, or_false, if_true, if_false, eq_self, ↓reduceIte, Int.reduceEq, Int.reduceLT, Int.reduceLE, Int.reduceAdd, Int.reduceSub, Int.reduceMul, Int.reduceNeg, Int.reduceToNat, Nat.reduceLT, Nat.reduceAdd, Nat.reduceEqDiff, List.length_cons, List.length_nil]
            rw [if_pos nf]
            simp (disch := omega) only [r64_115, r64_117, r64_119, r64_120, r64_121, r64_122, r64_124, r64_125, r64_127, r64_128, sw_ldi, sw_ldl, sw_lda, sw_has1, sw_i1, sw_i2, sw_l1, sw_l2, sw_li, sw_r1, sw_ri, sw_rix, sw_rv, sw_pop, sw_set1, sw_set2, List.set_cons_zero, List.set_cons_succ, List.getElem?_cons_zero, List.getElem?_cons_succ, ald_1, ald_2, ast_1, ast_2, aln_1, aln_2, gf_1, gf_2, pf_1, pf_2, nw_1, ck_0, ck_1, ck_2, ck_3, ck_4, rr_1, rc_1, rc_2, K_i, K_l, K_v, I_add, I_sub, I_mul, I_div, I_em, I_eq0, I_lt0, I_0lt, I_le0, I_0le, I_eq, I_lt, I_le, I_a1, I_r1, I_eq1, I32_at, I32_s, Int.toNat_natCast, List.set_cons_zero, reduceCtorEq, not_false_eq_true, not_true_eq_false, false_and, true_and, and_true, and_false, false_or, true_or, or_true, or_false, if_true, if_false, eq_self, ↓reduceIte, Int.reduceEq, Int.reduceLT, Int.reduceLE, Int.reduceAdd, Int.reduceSub, Int.reduceMul, Int.reduceNeg, Int.reduceToNat, Nat.reduceLT, Nat.reduceAdd, Nat.reduceEqDiff, List.length_cons, List.length_nil]
            refine Eq.trans mc ?_
            simp (disch := omega) only [r64_155, r64_156, sw_ldi, sw_ldl, sw_lda, sw_has1, sw_i1, sw_i2, sw_l1, sw_l2, sw_li, sw_r1, sw_ri, sw_rix, sw_rv, sw_pop, sw_set1, sw_set2, List.set_cons_zero, List.set_cons_succ, List.getElem?_cons_zero, List.getElem?_cons_succ, ald_1, ald_2, ast_1, ast_2, aln_1, aln_2, gf_1, gf_2, pf_1, pf_2, nw_1, ck_0, ck_1, ck_2, ck_3, ck_4, rr_1, rc_1, rc_2, K_i, K_l, K_v, I_add, I_sub, I_mul, I_div, I_em, I_eq0, I_lt0, I_0lt, I_le0, I_0le, I_eq, I_lt, I_le, I_a1, I_r1, I_eq1, I32_at, I32_s, Int.toNat_natCast, List.set_cons_zero, reduceCtorEq, not_false_eq_true, not_true_eq_false, false_and, true_and, and_true, and_false, false_or, true_or, or_true, or_false, if_true, if_false, eq_self, ↓reduceIte, Int.reduceEq, Int.reduceLT, Int.reduceLE, Int.reduceAdd, Int.reduceSub, Int.reduceMul, Int.reduceNeg, Int.reduceToNat, Nat.reduceLT, Nat.reduceAdd, Nat.reduceEqDiff, List.length_cons, List.length_nil]
          rw [pre2]
          by_cases wz : sm (whn st (bld loc load (bsq loc load st i)) (bsq loc load st i).1) 12 = 0
          · refine ⟨12, bo, ⟨i + 1, hp2, Or.inl (by rw [e1]; exact wz), by rw [e1, wz]; rfl⟩, ?_⟩
            rw [wz, r64_158]
            simp (disch := omega) only [r64_160, r64_162, r64_165, r64_167, r64_279, sw_ldi, sw_ldl, sw_lda, sw_has1, sw_i1, sw_i2, sw_l1, sw_l2, sw_li, sw_r1, sw_ri, sw_rix, sw_rv, sw_pop, sw_set1, sw_set2, List.set_cons_zero, List.set_cons_succ, List.getElem?_cons_zero, List.getElem?_cons_succ, ald_1, ald_2, ast_1, ast_2, aln_1, aln_2, gf_1, gf_2, pf_1, pf_2, nw_1, ck_0, ck_1, ck_2, ck_3, ck_4, rr_1, rc_1, rc_2, K_i, K_l, K_v, I_add, I_sub, I_mul, I_div, I_em, I_eq0, I_lt0, I_0lt, I_le0, I_0le, I_eq, I_lt, I_le, I_a1, I_r1, I_eq1, I32_at, I32_s, Int.toNat_natCast, List.set_cons_zero, reduceCtorEq, not_false_eq_true, not_true_eq_false, false_and, true_and, and_true, and_false, false_or, true_or, or_true, or_false, if_true, if_false, eq_self, ↓reduceIte, Int.reduceEq, Int.reduceLT, Int.reduceLE, Int.reduceAdd, Int.reduceSub, Int.reduceMul, Int.reduceNeg, Int.reduceToNat, Nat.reduceLT, Nat.reduceAdd, Nat.reduceEqDiff, List.length_cons, List.length_nil]
            rw [r64_38]
            simp (disch := omega) only [r64_40, r64_282, r64_284, sw_ldi, sw_ldl, sw_lda, sw_has1, sw_i1, sw_i2, sw_l1, sw_l2, sw_li, sw_r1, sw_ri, sw_rix, sw_rv, sw_pop, sw_set1, sw_set2, List.set_cons_zero, List.set_cons_succ, List.getElem?_cons_zero, List.getElem?_cons_succ, ald_1, ald_2, ast_1, ast_2, aln_1, aln_2, gf_1, gf_2, pf_1, pf_2, nw_1, ck_0, ck_1, ck_2, ck_3, ck_4, rr_1, rc_1, rc_2, K_i, K_l, K_v, I_add, I_sub, I_mul, I_div, I_em, I_eq0, I_lt0, I_0lt, I_le0, I_0le, I_eq, I_lt, I_le, I_a1, I_r1, I_eq1, I32_at, I32_s, Int.toNat_natCast, List.set_cons_zero, reduceCtorEq, not_false_eq_true, not_true_eq_false, false_and, true_and, and_true, and_false, false_or, true_or, or_true, or_false, if_true, if_false, eq_self, ↓reduceIte, Int.reduceEq, Int.reduceLT, Int.reduceLE, Int.reduceAdd, Int.reduceSub, Int.reduceMul, Int.reduceNeg, Int.reduceToNat, Nat.reduceLT, Nat.reduceAdd, Nat.reduceEqDiff, List.length_cons, List.length_nil]
          · have wb9 := sm_b (g := whn st (bld loc load (bsq loc load st i)) (bsq loc load st i).1) 12 fun f _ => whn_b _ _ _ f
            have pi : PI9 (whn st (bld loc load (bsq loc load st i)) (bsq loc load st i).1) (brk st (bld loc load (bsq loc load st i)) (bsq loc load st i).1) bo 0 load := PI9_c (fun _ _ => rfl) (fun _ _ => rfl) (fun g hg => (ho g hg).symm) (brk_PI f2 f3)
            obtain ⟨y8, y9, mp⟩ := m64_p (a := a) (H := H) (Q := Q) (v0 := .ref rs) (v1 := .int (Int32.ofInt load)) (v2 := .int (Int32.ofInt (bi loc))) (lf := sm (whn st (bld loc load (bsq loc load st i)) (bsq loc load st i).1) 12) a0 l9 hW2 (fun f _ => brk_b _ _ _ f) (fun g _ q => whx q) pi rfl (by omega) (by omega) 12 0 x8 x9 (by omega)
            obtain ⟨c, b2, g1, g2⟩ := m64_w a0 hs0 ne hs l0 l9 n (i + 1) (W &&& (flr (brk st (bld loc load (bsq loc load st i)) (bsq loc load st i).1) 12 ^^^ Int32.ofInt (-1))) (pfo (whn st (bld loc load (bsq loc load st i)) (bsq loc load st i).1) (brk st (bld loc load (bsq loc load st i)) (bsq loc load st i).1) bo 12) (some (.int (flr (brk st (bld loc load (bsq loc load st i)) (bsq loc load st i).1) 12))) (some (.int (Int32.ofInt 12))) y8 y9 (by omega) hW2 (fun f hf => by
              rw [e2]
              exact pfo_c (fun _ _ => rfl) (fun _ _ => rfl) ho 12 (Nat.le_refl _) f hf) hp2
            exact ⟨c, b2, g1, Eq.trans mp g2⟩
theorem m64_i {load : Int} {v0 v2 : Value} {w lf : Int32} {f0 : Nat → Int} (a0 : ¬ a = 0) (l0 : 0 ≤ load) (l9 : load ≤ 30000) : ∀ (n i : Nat), i + n = 12 → sw_A 64 17 [some v0, some (.int (Int32.ofInt load)), some v2, some (.ref a), some (.int w), some (.int lf), some (.int (Int32.ofInt i)), none, none, none] [] (HL H a (fil i (load / 12) f0)) Q = sw_A 64 38 [some v0, some (.int (Int32.ofInt load)), some v2, some (.ref a), some (.int w), some (.int lf), some (.int (Int32.ofInt 12)), none, none, none] [] (HL H a (fil 12 (load / 12) f0)) Q
  | 0, i, hn => by
    have e : i = 12 := hn
    subst e
    rw [r64_17]
    simp (disch := omega) only [r64_19, r64_21, sw_ldi, sw_ldl, sw_lda, sw_has1, sw_i1, sw_i2, sw_l1, sw_l2, sw_li, sw_r1, sw_ri, sw_rix, sw_rv, sw_pop, sw_set1, sw_set2, List.set_cons_zero, List.set_cons_succ, List.getElem?_cons_zero, List.getElem?_cons_succ, ald_1, ald_2, ast_1, ast_2, aln_1, aln_2, gf_1, gf_2, pf_1, pf_2, nw_1, ck_0, ck_1, ck_2, ck_3, ck_4, rr_1, rc_1, rc_2, K_i, K_l, K_v, I_add, I_sub, I_mul, I_div, I_em, I_eq0, I_lt0, I_0lt, I_le0, I_0le, I_eq, I_lt, I_le, I_a1, I_r1, I_eq1, I32_at, I32_s, Int.toNat_natCast, List.set_cons_zero, reduceCtorEq, not_false_eq_true, not_true_eq_false, false_and, true_and, and_true, and_false, false_or, true_or, or_true, or_false, if_true, if_false, eq_self, ↓reduceIte, Int.reduceEq, Int.reduceLT, Int.reduceLE, Int.reduceAdd, Int.reduceSub, Int.reduceMul, Int.reduceNeg, Int.reduceToNat, Nat.reduceLT, Nat.reduceAdd, Nat.reduceEqDiff, List.length_cons, List.length_nil, Int.le_refl]
    rfl
  | n + 1, i, hn => by
    have ih := m64_i (v0 := v0) (v2 := v2) (w := w) (lf := lf) (f0 := f0) a0 l0 l9 n (i + 1) (by omega)
    rw [r64_17]
    simp (disch := omega) only [r64_19, r64_21, r64_24, r64_25, r64_27, r64_28, r64_30, r64_31, r64_32, r64_35, sw_ldi, sw_ldl, sw_lda, sw_has1, sw_i1, sw_i2, sw_l1, sw_l2, sw_li, sw_r1, sw_ri, sw_rix, sw_rv, sw_pop, sw_set1, sw_set2, List.set_cons_zero, List.set_cons_succ, List.getElem?_cons_zero, List.getElem?_cons_succ, ald_1, ald_2, ast_1, ast_2, aln_1, aln_2, gf_1, gf_2, pf_1, pf_2, nw_1, ck_0, ck_1, ck_2, ck_3, ck_4, rr_1, rc_1, rc_2, K_i, K_l, K_v, I_add, I_sub, I_mul, I_div, I_em, I_eq0, I_lt0, I_0lt, I_le0, I_0le, I_eq, I_lt, I_le, I_a1, I_r1, I_eq1, I32_at, I32_s, Int.toNat_natCast, List.set_cons_zero, reduceCtorEq, not_false_eq_true, not_true_eq_false, false_and, true_and, and_true, and_false, false_or, true_or, or_true, or_false, if_true, if_false, eq_self, ↓reduceIte, Int.reduceEq, Int.reduceLT, Int.reduceLE, Int.reduceAdd, Int.reduceSub, Int.reduceMul, Int.reduceNeg, Int.reduceToNat, Nat.reduceLT, Nat.reduceAdd, Nat.reduceEqDiff, List.length_cons, List.length_nil, HL_a, HL_w, a0]
    rw [if_neg (by omega), fil_up]
    exact ih
/-- broken -/
theorem m64 {load : Int} {loc : Bool} (hs0 : H.1 rs = .inr (0, 12, I32 st)) (r1 : rs < H.2.1) (hs : SB st) (l0 : 0 ≤ load) (l9 : load ≤ 30000) : ∃ (v : Int) (c : sw_Ce), BR loc load st v ∧ sw_M 64 [.ref rs, .int (Int32.ofInt load), .int (Int32.ofInt (bi loc))] H Q = Q (some (some (.int (Int32.ofInt v)))) (sw_mk H c 12) := by
  have mk : ∀ f, HL (sw_mk H (.inr (0, 12, I32 fun _ => 0)) 12) H.2.1 f = sw_mk H (.inr (0, 12, I32 f)) 12 := fun f => by
    refine Prod.ext (funext fun j => ?_) rfl
    show (if j = H.2.1 then _ else if j = H.2.1 then _ else H.1 j) = if j = H.2.1 then _ else H.1 j
    split <;> rfl
  have h1 : (sw_mk H (.inr (0, 12, I32 fun _ => 0)) 12).1 rs = .inr (0, 12, I32 st) := by
    rw [← hs0]
    exact if_neg (by omega)
  have q1 := m64_i (H := sw_mk H (.inr (0, 12, I32 fun _ => 0)) 12) (Q := Q) (a := H.2.1) (v0 := .ref rs) (v2 := .int (Int32.ofInt (bi loc))) (w := Int32.ofInt 4095) (lf := Int32.ofInt 12) (f0 := fun _ => 0) (by omega) l0 l9 12 0 (by omega)
  obtain ⟨v, b2, g1, g2⟩ := m64_w (H := sw_mk H (.inr (0, 12, I32 fun _ => 0)) 12) (Q := Q) (rs := rs) (a := H.2.1) (st := st) (load := load) (loc := loc) (by omega) h1 (by omega) hs l0 l9 13 0 (Int32.ofInt 4095) (fil 12 (load / 12) fun _ => 0) (some (.int (Int32.ofInt 12))) none none none (by omega) (fun f hf => by
    rw [qb_all f hf]; rfl) (fun f hf => fil_at hf) (fun j hj => absurd hj (Nat.not_lt_zero _))
  have e12 : sm (bsq loc load st 0).1 12 = 12 := rfl
  rw [e12] at g2
  refine ⟨v, .inr (0, 12, I32 b2), g1, ?_⟩
  rw [← mk b2]
  refine Eq.trans ?_ (Eq.trans q1 g2)
  rw [e64]
  simp (disch := omega) only [r64_0, r64_2, r64_4, r64_5, r64_8, r64_10, r64_12, r64_14, r64_15, sw_ldi, sw_ldl, sw_lda, sw_has1, sw_i1, sw_i2, sw_l1, sw_l2, sw_li, sw_r1, sw_ri, sw_rix, sw_rv, sw_pop, sw_set1, sw_set2, List.set_cons_zero, List.set_cons_succ, List.getElem?_cons_zero, List.getElem?_cons_succ, ald_1, ald_2, ast_1, ast_2, aln_1, aln_2, gf_1, gf_2, pf_1, pf_2, nw_1, ck_0, ck_1, ck_2, ck_3, ck_4, rr_1, rc_1, rc_2, K_i, K_l, K_v, I_add, I_sub, I_mul, I_div, I_em, I_eq0, I_lt0, I_0lt, I_le0, I_0le, I_eq, I_lt, I_le, I_a1, I_r1, I_eq1, I32_at, I32_s, Int.toNat_natCast, List.set_cons_zero, reduceCtorEq, not_false_eq_true, not_true_eq_false, false_and, true_and, and_true, and_false, false_or, true_or, or_true, or_false, if_true, if_false, eq_self, ↓reduceIte, Int.reduceEq, Int.reduceLT, Int.reduceLE, Int.reduceAdd, Int.reduceSub, Int.reduceMul, Int.reduceNeg, Int.reduceToNat, Nat.reduceLT, Nat.reduceAdd, Nat.reduceEqDiff, List.length_cons, List.length_nil]
  rw [mk, fil_0]
  rfl
end sw_bl
