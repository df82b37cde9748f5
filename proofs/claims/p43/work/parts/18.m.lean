section sw_tm
variable {L : Nat} {A : Nat → Nat → Int} {F : Nat → Int} {T : Nat → sw_Ce} {X : Nat × Nat × Nat} {Q : sw_Ot → sw_HS → Prop}
theorem V1 : ∀ (n i : Nat), i + n = 12 → sw_A 150 39 [some (.ref 0), some (.ref 1), some (.ref 54), some (.ref 55), some (.ref 56), some (.ref 57), some (.ref 58), some (.int (Int32.ofInt (i : Int))), none, none, none, none, none, none, none, none, none, none, none, none, none, none, none, none, none, none, none, none, none, none] [] (sw_h L (sw_s A 58 (mix i (fun _ => 100) (A 58))) F T X) Q = sw_A 150 59 [some (.ref 0), some (.ref 1), some (.ref 54), some (.ref 55), some (.ref 56), some (.ref 57), some (.ref 58), some (.int (Int32.ofInt ((12 : Nat) : Int))), none, none, none, none, none, none, none, none, none, none, none, none, none, none, none, none, none, none, none, none, none, none] [] (sw_h L (sw_s A 58 (mix 12 (fun _ => 100) (A 58))) F T X) Q
  | 0, i, hn => by
    have e : i = 12 := hn
    subst e
    rw [r150_39]
    simp (disch := omega) only [r150_41, r150_43, sw_ldi, sw_ldl, sw_lda, sw_has1, sw_i1, sw_i2, sw_l1, sw_l2, sw_li, sw_r1, sw_ri, sw_rix, sw_rv, sw_pop, sw_set1, sw_set2, List.set_cons_zero, List.set_cons_succ, List.getElem?_cons_zero, List.getElem?_cons_succ, ald_1, ald_2, ast_1, ast_2, aln_1, aln_2, gf_1, gf_2, pf_1, pf_2, nw_1, ck_0, ck_1, ck_2, ck_3, ck_4, rr_1, rc_1, rc_2, K_i, K_l, K_v, I_add, I_sub, I_mul, I_div, I_em, I_eq0, I_lt0, I_0lt, I_le0, I_0le, I_eq, I_lt, I_le, I_a1, I_r1, I_eq1, I32_at, I32_s, Int.toNat_natCast, List.set_cons_zero, reduceCtorEq, not_false_eq_true, not_true_eq_false, false_and, true_and, and_true, and_false, false_or, true_or, or_true, or_false, if_true, if_false, eq_self, ↓reduceIte, Int.reduceEq, Int.reduceLT, Int.reduceLE, Int.reduceAdd, Int.reduceSub, Int.reduceMul, Int.reduceNeg, Int.reduceToNat, Nat.reduceLT, Nat.reduceAdd, Nat.reduceEqDiff, List.length_cons, List.length_nil]
    rw [if_pos (by decide)]
  | n + 1, i, hn => by
    have ih := V1 n (i + 1) (by omega)
    have ei : ((i + 1 : Nat) : Int) = (i : Int) + 1 := rfl
    rw [ei] at ih
    have hu : sw_s (mix i (fun _ => 100) (A 58)) i 100 = mix (i + 1) (fun _ => 100) (A 58) := mix_up rfl
    rw [r150_39]
    simp (disch := omega) only [r150_41, r150_43, r150_46, r150_48, r150_50, r150_52, r150_53, r150_56, sw_ldi, sw_ldl, sw_lda, sw_has1, sw_i1, sw_i2, sw_l1, sw_l2, sw_li, sw_r1, sw_ri, sw_rix, sw_rv, sw_pop, sw_set1, sw_set2, List.set_cons_zero, List.set_cons_succ, List.getElem?_cons_zero, List.getElem?_cons_succ, ald_1, ald_2, ast_1, ast_2, aln_1, aln_2, gf_1, gf_2, pf_1, pf_2, nw_1, ck_0, ck_1, ck_2, ck_3, ck_4, rr_1, rc_1, rc_2, K_i, K_l, K_v, I_add, I_sub, I_mul, I_div, I_em, I_eq0, I_lt0, I_0lt, I_le0, I_0le, I_eq, I_lt, I_le, I_a1, I_r1, I_eq1, I32_at, I32_s, Int.toNat_natCast, List.set_cons_zero, reduceCtorEq, not_false_eq_true, not_true_eq_false, false_and, true_and, and_true, and_false, false_or, true_or, or_true, or_false, if_true, if_false, eq_self, ↓reduceIte, Int.reduceEq, Int.reduceLT, Int.reduceLE, Int.reduceAdd, Int.reduceSub, Int.reduceMul, Int.reduceNeg, Int.reduceToNat, Nat.reduceLT, Nat.reduceAdd, Nat.reduceEqDiff, List.length_cons, List.length_nil, sA_at, ss, h_58, w_58]
    rw [if_neg (show ¬ (12 : Int) ≤ (i : Int) by omega), hu]
    exact ih
theorem hb_00 (i : Nat) : hb (Int64.ofNat 0) i = false := by
  unfold hb
  rw [show (Int64.ofNat 0).toBitVec = 0#64 from rfl]
  exact BitVec.getLsbD_zero
theorem Bt_0 {f : Nat → Int} (h : ∀ t, t < 36 → f t = 0) : Bt (Int64.ofNat 0) f := fun t ht => by
  rw [hb_00]
  exact ⟨fun q => absurd q (by decide), fun q => absurd (h t q.1) (by omega)⟩
theorem Iv_0 {xs : Nat → Int32} : Iv (sw_s (A0 xs) 58 (mix 12 (fun _ => 100) (A0 xs 58))) (Int64.ofNat 0) (Int64.ofNat 0) (Int64.ofNat 0) (Int64.ofNat 0) := by
  have z : ∀ t, t < 36 → (fun _ : Nat => (0 : Int)) t = 0 := fun _ _ => rfl
  refine ⟨⟨⟨⟨fun i h => ⟨Int.le_refl 0, show (0 : Int) < 1000 by decide⟩, fun i h => ⟨Int.le_refl 0, show (0 : Int) < 1000 by decide⟩, fun i h => Or.inl rfl⟩, fun i h => rfl, fun i h => rfl, fun i h => ?_, fun i h1 h2 => hb_00 i⟩, ⟨fun i h => Or.inl rfl, fun i h => Or.inl rfl, fun i h => Or.inl rfl⟩, fun i h q => ⟨rfl, rfl, rfl⟩, fun f hf => ?_, rfl⟩, Bt_0 z, Bt_0 z, Bt_0 z⟩
  · rw [hb_00]
    exact ⟨fun q => absurd q (by decide), fun q => absurd (show (0 : Int) = 1 from q) (by decide)⟩
  · show 1 ≤ fil 12 100 (fun _ => 0) f ∧ fil 12 100 (fun _ => 0) f ≤ 1000
    unfold fil
    rw [if_pos hf]
    decide
theorem sw_law : ∀ (L : Nat) (xs : Nat → Int32), L ≤ 260 → sw_M 150 [.ref 0] (sw_H0 L xs) fun o H1 => o = some (some (.int 1)) ∧ H1.2.2.1 ≤ 600130 ∧ H1.2.2.2 ≤ 7301080 := fun L xs hL => by
  rw [m150_0]
  simp (disch := omega) only [r150_36, r150_37, sw_ldi, sw_ldl, sw_lda, sw_has1, sw_i1, sw_i2, sw_l1, sw_l2, sw_li, sw_r1, sw_ri, sw_rix, sw_rv, sw_pop, sw_set1, sw_set2, List.set_cons_zero, List.set_cons_succ, List.getElem?_cons_zero, List.getElem?_cons_succ, ald_1, ald_2, ast_1, ast_2, aln_1, aln_2, gf_1, gf_2, pf_1, pf_2, nw_1, ck_0, ck_1, ck_2, ck_3, ck_4, rr_1, rc_1, rc_2, K_i, K_l, K_v, I_add, I_sub, I_mul, I_div, I_em, I_eq0, I_lt0, I_0lt, I_le0, I_0le, I_eq, I_lt, I_le, I_a1, I_r1, I_eq1, I32_at, I32_s, Int.toNat_natCast, List.set_cons_zero, reduceCtorEq, not_false_eq_true, not_true_eq_false, false_and, true_and, and_true, and_false, false_or, true_or, or_true, or_false, if_true, if_false, eq_self, ↓reduceIte, Int.reduceEq, Int.reduceLT, Int.reduceLE, Int.reduceAdd, Int.reduceSub, Int.reduceMul, Int.reduceNeg, Int.reduceToNat, Nat.reduceLT, Nat.reduceAdd, Nat.reduceEqDiff, List.length_cons, List.length_nil]
  have k1 := V1 (L := L) (A := A0 xs) (F := fun _ => 0) (T := D0 L xs) (X := (59, 58, 1514)) (Q := fun o H1 => o = some (some (.int 1)) ∧ H1.2.2.1 ≤ 600130 ∧ H1.2.2.2 ≤ 7301080) 12 0 (by omega)
  rw [mix_0, sA_id] at k1
  refine cast (Eq.symm k1) ?_
  simp (disch := omega) only [r150_59, r150_60, r150_62, r150_63, r150_65, r150_66, r150_68, r150_69, r150_71, r150_72, r150_74, r150_75, sw_ldi, sw_ldl, sw_lda, sw_has1, sw_i1, sw_i2, sw_l1, sw_l2, sw_li, sw_r1, sw_ri, sw_rix, sw_rv, sw_pop, sw_set1, sw_set2, List.set_cons_zero, List.set_cons_succ, List.getElem?_cons_zero, List.getElem?_cons_succ, ald_1, ald_2, ast_1, ast_2, aln_1, aln_2, gf_1, gf_2, pf_1, pf_2, nw_1, ck_0, ck_1, ck_2, ck_3, ck_4, rr_1, rc_1, rc_2, K_i, K_l, K_v, I_add, I_sub, I_mul, I_div, I_em, I_eq0, I_lt0, I_0lt, I_le0, I_0le, I_eq, I_lt, I_le, I_a1, I_r1, I_eq1, I32_at, I32_s, Int.toNat_natCast, List.set_cons_zero, reduceCtorEq, not_false_eq_true, not_true_eq_false, false_and, true_and, and_true, and_false, false_or, true_or, or_true, or_false, if_true, if_false, eq_self, ↓reduceIte, Int.reduceEq, Int.reduceLT, Int.reduceLE, Int.reduceAdd, Int.reduceSub, Int.reduceMul, Int.reduceNeg, Int.reduceToNat, Nat.reduceLT, Nat.reduceAdd, Nat.reduceEqDiff, List.length_cons, List.length_nil]
  exact U2 hL (fun A F T X rx => ⟨rfl, Nat.le_trans rx.2.1 (by decide), Nat.le_trans rx.2.2 (by decide)⟩) 40 0 _ _ _ _ _ _ _ _ 0 none none none none none none none none none none none none none (by omega) Iv_0 rfl (by decide) (by decide) ⟨by decide, by decide, by decide⟩
end sw_tm
