section sw_te
variable {L : Nat} {A : Nat → Nat → Int} {F : Nat → Int} {T : Nat → sw_Ce} {X : Nat × Nat × Nat} {Q : sw_Ot → sw_HS → Prop} {shut wet trees oil : Int64} {d turn ac sa : Int} {v y : Int32} {x21 x22 x23 x24 x25 x26 x27 x28 x29 : Option Value}
def AE (L a b : Nat) (turn : Int) (v y : Int32) (ac sa : Int) (Q : sw_Ot → sw_HS → Prop) : Prop := ∀ (B : Nat → Nat → Int) (G : Nat → Int) (T2 : Nat → sw_Ce) (X2 : Nat × Nat × Nat) (s2 w2 r2 o2 : Int64) (d2 : Int) (x21 x22 x23 x24 x25 x26 x27 x28 x29 : Option Value), Ia B s2 w2 r2 o2 → G 0 = d2 → 0 ≤ d2 → d2 < 65536 → Rm X2 (a + 30) (b + 400) → sw_A 150 1275 [some (.ref 0), some (.ref 1), some (.ref 54), some (.ref 55), some (.ref 56), some (.ref 57), some (.ref 58), some (.long s2), none, some (.long w2), none, some (.long r2), none, some (.long o2), none, some (.int (Int32.ofInt d2)), some (.int (Int32.ofInt turn)), some (.int v), some (.int y), some (.int (Int32.ofInt ac)), some (.int (Int32.ofInt sa)), x21, x22, x23, x24, x25, x26, x27, x28, x29] [] (sw_h L B G T2 X2) Q
theorem Rm_0 {a b : Nat} (h : Rm X a b) : Rm X (a + 30) (b + 400) := ⟨h.1, Nat.le_trans h.2.1 (Nat.le_add_right _ _), Nat.le_trans h.2.2 (Nat.le_add_right _ _)⟩
/-- only the numbers are changed -/
theorem Iq_m {B : Nat → Nat → Int} (h : Iq A shut) (g9 : B 9 = A 9) (g10 : B 10 = A 10) (g11 : B 11 = A 11) (g48 : B 48 = A 48) (g43 : B 43 = A 43) (g58 : B 58 = A 58) (n3 : ∀ i, i < 60 → 0 ≤ B 3 i ∧ B 3 i < 1000) (n4 : ∀ i, i < 36 → 0 ≤ B 4 i ∧ B 4 i < 1000) (n54 : ∀ i, i < 60 → B 54 i = B 3 i) (n55 : ∀ i, i < 36 → B 55 i = B 4 i) : Iq B shut := by
  have hs := h.1.2.2.2
  have h9 := h.1.1.2.2
  have h2 := h.2
  refine ⟨⟨⟨n3, n4, ?_⟩, n54, n55, ?_⟩, ?_⟩
  · rw [g9]; exact h9
  · rw [g9]; exact hs
  · rw [g9, g10, g11, g43, g48, g58]; exact h2
theorem Ia_m {B : Nat → Nat → Int} (hI : Iv A shut wet trees oil) (h : Iq B shut) (g10 : B 10 = A 10) (g11 : B 11 = A 11) (g48 : B 48 = A 48) : Ia B shut wet trees oil := by
  refine Iv_a ⟨h, ?_⟩
  rw [g10, g11, g48]
  exact hI.2
theorem Ac0 (hI : Iv A shut wet trees oil) (hd : F 0 = d) (d0 : 0 ≤ d) (d9 : d < 65536) (s0 : 0 ≤ sa) (s9 : sa < 36) {a b : Nat} (hX : Rm X a b) (hQ : AE L a b turn v y ac sa Q) :
    sw_A 150 138 [some (.ref 0), some (.ref 1), some (.ref 54), some (.ref 55), some (.ref 56), some (.ref 57), some (.ref 58), some (.long shut), none, some (.long wet), none, some (.long trees), none, some (.long oil), none, some (.int (Int32.ofInt d)), some (.int (Int32.ofInt turn)), some (.int v), some (.int y), some (.int (Int32.ofInt ac)), some (.int (Int32.ofInt sa)), x21, x22, x23, x24, x25, x26, x27, x28, x29] [] (sw_h L A F T X) Q := by
  have b0 := f_low_b (v := y) (n := 65536) (by omega)
  simp (disch := omega) only [r150_138, r150_140, r150_142, r150_145, r150_147, r150_148, r150_150, sw_ldi, sw_ldl, sw_lda, sw_has1, sw_i1, sw_i2, sw_l1, sw_l2, sw_li, sw_r1, sw_ri, sw_rix, sw_rv, sw_pop, sw_set1, sw_set2, List.set_cons_zero, List.set_cons_succ, List.getElem?_cons_zero, List.getElem?_cons_succ, ald_1, ald_2, ast_1, ast_2, aln_1, aln_2, gf_1, gf_2, pf_1, pf_2, nw_1, ck_0, ck_1, ck_2, ck_3, ck_4, rr_1, rc_1, rc_2, K_i, K_l, K_v, I_add, I_sub, I_mul, I_div, I_em, I_eq0, I_lt0, I_0lt, I_le0, I_0le, I_eq, I_lt, I_le, I_a1, I_r1, I_eq1, I32_at, I32_s, Int.toNat_natCast, List.set_cons_zero, reduceCtorEq, not_false_eq_true, not_true_eq_false, false_and, true_and, and_true, and_false, false_or, true_or, or_true, or_false, if_true, if_false, eq_self, ↓reduceIte, Int.reduceEq, Int.reduceLT, Int.reduceLE, Int.reduceAdd, Int.reduceSub, Int.reduceMul, Int.reduceNeg, Int.reduceToNat, Nat.reduceLT, Nat.reduceAdd, Nat.reduceEqDiff, List.length_cons, List.length_nil, m16, h_1]
  generalize f_low y 65536 = z at b0
  rw [m20 b0]
  simp (disch := omega) only [r150_153, r150_155, r150_156, r150_157, sw_ldi, sw_ldl, sw_lda, sw_has1, sw_i1, sw_i2, sw_l1, sw_l2, sw_li, sw_r1, sw_ri, sw_rix, sw_rv, sw_pop, sw_set1, sw_set2, List.set_cons_zero, List.set_cons_succ, List.getElem?_cons_zero, List.getElem?_cons_succ, ald_1, ald_2, ast_1, ast_2, aln_1, aln_2, gf_1, gf_2, pf_1, pf_2, nw_1, ck_0, ck_1, ck_2, ck_3, ck_4, rr_1, rc_1, rc_2, K_i, K_l, K_v, I_add, I_sub, I_mul, I_div, I_em, I_eq0, I_lt0, I_0lt, I_le0, I_0le, I_eq, I_lt, I_le, I_a1, I_r1, I_eq1, I32_at, I32_s, Int.toNat_natCast, List.set_cons_zero, reduceCtorEq, not_false_eq_true, not_true_eq_false, false_and, true_and, and_true, and_false, false_or, true_or, or_true, or_false, if_true, if_false, eq_self, ↓reduceIte, Int.reduceEq, Int.reduceLT, Int.reduceLE, Int.reduceAdd, Int.reduceSub, Int.reduceMul, Int.reduceNeg, Int.reduceToNat, Nat.reduceLT, Nat.reduceAdd, Nat.reduceEqDiff, List.length_cons, List.length_nil]
  rw [m22_54 b0]
  simp (disch := omega) only [r150_160, sw_ldi, sw_ldl, sw_lda, sw_has1, sw_i1, sw_i2, sw_l1, sw_l2, sw_li, sw_r1, sw_ri, sw_rix, sw_rv, sw_pop, sw_set1, sw_set2, List.set_cons_zero, List.set_cons_succ, List.getElem?_cons_zero, List.getElem?_cons_succ, ald_1, ald_2, ast_1, ast_2, aln_1, aln_2, gf_1, gf_2, pf_1, pf_2, nw_1, ck_0, ck_1, ck_2, ck_3, ck_4, rr_1, rc_1, rc_2, K_i, K_l, K_v, I_add, I_sub, I_mul, I_div, I_em, I_eq0, I_lt0, I_0lt, I_le0, I_0le, I_eq, I_lt, I_le, I_a1, I_r1, I_eq1, I32_at, I32_s, Int.toNat_natCast, List.set_cons_zero, reduceCtorEq, not_false_eq_true, not_true_eq_false, false_and, true_and, and_true, and_false, false_or, true_or, or_true, or_false, if_true, if_false, eq_self, ↓reduceIte, Int.reduceEq, Int.reduceLT, Int.reduceLE, Int.reduceAdd, Int.reduceSub, Int.reduceMul, Int.reduceNeg, Int.reduceToNat, Nat.reduceLT, Nat.reduceAdd, Nat.reduceEqDiff, List.length_cons, List.length_nil]
  refine hQ _ _ _ _ _ _ _ _ _ _ _ _ _ _ _ _ _ _ (Ia_m hI (Iq_m hI.1 rfl rfl rfl rfl rfl rfl (fun i h => ?_) (fun i h => ?_) (fun i h => ?_) (fun i h => ?_)) rfl rfl rfl) hd d0 d9 (Rm_0 hX)
  · show 0 ≤ mix 60 (fun k => dz z (k + 1) % 1000) _ i ∧ mix 60 (fun k => dz z (k + 1) % 1000) _ i < 1000
    rw [mix_at h]
    omega
  · show 0 ≤ mix 36 (fun k => dz z (61 + k) % 1000) _ i ∧ mix 36 (fun k => dz z (61 + k) % 1000) _ i < 1000
    rw [mix_at h]
    omega
  · show mix 60 (fun k => dz z (k + 1) % 1000) _ i = mix 60 (fun k => dz z (k + 1) % 1000) _ i
    rw [mix_at h, mix_at h]
  · show mix 36 (fun k => dz z (61 + k) % 1000) _ i = mix 36 (fun k => dz z (61 + k) % 1000) _ i
    rw [mix_at h, mix_at h]
theorem Ac1 (hI : Iv A shut wet trees oil) (hd : F 0 = d) (d0 : 0 ≤ d) (d9 : d < 65536) (s0 : 0 ≤ sa) (s9 : sa < 36) {a b : Nat} (hX : Rm X a b) (hQ : AE L a b turn v y ac sa Q) :
    sw_A 150 169 [some (.ref 0), some (.ref 1), some (.ref 54), some (.ref 55), some (.ref 56), some (.ref 57), some (.ref 58), some (.long shut), none, some (.long wet), none, some (.long trees), none, some (.long oil), none, some (.int (Int32.ofInt d)), some (.int (Int32.ofInt turn)), some (.int v), some (.int y), some (.int (Int32.ofInt ac)), some (.int (Int32.ofInt sa)), x21, x22, x23, x24, x25, x26, x27, x28, x29] [] (sw_h L A F T X) Q := by
  have b0 := f_low_b (v := y) (n := 60) (by omega)
  have b1 := f_low_b (v := y >>> (Int32.ofInt 6 &&& 31)) (n := 1000) (by omega)
  have b2 := f_low_b (v := v >>> (Int32.ofInt 4 &&& 31)) (n := 1000) (by omega)
  have c0 := hI.1.1.1.1 (f_low y 60).toNat (by omega)
  have c1 := hI.1.1.1.2.1 sa.toNat (by omega)
  have e0 := hI.1.1.2.1 (f_low y 60).toNat (by omega)
  have e1 := hI.1.1.2.2.1 sa.toNat (by omega)
  simp (disch := omega) only [r150_169, r150_171, r150_173, r150_176, r150_178, r150_180, r150_182, r150_183, r150_186, r150_189, r150_191, r150_193, r150_194, r150_195, r150_198, r150_201, r150_203, r150_204, r150_206, r150_208, sw_ldi, sw_ldl, sw_lda, sw_has1, sw_i1, sw_i2, sw_l1, sw_l2, sw_li, sw_r1, sw_ri, sw_rix, sw_rv, sw_pop, sw_set1, sw_set2, List.set_cons_zero, List.set_cons_succ, List.getElem?_cons_zero, List.getElem?_cons_succ, ald_1, ald_2, ast_1, ast_2, aln_1, aln_2, gf_1, gf_2, pf_1, pf_2, nw_1, ck_0, ck_1, ck_2, ck_3, ck_4, rr_1, rc_1, rc_2, K_i, K_l, K_v, I_add, I_sub, I_mul, I_div, I_em, I_eq0, I_lt0, I_0lt, I_le0, I_0le, I_eq, I_lt, I_le, I_a1, I_r1, I_eq1, I32_at, I32_s, Int.toNat_natCast, List.set_cons_zero, reduceCtorEq, not_false_eq_true, not_true_eq_false, false_and, true_and, and_true, and_false, false_or, true_or, or_true, or_false, if_true, if_false, eq_self, ↓reduceIte, Int.reduceEq, Int.reduceLT, Int.reduceLE, Int.reduceAdd, Int.reduceSub, Int.reduceMul, Int.reduceNeg, Int.reduceToNat, Nat.reduceLT, Nat.reduceAdd, Nat.reduceEqDiff, List.length_cons, List.length_nil, m16, h_1]
  generalize f_low y 60 = z at b0 c0 e0
  generalize f_low (y >>> (Int32.ofInt 6 &&& 31)) 1000 = n1 at b1
  generalize f_low (v >>> (Int32.ofInt 4 &&& 31)) 1000 = n2 at b2
  rw [m24 c0 b0.1 b0.2 b1.1 b1.2]
  simp (disch := omega) only [r150_211, r150_212, r150_214, r150_215, r150_218, r150_219, r150_221, r150_223, sw_ldi, sw_ldl, sw_lda, sw_has1, sw_i1, sw_i2, sw_l1, sw_l2, sw_li, sw_r1, sw_ri, sw_rix, sw_rv, sw_pop, sw_set1, sw_set2, List.set_cons_zero, List.set_cons_succ, List.getElem?_cons_zero, List.getElem?_cons_succ, ald_1, ald_2, ast_1, ast_2, aln_1, aln_2, gf_1, gf_2, pf_1, pf_2, nw_1, ck_0, ck_1, ck_2, ck_3, ck_4, rr_1, rc_1, rc_2, K_i, K_l, K_v, I_add, I_sub, I_mul, I_div, I_em, I_eq0, I_lt0, I_0lt, I_le0, I_0le, I_eq, I_lt, I_le, I_a1, I_r1, I_eq1, I32_at, I32_s, Int.toNat_natCast, List.set_cons_zero, reduceCtorEq, not_false_eq_true, not_true_eq_false, false_and, true_and, and_true, and_false, false_or, true_or, or_true, or_false, if_true, if_false, eq_self, ↓reduceIte, Int.reduceEq, Int.reduceLT, Int.reduceLE, Int.reduceAdd, Int.reduceSub, Int.reduceMul, Int.reduceNeg, Int.reduceToNat, Nat.reduceLT, Nat.reduceAdd, Nat.reduceEqDiff, List.length_cons, List.length_nil, h_1, h_54, sA_at, e0]
  rw [m26 (A := sw_s A 3 (sw_s (A 3) z.toNat n1)) c1 s0 s9 b2.1 b2.2]
  simp (disch := omega) only [r150_226, r150_227, r150_229, r150_230, r150_233, r150_234, r150_235, r150_236, r150_238, r150_240, r150_241, r150_242, r150_244, r150_246, r150_247, sw_ldi, sw_ldl, sw_lda, sw_has1, sw_i1, sw_i2, sw_l1, sw_l2, sw_li, sw_r1, sw_ri, sw_rix, sw_rv, sw_pop, sw_set1, sw_set2, List.set_cons_zero, List.set_cons_succ, List.getElem?_cons_zero, List.getElem?_cons_succ, ald_1, ald_2, ast_1, ast_2, aln_1, aln_2, gf_1, gf_2, pf_1, pf_2, nw_1, ck_0, ck_1, ck_2, ck_3, ck_4, rr_1, rc_1, rc_2, K_i, K_l, K_v, I_add, I_sub, I_mul, I_div, I_em, I_eq0, I_lt0, I_0lt, I_le0, I_0le, I_eq, I_lt, I_le, I_a1, I_r1, I_eq1, I32_at, I32_s, Int.toNat_natCast, List.set_cons_zero, reduceCtorEq, not_false_eq_true, not_true_eq_false, false_and, true_and, and_true, and_false, false_or, true_or, or_true, or_false, if_true, if_false, eq_self, ↓reduceIte, Int.reduceEq, Int.reduceLT, Int.reduceLE, Int.reduceAdd, Int.reduceSub, Int.reduceMul, Int.reduceNeg, Int.reduceToNat, Nat.reduceLT, Nat.reduceAdd, Nat.reduceEqDiff, List.length_cons, List.length_nil, h_54, h_55, w_54, w_55, sA_at, e1]
  refine hQ _ _ _ _ _ _ _ _ _ _ _ _ _ _ _ _ _ _ (Ia_m hI (Iq_m hI.1 rfl rfl rfl rfl rfl rfl (fun i h => ?_) (fun i h => ?_) (fun i h => ?_) (fun i h => ?_)) rfl rfl rfl) hd d0 d9 (Rm_0 hX)
  · show 0 ≤ sw_s (A 3) z.toNat n1 i ∧ sw_s (A 3) z.toNat n1 i < 1000
    unfold sw_s
    split
    · exact b1
    · exact hI.1.1.1.1 i h
  · show 0 ≤ sw_s (A 4) sa.toNat n2 i ∧ sw_s (A 4) sa.toNat n2 i < 1000
    unfold sw_s
    split
    · exact b2
    · exact hI.1.1.1.2.1 i h
  · show sw_s (A 54) z.toNat n1 i = sw_s (A 3) z.toNat n1 i
    unfold sw_s
    rw [hI.1.1.2.1 i h]
  · show sw_s (A 55) sa.toNat n2 i = sw_s (A 4) sa.toNat n2 i
    unfold sw_s
    rw [hI.1.1.2.2.1 i h]
end sw_te
