section sw_tf
variable {L : Nat} {A : Nat → Nat → Int} {F : Nat → Int} {T : Nat → sw_Ce} {X : Nat × Nat × Nat} {Q : sw_Ot → sw_HS → Prop} {shut wet trees oil : Int64} {d turn ac sa : Int} {v y : Int32} {x21 x22 x23 x24 x25 x26 x27 x28 x29 : Option Value}
def sb (s : Nat) : Int64 := Int64.ofNat 1 <<< ((Int32.ofInt (s : Nat)).toInt64 &&& 63)
theorem hb_sb {s t : Nat} (hs : s < 64) (ht : t < 64) : hb (sb s) t = decide (t = s) := hb_sh s t hs ht
theorem sb_o {w : Int64} {s t : Nat} (hs : s < 64) (ht : t < 64) : hb (w ||| sb s) t = (hb w t || decide (t = s)) := by rw [hb_or, hb_sb hs ht]
theorem sb_a {w : Int64} {s t : Nat} (hs : s < 64) (ht : t < 64) : hb (w &&& (sb s ^^^ Int64.ofInt (-1))) t = (hb w t && !decide (t = s)) := by
  rw [hb_and, hb_xor, hb_sb hs ht, hb_m1 t ht]
  cases decide (t = s) <;> rfl
theorem Bw_cl {w : Int64} {f : Nat → Int} {s : Nat} (hs : s < 36) (h : Bt w f) (g : ∀ t, t < 36 → f t = 1 → hb shut t = false) : Bw (shut ||| sb s) w (sw_s f s 0) := fun t ht => by
  rw [sb_o (by omega) ht]
  unfold sw_s
  by_cases e : t = s
  · rw [if_pos e, decide_eq_true e, Bool.or_true]
    exact ⟨fun q => absurd q.2 (by decide), fun q => absurd q.2 (by decide)⟩
  · rw [if_neg e, decide_eq_false e, Bool.or_false]
    exact ⟨fun q => (h t ht).mp q.1, fun q => ⟨(h t ht).mpr q, g t q.1 q.2⟩⟩
theorem Bw_op {w : Int64} {f : Nat → Int} {s : Nat} (hs : s < 36) (h : Bt w f) (g : ∀ t, t < 36 → f t = 1 → hb shut t = false) : Bw (shut &&& (sb s ^^^ Int64.ofInt (-1))) w f := Bw_of h fun t ht q => by
  rw [sb_a (by omega) (by omega), g t ht q, Bool.false_and]
theorem B01_s {f : Nat → Int} {s : Nat} {x : Int} (h : B01 f) (hx : x = 0 ∨ x = 1) : B01 (sw_s f s x) := fun t ht => by
  unfold sw_s
  split
  · exact hx
  · exact h t ht
/-- closing -/
theorem Ia_cl {s : Nat} (hs : s < 36) (hI : Iv A shut wet trees oil) : Ia (sw_s (sw_s (sw_s (sw_s A 9 (sw_s (A 9) s 1)) 10 (sw_s (A 10) s 0)) 11 (sw_s (A 11) s 0)) 48 (sw_s (A 48) s 0)) (shut ||| sb s) wet trees oil := by
  have h := hI.1
  refine ⟨⟨⟨⟨h.1.1.1, h.1.1.2.1, B01_s h.1.1.2.2 (Or.inr rfl)⟩, h.1.2.1, h.1.2.2.1, fun t ht => ?_, fun t h1 h2 => ?_⟩, ⟨B01_s h.2.1.1 (Or.inl rfl), B01_s h.2.1.2.1 (Or.inl rfl), B01_s h.2.1.2.2 (Or.inl rfl)⟩, fun t ht q => ?_, h.2.2.2.1, h.2.2.2.2⟩, Bw_cl hs hI.2.1 fun t ht g => Iq_n h ht (Or.inl rfl) g, Bw_cl hs hI.2.2.1 fun t ht g => Iq_n h ht (Or.inr (Or.inl rfl)) g, Bw_cl hs hI.2.2.2 fun t ht g => Iq_n h ht (Or.inr (Or.inr rfl)) g⟩
  · rw [sb_o (by omega) (by omega)]
    show _ ↔ sw_s (A 9) s 1 t = 1
    unfold sw_s
    by_cases e : t = s
    · rw [if_pos e, decide_eq_true e, Bool.or_true]
      exact ⟨fun _ => rfl, fun _ => rfl⟩
    · rw [if_neg e, decide_eq_false e, Bool.or_false]
      exact Iq_s h ht
  · rw [sb_o (by omega) h2, decide_eq_false (by omega), Bool.or_false]
    exact h.1.2.2.2.2 t h1 h2
  · have q : sw_s (A 9) s 1 t = 1 := q
    show sw_s (A 10) s 0 t = 0 ∧ sw_s (A 11) s 0 t = 0 ∧ sw_s (A 48) s 0 t = 0
    unfold sw_s at q ⊢
    by_cases e : t = s
    · rw [if_pos e, if_pos e, if_pos e]
      exact ⟨rfl, rfl, rfl⟩
    · rw [if_neg e] at q ⊢
      rw [if_neg e, if_neg e]
      exact h.2.2.1 t ht q
/-- opening -/
theorem Ia_op {s : Nat} (hs : s < 36) (hI : Iv A shut wet trees oil) : Ia (sw_s A 9 (sw_s (A 9) s 0)) (shut &&& (sb s ^^^ Int64.ofInt (-1))) wet trees oil := by
  have h := hI.1
  refine ⟨⟨⟨⟨h.1.1.1, h.1.1.2.1, B01_s h.1.1.2.2 (Or.inl rfl)⟩, h.1.2.1, h.1.2.2.1, fun t ht => ?_, fun t h1 h2 => ?_⟩, h.2.1, fun t ht q => ?_, h.2.2.2.1, h.2.2.2.2⟩, Bw_op hs hI.2.1 fun t ht g => Iq_n h ht (Or.inl rfl) g, Bw_op hs hI.2.2.1 fun t ht g => Iq_n h ht (Or.inr (Or.inl rfl)) g, Bw_op hs hI.2.2.2 fun t ht g => Iq_n h ht (Or.inr (Or.inr rfl)) g⟩
  · rw [sb_a (by omega) (by omega)]
    show _ ↔ sw_s (A 9) s 0 t = 1
    unfold sw_s
    by_cases e : t = s
    · rw [if_pos e, decide_eq_true e, Bool.not_true, Bool.and_false]
      exact ⟨fun q => absurd q (by decide), fun q => absurd q (by decide)⟩
    · rw [if_neg e, decide_eq_false e, Bool.not_false, Bool.and_true]
      exact Iq_s h ht
  · rw [sb_a (by omega) h2, h.1.2.2.2.2 t h1 h2, Bool.false_and]
  · have q : sw_s (A 9) s 0 t = 1 := q
    unfold sw_s at q
    by_cases e : t = s
    · rw [if_pos e] at q
      exact absurd q (by decide)
    · rw [if_neg e] at q
      exact h.2.2.1 t ht q
theorem Ac2 (hI : Iv A shut wet trees oil) (hd : F 0 = d) (d0 : 0 ≤ d) (d9 : d < 65536) (s0 : 0 ≤ sa) (s9 : sa < 36) {a b : Nat} (hX : Rm X a b) (hQ : AE L a b turn v y ac sa Q) :
    sw_A 150 256 [some (.ref 0), some (.ref 1), some (.ref 54), some (.ref 55), some (.ref 56), some (.ref 57), some (.ref 58), some (.long shut), none, some (.long wet), none, some (.long trees), none, some (.long oil), none, some (.int (Int32.ofInt d)), some (.int (Int32.ofInt turn)), some (.int v), some (.int y), some (.int (Int32.ofInt ac)), some (.int (Int32.ofInt sa)), x21, x22, x23, x24, x25, x26, x27, x28, x29] [] (sw_h L A F T X) Q := by
  have b0 := f_low_b (v := v >>> (Int32.ofInt 9 &&& 31)) (n := 3) (by omega)
  have c0 := hI.1.1.1.2.2 sa.toNat (by omega)
  have e0 := Lw_sh hI.1.1 sa.toNat (by omega)
  obtain ⟨s, rfl⟩ := Int.eq_ofNat_of_zero_le s0
  rw [Int.toNat_natCast] at c0 e0
  have hs : s < 36 := by omega
  by_cases c : f_low (v >>> (Int32.ofInt 9 &&& 31)) 3 ≤ 0
  · simp (disch := omega) only [r150_256, r150_258, r150_260, r150_261, r150_262, r150_265, r150_268, r150_269, r150_272, r150_273, r150_275, r150_276, r150_278, r150_280, sw_ldi, sw_ldl, sw_lda, sw_has1, sw_i1, sw_i2, sw_l1, sw_l2, sw_li, sw_r1, sw_ri, sw_rix, sw_rv, sw_pop, sw_set1, sw_set2, List.set_cons_zero, List.set_cons_succ, List.getElem?_cons_zero, List.getElem?_cons_succ, ald_1, ald_2, ast_1, ast_2, aln_1, aln_2, gf_1, gf_2, pf_1, pf_2, nw_1, ck_0, ck_1, ck_2, ck_3, ck_4, rr_1, rc_1, rc_2, K_i, K_l, K_v, I_add, I_sub, I_mul, I_div, I_em, I_eq0, I_lt0, I_0lt, I_le0, I_0le, I_eq, I_lt, I_le, I_a1, I_r1, I_eq1, I32_at, I32_s, Int.toNat_natCast, List.set_cons_zero, reduceCtorEq, not_false_eq_true, not_true_eq_false, false_and, true_and, and_true, and_false, false_or, true_or, or_true, or_false, if_true, if_false, eq_self, ↓reduceIte, Int.reduceEq, Int.reduceLT, Int.reduceLE, Int.reduceAdd, Int.reduceSub, Int.reduceMul, Int.reduceNeg, Int.reduceToNat, Nat.reduceLT, Nat.reduceAdd, Nat.reduceEqDiff, List.length_cons, List.length_nil, m16, h_1, c]
    rw [m29 c0 (by omega) (by omega) (Or.inl rfl)]
    simp (disch := omega) only [r150_283, r150_285, r150_287, r150_290, r150_293, r150_294, r150_295, r150_297, r150_300, r150_302, r150_303, r150_305, r150_306, r150_307, r150_310, r150_312, r150_313, r150_315, r150_316, r150_319, r150_320, r150_321, r150_323, sw_ldi, sw_ldl, sw_lda, sw_has1, sw_i1, sw_i2, sw_l1, sw_l2, sw_li, sw_r1, sw_ri, sw_rix, sw_rv, sw_pop, sw_set1, sw_set2, List.set_cons_zero, List.set_cons_succ, List.getElem?_cons_zero, List.getElem?_cons_succ, ald_1, ald_2, ast_1, ast_2, aln_1, aln_2, gf_1, gf_2, pf_1, pf_2, nw_1, ck_0, ck_1, ck_2, ck_3, ck_4, rr_1, rc_1, rc_2, K_i, K_l, K_v, I_add, I_sub, I_mul, I_div, I_em, I_eq0, I_lt0, I_0lt, I_le0, I_0le, I_eq, I_lt, I_le, I_a1, I_r1, I_eq1, I32_at, I32_s, Int.toNat_natCast, List.set_cons_zero, reduceCtorEq, not_false_eq_true, not_true_eq_false, false_and, true_and, and_true, and_false, false_or, true_or, or_true, or_false, if_true, if_false, eq_self, ↓reduceIte, Int.reduceEq, Int.reduceLT, Int.reduceLE, Int.reduceAdd, Int.reduceSub, Int.reduceMul, Int.reduceNeg, Int.reduceToNat, Nat.reduceLT, Nat.reduceAdd, Nat.reduceEqDiff, List.length_cons, List.length_nil, m30, e0]
    exact hQ _ _ _ _ _ _ _ _ _ _ _ _ _ _ _ _ _ _ (Ia_op hs hI) hd d0 d9 (Rm_0 hX)
  · simp (disch := omega) only [r150_256, r150_258, r150_260, r150_261, r150_262, r150_265, r150_268, r150_269, r150_272, r150_273, r150_275, r150_276, r150_278, r150_280, sw_ldi, sw_ldl, sw_lda, sw_has1, sw_i1, sw_i2, sw_l1, sw_l2, sw_li, sw_r1, sw_ri, sw_rix, sw_rv, sw_pop, sw_set1, sw_set2, List.set_cons_zero, List.set_cons_succ, List.getElem?_cons_zero, List.getElem?_cons_succ, ald_1, ald_2, ast_1, ast_2, aln_1, aln_2, gf_1, gf_2, pf_1, pf_2, nw_1, ck_0, ck_1, ck_2, ck_3, ck_4, rr_1, rc_1, rc_2, K_i, K_l, K_v, I_add, I_sub, I_mul, I_div, I_em, I_eq0, I_lt0, I_0lt, I_le0, I_0le, I_eq, I_lt, I_le, I_a1, I_r1, I_eq1, I32_at, I32_s, Int.toNat_natCast, List.set_cons_zero, reduceCtorEq, not_false_eq_true, not_true_eq_false, false_and, true_and, and_true, and_false, false_or, true_or, or_true, or_false, if_true, if_false, eq_self, ↓reduceIte, Int.reduceEq, Int.reduceLT, Int.reduceLE, Int.reduceAdd, Int.reduceSub, Int.reduceMul, Int.reduceNeg, Int.reduceToNat, Nat.reduceLT, Nat.reduceAdd, Nat.reduceEqDiff, List.length_cons, List.length_nil, m16, h_1, c]
    rw [m29 c0 (by omega) (by omega) (Or.inr rfl)]
    simp (disch := omega) only [r150_283, r150_285, r150_287, r150_290, r150_293, r150_294, r150_295, r150_297, r150_300, r150_302, r150_303, r150_305, r150_306, r150_307, r150_310, r150_312, r150_313, r150_315, r150_316, r150_319, r150_320, r150_321, r150_323, sw_ldi, sw_ldl, sw_lda, sw_has1, sw_i1, sw_i2, sw_l1, sw_l2, sw_li, sw_r1, sw_ri, sw_rix, sw_rv, sw_pop, sw_set1, sw_set2, List.set_cons_zero, List.set_cons_succ, List.getElem?_cons_zero, List.getElem?_cons_succ, ald_1, ald_2, ast_1, ast_2, aln_1, aln_2, gf_1, gf_2, pf_1, pf_2, nw_1, ck_0, ck_1, ck_2, ck_3, ck_4, rr_1, rc_1, rc_2, K_i, K_l, K_v, I_add, I_sub, I_mul, I_div, I_em, I_eq0, I_lt0, I_0lt, I_le0, I_0le, I_eq, I_lt, I_le, I_a1, I_r1, I_eq1, I32_at, I32_s, Int.toNat_natCast, List.set_cons_zero, reduceCtorEq, not_false_eq_true, not_true_eq_false, false_and, true_and, and_true, and_false, false_or, true_or, or_true, or_false, if_true, if_false, eq_self, ↓reduceIte, Int.reduceEq, Int.reduceLT, Int.reduceLE, Int.reduceAdd, Int.reduceSub, Int.reduceMul, Int.reduceNeg, Int.reduceToNat, Nat.reduceLT, Nat.reduceAdd, Nat.reduceEqDiff, List.length_cons, List.length_nil, m30, e0]
    exact hQ _ _ _ _ _ _ _ _ _ _ _ _ _ _ _ _ _ _ (Ia_cl hs hI) hd d0 d9 (Rm_0 hX)
/-- the oil is moved -/
theorem lsP_c {P P2 : Nat → Prop} : ∀ n, (∀ t, t < n → (P t ↔ P2 t)) → lsP P n = lsP P2 n
  | 0, _ => rfl
  | n + 1, h => by
    have ih := lsP_c n fun t ht => h t (by omega)
    have q := h n (by omega)
    unfold lsP
    rw [ih]
    by_cases c : P n
    · rw [if_pos c, if_pos (q.mp c)]
    · rw [if_neg c, if_neg (fun z => c (q.mpr z))]
theorem psq_c {sh ns ns2 : Nat → Int} {pr iso : Int} {o : Nat → Int} (h : ∀ t, t < 36 → ns t = ns2 t) : ∀ n, psq sh ns pr iso o n = psq sh ns2 pr iso o n
  | 0 => rfl
  | n + 1 => by
    have ih := psq_c (sh := sh) (pr := pr) (iso := iso) (o := o) h n
    unfold psq
    rw [ih, lsP_c 36 fun t ht => CD_c (fun _ _ => rfl) (fun _ _ => rfl) h ht]
theorem psq_sh {sh ns : Nat → Int} {pr iso : Int} {o : Nat → Int} (h : ∀ t, t < 36 → sh t = 1 → o t = 0) : ∀ n t, t < 36 → sh t = 1 → psq sh ns pr iso o n t = 0
  | 0, t, ht, q => h t ht q
  | n + 1, t, ht, q => by
    have ih := psq_sh (ns := ns) (pr := pr) (iso := iso) h n t ht q
    unfold psq
    split
    · exact ih
    · next ne =>
      rcases lsP_v (P := CD sh ns pr iso (psq sh ns pr iso o n)) 36 with ⟨e, -⟩ | ⟨s, e, s1, s2, -⟩
      · exact absurd e ne
      · unfold sw_s
        rw [e, Int.toNat_natCast]
        by_cases c : t = s
        · subst c
          exact absurd (HG_sh s2.1) (by omega)
        · rw [if_neg c]
          exact ih
theorem Ia_oil {o hg q : Nat → Int} {w : Int64} (hI : Iv A shut wet trees oil) (ho : B01 o) (hw : Bt w o) (hs : ∀ t, t < 36 → A 9 t = 1 → o t = 0) : Ia (sw_s (sw_s (sw_s A 48 o) 49 hg) 51 q) shut wet trees w := by
  have h := hI.1
  exact Iv_a ⟨⟨h.1, ⟨h.2.1.1, h.2.1.2.1, ho⟩, fun t ht g => ⟨(h.2.2.1 t ht g).1, (h.2.2.1 t ht g).2.1, hs t ht g⟩, h.2.2.2⟩, hI.2.1, hI.2.2.1, hw⟩
theorem Bt_c {w : Int64} {f g : Nat → Int} (h : Bt w f) (e : ∀ t, t < 36 → f t = g t) : Bt w g := fun t ht => by
  rw [h t ht]
  exact ⟨fun q => ⟨q.1, by rw [← e t q.1]; exact q.2⟩, fun q => ⟨q.1, by rw [e t q.1]; exact q.2⟩⟩
theorem Ac7 (hI : Iv A shut wet trees oil) (hd : F 0 = d) (d0 : 0 ≤ d) (d9 : d < 65536) (s0 : 0 ≤ sa) (s9 : sa < 36) {a b : Nat} (hX : Rm X a b) (hQ : AE L a b turn v y ac sa Q) :
    sw_A 150 991 [some (.ref 0), some (.ref 1), some (.ref 54), some (.ref 55), some (.ref 56), some (.ref 57), some (.ref 58), some (.long shut), none, some (.long wet), none, some (.long trees), none, some (.long oil), none, some (.int (Int32.ofInt d)), some (.int (Int32.ofInt turn)), some (.int v), some (.int y), some (.int (Int32.ofInt ac)), some (.int (Int32.ofInt sa)), x21, x22, x23, x24, x25, x26, x27, x28, x29] [] (sw_h L A F T X) Q := by
  have b0 := f_low_b (v := y) (n := 1001) (by omega)
  simp (disch := omega) only [r150_991, r150_993, r150_996, r150_999, r150_1001, r150_1002, r150_1004, r150_1006, r150_1008, r150_1009, sw_ldi, sw_ldl, sw_lda, sw_has1, sw_i1, sw_i2, sw_l1, sw_l2, sw_li, sw_r1, sw_ri, sw_rix, sw_rv, sw_pop, sw_set1, sw_set2, List.set_cons_zero, List.set_cons_succ, List.getElem?_cons_zero, List.getElem?_cons_succ, ald_1, ald_2, ast_1, ast_2, aln_1, aln_2, gf_1, gf_2, pf_1, pf_2, nw_1, ck_0, ck_1, ck_2, ck_3, ck_4, rr_1, rc_1, rc_2, K_i, K_l, K_v, I_add, I_sub, I_mul, I_div, I_em, I_eq0, I_lt0, I_0lt, I_le0, I_0le, I_eq, I_lt, I_le, I_a1, I_r1, I_eq1, I32_at, I32_s, Int.toNat_natCast, List.set_cons_zero, reduceCtorEq, not_false_eq_true, not_true_eq_false, false_and, true_and, and_true, and_false, false_or, true_or, or_true, or_false, if_true, if_false, eq_self, ↓reduceIte, Int.reduceEq, Int.reduceLT, Int.reduceLE, Int.reduceAdd, Int.reduceSub, Int.reduceMul, Int.reduceNeg, Int.reduceToNat, Nat.reduceLT, Nat.reduceAdd, Nat.reduceEqDiff, List.length_cons, List.length_nil, m16]
  generalize f_low y 1001 = p at b0
  have h48 := hI.1.2.1.2.2
  obtain ⟨w, k1, k2⟩ := m70 (H := sw_h L A F T X) (Q := sw_K 150 1012 none [some (.ref 0), some (.ref 1), some (.ref 54), some (.ref 55), some (.ref 56), some (.ref 57), some (.ref 58), some (.long shut), none, some (.long wet), none, some (.long trees), none, some (.long oil), none, some (.int (Int32.ofInt d)), some (.int (Int32.ofInt turn)), some (.int v), some (.int y), some (.int (Int32.ofInt ac)), some (.int (Int32.ofInt sa)), some (.int (Int32.ofInt p)), x22, x23, x24, x25, x26, x27, x28, x29] [] Q) (rs := 55) (ns := A 55) (shut := shut) (oil := oil) (sh := A 9) (pr := p) (iso := 1) (o := A 48) h_55 (Lw_n hI.1.1).2 (by omega) (by omega) (by omega) (Lw_sh hI.1.1) h48 hI.2.2.2
  rw [k2]
  simp (disch := omega) only [r150_1012, r150_1014, r150_1015, r150_1017, sw_ldi, sw_ldl, sw_lda, sw_has1, sw_i1, sw_i2, sw_l1, sw_l2, sw_li, sw_r1, sw_ri, sw_rix, sw_rv, sw_pop, sw_set1, sw_set2, List.set_cons_zero, List.set_cons_succ, List.getElem?_cons_zero, List.getElem?_cons_succ, ald_1, ald_2, ast_1, ast_2, aln_1, aln_2, gf_1, gf_2, pf_1, pf_2, nw_1, ck_0, ck_1, ck_2, ck_3, ck_4, rr_1, rc_1, rc_2, K_i, K_l, K_v, I_add, I_sub, I_mul, I_div, I_em, I_eq0, I_lt0, I_0lt, I_le0, I_0le, I_eq, I_lt, I_le, I_a1, I_r1, I_eq1, I32_at, I32_s, Int.toNat_natCast, List.set_cons_zero, reduceCtorEq, not_false_eq_true, not_true_eq_false, false_and, true_and, and_true, and_false, false_or, true_or, or_true, or_false, if_true, if_false, eq_self, ↓reduceIte, Int.reduceEq, Int.reduceLT, Int.reduceLE, Int.reduceAdd, Int.reduceSub, Int.reduceMul, Int.reduceNeg, Int.reduceToNat, Nat.reduceLT, Nat.reduceAdd, Nat.reduceEqDiff, List.length_cons, List.length_nil, h_1]
  refine m77 hI.1.1.1 h48 (by omega) (by omega) fun o hg q G g1 g2 => ?_
  rw [psq_c hI.1.1.2.2.1] at k1
  have ho : B01 o := fun t ht => by
    rw [g1 t ht]
    exact psq_b (by omega) h48 36 t ht
  have kw : Bt w o := Bt_c k1 fun t ht => (g1 t ht).symm
  have es := Bt_sm kw ho
  simp (disch := omega) only [r150_1030, r150_1020, r150_1022, r150_1025, r150_1028, r150_1029, r150_1030, sw_ldi, sw_ldl, sw_lda, sw_has1, sw_i1, sw_i2, sw_l1, sw_l2, sw_li, sw_r1, sw_ri, sw_rix, sw_rv, sw_pop, sw_set1, sw_set2, List.set_cons_zero, List.set_cons_succ, List.getElem?_cons_zero, List.getElem?_cons_succ, ald_1, ald_2, ast_1, ast_2, aln_1, aln_2, gf_1, gf_2, pf_1, pf_2, nw_1, ck_0, ck_1, ck_2, ck_3, ck_4, rr_1, rc_1, rc_2, K_i, K_l, K_v, I_add, I_sub, I_mul, I_div, I_em, I_eq0, I_lt0, I_0lt, I_le0, I_0le, I_eq, I_lt, I_le, I_a1, I_r1, I_eq1, I32_at, I32_s, Int.toNat_natCast, List.set_cons_zero, reduceCtorEq, not_false_eq_true, not_true_eq_false, false_and, true_and, and_true, and_false, false_or, true_or, or_true, or_false, if_true, if_false, eq_self, ↓reduceIte, Int.reduceEq, Int.reduceLT, Int.reduceLE, Int.reduceAdd, Int.reduceSub, Int.reduceMul, Int.reduceNeg, Int.reduceToNat, Nat.reduceLT, Nat.reduceAdd, Nat.reduceEqDiff, List.length_cons, List.length_nil, m37, es, if_false, not_true_eq_false]
  exact hQ _ _ _ _ _ _ _ _ _ _ _ _ _ _ _ _ _ _ (Ia_oil hI ho kw fun t ht z => by
    rw [g1 t ht]
    exact psq_sh (fun t2 ht2 z2 => (hI.1.2.2.1 t2 ht2 z2).2.2) 36 t ht z) (g2.trans hd) d0 d9 (Rm_0 hX)
theorem Ac8 (hI : Iv A shut wet trees oil) (hd : F 0 = d) (d0 : 0 ≤ d) (d9 : d < 65536) (s0 : 0 ≤ sa) (s9 : sa < 36) {a b : Nat} (hX : Rm X a b) (hQ : AE L a b turn v y ac sa Q) :
    sw_A 150 1040 [some (.ref 0), some (.ref 1), some (.ref 54), some (.ref 55), some (.ref 56), some (.ref 57), some (.ref 58), some (.long shut), none, some (.long wet), none, some (.long trees), none, some (.long oil), none, some (.int (Int32.ofInt d)), some (.int (Int32.ofInt turn)), some (.int v), some (.int y), some (.int (Int32.ofInt ac)), some (.int (Int32.ofInt sa)), x21, x22, x23, x24, x25, x26, x27, x28, x29] [] (sw_h L A F T X) Q := by
  have b0 := f_low_b (v := y) (n := 1001) (by omega)
  simp (disch := omega) only [r150_1040, r150_1042, r150_1045, r150_1048, r150_1050, r150_1051, r150_1053, r150_1055, r150_1057, r150_1058, sw_ldi, sw_ldl, sw_lda, sw_has1, sw_i1, sw_i2, sw_l1, sw_l2, sw_li, sw_r1, sw_ri, sw_rix, sw_rv, sw_pop, sw_set1, sw_set2, List.set_cons_zero, List.set_cons_succ, List.getElem?_cons_zero, List.getElem?_cons_succ, ald_1, ald_2, ast_1, ast_2, aln_1, aln_2, gf_1, gf_2, pf_1, pf_2, nw_1, ck_0, ck_1, ck_2, ck_3, ck_4, rr_1, rc_1, rc_2, K_i, K_l, K_v, I_add, I_sub, I_mul, I_div, I_em, I_eq0, I_lt0, I_0lt, I_le0, I_0le, I_eq, I_lt, I_le, I_a1, I_r1, I_eq1, I32_at, I32_s, Int.toNat_natCast, List.set_cons_zero, reduceCtorEq, not_false_eq_true, not_true_eq_false, false_and, true_and, and_true, and_false, false_or, true_or, or_true, or_false, if_true, if_false, eq_self, ↓reduceIte, Int.reduceEq, Int.reduceLT, Int.reduceLE, Int.reduceAdd, Int.reduceSub, Int.reduceMul, Int.reduceNeg, Int.reduceToNat, Nat.reduceLT, Nat.reduceAdd, Nat.reduceEqDiff, List.length_cons, List.length_nil, m16]
  generalize f_low y 1001 = p at b0
  have h48 := hI.1.2.1.2.2
  obtain ⟨w, k1, k2⟩ := m70 (H := sw_h L A F T X) (Q := sw_K 150 1061 none [some (.ref 0), some (.ref 1), some (.ref 54), some (.ref 55), some (.ref 56), some (.ref 57), some (.ref 58), some (.long shut), none, some (.long wet), none, some (.long trees), none, some (.long oil), none, some (.int (Int32.ofInt d)), some (.int (Int32.ofInt turn)), some (.int v), some (.int y), some (.int (Int32.ofInt ac)), some (.int (Int32.ofInt sa)), some (.int (Int32.ofInt p)), x22, x23, x24, x25, x26, x27, x28, x29] [] Q) (rs := 55) (ns := A 55) (shut := shut) (oil := oil) (sh := A 9) (pr := p) (iso := 0) (o := A 48) h_55 (Lw_n hI.1.1).2 (by omega) (by omega) (by omega) (Lw_sh hI.1.1) h48 hI.2.2.2
  rw [k2]
  simp (disch := omega) only [r150_1061, r150_1063, r150_1064, r150_1066, sw_ldi, sw_ldl, sw_lda, sw_has1, sw_i1, sw_i2, sw_l1, sw_l2, sw_li, sw_r1, sw_ri, sw_rix, sw_rv, sw_pop, sw_set1, sw_set2, List.set_cons_zero, List.set_cons_succ, List.getElem?_cons_zero, List.getElem?_cons_succ, ald_1, ald_2, ast_1, ast_2, aln_1, aln_2, gf_1, gf_2, pf_1, pf_2, nw_1, ck_0, ck_1, ck_2, ck_3, ck_4, rr_1, rc_1, rc_2, K_i, K_l, K_v, I_add, I_sub, I_mul, I_div, I_em, I_eq0, I_lt0, I_0lt, I_le0, I_0le, I_eq, I_lt, I_le, I_a1, I_r1, I_eq1, I32_at, I32_s, Int.toNat_natCast, List.set_cons_zero, reduceCtorEq, not_false_eq_true, not_true_eq_false, false_and, true_and, and_true, and_false, false_or, true_or, or_true, or_false, if_true, if_false, eq_self, ↓reduceIte, Int.reduceEq, Int.reduceLT, Int.reduceLE, Int.reduceAdd, Int.reduceSub, Int.reduceMul, Int.reduceNeg, Int.reduceToNat, Nat.reduceLT, Nat.reduceAdd, Nat.reduceEqDiff, List.length_cons, List.length_nil, h_1]
  refine m78 hI.1.1.1 h48 (by omega) (by omega) fun o hg q G g1 g2 => ?_
  rw [psq_c hI.1.1.2.2.1] at k1
  have ho : B01 o := fun t ht => by
    rw [g1 t ht]
    exact psq_b (by omega) h48 36 t ht
  have kw : Bt w o := Bt_c k1 fun t ht => (g1 t ht).symm
  have es := Bt_sm kw ho
  simp (disch := omega) only [r150_1079, r150_1069, r150_1071, r150_1074, r150_1077, r150_1078, r150_1079, sw_ldi, sw_ldl, sw_lda, sw_has1, sw_i1, sw_i2, sw_l1, sw_l2, sw_li, sw_r1, sw_ri, sw_rix, sw_rv, sw_pop, sw_set1, sw_set2, List.set_cons_zero, List.set_cons_succ, List.getElem?_cons_zero, List.getElem?_cons_succ, ald_1, ald_2, ast_1, ast_2, aln_1, aln_2, gf_1, gf_2, pf_1, pf_2, nw_1, ck_0, ck_1, ck_2, ck_3, ck_4, rr_1, rc_1, rc_2, K_i, K_l, K_v, I_add, I_sub, I_mul, I_div, I_em, I_eq0, I_lt0, I_0lt, I_le0, I_0le, I_eq, I_lt, I_le, I_a1, I_r1, I_eq1, I32_at, I32_s, Int.toNat_natCast, List.set_cons_zero, reduceCtorEq, not_false_eq_true, not_true_eq_false, false_and, true_and, and_true, and_false, false_or, true_or, or_true, or_false, if_true, if_false, eq_self, ↓reduceIte, Int.reduceEq, Int.reduceLT, Int.reduceLE, Int.reduceAdd, Int.reduceSub, Int.reduceMul, Int.reduceNeg, Int.reduceToNat, Nat.reduceLT, Nat.reduceAdd, Nat.reduceEqDiff, List.length_cons, List.length_nil, m37, es, if_false, not_true_eq_false]
  exact hQ _ _ _ _ _ _ _ _ _ _ _ _ _ _ _ _ _ _ (Ia_oil hI ho kw fun t ht z => by
    rw [g1 t ht]
    exact psq_sh (fun t2 ht2 z2 => (hI.1.2.2.1 t2 ht2 z2).2.2) 36 t ht z) (g2.trans hd) d0 d9 (Rm_0 hX)
end sw_tf
