section sw_th
variable {L : Nat} {A : Nat → Nat → Int} {F : Nat → Int} {T : Nat → sw_Ce} {X : Nat × Nat × Nat} {Q : sw_Ot → sw_HS → Prop} {shut wet trees oil : Int64} {d turn ac sa : Int} {v y : Int32} {H : sw_HS} {x21 x22 x23 x24 x25 x26 x27 x28 x29 : Option Value}
theorem Iv_tr {g : Nat → Int} {w : Int64} (hI : Iv A shut wet trees oil) (b : B01 g) (hw : Bt w g) (hs : ∀ t, t < 36 → A 9 t = 1 → g t = 0) : Iv (sw_s A 11 g) shut wet w oil := by
  have h := hI.1
  exact ⟨⟨h.1, ⟨h.2.1.1, b, h.2.1.2.2⟩, fun t ht q => ⟨(h.2.2.1 t ht q).1, hs t ht q, (h.2.2.1 t ht q).2.2⟩, h.2.2.2⟩, hI.2.1, hw, hI.2.2.2⟩
theorem plA_sh {z : Int} (h : ∀ t, t < 36 → A 9 t = 1 → A 11 t = 0) : ∀ n t, t < 36 → A 9 t = 1 → plA A z n t = 0
  | 0, t, ht, q => h t ht q
  | n + 1, t, ht, q => by
    have ih := plA_sh (z := z) h n t ht q
    unfold plA
    split
    · next c =>
      unfold sw_s
      by_cases e : t = (dz z (n + 1) % 36).toNat
      · rw [← e] at c
        omega
      · rw [if_neg e]
        exact ih
    · exact ih
theorem G1 {z : Int} {m : Nat} (hm : m ≤ 40) (hz : 0 ≤ z ∧ z < 65536) (hL : Lw A shut) (hQ : ∀ (w : Int64) (x22 : Option Value), Bt w (plA A z m) → sw_A 150 670 [some (.ref 0), some (.ref 1), some (.ref 54), some (.ref 55), some (.ref 56), some (.ref 57), some (.ref 58), some (.long shut), none, some (.long wet), none, some (.long w), none, some (.long oil), none, some (.int (Int32.ofInt (dz z m))), some (.int (Int32.ofInt turn)), some (.int v), some (.int y), some (.int (Int32.ofInt ac)), some (.int (Int32.ofInt sa)), some (.int (Int32.ofInt (m : Int))), x22, x23, x24, x25, x26, x27, x28, x29] [] H Q) :
    ∀ (n j : Nat) (trees : Int64), j + n = m → Bt trees (plA A z j) → sw_A 150 625 [some (.ref 0), some (.ref 1), some (.ref 54), some (.ref 55), some (.ref 56), some (.ref 57), some (.ref 58), some (.long shut), none, some (.long wet), none, some (.long trees), none, some (.long oil), none, some (.int (Int32.ofInt (dz z j))), some (.int (Int32.ofInt turn)), some (.int v), some (.int y), some (.int (Int32.ofInt ac)), some (.int (Int32.ofInt sa)), some (.int (Int32.ofInt (m : Int))), some (.int (Int32.ofInt (j : Int))), x23, x24, x25, x26, x27, x28, x29] [] H Q
  | 0, j, trees, hn, hB => by
    have e : j = m := hn
    subst e
    have hq := hQ trees (some (.int (Int32.ofInt (j : Int)))) hB
    rw [r150_625]
    simp (disch := omega) only [r150_627, r150_629, sw_ldi, sw_ldl, sw_lda, sw_has1, sw_i1, sw_i2, sw_l1, sw_l2, sw_li, sw_r1, sw_ri, sw_rix, sw_rv, sw_pop, sw_set1, sw_set2, List.set_cons_zero, List.set_cons_succ, List.getElem?_cons_zero, List.getElem?_cons_succ, ald_1, ald_2, ast_1, ast_2, aln_1, aln_2, gf_1, gf_2, pf_1, pf_2, nw_1, ck_0, ck_1, ck_2, ck_3, ck_4, rr_1, rc_1, rc_2, K_i, K_l, K_v, I_add, I_sub, I_mul, I_div, I_em, I_eq0, I_lt0, I_0lt, I_le0, I_0le, I_eq, I_lt, I_le, I_a1, I_r1, I_eq1, I32_at, I32_s, Int.toNat_natCast, List.set_cons_zero, reduceCtorEq, not_false_eq_true, not_true_eq_false, false_and, true_and, and_true, and_false, false_or, true_or, or_true, or_false, if_true, if_false, eq_self, ↓reduceIte, Int.reduceEq, Int.reduceLT, Int.reduceLE, Int.reduceAdd, Int.reduceSub, Int.reduceMul, Int.reduceNeg, Int.reduceToNat, Nat.reduceLT, Nat.reduceAdd, Nat.reduceEqDiff, List.length_cons, List.length_nil]
    rw [if_pos (Int.le_refl _)]
    exact hq
  | n + 1, j, trees, hn, hB => by
    have b0 := dz_b hz j
    have b1 := dz_b hz (j + 1)
    have ed : (25173 * dz z j + 13849) % 65536 = dz z (j + 1) := rfl
    have ej : ((j + 1 : Nat) : Int) = (j : Int) + 1 := rfl
    have ih := fun trees => G1 hm hz hL hQ n (j + 1) trees (by omega)
    rw [ej] at ih
    have ht : (dz z (j + 1) % 36).toNat < 36 := by omega
    have ec : dz z (j + 1) % 36 = (((dz z (j + 1) % 36).toNat : Nat) : Int) := by omega
    have e0 := Lw_sh hL (dz z (j + 1) % 36).toNat ht
    have ep : plA A z (j + 1) = if A 9 (dz z (j + 1) % 36).toNat = 0 then sw_s (plA A z j) (dz z (j + 1) % 36).toNat 1 else plA A z j := rfl
    rw [r150_625]
    rcases hL.1.2.2 (dz z (j + 1) % 36).toNat ht with q | q
    · rw [if_pos q] at ep
      have hh := ih (trees ||| sb (dz z (j + 1) % 36).toNat) (by
        rw [ep]
        intro u hu
        rw [sb_o (by omega) hu]
        unfold sw_s
        by_cases e : u = (dz z (j + 1) % 36).toNat
        · rw [if_pos e, decide_eq_true e, Bool.or_true]
          exact ⟨fun _ => ⟨by omega, rfl⟩, fun _ => rfl⟩
        · rw [if_neg e, decide_eq_false e, Bool.or_false]
          exact hB u hu)
      unfold sb at hh
      rw [← ec] at hh
      rw [q] at e0
      simp (disch := omega) only [r150_627, r150_629, r150_632, r150_634, r150_637, r150_639, r150_641, r150_643, r150_645, r150_646, r150_649, r150_652, r150_654, r150_655, r150_657, r150_659, r150_660, r150_661, r150_662, r150_664, r150_667, sw_ldi, sw_ldl, sw_lda, sw_has1, sw_i1, sw_i2, sw_l1, sw_l2, sw_li, sw_r1, sw_ri, sw_rix, sw_rv, sw_pop, sw_set1, sw_set2, List.set_cons_zero, List.set_cons_succ, List.getElem?_cons_zero, List.getElem?_cons_succ, ald_1, ald_2, ast_1, ast_2, aln_1, aln_2, gf_1, gf_2, pf_1, pf_2, nw_1, ck_0, ck_1, ck_2, ck_3, ck_4, rr_1, rc_1, rc_2, K_i, K_l, K_v, I_add, I_sub, I_mul, I_div, I_em, I_eq0, I_lt0, I_0lt, I_le0, I_0le, I_eq, I_lt, I_le, I_a1, I_r1, I_eq1, I32_at, I32_s, Int.toNat_natCast, List.set_cons_zero, reduceCtorEq, not_false_eq_true, not_true_eq_false, false_and, true_and, and_true, and_false, false_or, true_or, or_true, or_false, if_true, if_false, eq_self, ↓reduceIte, Int.reduceEq, Int.reduceLT, Int.reduceLE, Int.reduceAdd, Int.reduceSub, Int.reduceMul, Int.reduceNeg, Int.reduceToNat, Nat.reduceLT, Nat.reduceAdd, Nat.reduceEqDiff, List.length_cons, List.length_nil, m21, ed, m30, e0]
      rw [if_neg (show ¬ (m : Int) ≤ (j : Int) by omega)]
      exact hh
    · rw [if_neg (by omega)] at ep
      have hh := ih trees (by rw [ep]; exact hB)
      rw [q] at e0
      simp (disch := omega) only [r150_627, r150_629, r150_632, r150_634, r150_637, r150_639, r150_641, r150_643, r150_645, r150_646, r150_649, r150_652, r150_654, r150_655, r150_657, r150_659, r150_660, r150_661, r150_662, r150_664, r150_667, sw_ldi, sw_ldl, sw_lda, sw_has1, sw_i1, sw_i2, sw_l1, sw_l2, sw_li, sw_r1, sw_ri, sw_rix, sw_rv, sw_pop, sw_set1, sw_set2, List.set_cons_zero, List.set_cons_succ, List.getElem?_cons_zero, List.getElem?_cons_succ, ald_1, ald_2, ast_1, ast_2, aln_1, aln_2, gf_1, gf_2, pf_1, pf_2, nw_1, ck_0, ck_1, ck_2, ck_3, ck_4, rr_1, rc_1, rc_2, K_i, K_l, K_v, I_add, I_sub, I_mul, I_div, I_em, I_eq0, I_lt0, I_0lt, I_le0, I_0le, I_eq, I_lt, I_le, I_a1, I_r1, I_eq1, I32_at, I32_s, Int.toNat_natCast, List.set_cons_zero, reduceCtorEq, not_false_eq_true, not_true_eq_false, false_and, true_and, and_true, and_false, false_or, true_or, or_true, or_false, if_true, if_false, eq_self, ↓reduceIte, Int.reduceEq, Int.reduceLT, Int.reduceLE, Int.reduceAdd, Int.reduceSub, Int.reduceMul, Int.reduceNeg, Int.reduceToNat, Nat.reduceLT, Nat.reduceAdd, Nat.reduceEqDiff, List.length_cons, List.length_nil, m21, ed, m30, e0]
      rw [if_neg (show ¬ (m : Int) ≤ (j : Int) by omega)]
      exact hh
theorem Ac5 (hI : Iv A shut wet trees oil) (hd : F 0 = d) (d0 : 0 ≤ d) (d9 : d < 65536) (s0 : 0 ≤ sa) (s9 : sa < 36) {a b : Nat} (hX : Rm X a b) (hQ : AE L a b turn v y ac sa Q) :
    sw_A 150 609 [some (.ref 0), some (.ref 1), some (.ref 54), some (.ref 55), some (.ref 56), some (.ref 57), some (.ref 58), some (.long shut), none, some (.long wet), none, some (.long trees), none, some (.long oil), none, some (.int (Int32.ofInt d)), some (.int (Int32.ofInt turn)), some (.int v), some (.int y), some (.int (Int32.ofInt ac)), some (.int (Int32.ofInt sa)), x21, x22, x23, x24, x25, x26, x27, x28, x29] [] (sw_h L A F T X) Q := by
  have b0 := f_low_b (v := y >>> (Int32.ofInt 5 &&& 31)) (n := 40) (by omega)
  have b2 := f_low_b (v := v >>> (Int32.ofInt 6 &&& 31)) (n := 2) (by omega)
  have h9 := hI.1.1.1.2.2
  have h11 := hI.1.2.1.2.1
  obtain ⟨s, rfl⟩ := Int.eq_ofNat_of_zero_le s0
  have hs : s < 36 := by omega
  simp (disch := omega) only [r150_609, r150_610, r150_612, r150_613, r150_614, r150_616, r150_619, r150_620, r150_622, r150_623, sw_ldi, sw_ldl, sw_lda, sw_has1, sw_i1, sw_i2, sw_l1, sw_l2, sw_li, sw_r1, sw_ri, sw_rix, sw_rv, sw_pop, sw_set1, sw_set2, List.set_cons_zero, List.set_cons_succ, List.getElem?_cons_zero, List.getElem?_cons_succ, ald_1, ald_2, ast_1, ast_2, aln_1, aln_2, gf_1, gf_2, pf_1, pf_2, nw_1, ck_0, ck_1, ck_2, ck_3, ck_4, rr_1, rc_1, rc_2, K_i, K_l, K_v, I_add, I_sub, I_mul, I_div, I_em, I_eq0, I_lt0, I_0lt, I_le0, I_0le, I_eq, I_lt, I_le, I_a1, I_r1, I_eq1, I32_at, I32_s, Int.toNat_natCast, List.set_cons_zero, reduceCtorEq, not_false_eq_true, not_true_eq_false, false_and, true_and, and_true, and_false, false_or, true_or, or_true, or_false, if_true, if_false, eq_self, ↓reduceIte, Int.reduceEq, Int.reduceLT, Int.reduceLE, Int.reduceAdd, Int.reduceSub, Int.reduceMul, Int.reduceNeg, Int.reduceToNat, Nat.reduceLT, Nat.reduceAdd, Nat.reduceEqDiff, List.length_cons, List.length_nil, m16]
  generalize em : 1 + f_low (y >>> (Int32.ofInt 5 &&& 31)) 40 = m0
  obtain ⟨m, rfl⟩ := Int.eq_ofNat_of_zero_le (show 0 ≤ m0 by omega)
  refine G1 (A := A) (z := d) (m := m) (by omega) ⟨d0, d9⟩ hI.1.1 (fun w u22 hw => ?_) m 0 trees (by omega) hI.2.2.1
  have es := Bt_sm hw (fun t ht => plA_b (z := d) (A := A) h11 m t ht)
  have hv : Iv (sw_s A 11 (plA A d m)) shut wet w oil := Iv_tr hI (fun t ht => plA_b (z := d) (A := A) h11 m t ht) hw (plA_sh (fun t ht q => (hI.1.2.2.1 t ht q).2.1) m)
  have dm := dz_b ⟨d0, d9⟩ m
  obtain ⟨r, f1, k1⟩ := m48 (H := sw_h L (sw_s A 11 (plA A d m)) (sw_s F 0 (dz d m)) T X) (Q := sw_K 150 695 none [some (.ref 0), some (.ref 1), some (.ref 54), some (.ref 55), some (.ref 56), some (.ref 57), some (.ref 58), some (.long shut), none, some (.long wet), none, some (.long w), none, some (.long oil), none, some (.int (Int32.ofInt (dz d m))), some (.int (Int32.ofInt turn)), some (.int v), some (.int y), some (.int (Int32.ofInt ac)), some (.int (Int32.ofInt (s : Int))), some (.int (Int32.ofInt (m : Int))), u22, x23, x24, x25, x26, x27, x28, x29] [] Q) w (wb 0 s) (set63 hw)
  simp (disch := omega) only [r150_670, r150_671, r150_673, sw_ldi, sw_ldl, sw_lda, sw_has1, sw_i1, sw_i2, sw_l1, sw_l2, sw_li, sw_r1, sw_ri, sw_rix, sw_rv, sw_pop, sw_set1, sw_set2, List.set_cons_zero, List.set_cons_succ, List.getElem?_cons_zero, List.getElem?_cons_succ, ald_1, ald_2, ast_1, ast_2, aln_1, aln_2, gf_1, gf_2, pf_1, pf_2, nw_1, ck_0, ck_1, ck_2, ck_3, ck_4, rr_1, rc_1, rc_2, K_i, K_l, K_v, I_add, I_sub, I_mul, I_div, I_em, I_eq0, I_lt0, I_0lt, I_le0, I_0le, I_eq, I_lt, I_le, I_a1, I_r1, I_eq1, I32_at, I32_s, Int.toNat_natCast, List.set_cons_zero, reduceCtorEq, not_false_eq_true, not_true_eq_false, false_and, true_and, and_true, and_false, false_or, true_or, or_true, or_false, if_true, if_false, eq_self, ↓reduceIte, Int.reduceEq, Int.reduceLT, Int.reduceLE, Int.reduceAdd, Int.reduceSub, Int.reduceMul, Int.reduceNeg, Int.reduceToNat, Nat.reduceLT, Nat.reduceAdd, Nat.reduceEqDiff, List.length_cons, List.length_nil, h_1]
  rw [m47 (by omega) (by omega) ⟨d0, d9⟩ hd h9 h11]
  simp (disch := omega) only [r150_676, r150_678, r150_681, r150_684, r150_685, r150_686, r150_688, r150_689, r150_691, r150_692, sw_ldi, sw_ldl, sw_lda, sw_has1, sw_i1, sw_i2, sw_l1, sw_l2, sw_li, sw_r1, sw_ri, sw_rix, sw_rv, sw_pop, sw_set1, sw_set2, List.set_cons_zero, List.set_cons_succ, List.getElem?_cons_zero, List.getElem?_cons_succ, ald_1, ald_2, ast_1, ast_2, aln_1, aln_2, gf_1, gf_2, pf_1, pf_2, nw_1, ck_0, ck_1, ck_2, ck_3, ck_4, rr_1, rc_1, rc_2, K_i, K_l, K_v, I_add, I_sub, I_mul, I_div, I_em, I_eq0, I_lt0, I_0lt, I_le0, I_0le, I_eq, I_lt, I_le, I_a1, I_r1, I_eq1, I32_at, I32_s, Int.toNat_natCast, List.set_cons_zero, reduceCtorEq, not_false_eq_true, not_true_eq_false, false_and, true_and, and_true, and_false, false_or, true_or, or_true, or_false, if_true, if_false, eq_self, ↓reduceIte, Int.reduceEq, Int.reduceLT, Int.reduceLE, Int.reduceAdd, Int.reduceSub, Int.reduceMul, Int.reduceNeg, Int.reduceToNat, Nat.reduceLT, Nat.reduceAdd, Nat.reduceEqDiff, List.length_cons, List.length_nil, m37, es, wb0, if_false, not_true_eq_false]
  rw [k1]
  by_cases c : f_low (v >>> (Int32.ofInt 6 &&& 31)) 2 = 0
  · simp (disch := omega) only [r150_695, r150_697, r150_699, r150_701, r150_702, r150_703, r150_706, r150_709, r150_710, r150_712, sw_ldi, sw_ldl, sw_lda, sw_has1, sw_i1, sw_i2, sw_l1, sw_l2, sw_li, sw_r1, sw_ri, sw_rix, sw_rv, sw_pop, sw_set1, sw_set2, List.set_cons_zero, List.set_cons_succ, List.getElem?_cons_zero, List.getElem?_cons_succ, ald_1, ald_2, ast_1, ast_2, aln_1, aln_2, gf_1, gf_2, pf_1, pf_2, nw_1, ck_0, ck_1, ck_2, ck_3, ck_4, rr_1, rc_1, rc_2, K_i, K_l, K_v, I_add, I_sub, I_mul, I_div, I_em, I_eq0, I_lt0, I_0lt, I_le0, I_0le, I_eq, I_lt, I_le, I_a1, I_r1, I_eq1, I32_at, I32_s, Int.toNat_natCast, List.set_cons_zero, reduceCtorEq, not_false_eq_true, not_true_eq_false, false_and, true_and, and_true, and_false, false_or, true_or, or_true, or_false, if_true, if_false, eq_self, ↓reduceIte, Int.reduceEq, Int.reduceLT, Int.reduceLE, Int.reduceAdd, Int.reduceSub, Int.reduceMul, Int.reduceNeg, Int.reduceToNat, Nat.reduceLT, Nat.reduceAdd, Nat.reduceEqDiff, List.length_cons, List.length_nil, m16, c, h_1]
    refine m54 hv.1.2.1.2.1 hs fun tr q G z0 bu g0 => ?_
    obtain ⟨f2, f3⟩ := Fl_BU hs (Bt_bi hv.2.2.1 hv.1.2.1.2.1) bu f1
    simp (disch := omega) only [r150_715, r150_717, r150_720, r150_723, r150_724, r150_725, r150_727, r150_729, r150_732, r150_733, r150_734, r150_736, sw_ldi, sw_ldl, sw_lda, sw_has1, sw_i1, sw_i2, sw_l1, sw_l2, sw_li, sw_r1, sw_ri, sw_rix, sw_rv, sw_pop, sw_set1, sw_set2, List.set_cons_zero, List.set_cons_succ, List.getElem?_cons_zero, List.getElem?_cons_succ, ald_1, ald_2, ast_1, ast_2, aln_1, aln_2, gf_1, gf_2, pf_1, pf_2, nw_1, ck_0, ck_1, ck_2, ck_3, ck_4, rr_1, rc_1, rc_2, K_i, K_l, K_v, I_add, I_sub, I_mul, I_div, I_em, I_eq0, I_lt0, I_0lt, I_le0, I_0le, I_eq, I_lt, I_le, I_a1, I_r1, I_eq1, I32_at, I32_s, Int.toNat_natCast, List.set_cons_zero, reduceCtorEq, not_false_eq_true, not_true_eq_false, false_and, true_and, and_true, and_false, false_or, true_or, or_true, or_false, if_true, if_false, eq_self, ↓reduceIte, Int.reduceEq, Int.reduceLT, Int.reduceLE, Int.reduceAdd, Int.reduceSub, Int.reduceMul, Int.reduceNeg, Int.reduceToNat, Nat.reduceLT, Nat.reduceAdd, Nat.reduceEqDiff, List.length_cons, List.length_nil, m37, f3, if_false, not_true_eq_false]
    have bt : B01 tr := fun t ht => by
      rcases bu.1 t ht with q | q
      · rw [q.1]; exact hv.1.2.1.2.1 t ht
      · exact Or.inl q.2.1
    refine hQ _ _ _ _ _ _ _ _ _ _ _ _ _ _ _ _ _ _ (Iv_a (Iv_F (Fm_s rfl) (Iv_tr hv bt (fun t ht => ?_) (fun t ht q => ?_)))) (g0.trans rfl) dm.1 dm.2 (Rm_0 hX)
    · rw [hb_and, Bool.and_eq_true, hb_not ht, hw t ht]
      constructor
      · rintro ⟨⟨q1, q2⟩, q3⟩
        have q4 := f2 t q1
        rw [q3] at q4
        have q5 : sw_s A 11 (plA A d m) 11 t = 1 := q2
        rw [q5] at q4
        refine ⟨q1, ?_⟩
        have q6 : bi false = 0 := rfl
        omega
      · rintro ⟨q1, q2⟩
        have q4 := f2 t q1
        have q5 : sw_s A 11 (plA A d m) 11 t = plA A d m t := rfl
        have q6 := bi_b (hb r t)
        have q7 := hv.1.2.1.2.1 t q1
        rw [q5] at q4 q7
        refine ⟨⟨q1, ?_⟩, ?_⟩
        · clear q5
          omega
        · rw [← bi_0]
          clear q5
          omega
    · have q7 : sw_s A 11 (plA A d m) 11 t = 0 := (hv.1.2.2.1 t ht q).2.1
      rcases bu.1 t ht with q2 | q2
      · rw [q2.1]; exact q7
      · exact q2.2.1
  · simp (disch := omega) only [r150_695, r150_697, r150_699, r150_701, r150_702, r150_703, r150_706, r150_736, sw_ldi, sw_ldl, sw_lda, sw_has1, sw_i1, sw_i2, sw_l1, sw_l2, sw_li, sw_r1, sw_ri, sw_rix, sw_rv, sw_pop, sw_set1, sw_set2, List.set_cons_zero, List.set_cons_succ, List.getElem?_cons_zero, List.getElem?_cons_succ, ald_1, ald_2, ast_1, ast_2, aln_1, aln_2, gf_1, gf_2, pf_1, pf_2, nw_1, ck_0, ck_1, ck_2, ck_3, ck_4, rr_1, rc_1, rc_2, K_i, K_l, K_v, I_add, I_sub, I_mul, I_div, I_em, I_eq0, I_lt0, I_0lt, I_le0, I_0le, I_eq, I_lt, I_le, I_a1, I_r1, I_eq1, I32_at, I32_s, Int.toNat_natCast, List.set_cons_zero, reduceCtorEq, not_false_eq_true, not_true_eq_false, false_and, true_and, and_true, and_false, false_or, true_or, or_true, or_false, if_true, if_false, eq_self, ↓reduceIte, Int.reduceEq, Int.reduceLT, Int.reduceLE, Int.reduceAdd, Int.reduceSub, Int.reduceMul, Int.reduceNeg, Int.reduceToNat, Nat.reduceLT, Nat.reduceAdd, Nat.reduceEqDiff, List.length_cons, List.length_nil, m16, c]
    exact hQ _ _ _ _ _ _ _ _ _ _ _ _ _ _ _ _ _ _ (Iv_a hv) rfl dm.1 dm.2 (Rm_0 hX)
end sw_th
