/-! the class's state: what lasts, and what a query may change -/
def Nm (A : Nat → Nat → Int) : Prop := (∀ i, i < 60 → 0 ≤ A 3 i ∧ A 3 i < 1000) ∧ (∀ i, i < 36 → 0 ≤ A 4 i ∧ A 4 i < 1000) ∧ (∀ i, i < 36 → A 9 i = 0 ∨ A 9 i = 1)
def Fm (A B : Nat → Nat → Int) : Prop := B 0 = A 0 ∧ B 3 = A 3 ∧ B 4 = A 4 ∧ B 9 = A 9 ∧ B 10 = A 10 ∧ B 11 = A 11 ∧ B 43 = A 43 ∧ B 48 = A 48 ∧ ∀ a, 54 ≤ a → B a = A a
theorem Fm_r (A : Nat → Nat → Int) : Fm A A := ⟨rfl, rfl, rfl, rfl, rfl, rfl, rfl, rfl, fun _ _ => rfl⟩
theorem Fm_t {A B C : Nat → Nat → Int} (h : Fm A B) (g : Fm B C) : Fm A C := by
  obtain ⟨h0, h1, h2, h3, h4, h5, h6, h7, h8⟩ := h
  obtain ⟨g0, g1, g2, g3, g4, g5, g6, g7, g8⟩ := g
  exact ⟨g0.trans h0, g1.trans h1, g2.trans h2, g3.trans h3, g4.trans h4, g5.trans h5, g6.trans h6, g7.trans h7, fun a ha => (g8 a ha).trans (h8 a ha)⟩
/-- the places that a query may write -/
def scr (k : Nat) : Bool := k != 0 && k != 3 && k != 4 && k != 9 && k != 10 && k != 11 && k != 43 && k != 48 && decide (k < 54)
theorem Fm_s {A : Nat → Nat → Int} {k : Nat} {g : Nat → Int} (h : scr k = true) : Fm A (sw_s A k g) := by
  simp only [scr, Bool.and_eq_true, bne_iff_ne, decide_eq_true_eq] at h
  obtain ⟨⟨⟨⟨⟨⟨⟨⟨h0, h1⟩, h2⟩, h3⟩, h4⟩, h5⟩, h6⟩, h7⟩, h8⟩ := h
  exact ⟨if_neg (fun e => h0 e.symm), if_neg (fun e => h1 e.symm), if_neg (fun e => h2 e.symm), if_neg (fun e => h3 e.symm), if_neg (fun e => h4 e.symm), if_neg (fun e => h5 e.symm), if_neg (fun e => h6 e.symm), if_neg (fun e => h7 e.symm), fun a ha => if_neg (by omega)⟩
theorem Fm_2 {A : Nat → Nat → Int} {j k : Nat} {f g : Nat → Int} (h1 : scr j = true) (h2 : scr k = true) : Fm A (sw_s (sw_s A j f) k g) := Fm_t (Fm_s h1) (Fm_s h2)
theorem Nm_m {A B : Nat → Nat → Int} (h : Nm A) (g : Fm A B) : Nm B := by
  obtain ⟨-, g1, g2, g3, -⟩ := g
  unfold Nm
  rw [g1, g2, g3]
  exact h
/-! walks over openings that agree -/
theorem Ed_c {ob ob2 : Nat → Int} (h : ∀ b, b < 60 → ob b = ob2 b) {s t : Nat} (hs : s < 36) : Ed ob s t → Ed ob2 s t := by
  rintro ⟨d, d1, d2, d3, d4⟩
  have := f_bb_b (s := s) (by omega) (by omega) d1 d2 (by omega)
  rw [d3] at this
  exact ⟨d, d1, d2, d3, by rw [← h _ (by omega)]; exact d4⟩
theorem BD_c {ob ob2 : Nat → Int} {S S2 : Nat → Prop} {st : Nat → Int} {z : Int} (h : ∀ b, b < 60 → ob b = ob2 b) (hS : ∀ t, t < 36 → (S t ↔ S2 t)) (b : BD ob S st z) : BD ob2 S2 st z := by
  obtain ⟨b1, b2, b3, b4, b5⟩ := b
  refine ⟨b1, b2, fun t ht q => b3 t ht ((hS t ht).mpr q), fun t ht h0 => ?_, fun u t hu ht h0 he => b5 u t hu ht h0 (Ed_c (fun b hb => (h b hb).symm) hu he)⟩
  rcases b4 t ht h0 with q | ⟨u, u1, u2, u3, u4⟩
  · exact Or.inl ⟨q.1, (hS t ht).mp q.2⟩
  · exact Or.inr ⟨u, u1, Ed_c h u1 u2, u3, u4⟩
theorem lst_v {st : Nat → Int} {to : Int} : ∀ n, (∀ t, t < n → -1 ≤ st t) → (lst st to n = -1 → ∀ t, t < n → f_os t to = 1 → st t = -1) ∧ (¬ lst st to n = -1 → (∃ t, t < n ∧ f_os t to = 1 ∧ st t = lst st to n ∧ 0 ≤ st t) ∧ ∀ t, t < n → f_os t to = 1 → 0 ≤ st t → lst st to n ≤ st t)
  | 0, _ => ⟨fun _ t ht => absurd ht (Nat.not_lt_zero _), fun h => absurd rfl h⟩
  | n + 1, hb => by
    obtain ⟨i1, i2⟩ := lst_v (st := st) (to := to) n fun t ht => hb t (by omega)
    have hn := hb n (by omega)
    unfold lst
    split
    · next c =>
      refine ⟨fun h => absurd h c.2.1, fun _ => ⟨⟨n, by omega, c.1, rfl, by omega⟩, fun t ht ho h0 => ?_⟩⟩
      by_cases e : t = n
      · subst e; omega
      · by_cases e2 : lst st to n = -1
        · have := i1 e2 t (by omega) ho; omega
        · have := (i2 e2).2 t (by omega) ho h0; omega
    · next c =>
      refine ⟨fun h t ht ho => ?_, fun h => ⟨?_, fun t ht ho h0 => ?_⟩⟩
      · by_cases e : t = n
        · subst e
          exact Classical.byContradiction fun q => c ⟨ho, q, Or.inl h⟩
        · exact i1 h t (by omega) ho
      · obtain ⟨⟨t, ht, q⟩, -⟩ := i2 h
        exact ⟨t, by omega, q⟩
      · by_cases e : t = n
        · subst e
          exact Classical.byContradiction fun q => c ⟨ho, by omega, Or.inr (by omega)⟩
        · exact (i2 h).2 t (by omega) ho h0
section sw_m10
variable {L : Nat} {A : Nat → Nat → Int} {F : Nat → Int} {T : Nat → sw_Ce} {X : Nat × Nat × Nat} {Q : sw_Ot → sw_HS → Prop}
/-- the heap with openings told -/
def hO (A : Nat → Nat → Int) (k p : Int) : Nat → Nat → Int := sw_s (sw_s A 17 (mix 36 (os2 A k p) (A 17))) 18 (mix 60 (ob2 A k p) (A 18))
theorem hO_17 {k p : Int} {i : Nat} (h : i < 36) : hO A k p 17 i = os2 A k p i := mix_at h
theorem hO_18 {k p : Int} {i : Nat} (h : i < 60) : hO A k p 18 i = ob2 A k p i := mix_at h
theorem os2_b {k p : Int} (i : Nat) : os2 A k p i = 0 ∨ os2 A k p i = 1 := f_op_b _ _ _ _
theorem ob2_b {k p : Int} (i : Nat) : ob2 A k p i = 0 ∨ ob2 A k p i = 1 := f_ob_b _ _ _ _ _
theorem hO_op {k p : Int} : ∀ i, i < 36 → hO A k p 17 i = 0 ∨ hO A k p 17 i = 1 := fun i h => by rw [hO_17 h]; exact os2_b i
theorem hO_ob {k p : Int} : ∀ i, i < 60 → hO A k p 18 i = 0 ∨ hO A k p 18 i = 1 := fun i h => by rw [hO_18 h]; exact ob2_b i
theorem Fm_O {k p : Int} : Fm A (hO A k p) := Fm_2 rfl rfl
/-- openAt -/
theorem m95 {k p : Int} (hA : Nm A) (k0 : 0 ≤ k) (k1 : k ≤ 2) (p0 : 0 ≤ p) (p1 : p ≤ 1000) : sw_M 95 [.ref 1, .int (Int32.ofInt k), .int (Int32.ofInt p)] (sw_h L A F T X) Q = Q (some none) (sw_h L (hO A k p) F T X) := by
  have mm := m87_2 (L := L) (A := A) (F := F) (T := T) (X := X) (Q := sw_K 95 32 none [some (.ref 1), some (.int (Int32.ofInt k)), some (.int (Int32.ofInt p))] [] Q) hA.2.2 hA.2.1 hA.1 k0 k1 p0 p1
  rw [e95]
  simp (disch := omega) only [r95_0, r95_1, r95_4, r95_5, r95_6, r95_9, r95_12, r95_13, r95_16, r95_17, r95_20, r95_21, r95_24, r95_27, r95_28, r95_29, sw_ldi, sw_ldl, sw_lda, sw_has1, sw_i1, sw_i2, sw_l1, sw_l2, sw_li, sw_r1, sw_ri, sw_rix, sw_rv, sw_pop, sw_set1, sw_set2, List.set_cons_zero, List.set_cons_succ, List.getElem?_cons_zero, List.getElem?_cons_succ, ald_1, ald_2, ast_1, ast_2, aln_1, aln_2, gf_1, gf_2, pf_1, pf_2, nw_1, ck_0, ck_1, ck_2, ck_3, ck_4, rr_1, rc_1, rc_2, K_i, K_l, K_v, I_add, I_sub, I_mul, I_div, I_em, I_eq0, I_lt0, I_0lt, I_le0, I_0le, I_eq, I_lt, I_le, I_a1, I_r1, I_eq1, I32_at, I32_s, Int.toNat_natCast, List.set_cons_zero, reduceCtorEq, not_false_eq_true, not_true_eq_false, false_and, true_and, and_true, and_false, false_or, true_or, or_true, or_false, if_true, if_false, eq_self, ↓reduceIte, Int.reduceEq, Int.reduceLT, Int.reduceLE, Int.reduceAdd, Int.reduceSub, Int.reduceMul, Int.reduceNeg, Int.reduceToNat, Nat.reduceLT, Nat.reduceAdd, Nat.reduceEqDiff, List.length_cons, List.length_nil, m84, m17, h_1, h_8, h_16]
  rw [mm]
  simp (disch := omega) only [r95_32, sw_ldi, sw_ldl, sw_lda, sw_has1, sw_i1, sw_i2, sw_l1, sw_l2, sw_li, sw_r1, sw_ri, sw_rix, sw_rv, sw_pop, sw_set1, sw_set2, List.set_cons_zero, List.set_cons_succ, List.getElem?_cons_zero, List.getElem?_cons_succ, ald_1, ald_2, ast_1, ast_2, aln_1, aln_2, gf_1, gf_2, pf_1, pf_2, nw_1, ck_0, ck_1, ck_2, ck_3, ck_4, rr_1, rc_1, rc_2, K_i, K_l, K_v, I_add, I_sub, I_mul, I_div, I_em, I_eq0, I_lt0, I_0lt, I_le0, I_0le, I_eq, I_lt, I_le, I_a1, I_r1, I_eq1, I32_at, I32_s, Int.toNat_natCast, List.set_cons_zero, reduceCtorEq, not_false_eq_true, not_true_eq_false, false_and, true_and, and_true, and_false, false_or, true_or, or_true, or_false, if_true, if_false, eq_self, ↓reduceIte, Int.reduceEq, Int.reduceLT, Int.reduceLE, Int.reduceAdd, Int.reduceSub, Int.reduceMul, Int.reduceNeg, Int.reduceToNat, Nat.reduceLT, Nat.reduceAdd, Nat.reduceEqDiff, List.length_cons, List.length_nil]
  rfl
/-- leastSteps over openings told -/
theorem m91o {k p fr to : Int} (s0 : 0 ≤ fr) (s1 : fr < 4) (t0 : 0 ≤ to) (t1 : to < 4) : ∃ σ2 : sw_B3, BD (ob2 A k p) (Sd (os2 A k p) fr) σ2.1 σ2.2.2 ∧ sw_M 91 [.ref 16, .int (Int32.ofInt fr), .int (Int32.ofInt to)] (sw_h L (hO A k p) F T X) Q = Q (some (some (.int (Int32.ofInt (lst σ2.1 to 36))))) (hB L (hO A k p) F T X σ2 σ2.2.2) := by
  obtain ⟨σ2, g1, g2⟩ := m91 (L := L) (A := hO A k p) (F := F) (T := T) (X := X) (Q := Q) s0 s1 t0 t1 hO_op hO_ob
  exact ⟨σ2, BD_c (fun b hb => hO_18 hb) (fun t ht => by unfold Sd; rw [hO_17 ht]) g1, g2⟩
/-- spans -/
theorem m96 {k p dn : Int} (hA : Nm A) (k0 : 0 ≤ k) (k1 : k ≤ 2) (p0 : 0 ≤ p) (p1 : p ≤ 1000) (hd : dn = 0 ∨ dn = 1)
    (hQ : ∀ (B : Nat → Nat → Int) (G : Nat → Int) (st : Nat → Int) (z : Int), Fm A B → (∀ j, j < 8 → G j = F j) → (∀ j, 9 < j → G j = F j) → BD (ob2 A k p) (Sd (os2 A k p) (if dn = 0 then 1 else 0)) st z → Q (some (some (.int (Int32.ofInt (if lst st (if dn = 0 then 2 else 3) 36 = -1 then 0 else 1))))) (sw_h L B G T X)) :
    sw_M 96 [.ref 1, .int (Int32.ofInt k), .int (Int32.ofInt p), .int (Int32.ofInt dn)] (sw_h L A F T X) Q := by
  rw [e96]
  simp (disch := omega) only [r96_0, r96_1, r96_2, r96_3, sw_ldi, sw_ldl, sw_lda, sw_has1, sw_i1, sw_i2, sw_l1, sw_l2, sw_li, sw_r1, sw_ri, sw_rix, sw_rv, sw_pop, sw_set1, sw_set2, List.set_cons_zero, List.set_cons_succ, List.getElem?_cons_zero, List.getElem?_cons_succ, ald_1, ald_2, ast_1, ast_2, aln_1, aln_2, gf_1, gf_2, pf_1, pf_2, nw_1, ck_0, ck_1, ck_2, ck_3, ck_4, rr_1, rc_1, rc_2, K_i, K_l, K_v, I_add, I_sub, I_mul, I_div, I_em, I_eq0, I_lt0, I_0lt, I_le0, I_0le, I_eq, I_lt, I_le, I_a1, I_r1, I_eq1, I32_at, I32_s, Int.toNat_natCast, List.set_cons_zero, reduceCtorEq, not_false_eq_true, not_true_eq_false, false_and, true_and, and_true, and_false, false_or, true_or, or_true, or_false, if_true, if_false, eq_self, ↓reduceIte, Int.reduceEq, Int.reduceLT, Int.reduceLE, Int.reduceAdd, Int.reduceSub, Int.reduceMul, Int.reduceNeg, Int.reduceToNat, Nat.reduceLT, Nat.reduceAdd, Nat.reduceEqDiff, List.length_cons, List.length_nil, h_1]
  rw [m95 hA k0 k1 p0 p1]
  obtain ⟨σ2, g1, g2⟩ := m91o (L := L) (A := A) (F := F) (T := T) (X := X) (Q := sw_K 96 31 none [some (.ref 1), some (.int (Int32.ofInt k)), some (.int (Int32.ofInt p)), some (.int (Int32.ofInt dn))] [] Q) (k := k) (p := p) (fr := if dn = 0 then 1 else 0) (to := if dn = 0 then 2 else 3) (by split <;> omega) (by split <;> omega) (by split <;> omega) (by split <;> omega)
  have hq := hQ (sw_s (sw_s (hO A k p) 19 σ2.1) 21 σ2.2.1) (sw_s (sw_s F 8 σ2.2.2) 9 σ2.2.2) σ2.1 σ2.2.2 (Fm_t Fm_O (Fm_2 rfl rfl)) (fun j hj => by unfold sw_s; rw [if_neg (by omega), if_neg (by omega)]) (fun j hj => by unfold sw_s; rw [if_neg (by omega), if_neg (by omega)]) g1
  have lb := lst_b (to := if dn = 0 then 2 else 3) 36 g1.1
  rcases hd with rfl | rfl
  · rw [if_pos rfl, if_pos rfl] at g2
    rw [if_pos rfl] at hq lb
    simp (disch := omega) only [r96_6, r96_7, r96_10, r96_11, r96_14, r96_15, r96_18, r96_19, r96_20, r96_23, r96_24, r96_27, r96_28, sw_ldi, sw_ldl, sw_lda, sw_has1, sw_i1, sw_i2, sw_l1, sw_l2, sw_li, sw_r1, sw_ri, sw_rix, sw_rv, sw_pop, sw_set1, sw_set2, List.set_cons_zero, List.set_cons_succ, List.getElem?_cons_zero, List.getElem?_cons_succ, ald_1, ald_2, ast_1, ast_2, aln_1, aln_2, gf_1, gf_2, pf_1, pf_2, nw_1, ck_0, ck_1, ck_2, ck_3, ck_4, rr_1, rc_1, rc_2, K_i, K_l, K_v, I_add, I_sub, I_mul, I_div, I_em, I_eq0, I_lt0, I_0lt, I_le0, I_0le, I_eq, I_lt, I_le, I_a1, I_r1, I_eq1, I32_at, I32_s, Int.toNat_natCast, List.set_cons_zero, reduceCtorEq, not_false_eq_true, not_true_eq_false, false_and, true_and, and_true, and_false, false_or, true_or, or_true, or_false, if_true, if_false, eq_self, ↓reduceIte, Int.reduceEq, Int.reduceLT, Int.reduceLE, Int.reduceAdd, Int.reduceSub, Int.reduceMul, Int.reduceNeg, Int.reduceToNat, Nat.reduceLT, Nat.reduceAdd, Nat.reduceEqDiff, List.length_cons, List.length_nil, h_1, h_16]
    rw [g2]
    unfold hB
    generalize lst σ2.1 2 36 = w at *
    simp (disch := omega) only [r96_31, r96_32, r96_35, r96_36, r96_39, r96_40, sw_ldi, sw_ldl, sw_lda, sw_has1, sw_i1, sw_i2, sw_l1, sw_l2, sw_li, sw_r1, sw_ri, sw_rix, sw_rv, sw_pop, sw_set1, sw_set2, List.set_cons_zero, List.set_cons_succ, List.getElem?_cons_zero, List.getElem?_cons_succ, ald_1, ald_2, ast_1, ast_2, aln_1, aln_2, gf_1, gf_2, pf_1, pf_2, nw_1, ck_0, ck_1, ck_2, ck_3, ck_4, rr_1, rc_1, rc_2, K_i, K_l, K_v, I_add, I_sub, I_mul, I_div, I_em, I_eq0, I_lt0, I_0lt, I_le0, I_0le, I_eq, I_lt, I_le, I_a1, I_r1, I_eq1, I32_at, I32_s, Int.toNat_natCast, List.set_cons_zero, reduceCtorEq, not_false_eq_true, not_true_eq_false, false_and, true_and, and_true, and_false, false_or, true_or, or_true, or_false, if_true, if_false, eq_self, ↓reduceIte, Int.reduceEq, Int.reduceLT, Int.reduceLE, Int.reduceAdd, Int.reduceSub, Int.reduceMul, Int.reduceNeg, Int.reduceToNat, Nat.reduceLT, Nat.reduceAdd, Nat.reduceEqDiff, List.length_cons, List.length_nil]
    by_cases c : w = -1
    · rw [if_pos c]; rw [if_pos c] at hq; exact hq
    · rw [if_neg c]; rw [if_neg c] at hq; exact hq
  · rw [if_neg (show ¬ (1 : Int) = 0 by decide), if_neg (show ¬ (1 : Int) = 0 by decide)] at g2
    rw [if_neg (show ¬ (1 : Int) = 0 by decide)] at hq lb
    simp (disch := omega) only [r96_6, r96_7, r96_10, r96_11, r96_14, r96_15, r96_18, r96_19, r96_20, r96_23, r96_24, r96_27, r96_28, sw_ldi, sw_ldl, sw_lda, sw_has1, sw_i1, sw_i2, sw_l1, sw_l2, sw_li, sw_r1, sw_ri, sw_rix, sw_rv, sw_pop, sw_set1, sw_set2, List.set_cons_zero, List.set_cons_succ, List.getElem?_cons_zero, List.getElem?_cons_succ, ald_1, ald_2, ast_1, ast_2, aln_1, aln_2, gf_1, gf_2, pf_1, pf_2, nw_1, ck_0, ck_1, ck_2, ck_3, ck_4, rr_1, rc_1, rc_2, K_i, K_l, K_v, I_add, I_sub, I_mul, I_div, I_em, I_eq0, I_lt0, I_0lt, I_le0, I_0le, I_eq, I_lt, I_le, I_a1, I_r1, I_eq1, I32_at, I32_s, Int.toNat_natCast, List.set_cons_zero, reduceCtorEq, not_false_eq_true, not_true_eq_false, false_and, true_and, and_true, and_false, false_or, true_or, or_true, or_false, if_true, if_false, eq_self, ↓reduceIte, Int.reduceEq, Int.reduceLT, Int.reduceLE, Int.reduceAdd, Int.reduceSub, Int.reduceMul, Int.reduceNeg, Int.reduceToNat, Nat.reduceLT, Nat.reduceAdd, Nat.reduceEqDiff, List.length_cons, List.length_nil, h_1, h_16]
    rw [g2]
    unfold hB
    generalize lst σ2.1 3 36 = w at *
    simp (disch := omega) only [r96_31, r96_32, r96_35, r96_36, r96_39, r96_40, sw_ldi, sw_ldl, sw_lda, sw_has1, sw_i1, sw_i2, sw_l1, sw_l2, sw_li, sw_r1, sw_ri, sw_rix, sw_rv, sw_pop, sw_set1, sw_set2, List.set_cons_zero, List.set_cons_succ, List.getElem?_cons_zero, List.getElem?_cons_succ, ald_1, ald_2, ast_1, ast_2, aln_1, aln_2, gf_1, gf_2, pf_1, pf_2, nw_1, ck_0, ck_1, ck_2, ck_3, ck_4, rr_1, rc_1, rc_2, K_i, K_l, K_v, I_add, I_sub, I_mul, I_div, I_em, I_eq0, I_lt0, I_0lt, I_le0, I_0le, I_eq, I_lt, I_le, I_a1, I_r1, I_eq1, I32_at, I32_s, Int.toNat_natCast, List.set_cons_zero, reduceCtorEq, not_false_eq_true, not_true_eq_false, false_and, true_and, and_true, and_false, false_or, true_or, or_true, or_false, if_true, if_false, eq_self, ↓reduceIte, Int.reduceEq, Int.reduceLT, Int.reduceLE, Int.reduceAdd, Int.reduceSub, Int.reduceMul, Int.reduceNeg, Int.reduceToNat, Nat.reduceLT, Nat.reduceAdd, Nat.reduceEqDiff, List.length_cons, List.length_nil]
    by_cases c : w = -1
    · rw [if_pos c]; rw [if_pos c] at hq; exact hq
    · rw [if_neg c]; rw [if_neg c] at hq; exact hq
/-- shortest -/
theorem m128 {k p : Int} (hA : Nm A) (k0 : 0 ≤ k) (k1 : k ≤ 2) (p0 : 0 ≤ p) (p1 : p ≤ 1000)
    (hQ : ∀ (B : Nat → Nat → Int) (G : Nat → Int) (st : Nat → Int) (z : Int), Fm A B → (∀ j, j < 8 → G j = F j) → (∀ j, 9 < j → G j = F j) → BD (ob2 A k p) (Sd (os2 A k p) 1) st z → Q (some (some (.int (Int32.ofInt (lst st 2 36))))) (sw_h L B G T X)) :
    sw_M 128 [.ref 1, .int (Int32.ofInt k), .int (Int32.ofInt p)] (sw_h L A F T X) Q := by
  rw [e128]
  simp (disch := omega) only [r128_0, r128_1, r128_2, r128_3, sw_ldi, sw_ldl, sw_lda, sw_has1, sw_i1, sw_i2, sw_l1, sw_l2, sw_li, sw_r1, sw_ri, sw_rix, sw_rv, sw_pop, sw_set1, sw_set2, List.set_cons_zero, List.set_cons_succ, List.getElem?_cons_zero, List.getElem?_cons_succ, ald_1, ald_2, ast_1, ast_2, aln_1, aln_2, gf_1, gf_2, pf_1, pf_2, nw_1, ck_0, ck_1, ck_2, ck_3, ck_4, rr_1, rc_1, rc_2, K_i, K_l, K_v, I_add, I_sub, I_mul, I_div, I_em, I_eq0, I_lt0, I_0lt, I_le0, I_0le, I_eq, I_lt, I_le, I_a1, I_r1, I_eq1, I32_at, I32_s, Int.toNat_natCast, List.set_cons_zero, reduceCtorEq, not_false_eq_true, not_true_eq_false, false_and, true_and, and_true, and_false, false_or, true_or, or_true, or_false, if_true, if_false, eq_self, ↓reduceIte, Int.reduceEq, Int.reduceLT, Int.reduceLE, Int.reduceAdd, Int.reduceSub, Int.reduceMul, Int.reduceNeg, Int.reduceToNat, Nat.reduceLT, Nat.reduceAdd, Nat.reduceEqDiff, List.length_cons, List.length_nil, h_1]
  rw [m95 hA k0 k1 p0 p1]
  obtain ⟨σ2, g1, g2⟩ := m91o (L := L) (A := A) (F := F) (T := T) (X := X) (Q := sw_K 128 15 none [some (.ref 1), some (.int (Int32.ofInt k)), some (.int (Int32.ofInt p))] [] Q) (k := k) (p := p) (fr := 1) (to := 2) (by omega) (by omega) (by omega) (by omega)
  have hq := hQ (sw_s (sw_s (hO A k p) 19 σ2.1) 21 σ2.2.1) (sw_s (sw_s F 8 σ2.2.2) 9 σ2.2.2) σ2.1 σ2.2.2 (Fm_t Fm_O (Fm_2 rfl rfl)) (fun j hj => by unfold sw_s; rw [if_neg (by omega), if_neg (by omega)]) (fun j hj => by unfold sw_s; rw [if_neg (by omega), if_neg (by omega)]) g1
  simp (disch := omega) only [r128_6, r128_7, r128_10, r128_11, r128_12, sw_ldi, sw_ldl, sw_lda, sw_has1, sw_i1, sw_i2, sw_l1, sw_l2, sw_li, sw_r1, sw_ri, sw_rix, sw_rv, sw_pop, sw_set1, sw_set2, List.set_cons_zero, List.set_cons_succ, List.getElem?_cons_zero, List.getElem?_cons_succ, ald_1, ald_2, ast_1, ast_2, aln_1, aln_2, gf_1, gf_2, pf_1, pf_2, nw_1, ck_0, ck_1, ck_2, ck_3, ck_4, rr_1, rc_1, rc_2, K_i, K_l, K_v, I_add, I_sub, I_mul, I_div, I_em, I_eq0, I_lt0, I_0lt, I_le0, I_0le, I_eq, I_lt, I_le, I_a1, I_r1, I_eq1, I32_at, I32_s, Int.toNat_natCast, List.set_cons_zero, reduceCtorEq, not_false_eq_true, not_true_eq_false, false_and, true_and, and_true, and_false, false_or, true_or, or_true, or_false, if_true, if_false, eq_self, ↓reduceIte, Int.reduceEq, Int.reduceLT, Int.reduceLE, Int.reduceAdd, Int.reduceSub, Int.reduceMul, Int.reduceNeg, Int.reduceToNat, Nat.reduceLT, Nat.reduceAdd, Nat.reduceEqDiff, List.length_cons, List.length_nil, h_1, h_16]
  rw [g2]
  simp (disch := omega) only [r128_15, sw_ldi, sw_ldl, sw_lda, sw_has1, sw_i1, sw_i2, sw_l1, sw_l2, sw_li, sw_r1, sw_ri, sw_rix, sw_rv, sw_pop, sw_set1, sw_set2, List.set_cons_zero, List.set_cons_succ, List.getElem?_cons_zero, List.getElem?_cons_succ, ald_1, ald_2, ast_1, ast_2, aln_1, aln_2, gf_1, gf_2, pf_1, pf_2, nw_1, ck_0, ck_1, ck_2, ck_3, ck_4, rr_1, rc_1, rc_2, K_i, K_l, K_v, I_add, I_sub, I_mul, I_div, I_em, I_eq0, I_lt0, I_0lt, I_le0, I_0le, I_eq, I_lt, I_le, I_a1, I_r1, I_eq1, I32_at, I32_s, Int.toNat_natCast, List.set_cons_zero, reduceCtorEq, not_false_eq_true, not_true_eq_false, false_and, true_and, and_true, and_false, false_or, true_or, or_true, or_false, if_true, if_false, eq_self, ↓reduceIte, Int.reduceEq, Int.reduceLT, Int.reduceLE, Int.reduceAdd, Int.reduceSub, Int.reduceMul, Int.reduceNeg, Int.reduceToNat, Nat.reduceLT, Nat.reduceAdd, Nat.reduceEqDiff, List.length_cons, List.length_nil]
  exact hq
end sw_m10
