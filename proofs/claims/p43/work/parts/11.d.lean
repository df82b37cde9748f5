/-! grown: pure part, with any rule `le` which bonds lead -/
def lo (b : Nat) : Nat := (f_lo b).toNat
def hi (b : Nat) : Nat := (f_hi b).toNat
theorem lo_lt {b : Nat} (h : b < 60) : lo b < 36 ∧ (f_lo b) = (lo b : Int) := by
  have := f_lo_b (b := b) (by omega) (by omega)
  unfold lo
  omega
theorem hi_lt {b : Nat} (h : b < 60) : hi b < 36 ∧ (f_hi b) = (hi b : Int) := by
  have := f_hi_b (b := b) (by omega) (by omega)
  unfold hi
  omega
def wb2 (a : Int64) (x y : Nat) : Int64 := a ||| (((1 : Int64) <<< ((Int32.ofInt (x : Nat)).toInt64 &&& 63)) ||| ((1 : Int64) <<< ((Int32.ofInt (y : Nat)).toInt64 &&& 63)))
theorem hb_wb2 (a : Int64) (x y i : Nat) (hx : x < 64) (hy : y < 64) (hi : i < 64) : hb (wb2 a x y) i = (hb a i || (decide (i = x) || decide (i = y))) := by unfold wb2; rw [hb_or, hb_or, hb_sh x i hx hi, hb_sh y i hy hi]
def gr1 (le : Nat → Bool) (a : Int64) (b : Nat) : Int64 := if ¬ hb a (lo b) = hb a (hi b) ∧ le b = true then wb2 a (lo b) (hi b) else a
def grp (le : Nat → Bool) (a : Int64) : Nat → Int64
  | 0 => a
  | n + 1 => gr1 le (grp le a n) n
theorem gr1_mono {le : Nat → Bool} {a : Int64} {b i : Nat} (hb0 : b < 60) (h64 : i < 64) (h : hb a i = true) : hb (gr1 le a b) i = true := by
  have h1 := (lo_lt hb0).1
  have h2 := (hi_lt hb0).1
  unfold gr1
  split
  · rw [hb_wb2 a _ _ i (by omega) (by omega) h64, h]; rfl
  · exact h
theorem grp_mono {le : Nat → Bool} {a : Int64} : ∀ (n m i : Nat), n + m ≤ 60 → i < 64 → hb (grp le a n) i = true → hb (grp le a (n + m)) i = true
  | _, 0, _, _, _, h => h
  | n, m + 1, i, hn, h64, h => gr1_mono (show n + m < 60 by omega) h64 (grp_mono n m i (by omega) h64 h)
theorem grp_in {le : Nat → Bool} {a : Int64} {P : Nat → Prop} (h0 : ∀ i, i < 64 → hb a i = true → P i) (hs : ∀ b, b < 60 → le b = true → (P (lo b) → P (hi b)) ∧ (P (hi b) → P (lo b))) : ∀ n, n ≤ 60 → ∀ i, i < 64 → hb (grp le a n) i = true → P i
  | 0, _, i, h64, h => h0 i h64 h
  | n + 1, hn, i, h64, h => by
    have ih := grp_in h0 hs n (by omega)
    have h1 := (lo_lt (b := n) (by omega)).1
    have h2 := (hi_lt (b := n) (by omega)).1
    have h : hb (gr1 le (grp le a n) n) i = true := h
    unfold gr1 at h
    split at h
    · next c =>
      have q := hs n (by omega) c.2
      have both : P (lo n) ∧ P (hi n) := by
        cases e1 : hb (grp le a n) (lo n) with
        | true => have := ih _ (by omega) e1; exact ⟨this, q.1 this⟩
        | false =>
          cases e2 : hb (grp le a n) (hi n) with
          | true => have := ih _ (by omega) e2; exact ⟨q.2 this, this⟩
          | false => exact absurd (e1.trans e2.symm) c.1
      rw [hb_wb2 _ _ _ i (by omega) (by omega) h64, Bool.or_eq_true, Bool.or_eq_true] at h
      rcases h with h | h | h
      · exact ih i h64 h
      · rw [of_decide_eq_true h]; exact both.1
      · rw [of_decide_eq_true h]; exact both.2
    · exact ih i h64 h
theorem grp_hi {le : Nat → Bool} {a : Int64} : ∀ n, n ≤ 60 → ∀ i, 36 ≤ i → i < 64 → hb (grp le a n) i = hb a i
  | 0, _, _, _, _ => rfl
  | n + 1, hn, i, h1, h2 => by
    have ih := grp_hi (le := le) (a := a) n (by omega) i h1 h2
    have g1 := (lo_lt (b := n) (by omega)).1
    have g2 := (hi_lt (b := n) (by omega)).1
    show hb (gr1 le (grp le a n) n) i = _
    unfold gr1
    split
    · rw [hb_wb2 _ _ _ i (by omega) (by omega) h2, ih, decide_eq_false (by omega), decide_eq_false (by omega), Bool.or_false, Bool.or_false]
    · exact ih
theorem grp_closed {le : Nat → Bool} {a : Int64} (h : grp le a 60 = a) {b : Nat} (hb0 : b < 60) (h1 : le b = true) : hb a (lo b) = hb a (hi b) := by
  have g1 := (lo_lt hb0).1
  have g2 := (hi_lt hb0).1
  have up : ∀ n, n ≤ 60 → ∀ i, i < 64 → hb (grp le a n) i = true → hb a i = true := fun n hn i h64 q => by
    have := grp_mono (le := le) (a := a) n (60 - n) i (by omega) h64 q
    rwa [show n + (60 - n) = 60 by omega, h] at this
  have m1 : ∀ n, n ≤ 60 → ∀ i, i < 64 → hb a i = true → hb (grp le a n) i = true := fun n hn i h64 q => by
    have := grp_mono (le := le) (a := a) 0 n i (by omega) h64 q
    rwa [Nat.zero_add] at this
  have eq : ∀ n, n ≤ 60 → ∀ i, i < 64 → hb (grp le a n) i = hb a i := fun n hn i h64 => by
    cases e : hb a i with
    | true => exact m1 n hn i h64 e
    | false =>
      cases e2 : hb (grp le a n) i with
      | false => rfl
      | true => have := up n hn i h64 e2; rw [e] at this; cases this
  apply Classical.byContradiction
  intro q
  have c : ¬ hb (grp le a b) (lo b) = hb (grp le a b) (hi b) ∧ le b = true := ⟨by rw [eq b (by omega) _ (by omega), eq b (by omega) _ (by omega)]; exact q, h1⟩
  have e : grp le a (b + 1) = wb2 (grp le a b) (lo b) (hi b) := if_pos c
  have e1 := eq (b + 1) (by omega) (lo b) (by omega)
  have e2 := eq (b + 1) (by omega) (hi b) (by omega)
  rw [e, hb_wb2 _ _ _ _ (by omega) (by omega) (by omega)] at e1 e2
  rw [← e1, ← e2] at q
  simp at q
theorem grp_lt {le : Nat → Bool} {a : Int64} (h : ¬ grp le a 60 = a) : sm (fun k => bi (hb a k)) 36 < sm (fun k => bi (hb (grp le a 60) k)) 36 := by
  have m1 : ∀ i, i < 64 → hb a i = true → hb (grp le a 60) i = true := fun i h64 q => by
    have := grp_mono (le := le) (a := a) 0 60 i (by omega) h64 q
    rwa [Nat.zero_add] at this
  have : ∃ j, j < 36 ∧ hb a j = false ∧ hb (grp le a 60) j = true := Classical.byContradiction fun q => h (hb_ext _ _ fun i h64 => by
    by_cases c : i < 36
    · cases e : hb a i with
      | true => exact m1 i h64 e
      | false =>
        cases e2 : hb (grp le a 60) i with
        | false => rfl
        | true => exact absurd ⟨i, c, e, e2⟩ q
    · exact grp_hi 60 (Nat.le_refl _) i (by omega) h64)
  obtain ⟨j, hj, q1, q2⟩ := this
  exact sm_lt (fun i hi2 => m1 i (by omega)) q1 q2 36 (Nat.le_refl _) hj
/-- what grown is: the least set with the start in it that is whole along the bonds that lead -/
def Gr (le : Nat → Bool) (a r : Int64) : Prop := (∀ i, i < 64 → hb a i = true → hb r i = true) ∧ (∀ b, b < 60 → le b = true → hb r (lo b) = hb r (hi b)) ∧ ∀ P : Nat → Prop, (∀ i, i < 64 → hb a i = true → P i) → (∀ b, b < 60 → le b = true → (P (lo b) → P (hi b)) ∧ (P (hi b) → P (lo b))) → ∀ i, i < 64 → hb r i = true → P i
/-- the start -/
def gs1 (sh frm : Int64) (ns : Nat → Int) (k p : Int) (a : Int64) (s : Nat) : Int64 := if hb frm s = true ∧ hb sh s = false ∧ (k = 0 ∨ ns s < p) then wb a s else a
def gs (sh frm : Int64) (ns : Nat → Int) (k p : Int) : Nat → Int64
  | 0 => 0
  | n + 1 => gs1 sh frm ns k p (gs sh frm ns k p n) n
theorem gs_v {sh frm : Int64} {ns : Nat → Int} {k p : Int} : ∀ n, n ≤ 36 → ∀ i, i < 64 → (hb (gs sh frm ns k p n) i = true ↔ (i < n ∧ hb frm i = true ∧ hb sh i = false ∧ (k = 0 ∨ ns i < p)))
  | 0, _, i, _ => ⟨fun h => (by rw [show gs sh frm ns k p 0 = 0 from rfl, hb_0] at h; cases h), fun h => absurd h.1 (Nat.not_lt_zero _)⟩
  | n + 1, hn, i, h64 => by
    have ih := gs_v (sh := sh) (frm := frm) (ns := ns) (k := k) (p := p) n (by omega) i h64
    show hb (gs1 sh frm ns k p (gs sh frm ns k p n) n) i = true ↔ _
    unfold gs1
    split
    · next c =>
      rw [hb_wb _ n i (by omega) h64, Bool.or_eq_true, ih]
      constructor
      · rintro (q | q)
        · exact ⟨by omega, q.2⟩
        · have e : i = n := of_decide_eq_true q
          subst e
          exact ⟨Nat.lt_succ_self _, c⟩
      · intro q
        by_cases e : i = n
        · exact Or.inr (decide_eq_true e)
        · exact Or.inl ⟨by omega, q.2⟩
    · next c =>
      rw [ih]
      constructor
      · intro q; exact ⟨by omega, q.2⟩
      · intro q
        by_cases e : i = n
        · subst e; exact absurd q.2 c
        · exact ⟨by omega, q.2⟩
section sw_s4
variable {H : sw_HS} {Q : sw_Ot → sw_HS → Prop} {rb rs : Nat} {nb ns : Nat → Int} {shut frm : Int64} {k p : Int}
/-- which bonds lead, one of them left out -/
def leb (nb ns : Nat → Int) (shut : Int64) (k p wo : Int) (b : Nat) : Bool := decide (¬ (b : Int) = wo ∧ ld nb ns shut k p b = 1)
theorem m82_s {wo : Int} (hs0 : H.1 rs = .inr (0, 36, I32 ns)) (ns1 : ∀ i, i < 36 → 0 ≤ ns i ∧ ns i < 1000) (k0 : 0 ≤ k) (k1 : k ≤ 2) (p0 : -1 ≤ p) (p1 : p ≤ 1000) : ∀ (n i : Nat), i + n = 36 → sw_A 82 6 [some (.ref rb), some (.ref rs), some (.long shut), none, some (.int (Int32.ofInt k)), some (.int (Int32.ofInt p)), some (.long frm), none, some (.int (Int32.ofInt wo)), some (.long (gs shut frm ns k p i)), none, some (.int (Int32.ofInt i)), none, none, none, none] [] H Q = sw_A 82 61 [some (.ref rb), some (.ref rs), some (.long shut), none, some (.int (Int32.ofInt k)), some (.int (Int32.ofInt p)), some (.long frm), none, some (.int (Int32.ofInt wo)), some (.long (gs shut frm ns k p 36)), none, some (.int (Int32.ofInt 36)), none, none, none, none] [] H Q
  | 0, i, hn => by
    have e : i = 36 := hn
    subst e
    rw [r82_6]
    simp (disch := omega) only [r82_8, r82_10, sw_ldi, sw_ldl, sw_lda, sw_has1, sw_i1, sw_i2, sw_l1, sw_l2, sw_li, sw_r1, sw_ri, sw_rix, sw_rv, sw_pop, sw_set1, sw_set2, List.set_cons_zero, List.set_cons_succ, List.getElem?_cons_zero, List.getElem?_cons_succ, ald_1, ald_2, ast_1, ast_2, aln_1, aln_2, gf_1, gf_2, pf_1, pf_2, nw_1, ck_0, ck_1, ck_2, ck_3, ck_4, rr_1, rc_1, rc_2, K_i, K_l, K_v, I_add, I_sub, I_mul, I_div, I_em, I_eq0, I_lt0, I_0lt, I_le0, I_0le, I_eq, I_lt, I_le, I_a1, I_r1, I_eq1, I32_at, I32_s, Int.toNat_natCast, List.set_cons_zero, reduceCtorEq, not_false_eq_true, not_true_eq_false, false_and, true_and, and_true, and_false, false_or, true_or, or_true, or_false, if_true, if_false, eq_self, ↓reduceIte, Int.reduceEq, Int.reduceLT, Int.reduceLE, Int.reduceAdd, Int.reduceSub, Int.reduceMul, Int.reduceNeg, Int.reduceToNat, Nat.reduceLT, Nat.reduceAdd, Nat.reduceEqDiff, List.length_cons, List.length_nil, Int.le_refl]
    rfl
  | n + 1, i, hn => by
    have ih := m82_s (wo := wo) hs0 ns1 k0 k1 p0 p1 n (i + 1) (by omega)
    have e : gs shut frm ns k p (i + 1) = gs1 shut frm ns k p (gs shut frm ns k p i) i := rfl
    rw [e] at ih
    have h2 := ns1 i (by omega)
    rw [r82_6]
    simp (disch := omega) only [r82_8, r82_10, r82_13, r82_15, r82_17, sw_ldi, sw_ldl, sw_lda, sw_has1, sw_i1, sw_i2, sw_l1, sw_l2, sw_li, sw_r1, sw_ri, sw_rix, sw_rv, sw_pop, sw_set1, sw_set2, List.set_cons_zero, List.set_cons_succ, List.getElem?_cons_zero, List.getElem?_cons_succ, ald_1, ald_2, ast_1, ast_2, aln_1, aln_2, gf_1, gf_2, pf_1, pf_2, nw_1, ck_0, ck_1, ck_2, ck_3, ck_4, rr_1, rc_1, rc_2, K_i, K_l, K_v, I_add, I_sub, I_mul, I_div, I_em, I_eq0, I_lt0, I_0lt, I_le0, I_0le, I_eq, I_lt, I_le, I_a1, I_r1, I_eq1, I32_at, I32_s, Int.toNat_natCast, List.set_cons_zero, reduceCtorEq, not_false_eq_true, not_true_eq_false, false_and, true_and, and_true, and_false, false_or, true_or, or_true, or_false, if_true, if_false, eq_self, ↓reduceIte, Int.reduceEq, Int.reduceLT, Int.reduceLE, Int.reduceAdd, Int.reduceSub, Int.reduceMul, Int.reduceNeg, Int.reduceToNat, Nat.reduceLT, Nat.reduceAdd, Nat.reduceEqDiff, List.length_cons, List.length_nil, m30]
    rw [if_neg (by omega)]
    cases ef : hb frm i with
    | false =>
      have e2 : gs1 shut frm ns k p (gs shut frm ns k p i) i = gs shut frm ns k p i := if_neg (fun q => by rw [ef] at q; exact Bool.false_ne_true q.1)
      rw [e2] at ih
      simp (disch := omega) only [r82_20, sw_ldi, sw_ldl, sw_lda, sw_has1, sw_i1, sw_i2, sw_l1, sw_l2, sw_li, sw_r1, sw_ri, sw_rix, sw_rv, sw_pop, sw_set1, sw_set2, List.set_cons_zero, List.set_cons_succ, List.getElem?_cons_zero, List.getElem?_cons_succ, ald_1, ald_2, ast_1, ast_2, aln_1, aln_2, gf_1, gf_2, pf_1, pf_2, nw_1, ck_0, ck_1, ck_2, ck_3, ck_4, rr_1, rc_1, rc_2, K_i, K_l, K_v, I_add, I_sub, I_mul, I_div, I_em, I_eq0, I_lt0, I_0lt, I_le0, I_0le, I_eq, I_lt, I_le, I_a1, I_r1, I_eq1, I32_at, I32_s, Int.toNat_natCast, List.set_cons_zero, reduceCtorEq, not_false_eq_true, not_true_eq_false, false_and, true_and, and_true, and_false, false_or, true_or, or_true, or_false, if_true, if_false, eq_self, ↓reduceIte, Int.reduceEq, Int.reduceLT, Int.reduceLE, Int.reduceAdd, Int.reduceSub, Int.reduceMul, Int.reduceNeg, Int.reduceToNat, Nat.reduceLT, Nat.reduceAdd, Nat.reduceEqDiff, List.length_cons, List.length_nil]
      rw [if_pos (show Int32.ofInt (bi false) = 0 from rfl)]
      simp (disch := omega) only [r82_55, r82_58, sw_ldi, sw_ldl, sw_lda, sw_has1, sw_i1, sw_i2, sw_l1, sw_l2, sw_li, sw_r1, sw_ri, sw_rix, sw_rv, sw_pop, sw_set1, sw_set2, List.set_cons_zero, List.set_cons_succ, List.getElem?_cons_zero, List.getElem?_cons_succ, ald_1, ald_2, ast_1, ast_2, aln_1, aln_2, gf_1, gf_2, pf_1, pf_2, nw_1, ck_0, ck_1, ck_2, ck_3, ck_4, rr_1, rc_1, rc_2, K_i, K_l, K_v, I_add, I_sub, I_mul, I_div, I_em, I_eq0, I_lt0, I_0lt, I_le0, I_0le, I_eq, I_lt, I_le, I_a1, I_r1, I_eq1, I32_at, I32_s, Int.toNat_natCast, List.set_cons_zero, reduceCtorEq, not_false_eq_true, not_true_eq_false, false_and, true_and, and_true, and_false, false_or, true_or, or_true, or_false, if_true, if_false, eq_self, ↓reduceIte, Int.reduceEq, Int.reduceLT, Int.reduceLE, Int.reduceAdd, Int.reduceSub, Int.reduceMul, Int.reduceNeg, Int.reduceToNat, Nat.reduceLT, Nat.reduceAdd, Nat.reduceEqDiff, List.length_cons, List.length_nil]
      exact ih
    | true =>
      simp (disch := omega) only [r82_20, r82_23, r82_24, r82_26, sw_ldi, sw_ldl, sw_lda, sw_has1, sw_i1, sw_i2, sw_l1, sw_l2, sw_li, sw_r1, sw_ri, sw_rix, sw_rv, sw_pop, sw_set1, sw_set2, List.set_cons_zero, List.set_cons_succ, List.getElem?_cons_zero, List.getElem?_cons_succ, ald_1, ald_2, ast_1, ast_2, aln_1, aln_2, gf_1, gf_2, pf_1, pf_2, nw_1, ck_0, ck_1, ck_2, ck_3, ck_4, rr_1, rc_1, rc_2, K_i, K_l, K_v, I_add, I_sub, I_mul, I_div, I_em, I_eq0, I_lt0, I_0lt, I_le0, I_0le, I_eq, I_lt, I_le, I_a1, I_r1, I_eq1, I32_at, I32_s, Int.toNat_natCast, List.set_cons_zero, reduceCtorEq, not_false_eq_true, not_true_eq_false, false_and, true_and, and_true, and_false, false_or, true_or, or_true, or_false, if_true, if_false, eq_self, ↓reduceIte, Int.reduceEq, Int.reduceLT, Int.reduceLE, Int.reduceAdd, Int.reduceSub, Int.reduceMul, Int.reduceNeg, Int.reduceToNat, Nat.reduceLT, Nat.reduceAdd, Nat.reduceEqDiff, List.length_cons, List.length_nil, m30]
      rw [if_neg (show ¬ Int32.ofInt (bi true) = 0 by decide)]
      cases es : hb shut i with
      | true =>
        have e2 : gs1 shut frm ns k p (gs shut frm ns k p i) i = gs shut frm ns k p i := if_neg (fun q => by rw [es] at q; exact absurd q.2.1 (by decide))
        rw [e2] at ih
        simp (disch := omega) only [r82_29, sw_ldi, sw_ldl, sw_lda, sw_has1, sw_i1, sw_i2, sw_l1, sw_l2, sw_li, sw_r1, sw_ri, sw_rix, sw_rv, sw_pop, sw_set1, sw_set2, List.set_cons_zero, List.set_cons_succ, List.getElem?_cons_zero, List.getElem?_cons_succ, ald_1, ald_2, ast_1, ast_2, aln_1, aln_2, gf_1, gf_2, pf_1, pf_2, nw_1, ck_0, ck_1, ck_2, ck_3, ck_4, rr_1, rc_1, rc_2, K_i, K_l, K_v, I_add, I_sub, I_mul, I_div, I_em, I_eq0, I_lt0, I_0lt, I_le0, I_0le, I_eq, I_lt, I_le, I_a1, I_r1, I_eq1, I32_at, I32_s, Int.toNat_natCast, List.set_cons_zero, reduceCtorEq, not_false_eq_true, not_true_eq_false, false_and, true_and, and_true, and_false, false_or, true_or, or_true, or_false, if_true, if_false, eq_self, ↓reduceIte, Int.reduceEq, Int.reduceLT, Int.reduceLE, Int.reduceAdd, Int.reduceSub, Int.reduceMul, Int.reduceNeg, Int.reduceToNat, Nat.reduceLT, Nat.reduceAdd, Nat.reduceEqDiff, List.length_cons, List.length_nil]
        rw [if_pos (show ¬ Int32.ofInt (bi true) = 0 by decide)]
        simp (disch := omega) only [r82_55, r82_58, sw_ldi, sw_ldl, sw_lda, sw_has1, sw_i1, sw_i2, sw_l1, sw_l2, sw_li, sw_r1, sw_ri, sw_rix, sw_rv, sw_pop, sw_set1, sw_set2, List.set_cons_zero, List.set_cons_succ, List.getElem?_cons_zero, List.getElem?_cons_succ, ald_1, ald_2, ast_1, ast_2, aln_1, aln_2, gf_1, gf_2, pf_1, pf_2, nw_1, ck_0, ck_1, ck_2, ck_3, ck_4, rr_1, rc_1, rc_2, K_i, K_l, K_v, I_add, I_sub, I_mul, I_div, I_em, I_eq0, I_lt0, I_0lt, I_le0, I_0le, I_eq, I_lt, I_le, I_a1, I_r1, I_eq1, I32_at, I32_s, Int.toNat_natCast, List.set_cons_zero, reduceCtorEq, not_false_eq_true, not_true_eq_false, false_and, true_and, and_true, and_false, false_or, true_or, or_true, or_false, if_true, if_false, eq_self, ↓reduceIte, Int.reduceEq, Int.reduceLT, Int.reduceLE, Int.reduceAdd, Int.reduceSub, Int.reduceMul, Int.reduceNeg, Int.reduceToNat, Nat.reduceLT, Nat.reduceAdd, Nat.reduceEqDiff, List.length_cons, List.length_nil]
        exact ih
      | false =>
        simp (disch := omega) only [r82_29, r82_32, r82_34, r82_37, r82_38, r82_40, r82_41, r82_43, sw_ldi, sw_ldl, sw_lda, sw_has1, sw_i1, sw_i2, sw_l1, sw_l2, sw_li, sw_r1, sw_ri, sw_rix, sw_rv, sw_pop, sw_set1, sw_set2, List.set_cons_zero, List.set_cons_succ, List.getElem?_cons_zero, List.getElem?_cons_succ, ald_1, ald_2, ast_1, ast_2, aln_1, aln_2, gf_1, gf_2, pf_1, pf_2, nw_1, ck_0, ck_1, ck_2, ck_3, ck_4, rr_1, rc_1, rc_2, K_i, K_l, K_v, I_add, I_sub, I_mul, I_div, I_em, I_eq0, I_lt0, I_0lt, I_le0, I_0le, I_eq, I_lt, I_le, I_a1, I_r1, I_eq1, I32_at, I32_s, Int.toNat_natCast, List.set_cons_zero, reduceCtorEq, not_false_eq_true, not_true_eq_false, false_and, true_and, and_true, and_false, false_or, true_or, or_true, or_false, if_true, if_false, eq_self, ↓reduceIte, Int.reduceEq, Int.reduceLT, Int.reduceLE, Int.reduceAdd, Int.reduceSub, Int.reduceMul, Int.reduceNeg, Int.reduceToNat, Nat.reduceLT, Nat.reduceAdd, Nat.reduceEqDiff, List.length_cons, List.length_nil, hs0]
        rw [if_neg (show ¬ ¬ Int32.ofInt (bi false) = 0 by decide)]
        by_cases c : k = 0 ∨ ns i < p
        · have e2 : gs1 shut frm ns k p (gs shut frm ns k p i) i = wb (gs shut frm ns k p i) i := if_pos ⟨ef, es, c⟩
          rw [e2] at ih
          by_cases c0 : k = 0
          · rw [if_pos c0]
            simp (disch := omega) only [r82_46, r82_48, r82_49, r82_51, r82_52, r82_53, r82_55, r82_58, sw_ldi, sw_ldl, sw_lda, sw_has1, sw_i1, sw_i2, sw_l1, sw_l2, sw_li, sw_r1, sw_ri, sw_rix, sw_rv, sw_pop, sw_set1, sw_set2, List.set_cons_zero, List.set_cons_succ, List.getElem?_cons_zero, List.getElem?_cons_succ, ald_1, ald_2, ast_1, ast_2, aln_1, aln_2, gf_1, gf_2, pf_1, pf_2, nw_1, ck_0, ck_1, ck_2, ck_3, ck_4, rr_1, rc_1, rc_2, K_i, K_l, K_v, I_add, I_sub, I_mul, I_div, I_em, I_eq0, I_lt0, I_0lt, I_le0, I_0le, I_eq, I_lt, I_le, I_a1, I_r1, I_eq1, I32_at, I32_s, Int.toNat_natCast, List.set_cons_zero, reduceCtorEq, not_false_eq_true, not_true_eq_false, false_and, true_and, and_true, and_false, false_or, true_or, or_true, or_false, if_true, if_false, eq_self, ↓reduceIte, Int.reduceEq, Int.reduceLT, Int.reduceLE, Int.reduceAdd, Int.reduceSub, Int.reduceMul, Int.reduceNeg, Int.reduceToNat, Nat.reduceLT, Nat.reduceAdd, Nat.reduceEqDiff, List.length_cons, List.length_nil]
            exact ih
          · rw [if_neg c0, if_neg (by omega)]
            simp (disch := omega) only [r82_46, r82_48, r82_49, r82_51, r82_52, r82_53, r82_55, r82_58, sw_ldi, sw_ldl, sw_lda, sw_has1, sw_i1, sw_i2, sw_l1, sw_l2, sw_li, sw_r1, sw_ri, sw_rix, sw_rv, sw_pop, sw_set1, sw_set2, List.set_cons_zero, List.set_cons_succ, List.getElem?_cons_zero, List.getElem?_cons_succ, ald_1, ald_2, ast_1, ast_2, aln_1, aln_2, gf_1, gf_2, pf_1, pf_2, nw_1, ck_0, ck_1, ck_2, ck_3, ck_4, rr_1, rc_1, rc_2, K_i, K_l, K_v, I_add, I_sub, I_mul, I_div, I_em, I_eq0, I_lt0, I_0lt, I_le0, I_0le, I_eq, I_lt, I_le, I_a1, I_r1, I_eq1, I32_at, I32_s, Int.toNat_natCast, List.set_cons_zero, reduceCtorEq, not_false_eq_true, not_true_eq_false, false_and, true_and, and_true, and_false, false_or, true_or, or_true, or_false, if_true, if_false, eq_self, ↓reduceIte, Int.reduceEq, Int.reduceLT, Int.reduceLE, Int.reduceAdd, Int.reduceSub, Int.reduceMul, Int.reduceNeg, Int.reduceToNat, Nat.reduceLT, Nat.reduceAdd, Nat.reduceEqDiff, List.length_cons, List.length_nil]
            exact ih
        · have e2 : gs1 shut frm ns k p (gs shut frm ns k p i) i = gs shut frm ns k p i := if_neg (fun q => c q.2.2)
          rw [e2] at ih
          rw [if_neg (by omega), if_pos (by omega)]
          simp (disch := omega) only [r82_55, r82_58, sw_ldi, sw_ldl, sw_lda, sw_has1, sw_i1, sw_i2, sw_l1, sw_l2, sw_li, sw_r1, sw_ri, sw_rix, sw_rv, sw_pop, sw_set1, sw_set2, List.set_cons_zero, List.set_cons_succ, List.getElem?_cons_zero, List.getElem?_cons_succ, ald_1, ald_2, ast_1, ast_2, aln_1, aln_2, gf_1, gf_2, pf_1, pf_2, nw_1, ck_0, ck_1, ck_2, ck_3, ck_4, rr_1, rc_1, rc_2, K_i, K_l, K_v, I_add, I_sub, I_mul, I_div, I_em, I_eq0, I_lt0, I_0lt, I_le0, I_0le, I_eq, I_lt, I_le, I_a1, I_r1, I_eq1, I32_at, I32_s, Int.toNat_natCast, List.set_cons_zero, reduceCtorEq, not_false_eq_true, not_true_eq_false, false_and, true_and, and_true, and_false, false_or, true_or, or_true, or_false, if_true, if_false, eq_self, ↓reduceIte, Int.reduceEq, Int.reduceLT, Int.reduceLE, Int.reduceAdd, Int.reduceSub, Int.reduceMul, Int.reduceNeg, Int.reduceToNat, Nat.reduceLT, Nat.reduceAdd, Nat.reduceEqDiff, List.length_cons, List.length_nil]
          exact ih
theorem m82_p {wo : Int} {a was : Int64} (w0 : -1 ≤ wo) (w1 : wo < 60) (hb0 : H.1 rb = .inr (0, 60, I32 nb)) (hs0 : H.1 rs = .inr (0, 36, I32 ns)) (nb1 : ∀ i, i < 60 → 0 ≤ nb i ∧ nb i < 1000) (ns1 : ∀ i, i < 36 → 0 ≤ ns i ∧ ns i < 1000) (k0 : 0 ≤ k) (k1 : k ≤ 2) (p0 : -1 ≤ p) (p1 : p ≤ 1000) : ∀ (n i : Nat) (x y : Option Value), i + n = 60 →
    ∃ x2 y2 : Option Value, sw_A 82 81 [some (.ref rb), some (.ref rs), some (.long shut), none, some (.int (Int32.ofInt k)), some (.int (Int32.ofInt p)), some (.long frm), none, some (.int (Int32.ofInt wo)), some (.long (grp (leb nb ns shut k p wo) a i)), none, some (.long was), none, some (.int (Int32.ofInt i)), x, y] [] H Q = sw_A 82 66 [some (.ref rb), some (.ref rs), some (.long shut), none, some (.int (Int32.ofInt k)), some (.int (Int32.ofInt p)), some (.long frm), none, some (.int (Int32.ofInt wo)), some (.long (grp (leb nb ns shut k p wo) a 60)), none, some (.long was), none, some (.int (Int32.ofInt 60)), x2, y2] [] H Q
  | 0, i, x, y, hn => by
    have e : i = 60 := hn
    subst e
    refine ⟨x, y, ?_⟩
    rw [r82_81]
    simp (disch := omega) only [r82_83, r82_85, r82_161, sw_ldi, sw_ldl, sw_lda, sw_has1, sw_i1, sw_i2, sw_l1, sw_l2, sw_li, sw_r1, sw_ri, sw_rix, sw_rv, sw_pop, sw_set1, sw_set2, List.set_cons_zero, List.set_cons_succ, List.getElem?_cons_zero, List.getElem?_cons_succ, ald_1, ald_2, ast_1, ast_2, aln_1, aln_2, gf_1, gf_2, pf_1, pf_2, nw_1, ck_0, ck_1, ck_2, ck_3, ck_4, rr_1, rc_1, rc_2, K_i, K_l, K_v, I_add, I_sub, I_mul, I_div, I_em, I_eq0, I_lt0, I_0lt, I_le0, I_0le, I_eq, I_lt, I_le, I_a1, I_r1, I_eq1, I32_at, I32_s, Int.toNat_natCast, List.set_cons_zero, reduceCtorEq, not_false_eq_true, not_true_eq_false, false_and, true_and, and_true, and_false, false_or, true_or, or_true, or_false, if_true, if_false, eq_self, ↓reduceIte, Int.reduceEq, Int.reduceLT, Int.reduceLE, Int.reduceAdd, Int.reduceSub, Int.reduceMul, Int.reduceNeg, Int.reduceToNat, Nat.reduceLT, Nat.reduceAdd, Nat.reduceEqDiff, List.length_cons, List.length_nil, Int.le_refl]
    rfl
  | n + 1, i, x, y, hn => by
    have hi60 : i < 60 := by omega
    obtain ⟨x2, y2, ih⟩ := m82_p (wo := wo) (a := a) (was := was) w0 w1 hb0 hs0 nb1 ns1 k0 k1 p0 p1 n (i + 1) (some (.int (Int32.ofInt (f_lo i)))) (some (.int (Int32.ofInt (f_hi i)))) (by omega)
    refine ⟨x2, y2, Eq.trans ?_ ih⟩
    have g1 := f_lo_b (b := i) (by omega) (by omega)
    have g2 := f_hi_b (b := i) (by omega) (by omega)
    have e : grp (leb nb ns shut k p wo) a (i + 1) = gr1 (leb nb ns shut k p wo) (grp (leb nb ns shut k p wo) a i) i := rfl
    rw [e]
    generalize grp (leb nb ns shut k p wo) a i = z
    have l1 : f_lo i = (lo i : Int) := (lo_lt hi60).2
    have l2 : f_hi i = (hi i : Int) := (hi_lt hi60).2
    have b1 := bi_b (hb z (lo i))
    have b2 := bi_b (hb z (hi i))
    have lb : ld nb ns shut k p i = 0 ∨ ld nb ns shut k p i = 1 := ldv_b _ _ _ _ _ _ _
    have stay : (hb z (lo i) = hb z (hi i) ∨ leb nb ns shut k p wo i = false) → gr1 (leb nb ns shut k p wo) z i = z := fun q => if_neg (fun q2 => by
      rcases q with q | q
      · exact q2.1 q
      · rw [q] at q2; exact Bool.false_ne_true q2.2)
    have m81x := m81 (Q := sw_K 82 138 none [some (.ref rb), some (.ref rs), some (.long shut), none, some (.int (Int32.ofInt k)), some (.int (Int32.ofInt p)), some (.long frm), none, some (.int (Int32.ofInt wo)), some (.long z), none, some (.long was), none, some (.int (Int32.ofInt i)), some (.int (Int32.ofInt (f_lo i))), some (.int (Int32.ofInt (f_hi i)))] [] Q) (shut := shut) (b := i) hb0 hs0 nb1 ns1 k0 k1 p0 p1 (by omega) (by omega)
    rw [r82_81]
    simp (disch := omega) only [r82_83, r82_85, r82_88, r82_90, r82_93, r82_95, r82_97, r82_100, r82_102, r82_104, r82_106, r82_109, r82_111, r82_113, sw_ldi, sw_ldl, sw_lda, sw_has1, sw_i1, sw_i2, sw_l1, sw_l2, sw_li, sw_r1, sw_ri, sw_rix, sw_rv, sw_pop, sw_set1, sw_set2, List.set_cons_zero, List.set_cons_succ, List.getElem?_cons_zero, List.getElem?_cons_succ, ald_1, ald_2, ast_1, ast_2, aln_1, aln_2, gf_1, gf_2, pf_1, pf_2, nw_1, ck_0, ck_1, ck_2, ck_3, ck_4, rr_1, rc_1, rc_2, K_i, K_l, K_v, I_add, I_sub, I_mul, I_div, I_em, I_eq0, I_lt0, I_0lt, I_le0, I_0le, I_eq, I_lt, I_le, I_a1, I_r1, I_eq1, I32_at, I32_s, Int.toNat_natCast, List.set_cons_zero, reduceCtorEq, not_false_eq_true, not_true_eq_false, false_and, true_and, and_true, and_false, false_or, true_or, or_true, or_false, if_true, if_false, eq_self, ↓reduceIte, Int.reduceEq, Int.reduceLT, Int.reduceLE, Int.reduceAdd, Int.reduceSub, Int.reduceMul, Int.reduceNeg, Int.reduceToNat, Nat.reduceLT, Nat.reduceAdd, Nat.reduceEqDiff, List.length_cons, List.length_nil, m79, m80, m30]
    rw [if_neg (by omega), show (f_lo i).toNat = lo i from rfl, show (f_hi i).toNat = hi i from rfl]
    simp (disch := omega) only [r82_116, sw_ldi, sw_ldl, sw_lda, sw_has1, sw_i1, sw_i2, sw_l1, sw_l2, sw_li, sw_r1, sw_ri, sw_rix, sw_rv, sw_pop, sw_set1, sw_set2, List.set_cons_zero, List.set_cons_succ, List.getElem?_cons_zero, List.getElem?_cons_succ, ald_1, ald_2, ast_1, ast_2, aln_1, aln_2, gf_1, gf_2, pf_1, pf_2, nw_1, ck_0, ck_1, ck_2, ck_3, ck_4, rr_1, rc_1, rc_2, K_i, K_l, K_v, I_add, I_sub, I_mul, I_div, I_em, I_eq0, I_lt0, I_0lt, I_le0, I_0le, I_eq, I_lt, I_le, I_a1, I_r1, I_eq1, I32_at, I32_s, Int.toNat_natCast, List.set_cons_zero, reduceCtorEq, not_false_eq_true, not_true_eq_false, false_and, true_and, and_true, and_false, false_or, true_or, or_true, or_false, if_true, if_false, eq_self, ↓reduceIte, Int.reduceEq, Int.reduceLT, Int.reduceLE, Int.reduceAdd, Int.reduceSub, Int.reduceMul, Int.reduceNeg, Int.reduceToNat, Nat.reduceLT, Nat.reduceAdd, Nat.reduceEqDiff, List.length_cons, List.length_nil]
    by_cases c : hb z (lo i) = hb z (hi i)
    · rw [stay (Or.inl c), c, if_pos rfl]
      simp (disch := omega) only [r82_155, r82_158, sw_ldi, sw_ldl, sw_lda, sw_has1, sw_i1, sw_i2, sw_l1, sw_l2, sw_li, sw_r1, sw_ri, sw_rix, sw_rv, sw_pop, sw_set1, sw_set2, List.set_cons_zero, List.set_cons_succ, List.getElem?_cons_zero, List.getElem?_cons_succ, ald_1, ald_2, ast_1, ast_2, aln_1, aln_2, gf_1, gf_2, pf_1, pf_2, nw_1, ck_0, ck_1, ck_2, ck_3, ck_4, rr_1, rc_1, rc_2, K_i, K_l, K_v, I_add, I_sub, I_mul, I_div, I_em, I_eq0, I_lt0, I_0lt, I_le0, I_0le, I_eq, I_lt, I_le, I_a1, I_r1, I_eq1, I32_at, I32_s, Int.toNat_natCast, List.set_cons_zero, reduceCtorEq, not_false_eq_true, not_true_eq_false, false_and, true_and, and_true, and_false, false_or, true_or, or_true, or_false, if_true, if_false, eq_self, ↓reduceIte, Int.reduceEq, Int.reduceLT, Int.reduceLE, Int.reduceAdd, Int.reduceSub, Int.reduceMul, Int.reduceNeg, Int.reduceToNat, Nat.reduceLT, Nat.reduceAdd, Nat.reduceEqDiff, List.length_cons, List.length_nil]
      rfl
    · have cb : ¬ bi (hb z (lo i)) = bi (hb z (hi i)) := by
        revert c
        cases hb z (lo i) <;> cases hb z (hi i) <;> decide
      rw [if_neg cb]
      simp (disch := omega) only [r82_119, r82_121, r82_123, sw_ldi, sw_ldl, sw_lda, sw_has1, sw_i1, sw_i2, sw_l1, sw_l2, sw_li, sw_r1, sw_ri, sw_rix, sw_rv, sw_pop, sw_set1, sw_set2, List.set_cons_zero, List.set_cons_succ, List.getElem?_cons_zero, List.getElem?_cons_succ, ald_1, ald_2, ast_1, ast_2, aln_1, aln_2, gf_1, gf_2, pf_1, pf_2, nw_1, ck_0, ck_1, ck_2, ck_3, ck_4, rr_1, rc_1, rc_2, K_i, K_l, K_v, I_add, I_sub, I_mul, I_div, I_em, I_eq0, I_lt0, I_0lt, I_le0, I_0le, I_eq, I_lt, I_le, I_a1, I_r1, I_eq1, I32_at, I32_s, Int.toNat_natCast, List.set_cons_zero, reduceCtorEq, not_false_eq_true, not_true_eq_false, false_and, true_and, and_true, and_false, false_or, true_or, or_true, or_false, if_true, if_false, eq_self, ↓reduceIte, Int.reduceEq, Int.reduceLT, Int.reduceLE, Int.reduceAdd, Int.reduceSub, Int.reduceMul, Int.reduceNeg, Int.reduceToNat, Nat.reduceLT, Nat.reduceAdd, Nat.reduceEqDiff, List.length_cons, List.length_nil]
      by_cases cw : (i : Int) = wo
      · rw [stay (Or.inr (decide_eq_false (fun q => q.1 cw))), if_pos cw]
        simp (disch := omega) only [r82_155, r82_158, sw_ldi, sw_ldl, sw_lda, sw_has1, sw_i1, sw_i2, sw_l1, sw_l2, sw_li, sw_r1, sw_ri, sw_rix, sw_rv, sw_pop, sw_set1, sw_set2, List.set_cons_zero, List.set_cons_succ, List.getElem?_cons_zero, List.getElem?_cons_succ, ald_1, ald_2, ast_1, ast_2, aln_1, aln_2, gf_1, gf_2, pf_1, pf_2, nw_1, ck_0, ck_1, ck_2, ck_3, ck_4, rr_1, rc_1, rc_2, K_i, K_l, K_v, I_add, I_sub, I_mul, I_div, I_em, I_eq0, I_lt0, I_0lt, I_le0, I_0le, I_eq, I_lt, I_le, I_a1, I_r1, I_eq1, I32_at, I32_s, Int.toNat_natCast, List.set_cons_zero, reduceCtorEq, not_false_eq_true, not_true_eq_false, false_and, true_and, and_true, and_false, false_or, true_or, or_true, or_false, if_true, if_false, eq_self, ↓reduceIte, Int.reduceEq, Int.reduceLT, Int.reduceLE, Int.reduceAdd, Int.reduceSub, Int.reduceMul, Int.reduceNeg, Int.reduceToNat, Nat.reduceLT, Nat.reduceAdd, Nat.reduceEqDiff, List.length_cons, List.length_nil]
        rfl
      · rw [if_neg cw]
        simp (disch := omega) only [r82_126, r82_127, r82_128, r82_129, r82_131, r82_133, r82_135, sw_ldi, sw_ldl, sw_lda, sw_has1, sw_i1, sw_i2, sw_l1, sw_l2, sw_li, sw_r1, sw_ri, sw_rix, sw_rv, sw_pop, sw_set1, sw_set2, List.set_cons_zero, List.set_cons_succ, List.getElem?_cons_zero, List.getElem?_cons_succ, ald_1, ald_2, ast_1, ast_2, aln_1, aln_2, gf_1, gf_2, pf_1, pf_2, nw_1, ck_0, ck_1, ck_2, ck_3, ck_4, rr_1, rc_1, rc_2, K_i, K_l, K_v, I_add, I_sub, I_mul, I_div, I_em, I_eq0, I_lt0, I_0lt, I_le0, I_0le, I_eq, I_lt, I_le, I_a1, I_r1, I_eq1, I32_at, I32_s, Int.toNat_natCast, List.set_cons_zero, reduceCtorEq, not_false_eq_true, not_true_eq_false, false_and, true_and, and_true, and_false, false_or, true_or, or_true, or_false, if_true, if_false, eq_self, ↓reduceIte, Int.reduceEq, Int.reduceLT, Int.reduceLE, Int.reduceAdd, Int.reduceSub, Int.reduceMul, Int.reduceNeg, Int.reduceToNat, Nat.reduceLT, Nat.reduceAdd, Nat.reduceEqDiff, List.length_cons, List.length_nil]
        rw [m81x]
        simp (disch := omega) only [r82_138, sw_ldi, sw_ldl, sw_lda, sw_has1, sw_i1, sw_i2, sw_l1, sw_l2, sw_li, sw_r1, sw_ri, sw_rix, sw_rv, sw_pop, sw_set1, sw_set2, List.set_cons_zero, List.set_cons_succ, List.getElem?_cons_zero, List.getElem?_cons_succ, ald_1, ald_2, ast_1, ast_2, aln_1, aln_2, gf_1, gf_2, pf_1, pf_2, nw_1, ck_0, ck_1, ck_2, ck_3, ck_4, rr_1, rc_1, rc_2, K_i, K_l, K_v, I_add, I_sub, I_mul, I_div, I_em, I_eq0, I_lt0, I_0lt, I_le0, I_0le, I_eq, I_lt, I_le, I_a1, I_r1, I_eq1, I32_at, I32_s, Int.toNat_natCast, List.set_cons_zero, reduceCtorEq, not_false_eq_true, not_true_eq_false, false_and, true_and, and_true, and_false, false_or, true_or, or_true, or_false, if_true, if_false, eq_self, ↓reduceIte, Int.reduceEq, Int.reduceLT, Int.reduceLE, Int.reduceAdd, Int.reduceSub, Int.reduceMul, Int.reduceNeg, Int.reduceToNat, Nat.reduceLT, Nat.reduceAdd, Nat.reduceEqDiff, List.length_cons, List.length_nil]
        by_cases cl : ld nb ns shut k p i = 0
        · rw [if_pos cl, stay (Or.inr (decide_eq_false (fun q => by omega)))]
          simp (disch := omega) only [r82_155, r82_158, sw_ldi, sw_ldl, sw_lda, sw_has1, sw_i1, sw_i2, sw_l1, sw_l2, sw_li, sw_r1, sw_ri, sw_rix, sw_rv, sw_pop, sw_set1, sw_set2, List.set_cons_zero, List.set_cons_succ, List.getElem?_cons_zero, List.getElem?_cons_succ, ald_1, ald_2, ast_1, ast_2, aln_1, aln_2, gf_1, gf_2, pf_1, pf_2, nw_1, ck_0, ck_1, ck_2, ck_3, ck_4, rr_1, rc_1, rc_2, K_i, K_l, K_v, I_add, I_sub, I_mul, I_div, I_em, I_eq0, I_lt0, I_0lt, I_le0, I_0le, I_eq, I_lt, I_le, I_a1, I_r1, I_eq1, I32_at, I32_s, Int.toNat_natCast, List.set_cons_zero, reduceCtorEq, not_false_eq_true, not_true_eq_false, false_and, true_and, and_true, and_false, false_or, true_or, or_true, or_false, if_true, if_false, eq_self, ↓reduceIte, Int.reduceEq, Int.reduceLT, Int.reduceLE, Int.reduceAdd, Int.reduceSub, Int.reduceMul, Int.reduceNeg, Int.reduceToNat, Nat.reduceLT, Nat.reduceAdd, Nat.reduceEqDiff, List.length_cons, List.length_nil]
          rfl
        · have e2 : gr1 (leb nb ns shut k p wo) z i = wb2 z (lo i) (hi i) := if_pos ⟨c, decide_eq_true ⟨cw, by omega⟩⟩
          rw [if_neg cl, e2]
          simp (disch := omega) only [r82_141, r82_143, r82_144, r82_146, r82_147, r82_148, r82_150, r82_151, r82_152, r82_153, r82_155, r82_158, sw_ldi, sw_ldl, sw_lda, sw_has1, sw_i1, sw_i2, sw_l1, sw_l2, sw_li, sw_r1, sw_ri, sw_rix, sw_rv, sw_pop, sw_set1, sw_set2, List.set_cons_zero, List.set_cons_succ, List.getElem?_cons_zero, List.getElem?_cons_succ, ald_1, ald_2, ast_1, ast_2, aln_1, aln_2, gf_1, gf_2, pf_1, pf_2, nw_1, ck_0, ck_1, ck_2, ck_3, ck_4, rr_1, rc_1, rc_2, K_i, K_l, K_v, I_add, I_sub, I_mul, I_div, I_em, I_eq0, I_lt0, I_0lt, I_le0, I_0le, I_eq, I_lt, I_le, I_a1, I_r1, I_eq1, I32_at, I32_s, Int.toNat_natCast, List.set_cons_zero, reduceCtorEq, not_false_eq_true, not_true_eq_false, false_and, true_and, and_true, and_false, false_or, true_or, or_true, or_false, if_true, if_false, eq_self, ↓reduceIte, Int.reduceEq, Int.reduceLT, Int.reduceLE, Int.reduceAdd, Int.reduceSub, Int.reduceMul, Int.reduceNeg, Int.reduceToNat, Nat.reduceLT, Nat.reduceAdd, Nat.reduceEqDiff, List.length_cons, List.length_nil]
          unfold wb2
          rw [← l1, ← l2]
          rfl
theorem m82_t {wo : Int} {a was : Int64} (w0 : -1 ≤ wo) (w1 : wo < 60) (hb0 : H.1 rb = .inr (0, 60, I32 nb)) (hs0 : H.1 rs = .inr (0, 36, I32 ns)) (nb1 : ∀ i, i < 60 → 0 ≤ nb i ∧ nb i < 1000) (ns1 : ∀ i, i < 36 → 0 ≤ ns i ∧ ns i < 1000) (k0 : 0 ≤ k) (k1 : k ≤ 2) (p0 : -1 ≤ p) (p1 : p ≤ 1000) (hw : ¬ was = a) (x y z : Option Value) : ∃ x2 y2 z2 : Option Value, sw_A 82 66 [some (.ref rb), some (.ref rs), some (.long shut), none, some (.int (Int32.ofInt k)), some (.int (Int32.ofInt p)), some (.long frm), none, some (.int (Int32.ofInt wo)), some (.long a), none, some (.long was), none, x, y, z] [] H Q = sw_A 82 66 [some (.ref rb), some (.ref rs), some (.long shut), none, some (.int (Int32.ofInt k)), some (.int (Int32.ofInt p)), some (.long frm), none, some (.int (Int32.ofInt wo)), some (.long (grp (leb nb ns shut k p wo) a 60)), none, some (.long a), none, x2, y2, z2] [] H Q := by
  obtain ⟨y2, z2, g⟩ := m82_p (H := H) (Q := Q) (frm := frm) (shut := shut) (a := a) (was := a) w0 w1 hb0 hs0 nb1 ns1 k0 k1 p0 p1 60 0 y z (by omega)
  refine ⟨some (.int (Int32.ofInt 60)), y2, z2, Eq.trans ?_ g⟩
  have e : ¬ lg_cmp was a = 0 := fun q => hw ((lg_0 _ _).mp q)
  rw [r82_66]
  simp (disch := omega) only [r82_68, r82_70, sw_ldi, sw_ldl, sw_lda, sw_has1, sw_i1, sw_i2, sw_l1, sw_l2, sw_li, sw_r1, sw_ri, sw_rix, sw_rv, sw_pop, sw_set1, sw_set2, List.set_cons_zero, List.set_cons_succ, List.getElem?_cons_zero, List.getElem?_cons_succ, ald_1, ald_2, ast_1, ast_2, aln_1, aln_2, gf_1, gf_2, pf_1, pf_2, nw_1, ck_0, ck_1, ck_2, ck_3, ck_4, rr_1, rc_1, rc_2, K_i, K_l, K_v, I_add, I_sub, I_mul, I_div, I_em, I_eq0, I_lt0, I_0lt, I_le0, I_0le, I_eq, I_lt, I_le, I_a1, I_r1, I_eq1, I32_at, I32_s, Int.toNat_natCast, List.set_cons_zero, reduceCtorEq, not_false_eq_true, not_true_eq_false, false_and, true_and, and_true, and_false, false_or, true_or, or_true, or_false, if_true, if_false, eq_self, ↓reduceIte, Int.reduceEq, Int.reduceLT, Int.reduceLE, Int.reduceAdd, Int.reduceSub, Int.reduceMul, Int.reduceNeg, Int.reduceToNat, Nat.reduceLT, Nat.reduceAdd, Nat.reduceEqDiff, List.length_cons, List.length_nil]
  rw [r82_71]
  simp only [sw_i1]
  rw [if_neg e]
  simp (disch := omega) only [r82_74, r82_76, r82_78, r82_79, sw_ldi, sw_ldl, sw_lda, sw_has1, sw_i1, sw_i2, sw_l1, sw_l2, sw_li, sw_r1, sw_ri, sw_rix, sw_rv, sw_pop, sw_set1, sw_set2, List.set_cons_zero, List.set_cons_succ, List.getElem?_cons_zero, List.getElem?_cons_succ, ald_1, ald_2, ast_1, ast_2, aln_1, aln_2, gf_1, gf_2, pf_1, pf_2, nw_1, ck_0, ck_1, ck_2, ck_3, ck_4, rr_1, rc_1, rc_2, K_i, K_l, K_v, I_add, I_sub, I_mul, I_div, I_em, I_eq0, I_lt0, I_0lt, I_le0, I_0le, I_eq, I_lt, I_le, I_a1, I_r1, I_eq1, I32_at, I32_s, Int.toNat_natCast, List.set_cons_zero, reduceCtorEq, not_false_eq_true, not_true_eq_false, false_and, true_and, and_true, and_false, false_or, true_or, or_true, or_false, if_true, if_false, eq_self, ↓reduceIte, Int.reduceEq, Int.reduceLT, Int.reduceLE, Int.reduceAdd, Int.reduceSub, Int.reduceMul, Int.reduceNeg, Int.reduceToNat, Nat.reduceLT, Nat.reduceAdd, Nat.reduceEqDiff, List.length_cons, List.length_nil]
  rfl
theorem m82_e {wo : Int} {a : Int64} (x y z : Option Value) : sw_A 82 66 [some (.ref rb), some (.ref rs), some (.long shut), none, some (.int (Int32.ofInt k)), some (.int (Int32.ofInt p)), some (.long frm), none, some (.int (Int32.ofInt wo)), some (.long a), none, some (.long a), none, x, y, z] [] H Q = Q (some (some (.long a))) H := by
  rw [r82_66]
  simp (disch := omega) only [r82_68, r82_70, r82_71, r82_164, r82_166, sw_ldi, sw_ldl, sw_lda, sw_has1, sw_i1, sw_i2, sw_l1, sw_l2, sw_li, sw_r1, sw_ri, sw_rix, sw_rv, sw_pop, sw_set1, sw_set2, List.set_cons_zero, List.set_cons_succ, List.getElem?_cons_zero, List.getElem?_cons_succ, ald_1, ald_2, ast_1, ast_2, aln_1, aln_2, gf_1, gf_2, pf_1, pf_2, nw_1, ck_0, ck_1, ck_2, ck_3, ck_4, rr_1, rc_1, rc_2, K_i, K_l, K_v, I_add, I_sub, I_mul, I_div, I_em, I_eq0, I_lt0, I_0lt, I_le0, I_0le, I_eq, I_lt, I_le, I_a1, I_r1, I_eq1, I32_at, I32_s, Int.toNat_natCast, List.set_cons_zero, reduceCtorEq, not_false_eq_true, not_true_eq_false, false_and, true_and, and_true, and_false, false_or, true_or, or_true, or_false, if_true, if_false, eq_self, ↓reduceIte, Int.reduceEq, Int.reduceLT, Int.reduceLE, Int.reduceAdd, Int.reduceSub, Int.reduceMul, Int.reduceNeg, Int.reduceToNat, Nat.reduceLT, Nat.reduceAdd, Nat.reduceEqDiff, List.length_cons, List.length_nil]
  rw [if_pos ((lg_0 _ _).mpr rfl)]
theorem m82_l {wo : Int} (w0 : -1 ≤ wo) (w1 : wo < 60) (hb0 : H.1 rb = .inr (0, 60, I32 nb)) (hs0 : H.1 rs = .inr (0, 36, I32 ns)) (nb1 : ∀ i, i < 60 → 0 ≤ nb i ∧ nb i < 1000) (ns1 : ∀ i, i < 36 → 0 ≤ ns i ∧ ns i < 1000) (k0 : 0 ≤ k) (k1 : k ≤ 2) (p0 : -1 ≤ p) (p1 : p ≤ 1000) : ∀ (n : Nat) (a was : Int64) (x y z : Option Value), 36 - sm (fun k => bi (hb a k)) 36 ≤ n → ¬ was = a → ∃ r, Gr (leb nb ns shut k p wo) a r ∧ sw_A 82 66 [some (.ref rb), some (.ref rs), some (.long shut), none, some (.int (Int32.ofInt k)), some (.int (Int32.ofInt p)), some (.long frm), none, some (.int (Int32.ofInt wo)), some (.long a), none, some (.long was), none, x, y, z] [] H Q = Q (some (some (.long r))) H := by
  intro n
  induction n with
  | zero =>
    intro a was x y z hn hw
    by_cases e : grp (leb nb ns shut k p wo) a 60 = a
    · obtain ⟨x2, y2, z2, g⟩ := m82_t (H := H) (Q := Q) (frm := frm) (shut := shut) w0 w1 hb0 hs0 nb1 ns1 k0 k1 p0 p1 hw x y z
      rw [e] at g
      exact ⟨a, ⟨fun i h64 h => h, fun b hb2 h1 => grp_closed e hb2 h1, fun P h0 _ => h0⟩, g.trans (m82_e x2 y2 z2)⟩
    · have h1 := grp_lt e
      have h2 := sm_b (g := fun j => bi (hb (grp (leb nb ns shut k p wo) a 60) j)) 36 fun i _ => bi_b _
      omega
  | succ n ih =>
    intro a was x y z hn hw
    obtain ⟨x2, y2, z2, g⟩ := m82_t (H := H) (Q := Q) (frm := frm) (shut := shut) w0 w1 hb0 hs0 nb1 ns1 k0 k1 p0 p1 hw x y z
    by_cases e : grp (leb nb ns shut k p wo) a 60 = a
    · rw [e] at g
      exact ⟨a, ⟨fun i h64 h => h, fun b hb2 h1 => grp_closed e hb2 h1, fun P h0 _ => h0⟩, g.trans (m82_e x2 y2 z2)⟩
    · have h1 := grp_lt e
      obtain ⟨r, ⟨g1, g2, g3⟩, g4⟩ := ih (grp (leb nb ns shut k p wo) a 60) a x2 y2 z2 (by omega) (fun q => e q.symm)
      refine ⟨r, ⟨fun i h64 h => g1 i h64 ?_, g2, fun P h0 hs i h64 h => g3 P (fun j hj q => grp_in h0 hs 60 (Nat.le_refl _) j hj q) hs i h64 h⟩, g.trans g4⟩
      have := grp_mono (le := leb nb ns shut k p wo) (a := a) 0 60 i (by omega) h64 h
      rwa [Nat.zero_add] at this
/-- grown -/
theorem m82 {wo : Int} (w0 : -1 ≤ wo) (w1 : wo < 60) (hb0 : H.1 rb = .inr (0, 60, I32 nb)) (hs0 : H.1 rs = .inr (0, 36, I32 ns)) (nb1 : ∀ i, i < 60 → 0 ≤ nb i ∧ nb i < 1000) (ns1 : ∀ i, i < 36 → 0 ≤ ns i ∧ ns i < 1000) (k0 : 0 ≤ k) (k1 : k ≤ 2) (p0 : -1 ≤ p) (p1 : p ≤ 1000) : ∃ r, Gr (leb nb ns shut k p wo) (gs shut frm ns k p 36) r ∧ sw_M 82 [.ref rb, .ref rs, .long shut, .int (Int32.ofInt k), .int (Int32.ofInt p), .long frm, .int (Int32.ofInt wo)] H Q = Q (some (some (.long r))) H := by
  have b := sm_b (g := fun j => bi (hb (gs shut frm ns k p 36) j)) 36 fun i _ => bi_b _
  obtain ⟨r, g1, g2⟩ := m82_l (H := H) (Q := Q) (frm := frm) (shut := shut) w0 w1 hb0 hs0 nb1 ns1 k0 k1 p0 p1 36 (gs shut frm ns k p 36) (Int64.ofInt (-1)) none none none (by omega) (fun q => by
    have h := (gs_v (sh := shut) (frm := frm) (ns := ns) (k := k) (p := p) 36 (Nat.le_refl _) 63 (by omega)).mp (by rw [← q]; exact hb_m1 63 (by omega))
    omega)
  refine ⟨r, g1, Eq.trans ?_ g2⟩
  have q := m82_s (H := H) (Q := Q) (rb := rb) (frm := frm) (shut := shut) (wo := wo) hs0 ns1 k0 k1 p0 p1 36 0 (by omega)
  rw [e82]
  simp (disch := omega) only [r82_0, r82_1, r82_3, r82_4, sw_ldi, sw_ldl, sw_lda, sw_has1, sw_i1, sw_i2, sw_l1, sw_l2, sw_li, sw_r1, sw_ri, sw_rix, sw_rv, sw_pop, sw_set1, sw_set2, List.set_cons_zero, List.set_cons_succ, List.getElem?_cons_zero, List.getElem?_cons_succ, ald_1, ald_2, ast_1, ast_2, aln_1, aln_2, gf_1, gf_2, pf_1, pf_2, nw_1, ck_0, ck_1, ck_2, ck_3, ck_4, rr_1, rc_1, rc_2, K_i, K_l, K_v, I_add, I_sub, I_mul, I_div, I_em, I_eq0, I_lt0, I_0lt, I_le0, I_0le, I_eq, I_lt, I_le, I_a1, I_r1, I_eq1, I32_at, I32_s, Int.toNat_natCast, List.set_cons_zero, reduceCtorEq, not_false_eq_true, not_true_eq_false, false_and, true_and, and_true, and_false, false_or, true_or, or_true, or_false, if_true, if_false, eq_self, ↓reduceIte, Int.reduceEq, Int.reduceLT, Int.reduceLE, Int.reduceAdd, Int.reduceSub, Int.reduceMul, Int.reduceNeg, Int.reduceToNat, Nat.reduceLT, Nat.reduceAdd, Nat.reduceEqDiff, List.length_cons, List.length_nil]
  refine Eq.trans q ?_
  simp (disch := omega) only [r82_61, r82_64, sw_ldi, sw_ldl, sw_lda, sw_has1, sw_i1, sw_i2, sw_l1, sw_l2, sw_li, sw_r1, sw_ri, sw_rix, sw_rv, sw_pop, sw_set1, sw_set2, List.set_cons_zero, List.set_cons_succ, List.getElem?_cons_zero, List.getElem?_cons_succ, ald_1, ald_2, ast_1, ast_2, aln_1, aln_2, gf_1, gf_2, pf_1, pf_2, nw_1, ck_0, ck_1, ck_2, ck_3, ck_4, rr_1, rc_1, rc_2, K_i, K_l, K_v, I_add, I_sub, I_mul, I_div, I_em, I_eq0, I_lt0, I_0lt, I_le0, I_0le, I_eq, I_lt, I_le, I_a1, I_r1, I_eq1, I32_at, I32_s, Int.toNat_natCast, List.set_cons_zero, reduceCtorEq, not_false_eq_true, not_true_eq_false, false_and, true_and, and_true, and_false, false_or, true_or, or_true, or_false, if_true, if_false, eq_self, ↓reduceIte, Int.reduceEq, Int.reduceLT, Int.reduceLE, Int.reduceAdd, Int.reduceSub, Int.reduceMul, Int.reduceNeg, Int.reduceToNat, Nat.reduceLT, Nat.reduceAdd, Nat.reduceEqDiff, List.length_cons, List.length_nil]
end sw_s4
