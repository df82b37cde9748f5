/-! flood -/
def Nb (s t : Nat) : Prop := ∃ d : Int, 0 ≤ d ∧ d < 4 ∧ f_sb s d = t
theorem bi_pos {p : Bool} : 0 < bi p ↔ p = true := by cases p <;> decide
theorem bsd_pos {p : Nat → Bool} {s : Nat} (hs : s < 36) : 0 < bsd p s ↔ ∃ t, t < 36 ∧ Nb s t ∧ p t = true := by
  have h1 := bi_b (p ((s : Int) - 1).toNat)
  have h2 := bi_b (p ((s : Int) + 1).toNat)
  have h3 := bi_b (p ((s : Int) - 6).toNat)
  have h4 := bi_b (p ((s : Int) + 6).toNat)
  constructor
  · intro h
    have key : (0 < (s : Int) % 6 ∧ 0 < bi (p ((s : Int) - 1).toNat)) ∨ ((s : Int) % 6 < 5 ∧ 0 < bi (p ((s : Int) + 1).toNat)) ∨ (5 < (s : Int) ∧ 0 < bi (p ((s : Int) - 6).toNat)) ∨ ((s : Int) < 30 ∧ 0 < bi (p ((s : Int) + 6).toNat)) := by
      unfold bsd at h
      by_cases c1 : 0 < (s : Int) % 6 ∧ 0 < bi (p ((s : Int) - 1).toNat)
      · exact Or.inl c1
      by_cases c2 : (s : Int) % 6 < 5 ∧ 0 < bi (p ((s : Int) + 1).toNat)
      · exact Or.inr (Or.inl c2)
      by_cases c3 : 5 < (s : Int) ∧ 0 < bi (p ((s : Int) - 6).toNat)
      · exact Or.inr (Or.inr (Or.inl c3))
      by_cases c4 : (s : Int) < 30 ∧ 0 < bi (p ((s : Int) + 6).toNat)
      · exact Or.inr (Or.inr (Or.inr c4))
      exfalso
      revert h
      (repeat' split) <;> omega
    rcases key with ⟨c, q⟩ | ⟨c, q⟩ | ⟨c, q⟩ | ⟨c, q⟩
    · exact ⟨((s : Int) - 1).toNat, by omega, ⟨1, by omega, by omega, by rw [f_sb1, if_pos c]; omega⟩, bi_pos.mp q⟩
    · exact ⟨((s : Int) + 1).toNat, by omega, ⟨2, by omega, by omega, by rw [f_sb2, if_pos c]; omega⟩, bi_pos.mp q⟩
    · exact ⟨((s : Int) - 6).toNat, by omega, ⟨0, by omega, by omega, by rw [f_sb0, if_pos (by omega)]; omega⟩, bi_pos.mp q⟩
    · exact ⟨((s : Int) + 6).toNat, by omega, ⟨3, by omega, by omega, by rw [f_sb3, if_pos (by omega)]; omega⟩, bi_pos.mp q⟩
  · rintro ⟨t, ht, ⟨d, d0, d1, d2⟩, hp⟩
    have hd : d = 0 ∨ d = 1 ∨ d = 2 ∨ d = 3 := by omega
    unfold bsd
    rcases hd with rfl | rfl | rfl | rfl
    · rw [f_sb0] at d2
      split at d2
      · have e : ((s : Int) - 6).toNat = t := by omega
        rw [e, hp] at h3
        have : bi (p ((s : Int) - 6).toNat) = 1 := by rw [e, hp]; rfl
        rw [if_pos (show 5 < (s : Int) by omega)]
        (repeat' split) <;> omega
      · omega
    · rw [f_sb1] at d2
      split at d2
      · next c =>
        have e : ((s : Int) - 1).toNat = t := by omega
        have : bi (p ((s : Int) - 1).toNat) = 1 := by rw [e, hp]; rfl
        rw [if_pos c]
        (repeat' split) <;> omega
      · omega
    · rw [f_sb2] at d2
      split at d2
      · next c =>
        have e : ((s : Int) + 1).toNat = t := by omega
        have : bi (p ((s : Int) + 1).toNat) = 1 := by rw [e, hp]; rfl
        rw [if_pos c]
        (repeat' split) <;> omega
      · omega
    · rw [f_sb3] at d2
      split at d2
      · have e : ((s : Int) + 6).toNat = t := by omega
        have : bi (p ((s : Int) + 6).toNat) = 1 := by rw [e, hp]; rfl
        rw [if_pos (show (s : Int) < 30 by omega)]
        (repeat' split) <;> omega
      · omega
/-- a long with one bit more -/
def wb (a : Int64) (s : Nat) : Int64 := a ||| ((1 : Int64) <<< ((Int32.ofInt (s : Nat)).toInt64 &&& 63))
theorem hb_wb (a : Int64) (s i : Nat) (hs : s < 64) (hi : i < 64) : hb (wb a s) i = (hb a i || decide (i = s)) := by unfold wb; rw [hb_or, hb_sh s i hs hi]
def fl1 (set a : Int64) (s : Nat) : Int64 := if hb set s = true ∧ 0 < bsd (hb a) s then wb a s else a
def flp (set : Int64) (a : Int64) : Nat → Int64
  | 0 => a
  | n + 1 => fl1 set (flp set a n) n
theorem fl1_mono {set a : Int64} {s i : Nat} (hs : s < 36) (hi : i < 64) (h : hb a i = true) : hb (fl1 set a s) i = true := by
  unfold fl1
  split
  · rw [hb_wb a s i (by omega) hi, h]; rfl
  · exact h
theorem flp_mono {set a : Int64} : ∀ (n m i : Nat), n + m ≤ 36 → i < 64 → hb (flp set a n) i = true → hb (flp set a (n + m)) i = true
  | _, 0, _, _, _, h => h
  | n, m + 1, i, hn, hi, h => fl1_mono (show n + m < 36 by omega) hi (flp_mono n m i (by omega) hi h)
theorem flp_in {set a : Int64} {P : Nat → Prop} (h0 : ∀ i, i < 64 → hb a i = true → P i) (hs : ∀ s, s < 36 → hb set s = true → (∃ t, t < 36 ∧ Nb s t ∧ P t) → P s) : ∀ n, n ≤ 36 → ∀ i, i < 64 → hb (flp set a n) i = true → P i
  | 0, _, i, hi, h => h0 i hi h
  | n + 1, hn, i, hi, h => by
    have ih := flp_in h0 hs n (by omega)
    have h : hb (fl1 set (flp set a n) n) i = true := h
    unfold fl1 at h
    split at h
    · next c =>
      rw [hb_wb _ n i (by omega) hi, Bool.or_eq_true] at h
      rcases h with h | h
      · exact ih i hi h
      · have e : i = n := of_decide_eq_true h
        subst e
        obtain ⟨t, ht, hn2, ht2⟩ := (bsd_pos (by omega)).mp c.2
        exact hs i (by omega) c.1 ⟨t, ht, hn2, ih t (by omega) ht2⟩
    · exact ih i hi h
theorem flp_closed {set a : Int64} (h : flp set a 36 = a) {s : Nat} (hs : s < 36) (h1 : hb set s = true) (h2 : 0 < bsd (hb a) s) : hb a s = true := by
  have m1 : ∀ i, i < 64 → hb a i = true → hb (flp set a s) i = true := fun i hi q => by
    have := flp_mono (set := set) (a := a) 0 s i (by omega) hi q
    rwa [Nat.zero_add] at this
  have c : 0 < bsd (hb (flp set a s)) s := by
    obtain ⟨t, ht, n, q⟩ := (bsd_pos hs).mp h2
    exact (bsd_pos hs).mpr ⟨t, ht, n, m1 t (by omega) q⟩
  have e : flp set a (s + 1) = wb (flp set a s) s := if_pos ⟨h1, c⟩
  have q : hb (flp set a (s + 1)) s = true := by rw [e, hb_wb _ s s (by omega) (by omega)]; simp
  have := flp_mono (set := set) (a := a) (s + 1) (35 - s) s (by omega) (by omega) q
  rw [show s + 1 + (35 - s) = 36 by omega, h] at this
  exact this
/-- a set of bits that grows has more -/
theorem sm_mono {a b : Int64} (h : ∀ i, i < 36 → hb a i = true → hb b i = true) : ∀ n, n ≤ 36 → sm (fun k => bi (hb a k)) n ≤ sm (fun k => bi (hb b k)) n
  | 0, _ => Int.le_refl _
  | n + 1, hn => by
    have ih := sm_mono h n (by omega)
    have h2 := h n (by omega)
    have h3 := bi_b (hb b n)
    show sm _ n + bi (hb a n) ≤ sm _ n + bi (hb b n)
    cases e : hb a n with
    | false => show sm _ n + 0 ≤ _; omega
    | true => rw [h2 e]; omega
theorem sm_lt {a b : Int64} (h : ∀ i, i < 36 → hb a i = true → hb b i = true) {j : Nat} (h1 : hb a j = false) (h2 : hb b j = true) : ∀ n, n ≤ 36 → j < n → sm (fun k => bi (hb a k)) n < sm (fun k => bi (hb b k)) n
  | 0, _, hj => absurd hj (Nat.not_lt_zero _)
  | n + 1, hn, hj => by
    by_cases e : j = n
    · subst e
      have := sm_mono h j (by omega)
      show sm _ j + bi (hb a j) < sm _ j + bi (hb b j)
      rw [h1, h2]
      show _ + 0 < _ + 1
      omega
    · have ih := sm_lt h h1 h2 n (by omega) (by omega)
      have h3 := h n (by omega)
      have h4 := bi_b (hb b n)
      show sm _ n + bi (hb a n) < sm _ n + bi (hb b n)
      cases e2 : hb a n with
      | false => show sm _ n + 0 < _; omega
      | true => rw [h3 e2]; omega
theorem flp_hi {set a : Int64} : ∀ n, n ≤ 36 → ∀ i, 36 ≤ i → i < 64 → hb (flp set a n) i = hb a i
  | 0, _, _, _, _ => rfl
  | n + 1, hn, i, h1, h2 => by
    have ih := flp_hi (set := set) (a := a) n (by omega) i h1 h2
    show hb (fl1 set (flp set a n) n) i = _
    unfold fl1
    split
    · rw [hb_wb _ n i (by omega) h2, ih, decide_eq_false (by omega), Bool.or_false]
    · exact ih
theorem flp_lt {set a : Int64} (h : ¬ flp set a 36 = a) : sm (fun k => bi (hb a k)) 36 < sm (fun k => bi (hb (flp set a 36) k)) 36 := by
  have m1 : ∀ i, i < 64 → hb a i = true → hb (flp set a 36) i = true := fun i hi q => by
    have := flp_mono (set := set) (a := a) 0 36 i (by omega) hi q
    rwa [Nat.zero_add] at this
  have : ∃ j, j < 36 ∧ hb a j = false ∧ hb (flp set a 36) j = true := Classical.byContradiction fun q => h (hb_ext _ _ fun i hi => by
    by_cases c : i < 36
    · cases e : hb a i with
      | true => exact m1 i hi e
      | false =>
        cases e2 : hb (flp set a 36) i with
        | false => rfl
        | true => exact absurd ⟨i, c, e, e2⟩ q
    · exact flp_hi 36 (Nat.le_refl _) i (by omega) hi)
  obtain ⟨j, hj, q1, q2⟩ := this
  exact sm_lt (fun i hi => m1 i (by omega)) q1 q2 36 (Nat.le_refl _) hj
/-- what flood is: the least set with the start in it that is whole within `set` -/
def Fl (set a r : Int64) : Prop := (∀ i, i < 64 → hb a i = true → hb r i = true) ∧ (∀ s, s < 36 → hb set s = true → (∃ t, t < 36 ∧ Nb s t ∧ hb r t = true) → hb r s = true) ∧ ∀ P : Nat → Prop, (∀ i, i < 64 → hb a i = true → P i) → (∀ s, s < 36 → hb set s = true → (∃ t, t < 36 ∧ Nb s t ∧ P t) → P s) → ∀ i, i < 64 → hb r i = true → P i
section sw_s2
variable {H : sw_HS} {Q : sw_Ot → sw_HS → Prop}
theorem lg_0 (x y : Int64) : (lg_cmp x y = 0) ↔ x = y := by
  unfold lg_cmp
  by_cases e : x = y
  · subst e
    have : ¬ x > x := by rw [gt_iff_lt, Int64.lt_iff_toInt_lt]; omega
    rw [if_neg this, if_pos rfl]
    simp
  · constructor
    · intro h
      split at h
      · exact absurd h (by decide)
      · exact absurd h (by decide)
    · intro h; exact absurd h e
theorem m48_p (set frm a was : Int64) : ∀ (n i : Nat), i + n = 36 → sw_A 48 25 [some (.long set), none, some (.long frm), none, some (.long (flp set a i)), none, some (.long was), none, some (.int (Int32.ofInt i))] [] H Q = sw_A 48 10 [some (.long set), none, some (.long frm), none, some (.long (flp set a 36)), none, some (.long was), none, some (.int (Int32.ofInt 36))] [] H Q
  | 0, i, hn => by
    have e : i = 36 := hn
    subst e
    rw [r48_25]
    simp (disch := omega) only [r48_27, r48_29, r48_66, sw_ldi, sw_ldl, sw_lda, sw_has1, sw_i1, sw_i2, sw_l1, sw_l2, sw_li, sw_r1, sw_ri, sw_rix, sw_rv, sw_pop, sw_set1, sw_set2, List.set_cons_zero, List.set_cons_succ, List.getElem?_cons_zero, List.getElem?_cons_succ, ald_1, ald_2, ast_1, ast_2, aln_1, aln_2, gf_1, gf_2, pf_1, pf_2, nw_1, ck_0, ck_1, ck_2, ck_3, ck_4, rr_1, rc_1, rc_2, K_i, K_l, K_v, I_add, I_sub, I_mul, I_div, I_em, I_eq0, I_lt0, I_0lt, I_le0, I_0le, I_eq, I_lt, I_le, I_a1, I_r1, I_eq1, I32_at, I32_s, Int.toNat_natCast, List.set_cons_zero, reduceCtorEq, not_false_eq_true, not_true_eq_false, false_and, true_and, and_true, and_false, false_or, true_or, or_true, or_false, if_true, if_false, eq_self, ↓reduceIte, Int.reduceEq, Int.reduceLT, Int.reduceLE, Int.reduceAdd, Int.reduceSub, Int.reduceMul, Int.reduceNeg, Int.reduceToNat, Nat.reduceLT, Nat.reduceAdd, Nat.reduceEqDiff, List.length_cons, List.length_nil, Int.le_refl]
    rfl
  | n + 1, i, hn => by
    have ih := m48_p set frm a was n (i + 1) (by omega)
    have e : flp set a (i + 1) = fl1 set (flp set a i) i := rfl
    rw [e] at ih
    have b := bsd_b (hb (flp set a i)) i
    rw [r48_25]
    simp (disch := omega) only [r48_27, r48_29, r48_32, r48_33, r48_35, sw_ldi, sw_ldl, sw_lda, sw_has1, sw_i1, sw_i2, sw_l1, sw_l2, sw_li, sw_r1, sw_ri, sw_rix, sw_rv, sw_pop, sw_set1, sw_set2, List.set_cons_zero, List.set_cons_succ, List.getElem?_cons_zero, List.getElem?_cons_succ, ald_1, ald_2, ast_1, ast_2, aln_1, aln_2, gf_1, gf_2, pf_1, pf_2, nw_1, ck_0, ck_1, ck_2, ck_3, ck_4, rr_1, rc_1, rc_2, K_i, K_l, K_v, I_add, I_sub, I_mul, I_div, I_em, I_eq0, I_lt0, I_0lt, I_le0, I_0le, I_eq, I_lt, I_le, I_a1, I_r1, I_eq1, I32_at, I32_s, Int.toNat_natCast, List.set_cons_zero, reduceCtorEq, not_false_eq_true, not_true_eq_false, false_and, true_and, and_true, and_false, false_or, true_or, or_true, or_false, if_true, if_false, eq_self, ↓reduceIte, Int.reduceEq, Int.reduceLT, Int.reduceLE, Int.reduceAdd, Int.reduceSub, Int.reduceMul, Int.reduceNeg, Int.reduceToNat, Nat.reduceLT, Nat.reduceAdd, Nat.reduceEqDiff, List.length_cons, List.length_nil, m30]
    rw [if_neg (by omega)]
    cases hs : hb set i with
    | false =>
      have e2 : fl1 set (flp set a i) i = flp set a i := if_neg (fun q => by rw [hs] at q; exact Bool.false_ne_true q.1)
      rw [e2] at ih
      simp (disch := omega) only [r48_38, sw_ldi, sw_ldl, sw_lda, sw_has1, sw_i1, sw_i2, sw_l1, sw_l2, sw_li, sw_r1, sw_ri, sw_rix, sw_rv, sw_pop, sw_set1, sw_set2, List.set_cons_zero, List.set_cons_succ, List.getElem?_cons_zero, List.getElem?_cons_succ, ald_1, ald_2, ast_1, ast_2, aln_1, aln_2, gf_1, gf_2, pf_1, pf_2, nw_1, ck_0, ck_1, ck_2, ck_3, ck_4, rr_1, rc_1, rc_2, K_i, K_l, K_v, I_add, I_sub, I_mul, I_div, I_em, I_eq0, I_lt0, I_0lt, I_le0, I_0le, I_eq, I_lt, I_le, I_a1, I_r1, I_eq1, I32_at, I32_s, Int.toNat_natCast, List.set_cons_zero, reduceCtorEq, not_false_eq_true, not_true_eq_false, false_and, true_and, and_true, and_false, false_or, true_or, or_true, or_false, if_true, if_false, eq_self, ↓reduceIte, Int.reduceEq, Int.reduceLT, Int.reduceLE, Int.reduceAdd, Int.reduceSub, Int.reduceMul, Int.reduceNeg, Int.reduceToNat, Nat.reduceLT, Nat.reduceAdd, Nat.reduceEqDiff, List.length_cons, List.length_nil]
      rw [if_pos (show Int32.ofInt (bi false) = 0 from rfl)]
      simp (disch := omega) only [r48_60, r48_63, sw_ldi, sw_ldl, sw_lda, sw_has1, sw_i1, sw_i2, sw_l1, sw_l2, sw_li, sw_r1, sw_ri, sw_rix, sw_rv, sw_pop, sw_set1, sw_set2, List.set_cons_zero, List.set_cons_succ, List.getElem?_cons_zero, List.getElem?_cons_succ, ald_1, ald_2, ast_1, ast_2, aln_1, aln_2, gf_1, gf_2, pf_1, pf_2, nw_1, ck_0, ck_1, ck_2, ck_3, ck_4, rr_1, rc_1, rc_2, K_i, K_l, K_v, I_add, I_sub, I_mul, I_div, I_em, I_eq0, I_lt0, I_0lt, I_le0, I_0le, I_eq, I_lt, I_le, I_a1, I_r1, I_eq1, I32_at, I32_s, Int.toNat_natCast, List.set_cons_zero, reduceCtorEq, not_false_eq_true, not_true_eq_false, false_and, true_and, and_true, and_false, false_or, true_or, or_true, or_false, if_true, if_false, eq_self, ↓reduceIte, Int.reduceEq, Int.reduceLT, Int.reduceLE, Int.reduceAdd, Int.reduceSub, Int.reduceMul, Int.reduceNeg, Int.reduceToNat, Nat.reduceLT, Nat.reduceAdd, Nat.reduceEqDiff, List.length_cons, List.length_nil]
      exact ih
    | true =>
      simp (disch := omega) only [r48_38, r48_41, r48_43, r48_45, r48_48, sw_ldi, sw_ldl, sw_lda, sw_has1, sw_i1, sw_i2, sw_l1, sw_l2, sw_li, sw_r1, sw_ri, sw_rix, sw_rv, sw_pop, sw_set1, sw_set2, List.set_cons_zero, List.set_cons_succ, List.getElem?_cons_zero, List.getElem?_cons_succ, ald_1, ald_2, ast_1, ast_2, aln_1, aln_2, gf_1, gf_2, pf_1, pf_2, nw_1, ck_0, ck_1, ck_2, ck_3, ck_4, rr_1, rc_1, rc_2, K_i, K_l, K_v, I_add, I_sub, I_mul, I_div, I_em, I_eq0, I_lt0, I_0lt, I_le0, I_0le, I_eq, I_lt, I_le, I_a1, I_r1, I_eq1, I32_at, I32_s, Int.toNat_natCast, List.set_cons_zero, reduceCtorEq, not_false_eq_true, not_true_eq_false, false_and, true_and, and_true, and_false, false_or, true_or, or_true, or_false, if_true, if_false, eq_self, ↓reduceIte, Int.reduceEq, Int.reduceLT, Int.reduceLE, Int.reduceAdd, Int.reduceSub, Int.reduceMul, Int.reduceNeg, Int.reduceToNat, Nat.reduceLT, Nat.reduceAdd, Nat.reduceEqDiff, List.length_cons, List.length_nil, m31]
      rw [if_neg (show ¬ Int32.ofInt (bi true) = 0 by decide)]
      by_cases c : 0 < bsd (hb (flp set a i)) i
      · have e2 : fl1 set (flp set a i) i = wb (flp set a i) i := if_pos ⟨hs, c⟩
        rw [e2] at ih
        rw [if_neg (by omega)]
        simp (disch := omega) only [r48_51, r48_53, r48_54, r48_56, r48_57, r48_58, r48_60, r48_63, sw_ldi, sw_ldl, sw_lda, sw_has1, sw_i1, sw_i2, sw_l1, sw_l2, sw_li, sw_r1, sw_ri, sw_rix, sw_rv, sw_pop, sw_set1, sw_set2, List.set_cons_zero, List.set_cons_succ, List.getElem?_cons_zero, List.getElem?_cons_succ, ald_1, ald_2, ast_1, ast_2, aln_1, aln_2, gf_1, gf_2, pf_1, pf_2, nw_1, ck_0, ck_1, ck_2, ck_3, ck_4, rr_1, rc_1, rc_2, K_i, K_l, K_v, I_add, I_sub, I_mul, I_div, I_em, I_eq0, I_lt0, I_0lt, I_le0, I_0le, I_eq, I_lt, I_le, I_a1, I_r1, I_eq1, I32_at, I32_s, Int.toNat_natCast, List.set_cons_zero, reduceCtorEq, not_false_eq_true, not_true_eq_false, false_and, true_and, and_true, and_false, false_or, true_or, or_true, or_false, if_true, if_false, eq_self, ↓reduceIte, Int.reduceEq, Int.reduceLT, Int.reduceLE, Int.reduceAdd, Int.reduceSub, Int.reduceMul, Int.reduceNeg, Int.reduceToNat, Nat.reduceLT, Nat.reduceAdd, Nat.reduceEqDiff, List.length_cons, List.length_nil]
        exact ih
      · have e2 : fl1 set (flp set a i) i = flp set a i := if_neg (fun q => c q.2)
        rw [e2] at ih
        rw [if_pos (by omega)]
        simp (disch := omega) only [r48_60, r48_63, sw_ldi, sw_ldl, sw_lda, sw_has1, sw_i1, sw_i2, sw_l1, sw_l2, sw_li, sw_r1, sw_ri, sw_rix, sw_rv, sw_pop, sw_set1, sw_set2, List.set_cons_zero, List.set_cons_succ, List.getElem?_cons_zero, List.getElem?_cons_succ, ald_1, ald_2, ast_1, ast_2, aln_1, aln_2, gf_1, gf_2, pf_1, pf_2, nw_1, ck_0, ck_1, ck_2, ck_3, ck_4, rr_1, rc_1, rc_2, K_i, K_l, K_v, I_add, I_sub, I_mul, I_div, I_em, I_eq0, I_lt0, I_0lt, I_le0, I_0le, I_eq, I_lt, I_le, I_a1, I_r1, I_eq1, I32_at, I32_s, Int.toNat_natCast, List.set_cons_zero, reduceCtorEq, not_false_eq_true, not_true_eq_false, false_and, true_and, and_true, and_false, false_or, true_or, or_true, or_false, if_true, if_false, eq_self, ↓reduceIte, Int.reduceEq, Int.reduceLT, Int.reduceLE, Int.reduceAdd, Int.reduceSub, Int.reduceMul, Int.reduceNeg, Int.reduceToNat, Nat.reduceLT, Nat.reduceAdd, Nat.reduceEqDiff, List.length_cons, List.length_nil]
        exact ih
theorem m48_t (set frm a was : Int64) (x : Option Value) (hx : ∀ l, ¬ x = some (.long l)) (hx2 : ∀ l, ¬ x = some (.double l)) (hw : ¬ was = a) : sw_A 48 10 [some (.long set), none, some (.long frm), none, some (.long a), none, some (.long was), none, x] [] H Q = sw_A 48 10 [some (.long set), none, some (.long frm), none, some (.long (flp set a 36)), none, some (.long a), none, some (.int (Int32.ofInt 36))] [] H Q := by
  refine Eq.trans ?_ (m48_p set frm a a 36 0 (by omega))
  have e : ¬ lg_cmp was a = 0 := fun q => hw ((lg_0 _ _).mp q)
  rw [r48_10]
  simp (disch := omega) only [r48_12, r48_14, sw_ldi, sw_ldl, sw_lda, sw_has1, sw_i1, sw_i2, sw_l1, sw_l2, sw_li, sw_r1, sw_ri, sw_rix, sw_rv, sw_pop, sw_set1, sw_set2, List.set_cons_zero, List.set_cons_succ, List.getElem?_cons_zero, List.getElem?_cons_succ, ald_1, ald_2, ast_1, ast_2, aln_1, aln_2, gf_1, gf_2, pf_1, pf_2, nw_1, ck_0, ck_1, ck_2, ck_3, ck_4, rr_1, rc_1, rc_2, K_i, K_l, K_v, I_add, I_sub, I_mul, I_div, I_em, I_eq0, I_lt0, I_0lt, I_le0, I_0le, I_eq, I_lt, I_le, I_a1, I_r1, I_eq1, I32_at, I32_s, Int.toNat_natCast, List.set_cons_zero, reduceCtorEq, not_false_eq_true, not_true_eq_false, false_and, true_and, and_true, and_false, false_or, true_or, or_true, or_false, if_true, if_false, eq_self, ↓reduceIte, Int.reduceEq, Int.reduceLT, Int.reduceLE, Int.reduceAdd, Int.reduceSub, Int.reduceMul, Int.reduceNeg, Int.reduceToNat, Nat.reduceLT, Nat.reduceAdd, Nat.reduceEqDiff, List.length_cons, List.length_nil]
  rw [r48_15]
  simp only [sw_i1]
  rw [if_neg e]
  simp (disch := omega) only [r48_18, r48_20, r48_22, r48_23, sw_ldi, sw_ldl, sw_lda, sw_has1, sw_i1, sw_i2, sw_l1, sw_l2, sw_li, sw_r1, sw_ri, sw_rix, sw_rv, sw_pop, sw_set1, sw_set2, List.set_cons_zero, List.set_cons_succ, List.getElem?_cons_zero, List.getElem?_cons_succ, ald_1, ald_2, ast_1, ast_2, aln_1, aln_2, gf_1, gf_2, pf_1, pf_2, nw_1, ck_0, ck_1, ck_2, ck_3, ck_4, rr_1, rc_1, rc_2, K_i, K_l, K_v, I_add, I_sub, I_mul, I_div, I_em, I_eq0, I_lt0, I_0lt, I_le0, I_0le, I_eq, I_lt, I_le, I_a1, I_r1, I_eq1, I32_at, I32_s, Int.toNat_natCast, List.set_cons_zero, reduceCtorEq, not_false_eq_true, not_true_eq_false, false_and, true_and, and_true, and_false, false_or, true_or, or_true, or_false, if_true, if_false, eq_self, ↓reduceIte, Int.reduceEq, Int.reduceLT, Int.reduceLE, Int.reduceAdd, Int.reduceSub, Int.reduceMul, Int.reduceNeg, Int.reduceToNat, Nat.reduceLT, Nat.reduceAdd, Nat.reduceEqDiff, List.length_cons, List.length_nil]
  rfl
theorem m48_l (set frm : Int64) : ∀ (n : Nat) (a was : Int64) (x : Option Value), (∀ l, ¬ x = some (.long l)) → (∀ l, ¬ x = some (.double l)) → 36 - sm (fun k => bi (hb a k)) 36 ≤ n → ¬ was = a → ∃ r, Fl set a r ∧ sw_A 48 10 [some (.long set), none, some (.long frm), none, some (.long a), none, some (.long was), none, x] [] H Q = Q (some (some (.long r))) H := by
  intro n
  induction n with
  | zero =>
    intro a was x hx hx2 hn hw
    by_cases e : flp set a 36 = a
    · refine ⟨a, ⟨fun i hi h => h, fun s hs h1 h2 => flp_closed e hs h1 ((bsd_pos hs).mpr h2), fun P h0 _ => h0⟩, ?_⟩
      rw [m48_t set frm a was x hx hx2 hw, e, r48_10]
      simp (disch := omega) only [r48_12, r48_14, r48_15, r48_69, r48_71, sw_ldi, sw_ldl, sw_lda, sw_has1, sw_i1, sw_i2, sw_l1, sw_l2, sw_li, sw_r1, sw_ri, sw_rix, sw_rv, sw_pop, sw_set1, sw_set2, List.set_cons_zero, List.set_cons_succ, List.getElem?_cons_zero, List.getElem?_cons_succ, ald_1, ald_2, ast_1, ast_2, aln_1, aln_2, gf_1, gf_2, pf_1, pf_2, nw_1, ck_0, ck_1, ck_2, ck_3, ck_4, rr_1, rc_1, rc_2, K_i, K_l, K_v, I_add, I_sub, I_mul, I_div, I_em, I_eq0, I_lt0, I_0lt, I_le0, I_0le, I_eq, I_lt, I_le, I_a1, I_r1, I_eq1, I32_at, I32_s, Int.toNat_natCast, List.set_cons_zero, reduceCtorEq, not_false_eq_true, not_true_eq_false, false_and, true_and, and_true, and_false, false_or, true_or, or_true, or_false, if_true, if_false, eq_self, ↓reduceIte, Int.reduceEq, Int.reduceLT, Int.reduceLE, Int.reduceAdd, Int.reduceSub, Int.reduceMul, Int.reduceNeg, Int.reduceToNat, Nat.reduceLT, Nat.reduceAdd, Nat.reduceEqDiff, List.length_cons, List.length_nil]
      rw [if_pos ((lg_0 _ _).mpr rfl)]
    · have h1 := flp_lt e
      have h2 := sm_b (g := fun k => bi (hb (flp set a 36) k)) 36 fun i _ => bi_b _
      omega
  | succ n ih =>
    intro a was x hx hx2 hn hw
    by_cases e : flp set a 36 = a
    · refine ⟨a, ⟨fun i hi h => h, fun s hs h1 h2 => flp_closed e hs h1 ((bsd_pos hs).mpr h2), fun P h0 _ => h0⟩, ?_⟩
      rw [m48_t set frm a was x hx hx2 hw, e, r48_10]
      simp (disch := omega) only [r48_12, r48_14, r48_15, r48_69, r48_71, sw_ldi, sw_ldl, sw_lda, sw_has1, sw_i1, sw_i2, sw_l1, sw_l2, sw_li, sw_r1, sw_ri, sw_rix, sw_rv, sw_pop, sw_set1, sw_set2, List.set_cons_zero, List.set_cons_succ, List.getElem?_cons_zero, List.getElem?_cons_succ, ald_1, ald_2, ast_1, ast_2, aln_1, aln_2, gf_1, gf_2, pf_1, pf_2, nw_1, ck_0, ck_1, ck_2, ck_3, ck_4, rr_1, rc_1, rc_2, K_i, K_l, K_v, I_add, I_sub, I_mul, I_div, I_em, I_eq0, I_lt0, I_0lt, I_le0, I_0le, I_eq, I_lt, I_le, I_a1, I_r1, I_eq1, I32_at, I32_s, Int.toNat_natCast, List.set_cons_zero, reduceCtorEq, not_false_eq_true, not_true_eq_false, false_and, true_and, and_true, and_false, false_or, true_or, or_true, or_false, if_true, if_false, eq_self, ↓reduceIte, Int.reduceEq, Int.reduceLT, Int.reduceLE, Int.reduceAdd, Int.reduceSub, Int.reduceMul, Int.reduceNeg, Int.reduceToNat, Nat.reduceLT, Nat.reduceAdd, Nat.reduceEqDiff, List.length_cons, List.length_nil]
      rw [if_pos ((lg_0 _ _).mpr rfl)]
    · have h1 := flp_lt e
      obtain ⟨r, ⟨g1, g2, g3⟩, g4⟩ := ih (flp set a 36) a (some (.int (Int32.ofInt 36))) (fun l q => by cases q) (fun l q => by cases q) (by omega) (fun q => e q.symm)
      refine ⟨r, ⟨fun i hi h => g1 i hi ?_, g2, fun P h0 hs i hi h => g3 P (fun j hj q => flp_in h0 hs 36 (Nat.le_refl _) j hj q) hs i hi h⟩, (m48_t set frm a was x hx hx2 hw).trans g4⟩
      have := flp_mono (set := set) (a := a) 0 36 i (by omega) hi h
      rwa [Nat.zero_add] at this
/-- flood -/
theorem m48 (set frm : Int64) (h : hb (set &&& frm) 63 = false) : ∃ r, Fl set (set &&& frm) r ∧ sw_M 48 [.long set, .long frm] H Q = Q (some (some (.long r))) H := by
  have b := sm_b (g := fun k => bi (hb (set &&& frm) k)) 36 fun i _ => bi_b _
  obtain ⟨r, g1, g2⟩ := m48_l (H := H) (Q := Q) set frm 36 (set &&& frm) (Int64.ofInt (-1)) none (fun l q => by cases q) (fun l q => by cases q) (by omega) (fun q => by
    rw [← q, hb_m1 63 (by omega)] at h
    cases h)
  refine ⟨r, g1, Eq.trans ?_ g2⟩
  rw [e48]
  simp (disch := omega) only [r48_0, r48_1, r48_2, r48_3, r48_5, r48_8, sw_ldi, sw_ldl, sw_lda, sw_has1, sw_i1, sw_i2, sw_l1, sw_l2, sw_li, sw_r1, sw_ri, sw_rix, sw_rv, sw_pop, sw_set1, sw_set2, List.set_cons_zero, List.set_cons_succ, List.getElem?_cons_zero, List.getElem?_cons_succ, ald_1, ald_2, ast_1, ast_2, aln_1, aln_2, gf_1, gf_2, pf_1, pf_2, nw_1, ck_0, ck_1, ck_2, ck_3, ck_4, rr_1, rc_1, rc_2, K_i, K_l, K_v, I_add, I_sub, I_mul, I_div, I_em, I_eq0, I_lt0, I_0lt, I_le0, I_0le, I_eq, I_lt, I_le, I_a1, I_r1, I_eq1, I32_at, I32_s, Int.toNat_natCast, List.set_cons_zero, reduceCtorEq, not_false_eq_true, not_true_eq_false, false_and, true_and, and_true, and_false, false_or, true_or, or_true, or_false, if_true, if_false, eq_self, ↓reduceIte, Int.reduceEq, Int.reduceLT, Int.reduceLE, Int.reduceAdd, Int.reduceSub, Int.reduceMul, Int.reduceNeg, Int.reduceToNat, Nat.reduceLT, Nat.reduceAdd, Nat.reduceEqDiff, List.length_cons, List.length_nil]
end sw_s2
