/-! pushing -/
def NXT (P : Nat → Prop) (r : Int) : Prop := (r = -1 ∧ ∀ t, t < 36 → ¬ P t) ∨ ∃ s : Nat, r = (s : Int) ∧ s < 36 ∧ P s ∧ ∀ t, t < s → ¬ P t
theorem NXT_u {P R : Nat → Prop} {r q : Int} (e : ∀ t, t < 36 → (P t ↔ R t)) (h : NXT P r) (g : NXT R q) : r = q := by
  rcases h with ⟨h1, h2⟩ | ⟨s, h1, h2, h3, h4⟩ <;> rcases g with ⟨g1, g2⟩ | ⟨t, g1, g2, g3, g4⟩
  · omega
  · exact absurd ((e t g2).mpr g3) (h2 t g2)
  · exact absurd ((e s h2).mp h3) (g2 s h2)
  · have : s = t := by
      apply Classical.byContradiction
      intro ne
      by_cases l : s < t
      · exact g4 s l ((e s h2).mp h3)
      · exact h4 t (by omega) ((e t g2).mpr g3)
    omega
noncomputable def lsP (P : Nat → Prop) : Nat → Int
  | 0 => -1
  | n + 1 => if lsP P n = -1 then @ite Int (P n) (Classical.propDecidable _) (n : Int) (-1) else lsP P n
theorem lsP_v {P : Nat → Prop} : ∀ n, (lsP P n = -1 ∧ ∀ t, t < n → ¬ P t) ∨ ∃ s : Nat, lsP P n = (s : Int) ∧ s < n ∧ P s ∧ ∀ t, t < s → ¬ P t
  | 0 => Or.inl ⟨rfl, fun t ht => absurd ht (Nat.not_lt_zero _)⟩
  | n + 1 => by
    unfold lsP
    rcases lsP_v (P := P) n with ⟨h1, h2⟩ | ⟨s, h1, h2, h3⟩
    · rw [if_pos h1]
      by_cases c : P n
      · rw [if_pos c]
        exact Or.inr ⟨n, rfl, by omega, c, h2⟩
      · rw [if_neg c]
        refine Or.inl ⟨rfl, fun t ht => ?_⟩
        by_cases e : t = n
        · rw [e]; exact c
        · exact h2 t (by omega)
    · rw [if_neg (by omega)]
      exact Or.inr ⟨s, h1, by omega, h3⟩
theorem lsP_N (P : Nat → Prop) : NXT P (lsP P 36) := lsP_v 36
/-- a site whose content is pushed out -/
def CD (sh ns : Nat → Int) (pr iso : Int) (oil : Nat → Int) (s : Nat) : Prop := HG sh oil s ∧ ¬ oil s = iso ∧ (ns s < pr ↔ iso = 1) ∧ (f_os s (hom iso) = 1 ∨ ∃ t, t < 36 ∧ Nb s t ∧ HG sh oil t ∧ oil t = iso)
theorem HG_c {sh sh2 oil oil2 : Nat → Int} (h1 : ∀ t, t < 36 → sh t = sh2 t) (h2 : ∀ t, t < 36 → oil t = oil2 t) {t : Nat} (h : HG sh oil t) (ht : t < 36) : HG sh2 oil2 t := by
  have := h (fun u => u < 36 ∧ HG sh2 oil2 u) (fun s hs q => ⟨hs, HG_0 hs ⟨by rw [← h1 s hs]; exact q.1, by rw [← h2 s hs]; exact q.2⟩⟩) (fun s u hs hu p nb h0 e => ⟨hu, HG_s hs hu p.2 nb (by rw [← h1 u hu]; exact h0) (by rw [← h2 u hu, ← h2 s hs]; exact e)⟩)
  exact this.2
theorem CD_c {sh sh2 ns ns2 oil oil2 : Nat → Int} {pr iso : Int} (h1 : ∀ t, t < 36 → sh t = sh2 t) (h2 : ∀ t, t < 36 → oil t = oil2 t) (h3 : ∀ t, t < 36 → ns t = ns2 t) {s : Nat} (hs : s < 36) : CD sh ns pr iso oil s ↔ CD sh2 ns2 pr iso oil2 s := by
  unfold CD
  rw [h2 s hs, h3 s hs]
  constructor
  · rintro ⟨a1, a2, a3, a4⟩
    refine ⟨HG_c h1 h2 a1 hs, a2, a3, ?_⟩
    rcases a4 with a4 | ⟨t, t1, t2, t3, t4⟩
    · exact Or.inl a4
    · exact Or.inr ⟨t, t1, t2, HG_c h1 h2 t3 t1, by rw [← h2 t t1]; exact t4⟩
  · rintro ⟨a1, a2, a3, a4⟩
    refine ⟨HG_c (fun t ht => (h1 t ht).symm) (fun t ht => (h2 t ht).symm) a1 hs, a2, a3, ?_⟩
    rcases a4 with a4 | ⟨t, t1, t2, t3, t4⟩
    · exact Or.inl a4
    · exact Or.inr ⟨t, t1, t2, HG_c (fun t ht => (h1 t ht).symm) (fun t ht => (h2 t ht).symm) t3 t1, by rw [h2 t t1]; exact t4⟩
noncomputable def psq (sh ns : Nat → Int) (pr iso : Int) (o : Nat → Int) : Nat → Nat → Int
  | 0 => o
  | n + 1 => if lsP (CD sh ns pr iso (psq sh ns pr iso o n)) 36 = -1 then psq sh ns pr iso o n else sw_s (psq sh ns pr iso o n) (lsP (CD sh ns pr iso (psq sh ns pr iso o n)) 36).toNat iso
theorem psq_b {sh ns : Nat → Int} {pr iso : Int} {o : Nat → Int} (hi9 : iso = 0 ∨ iso = 1) (h : B01 o) : ∀ n, B01 (psq sh ns pr iso o n)
  | 0 => h
  | n + 1 => by
    have ih := psq_b (sh := sh) (ns := ns) (pr := pr) hi9 h n
    unfold psq
    split
    · exact ih
    · intro t ht
      unfold sw_s
      split
      · exact hi9
      · exact ih t ht
theorem psq_st {sh ns : Nat → Int} {pr iso : Int} {o : Nat → Int} {n : Nat} (h : lsP (CD sh ns pr iso (psq sh ns pr iso o n)) 36 = -1) : ∀ d, psq sh ns pr iso o (n + d) = psq sh ns pr iso o n
  | 0 => rfl
  | d + 1 => by
    have ih := psq_st h d
    have e : psq sh ns pr iso o ((n + d) + 1) = if lsP (CD sh ns pr iso (psq sh ns pr iso o (n + d))) 36 = -1 then psq sh ns pr iso o (n + d) else sw_s (psq sh ns pr iso o (n + d)) (lsP (CD sh ns pr iso (psq sh ns pr iso o (n + d))) 36).toNat iso := rfl
    have h2 : lsP (CD sh ns pr iso (psq sh ns pr iso o (n + d))) 36 = -1 := by rw [ih]; exact h
    rw [if_pos h2] at e
    exact e.trans ih
/-- how many differ -/
def dfc (iso : Int) (o : Nat → Int) : Int := sm (fun t => if o t = iso then 0 else 1) 36
theorem dfc_b (iso : Int) (o : Nat → Int) : 0 ≤ dfc iso o ∧ dfc iso o ≤ 36 := sm_b 36 fun t _ => by split <;> omega
theorem dfc_s {iso : Int} {o : Nat → Int} {s : Nat} (hs : s < 36) (h : ¬ o s = iso) : dfc iso (sw_s o s iso) = dfc iso o - 1 := by
  unfold dfc
  have e : sm (fun t => if sw_s o s iso t = iso then 0 else 1) 36 = sm (sw_s (fun t => if o t = iso then 0 else 1) s 0) 36 := sm_c 36 fun t _ => by
    unfold sw_s
    by_cases c : t = s
    · rw [if_pos c, if_pos c, if_pos rfl]
    · rw [if_neg c, if_neg c]
  rw [e, sm_s, if_pos hs, if_neg h]
  omega
theorem psq_n {sh ns : Nat → Int} {pr iso : Int} {o : Nat → Int} : ∀ n, (∀ i, i < n → ¬ lsP (CD sh ns pr iso (psq sh ns pr iso o i)) 36 = -1) → dfc iso (psq sh ns pr iso o n) ≤ 36 - n
  | 0, _ => by
    have := dfc_b iso (psq sh ns pr iso o 0)
    omega
  | n + 1, h => by
    have ih := psq_n (sh := sh) (ns := ns) (pr := pr) (iso := iso) (o := o) n fun i hi2 => h i (by omega)
    have hn := h n (by omega)
    rcases lsP_N (CD sh ns pr iso (psq sh ns pr iso o n)) with ⟨e, -⟩ | ⟨s, e, s1, s2, -⟩
    · exact absurd e hn
    · have e2 : psq sh ns pr iso o (n + 1) = sw_s (psq sh ns pr iso o n) s iso := by
        show (if _ then _ else _) = _
        rw [if_neg hn, e, Int.toNat_natCast]
      rw [e2, dfc_s s1 s2.2.1]
      omega
theorem psq_36 {sh ns : Nat → Int} {pr iso : Int} {o : Nat → Int} {n : Nat} (h36 : 36 ≤ n) (h : ∀ i, i < n → ¬ lsP (CD sh ns pr iso (psq sh ns pr iso o i)) 36 = -1) : lsP (CD sh ns pr iso (psq sh ns pr iso o n)) 36 = -1 := by
  have := psq_n n h
  rcases lsP_N (CD sh ns pr iso (psq sh ns pr iso o n)) with ⟨e, -⟩ | ⟨s, e, s1, s2, -⟩
  · exact e
  · have d := dfc_s s1 s2.2.1
    have := dfc_b iso (sw_s (psq sh ns pr iso o n) s iso)
    omega
section sw_pu
variable {L : Nat} {A : Nat → Nat → Int} {F : Nat → Int} {T : Nat → sw_Ce} {X : Nat × Nat × Nat} {Q : sw_Ot → sw_HS → Prop}
theorem m73_l (h9 : B01 (A 9)) (ho : B01 (A 48)) : ∀ (n h z : Nat) (hg q : Nat → Int) (x y w : Option Value), h + n = 36 → HQ (A 9) (A 48) hg q z h 0 → ∃ (hg2 q2 : Nat → Int) (h2 z2 : Nat), HD (A 9) (A 48) hg2 ∧ sw_A 73 73 [some (.ref 47), some (.ref 9), some (.int (Int32.ofInt h)), x, y, w] [] (hZ L A F T X hg q h z) Q = Q (some none) (hZ L A F T X hg2 q2 h2 z2)
  | n, h, z, hg, q, x, y, w, hn, b => by
    have bz := HQ_z b
    have hz := b.2.2.2.2.1
    have f15 : sw_s (sw_s F 15 (h : Int)) 16 (z : Int) 15 = h := rfl
    have f16 : sw_s (sw_s F 15 (h : Int)) 16 (z : Int) 16 = z := rfl
    have a51 : sw_s (sw_s A 49 hg) 51 q 51 = q := rfl
    by_cases c : h < z
    · match n, hn with
      | 0, hn => omega
      | n + 1, hn =>
        have qh := b.2.1 h c
        have mm := m52_50 (L := L) (A := sw_s (sw_s A 49 hg) 51 q) (F := sw_s (sw_s F 15 (h : Int)) 16 (z : Int)) (T := T) (X := X) (Q := sw_K 73 86 none [some (.ref 47), some (.ref 9), some (.int (Int32.ofInt h)), x, y, w] [] Q) (by rw [f16]; omega) (by rw [f15]; omega) (by rw [f15, f16]; omega)
        rw [f15, a51, Int.toNat_natCast] at mm
        obtain ⟨hg1, q1, z1, x1, y1, g1, g2, g3⟩ := m73_d (L := L) (F := F) (T := T) (X := X) (Q := Q) h9 ho (s := q h) 4 z 0 hg q w (by omega) (by omega) c rfl b
        obtain ⟨hg2, q2, h2, z2, k1, k2⟩ := m73_l h9 ho n (h + 1) z1 hg1 q1 (some (.int (Int32.ofInt (q h)))) x1 y1 (by omega) (HQ_nx g1 g2)
        refine ⟨hg2, q2, h2, z2, k1, Eq.trans ?_ (Eq.trans g3 k2)⟩
        unfold hZ
        rw [r73_73]
        simp (disch := omega) only [r73_74, r73_76, r73_79, r73_80, r73_83, sw_ldi, sw_ldl, sw_lda, sw_has1, sw_i1, sw_i2, sw_l1, sw_l2, sw_li, sw_r1, sw_ri, sw_rix, sw_rv, sw_pop, sw_set1, sw_set2, List.set_cons_zero, List.set_cons_succ, List.getElem?_cons_zero, List.getElem?_cons_succ, ald_1, ald_2, ast_1, ast_2, aln_1, aln_2, gf_1, gf_2, pf_1, pf_2, nw_1, ck_0, ck_1, ck_2, ck_3, ck_4, rr_1, rc_1, rc_2, K_i, K_l, K_v, I_add, I_sub, I_mul, I_div, I_em, I_eq0, I_lt0, I_0lt, I_le0, I_0le, I_eq, I_lt, I_le, I_a1, I_r1, I_eq1, I32_at, I32_s, Int.toNat_natCast, List.set_cons_zero, reduceCtorEq, not_false_eq_true, not_true_eq_false, false_and, true_and, and_true, and_false, false_or, true_or, or_true, or_false, if_true, if_false, eq_self, ↓reduceIte, Int.reduceEq, Int.reduceLT, Int.reduceLE, Int.reduceAdd, Int.reduceSub, Int.reduceMul, Int.reduceNeg, Int.reduceToNat, Nat.reduceLT, Nat.reduceAdd, Nat.reduceEqDiff, List.length_cons, List.length_nil, h_47, h_50]
        rw [if_neg (by omega), mm]
        simp (disch := omega) only [r73_86, r73_87, r73_88, r73_89, sw_ldi, sw_ldl, sw_lda, sw_has1, sw_i1, sw_i2, sw_l1, sw_l2, sw_li, sw_r1, sw_ri, sw_rix, sw_rv, sw_pop, sw_set1, sw_set2, List.set_cons_zero, List.set_cons_succ, List.getElem?_cons_zero, List.getElem?_cons_succ, ald_1, ald_2, ast_1, ast_2, aln_1, aln_2, gf_1, gf_2, pf_1, pf_2, nw_1, ck_0, ck_1, ck_2, ck_3, ck_4, rr_1, rc_1, rc_2, K_i, K_l, K_v, I_add, I_sub, I_mul, I_div, I_em, I_eq0, I_lt0, I_0lt, I_le0, I_0le, I_eq, I_lt, I_le, I_a1, I_r1, I_eq1, I32_at, I32_s, Int.toNat_natCast, List.set_cons_zero, reduceCtorEq, not_false_eq_true, not_true_eq_false, false_and, true_and, and_true, and_false, false_or, true_or, or_true, or_false, if_true, if_false, eq_self, ↓reduceIte, Int.reduceEq, Int.reduceLT, Int.reduceLE, Int.reduceAdd, Int.reduceSub, Int.reduceMul, Int.reduceNeg, Int.reduceToNat, Nat.reduceLT, Nat.reduceAdd, Nat.reduceEqDiff, List.length_cons, List.length_nil, sA_at, ss, sA_cm]
        rw [if_pos (by omega)]
        simp (disch := omega) only [r73_95, r73_96, sw_ldi, sw_ldl, sw_lda, sw_has1, sw_i1, sw_i2, sw_l1, sw_l2, sw_li, sw_r1, sw_ri, sw_rix, sw_rv, sw_pop, sw_set1, sw_set2, List.set_cons_zero, List.set_cons_succ, List.getElem?_cons_zero, List.getElem?_cons_succ, ald_1, ald_2, ast_1, ast_2, aln_1, aln_2, gf_1, gf_2, pf_1, pf_2, nw_1, ck_0, ck_1, ck_2, ck_3, ck_4, rr_1, rc_1, rc_2, K_i, K_l, K_v, I_add, I_sub, I_mul, I_div, I_em, I_eq0, I_lt0, I_0lt, I_le0, I_0le, I_eq, I_lt, I_le, I_a1, I_r1, I_eq1, I32_at, I32_s, Int.toNat_natCast, List.set_cons_zero, reduceCtorEq, not_false_eq_true, not_true_eq_false, false_and, true_and, and_true, and_false, false_or, true_or, or_true, or_false, if_true, if_false, eq_self, ↓reduceIte, Int.reduceEq, Int.reduceLT, Int.reduceLE, Int.reduceAdd, Int.reduceSub, Int.reduceMul, Int.reduceNeg, Int.reduceToNat, Nat.reduceLT, Nat.reduceAdd, Nat.reduceEqDiff, List.length_cons, List.length_nil]
    · have e : h = z := by omega
      subst e
      have mm := m52_50_e (L := L) (A := sw_s (sw_s A 49 hg) 51 q) (F := sw_s (sw_s F 15 (h : Int)) 16 (h : Int)) (T := T) (X := X) (Q := sw_K 73 86 none [some (.ref 47), some (.ref 9), some (.int (Int32.ofInt h)), x, y, w] [] Q) (by rw [f16]; omega) (by rw [f16]; omega) (by rw [f15]; omega) (by rw [f15, f16]; omega)
      refine ⟨hg, q, h, h, HQ_D b, ?_⟩
      by_cases c36 : h = 36
      · subst c36
        unfold hZ
        rw [r73_73]
        simp (disch := omega) only [r73_74, r73_76, r73_180, sw_ldi, sw_ldl, sw_lda, sw_has1, sw_i1, sw_i2, sw_l1, sw_l2, sw_li, sw_r1, sw_ri, sw_rix, sw_rv, sw_pop, sw_set1, sw_set2, List.set_cons_zero, List.set_cons_succ, List.getElem?_cons_zero, List.getElem?_cons_succ, ald_1, ald_2, ast_1, ast_2, aln_1, aln_2, gf_1, gf_2, pf_1, pf_2, nw_1, ck_0, ck_1, ck_2, ck_3, ck_4, rr_1, rc_1, rc_2, K_i, K_l, K_v, I_add, I_sub, I_mul, I_div, I_em, I_eq0, I_lt0, I_0lt, I_le0, I_0le, I_eq, I_lt, I_le, I_a1, I_r1, I_eq1, I32_at, I32_s, Int.toNat_natCast, List.set_cons_zero, reduceCtorEq, not_false_eq_true, not_true_eq_false, false_and, true_and, and_true, and_false, false_or, true_or, or_true, or_false, if_true, if_false, eq_self, ↓reduceIte, Int.reduceEq, Int.reduceLT, Int.reduceLE, Int.reduceAdd, Int.reduceSub, Int.reduceMul, Int.reduceNeg, Int.reduceToNat, Nat.reduceLT, Nat.reduceAdd, Nat.reduceEqDiff, List.length_cons, List.length_nil, sA_at, ss, sA_cm, Int.le_refl]
        rw [if_pos (by omega)]
      · unfold hZ
        rw [r73_73]
        simp (disch := omega) only [r73_74, r73_76, r73_79, r73_80, r73_83, sw_ldi, sw_ldl, sw_lda, sw_has1, sw_i1, sw_i2, sw_l1, sw_l2, sw_li, sw_r1, sw_ri, sw_rix, sw_rv, sw_pop, sw_set1, sw_set2, List.set_cons_zero, List.set_cons_succ, List.getElem?_cons_zero, List.getElem?_cons_succ, ald_1, ald_2, ast_1, ast_2, aln_1, aln_2, gf_1, gf_2, pf_1, pf_2, nw_1, ck_0, ck_1, ck_2, ck_3, ck_4, rr_1, rc_1, rc_2, K_i, K_l, K_v, I_add, I_sub, I_mul, I_div, I_em, I_eq0, I_lt0, I_0lt, I_le0, I_0le, I_eq, I_lt, I_le, I_a1, I_r1, I_eq1, I32_at, I32_s, Int.toNat_natCast, List.set_cons_zero, reduceCtorEq, not_false_eq_true, not_true_eq_false, false_and, true_and, and_true, and_false, false_or, true_or, or_true, or_false, if_true, if_false, eq_self, ↓reduceIte, Int.reduceEq, Int.reduceLT, Int.reduceLE, Int.reduceAdd, Int.reduceSub, Int.reduceMul, Int.reduceNeg, Int.reduceToNat, Nat.reduceLT, Nat.reduceAdd, Nat.reduceEqDiff, List.length_cons, List.length_nil, h_47, h_50]
        rw [if_neg (by omega), mm]
        simp (disch := omega) only [r73_86, r73_87, r73_88, r73_89, r73_92, r73_180, sw_ldi, sw_ldl, sw_lda, sw_has1, sw_i1, sw_i2, sw_l1, sw_l2, sw_li, sw_r1, sw_ri, sw_rix, sw_rv, sw_pop, sw_set1, sw_set2, List.set_cons_zero, List.set_cons_succ, List.getElem?_cons_zero, List.getElem?_cons_succ, ald_1, ald_2, ast_1, ast_2, aln_1, aln_2, gf_1, gf_2, pf_1, pf_2, nw_1, ck_0, ck_1, ck_2, ck_3, ck_4, rr_1, rc_1, rc_2, K_i, K_l, K_v, I_add, I_sub, I_mul, I_div, I_em, I_eq0, I_lt0, I_0lt, I_le0, I_0le, I_eq, I_lt, I_le, I_a1, I_r1, I_eq1, I32_at, I32_s, Int.toNat_natCast, List.set_cons_zero, reduceCtorEq, not_false_eq_true, not_true_eq_false, false_and, true_and, and_true, and_false, false_or, true_or, or_true, or_false, if_true, if_false, eq_self, ↓reduceIte, Int.reduceEq, Int.reduceLT, Int.reduceLE, Int.reduceAdd, Int.reduceSub, Int.reduceMul, Int.reduceNeg, Int.reduceToNat, Nat.reduceLT, Nat.reduceAdd, Nat.reduceEqDiff, List.length_cons, List.length_nil, sA_at, ss, sA_cm]
/-- findHanging -/
theorem m73 (h9 : B01 (A 9)) (ho : B01 (A 48)) : ∃ (hg q : Nat → Int) (h z : Nat), HD (A 9) (A 48) hg ∧ sw_M 73 [.ref 47, .ref 9] (sw_h L A F T X) Q = Q (some none) (hZ L A F T X hg q h z) := by
  have i1 : hZ L A F T X (A 49) (A 51) 0 ((0 : Nat) : Int) = sw_h L A (sw_s (sw_s F 15 0) 16 0) T X := by
    unfold hZ
    rw [sA_id, sA_id]
    rfl
  obtain ⟨hg1, q1, z1, g1, g2⟩ := m73_s (L := L) (F := F) (T := T) (X := X) (Q := Q) h9 ho 36 0 0 (A 49) (A 51) (by omega) ⟨fun t ht => absurd ht (Nat.not_lt_zero _), fun j hj => absurd hj (Nat.not_lt_zero _), fun t ht => absurd ht (Nat.not_lt_zero _), rfl⟩
  obtain ⟨hg, q, h, z, k1, k2⟩ := m73_l (L := L) (F := F) (T := T) (X := X) (Q := Q) h9 ho 36 0 z1 hg1 q1 none none none (by omega) (HS_Q g1)
  refine ⟨hg, q, h, z, k1, ?_⟩
  rw [i1] at g2
  rw [e73]
  simp (disch := omega) only [r73_0, r73_1, r73_4, r73_7, r73_8, sw_ldi, sw_ldl, sw_lda, sw_has1, sw_i1, sw_i2, sw_l1, sw_l2, sw_li, sw_r1, sw_ri, sw_rix, sw_rv, sw_pop, sw_set1, sw_set2, List.set_cons_zero, List.set_cons_succ, List.getElem?_cons_zero, List.getElem?_cons_succ, ald_1, ald_2, ast_1, ast_2, aln_1, aln_2, gf_1, gf_2, pf_1, pf_2, nw_1, ck_0, ck_1, ck_2, ck_3, ck_4, rr_1, rc_1, rc_2, K_i, K_l, K_v, I_add, I_sub, I_mul, I_div, I_em, I_eq0, I_lt0, I_0lt, I_le0, I_0le, I_eq, I_lt, I_le, I_a1, I_r1, I_eq1, I32_at, I32_s, Int.toNat_natCast, List.set_cons_zero, reduceCtorEq, not_false_eq_true, not_true_eq_false, false_and, true_and, and_true, and_false, false_or, true_or, or_true, or_false, if_true, if_false, eq_self, ↓reduceIte, Int.reduceEq, Int.reduceLT, Int.reduceLE, Int.reduceAdd, Int.reduceSub, Int.reduceMul, Int.reduceNeg, Int.reduceToNat, Nat.reduceLT, Nat.reduceAdd, Nat.reduceEqDiff, List.length_cons, List.length_nil, h_47, h_50, m49_50]
  refine Eq.trans g2 ?_
  simp (disch := omega) only [r73_71, r73_72, sw_ldi, sw_ldl, sw_lda, sw_has1, sw_i1, sw_i2, sw_l1, sw_l2, sw_li, sw_r1, sw_ri, sw_rix, sw_rv, sw_pop, sw_set1, sw_set2, List.set_cons_zero, List.set_cons_succ, List.getElem?_cons_zero, List.getElem?_cons_succ, ald_1, ald_2, ast_1, ast_2, aln_1, aln_2, gf_1, gf_2, pf_1, pf_2, nw_1, ck_0, ck_1, ck_2, ck_3, ck_4, rr_1, rc_1, rc_2, K_i, K_l, K_v, I_add, I_sub, I_mul, I_div, I_em, I_eq0, I_lt0, I_0lt, I_le0, I_0le, I_eq, I_lt, I_le, I_a1, I_r1, I_eq1, I32_at, I32_s, Int.toNat_natCast, List.set_cons_zero, reduceCtorEq, not_false_eq_true, not_true_eq_false, false_and, true_and, and_true, and_false, false_or, true_or, or_true, or_false, if_true, if_false, eq_self, ↓reduceIte, Int.reduceEq, Int.reduceLT, Int.reduceLE, Int.reduceAdd, Int.reduceSub, Int.reduceMul, Int.reduceNeg, Int.reduceToNat, Nat.reduceLT, Nat.reduceAdd, Nat.reduceEqDiff, List.length_cons, List.length_nil]
  exact k2
def prs (hg oil : Nat → Int) (iso : Int) (s : Nat) : Prop := f_os s (hom iso) = 1 ∨ ∃ d : Int, 0 ≤ d ∧ d < 4 ∧ ¬ f_sb s d = -1 ∧ hg (f_sb s d).toNat = 1 ∧ oil (f_sb s d).toNat = iso
theorem m74_l {iso : Int} {s : Nat} (hg9 : B01 (A 49)) (ho : B01 (A 48)) (hi9 : iso = 0 ∨ iso = 1) (hs : s < 36) (h0 : ¬ f_os s (hom iso) = 1) : ∀ (n : Nat) (d : Int) (x : Option Value), d + n = 4 → 0 ≤ d → (∀ e : Int, 0 ≤ e → e < d → ¬ (¬ f_sb s e = -1 ∧ A 49 (f_sb s e).toNat = 1 ∧ A 48 (f_sb s e).toNat = iso)) → (prs (A 49) (A 48) iso s → sw_A 74 15 [some (.ref 47), some (.int (Int32.ofInt s)), some (.int (Int32.ofInt iso)), some (.int (Int32.ofInt d)), x] [] (sw_h L A F T X) Q = Q (some (some (.int (Int32.ofInt 1)))) (sw_h L A F T X)) ∧ (¬ prs (A 49) (A 48) iso s → sw_A 74 15 [some (.ref 47), some (.int (Int32.ofInt s)), some (.int (Int32.ofInt iso)), some (.int (Int32.ofInt d)), x] [] (sw_h L A F T X) Q = Q (some (some (.int (Int32.ofInt 0)))) (sw_h L A F T X))
  | 0, d, x, hn, d0, hp => by
    have e : d = 4 := by omega
    subst e
    refine ⟨fun p => ?_, fun _ => ?_⟩
    · rcases p with p | ⟨d, d0, d9, p⟩
      · exact absurd p h0
      · exact absurd p (hp d d0 d9)
    · rw [r74_15]
      simp (disch := omega) only [r74_16, r74_17, r74_62, r74_63, sw_ldi, sw_ldl, sw_lda, sw_has1, sw_i1, sw_i2, sw_l1, sw_l2, sw_li, sw_r1, sw_ri, sw_rix, sw_rv, sw_pop, sw_set1, sw_set2, List.set_cons_zero, List.set_cons_succ, List.getElem?_cons_zero, List.getElem?_cons_succ, ald_1, ald_2, ast_1, ast_2, aln_1, aln_2, gf_1, gf_2, pf_1, pf_2, nw_1, ck_0, ck_1, ck_2, ck_3, ck_4, rr_1, rc_1, rc_2, K_i, K_l, K_v, I_add, I_sub, I_mul, I_div, I_em, I_eq0, I_lt0, I_0lt, I_le0, I_0le, I_eq, I_lt, I_le, I_a1, I_r1, I_eq1, I32_at, I32_s, Int.toNat_natCast, List.set_cons_zero, reduceCtorEq, not_false_eq_true, not_true_eq_false, false_and, true_and, and_true, and_false, false_or, true_or, or_true, or_false, if_true, if_false, eq_self, ↓reduceIte, Int.reduceEq, Int.reduceLT, Int.reduceLE, Int.reduceAdd, Int.reduceSub, Int.reduceMul, Int.reduceNeg, Int.reduceToNat, Nat.reduceLT, Nat.reduceAdd, Nat.reduceEqDiff, List.length_cons, List.length_nil, Int.le_refl]
  | n + 1, d, x, hn, d0, hp => by
    have d9 : d < 4 := by omega
    have sb := f_sb_b (s := s) (by omega) (by omega) d0 d9
    have ih := fun y q => m74_l hg9 ho hi9 hs h0 n (d + 1) y (by omega) (by omega) q
    by_cases c : ¬ f_sb s d = -1 ∧ A 49 (f_sb s d).toNat = 1 ∧ A 48 (f_sb s d).toNat = iso
    · refine ⟨fun _ => ?_, fun p => absurd (Or.inr ⟨d, d0, d9, c⟩) p⟩
      obtain ⟨c1, c2, c3⟩ := c
      rw [r74_15]
      simp (disch := omega) only [r74_16, r74_17, r74_20, r74_21, r74_22, r74_25, r74_27, r74_29, r74_30, sw_ldi, sw_ldl, sw_lda, sw_has1, sw_i1, sw_i2, sw_l1, sw_l2, sw_li, sw_r1, sw_ri, sw_rix, sw_rv, sw_pop, sw_set1, sw_set2, List.set_cons_zero, List.set_cons_succ, List.getElem?_cons_zero, List.getElem?_cons_succ, ald_1, ald_2, ast_1, ast_2, aln_1, aln_2, gf_1, gf_2, pf_1, pf_2, nw_1, ck_0, ck_1, ck_2, ck_3, ck_4, rr_1, rc_1, rc_2, K_i, K_l, K_v, I_add, I_sub, I_mul, I_div, I_em, I_eq0, I_lt0, I_0lt, I_le0, I_0le, I_eq, I_lt, I_le, I_a1, I_r1, I_eq1, I32_at, I32_s, Int.toNat_natCast, List.set_cons_zero, reduceCtorEq, not_false_eq_true, not_true_eq_false, false_and, true_and, and_true, and_false, false_or, true_or, or_true, or_false, if_true, if_false, eq_self, ↓reduceIte, Int.reduceEq, Int.reduceLT, Int.reduceLE, Int.reduceAdd, Int.reduceSub, Int.reduceMul, Int.reduceNeg, Int.reduceToNat, Nat.reduceLT, Nat.reduceAdd, Nat.reduceEqDiff, List.length_cons, List.length_nil, m32]
      rw [if_neg (by omega), if_neg c1]
      simp (disch := omega) only [r74_33, r74_34, r74_37, r74_39, r74_40, sw_ldi, sw_ldl, sw_lda, sw_has1, sw_i1, sw_i2, sw_l1, sw_l2, sw_li, sw_r1, sw_ri, sw_rix, sw_rv, sw_pop, sw_set1, sw_set2, List.set_cons_zero, List.set_cons_succ, List.getElem?_cons_zero, List.getElem?_cons_succ, ald_1, ald_2, ast_1, ast_2, aln_1, aln_2, gf_1, gf_2, pf_1, pf_2, nw_1, ck_0, ck_1, ck_2, ck_3, ck_4, rr_1, rc_1, rc_2, K_i, K_l, K_v, I_add, I_sub, I_mul, I_div, I_em, I_eq0, I_lt0, I_0lt, I_le0, I_0le, I_eq, I_lt, I_le, I_a1, I_r1, I_eq1, I32_at, I32_s, Int.toNat_natCast, List.set_cons_zero, reduceCtorEq, not_false_eq_true, not_true_eq_false, false_and, true_and, and_true, and_false, false_or, true_or, or_true, or_false, if_true, if_false, eq_self, ↓reduceIte, Int.reduceEq, Int.reduceLT, Int.reduceLE, Int.reduceAdd, Int.reduceSub, Int.reduceMul, Int.reduceNeg, Int.reduceToNat, Nat.reduceLT, Nat.reduceAdd, Nat.reduceEqDiff, List.length_cons, List.length_nil, h_47, h_49, c2]
      simp (disch := omega) only [r74_43, r74_44, r74_47, r74_49, r74_50, r74_51, r74_54, r74_55, sw_ldi, sw_ldl, sw_lda, sw_has1, sw_i1, sw_i2, sw_l1, sw_l2, sw_li, sw_r1, sw_ri, sw_rix, sw_rv, sw_pop, sw_set1, sw_set2, List.set_cons_zero, List.set_cons_succ, List.getElem?_cons_zero, List.getElem?_cons_succ, ald_1, ald_2, ast_1, ast_2, aln_1, aln_2, gf_1, gf_2, pf_1, pf_2, nw_1, ck_0, ck_1, ck_2, ck_3, ck_4, rr_1, rc_1, rc_2, K_i, K_l, K_v, I_add, I_sub, I_mul, I_div, I_em, I_eq0, I_lt0, I_0lt, I_le0, I_0le, I_eq, I_lt, I_le, I_a1, I_r1, I_eq1, I32_at, I32_s, Int.toNat_natCast, List.set_cons_zero, reduceCtorEq, not_false_eq_true, not_true_eq_false, false_and, true_and, and_true, and_false, false_or, true_or, or_true, or_false, if_true, if_false, eq_self, ↓reduceIte, Int.reduceEq, Int.reduceLT, Int.reduceLE, Int.reduceAdd, Int.reduceSub, Int.reduceMul, Int.reduceNeg, Int.reduceToNat, Nat.reduceLT, Nat.reduceAdd, Nat.reduceEqDiff, List.length_cons, List.length_nil, h_47, h_48, c3]
    · have hp2 : ∀ e : Int, 0 ≤ e → e < d + 1 → ¬ (¬ f_sb s e = -1 ∧ A 49 (f_sb s e).toNat = 1 ∧ A 48 (f_sb s e).toNat = iso) := fun e e0 e9 => by
        by_cases z : e = d
        · rw [z]; exact c
        · exact hp e e0 (by omega)
      have go : sw_A 74 15 [some (.ref 47), some (.int (Int32.ofInt s)), some (.int (Int32.ofInt iso)), some (.int (Int32.ofInt d)), x] [] (sw_h L A F T X) Q = sw_A 74 15 [some (.ref 47), some (.int (Int32.ofInt s)), some (.int (Int32.ofInt iso)), some (.int (Int32.ofInt (d + 1))), some (.int (Int32.ofInt (f_sb s d)))] [] (sw_h L A F T X) Q := by
        rw [r74_15]
        simp (disch := omega) only [r74_16, r74_17, r74_20, r74_21, r74_22, r74_25, r74_27, r74_29, r74_30, sw_ldi, sw_ldl, sw_lda, sw_has1, sw_i1, sw_i2, sw_l1, sw_l2, sw_li, sw_r1, sw_ri, sw_rix, sw_rv, sw_pop, sw_set1, sw_set2, List.set_cons_zero, List.set_cons_succ, List.getElem?_cons_zero, List.getElem?_cons_succ, ald_1, ald_2, ast_1, ast_2, aln_1, aln_2, gf_1, gf_2, pf_1, pf_2, nw_1, ck_0, ck_1, ck_2, ck_3, ck_4, rr_1, rc_1, rc_2, K_i, K_l, K_v, I_add, I_sub, I_mul, I_div, I_em, I_eq0, I_lt0, I_0lt, I_le0, I_0le, I_eq, I_lt, I_le, I_a1, I_r1, I_eq1, I32_at, I32_s, Int.toNat_natCast, List.set_cons_zero, reduceCtorEq, not_false_eq_true, not_true_eq_false, false_and, true_and, and_true, and_false, false_or, true_or, or_true, or_false, if_true, if_false, eq_self, ↓reduceIte, Int.reduceEq, Int.reduceLT, Int.reduceLE, Int.reduceAdd, Int.reduceSub, Int.reduceMul, Int.reduceNeg, Int.reduceToNat, Nat.reduceLT, Nat.reduceAdd, Nat.reduceEqDiff, List.length_cons, List.length_nil, m32]
        rw [if_neg (by omega)]
        by_cases c1 : f_sb s d = -1
        · rw [if_pos c1]
          simp (disch := omega) only [r74_56, r74_59, sw_ldi, sw_ldl, sw_lda, sw_has1, sw_i1, sw_i2, sw_l1, sw_l2, sw_li, sw_r1, sw_ri, sw_rix, sw_rv, sw_pop, sw_set1, sw_set2, List.set_cons_zero, List.set_cons_succ, List.getElem?_cons_zero, List.getElem?_cons_succ, ald_1, ald_2, ast_1, ast_2, aln_1, aln_2, gf_1, gf_2, pf_1, pf_2, nw_1, ck_0, ck_1, ck_2, ck_3, ck_4, rr_1, rc_1, rc_2, K_i, K_l, K_v, I_add, I_sub, I_mul, I_div, I_em, I_eq0, I_lt0, I_0lt, I_le0, I_0le, I_eq, I_lt, I_le, I_a1, I_r1, I_eq1, I32_at, I32_s, Int.toNat_natCast, List.set_cons_zero, reduceCtorEq, not_false_eq_true, not_true_eq_false, false_and, true_and, and_true, and_false, false_or, true_or, or_true, or_false, if_true, if_false, eq_self, ↓reduceIte, Int.reduceEq, Int.reduceLT, Int.reduceLE, Int.reduceAdd, Int.reduceSub, Int.reduceMul, Int.reduceNeg, Int.reduceToNat, Nat.reduceLT, Nat.reduceAdd, Nat.reduceEqDiff, List.length_cons, List.length_nil]
        · have r1 := hg9 (f_sb s d).toNat (by omega)
          have r2 := ho (f_sb s d).toNat (by omega)
          rw [if_neg c1]
          simp (disch := omega) only [r74_33, r74_34, r74_37, r74_39, r74_40, sw_ldi, sw_ldl, sw_lda, sw_has1, sw_i1, sw_i2, sw_l1, sw_l2, sw_li, sw_r1, sw_ri, sw_rix, sw_rv, sw_pop, sw_set1, sw_set2, List.set_cons_zero, List.set_cons_succ, List.getElem?_cons_zero, List.getElem?_cons_succ, ald_1, ald_2, ast_1, ast_2, aln_1, aln_2, gf_1, gf_2, pf_1, pf_2, nw_1, ck_0, ck_1, ck_2, ck_3, ck_4, rr_1, rc_1, rc_2, K_i, K_l, K_v, I_add, I_sub, I_mul, I_div, I_em, I_eq0, I_lt0, I_0lt, I_le0, I_0le, I_eq, I_lt, I_le, I_a1, I_r1, I_eq1, I32_at, I32_s, Int.toNat_natCast, List.set_cons_zero, reduceCtorEq, not_false_eq_true, not_true_eq_false, false_and, true_and, and_true, and_false, false_or, true_or, or_true, or_false, if_true, if_false, eq_self, ↓reduceIte, Int.reduceEq, Int.reduceLT, Int.reduceLE, Int.reduceAdd, Int.reduceSub, Int.reduceMul, Int.reduceNeg, Int.reduceToNat, Nat.reduceLT, Nat.reduceAdd, Nat.reduceEqDiff, List.length_cons, List.length_nil, h_47, h_49]
          by_cases c2 : A 49 (f_sb s d).toNat = 0
          · rw [if_pos c2]
            simp (disch := omega) only [r74_56, r74_59, sw_ldi, sw_ldl, sw_lda, sw_has1, sw_i1, sw_i2, sw_l1, sw_l2, sw_li, sw_r1, sw_ri, sw_rix, sw_rv, sw_pop, sw_set1, sw_set2, List.set_cons_zero, List.set_cons_succ, List.getElem?_cons_zero, List.getElem?_cons_succ, ald_1, ald_2, ast_1, ast_2, aln_1, aln_2, gf_1, gf_2, pf_1, pf_2, nw_1, ck_0, ck_1, ck_2, ck_3, ck_4, rr_1, rc_1, rc_2, K_i, K_l, K_v, I_add, I_sub, I_mul, I_div, I_em, I_eq0, I_lt0, I_0lt, I_le0, I_0le, I_eq, I_lt, I_le, I_a1, I_r1, I_eq1, I32_at, I32_s, Int.toNat_natCast, List.set_cons_zero, reduceCtorEq, not_false_eq_true, not_true_eq_false, false_and, true_and, and_true, and_false, false_or, true_or, or_true, or_false, if_true, if_false, eq_self, ↓reduceIte, Int.reduceEq, Int.reduceLT, Int.reduceLE, Int.reduceAdd, Int.reduceSub, Int.reduceMul, Int.reduceNeg, Int.reduceToNat, Nat.reduceLT, Nat.reduceAdd, Nat.reduceEqDiff, List.length_cons, List.length_nil]
          · have c3 : ¬ A 48 (f_sb s d).toNat = iso := fun q => c ⟨c1, by omega, q⟩
            rw [if_neg c2]
            simp (disch := omega) only [r74_43, r74_44, r74_47, r74_49, r74_50, r74_51, sw_ldi, sw_ldl, sw_lda, sw_has1, sw_i1, sw_i2, sw_l1, sw_l2, sw_li, sw_r1, sw_ri, sw_rix, sw_rv, sw_pop, sw_set1, sw_set2, List.set_cons_zero, List.set_cons_succ, List.getElem?_cons_zero, List.getElem?_cons_succ, ald_1, ald_2, ast_1, ast_2, aln_1, aln_2, gf_1, gf_2, pf_1, pf_2, nw_1, ck_0, ck_1, ck_2, ck_3, ck_4, rr_1, rc_1, rc_2, K_i, K_l, K_v, I_add, I_sub, I_mul, I_div, I_em, I_eq0, I_lt0, I_0lt, I_le0, I_0le, I_eq, I_lt, I_le, I_a1, I_r1, I_eq1, I32_at, I32_s, Int.toNat_natCast, List.set_cons_zero, reduceCtorEq, not_false_eq_true, not_true_eq_false, false_and, true_and, and_true, and_false, false_or, true_or, or_true, or_false, if_true, if_false, eq_self, ↓reduceIte, Int.reduceEq, Int.reduceLT, Int.reduceLE, Int.reduceAdd, Int.reduceSub, Int.reduceMul, Int.reduceNeg, Int.reduceToNat, Nat.reduceLT, Nat.reduceAdd, Nat.reduceEqDiff, List.length_cons, List.length_nil, h_47, h_48]
            rw [if_pos c3]
            simp (disch := omega) only [r74_56, r74_59, sw_ldi, sw_ldl, sw_lda, sw_has1, sw_i1, sw_i2, sw_l1, sw_l2, sw_li, sw_r1, sw_ri, sw_rix, sw_rv, sw_pop, sw_set1, sw_set2, List.set_cons_zero, List.set_cons_succ, List.getElem?_cons_zero, List.getElem?_cons_succ, ald_1, ald_2, ast_1, ast_2, aln_1, aln_2, gf_1, gf_2, pf_1, pf_2, nw_1, ck_0, ck_1, ck_2, ck_3, ck_4, rr_1, rc_1, rc_2, K_i, K_l, K_v, I_add, I_sub, I_mul, I_div, I_em, I_eq0, I_lt0, I_0lt, I_le0, I_0le, I_eq, I_lt, I_le, I_a1, I_r1, I_eq1, I32_at, I32_s, Int.toNat_natCast, List.set_cons_zero, reduceCtorEq, not_false_eq_true, not_true_eq_false, false_and, true_and, and_true, and_false, false_or, true_or, or_true, or_false, if_true, if_false, eq_self, ↓reduceIte, Int.reduceEq, Int.reduceLT, Int.reduceLE, Int.reduceAdd, Int.reduceSub, Int.reduceMul, Int.reduceNeg, Int.reduceToNat, Nat.reduceLT, Nat.reduceAdd, Nat.reduceEqDiff, List.length_cons, List.length_nil]
      rw [go]
      exact ih _ hp2
/-- isPressed -/
theorem m74 {iso : Int} {s : Nat} (hg9 : B01 (A 49)) (ho : B01 (A 48)) (hi9 : iso = 0 ∨ iso = 1) (hs : s < 36) : (prs (A 49) (A 48) iso s → sw_M 74 [.ref 47, .int (Int32.ofInt s), .int (Int32.ofInt iso)] (sw_h L A F T X) Q = Q (some (some (.int (Int32.ofInt 1)))) (sw_h L A F T X)) ∧ (¬ prs (A 49) (A 48) iso s → sw_M 74 [.ref 47, .int (Int32.ofInt s), .int (Int32.ofInt iso)] (sw_h L A F T X) Q = Q (some (some (.int (Int32.ofInt 0)))) (sw_h L A F T X)) := by
  have hb9 := hom_b iso
  have fo := f_os_b s (hom iso)
  have mh := fun (Q : sw_Ot → sw_HS → Prop) (H : sw_HS) => m71 (H := H) (Q := Q) iso hi9
  rw [show (if iso = 0 then (2 : Int) else 1) = hom iso from rfl] at mh
  by_cases c : f_os s (hom iso) = 1
  · refine ⟨fun _ => ?_, fun p => absurd (Or.inl c) p⟩
    rw [e74]
    simp (disch := omega) only [r74_0, r74_1, r74_2, r74_5, r74_8, r74_11, r74_12, sw_ldi, sw_ldl, sw_lda, sw_has1, sw_i1, sw_i2, sw_l1, sw_l2, sw_li, sw_r1, sw_ri, sw_rix, sw_rv, sw_pop, sw_set1, sw_set2, List.set_cons_zero, List.set_cons_succ, List.getElem?_cons_zero, List.getElem?_cons_succ, ald_1, ald_2, ast_1, ast_2, aln_1, aln_2, gf_1, gf_2, pf_1, pf_2, nw_1, ck_0, ck_1, ck_2, ck_3, ck_4, rr_1, rc_1, rc_2, K_i, K_l, K_v, I_add, I_sub, I_mul, I_div, I_em, I_eq0, I_lt0, I_0lt, I_le0, I_0le, I_eq, I_lt, I_le, I_a1, I_r1, I_eq1, I32_at, I32_s, Int.toNat_natCast, List.set_cons_zero, reduceCtorEq, not_false_eq_true, not_true_eq_false, false_and, true_and, and_true, and_false, false_or, true_or, or_true, or_false, if_true, if_false, eq_self, ↓reduceIte, Int.reduceEq, Int.reduceLT, Int.reduceLE, Int.reduceAdd, Int.reduceSub, Int.reduceMul, Int.reduceNeg, Int.reduceToNat, Nat.reduceLT, Nat.reduceAdd, Nat.reduceEqDiff, List.length_cons, List.length_nil, mh, m72, c]
  · have q := m74_l (L := L) (F := F) (T := T) (X := X) (Q := Q) hg9 ho hi9 hs c 4 0 none (by omega) (by omega) fun e e0 e9 => by omega
    have go : sw_M 74 [.ref 47, .int (Int32.ofInt s), .int (Int32.ofInt iso)] (sw_h L A F T X) Q = sw_A 74 15 [some (.ref 47), some (.int (Int32.ofInt s)), some (.int (Int32.ofInt iso)), some (.int (Int32.ofInt 0)), none] [] (sw_h L A F T X) Q := by
      have c0 : f_os s (hom iso) = 0 := by omega
      rw [e74]
      simp (disch := omega) only [r74_0, r74_1, r74_2, r74_5, r74_8, r74_11, r74_12, r74_13, r74_14, sw_ldi, sw_ldl, sw_lda, sw_has1, sw_i1, sw_i2, sw_l1, sw_l2, sw_li, sw_r1, sw_ri, sw_rix, sw_rv, sw_pop, sw_set1, sw_set2, List.set_cons_zero, List.set_cons_succ, List.getElem?_cons_zero, List.getElem?_cons_succ, ald_1, ald_2, ast_1, ast_2, aln_1, aln_2, gf_1, gf_2, pf_1, pf_2, nw_1, ck_0, ck_1, ck_2, ck_3, ck_4, rr_1, rc_1, rc_2, K_i, K_l, K_v, I_add, I_sub, I_mul, I_div, I_em, I_eq0, I_lt0, I_0lt, I_le0, I_0le, I_eq, I_lt, I_le, I_a1, I_r1, I_eq1, I32_at, I32_s, Int.toNat_natCast, List.set_cons_zero, reduceCtorEq, not_false_eq_true, not_true_eq_false, false_and, true_and, and_true, and_false, false_or, true_or, or_true, or_false, if_true, if_false, eq_self, ↓reduceIte, Int.reduceEq, Int.reduceLT, Int.reduceLE, Int.reduceAdd, Int.reduceSub, Int.reduceMul, Int.reduceNeg, Int.reduceToNat, Nat.reduceLT, Nat.reduceAdd, Nat.reduceEqDiff, List.length_cons, List.length_nil, mh, m72, c0]
    rw [go]
    exact q
end sw_pu
