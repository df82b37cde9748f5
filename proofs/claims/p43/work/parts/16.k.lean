/-! what hangs -/
def hom (o : Int) : Int := if o = 0 then 2 else 1
def src (sh oil : Nat → Int) (t : Nat) : Prop := sh t = 0 ∧ f_os t (hom (oil t)) = 1
def HG (sh oil : Nat → Int) (t : Nat) : Prop := ∀ P : Nat → Prop, (∀ s, s < 36 → src sh oil s → P s) → (∀ s u, s < 36 → u < 36 → P s → Nb s u → sh u = 0 → oil u = oil s → P u) → P t
theorem HG_0 {sh oil : Nat → Int} {s : Nat} (hs : s < 36) (h : src sh oil s) : HG sh oil s := fun P p0 _ => p0 s hs h
theorem HG_s {sh oil : Nat → Int} {s u : Nat} (hs : s < 36) (hu : u < 36) (h : HG sh oil s) (nb : Nb s u) (h0 : sh u = 0) (e : oil u = oil s) : HG sh oil u := fun P p0 ps => ps s u hs hu (h P p0 ps) nb h0 e
theorem HG_sh {sh oil : Nat → Int} {t : Nat} (h : HG sh oil t) : sh t = 0 := h (fun u => sh u = 0) (fun s _ q => q.1) fun s u _ _ _ _ q _ => q
def HQ (sh oil hg q : Nat → Int) (z h : Nat) (dd : Int) : Prop := (∀ t, t < 36 → hg t = 0 ∨ hg t = 1) ∧ (∀ j, j < z → 0 ≤ q j ∧ q j < 36 ∧ hg (q j).toNat = 1 ∧ HG sh oil (q j).toNat) ∧ (∀ t, t < 36 → hg t = 1 → ∃ j, j < z ∧ q j = (t : Int)) ∧ sm hg 36 = z ∧ h ≤ z ∧ (∀ (j : Nat) (d : Int), j < z → 0 ≤ d → d < 4 → (j < h ∨ (j = h ∧ d < dd)) → f_sb (q j) d = -1 ∨ hg (f_sb (q j) d).toNat = 1 ∨ ¬ sh (f_sb (q j) d).toNat = 0 ∨ ¬ oil (f_sb (q j) d).toNat = oil (q j).toNat) ∧ ∀ t, t < 36 → src sh oil t → hg t = 1
theorem HQ_z {sh oil hg q : Nat → Int} {z h : Nat} {dd : Int} (b : HQ sh oil hg q z h dd) : z ≤ 36 := by
  have := sm_b 36 b.1
  have := b.2.2.2.1
  omega
theorem HQ_no {sh oil hg q : Nat → Int} {z h : Nat} {dd : Int} (b : HQ sh oil hg q z h dd) (r : h < z → f_sb (q h) dd = -1 ∨ hg (f_sb (q h) dd).toNat = 1 ∨ ¬ sh (f_sb (q h) dd).toNat = 0 ∨ ¬ oil (f_sb (q h) dd).toNat = oil (q h).toNat) : HQ sh oil hg q z h (dd + 1) := by
  obtain ⟨b1, b2, b3, b4, b5, b6, b7⟩ := b
  refine ⟨b1, b2, b3, b4, b5, fun j d hj d0 d9 hd => ?_, b7⟩
  by_cases e : j = h ∧ d = dd
  · rw [e.1, e.2]; exact r (by omega)
  · exact b6 j d hj d0 d9 (by omega)
theorem HQ_nx {sh oil hg q : Nat → Int} {z h : Nat} (hz : h < z) (b : HQ sh oil hg q z h 4) : HQ sh oil hg q z (h + 1) 0 := by
  obtain ⟨b1, b2, b3, b4, b5, b6, b7⟩ := b
  exact ⟨b1, b2, b3, b4, by omega, fun j d hj d0 d9 hd => b6 j d hj d0 d9 (by omega), b7⟩
theorem HQ_up {sh oil hg q : Nat → Int} {z h n : Nat} {dd : Int} (hz : h < z) (d0 : 0 ≤ dd) (d9 : dd < 4) (b : HQ sh oil hg q z h dd) (en : f_sb (q h) dd = n) (n36 : n < 36) (n0 : hg n = 0) (n1 : sh n = 0) (n2 : oil n = oil (q h).toNat) : z < 36 ∧ HQ sh oil (sw_s hg n 1) (sw_s q z (n : Int)) (z + 1) h (dd + 1) := by
  obtain ⟨b1, b2, b3, b4, b5, b6, b7⟩ := b
  have sl := sm_lt1 n0 36 b1 n36
  have qh := b2 h hz
  have qj : ∀ j, j < z → sw_s q z (n : Int) j = q j := fun j hj => if_neg (by omega)
  have tz : ∀ t, hg t = 1 → sw_s hg n 1 t = 1 := fun t e => by
    unfold sw_s
    split
    · rfl
    · exact e
  refine ⟨by omega, fun t ht => ?_, fun j hj => ?_, fun t ht h1 => ?_, ?_, by omega, fun j d hj e0 e9 hd => ?_, fun t ht s => tz t (b7 t ht s)⟩
  · unfold sw_s
    split
    · exact Or.inr rfl
    · exact b1 t ht
  · by_cases e : j = z
    · subst e
      rw [sE, Int.toNat_natCast]
      exact ⟨by omega, by omega, sE, HG_s (by omega) n36 qh.2.2.2 ⟨dd, d0, d9, by rw [show (((q h).toNat : Nat) : Int) = q h by omega]; exact en⟩ n1 n2⟩
    · rw [qj j (by omega)]
      obtain ⟨a1, a2, a3, a4⟩ := b2 j (by omega)
      exact ⟨a1, a2, tz _ a3, a4⟩
  · by_cases e : t = n
    · exact ⟨z, by omega, by rw [sE, e]⟩
    · unfold sw_s at h1
      rw [if_neg e] at h1
      obtain ⟨j, j1, j2⟩ := b3 t ht h1
      exact ⟨j, by omega, by rw [qj j j1]; exact j2⟩
  · rw [sm_s, if_pos n36, n0, b4]; rfl
  · have jz : j < z := by omega
    rw [qj j jz]
    by_cases e : j = h ∧ d = dd
    · rw [e.1, e.2, en]
      exact Or.inr (Or.inl (by rw [Int.toNat_natCast]; exact sE))
    · rcases b6 j d jz e0 e9 (by omega) with q1 | q1 | q1
      · exact Or.inl q1
      · exact Or.inr (Or.inl (tz _ q1))
      · exact Or.inr (Or.inr q1)
/-- what the search leaves -/
def HD (sh oil hg : Nat → Int) : Prop := (∀ t, t < 36 → hg t = 0 ∨ hg t = 1) ∧ ∀ t, t < 36 → (hg t = 1 ↔ HG sh oil t)
theorem HQ_D {sh oil hg q : Nat → Int} {z : Nat} {dd : Int} (b : HQ sh oil hg q z z dd) : HD sh oil hg := by
  obtain ⟨b1, b2, b3, b4, b5, b6, b7⟩ := b
  refine ⟨b1, fun t ht => ⟨fun q => ?_, fun g => ?_⟩⟩
  · obtain ⟨j, j1, j2⟩ := b3 t ht q
    have := (b2 j j1).2.2.2
    rwa [j2, Int.toNat_natCast] at this
  · have := g (fun u => u < 36 ∧ hg u = 1) (fun s hs q => ⟨hs, b7 s hs q⟩) (fun s u hs hu p nb h0 e => by
      obtain ⟨j, j1, j2⟩ := b3 s hs p.2
      obtain ⟨d, d0, d9, ed⟩ := nb
      have r := b6 j d j1 d0 d9 (Or.inl j1)
      rw [j2, ed, Int.toNat_natCast, Int.toNat_natCast] at r
      rcases r with r | r | r | r
      · omega
      · exact ⟨hu, r⟩
      · exact absurd h0 r
      · exact absurd e r)
    exact this.2
def HS9 (sh oil hg q : Nat → Int) (z i : Nat) : Prop := (∀ t, t < i → (hg t = 0 ∧ ¬ src sh oil t) ∨ (hg t = 1 ∧ src sh oil t)) ∧ (∀ j, j < z → 0 ≤ q j ∧ q j < i ∧ hg (q j).toNat = 1) ∧ (∀ t, t < i → hg t = 1 → ∃ j, j < z ∧ q j = (t : Int)) ∧ sm hg i = z
theorem HS_z {sh oil hg q : Nat → Int} {z i : Nat} (b : HS9 sh oil hg q z i) : z ≤ i := by
  have := sm_b i fun t ht => (b.1 t ht).elim (fun q => Or.inl q.1) (fun q => Or.inr q.1)
  have := b.2.2.2
  omega
theorem HS_no {sh oil hg q : Nat → Int} {z i : Nat} (h : ¬ src sh oil i) (b : HS9 sh oil hg q z i) : HS9 sh oil (sw_s hg i 0) q z (i + 1) := by
  obtain ⟨b1, b3, b4, b6⟩ := b
  have rt : ∀ t, t < i → sw_s hg i 0 t = hg t := fun t ht => if_neg (by omega)
  refine ⟨fun t ht => ?_, fun j hj => ?_, fun t ht h1 => ?_, ?_⟩
  · by_cases e : t = i
    · subst e; exact Or.inl ⟨sE, h⟩
    · rw [rt t (by omega)]; exact b1 t (by omega)
  · have := b3 j hj
    rw [rt _ (by omega)]
    exact ⟨this.1, by omega, this.2.2⟩
  · by_cases e : t = i
    · subst e; rw [sE] at h1; cases h1
    · rw [rt t (by omega)] at h1; exact b4 t (by omega) h1
  · show sm _ i + _ = _
    rw [sE, sm_c i rt, b6]; omega
theorem HS_up {sh oil hg q : Nat → Int} {z i : Nat} (h : src sh oil i) (b : HS9 sh oil hg q z i) : HS9 sh oil (sw_s hg i 1) (sw_s q z (i : Int)) (z + 1) (i + 1) := by
  obtain ⟨b1, b3, b4, b6⟩ := b
  have rt : ∀ t, t < i → sw_s hg i 1 t = hg t := fun t ht => if_neg (by omega)
  have qj : ∀ j, j < z → sw_s q z (i : Int) j = q j := fun j hj => if_neg (by omega)
  refine ⟨fun t ht => ?_, fun j hj => ?_, fun t ht h1 => ?_, ?_⟩
  · by_cases e : t = i
    · subst e; exact Or.inr ⟨sE, h⟩
    · rw [rt t (by omega)]; exact b1 t (by omega)
  · by_cases e : j = z
    · subst e; rw [sE]; exact ⟨by omega, by omega, sE⟩
    · have := b3 j (by omega)
      rw [qj j (by omega), rt _ (by omega)]
      exact ⟨this.1, by omega, this.2.2⟩
  · by_cases e : t = i
    · exact ⟨z, by omega, by rw [sE, e]⟩
    · rw [rt t (by omega)] at h1
      obtain ⟨j, j1, j2⟩ := b4 t (by omega) h1
      exact ⟨j, by omega, by rw [qj j j1]; exact j2⟩
  · show sm _ i + _ = _
    rw [sE, sm_c i rt, b6]; rfl
theorem HS_Q {sh oil hg q : Nat → Int} {z : Nat} (b : HS9 sh oil hg q z 36) : HQ sh oil hg q z 0 0 := by
  obtain ⟨b1, b3, b4, b6⟩ := b
  refine ⟨fun t ht => (b1 t ht).elim (fun q => Or.inl q.1) (fun q => Or.inr q.1), fun j hj => ?_, b4, b6, Nat.zero_le _, fun j d hj d0 d9 hd => by omega, fun t ht s => ?_⟩
  · obtain ⟨a1, a2, a3⟩ := b3 j hj
    refine ⟨a1, a2, a3, ?_⟩
    rcases b1 (q j).toNat (by omega) with g | g
    · omega
    · exact HG_0 (by omega) g.2
  · rcases b1 t ht with g | g
    · exact absurd s g.2
    · exact g.1
section sw_hg
variable {L : Nat} {A : Nat → Nat → Int} {F : Nat → Int} {T : Nat → sw_Ce} {X : Nat × Nat × Nat} {Q : sw_Ot → sw_HS → Prop}
def hZ (L : Nat) (A : Nat → Nat → Int) (F : Nat → Int) (T : Nat → sw_Ce) (X : Nat × Nat × Nat) (hg q : Nat → Int) (h z : Int) : sw_HS := sw_h L (sw_s (sw_s A 49 hg) 51 q) (sw_s (sw_s F 15 h) 16 z) T X
theorem hom_b (o : Int) : hom o = 1 ∨ hom o = 2 := by unfold hom; split <;> omega
theorem m73_s (h9 : B01 (A 9)) (ho : B01 (A 48)) : ∀ (n i z : Nat) (hg q : Nat → Int), i + n = 36 → HS9 (A 9) (A 48) hg q z i → ∃ (hg2 q2 : Nat → Int) (z2 : Nat), HS9 (A 9) (A 48) hg2 q2 z2 36 ∧ sw_A 73 9 [some (.ref 47), some (.ref 9), some (.int (Int32.ofInt i)), none, none, none] [] (hZ L A F T X hg q 0 z) Q = sw_A 73 71 [some (.ref 47), some (.ref 9), some (.int (Int32.ofInt 36)), none, none, none] [] (hZ L A F T X hg2 q2 0 z2) Q
  | 0, i, z, hg, q, hn, b => by
    have e : i = 36 := hn
    subst e
    refine ⟨hg, q, z, b, ?_⟩
    rw [r73_9]
    simp (disch := omega) only [r73_10, r73_12, sw_ldi, sw_ldl, sw_lda, sw_has1, sw_i1, sw_i2, sw_l1, sw_l2, sw_li, sw_r1, sw_ri, sw_rix, sw_rv, sw_pop, sw_set1, sw_set2, List.set_cons_zero, List.set_cons_succ, List.getElem?_cons_zero, List.getElem?_cons_succ, ald_1, ald_2, ast_1, ast_2, aln_1, aln_2, gf_1, gf_2, pf_1, pf_2, nw_1, ck_0, ck_1, ck_2, ck_3, ck_4, rr_1, rc_1, rc_2, K_i, K_l, K_v, I_add, I_sub, I_mul, I_div, I_em, I_eq0, I_lt0, I_0lt, I_le0, I_0le, I_eq, I_lt, I_le, I_a1, I_r1, I_eq1, I32_at, I32_s, Int.toNat_natCast, List.set_cons_zero, reduceCtorEq, not_false_eq_true, not_true_eq_false, false_and, true_and, and_true, and_false, false_or, true_or, or_true, or_false, if_true, if_false, eq_self, ↓reduceIte, Int.reduceEq, Int.reduceLT, Int.reduceLE, Int.reduceAdd, Int.reduceSub, Int.reduceMul, Int.reduceNeg, Int.reduceToNat, Nat.reduceLT, Nat.reduceAdd, Nat.reduceEqDiff, List.length_cons, List.length_nil, Int.le_refl]
    rfl
  | n + 1, i, z, hg, q, hn, b => by
    have hi2 : i < 36 := by omega
    have s1 := h9 i hi2
    have s2 := ho i hi2
    have hb9 := hom_b (A 48 i)
    have fo := f_os_b i (hom (A 48 i))
    have bz := HS_z b
    have mh := fun (Q : sw_Ot → sw_HS → Prop) (H : sw_HS) => m71 (H := H) (Q := Q) (A 48 i) s2
    rw [show (if A 48 i = 0 then (2 : Int) else 1) = hom (A 48 i) from rfl] at mh
    by_cases hS : src (A 9) (A 48) i
    · obtain ⟨hg2, q2, z2, g1, g2⟩ := m73_s h9 ho n (i + 1) (z + 1) _ _ (by omega) (HS_up hS b)
      refine ⟨hg2, q2, z2, g1, Eq.trans ?_ g2⟩
      have f16 : sw_s (sw_s F 15 0) 16 (z : Int) 16 = z := rfl
      have c1 := hS.1
      have c2 := hS.2
      unfold hZ
      rw [r73_9]
      simp (disch := omega) only [r73_10, r73_12, r73_15, r73_16, r73_19, r73_20, r73_21, r73_22, r73_23, sw_ldi, sw_ldl, sw_lda, sw_has1, sw_i1, sw_i2, sw_l1, sw_l2, sw_li, sw_r1, sw_ri, sw_rix, sw_rv, sw_pop, sw_set1, sw_set2, List.set_cons_zero, List.set_cons_succ, List.getElem?_cons_zero, List.getElem?_cons_succ, ald_1, ald_2, ast_1, ast_2, aln_1, aln_2, gf_1, gf_2, pf_1, pf_2, nw_1, ck_0, ck_1, ck_2, ck_3, ck_4, rr_1, rc_1, rc_2, K_i, K_l, K_v, I_add, I_sub, I_mul, I_div, I_em, I_eq0, I_lt0, I_0lt, I_le0, I_0le, I_eq, I_lt, I_le, I_a1, I_r1, I_eq1, I32_at, I32_s, Int.toNat_natCast, List.set_cons_zero, reduceCtorEq, not_false_eq_true, not_true_eq_false, false_and, true_and, and_true, and_false, false_or, true_or, or_true, or_false, if_true, if_false, eq_self, ↓reduceIte, Int.reduceEq, Int.reduceLT, Int.reduceLE, Int.reduceAdd, Int.reduceSub, Int.reduceMul, Int.reduceNeg, Int.reduceToNat, Nat.reduceLT, Nat.reduceAdd, Nat.reduceEqDiff, List.length_cons, List.length_nil, sA_at, ss, sA_cm, h_9, h_47, c1]
      rw [if_neg (by omega)]
      simp (disch := omega) only [r73_26, r73_27, r73_28, r73_31, r73_32, sw_ldi, sw_ldl, sw_lda, sw_has1, sw_i1, sw_i2, sw_l1, sw_l2, sw_li, sw_r1, sw_ri, sw_rix, sw_rv, sw_pop, sw_set1, sw_set2, List.set_cons_zero, List.set_cons_succ, List.getElem?_cons_zero, List.getElem?_cons_succ, ald_1, ald_2, ast_1, ast_2, aln_1, aln_2, gf_1, gf_2, pf_1, pf_2, nw_1, ck_0, ck_1, ck_2, ck_3, ck_4, rr_1, rc_1, rc_2, K_i, K_l, K_v, I_add, I_sub, I_mul, I_div, I_em, I_eq0, I_lt0, I_0lt, I_le0, I_0le, I_eq, I_lt, I_le, I_a1, I_r1, I_eq1, I32_at, I32_s, Int.toNat_natCast, List.set_cons_zero, reduceCtorEq, not_false_eq_true, not_true_eq_false, false_and, true_and, and_true, and_false, false_or, true_or, or_true, or_false, if_true, if_false, eq_self, ↓reduceIte, Int.reduceEq, Int.reduceLT, Int.reduceLE, Int.reduceAdd, Int.reduceSub, Int.reduceMul, Int.reduceNeg, Int.reduceToNat, Nat.reduceLT, Nat.reduceAdd, Nat.reduceEqDiff, List.length_cons, List.length_nil, sA_at, ss, sA_cm, h_47, h_48]
      simp (disch := omega) only [r73_33, r73_36, sw_ldi, sw_ldl, sw_lda, sw_has1, sw_i1, sw_i2, sw_l1, sw_l2, sw_li, sw_r1, sw_ri, sw_rix, sw_rv, sw_pop, sw_set1, sw_set2, List.set_cons_zero, List.set_cons_succ, List.getElem?_cons_zero, List.getElem?_cons_succ, ald_1, ald_2, ast_1, ast_2, aln_1, aln_2, gf_1, gf_2, pf_1, pf_2, nw_1, ck_0, ck_1, ck_2, ck_3, ck_4, rr_1, rc_1, rc_2, K_i, K_l, K_v, I_add, I_sub, I_mul, I_div, I_em, I_eq0, I_lt0, I_0lt, I_le0, I_0le, I_eq, I_lt, I_le, I_a1, I_r1, I_eq1, I32_at, I32_s, Int.toNat_natCast, List.set_cons_zero, reduceCtorEq, not_false_eq_true, not_true_eq_false, false_and, true_and, and_true, and_false, false_or, true_or, or_true, or_false, if_true, if_false, eq_self, ↓reduceIte, Int.reduceEq, Int.reduceLT, Int.reduceLE, Int.reduceAdd, Int.reduceSub, Int.reduceMul, Int.reduceNeg, Int.reduceToNat, Nat.reduceLT, Nat.reduceAdd, Nat.reduceEqDiff, List.length_cons, List.length_nil, mh, m72, c2]
      simp (disch := first | omega | (rw [f16]; omega)) only [r73_39, r73_42, r73_43, r73_46, r73_47, r73_48, r73_49, r73_52, r73_53, r73_54, r73_57, r73_58, r73_61, r73_62, sw_ldi, sw_ldl, sw_lda, sw_has1, sw_i1, sw_i2, sw_l1, sw_l2, sw_li, sw_r1, sw_ri, sw_rix, sw_rv, sw_pop, sw_set1, sw_set2, List.set_cons_zero, List.set_cons_succ, List.getElem?_cons_zero, List.getElem?_cons_succ, ald_1, ald_2, ast_1, ast_2, aln_1, aln_2, gf_1, gf_2, pf_1, pf_2, nw_1, ck_0, ck_1, ck_2, ck_3, ck_4, rr_1, rc_1, rc_2, K_i, K_l, K_v, I_add, I_sub, I_mul, I_div, I_em, I_eq0, I_lt0, I_0lt, I_le0, I_0le, I_eq, I_lt, I_le, I_a1, I_r1, I_eq1, I32_at, I32_s, Int.toNat_natCast, List.set_cons_zero, reduceCtorEq, not_false_eq_true, not_true_eq_false, false_and, true_and, and_true, and_false, false_or, true_or, or_true, or_false, if_true, if_false, eq_self, ↓reduceIte, Int.reduceEq, Int.reduceLT, Int.reduceLE, Int.reduceAdd, Int.reduceSub, Int.reduceMul, Int.reduceNeg, Int.reduceToNat, Nat.reduceLT, Nat.reduceAdd, Nat.reduceEqDiff, List.length_cons, List.length_nil, sA_at, ss, sA_cm, sE, h_47, h_49, w_49, h_50, m50_50]
      simp (disch := omega) only [r73_65, r73_68, sw_ldi, sw_ldl, sw_lda, sw_has1, sw_i1, sw_i2, sw_l1, sw_l2, sw_li, sw_r1, sw_ri, sw_rix, sw_rv, sw_pop, sw_set1, sw_set2, List.set_cons_zero, List.set_cons_succ, List.getElem?_cons_zero, List.getElem?_cons_succ, ald_1, ald_2, ast_1, ast_2, aln_1, aln_2, gf_1, gf_2, pf_1, pf_2, nw_1, ck_0, ck_1, ck_2, ck_3, ck_4, rr_1, rc_1, rc_2, K_i, K_l, K_v, I_add, I_sub, I_mul, I_div, I_em, I_eq0, I_lt0, I_0lt, I_le0, I_0le, I_eq, I_lt, I_le, I_a1, I_r1, I_eq1, I32_at, I32_s, Int.toNat_natCast, List.set_cons_zero, reduceCtorEq, not_false_eq_true, not_true_eq_false, false_and, true_and, and_true, and_false, false_or, true_or, or_true, or_false, if_true, if_false, eq_self, ↓reduceIte, Int.reduceEq, Int.reduceLT, Int.reduceLE, Int.reduceAdd, Int.reduceSub, Int.reduceMul, Int.reduceNeg, Int.reduceToNat, Nat.reduceLT, Nat.reduceAdd, Nat.reduceEqDiff, List.length_cons, List.length_nil, sA_at, ss, sA_cm, f16]
      rfl
    · obtain ⟨hg2, q2, z2, g1, g2⟩ := m73_s h9 ho n (i + 1) z _ _ (by omega) (HS_no hS b)
      refine ⟨hg2, q2, z2, g1, Eq.trans ?_ g2⟩
      unfold hZ
      rw [r73_9]
      simp (disch := omega) only [r73_10, r73_12, r73_15, r73_16, r73_19, r73_20, r73_21, r73_22, r73_23, sw_ldi, sw_ldl, sw_lda, sw_has1, sw_i1, sw_i2, sw_l1, sw_l2, sw_li, sw_r1, sw_ri, sw_rix, sw_rv, sw_pop, sw_set1, sw_set2, List.set_cons_zero, List.set_cons_succ, List.getElem?_cons_zero, List.getElem?_cons_succ, ald_1, ald_2, ast_1, ast_2, aln_1, aln_2, gf_1, gf_2, pf_1, pf_2, nw_1, ck_0, ck_1, ck_2, ck_3, ck_4, rr_1, rc_1, rc_2, K_i, K_l, K_v, I_add, I_sub, I_mul, I_div, I_em, I_eq0, I_lt0, I_0lt, I_le0, I_0le, I_eq, I_lt, I_le, I_a1, I_r1, I_eq1, I32_at, I32_s, Int.toNat_natCast, List.set_cons_zero, reduceCtorEq, not_false_eq_true, not_true_eq_false, false_and, true_and, and_true, and_false, false_or, true_or, or_true, or_false, if_true, if_false, eq_self, ↓reduceIte, Int.reduceEq, Int.reduceLT, Int.reduceLE, Int.reduceAdd, Int.reduceSub, Int.reduceMul, Int.reduceNeg, Int.reduceToNat, Nat.reduceLT, Nat.reduceAdd, Nat.reduceEqDiff, List.length_cons, List.length_nil, sA_at, ss, sA_cm, h_9, h_47]
      rw [if_neg (by omega)]
      by_cases c1 : A 9 i = 0
      · have c2 : f_os i (hom (A 48 i)) = 0 := by
          rcases fo with e | e
          · exact e
          · exact absurd ⟨c1, e⟩ hS
        rw [if_neg (by omega)]
        simp (disch := omega) only [r73_26, r73_27, r73_28, r73_31, r73_32, sw_ldi, sw_ldl, sw_lda, sw_has1, sw_i1, sw_i2, sw_l1, sw_l2, sw_li, sw_r1, sw_ri, sw_rix, sw_rv, sw_pop, sw_set1, sw_set2, List.set_cons_zero, List.set_cons_succ, List.getElem?_cons_zero, List.getElem?_cons_succ, ald_1, ald_2, ast_1, ast_2, aln_1, aln_2, gf_1, gf_2, pf_1, pf_2, nw_1, ck_0, ck_1, ck_2, ck_3, ck_4, rr_1, rc_1, rc_2, K_i, K_l, K_v, I_add, I_sub, I_mul, I_div, I_em, I_eq0, I_lt0, I_0lt, I_le0, I_0le, I_eq, I_lt, I_le, I_a1, I_r1, I_eq1, I32_at, I32_s, Int.toNat_natCast, List.set_cons_zero, reduceCtorEq, not_false_eq_true, not_true_eq_false, false_and, true_and, and_true, and_false, false_or, true_or, or_true, or_false, if_true, if_false, eq_self, ↓reduceIte, Int.reduceEq, Int.reduceLT, Int.reduceLE, Int.reduceAdd, Int.reduceSub, Int.reduceMul, Int.reduceNeg, Int.reduceToNat, Nat.reduceLT, Nat.reduceAdd, Nat.reduceEqDiff, List.length_cons, List.length_nil, sA_at, ss, sA_cm, h_47, h_48]
        simp (disch := omega) only [r73_33, r73_36, sw_ldi, sw_ldl, sw_lda, sw_has1, sw_i1, sw_i2, sw_l1, sw_l2, sw_li, sw_r1, sw_ri, sw_rix, sw_rv, sw_pop, sw_set1, sw_set2, List.set_cons_zero, List.set_cons_succ, List.getElem?_cons_zero, List.getElem?_cons_succ, ald_1, ald_2, ast_1, ast_2, aln_1, aln_2, gf_1, gf_2, pf_1, pf_2, nw_1, ck_0, ck_1, ck_2, ck_3, ck_4, rr_1, rc_1, rc_2, K_i, K_l, K_v, I_add, I_sub, I_mul, I_div, I_em, I_eq0, I_lt0, I_0lt, I_le0, I_0le, I_eq, I_lt, I_le, I_a1, I_r1, I_eq1, I32_at, I32_s, Int.toNat_natCast, List.set_cons_zero, reduceCtorEq, not_false_eq_true, not_true_eq_false, false_and, true_and, and_true, and_false, false_or, true_or, or_true, or_false, if_true, if_false, eq_self, ↓reduceIte, Int.reduceEq, Int.reduceLT, Int.reduceLE, Int.reduceAdd, Int.reduceSub, Int.reduceMul, Int.reduceNeg, Int.reduceToNat, Nat.reduceLT, Nat.reduceAdd, Nat.reduceEqDiff, List.length_cons, List.length_nil, mh, m72, c2]
        simp (disch := omega) only [r73_39, r73_42, r73_43, r73_46, r73_47, r73_48, r73_49, r73_52, r73_53, r73_54, r73_57, r73_58, r73_61, r73_62, r73_65, r73_68, sw_ldi, sw_ldl, sw_lda, sw_has1, sw_i1, sw_i2, sw_l1, sw_l2, sw_li, sw_r1, sw_ri, sw_rix, sw_rv, sw_pop, sw_set1, sw_set2, List.set_cons_zero, List.set_cons_succ, List.getElem?_cons_zero, List.getElem?_cons_succ, ald_1, ald_2, ast_1, ast_2, aln_1, aln_2, gf_1, gf_2, pf_1, pf_2, nw_1, ck_0, ck_1, ck_2, ck_3, ck_4, rr_1, rc_1, rc_2, K_i, K_l, K_v, I_add, I_sub, I_mul, I_div, I_em, I_eq0, I_lt0, I_0lt, I_le0, I_0le, I_eq, I_lt, I_le, I_a1, I_r1, I_eq1, I32_at, I32_s, Int.toNat_natCast, List.set_cons_zero, reduceCtorEq, not_false_eq_true, not_true_eq_false, false_and, true_and, and_true, and_false, false_or, true_or, or_true, or_false, if_true, if_false, eq_self, ↓reduceIte, Int.reduceEq, Int.reduceLT, Int.reduceLE, Int.reduceAdd, Int.reduceSub, Int.reduceMul, Int.reduceNeg, Int.reduceToNat, Nat.reduceLT, Nat.reduceAdd, Nat.reduceEqDiff, List.length_cons, List.length_nil, sA_at, ss, sA_cm, sE, h_47, h_49, w_49]
        rfl
      · rw [if_pos c1]
        simp (disch := omega) only [r73_46, r73_47, r73_48, r73_49, r73_52, r73_53, r73_54, r73_57, r73_58, r73_61, r73_62, r73_65, r73_68, sw_ldi, sw_ldl, sw_lda, sw_has1, sw_i1, sw_i2, sw_l1, sw_l2, sw_li, sw_r1, sw_ri, sw_rix, sw_rv, sw_pop, sw_set1, sw_set2, List.set_cons_zero, List.set_cons_succ, List.getElem?_cons_zero, List.getElem?_cons_succ, ald_1, ald_2, ast_1, ast_2, aln_1, aln_2, gf_1, gf_2, pf_1, pf_2, nw_1, ck_0, ck_1, ck_2, ck_3, ck_4, rr_1, rc_1, rc_2, K_i, K_l, K_v, I_add, I_sub, I_mul, I_div, I_em, I_eq0, I_lt0, I_0lt, I_le0, I_0le, I_eq, I_lt, I_le, I_a1, I_r1, I_eq1, I32_at, I32_s, Int.toNat_natCast, List.set_cons_zero, reduceCtorEq, not_false_eq_true, not_true_eq_false, false_and, true_and, and_true, and_false, false_or, true_or, or_true, or_false, if_true, if_false, eq_self, ↓reduceIte, Int.reduceEq, Int.reduceLT, Int.reduceLE, Int.reduceAdd, Int.reduceSub, Int.reduceMul, Int.reduceNeg, Int.reduceToNat, Nat.reduceLT, Nat.reduceAdd, Nat.reduceEqDiff, List.length_cons, List.length_nil, sA_at, ss, sA_cm, sE, h_47, h_49, w_49]
        rfl
theorem m73_d (h9 : B01 (A 9)) (ho : B01 (A 48)) {h : Nat} {s : Int} : ∀ (n z : Nat) (d : Int) (hg q : Nat → Int) (x : Option Value), d + n = 4 → 0 ≤ d → h < z → q h = s → HQ (A 9) (A 48) hg q z h d → ∃ (hg2 q2 : Nat → Int) (z2 : Nat) (x2 y2 : Option Value), h < z2 ∧ HQ (A 9) (A 48) hg2 q2 z2 h 4 ∧ sw_A 73 98 [some (.ref 47), some (.ref 9), some (.int (Int32.ofInt h)), some (.int (Int32.ofInt s)), some (.int (Int32.ofInt d)), x] [] (hZ L A F T X hg q (h + 1) z) Q = sw_A 73 73 [some (.ref 47), some (.ref 9), some (.int (Int32.ofInt (h + 1))), some (.int (Int32.ofInt s)), x2, y2] [] (hZ L A F T X hg2 q2 (h + 1) z2) Q
  | 0, z, d, hg, q, x, hn, d0, hz, hs, b => by
    have e : d = 4 := by omega
    subst e
    have bz := HQ_z b
    refine ⟨hg, q, z, some (.int (Int32.ofInt 4)), x, hz, b, ?_⟩
    rw [r73_98]
    simp (disch := omega) only [r73_100, r73_101, r73_174, r73_177, sw_ldi, sw_ldl, sw_lda, sw_has1, sw_i1, sw_i2, sw_l1, sw_l2, sw_li, sw_r1, sw_ri, sw_rix, sw_rv, sw_pop, sw_set1, sw_set2, List.set_cons_zero, List.set_cons_succ, List.getElem?_cons_zero, List.getElem?_cons_succ, ald_1, ald_2, ast_1, ast_2, aln_1, aln_2, gf_1, gf_2, pf_1, pf_2, nw_1, ck_0, ck_1, ck_2, ck_3, ck_4, rr_1, rc_1, rc_2, K_i, K_l, K_v, I_add, I_sub, I_mul, I_div, I_em, I_eq0, I_lt0, I_0lt, I_le0, I_0le, I_eq, I_lt, I_le, I_a1, I_r1, I_eq1, I32_at, I32_s, Int.toNat_natCast, List.set_cons_zero, reduceCtorEq, not_false_eq_true, not_true_eq_false, false_and, true_and, and_true, and_false, false_or, true_or, or_true, or_false, if_true, if_false, eq_self, ↓reduceIte, Int.reduceEq, Int.reduceLT, Int.reduceLE, Int.reduceAdd, Int.reduceSub, Int.reduceMul, Int.reduceNeg, Int.reduceToNat, Nat.reduceLT, Nat.reduceAdd, Nat.reduceEqDiff, List.length_cons, List.length_nil, Int.le_refl]
  | n + 1, z, d, hg, q, x, hn, d0, hz, hs, b => by
    have bz := HQ_z b
    have qh := b.2.1 h hz
    rw [hs] at qh
    have sb := f_sb_b qh.1 qh.2.1 d0 (show d < 4 by omega)
    by_cases c1 : f_sb s d = -1
    · obtain ⟨hg2, q2, z2, x2, y2, g1, g2, g3⟩ := m73_d h9 ho n z (d + 1) hg q (some (.int (Int32.ofInt (-1)))) (by omega) (by omega) hz hs (HQ_no b fun _ => by rw [hs]; exact Or.inl c1)
      refine ⟨hg2, q2, z2, x2, y2, g1, g2, Eq.trans ?_ g3⟩
      rw [r73_98]
      simp (disch := omega) only [r73_100, r73_101, r73_104, r73_105, r73_107, sw_ldi, sw_ldl, sw_lda, sw_has1, sw_i1, sw_i2, sw_l1, sw_l2, sw_li, sw_r1, sw_ri, sw_rix, sw_rv, sw_pop, sw_set1, sw_set2, List.set_cons_zero, List.set_cons_succ, List.getElem?_cons_zero, List.getElem?_cons_succ, ald_1, ald_2, ast_1, ast_2, aln_1, aln_2, gf_1, gf_2, pf_1, pf_2, nw_1, ck_0, ck_1, ck_2, ck_3, ck_4, rr_1, rc_1, rc_2, K_i, K_l, K_v, I_add, I_sub, I_mul, I_div, I_em, I_eq0, I_lt0, I_0lt, I_le0, I_0le, I_eq, I_lt, I_le, I_a1, I_r1, I_eq1, I32_at, I32_s, Int.toNat_natCast, List.set_cons_zero, reduceCtorEq, not_false_eq_true, not_true_eq_false, false_and, true_and, and_true, and_false, false_or, true_or, or_true, or_false, if_true, if_false, eq_self, ↓reduceIte, Int.reduceEq, Int.reduceLT, Int.reduceLE, Int.reduceAdd, Int.reduceSub, Int.reduceMul, Int.reduceNeg, Int.reduceToNat, Nat.reduceLT, Nat.reduceAdd, Nat.reduceEqDiff, List.length_cons, List.length_nil, m32, c1]
      rw [if_neg (by omega)]
      simp (disch := omega) only [r73_110, r73_112, r73_114, r73_115, r73_168, r73_171, sw_ldi, sw_ldl, sw_lda, sw_has1, sw_i1, sw_i2, sw_l1, sw_l2, sw_li, sw_r1, sw_ri, sw_rix, sw_rv, sw_pop, sw_set1, sw_set2, List.set_cons_zero, List.set_cons_succ, List.getElem?_cons_zero, List.getElem?_cons_succ, ald_1, ald_2, ast_1, ast_2, aln_1, aln_2, gf_1, gf_2, pf_1, pf_2, nw_1, ck_0, ck_1, ck_2, ck_3, ck_4, rr_1, rc_1, rc_2, K_i, K_l, K_v, I_add, I_sub, I_mul, I_div, I_em, I_eq0, I_lt0, I_0lt, I_le0, I_0le, I_eq, I_lt, I_le, I_a1, I_r1, I_eq1, I32_at, I32_s, Int.toNat_natCast, List.set_cons_zero, reduceCtorEq, not_false_eq_true, not_true_eq_false, false_and, true_and, and_true, and_false, false_or, true_or, or_true, or_false, if_true, if_false, eq_self, ↓reduceIte, Int.reduceEq, Int.reduceLT, Int.reduceLE, Int.reduceAdd, Int.reduceSub, Int.reduceMul, Int.reduceNeg, Int.reduceToNat, Nat.reduceLT, Nat.reduceAdd, Nat.reduceEqDiff, List.length_cons, List.length_nil]
    · have r1 := b.1 (f_sb s d).toNat (by omega)
      have r2 := h9 (f_sb s d).toNat (by omega)
      have r3 := ho (f_sb s d).toNat (by omega)
      have r4 := ho s.toNat (by omega)
      by_cases c2 : hg (f_sb s d).toNat = 0 ∧ A 9 (f_sb s d).toNat = 0 ∧ A 48 (f_sb s d).toNat = A 48 s.toNat
      · obtain ⟨z36, up⟩ := HQ_up hz d0 (show d < 4 by omega) b (n := (f_sb s d).toNat) (by rw [hs]; omega) (by omega) c2.1 c2.2.1 (by rw [hs]; exact c2.2.2)
        obtain ⟨hg2, q2, z2, x2, y2, g1, g2, g3⟩ := m73_d h9 ho (s := s) n (z + 1) (d + 1) _ _ (some (.int (Int32.ofInt (f_sb s d)))) (by omega) (by omega) (by omega) (by unfold sw_s; rw [if_neg (by omega)]; exact hs) up
        refine ⟨hg2, q2, z2, x2, y2, g1, g2, Eq.trans ?_ g3⟩
        have f16 : sw_s (sw_s F 15 ((h : Int) + 1)) 16 (z : Int) 16 = z := rfl
        obtain ⟨k1, k2, k3⟩ := c2
        rw [show (((f_sb s d).toNat : Nat) : Int) = f_sb s d by omega]
        unfold hZ
        rw [r73_98]
        simp (disch := omega) only [r73_100, r73_101, r73_104, r73_105, r73_107, sw_ldi, sw_ldl, sw_lda, sw_has1, sw_i1, sw_i2, sw_l1, sw_l2, sw_li, sw_r1, sw_ri, sw_rix, sw_rv, sw_pop, sw_set1, sw_set2, List.set_cons_zero, List.set_cons_succ, List.getElem?_cons_zero, List.getElem?_cons_succ, ald_1, ald_2, ast_1, ast_2, aln_1, aln_2, gf_1, gf_2, pf_1, pf_2, nw_1, ck_0, ck_1, ck_2, ck_3, ck_4, rr_1, rc_1, rc_2, K_i, K_l, K_v, I_add, I_sub, I_mul, I_div, I_em, I_eq0, I_lt0, I_0lt, I_le0, I_0le, I_eq, I_lt, I_le, I_a1, I_r1, I_eq1, I32_at, I32_s, Int.toNat_natCast, List.set_cons_zero, reduceCtorEq, not_false_eq_true, not_true_eq_false, false_and, true_and, and_true, and_false, false_or, true_or, or_true, or_false, if_true, if_false, eq_self, ↓reduceIte, Int.reduceEq, Int.reduceLT, Int.reduceLE, Int.reduceAdd, Int.reduceSub, Int.reduceMul, Int.reduceNeg, Int.reduceToNat, Nat.reduceLT, Nat.reduceAdd, Nat.reduceEqDiff, List.length_cons, List.length_nil, m32]
        rw [if_neg (by omega)]
        simp (disch := omega) only [r73_110, r73_112, r73_114, r73_115, sw_ldi, sw_ldl, sw_lda, sw_has1, sw_i1, sw_i2, sw_l1, sw_l2, sw_li, sw_r1, sw_ri, sw_rix, sw_rv, sw_pop, sw_set1, sw_set2, List.set_cons_zero, List.set_cons_succ, List.getElem?_cons_zero, List.getElem?_cons_succ, ald_1, ald_2, ast_1, ast_2, aln_1, aln_2, gf_1, gf_2, pf_1, pf_2, nw_1, ck_0, ck_1, ck_2, ck_3, ck_4, rr_1, rc_1, rc_2, K_i, K_l, K_v, I_add, I_sub, I_mul, I_div, I_em, I_eq0, I_lt0, I_0lt, I_le0, I_0le, I_eq, I_lt, I_le, I_a1, I_r1, I_eq1, I32_at, I32_s, Int.toNat_natCast, List.set_cons_zero, reduceCtorEq, not_false_eq_true, not_true_eq_false, false_and, true_and, and_true, and_false, false_or, true_or, or_true, or_false, if_true, if_false, eq_self, ↓reduceIte, Int.reduceEq, Int.reduceLT, Int.reduceLE, Int.reduceAdd, Int.reduceSub, Int.reduceMul, Int.reduceNeg, Int.reduceToNat, Nat.reduceLT, Nat.reduceAdd, Nat.reduceEqDiff, List.length_cons, List.length_nil]
        rw [if_neg c1]
        simp (disch := omega) only [r73_118, r73_119, r73_122, r73_124, r73_125, r73_128, r73_129, r73_131, r73_132, sw_ldi, sw_ldl, sw_lda, sw_has1, sw_i1, sw_i2, sw_l1, sw_l2, sw_li, sw_r1, sw_ri, sw_rix, sw_rv, sw_pop, sw_set1, sw_set2, List.set_cons_zero, List.set_cons_succ, List.getElem?_cons_zero, List.getElem?_cons_succ, ald_1, ald_2, ast_1, ast_2, aln_1, aln_2, gf_1, gf_2, pf_1, pf_2, nw_1, ck_0, ck_1, ck_2, ck_3, ck_4, rr_1, rc_1, rc_2, K_i, K_l, K_v, I_add, I_sub, I_mul, I_div, I_em, I_eq0, I_lt0, I_0lt, I_le0, I_0le, I_eq, I_lt, I_le, I_a1, I_r1, I_eq1, I32_at, I32_s, Int.toNat_natCast, List.set_cons_zero, reduceCtorEq, not_false_eq_true, not_true_eq_false, false_and, true_and, and_true, and_false, false_or, true_or, or_true, or_false, if_true, if_false, eq_self, ↓reduceIte, Int.reduceEq, Int.reduceLT, Int.reduceLE, Int.reduceAdd, Int.reduceSub, Int.reduceMul, Int.reduceNeg, Int.reduceToNat, Nat.reduceLT, Nat.reduceAdd, Nat.reduceEqDiff, List.length_cons, List.length_nil, sA_at, ss, sA_cm, h_47, h_49, h_9, k1, k2]
        simp (disch := omega) only [r73_135, r73_136, r73_139, r73_141, r73_142, r73_143, r73_146, r73_147, r73_148, sw_ldi, sw_ldl, sw_lda, sw_has1, sw_i1, sw_i2, sw_l1, sw_l2, sw_li, sw_r1, sw_ri, sw_rix, sw_rv, sw_pop, sw_set1, sw_set2, List.set_cons_zero, List.set_cons_succ, List.getElem?_cons_zero, List.getElem?_cons_succ, ald_1, ald_2, ast_1, ast_2, aln_1, aln_2, gf_1, gf_2, pf_1, pf_2, nw_1, ck_0, ck_1, ck_2, ck_3, ck_4, rr_1, rc_1, rc_2, K_i, K_l, K_v, I_add, I_sub, I_mul, I_div, I_em, I_eq0, I_lt0, I_0lt, I_le0, I_0le, I_eq, I_lt, I_le, I_a1, I_r1, I_eq1, I32_at, I32_s, Int.toNat_natCast, List.set_cons_zero, reduceCtorEq, not_false_eq_true, not_true_eq_false, false_and, true_and, and_true, and_false, false_or, true_or, or_true, or_false, if_true, if_false, eq_self, ↓reduceIte, Int.reduceEq, Int.reduceLT, Int.reduceLE, Int.reduceAdd, Int.reduceSub, Int.reduceMul, Int.reduceNeg, Int.reduceToNat, Nat.reduceLT, Nat.reduceAdd, Nat.reduceEqDiff, List.length_cons, List.length_nil, sA_at, ss, sA_cm, h_47, h_48, k3]
        simp (disch := first | omega | (rw [f16]; omega)) only [r73_151, r73_152, r73_155, r73_157, r73_158, r73_159, r73_160, r73_163, r73_165, sw_ldi, sw_ldl, sw_lda, sw_has1, sw_i1, sw_i2, sw_l1, sw_l2, sw_li, sw_r1, sw_ri, sw_rix, sw_rv, sw_pop, sw_set1, sw_set2, List.set_cons_zero, List.set_cons_succ, List.getElem?_cons_zero, List.getElem?_cons_succ, ald_1, ald_2, ast_1, ast_2, aln_1, aln_2, gf_1, gf_2, pf_1, pf_2, nw_1, ck_0, ck_1, ck_2, ck_3, ck_4, rr_1, rc_1, rc_2, K_i, K_l, K_v, I_add, I_sub, I_mul, I_div, I_em, I_eq0, I_lt0, I_0lt, I_le0, I_0le, I_eq, I_lt, I_le, I_a1, I_r1, I_eq1, I32_at, I32_s, Int.toNat_natCast, List.set_cons_zero, reduceCtorEq, not_false_eq_true, not_true_eq_false, false_and, true_and, and_true, and_false, false_or, true_or, or_true, or_false, if_true, if_false, eq_self, ↓reduceIte, Int.reduceEq, Int.reduceLT, Int.reduceLE, Int.reduceAdd, Int.reduceSub, Int.reduceMul, Int.reduceNeg, Int.reduceToNat, Nat.reduceLT, Nat.reduceAdd, Nat.reduceEqDiff, List.length_cons, List.length_nil, sA_at, ss, sA_cm, h_47, h_49, w_49, h_50, m50_50]
        simp (disch := omega) only [r73_168, r73_171, sw_ldi, sw_ldl, sw_lda, sw_has1, sw_i1, sw_i2, sw_l1, sw_l2, sw_li, sw_r1, sw_ri, sw_rix, sw_rv, sw_pop, sw_set1, sw_set2, List.set_cons_zero, List.set_cons_succ, List.getElem?_cons_zero, List.getElem?_cons_succ, ald_1, ald_2, ast_1, ast_2, aln_1, aln_2, gf_1, gf_2, pf_1, pf_2, nw_1, ck_0, ck_1, ck_2, ck_3, ck_4, rr_1, rc_1, rc_2, K_i, K_l, K_v, I_add, I_sub, I_mul, I_div, I_em, I_eq0, I_lt0, I_0lt, I_le0, I_0le, I_eq, I_lt, I_le, I_a1, I_r1, I_eq1, I32_at, I32_s, Int.toNat_natCast, List.set_cons_zero, reduceCtorEq, not_false_eq_true, not_true_eq_false, false_and, true_and, and_true, and_false, false_or, true_or, or_true, or_false, if_true, if_false, eq_self, ↓reduceIte, Int.reduceEq, Int.reduceLT, Int.reduceLE, Int.reduceAdd, Int.reduceSub, Int.reduceMul, Int.reduceNeg, Int.reduceToNat, Nat.reduceLT, Nat.reduceAdd, Nat.reduceEqDiff, List.length_cons, List.length_nil, sA_at, ss, sA_cm, f16]
        rfl
      · obtain ⟨hg2, q2, z2, x2, y2, g1, g2, g3⟩ := m73_d h9 ho n z (d + 1) hg q (some (.int (Int32.ofInt (f_sb s d)))) (by omega) (by omega) hz hs (HQ_no b fun _ => by rw [hs]; omega)
        refine ⟨hg2, q2, z2, x2, y2, g1, g2, Eq.trans ?_ g3⟩
        unfold hZ
        rw [r73_98]
        simp (disch := omega) only [r73_100, r73_101, r73_104, r73_105, r73_107, sw_ldi, sw_ldl, sw_lda, sw_has1, sw_i1, sw_i2, sw_l1, sw_l2, sw_li, sw_r1, sw_ri, sw_rix, sw_rv, sw_pop, sw_set1, sw_set2, List.set_cons_zero, List.set_cons_succ, List.getElem?_cons_zero, List.getElem?_cons_succ, ald_1, ald_2, ast_1, ast_2, aln_1, aln_2, gf_1, gf_2, pf_1, pf_2, nw_1, ck_0, ck_1, ck_2, ck_3, ck_4, rr_1, rc_1, rc_2, K_i, K_l, K_v, I_add, I_sub, I_mul, I_div, I_em, I_eq0, I_lt0, I_0lt, I_le0, I_0le, I_eq, I_lt, I_le, I_a1, I_r1, I_eq1, I32_at, I32_s, Int.toNat_natCast, List.set_cons_zero, reduceCtorEq, not_false_eq_true, not_true_eq_false, false_and, true_and, and_true, and_false, false_or, true_or, or_true, or_false, if_true, if_false, eq_self, ↓reduceIte, Int.reduceEq, Int.reduceLT, Int.reduceLE, Int.reduceAdd, Int.reduceSub, Int.reduceMul, Int.reduceNeg, Int.reduceToNat, Nat.reduceLT, Nat.reduceAdd, Nat.reduceEqDiff, List.length_cons, List.length_nil, m32]
        rw [if_neg (by omega)]
        simp (disch := omega) only [r73_110, r73_112, r73_114, r73_115, sw_ldi, sw_ldl, sw_lda, sw_has1, sw_i1, sw_i2, sw_l1, sw_l2, sw_li, sw_r1, sw_ri, sw_rix, sw_rv, sw_pop, sw_set1, sw_set2, List.set_cons_zero, List.set_cons_succ, List.getElem?_cons_zero, List.getElem?_cons_succ, ald_1, ald_2, ast_1, ast_2, aln_1, aln_2, gf_1, gf_2, pf_1, pf_2, nw_1, ck_0, ck_1, ck_2, ck_3, ck_4, rr_1, rc_1, rc_2, K_i, K_l, K_v, I_add, I_sub, I_mul, I_div, I_em, I_eq0, I_lt0, I_0lt, I_le0, I_0le, I_eq, I_lt, I_le, I_a1, I_r1, I_eq1, I32_at, I32_s, Int.toNat_natCast, List.set_cons_zero, reduceCtorEq, not_false_eq_true, not_true_eq_false, false_and, true_and, and_true, and_false, false_or, true_or, or_true, or_false, if_true, if_false, eq_self, ↓reduceIte, Int.reduceEq, Int.reduceLT, Int.reduceLE, Int.reduceAdd, Int.reduceSub, Int.reduceMul, Int.reduceNeg, Int.reduceToNat, Nat.reduceLT, Nat.reduceAdd, Nat.reduceEqDiff, List.length_cons, List.length_nil]
        rw [if_neg c1]
        simp (disch := omega) only [r73_118, r73_119, r73_122, r73_124, r73_125, sw_ldi, sw_ldl, sw_lda, sw_has1, sw_i1, sw_i2, sw_l1, sw_l2, sw_li, sw_r1, sw_ri, sw_rix, sw_rv, sw_pop, sw_set1, sw_set2, List.set_cons_zero, List.set_cons_succ, List.getElem?_cons_zero, List.getElem?_cons_succ, ald_1, ald_2, ast_1, ast_2, aln_1, aln_2, gf_1, gf_2, pf_1, pf_2, nw_1, ck_0, ck_1, ck_2, ck_3, ck_4, rr_1, rc_1, rc_2, K_i, K_l, K_v, I_add, I_sub, I_mul, I_div, I_em, I_eq0, I_lt0, I_0lt, I_le0, I_0le, I_eq, I_lt, I_le, I_a1, I_r1, I_eq1, I32_at, I32_s, Int.toNat_natCast, List.set_cons_zero, reduceCtorEq, not_false_eq_true, not_true_eq_false, false_and, true_and, and_true, and_false, false_or, true_or, or_true, or_false, if_true, if_false, eq_self, ↓reduceIte, Int.reduceEq, Int.reduceLT, Int.reduceLE, Int.reduceAdd, Int.reduceSub, Int.reduceMul, Int.reduceNeg, Int.reduceToNat, Nat.reduceLT, Nat.reduceAdd, Nat.reduceEqDiff, List.length_cons, List.length_nil, sA_at, ss, sA_cm, h_47, h_49]
        by_cases k1 : hg (f_sb s d).toNat = 0
        · rw [if_neg (by omega)]
          simp (disch := omega) only [r73_128, r73_129, r73_131, r73_132, sw_ldi, sw_ldl, sw_lda, sw_has1, sw_i1, sw_i2, sw_l1, sw_l2, sw_li, sw_r1, sw_ri, sw_rix, sw_rv, sw_pop, sw_set1, sw_set2, List.set_cons_zero, List.set_cons_succ, List.getElem?_cons_zero, List.getElem?_cons_succ, ald_1, ald_2, ast_1, ast_2, aln_1, aln_2, gf_1, gf_2, pf_1, pf_2, nw_1, ck_0, ck_1, ck_2, ck_3, ck_4, rr_1, rc_1, rc_2, K_i, K_l, K_v, I_add, I_sub, I_mul, I_div, I_em, I_eq0, I_lt0, I_0lt, I_le0, I_0le, I_eq, I_lt, I_le, I_a1, I_r1, I_eq1, I32_at, I32_s, Int.toNat_natCast, List.set_cons_zero, reduceCtorEq, not_false_eq_true, not_true_eq_false, false_and, true_and, and_true, and_false, false_or, true_or, or_true, or_false, if_true, if_false, eq_self, ↓reduceIte, Int.reduceEq, Int.reduceLT, Int.reduceLE, Int.reduceAdd, Int.reduceSub, Int.reduceMul, Int.reduceNeg, Int.reduceToNat, Nat.reduceLT, Nat.reduceAdd, Nat.reduceEqDiff, List.length_cons, List.length_nil, sA_at, ss, sA_cm, h_9]
          by_cases k2 : A 9 (f_sb s d).toNat = 0
          · have k3 : ¬ A 48 (f_sb s d).toNat = A 48 s.toNat := fun q => c2 ⟨k1, k2, q⟩
            rw [if_neg (by omega)]
            simp (disch := omega) only [r73_135, r73_136, r73_139, r73_141, r73_142, r73_143, r73_146, r73_147, r73_148, sw_ldi, sw_ldl, sw_lda, sw_has1, sw_i1, sw_i2, sw_l1, sw_l2, sw_li, sw_r1, sw_ri, sw_rix, sw_rv, sw_pop, sw_set1, sw_set2, List.set_cons_zero, List.set_cons_succ, List.getElem?_cons_zero, List.getElem?_cons_succ, ald_1, ald_2, ast_1, ast_2, aln_1, aln_2, gf_1, gf_2, pf_1, pf_2, nw_1, ck_0, ck_1, ck_2, ck_3, ck_4, rr_1, rc_1, rc_2, K_i, K_l, K_v, I_add, I_sub, I_mul, I_div, I_em, I_eq0, I_lt0, I_0lt, I_le0, I_0le, I_eq, I_lt, I_le, I_a1, I_r1, I_eq1, I32_at, I32_s, Int.toNat_natCast, List.set_cons_zero, reduceCtorEq, not_false_eq_true, not_true_eq_false, false_and, true_and, and_true, and_false, false_or, true_or, or_true, or_false, if_true, if_false, eq_self, ↓reduceIte, Int.reduceEq, Int.reduceLT, Int.reduceLE, Int.reduceAdd, Int.reduceSub, Int.reduceMul, Int.reduceNeg, Int.reduceToNat, Nat.reduceLT, Nat.reduceAdd, Nat.reduceEqDiff, List.length_cons, List.length_nil, sA_at, ss, sA_cm, h_47, h_48]
            rw [if_pos k3]
            simp (disch := omega) only [r73_168, r73_171, sw_ldi, sw_ldl, sw_lda, sw_has1, sw_i1, sw_i2, sw_l1, sw_l2, sw_li, sw_r1, sw_ri, sw_rix, sw_rv, sw_pop, sw_set1, sw_set2, List.set_cons_zero, List.set_cons_succ, List.getElem?_cons_zero, List.getElem?_cons_succ, ald_1, ald_2, ast_1, ast_2, aln_1, aln_2, gf_1, gf_2, pf_1, pf_2, nw_1, ck_0, ck_1, ck_2, ck_3, ck_4, rr_1, rc_1, rc_2, K_i, K_l, K_v, I_add, I_sub, I_mul, I_div, I_em, I_eq0, I_lt0, I_0lt, I_le0, I_0le, I_eq, I_lt, I_le, I_a1, I_r1, I_eq1, I32_at, I32_s, Int.toNat_natCast, List.set_cons_zero, reduceCtorEq, not_false_eq_true, not_true_eq_false, false_and, true_and, and_true, and_false, false_or, true_or, or_true, or_false, if_true, if_false, eq_self, ↓reduceIte, Int.reduceEq, Int.reduceLT, Int.reduceLE, Int.reduceAdd, Int.reduceSub, Int.reduceMul, Int.reduceNeg, Int.reduceToNat, Nat.reduceLT, Nat.reduceAdd, Nat.reduceEqDiff, List.length_cons, List.length_nil]
          · rw [if_pos k2]
            simp (disch := omega) only [r73_168, r73_171, sw_ldi, sw_ldl, sw_lda, sw_has1, sw_i1, sw_i2, sw_l1, sw_l2, sw_li, sw_r1, sw_ri, sw_rix, sw_rv, sw_pop, sw_set1, sw_set2, List.set_cons_zero, List.set_cons_succ, List.getElem?_cons_zero, List.getElem?_cons_succ, ald_1, ald_2, ast_1, ast_2, aln_1, aln_2, gf_1, gf_2, pf_1, pf_2, nw_1, ck_0, ck_1, ck_2, ck_3, ck_4, rr_1, rc_1, rc_2, K_i, K_l, K_v, I_add, I_sub, I_mul, I_div, I_em, I_eq0, I_lt0, I_0lt, I_le0, I_0le, I_eq, I_lt, I_le, I_a1, I_r1, I_eq1, I32_at, I32_s, Int.toNat_natCast, List.set_cons_zero, reduceCtorEq, not_false_eq_true, not_true_eq_false, false_and, true_and, and_true, and_false, false_or, true_or, or_true, or_false, if_true, if_false, eq_self, ↓reduceIte, Int.reduceEq, Int.reduceLT, Int.reduceLE, Int.reduceAdd, Int.reduceSub, Int.reduceMul, Int.reduceNeg, Int.reduceToNat, Nat.reduceLT, Nat.reduceAdd, Nat.reduceEqDiff, List.length_cons, List.length_nil]
        · rw [if_pos k1]
          simp (disch := omega) only [r73_168, r73_171, sw_ldi, sw_ldl, sw_lda, sw_has1, sw_i1, sw_i2, sw_l1, sw_l2, sw_li, sw_r1, sw_ri, sw_rix, sw_rv, sw_pop, sw_set1, sw_set2, List.set_cons_zero, List.set_cons_succ, List.getElem?_cons_zero, List.getElem?_cons_succ, ald_1, ald_2, ast_1, ast_2, aln_1, aln_2, gf_1, gf_2, pf_1, pf_2, nw_1, ck_0, ck_1, ck_2, ck_3, ck_4, rr_1, rc_1, rc_2, K_i, K_l, K_v, I_add, I_sub, I_mul, I_div, I_em, I_eq0, I_lt0, I_0lt, I_le0, I_0le, I_eq, I_lt, I_le, I_a1, I_r1, I_eq1, I32_at, I32_s, Int.toNat_natCast, List.set_cons_zero, reduceCtorEq, not_false_eq_true, not_true_eq_false, false_and, true_and, and_true, and_false, false_or, true_or, or_true, or_false, if_true, if_false, eq_self, ↓reduceIte, Int.reduceEq, Int.reduceLT, Int.reduceLE, Int.reduceAdd, Int.reduceSub, Int.reduceMul, Int.reduceNeg, Int.reduceToNat, Nat.reduceLT, Nat.reduceAdd, Nat.reduceEqDiff, List.length_cons, List.length_nil]
end sw_hg
