/-! the law's loop over clusters -/
theorem ck_l6 {l c : Int64} {a b : Int32} {x y : Nat} {K : Prop} : sw_ck False [.long l, .int a, .int b, .long c, .ref x, .ref y] K = K := if_pos (Nat.le_of_ble_eq_true rfl)
theorem wb0 (s : Nat) : Int64.ofNat 1 <<< ((Int32.ofInt (s : Nat)).toInt64 &&& 63) = wb 0 s := by
  show (1 : Int64) <<< _ = _
  apply hb_ext
  intro i hi
  unfold wb
  rw [hb_or, hb_0, Bool.false_or]
theorem full_v : ∀ i, i < 36 → hb (Int64.ofInt 68719476735) i = true := by decide +kernel
theorem Rc_tr {ob : Nat → Int} {w u t : Nat} (h : Rc ob (fun s => s = w) u) (g : Rc ob (fun s => s = u) t) : Rc ob (fun s => s = w) t :=
  Rc_in (P := fun v => Rc ob (fun s => s = w) v) (fun x hx e => by rw [e]; exact h) (fun x y hx hy q he => Rc_s hy q he) g
theorem fst1_x {p : Nat → Bool} : ∀ (n k : Nat), (fst1 p n k = -1 ∧ ∀ t, k ≤ t → t < k + n → p t = false) ∨ ∃ m : Nat, fst1 p n k = (m : Int) ∧ k ≤ m ∧ m < k + n ∧ p m = true ∧ ∀ t, k ≤ t → t < m → p t = false
  | 0, k => Or.inl ⟨rfl, fun t h1 h2 => by omega⟩
  | n + 1, k => by
    have e : fst1 p (n + 1) k = if p k = true then (k : Int) else fst1 p n (k + 1) := rfl
    rw [e]
    by_cases c : p k = true
    · rw [if_pos c]
      exact Or.inr ⟨k, rfl, Nat.le_refl _, by omega, c, fun t h1 h2 => by omega⟩
    · rw [if_neg c]
      have c2 : p k = false := by cases z : p k with | false => rfl | true => exact absurd z c
      rcases fst1_x (p := p) n (k + 1) with ⟨h1, h2⟩ | ⟨m, h1, h2, h3, h4, h5⟩
      · refine Or.inl ⟨h1, fun t g1 g2 => ?_⟩
        by_cases z : t = k
        · rw [z]; exact c2
        · exact h2 t (by omega) (by omega)
      · refine Or.inr ⟨m, h1, by omega, by omega, h4, fun t g1 g2 => ?_⟩
        by_cases z : t = k
        · rw [z]; exact c2
        · exact h5 t (by omega) (by omega)
theorem sm_cP {w : Int64} {P : Nat → Prop} : ∀ n, (∀ t, t < n → (P t ↔ hb w t = true)) → sm (fun k => bi (hb w k)) n = cP P n
  | 0, _ => rfl
  | n + 1, h => by
    have ih := sm_cP n fun t ht => h t (by omega)
    have hn := h n (by omega)
    unfold sm cP
    rw [ih]
    cases e : hb w n with
    | true => rw [if_pos (hn.mpr e)]; rfl
    | false => rw [if_neg (fun q => by rw [hn.mp q] at e; cases e)]; rfl
def LV (ob op : Nat → Int) (i : Nat) (left : Int64) : Prop := ∀ j, j < 64 → (hb left j = true ↔ (j < 36 ∧ op j = 1 ∧ ¬ Vm9 ob op i j))
theorem K3_skip {ob op : Nat → Int} {i : Nat} : ∀ n, i + n ≤ 36 → (∀ j, i ≤ j → j < i + n → op j = 1 → Vm9 ob op i j) → K3 ob op (i + n) = K3 ob op i ∧ ∀ t, Vm9 ob op (i + n) t ↔ Vm9 ob op i t
  | 0, _, _ => ⟨rfl, fun t => Iff.rfl⟩
  | n + 1, hn, h => by
    obtain ⟨h1, h2⟩ := K3_skip (ob := ob) (op := op) (i := i) n (by omega) fun j g1 g2 => h j g1 (by omega)
    have nl : ¬ Ld ob op (i + n) := fun q => by
      obtain ⟨-, u, u1, u2, u3⟩ := h (i + n) (by omega) (by omega) q.1
      exact q.2 ⟨u, by omega, u2, u3⟩
    refine ⟨?_, fun t => ?_⟩
    · rw [← h1]
      exact if_neg nl
    · constructor
      · rintro ⟨g1, u, g2, g3, g4⟩
        by_cases c : u < i
        · exact ⟨g1, u, c, g3, g4⟩
        · obtain ⟨-, w, w1, w2, w3⟩ := h u (by omega) (by omega) g3
          exact ⟨g1, w, w1, w2, Rc_tr w3 g4⟩
      · rintro ⟨g1, u, g2, g3, g4⟩
        exact ⟨g1, u, by omega, g3, g4⟩
theorem LV_0 {ob op : Nat → Int} {i : Nat} (hi : i ≤ 36) (h : LV ob op i 0) : K3 ob op 36 = K3 ob op i := by
  have := (K3_skip (ob := ob) (op := op) (i := i) (36 - i) (by omega) fun j g1 g2 g3 => Classical.byContradiction fun c => by
    have := (h j (by omega)).mpr ⟨by omega, g3, c⟩
    rw [hb_0] at this
    cases this).1
  rwa [show i + (36 - i) = 36 by omega] at this
theorem LV_s {ob op : Nat → Int} {i m : Nat} {left next : Int64} (hm : m < 36) (h : LV ob op i left) (m1 : hb left m = true) (m2 : ∀ t, t < m → hb left t = false) (hx : ∀ t, t < 36 → (Rc ob (fun s => s = m) t ↔ hb next t = true)) (hx2 : ∀ t, t < 64 → hb next t = true → t < 36) : i ≤ m ∧ K3 ob op (m + 1) = ((K3 ob op i).1 + 1, (if (K3 ob op i).2.1 < csz ob m then csz ob m else (K3 ob op i).2.1), (K3 ob op i).2.2 + csz ob m * csz ob m) ∧ LV ob op (m + 1) (left &&& (next ^^^ Int64.ofInt (-1))) := by
  have hm1 := (h m (by omega)).mp m1
  have im : i ≤ m := Classical.byContradiction fun c => hm1.2.2 ⟨hm, m, by omega, hm1.2.1, Rc_0 hm rfl⟩
  obtain ⟨k1, k2⟩ := K3_skip (ob := ob) (op := op) (i := i) (m - i) (by omega) fun j g1 g2 g3 => Classical.byContradiction fun c => by
    have := (h j (by omega)).mpr ⟨by omega, g3, c⟩
    rw [m2 j (by omega)] at this
    cases this
  rw [show i + (m - i) = m by omega] at k1 k2
  have hL : Ld ob op m := ⟨hm1.2.1, fun q => hm1.2.2 ((k2 m).mp ⟨hm, q⟩)⟩
  refine ⟨im, ?_, fun j hj => ?_⟩
  · rw [← k1]
    exact if_pos hL
  · have e : Vm9 ob op (m + 1) j ↔ (Vm9 ob op i j ∨ (j < 36 ∧ Rc ob (fun s => s = m) j)) := by
      rw [← k2 j]
      constructor
      · rintro ⟨h1, u, h2, h3, h4⟩
        by_cases e : u = m
        · subst e; exact Or.inr ⟨h1, h4⟩
        · exact Or.inl ⟨h1, u, by omega, h3, h4⟩
      · rintro (⟨h1, u, h2, h3, h4⟩ | ⟨h1, h2⟩)
        · exact ⟨h1, u, by omega, h3, h4⟩
        · exact ⟨h1, m, by omega, hm1.2.1, h2⟩
    rw [hb_and, hb_xor, hb_m1 j hj, Bool.and_eq_true, h j hj, e]
    constructor
    · rintro ⟨⟨g1, g2, g3⟩, g4⟩
      refine ⟨g1, g2, fun q => ?_⟩
      rcases q with q | q
      · exact g3 q
      · rw [(hx j g1).mp q.2] at g4; cases g4
    · rintro ⟨g1, g2, g3⟩
      refine ⟨⟨g1, g2, fun q => g3 (Or.inl q)⟩, ?_⟩
      cases e : hb next j with
      | false => rfl
      | true => exact absurd (Or.inr ⟨g1, (hx j g1).mpr e⟩) g3
theorem full_Gr {A : Nat → Nat → Int} {nb ns : Nat → Int} {shut r : Int64} {k p : Int} (hA : Nm A) (hS : Sm A nb ns shut) (g : Gr (leb nb ns shut k p (-1)) (gs shut (Int64.ofInt 68719476735) ns k p 36) r) : LV (ob2 A k p) (os2 A k p) 0 r := by
  intro j hj
  obtain ⟨g1, g2, g3⟩ := g
  have st := gs_v (sh := shut) (frm := Int64.ofInt 68719476735) (ns := ns) (k := k) (p := p) 36 (Nat.le_refl _)
  have ob : ∀ i, i < 36 → (¬ os2 A k p i = 0 ↔ os2 A k p i = 1) := fun i _ => by
    have := os2_b (A := A) (k := k) (p := p) i
    omega
  constructor
  · intro q
    have := g3 (fun i => i < 36 ∧ ¬ os2 A k p i = 0) (fun i hi z => by
      have z2 := (st i hi).mp z
      exact ⟨z2.1, (os_iff hA hS z2.1).mpr z2.2.2⟩) (fun b hb2 z => by
      have z2 := (le_iff hA hS hb2).mp z
      have l1 := (lo_lt hb2).1
      have l2 := (hi_lt hb2).1
      have e2 : ob2 A k p b = f_ob (os2 A k p (lo b)) (os2 A k p (hi b)) (A 3 b) k p := rfl
      rw [e2] at z2
      unfold f_ob at z2
      split at z2
      · next c => exact ⟨fun _ => ⟨l2, by omega⟩, fun _ => ⟨l1, by omega⟩⟩
      · exact absurd rfl z2) j hj q
    exact ⟨this.1, (ob j this.1).mp this.2, fun ⟨_, u, hu, _⟩ => absurd hu (Nat.not_lt_zero _)⟩
  · rintro ⟨q1, q2, -⟩
    exact g1 j hj ((st j hj).mpr ⟨q1, full_v j q1, (os_iff hA hS q1).mp (by omega)⟩)
section sw_s8
variable {H : sw_HS} {Q : sw_Ot → sw_HS → Prop} {rb rs : Nat} {nb ns : Nat → Int} {shut its : Int64} {k p : Int} {A : Nat → Nat → Int} {x0 x7 x8 x9 : Value}
theorem m130_c (hA : Nm A) (hS : Sm A nb ns shut) (hb0 : H.1 rb = .inr (0, 60, I32 nb)) (hs0 : H.1 rs = .inr (0, 36, I32 ns)) (nb1 : ∀ i, i < 60 → 0 ≤ nb i ∧ nb i < 1000) (ns1 : ∀ i, i < 36 → 0 ≤ ns i ∧ ns i < 1000) (k0 : 0 ≤ k) (k1 : k ≤ 2) (p0 : -1 ≤ p) (p1 : p ≤ 1000) : ∀ (d i : Nat) (left : Int64) (x17 x19 : Option Value), 36 - i ≤ d → i ≤ 36 → ((x17 = none ∧ x19 = none) ∨ ∃ l n, x17 = some (.long l) ∧ x19 = some (.int n)) → LV (ob2 A k p) (os2 A k p) i left → ∃ y17 y19 : Option Value, ((y17 = none ∧ y19 = none) ∨ ∃ l n, y17 = some (.long l) ∧ y19 = some (.int n)) ∧
    sw_A 130 120 [some x0, some (.ref rb), some (.ref rs), some (.long shut), none, some (.int (Int32.ofInt k)), some (.int (Int32.ofInt p)), some x7, some x8, some x9, some (.long its), none, some (.long left), none, some (.int (Int32.ofInt (K3 (ob2 A k p) (os2 A k p) i).1)), some (.int (Int32.ofInt (K3 (ob2 A k p) (os2 A k p) i).2.1)), some (.int (Int32.ofInt (K3 (ob2 A k p) (os2 A k p) i).2.2)), x17, none, x19, none] [] H Q =
    sw_A 130 192 [some x0, some (.ref rb), some (.ref rs), some (.long shut), none, some (.int (Int32.ofInt k)), some (.int (Int32.ofInt p)), some x7, some x8, some x9, some (.long its), none, some (.long 0), none, some (.int (Int32.ofInt (K3 (ob2 A k p) (os2 A k p) 36).1)), some (.int (Int32.ofInt (K3 (ob2 A k p) (os2 A k p) 36).2.1)), some (.int (Int32.ofInt (K3 (ob2 A k p) (os2 A k p) 36).2.2)), y17, none, y19, none] [] H Q := by
  intro d
  induction d with
  | zero =>
    intro i left x17 x19 hd hi hx h
    have e : i = 36 := by omega
    subst e
    have l0 : left = 0 := hb_ext _ _ fun j hj => by
      rw [hb_0]
      cases e : hb left j with
      | false => rfl
      | true =>
        have := (h j hj).mp e
        exact absurd ⟨this.1, j, this.1, this.2.1, Rc_0 this.1 rfl⟩ this.2.2
    subst l0
    refine ⟨x17, x19, hx, ?_⟩
    rw [r130_120]
    simp (disch := omega) only [r130_122, r130_123, sw_ldi, sw_ldl, sw_lda, sw_has1, sw_i1, sw_i2, sw_l1, sw_l2, sw_li, sw_r1, sw_ri, sw_rix, sw_rv, sw_pop, sw_set1, sw_set2, List.set_cons_zero, List.set_cons_succ, List.getElem?_cons_zero, List.getElem?_cons_succ, ald_1, ald_2, ast_1, ast_2, aln_1, aln_2, gf_1, gf_2, pf_1, pf_2, nw_1, ck_0, ck_1, ck_2, ck_3, ck_4, rr_1, rc_1, rc_2, K_i, K_l, K_v, I_add, I_sub, I_mul, I_div, I_em, I_eq0, I_lt0, I_0lt, I_le0, I_0le, I_eq, I_lt, I_le, I_a1, I_r1, I_eq1, I32_at, I32_s, Int.toNat_natCast, List.set_cons_zero, reduceCtorEq, not_false_eq_true, not_true_eq_false, false_and, true_and, and_true, and_false, false_or, true_or, or_true, or_false, if_true, if_false, eq_self, ↓reduceIte, Int.reduceEq, Int.reduceLT, Int.reduceLE, Int.reduceAdd, Int.reduceSub, Int.reduceMul, Int.reduceNeg, Int.reduceToNat, Nat.reduceLT, Nat.reduceAdd, Nat.reduceEqDiff, List.length_cons, List.length_nil]
    rw [r130_124]
    simp only [sw_i1]
    rw [show Int64.ofNat 0 = 0 from rfl, if_pos ((lg_0 _ _).mpr rfl)]
  | succ d ih =>
    intro i left x17 x19 hd hi hx h
    by_cases c : left = 0
    · subst c
      have e := LV_0 hi h
      refine ⟨x17, x19, hx, ?_⟩
      rw [e, r130_120]
      simp (disch := omega) only [r130_122, r130_123, sw_ldi, sw_ldl, sw_lda, sw_has1, sw_i1, sw_i2, sw_l1, sw_l2, sw_li, sw_r1, sw_ri, sw_rix, sw_rv, sw_pop, sw_set1, sw_set2, List.set_cons_zero, List.set_cons_succ, List.getElem?_cons_zero, List.getElem?_cons_succ, ald_1, ald_2, ast_1, ast_2, aln_1, aln_2, gf_1, gf_2, pf_1, pf_2, nw_1, ck_0, ck_1, ck_2, ck_3, ck_4, rr_1, rc_1, rc_2, K_i, K_l, K_v, I_add, I_sub, I_mul, I_div, I_em, I_eq0, I_lt0, I_0lt, I_le0, I_0le, I_eq, I_lt, I_le, I_a1, I_r1, I_eq1, I32_at, I32_s, Int.toNat_natCast, List.set_cons_zero, reduceCtorEq, not_false_eq_true, not_true_eq_false, false_and, true_and, and_true, and_false, false_or, true_or, or_true, or_false, if_true, if_false, eq_self, ↓reduceIte, Int.reduceEq, Int.reduceLT, Int.reduceLE, Int.reduceAdd, Int.reduceSub, Int.reduceMul, Int.reduceNeg, Int.reduceToNat, Nat.reduceLT, Nat.reduceAdd, Nat.reduceEqDiff, List.length_cons, List.length_nil]
      rw [r130_124]
      simp only [sw_i1]
      rw [show Int64.ofNat 0 = 0 from rfl, if_pos ((lg_0 _ _).mpr rfl)]
    · rcases fst1_x (p := hb left) 36 0 with ⟨-, f2⟩ | ⟨m, f1, -, f3, f4, f5⟩
      · refine absurd (hb_ext _ _ fun j hj => ?_) c
        rw [hb_0]
        cases e : hb left j with
        | false => rfl
        | true =>
          have := (h j hj).mp e
          rw [f2 j (by omega) (by omega)] at e
          cases e
      · obtain ⟨r, g1, g2⟩ := m82 (H := H) (frm := wb 0 m) (shut := shut) (wo := -1) (Q := sw_K 130 145 none [some x0, some (.ref rb), some (.ref rs), some (.long shut), none, some (.int (Int32.ofInt k)), some (.int (Int32.ofInt p)), some x7, some x8, some x9, some (.long its), none, some (.long left), none, some (.int (Int32.ofInt (K3 (ob2 A k p) (os2 A k p) i).1)), some (.int (Int32.ofInt (K3 (ob2 A k p) (os2 A k p) i).2.1)), some (.int (Int32.ofInt (K3 (ob2 A k p) (os2 A k p) i).2.2)), x17, none, x19, none] [] Q) (by omega) (by omega) hb0 hs0 nb1 ns1 k0 k1 p0 p1
        have hm : m < 36 := by omega
        have om := ((h m (by omega)).mp f4).2.1
        have key : ∀ t, t < 36 → (Rc (ob2 A k p) (fun s => s = m) t ↔ hb r t = true) := fun t ht => Rc_Gr hA hS (fun v hv => by
          rw [hb_wb 0 m v (by omega) (by omega), hb_0, Bool.false_or, decide_eq_true_iff]
          exact ⟨fun e => ⟨e, by rw [e, om]; decide⟩, fun q => q.1⟩) g1 ht
        obtain ⟨s1, s2, s3⟩ := LV_s hm h f4 (fun t ht => f5 t (Nat.zero_le _) ht) key (fun t ht q => Gr_lt g1 ht q)
        have sz : sm (fun k => bi (hb r k)) 36 = csz (ob2 A k p) m := sm_cP 36 key
        have cb := cP_b (Rc (ob2 A k p) (fun t => t = m)) 36
        have ce : csz (ob2 A k p) m = cP (Rc (ob2 A k p) (fun t => t = m)) 36 := rfl
        have kb := K3_b (ob2 A k p) (os2 A k p) i
        obtain ⟨y17, y19, hy, q⟩ := ih (m + 1) (left &&& (r ^^^ Int64.ofInt (-1))) (some (.long r)) (some (.int (Int32.ofInt (csz (ob2 A k p) m)))) (by omega) (by omega) (Or.inr ⟨_, _, rfl, rfl⟩) s3
        refine ⟨y17, y19, hy, Eq.trans ?_ q⟩
        rw [s2, r130_120]
        simp (disch := omega) only [r130_122, r130_123, sw_ldi, sw_ldl, sw_lda, sw_has1, sw_i1, sw_i2, sw_l1, sw_l2, sw_li, sw_r1, sw_ri, sw_rix, sw_rv, sw_pop, sw_set1, sw_set2, List.set_cons_zero, List.set_cons_succ, List.getElem?_cons_zero, List.getElem?_cons_succ, ald_1, ald_2, ast_1, ast_2, aln_1, aln_2, gf_1, gf_2, pf_1, pf_2, nw_1, ck_0, ck_1, ck_2, ck_3, ck_4, rr_1, rc_1, rc_2, K_i, K_l, K_v, I_add, I_sub, I_mul, I_div, I_em, I_eq0, I_lt0, I_0lt, I_le0, I_0le, I_eq, I_lt, I_le, I_a1, I_r1, I_eq1, I32_at, I32_s, Int.toNat_natCast, List.set_cons_zero, reduceCtorEq, not_false_eq_true, not_true_eq_false, false_and, true_and, and_true, and_false, false_or, true_or, or_true, or_false, if_true, if_false, eq_self, ↓reduceIte, Int.reduceEq, Int.reduceLT, Int.reduceLE, Int.reduceAdd, Int.reduceSub, Int.reduceMul, Int.reduceNeg, Int.reduceToNat, Nat.reduceLT, Nat.reduceAdd, Nat.reduceEqDiff, List.length_cons, List.length_nil]
        rw [r130_124]
        simp only [sw_i1]
        rw [show Int64.ofNat 0 = 0 from rfl, if_neg (fun q => c ((lg_0 _ _).mp q))]
        simp (disch := omega) only [r130_127, r130_128, r130_129, r130_130, r130_132, r130_134, r130_135, r130_137, r130_140, r130_141, r130_142, sw_ldi, sw_ldl, sw_lda, sw_has1, sw_i1, sw_i2, sw_l1, sw_l2, sw_li, sw_r1, sw_ri, sw_rix, sw_rv, sw_pop, sw_set1, sw_set2, List.set_cons_zero, List.set_cons_succ, List.getElem?_cons_zero, List.getElem?_cons_succ, ald_1, ald_2, ast_1, ast_2, aln_1, aln_2, gf_1, gf_2, pf_1, pf_2, nw_1, ck_0, ck_1, ck_2, ck_3, ck_4, rr_1, rc_1, rc_2, K_i, K_l, K_v, I_add, I_sub, I_mul, I_div, I_em, I_eq0, I_lt0, I_0lt, I_le0, I_0le, I_eq, I_lt, I_le, I_a1, I_r1, I_eq1, I32_at, I32_s, Int.toNat_natCast, List.set_cons_zero, reduceCtorEq, not_false_eq_true, not_true_eq_false, false_and, true_and, and_true, and_false, false_or, true_or, or_true, or_false, if_true, if_false, eq_self, ↓reduceIte, Int.reduceEq, Int.reduceLT, Int.reduceLE, Int.reduceAdd, Int.reduceSub, Int.reduceMul, Int.reduceNeg, Int.reduceToNat, Nat.reduceLT, Nat.reduceAdd, Nat.reduceEqDiff, List.length_cons, List.length_nil, m100, ck_l6, f1, wb0]
        rw [g2]
        generalize csz (ob2 A k p) m = z at *
        rcases hx with ⟨rfl, rfl⟩ | ⟨l, n, rfl, rfl⟩
        · simp (disch := omega) only [r130_145, r130_147, r130_149, r130_152, r130_154, r130_157, r130_159, r130_161, r130_163, r130_164, r130_165, r130_167, r130_169, sw_ldi, sw_ldl, sw_lda, sw_has1, sw_i1, sw_i2, sw_l1, sw_l2, sw_li, sw_r1, sw_ri, sw_rix, sw_rv, sw_pop, sw_set1, sw_set2, List.set_cons_zero, List.set_cons_succ, List.getElem?_cons_zero, List.getElem?_cons_succ, ald_1, ald_2, ast_1, ast_2, aln_1, aln_2, gf_1, gf_2, pf_1, pf_2, nw_1, ck_0, ck_1, ck_2, ck_3, ck_4, rr_1, rc_1, rc_2, K_i, K_l, K_v, I_add, I_sub, I_mul, I_div, I_em, I_eq0, I_lt0, I_0lt, I_le0, I_0le, I_eq, I_lt, I_le, I_a1, I_r1, I_eq1, I32_at, I32_s, Int.toNat_natCast, List.set_cons_zero, reduceCtorEq, not_false_eq_true, not_true_eq_false, false_and, true_and, and_true, and_false, false_or, true_or, or_true, or_false, if_true, if_false, eq_self, ↓reduceIte, Int.reduceEq, Int.reduceLT, Int.reduceLE, Int.reduceAdd, Int.reduceSub, Int.reduceMul, Int.reduceNeg, Int.reduceToNat, Nat.reduceLT, Nat.reduceAdd, Nat.reduceEqDiff, List.length_cons, List.length_nil, m37, sz]
          rw [r130_171]
          simp (disch := omega) only [sw_ldi, sw_ldl, sw_lda, sw_has1, sw_i1, sw_i2, sw_l1, sw_l2, sw_li, sw_r1, sw_ri, sw_rix, sw_rv, sw_pop, sw_set1, sw_set2, List.set_cons_zero, List.set_cons_succ, List.getElem?_cons_zero, List.getElem?_cons_succ, ald_1, ald_2, ast_1, ast_2, aln_1, aln_2, gf_1, gf_2, pf_1, pf_2, nw_1, ck_0, ck_1, ck_2, ck_3, ck_4, rr_1, rc_1, rc_2, K_i, K_l, K_v, I_add, I_sub, I_mul, I_div, I_em, I_eq0, I_lt0, I_0lt, I_le0, I_0le, I_eq, I_lt, I_le, I_a1, I_r1, I_eq1, I32_at, I32_s, Int.toNat_natCast, List.set_cons_zero, reduceCtorEq, not_false_eq_true, not_true_eq_false, false_and, true_and, and_true, and_false, false_or, true_or, or_true, or_false, if_true, if_false, eq_self, ↓reduceIte, Int.reduceEq, Int.reduceLT, Int.reduceLE, Int.reduceAdd, Int.reduceSub, Int.reduceMul, Int.reduceNeg, Int.reduceToNat, Nat.reduceLT, Nat.reduceAdd, Nat.reduceEqDiff, List.length_cons, List.length_nil]
          by_cases cz : (K3 (ob2 A k p) (os2 A k p) i).2.1 < z
          · rw [if_neg (by omega), if_pos cz]
            simp (disch := omega) only [r130_174, r130_176, r130_178, r130_180, r130_182, r130_185, r130_186, r130_187, r130_189, sw_ldi, sw_ldl, sw_lda, sw_has1, sw_i1, sw_i2, sw_l1, sw_l2, sw_li, sw_r1, sw_ri, sw_rix, sw_rv, sw_pop, sw_set1, sw_set2, List.set_cons_zero, List.set_cons_succ, List.getElem?_cons_zero, List.getElem?_cons_succ, ald_1, ald_2, ast_1, ast_2, aln_1, aln_2, gf_1, gf_2, pf_1, pf_2, nw_1, ck_0, ck_1, ck_2, ck_3, ck_4, rr_1, rc_1, rc_2, K_i, K_l, K_v, I_add, I_sub, I_mul, I_div, I_em, I_eq0, I_lt0, I_0lt, I_le0, I_0le, I_eq, I_lt, I_le, I_a1, I_r1, I_eq1, I32_at, I32_s, Int.toNat_natCast, List.set_cons_zero, reduceCtorEq, not_false_eq_true, not_true_eq_false, false_and, true_and, and_true, and_false, false_or, true_or, or_true, or_false, if_true, if_false, eq_self, ↓reduceIte, Int.reduceEq, Int.reduceLT, Int.reduceLE, Int.reduceAdd, Int.reduceSub, Int.reduceMul, Int.reduceNeg, Int.reduceToNat, Nat.reduceLT, Nat.reduceAdd, Nat.reduceEqDiff, List.length_cons, List.length_nil]
          · rw [if_pos (by omega), if_neg cz]
            simp (disch := omega) only [r130_174, r130_176, r130_178, r130_180, r130_182, r130_185, r130_186, r130_187, r130_189, sw_ldi, sw_ldl, sw_lda, sw_has1, sw_i1, sw_i2, sw_l1, sw_l2, sw_li, sw_r1, sw_ri, sw_rix, sw_rv, sw_pop, sw_set1, sw_set2, List.set_cons_zero, List.set_cons_succ, List.getElem?_cons_zero, List.getElem?_cons_succ, ald_1, ald_2, ast_1, ast_2, aln_1, aln_2, gf_1, gf_2, pf_1, pf_2, nw_1, ck_0, ck_1, ck_2, ck_3, ck_4, rr_1, rc_1, rc_2, K_i, K_l, K_v, I_add, I_sub, I_mul, I_div, I_em, I_eq0, I_lt0, I_0lt, I_le0, I_0le, I_eq, I_lt, I_le, I_a1, I_r1, I_eq1, I32_at, I32_s, Int.toNat_natCast, List.set_cons_zero, reduceCtorEq, not_false_eq_true, not_true_eq_false, false_and, true_and, and_true, and_false, false_or, true_or, or_true, or_false, if_true, if_false, eq_self, ↓reduceIte, Int.reduceEq, Int.reduceLT, Int.reduceLE, Int.reduceAdd, Int.reduceSub, Int.reduceMul, Int.reduceNeg, Int.reduceToNat, Nat.reduceLT, Nat.reduceAdd, Nat.reduceEqDiff, List.length_cons, List.length_nil]
        · simp (disch := omega) only [r130_145, r130_147, r130_149, r130_152, r130_154, r130_157, r130_159, r130_161, r130_163, r130_164, r130_165, r130_167, r130_169, sw_ldi, sw_ldl, sw_lda, sw_has1, sw_i1, sw_i2, sw_l1, sw_l2, sw_li, sw_r1, sw_ri, sw_rix, sw_rv, sw_pop, sw_set1, sw_set2, List.set_cons_zero, List.set_cons_succ, List.getElem?_cons_zero, List.getElem?_cons_succ, ald_1, ald_2, ast_1, ast_2, aln_1, aln_2, gf_1, gf_2, pf_1, pf_2, nw_1, ck_0, ck_1, ck_2, ck_3, ck_4, rr_1, rc_1, rc_2, K_i, K_l, K_v, I_add, I_sub, I_mul, I_div, I_em, I_eq0, I_lt0, I_0lt, I_le0, I_0le, I_eq, I_lt, I_le, I_a1, I_r1, I_eq1, I32_at, I32_s, Int.toNat_natCast, List.set_cons_zero, reduceCtorEq, not_false_eq_true, not_true_eq_false, false_and, true_and, and_true, and_false, false_or, true_or, or_true, or_false, if_true, if_false, eq_self, ↓reduceIte, Int.reduceEq, Int.reduceLT, Int.reduceLE, Int.reduceAdd, Int.reduceSub, Int.reduceMul, Int.reduceNeg, Int.reduceToNat, Nat.reduceLT, Nat.reduceAdd, Nat.reduceEqDiff, List.length_cons, List.length_nil, m37, sz]
          rw [r130_171]
          simp (disch := omega) only [sw_ldi, sw_ldl, sw_lda, sw_has1, sw_i1, sw_i2, sw_l1, sw_l2, sw_li, sw_r1, sw_ri, sw_rix, sw_rv, sw_pop, sw_set1, sw_set2, List.set_cons_zero, List.set_cons_succ, List.getElem?_cons_zero, List.getElem?_cons_succ, ald_1, ald_2, ast_1, ast_2, aln_1, aln_2, gf_1, gf_2, pf_1, pf_2, nw_1, ck_0, ck_1, ck_2, ck_3, ck_4, rr_1, rc_1, rc_2, K_i, K_l, K_v, I_add, I_sub, I_mul, I_div, I_em, I_eq0, I_lt0, I_0lt, I_le0, I_0le, I_eq, I_lt, I_le, I_a1, I_r1, I_eq1, I32_at, I32_s, Int.toNat_natCast, List.set_cons_zero, reduceCtorEq, not_false_eq_true, not_true_eq_false, false_and, true_and, and_true, and_false, false_or, true_or, or_true, or_false, if_true, if_false, eq_self, ↓reduceIte, Int.reduceEq, Int.reduceLT, Int.reduceLE, Int.reduceAdd, Int.reduceSub, Int.reduceMul, Int.reduceNeg, Int.reduceToNat, Nat.reduceLT, Nat.reduceAdd, Nat.reduceEqDiff, List.length_cons, List.length_nil]
          by_cases cz : (K3 (ob2 A k p) (os2 A k p) i).2.1 < z
          · rw [if_neg (by omega), if_pos cz]
            simp (disch := omega) only [r130_174, r130_176, r130_178, r130_180, r130_182, r130_185, r130_186, r130_187, r130_189, sw_ldi, sw_ldl, sw_lda, sw_has1, sw_i1, sw_i2, sw_l1, sw_l2, sw_li, sw_r1, sw_ri, sw_rix, sw_rv, sw_pop, sw_set1, sw_set2, List.set_cons_zero, List.set_cons_succ, List.getElem?_cons_zero, List.getElem?_cons_succ, ald_1, ald_2, ast_1, ast_2, aln_1, aln_2, gf_1, gf_2, pf_1, pf_2, nw_1, ck_0, ck_1, ck_2, ck_3, ck_4, rr_1, rc_1, rc_2, K_i, K_l, K_v, I_add, I_sub, I_mul, I_div, I_em, I_eq0, I_lt0, I_0lt, I_le0, I_0le, I_eq, I_lt, I_le, I_a1, I_r1, I_eq1, I32_at, I32_s, Int.toNat_natCast, List.set_cons_zero, reduceCtorEq, not_false_eq_true, not_true_eq_false, false_and, true_and, and_true, and_false, false_or, true_or, or_true, or_false, if_true, if_false, eq_self, ↓reduceIte, Int.reduceEq, Int.reduceLT, Int.reduceLE, Int.reduceAdd, Int.reduceSub, Int.reduceMul, Int.reduceNeg, Int.reduceToNat, Nat.reduceLT, Nat.reduceAdd, Nat.reduceEqDiff, List.length_cons, List.length_nil]
          · rw [if_pos (by omega), if_neg cz]
            simp (disch := omega) only [r130_174, r130_176, r130_178, r130_180, r130_182, r130_185, r130_186, r130_187, r130_189, sw_ldi, sw_ldl, sw_lda, sw_has1, sw_i1, sw_i2, sw_l1, sw_l2, sw_li, sw_r1, sw_ri, sw_rix, sw_rv, sw_pop, sw_set1, sw_set2, List.set_cons_zero, List.set_cons_succ, List.getElem?_cons_zero, List.getElem?_cons_succ, ald_1, ald_2, ast_1, ast_2, aln_1, aln_2, gf_1, gf_2, pf_1, pf_2, nw_1, ck_0, ck_1, ck_2, ck_3, ck_4, rr_1, rc_1, rc_2, K_i, K_l, K_v, I_add, I_sub, I_mul, I_div, I_em, I_eq0, I_lt0, I_0lt, I_le0, I_0le, I_eq, I_lt, I_le, I_a1, I_r1, I_eq1, I32_at, I32_s, Int.toNat_natCast, List.set_cons_zero, reduceCtorEq, not_false_eq_true, not_true_eq_false, false_and, true_and, and_true, and_false, false_or, true_or, or_true, or_false, if_true, if_false, eq_self, ↓reduceIte, Int.reduceEq, Int.reduceLT, Int.reduceLE, Int.reduceAdd, Int.reduceSub, Int.reduceMul, Int.reduceNeg, Int.reduceToNat, Nat.reduceLT, Nat.reduceAdd, Nat.reduceEqDiff, List.length_cons, List.length_nil]
end sw_s8
