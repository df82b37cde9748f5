/-! sets of fibres as bits of an int -/
def qb (w : Int32) (i : Nat) : Bool := w.toBitVec.getLsbD i
theorem sm32 : ∀ i, i < 32 → ((Int32.ofInt (i : Nat)) &&& 31).toBitVec.smod 32 = BitVec.ofNat 32 i := by decide +kernel
theorem shr_32 (w : Int32) (i : Nat) (hi : i < 32) : (w >>> (Int32.ofInt (i : Nat) &&& 31)).toBitVec = w.toBitVec.sshiftRight i := by
  have e : (Int32.ofInt (i : Nat) &&& 31).toBitVec.smod 32 = BitVec.ofNat 32 i := sm32 i hi
  rw [Int32.toBitVec_shiftRight, e, BitVec.sshiftRight_eq', BitVec.toNat_ofNat, Nat.mod_eq_of_lt (by omega)]
theorem shl_32 (w : Int32) (i : Nat) (hi : i < 32) : (w <<< (Int32.ofInt (i : Nat) &&& 31)).toBitVec = w.toBitVec <<< i := by
  have e : (Int32.ofInt (i : Nat) &&& 31).toBitVec.smod 32 = BitVec.ofNat 32 i := sm32 i hi
  rw [Int32.toBitVec_shiftLeft, e, BitVec.shiftLeft_eq', BitVec.toNat_ofNat, Nat.mod_eq_of_lt (by omega)]
theorem has_32 (w : Int32) (i : Nat) (hi : i < 31) : ((w >>> (Int32.ofInt (i : Nat) &&& 31)) &&& Int32.ofInt 1) = Int32.ofInt (bi (qb w i)) := by
  have key : ((w >>> (Int32.ofInt (i : Nat) &&& 31)) &&& Int32.ofInt 1) = if qb w i = true then 1 else 0 := by
    apply Int32.toBitVec_inj.mp
    rw [Int32.toBitVec_and, shr_32 w i (by omega)]
    apply BitVec.eq_of_getLsbD_eq
    intro j hj
    rw [BitVec.getLsbD_and, BitVec.getLsbD_sshiftRight]
    unfold qb
    by_cases e : j = 0
    · subst e
      have e1 : (Int32.ofInt 1).toBitVec.getLsbD 0 = true := by decide
      rw [e1]
      cases h : w.toBitVec.getLsbD i <;> simp [h] <;> omega
    · have e1 : (Int32.ofInt 1).toBitVec.getLsbD j = false := by
        show (1#32).getLsbD j = false
        rw [BitVec.getLsbD_one]
        simp [e]
      rw [e1, Bool.and_false]
      split
      · exact e1.symm
      · simp
  rw [key]
  cases qb w i <;> rfl
theorem qb_or (a b : Int32) (i : Nat) : qb (a ||| b) i = (qb a i || qb b i) := by unfold qb; rw [Int32.toBitVec_or, BitVec.getLsbD_or]
theorem qb_and (a b : Int32) (i : Nat) : qb (a &&& b) i = (qb a i && qb b i) := by unfold qb; rw [Int32.toBitVec_and, BitVec.getLsbD_and]
theorem qb_xor (a b : Int32) (i : Nat) : qb (a ^^^ b) i = (qb a i != qb b i) := by unfold qb; rw [Int32.toBitVec_xor, BitVec.getLsbD_xor]
theorem qb_m1 (i : Nat) (hi : i < 32) : qb (Int32.ofInt (-1)) i = true := by
  unfold qb
  show (BitVec.allOnes 32).getLsbD i = true
  rw [BitVec.getLsbD_allOnes]
  simp [hi]
theorem qb_0 (i : Nat) : qb (Int32.ofInt 0) i = false := by unfold qb; show (0#32).getLsbD i = false; exact BitVec.getLsbD_zero
theorem qb_sh (i j : Nat) (hi : i < 32) (hj : j < 32) : qb (Int32.ofInt 1 <<< (Int32.ofInt (i : Nat) &&& 31)) j = decide (j = i) := by
  unfold qb
  rw [shl_32 _ i hi, BitVec.getLsbD_shiftLeft]
  show (decide (j < 32) && !decide (j < i) && (1#32).getLsbD (j - i)) = _
  rw [BitVec.getLsbD_one]
  by_cases e : j = i
  · subst e; simp [hj]
  · by_cases c : j < i
    · simp [c, e]
    · have : ¬ j - i = 0 := by omega
      simp [e, this]
theorem qb_ext (a b : Int32) (h : ∀ i, i < 32 → qb a i = qb b i) : a = b := Int32.toBitVec_inj.mp (BitVec.eq_of_getLsbD_eq fun i hi => h i hi)
theorem qb_all : ∀ f, f < 12 → qb (Int32.ofInt 4095) f = true := by decide +kernel
/-- those that fall, among the first n -/
def flr (br : Nat → Int) : Nat → Int32
  | 0 => Int32.ofInt 0
  | n + 1 => if br n = 1 then flr br n ||| (Int32.ofInt 1 <<< (Int32.ofInt (n : Nat) &&& 31)) else flr br n
theorem flr_v {br : Nat → Int} : ∀ n, n ≤ 12 → ∀ f, f < 32 → (qb (flr br n) f = true ↔ (f < n ∧ br f = 1))
  | 0, _, f, hf => by
    show qb (Int32.ofInt 0) f = true ↔ _
    rw [qb_0]
    exact ⟨fun q => (by cases q), fun q => absurd q.1 (Nat.not_lt_zero _)⟩
  | n + 1, hn, f, hf => by
    have ih := flr_v (br := br) n (by omega) f hf
    unfold flr
    by_cases c : br n = 1
    · rw [if_pos c, qb_or, Bool.or_eq_true, ih, qb_sh n f (by omega) hf, decide_eq_true_iff]
      constructor
      · rintro (q | q)
        · exact ⟨by omega, q.2⟩
        · subst q; exact ⟨by omega, c⟩
      · intro q
        by_cases e : f = n
        · exact Or.inr e
        · exact Or.inl ⟨by omega, q.2⟩
    · rw [if_neg c, ih]
      constructor
      · intro q; exact ⟨by omega, q.2⟩
      · intro q
        by_cases e : f = n
        · subst e; exact absurd q.2 c
        · exact ⟨by omega, q.2⟩
theorem flr_0 {br : Nat → Int} (hb9 : ∀ f, f < 12 → br f = 0 ∨ br f = 1) : flr br 12 = 0 ↔ sm br 12 = 0 := by
  have sb := sm_b 12 hb9
  constructor
  · intro h
    refine sm_z 12 fun f hf => ?_
    rcases hb9 f hf with e | e
    · exact e
    · have := (flr_v (br := br) 12 (Nat.le_refl _) f (by omega)).mpr ⟨hf, e⟩
      rw [h] at this
      have z := qb_0 f
      rw [show Int32.ofInt 0 = (0 : Int32) from rfl] at z
      rw [z] at this
      cases this
  · intro h
    apply qb_ext
    intro f hf
    have z := qb_0 f
    rw [show Int32.ofInt 0 = (0 : Int32) from rfl] at z
    rw [z]
    cases e : qb (flr br 12) f with
    | false => rfl
    | true =>
      have q := (flr_v (br := br) 12 (Nat.le_refl _) f hf).mp e
      have := su_one (g := br) (f := f) 12 q.1 fun i hi2 => by have := hb9 i hi2; omega
      have e2 : ∀ n, su br n = sm br n := fun n => by
        induction n with
        | zero => rfl
        | succ n ih => unfold su sm; rw [ih]
      rw [e2] at this
      omega
section sw_bk
variable {H : sw_HS} {Q : sw_Ot → sw_HS → Prop} {rs a : Nat} {st : Nat → Int}
def HL (H : sw_HS) (a : Nat) (f : Nat → Int) : sw_HS := sw_wr H a (.inr (0, 12, I32 f))
theorem HL_a {f : Nat → Int} : (HL H a f).1 a = .inr (0, 12, I32 f) := if_pos rfl
theorem HL_w {f g : Nat → Int} : sw_wr (HL H a f) a (.inr (0, 12, I32 g)) = HL H a g := wr_wr a _ _
theorem HL_b {f : Nat → Int} (h : H.1 rs = .inr (0, 12, I32 st)) (ne : ¬ rs = a) : (HL H a f).1 rs = .inr (0, 12, I32 st) := by rw [← h]; exact wr_ne ne
theorem m64_f {load lf : Int} {loc : Bool} {W : Int32} {wh bo : Nat → Int} (hs0 : H.1 rs = .inr (0, 12, I32 st)) (ne : ¬ rs = a) (hs : SB st) (hW : ∀ f, f < 12 → bi (qb W f) = wh f) (hl : ∀ f, f < 12 → wh f = 1 → 0 ≤ bo f ∧ bo f ≤ 30000) (l0 : 0 ≤ load) (l9 : load ≤ 30000) (f0 : 0 < lf) (f9 : lf ≤ 12) {x8 x9 : Option Value} : ∀ (n i : Nat), i + n = 12 → sw_A 64 49 [some (.ref rs), some (.int (Int32.ofInt load)), some (.int (Int32.ofInt (bi loc))), some (.ref a), some (.int W), some (.int (Int32.ofInt lf)), some (.int (flr (brk st (if loc = true then bo else fun _ => load / lf) wh) i)), some (.int (Int32.ofInt i)), x8, x9] [] (HL H a bo) Q = sw_A 64 104 [some (.ref rs), some (.int (Int32.ofInt load)), some (.int (Int32.ofInt (bi loc))), some (.ref a), some (.int W), some (.int (Int32.ofInt lf)), some (.int (flr (brk st (if loc = true then bo else fun _ => load / lf) wh) 12)), some (.int (Int32.ofInt 12)), x8, x9] [] (HL H a bo) Q
  | 0, i, hn => by
    have e : i = 12 := hn
    subst e
    rw [r64_49]
    simp (disch := omega) only [r64_51, r64_53, sw_ldi, sw_ldl, sw_lda, sw_has1, sw_i1, sw_i2, sw_l1, sw_l2, sw_li, sw_r1, sw_ri, sw_rix, sw_rv, sw_pop, sw_set1, sw_set2, List.set_cons_zero, List.set_cons_succ, List.getElem?_cons_zero, List.getElem?_cons_succ, ald_1, ald_2, ast_1, ast_2, aln_1, aln_2, gf_1, gf_2, pf_1, pf_2, nw_1, ck_0, ck_1, ck_2, ck_3, ck_4, rr_1, rc_1, rc_2, K_i, K_l, K_v, I_add, I_sub, I_mul, I_div, I_em, I_eq0, I_lt0, I_0lt, I_le0, I_0le, I_eq, I_lt, I_le, I_a1, I_r1, I_eq1, I32_at, I32_s, Int.toNat_natCast, List.set_cons_zero, reduceCtorEq, not_false_eq_true, not_true_eq_false, false_and, true_and, and_true, and_false, false_or, true_or, or_true, or_false, if_true, if_false, eq_self, ↓reduceIte, Int.reduceEq, Int.reduceLT, Int.reduceLE, Int.reduceAdd, Int.reduceSub, Int.reduceMul, Int.reduceNeg, Int.reduceToNat, Nat.reduceLT, Nat.reduceAdd, Nat.reduceEqDiff, List.length_cons, List.length_nil, Int.le_refl]
    rfl
  | n + 1, i, hn => by
    have hi2 : i < 12 := by omega
    have ih := m64_f (loc := loc) (x8 := x8) (x9 := x9) hs0 ne hs hW hl l0 l9 f0 f9 n (i + 1) (by omega)
    have s1 := hs i hi2
    have w1 := hW i hi2
    have bb := bi_b (qb W i)
    have hh := has_32 W i (by omega)
    have dv : 0 ≤ load / lf ∧ load / lf ≤ load := ⟨Int.ediv_nonneg l0 (by omega), Int.ediv_le_self _ l0⟩
    have hrs := HL_b (f := bo) hs0 ne
    have e : flr (brk st (if loc = true then bo else fun _ => load / lf) wh) (i + 1) = if brk st (if loc = true then bo else fun _ => load / lf) wh i = 1 then flr (brk st (if loc = true then bo else fun _ => load / lf) wh) i ||| (Int32.ofInt 1 <<< (Int32.ofInt (i : Nat) &&& 31)) else flr (brk st (if loc = true then bo else fun _ => load / lf) wh) i := rfl
    rw [e] at ih
    generalize flr (brk st (if loc = true then bo else fun _ => load / lf) wh) i = v at *
    rw [r64_49]
    simp (disch := omega) only [r64_51, r64_53, r64_56, r64_58, r64_60, r64_61, r64_62, r64_63, sw_ldi, sw_ldl, sw_lda, sw_has1, sw_i1, sw_i2, sw_l1, sw_l2, sw_li, sw_r1, sw_ri, sw_rix, sw_rv, sw_pop, sw_set1, sw_set2, List.set_cons_zero, List.set_cons_succ, List.getElem?_cons_zero, List.getElem?_cons_succ, ald_1, ald_2, ast_1, ast_2, aln_1, aln_2, gf_1, gf_2, pf_1, pf_2, nw_1, ck_0, ck_1, ck_2, ck_3, ck_4, rr_1, rc_1, rc_2, K_i, K_l, K_v, I_add, I_sub, I_mul, I_div, I_em, I_eq0, I_lt0, I_0lt, I_le0, I_0le, I_eq, I_lt, I_le, I_a1, I_r1, I_eq1, I32_at, I32_s, Int.toNat_natCast, List.set_cons_zero, reduceCtorEq, not_false_eq_true, not_true_eq_false, false_and, true_and, and_true, and_false, false_or, true_or, or_true, or_false, if_true, if_false, eq_self, ↓reduceIte, Int.reduceEq, Int.reduceLT, Int.reduceLE, Int.reduceAdd, Int.reduceSub, Int.reduceMul, Int.reduceNeg, Int.reduceToNat, Nat.reduceLT, Nat.reduceAdd, Nat.reduceEqDiff, List.length_cons, List.length_nil, hh]
    rw [if_neg (by omega)]
    rw [w1] at bb ⊢
    rcases bb with c | c
    · rw [if_neg (show ¬ brk st (if loc = true then bo else fun _ => load / lf) wh i = 1 from fun q => by
        have : brk st (if loc = true then bo else fun _ => load / lf) wh i = 0 := if_neg (fun z => by omega)
        omega)] at ih
      rw [c, r64_64]
      simp (disch := omega) only [sw_ldi, sw_ldl, sw_lda, sw_has1, sw_i1, sw_i2, sw_l1, sw_l2, sw_li, sw_r1, sw_ri, sw_rix, sw_rv, sw_pop, sw_set1, sw_set2, List.set_cons_zero, List.set_cons_succ, List.getElem?_cons_zero, List.getElem?_cons_succ, ald_1, ald_2, ast_1, ast_2, aln_1, aln_2, gf_1, gf_2, pf_1, pf_2, nw_1, ck_0, ck_1, ck_2, ck_3, ck_4, rr_1, rc_1, rc_2, K_i, K_l, K_v, I_add, I_sub, I_mul, I_div, I_em, I_eq0, I_lt0, I_0lt, I_le0, I_0le, I_eq, I_lt, I_le, I_a1, I_r1, I_eq1, I32_at, I32_s, Int.toNat_natCast, List.set_cons_zero, reduceCtorEq, not_false_eq_true, not_true_eq_false, false_and, true_and, and_true, and_false, false_or, true_or, or_true, or_false, if_true, if_false, eq_self, ↓reduceIte, Int.reduceEq, Int.reduceLT, Int.reduceLE, Int.reduceAdd, Int.reduceSub, Int.reduceMul, Int.reduceNeg, Int.reduceToNat, Nat.reduceLT, Nat.reduceAdd, Nat.reduceEqDiff, List.length_cons, List.length_nil]
      simp (disch := omega) only [r64_98, r64_101, sw_ldi, sw_ldl, sw_lda, sw_has1, sw_i1, sw_i2, sw_l1, sw_l2, sw_li, sw_r1, sw_ri, sw_rix, sw_rv, sw_pop, sw_set1, sw_set2, List.set_cons_zero, List.set_cons_succ, List.getElem?_cons_zero, List.getElem?_cons_succ, ald_1, ald_2, ast_1, ast_2, aln_1, aln_2, gf_1, gf_2, pf_1, pf_2, nw_1, ck_0, ck_1, ck_2, ck_3, ck_4, rr_1, rc_1, rc_2, K_i, K_l, K_v, I_add, I_sub, I_mul, I_div, I_em, I_eq0, I_lt0, I_0lt, I_le0, I_0le, I_eq, I_lt, I_le, I_a1, I_r1, I_eq1, I32_at, I32_s, Int.toNat_natCast, List.set_cons_zero, reduceCtorEq, not_false_eq_true, not_true_eq_false, false_and, true_and, and_true, and_false, false_or, true_or, or_true, or_false, if_true, if_false, eq_self, ↓reduceIte, Int.reduceEq, Int.reduceLT, Int.reduceLE, Int.reduceAdd, Int.reduceSub, Int.reduceMul, Int.reduceNeg, Int.reduceToNat, Nat.reduceLT, Nat.reduceAdd, Nat.reduceEqDiff, List.length_cons, List.length_nil]
      exact ih
    · have l1 := hl i hi2 c
      have bv : brk st (if loc = true then bo else fun _ => load / lf) wh i = if st i < (if loc = true then bo else fun _ => load / lf) i then 1 else 0 := by
        unfold brk
        by_cases z : st i < (if loc = true then bo else fun _ => load / lf) i
        · rw [if_pos ⟨c, z⟩, if_pos z]
        · rw [if_neg (fun q => z q.2), if_neg z]
      rw [bv] at ih
      rw [c, r64_64]
      simp (disch := omega) only [sw_ldi, sw_ldl, sw_lda, sw_has1, sw_i1, sw_i2, sw_l1, sw_l2, sw_li, sw_r1, sw_ri, sw_rix, sw_rv, sw_pop, sw_set1, sw_set2, List.set_cons_zero, List.set_cons_succ, List.getElem?_cons_zero, List.getElem?_cons_succ, ald_1, ald_2, ast_1, ast_2, aln_1, aln_2, gf_1, gf_2, pf_1, pf_2, nw_1, ck_0, ck_1, ck_2, ck_3, ck_4, rr_1, rc_1, rc_2, K_i, K_l, K_v, I_add, I_sub, I_mul, I_div, I_em, I_eq0, I_lt0, I_0lt, I_le0, I_0le, I_eq, I_lt, I_le, I_a1, I_r1, I_eq1, I32_at, I32_s, Int.toNat_natCast, List.set_cons_zero, reduceCtorEq, not_false_eq_true, not_true_eq_false, false_and, true_and, and_true, and_false, false_or, true_or, or_true, or_false, if_true, if_false, eq_self, ↓reduceIte, Int.reduceEq, Int.reduceLT, Int.reduceLE, Int.reduceAdd, Int.reduceSub, Int.reduceMul, Int.reduceNeg, Int.reduceToNat, Nat.reduceLT, Nat.reduceAdd, Nat.reduceEqDiff, List.length_cons, List.length_nil]
      cases loc with
      | true =>
        have eb : (if true = true then bo else fun _ => load / lf) i = bo i := rfl
        rw [eb] at ih
        simp (disch := omega) only [r64_67, r64_68, r64_71, r64_72, r64_74, r64_75, r64_78, r64_79, r64_81, r64_82, r64_83, r64_85, sw_ldi, sw_ldl, sw_lda, sw_has1, sw_i1, sw_i2, sw_l1, sw_l2, sw_li, sw_r1, sw_ri, sw_rix, sw_rv, sw_pop, sw_set1, sw_set2, List.set_cons_zero, List.set_cons_succ, List.getElem?_cons_zero, List.getElem?_cons_succ, ald_1, ald_2, ast_1, ast_2, aln_1, aln_2, gf_1, gf_2, pf_1, pf_2, nw_1, ck_0, ck_1, ck_2, ck_3, ck_4, rr_1, rc_1, rc_2, K_i, K_l, K_v, I_add, I_sub, I_mul, I_div, I_em, I_eq0, I_lt0, I_0lt, I_le0, I_0le, I_eq, I_lt, I_le, I_a1, I_r1, I_eq1, I32_at, I32_s, Int.toNat_natCast, List.set_cons_zero, reduceCtorEq, not_false_eq_true, not_true_eq_false, false_and, true_and, and_true, and_false, false_or, true_or, or_true, or_false, if_true, if_false, eq_self, ↓reduceIte, Int.reduceEq, Int.reduceLT, Int.reduceLE, Int.reduceAdd, Int.reduceSub, Int.reduceMul, Int.reduceNeg, Int.reduceToNat, Nat.reduceLT, Nat.reduceAdd, Nat.reduceEqDiff, List.length_cons, List.length_nil, HL_a, hrs, show bi true = 1 from rfl]
        rw [r64_86]
        simp (disch := omega) only [sw_ldi, sw_ldl, sw_lda, sw_has1, sw_i1, sw_i2, sw_l1, sw_l2, sw_li, sw_r1, sw_ri, sw_rix, sw_rv, sw_pop, sw_set1, sw_set2, List.set_cons_zero, List.set_cons_succ, List.getElem?_cons_zero, List.getElem?_cons_succ, ald_1, ald_2, ast_1, ast_2, aln_1, aln_2, gf_1, gf_2, pf_1, pf_2, nw_1, ck_0, ck_1, ck_2, ck_3, ck_4, rr_1, rc_1, rc_2, K_i, K_l, K_v, I_add, I_sub, I_mul, I_div, I_em, I_eq0, I_lt0, I_0lt, I_le0, I_0le, I_eq, I_lt, I_le, I_a1, I_r1, I_eq1, I32_at, I32_s, Int.toNat_natCast, List.set_cons_zero, reduceCtorEq, not_false_eq_true, not_true_eq_false, false_and, true_and, and_true, and_false, false_or, true_or, or_true, or_false, if_true, if_false, eq_self, ↓reduceIte, Int.reduceEq, Int.reduceLT, Int.reduceLE, Int.reduceAdd, Int.reduceSub, Int.reduceMul, Int.reduceNeg, Int.reduceToNat, Nat.reduceLT, Nat.reduceAdd, Nat.reduceEqDiff, List.length_cons, List.length_nil]
        by_cases z : st i < bo i
        · rw [if_pos z, if_pos rfl] at ih
          rw [if_neg (by omega)]
          simp (disch := omega) only [r64_89, r64_91, r64_92, r64_94, r64_95, r64_96, r64_98, r64_101, sw_ldi, sw_ldl, sw_lda, sw_has1, sw_i1, sw_i2, sw_l1, sw_l2, sw_li, sw_r1, sw_ri, sw_rix, sw_rv, sw_pop, sw_set1, sw_set2, List.set_cons_zero, List.set_cons_succ, List.getElem?_cons_zero, List.getElem?_cons_succ, ald_1, ald_2, ast_1, ast_2, aln_1, aln_2, gf_1, gf_2, pf_1, pf_2, nw_1, ck_0, ck_1, ck_2, ck_3, ck_4, rr_1, rc_1, rc_2, K_i, K_l, K_v, I_add, I_sub, I_mul, I_div, I_em, I_eq0, I_lt0, I_0lt, I_le0, I_0le, I_eq, I_lt, I_le, I_a1, I_r1, I_eq1, I32_at, I32_s, Int.toNat_natCast, List.set_cons_zero, reduceCtorEq, not_false_eq_true, not_true_eq_false, false_and, true_and, and_true, and_false, false_or, true_or, or_true, or_false, if_true, if_false, eq_self, ↓reduceIte, Int.reduceEq, Int.reduceLT, Int.reduceLE, Int.reduceAdd, Int.reduceSub, Int.reduceMul, Int.reduceNeg, Int.reduceToNat, Nat.reduceLT, Nat.reduceAdd, Nat.reduceEqDiff, List.length_cons, List.length_nil]
          exact ih
        · rw [if_neg z, if_neg (by decide)] at ih
          rw [if_pos (by omega)]
          simp (disch := omega) only [r64_98, r64_101, sw_ldi, sw_ldl, sw_lda, sw_has1, sw_i1, sw_i2, sw_l1, sw_l2, sw_li, sw_r1, sw_ri, sw_rix, sw_rv, sw_pop, sw_set1, sw_set2, List.set_cons_zero, List.set_cons_succ, List.getElem?_cons_zero, List.getElem?_cons_succ, ald_1, ald_2, ast_1, ast_2, aln_1, aln_2, gf_1, gf_2, pf_1, pf_2, nw_1, ck_0, ck_1, ck_2, ck_3, ck_4, rr_1, rc_1, rc_2, K_i, K_l, K_v, I_add, I_sub, I_mul, I_div, I_em, I_eq0, I_lt0, I_0lt, I_le0, I_0le, I_eq, I_lt, I_le, I_a1, I_r1, I_eq1, I32_at, I32_s, Int.toNat_natCast, List.set_cons_zero, reduceCtorEq, not_false_eq_true, not_true_eq_false, false_and, true_and, and_true, and_false, false_or, true_or, or_true, or_false, if_true, if_false, eq_self, ↓reduceIte, Int.reduceEq, Int.reduceLT, Int.reduceLE, Int.reduceAdd, Int.reduceSub, Int.reduceMul, Int.reduceNeg, Int.reduceToNat, Nat.reduceLT, Nat.reduceAdd, Nat.reduceEqDiff, List.length_cons, List.length_nil]
          exact ih
      | false =>
        have eb : (if false = true then bo else fun _ => load / lf) i = load / lf := rfl
        rw [eb] at ih
        simp (disch := omega) only [r64_67, r64_68, r64_71, r64_72, r64_74, r64_75, r64_78, r64_79, r64_81, r64_82, r64_83, r64_85, sw_ldi, sw_ldl, sw_lda, sw_has1, sw_i1, sw_i2, sw_l1, sw_l2, sw_li, sw_r1, sw_ri, sw_rix, sw_rv, sw_pop, sw_set1, sw_set2, List.set_cons_zero, List.set_cons_succ, List.getElem?_cons_zero, List.getElem?_cons_succ, ald_1, ald_2, ast_1, ast_2, aln_1, aln_2, gf_1, gf_2, pf_1, pf_2, nw_1, ck_0, ck_1, ck_2, ck_3, ck_4, rr_1, rc_1, rc_2, K_i, K_l, K_v, I_add, I_sub, I_mul, I_div, I_em, I_eq0, I_lt0, I_0lt, I_le0, I_0le, I_eq, I_lt, I_le, I_a1, I_r1, I_eq1, I32_at, I32_s, Int.toNat_natCast, List.set_cons_zero, reduceCtorEq, not_false_eq_true, not_true_eq_false, false_and, true_and, and_true, and_false, false_or, true_or, or_true, or_false, if_true, if_false, eq_self, ↓reduceIte, Int.reduceEq, Int.reduceLT, Int.reduceLE, Int.reduceAdd, Int.reduceSub, Int.reduceMul, Int.reduceNeg, Int.reduceToNat, Nat.reduceLT, Nat.reduceAdd, Nat.reduceEqDiff, List.length_cons, List.length_nil, HL_a, hrs, show bi false = 0 from rfl]
        rw [if_neg (by omega), r64_86]
        simp (disch := omega) only [sw_ldi, sw_ldl, sw_lda, sw_has1, sw_i1, sw_i2, sw_l1, sw_l2, sw_li, sw_r1, sw_ri, sw_rix, sw_rv, sw_pop, sw_set1, sw_set2, List.set_cons_zero, List.set_cons_succ, List.getElem?_cons_zero, List.getElem?_cons_succ, ald_1, ald_2, ast_1, ast_2, aln_1, aln_2, gf_1, gf_2, pf_1, pf_2, nw_1, ck_0, ck_1, ck_2, ck_3, ck_4, rr_1, rc_1, rc_2, K_i, K_l, K_v, I_add, I_sub, I_mul, I_div, I_em, I_eq0, I_lt0, I_0lt, I_le0, I_0le, I_eq, I_lt, I_le, I_a1, I_r1, I_eq1, I32_at, I32_s, Int.toNat_natCast, List.set_cons_zero, reduceCtorEq, not_false_eq_true, not_true_eq_false, false_and, true_and, and_true, and_false, false_or, true_or, or_true, or_false, if_true, if_false, eq_self, ↓reduceIte, Int.reduceEq, Int.reduceLT, Int.reduceLE, Int.reduceAdd, Int.reduceSub, Int.reduceMul, Int.reduceNeg, Int.reduceToNat, Nat.reduceLT, Nat.reduceAdd, Nat.reduceEqDiff, List.length_cons, List.length_nil]
        by_cases z : st i < load / lf
        · rw [if_pos z, if_pos rfl] at ih
          rw [if_neg (by omega)]
          simp (disch := omega) only [r64_89, r64_91, r64_92, r64_94, r64_95, r64_96, r64_98, r64_101, sw_ldi, sw_ldl, sw_lda, sw_has1, sw_i1, sw_i2, sw_l1, sw_l2, sw_li, sw_r1, sw_ri, sw_rix, sw_rv, sw_pop, sw_set1, sw_set2, List.set_cons_zero, List.set_cons_succ, List.getElem?_cons_zero, List.getElem?_cons_succ, ald_1, ald_2, ast_1, ast_2, aln_1, aln_2, gf_1, gf_2, pf_1, pf_2, nw_1, ck_0, ck_1, ck_2, ck_3, ck_4, rr_1, rc_1, rc_2, K_i, K_l, K_v, I_add, I_sub, I_mul, I_div, I_em, I_eq0, I_lt0, I_0lt, I_le0, I_0le, I_eq, I_lt, I_le, I_a1, I_r1, I_eq1, I32_at, I32_s, Int.toNat_natCast, List.set_cons_zero, reduceCtorEq, not_false_eq_true, not_true_eq_false, false_and, true_and, and_true, and_false, false_or, true_or, or_true, or_false, if_true, if_false, eq_self, ↓reduceIte, Int.reduceEq, Int.reduceLT, Int.reduceLE, Int.reduceAdd, Int.reduceSub, Int.reduceMul, Int.reduceNeg, Int.reduceToNat, Nat.reduceLT, Nat.reduceAdd, Nat.reduceEqDiff, List.length_cons, List.length_nil]
          exact ih
        · rw [if_neg z, if_neg (by decide)] at ih
          rw [if_pos (by omega)]
          simp (disch := omega) only [r64_98, r64_101, sw_ldi, sw_ldl, sw_lda, sw_has1, sw_i1, sw_i2, sw_l1, sw_l2, sw_li, sw_r1, sw_ri, sw_rix, sw_rv, sw_pop, sw_set1, sw_set2, List.set_cons_zero, List.set_cons_succ, List.getElem?_cons_zero, List.getElem?_cons_succ, ald_1, ald_2, ast_1, ast_2, aln_1, aln_2, gf_1, gf_2, pf_1, pf_2, nw_1, ck_0, ck_1, ck_2, ck_3, ck_4, rr_1, rc_1, rc_2, K_i, K_l, K_v, I_add, I_sub, I_mul, I_div, I_em, I_eq0, I_lt0, I_0lt, I_le0, I_0le, I_eq, I_lt, I_le, I_a1, I_r1, I_eq1, I32_at, I32_s, Int.toNat_natCast, List.set_cons_zero, reduceCtorEq, not_false_eq_true, not_true_eq_false, false_and, true_and, and_true, and_false, false_or, true_or, or_true, or_false, if_true, if_false, eq_self, ↓reduceIte, Int.reduceEq, Int.reduceLT, Int.reduceLE, Int.reduceAdd, Int.reduceSub, Int.reduceMul, Int.reduceNeg, Int.reduceToNat, Nat.reduceLT, Nat.reduceAdd, Nat.reduceEqDiff, List.length_cons, List.length_nil]
          exact ih
theorem m64_c {v0 v1 v2 : Value} {W : Int32} {wh : Nat → Int} {fa : Int32} {H2 : sw_HS} {x8 x9 : Option Value} (hW : ∀ f, f < 12 → bi (qb W f) = wh f) : ∀ (n i : Nat), i + n = 12 → sw_A 64 130 [some v0, some v1, some v2, some (.ref a), some (.int W), some (.int (Int32.ofInt (sm wh i))), some (.int fa), some (.int (Int32.ofInt i)), x8, x9] [] H2 Q = sw_A 64 155 [some v0, some v1, some v2, some (.ref a), some (.int W), some (.int (Int32.ofInt (sm wh 12))), some (.int fa), some (.int (Int32.ofInt 12)), x8, x9] [] H2 Q
  | 0, i, hn => by
    have e : i = 12 := hn
    subst e
    rw [r64_130]
    simp (disch := omega) only [r64_132, r64_134, sw_ldi, sw_ldl, sw_lda, sw_has1, sw_i1, sw_i2, sw_l1, sw_l2, sw_li, sw_r1, sw_ri, sw_rix, sw_rv, sw_pop, sw_set1, sw_set2, List.set_cons_zero, List.set_cons_succ, List.getElem?_cons_zero, List.getElem?_cons_succ, ald_1, ald_2, ast_1, ast_2, aln_1, aln_2, gf_1, gf_2, pf_1, pf_2, nw_1, ck_0, ck_1, ck_2, ck_3, ck_4, rr_1, rc_1, rc_2, K_i, K_l, K_v, I_add, I_sub, I_mul, I_div, I_em, I_eq0, I_lt0, I_0lt, I_le0, I_0le, I_eq, I_lt, I_le, I_a1, I_r1, I_eq1, I32_at, I32_s, Int.toNat_natCast, List.set_cons_zero, reduceCtorEq, not_false_eq_true, not_true_eq_false, false_and, true_and, and_true, and_false, false_or, true_or, or_true, or_false, if_true, if_false, eq_self, ↓reduceIte, Int.reduceEq, Int.reduceLT, Int.reduceLE, Int.reduceAdd, Int.reduceSub, Int.reduceMul, Int.reduceNeg, Int.reduceToNat, Nat.reduceLT, Nat.reduceAdd, Nat.reduceEqDiff, List.length_cons, List.length_nil, Int.le_refl]
    rfl
  | n + 1, i, hn => by
    have ih := m64_c (v0 := v0) (v1 := v1) (v2 := v2) (H2 := H2) (fa := fa) (x8 := x8) (x9 := x9) hW n (i + 1) (by omega)
    have hh := has_32 W i (by omega)
    rw [hW i (by omega)] at hh
    have e : sm wh (i + 1) = sm wh i + wh i := rfl
    rw [e] at ih
    rw [r64_130]
    simp (disch := omega) only [r64_132, r64_134, r64_137, r64_139, r64_141, r64_143, r64_144, r64_145, r64_146, r64_147, r64_149, r64_152, sw_ldi, sw_ldl, sw_lda, sw_has1, sw_i1, sw_i2, sw_l1, sw_l2, sw_li, sw_r1, sw_ri, sw_rix, sw_rv, sw_pop, sw_set1, sw_set2, List.set_cons_zero, List.set_cons_succ, List.getElem?_cons_zero, List.getElem?_cons_succ, ald_1, ald_2, ast_1, ast_2, aln_1, aln_2, gf_1, gf_2, pf_1, pf_2, nw_1, ck_0, ck_1, ck_2, ck_3, ck_4, rr_1, rc_1, rc_2, K_i, K_l, K_v, I_add, I_sub, I_mul, I_div, I_em, I_eq0, I_lt0, I_0lt, I_le0, I_0le, I_eq, I_lt, I_le, I_a1, I_r1, I_eq1, I32_at, I32_s, Int.toNat_natCast, List.set_cons_zero, reduceCtorEq, not_false_eq_true, not_true_eq_false, false_and, true_and, and_true, and_false, false_or, true_or, or_true, or_false, if_true, if_false, eq_self, ↓reduceIte, Int.reduceEq, Int.reduceLT, Int.reduceLE, Int.reduceAdd, Int.reduceSub, Int.reduceMul, Int.reduceNeg, Int.reduceToNat, Nat.reduceLT, Nat.reduceAdd, Nat.reduceEqDiff, List.length_cons, List.length_nil, hh]
    rw [if_neg (by omega)]
    exact ih
theorem m64_d {v0 v1 v2 : Value} {W : Int32} {wh : Nat → Int} {lf fa f7 : Int32} {H2 : sw_HS} (hW : ∀ f, f < 12 → bi (qb W f) = wh f) {x9 : Option Value} : ∀ (n x : Nat), x < 12 → ¬ nwf wh 11 n x = -1 → sw_A 64 191 [some v0, some v1, some v2, some (.ref a), some (.int W), some (.int lf), some (.int fa), some (.int f7), some (.int (Int32.ofInt (((x + 11) % 12 : Nat) : Int))), x9] [] H2 Q = sw_A 64 214 [some v0, some v1, some v2, some (.ref a), some (.int W), some (.int lf), some (.int fa), some (.int f7), some (.int (Int32.ofInt (nwf wh 11 n x))), x9] [] H2 Q
  | 0, x, hx, h => absurd rfl h
  | n + 1, x, hx, h => by
    have hh := has_32 W ((x + 11) % 12) (by omega)
    rw [hW _ (by omega)] at hh
    have bb := bi_b (qb W ((x + 11) % 12))
    rw [hW _ (by omega)] at bb
    unfold nwf at h ⊢
    rw [r64_191]
    simp (disch := omega) only [r64_193, r64_195, r64_196, r64_197, r64_198, sw_ldi, sw_ldl, sw_lda, sw_has1, sw_i1, sw_i2, sw_l1, sw_l2, sw_li, sw_r1, sw_ri, sw_rix, sw_rv, sw_pop, sw_set1, sw_set2, List.set_cons_zero, List.set_cons_succ, List.getElem?_cons_zero, List.getElem?_cons_succ, ald_1, ald_2, ast_1, ast_2, aln_1, aln_2, gf_1, gf_2, pf_1, pf_2, nw_1, ck_0, ck_1, ck_2, ck_3, ck_4, rr_1, rc_1, rc_2, K_i, K_l, K_v, I_add, I_sub, I_mul, I_div, I_em, I_eq0, I_lt0, I_0lt, I_le0, I_0le, I_eq, I_lt, I_le, I_a1, I_r1, I_eq1, I32_at, I32_s, Int.toNat_natCast, List.set_cons_zero, reduceCtorEq, not_false_eq_true, not_true_eq_false, false_and, true_and, and_true, and_false, false_or, true_or, or_true, or_false, if_true, if_false, eq_self, ↓reduceIte, Int.reduceEq, Int.reduceLT, Int.reduceLE, Int.reduceAdd, Int.reduceSub, Int.reduceMul, Int.reduceNeg, Int.reduceToNat, Nat.reduceLT, Nat.reduceAdd, Nat.reduceEqDiff, List.length_cons, List.length_nil, hh]
    rcases bb with c | c
    · rw [if_neg (show ¬ wh ((x + 11) % 12) = 1 by omega)] at h ⊢
      have ih := m64_d (v0 := v0) (v1 := v1) (v2 := v2) (H2 := H2) (lf := lf) (fa := fa) (f7 := f7) hW (x9 := x9) n ((x + 11) % 12) (by omega) h
      rw [if_neg (by omega)]
      simp (disch := omega) only [r64_201, r64_203, r64_205, r64_206, r64_208, r64_209, r64_211, sw_ldi, sw_ldl, sw_lda, sw_has1, sw_i1, sw_i2, sw_l1, sw_l2, sw_li, sw_r1, sw_ri, sw_rix, sw_rv, sw_pop, sw_set1, sw_set2, List.set_cons_zero, List.set_cons_succ, List.getElem?_cons_zero, List.getElem?_cons_succ, ald_1, ald_2, ast_1, ast_2, aln_1, aln_2, gf_1, gf_2, pf_1, pf_2, nw_1, ck_0, ck_1, ck_2, ck_3, ck_4, rr_1, rc_1, rc_2, K_i, K_l, K_v, I_add, I_sub, I_mul, I_div, I_em, I_eq0, I_lt0, I_0lt, I_le0, I_0le, I_eq, I_lt, I_le, I_a1, I_r1, I_eq1, I32_at, I32_s, Int.toNat_natCast, List.set_cons_zero, reduceCtorEq, not_false_eq_true, not_true_eq_false, false_and, true_and, and_true, and_false, false_or, true_or, or_true, or_false, if_true, if_false, eq_self, ↓reduceIte, Int.reduceEq, Int.reduceLT, Int.reduceLE, Int.reduceAdd, Int.reduceSub, Int.reduceMul, Int.reduceNeg, Int.reduceToNat, Nat.reduceLT, Nat.reduceAdd, Nat.reduceEqDiff, List.length_cons, List.length_nil]
      rw [show ((((x + 11) % 12 : Nat) : Int) + 11) % 12 = ((((x + 11) % 12 + 11) % 12 : Nat) : Int) by omega]
      exact ih
    · rw [if_pos c, if_pos (by omega)]
theorem m64_u {v0 v1 v2 : Value} {W : Int32} {wh : Nat → Int} {lf fa f7 f8 : Int32} {H2 : sw_HS} (hW : ∀ f, f < 12 → bi (qb W f) = wh f) : ∀ (n x : Nat), x < 12 → ¬ nwf wh 1 n x = -1 → sw_A 64 223 [some v0, some v1, some v2, some (.ref a), some (.int W), some (.int lf), some (.int fa), some (.int f7), some (.int f8), some (.int (Int32.ofInt (((x + 1) % 12 : Nat) : Int)))] [] H2 Q = sw_A 64 245 [some v0, some v1, some v2, some (.ref a), some (.int W), some (.int lf), some (.int fa), some (.int f7), some (.int f8), some (.int (Int32.ofInt (nwf wh 1 n x)))] [] H2 Q
  | 0, x, hx, h => absurd rfl h
  | n + 1, x, hx, h => by
    have hh := has_32 W ((x + 1) % 12) (by omega)
    rw [hW _ (by omega)] at hh
    have bb := bi_b (qb W ((x + 1) % 12))
    rw [hW _ (by omega)] at bb
    unfold nwf at h ⊢
    rw [r64_223]
    simp (disch := omega) only [r64_225, r64_227, r64_228, r64_229, r64_230, sw_ldi, sw_ldl, sw_lda, sw_has1, sw_i1, sw_i2, sw_l1, sw_l2, sw_li, sw_r1, sw_ri, sw_rix, sw_rv, sw_pop, sw_set1, sw_set2, List.set_cons_zero, List.set_cons_succ, List.getElem?_cons_zero, List.getElem?_cons_succ, ald_1, ald_2, ast_1, ast_2, aln_1, aln_2, gf_1, gf_2, pf_1, pf_2, nw_1, ck_0, ck_1, ck_2, ck_3, ck_4, rr_1, rc_1, rc_2, K_i, K_l, K_v, I_add, I_sub, I_mul, I_div, I_em, I_eq0, I_lt0, I_0lt, I_le0, I_0le, I_eq, I_lt, I_le, I_a1, I_r1, I_eq1, I32_at, I32_s, Int.toNat_natCast, List.set_cons_zero, reduceCtorEq, not_false_eq_true, not_true_eq_false, false_and, true_and, and_true, and_false, false_or, true_or, or_true, or_false, if_true, if_false, eq_self, ↓reduceIte, Int.reduceEq, Int.reduceLT, Int.reduceLE, Int.reduceAdd, Int.reduceSub, Int.reduceMul, Int.reduceNeg, Int.reduceToNat, Nat.reduceLT, Nat.reduceAdd, Nat.reduceEqDiff, List.length_cons, List.length_nil, hh]
    rcases bb with c | c
    · rw [if_neg (show ¬ wh ((x + 1) % 12) = 1 by omega)] at h ⊢
      have ih := m64_u (v0 := v0) (v1 := v1) (v2 := v2) (H2 := H2) (lf := lf) (fa := fa) (f7 := f7) (f8 := f8) hW n ((x + 1) % 12) (by omega) h
      rw [if_neg (by omega)]
      simp (disch := omega) only [r64_233, r64_235, r64_236, r64_237, r64_239, r64_240, r64_242, sw_ldi, sw_ldl, sw_lda, sw_has1, sw_i1, sw_i2, sw_l1, sw_l2, sw_li, sw_r1, sw_ri, sw_rix, sw_rv, sw_pop, sw_set1, sw_set2, List.set_cons_zero, List.set_cons_succ, List.getElem?_cons_zero, List.getElem?_cons_succ, ald_1, ald_2, ast_1, ast_2, aln_1, aln_2, gf_1, gf_2, pf_1, pf_2, nw_1, ck_0, ck_1, ck_2, ck_3, ck_4, rr_1, rc_1, rc_2, K_i, K_l, K_v, I_add, I_sub, I_mul, I_div, I_em, I_eq0, I_lt0, I_0lt, I_le0, I_0le, I_eq, I_lt, I_le, I_a1, I_r1, I_eq1, I32_at, I32_s, Int.toNat_natCast, List.set_cons_zero, reduceCtorEq, not_false_eq_true, not_true_eq_false, false_and, true_and, and_true, and_false, false_or, true_or, or_true, or_false, if_true, if_false, eq_self, ↓reduceIte, Int.reduceEq, Int.reduceLT, Int.reduceLE, Int.reduceAdd, Int.reduceSub, Int.reduceMul, Int.reduceNeg, Int.reduceToNat, Nat.reduceLT, Nat.reduceAdd, Nat.reduceEqDiff, List.length_cons, List.length_nil]
      rw [show ((((x + 1) % 12 : Nat) : Int) + 1) % 12 = ((((x + 1) % 12 + 1) % 12 : Nat) : Int) by omega]
      exact ih
    · rw [if_pos c, if_pos (by omega)]
theorem m64_p {v0 v1 v2 : Value} {W : Int32} {wh br bo : Nat → Int} {M lf : Int} (a0 : ¬ a = 0) (hM : M ≤ 30000) (hW : ∀ f, f < 12 → bi (qb W f) = wh f) (hb9 : ∀ f, f < 12 → br f = 0 ∨ br f = 1) (hx : ∀ g, g < 12 → wh g = 1 → ¬ br g = 1) (h : PI9 wh br bo 0 M) (elf : lf = sm wh 12) (lf0 : 0 < lf) (lf9 : lf ≤ 12) : ∀ (n i : Nat) (x8 x9 : Option Value), i + n = 12 → ∃ y8 y9 : Option Value, sw_A 64 158 [some v0, some v1, some v2, some (.ref a), some (.int W), some (.int (Int32.ofInt lf)), some (.int (flr br 12)), some (.int (Int32.ofInt i)), x8, x9] [] (HL H a (pfo wh br bo i)) Q = sw_A 64 38 [some v0, some v1, some v2, some (.ref a), some (.int W), some (.int (Int32.ofInt lf)), some (.int (flr br 12)), some (.int (Int32.ofInt 12)), y8, y9] [] (HL H a (pfo wh br bo 12)) Q
  | 0, i, x8, x9, hn => by
    have e : i = 12 := hn
    subst e
    refine ⟨x8, x9, ?_⟩
    rw [r64_158]
    simp (disch := omega) only [r64_160, r64_162, r64_279, sw_ldi, sw_ldl, sw_lda, sw_has1, sw_i1, sw_i2, sw_l1, sw_l2, sw_li, sw_r1, sw_ri, sw_rix, sw_rv, sw_pop, sw_set1, sw_set2, List.set_cons_zero, List.set_cons_succ, List.getElem?_cons_zero, List.getElem?_cons_succ, ald_1, ald_2, ast_1, ast_2, aln_1, aln_2, gf_1, gf_2, pf_1, pf_2, nw_1, ck_0, ck_1, ck_2, ck_3, ck_4, rr_1, rc_1, rc_2, K_i, K_l, K_v, I_add, I_sub, I_mul, I_div, I_em, I_eq0, I_lt0, I_0lt, I_le0, I_0le, I_eq, I_lt, I_le, I_a1, I_r1, I_eq1, I32_at, I32_s, Int.toNat_natCast, List.set_cons_zero, reduceCtorEq, not_false_eq_true, not_true_eq_false, false_and, true_and, and_true, and_false, false_or, true_or, or_true, or_false, if_true, if_false, eq_self, ↓reduceIte, Int.reduceEq, Int.reduceLT, Int.reduceLE, Int.reduceAdd, Int.reduceSub, Int.reduceMul, Int.reduceNeg, Int.reduceToNat, Nat.reduceLT, Nat.reduceAdd, Nat.reduceEqDiff, List.length_cons, List.length_nil, Int.le_refl]
    rfl
  | n + 1, i, x8, x9, hn => by
    have hi2 : i < 12 := by omega
    have p := pfo_I hx h i (by omega)
    have e : pfo wh br bo (i + 1) = pf1 wh br (pfo wh br bo i) i := rfl
    have ih := fun y z => m64_p (v0 := v0) (v1 := v1) (v2 := v2) a0 hM hW hb9 hx h elf lf0 lf9 n (i + 1) y z (by omega)
    rw [e] at ih
    generalize pfo wh br bo i = B9 at *
    have hh := has_32 (flr br 12) i (by omega)
    have fv := flr_v (br := br) 12 (Nat.le_refl _) i (by omega)
    have o := hb9 i hi2
    have hq : bi (qb (flr br 12) i) = br i := by
      rcases o with c | c
      · rw [c, bi_0]
        cases z : qb (flr br 12) i with
        | false => rfl
        | true => have := fv.mp z; omega
      · rw [c, bi_1]
        exact fv.mpr ⟨hi2, c⟩
    rw [hq] at hh
    rw [r64_158]
    rcases o with c | c
    · have ep : pf1 wh br B9 i = B9 := if_neg (fun q => by omega)
      rw [ep] at ih
      obtain ⟨y8, y9, g⟩ := ih x8 x9
      refine ⟨y8, y9, ?_⟩
      simp (disch := omega) only [r64_160, r64_162, r64_165, r64_167, r64_170, r64_172, r64_174, r64_175, r64_176, r64_177, sw_ldi, sw_ldl, sw_lda, sw_has1, sw_i1, sw_i2, sw_l1, sw_l2, sw_li, sw_r1, sw_ri, sw_rix, sw_rv, sw_pop, sw_set1, sw_set2, List.set_cons_zero, List.set_cons_succ, List.getElem?_cons_zero, List.getElem?_cons_succ, ald_1, ald_2, ast_1, ast_2, aln_1, aln_2, gf_1, gf_2, pf_1, pf_2, nw_1, ck_0, ck_1, ck_2, ck_3, ck_4, rr_1, rc_1, rc_2, K_i, K_l, K_v, I_add, I_sub, I_mul, I_div, I_em, I_eq0, I_lt0, I_0lt, I_le0, I_0le, I_eq, I_lt, I_le, I_a1, I_r1, I_eq1, I32_at, I32_s, Int.toNat_natCast, List.set_cons_zero, reduceCtorEq, not_false_eq_true, not_true_eq_false, false_and, true_and, and_true, and_false, false_or, true_or, or_true, or_false, if_true, if_false, eq_self, ↓reduceIte, Int.reduceEq, Int.reduceLT, Int.reduceLE, Int.reduceAdd, Int.reduceSub, Int.reduceMul, Int.reduceNeg, Int.reduceToNat, Nat.reduceLT, Nat.reduceAdd, Nat.reduceEqDiff, List.length_cons, List.length_nil, hh]
      rw [if_neg (by omega), if_neg (by omega), c, r64_178]
      simp (disch := omega) only [sw_ldi, sw_ldl, sw_lda, sw_has1, sw_i1, sw_i2, sw_l1, sw_l2, sw_li, sw_r1, sw_ri, sw_rix, sw_rv, sw_pop, sw_set1, sw_set2, List.set_cons_zero, List.set_cons_succ, List.getElem?_cons_zero, List.getElem?_cons_succ, ald_1, ald_2, ast_1, ast_2, aln_1, aln_2, gf_1, gf_2, pf_1, pf_2, nw_1, ck_0, ck_1, ck_2, ck_3, ck_4, rr_1, rc_1, rc_2, K_i, K_l, K_v, I_add, I_sub, I_mul, I_div, I_em, I_eq0, I_lt0, I_0lt, I_le0, I_0le, I_eq, I_lt, I_le, I_a1, I_r1, I_eq1, I32_at, I32_s, Int.toNat_natCast, List.set_cons_zero, reduceCtorEq, not_false_eq_true, not_true_eq_false, false_and, true_and, and_true, and_false, false_or, true_or, or_true, or_false, if_true, if_false, eq_self, ↓reduceIte, Int.reduceEq, Int.reduceLT, Int.reduceLE, Int.reduceAdd, Int.reduceSub, Int.reduceMul, Int.reduceNeg, Int.reduceToNat, Nat.reduceLT, Nat.reduceAdd, Nat.reduceEqDiff, List.length_cons, List.length_nil]
      simp (disch := omega) only [r64_273, r64_276, sw_ldi, sw_ldl, sw_lda, sw_has1, sw_i1, sw_i2, sw_l1, sw_l2, sw_li, sw_r1, sw_ri, sw_rix, sw_rv, sw_pop, sw_set1, sw_set2, List.set_cons_zero, List.set_cons_succ, List.getElem?_cons_zero, List.getElem?_cons_succ, ald_1, ald_2, ast_1, ast_2, aln_1, aln_2, gf_1, gf_2, pf_1, pf_2, nw_1, ck_0, ck_1, ck_2, ck_3, ck_4, rr_1, rc_1, rc_2, K_i, K_l, K_v, I_add, I_sub, I_mul, I_div, I_em, I_eq0, I_lt0, I_0lt, I_le0, I_0le, I_eq, I_lt, I_le, I_a1, I_r1, I_eq1, I32_at, I32_s, Int.toNat_natCast, List.set_cons_zero, reduceCtorEq, not_false_eq_true, not_true_eq_false, false_and, true_and, and_true, and_false, false_or, true_or, or_true, or_false, if_true, if_false, eq_self, ↓reduceIte, Int.reduceEq, Int.reduceLT, Int.reduceLE, Int.reduceAdd, Int.reduceSub, Int.reduceMul, Int.reduceNeg, Int.reduceToNat, Nat.reduceLT, Nat.reduceAdd, Nat.reduceEqDiff, List.length_cons, List.length_nil]
      exact g
    · have nwi : ¬ wh i = 1 := fun q => hx i hi2 q c
      have ex : ∃ y, y < 12 ∧ wh y = 1 := by
        apply Classical.byContradiction
        intro q
        have : sm wh 12 = 0 := sm_z 12 fun f hf => by
          have := bi_b (qb W f)
          rw [hW f hf] at this
          rcases this with z | z
          · exact z
          · exact absurd ⟨f, hf, z⟩ q
        omega
      obtain ⟨y, y12, wy⟩ := ex
      obtain ⟨n1, n2⟩ := nwf_s hi2 y12 wy nwi
      obtain ⟨l, el, l12, wl⟩ := (nwf_b wh 11 11 i).resolve_left n2
      obtain ⟨u, eu, u12, wu⟩ := (nwf_b wh 1 11 i).resolve_left n1
      have md := m64_d (a := a) (Q := Q) (v0 := v0) (v1 := v1) (v2 := v2) (lf := Int32.ofInt lf) (fa := flr br 12) (f7 := Int32.ofInt (i : Int)) (H2 := HL H a B9) hW (x9 := x9) 11 i hi2 n2
      have mu := m64_u (a := a) (Q := Q) (v0 := v0) (v1 := v1) (v2 := v2) (lf := Int32.ofInt lf) (fa := flr br 12) (f7 := Int32.ofInt (i : Int)) (f8 := Int32.ofInt (l : Int)) (H2 := HL H a B9) hW 11 i hi2 n1
      rw [el] at md
      rw [eu] at mu
      have bl := PI9_b p l12 (Or.inl wl)
      have bu := PI9_b p u12 (Or.inl wu)
      have bi9 := PI9_b p hi2 (Or.inr ⟨Nat.le_refl _, c⟩)
      have gl := p.1 l l12
      have gu := p.1 u u12
      have gi := p.1 i hi2
      have ne : ¬ i = l := fun q => nwi (by rw [q]; exact wl)
      have at1 : sw_s B9 l (B9 l + B9 i / 2) i = B9 i := if_neg ne
      have ep : pf1 wh br B9 i = sw_s (sw_s B9 l (B9 l + B9 i / 2)) u (sw_s B9 l (B9 l + B9 i / 2) u + (B9 i + 1) / 2) := by
        unfold pf1
        rw [if_pos ⟨c, n2, n1⟩, el, eu, Int.toNat_natCast, Int.toNat_natCast, show B9 i - B9 i / 2 = (B9 i + 1) / 2 by omega]
      rw [ep] at ih
      obtain ⟨y8, y9, g⟩ := ih (some (.int (Int32.ofInt (l : Int)))) (some (.int (Int32.ofInt (u : Int))))
      refine ⟨y8, y9, ?_⟩
      simp (disch := omega) only [r64_160, r64_162, r64_165, r64_167, r64_170, r64_172, r64_174, r64_175, r64_176, r64_177, sw_ldi, sw_ldl, sw_lda, sw_has1, sw_i1, sw_i2, sw_l1, sw_l2, sw_li, sw_r1, sw_ri, sw_rix, sw_rv, sw_pop, sw_set1, sw_set2, List.set_cons_zero, List.set_cons_succ, List.getElem?_cons_zero, List.getElem?_cons_succ, ald_1, ald_2, ast_1, ast_2, aln_1, aln_2, gf_1, gf_2, pf_1, pf_2, nw_1, ck_0, ck_1, ck_2, ck_3, ck_4, rr_1, rc_1, rc_2, K_i, K_l, K_v, I_add, I_sub, I_mul, I_div, I_em, I_eq0, I_lt0, I_0lt, I_le0, I_0le, I_eq, I_lt, I_le, I_a1, I_r1, I_eq1, I32_at, I32_s, Int.toNat_natCast, List.set_cons_zero, reduceCtorEq, not_false_eq_true, not_true_eq_false, false_and, true_and, and_true, and_false, false_or, true_or, or_true, or_false, if_true, if_false, eq_self, ↓reduceIte, Int.reduceEq, Int.reduceLT, Int.reduceLE, Int.reduceAdd, Int.reduceSub, Int.reduceMul, Int.reduceNeg, Int.reduceToNat, Nat.reduceLT, Nat.reduceAdd, Nat.reduceEqDiff, List.length_cons, List.length_nil, hh]
      rw [if_neg (by omega), if_neg (by omega), c, r64_178]
      simp (disch := omega) only [sw_ldi, sw_ldl, sw_lda, sw_has1, sw_i1, sw_i2, sw_l1, sw_l2, sw_li, sw_r1, sw_ri, sw_rix, sw_rv, sw_pop, sw_set1, sw_set2, List.set_cons_zero, List.set_cons_succ, List.getElem?_cons_zero, List.getElem?_cons_succ, ald_1, ald_2, ast_1, ast_2, aln_1, aln_2, gf_1, gf_2, pf_1, pf_2, nw_1, ck_0, ck_1, ck_2, ck_3, ck_4, rr_1, rc_1, rc_2, K_i, K_l, K_v, I_add, I_sub, I_mul, I_div, I_em, I_eq0, I_lt0, I_0lt, I_le0, I_0le, I_eq, I_lt, I_le, I_a1, I_r1, I_eq1, I32_at, I32_s, Int.toNat_natCast, List.set_cons_zero, reduceCtorEq, not_false_eq_true, not_true_eq_false, false_and, true_and, and_true, and_false, false_or, true_or, or_true, or_false, if_true, if_false, eq_self, ↓reduceIte, Int.reduceEq, Int.reduceLT, Int.reduceLE, Int.reduceAdd, Int.reduceSub, Int.reduceMul, Int.reduceNeg, Int.reduceToNat, Nat.reduceLT, Nat.reduceAdd, Nat.reduceEqDiff, List.length_cons, List.length_nil]
      simp (disch := omega) only [r64_181, r64_183, r64_185, r64_186, r64_188, r64_189, sw_ldi, sw_ldl, sw_lda, sw_has1, sw_i1, sw_i2, sw_l1, sw_l2, sw_li, sw_r1, sw_ri, sw_rix, sw_rv, sw_pop, sw_set1, sw_set2, List.set_cons_zero, List.set_cons_succ, List.getElem?_cons_zero, List.getElem?_cons_succ, ald_1, ald_2, ast_1, ast_2, aln_1, aln_2, gf_1, gf_2, pf_1, pf_2, nw_1, ck_0, ck_1, ck_2, ck_3, ck_4, rr_1, rc_1, rc_2, K_i, K_l, K_v, I_add, I_sub, I_mul, I_div, I_em, I_eq0, I_lt0, I_0lt, I_le0, I_0le, I_eq, I_lt, I_le, I_a1, I_r1, I_eq1, I32_at, I32_s, Int.toNat_natCast, List.set_cons_zero, reduceCtorEq, not_false_eq_true, not_true_eq_false, false_and, true_and, and_true, and_false, false_or, true_or, or_true, or_false, if_true, if_false, eq_self, ↓reduceIte, Int.reduceEq, Int.reduceLT, Int.reduceLE, Int.reduceAdd, Int.reduceSub, Int.reduceMul, Int.reduceNeg, Int.reduceToNat, Nat.reduceLT, Nat.reduceAdd, Nat.reduceEqDiff, List.length_cons, List.length_nil]
      rw [show ((i : Int) + 11) % 12 = (((i + 11) % 12 : Nat) : Int) by omega]
      refine Eq.trans md ?_
      simp (disch := omega) only [r64_214, r64_216, r64_217, r64_218, r64_220, r64_221, sw_ldi, sw_ldl, sw_lda, sw_has1, sw_i1, sw_i2, sw_l1, sw_l2, sw_li, sw_r1, sw_ri, sw_rix, sw_rv, sw_pop, sw_set1, sw_set2, List.set_cons_zero, List.set_cons_succ, List.getElem?_cons_zero, List.getElem?_cons_succ, ald_1, ald_2, ast_1, ast_2, aln_1, aln_2, gf_1, gf_2, pf_1, pf_2, nw_1, ck_0, ck_1, ck_2, ck_3, ck_4, rr_1, rc_1, rc_2, K_i, K_l, K_v, I_add, I_sub, I_mul, I_div, I_em, I_eq0, I_lt0, I_0lt, I_le0, I_0le, I_eq, I_lt, I_le, I_a1, I_r1, I_eq1, I32_at, I32_s, Int.toNat_natCast, List.set_cons_zero, reduceCtorEq, not_false_eq_true, not_true_eq_false, false_and, true_and, and_true, and_false, false_or, true_or, or_true, or_false, if_true, if_false, eq_self, ↓reduceIte, Int.reduceEq, Int.reduceLT, Int.reduceLE, Int.reduceAdd, Int.reduceSub, Int.reduceMul, Int.reduceNeg, Int.reduceToNat, Nat.reduceLT, Nat.reduceAdd, Nat.reduceEqDiff, List.length_cons, List.length_nil]
      rw [show ((i : Int) + 1) % 12 = (((i + 1) % 12 : Nat) : Int) by omega]
      refine Eq.trans mu ?_
      simp (disch := omega) only [r64_245, r64_246, r64_248, r64_249, r64_250, r64_251, r64_253, r64_254, r64_255, r64_256, r64_257, sw_ldi, sw_ldl, sw_lda, sw_has1, sw_i1, sw_i2, sw_l1, sw_l2, sw_li, sw_r1, sw_ri, sw_rix, sw_rv, sw_pop, sw_set1, sw_set2, List.set_cons_zero, List.set_cons_succ, List.getElem?_cons_zero, List.getElem?_cons_succ, ald_1, ald_2, ast_1, ast_2, aln_1, aln_2, gf_1, gf_2, pf_1, pf_2, nw_1, ck_0, ck_1, ck_2, ck_3, ck_4, rr_1, rc_1, rc_2, K_i, K_l, K_v, I_add, I_sub, I_mul, I_div, I_em, I_eq0, I_lt0, I_0lt, I_le0, I_0le, I_eq, I_lt, I_le, I_a1, I_r1, I_eq1, I32_at, I32_s, Int.toNat_natCast, List.set_cons_zero, reduceCtorEq, not_false_eq_true, not_true_eq_false, false_and, true_and, and_true, and_false, false_or, true_or, or_true, or_false, if_true, if_false, eq_self, ↓reduceIte, Int.reduceEq, Int.reduceLT, Int.reduceLE, Int.reduceAdd, Int.reduceSub, Int.reduceMul, Int.reduceNeg, Int.reduceToNat, Nat.reduceLT, Nat.reduceAdd, Nat.reduceEqDiff, List.length_cons, List.length_nil, HL_a, HL_w, a0]
      simp (disch := omega) only [r64_258, r64_259, r64_261, r64_262, r64_263, r64_264, r64_266, r64_267, r64_268, r64_269, r64_270, r64_271, r64_272, r64_273, r64_276, sw_ldi, sw_ldl, sw_lda, sw_has1, sw_i1, sw_i2, sw_l1, sw_l2, sw_li, sw_r1, sw_ri, sw_rix, sw_rv, sw_pop, sw_set1, sw_set2, List.set_cons_zero, List.set_cons_succ, List.getElem?_cons_zero, List.getElem?_cons_succ, ald_1, ald_2, ast_1, ast_2, aln_1, aln_2, gf_1, gf_2, pf_1, pf_2, nw_1, ck_0, ck_1, ck_2, ck_3, ck_4, rr_1, rc_1, rc_2, K_i, K_l, K_v, I_add, I_sub, I_mul, I_div, I_em, I_eq0, I_lt0, I_0lt, I_le0, I_0le, I_eq, I_lt, I_le, I_a1, I_r1, I_eq1, I32_at, I32_s, Int.toNat_natCast, List.set_cons_zero, reduceCtorEq, not_false_eq_true, not_true_eq_false, false_and, true_and, and_true, and_false, false_or, true_or, or_true, or_false, if_true, if_false, eq_self, ↓reduceIte, Int.reduceEq, Int.reduceLT, Int.reduceLE, Int.reduceAdd, Int.reduceSub, Int.reduceMul, Int.reduceNeg, Int.reduceToNat, Nat.reduceLT, Nat.reduceAdd, Nat.reduceEqDiff, List.length_cons, List.length_nil, HL_a, HL_w, a0, at1]
      exact g
end sw_bk
