/-! making: the heap as a list of cells -/
def hG (D : sw_Ce) (c : List sw_Ce) (n m : Nat) : sw_HS := (fun a => (c[a]?).getD D, c.length, n, m)
abbrev ar (t n : Nat) : sw_Ce := .inr (t, n, fun _ => 0)
section sw_mkk
variable {D : sw_Ce} {c l : List sw_Ce} {n m : Nat} {Q : sw_Ot → sw_HS → Prop}
theorem hG_mk {x : sw_Ce} {k : Nat} : sw_mk (hG D (c ++ l) n m) x k = hG D (c ++ (l ++ [x])) (n + 1) (m + k) := by
  refine Prod.ext (funext fun a => ?_) ?_
  · show (if a = (c ++ l).length then x else ((c ++ l)[a]?).getD D) = ((c ++ (l ++ [x]))[a]?).getD D
    rw [← List.append_assoc]
    by_cases e : a = (c ++ l).length
    · rw [if_pos e, e, List.getElem?_append_right (Nat.le_refl _), Nat.sub_self]
      rfl
    · rw [if_neg e]
      by_cases h : a < (c ++ l).length
      · rw [List.getElem?_append_left h]
      · rw [List.getElem?_eq_none (by omega), List.getElem?_eq_none (by rw [List.length_append]; show (c ++ l).length + 1 ≤ a; omega)]
  · show ((c ++ l).length + 1, n + 1, m + k) = ((c ++ (l ++ [x])).length, n + 1, m + k)
    rw [← List.append_assoc, List.length_append (bs := [x])]
    rfl
theorem hG_nx : (hG D (c ++ l) n m).2.1 = c.length + l.length := List.length_append
theorem hG_at {k : Nat} : (hG D (c ++ l) n m).1 (c.length + k) = (l[k]?).getD D := by
  show ((c ++ l)[c.length + k]?).getD D = _
  rw [List.getElem?_append_right (by omega), Nat.add_sub_cancel_left]
theorem hG_wr {k : Nat} {x : sw_Ce} (h : k < l.length) : sw_wr (hG D (c ++ l) n m) (c.length + k) x = hG D (c ++ l.set k x) n m := by
  refine Prod.ext (funext fun a => ?_) ?_
  · show (if a = c.length + k then x else ((c ++ l)[a]?).getD D) = ((c ++ l.set k x)[a]?).getD D
    by_cases e : a = c.length + k
    · rw [if_pos e, e, List.getElem?_append_right (by omega), Nat.add_sub_cancel_left, List.getElem?_set_self h]
      rfl
    · rw [if_neg e]
      by_cases h2 : a < c.length
      · rw [List.getElem?_append_left h2, List.getElem?_append_left h2]
      · rw [List.getElem?_append_right (by omega), List.getElem?_append_right (by omega), List.getElem?_set_ne (by omega)]
  · show ((c ++ l).length, n, m) = ((c ++ l.set k x).length, n, m)
    rw [List.length_append, List.length_append, List.length_set]
theorem k1_0 : sw_M 1 [.ref (c.length + 0)] (hG D (c ++ [.inl (10, sw_df 10)]) n m) Q = Q (some none) (hG D (c ++ [.inl (10, [.ref (c.length + 1), .int 0, .int 0]), ar 0 36]) (n + 1) (m + 36)) := by
  rw [e1]
  simp (disch := omega) only [r1_0, r1_1, sw_ldi, sw_ldl, sw_lda, sw_has1, sw_i1, sw_i2, sw_l1, sw_l2, sw_li, sw_r1, sw_ri, sw_rix, sw_rv, sw_pop, sw_set1, sw_set2, List.set_cons_zero, List.set_cons_succ, List.getElem?_cons_zero, List.getElem?_cons_succ, ald_1, ald_2, ast_1, ast_2, aln_1, aln_2, gf_1, gf_2, pf_1, pf_2, nw_1, ck_0, ck_1, ck_2, ck_3, ck_4, rr_1, rc_1, rc_2, K_i, K_l, K_v, I_add, I_sub, I_mul, I_div, I_em, I_eq0, I_lt0, I_0lt, I_le0, I_0le, I_eq, I_lt, I_le, I_a1, I_r1, I_eq1, I32_at, I32_s, Int.toNat_natCast, List.set_cons_zero, reduceCtorEq, not_false_eq_true, not_true_eq_false, false_and, true_and, and_true, and_false, false_or, true_or, or_true, or_false, if_true, if_false, eq_self, ↓reduceIte, Int.reduceEq, Int.reduceLT, Int.reduceLE, Int.reduceAdd, Int.reduceSub, Int.reduceMul, Int.reduceNeg, Int.reduceToNat, Nat.reduceLT, Nat.reduceAdd, Nat.reduceEqDiff, List.length_cons, List.length_nil]
  trace_state
  sorry
end sw_mkk
