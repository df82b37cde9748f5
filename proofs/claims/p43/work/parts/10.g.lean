/-! the walk over openings: what it comes to -/
def Ed (ob : Nat → Int) (s t : Nat) : Prop := ∃ d : Int, 0 ≤ d ∧ d < 4 ∧ f_sb s d = t ∧ ¬ ob (f_bb s t).toNat = 0
/-- how many of the first n are reached -/
def cr (st : Nat → Int) : Nat → Int
  | 0 => 0
  | n + 1 => cr st n + (if st n = -1 then 0 else 1)
theorem cr_b (st : Nat → Int) : ∀ n, 0 ≤ cr st n ∧ cr st n ≤ n
  | 0 => ⟨Int.le_refl _, Int.le_refl _⟩
  | n + 1 => by have := cr_b st n; unfold cr; split <;> omega
theorem cr_lt {st : Nat → Int} {t : Nat} (h : st t = -1) : ∀ n, t < n → cr st n < n
  | 0, ht => absurd ht (Nat.not_lt_zero _)
  | n + 1, ht => by
    have := cr_b st n
    by_cases e : t = n
    · subst e; unfold cr; rw [if_pos h]; omega
    · have := cr_lt h n (by omega)
      unfold cr; split <;> omega
theorem cr_up {st : Nat → Int} {t : Nat} {v : Int} (h : st t = -1) (hv : ¬ v = -1) : ∀ n, cr (sw_s st t v) n = cr st n + (if t < n then 1 else 0)
  | 0 => rfl
  | n + 1 => by
    have ih := cr_up h hv n
    unfold cr
    rw [ih]
    unfold sw_s
    by_cases e : n = t
    · subst e
      rw [if_pos rfl, if_neg hv, if_neg (Nat.lt_irrefl _), if_pos h, if_pos (Nat.lt_succ_self _)]
    · rw [if_neg e]
      by_cases c : t < n
      · rw [if_pos c, if_pos (show t < n + 1 by omega)]; omega
      · rw [if_neg c, if_neg (show ¬ t < n + 1 by omega)]; omega
def BI (ob : Nat → Int) (S : Nat → Prop) (st qu : Nat → Int) (z h : Nat) : Prop :=
  (∀ t, t < 36 → -1 ≤ st t) ∧ (∀ i, i < z → 0 ≤ qu i ∧ qu i < 36 ∧ 0 ≤ st (qu i).toNat ∧ st (qu i).toNat ≤ i) ∧ (∀ t, t < 36 → 0 ≤ st t → ∃ i, i < z ∧ qu i = t) ∧ cr st 36 = z ∧ h ≤ z ∧
  (∀ t, t < 36 → S t → st t = 0) ∧ (∀ t, t < 36 → 0 ≤ st t → (st t = 0 ∧ S t) ∨ ∃ u, u < 36 ∧ Ed ob u t ∧ 0 ≤ st u ∧ st t = st u + 1) ∧
  (∀ i j, i ≤ j → j < z → st (qu i).toNat ≤ st (qu j).toNat) ∧ (∀ j, j < z → h < z → st (qu j).toNat ≤ st (qu h).toNat + 1) ∧
  (∀ i, i < h → ∀ t, t < 36 → Ed ob (qu i).toNat t → 0 ≤ st t ∧ st t ≤ st (qu i).toNat + 1)
theorem BI_z {ob : Nat → Int} {S : Nat → Prop} {st qu : Nat → Int} {z h : Nat} (b : BI ob S st qu z h) : z ≤ 36 := by
  have := cr_b st 36
  have := b.2.2.2.1
  omega
theorem BI_st {ob : Nat → Int} {S : Nat → Prop} {st qu : Nat → Int} {z h : Nat} (b : BI ob S st qu z h) : ∀ t, t < 36 → -1 ≤ st t ∧ st t < 100 := by
  intro t ht
  have h1 := b.1 t ht
  have hz := BI_z b
  refine ⟨h1, ?_⟩
  by_cases c : 0 ≤ st t
  · obtain ⟨i, hi, e⟩ := b.2.2.1 t ht c
    have h2 := (b.2.1 i hi).2.2.2
    rw [e] at h2
    have h2 : st t ≤ i := h2
    omega
  · omega
/-- in the midst of a turn: the first directions are done -/
def BJ (ob : Nat → Int) (S : Nat → Prop) (σ : sw_B3) (h : Nat) (d : Int) : Prop := ∃ z : Nat, σ.2.2 = z ∧ h < z ∧ BI ob S σ.1 σ.2.1 z h ∧ ∀ d2 : Int, 0 ≤ d2 → d2 < d → ¬ f_sb (σ.2.1 h) d2 = -1 → ¬ ob (f_bb (σ.2.1 h) (f_sb (σ.2.1 h) d2)).toNat = 0 → 0 ≤ σ.1 (f_sb (σ.2.1 h) d2).toNat ∧ σ.1 (f_sb (σ.2.1 h) d2).toNat ≤ σ.1 (σ.2.1 h).toNat + 1
theorem BJ_bnd {ob : Nat → Int} {S : Nat → Prop} {σ : sw_B3} {h : Nat} {d : Int} (hd : 0 ≤ d ∧ d < 4) (b : BJ ob S σ h d) : bnd ob (σ.2.1 h) d σ := by
  obtain ⟨z, e, hz, b, -⟩ := b
  have hq := b.2.1 h hz
  refine ⟨⟨BI_st b, by omega⟩, fun h1 h2 => ?_⟩
  have hb := f_sb_b hq.1 hq.2.1 hd.1 hd.2
  have := cr_lt h2 36 (by omega)
  have := b.2.2.2.1
  omega
theorem BJ_up {ob : Nat → Int} {S : Nat → Prop} {σ : sw_B3} {h : Nat} {d : Int} (hd : 0 ≤ d ∧ d < 4) (b : BJ ob S σ h d) : BJ ob S (bf1 ob (σ.2.1 h) d σ) h (d + 1) ∧ (bf1 ob (σ.2.1 h) d σ).2.1 h = σ.2.1 h := by
  obtain ⟨z, ez, hz, b, bd⟩ := id b
  have bz := BI_z b
  have hq := b.2.1 h hz
  have hb := f_sb_b hq.1 hq.2.1 hd.1 hd.2
  have stay : (¬ f_sb (σ.2.1 h) d = -1 → ¬ ob (f_bb (σ.2.1 h) (f_sb (σ.2.1 h) d)).toNat = 0 → 0 ≤ σ.1 (f_sb (σ.2.1 h) d).toNat ∧ σ.1 (f_sb (σ.2.1 h) d).toNat ≤ σ.1 (σ.2.1 h).toNat + 1) → BJ ob S σ h (d + 1) := by
    intro hx
    refine ⟨z, ez, hz, b, fun d2 h1 h2 => ?_⟩
    by_cases e : d2 = d
    · subst e; exact hx
    · exact bd d2 h1 (by omega)
  unfold bf1
  split
  · next c1 => exact ⟨stay fun q => absurd c1 q, rfl⟩
  · next c1 =>
    split
    · next c2 =>
      split
      · next c3 => exact ⟨stay fun _ q => absurd c3 q, rfl⟩
      · next c3 =>
        obtain ⟨a1, a2, a3, a4, a5, a6, a7, a8, a9, a10⟩ := id b
        have hs : 0 ≤ σ.1 (σ.2.1 h).toNat := hq.2.2.1
        generalize ht : (f_sb (σ.2.1 h) d).toNat = t at *
        have et : f_sb (σ.2.1 h) d = (t : Int) := by omega
        have t36 : t < 36 := by omega
        generalize hs2 : (σ.2.1 h).toNat = s at *
        have es : σ.2.1 h = (s : Int) := by omega
        have nst : ∀ u, 0 ≤ σ.1 u → ¬ u = t := fun u hu e => by rw [e] at hu; omega
        have stu : ∀ u, 0 ≤ σ.1 u → sw_s σ.1 t (σ.1 s + 1) u = σ.1 u := fun u hu => if_neg (nst u hu)
        have stt : sw_s σ.1 t (σ.1 s + 1) t = σ.1 s + 1 := if_pos rfl
        have quz : sw_s σ.2.1 σ.2.2.toNat (f_sb (σ.2.1 h) d) z = t := by unfold sw_s; rw [if_pos (by omega)]; exact et
        have qui : ∀ i, i < z → sw_s σ.2.1 σ.2.2.toNat (f_sb (σ.2.1 h) d) i = σ.2.1 i := fun i hi => if_neg (by omega)
        have sti : ∀ i, i < z → sw_s σ.1 t (σ.1 s + 1) (σ.2.1 i).toNat = σ.1 (σ.2.1 i).toNat := fun i hi => stu _ (a2 i hi).2.2.1
        have stz : sw_s σ.1 t (σ.1 s + 1) ((t : Int)).toNat = σ.1 s + 1 := if_pos (by omega)
        have z36 : cr σ.1 36 < 36 := cr_lt c2 36 t36
        have hsh : σ.1 s ≤ h := by have := (a2 h hz).2.2.2; rw [hs2] at this; exact this
        refine ⟨⟨z + 1, ?_, by omega, ⟨?_, ?_, ?_, ?_, by omega, ?_, ?_, ?_, ?_, ?_⟩, ?_⟩, qui h hz⟩
        · show σ.2.2 + 1 = _; omega
        · intro u hu
          by_cases e : u = t
          · subst e; show -1 ≤ sw_s σ.1 u _ u; rw [stt]; omega
          · show -1 ≤ sw_s σ.1 t _ u; unfold sw_s; rw [if_neg e]; exact a1 u hu
        · intro i hi
          show 0 ≤ sw_s σ.2.1 _ _ i ∧ sw_s σ.2.1 _ _ i < 36 ∧ 0 ≤ sw_s σ.1 t _ (sw_s σ.2.1 _ _ i).toNat ∧ sw_s σ.1 t _ (sw_s σ.2.1 _ _ i).toNat ≤ i
          by_cases e : i = z
          · subst e; rw [quz, stz]; omega
          · rw [qui i (by omega), sti i (by omega)]; exact a2 i (by omega)
        · intro u hu h0
          by_cases e : u = t
          · exact ⟨z, by omega, by rw [e]; exact quz⟩
          · have h0 : 0 ≤ sw_s σ.1 t (σ.1 s + 1) u := h0
            unfold sw_s at h0
            rw [if_neg e] at h0
            obtain ⟨i, hi, e2⟩ := a3 u hu h0
            exact ⟨i, by omega, (qui i hi).trans e2⟩
        · show cr (sw_s σ.1 t _) 36 = _
          rw [cr_up c2 (by omega), if_pos t36]; omega
        · intro u hu h0
          have := a6 u hu h0
          show sw_s σ.1 t _ u = 0
          rw [stu u (by omega)]; exact this
        · intro u hu h0
          by_cases e : u = t
          · subst e
            refine Or.inr ⟨s, by omega, ⟨d, hd.1, hd.2, by rw [← es]; exact et, by rw [← es, ← et]; exact c3⟩, ?_, ?_⟩
            · show 0 ≤ sw_s σ.1 u _ s; rw [stu s hs]; exact hs
            · show sw_s σ.1 u _ u = sw_s σ.1 u _ s + 1; rw [stt, stu s hs]
          · have h0 : 0 ≤ sw_s σ.1 t (σ.1 s + 1) u := h0
            have e2 : sw_s σ.1 t (σ.1 s + 1) u = σ.1 u := if_neg e
            rw [e2] at h0
            show (sw_s σ.1 t _ u = 0 ∧ S u) ∨ ∃ v, v < 36 ∧ Ed ob v u ∧ 0 ≤ sw_s σ.1 t _ v ∧ sw_s σ.1 t _ u = sw_s σ.1 t _ v + 1
            rw [e2]
            rcases a7 u hu h0 with q | ⟨v, v1, v2, v3, v4⟩
            · exact Or.inl q
            · exact Or.inr ⟨v, v1, v2, by rw [stu v v3]; exact v3, by rw [stu v v3]; exact v4⟩
        · intro i j hij hj
          show sw_s σ.1 t _ (sw_s σ.2.1 _ _ i).toNat ≤ sw_s σ.1 t _ (sw_s σ.2.1 _ _ j).toNat
          by_cases e : j = z
          · subst e
            rw [quz, stz]
            by_cases e2 : i = j
            · subst e2; rw [quz, stz]; exact Int.le_refl _
            · rw [qui i (by omega), sti i (by omega)]
              exact a9 i (by omega) hz
          · rw [qui i (by omega), qui j (by omega), sti i (by omega), sti j (by omega)]
            exact a8 i j hij (by omega)
        · intro j hj _
          show sw_s σ.1 t _ (sw_s σ.2.1 _ _ j).toNat ≤ sw_s σ.1 t _ (sw_s σ.2.1 _ _ h).toNat + 1
          rw [qui h hz, sti h hz, hs2]
          by_cases e : j = z
          · subst e; rw [quz, stz]; exact Int.le_refl _
          · rw [qui j (by omega), sti j (by omega)]
            exact a9 j (by omega) hz
        · intro i hi u hu he
          have he : Ed ob (sw_s σ.2.1 σ.2.2.toNat (f_sb (σ.2.1 h) d) i).toNat u := he
          rw [qui i (by omega)] at he
          obtain ⟨q1, q2⟩ := a10 i hi u hu he
          show 0 ≤ sw_s σ.1 t _ u ∧ sw_s σ.1 t _ u ≤ sw_s σ.1 t _ (sw_s σ.2.1 _ _ i).toNat + 1
          rw [qui i (by omega), sti i (by omega), stu u q1]
          exact ⟨q1, q2⟩
        · intro d2 h1 h2
          show ¬ f_sb (sw_s σ.2.1 _ _ h) d2 = -1 → ¬ ob (f_bb (sw_s σ.2.1 _ _ h) (f_sb (sw_s σ.2.1 _ _ h) d2)).toNat = 0 → 0 ≤ sw_s σ.1 t _ (f_sb (sw_s σ.2.1 _ _ h) d2).toNat ∧ sw_s σ.1 t _ (f_sb (sw_s σ.2.1 _ _ h) d2).toNat ≤ sw_s σ.1 t _ (sw_s σ.2.1 _ _ h).toNat + 1
          rw [qui h hz]
          intro h3 h4
          rw [hs2, stu s hs]
          by_cases e : d2 = d
          · subst e; rw [ht, stt]; omega
          · obtain ⟨q1, q2⟩ := bd d2 h1 (by omega) h3 h4
            rw [stu _ q1]
            exact ⟨q1, q2⟩
    · next c2 =>
      refine ⟨stay fun q1 q2 => ?_, rfl⟩
      have h1 := b.1 (f_sb (σ.2.1 h) d).toNat (by omega)
      have h2 : 0 ≤ σ.1 (f_sb (σ.2.1 h) d).toNat := by omega
      refine ⟨h2, ?_⟩
      obtain ⟨i, hi, e⟩ := b.2.2.1 (f_sb (σ.2.1 h) d).toNat (by omega) h2
      have := b.2.2.2.2.2.2.2.2.1 i hi hz
      rw [e] at this
      exact this
theorem BJ_0 {ob : Nat → Int} {S : Nat → Prop} {σ : sw_B3} {z h : Nat} (e : σ.2.2 = z) (hz : h < z) (b : BI ob S σ.1 σ.2.1 z h) : BJ ob S σ h 0 := ⟨z, e, hz, b, fun d2 h1 h2 => absurd h1 (by omega)⟩
theorem BJ_4 {ob : Nat → Int} {S : Nat → Prop} {σ : sw_B3} {h : Nat} (b : BJ ob S σ h 4) : ∃ z : Nat, σ.2.2 = z ∧ h < z ∧ BI ob S σ.1 σ.2.1 z (h + 1) := by
  obtain ⟨z, e, hz, ⟨a1, a2, a3, a4, a5, a6, a7, a8, a9, a10⟩, bd⟩ := b
  refine ⟨z, e, hz, a1, a2, a3, a4, by omega, a6, a7, a8, fun j hj hh => ?_, fun i hi t ht he => ?_⟩
  · have := a9 j hj hz
    have := a8 h (h + 1) (by omega) hh
    omega
  · by_cases c : i = h
    · subst c
      obtain ⟨d, d1, d2, d3, d4⟩ := he
      have hq := a2 i hz
      have es : (((σ.2.1 i).toNat : Nat) : Int) = σ.2.1 i := by omega
      rw [es] at d3 d4
      have := bd d d1 d2 (by omega) (by rw [d3]; exact d4)
      rw [d3] at this
      exact this
    · exact a10 i (by omega) t ht he
/-- what the walk leaves: the steps are the distances from S, the size counts what is reached -/
def BD (ob : Nat → Int) (S : Nat → Prop) (st : Nat → Int) (z : Int) : Prop :=
  (∀ t, t < 36 → -1 ≤ st t ∧ st t < 100) ∧ cr st 36 = z ∧ (∀ t, t < 36 → S t → st t = 0) ∧ (∀ t, t < 36 → 0 ≤ st t → (st t = 0 ∧ S t) ∨ ∃ u, u < 36 ∧ Ed ob u t ∧ 0 ≤ st u ∧ st t = st u + 1) ∧
  ∀ u t, u < 36 → t < 36 → 0 ≤ st u → Ed ob u t → 0 ≤ st t ∧ st t ≤ st u + 1
theorem BI_D {ob : Nat → Int} {S : Nat → Prop} {st qu : Nat → Int} {z : Nat} (b : BI ob S st qu z z) : BD ob S st z := by
  refine ⟨BI_st b, b.2.2.2.1, b.2.2.2.2.2.1, b.2.2.2.2.2.2.1, fun u t hu ht h0 he => ?_⟩
  obtain ⟨i, hi, e⟩ := b.2.2.1 u hu h0
  have := b.2.2.2.2.2.2.2.2.2 i hi t ht
  rw [e] at this
  exact this he
section sw_m7
variable {L : Nat} {A : Nat → Nat → Int} {F : Nat → Int} {T : Nat → sw_Ce} {X : Nat × Nat × Nat} {Q : sw_Ot → sw_HS → Prop}
theorem m90_l {S : Nat → Prop} (hob : ∀ b, b < 60 → A 18 b = 0 ∨ A 18 b = 1) : ∀ (n h z : Nat) (σ : sw_B3) (x y w : Option Value), h + n = 36 → σ.2.2 = z → BI (A 18) S σ.1 σ.2.1 z h → ∃ σ2 : sw_B3, BD (A 18) S σ2.1 σ2.2.2 ∧ sw_A 90 2 [some (.ref 16), some (.int (Int32.ofInt h)), x, y, w] [] (hB L A F T X σ h) Q = Q (some none) (hB L A F T X σ2 σ2.2.2)
  | n, h, z, σ, x, y, w, hn, ez, b => by
    have bz := BI_z b
    have hz := b.2.2.2.2.1
    by_cases c : h < z
    · match n, hn with
      | 0, hn => omega
      | n + 1, hn =>
        have q := b.2.1 h c
        have j0 := BJ_0 ez c b
        obtain ⟨j1, q1⟩ := BJ_up (d := 0) (by omega) j0
        obtain ⟨j2, q2⟩ := BJ_up (d := 0 + 1) (by omega) j1
        obtain ⟨j3, q3⟩ := BJ_up (d := 0 + 1 + 1) (by omega) j2
        obtain ⟨j4, q4⟩ := BJ_up (d := 0 + 1 + 1 + 1) (by omega) j3
        have b0 := BJ_bnd (by omega) j0
        have b1 := BJ_bnd (by omega) j1
        have b2 := BJ_bnd (by omega) j2
        have b3 := BJ_bnd (by omega) j3
        rw [q1] at b1 q2 j2
        rw [q1, q2] at b2 q3 j3
        rw [q1, q2, q3] at b3 j4
        obtain ⟨x2, y2, w2, e⟩ := m90_t (L := L) (A := A) (F := F) (T := T) (X := X) (Q := Q) (σ := σ) (h := h) (i := h) (x := x) (y := y) (z := w) hob (by omega) (by omega) (by omega) (by omega) (by omega) q.1 q.2.1 b0 b1 b2 b3
        obtain ⟨z2, ez2, -, bb⟩ := BJ_4 j4
        obtain ⟨σ2, g1, g2⟩ := m90_l hob n (h + 1) z2 _ x2 y2 w2 (by omega) ez2 bb
        exact ⟨σ2, g1, e.trans g2⟩
    · have e : h = z := by omega
      subst e
      refine ⟨σ, by rw [ez]; exact BI_D b, ?_⟩
      rw [ez]
      exact m90_e (by omega) (by omega) (by omega) (by omega) (by omega) (by omega)
/-- walkOn -/
theorem m90 {S : Nat → Prop} {z : Nat} {σ : sw_B3} (hob : ∀ b, b < 60 → A 18 b = 0 ∨ A 18 b = 1) (ez : σ.2.2 = z) (b : BI (A 18) S σ.1 σ.2.1 z 0) : ∃ σ2 : sw_B3, BD (A 18) S σ2.1 σ2.2.2 ∧ sw_M 90 [.ref 16] (hB L A F T X σ 0) Q = Q (some none) (hB L A F T X σ2 σ2.2.2) := by
  obtain ⟨σ2, g1, g2⟩ := m90_l (L := L) (A := A) (F := F) (T := T) (X := X) (Q := Q) hob 36 0 z σ none none none (by omega) ez b
  refine ⟨σ2, g1, Eq.trans ?_ g2⟩
  rw [e90]
  simp (disch := omega) only [r90_0, r90_1, sw_ldi, sw_ldl, sw_lda, sw_has1, sw_i1, sw_i2, sw_l1, sw_l2, sw_li, sw_r1, sw_ri, sw_rix, sw_rv, sw_pop, sw_set1, sw_set2, List.set_cons_zero, List.set_cons_succ, List.getElem?_cons_zero, List.getElem?_cons_succ, ald_1, ald_2, ast_1, ast_2, aln_1, aln_2, gf_1, gf_2, pf_1, pf_2, nw_1, ck_0, ck_1, ck_2, ck_3, ck_4, rr_1, rc_1, rc_2, K_i, K_l, K_v, I_add, I_sub, I_mul, I_div, I_em, I_eq0, I_lt0, I_0lt, I_le0, I_0le, I_eq, I_lt, I_le, I_a1, I_r1, I_eq1, I32_at, I32_s, Int.toNat_natCast, List.set_cons_zero, reduceCtorEq, not_false_eq_true, not_true_eq_false, false_and, true_and, and_true, and_false, false_or, true_or, or_true, or_false, if_true, if_false, eq_self, ↓reduceIte, Int.reduceEq, Int.reduceLT, Int.reduceLE, Int.reduceAdd, Int.reduceSub, Int.reduceMul, Int.reduceNeg, Int.reduceToNat, Nat.reduceLT, Nat.reduceAdd, Nat.reduceEqDiff, List.length_cons, List.length_nil]
  rfl
end sw_m7
