/-! balls around a set -/
def Bl (ob : Nat → Int) (S : Nat → Prop) : Nat → Nat → Prop
  | 0, t => t < 36 ∧ S t
  | n + 1, t => Bl ob S n t ∨ (t < 36 ∧ ∃ u, Bl ob S n u ∧ Ed ob u t)
def Rc (ob : Nat → Int) (S : Nat → Prop) (t : Nat) : Prop := ∃ n, Bl ob S n t
theorem Bl_lt {ob : Nat → Int} {S : Nat → Prop} : ∀ (n t : Nat), Bl ob S n t → t < 36
  | 0, _, h => h.1
  | n + 1, t, h => h.elim (Bl_lt n t) (fun q => q.1)
theorem Bl_mono {ob : Nat → Int} {S : Nat → Prop} {n t : Nat} (h : Bl ob S n t) : ∀ k, Bl ob S (n + k) t
  | 0 => h
  | k + 1 => Or.inl (Bl_mono h k)
theorem BD_le {ob : Nat → Int} {S : Nat → Prop} {st : Nat → Int} {z : Int} (b : BD ob S st z) : ∀ (n t : Nat), Bl ob S n t → 0 ≤ st t ∧ st t ≤ n
  | 0, t, h => by have := b.2.2.1 t h.1 h.2; omega
  | n + 1, t, h => by
    rcases h with h | ⟨ht, u, hu, he⟩
    · have := BD_le b n t h; omega
    · have h1 := BD_le b n u hu
      have := b.2.2.2.2 u t (Bl_lt n u hu) ht h1.1 he
      omega
theorem BD_ge {ob : Nat → Int} {S : Nat → Prop} {st : Nat → Int} {z : Int} (b : BD ob S st z) : ∀ (n t : Nat), t < 36 → st t = n → Bl ob S n t
  | 0, t, ht, h => by
    rcases b.2.2.2.1 t ht (by omega) with q | ⟨u, u1, u2, u3, u4⟩
    · exact ⟨ht, q.2⟩
    · omega
  | n + 1, t, ht, h => by
    rcases b.2.2.2.1 t ht (by omega) with q | ⟨u, u1, u2, u3, u4⟩
    · omega
    · exact Or.inr ⟨ht, u, BD_ge b n u u1 (by omega), u2⟩
theorem BD_Bl {ob : Nat → Int} {S : Nat → Prop} {st : Nat → Int} {z : Int} (b : BD ob S st z) {t : Nat} (ht : t < 36) (n : Nat) : Bl ob S n t ↔ (0 ≤ st t ∧ st t ≤ n) := by
  refine ⟨BD_le b n t, fun h => ?_⟩
  obtain ⟨k, hk⟩ := Int.eq_ofNat_of_zero_le h.1
  have h2 := BD_ge b k t ht hk
  have := Bl_mono h2 (n - k)
  rwa [show k + (n - k) = n by omega] at this
theorem BD_Rc {ob : Nat → Int} {S : Nat → Prop} {st : Nat → Int} {z : Int} (b : BD ob S st z) {t : Nat} (ht : t < 36) : Rc ob S t ↔ 0 ≤ st t := by
  refine ⟨fun ⟨n, h⟩ => (BD_le b n t h).1, fun h => ?_⟩
  obtain ⟨k, hk⟩ := Int.eq_ofNat_of_zero_le h
  exact ⟨k, BD_ge b k t ht hk⟩
theorem Rc_lt {ob : Nat → Int} {S : Nat → Prop} {t : Nat} (h : Rc ob S t) : t < 36 := h.elim fun n q => Bl_lt n t q
theorem Rc_0 {ob : Nat → Int} {S : Nat → Prop} {t : Nat} (ht : t < 36) (h : S t) : Rc ob S t := ⟨0, ht, h⟩
theorem Rc_s {ob : Nat → Int} {S : Nat → Prop} {u t : Nat} (ht : t < 36) (h : Rc ob S u) (he : Ed ob u t) : Rc ob S t := h.elim fun n q => ⟨n + 1, Or.inr ⟨ht, u, q, he⟩⟩
/-- what holds S and is closed holds all that is come to -/
theorem Rc_in {ob : Nat → Int} {S P : Nat → Prop} (h0 : ∀ t, t < 36 → S t → P t) (hs : ∀ u t, u < 36 → t < 36 → P u → Ed ob u t → P t) {t : Nat} (h : Rc ob S t) : P t := by
  obtain ⟨n, h⟩ := h
  induction n generalizing t with
  | zero => exact h0 t h.1 h.2
  | succ n ih =>
    rcases h with h | ⟨ht, u, hu, he⟩
    · exact ih h
    · exact hs u t (Bl_lt n u hu) ht (ih hu) he
/-! a walk where some components (v) have been walked before -/
def rsV (v : Nat → Bool) (st : Nat → Int) : Nat → Int := fun t => if v t = true then -1 else st t
def rs3 (v : Nat → Bool) (σ : sw_B3) : sw_B3 := (rsV v σ.1, σ.2)
/-- the components walked before are whole, and marked -/
def Vk (ob : Nat → Int) (v : Nat → Bool) (st : Nat → Int) : Prop := (∀ s t, s < 36 → t < 36 → Ed ob s t → v t = true → v s = true) ∧ ∀ t, t < 36 → v t = true → 0 ≤ st t ∧ st t < 100
theorem bf1_rs {ob : Nat → Int} {v : Nat → Bool} {σ : sw_B3} {s d : Int} (h1 : 0 ≤ s) (h2 : s < 36) (hd : 0 ≤ d ∧ d < 4) (hv : Vk ob v σ.1) (hs : v s.toNat = false) : rs3 v (bf1 ob s d σ) = bf1 ob s d (rs3 v σ) ∧ Vk ob v (bf1 ob s d σ).1 ∧ (∀ t, v t = true → (bf1 ob s d σ).1 t = σ.1 t) := by
  have hb := f_sb_b h1 h2 hd.1 hd.2
  by_cases c1 : f_sb s d = -1
  · have e1 : ∀ τ : sw_B3, bf1 ob s d τ = τ := fun τ => if_pos c1
    rw [e1, e1]
    exact ⟨rfl, hv, fun _ _ => rfl⟩
  · by_cases cv : v (f_sb s d).toNat = true
    · have hob : ob (f_bb s (f_sb s d)).toNat = 0 := Classical.byContradiction fun q => by
        have := hv.1 s.toNat (f_sb s d).toNat (by omega) (by omega) ⟨d, hd.1, hd.2, by rw [show ((s.toNat : Nat) : Int) = s by omega]; omega, by rw [show ((s.toNat : Nat) : Int) = s by omega, show (((f_sb s d).toNat : Nat) : Int) = f_sb s d by omega]; exact q⟩ cv
        rw [hs] at this
        cases this
      have h3 := (hv.2 _ (by omega) cv).1
      have e1 : bf1 ob s d σ = σ := by unfold bf1; rw [if_neg c1, if_neg (by omega)]
      have e2 : bf1 ob s d (rs3 v σ) = rs3 v σ := by
        unfold bf1
        rw [if_neg c1, if_pos (show (rs3 v σ).1 (f_sb s d).toNat = -1 from if_pos cv), if_pos hob]
      rw [e1, e2]
      exact ⟨rfl, hv, fun _ _ => rfl⟩
    · have r1 : (rs3 v σ).1 (f_sb s d).toNat = σ.1 (f_sb s d).toNat := if_neg cv
      have r2 : (rs3 v σ).1 s.toNat = σ.1 s.toNat := if_neg (by rw [hs]; exact Bool.false_ne_true)
      by_cases c2 : σ.1 (f_sb s d).toNat = -1
      · by_cases c3 : ob (f_bb s (f_sb s d)).toNat = 0
        · have e1 : bf1 ob s d σ = σ := by unfold bf1; rw [if_neg c1, if_pos c2, if_pos c3]
          have e2 : bf1 ob s d (rs3 v σ) = rs3 v σ := by unfold bf1; rw [if_neg c1, if_pos (by rw [r1]; exact c2), if_pos c3]
          rw [e1, e2]
          exact ⟨rfl, hv, fun _ _ => rfl⟩
        · have e1 : bf1 ob s d σ = (sw_s σ.1 (f_sb s d).toNat (σ.1 s.toNat + 1), sw_s σ.2.1 σ.2.2.toNat (f_sb s d), σ.2.2 + 1) := by unfold bf1; rw [if_neg c1, if_pos c2, if_neg c3]
          have e2 : bf1 ob s d (rs3 v σ) = (sw_s (rs3 v σ).1 (f_sb s d).toNat ((rs3 v σ).1 s.toNat + 1), sw_s σ.2.1 σ.2.2.toNat (f_sb s d), σ.2.2 + 1) := by unfold bf1; rw [if_neg c1, if_pos (by rw [r1]; exact c2), if_neg c3]; rfl
          have nv : ∀ t, v t = true → ¬ t = (f_sb s d).toNat := fun t ht e => cv (by rw [← e]; exact ht)
          rw [e1, e2, r2]
          refine ⟨Prod.ext (funext fun t => ?_) rfl, ⟨hv.1, fun t ht q => ?_⟩, fun t q => if_neg (nv t q)⟩
          · show rsV v (sw_s σ.1 _ _) t = sw_s (rsV v σ.1) _ _ t
            unfold rsV sw_s
            by_cases e : t = (f_sb s d).toNat
            · subst e; rw [if_neg cv, if_pos rfl, if_pos rfl]
            · rw [if_neg e, if_neg e]
          · show 0 ≤ sw_s σ.1 _ _ t ∧ sw_s σ.1 _ _ t < 100
            unfold sw_s
            rw [if_neg (nv t q)]
            exact hv.2 t ht q
      · have e1 : bf1 ob s d σ = σ := by unfold bf1; rw [if_neg c1, if_neg c2]
        have e2 : bf1 ob s d (rs3 v σ) = rs3 v σ := by unfold bf1; rw [if_neg c1, if_neg (by rw [r1]; exact c2)]
        rw [e1, e2]
        exact ⟨rfl, hv, fun _ _ => rfl⟩
theorem bnd_rs {ob : Nat → Int} {v : Nat → Bool} {σ : sw_B3} {s d : Int} (hs : 0 ≤ s ∧ s < 36) (hd : 0 ≤ d ∧ d < 4) (hv : Vk ob v σ.1) (b : bnd ob s d (rs3 v σ)) : bnd ob s d σ := by
  have hb := f_sb_b hs.1 hs.2 hd.1 hd.2
  refine ⟨⟨fun t ht => ?_, b.1.2⟩, fun h1 h2 => b.2 h1 ?_⟩
  · by_cases c : v t = true
    · have := hv.2 t ht c; omega
    · have h3 := b.1.1 t ht
      have e : (rs3 v σ).1 t = σ.1 t := if_neg c
      rw [e] at h3
      exact h3
  · show rsV v σ.1 _ = -1
    unfold rsV
    split
    · rfl
    · exact h2
section sw_m9
variable {L : Nat} {A : Nat → Nat → Int} {F : Nat → Int} {T : Nat → sw_Ce} {X : Nat × Nat × Nat} {Q : sw_Ot → sw_HS → Prop}
theorem m90v_l {S : Nat → Prop} {v : Nat → Bool} (hob : ∀ b, b < 60 → A 18 b = 0 ∨ A 18 b = 1) : ∀ (n h z : Nat) (σ : sw_B3) (x y w : Option Value), h + n = 36 → σ.2.2 = z → Vk (A 18) v σ.1 → BI (A 18) S (rsV v σ.1) σ.2.1 z h → ∃ σ2 : sw_B3, BD (A 18) S (rsV v σ2.1) σ2.2.2 ∧ Vk (A 18) v σ2.1 ∧ sw_A 90 2 [some (.ref 16), some (.int (Int32.ofInt h)), x, y, w] [] (hB L A F T X σ h) Q = Q (some none) (hB L A F T X σ2 σ2.2.2)
  | n, h, z, σ, x, y, w, hn, ez, hv, b => by
    have bz := BI_z b
    have hz := b.2.2.2.2.1
    by_cases c : h < z
    · match n, hn with
      | 0, hn => omega
      | n + 1, hn =>
        have q := b.2.1 h c
        have hs : v (σ.2.1 h).toNat = false := by
          cases e : v (σ.2.1 h).toNat with
          | false => rfl
          | true =>
            have := q.2.2.1
            have e2 : rsV v σ.1 (σ.2.1 h).toNat = -1 := if_pos e
            omega
        have j0 := BJ_0 (σ := rs3 v σ) ez c b
        obtain ⟨j1, q1⟩ := BJ_up (d := 0) (by omega) j0
        obtain ⟨j2, q2⟩ := BJ_up (d := 0 + 1) (by omega) j1
        obtain ⟨j3, q3⟩ := BJ_up (d := 0 + 1 + 1) (by omega) j2
        obtain ⟨j4, q4⟩ := BJ_up (d := 0 + 1 + 1 + 1) (by omega) j3
        have b0 := BJ_bnd (by omega) j0
        have b1 := BJ_bnd (by omega) j1
        have b2 := BJ_bnd (by omega) j2
        have b3 := BJ_bnd (by omega) j3
        rw [q1] at b1 q2 j2
        rw [q1, q2] at b2 q3 j3
        rw [q1, q2, q3] at b3 j4
        have eq0 : (rs3 v σ).2.1 h = σ.2.1 h := rfl
        rw [eq0] at b0 b1 b2 b3 j4
        obtain ⟨r1, v1, -⟩ := bf1_rs (ob := A 18) (d := 0) q.1 q.2.1 (by omega) hv hs
        obtain ⟨r2, v2, -⟩ := bf1_rs (ob := A 18) (d := 1) q.1 q.2.1 (by omega) v1 hs
        obtain ⟨r3, v3, -⟩ := bf1_rs (ob := A 18) (d := 2) q.1 q.2.1 (by omega) v2 hs
        obtain ⟨r4, v4, -⟩ := bf1_rs (ob := A 18) (d := 3) q.1 q.2.1 (by omega) v3 hs
        have j4 : BJ (A 18) S (bf1 (A 18) (σ.2.1 h) 3 (bf1 (A 18) (σ.2.1 h) 2 (bf1 (A 18) (σ.2.1 h) 1 (bf1 (A 18) (σ.2.1 h) 0 (rs3 v σ))))) h 4 := j4
        have b1 : bnd (A 18) (σ.2.1 h) 1 (bf1 (A 18) (σ.2.1 h) 0 (rs3 v σ)) := b1
        have b2 : bnd (A 18) (σ.2.1 h) 2 (bf1 (A 18) (σ.2.1 h) 1 (bf1 (A 18) (σ.2.1 h) 0 (rs3 v σ))) := b2
        have b3 : bnd (A 18) (σ.2.1 h) 3 (bf1 (A 18) (σ.2.1 h) 2 (bf1 (A 18) (σ.2.1 h) 1 (bf1 (A 18) (σ.2.1 h) 0 (rs3 v σ)))) := b3
        rw [← r1] at b1 b2 b3 j4
        rw [← r2] at b2 b3 j4
        rw [← r3] at b3 j4
        rw [← r4] at j4
        obtain ⟨x2, y2, w2, e⟩ := m90_t (L := L) (A := A) (F := F) (T := T) (X := X) (Q := Q) (σ := σ) (h := h) (i := h) (x := x) (y := y) (z := w) hob (by omega) (by omega) (by omega) (by omega) (by omega) q.1 q.2.1 (bnd_rs ⟨q.1, q.2.1⟩ (by omega) hv b0) (bnd_rs ⟨q.1, q.2.1⟩ (by omega) v1 b1) (bnd_rs ⟨q.1, q.2.1⟩ (by omega) v2 b2) (bnd_rs ⟨q.1, q.2.1⟩ (by omega) v3 b3)
        obtain ⟨z2, ez2, -, bb⟩ := BJ_4 j4
        obtain ⟨σ2, g1, g2, g3⟩ := m90v_l hob n (h + 1) z2 (bf4 (A 18) (σ.2.1 h) σ) x2 y2 w2 (by omega) ez2 v4 bb
        exact ⟨σ2, g1, g2, e.trans g3⟩
    · have e : h = z := by omega
      subst e
      refine ⟨σ, by rw [ez]; exact BI_D b, hv, ?_⟩
      rw [ez]
      exact m90_e (by omega) (by omega) (by omega) (by omega) (by omega) (by omega)
/-- walkFrom, some components being marked -/
theorem m97 {v : Nat → Bool} {k : Nat} (hk : k < 36) (hob : ∀ b, b < 60 → A 18 b = 0 ∨ A 18 b = 1) (hv : Vk (A 18) v (A 19)) (hn : ∀ t, t < 36 → v t = false → A 19 t = -1) (kv : v k = false) : ∃ σ2 : sw_B3, BD (A 18) (fun t => t = k) (rsV v σ2.1) σ2.2.2 ∧ Vk (A 18) v σ2.1 ∧ sw_M 97 [.ref 16, .int (Int32.ofInt k)] (sw_h L A F T X) Q = Q (some (some (.int (Int32.ofInt σ2.2.2)))) (hB L A F T X σ2 σ2.2.2) := by
  have s19 : rsV v (A 19) = fun t => if t < 36 then -1 else rsV v (A 19) t := by
    funext t
    split
    · next ht =>
      unfold rsV
      split
      · rfl
      · next c => exact hn t ht (by cases e : v t with | false => rfl | true => exact absurd e c)
    · rfl
  have hv2 : Vk (A 18) v (sw_s (A 19) k 0) := ⟨hv.1, fun t ht h => by
    have e : ¬ t = k := fun e => by rw [e, kv] at h; cases h
    show 0 ≤ sw_s (A 19) k 0 t ∧ _
    unfold sw_s
    rw [if_neg e]
    exact hv.2 t ht h⟩
  have b0 : BS (fun t => t = k) (rsV v (A 19)) (A 21) 0 k := by
    refine ⟨fun t ht => ⟨fun q => absurd q.2 (by have := q.1; omega), fun _ => ?_⟩, fun j hj => absurd hj (Nat.not_lt_zero _), fun t ht hS => absurd hS (by omega), cr_none 36 fun t ht => ?_⟩
    · rw [s19]; exact if_pos ht
    · rw [s19]; exact if_pos ht
  obtain ⟨b1, -⟩ := BS_up (S := fun t => t = k) hk rfl b0
  have b2 : ∀ n i, i + n = 36 → k < i → BS (fun t => t = k) (sw_s (rsV v (A 19)) k 0) (sw_s (A 21) 0 (k : Int)) 1 i → BS (fun t => t = k) (sw_s (rsV v (A 19)) k 0) (sw_s (A 21) 0 (k : Int)) 1 36 := by
    intro n
    induction n with
    | zero => intro i hi _ b; rw [show i = 36 by omega] at b; exact b
    | succ n ih => intro i hi hki b; exact ih (i + 1) (by omega) (by omega) (BS_no (by omega) b)
  have b3 := b2 (35 - k) (k + 1) (by omega) (by omega) b1
  have er : sw_s (rsV v (A 19)) k 0 = rsV v (sw_s (A 19) k 0) := by
    funext t
    unfold sw_s rsV
    by_cases e : t = k
    · subst e; rw [if_pos rfl, if_neg (by rw [kv]; exact Bool.false_ne_true)]; exact (if_pos rfl).symm
    · rw [if_neg e]
      show _ = if v t = true then -1 else if t = k then 0 else A 19 t
      rw [if_neg e]
  rw [er] at b3
  obtain ⟨σ2, g1, g2, g3⟩ := m90v_l (L := L) (A := A) (F := F) (T := T) (X := X) (Q := sw_K 97 26 none [some (.ref 16), some (.int (Int32.ofInt k))] [] Q) hob 36 0 1 (sw_s (A 19) k 0, sw_s (A 21) 0 (k : Int), 1) none none none (by omega) rfl hv2 (BS_I b3)
  refine ⟨σ2, g1, g2, ?_⟩
  have z0 := cr_b (rsV v σ2.1) 36
  have z1 : cr (rsV v σ2.1) 36 = σ2.2.2 := g1.2.1
  have m2 : sw_M 90 [.ref 16] (hB L A F T X (sw_s (A 19) k 0, sw_s (A 21) 0 (k : Int), 1) 0) (sw_K 97 26 none [some (.ref 16), some (.int (Int32.ofInt k))] [] Q) = sw_K 97 26 none [some (.ref 16), some (.int (Int32.ofInt k))] [] Q (some none) (hB L A F T X σ2 σ2.2.2) := by
    refine Eq.trans ?_ g3
    rw [e90]
    simp (disch := omega) only [r90_0, r90_1, sw_ldi, sw_ldl, sw_lda, sw_has1, sw_i1, sw_i2, sw_l1, sw_l2, sw_li, sw_r1, sw_ri, sw_rix, sw_rv, sw_pop, sw_set1, sw_set2, List.set_cons_zero, List.set_cons_succ, List.getElem?_cons_zero, List.getElem?_cons_succ, ald_1, ald_2, ast_1, ast_2, aln_1, aln_2, gf_1, gf_2, pf_1, pf_2, nw_1, ck_0, ck_1, ck_2, ck_3, ck_4, rr_1, rc_1, rc_2, K_i, K_l, K_v, I_add, I_sub, I_mul, I_div, I_em, I_eq0, I_lt0, I_0lt, I_le0, I_0le, I_eq, I_lt, I_le, I_a1, I_r1, I_eq1, I32_at, I32_s, Int.toNat_natCast, List.set_cons_zero, reduceCtorEq, not_false_eq_true, not_true_eq_false, false_and, true_and, and_true, and_false, false_or, true_or, or_true, or_false, if_true, if_false, eq_self, ↓reduceIte, Int.reduceEq, Int.reduceLT, Int.reduceLE, Int.reduceAdd, Int.reduceSub, Int.reduceMul, Int.reduceNeg, Int.reduceToNat, Nat.reduceLT, Nat.reduceAdd, Nat.reduceEqDiff, List.length_cons, List.length_nil]
    rfl
  have f9 : sw_s (sw_s F 8 0) 9 0 9 = 0 := rfl
  rw [e97]
  simp (disch := first | omega | (rw [f9]; omega)) only [r97_0, r97_1, r97_4, r97_7, r97_8, r97_11, r97_12, r97_13, r97_14, r97_15, r97_18, r97_19, sw_ldi, sw_ldl, sw_lda, sw_has1, sw_i1, sw_i2, sw_l1, sw_l2, sw_li, sw_r1, sw_ri, sw_rix, sw_rv, sw_pop, sw_set1, sw_set2, List.set_cons_zero, List.set_cons_succ, List.getElem?_cons_zero, List.getElem?_cons_succ, ald_1, ald_2, ast_1, ast_2, aln_1, aln_2, gf_1, gf_2, pf_1, pf_2, nw_1, ck_0, ck_1, ck_2, ck_3, ck_4, rr_1, rc_1, rc_2, K_i, K_l, K_v, I_add, I_sub, I_mul, I_div, I_em, I_eq0, I_lt0, I_0lt, I_le0, I_0le, I_eq, I_lt, I_le, I_a1, I_r1, I_eq1, I32_at, I32_s, Int.toNat_natCast, List.set_cons_zero, reduceCtorEq, not_false_eq_true, not_true_eq_false, false_and, true_and, and_true, and_false, false_or, true_or, or_true, or_false, if_true, if_false, eq_self, ↓reduceIte, Int.reduceEq, Int.reduceLT, Int.reduceLE, Int.reduceAdd, Int.reduceSub, Int.reduceMul, Int.reduceNeg, Int.reduceToNat, Nat.reduceLT, Nat.reduceAdd, Nat.reduceEqDiff, List.length_cons, List.length_nil, sA_at, ss, sA_cm, h_16, h_19, h_20, w_19, m49_20, m50_20]
  simp (disch := omega) only [r97_22, r97_23, sw_ldi, sw_ldl, sw_lda, sw_has1, sw_i1, sw_i2, sw_l1, sw_l2, sw_li, sw_r1, sw_ri, sw_rix, sw_rv, sw_pop, sw_set1, sw_set2, List.set_cons_zero, List.set_cons_succ, List.getElem?_cons_zero, List.getElem?_cons_succ, ald_1, ald_2, ast_1, ast_2, aln_1, aln_2, gf_1, gf_2, pf_1, pf_2, nw_1, ck_0, ck_1, ck_2, ck_3, ck_4, rr_1, rc_1, rc_2, K_i, K_l, K_v, I_add, I_sub, I_mul, I_div, I_em, I_eq0, I_lt0, I_0lt, I_le0, I_0le, I_eq, I_lt, I_le, I_a1, I_r1, I_eq1, I32_at, I32_s, Int.toNat_natCast, List.set_cons_zero, reduceCtorEq, not_false_eq_true, not_true_eq_false, false_and, true_and, and_true, and_false, false_or, true_or, or_true, or_false, if_true, if_false, eq_self, ↓reduceIte, Int.reduceEq, Int.reduceLT, Int.reduceLE, Int.reduceAdd, Int.reduceSub, Int.reduceMul, Int.reduceNeg, Int.reduceToNat, Nat.reduceLT, Nat.reduceAdd, Nat.reduceEqDiff, List.length_cons, List.length_nil, sA_at, ss, sA_cm, f9, h_16]
  unfold hB at m2 ⊢
  rw [m2]
  simp (disch := omega) only [r97_26, r97_27, r97_30, r97_33, sw_ldi, sw_ldl, sw_lda, sw_has1, sw_i1, sw_i2, sw_l1, sw_l2, sw_li, sw_r1, sw_ri, sw_rix, sw_rv, sw_pop, sw_set1, sw_set2, List.set_cons_zero, List.set_cons_succ, List.getElem?_cons_zero, List.getElem?_cons_succ, ald_1, ald_2, ast_1, ast_2, aln_1, aln_2, gf_1, gf_2, pf_1, pf_2, nw_1, ck_0, ck_1, ck_2, ck_3, ck_4, rr_1, rc_1, rc_2, K_i, K_l, K_v, I_add, I_sub, I_mul, I_div, I_em, I_eq0, I_lt0, I_0lt, I_le0, I_0le, I_eq, I_lt, I_le, I_a1, I_r1, I_eq1, I32_at, I32_s, Int.toNat_natCast, List.set_cons_zero, reduceCtorEq, not_false_eq_true, not_true_eq_false, false_and, true_and, and_true, and_false, false_or, true_or, or_true, or_false, if_true, if_false, eq_self, ↓reduceIte, Int.reduceEq, Int.reduceLT, Int.reduceLE, Int.reduceAdd, Int.reduceSub, Int.reduceMul, Int.reduceNeg, Int.reduceToNat, Nat.reduceLT, Nat.reduceAdd, Nat.reduceEqDiff, List.length_cons, List.length_nil, sA_at, ss, sA_cm, h_16, h_20]
  rfl
end sw_m9
