/-! the last straw -/
def LSt (loc : Bool) (st : Nat → Int) (s : Int) : Prop := 0 ≤ s ∧ s ≤ 12011 ∧ BR loc (s + 1) st 12 ∧ ∀ x, 0 ≤ x → x ≤ s → ∀ c, BR loc x st c → ¬ c = 12
theorem bsq_l {x y : Int} {st : Nat → Int} (h : x / 12 = y / 12) : ∀ n, bsq true x st n = bsq true y st n
  | 0 => by
    show ((fun _ => (1 : Int)), fun _ => x / 12) = ((fun _ => (1 : Int)), fun _ => y / 12)
    rw [h]
  | n + 1 => by
    unfold bsq
    rw [bsq_l h n]
    rfl
theorem BR_l {x y c : Int} {st : Nat → Int} (h : x / 12 = y / 12) (b : BR true x st c) : BR true y st c := by
  obtain ⟨n, h1, h2, h3⟩ := b
  have e : ∀ i, bld true x (bsq true x st i) = bld true y (bsq true y st i) := fun i => by
    rw [bsq_l h i]
    rfl
  refine ⟨n, fun i hi2 => ?_, ?_, ?_⟩
  · have := h1 i hi2
    rw [e, bsq_l h] at this
    exact this
  · rw [e, bsq_l h] at h2
    exact h2
  · rw [bsq_l h] at h3
    exact h3
theorem BR_t0 {st : Nat → Int} (hs : SB st) : BR true 0 st 0 := by
  refine ⟨0, fun i hi2 => absurd hi2 (Nat.not_lt_zero _), Or.inr (sm_z 12 fun f hf => ?_), rfl⟩
  have := hs f hf
  refine if_neg fun q => ?_
  have q2 : st f < 0 / 12 := q.2
  omega
theorem BR_top {st : Nat → Int} (hs : SB st) : BR true 12012 st 12 := by
  have b1 : ∀ f, f < 12 → brk st (bld true 12012 (bsq true 12012 st 0)) (bsq true 12012 st 0).1 f = 1 := fun f hf => by
    have := hs f hf
    refine if_pos ⟨rfl, ?_⟩
    show st f < 12012 / 12
    omega
  refine ⟨1, fun i hi2 => ?_, Or.inl ?_, ?_⟩
  · have : i = 0 := by omega
    subst this
    refine ⟨show (0 : Int) < 12 by decide, ?_⟩
    rw [sm_c 12 (h := fun _ => 1) b1]
    decide
  · refine sm_z 12 fun f hf => ?_
    have := hs f hf
    refine if_neg fun q => q.2 ?_
    show st f < 12012 / 12
    omega
  · rw [show sm (bsq true 12012 st 1).1 12 = 0 from sm_z 12 fun f hf => by
      have := hs f hf
      refine if_neg fun q => q.2 ?_
      show st f < 12012 / 12
      omega]
    rfl
theorem sm_sub {u w : Nat → Int} : ∀ n, (∀ f, f < n → u f ≤ w f) → sm u n ≤ sm w n
  | 0, _ => Int.le_refl _
  | n + 1, h => by
    have := sm_sub n fun f hf => h f (by omega)
    have := h n (by omega)
    unfold sm
    omega
def B12 (w : Nat → Int) : Prop := ∀ f, f < 12 → w f = 0 ∨ w f = 1
/-- what the search for the last straw, evenly, keeps -/
def WI (st w : Nat → Int) (k least : Int) : Prop := B12 w ∧ sm w 12 = k ∧ (∀ f g, f < 12 → g < 12 → w f = 0 → w g = 1 → st f ≤ st g) ∧ (∀ j, k < j → j ≤ 12 → ∀ v, B12 v → sm v 12 = j → ∃ f, f < 12 ∧ v f = 1 ∧ j * (st f + 1) ≤ least) ∧ (∀ x, 0 ≤ x → x < least → ∃ (j : Int) (u : Nat → Int), 1 ≤ j ∧ B12 u ∧ sm u 12 = j ∧ ∀ f, f < 12 → u f = 1 → x < j * (st f + 1)) ∧ 0 ≤ least ∧ least ≤ 12012 ∧ (k < 12 → 1 ≤ least)
theorem WI_0 {st w : Nat → Int} (hw : ∀ f, f < 12 → w f = 1) : WI st w 12 0 := by
  refine ⟨fun f hf => Or.inr (hw f hf), ?_, fun f g hf _ q => ?_, fun j h1 h2 => by omega, fun x h0 h1 => by omega, by omega, by omega, fun q => by omega⟩
  · rw [sm_c 12 (h := fun _ => 1) hw]; decide
  · rw [hw f hf] at q; cases q
theorem WI_s {st w : Nat → Int} {k least : Int} {b : Nat} (hs : SB st) (h : WI st w k least) (k0 : 0 < k) (k9 : k ≤ 12) (hb2 : b < 12) (wb9 : w b = 1) (hm : ∀ f, f < 12 → w f = 1 → st b ≤ st f) : WI st (sw_s w b 0) (k - 1) (if least < k * (st b + 1) then k * (st b + 1) else least) := by
  obtain ⟨h1, h2, h3, h4, h5, h6, h7, h8⟩ := h
  have sb := hs b hb2
  have wx : ∀ f, sw_s w b 0 f = 1 → w f = 1 ∧ ¬ f = b := fun f q => by
    unfold sw_s at q
    split at q
    · cases q
    · next c => exact ⟨q, c⟩
  have kb : 0 < k * (st b + 1) := Int.mul_pos k0 (by omega)
  have kc : k * (st b + 1) ≤ 12012 := by
    have : k * (st b + 1) ≤ 12 * 1001 := Int.mul_le_mul k9 (by omega) (by omega) (by omega)
    omega
  have up : least ≤ (if least < k * (st b + 1) then k * (st b + 1) else least) ∧ k * (st b + 1) ≤ (if least < k * (st b + 1) then k * (st b + 1) else least) := by split <;> omega
  refine ⟨fun f hf => ?_, ?_, fun f g hf hg q1 q2 => ?_, fun j j1 j2 v v1 v2 => ?_, fun x x0 x1 => ?_, ?_, ?_, fun _ => ?_⟩
  · unfold sw_s
    split
    · exact Or.inl rfl
    · exact h1 f hf
  · rw [sm_s, if_pos hb2, wb9, h2]; omega
  · obtain ⟨g1, g2⟩ := wx g q2
    by_cases e : f = b
    · subst e; exact hm g hg g1
    · unfold sw_s at q1
      rw [if_neg e] at q1
      exact h3 f g hf hg q1 g1
  · by_cases e : j = k
    · subst e
      have : ∃ f, f < 12 ∧ v f = 1 ∧ st f ≤ st b := by
        apply Classical.byContradiction
        intro q
        have sub : ∀ f, f < 12 → v f ≤ sw_s w b 0 f := fun f hf => by
          rcases v1 f hf with z | z
          · rw [z]
            unfold sw_s
            split
            · omega
            · have := h1 f hf; omega
          · have gt : st b < st f := by
              apply Classical.byContradiction
              intro y
              exact q ⟨f, hf, z, by omega⟩
            have nb : ¬ f = b := fun e => by rw [e] at gt; omega
            have wf : w f = 1 := by
              rcases h1 f hf with y | y
              · have := h3 f b hf hb2 y wb9; omega
              · exact y
            unfold sw_s
            rw [if_neg nb, wf, z]
            omega
        have := sm_sub 12 sub
        rw [sm_s, if_pos hb2, wb9] at this
        omega
      obtain ⟨f, f1, f2, f3⟩ := this
      refine ⟨f, f1, f2, Int.le_trans (Int.mul_le_mul_of_nonneg_left (by omega) (by omega)) up.2⟩
    · obtain ⟨f, f1, f2, f3⟩ := h4 j (by omega) j2 v v1 v2
      exact ⟨f, f1, f2, by omega⟩
  · by_cases c : x < least
    · exact h5 x x0 c
    · have x2 : x < k * (st b + 1) := by
        split at x1
        · exact x1
        · omega
      refine ⟨k, w, by omega, h1, h2, fun f hf q => ?_⟩
      have := hm f hf q
      have : k * (st b + 1) ≤ k * (st f + 1) := Int.mul_le_mul_of_nonneg_left (by omega) (by omega)
      omega
  · omega
  · split <;> omega
  · omega
theorem WI_LS {st w : Nat → Int} {least : Int} (h : WI st w 0 least) : LSt false st (least - 1) := by
  obtain ⟨h1, h2, h3, h4, h5, h6, h7, h8⟩ := h
  have l1 := h8 (by omega)
  refine ⟨by omega, by omega, ?_, fun x x0 x1 c b => ?_⟩
  · rw [show least - 1 + 1 = least by omega]
    have step : ∀ n, 0 < sm (bsq false least st n).1 12 → 0 < sm (brk st (bld false least (bsq false least st n)) (bsq false least st n).1) 12 := fun n hn => by
      obtain ⟨f1, -, -⟩ := bsq_f (loc := false) (st := st) h6 n
      have sb := sm_b 12 f1
      obtain ⟨f, f12, f3, f4⟩ := h4 (sm (bsq false least st n).1 12) hn sb.2 (bsq false least st n).1 f1 rfl
      have b1 : brk st (bld false least (bsq false least st n)) (bsq false least st n).1 f = 1 := by
        refine if_pos ⟨f3, ?_⟩
        show st f < least / sm (bsq false least st n).1 12
        have : st f + 1 ≤ least / sm (bsq false least st n).1 12 := (Int.le_ediv_iff_mul_le hn).mpr (by rw [Int.mul_comm]; exact f4)
        omega
      have := su_one (g := brk st (bld false least (bsq false least st n)) (bsq false least st n).1) (f := f) 12 f12 fun i _ => by
        have := brk_b st (bld false least (bsq false least st n)) (bsq false least st n).1 i
        omega
      have e2 : ∀ n2 (g : Nat → Int), su g n2 = sm g n2 := fun n2 g => by
        induction n2 with
        | zero => rfl
        | succ n2 ih => unfold su sm; rw [ih]
      rw [e2] at this
      omega
    have fin : ∀ d n, sm (bsq false least st n).1 12 ≤ (d : Nat) → (∀ i, i < n → 0 < sm (bsq false least st i).1 12 ∧ 0 < sm (brk st (bld false least (bsq false least st i)) (bsq false least st i).1) 12) → BR false least st 12 := by
      intro d
      induction d with
      | zero =>
        intro n hn hp
        obtain ⟨f1, -, -⟩ := bsq_f (loc := false) (st := st) h6 n
        have sb := sm_b 12 f1
        exact ⟨n, hp, Or.inl (by omega), by omega⟩
      | succ d ih =>
        intro n hn hp
        obtain ⟨f1, -, -⟩ := bsq_f (loc := false) (st := st) h6 n
        have sb := sm_b 12 f1
        by_cases z : sm (bsq false least st n).1 12 = 0
        · exact ⟨n, hp, Or.inl z, by omega⟩
        · have s1 := step n (by omega)
          have w9 := wb_sm (st := st) (ld := bld false least (bsq false least st n)) f1 12 (Nat.le_refl _)
          have e : sm (bsq false least st (n + 1)).1 12 = sm (whn st (bld false least (bsq false least st n)) (bsq false least st n).1) 12 := rfl
          exact ih (n + 1) (by omega) fun i hi2 => by
            by_cases y : i = n
            · rw [y]; exact ⟨by omega, s1⟩
            · exact hp i (by omega)
    exact fin 12 0 (show (12 : Int) ≤ ((12 : Nat) : Int) by decide) fun i hi2 => absurd hi2 (Nat.not_lt_zero _)
  · obtain ⟨j, u, j1, u1, u2, u3⟩ := h5 x x0 (by omega)
    have keep : ∀ n, ∀ f, f < 12 → u f = 1 → (bsq false x st n).1 f = 1 := by
      intro n
      induction n with
      | zero => intro f _ _; rfl
      | succ n ih =>
        intro f hf q
        obtain ⟨f1, -, -⟩ := bsq_f (loc := false) (st := st) x0 n
        have sub : j ≤ sm (bsq false x st n).1 12 := by
          rw [← u2]
          refine sm_sub 12 fun g hg => ?_
          rcases u1 g hg with z | z
          · have := f1 g hg; omega
          · rw [z, ih g hg z]; omega
        refine if_pos ⟨ih f hf q, ?_⟩
        show ¬ st f < x / sm (bsq false x st n).1 12
        have x2 := u3 f hf q
        have sp : 0 ≤ st f + 1 := by
          apply Classical.byContradiction
          intro y
          have : j * (st f + 1) ≤ j * 0 := Int.mul_le_mul_of_nonneg_left (by omega) (by omega)
          omega
        have : j * (st f + 1) ≤ sm (bsq false x st n).1 12 * (st f + 1) := Int.mul_le_mul_of_nonneg_right sub sp
        have : x / sm (bsq false x st n).1 12 < st f + 1 := Int.ediv_lt_of_lt_mul (by omega) (by rw [Int.mul_comm]; omega)
        omega
    obtain ⟨n, -, -, e⟩ := b
    obtain ⟨f1, -, -⟩ := bsq_f (loc := false) (st := st) x0 n
    have : j ≤ sm (bsq false x st n).1 12 := by
      rw [← u2]
      refine sm_sub 12 fun g hg => ?_
      rcases u1 g hg with z | z
      · have := f1 g hg; omega
      · rw [z, keep n g hg z]; omega
    omega
/-- the weakest whole one -/
def wkw (st w : Nat → Int) : Nat → Int
  | 0 => -1
  | n + 1 => if w n = 1 ∧ (wkw st w n = -1 ∨ st n < st (wkw st w n).toNat) then (n : Int) else wkw st w n
theorem wkw_v {st w : Nat → Int} : ∀ n, (wkw st w n = -1 ∧ ∀ f, f < n → ¬ w f = 1) ∨ ∃ b : Nat, wkw st w n = (b : Int) ∧ b < n ∧ w b = 1 ∧ ∀ f, f < n → w f = 1 → st b ≤ st f
  | 0 => Or.inl ⟨rfl, fun f hf => absurd hf (Nat.not_lt_zero _)⟩
  | n + 1 => by
    have ih := wkw_v (st := st) (w := w) n
    unfold wkw
    split
    · next q =>
      refine Or.inr ⟨n, rfl, by omega, q.1, fun f hf z => ?_⟩
      by_cases e : f = n
      · subst e; exact Int.le_refl _
      · rcases ih with ⟨i1, i2⟩ | ⟨b, i1, i2, i3, i4⟩
        · exact absurd z (i2 f (by omega))
        · have := i4 f (by omega) z
          rcases q.2 with y | y
          · omega
          · rw [i1, Int.toNat_natCast] at y; omega
    · next q =>
      rcases ih with ⟨i1, i2⟩ | ⟨b, i1, i2, i3, i4⟩
      · refine Or.inl ⟨i1, fun f hf z => ?_⟩
        by_cases e : f = n
        · subst e; exact q ⟨z, Or.inl i1⟩
        · exact i2 f (by omega) z
      · refine Or.inr ⟨b, i1, by omega, i3, fun f hf z => ?_⟩
        by_cases e : f = n
        · subst e
          rw [i1, Int.toNat_natCast] at q
          apply Classical.byContradiction
          intro y
          exact q ⟨z, Or.inr (by omega)⟩
        · exact i4 f (by omega) z
