/-! the cheapest way between the sites -/
def rx (co : Nat → Int) (far : Nat → Int) (m : Int) (i : Prop) [Decidable i] (k b t : Nat) : (Nat → Int) × Int := if i ∧ far k + co b < far t then (sw_s far t (far k + co b), 1) else (far, m)
/-- labels that are above all that is surely needed, and what a pass has made of them -/
def PV (co far0 far : Nat → Int) (m : Int) : Prop := (∀ k, k < 25 → 0 ≤ far k ∧ far k ≤ 99) ∧ (∀ c, c < 5 → far c ≤ co c) ∧ (∀ ψ, Pot co ψ → ∀ k, k < 25 → ψ k ≤ far k) ∧ (m = 0 ∨ m = 1) ∧ (m = 0 → far = far0) ∧ (m = 1 → su far 25 < su far0 25)
theorem su_s {f : Nat → Int} {c : Nat} {v : Int} : ∀ n, su (sw_s f c v) n = su f n + if c < n then v - f c else 0
  | 0 => by rw [if_neg (Nat.not_lt_zero _)]; rfl
  | n + 1 => by
    unfold su
    rw [su_s n]
    by_cases e : n = c
    · subst e
      have e2 : sw_s f n v n = v := if_pos rfl
      rw [if_neg (Nat.lt_irrefl _), if_pos (Nat.lt_succ_self _), e2]
      omega
    · have e2 : sw_s f c v n = f n := if_neg e
      rw [e2]
      by_cases h : c < n
      · rw [if_pos h, if_pos (by omega)]; omega
      · rw [if_neg h, if_neg (by omega)]; omega
theorem rx_ok {co far0 far : Nat → Int} {m : Int} {i : Prop} [Decidable i] {k b t : Nat} (hco : ∀ b, b < 60 → co b = 0 ∨ co b = 1) (hk : k < 25) (hi : i → t < 25 ∧ b < 60 ∧ ∀ ψ, Pot co ψ → ψ t ≤ ψ k + co b) (h : PV co far0 far m) : PV co far0 (rx co far m i k b t).1 (rx co far m i k b t).2 ∧ ((rx co far m i k b t).2 = 0 → m = 0 ∧ (rx co far m i k b t).1 = far ∧ (i → far t ≤ far k + co b)) := by
  obtain ⟨h1, h2, h3, h4, h5, h6⟩ := h
  unfold rx
  by_cases c : i ∧ far k + co b < far t
  · rw [if_pos c]
    obtain ⟨t25, b60, hψ⟩ := hi c.1
    have ht := h1 t t25
    have hk1 := h1 k hk
    have cb := hco b b60
    refine ⟨⟨fun j hj => ?_, fun d hd => ?_, fun ψ p j hj => ?_, Or.inr rfl, fun q => absurd (show (1 : Int) = 0 from q) (by decide), fun _ => ?_⟩, fun q => absurd (show (1 : Int) = 0 from q) (by decide)⟩
    · show 0 ≤ sw_s far t _ j ∧ sw_s far t _ j ≤ 99
      unfold sw_s
      split
      · omega
      · exact h1 j hj
    · show sw_s far t _ d ≤ _
      unfold sw_s
      split
      · next e => subst e; have := h2 d hd; omega
      · exact h2 d hd
    · show _ ≤ sw_s far t _ j
      unfold sw_s
      split
      · next e => subst e; have := hψ ψ p; have := h3 ψ p k hk; omega
      · exact h3 ψ p j hj
    · show su (sw_s far t _) 25 < _
      rw [su_s, if_pos t25]
      rcases h4 with e | e
      · rw [← h5 e]; omega
      · have := h6 e; omega
  · rw [if_neg c]
    refine ⟨⟨h1, h2, h3, h4, h5, h6⟩, fun q => ⟨q, rfl, fun qi => ?_⟩⟩
    apply Classical.byContradiction
    intro z
    exact c ⟨qi, by omega⟩
/-- nothing is to be had more cheaply from place k -/
def ST (co far : Nat → Int) (k : Nat) : Prop := (0 < k / 5 → far (k - 5) ≤ far k + co (5 * (k / 5) + k % 5)) ∧ (k / 5 < 4 → far (k + 5) ≤ far k + co (5 * (k / 5) + 5 + k % 5)) ∧ (0 < k % 5 → far (k - 1) ≤ far k + co (30 + 6 * (k / 5) + k % 5)) ∧ (k % 5 < 4 → far (k + 1) ≤ far k + co (31 + 6 * (k / 5) + k % 5))
def rx4 (co far : Nat → Int) (m : Int) (k : Nat) : (Nat → Int) × Int :=
  rx co (rx co (rx co (rx co far m (0 < k / 5) k (5 * (k / 5) + k % 5) (k - 5)).1 (rx co far m (0 < k / 5) k (5 * (k / 5) + k % 5) (k - 5)).2 (k / 5 < 4) k (5 * (k / 5) + 5 + k % 5) (k + 5)).1 (rx co (rx co far m (0 < k / 5) k (5 * (k / 5) + k % 5) (k - 5)).1 (rx co far m (0 < k / 5) k (5 * (k / 5) + k % 5) (k - 5)).2 (k / 5 < 4) k (5 * (k / 5) + 5 + k % 5) (k + 5)).2 (0 < k % 5) k (30 + 6 * (k / 5) + k % 5) (k - 1)).1 (rx co (rx co (rx co far m (0 < k / 5) k (5 * (k / 5) + k % 5) (k - 5)).1 (rx co far m (0 < k / 5) k (5 * (k / 5) + k % 5) (k - 5)).2 (k / 5 < 4) k (5 * (k / 5) + 5 + k % 5) (k + 5)).1 (rx co (rx co far m (0 < k / 5) k (5 * (k / 5) + k % 5) (k - 5)).1 (rx co far m (0 < k / 5) k (5 * (k / 5) + k % 5) (k - 5)).2 (k / 5 < 4) k (5 * (k / 5) + 5 + k % 5) (k + 5)).2 (0 < k % 5) k (30 + 6 * (k / 5) + k % 5) (k - 1)).2 (k % 5 < 4) k (31 + 6 * (k / 5) + k % 5) (k + 1)
theorem rc5 (k : Nat) (hk : k < 25) : ∃ r c, k = 5 * r + c ∧ r < 5 ∧ c < 5 ∧ k / 5 = r ∧ k % 5 = c := ⟨k / 5, k % 5, by omega, by omega, by omega, rfl, rfl⟩
theorem mv_0 {co : Nat → Int} {k : Nat} (hk : k < 25) (i : 0 < k / 5) : k - 5 < 25 ∧ 5 * (k / 5) + k % 5 < 60 ∧ ∀ ψ, Pot co ψ → ψ (k - 5) ≤ ψ k + co (5 * (k / 5) + k % 5) := by
  refine ⟨by omega, by omega, fun ψ p => ?_⟩
  obtain ⟨r, c, rfl, hr, hc, e1, e2⟩ := rc5 k hk
  rw [e1] at i
  obtain ⟨q, rfl⟩ : ∃ q, r = q + 1 := ⟨r - 1, by omega⟩
  have := (p.2.2.1 q c (by omega) hc).2
  rw [e1, e2, show 5 * (q + 1) + c - 5 = 5 * q + c by omega]
  exact this
theorem mv_1 {co : Nat → Int} {k : Nat} (hk : k < 25) (i : k / 5 < 4) : k + 5 < 25 ∧ 5 * (k / 5) + 5 + k % 5 < 60 ∧ ∀ ψ, Pot co ψ → ψ (k + 5) ≤ ψ k + co (5 * (k / 5) + 5 + k % 5) := by
  refine ⟨by omega, by omega, fun ψ p => ?_⟩
  obtain ⟨r, c, rfl, hr, hc, e1, e2⟩ := rc5 k hk
  rw [e1] at i
  have := (p.2.2.1 r c i hc).1
  rw [e1, e2, show 5 * r + c + 5 = 5 * (r + 1) + c by omega, show 5 * r + 5 + c = 5 * (r + 1) + c by omega]
  exact this
theorem mv_2 {co : Nat → Int} {k : Nat} (hk : k < 25) (i : 0 < k % 5) : k - 1 < 25 ∧ 30 + 6 * (k / 5) + k % 5 < 60 ∧ ∀ ψ, Pot co ψ → ψ (k - 1) ≤ ψ k + co (30 + 6 * (k / 5) + k % 5) := by
  refine ⟨by omega, by omega, fun ψ p => ?_⟩
  obtain ⟨r, c, rfl, hr, hc, e1, e2⟩ := rc5 k hk
  rw [e2] at i
  obtain ⟨q, rfl⟩ : ∃ q, c = q + 1 := ⟨c - 1, by omega⟩
  have := (p.2.2.2 r q hr (by omega)).2
  rw [e1, e2, show 5 * r + (q + 1) - 1 = 5 * r + q by omega]
  exact this
theorem mv_3 {co : Nat → Int} {k : Nat} (hk : k < 25) (i : k % 5 < 4) : k + 1 < 25 ∧ 31 + 6 * (k / 5) + k % 5 < 60 ∧ ∀ ψ, Pot co ψ → ψ (k + 1) ≤ ψ k + co (31 + 6 * (k / 5) + k % 5) := by
  refine ⟨by omega, by omega, fun ψ p => ?_⟩
  obtain ⟨r, c, rfl, hr, hc, e1, e2⟩ := rc5 k hk
  rw [e2] at i
  have := (p.2.2.2 r c hr i).1
  rw [e1, e2, show 5 * r + c + 1 = 5 * r + (c + 1) by omega, show 31 + 6 * r + c = 30 + 6 * r + (c + 1) by omega]
  exact this
theorem rx4_ok {co far0 far : Nat → Int} {m : Int} {k : Nat} (hco : ∀ b, b < 60 → co b = 0 ∨ co b = 1) (hk : k < 25) (h : PV co far0 far m) (hs : m = 0 → ∀ j, j < k → ST co far j) : PV co far0 (rx4 co far m k).1 (rx4 co far m k).2 ∧ ((rx4 co far m k).2 = 0 → ∀ j, j < k + 1 → ST co (rx4 co far m k).1 j) := by
  unfold rx4
  obtain ⟨a1, a2⟩ := rx_ok hco hk (fun i => mv_0 hk i) h
  generalize rx co far m (0 < k / 5) k (5 * (k / 5) + k % 5) (k - 5) = σ0 at *
  obtain ⟨b1, b2⟩ := rx_ok hco hk (fun i => mv_1 hk i) a1
  generalize rx co σ0.1 σ0.2 (k / 5 < 4) k (5 * (k / 5) + 5 + k % 5) (k + 5) = σ1 at *
  obtain ⟨c1, c2⟩ := rx_ok hco hk (fun i => mv_2 hk i) b1
  generalize rx co σ1.1 σ1.2 (0 < k % 5) k (30 + 6 * (k / 5) + k % 5) (k - 1) = σ2 at *
  obtain ⟨d1, d2⟩ := rx_ok hco hk (fun i => mv_3 hk i) c1
  generalize rx co σ2.1 σ2.2 (k % 5 < 4) k (31 + 6 * (k / 5) + k % 5) (k + 1) = σ3 at *
  refine ⟨d1, fun q j hj => ?_⟩
  obtain ⟨q3, e3, i3⟩ := d2 q
  obtain ⟨q2, e2, i2⟩ := c2 q3
  obtain ⟨q1, e1, i1⟩ := b2 q2
  obtain ⟨q0, e0, i0⟩ := a2 q1
  rw [e3, e2, e1, e0]
  rw [e2, e1, e0] at i3
  rw [e1, e0] at i2
  rw [e0] at i1
  by_cases e : j = k
  · subst e; exact ⟨i0, i1, i2, i3⟩
  · exact hs q0 j (by omega)
/-- the least over the lower rim -/
def mnb (co far : Nat → Int) : Nat → Int
  | 0 => 99
  | c + 1 => if far (20 + c) + co (25 + c) < mnb co far c then far (20 + c) + co (25 + c) else mnb co far c
theorem mnb_b {co far : Nat → Int} {v : Int} (hv : v ≤ 99) : ∀ n, n ≤ 5 → (∀ c, c < n → v ≤ far (20 + c) + co (25 + c)) → v ≤ mnb co far n ∧ mnb co far n ≤ 99 ∧ ∀ c, c < n → mnb co far n ≤ far (20 + c) + co (25 + c)
  | 0, _, _ => ⟨hv, Int.le_refl _, fun c hc => absurd hc (Nat.not_lt_zero _)⟩
  | n + 1, hn, h => by
    obtain ⟨h1, h2, h3⟩ := mnb_b (co := co) (far := far) hv n (by omega) fun c hc => h c (by omega)
    have hn2 := h n (by omega)
    unfold mnb
    split
    · next q =>
      refine ⟨hn2, by omega, fun c hc => ?_⟩
      by_cases e : c = n
      · subst e; exact Int.le_refl _
      · have := h3 c (by omega); omega
    · next q =>
      refine ⟨h1, h2, fun c hc => ?_⟩
      by_cases e : c = n
      · subst e; omega
      · exact h3 c (by omega)
/-- no cut is less, no flow more -/
def CH (ob op : Nat → Int) (w : Int) : Prop := (∀ x, Spr op x → w ≤ ctN ob x) ∧ ∀ f, Flw ob f → vr f ≤ w
theorem FC_CH {ob op : Nat → Int} {w v : Int} (h : FC ob op w) (g : CH ob op v) : w = v := by
  obtain ⟨⟨f, f1, f2⟩, x, x1, x2⟩ := h
  have := g.1 x x1
  have := g.2 f f1
  omega
theorem PV_CH {ob op far far0 : Nat → Int} (hob : ∀ b, b < 60 → ob b = 0 ∨ ob b = 1) (hoe : ∀ b, b < 60 → ob b = 1 → op (lo b) = 1 ∧ op (hi b) = 1) (h : PV ob far0 far 0) (hs : ∀ j, j < 25 → ST ob far j) : CH ob op (mnb ob far 5) ∧ 0 ≤ mnb ob far 5 ∧ mnb ob far 5 ≤ 99 := by
  have nn : ∀ c, c < 5 → 0 ≤ far (20 + c) + ob (25 + c) := fun c hc => by
    have := h.1 (20 + c) (by omega)
    have := hob (25 + c) (by omega)
    omega
  obtain ⟨m1, m2, m3⟩ := mnb_b (co := ob) (far := far) (v := 0) (by omega) 5 (Nat.le_refl _) nn
  refine ⟨⟨fun x hx => Lip_cut hob hoe (far := far) ⟨fun k hk => (h.1 k hk).1, h.2.1, fun r c hr hc => ?_, fun r c hr hc => ?_, m1, m3⟩ hx, fun f hf => ?_⟩, m1, m2⟩
  · have s1 := (hs (5 * r + c) (by omega)).2.1 (by omega)
    have s2 := (hs (5 * (r + 1) + c) (by omega)).1 (by omega)
    rw [show (5 * r + c) / 5 = r by omega, show (5 * r + c) % 5 = c by omega, show 5 * r + c + 5 = 5 * (r + 1) + c by omega, show 5 * r + 5 + c = 5 * (r + 1) + c by omega] at s1
    rw [show (5 * (r + 1) + c) / 5 = r + 1 by omega, show (5 * (r + 1) + c) % 5 = c by omega, show 5 * (r + 1) + c - 5 = 5 * r + c by omega] at s2
    exact ⟨s1, s2⟩
  · have s1 := (hs (5 * r + c) (by omega)).2.2.2 (by omega)
    have s2 := (hs (5 * r + (c + 1)) (by omega)).2.2.1 (by omega)
    rw [show (5 * r + c) / 5 = r by omega, show (5 * r + c) % 5 = c by omega, show 5 * r + c + 1 = 5 * r + (c + 1) by omega, show 31 + 6 * r + c = 30 + 6 * r + (c + 1) by omega] at s1
    rw [show (5 * r + (c + 1)) / 5 = r by omega, show (5 * r + (c + 1)) % 5 = c + 1 by omega, show 5 * r + (c + 1) - 1 = 5 * r + c by omega] at s2
    exact ⟨s1, s2⟩
  · have v6 := Flw_6 hob hf
    exact (mnb_b (co := ob) (far := far) (v := vr f) (by omega) 5 (Nat.le_refl _) fun c hc => Pot_le hf hc h.2.2.1 hob).1
theorem PV_0 {co : Nat → Int} (hco : ∀ b, b < 60 → co b = 0 ∨ co b = 1) (far0 : Nat → Int) (h0 : su (fun k => if k < 5 then co k else 99) 25 < su far0 25) {far : Nat → Int} (he : ∀ k, k < 25 → far k = if k < 5 then co k else 99) : PV co far0 far 1 := by
  refine ⟨fun k hk => ?_, fun c hc => ?_, fun ψ p k hk => ?_, Or.inr rfl, fun q => absurd q (by decide), fun _ => ?_⟩
  · rw [he k hk]
    split
    · have := hco k (by omega); omega
    · omega
  · rw [he c (by omega), if_pos hc]; exact Int.le_refl _
  · rw [he k hk]
    split
    · next c => exact p.1 k c
    · exact p.2.1 k hk
  · rw [su_c 25 he]; exact h0
