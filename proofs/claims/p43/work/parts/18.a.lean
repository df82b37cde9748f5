/-! the law's turn: what holds at its head -/
/-- a long that, but for the shut sites, holds just the sites where f is 1 -/
def Bw (sh w : Int64) (f : Nat → Int) : Prop := ∀ t, t < 64 → ((hb w t = true ∧ hb sh t = false) ↔ (t < 36 ∧ f t = 1))
theorem hb_not {w : Int64} {t : Nat} (h : t < 64) : hb (w ^^^ Int64.ofInt (-1)) t = true ↔ hb w t = false := by
  rw [hb_xor, hb_m1 t h]
  cases hb w t <;> decide
theorem Bw_c {sh w : Int64} {f : Nat → Int} (h : Bw sh w f) : Bt (w &&& (sh ^^^ Int64.ofInt (-1))) f := fun t ht => by
  rw [hb_and, Bool.and_eq_true, hb_not ht]
  exact h t ht
theorem Bw_of {sh w : Int64} {f : Nat → Int} (h : Bt w f) (g : ∀ t, t < 36 → f t = 1 → hb sh t = false) : Bw sh w f := fun t ht => by
  constructor
  · exact fun q => (h t ht).mp q.1
  · exact fun q => ⟨(h t ht).mpr q, g t q.1 q.2⟩
theorem Bt_bi {w : Int64} {f : Nat → Int} (h : Bt w f) (b : B01 f) : ∀ t, t < 36 → bi (hb w t) = f t := fun t ht => by
  have q := h t (by omega)
  rcases b t ht with e | e
  · rw [e, bi_0]
    cases c : hb w t with
    | false => rfl
    | true => exact absurd (q.mp c).2 (by omega)
  · rw [e, bi_1]
    exact q.mpr ⟨ht, e⟩
theorem Bt_sm {w : Int64} {f : Nat → Int} (h : Bt w f) (b : B01 f) : sm (fun k => bi (hb w k)) 36 = sm f 36 := sm_c 36 (Bt_bi h b)
def Iq (A : Nat → Nat → Int) (shut : Int64) : Prop := Lw A shut ∧ (B01 (A 10) ∧ B01 (A 11) ∧ B01 (A 48)) ∧ (∀ t, t < 36 → A 9 t = 1 → A 10 t = 0 ∧ A 11 t = 0 ∧ A 48 t = 0) ∧ SB (A 43) ∧ A 58 = A 43
theorem Iq_F {A B : Nat → Nat → Int} {shut : Int64} (f : Fm A B) (h : Iq A shut) : Iq B shut := by
  refine ⟨Lw_F f h.1, ?_⟩
  have h2 := h.2
  obtain ⟨-, -, -, g9, g10, g11, g43, g48, g⟩ := f
  rw [g9, g10, g11, g43, g48, g 58 (by omega)]
  exact h2
def Iv (A : Nat → Nat → Int) (shut wet trees oil : Int64) : Prop := Iq A shut ∧ Bt wet (A 10) ∧ Bt trees (A 11) ∧ Bt oil (A 48)
def Ia (A : Nat → Nat → Int) (shut wet trees oil : Int64) : Prop := Iq A shut ∧ Bw shut wet (A 10) ∧ Bw shut trees (A 11) ∧ Bw shut oil (A 48)
theorem Iv_F {A B : Nat → Nat → Int} {shut wet trees oil : Int64} (f : Fm A B) (h : Iv A shut wet trees oil) : Iv B shut wet trees oil := by
  refine ⟨Iq_F f h.1, ?_⟩
  have h2 := h.2
  obtain ⟨-, -, -, g9, g10, g11, g43, g48, g⟩ := f
  rw [g10, g11, g48]
  exact h2
theorem Iq_s {A : Nat → Nat → Int} {shut : Int64} (h : Iq A shut) {t : Nat} (ht : t < 36) : hb shut t = true ↔ A 9 t = 1 := h.1.2.2.2.1 t ht
theorem Iq_o {A : Nat → Nat → Int} {shut : Int64} (h : Iq A shut) {t : Nat} (ht : t < 36) (g : A 9 t = 0) : hb shut t = false := by
  cases c : hb shut t with
  | false => rfl
  | true => exact absurd ((Iq_s h ht).mp c) (by omega)
theorem Iq_n {A : Nat → Nat → Int} {shut : Int64} (h : Iq A shut) {t : Nat} (ht : t < 36) {f : Nat → Int} (hf : f = A 10 ∨ f = A 11 ∨ f = A 48) (g : f t = 1) : hb shut t = false := by
  refine Iq_o h ht ?_
  rcases h.1.1.2.2 t ht with e | e
  · exact e
  · have q := h.2.2.1 t ht e
    rcases hf with rfl | rfl | rfl <;> omega
theorem Iv_a {A : Nat → Nat → Int} {shut wet trees oil : Int64} (h : Iv A shut wet trees oil) : Ia A shut wet trees oil := ⟨h.1, Bw_of h.2.1 fun t ht g => Iq_n h.1 ht (Or.inl rfl) g, Bw_of h.2.2.1 fun t ht g => Iq_n h.1 ht (Or.inr (Or.inl rfl)) g, Bw_of h.2.2.2 fun t ht g => Iq_n h.1 ht (Or.inr (Or.inr rfl)) g⟩
theorem Ia_v {A : Nat → Nat → Int} {shut wet trees oil : Int64} (h : Ia A shut wet trees oil) : Iv A shut (wet &&& (shut ^^^ Int64.ofInt (-1))) (trees &&& (shut ^^^ Int64.ofInt (-1))) (oil &&& (shut ^^^ Int64.ofInt (-1))) := ⟨h.1, Bw_c h.2.1, Bw_c h.2.2.1, Bw_c h.2.2.2⟩
theorem su_sm {g h : Nat → Int} : ∀ n, (∀ i, i < n → g i = h i) → su g n = sm h n
  | 0, _ => rfl
  | n + 1, q => by
    have ih := su_sm n fun i hi2 => q i (by omega)
    unfold su sm
    rw [ih, q n (by omega)]
def Rm (X : Nat × Nat × Nat) (a b : Nat) : Prop := 59 ≤ X.1 ∧ X.2.1 ≤ a ∧ X.2.2 ≤ b
