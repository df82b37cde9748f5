/-! a way is added to a flow, from its end back -/
def PT (ob fl C q g : Nat → Int) (j : Nat) : Prop := (∀ b, b < 60 → -ob b ≤ g b ∧ g b ≤ ob b) ∧ ∀ (i b : Nat), i ≤ j → C (q i).toNat = (b : Int) → g b = fl b
theorem lohi : ∀ b, b < 60 → lo b < hi b := by decide +kernel
theorem TR_o {ob fl op R C q g : Nat → Int} {z h : Nat} {dd : Int} (b : SI ob fl op R C q z h dd) {i j c : Nat} {v : Int} (hj : j < z) (hij : i < j) (hc : c < 60) (hcj : C (q j).toNat = (c : Int)) (hq : ((lo c : Int) = q i ∧ (hi c : Int) = q j) ∨ ((hi c : Int) = q i ∧ (lo c : Int) = q j)) (p : PT ob fl C q g j) (hv : -ob c ≤ v ∧ v ≤ ob c) : PT ob fl C q (sw_s g c v) i := by
  obtain ⟨b1, b2, b3, b4, b5, b6, b7, b8, b9, b10⟩ := b
  refine ⟨fun b hb2 => ?_, fun i2 b hi2 e => ?_⟩
  · unfold sw_s
    split
    · next e => rw [e]; exact hv
    · exact p.1 b hb2
  · unfold sw_s
    rw [if_neg]
    · exact p.2 i2 b (by omega) e
    · intro e2
      rcases b8 i2 (by omega) with ⟨c1, -⟩ | ⟨b', i3, d1, d2, d3, -, d5⟩
      · omega
      · have : b' = c := by omega
        subst this
        have n1 := b4 i2 j (by omega) hj
        have n2 := b4 i3 j (by omega) hj
        rcases hq with ⟨q1, q2⟩ | ⟨q1, q2⟩ <;> rcases d5 with ⟨r1, r2, -⟩ | ⟨r1, r2, -⟩ <;> omega
/-- one bond back -/
theorem TR_s {ob fl op R C q g : Nat → Int} {z h : Nat} {dd : Int} (b : SI ob fl op R C q z h dd) {j : Nat} (hj : j < z) (p : PT ob fl C q g j) (hC : ¬ C (q j).toNat = -1) : ∃ c i : Nat, c < 60 ∧ i < j ∧ C (q j).toNat = (c : Int) ∧ -1 ≤ g c ∧ g c ≤ 1 ∧ (((hi c : Int) = q j ∧ (lo c : Int) = q i ∧ PT ob fl C q (sw_s g c (g c + 1)) i ∧ ∀ s, net (sw_s g c (g c + 1)) s = net g s + (dl s (q i).toNat - dl s (q j).toNat)) ∨ (¬ (hi c : Int) = q j ∧ (hi c : Int) = q i ∧ PT ob fl C q (sw_s g c (g c - 1)) i ∧ ∀ s, net (sw_s g c (g c - 1)) s = net g s + (dl s (q i).toNat - dl s (q j).toNat))) := by
  rcases b.2.2.2.2.2.2.2.1 j hj with ⟨c1, -⟩ | ⟨c, i, d1, d2, d3, d4, d5⟩
  · exact absurd c1 hC
  · have g1 := p.1 c d1
    have g2 := p.2 j c (Nat.le_refl _) d3
    have lh := lohi c d1
    refine ⟨c, i, d1, d2, d3, by omega, by omega, ?_⟩
    rcases d5 with ⟨e1, e2, e3⟩ | ⟨e1, e2, e3⟩
    · refine Or.inl ⟨e2, e1, TR_o b hj d2 d1 d3 (Or.inl ⟨e1, e2⟩) p (by omega), fun s => ?_⟩
      rw [net_up d1, ← e1, ← e2, Int.toNat_natCast, Int.toNat_natCast, show g c + 1 - g c = 1 by omega, Int.one_mul]
    · refine Or.inr ⟨by omega, e1, TR_o b hj d2 d1 d3 (Or.inr ⟨e1, e2⟩) p (by omega), fun s => ?_⟩
      rw [net_up d1, ← e1, ← e2, Int.toNat_natCast, Int.toNat_natCast, show g c - 1 - g c = -1 by omega]
      omega
theorem dl_ne {s t : Nat} (h : ¬ s = t) : dl s t = 0 := if_neg h
theorem dl_eq {s : Nat} : dl s s = 1 := if_pos rfl
/-- the flow with one way more -/
theorem Flw_up {ob fl g : Nat → Int} {r e : Nat} (hf : Flw ob fl) (hr : r % 6 = 0) (he : e < 36) (he5 : e % 6 = 5) (h1 : ∀ b, b < 60 → -ob b ≤ g b ∧ g b ≤ ob b) (h2 : ∀ s, net g s = net fl s + (dl s r - dl s e)) : Flw ob g ∧ vr g = vr fl + 1 := by
  refine ⟨⟨h1, fun s hs a1 a2 => ?_⟩, ?_⟩
  · rw [h2, hf.2 s hs a1 a2, dl_ne (by omega), dl_ne (by omega)]
    rfl
  · unfold vr
    rw [h2, h2, h2, h2, h2, h2, dl_ne (s := 5) (t := r) (by omega), dl_ne (s := 11) (t := r) (by omega), dl_ne (s := 17) (t := r) (by omega), dl_ne (s := 23) (t := r) (by omega), dl_ne (s := 29) (t := r) (by omega), dl_ne (s := 35) (t := r) (by omega)]
    have : e = 5 ∨ e = 11 ∨ e = 17 ∨ e = 23 ∨ e = 29 ∨ e = 35 := by omega
    rcases this with rfl | rfl | rfl | rfl | rfl | rfl <;> simp (config := { decide := true }) only [dl, if_true, if_false] <;> omega
theorem Flw_0 {ob : Nat → Int} (hob : ∀ b, b < 60 → ob b = 0 ∨ ob b = 1) {g : Nat → Int} (h : ∀ b, b < 60 → g b = 0) : Flw ob g ∧ vr g = 0 := by
  have n : ∀ s, net g s = 0 := fun s => su_0 60 fun b hb2 => by rw [h b hb2, Int.zero_mul]
  refine ⟨⟨fun b hb2 => by have := hob b hb2; rw [h b hb2]; omega, fun s _ _ _ => n s⟩, ?_⟩
  unfold vr
  rw [n, n, n, n, n, n]
  rfl
theorem Flw_6 {ob f : Nat → Int} (hob : ∀ b, b < 60 → ob b = 0 ∨ ob b = 1) (hf : Flw ob f) : vr f ≤ 6 := by
  have := psi_b hob hf (c := 4) (by omega) 5 (by omega)
  rw [vr_psi]
  omega
/-- as many ways as bonds in a cut -/
def FC (ob op : Nat → Int) (w : Int) : Prop := (∃ f, Flw ob f ∧ vr f = w) ∧ ∃ x, Spr op x ∧ ctN ob x = w
theorem Flw_cg {ob ob2 f : Nat → Int} (h : ∀ b, b < 60 → ob b = ob2 b) (hf : Flw ob f) : Flw ob2 f := ⟨fun b hb2 => by rw [← h b hb2]; exact hf.1 b hb2, hf.2⟩
theorem FC_c {ob ob2 op op2 : Nat → Int} {w : Int} (h : ∀ b, b < 60 → ob b = ob2 b) (g : ∀ i, i < 36 → op i = op2 i) (hw : FC ob op w) : FC ob2 op2 w := by
  obtain ⟨⟨f, f1, f2⟩, x, ⟨x1, x2, x3⟩, x4⟩ := hw
  refine ⟨⟨f, Flw_cg h f1, f2⟩, x, ⟨x1, fun s hs c o => x2 s hs c (by rw [g s hs]; exact o), x3⟩, ?_⟩
  rw [← x4]
  exact su_c 60 fun b hb2 => by rw [h b hb2]
