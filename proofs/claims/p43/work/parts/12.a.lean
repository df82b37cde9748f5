/-! the class's walks and the law's sets -/
theorem ad_fin1 : ∀ s, s < 36 → ∀ d, d < 4 → f_sb (s : Nat) (d : Nat) = -1 ∨ (((f_bb (s : Nat) (f_sb (s : Nat) (d : Nat))).toNat < 60) ∧ (((lo (f_bb (s : Nat) (f_sb (s : Nat) (d : Nat))).toNat = s ∧ ((hi (f_bb (s : Nat) (f_sb (s : Nat) (d : Nat))).toNat : Nat) : Int) = f_sb (s : Nat) (d : Nat)) ∨ (((lo (f_bb (s : Nat) (f_sb (s : Nat) (d : Nat))).toNat : Nat) : Int) = f_sb (s : Nat) (d : Nat) ∧ hi (f_bb (s : Nat) (f_sb (s : Nat) (d : Nat))).toNat = s)))) := by decide +kernel
theorem ad_fin2 : ∀ b, b < 60 → (f_bb (lo b : Nat) (hi b : Nat) = (b : Nat) ∧ f_bb (hi b : Nat) (lo b : Nat) = (b : Nat)) ∧ ((f_sb (lo b : Nat) 2 = (hi b : Nat) ∧ f_sb (hi b : Nat) 1 = (lo b : Nat)) ∨ (f_sb (lo b : Nat) 3 = (hi b : Nat) ∧ f_sb (hi b : Nat) 0 = (lo b : Nat))) := by decide +kernel
/-- sites that are beside each other share a bond -/
theorem Ed_b {ob : Nat → Int} {s t : Nat} (hs : s < 36) (h : Ed ob s t) : ∃ b, b < 60 ∧ ¬ ob b = 0 ∧ ((lo b = s ∧ hi b = t) ∨ (lo b = t ∧ hi b = s)) := by
  obtain ⟨d, d0, d1, d2, d3⟩ := h
  obtain ⟨d, rfl⟩ := Int.eq_ofNat_of_zero_le d0
  rcases ad_fin1 s hs d (by omega) with q | ⟨q1, q2⟩
  · omega
  · rw [d2] at q1 q2
    refine ⟨_, q1, d3, ?_⟩
    rcases q2 with ⟨e1, e2⟩ | ⟨e1, e2⟩
    · exact Or.inl ⟨e1, by omega⟩
    · exact Or.inr ⟨by omega, e2⟩
theorem b_Ed {ob : Nat → Int} {b : Nat} (hb0 : b < 60) (h : ¬ ob b = 0) : Ed ob (lo b) (hi b) ∧ Ed ob (hi b) (lo b) := by
  obtain ⟨⟨q1, q2⟩, q3⟩ := ad_fin2 b hb0
  have e1 : ¬ ob (f_bb (lo b : Nat) (hi b : Nat)).toNat = 0 := by rw [q1]; exact h
  have e2 : ¬ ob (f_bb (hi b : Nat) (lo b : Nat)).toNat = 0 := by rw [q2]; exact h
  rcases q3 with ⟨a1, a2⟩ | ⟨a1, a2⟩
  · exact ⟨⟨2, by omega, by omega, a1, e1⟩, ⟨1, by omega, by omega, a2, e2⟩⟩
  · exact ⟨⟨3, by omega, by omega, a1, e1⟩, ⟨0, by omega, by omega, a2, e2⟩⟩
/-- the law's numbers are the class's, its shut the class's -/
def Sm (A : Nat → Nat → Int) (nb ns : Nat → Int) (shut : Int64) : Prop := (∀ i, i < 60 → nb i = A 3 i) ∧ (∀ i, i < 36 → ns i = A 4 i) ∧ (∀ i, i < 36 → (hb shut i = true ↔ A 9 i = 1)) ∧ ∀ i, 36 ≤ i → i < 64 → hb shut i = false
theorem os_iff {A : Nat → Nat → Int} {nb ns : Nat → Int} {shut : Int64} {k p : Int} (hA : Nm A) (hS : Sm A nb ns shut) {i : Nat} (h : i < 36) : ¬ os2 A k p i = 0 ↔ (hb shut i = false ∧ (k = 0 ∨ ns i < p)) := by
  have h1 := hA.2.2 i h
  have h2 := hS.2.2.1 i h
  have h3 := hS.2.1 i h
  unfold os2 f_op
  rw [h3]
  split
  · next c =>
    refine ⟨fun _ => ⟨?_, c.2⟩, fun _ => by omega⟩
    cases e : hb shut i with
    | false => rfl
    | true => have := h2.mp e; omega
  · next c =>
    refine ⟨fun q => absurd rfl q, fun q => ?_⟩
    intro _
    refine c ⟨?_, q.2⟩
    rcases h1 with h1 | h1
    · exact h1
    · have := h2.mpr h1; rw [q.1] at this; cases this
theorem ob_iff {A : Nat → Nat → Int} {nb ns : Nat → Int} {shut : Int64} {k p : Int} (hA : Nm A) (hS : Sm A nb ns shut) {b : Nat} (h : b < 60) : ¬ ob2 A k p b = 0 ↔ ld nb ns shut k p b = 1 := by
  have l1 := (lo_lt h).1
  have l2 := (hi_lt h).1
  have o1 := os_iff (k := k) (p := p) hA hS l1
  have o2 := os_iff (k := k) (p := p) hA hS l2
  have b1 : os2 A k p (lo b) = 0 ∨ os2 A k p (lo b) = 1 := f_op_b _ _ _ _
  have b2 : os2 A k p (hi b) = 0 ∨ os2 A k p (hi b) = 1 := f_op_b _ _ _ _
  have h3 := hS.1 b h
  have e1 : ld nb ns shut k p b = ldv (hb shut (lo b)) (hb shut (hi b)) (ns (lo b)) (ns (hi b)) (nb b) k p := rfl
  have e2 : ob2 A k p b = f_ob (os2 A k p (lo b)) (os2 A k p (hi b)) (A 3 b) k p := rfl
  rw [e1, e2]
  unfold ldv f_ob
  rw [← h3]
  constructor
  · intro q
    split at q
    · next c =>
      have q1 := o1.mp (by omega)
      have q2 := o2.mp (by omega)
      rw [if_pos ⟨q1.1, q2.1, by rcases q1.2 with z | z; exact Or.inl z; rcases q2.2 with y | y; exact Or.inl y; exact Or.inr ⟨z, y⟩, c.2.2⟩]
    · exact absurd rfl q
  · intro q
    split at q
    · next c =>
      have q1 := o1.mpr ⟨c.1, by rcases c.2.2.1 with z | z; exact Or.inl z; exact Or.inr z.1⟩
      have q2 := o2.mpr ⟨c.2.1, by rcases c.2.2.1 with z | z; exact Or.inl z; exact Or.inr z.2⟩
      rw [if_pos ⟨by omega, by omega, c.2.2.2⟩]
      decide
    · cases q
/-- what is come to from a set of sites is what has grown from it -/
theorem Rc_Gr {A : Nat → Nat → Int} {nb ns : Nat → Int} {shut frm r : Int64} {k p : Int} {S : Nat → Prop} (hA : Nm A) (hS : Sm A nb ns shut) (hF : ∀ t, t < 36 → (S t ↔ (hb frm t = true ∧ ¬ os2 A k p t = 0))) (g : Gr (leb nb ns shut k p (-1)) (gs shut frm ns k p 36) r) {t : Nat} (ht : t < 36) : Rc (ob2 A k p) S t ↔ hb r t = true := by
  obtain ⟨g1, g2, g3⟩ := g
  have le : ∀ b, b < 60 → (leb nb ns shut k p (-1) b = true ↔ ¬ ob2 A k p b = 0) := fun b hb2 => by
    unfold leb
    rw [decide_eq_true_iff, ob_iff hA hS hb2]
    exact ⟨fun q => q.2, fun q => ⟨by omega, q⟩⟩
  have st : ∀ i, i < 64 → (hb (gs shut frm ns k p 36) i = true ↔ (i < 36 ∧ S i)) := fun i h64 => by
    rw [gs_v 36 (Nat.le_refl _) i h64]
    constructor
    · intro q; exact ⟨q.1, (hF i q.1).mpr ⟨q.2.1, (os_iff hA hS q.1).mpr q.2.2⟩⟩
    · intro q; have := (hF i q.1).mp q.2; exact ⟨q.1, this.1, (os_iff hA hS q.1).mp this.2⟩
  constructor
  · intro h
    refine Rc_in (P := fun t => hb r t = true) (fun u hu q => g1 u (by omega) ((st u (by omega)).mpr ⟨hu, q⟩)) (fun u v hu hv q he => ?_) h
    obtain ⟨b, hb2, o, e⟩ := Ed_b hu he
    have := g2 b hb2 ((le b hb2).mpr o)
    rcases e with ⟨e1, e2⟩ | ⟨e1, e2⟩
    · rw [e1, e2] at this; rw [← this]; exact q
    · rw [e1, e2] at this; rw [this]; exact q
  · intro h
    refine g3 (fun i => Rc (ob2 A k p) S i) (fun i h64 q => Rc_0 ((st i h64).mp q).1 ((st i h64).mp q).2) (fun b hb2 q => ?_) t (by omega) h
    have := b_Ed hb2 ((le b hb2).mp q)
    exact ⟨fun z => Rc_s (hi_lt hb2).1 z this.1, fun z => Rc_s (lo_lt hb2).1 z this.2⟩
/-- what has grown lies within -/
theorem Gr_lt {nb ns : Nat → Int} {shut frm r : Int64} {k p wo : Int} (g : Gr (leb nb ns shut k p wo) (gs shut frm ns k p 36) r) {i : Nat} (h64 : i < 64) (h : hb r i = true) : i < 36 :=
  g.2.2 (fun i => i < 36) (fun j hj q => ((gs_v 36 (Nat.le_refl _) j hj).mp q).1) (fun b hb2 _ => ⟨fun _ => (hi_lt hb2).1, fun _ => (lo_lt hb2).1⟩) i h64 h
theorem and_0 {a b : Int64} : a &&& b = 0 ↔ ∀ i, i < 64 → ¬ (hb a i = true ∧ hb b i = true) := by
  constructor
  · intro h i hi q
    have : hb (a &&& b) i = true := by rw [hb_and, q.1, q.2]; rfl
    rw [h, hb_0] at this
    cases this
  · intro h
    apply hb_ext
    intro i hi
    rw [hb_and, hb_0]
    have := h i hi
    cases e1 : hb a i <;> cases e2 : hb b i <;> simp_all
/-- spans is through -/
theorem span_eq {A : Nat → Nat → Int} {nb ns : Nat → Int} {shut r : Int64} {k p : Int} {wf wt : Nat} {st : Nat → Int} {z : Int} (hf : wf < 4) (ht : wt < 4) (hA : Nm A) (hS : Sm A nb ns shut) (b : BD (ob2 A k p) (Sd (os2 A k p) (dirOf wf)) st z) (g : Gr (leb nb ns shut k p (-1)) (gs shut (sdv wf) ns k p 36) r) : lst st (dirOf wt) 36 = -1 ↔ r &&& sdv wt = 0 := by
  have key : ∀ t, t < 36 → (0 ≤ st t ↔ hb r t = true) := fun t h36 => by
    rw [← BD_Rc b h36]
    refine Rc_Gr hA hS (fun u hu => ?_) g h36
    rw [sdv_v hf (by omega)]
    unfold Sd
    exact ⟨fun q => ⟨⟨hu, q.2⟩, q.1⟩, fun q => ⟨q.2, q.1.2⟩⟩
  have lv := lst_v (st := st) (to := dirOf wt) 36 fun t h => (b.1 t h).1
  rw [and_0]
  constructor
  · intro h i hi q
    have i36 := Gr_lt g hi q.1
    have := lv.1 h i i36 ((sdv_v ht hi).mp q.2).2
    have := (key i i36).mpr q.1
    omega
  · intro h
    apply Classical.byContradiction
    intro c
    obtain ⟨⟨t, h36, o, e, h0⟩, -⟩ := lv.2 c
    exact h t (by omega) ⟨(key t h36).mp h0, (sdv_v ht (by omega)).mpr ⟨h36, o⟩⟩
