/-! clusters, counted -/
theorem Ed_sym {ob : Nat → Int} {s t : Nat} (hs : s < 36) (h : Ed ob s t) : Ed ob t s := by
  obtain ⟨b, b1, b2, b3⟩ := Ed_b hs h
  have e := b_Ed b1 b2
  rcases b3 with ⟨e1, e2⟩ | ⟨e1, e2⟩
  · rw [e1, e2] at e; exact e.2
  · rw [e1, e2] at e; exact e.1
/-- how many of the first n -/
noncomputable def cP (P : Nat → Prop) : Nat → Int
  | 0 => 0
  | n + 1 => cP P n + @ite Int (P n) (Classical.propDecidable _) 1 0
theorem cP_b (P : Nat → Prop) : ∀ n, 0 ≤ cP P n ∧ cP P n ≤ n
  | 0 => ⟨Int.le_refl _, Int.le_refl _⟩
  | n + 1 => by
    have := cP_b P n
    unfold cP
    split <;> omega
theorem cr_cP {st : Nat → Int} {P : Nat → Prop} : ∀ n, (∀ t, t < n → (P t ↔ ¬ st t = -1)) → cr st n = cP P n
  | 0, _ => rfl
  | n + 1, h => by
    have ih := cr_cP n fun t ht => h t (by omega)
    have hn := h n (by omega)
    unfold cr cP
    rw [ih]
    by_cases c : st n = -1
    · rw [if_pos c, if_neg (fun q => hn.mp q c)]
    · rw [if_neg c, if_pos (hn.mpr c)]
def Ld (ob op : Nat → Int) (i : Nat) : Prop := op i = 1 ∧ ¬ ∃ u, u < i ∧ op u = 1 ∧ Rc ob (fun t => t = u) i
noncomputable def csz (ob : Nat → Int) (i : Nat) : Int := cP (Rc ob (fun t => t = i)) 36
noncomputable def K3 (ob op : Nat → Int) : Nat → Int × Int × Int
  | 0 => (0, 0, 0)
  | n + 1 => @ite (Int × Int × Int) (Ld ob op n) (Classical.propDecidable _) ((K3 ob op n).1 + 1, (if (K3 ob op n).2.1 < csz ob n then csz ob n else (K3 ob op n).2.1), (K3 ob op n).2.2 + csz ob n * csz ob n) (K3 ob op n)
theorem K3_b (ob op : Nat → Int) : ∀ n, 0 ≤ (K3 ob op n).1 ∧ (K3 ob op n).1 ≤ n ∧ 0 ≤ (K3 ob op n).2.1 ∧ (K3 ob op n).2.1 ≤ 36
  | 0 => by refine ⟨?_, ?_, ?_, ?_⟩ <;> (show _ ≤ _; unfold K3; decide)
  | n + 1 => by
    have ih := K3_b ob op n
    have c := cP_b (Rc ob (fun t => t = n)) 36
    have e : csz ob n = cP (Rc ob (fun t => t = n)) 36 := rfl
    unfold K3
    split
    · dsimp only
      refine ⟨by omega, by omega, ?_, ?_⟩ <;> split <;> omega
    · omega
def Vm9 (ob op : Nat → Int) (i t : Nat) : Prop := t < 36 ∧ ∃ u, u < i ∧ op u = 1 ∧ Rc ob (fun s => s = u) t
def MK (ob op st : Nat → Int) (i : Nat) : Prop := ∀ t, t < 36 → (Vm9 ob op i t → 0 ≤ st t ∧ st t < 100) ∧ (¬ Vm9 ob op i t → st t = -1)
theorem Rc_sym {ob : Nat → Int} {u t : Nat} (hu : u < 36) (h : Rc ob (fun s => s = u) t) : Rc ob (fun s => s = t) u := by
  have ht := Rc_lt h
  have key : ∀ v, Rc ob (fun s => s = u) v → ∀ w, w < 36 → Rc ob (fun s => s = v) w → Rc ob (fun s => s = u) w := fun v hv w hw h2 => Rc_in (P := fun w => Rc ob (fun s => s = u) w) (fun x hx e => by rw [e]; exact hv) (fun x y hx hy q he => Rc_s hy q he) h2
  refine Rc_in (P := fun v => Rc ob (fun s => s = v) u) (fun x hx e => by rw [e]; exact Rc_0 hu rfl) (fun x y hx hy q he => ?_) h
  exact Rc_in (P := fun w => Rc ob (fun s => s = y) w) (fun z hz e => by rw [e]; exact Rc_s hx (Rc_0 hy rfl) (Ed_sym hx he)) (fun z w hz hw q2 he2 => Rc_s hw q2 he2) q
theorem MK_no {ob op st : Nat → Int} {i : Nat} (h : MK ob op st i) (hi : i < 36) (c : ¬ Ld ob op i) : MK ob op st (i + 1) := by
  have e : ∀ t, t < 36 → (Vm9 ob op (i + 1) t ↔ Vm9 ob op i t) := fun t ht => by
    constructor
    · rintro ⟨h1, u, h2, h3, h4⟩
      by_cases e : u = i
      · subst e
        have : ∃ w, w < u ∧ op w = 1 ∧ Rc ob (fun s => s = w) u := Classical.byContradiction fun q => c ⟨h3, q⟩
        obtain ⟨w, w1, w2, w3⟩ := this
        exact ⟨h1, w, w1, w2, Rc_in (P := fun v => Rc ob (fun s => s = w) v) (fun x hx e => by rw [e]; exact w3) (fun x y hx hy q he => Rc_s hy q he) h4⟩
      · exact ⟨h1, u, by omega, h3, h4⟩
    · rintro ⟨h1, u, h2, h3, h4⟩
      exact ⟨h1, u, by omega, h3, h4⟩
  intro t ht
  rw [e t ht]
  exact h t ht
theorem MK_Ld {ob op st : Nat → Int} {i : Nat} (h : MK ob op st i) (hi : i < 36) : Ld ob op i ↔ (op i = 1 ∧ st i = -1) := by
  constructor
  · intro q
    exact ⟨q.1, (h i hi).2 fun z => q.2 z.2⟩
  · intro q
    refine ⟨q.1, fun z => ?_⟩
    have := (h i hi).1 ⟨hi, z⟩
    omega
