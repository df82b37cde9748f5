/-! what has grown without a bond; red -/
theorem Rc_Gr2 {A : Nat → Nat → Int} {nb ns ob : Nat → Int} {shut frm r : Int64} {k p wo : Int} {S : Nat → Prop} (hA : Nm A) (hS : Sm A nb ns shut) (le : ∀ b, b < 60 → (leb nb ns shut k p wo b = true ↔ ¬ ob b = 0)) (hF : ∀ t, t < 36 → (S t ↔ (hb frm t = true ∧ ¬ os2 A k p t = 0))) (g : Gr (leb nb ns shut k p wo) (gs shut frm ns k p 36) r) {t : Nat} (ht : t < 36) : Rc ob S t ↔ hb r t = true := by
  obtain ⟨g1, g2, g3⟩ := g
  have st : ∀ i, i < 64 → (hb (gs shut frm ns k p 36) i = true ↔ (i < 36 ∧ S i)) := fun i h64 => by
    rw [gs_v 36 (Nat.le_refl _) i h64]
    constructor
    · intro q; exact ⟨q.1, (hF i q.1).mpr ⟨q.2.1, (os_iff hA hS q.1).mpr q.2.2⟩⟩
    · intro q; have := (hF i q.1).mp q.2; exact ⟨q.1, this.1, (os_iff hA hS q.1).mp this.2⟩
  constructor
  · intro h
    refine Rc_in (P := fun t => hb r t = true) (fun u hu q => g1 u (by omega) ((st u (by omega)).mpr ⟨hu, q⟩)) (fun u v hu hv q he => ?_) h
    obtain ⟨b, hb2, o, e⟩ := Ed_b hu he
    have := g2 b hb2 ((le b hb2).mpr o)
    rcases e with ⟨e1, e2⟩ | ⟨e1, e2⟩
    · rw [e1, e2] at this; rw [← this]; exact q
    · rw [e1, e2] at this; rw [this]; exact q
  · intro h
    refine g3 (fun i => Rc ob S i) (fun i h64 q => Rc_0 ((st i h64).mp q).1 ((st i h64).mp q).2) (fun b hb2 q => ?_) t (by omega) h
    have := b_Ed hb2 ((le b hb2).mp q)
    exact ⟨fun z => Rc_s (hi_lt hb2).1 z this.1, fun z => Rc_s (lo_lt hb2).1 z this.2⟩
theorem NS_Gr {A : Nat → Nat → Int} {nb ns ob : Nat → Int} {shut r : Int64} {k p wo : Int} {wf wt : Nat} (hf : wf < 4) (ht : wt < 4) (hA : Nm A) (hS : Sm A nb ns shut) (le : ∀ b, b < 60 → (leb nb ns shut k p wo b = true ↔ ¬ ob b = 0)) (g : Gr (leb nb ns shut k p wo) (gs shut (sdv wf) ns k p 36) r) : r &&& sdv wt = 0 ↔ NS ob (Sd (os2 A k p) (dirOf wf)) (dirOf wt) := by
  have key : ∀ t, t < 36 → (Rc ob (Sd (os2 A k p) (dirOf wf)) t ↔ hb r t = true) := fun t h36 => Rc_Gr2 hA hS le (fun u hu => by
    rw [sdv_v hf (by omega)]
    unfold Sd
    exact ⟨fun q => ⟨⟨hu, q.2⟩, q.1⟩, fun q => ⟨q.2, q.1.2⟩⟩) g h36
  rw [and_0]
  constructor
  · intro h t h36 o q
    exact h t (by omega) ⟨(key t h36).mp q, (sdv_v ht (by omega)).mpr ⟨h36, o⟩⟩
  · intro h i hi q
    have i36 := Gr_lt g hi q.1
    exact h i i36 ((sdv_v ht hi).mp q.2).2 ((key i i36).mpr q.1)
theorem le_wo {A : Nat → Nat → Int} {nb ns : Nat → Int} {shut : Int64} {k p : Int} {c : Nat} (hA : Nm A) (hS : Sm A nb ns shut) : ∀ b, b < 60 → (leb nb ns shut k p c b = true ↔ ¬ sw_s (ob2 A k p) c 0 b = 0) := by
  intro b hb2
  unfold leb sw_s
  rw [decide_eq_true_iff]
  by_cases e : b = c
  · subst e
    rw [if_pos rfl]
    exact ⟨fun q => absurd rfl q.1, fun q => absurd rfl q⟩
  · rw [if_neg e, ob_iff hA hS hb2]
    exact ⟨fun q => q.2, fun q => ⟨by omega, q⟩⟩
theorem os_lr : ∀ t : Nat, t < 36 → (f_os t 1 = 1 ↔ t % 6 = 0) ∧ (f_os t 2 = 1 ↔ t % 6 = 5) := by decide +kernel
theorem ob2_op {A : Nat → Nat → Int} {k p : Int} : ∀ b, b < 60 → ob2 A k p b = 1 → os2 A k p (lo b) = 1 ∧ os2 A k p (hi b) = 1 := by
  intro b hb2 h
  have e : ob2 A k p b = f_ob (os2 A k p (lo b)) (os2 A k p (hi b)) (A 3 b) k p := rfl
  rw [e] at h
  unfold f_ob at h
  split at h
  · next c => exact ⟨c.1, c.2.1⟩
  · cases h
theorem su_z {g : Nat → Int} : ∀ n, (∀ i, i < n → 0 ≤ g i) → (0 ≤ su g n ∧ (su g n = 0 → ∀ i, i < n → g i = 0))
  | 0, _ => ⟨Int.le_refl _, fun _ i h => absurd h (Nat.not_lt_zero _)⟩
  | n + 1, h => by
    have ih := su_z (g := g) n fun i hi => h i (by omega)
    have hn := h n (by omega)
    unfold su
    refine ⟨by omega, fun q i hi => ?_⟩
    by_cases e : i = n
    · subst e; omega
    · exact ih.2 (by omega) i (by omega)
theorem ctN_z {ob x : Nat → Int} (h : ctN ob x = 0) : ∀ b, b < 60 → ¬ ob b = 0 → x (lo b) = x (hi b) := by
  intro b hb2 o
  have q := (su_z (g := fun b => if ¬ ob b = 0 ∧ ¬ x (lo b) = x (hi b) then (1 : Int) else 0) 60 fun i _ => by split <;> decide).2 h b hb2
  apply Classical.byContradiction
  intro c
  have q : (if ¬ ob b = 0 ∧ ¬ x (lo b) = x (hi b) then (1 : Int) else 0) = 0 := q
  rw [if_pos ⟨o, c⟩] at q
  cases q
theorem Spr_0 {ob op x : Nat → Int} (hop : ∀ i, i < 36 → op i = 0 ∨ op i = 1) (hx : Spr op x) (h : ctN ob x = 0) : NS ob (Sd op 1) 2 := by
  have z := ctN_z h
  intro t ht o q
  have : x t = 1 := Rc_in (P := fun t => x t = 1) (fun u hu s => hx.2.1 u hu ((os_lr u hu).1.mp s.2) (by have := hop u hu; have := s.1; omega)) (fun u v hu hv s he => by
    obtain ⟨b, b1, b2, b3⟩ := Ed_b hu he
    have e := z b b1 b2
    rcases b3 with ⟨e1, e2⟩ | ⟨e1, e2⟩
    · rw [e1, e2] at e; rw [← e]; exact s
    · rw [e1, e2] at e; rw [e]; exact s) q
  have := hx.2.2 t ht ((os_lr t ht).2.mp o)
  omega
/-- what is come to, as a set of sites -/
noncomputable def rxs (ob op : Nat → Int) : Nat → Int := fun t => @ite Int (Rc ob (Sd op 1) t) (Classical.propDecidable _) 1 0
theorem rxs_1 {ob op : Nat → Int} {t : Nat} (h : Rc ob (Sd op 1) t) : rxs ob op t = 1 := if_pos h
theorem rxs_0 {ob op : Nat → Int} {t : Nat} (h : ¬ Rc ob (Sd op 1) t) : rxs ob op t = 0 := if_neg h
theorem NS_Spr {ob op : Nat → Int} (h : NS ob (Sd op 1) 2) : Spr op (rxs ob op) := by
  refine ⟨fun s hs => ?_, fun s hs c o => rxs_1 (Rc_0 hs ⟨by omega, (os_lr s hs).1.mpr c⟩), fun s hs c => rxs_0 (h s hs ((os_lr s hs).2.mpr c))⟩
  by_cases c : Rc ob (Sd op 1) s
  · exact Or.inr (rxs_1 c)
  · exact Or.inl (rxs_0 c)
theorem rxs_e {ob op : Nat → Int} {b : Nat} (hb2 : b < 60) (o : ¬ ob b = 0) : rxs ob op (lo b) = rxs ob op (hi b) := by
  have e := b_Ed hb2 o
  by_cases c : Rc ob (Sd op 1) (lo b)
  · rw [rxs_1 c, rxs_1 (Rc_s (hi_lt hb2).1 c e.1)]
  · rw [rxs_0 c, rxs_0 fun q => c (Rc_s (lo_lt hb2).1 q e.2)]
theorem NS_0 {ob op : Nat → Int} {best : Int} (hob : ∀ b, b < 60 → ob b = 0 ∨ ob b = 1) (hc : ∀ x, Spr op x → best ≤ ctN ob x) (h : NS ob (Sd op 1) 2) : best ≤ 0 := by
  have := hc _ (NS_Spr h)
  have e : ctN ob (rxs ob op) = 0 := su_0 60 fun b hb2 => if_neg fun q => q.2 (rxs_e hb2 q.1)
  omega
theorem NS_1 {ob op : Nat → Int} {best : Int} {b : Nat} (hob : ∀ b, b < 60 → ob b = 0 ∨ ob b = 1) (hc : ∀ x, Spr op x → best ≤ ctN ob x) (h : Rd ob (Sd op 1) b) : best ≤ 1 := by
  have := hc _ (NS_Spr h.2)
  have e : ctN ob (rxs (sw_s ob b 0) op) ≤ su (fun i => (fun _ => 1) i * dl i b) 60 := su_le 60 fun i hi => by
    unfold dl
    show _ ≤ (1 : Int) * _
    by_cases e : i = b
    · rw [if_pos e]
      split <;> omega
    · rw [if_neg e, if_neg]
      · omega
      · intro q
        exact q.2 (rxs_e hi (by unfold sw_s; rw [if_neg e]; exact q.1))
  rw [su_dl] at e
  split at e <;> omega
/-- red, by the cut -/
theorem rdv_eq {ob op : Nat → Int} {best : Int} (hob : ∀ b, b < 60 → ob b = 0 ∨ ob b = 1) (hop : ∀ i, i < 36 → op i = 0 ∨ op i = 1) (hc : ∀ x, Spr op x → best ≤ ctN ob x) (hx : ∃ x, Spr op x ∧ ctN ob x = best) : rdv ob op = if best = 1 then cP (Rd ob (Sd op 1)) 60 else 0 := by
  obtain ⟨x, x1, x2⟩ := hx
  have b0 : 0 ≤ best := by
    rw [← x2]
    exact (su_z 60 fun i _ => by split <;> decide).1
  unfold rdv
  by_cases n : NS ob (Sd op 1) 2
  · have := NS_0 hob hc n
    rw [if_pos n, if_neg (by omega)]
  · rw [if_neg n]
    have : ¬ best = 0 := fun q => n (Spr_0 hop x1 (by rw [x2, q]))
    by_cases c : best = 1
    · rw [if_pos c]
    · rw [if_neg c]
      have e : cP (Rd ob (Sd op 1)) 60 = cP (fun _ => False) 60 := cP_cn 60 fun b hb2 => ⟨fun q => by have := NS_1 hob hc q; omega, fun q => q.elim⟩
      rw [e]
      have z : ∀ n, cP (fun _ => False) n = 0 := fun n => by
        induction n with
        | zero => rfl
        | succ n ih =>
          unfold cP
          rw [ih, if_neg (fun q => q)]
          rfl
      exact z 60
section sw_s9
variable {H : sw_HS} {Q : sw_Ot → sw_HS → Prop} {rb rs : Nat} {nb ns : Nat → Int} {shut : Int64} {k p : Int} {A : Nat → Nat → Int}
/-- spans across or down, without a bond or with all -/
theorem m83_n {ob : Nat → Int} {dn wo : Int} (hd : dn = 0 ∨ dn = 1) (w0 : -1 ≤ wo) (w1 : wo < 60) (hA : Nm A) (hS : Sm A nb ns shut) (hb0 : H.1 rb = .inr (0, 60, I32 nb)) (hs0 : H.1 rs = .inr (0, 36, I32 ns)) (nb1 : ∀ i, i < 60 → 0 ≤ nb i ∧ nb i < 1000) (ns1 : ∀ i, i < 36 → 0 ≤ ns i ∧ ns i < 1000) (k0 : 0 ≤ k) (k1 : k ≤ 2) (p0 : -1 ≤ p) (p1 : p ≤ 1000) (le : ∀ b, b < 60 → (leb nb ns shut k p wo b = true ↔ ¬ ob b = 0)) :
    (NS ob (Sd (os2 A k p) (if dn = 0 then 1 else 0)) (if dn = 0 then 2 else 3) → sw_M 83 [.ref rb, .ref rs, .long shut, .int (Int32.ofInt k), .int (Int32.ofInt p), .int (Int32.ofInt dn), .int (Int32.ofInt wo)] H Q = Q (some (some (.int (Int32.ofInt 0)))) H) ∧ (¬ NS ob (Sd (os2 A k p) (if dn = 0 then 1 else 0)) (if dn = 0 then 2 else 3) → sw_M 83 [.ref rb, .ref rs, .long shut, .int (Int32.ofInt k), .int (Int32.ofInt p), .int (Int32.ofInt dn), .int (Int32.ofInt wo)] H Q = Q (some (some (.int (Int32.ofInt 1)))) H) := by
  obtain ⟨r, g1, g2⟩ := m83 (H := H) (Q := Q) (shut := shut) hd w0 w1 hb0 hs0 nb1 ns1 k0 k1 p0 p1
  rw [g2]
  rcases hd with rfl | rfl
  · have e : r &&& sdv (if (0 : Int) = 0 then 1 else 3) = 0 ↔ _ := NS_Gr (wf := 0) (wt := 1) (by omega) (by omega) hA hS le g1
    exact ⟨fun q => by rw [if_pos (e.mpr q)], fun q => by rw [if_neg (fun z => q (e.mp z))]⟩
  · have e : r &&& sdv (if (1 : Int) = 0 then 1 else 3) = 0 ↔ _ := NS_Gr (wf := 2) (wt := 3) (by omega) (by omega) hA hS le g1
    exact ⟨fun q => by rw [if_pos (e.mpr q)], fun q => by rw [if_neg (fun z => q (e.mp z))]⟩
end sw_s9
