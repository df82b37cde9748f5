/-! the edge by opening bond after bond -/
def UF (P : Nat → Int) (R dp : Nat → Nat) : Prop := (∀ x, x < 38 → 0 ≤ P x ∧ P x < 38 ∧ R x < 38) ∧ (∀ x, x < 38 → (P x = x ↔ R x = x)) ∧ (∀ x, x < 38 → ¬ P x = x → R (P x).toNat = R x ∧ dp (P x).toNat < dp x) ∧ (∀ x, x < 38 → R (R x) = R x) ∧ (∀ x, x < 38 → (dp x : Int) + su (fun x => if P x = (x : Int) then 1 else 0) 38 ≤ 27) ∧ ∀ x, x < 38 → P x = x → dp x = 0
theorem UF_dp {P : Nat → Int} {R dp : Nat → Nat} (h : UF P R dp) {x : Nat} (hx : x < 38) : dp x ≤ 27 := by
  have := h.2.2.2.2.1 x hx
  have := (su_z (g := fun x => if P x = (x : Int) then 1 else 0) 38 fun i _ => by split <;> decide).1
  omega
theorem UF_R {P : Nat → Int} {R dp : Nat → Nat} (h : UF P R dp) {x : Nat} (hx : x < 38) : P (R x) = R x := (h.2.1 (R x) (h.1 x hx).2.2).mpr (h.2.2.2.1 x hx)
/-- two roots made one -/
def Ru (R : Nat → Nat) (a b : Nat) : Nat → Nat := fun x => if R x = a then b else R x
def dpu (R dp : Nat → Nat) (a : Nat) : Nat → Nat := fun x => if R x = a then dp x + 1 else dp x
theorem UF_up {P : Nat → Int} {R dp : Nat → Nat} {a b : Nat} (h : UF P R dp) (ha : a < 38) (hb : b < 38) (ra : R a = a) (rb : R b = b) (ne : ¬ a = b) : UF (sw_s P a (b : Int)) (Ru R a b) (dpu R dp a) := by
  obtain ⟨h1, h2, h3, h4, h5, h6⟩ := h
  have pa : P a = a := (h2 a ha).mpr ra
  have px : ∀ x, ¬ x = a → sw_s P a (b : Int) x = P x := fun x hx => if_neg hx
  have r1 : ∀ x, R x = a → Ru R a b x = b := fun x hx => if_pos hx
  have r0 : ∀ x, ¬ R x = a → Ru R a b x = R x := fun x hx => if_neg hx
  have n1 : su (fun x => if sw_s P a (b : Int) x = (x : Int) then 1 else 0) 38 = su (fun x => if P x = (x : Int) then 1 else 0) 38 - 1 := by
    have e : su (fun x => if sw_s P a (b : Int) x = (x : Int) then 1 else 0) 38 = su (sw_s (fun x => if P x = (x : Int) then 1 else 0) a 0) 38 := su_c 38 fun i _ => by
      by_cases e : i = a
      · subst e
        rw [sE, sE, if_neg (by omega)]
      · rw [px i e]
        exact (if_neg e).symm
    rw [e, su_s, if_pos ha, if_pos pa]
    omega
  refine ⟨fun x hx => ?_, fun x hx => ?_, fun x hx q => ?_, fun x hx => ?_, fun x hx => ?_, fun x hx q => ?_⟩
  · refine ⟨?_, ?_, ?_⟩
    · by_cases e : x = a
      · subst e; rw [sE]; omega
      · rw [px x e]; exact (h1 x hx).1
    · by_cases e : x = a
      · subst e; rw [sE]; omega
      · rw [px x e]; exact (h1 x hx).2.1
    · by_cases e : R x = a
      · rw [r1 x e]; exact hb
      · rw [r0 x e]; exact (h1 x hx).2.2
  · by_cases e : x = a
    · subst e
      rw [sE, r1 x ra]
      omega
    · rw [px x e, h2 x hx]
      by_cases e2 : R x = a
      · rw [r1 x e2, e2]
        constructor
        · intro z; omega
        · intro z
          rw [← z] at e2
          omega
      · rw [r0 x e2]
  · by_cases e : x = a
    · subst e
      rw [sE, Int.toNat_natCast, r1 x ra, r0 b (by omega), rb]
      refine ⟨rfl, ?_⟩
      unfold dpu
      rw [if_neg (by omega), if_pos ra, h6 b hb ((h2 b hb).mpr rb)]
      omega
    · rw [px x e] at q ⊢
      obtain ⟨q1, q2⟩ := h3 x hx q
      unfold Ru dpu
      rw [q1]
      refine ⟨rfl, ?_⟩
      split <;> omega
  · by_cases e : R x = a
    · rw [r1 x e, r0 b (by omega), rb]
    · rw [r0 x e, r0 (R x) (by rw [h4 x hx]; exact e), h4 x hx]
  · rw [n1]
    have := h5 x hx
    unfold dpu
    split <;> omega
  · by_cases e : x = a
    · subst e; rw [sE] at q; omega
    · rw [px x e] at q
      unfold dpu
      rw [if_neg (by rw [(h2 x hx).mp q]; exact e)]
      exact h6 x hx q
def lnk (op : Nat → Int) (d1 d2 : Int) (P : Nat → Prop) : Prop := (∀ b, b < 60 → op b = 1 → (P (lo b) ↔ P (hi b))) ∧ (∀ t : Nat, t < 36 → f_os t d1 = 1 → (P t ↔ P 36)) ∧ ∀ t : Nat, t < 36 → f_os t d2 = 1 → (P t ↔ P 37)
/-- what opening bond after bond keeps -/
def KI (A : Nat → Nat → Int) (k d1 d2 : Int) (P op : Nat → Int) (R dp : Nat → Nat) : Prop := UF P R dp ∧ (∀ b, b < 60 → op b = 0 ∨ op b = 1) ∧ (∀ b, b < 60 → op b = 1 → R (lo b) = R (hi b) ∧ A 9 (lo b) = 0 ∧ A 9 (hi b) = 0) ∧ (∀ t : Nat, t < 36 → f_os t d1 = 1 → R t = R 36) ∧ (∀ t : Nat, t < 36 → f_os t d2 = 1 → R t = R 37) ∧ (∀ Z : Nat → Prop, lnk op d1 d2 Z → ∀ x, x < 38 → (Z x ↔ Z (R x))) ∧ (∀ b c : Nat, b < 60 → c < 60 → op b = 1 → op c = 0 → A 9 (lo c) = 0 → A 9 (hi c) = 0 → f_en (A 3) (A 4) k b ≤ f_en (A 3) (A 4) k c)
theorem KI_up {A : Nat → Nat → Int} {k d1 d2 : Int} {P op : Nat → Int} {R dp : Nat → Nat} (h : KI A k d1 d2 P op R dp) {b : Nat} (hb2 : b < 60) (o : op b = 0) (a1 : A 9 (lo b) = 0) (a2 : A 9 (hi b) = 0) (hm : ∀ c : Nat, c < 60 → op c = 0 → A 9 (lo c) = 0 → A 9 (hi c) = 0 → f_en (A 3) (A 4) k b ≤ f_en (A 3) (A 4) k c) : ∃ dp2, KI A k d1 d2 (sw_s P (R (lo b)) (R (hi b) : Int)) (sw_s op b 1) (Ru R (R (lo b)) (R (hi b))) dp2 := by
  obtain ⟨h1, h2, h3, h4, h5, h6, h7⟩ := h
  have l1 := (lo_lt hb2).1
  have l2 := (hi_lt hb2).1
  have ra := h1.2.2.2.1 (lo b) (by omega)
  have rb := h1.2.2.2.1 (hi b) (by omega)
  have r38 := (h1.1 (lo b) (by omega)).2.2
  have s38 := (h1.1 (hi b) (by omega)).2.2
  have uf : ∃ dp2, UF (sw_s P (R (lo b)) (R (hi b) : Int)) (Ru R (R (lo b)) (R (hi b))) dp2 := by
    by_cases ne : R (lo b) = R (hi b)
    · refine ⟨dp, ?_⟩
      have e1 : sw_s P (R (lo b)) (R (hi b) : Int) = P := by
        funext j
        unfold sw_s
        split
        · next e => rw [e, UF_R h1 (by omega), ne]
        · rfl
      have e2 : Ru R (R (lo b)) (R (hi b)) = R := by
        funext j
        unfold Ru
        split
        · next e => rw [e, ne]
        · rfl
      rw [e1, e2]
      exact h1
    · exact ⟨_, UF_up h1 r38 s38 ra rb ne⟩
  obtain ⟨dp2, uf⟩ := uf
  have opx : ∀ c, sw_s op b 1 c = 1 → c = b ∨ op c = 1 := fun c q => by
    unfold sw_s at q
    split at q
    · next e => exact Or.inl e
    · exact Or.inr q
  have opm : ∀ c, op c = 1 → sw_s op b 1 c = 1 := fun c q => by
    unfold sw_s
    split
    · rfl
    · exact q
  have cg : ∀ x y, R x = R y → Ru R (R (lo b)) (R (hi b)) x = Ru R (R (lo b)) (R (hi b)) y := fun x y e => by unfold Ru; rw [e]
  refine ⟨dp2, uf, fun c hc => ?_, fun c hc q => ?_, fun t ht q => cg _ _ (h4 t ht q), fun t ht q => cg _ _ (h5 t ht q), fun Z hZ x hx => ?_, fun c e hc he q1 q2 q3 q4 => ?_⟩
  · unfold sw_s
    split
    · exact Or.inr rfl
    · exact h2 c hc
  · rcases opx c q with e | e
    · subst e
      refine ⟨?_, a1, a2⟩
      unfold Ru
      rw [if_pos rfl]
      split <;> rfl
    · have := h3 c hc e
      exact ⟨cg _ _ this.1, this.2⟩
  · have hZ0 : lnk op d1 d2 Z := ⟨fun c hc q => hZ.1 c hc (opm c q), hZ.2⟩
    have key := h6 Z hZ0
    have zb := hZ.1 b hb2 sE
    unfold Ru
    split
    · next e => rw [key x hx, e, ← key (lo b) (by omega), zb, key (hi b) (by omega)]
    · exact key x hx
  · have ne : ¬ e = b := fun z => by rw [z, sE] at q2; cases q2
    have oe : op e = 0 := by
      unfold sw_s at q2
      rw [if_neg ne] at q2
      exact q2
    rcases opx c q1 with z | z
    · rw [z]; exact hm e he oe q3 q4
    · exact h7 c e hc he z oe q3 q4
/-- the ends are not joined and all bonds below v are opened: no span at v -/
theorem KI_ns {A : Nat → Nat → Int} {k d1 d2 v : Int} {P op : Nat → Int} {R dp : Nat → Nat} (hA : Nm A) (k0 : 0 ≤ k) (k1 : k ≤ 2) (ho : opp d1 d2) (h : KI A k d1 d2 P op R dp) (hd : ¬ R 36 = R 37) (hv : ∀ c : Nat, c < 60 → op c = 0 → A 9 (lo c) = 0 → A 9 (hi c) = 0 → v ≤ f_en (A 3) (A 4) k c) : NSp A k v d1 d2 := by
  obtain ⟨h1, h2, h3, h4, h5, h6, h7⟩ := h
  rw [NSp_iff ho]
  intro t ht o q
  have : R t = R 36 := Rc_in (P := fun u => R u = R 36) (fun u hu z => h4 u hu z.2) (fun u w hu hw z he => by
    obtain ⟨b, b1, b2, b3⟩ := Ed_b hu he
    have oe := (ob_en hA k0 k1 b1).mp b2
    have ob : op b = 1 := by
      rcases h2 b b1 with e | e
      · have := hv b b1 e oe.1 oe.2.1; omega
      · exact e
    have := (h3 b b1 ob).1
    rcases b3 with ⟨e1, e2⟩ | ⟨e1, e2⟩
    · rw [e1, e2] at this; rw [← this]; exact z
    · rw [e1, e2] at this; rw [this]; exact z) q
  have := h5 t ht o
  omega
/-- the ends are joined and all opened bonds are below v: a span at v -/
theorem KI_sp {A : Nat → Nat → Int} {k d1 d2 v : Int} {P op : Nat → Int} {R dp : Nat → Nat} (hA : Nm A) (k0 : 0 ≤ k) (k1 : k ≤ 2) (ho : opp d1 d2) (h : KI A k d1 d2 P op R dp) (hd : R 36 = R 37) (hv : ∀ c : Nat, c < 60 → op c = 1 → f_en (A 3) (A 4) k c < v) : ¬ NSp A k v d1 d2 := by
  obtain ⟨h1, h2, h3, h4, h5, h6, h7⟩ := h
  rw [NSp_iff ho]
  intro ns
  have z := h6 (fun x => x = 36 ∨ (x < 36 ∧ (f_os x d1 = 1 ∨ Rc (ob2 A k v) (Sn A d1) x))) ⟨fun b hb2 q => by
    have l1 := (lo_lt hb2).1
    have l2 := (hi_lt hb2).1
    obtain ⟨-, s1, s2⟩ := h3 b hb2 q
    have ed := b_Ed hb2 ((ob_en hA k0 k1 hb2).mpr ⟨s1, s2, hv b hb2 q⟩)
    constructor
    · rintro (e | ⟨-, e | e⟩)
      · omega
      · exact Or.inr ⟨l2, Or.inr (Rc_s l2 (Rc_0 l1 ⟨s1, e⟩) ed.1)⟩
      · exact Or.inr ⟨l2, Or.inr (Rc_s l2 e ed.1)⟩
    · rintro (e | ⟨-, e | e⟩)
      · omega
      · exact Or.inr ⟨l1, Or.inr (Rc_s l1 (Rc_0 l2 ⟨s2, e⟩) ed.2)⟩
      · exact Or.inr ⟨l1, Or.inr (Rc_s l1 e ed.2)⟩, fun t ht q => ⟨fun _ => Or.inl rfl, fun _ => Or.inr ⟨ht, Or.inl q⟩⟩, fun t ht q => ⟨fun e => by
    rcases e with e | ⟨-, e | e⟩
    · omega
    · exact (opp_n ho ht e q).elim
    · exact absurd e (ns t ht q), fun e => by
    rcases e with e | ⟨e, -⟩ <;> omega⟩⟩
  have z1 := (z 36 (by omega)).mp (Or.inl rfl)
  rw [hd] at z1
  have z2 := (z 37 (by omega)).mpr z1
  rcases z2 with e | ⟨e, -⟩ <;> omega
/-- the bond to open next, and its number -/
def nxo (A : Nat → Nat → Int) (k : Int) (op : Nat → Int) : Nat → Int × Int
  | 0 => (-1, 1000)
  | n + 1 => if op n = 0 ∧ A 9 (lo n) = 0 ∧ A 9 (hi n) = 0 ∧ f_en (A 3) (A 4) k n < (nxo A k op n).2 then ((n : Int), f_en (A 3) (A 4) k n) else nxo A k op n
theorem nxo_v {A : Nat → Nat → Int} {k : Int} {op : Nat → Int} : ∀ n, (nxo A k op n = (-1, 1000) ∧ ∀ c : Nat, c < n → op c = 0 → A 9 (lo c) = 0 → A 9 (hi c) = 0 → 1000 ≤ f_en (A 3) (A 4) k c) ∨ ∃ b : Nat, nxo A k op n = ((b : Int), f_en (A 3) (A 4) k b) ∧ b < n ∧ op b = 0 ∧ A 9 (lo b) = 0 ∧ A 9 (hi b) = 0 ∧ f_en (A 3) (A 4) k b < 1000 ∧ ∀ c : Nat, c < n → op c = 0 → A 9 (lo c) = 0 → A 9 (hi c) = 0 → f_en (A 3) (A 4) k b ≤ f_en (A 3) (A 4) k c
  | 0 => Or.inl ⟨rfl, fun c hc => absurd hc (Nat.not_lt_zero _)⟩
  | n + 1 => by
    have ih := nxo_v (A := A) (k := k) (op := op) n
    unfold nxo
    split
    · next q =>
      refine Or.inr ⟨n, rfl, by omega, q.1, q.2.1, q.2.2.1, ?_, fun c hc g1 g2 g3 => ?_⟩
      · rcases ih with ⟨i1, -⟩ | ⟨b, i1, -, -, -, -, i2, -⟩
        · rw [i1] at q; exact q.2.2.2
        · rw [i1] at q
          have : f_en (A 3) (A 4) k n < f_en (A 3) (A 4) k b := q.2.2.2
          omega
      · by_cases e : c = n
        · subst e; exact Int.le_refl _
        · rcases ih with ⟨i1, i2⟩ | ⟨b, i1, -, -, -, -, -, i2⟩
          · rw [i1] at q
            have : f_en (A 3) (A 4) k n < 1000 := q.2.2.2
            have := i2 c (by omega) g1 g2 g3
            omega
          · rw [i1] at q
            have : f_en (A 3) (A 4) k n < f_en (A 3) (A 4) k b := q.2.2.2
            have := i2 c (by omega) g1 g2 g3
            omega
    · next q =>
      rcases ih with ⟨i1, i2⟩ | ⟨b, i1, i3, i4, i5, i6, i7, i2⟩
      · refine Or.inl ⟨i1, fun c hc g1 g2 g3 => ?_⟩
        by_cases e : c = n
        · subst e
          rw [i1] at q
          apply Classical.byContradiction
          intro z
          exact q ⟨g1, g2, g3, by show _ < (1000 : Int); omega⟩
        · exact i2 c (by omega) g1 g2 g3
      · refine Or.inr ⟨b, i1, by omega, i4, i5, i6, i7, fun c hc g1 g2 g3 => ?_⟩
        by_cases e : c = n
        · subst e
          rw [i1] at q
          apply Classical.byContradiction
          intro z
          exact q ⟨g1, g2, g3, by show _ < f_en (A 3) (A 4) k b; omega⟩
        · exact i2 c (by omega) g1 g2 g3
/-- the forest at the start -/
def P0 (d1 d2 : Int) (x : Nat) : Int := if x < 36 then (if f_os x d1 = 1 then 36 else if f_os x d2 = 1 then 37 else x) else x
theorem P0_n : su (fun x => if P0 1 2 x = (x : Int) then 1 else 0) 38 = 26 ∧ su (fun x => if P0 0 3 x = (x : Int) then 1 else 0) 38 = 26 := by decide +kernel
theorem KI_0 {A : Nat → Nat → Int} {k d1 d2 : Int} {P op : Nat → Int} (ho : opp d1 d2) (hP : ∀ x, x < 38 → P x = P0 d1 d2 x) (hop : ∀ b, b < 60 → op b = 0) : KI A k d1 d2 P op (fun x => (P0 d1 d2 x).toNat) (fun x => if P0 d1 d2 x = (x : Int) then 0 else 1) ∧ ¬ (P0 d1 d2 36).toNat = (P0 d1 d2 37).toNat := by
  have pv : ∀ x, x < 38 → (P0 d1 d2 x = 36 ∧ (x = 36 ∨ (x < 36 ∧ f_os x d1 = 1))) ∨ (P0 d1 d2 x = 37 ∧ (x = 37 ∨ (x < 36 ∧ f_os x d2 = 1))) ∨ (P0 d1 d2 x = x ∧ x < 36 ∧ ¬ f_os x d1 = 1 ∧ ¬ f_os x d2 = 1) := fun x hx => by
    unfold P0
    by_cases c : x < 36
    · rw [if_pos c]
      by_cases c1 : f_os x d1 = 1
      · rw [if_pos c1]; exact Or.inl ⟨rfl, Or.inr ⟨c, c1⟩⟩
      · rw [if_neg c1]
        by_cases c2 : f_os x d2 = 1
        · rw [if_pos c2]; exact Or.inr (Or.inl ⟨rfl, Or.inr ⟨c, c2⟩⟩)
        · rw [if_neg c2]; exact Or.inr (Or.inr ⟨rfl, c, c1, c2⟩)
    · rw [if_neg c]
      by_cases e : x = 36
      · subst e; exact Or.inl ⟨rfl, Or.inl rfl⟩
      · have : x = 37 := by omega
        subst this; exact Or.inr (Or.inl ⟨rfl, Or.inl rfl⟩)
  have p36 : P0 d1 d2 36 = 36 := rfl
  have p37 : P0 d1 d2 37 = 37 := rfl
  have rt : ∀ x, x < 38 → P0 d1 d2 (P0 d1 d2 x).toNat = P0 d1 d2 x := fun x hx => by
    rcases pv x hx with ⟨e, -⟩ | ⟨e, -⟩ | ⟨e, -⟩
    · rw [e]; rfl
    · rw [e]; rfl
    · rw [e, Int.toNat_natCast, e]
  have n26 : su (fun x => if P x = (x : Int) then 1 else 0) 38 = 26 := by
    rw [su_c 38 (h := fun x => if P0 d1 d2 x = (x : Int) then 1 else 0) fun i hi2 => by rw [hP i hi2]]
    rcases ho with ⟨rfl, rfl⟩ | ⟨rfl, rfl⟩
    · exact P0_n.1
    · exact P0_n.2
  refine ⟨⟨⟨fun x hx => ?_, fun x hx => ?_, fun x hx q => ?_, fun x hx => ?_, fun x hx => ?_, fun x hx q => ?_⟩, fun b hb2 => Or.inl (hop b hb2), fun b hb2 q => ?_, fun t ht q => ?_, fun t ht q => ?_, fun Z hZ x hx => ?_, fun b c hb2 _ q => ?_⟩, by rw [p36, p37]; decide⟩
  · dsimp only
    rw [hP x hx]
    rcases pv x hx with ⟨e, -⟩ | ⟨e, -⟩ | ⟨e, -⟩ <;> rw [e] <;> omega
  · dsimp only
    rw [hP x hx]
    rcases pv x hx with ⟨e, -⟩ | ⟨e, -⟩ | ⟨e, -⟩ <;> rw [e] <;> omega
  · rw [hP x hx] at q ⊢
    refine ⟨by dsimp only; rw [rt x hx], ?_⟩
    dsimp only
    rw [if_neg q, if_pos]
    · decide
    · rw [rt x hx]
      rcases pv x hx with ⟨e, -⟩ | ⟨e, -⟩ | ⟨e, -⟩ <;> rw [e] <;> omega
  · dsimp only; rw [rt x hx]
  · rw [n26]
    dsimp only
    split <;> omega
  · rw [hP x hx] at q
    exact if_pos q
  · rw [hop b hb2] at q; cases q
  · dsimp only
    rw [p36]
    rcases pv t (by omega) with ⟨e, -⟩ | ⟨e, z⟩ | ⟨e, -, z, -⟩
    · rw [e]
    · rcases z with z | z
      · omega
      · exact (opp_n ho ht q z.2).elim
    · exact absurd q z
  · dsimp only
    rw [p37]
    rcases pv t (by omega) with ⟨e, z⟩ | ⟨e, z⟩ | ⟨e, -, -, z⟩
    · rcases z with z | z
      · omega
      · exact (opp_n ho ht z.2 q).elim
    · rw [e]
    · exact absurd q z
  · dsimp only
    rcases pv x hx with ⟨e, z⟩ | ⟨e, z⟩ | ⟨e, -⟩
    · rw [e]
      rcases z with z | z
      · subst z; exact Iff.rfl
      · exact hZ.2.1 x z.1 z.2
    · rw [e]
      rcases z with z | z
      · subst z; exact Iff.rfl
      · exact hZ.2.2 x z.1 z.2
    · rw [e, Int.toNat_natCast]
  · rw [hop b hb2] at q; cases q
