/-! the edge by the best way -/
theorem f_en_b {nb ns : Nat → Int} {k : Int} {b : Nat} (hb : ∀ i, i < 60 → 0 ≤ nb i ∧ nb i < 1000) (hs : ∀ i, i < 36 → 0 ≤ ns i ∧ ns i < 1000) (hb2 : b < 60) : 0 ≤ f_en nb ns k b ∧ f_en nb ns k b < 1000 := by
  have l1 := lo_lt hb2
  have l2 := hi_lt hb2
  have h1 := hb b hb2
  have h2 := hs (lo b) l1.1
  have h3 := hs (hi b) l2.1
  unfold f_en
  rw [l1.2, l2.2, Int.toNat_natCast, Int.toNat_natCast, Int.toNat_natCast]
  repeat' split
  all_goals omega
theorem ob_en {A : Nat → Nat → Int} {k p : Int} (hA : Nm A) (k0 : 0 ≤ k) (k1 : k ≤ 2) {b : Nat} (hb2 : b < 60) : ¬ ob2 A k p b = 0 ↔ (A 9 (lo b) = 0 ∧ A 9 (hi b) = 0 ∧ f_en (A 3) (A 4) k b < p) := by
  have l1 := lo_lt hb2
  have l2 := hi_lt hb2
  have e : ob2 A k p b = f_ob (f_op (A 9 (lo b)) (A 4 (lo b)) k p) (f_op (A 9 (hi b)) (A 4 (hi b)) k p) (A 3 b) k p := rfl
  rw [e]
  unfold f_en
  rw [l1.2, l2.2, Int.toNat_natCast, Int.toNat_natCast, Int.toNat_natCast]
  generalize A 9 (lo b) = x1
  generalize A 9 (hi b) = x2
  generalize A 4 (lo b) = y1
  generalize A 4 (hi b) = y2
  generalize A 3 b = z
  unfold f_ob f_op
  have hk : k = 0 ∨ k = 1 ∨ k = 2 := by omega
  rcases hk with rfl | rfl | rfl <;> simp (config := { decide := true }) only [if_true, if_false, true_or, false_or, or_true, or_false, true_and, and_true] <;> (repeat' split) <;> omega
theorem Rc_m {ob ob2 : Nat → Int} {S S2 : Nat → Prop} (h : ∀ b, b < 60 → ¬ ob b = 0 → ¬ ob2 b = 0) (hS : ∀ t, t < 36 → S t → S2 t) {t : Nat} (q : Rc ob S t) : Rc ob2 S2 t :=
  Rc_in (P := fun t => Rc ob2 S2 t) (fun u hu z => Rc_0 hu (hS u hu z)) (fun u v hu hv z he => by
    obtain ⟨b, b1, b2, b3⟩ := Ed_b hu he
    have e := b_Ed b1 (h b b1 b2)
    rcases b3 with ⟨e1, e2⟩ | ⟨e1, e2⟩
    · rw [e1, e2] at e; exact Rc_s hv z e.1
    · rw [e1, e2] at e; exact Rc_s hv z e.2) q
def Sn (A : Nat → Nat → Int) (d1 : Int) (t : Nat) : Prop := A 9 t = 0 ∧ f_os t d1 = 1
/-- no span at a threshold -/
def NSp (A : Nat → Nat → Int) (k p d1 d2 : Int) : Prop := NS (ob2 A k p) (Sd (os2 A k p) d1) d2
def opp (d1 d2 : Int) : Prop := (d1 = 1 ∧ d2 = 2) ∨ (d1 = 0 ∧ d2 = 3)
theorem opp_no : ∀ t : Nat, t < 36 → ¬ (f_os t 1 = 1 ∧ f_os t 2 = 1) ∧ ¬ (f_os t 0 = 1 ∧ f_os t 3 = 1) := by decide +kernel
theorem opp_n {d1 d2 : Int} (h : opp d1 d2) {t : Nat} (ht : t < 36) (h1 : f_os t d1 = 1) (h2 : f_os t d2 = 1) : False := by
  have := opp_no t ht
  rcases h with ⟨rfl, rfl⟩ | ⟨rfl, rfl⟩
  · exact this.1 ⟨h1, h2⟩
  · exact this.2 ⟨h1, h2⟩
theorem Sd_Sn {A : Nat → Nat → Int} {k p d1 : Int} {t : Nat} (h : Sd (os2 A k p) d1 t) : Sn A d1 t := by
  refine ⟨?_, h.2⟩
  have h1 := h.1
  have e : os2 A k p t = f_op (A 9 t) (A 4 t) k p := rfl
  rw [e] at h1
  unfold f_op at h1
  split at h1
  · next c => exact c.1
  · exact absurd rfl h1
theorem NSp_iff {A : Nat → Nat → Int} {k p d1 d2 : Int} (ho : opp d1 d2) : NSp A k p d1 d2 ↔ ∀ t : Nat, t < 36 → f_os t d2 = 1 → ¬ Rc (ob2 A k p) (Sn A d1) t := by
  constructor
  · intro h t ht o q
    have key : ∀ u, Rc (ob2 A k p) (Sn A d1) u → Sn A d1 u ∨ Rc (ob2 A k p) (Sd (os2 A k p) d1) u := fun u hu => Rc_in (P := fun u => Sn A d1 u ∨ Rc (ob2 A k p) (Sd (os2 A k p) d1) u) (fun v hv z => Or.inl z) (fun v w hv hw z he => by
      rcases z with z | z
      · obtain ⟨b, b1, b2, b3⟩ := Ed_b hv he
        have b4 : ob2 A k p b = 1 := by
          have := ob2_b (A := A) (k := k) (p := p) b
          omega
        have b5 := ob2_op b b1 b4
        refine Or.inr (Rc_s hw (Rc_0 hv ⟨?_, z.2⟩) he)
        rcases b3 with ⟨e1, e2⟩ | ⟨e1, e2⟩
        · rw [← e1]; omega
        · rw [← e2]; omega
      · exact Or.inr (Rc_s hw z he)) hu
    rcases key t q with z | z
    · exact opp_n ho ht z.2 o
    · exact h t ht o z
  · intro h t ht o q
    exact h t ht o (Rc_m (fun b _ z => z) (fun u _ z => Sd_Sn z) q)
theorem NSp_m {A : Nat → Nat → Int} {k p p2 d1 d2 : Int} (hA : Nm A) (k0 : 0 ≤ k) (k1 : k ≤ 2) (ho : opp d1 d2) (hp : p ≤ p2) (h : NSp A k p2 d1 d2) : NSp A k p d1 d2 := by
  rw [NSp_iff ho] at h ⊢
  intro t ht o q
  exact h t ht o (Rc_m (fun b hb2 z => by
    rw [ob_en hA k0 k1 hb2] at z ⊢
    exact ⟨z.1, z.2.1, by omega⟩) (fun u _ z => z) q)
/-- the edge: the least threshold with a span -/
def ES (A : Nat → Nat → Int) (k d1 d2 e : Int) : Prop := (e = -1 ∧ NSp A k 1000 d1 d2) ∨ (1 ≤ e ∧ e ≤ 1000 ∧ ¬ NSp A k e d1 d2 ∧ NSp A k (e - 1) d1 d2)
theorem ES_u {A : Nat → Nat → Int} {k d1 d2 e e2 : Int} (hA : Nm A) (k0 : 0 ≤ k) (k1 : k ≤ 2) (ho : opp d1 d2) (h : ES A k d1 d2 e) (g : ES A k d1 d2 e2) : e = e2 := by
  rcases h with ⟨h1, h2⟩ | ⟨h1, h2, h3, h4⟩ <;> rcases g with ⟨g1, g2⟩ | ⟨g1, g2, g3, g4⟩
  · omega
  · exact absurd (NSp_m hA k0 k1 ho g2 h2) g3
  · exact absurd (NSp_m hA k0 k1 ho h2 g2) h3
  · apply Classical.byContradiction
    intro c
    by_cases l : e < e2
    · exact h3 (NSp_m hA k0 k1 ho (by omega) g4)
    · exact g3 (NSp_m hA k0 k1 ho (by omega) h4)
/-- what the search for the best way keeps; a site whose ways on are being offered has only those below dd behind it -/
def EJ (A : Nat → Nat → Int) (k d1 d2 : Int) (c s : Nat → Int) (site : Nat) (dd : Int) : Prop := (∀ t, t < 36 → -1 ≤ c t ∧ c t ≤ 999) ∧ (∀ t, t < 36 → s t = 0 ∨ s t = 1) ∧ (∀ t, t < 36 → s t = 1 → 0 ≤ c t ∧ A 9 t = 0) ∧ (∀ t, t < 36 → Sn A d1 t → c t = 0) ∧ (∀ t, t < 36 → 0 ≤ c t → A 9 t = 0 ∧ Rc (ob2 A k (c t + 1)) (Sn A d1) t) ∧ (∀ (u : Nat) (d : Int), u < 36 → s u = 1 → 0 ≤ d → d < 4 → (¬ u = site ∨ d < dd) → ¬ f_sb u d = -1 → A 9 (f_sb u d).toNat = 0 → 0 ≤ c (f_sb u d).toNat ∧ (c (f_sb u d).toNat ≤ c u ∨ c (f_sb u d).toNat ≤ f_en (A 3) (A 4) k (f_bb u (f_sb u d)))) ∧ (∀ t, t < 36 → s t = 1 → f_os t d2 = 0) ∧ (∀ u t, u < 36 → t < 36 → s u = 1 → s t = 0 → 0 ≤ c t → c u ≤ c t)
theorem EJ_set {A : Nat → Nat → Int} {k d1 d2 : Int} {c s : Nat → Int} {site t : Nat} (h : EJ A k d1 d2 c s site 4) (ht : t < 36) (s0 : s t = 0) (c0 : ¬ c t = -1) (hm : ∀ u, u < 36 → s u = 0 → ¬ c u = -1 → c t ≤ c u) (hd : f_os t d2 = 0) : EJ A k d1 d2 c (sw_s s t 1) t 0 ∧ ∀ u, u < 36 → sw_s s t 1 u = 1 → c u ≤ c t := by
  obtain ⟨h1, h2, h3, h4, h5, h6, h7, h8⟩ := h
  have ct := h1 t ht
  have st : ∀ u, sw_s s t 1 u = 1 → u = t ∨ s u = 1 := fun u q => by
    unfold sw_s at q
    split at q
    · next e => exact Or.inl e
    · exact Or.inr q
  refine ⟨⟨h1, fun u hu => ?_, fun u hu q => ?_, h4, h5, fun u d hu q d0 d9 hd hn ha => ?_, fun u hu q => ?_, fun u v hu hv q1 q2 q3 => ?_⟩, fun u hu q => ?_⟩
  · unfold sw_s
    split
    · exact Or.inr rfl
    · exact h2 u hu
  · rcases st u q with e | e
    · subst e; exact ⟨by omega, (h5 u hu (by omega)).1⟩
    · exact h3 u hu e
  · rcases st u q with e | e
    · omega
    · exact h6 u d hu e d0 d9 (Or.inr d9) hn ha
  · rcases st u q with e | e
    · subst e; exact hd
    · exact h7 u hu e
  · have vt : s v = 0 := by
      unfold sw_s at q2
      split at q2
      · cases q2
      · exact q2
    rcases st u q1 with e | e
    · subst e; exact hm v hv vt (by omega)
    · exact h8 u v hu hv e vt q3
  · rcases st u q with e | e
    · subst e; exact Int.le_refl _
    · exact h8 u t hu ht e s0 (by omega)
theorem EJ_no {A : Nat → Nat → Int} {k d1 d2 dd : Int} {c s : Nat → Int} {site : Nat} (h : EJ A k d1 d2 c s site dd) (q : f_sb site dd = -1 ∨ ¬ A 9 (f_sb site dd).toNat = 0) : EJ A k d1 d2 c s site (dd + 1) := by
  obtain ⟨h1, h2, h3, h4, h5, h6, h7, h8⟩ := h
  refine ⟨h1, h2, h3, h4, h5, fun u d hu z d0 d9 hd hn ha => ?_, h7, h8⟩
  by_cases e : u = site ∧ d = dd
  · rw [e.1, e.2] at hn ha
    rcases q with q | q
    · exact absurd q hn
    · exact absurd ha q
  · exact h6 u d hu z d0 d9 (by omega) hn ha
theorem EJ_off {A : Nat → Nat → Int} {k d1 d2 dd v : Int} {c s : Nat → Int} {site : Nat} (hA : Nm A) (k0 : 0 ≤ k) (k1 : k ≤ 2) (hs : site < 36) (s1 : s site = 1) (hm : ∀ u, u < 36 → s u = 1 → c u ≤ c site) (h : EJ A k d1 d2 c s site dd) (d0 : 0 ≤ dd) (d9 : dd < 4) (n1 : ¬ f_sb site dd = -1) (n2 : A 9 (f_sb site dd).toNat = 0) (v1 : c site ≤ v) (v2 : f_en (A 3) (A 4) k (f_bb site (f_sb site dd)) ≤ v) (v3 : v = c site ∨ v = f_en (A 3) (A 4) k (f_bb site (f_sb site dd))) : EJ A k d1 d2 (ofr c (f_sb site dd).toNat v) s site (dd + 1) ∧ (∀ u, u < 36 → s u = 1 → ofr c (f_sb site dd).toNat v u ≤ ofr c (f_sb site dd).toNat v site) := by
  obtain ⟨h1, h2, h3, h4, h5, h6, h7, h8⟩ := h
  have sb := f_sb_b (s := site) (by omega) (by omega) d0 d9
  have bb := f_bb_b (s := site) (by omega) (by omega) d0 d9 n1
  generalize hn : (f_sb site dd).toNat = n at *
  have ne : f_sb site dd = (n : Int) := by omega
  rw [ne] at v2 v3 bb
  generalize hbv : (f_bb site n).toNat = bv at *
  have be : f_bb site n = (bv : Int) := by omega
  rw [be] at v2 v3
  have wb1 := f_en_b (k := k) hA.1 hA.2.1 (b := bv) (by omega)
  have cs := h3 site hs s1
  have n36 : n < 36 := by omega
  have lohi : (lo bv = site ∧ hi bv = n) ∨ (lo bv = n ∧ hi bv = site) := by
    rcases ad_fin1 site hs dd.toNat (by omega) with q | ⟨q1, q2⟩
    · rw [show ((dd.toNat : Nat) : Int) = dd by omega] at q; exact absurd q n1
    · rw [show ((dd.toNat : Nat) : Int) = dd by omega, ne, be, Int.toNat_natCast] at q2
      rcases q2 with ⟨e1, e2⟩ | ⟨e1, e2⟩
      · exact Or.inl ⟨e1, by omega⟩
      · exact Or.inr ⟨by omega, e2⟩
  have old : ∀ u, u < 36 → s u = 1 → ofr c n v u = c u := fun u hu q => by
    unfold ofr
    split
    · next z =>
      unfold sw_s
      split
      · next e =>
        subst e
        have := hm u hu q
        have := h3 u hu q
        omega
      · rfl
    · rfl
  have oth : ∀ u, ¬ u = n → ofr c n v u = c u := fun u hu => by
    unfold ofr
    split
    · exact if_neg hu
    · rfl
  have at1 : (ofr c n v n = v ∧ (c n = -1 ∨ v < c n)) ∨ (ofr c n v n = c n ∧ ¬ c n = -1 ∧ c n ≤ v) := by
    unfold ofr
    split
    · next z => exact Or.inl ⟨if_pos rfl, z⟩
    · next z => exact Or.inr ⟨rfl, by omega, by omega⟩
  have cn := h1 n n36
  have dn : 0 ≤ ofr c n v n ∧ ofr c n v n ≤ v := by omega
  refine ⟨⟨fun t ht => ?_, h2, fun t ht q => ?_, fun t ht q => ?_, fun t ht q => ?_, fun u d hu z e0 e9 hd hq ha => ?_, h7, fun u t hu ht q1 q2 q3 => ?_⟩, fun u hu q => ?_⟩
  · by_cases e : t = n
    · subst e; have := h1 site hs; omega
    · rw [oth t e]; exact h1 t ht
  · rw [old t ht q]; exact h3 t ht q
  · by_cases e : t = n
    · subst e; have := h4 t ht q; omega
    · rw [oth t e]; exact h4 t ht q
  · by_cases e : t = n
    · subst e
      rcases at1 with ⟨a1, a2⟩ | ⟨a1, a2, a3⟩
      · rw [a1]
        refine ⟨n2, ?_⟩
        have r := (h5 site hs cs.1).2
        have mono : Rc (ob2 A k (v + 1)) (Sn A d1) site := Rc_m (fun b hb2 z => by
          rw [ob_en hA k0 k1 hb2] at z ⊢
          exact ⟨z.1, z.2.1, by omega⟩) (fun u _ z => z) r
        have op : ¬ ob2 A k (v + 1) bv = 0 := (ob_en hA k0 k1 (by omega)).mpr (by
          rcases lohi with ⟨e1, e2⟩ | ⟨e1, e2⟩
          · rw [e1, e2]; exact ⟨cs.2, n2, by omega⟩
          · rw [e1, e2]; exact ⟨n2, cs.2, by omega⟩)
        have ed := b_Ed (by omega) op
        rcases lohi with ⟨e1, e2⟩ | ⟨e1, e2⟩
        · rw [e1, e2] at ed; exact Rc_s ht mono ed.1
        · rw [e1, e2] at ed; exact Rc_s ht mono ed.2
      · rw [a1]; exact h5 t ht (by omega)
    · rw [oth t e] at q ⊢; exact h5 t ht q
  · rw [old u hu z]
    by_cases e : (f_sb u d).toNat = n
    · by_cases e2 : u = site ∧ d = dd
      · rw [e2.1, e2.2, hn, ne, be]
        refine ⟨dn.1, ?_⟩
        omega
      · have := h6 u d hu z e0 e9 (by omega) hq ha
        rw [e] at this ⊢
        omega
    · rw [oth _ e]
      by_cases e2 : u = site ∧ d = dd
      · rw [e2.1, e2.2] at e; exact absurd hn e
      · exact h6 u d hu z e0 e9 (by omega) hq ha
  · rw [old u hu q1]
    by_cases e : t = n
    · subst e
      have := hm u hu q1
      rcases at1 with ⟨a1, a2⟩ | ⟨a1, a2, a3⟩
      · omega
      · rw [a1] at q3 ⊢; exact h8 u t hu ht q1 q2 q3
    · rw [oth t e] at q3 ⊢; exact h8 u t hu ht q1 q2 q3
  · rw [old u hu q, old site hs s1]; exact hm u hu q
/-- nothing that waits costs less than v: what is come to below v is settled, so there is no span at v -/
theorem EJ_ns {A : Nat → Nat → Int} {k d1 d2 v : Int} {c s : Nat → Int} {site : Nat} (hA : Nm A) (k0 : 0 ≤ k) (k1 : k ≤ 2) (ho : opp d1 d2) (h : EJ A k d1 d2 c s site 4) (v0 : 0 ≤ v) (hw : ∀ t, t < 36 → s t = 0 → ¬ c t = -1 → v ≤ c t) : NSp A k v d1 d2 := by
  obtain ⟨h1, h2, h3, h4, h5, h6, h7, h8⟩ := h
  rw [NSp_iff ho]
  intro t ht o q
  by_cases z0 : v = 0
  · have : Sn A d1 t := Rc_in (P := fun u => Sn A d1 u) (fun u hu z => z) (fun u w hu hw z he => by
      obtain ⟨b, b1, b2, b3⟩ := Ed_b hu he
      have := (ob_en hA k0 k1 b1).mp b2
      have := f_en_b (k := k) hA.1 hA.2.1 b1
      omega) q
    exact opp_n ho ht this.2 o
  · have key : 0 ≤ c t ∧ c t < v := Rc_in (P := fun u => 0 ≤ c u ∧ c u < v) (fun u hu z => by have := h4 u hu z; omega) (fun u w hu hw2 z he => by
      have su : s u = 1 := by
        rcases h2 u hu with e | e
        · have := hw u hu e (by omega); omega
        · exact e
      obtain ⟨d, d0, d9, e1, e2⟩ := he
      have bb := f_bb_b (s := u) (by omega) (by omega) d0 d9 (by omega)
      rw [e1] at bb
      have oe := (ob_en hA k0 k1 (b := (f_bb u w).toNat) (by omega)).mp e2
      have lh : A 9 w = 0 := by
        obtain ⟨b, b1, b2, b3⟩ := Ed_b hu ⟨d, d0, d9, e1, e2⟩
        have oe2 := (ob_en hA k0 k1 b1).mp b2
        rcases b3 with ⟨x1, x2⟩ | ⟨x1, x2⟩
        · rw [← x2]; exact oe2.2.1
        · rw [← x1]; exact oe2.1
      have := h6 u d hu su d0 d9 (Or.inr d9) (by omega) (by rw [e1]; exact lh)
      rw [e1, Int.toNat_natCast] at this
      rw [show (((f_bb u w).toNat : Nat) : Int) = f_bb u w by omega] at oe
      omega) q
    have st : s t = 1 := by
      rcases h2 t ht with e | e
      · have := hw t ht e (by omega); omega
      · exact e
    have := h7 t ht st
    omega
