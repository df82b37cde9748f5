/-! times -/
def jn (b u t : Nat) : Prop := (lo b = u ∧ hi b = t) ∨ (lo b = t ∧ hi b = u)
theorem jn_s {b u t : Nat} (h : jn b u t) : jn b t u := h.elim Or.inr Or.inl
theorem jn_lt {b u t : Nat} (hb2 : b < 60) (h : jn b u t) : u < 36 ∧ t < 36 ∧ ¬ u = t := by
  have l1 := (lo_lt hb2).1
  have l2 := (hi_lt hb2).1
  have l3 := lohi b hb2
  rcases h with ⟨e1, e2⟩ | ⟨e1, e2⟩ <;> omega
theorem jn_1 {b u t v : Nat} (hb2 : b < 60) (h : jn b u t) (g : jn b u v) : t = v := by
  have l3 := lohi b hb2
  rcases h with ⟨e1, e2⟩ | ⟨e1, e2⟩ <;> rcases g with ⟨g1, g2⟩ | ⟨g1, g2⟩ <;> omega
/-- the times from a site -/
def TD (w sh : Nat → Int) (fr : Nat) (f : Nat → Int) : Prop := (∀ t, t < 36 → -1 ≤ f t ∧ f t ≤ 40000) ∧ (sh fr = 0 → f fr = 0) ∧ (∀ t, t < 36 → 0 ≤ f t → sh t = 0 ∧ ((t = fr ∧ f t = 0) ∨ ∃ u b, b < 60 ∧ jn b u t ∧ 0 ≤ f u ∧ f t = f u + w b + 1)) ∧ ∀ u t b, b < 60 → jn b u t → 0 ≤ f u → sh t = 0 → 0 ≤ f t ∧ f t ≤ f u + w b + 1
/-- a way of just this length -/
def Pw (w sh : Nat → Int) (s : Nat) (n : Int) (t : Nat) : Prop := sh s = 0 ∧ ∀ Z : Nat → Int → Prop, Z s 0 → (∀ u t b v, b < 60 → jn b u t → sh t = 0 → Z u v → Z t (v + w b + 1)) → Z t n
theorem Pw_0 {w sh : Nat → Int} {s : Nat} (h : sh s = 0) : Pw w sh s 0 s := ⟨h, fun Z z _ => z⟩
theorem Pw_s {w sh : Nat → Int} {s u t b : Nat} {n : Int} (h : Pw w sh s n u) (hb2 : b < 60) (j : jn b u t) (ht : sh t = 0) : Pw w sh s (n + w b + 1) t := ⟨h.1, fun Z z st => st u t b n hb2 j ht (h.2 Z z st)⟩
theorem Pw_t {w sh : Nat → Int} {s u t : Nat} {n m : Int} (h : Pw w sh s n u) (g : Pw w sh u m t) : Pw w sh s (n + m) t := by
  have := g.2 (fun x v => Pw w sh s (n + v) x) (by rw [Int.add_zero]; exact h) (fun a b c v hc j hb2 q => by
    have := Pw_s q hc j hb2
    rwa [show n + v + w c + 1 = n + (v + w c + 1) by omega] at this)
  exact this
theorem Pw_end {w sh : Nat → Int} {s t : Nat} {n : Int} (h : Pw w sh s n t) : sh t = 0 := h.2 (fun x _ => sh x = 0) h.1 fun _ _ _ _ _ _ q _ => q
theorem Pw_r {w sh : Nat → Int} {s t : Nat} {n : Int} (h : Pw w sh s n t) : Pw w sh t n s := h.2 (fun x v => Pw w sh x v s) (Pw_0 h.1) fun u t b v hb2 j ht q => by
  have e := Pw_s (Pw_0 (w := w) ht) hb2 (jn_s j) q.1
  have := Pw_t e q
  rwa [show 0 + w b + 1 + v = v + w b + 1 by omega] at this
theorem TD_Pw {w sh f : Nat → Int} {fr : Nat} (hw : ∀ b, b < 60 → 0 ≤ w b) (h : TD w sh fr f) : ∀ (n t : Nat), t < 36 → f t = n → Pw w sh fr n t := by
  intro n
  induction n using Nat.strongRecOn with
  | _ n ih =>
    intro t ht e
    obtain ⟨h0, q⟩ := h.2.2.1 t ht (by omega)
    rcases q with ⟨rfl, q2⟩ | ⟨u, b, b1, b2, b3, b4⟩
    · rw [show (n : Int) = 0 by omega]
      exact Pw_0 h0
    · have wb1 := hw b b1
      have := ih (f u).toNat (by omega) u (jn_lt b1 b2).1 (by omega)
      have := Pw_s this b1 b2 h0
      rwa [show ((f u).toNat : Int) + w b + 1 = n by omega] at this
theorem TD_le {w sh f : Nat → Int} {fr t : Nat} {n : Int} (h : TD w sh fr f) (p : Pw w sh fr n t) : 0 ≤ f t ∧ f t ≤ n := by
  refine p.2 (fun x v => 0 ≤ f x ∧ f x ≤ v) ?_ fun u t b v hb2 j ht q => ?_
  · rw [h.2.1 p.1]; omega
  · have := h.2.2.2 u t b hb2 j q.1 ht
    omega
theorem TD_u {w sh f g : Nat → Int} {fr : Nat} (hw : ∀ b, b < 60 → 0 ≤ w b) (h : TD w sh fr f) (k : TD w sh fr g) {t : Nat} (ht : t < 36) : f t = g t := by
  have h1 := h.1 t ht
  have k1 := k.1 t ht
  have a : 0 ≤ f t → 0 ≤ g t ∧ g t ≤ f t := fun z => by
    have := TD_le k (TD_Pw hw h (f t).toNat t ht (by omega))
    omega
  have b : 0 ≤ g t → 0 ≤ f t ∧ f t ≤ g t := fun z => by
    have := TD_le h (TD_Pw hw k (g t).toNat t ht (by omega))
    omega
  omega
/-- as far there as back -/
theorem TD_r {w sh f g : Nat → Int} {s t : Nat} (hw : ∀ b, b < 60 → 0 ≤ w b) (h : TD w sh s f) (k : TD w sh t g) (hs : s < 36) (ht : t < 36) : f t = g s := by
  have h1 := h.1 t ht
  have k1 := k.1 s hs
  have a : 0 ≤ f t → 0 ≤ g s ∧ g s ≤ f t := fun z => by
    have := TD_le k (Pw_r (TD_Pw hw h (f t).toNat t ht (by omega)))
    omega
  have b : 0 ≤ g s → 0 ≤ f t ∧ f t ≤ g s := fun z => by
    have := TD_le h (Pw_r (TD_Pw hw k (g s).toNat s hs (by omega)))
    omega
  omega
theorem TD_c {w w2 sh sh2 f : Nat → Int} {fr : Nat} (h : TD w sh fr f) (hf : fr < 36) (hw : ∀ b, b < 60 → w b = w2 b) (hs : ∀ t, t < 36 → (sh t = 0 ↔ sh2 t = 0)) : TD w2 sh2 fr f := by
  obtain ⟨h1, h2, h3, h4⟩ := h
  refine ⟨h1, fun q => h2 ((hs fr hf).mpr q), fun t ht q => ?_, fun u t b b1 b2 b3 b4 => ?_⟩
  · obtain ⟨q1, q2⟩ := h3 t ht q
    refine ⟨(hs t ht).mp q1, ?_⟩
    rcases q2 with q2 | ⟨u, b, b1, b2, b3, b4⟩
    · exact Or.inl q2
    · exact Or.inr ⟨u, b, b1, b2, b3, by rw [← hw b b1]; exact b4⟩
  · rw [← hw b b1]
    exact h4 u t b b1 b2 b3 ((hs t (jn_lt b1 b2).2.1).mpr b4)
/-- what settling the nearest keeps; of the ways out of site only those over Dn are offered yet -/
def DJ (w sh : Nat → Int) (fr : Nat) (c s : Nat → Int) (m : Int) (site : Nat) (Dn : Nat → Prop) : Prop := (∀ t, t < 36 → -1 ≤ c t ∧ c t ≤ 1000 * m) ∧ (∀ t, t < 36 → s t = 0 ∨ s t = 1) ∧ (∀ t, t < 36 → s t = 1 → 0 ≤ c t ∧ sh t = 0) ∧ (sh fr = 0 → c fr = 0) ∧ (∀ t, t < 36 → 0 ≤ c t → sh t = 0 ∧ ((t = fr ∧ c t = 0) ∨ ∃ u b, b < 60 ∧ jn b u t ∧ s u = 1 ∧ c t = c u + w b + 1)) ∧ (∀ u t b, b < 60 → jn b u t → s u = 1 → (¬ u = site ∨ Dn b) → sh t = 0 → 0 ≤ c t ∧ c t ≤ c u + w b + 1) ∧ (∀ u t, u < 36 → t < 36 → s u = 1 → s t = 0 → 0 ≤ c t → c u ≤ c t)
theorem DJ_set {w sh c s : Nat → Int} {fr site t : Nat} {m : Int} {Dn : Nat → Prop} (h : DJ w sh fr c s m site Dn) (hD : ∀ b u, b < 60 → jn b site u → Dn b) (m0 : 0 ≤ m) (ht : t < 36) (s0 : s t = 0) (c0 : ¬ c t = -1) (hm : ∀ u, u < 36 → s u = 0 → ¬ c u = -1 → c t ≤ c u) : DJ w sh fr c (sw_s s t 1) (m + 1) t (fun _ => False) ∧ ∀ u, u < 36 → sw_s s t 1 u = 1 → c u ≤ c t := by
  obtain ⟨h1, h2, h3, h4, h5, h6, h7⟩ := h
  have ct := h1 t ht
  have st : ∀ u, sw_s s t 1 u = 1 → u = t ∨ s u = 1 := fun u q => by
    unfold sw_s at q
    split at q
    · next e => exact Or.inl e
    · exact Or.inr q
  have sm1 : ∀ u, s u = 1 → sw_s s t 1 u = 1 := fun u q => by
    unfold sw_s
    split
    · rfl
    · exact q
  refine ⟨⟨fun u hu => ?_, fun u hu => ?_, fun u hu q => ?_, h4, fun u hu q => ?_, fun u v b b1 b2 q hd hv => ?_, fun u v hu hv q1 q2 q3 => ?_⟩, fun u hu q => ?_⟩
  · have := h1 u hu; omega
  · unfold sw_s
    split
    · exact Or.inr rfl
    · exact h2 u hu
  · rcases st u q with e | e
    · subst e; exact ⟨by omega, (h5 u hu (by omega)).1⟩
    · exact h3 u hu e
  · obtain ⟨q1, q2⟩ := h5 u hu q
    refine ⟨q1, ?_⟩
    rcases q2 with q2 | ⟨v, b, b1, b2, b3, b4⟩
    · exact Or.inl q2
    · exact Or.inr ⟨v, b, b1, b2, sm1 v b3, b4⟩
  · rcases st u q with e | e
    · rcases hd with hd | hd
      · exact absurd e hd
      · exact hd.elim
    · refine h6 u v b b1 b2 e ?_ hv
      by_cases z : u = site
      · subst z; exact Or.inr (hD b v b1 b2)
      · exact Or.inl z
  · have vt : s v = 0 := by
      unfold sw_s at q2
      split at q2
      · cases q2
      · exact q2
    rcases st u q1 with e | e
    · subst e; exact hm v hv vt (by omega)
    · exact h7 u v hu hv e vt q3
  · rcases st u q with e | e
    · subst e; exact Int.le_refl _
    · exact h7 u t hu ht e s0 (by omega)
theorem DJ_no {w sh c s : Nat → Int} {fr site : Nat} {m : Int} {Dn Dm : Nat → Prop} (h : DJ w sh fr c s m site Dn) (q : ∀ b t, b < 60 → jn b site t → Dm b → Dn b ∨ ¬ sh t = 0) : DJ w sh fr c s m site Dm := by
  obtain ⟨h1, h2, h3, h4, h5, h6, h7⟩ := h
  refine ⟨h1, h2, h3, h4, h5, fun u t b b1 b2 z hd ht => ?_, h7⟩
  by_cases e : u = site
  · subst e
    rcases hd with hd | hd
    · exact absurd rfl hd
    · rcases q b t b1 b2 hd with q | q
      · exact h6 u t b b1 b2 z (Or.inr q) ht
      · exact absurd ht q
  · exact h6 u t b b1 b2 z (Or.inl e) ht
theorem DJ_off {w sh c s : Nat → Int} {fr site n b : Nat} {m : Int} {Dn Dm : Nat → Prop} (hw : ∀ b, b < 60 → 0 ≤ w b ∧ w b < 1000) (h : DJ w sh fr c s m site Dn) (hs : site < 36) (s1 : s site = 1) (hm : ∀ u, u < 36 → s u = 1 → c u ≤ c site) (cm : c site ≤ 1000 * (m - 1)) (b1 : b < 60) (j : jn b site n) (n2 : sh n = 0) (q : ∀ d t, d < 60 → jn d site t → Dm d → Dn d ∨ d = b) : DJ w sh fr (ofr c n (c site + w b + 1)) s m site Dm ∧ (∀ u, u < 36 → s u = 1 → ofr c n (c site + w b + 1) u ≤ ofr c n (c site + w b + 1) site) ∧ ofr c n (c site + w b + 1) site ≤ 1000 * (m - 1) := by
  obtain ⟨h1, h2, h3, h4, h5, h6, h7⟩ := h
  have w9 := hw b b1
  have n36 := (jn_lt b1 j).2.1
  have cs := h3 site hs s1
  have old : ∀ u, u < 36 → s u = 1 → ofr c n (c site + w b + 1) u = c u := fun u hu z => by
    unfold ofr
    split
    · next y =>
      unfold sw_s
      split
      · next e =>
        subst e
        have := hm u hu z
        have := h3 u hu z
        omega
      · rfl
    · rfl
  have oth : ∀ u, ¬ u = n → ofr c n (c site + w b + 1) u = c u := fun u hu => by
    unfold ofr
    split
    · exact if_neg hu
    · rfl
  have at1 : (ofr c n (c site + w b + 1) n = c site + w b + 1 ∧ (c n = -1 ∨ c site + w b + 1 < c n)) ∨ (ofr c n (c site + w b + 1) n = c n ∧ ¬ c n = -1 ∧ c n ≤ c site + w b + 1) := by
    unfold ofr
    split
    · next z => exact Or.inl ⟨if_pos rfl, z⟩
    · next z => exact Or.inr ⟨rfl, by omega, by omega⟩
  have cn := h1 n n36
  generalize ofr c n (c site + w b + 1) = c2 at *
  refine ⟨⟨fun t ht => ?_, h2, fun t ht z => ?_, fun z => ?_, fun t ht z => ?_, fun u t d d1 d2 z hd ht => ?_, fun u t hu ht q1 q2 q3 => ?_⟩, fun u hu z => ?_, ?_⟩
  · by_cases e : t = n
    · subst e; omega
    · rw [oth t e]; exact h1 t ht
  · rw [old t ht z]; exact h3 t ht z
  · by_cases e : fr = n
    · have := h4 z
      rw [e] at this ⊢
      omega
    · rw [oth fr e]; exact h4 z
  · by_cases e : t = n
    · subst e
      rcases at1 with ⟨a1, a2⟩ | ⟨a1, a2, a3⟩
      · exact ⟨n2, Or.inr ⟨site, b, b1, j, s1, by rw [a1, old site hs s1]⟩⟩
      · obtain ⟨z1, z2⟩ := h5 t ht (by omega)
        refine ⟨z1, ?_⟩
        rcases z2 with ⟨z2, z3⟩ | ⟨u, d, d1, d2, d3, d4⟩
        · exact Or.inl ⟨z2, by omega⟩
        · exact Or.inr ⟨u, d, d1, d2, d3, by rw [a1, old u (jn_lt d1 d2).1 d3]; exact d4⟩
    · rw [oth t e] at z
      obtain ⟨z1, z2⟩ := h5 t ht z
      refine ⟨z1, ?_⟩
      rcases z2 with ⟨z2, z3⟩ | ⟨u, d, d1, d2, d3, d4⟩
      · exact Or.inl ⟨z2, by rw [oth t e]; exact z3⟩
      · exact Or.inr ⟨u, d, d1, d2, d3, by rw [oth t e, old u (jn_lt d1 d2).1 d3]; exact d4⟩
  · have u36 := (jn_lt d1 d2).1
    rw [old u u36 z]
    by_cases e : u = site ∧ d = b
    · obtain ⟨rfl, rfl⟩ := e
      have := jn_1 d1 d2 j
      subst this
      omega
    · have := h6 u t d d1 d2 z (by
        by_cases e2 : u = site
        · subst e2
          rcases hd with hd | hd
          · exact absurd rfl hd
          · rcases q d t d1 d2 hd with q | q
            · exact Or.inr q
            · exact absurd ⟨rfl, q⟩ e
        · exact Or.inl e2) ht
      by_cases e3 : t = n
      · subst e3; omega
      · rw [oth t e3]; exact this
  · rw [old u hu q1]
    by_cases e : t = n
    · subst e
      have := hm u hu q1
      rcases at1 with ⟨a1, a2⟩ | ⟨a1, a2, a3⟩
      · omega
      · rw [a1] at q3 ⊢; exact h7 u t hu ht q1 q2 q3
    · rw [oth t e] at q3 ⊢; exact h7 u t hu ht q1 q2 q3
  · rw [old u hu z, old site hs s1]; exact hm u hu z
  · rw [old site hs s1]; exact cm
theorem DJ_TD {w sh c s : Nat → Int} {fr site : Nat} {m : Int} {Dn : Nat → Prop} (h : DJ w sh fr c s m site Dn) (hD : ∀ b u, b < 60 → jn b site u → Dn b) (hm : m ≤ 40) (hall : ∀ t, t < 36 → s t = 0 → c t = -1) : TD w sh fr c := by
  obtain ⟨h1, h2, h3, h4, h5, h6, h7⟩ := h
  refine ⟨fun t ht => ?_, h4, fun t ht q => ?_, fun u t b b1 b2 q ht => ?_⟩
  · have := h1 t ht; omega
  · obtain ⟨q1, q2⟩ := h5 t ht q
    refine ⟨q1, ?_⟩
    rcases q2 with q2 | ⟨u, b, b1, b2, b3, b4⟩
    · exact Or.inl q2
    · exact Or.inr ⟨u, b, b1, b2, (h3 u (jn_lt b1 b2).1 b3).1, b4⟩
  · have u36 := (jn_lt b1 b2).1
    have su : s u = 1 := by
      rcases h2 u u36 with e | e
      · have := hall u u36 e; omega
      · exact e
    refine h6 u t b b1 b2 su ?_ ht
    by_cases z : u = site
    · subst z; exact Or.inr (hD b t b1 b2)
    · exact Or.inl z
/-- at the start: nothing settled, only the first site has a time -/
theorem DJ_0 {w sh c s : Nat → Int} {fr : Nat} (hf : fr < 36) (hs : ∀ t, t < 36 → s t = 0) (hc : ∀ t, t < 36 → c t = if t = fr ∧ sh fr = 0 then 0 else -1) : DJ w sh fr c s 0 0 (fun _ => True) := by
  refine ⟨fun t ht => ?_, fun t ht => Or.inl (hs t ht), fun t ht q => ?_, fun q => ?_, fun t ht q => ?_, fun u t b b1 b2 q => ?_, fun u t hu ht q => ?_⟩
  · rw [hc t ht]; split <;> omega
  · rw [hs t ht] at q; cases q
  · rw [hc fr hf, if_pos ⟨rfl, q⟩]
  · rw [hc t ht] at q ⊢
    split at q
    · next z => rw [if_pos z]; exact ⟨by rw [z.1]; exact z.2, Or.inl ⟨z.1, rfl⟩⟩
    · omega
  · rw [hs u (jn_lt b1 b2).1] at q; cases q
  · rw [hs u hu] at q; cases q
