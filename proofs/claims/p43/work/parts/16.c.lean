/-! fibres: rounds of breaking -/
def brk (st ld wh : Nat → Int) (f : Nat) : Int := if wh f = 1 ∧ st f < ld f then 1 else 0
def whn (st ld wh : Nat → Int) (f : Nat) : Int := if wh f = 1 ∧ ¬ st f < ld f then 1 else 0
/-- the next whole one, in at most n steps -/
def nwf (wh : Nat → Int) (step : Nat) : Nat → Nat → Int
  | 0, _ => -1
  | n + 1, x => if wh ((x + step) % 12) = 1 then (((x + step) % 12 : Nat) : Int) else nwf wh step n ((x + step) % 12)
theorem nwf_b (wh : Nat → Int) (step : Nat) : ∀ n x, nwf wh step n x = -1 ∨ ∃ y : Nat, nwf wh step n x = (y : Int) ∧ y < 12 ∧ wh y = 1
  | 0, _ => Or.inl rfl
  | n + 1, x => by
    unfold nwf
    split
    · next c => exact Or.inr ⟨(x + step) % 12, rfl, by omega, c⟩
    · exact nwf_b wh step n _
theorem nwf_c {wh wh2 : Nat → Int} {step : Nat} (h : ∀ f, f < 12 → wh f = wh2 f) : ∀ n x, nwf wh step n x = nwf wh2 step n x
  | 0, _ => rfl
  | n + 1, x => by
    unfold nwf
    rw [h _ (by omega), nwf_c h n]
theorem nwf_1 {wh : Nat → Int} : ∀ n x, x < 12 → nwf wh 1 n x = -1 → ∀ j, 1 ≤ j → j ≤ n → ¬ wh ((x + j) % 12) = 1
  | 0, _, _, _, j, h1, h2 => by omega
  | n + 1, x, hx, h, j, h1, h2 => by
    unfold nwf at h
    split at h
    · omega
    · next c =>
      by_cases e : j = 1
      · subst e; exact c
      · have := nwf_1 n ((x + 1) % 12) (by omega) h (j - 1) (by omega) (by omega)
        rwa [show ((x + 1) % 12 + (j - 1)) % 12 = (x + j) % 12 by omega] at this
theorem nwf_11 {wh : Nat → Int} : ∀ n x, x < 12 → nwf wh 11 n x = -1 → ∀ j, 1 ≤ j → j ≤ n → ¬ wh ((x + 11 * j) % 12) = 1
  | 0, _, _, _, j, h1, h2 => by omega
  | n + 1, x, hx, h, j, h1, h2 => by
    unfold nwf at h
    split at h
    · omega
    · next c =>
      by_cases e : j = 1
      · subst e; exact c
      · have := nwf_11 n ((x + 11) % 12) (by omega) h (j - 1) (by omega) (by omega)
        rwa [show ((x + 11) % 12 + 11 * (j - 1)) % 12 = (x + 11 * j) % 12 by omega] at this
/-- one is whole: it is found both ways -/
theorem nwf_s {wh : Nat → Int} {f y : Nat} (hf : f < 12) (hy : y < 12) (w : wh y = 1) (n : ¬ wh f = 1) : ¬ nwf wh 1 11 f = -1 ∧ ¬ nwf wh 11 11 f = -1 := by
  have ne : ¬ y = f := fun e => n (by rw [← e]; exact w)
  constructor
  · intro h
    have := nwf_1 11 f hf h ((y + 12 - f) % 12) (by omega) (by omega)
    rw [show (f + (y + 12 - f) % 12) % 12 = y by omega] at this
    exact this w
  · intro h
    have := nwf_11 11 f hf h ((f + 12 - y) % 12) (by omega) (by omega)
    rw [show (f + 11 * ((f + 12 - y) % 12)) % 12 = y by omega] at this
    exact this w
/-- what a broken one bore goes to both sides -/
def pf1 (wh br bo : Nat → Int) (f : Nat) : Nat → Int := if br f = 1 ∧ ¬ nwf wh 11 11 f = -1 ∧ ¬ nwf wh 1 11 f = -1 then sw_s (sw_s bo (nwf wh 11 11 f).toNat (bo (nwf wh 11 11 f).toNat + bo f / 2)) (nwf wh 1 11 f).toNat (sw_s bo (nwf wh 11 11 f).toNat (bo (nwf wh 11 11 f).toNat + bo f / 2) (nwf wh 1 11 f).toNat + (bo f - bo f / 2)) else bo
def pfo (wh br bo : Nat → Int) : Nat → Nat → Int
  | 0 => bo
  | f + 1 => pf1 wh br (pfo wh br bo f) f
theorem pf1_c {wh wh2 br br2 bo bo2 : Nat → Int} (hw : ∀ f, f < 12 → wh f = wh2 f) (hb9 : ∀ f, f < 12 → br f = br2 f) (h : ∀ f, f < 12 → bo f = bo2 f) {f : Nat} (hf : f < 12) : ∀ g, g < 12 → pf1 wh br bo f g = pf1 wh2 br2 bo2 f g := by
  intro g hg
  unfold pf1
  rw [nwf_c hw, nwf_c hw, hb9 f hf, h f hf]
  split
  · next c =>
    have a1 : (nwf wh2 11 11 f).toNat < 12 := by
      rcases nwf_b wh2 11 11 f with e | ⟨y, e, y1, -⟩ <;> omega
    have a2 : (nwf wh2 1 11 f).toNat < 12 := by
      rcases nwf_b wh2 1 11 f with e | ⟨y, e, y1, -⟩ <;> omega
    unfold sw_s
    rw [h _ a1, h _ a2, h g hg]
  · exact h g hg
theorem pfo_c {wh wh2 br br2 bo bo2 : Nat → Int} (hw : ∀ f, f < 12 → wh f = wh2 f) (hb9 : ∀ f, f < 12 → br f = br2 f) (h : ∀ f, f < 12 → bo f = bo2 f) : ∀ n, n ≤ 12 → ∀ g, g < 12 → pfo wh br bo n g = pfo wh2 br2 bo2 n g
  | 0, _, g, hg => h g hg
  | n + 1, hn, g, hg => pf1_c hw hb9 (pfo_c hw hb9 h n (by omega)) (by omega) g hg
/-- what the whole ones bear together -/
def Sw (wh bo : Nat → Int) : Int := su (fun f => if wh f = 1 then bo f else 0) 12
theorem Sw_s {wh bo : Nat → Int} {l : Nat} {v : Int} (hl : l < 12) (w : wh l = 1) : Sw wh (sw_s bo l v) = Sw wh bo + (v - bo l) := by
  have e : Sw wh (sw_s bo l v) = su (sw_s (fun f => if wh f = 1 then bo f else 0) l v) 12 := su_c 12 fun f _ => by
    unfold sw_s
    by_cases c : f = l
    · subst c; rw [if_pos w, if_pos rfl, if_pos rfl]
    · rw [if_neg c, if_neg c]
  rw [e, su_s, if_pos hl, if_pos w]
  rfl
/-- what those at f and beyond that broke have borne -/
def pdg (br bo : Nat → Int) (f : Nat) : Int := su (fun g => if f ≤ g ∧ br g = 1 then bo g else 0) 12
theorem su_one {g : Nat → Int} {f : Nat} : ∀ n, f < n → (∀ i, i < n → 0 ≤ g i) → g f ≤ su g n
  | 0, h, _ => absurd h (Nat.not_lt_zero _)
  | n + 1, h, hg => by
    have z := (su_z (g := g) n fun i hi2 => hg i (by omega)).1
    unfold su
    by_cases e : f = n
    · subst e; omega
    · have := su_one (g := g) (f := f) n (by omega) fun i hi2 => hg i (by omega)
      have := hg n (by omega)
      omega
def PI9 (wh br bo : Nat → Int) (f : Nat) (M : Int) : Prop := (∀ g, g < 12 → 0 ≤ bo g) ∧ Sw wh bo + pdg br bo f ≤ M
theorem PI9_b {wh br bo : Nat → Int} {f : Nat} {M : Int} (h : PI9 wh br bo f M) {g : Nat} (hg : g < 12) (w : wh g = 1 ∨ (f ≤ g ∧ br g = 1)) : bo g ≤ M := by
  have p1 : ∀ i, i < 12 → 0 ≤ (fun f => if wh f = 1 then bo f else 0) i := fun i hi2 => by
    have := h.1 i hi2
    dsimp only
    split <;> omega
  have p2 : ∀ i, i < 12 → 0 ≤ (fun g => if f ≤ g ∧ br g = 1 then bo g else 0) i := fun i hi2 => by
    have := h.1 i hi2
    dsimp only
    split <;> omega
  have s1 := su_one 12 hg p1
  have s2 := su_one 12 hg p2
  have z1 := (su_z 12 p1).1
  have z2 := (su_z 12 p2).1
  have q := h.2
  unfold Sw pdg at q
  rcases w with w | w
  · rw [if_pos w] at s1; omega
  · rw [if_pos w] at s2; omega
theorem pdg_s {br bo : Nat → Int} {f : Nat} (hf : f < 12) : pdg br bo f = pdg br bo (f + 1) + if br f = 1 then bo f else 0 := by
  have e : pdg br bo f = su (sw_s (fun g => if f + 1 ≤ g ∧ br g = 1 then bo g else 0) f (if br f = 1 then bo f else 0)) 12 := su_c 12 fun g _ => by
    unfold sw_s
    by_cases c : g = f
    · subst c
      rw [if_pos rfl]
      by_cases b : br g = 1
      · rw [if_pos ⟨Nat.le_refl _, b⟩, if_pos b]
      · rw [if_neg (fun q => b q.2), if_neg b]
    · rw [if_neg c]
      by_cases b : f ≤ g ∧ br g = 1
      · rw [if_pos b]
        exact (if_pos ⟨by omega, b.2⟩).symm
      · rw [if_neg b]
        exact (if_neg (fun q => b ⟨by omega, q.2⟩)).symm
  rw [e, su_s, if_pos hf, if_neg (show ¬ (f + 1 ≤ f ∧ br f = 1) by omega)]
  unfold pdg
  omega
/-- passing on keeps the sum -/
theorem pf1_I {wh br bo : Nat → Int} {f : Nat} {M : Int} (hf : f < 12) (hx : ∀ g, g < 12 → wh g = 1 → ¬ br g = 1) (h : PI9 wh br bo f M) : PI9 wh br (pf1 wh br bo f) (f + 1) M := by
  have pd := pdg_s (br := br) (bo := bo) hf
  have bf := h.1 f hf
  unfold pf1
  by_cases c : br f = 1 ∧ ¬ nwf wh 11 11 f = -1 ∧ ¬ nwf wh 1 11 f = -1
  · rw [if_pos c]
    obtain ⟨l, el, l12, wl⟩ := (nwf_b wh 11 11 f).resolve_left c.2.1
    obtain ⟨u, eu, u12, wu⟩ := (nwf_b wh 1 11 f).resolve_left c.2.2
    rw [el, eu, Int.toNat_natCast, Int.toNat_natCast]
    have bl := h.1 l l12
    have bu := h.1 u u12
    have nl := hx l l12 wl
    have nu := hx u u12 wu
    have bu2 : 0 ≤ sw_s bo l (bo l + bo f / 2) u := by
      unfold sw_s
      split <;> omega
    refine ⟨fun g hg => ?_, ?_⟩
    · show 0 ≤ sw_s (sw_s bo l _) u _ g
      unfold sw_s
      split
      · unfold sw_s at bu2; omega
      · split
        · omega
        · exact h.1 g hg
    · rw [Sw_s u12 wu, Sw_s l12 wl]
      have e : pdg br (sw_s (sw_s bo l (bo l + bo f / 2)) u (sw_s bo l (bo l + bo f / 2) u + (bo f - bo f / 2))) (f + 1) = pdg br bo (f + 1) := su_c 12 fun g _ => by
        by_cases b : f + 1 ≤ g ∧ br g = 1
        · rw [if_pos b, if_pos b]
          unfold sw_s
          rw [if_neg (fun q => nu (by rw [← q]; exact b.2)), if_neg (fun q => nl (by rw [← q]; exact b.2))]
        · rw [if_neg b, if_neg b]
      rw [e]
      rw [if_pos c.1] at pd
      have := h.2
      omega
  · rw [if_neg c]
    refine ⟨h.1, ?_⟩
    have := h.2
    have : 0 ≤ (if br f = 1 then bo f else 0) := by split <;> omega
    omega
theorem pfo_I {wh br bo : Nat → Int} {M : Int} (hx : ∀ g, g < 12 → wh g = 1 → ¬ br g = 1) (h : PI9 wh br bo 0 M) : ∀ n, n ≤ 12 → PI9 wh br (pfo wh br bo n) n M
  | 0, _ => h
  | n + 1, hn => pf1_I (by omega) hx (pfo_I hx h n (by omega))
/-- the rounds -/
def bld (loc : Bool) (load : Int) (σ : (Nat → Int) × (Nat → Int)) : Nat → Int := if loc = true then σ.2 else fun _ => load / sm σ.1 12
def bsq (loc : Bool) (load : Int) (st : Nat → Int) : Nat → (Nat → Int) × (Nat → Int)
  | 0 => (fun _ => 1, fun _ => load / 12)
  | n + 1 => (whn st (bld loc load (bsq loc load st n)) (bsq loc load st n).1, pfo (whn st (bld loc load (bsq loc load st n)) (bsq loc load st n).1) (brk st (bld loc load (bsq loc load st n)) (bsq loc load st n).1) (bsq loc load st n).2 12)
theorem brk_b (st ld wh : Nat → Int) (f : Nat) : brk st ld wh f = 0 ∨ brk st ld wh f = 1 := by unfold brk; split <;> omega
theorem whn_b (st ld wh : Nat → Int) (f : Nat) : whn st ld wh f = 0 ∨ whn st ld wh f = 1 := by unfold whn; split <;> omega
theorem wb_sm {st ld wh : Nat → Int} (h : ∀ f, f < 12 → wh f = 0 ∨ wh f = 1) : ∀ n, n ≤ 12 → sm (whn st ld wh) n + sm (brk st ld wh) n = sm wh n
  | 0, _ => rfl
  | n + 1, hn => by
    have ih := wb_sm (st := st) (ld := ld) h n (by omega)
    have := h n (by omega)
    unfold sm
    have e : whn st ld wh n + brk st ld wh n = wh n := by
      unfold whn brk
      by_cases c : wh n = 1
      · by_cases d : st n < ld n
        · rw [if_neg (fun q => q.2 d), if_pos ⟨c, d⟩]; omega
        · rw [if_pos ⟨c, d⟩, if_neg (fun q => d q.2)]; omega
      · rw [if_neg (fun q => c q.1), if_neg (fun q => c q.1)]; omega
    omega
theorem bsq_f {loc : Bool} {load : Int} {st : Nat → Int} (l0 : 0 ≤ load) : ∀ n, (∀ f, f < 12 → (bsq loc load st n).1 f = 0 ∨ (bsq loc load st n).1 f = 1) ∧ (∀ g, g < 12 → 0 ≤ (bsq loc load st n).2 g) ∧ Sw (bsq loc load st n).1 (bsq loc load st n).2 ≤ load
  | 0 => by
    refine ⟨fun _ _ => Or.inr rfl, fun g _ => ?_, ?_⟩
    · show 0 ≤ load / 12
      omega
    · have e : Sw (bsq loc load st 0).1 (bsq loc load st 0).2 = su (fun _ => load / 12) 12 := su_c 12 fun f _ => if_pos rfl
      have e2 : su (fun _ => load / 12) 12 = 12 * (load / 12) := by
        show 0 + load / 12 + load / 12 + load / 12 + load / 12 + load / 12 + load / 12 + load / 12 + load / 12 + load / 12 + load / 12 + load / 12 + load / 12 = _
        omega
      rw [e, e2]
      omega
  | n + 1 => by
    obtain ⟨i1, i2, i3⟩ := bsq_f (loc := loc) (st := st) l0 n
    show (∀ f, f < 12 → whn st (bld loc load (bsq loc load st n)) (bsq loc load st n).1 f = 0 ∨ whn st (bld loc load (bsq loc load st n)) (bsq loc load st n).1 f = 1) ∧ (∀ g, g < 12 → 0 ≤ pfo (whn st (bld loc load (bsq loc load st n)) (bsq loc load st n).1) (brk st (bld loc load (bsq loc load st n)) (bsq loc load st n).1) (bsq loc load st n).2 12 g) ∧ Sw (whn st (bld loc load (bsq loc load st n)) (bsq loc load st n).1) (pfo (whn st (bld loc load (bsq loc load st n)) (bsq loc load st n).1) (brk st (bld loc load (bsq loc load st n)) (bsq loc load st n).1) (bsq loc load st n).2 12) ≤ load
    generalize bld loc load (bsq loc load st n) = ld
    generalize bsq loc load st n = σ at *
    have hx : ∀ g, g < 12 → whn st ld σ.1 g = 1 → ¬ brk st ld σ.1 g = 1 := fun g _ q1 q2 => by
      unfold whn at q1
      unfold brk at q2
      split at q1
      · next c =>
        rw [if_neg (fun q => c.2 q.2)] at q2
        cases q2
      · cases q1
    have p0 : PI9 (whn st ld σ.1) (brk st ld σ.1) σ.2 0 load := by
      refine ⟨i2, ?_⟩
      have e : Sw (whn st ld σ.1) σ.2 + pdg (brk st ld σ.1) σ.2 0 = Sw σ.1 σ.2 := by
        unfold Sw pdg
        rw [← su_add]
        refine su_c 12 fun f hf => ?_
        unfold whn brk
        by_cases c : σ.1 f = 1
        · by_cases d : st f < ld f
          · rw [if_neg (fun q => by rw [if_neg (fun z => z.2 d)] at q; cases q), if_pos ⟨Nat.zero_le _, if_pos ⟨c, d⟩⟩, if_pos c]; omega
          · rw [if_pos (if_pos ⟨c, d⟩), if_neg (fun q => by rw [if_neg (fun z => d z.2)] at q; cases q.2), if_pos c]; omega
        · rw [if_neg (fun q => by rw [if_neg (fun z => c z.1)] at q; cases q), if_neg (fun q => by rw [if_neg (fun z => c z.1)] at q; cases q.2), if_neg c]
          rfl
      omega
    have pn := pfo_I hx p0 12 (Nat.le_refl _)
    refine ⟨fun f _ => whn_b _ _ _ f, pn.1, ?_⟩
    have z : 0 ≤ pdg (brk st ld σ.1) (pfo (whn st ld σ.1) (brk st ld σ.1) σ.2 12) 12 := (su_z 12 fun i hi2 => by
      have := pn.1 i hi2
      split <;> omega).1
    have := pn.2
    omega
/-- so many are broken at the end -/
def BR (loc : Bool) (load : Int) (st : Nat → Int) (c : Int) : Prop := ∃ n, (∀ i, i < n → 0 < sm (bsq loc load st i).1 12 ∧ 0 < sm (brk st (bld loc load (bsq loc load st i)) (bsq loc load st i).1) 12) ∧ (sm (bsq loc load st n).1 12 = 0 ∨ sm (brk st (bld loc load (bsq loc load st n)) (bsq loc load st n).1) 12 = 0) ∧ c = 12 - sm (bsq loc load st n).1 12
theorem BR_u {loc : Bool} {load c d : Int} {st : Nat → Int} (h : BR loc load st c) (g : BR loc load st d) : c = d := by
  obtain ⟨n, h1, h2, h3⟩ := h
  obtain ⟨m, g1, g2, g3⟩ := g
  have e : n = m := by
    apply Classical.byContradiction
    intro ne
    by_cases l : n < m
    · have := g1 n l; omega
    · have := h1 m (by omega); omega
  subst e
  rw [h3, g3]
theorem bsq_n {loc : Bool} {load : Int} {st : Nat → Int} (l0 : 0 ≤ load) : ∀ n, (∀ i, i < n → 0 < sm (brk st (bld loc load (bsq loc load st i)) (bsq loc load st i).1) 12) → sm (bsq loc load st n).1 12 ≤ 12 - n
  | 0, _ => by
    have e : sm (bsq loc load st 0).1 12 = 12 := rfl
    omega
  | n + 1, h => by
    have ih := bsq_n (st := st) l0 n fun i hi2 => h i (by omega)
    have f := (bsq_f (loc := loc) (st := st) l0 n).1
    have w := wb_sm (st := st) (ld := bld loc load (bsq loc load st n)) f 12 (Nat.le_refl _)
    have := h n (by omega)
    have e : sm (bsq loc load st (n + 1)).1 12 = sm (whn st (bld loc load (bsq loc load st n)) (bsq loc load st n).1) 12 := rfl
    omega
