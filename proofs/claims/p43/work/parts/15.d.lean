/-! the search for a way: what it keeps -/
theorem sm_c {g h : Nat → Int} : ∀ n, (∀ i, i < n → g i = h i) → sm g n = sm h n
  | 0, _ => rfl
  | n + 1, q => by
    unfold sm
    rw [sm_c n fun i hi => q i (by omega), q n (by omega)]
theorem sm_s {g : Nat → Int} {c : Nat} {v : Int} : ∀ n, sm (sw_s g c v) n = sm g n + if c < n then v - g c else 0
  | 0 => by rw [if_neg (Nat.not_lt_zero _)]; rfl
  | n + 1 => by
    unfold sm
    rw [sm_s n]
    by_cases e : n = c
    · subst e
      have e2 : sw_s g n v n = v := if_pos rfl
      rw [if_neg (Nat.lt_irrefl _), if_pos (Nat.lt_succ_self _), e2]
      omega
    · have e2 : sw_s g c v n = g n := if_neg e
      rw [e2]
      by_cases h : c < n
      · rw [if_pos h, if_pos (by omega)]; omega
      · rw [if_neg h, if_neg (by omega)]; omega
theorem sm_le {g : Nat → Int} : ∀ n, (∀ i, i < n → g i = 0 ∨ g i = 1) → 0 ≤ sm g n ∧ sm g n ≤ n
  | n, h => sm_b n h
theorem sm_lt1 {g : Nat → Int} {c : Nat} (h0 : g c = 0) : ∀ n, (∀ i, i < n → g i = 0 ∨ g i = 1) → c < n → sm g n < n
  | 0, _, hc => absurd hc (Nat.not_lt_zero _)
  | n + 1, h, hc => by
    have hn := h n (by omega)
    unfold sm
    by_cases e : c = n
    · subst e
      have := sm_b c fun i hi => h i (by omega)
      omega
    · have := sm_lt1 h0 n (fun i hi => h i (by omega)) (by omega)
      omega
/-- 1 where a bond may be gone over -/
def fr1 (ob fl : Nat → Int) (s n : Int) : Int := if ob (f_bb s n).toNat = 0 then 0 else if s < n then (if 0 < fl (f_bb s n).toNat then 0 else 1) else (if fl (f_bb s n).toNat < 0 then 0 else 1)
/-- over which bond a site was come to, and from which -/
def CF (ob fl C q : Nat → Int) (j : Nat) : Prop := (C (q j).toNat = -1 ∧ (q j).toNat % 6 = 0) ∨ ∃ b i : Nat, b < 60 ∧ i < j ∧ C (q j).toNat = (b : Int) ∧ ob b = 1 ∧ (((lo b : Int) = q i ∧ (hi b : Int) = q j ∧ fl b ≤ 0) ∨ ((hi b : Int) = q i ∧ (lo b : Int) = q j ∧ 0 ≤ fl b))
/-- the bonds out of a popped site: gone over, or not free -/
def RC (ob fl R : Nat → Int) (s d : Int) : Prop := f_sb s d = -1 ∨ R (f_sb s d).toNat = 1 ∨ fr1 ob fl s (f_sb s d) = 0
def SI (ob fl op R C q : Nat → Int) (z h : Nat) (dd : Int) : Prop := (∀ t, t < 36 → R t = 0 ∨ R t = 1) ∧ (∀ j, j < z → 0 ≤ q j ∧ q j < 36 ∧ R (q j).toNat = 1) ∧ (∀ t, t < 36 → R t = 1 → ∃ j, j < z ∧ q j = (t : Int)) ∧ (∀ i j, i < j → j < z → ¬ q i = q j) ∧ sm R 36 = z ∧ h ≤ z ∧ (∀ t, t < 36 → t % 6 = 0 → op t = 1 → R t = 1) ∧ (∀ j, j < z → CF ob fl C q j) ∧ (∀ j, j < h → ¬ (q j).toNat % 6 = 5) ∧ ∀ (j : Nat) (d : Int), j < z → 0 ≤ d → d < 4 → (j < h ∨ (j = h ∧ d < dd)) → RC ob fl R (q j) d
theorem SI_z {ob fl op R C q : Nat → Int} {z h : Nat} {dd : Int} (b : SI ob fl op R C q z h dd) : z ≤ 36 := by
  have := sm_b 36 b.1
  have := b.2.2.2.2.1
  omega
theorem SI_no {ob fl op R C q : Nat → Int} {z h : Nat} {dd : Int} (b : SI ob fl op R C q z h dd) (r : h < z → RC ob fl R (q h) dd) : SI ob fl op R C q z h (dd + 1) := by
  obtain ⟨b1, b2, b3, b4, b5, b6, b7, b8, b9, b10⟩ := b
  refine ⟨b1, b2, b3, b4, b5, b6, b7, b8, b9, fun j d hj d0 d1 hd => ?_⟩
  by_cases e : j = h ∧ d = dd
  · rw [e.1, e.2]; exact r (by omega)
  · exact b10 j d hj d0 d1 (by omega)
theorem SI_nx {ob fl op R C q : Nat → Int} {z h : Nat} (hz : h < z) (b : SI ob fl op R C q z h 4) (h5 : ¬ (q h).toNat % 6 = 5) : SI ob fl op R C q z (h + 1) 0 := by
  obtain ⟨b1, b2, b3, b4, b5, b6, b7, b8, b9, b10⟩ := b
  refine ⟨b1, b2, b3, b4, b5, by omega, b7, b8, fun j hj => ?_, fun j d hj d0 d1 hd => ?_⟩
  · by_cases e : j = h
    · rw [e]; exact h5
    · exact b9 j (by omega)
  · exact b10 j d hj d0 d1 (by omega)
theorem fr1_b (ob fl : Nat → Int) (s n : Int) : fr1 ob fl s n = 0 ∨ fr1 ob fl s n = 1 := by unfold fr1; repeat' split <;> omega
theorem bb_fin : ∀ s, s < 36 → ∀ d, d < 4 → f_sb (s : Nat) (d : Nat) = -1 ∨ ((f_bb (s : Nat) (f_sb (s : Nat) (d : Nat))).toNat < 60 ∧ ¬ f_sb (s : Nat) (d : Nat) = s ∧ (((s : Nat) : Int) < f_sb (s : Nat) (d : Nat) → lo (f_bb (s : Nat) (f_sb (s : Nat) (d : Nat))).toNat = s ∧ ((hi (f_bb (s : Nat) (f_sb (s : Nat) (d : Nat))).toNat : Nat) : Int) = f_sb (s : Nat) (d : Nat)) ∧ (f_sb (s : Nat) (d : Nat) < ((s : Nat) : Int) → ((lo (f_bb (s : Nat) (f_sb (s : Nat) (d : Nat))).toNat : Nat) : Int) = f_sb (s : Nat) (d : Nat) ∧ hi (f_bb (s : Nat) (f_sb (s : Nat) (d : Nat))).toNat = s)) := by decide +kernel
theorem SI_up {ob fl op R C q : Nat → Int} {z h : Nat} {dd : Int} (hob : ∀ b, b < 60 → ob b = 0 ∨ ob b = 1) (hz : h < z) (d0 : 0 ≤ dd) (d1 : dd < 4) (b : SI ob fl op R C q z h dd) (n1 : ¬ f_sb (q h) dd = -1) (n2 : ¬ R (f_sb (q h) dd).toNat = 1) (n3 : ¬ fr1 ob fl (q h) (f_sb (q h) dd) = 0) : z < 36 ∧ SI ob fl op (sw_s R (f_sb (q h) dd).toNat 1) (sw_s C (f_sb (q h) dd).toNat (f_bb (q h) (f_sb (q h) dd))) (sw_s q z (f_sb (q h) dd)) (z + 1) h (dd + 1) := by
  obtain ⟨b1, b2, b3, b4, b5, b6, b7, b8, b9, b10⟩ := b
  have qh := b2 h hz
  have sb := f_sb_b qh.1 qh.2.1 d0 d1
  have bb := f_bb_b qh.1 qh.2.1 d0 d1 n1
  have r0 : R (f_sb (q h) dd).toNat = 0 := by
    have := b1 (f_sb (q h) dd).toNat (by omega)
    omega
  have sl := sm_lt1 r0 36 b1 (by omega)
  have ne : ∀ j, j < z → ¬ q j = f_sb (q h) dd := fun j hj e => by
    have := b2 j hj
    rw [e] at this
    omega
  have qj : ∀ j, j < z → sw_s q z (f_sb (q h) dd) j = q j := fun j hj => if_neg (by omega)
  have qz : sw_s q z (f_sb (q h) dd) z = f_sb (q h) dd := if_pos rfl
  have fin := bb_fin (q h).toNat (by omega) dd.toNat (by omega)
  rw [show (((q h).toNat : Nat) : Int) = q h by omega, show ((dd.toNat : Nat) : Int) = dd by omega] at fin
  obtain ⟨f1, f2, f3, f4⟩ := fin.resolve_left n1
  refine ⟨by omega, fun t ht => ?_, fun j hj => ?_, fun t ht h1 => ?_, fun i j hij hj => ?_, ?_, by omega, fun t ht t0 o => ?_, fun j hj => ?_, fun j hj => ?_, fun j d hj e0 e1 hd => ?_⟩
  · unfold sw_s
    split
    · exact Or.inr rfl
    · exact b1 t ht
  · by_cases e : j = z
    · subst e; rw [qz]; exact ⟨by omega, by omega, if_pos rfl⟩
    · rw [qj j (by omega)]
      have := b2 j (by omega)
      refine ⟨this.1, this.2.1, ?_⟩
      unfold sw_s
      split
      · rfl
      · exact this.2.2
  · by_cases e : t = (f_sb (q h) dd).toNat
    · exact ⟨z, by omega, by rw [qz]; omega⟩
    · unfold sw_s at h1
      rw [if_neg e] at h1
      obtain ⟨j, j1, j2⟩ := b3 t ht h1
      exact ⟨j, by omega, by rw [qj j j1]; exact j2⟩
  · rw [qj i (by omega)]
    by_cases e : j = z
    · subst e; rw [qz]; exact ne i hij
    · rw [qj j (by omega)]; exact b4 i j hij (by omega)
  · rw [sm_s, if_pos (by omega), r0, b5]; rfl
  · unfold sw_s
    split
    · rfl
    · exact b7 t ht t0 o
  · by_cases e : j = z
    · subst e
      refine Or.inr ⟨(f_bb (q h) (f_sb (q h) dd)).toNat, h, by omega, hz, ?_, ?_, ?_⟩
      · rw [qz]
        show (if _ then _ else _) = _
        rw [if_pos rfl]; omega
      · unfold fr1 at n3
        have := hob _ f1
        by_cases c : ob (f_bb (q h) (f_sb (q h) dd)).toNat = 0
        · rw [if_pos c] at n3; exact absurd rfl n3
        · omega
      · rw [qz, qj h hz]
        unfold fr1 at n3
        by_cases c : ob (f_bb (q h) (f_sb (q h) dd)).toNat = 0
        · rw [if_pos c] at n3; exact absurd rfl n3
        · rw [if_neg c] at n3
          by_cases l : q h < f_sb (q h) dd
          · rw [if_pos l] at n3
            have := f3 l
            refine Or.inl ⟨by omega, this.2, ?_⟩
            split at n3
            · exact absurd rfl n3
            · omega
          · rw [if_neg l] at n3
            have := f4 (by omega)
            refine Or.inr ⟨by omega, this.1, ?_⟩
            split at n3
            · exact absurd rfl n3
            · omega
    · have jz : j < z := by omega
      have cj : sw_s C (f_sb (q h) dd).toNat (f_bb (q h) (f_sb (q h) dd)) (q j).toNat = C (q j).toNat := if_neg (fun z => by have := ne j jz; have := b2 j jz; omega)
      rcases b8 j jz with ⟨c1, c2⟩ | ⟨b, i, c1, c2, c3, c4, c5⟩
      · exact Or.inl ⟨by rw [qj j jz, cj]; exact c1, by rw [qj j jz]; exact c2⟩
      · refine Or.inr ⟨b, i, c1, c2, by rw [qj j jz, cj]; exact c3, c4, ?_⟩
        rw [qj j jz, qj i (by omega)]
        exact c5
  · rw [qj j (by omega)]; exact b9 j hj
  · have mono : ∀ s dx, RC ob fl R s dx → RC ob fl (sw_s R (f_sb (q h) dd).toNat 1) s dx := fun s dx r => by
      rcases r with r | r | r
      · exact Or.inl r
      · refine Or.inr (Or.inl ?_)
        unfold sw_s
        split
        · rfl
        · exact r
      · exact Or.inr (Or.inr r)
    have jz : j < z := by omega
    rw [qj j jz]
    by_cases e : j = h ∧ d = dd
    · rw [e.1, e.2]
      exact Or.inr (Or.inl (if_pos rfl))
    · exact mono _ _ (b10 j d jz e0 e1 (by omega))
/-- a search without end leaves a cut that the flow fills -/
theorem SI_end {ob fl op R C q : Nat → Int} {z : Nat} {dd : Int} (hob : ∀ b, b < 60 → ob b = 0 ∨ ob b = 1) (hoe : ∀ b, b < 60 → ob b = 1 → op (lo b) = 1 ∧ op (hi b) = 1) (b : SI ob fl op R C q z z dd) (hf : Flw ob fl) : Spr op R ∧ vr fl = ctN ob R := by
  obtain ⟨b1, b2, b3, b4, b5, b6, b7, b8, b9, b10⟩ := b
  have sp : Spr op R := ⟨b1, b7, fun s hs c => by
    rcases b1 s hs with h | h
    · exact h
    · obtain ⟨j, j1, j2⟩ := b3 s hs h
      have := b9 j j1
      rw [j2] at this
      exact absurd c this⟩
  refine ⟨sp, Flw_eq hob hoe hf sp fun c hc o => ?_⟩
  have l1 := (lo_lt hc).1
  have l2 := (hi_lt hc).1
  have lt : ∀ b, b < 60 → lo b < hi b := by decide +kernel
  have lc := lt c hc
  obtain ⟨⟨a1, a2⟩, a3⟩ := ad_fin2 c hc
  constructor
  · intro h1 h2
    obtain ⟨j, j1, j2⟩ := b3 _ l1 h1
    have key : ∀ d : Int, 0 ≤ d → d < 4 → f_sb (lo c : Nat) d = (hi c : Nat) → 0 < fl c := fun d d0 d1 e => by
      have r := b10 j d j1 d0 d1 (Or.inl j1)
      rw [j2] at r
      unfold RC at r
      rw [e] at r
      rcases r with r | r | r
      · omega
      · rw [Int.toNat_natCast] at r; omega
      · unfold fr1 at r
        rw [a1, Int.toNat_natCast, if_neg (by omega), if_pos (by omega)] at r
        by_cases z : 0 < fl c
        · exact z
        · rw [if_neg z] at r; cases r
    rcases a3 with ⟨e, -⟩ | ⟨e, -⟩
    · exact key 2 (by omega) (by omega) e
    · exact key 3 (by omega) (by omega) e
  · intro h1 h2
    obtain ⟨j, j1, j2⟩ := b3 _ l2 h2
    have key : ∀ d : Int, 0 ≤ d → d < 4 → f_sb (hi c : Nat) d = (lo c : Nat) → fl c < 0 := fun d d0 d1 e => by
      have r := b10 j d j1 d0 d1 (Or.inl j1)
      rw [j2] at r
      unfold RC at r
      rw [e] at r
      rcases r with r | r | r
      · omega
      · rw [Int.toNat_natCast] at r; omega
      · unfold fr1 at r
        rw [a2, Int.toNat_natCast, if_neg (by omega), if_neg (by omega)] at r
        by_cases z : fl c < 0
        · exact z
        · rw [if_neg z] at r; cases r
    rcases a3 with ⟨-, e⟩ | ⟨-, e⟩
    · exact key 1 (by omega) (by omega) e
    · exact key 0 (by omega) (by omega) e
