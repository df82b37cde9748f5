/-! flows and cuts -/
def su (g : Nat → Int) : Nat → Int
  | 0 => 0
  | n + 1 => su g n + g n
theorem su_c {g h : Nat → Int} : ∀ n, (∀ i, i < n → g i = h i) → su g n = su h n
  | 0, _ => rfl
  | n + 1, q => by
    unfold su
    rw [su_c n fun i hi => q i (by omega), q n (by omega)]
theorem su_add {g h : Nat → Int} : ∀ n, su (fun i => g i + h i) n = su g n + su h n
  | 0 => rfl
  | n + 1 => by
    unfold su
    rw [su_add n]
    omega
theorem su_sub {g h : Nat → Int} : ∀ n, su (fun i => g i - h i) n = su g n - su h n
  | 0 => rfl
  | n + 1 => by
    unfold su
    rw [su_sub n]
    omega
theorem su_mul {g : Nat → Int} {c : Int} : ∀ n, su (fun i => c * g i) n = c * su g n
  | 0 => (Int.mul_zero c).symm
  | n + 1 => by
    unfold su
    rw [su_mul n, Int.mul_add]
theorem su_0 {g : Nat → Int} : ∀ n, (∀ i, i < n → g i = 0) → su g n = 0
  | 0, _ => rfl
  | n + 1, q => by
    unfold su
    rw [su_0 n fun i hi => q i (by omega), q n (by omega)]
    rfl
theorem su_le {g h : Nat → Int} : ∀ n, (∀ i, i < n → g i ≤ h i) → su g n ≤ su h n
  | 0, _ => Int.le_refl _
  | n + 1, q => by
    have := su_le n fun i hi => q i (by omega)
    have := q n (by omega)
    unfold su
    omega
def dl (s t : Nat) : Int := if s = t then 1 else 0
theorem su_dl {g : Nat → Int} {c : Nat} : ∀ n, su (fun i => g i * dl i c) n = if c < n then g c else 0
  | 0 => by rw [if_neg (Nat.not_lt_zero _)]; rfl
  | n + 1 => by
    unfold su
    rw [su_dl n]
    unfold dl
    by_cases e : n = c
    · subst e; rw [if_neg (Nat.lt_irrefl _), if_pos rfl, if_pos (Nat.lt_succ_self _), Int.mul_one, Int.zero_add]
    · rw [if_neg e, Int.mul_zero, Int.add_zero]
      by_cases h : c < n
      · rw [if_pos h, if_pos (by omega)]
      · rw [if_neg h, if_neg (by omega)]
/-- what flows out of a site, less what flows in -/
def net (f : Nat → Int) (s : Nat) : Int := su (fun b => f b * (dl s (lo b) - dl s (hi b))) 60
theorem su_up {f w : Nat → Int} {c : Nat} {v : Int} : ∀ n, su (fun b => sw_s f c v b * w b) n = su (fun b => f b * w b) n + if c < n then (v - f c) * w c else 0
  | 0 => by rw [if_neg (Nat.not_lt_zero _)]; rfl
  | n + 1 => by
    unfold su
    rw [su_up n]
    by_cases e : n = c
    · subst e
      have e2 : sw_s f n v n = v := if_pos rfl
      rw [if_neg (Nat.lt_irrefl _), if_pos (Nat.lt_succ_self _), e2, Int.sub_mul]
      omega
    · have e2 : sw_s f c v n = f n := if_neg e
      rw [e2]
      by_cases h : c < n
      · rw [if_pos h, if_pos (by omega)]; omega
      · rw [if_neg h, if_neg (by omega)]; omega
theorem net_up {f : Nat → Int} {c : Nat} {v : Int} {s : Nat} (hc : c < 60) : net (sw_s f c v) s = net f s + (v - f c) * (dl s (lo c) - dl s (hi c)) := by
  unfold net
  rw [su_up (f := f) (w := fun b => dl s (lo b) - dl s (hi b)), if_pos hc]
theorem net_fin : ∀ s, s < 36 → ∀ b, b < 60 → dl s (lo b) - dl s (hi b) = (if s % 6 < 5 then dl b (5 * (s / 6) + s % 6) else 0) - (if 0 < s % 6 then dl b (5 * (s / 6) + s % 6 - 1) else 0) + (if s < 30 then dl b (30 + s) else 0) - (if 6 ≤ s then dl b (24 + s) else 0) := by decide +kernel
theorem su_if {f : Nat → Int} {P : Prop} [Decidable P] {c : Nat} (h : P → c < 60) : su (fun b => f b * (if P then dl b c else 0)) 60 = if P then f c else 0 := by
  by_cases q : P
  · rw [if_pos q, su_c 60 (h := fun b => f b * dl b c) (fun i _ => by rw [if_pos q]), su_dl, if_pos (h q)]
  · rw [if_neg q]
    exact su_0 60 fun i _ => by rw [if_neg q, Int.mul_zero]
theorem net_x {f : Nat → Int} {s : Nat} (hs : s < 36) : net f s = (if s % 6 < 5 then f (5 * (s / 6) + s % 6) else 0) - (if 0 < s % 6 then f (5 * (s / 6) + s % 6 - 1) else 0) + (if s < 30 then f (30 + s) else 0) - (if 6 ≤ s then f (24 + s) else 0) := by
  unfold net
  rw [su_c 60 (h := fun b => ((f b * (if s % 6 < 5 then dl b (5 * (s / 6) + s % 6) else 0) - f b * (if 0 < s % 6 then dl b (5 * (s / 6) + s % 6 - 1) else 0)) + f b * (if s < 30 then dl b (30 + s) else 0)) - f b * (if 6 ≤ s then dl b (24 + s) else 0)) (fun b hb2 => by rw [net_fin s hs b hb2, Int.mul_sub, Int.mul_add, Int.mul_sub]), su_sub, su_add, su_sub, su_if (fun _ => by omega), su_if (fun _ => by omega), su_if (fun _ => by omega), su_if (fun _ => by omega)]
theorem net_rc {f : Nat → Int} {r c : Nat} (hr : r < 6) (hc : c < 6) : net f (6 * r + c) = (if c < 5 then f (5 * r + c) else 0) - (if 0 < c then f (5 * r + c - 1) else 0) + (if r < 5 then f (30 + 6 * r + c) else 0) - (if 0 < r then f (24 + 6 * r + c) else 0) := by
  rw [net_x (by omega), show (6 * r + c) % 6 = c by omega, show (6 * r + c) / 6 = r by omega, show 30 + (6 * r + c) = 30 + 6 * r + c by omega, show 24 + (6 * r + c) = 24 + 6 * r + c by omega]
  congr 1
  · congr 1
    by_cases h : r < 5
    · rw [if_pos h, if_pos (by omega)]
    · rw [if_neg h, if_neg (by omega)]
  · by_cases h : 0 < r
    · rw [if_pos h, if_pos (by omega)]
    · rw [if_neg h, if_neg (by omega)]
theorem su_net {f x : Nat → Int} : ∀ n, n ≤ 60 → su (fun s => x s * su (fun b => f b * (dl s (lo b) - dl s (hi b))) n) 36 = su (fun b => f b * (x (lo b) - x (hi b))) n
  | 0, _ => su_0 36 fun i _ => Int.mul_zero _
  | n + 1, hn => by
    have ih := su_net (f := f) (x := x) n (by omega)
    have l1 := (lo_lt (show n < 60 by omega)).1
    have l2 := (hi_lt (show n < 60 by omega)).1
    have e : su (fun s => x s * su (fun b => f b * (dl s (lo b) - dl s (hi b))) (n + 1)) 36 = su (fun s => x s * su (fun b => f b * (dl s (lo b) - dl s (hi b))) n + f n * (x s * dl s (lo n) - x s * dl s (hi n))) 36 := su_c 36 fun s _ => by
      show x s * (su _ n + f n * (dl s (lo n) - dl s (hi n))) = _
      rw [Int.mul_add, ← Int.mul_sub, Int.mul_left_comm]
    rw [e, su_add, ih, su_mul, su_sub, su_dl, su_dl, if_pos l1, if_pos l2]
    rfl
/-- what comes out at the right -/
def vr (f : Nat → Int) : Int := -(net f 5 + net f 11 + net f 17 + net f 23 + net f 29 + net f 35)
def ctN (ob x : Nat → Int) : Int := su (fun b => if ¬ ob b = 0 ∧ ¬ x (lo b) = x (hi b) then 1 else 0) 60
/-- a flow between the left and the right over open bonds -/
def Flw (ob f : Nat → Int) : Prop := (∀ b, b < 60 → -ob b ≤ f b ∧ f b ≤ ob b) ∧ ∀ s, s < 36 → 1 ≤ s % 6 → s % 6 ≤ 4 → net f s = 0
/-- a set of sites that holds the open ones on the left and none on the right -/
def Spr (op x : Nat → Int) : Prop := (∀ s, s < 36 → x s = 0 ∨ x s = 1) ∧ (∀ s, s < 36 → s % 6 = 0 → op s = 1 → x s = 1) ∧ ∀ s, s < 36 → s % 6 = 5 → x s = 0
theorem su_6 {g : Nat → Int} : su (fun s => if s % 6 = 5 then g s else 0) 36 = g 5 + g 11 + g 17 + g 23 + g 29 + g 35 := by
  have e : ∀ m, su (fun s => if s % 6 = 5 then g s else 0) (6 * (m + 1)) = su (fun s => if s % 6 = 5 then g s else 0) (6 * m) + g (6 * m + 5) := fun m => by
    show su _ (6 * m) + (if (6 * m) % 6 = 5 then g (6 * m) else 0) + (if (6 * m + 1) % 6 = 5 then _ else 0) + (if (6 * m + 2) % 6 = 5 then _ else 0) + (if (6 * m + 3) % 6 = 5 then _ else 0) + (if (6 * m + 4) % 6 = 5 then _ else 0) + (if (6 * m + 5) % 6 = 5 then g (6 * m + 5) else 0) = _
    rw [if_neg (by omega), if_neg (by omega), if_neg (by omega), if_neg (by omega), if_neg (by omega), if_pos (by omega)]
    omega
  have e0 := e 0
  have e1 := e 1
  have e2 := e 2
  have e3 := e 3
  have e4 := e 4
  have e5 := e 5
  have z : su (fun s => if s % 6 = 5 then g s else 0) (6 * 0) = 0 := rfl
  show su _ (6 * (5 + 1)) = _
  rw [e5, show 6 * 5 = 6 * (4 + 1) from rfl, e4, show 6 * 4 = 6 * (3 + 1) from rfl, e3, show 6 * 3 = 6 * (2 + 1) from rfl, e2, show 6 * 2 = 6 * (1 + 1) from rfl, e1, show 6 * 1 = 6 * (0 + 1) from rfl, e0, z, Int.zero_add]
theorem Flw_cut {ob op f x : Nat → Int} (hob : ∀ b, b < 60 → ob b = 0 ∨ ob b = 1) (hoe : ∀ b, b < 60 → ob b = 1 → op (lo b) = 1 ∧ op (hi b) = 1) (hf : Flw ob f) (hx : Spr op x) : vr f = su (fun b => f b * (x (lo b) - x (hi b))) 60 := by
  obtain ⟨x1, x2, x3⟩ := hx
  obtain ⟨f1, f2⟩ := hf
  have e1 : su (fun b => f b * (x (lo b) - x (hi b))) 60 = su (fun b => f b * ((if lo b % 6 = 0 then 1 else x (lo b)) - (if hi b % 6 = 0 then 1 else x (hi b)))) 60 := su_c 60 fun b hb2 => by
    have l1 := (lo_lt hb2).1
    have l2 := (hi_lt hb2).1
    have fb := f1 b hb2
    rcases hob b hb2 with o | o
    · have : f b = 0 := by omega
      rw [this, Int.zero_mul, Int.zero_mul]
    · have q := hoe b hb2 o
      congr 2
      · split
        · next c => exact x2 _ l1 c q.1
        · rfl
      · split
        · next c => exact x2 _ l2 c q.2
        · rfl
  have e2 := su_net (f := f) (x := fun s => if s % 6 = 0 then 1 else x s) 60 (Nat.le_refl _)
  have e3 := su_net (f := f) (x := fun s => 1) 60 (Nat.le_refl _)
  have e4 : su (fun b => f b * ((1 : Int) - 1)) 60 = 0 := su_0 60 fun b _ => by rw [Int.sub_self, Int.mul_zero]
  have e5 : su (fun s => (if s % 6 = 0 then 1 else x s) * su (fun b => f b * (dl s (lo b) - dl s (hi b))) 60) 36 = su (fun s => 1 * su (fun b => f b * (dl s (lo b) - dl s (hi b))) 60 - (if s % 6 = 5 then net f s else 0)) 36 := su_c 36 fun s hs => by
    show (if s % 6 = 0 then 1 else x s) * net f s = 1 * net f s - _
    have h2 := f2 s hs
    have h3 := x3 s hs
    by_cases c0 : s % 6 = 0
    · rw [if_pos c0, if_neg (by omega), Int.sub_zero]
    · rw [if_neg c0]
      by_cases c5 : s % 6 = 5
      · rw [if_pos c5, h3 c5, Int.zero_mul, Int.one_mul, Int.sub_self]
      · rw [if_neg c5, h2 (by omega) (by omega), Int.mul_zero, Int.mul_zero, Int.sub_zero]
  have e6 := su_6 (g := net f)
  rw [e1]
  rw [← e2, e5, su_sub, e3, e4, e6]
  unfold vr
  omega
theorem Flw_le {ob op f x : Nat → Int} (hob : ∀ b, b < 60 → ob b = 0 ∨ ob b = 1) (hoe : ∀ b, b < 60 → ob b = 1 → op (lo b) = 1 ∧ op (hi b) = 1) (hf : Flw ob f) (hx : Spr op x) : vr f ≤ ctN ob x := by
  rw [Flw_cut hob hoe hf hx]
  refine su_le 60 fun b hb2 => ?_
  have fb := hf.1 b hb2
  have h1 := hx.1 _ (lo_lt hb2).1
  have h2 := hx.1 _ (hi_lt hb2).1
  rcases hob b hb2 with o | o
  · have : f b = 0 := by omega
    rw [this, Int.zero_mul]
    split <;> decide
  · by_cases c : x (lo b) = x (hi b)
    · rw [c, Int.sub_self, Int.mul_zero, if_neg (fun q => q.2 rfl)]
      decide
    · rw [if_pos ⟨by omega, c⟩]
      rcases h1 with h1 | h1 <;> rcases h2 with h2 | h2 <;> rw [h1, h2] <;> omega
/-- a flow that fills the cut and nothing comes back over it -/
theorem Flw_eq {ob op f x : Nat → Int} (hob : ∀ b, b < 60 → ob b = 0 ∨ ob b = 1) (hoe : ∀ b, b < 60 → ob b = 1 → op (lo b) = 1 ∧ op (hi b) = 1) (hf : Flw ob f) (hx : Spr op x) (h : ∀ b, b < 60 → ob b = 1 → (x (lo b) = 1 → x (hi b) = 0 → 0 < f b) ∧ (x (lo b) = 0 → x (hi b) = 1 → f b < 0)) : vr f = ctN ob x := by
  rw [Flw_cut hob hoe hf hx]
  refine su_c 60 fun b hb2 => ?_
  have fb := hf.1 b hb2
  have h1 := hx.1 _ (lo_lt hb2).1
  have h2 := hx.1 _ (hi_lt hb2).1
  have h3 := h b hb2
  rcases hob b hb2 with o | o
  · have : f b = 0 := by omega
    rw [this, Int.zero_mul, if_neg (fun q => q.1 o)]
  · have h3 := h3 o
    rcases h1 with h1 | h1 <;> rcases h2 with h2 | h2
    · rw [h1, h2, if_neg (fun q => q.2 rfl)]; omega
    · have := h3.2 h1 h2
      rw [h1, h2, if_pos ⟨by omega, by omega⟩]; omega
    · have := h3.1 h1 h2
      rw [h1, h2, if_pos ⟨by omega, by omega⟩]; omega
    · rw [h1, h2, if_neg (fun q => q.2 rfl)]; omega
/-- what flows between the upper rim and the place below row r, column c -/
def psi (f : Nat → Int) (c : Nat) : Nat → Int
  | 0 => f c
  | r + 1 => psi f c r + f (5 * (r + 1) + c)
theorem psi_d {ob f : Nat → Int} (hf : Flw ob f) {c : Nat} (hc : c < 4) : ∀ r, r < 5 → psi f (c + 1) r = psi f c r - f (30 + 6 * r + c + 1)
  | 0, _ => by
    have h := hf.2 (6 * 0 + (c + 1)) (by omega) (by omega) (by omega)
    rw [net_rc (by omega) (by omega), if_pos (by omega), if_pos (by omega), if_pos (by omega), if_neg (by omega), show 5 * 0 + (c + 1) - 1 = c by omega, show 5 * 0 + (c + 1) = c + 1 by omega, show 30 + 6 * 0 + (c + 1) = 30 + 6 * 0 + c + 1 by omega] at h
    show f (c + 1) = f c - _
    omega
  | r + 1, hr => by
    have ih := psi_d hf hc r (by omega)
    have h := hf.2 (6 * (r + 1) + (c + 1)) (by omega) (by omega) (by omega)
    rw [net_rc (by omega) (by omega), if_pos (by omega), if_pos (by omega), if_pos (by omega), if_pos (by omega), show 5 * (r + 1) + (c + 1) - 1 = 5 * (r + 1) + c by omega, show 30 + 6 * (r + 1) + (c + 1) = 30 + 6 * (r + 1) + c + 1 by omega, show 24 + 6 * (r + 1) + (c + 1) = 30 + 6 * r + c + 1 by omega] at h
    unfold psi
    omega
theorem psi_5 {ob f : Nat → Int} (hf : Flw ob f) {c : Nat} (hc : c < 4) : psi f (c + 1) 5 = psi f c 5 := by
  have ih := psi_d hf hc 4 (by omega)
  have h := hf.2 (6 * 5 + (c + 1)) (by omega) (by omega) (by omega)
  rw [net_rc (by omega) (by omega), if_pos (by omega), if_pos (by omega), if_neg (by omega), if_pos (by omega), show 5 * 5 + (c + 1) - 1 = 5 * 5 + c by omega, show 24 + 6 * 5 + (c + 1) = 30 + 6 * 4 + c + 1 by omega] at h
  show psi f (c + 1) 4 + f (5 * 5 + (c + 1)) = psi f c 4 + f (5 * 5 + c)
  omega
theorem vr_psi {f : Nat → Int} : vr f = psi f 4 5 := by
  have n0 : net f 5 = 0 - f 4 + f 35 - 0 := net_x (by omega)
  have n1 : net f 11 = 0 - f 9 + f 41 - f 35 := net_x (by omega)
  have n2 : net f 17 = 0 - f 14 + f 47 - f 41 := net_x (by omega)
  have n3 : net f 23 = 0 - f 19 + f 53 - f 47 := net_x (by omega)
  have n4 : net f 29 = 0 - f 24 + f 59 - f 53 := net_x (by omega)
  have n5 : net f 35 = 0 - f 29 + 0 - f 59 := net_x (by omega)
  have e : psi f 4 5 = f 4 + f 9 + f 14 + f 19 + f 24 + f 29 := rfl
  unfold vr
  omega
theorem psi_V {ob f : Nat → Int} (hf : Flw ob f) {c : Nat} (hc : c < 5) : psi f c 5 = vr f := by
  have a0 := psi_5 hf (c := 0) (by omega)
  have a1 := psi_5 hf (c := 1) (by omega)
  have a2 := psi_5 hf (c := 2) (by omega)
  have a3 := psi_5 hf (c := 3) (by omega)
  have v := vr_psi (f := f)
  have : c = 0 ∨ c = 1 ∨ c = 2 ∨ c = 3 ∨ c = 4 := by omega
  rcases this with rfl | rfl | rfl | rfl | rfl <;> simp only [Nat.reduceAdd] at * <;> omega
theorem psi_b {ob f : Nat → Int} (hob : ∀ b, b < 60 → ob b = 0 ∨ ob b = 1) (hf : Flw ob f) {c : Nat} (hc : c < 5) : ∀ r, r < 6 → psi f c r ≤ r + 1
  | 0, _ => by
    have := hf.1 c (by omega)
    have := hob c (by omega)
    show f c ≤ _
    omega
  | r + 1, hr => by
    have := psi_b hob hf hc r (by omega)
    have := hf.1 (5 * (r + 1) + c) (by omega)
    have := hob (5 * (r + 1) + c) (by omega)
    unfold psi
    omega
/-! the cheapest way between the sites, as a flow -/
/-- the labels of the places between the sites, none greater than by its neighbour and the bond between them -/
def Lip (ob far : Nat → Int) (best : Int) : Prop := (∀ k, k < 25 → 0 ≤ far k) ∧ (∀ c, c < 5 → far c ≤ ob c) ∧ (∀ r c, r < 4 → c < 5 → far (5 * (r + 1) + c) ≤ far (5 * r + c) + ob (5 * (r + 1) + c) ∧ far (5 * r + c) ≤ far (5 * (r + 1) + c) + ob (5 * (r + 1) + c)) ∧ (∀ r c, r < 5 → c < 4 → far (5 * r + (c + 1)) ≤ far (5 * r + c) + ob (30 + 6 * r + (c + 1)) ∧ far (5 * r + c) ≤ far (5 * r + (c + 1)) + ob (30 + 6 * r + (c + 1))) ∧ 0 ≤ best ∧ ∀ c, c < 5 → best ≤ far (20 + c) + ob (25 + c)
def gc (far : Nat → Int) (best : Int) (r c : Nat) : Int := if r = 0 then 0 else if r ≤ 5 then (if far (5 * (r - 1) + c) < best then far (5 * (r - 1) + c) else best) else best
def df (far : Nat → Int) (best : Int) (b : Nat) : Int := if b < 30 then gc far best (b / 5 + 1) (b % 5) - gc far best (b / 5) (b % 5) else if 0 < (b - 30) % 6 ∧ (b - 30) % 6 < 5 then gc far best ((b - 30) / 6 + 1) ((b - 30) % 6 - 1) - gc far best ((b - 30) / 6 + 1) ((b - 30) % 6) else 0
theorem df_1 {far : Nat → Int} {best : Int} {r c : Nat} (hr : r < 6) (hc : c < 5) : df far best (5 * r + c) = gc far best (r + 1) c - gc far best r c := by
  unfold df
  rw [if_pos (by omega), show (5 * r + c) / 5 = r by omega, show (5 * r + c) % 5 = c by omega]
theorem df_2 {far : Nat → Int} {best : Int} {r c : Nat} (hr : r < 5) (h0 : 0 < c) (hc : c < 5) : df far best (30 + 6 * r + c) = gc far best (r + 1) (c - 1) - gc far best (r + 1) c := by
  unfold df
  rw [if_neg (by omega), show (30 + 6 * r + c - 30) % 6 = c by omega, show (30 + 6 * r + c - 30) / 6 = r by omega, if_pos ⟨h0, hc⟩]
theorem df_3 {far : Nat → Int} {best : Int} {r c : Nat} (h : c = 0 ∨ c = 5) : df far best (30 + 6 * r + c) = 0 := by
  unfold df
  rw [if_neg (by omega), if_neg (by omega)]
theorem gc_0 {far : Nat → Int} {best : Int} {c : Nat} : gc far best 0 c = 0 := rfl
theorem gc_6 {far : Nat → Int} {best : Int} {c : Nat} : gc far best 6 c = best := rfl
theorem gc_s {far : Nat → Int} {best : Int} {r c : Nat} (hr : r < 5) : gc far best (r + 1) c = if far (5 * r + c) < best then far (5 * r + c) else best := by
  unfold gc
  rw [if_neg (by omega), if_pos (by omega)]
  rfl
theorem df_net {far : Nat → Int} {best : Int} {s : Nat} (hs : s < 36) (h1 : 1 ≤ s % 6) (h2 : s % 6 ≤ 4) : net (df far best) s = 0 := by
  obtain ⟨r, c, rfl, hr, c1, c2⟩ : ∃ r c, s = 6 * r + (c + 1) ∧ r < 6 ∧ 0 ≤ c ∧ c < 4 := ⟨s / 6, s % 6 - 1, by omega, by omega, by omega, by omega⟩
  have a1 := df_1 (far := far) (best := best) (r := r) (c := c + 1) hr (by omega)
  have a2 := df_1 (far := far) (best := best) (r := r) (c := c) hr (by omega)
  rw [net_rc hr (by omega), if_pos (by omega), if_pos (by omega), show 5 * r + (c + 1) - 1 = 5 * r + c by omega, a1, a2]
  by_cases h5 : r < 5
  · have a3 := df_2 (far := far) (best := best) (r := r) (c := c + 1) h5 (by omega) (by omega)
    rw [show c + 1 - 1 = c from rfl] at a3
    rw [if_pos h5, a3]
    by_cases h0 : 0 < r
    · obtain ⟨q, rfl⟩ : ∃ q, r = q + 1 := ⟨r - 1, by omega⟩
      have a4 := df_2 (far := far) (best := best) (r := q) (c := c + 1) (by omega) (by omega) (by omega)
      rw [show c + 1 - 1 = c from rfl] at a4
      rw [if_pos h0, show 24 + 6 * (q + 1) + (c + 1) = 30 + 6 * q + (c + 1) by omega, a4]
      omega
    · have : r = 0 := by omega
      subst this
      rw [if_neg h0, gc_0, gc_0]
      omega
  · have : r = 5 := by omega
    subst this
    have a4 := df_2 (far := far) (best := best) (r := 4) (c := c + 1) (by omega) (by omega) (by omega)
    rw [show c + 1 - 1 = c from rfl] at a4
    have a4 : df far best (30 + 6 * 4 + (c + 1)) = gc far best 5 c - gc far best 5 (c + 1) := a4
    rw [if_neg h5, if_pos (by omega), show 24 + 6 * 5 + (c + 1) = 30 + 6 * 4 + (c + 1) by omega, a4, gc_6, gc_6]
    omega
theorem df_Flw {ob far : Nat → Int} {best : Int} (hob : ∀ b, b < 60 → ob b = 0 ∨ ob b = 1) (h : Lip ob far best) : Flw ob (df far best) := by
  obtain ⟨h1, h2, h3, h4, h5, h6⟩ := h
  refine ⟨fun b hb2 => ?_, fun s hs a1 a2 => df_net hs a1 a2⟩
  have o := hob b hb2
  by_cases c : b < 30
  · obtain ⟨r, k, rfl, hr, hk⟩ : ∃ r k, b = 5 * r + k ∧ r < 6 ∧ k < 5 := ⟨b / 5, b % 5, by omega, by omega, by omega⟩
    rw [df_1 hr hk]
    by_cases r0 : r = 0
    · subst r0
      have q := h2 k hk
      have q2 := h1 k (by omega)
      rw [gc_s (by omega), gc_0, show 5 * 0 + k = k by omega]
      rw [show 5 * 0 + k = k by omega] at o
      split <;> omega
    · obtain ⟨q, rfl⟩ : ∃ q, r = q + 1 := ⟨r - 1, by omega⟩
      by_cases q4 : q < 4
      · have z := h3 q k q4 hk
        rw [gc_s (by omega), gc_s (by omega)]
        split <;> split <;> omega
      · have : q = 4 := by omega
        subst this
        have z := h6 k hk
        rw [show 4 + 1 + 1 = 6 from rfl, gc_6, gc_s (by omega), show 5 * 4 + k = 20 + k by omega]
        rw [show 5 * (4 + 1) + k = 25 + k by omega] at o ⊢
        split <;> omega
  · obtain ⟨r, k, rfl, hr, hk⟩ : ∃ r k, b = 30 + 6 * r + k ∧ r < 5 ∧ k < 6 := ⟨(b - 30) / 6, (b - 30) % 6, by omega, by omega, by omega⟩
    by_cases ck : 0 < k ∧ k < 5
    · obtain ⟨q, rfl⟩ : ∃ q, k = q + 1 := ⟨k - 1, by omega⟩
      have z := h4 r q hr (by omega)
      rw [df_2 hr ck.1 ck.2, show q + 1 - 1 = q from rfl, gc_s hr, gc_s hr]
      split <;> split <;> omega
    · rw [df_3 (by omega)]
      omega
theorem df_vr {far : Nat → Int} {best : Int} : vr (df far best) = best := by
  have a0 : df far best 4 = gc far best 1 4 - gc far best 0 4 := df_1 (r := 0) (c := 4) (by omega) (by omega)
  have a1 : df far best 9 = gc far best 2 4 - gc far best 1 4 := df_1 (r := 1) (c := 4) (by omega) (by omega)
  have a2 : df far best 14 = gc far best 3 4 - gc far best 2 4 := df_1 (r := 2) (c := 4) (by omega) (by omega)
  have a3 : df far best 19 = gc far best 4 4 - gc far best 3 4 := df_1 (r := 3) (c := 4) (by omega) (by omega)
  have a4 : df far best 24 = gc far best 5 4 - gc far best 4 4 := df_1 (r := 4) (c := 4) (by omega) (by omega)
  have a5 : df far best 29 = gc far best 6 4 - gc far best 5 4 := df_1 (r := 5) (c := 4) (by omega) (by omega)
  have e : psi (df far best) 4 5 = df far best 4 + df far best 9 + df far best 14 + df far best 19 + df far best 24 + df far best 29 := rfl
  rw [gc_0] at a0
  rw [gc_6] at a5
  rw [vr_psi]
  omega
/-- no cut is less than the cheapest way between the sites -/
theorem Lip_cut {ob op far x : Nat → Int} {best : Int} (hob : ∀ b, b < 60 → ob b = 0 ∨ ob b = 1) (hoe : ∀ b, b < 60 → ob b = 1 → op (lo b) = 1 ∧ op (hi b) = 1) (h : Lip ob far best) (hx : Spr op x) : best ≤ ctN ob x := by
  have := Flw_le hob hoe (df_Flw hob h) hx
  rwa [df_vr] at this
/-- what every label is above: differences no greater than the bonds between -/
def Pot (ob ψ : Nat → Int) : Prop := (∀ c, c < 5 → ψ c ≤ ob c) ∧ (∀ k, k < 25 → ψ k ≤ 99) ∧ (∀ r c, r < 4 → c < 5 → ψ (5 * (r + 1) + c) ≤ ψ (5 * r + c) + ob (5 * (r + 1) + c) ∧ ψ (5 * r + c) ≤ ψ (5 * (r + 1) + c) + ob (5 * (r + 1) + c)) ∧ ∀ r c, r < 5 → c < 4 → ψ (5 * r + (c + 1)) ≤ ψ (5 * r + c) + ob (30 + 6 * r + (c + 1)) ∧ ψ (5 * r + c) ≤ ψ (5 * r + (c + 1)) + ob (30 + 6 * r + (c + 1))
theorem psi_Pot {ob f : Nat → Int} (hob : ∀ b, b < 60 → ob b = 0 ∨ ob b = 1) (hf : Flw ob f) : Pot ob (fun k => psi f (k % 5) (k / 5)) := by
  refine ⟨fun c hc => ?_, fun k hk => ?_, fun r c hr hc => ?_, fun r c hr hc => ?_⟩
  · have := hf.1 c (by omega)
    show psi f (c % 5) (c / 5) ≤ _
    rw [show c % 5 = c by omega, show c / 5 = 0 by omega]
    exact this.2
  · have := psi_b hob hf (c := k % 5) (by omega) (k / 5) (by omega)
    show psi f (k % 5) (k / 5) ≤ _
    omega
  · have := hf.1 (5 * (r + 1) + c) (by omega)
    dsimp only
    rw [show (5 * (r + 1) + c) % 5 = c by omega, show (5 * (r + 1) + c) / 5 = r + 1 by omega, show (5 * r + c) % 5 = c by omega, show (5 * r + c) / 5 = r by omega]
    have e : psi f c (r + 1) = psi f c r + f (5 * (r + 1) + c) := rfl
    omega
  · have := hf.1 (30 + 6 * r + (c + 1)) (by omega)
    have d := psi_d hf hc r hr
    rw [show 30 + 6 * r + c + 1 = 30 + 6 * r + (c + 1) by omega] at d
    dsimp only
    rw [show (5 * r + (c + 1)) % 5 = c + 1 by omega, show (5 * r + (c + 1)) / 5 = r by omega, show (5 * r + c) % 5 = c by omega, show (5 * r + c) / 5 = r by omega]
    omega
/-- no flow is more than the cheapest way between the sites -/
theorem Pot_le {ob f far : Nat → Int} {c : Nat} (hf : Flw ob f) (hc : c < 5) (h : ∀ ψ, Pot ob ψ → ∀ k, k < 25 → ψ k ≤ far k) (hob : ∀ b, b < 60 → ob b = 0 ∨ ob b = 1) : vr f ≤ far (20 + c) + ob (25 + c) := by
  have q := h _ (psi_Pot hob hf) (20 + c) (by omega)
  rw [show (20 + c) % 5 = c by omega, show (20 + c) / 5 = 4 by omega] at q
  have v := psi_V hf hc
  have e : psi f c 5 = psi f c 4 + f (5 * 5 + c) := rfl
  have := hf.1 (5 * 5 + c) (by omega)
  rw [show 5 * 5 + c = 25 + c by omega] at *
  omega
