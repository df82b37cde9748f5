def hp_sh (a : Nat) : Option (Nat × Nat) := match a with
  | 3 => some (0, 60)
  | 4 => some (0, 36)
  | 6 => some (0, 60)
  | 7 => some (0, 36)
  | 9 => some (1, 36)
  | 10 => some (1, 36)
  | 11 => some (1, 36)
  | 12 => some (1, 36)
  | 13 => some (1, 36)
  | 15 => some (0, 36)
  | 17 => some (1, 36)
  | 18 => some (1, 60)
  | 19 => some (0, 36)
  | 21 => some (0, 36)
  | 23 => some (0, 60)
  | 24 => some (1, 36)
  | 25 => some (0, 36)
  | 27 => some (0, 36)
  | 29 => some (0, 38)
  | 30 => some (1, 60)
  | 32 => some (0, 36)
  | 33 => some (1, 36)
  | 35 => some (0, 24)
  | 36 => some (0, 16)
  | 38 => some (0, 36)
  | 39 => some (1, 36)
  | 41 => some (1, 36)
  | 43 => some (0, 12)
  | 44 => some (1, 12)
  | 45 => some (1, 12)
  | 46 => some (0, 12)
  | 48 => some (1, 36)
  | 49 => some (1, 36)
  | 51 => some (0, 36)
  | 53 => some (2, 16)
  | 54 => some (0, 60)
  | 55 => some (0, 36)
  | 56 => some (0, 60)
  | 57 => some (0, 36)
  | 58 => some (0, 12)
  | _ => none
def hp_ob (F : Nat → Int) (a : Nat) : Nat × List Value := match a with
  | 1 => (11, [.ref 2, .ref 5, .ref 8, .ref 16, .ref 22, .ref 28, .ref 34, .ref 37, .ref 40, .ref 42, .ref 47, .ref 52])
  | 2 => (8, [.ref 3, .ref 4])
  | 5 => (8, [.ref 6, .ref 7])
  | 8 => (7, [.ref 9, .ref 10, .ref 11, .int (Int32.ofInt (F 0)), .ref 12, .ref 13, .int (Int32.ofInt (F 1)), .int (Int32.ofInt (F 2)), .ref 14])
  | 14 => (10, [.ref 15, .int (Int32.ofInt (F 3)), .int (Int32.ofInt (F 4))])
  | 16 => (9, [.ref 17, .ref 18, .ref 19, .ref 20, .int (Int32.ofInt (F 5)), .int (Int32.ofInt (F 6)), .int (Int32.ofInt (F 7))])
  | 20 => (10, [.ref 21, .int (Int32.ofInt (F 8)), .int (Int32.ofInt (F 9))])
  | 22 => (4, [.ref 23, .ref 24, .ref 25, .ref 26])
  | 26 => (10, [.ref 27, .int (Int32.ofInt (F 10)), .int (Int32.ofInt (F 11))])
  | 28 => (2, [.ref 29, .ref 30, .ref 31])
  | 31 => (3, [.ref 32, .ref 33])
  | 34 => (0, [.ref 35, .ref 36, .int 0, .int 0, .int 0, .int 0])
  | 37 => (3, [.ref 38, .ref 39])
  | 40 => (6, [.ref 41, .int (Int32.ofInt (F 12)), .int (Int32.ofInt (F 13))])
  | 42 => (1, [.ref 43, .ref 44, .ref 45, .ref 46, .int (Int32.ofInt (F 14))])
  | 47 => (5, [.ref 48, .ref 49, .ref 50])
  | 50 => (10, [.ref 51, .int (Int32.ofInt (F 15)), .int (Int32.ofInt (F 16))])
  | 52 => (12, [.ref 53, .int 0, .int 0, .int 0])
  | _ => (100, [])
def I32 (g : Nat → Int) : Nat → Int32 := fun i => Int32.ofInt (g i)
theorem I32_at (g : Nat → Int) (i : Nat) : I32 g i = Int32.ofInt (g i) := rfl
def hp (L : Nat) (A : Nat → Nat → Int) (F : Nat → Int) (a : Nat) : sw_Ce := if a = 0 then .inr (0, L, I32 (A 0)) else match hp_sh a with
  | some s => .inr (s.1, s.2, I32 (A a))
  | none => .inl (hp_ob F a)
def sw_h (L : Nat) (A : Nat → Nat → Int) (F : Nat → Int) (T : Nat → sw_Ce) (X : Nat × Nat × Nat) : sw_HS := (fun a => if a < 59 then hp L A F a else T a, X)
def sw_s {α : Type} (A : Nat → α) (k : Nat) (g : α) : Nat → α := fun j => if j = k then g else A j
theorem I32_s (g : Nat → Int) (k : Nat) (v : Int) : upd (I32 g) k (Int32.ofInt v) = I32 (sw_s g k v) := by
  funext j
  unfold upd I32 sw_s
  split <;> rfl
theorem sA_at (A : Nat → Nat → Int) (k : Nat) (g : Nat → Int) (j : Nat) : sw_s A k g j = if j = k then g else A j := rfl
theorem sA_id (A : Nat → Nat → Int) (k : Nat) : sw_s A k (A k) = A := by
  funext j
  unfold sw_s
  split
  · next e => rw [e]
  · rfl
theorem ss {α : Type} (A : Nat → α) (k : Nat) (g g2 : α) : sw_s (sw_s A k g) k g2 = sw_s A k g2 := by
  funext j
  unfold sw_s
  split <;> rfl
theorem sA_cm {α : Type} (A : Nat → α) {j k : Nat} (f g : α) (h : k < j) : sw_s (sw_s A j f) k g = sw_s (sw_s A k g) j f := by
  funext i
  unfold sw_s
  by_cases h1 : i = k
  · subst h1; rw [if_pos rfl, if_neg (by omega), if_pos rfl]
  · rw [if_neg h1, if_neg h1]
def mix (n : Nat) (f g : Nat → Int) : Nat → Int := fun j => if j < n then f j else g j
theorem mix_0 (f g : Nat → Int) : mix 0 f g = g := by funext j; unfold mix; rw [if_neg (by omega)]
theorem mix_at {n j : Nat} {f g : Nat → Int} (h : j < n) : mix n f g j = f j := if_pos h
theorem mix_up {f g : Nat → Int} {i : Nat} {v : Int} (h : f i = v) : sw_s (mix i f g) i v = mix (i + 1) f g := by
  funext j
  unfold sw_s mix
  by_cases e : j = i
  · subst e; rw [if_pos rfl, if_pos (by omega), h]
  · rw [if_neg e]
    by_cases h2 : j < i
    · rw [if_pos h2, if_pos (by omega)]
    · rw [if_neg h2, if_neg (by omega)]
section sw_h8
variable {L : Nat} {A : Nat → Nat → Int} {F : Nat → Int} {T : Nat → sw_Ce} {X : Nat × Nat × Nat}
theorem hp_wr (a0 t n : Nat) (g : Nat → Int) (h : hp_sh a0 = some (t, n)) (h0 : ¬ a0 = 0) (h1 : a0 < 59) : sw_wr (sw_h L A F T X) a0 (.inr (t, n, I32 g)) = sw_h L (sw_s A a0 g) F T X := by
  refine Prod.ext (funext fun a => ?_) rfl
  show sw_up _ a0 _ a = _
  unfold sw_up
  by_cases e : a = a0
  · subst e
    rw [if_pos rfl]
    show _ = (if a < 59 then _ else _)
    rw [if_pos h1]
    unfold hp
    rw [if_neg h0, h]
    unfold sw_s
    dsimp only
    rw [if_pos rfl]
  · rw [if_neg e]
    show (if a < 59 then _ else _) = (if a < 59 then _ else _)
    by_cases h2 : a < 59
    · rw [if_pos h2, if_pos h2]
      unfold hp sw_s
      by_cases h3 : a = 0
      · rw [if_pos h3, if_pos h3, if_neg (by omega)]
      · rw [if_neg h3, if_neg h3]
        cases hp_sh a with
        | none => rfl
        | some z => dsimp only; rw [if_neg e]
    · rw [if_neg h2, if_neg h2]
theorem hp_wf (a0 k : Nat) (x : Int) (o : Nat × List Value) (h : hp_sh a0 = none) (h0 : ¬ a0 = 0) (h1 : a0 < 59) (ho : hp_ob (sw_s F k x) a0 = o) (hr : ∀ a, a < 59 → ¬ a = a0 → hp_ob (sw_s F k x) a = hp_ob F a) : sw_wr (sw_h L A F T X) a0 (.inl o) = sw_h L A (sw_s F k x) T X := by
  refine Prod.ext (funext fun a => ?_) rfl
  show sw_up _ a0 _ a = _
  unfold sw_up
  by_cases e : a = a0
  · subst e
    rw [if_pos rfl]
    show _ = (if a < 59 then _ else _)
    rw [if_pos h1]
    unfold hp
    rw [if_neg h0, h]
    dsimp only
    rw [ho]
  · rw [if_neg e]
    show (if a < 59 then _ else _) = (if a < 59 then _ else _)
    by_cases h2 : a < 59
    · rw [if_pos h2, if_pos h2]
      unfold hp
      rw [hr a h2 e]
    · rw [if_neg h2, if_neg h2]
theorem h_0 : (sw_h L A F T X).1 0 = .inr (0, L, I32 (A 0)) := rfl
theorem h_3 : (sw_h L A F T X).1 3 = .inr (0, 60, I32 (A 3)) := rfl
theorem w_3 (g : Nat → Int) : sw_wr (sw_h L A F T X) 3 (.inr (0, 60, I32 g)) = sw_h L (sw_s A 3 g) F T X := hp_wr 3 0 60 g rfl (by decide) (by decide)
theorem h_4 : (sw_h L A F T X).1 4 = .inr (0, 36, I32 (A 4)) := rfl
theorem w_4 (g : Nat → Int) : sw_wr (sw_h L A F T X) 4 (.inr (0, 36, I32 g)) = sw_h L (sw_s A 4 g) F T X := hp_wr 4 0 36 g rfl (by decide) (by decide)
theorem h_6 : (sw_h L A F T X).1 6 = .inr (0, 60, I32 (A 6)) := rfl
theorem w_6 (g : Nat → Int) : sw_wr (sw_h L A F T X) 6 (.inr (0, 60, I32 g)) = sw_h L (sw_s A 6 g) F T X := hp_wr 6 0 60 g rfl (by decide) (by decide)
theorem h_7 : (sw_h L A F T X).1 7 = .inr (0, 36, I32 (A 7)) := rfl
theorem w_7 (g : Nat → Int) : sw_wr (sw_h L A F T X) 7 (.inr (0, 36, I32 g)) = sw_h L (sw_s A 7 g) F T X := hp_wr 7 0 36 g rfl (by decide) (by decide)
theorem h_9 : (sw_h L A F T X).1 9 = .inr (1, 36, I32 (A 9)) := rfl
theorem w_9 (g : Nat → Int) : sw_wr (sw_h L A F T X) 9 (.inr (1, 36, I32 g)) = sw_h L (sw_s A 9 g) F T X := hp_wr 9 1 36 g rfl (by decide) (by decide)
theorem h_10 : (sw_h L A F T X).1 10 = .inr (1, 36, I32 (A 10)) := rfl
theorem w_10 (g : Nat → Int) : sw_wr (sw_h L A F T X) 10 (.inr (1, 36, I32 g)) = sw_h L (sw_s A 10 g) F T X := hp_wr 10 1 36 g rfl (by decide) (by decide)
theorem h_11 : (sw_h L A F T X).1 11 = .inr (1, 36, I32 (A 11)) := rfl
theorem w_11 (g : Nat → Int) : sw_wr (sw_h L A F T X) 11 (.inr (1, 36, I32 g)) = sw_h L (sw_s A 11 g) F T X := hp_wr 11 1 36 g rfl (by decide) (by decide)
theorem h_12 : (sw_h L A F T X).1 12 = .inr (1, 36, I32 (A 12)) := rfl
theorem w_12 (g : Nat → Int) : sw_wr (sw_h L A F T X) 12 (.inr (1, 36, I32 g)) = sw_h L (sw_s A 12 g) F T X := hp_wr 12 1 36 g rfl (by decide) (by decide)
theorem h_13 : (sw_h L A F T X).1 13 = .inr (1, 36, I32 (A 13)) := rfl
theorem w_13 (g : Nat → Int) : sw_wr (sw_h L A F T X) 13 (.inr (1, 36, I32 g)) = sw_h L (sw_s A 13 g) F T X := hp_wr 13 1 36 g rfl (by decide) (by decide)
theorem h_15 : (sw_h L A F T X).1 15 = .inr (0, 36, I32 (A 15)) := rfl
theorem w_15 (g : Nat → Int) : sw_wr (sw_h L A F T X) 15 (.inr (0, 36, I32 g)) = sw_h L (sw_s A 15 g) F T X := hp_wr 15 0 36 g rfl (by decide) (by decide)
theorem h_17 : (sw_h L A F T X).1 17 = .inr (1, 36, I32 (A 17)) := rfl
theorem w_17 (g : Nat → Int) : sw_wr (sw_h L A F T X) 17 (.inr (1, 36, I32 g)) = sw_h L (sw_s A 17 g) F T X := hp_wr 17 1 36 g rfl (by decide) (by decide)
theorem h_18 : (sw_h L A F T X).1 18 = .inr (1, 60, I32 (A 18)) := rfl
theorem w_18 (g : Nat → Int) : sw_wr (sw_h L A F T X) 18 (.inr (1, 60, I32 g)) = sw_h L (sw_s A 18 g) F T X := hp_wr 18 1 60 g rfl (by decide) (by decide)
theorem h_19 : (sw_h L A F T X).1 19 = .inr (0, 36, I32 (A 19)) := rfl
theorem w_19 (g : Nat → Int) : sw_wr (sw_h L A F T X) 19 (.inr (0, 36, I32 g)) = sw_h L (sw_s A 19 g) F T X := hp_wr 19 0 36 g rfl (by decide) (by decide)
theorem h_21 : (sw_h L A F T X).1 21 = .inr (0, 36, I32 (A 21)) := rfl
theorem w_21 (g : Nat → Int) : sw_wr (sw_h L A F T X) 21 (.inr (0, 36, I32 g)) = sw_h L (sw_s A 21 g) F T X := hp_wr 21 0 36 g rfl (by decide) (by decide)
theorem h_23 : (sw_h L A F T X).1 23 = .inr (0, 60, I32 (A 23)) := rfl
theorem w_23 (g : Nat → Int) : sw_wr (sw_h L A F T X) 23 (.inr (0, 60, I32 g)) = sw_h L (sw_s A 23 g) F T X := hp_wr 23 0 60 g rfl (by decide) (by decide)
theorem h_24 : (sw_h L A F T X).1 24 = .inr (1, 36, I32 (A 24)) := rfl
theorem w_24 (g : Nat → Int) : sw_wr (sw_h L A F T X) 24 (.inr (1, 36, I32 g)) = sw_h L (sw_s A 24 g) F T X := hp_wr 24 1 36 g rfl (by decide) (by decide)
theorem h_25 : (sw_h L A F T X).1 25 = .inr (0, 36, I32 (A 25)) := rfl
theorem w_25 (g : Nat → Int) : sw_wr (sw_h L A F T X) 25 (.inr (0, 36, I32 g)) = sw_h L (sw_s A 25 g) F T X := hp_wr 25 0 36 g rfl (by decide) (by decide)
theorem h_27 : (sw_h L A F T X).1 27 = .inr (0, 36, I32 (A 27)) := rfl
theorem w_27 (g : Nat → Int) : sw_wr (sw_h L A F T X) 27 (.inr (0, 36, I32 g)) = sw_h L (sw_s A 27 g) F T X := hp_wr 27 0 36 g rfl (by decide) (by decide)
theorem h_29 : (sw_h L A F T X).1 29 = .inr (0, 38, I32 (A 29)) := rfl
theorem w_29 (g : Nat → Int) : sw_wr (sw_h L A F T X) 29 (.inr (0, 38, I32 g)) = sw_h L (sw_s A 29 g) F T X := hp_wr 29 0 38 g rfl (by decide) (by decide)
theorem h_30 : (sw_h L A F T X).1 30 = .inr (1, 60, I32 (A 30)) := rfl
theorem w_30 (g : Nat → Int) : sw_wr (sw_h L A F T X) 30 (.inr (1, 60, I32 g)) = sw_h L (sw_s A 30 g) F T X := hp_wr 30 1 60 g rfl (by decide) (by decide)
theorem h_32 : (sw_h L A F T X).1 32 = .inr (0, 36, I32 (A 32)) := rfl
theorem w_32 (g : Nat → Int) : sw_wr (sw_h L A F T X) 32 (.inr (0, 36, I32 g)) = sw_h L (sw_s A 32 g) F T X := hp_wr 32 0 36 g rfl (by decide) (by decide)
theorem h_33 : (sw_h L A F T X).1 33 = .inr (1, 36, I32 (A 33)) := rfl
theorem w_33 (g : Nat → Int) : sw_wr (sw_h L A F T X) 33 (.inr (1, 36, I32 g)) = sw_h L (sw_s A 33 g) F T X := hp_wr 33 1 36 g rfl (by decide) (by decide)
theorem h_35 : (sw_h L A F T X).1 35 = .inr (0, 24, I32 (A 35)) := rfl
theorem w_35 (g : Nat → Int) : sw_wr (sw_h L A F T X) 35 (.inr (0, 24, I32 g)) = sw_h L (sw_s A 35 g) F T X := hp_wr 35 0 24 g rfl (by decide) (by decide)
theorem h_36 : (sw_h L A F T X).1 36 = .inr (0, 16, I32 (A 36)) := rfl
theorem w_36 (g : Nat → Int) : sw_wr (sw_h L A F T X) 36 (.inr (0, 16, I32 g)) = sw_h L (sw_s A 36 g) F T X := hp_wr 36 0 16 g rfl (by decide) (by decide)
theorem h_38 : (sw_h L A F T X).1 38 = .inr (0, 36, I32 (A 38)) := rfl
theorem w_38 (g : Nat → Int) : sw_wr (sw_h L A F T X) 38 (.inr (0, 36, I32 g)) = sw_h L (sw_s A 38 g) F T X := hp_wr 38 0 36 g rfl (by decide) (by decide)
theorem h_39 : (sw_h L A F T X).1 39 = .inr (1, 36, I32 (A 39)) := rfl
theorem w_39 (g : Nat → Int) : sw_wr (sw_h L A F T X) 39 (.inr (1, 36, I32 g)) = sw_h L (sw_s A 39 g) F T X := hp_wr 39 1 36 g rfl (by decide) (by decide)
theorem h_41 : (sw_h L A F T X).1 41 = .inr (1, 36, I32 (A 41)) := rfl
theorem w_41 (g : Nat → Int) : sw_wr (sw_h L A F T X) 41 (.inr (1, 36, I32 g)) = sw_h L (sw_s A 41 g) F T X := hp_wr 41 1 36 g rfl (by decide) (by decide)
theorem h_43 : (sw_h L A F T X).1 43 = .inr (0, 12, I32 (A 43)) := rfl
theorem w_43 (g : Nat → Int) : sw_wr (sw_h L A F T X) 43 (.inr (0, 12, I32 g)) = sw_h L (sw_s A 43 g) F T X := hp_wr 43 0 12 g rfl (by decide) (by decide)
theorem h_44 : (sw_h L A F T X).1 44 = .inr (1, 12, I32 (A 44)) := rfl
theorem w_44 (g : Nat → Int) : sw_wr (sw_h L A F T X) 44 (.inr (1, 12, I32 g)) = sw_h L (sw_s A 44 g) F T X := hp_wr 44 1 12 g rfl (by decide) (by decide)
theorem h_45 : (sw_h L A F T X).1 45 = .inr (1, 12, I32 (A 45)) := rfl
theorem w_45 (g : Nat → Int) : sw_wr (sw_h L A F T X) 45 (.inr (1, 12, I32 g)) = sw_h L (sw_s A 45 g) F T X := hp_wr 45 1 12 g rfl (by decide) (by decide)
theorem h_46 : (sw_h L A F T X).1 46 = .inr (0, 12, I32 (A 46)) := rfl
theorem w_46 (g : Nat → Int) : sw_wr (sw_h L A F T X) 46 (.inr (0, 12, I32 g)) = sw_h L (sw_s A 46 g) F T X := hp_wr 46 0 12 g rfl (by decide) (by decide)
theorem h_48 : (sw_h L A F T X).1 48 = .inr (1, 36, I32 (A 48)) := rfl
theorem w_48 (g : Nat → Int) : sw_wr (sw_h L A F T X) 48 (.inr (1, 36, I32 g)) = sw_h L (sw_s A 48 g) F T X := hp_wr 48 1 36 g rfl (by decide) (by decide)
theorem h_49 : (sw_h L A F T X).1 49 = .inr (1, 36, I32 (A 49)) := rfl
theorem w_49 (g : Nat → Int) : sw_wr (sw_h L A F T X) 49 (.inr (1, 36, I32 g)) = sw_h L (sw_s A 49 g) F T X := hp_wr 49 1 36 g rfl (by decide) (by decide)
theorem h_51 : (sw_h L A F T X).1 51 = .inr (0, 36, I32 (A 51)) := rfl
theorem w_51 (g : Nat → Int) : sw_wr (sw_h L A F T X) 51 (.inr (0, 36, I32 g)) = sw_h L (sw_s A 51 g) F T X := hp_wr 51 0 36 g rfl (by decide) (by decide)
theorem h_53 : (sw_h L A F T X).1 53 = .inr (2, 16, I32 (A 53)) := rfl
theorem w_53 (g : Nat → Int) : sw_wr (sw_h L A F T X) 53 (.inr (2, 16, I32 g)) = sw_h L (sw_s A 53 g) F T X := hp_wr 53 2 16 g rfl (by decide) (by decide)
theorem h_54 : (sw_h L A F T X).1 54 = .inr (0, 60, I32 (A 54)) := rfl
theorem w_54 (g : Nat → Int) : sw_wr (sw_h L A F T X) 54 (.inr (0, 60, I32 g)) = sw_h L (sw_s A 54 g) F T X := hp_wr 54 0 60 g rfl (by decide) (by decide)
theorem h_55 : (sw_h L A F T X).1 55 = .inr (0, 36, I32 (A 55)) := rfl
theorem w_55 (g : Nat → Int) : sw_wr (sw_h L A F T X) 55 (.inr (0, 36, I32 g)) = sw_h L (sw_s A 55 g) F T X := hp_wr 55 0 36 g rfl (by decide) (by decide)
theorem h_56 : (sw_h L A F T X).1 56 = .inr (0, 60, I32 (A 56)) := rfl
theorem w_56 (g : Nat → Int) : sw_wr (sw_h L A F T X) 56 (.inr (0, 60, I32 g)) = sw_h L (sw_s A 56 g) F T X := hp_wr 56 0 60 g rfl (by decide) (by decide)
theorem h_57 : (sw_h L A F T X).1 57 = .inr (0, 36, I32 (A 57)) := rfl
theorem w_57 (g : Nat → Int) : sw_wr (sw_h L A F T X) 57 (.inr (0, 36, I32 g)) = sw_h L (sw_s A 57 g) F T X := hp_wr 57 0 36 g rfl (by decide) (by decide)
theorem h_58 : (sw_h L A F T X).1 58 = .inr (0, 12, I32 (A 58)) := rfl
theorem w_58 (g : Nat → Int) : sw_wr (sw_h L A F T X) 58 (.inr (0, 12, I32 g)) = sw_h L (sw_s A 58 g) F T X := hp_wr 58 0 12 g rfl (by decide) (by decide)
theorem h_1 : (sw_h L A F T X).1 1 = .inl (11, [.ref 2, .ref 5, .ref 8, .ref 16, .ref 22, .ref 28, .ref 34, .ref 37, .ref 40, .ref 42, .ref 47, .ref 52]) := rfl
theorem h_2 : (sw_h L A F T X).1 2 = .inl (8, [.ref 3, .ref 4]) := rfl
theorem h_5 : (sw_h L A F T X).1 5 = .inl (8, [.ref 6, .ref 7]) := rfl
theorem h_8 : (sw_h L A F T X).1 8 = .inl (7, [.ref 9, .ref 10, .ref 11, .int (Int32.ofInt (F 0)), .ref 12, .ref 13, .int (Int32.ofInt (F 1)), .int (Int32.ofInt (F 2)), .ref 14]) := rfl
theorem h_14 : (sw_h L A F T X).1 14 = .inl (10, [.ref 15, .int (Int32.ofInt (F 3)), .int (Int32.ofInt (F 4))]) := rfl
theorem h_16 : (sw_h L A F T X).1 16 = .inl (9, [.ref 17, .ref 18, .ref 19, .ref 20, .int (Int32.ofInt (F 5)), .int (Int32.ofInt (F 6)), .int (Int32.ofInt (F 7))]) := rfl
theorem h_20 : (sw_h L A F T X).1 20 = .inl (10, [.ref 21, .int (Int32.ofInt (F 8)), .int (Int32.ofInt (F 9))]) := rfl
theorem h_22 : (sw_h L A F T X).1 22 = .inl (4, [.ref 23, .ref 24, .ref 25, .ref 26]) := rfl
theorem h_26 : (sw_h L A F T X).1 26 = .inl (10, [.ref 27, .int (Int32.ofInt (F 10)), .int (Int32.ofInt (F 11))]) := rfl
theorem h_28 : (sw_h L A F T X).1 28 = .inl (2, [.ref 29, .ref 30, .ref 31]) := rfl
theorem h_31 : (sw_h L A F T X).1 31 = .inl (3, [.ref 32, .ref 33]) := rfl
theorem h_34 : (sw_h L A F T X).1 34 = .inl (0, [.ref 35, .ref 36, .int 0, .int 0, .int 0, .int 0]) := rfl
theorem h_37 : (sw_h L A F T X).1 37 = .inl (3, [.ref 38, .ref 39]) := rfl
theorem h_40 : (sw_h L A F T X).1 40 = .inl (6, [.ref 41, .int (Int32.ofInt (F 12)), .int (Int32.ofInt (F 13))]) := rfl
theorem h_42 : (sw_h L A F T X).1 42 = .inl (1, [.ref 43, .ref 44, .ref 45, .ref 46, .int (Int32.ofInt (F 14))]) := rfl
theorem h_47 : (sw_h L A F T X).1 47 = .inl (5, [.ref 48, .ref 49, .ref 50]) := rfl
theorem h_50 : (sw_h L A F T X).1 50 = .inl (10, [.ref 51, .int (Int32.ofInt (F 15)), .int (Int32.ofInt (F 16))]) := rfl
theorem h_52 : (sw_h L A F T X).1 52 = .inl (12, [.ref 53, .int 0, .int 0, .int 0]) := rfl
theorem wf_0 (x : Int) : sw_wr (sw_h L A F T X) 8 (.inl (7, [.ref 9, .ref 10, .ref 11, .int (Int32.ofInt x), .ref 12, .ref 13, .int (Int32.ofInt (F 1)), .int (Int32.ofInt (F 2)), .ref 14])) = sw_h L A (sw_s F 0 x) T X := hp_wf 8 0 x _ rfl (by decide) (by decide) rfl (fun a h1 h2 => by unfold hp_ob; split <;> first | rfl | exact absurd rfl h2)
theorem wf_1 (x : Int) : sw_wr (sw_h L A F T X) 8 (.inl (7, [.ref 9, .ref 10, .ref 11, .int (Int32.ofInt (F 0)), .ref 12, .ref 13, .int (Int32.ofInt x), .int (Int32.ofInt (F 2)), .ref 14])) = sw_h L A (sw_s F 1 x) T X := hp_wf 8 1 x _ rfl (by decide) (by decide) rfl (fun a h1 h2 => by unfold hp_ob; split <;> first | rfl | exact absurd rfl h2)
theorem wf_2 (x : Int) : sw_wr (sw_h L A F T X) 8 (.inl (7, [.ref 9, .ref 10, .ref 11, .int (Int32.ofInt (F 0)), .ref 12, .ref 13, .int (Int32.ofInt (F 1)), .int (Int32.ofInt x), .ref 14])) = sw_h L A (sw_s F 2 x) T X := hp_wf 8 2 x _ rfl (by decide) (by decide) rfl (fun a h1 h2 => by unfold hp_ob; split <;> first | rfl | exact absurd rfl h2)
theorem wf_3 (x : Int) : sw_wr (sw_h L A F T X) 14 (.inl (10, [.ref 15, .int (Int32.ofInt x), .int (Int32.ofInt (F 4))])) = sw_h L A (sw_s F 3 x) T X := hp_wf 14 3 x _ rfl (by decide) (by decide) rfl (fun a h1 h2 => by unfold hp_ob; split <;> first | rfl | exact absurd rfl h2)
theorem wf_4 (x : Int) : sw_wr (sw_h L A F T X) 14 (.inl (10, [.ref 15, .int (Int32.ofInt (F 3)), .int (Int32.ofInt x)])) = sw_h L A (sw_s F 4 x) T X := hp_wf 14 4 x _ rfl (by decide) (by decide) rfl (fun a h1 h2 => by unfold hp_ob; split <;> first | rfl | exact absurd rfl h2)
theorem wf_5 (x : Int) : sw_wr (sw_h L A F T X) 16 (.inl (9, [.ref 17, .ref 18, .ref 19, .ref 20, .int (Int32.ofInt x), .int (Int32.ofInt (F 6)), .int (Int32.ofInt (F 7))])) = sw_h L A (sw_s F 5 x) T X := hp_wf 16 5 x _ rfl (by decide) (by decide) rfl (fun a h1 h2 => by unfold hp_ob; split <;> first | rfl | exact absurd rfl h2)
theorem wf_6 (x : Int) : sw_wr (sw_h L A F T X) 16 (.inl (9, [.ref 17, .ref 18, .ref 19, .ref 20, .int (Int32.ofInt (F 5)), .int (Int32.ofInt x), .int (Int32.ofInt (F 7))])) = sw_h L A (sw_s F 6 x) T X := hp_wf 16 6 x _ rfl (by decide) (by decide) rfl (fun a h1 h2 => by unfold hp_ob; split <;> first | rfl | exact absurd rfl h2)
theorem wf_7 (x : Int) : sw_wr (sw_h L A F T X) 16 (.inl (9, [.ref 17, .ref 18, .ref 19, .ref 20, .int (Int32.ofInt (F 5)), .int (Int32.ofInt (F 6)), .int (Int32.ofInt x)])) = sw_h L A (sw_s F 7 x) T X := hp_wf 16 7 x _ rfl (by decide) (by decide) rfl (fun a h1 h2 => by unfold hp_ob; split <;> first | rfl | exact absurd rfl h2)
theorem wf_8 (x : Int) : sw_wr (sw_h L A F T X) 20 (.inl (10, [.ref 21, .int (Int32.ofInt x), .int (Int32.ofInt (F 9))])) = sw_h L A (sw_s F 8 x) T X := hp_wf 20 8 x _ rfl (by decide) (by decide) rfl (fun a h1 h2 => by unfold hp_ob; split <;> first | rfl | exact absurd rfl h2)
theorem wf_9 (x : Int) : sw_wr (sw_h L A F T X) 20 (.inl (10, [.ref 21, .int (Int32.ofInt (F 8)), .int (Int32.ofInt x)])) = sw_h L A (sw_s F 9 x) T X := hp_wf 20 9 x _ rfl (by decide) (by decide) rfl (fun a h1 h2 => by unfold hp_ob; split <;> first | rfl | exact absurd rfl h2)
theorem wf_10 (x : Int) : sw_wr (sw_h L A F T X) 26 (.inl (10, [.ref 27, .int (Int32.ofInt x), .int (Int32.ofInt (F 11))])) = sw_h L A (sw_s F 10 x) T X := hp_wf 26 10 x _ rfl (by decide) (by decide) rfl (fun a h1 h2 => by unfold hp_ob; split <;> first | rfl | exact absurd rfl h2)
theorem wf_11 (x : Int) : sw_wr (sw_h L A F T X) 26 (.inl (10, [.ref 27, .int (Int32.ofInt (F 10)), .int (Int32.ofInt x)])) = sw_h L A (sw_s F 11 x) T X := hp_wf 26 11 x _ rfl (by decide) (by decide) rfl (fun a h1 h2 => by unfold hp_ob; split <;> first | rfl | exact absurd rfl h2)
theorem wf_12 (x : Int) : sw_wr (sw_h L A F T X) 40 (.inl (6, [.ref 41, .int (Int32.ofInt x), .int (Int32.ofInt (F 13))])) = sw_h L A (sw_s F 12 x) T X := hp_wf 40 12 x _ rfl (by decide) (by decide) rfl (fun a h1 h2 => by unfold hp_ob; split <;> first | rfl | exact absurd rfl h2)
theorem wf_13 (x : Int) : sw_wr (sw_h L A F T X) 40 (.inl (6, [.ref 41, .int (Int32.ofInt (F 12)), .int (Int32.ofInt x)])) = sw_h L A (sw_s F 13 x) T X := hp_wf 40 13 x _ rfl (by decide) (by decide) rfl (fun a h1 h2 => by unfold hp_ob; split <;> first | rfl | exact absurd rfl h2)
theorem wf_14 (x : Int) : sw_wr (sw_h L A F T X) 42 (.inl (1, [.ref 43, .ref 44, .ref 45, .ref 46, .int (Int32.ofInt x)])) = sw_h L A (sw_s F 14 x) T X := hp_wf 42 14 x _ rfl (by decide) (by decide) rfl (fun a h1 h2 => by unfold hp_ob; split <;> first | rfl | exact absurd rfl h2)
theorem wf_15 (x : Int) : sw_wr (sw_h L A F T X) 50 (.inl (10, [.ref 51, .int (Int32.ofInt x), .int (Int32.ofInt (F 16))])) = sw_h L A (sw_s F 15 x) T X := hp_wf 50 15 x _ rfl (by decide) (by decide) rfl (fun a h1 h2 => by unfold hp_ob; split <;> first | rfl | exact absurd rfl h2)
theorem wf_16 (x : Int) : sw_wr (sw_h L A F T X) 50 (.inl (10, [.ref 51, .int (Int32.ofInt (F 15)), .int (Int32.ofInt x)])) = sw_h L A (sw_s F 16 x) T X := hp_wf 50 16 x _ rfl (by decide) (by decide) rfl (fun a h1 h2 => by unfold hp_ob; split <;> first | rfl | exact absurd rfl h2)
end sw_h8
