def sw_cv (ad : Nat → Nat) (v : Value) : Value := match v with
  | .ref a => .ref (ad a)
  | v => v
def sw_ce (tA : Nat → ClassId) (ad : Nat → Nat) (c : sw_Ce) : va_E := match c with
  | .inl o => .inr (o.1, o.2.map (sw_cv ad))
  | .inr a => .inl (tA a.1, a.2.1, .inl a.2.2)
def sw_wo (tA : Nat → ClassId) (ad : Nat → Nat) (H : sw_HS) : va_W := (List.range (H.2.1 - 1)).map fun i => (ad (i + 1), sw_ce tA ad (H.1 (i + 1)))
def sw_ty (tA : Nat → ClassId) : List (ClassId × FieldType) := [(tA 0, .int), (tA 1, .boolean), (tA 2, .byte)]
def sw_rf (n : Nat) (v : Value) : Prop := match v with
  | .ref a => a < n
  | _ => True
def sw_hf (n : Nat) (h : Nat → sw_Ce) : Prop := ∀ a, a < n → ∀ c, h a = .inl c → ∀ v ∈ c.2, sw_rf n v
theorem sw_rf_up {n m : Nat} (h : n ≤ m) {v : Value} (hv : sw_rf n v) : sw_rf m v := by
  cases v <;> first | trivial | exact Nat.lt_of_lt_of_le hv h
theorem sw_cv_ext {n : Nat} {ad ad2 : Nat → Nat} (he : ∀ i, i < n → ad2 i = ad i) {v : Value} (hv : sw_rf n v) : sw_cv ad2 v = sw_cv ad v := by
  cases v <;> first | rfl | (simp only [sw_cv]; rw [he _ hv])
theorem sw_cv_map {n : Nat} {ad ad2 : Nat → Nat} (he : ∀ i, i < n → ad2 i = ad i) {l : List Value} (hv : ∀ v ∈ l, sw_rf n v) : l.map (sw_cv ad2) = l.map (sw_cv ad) := List.map_congr_left fun v h => sw_cv_ext he (hv v h)
theorem sw_cv_cat (ad : Nat → Nat) (v : Value) : (sw_cv ad v).category = v.category := by cases v <;> rfl
theorem sw_ce_ext {tA : Nat → ClassId} {n : Nat} {ad ad2 : Nat → Nat} (he : ∀ i, i < n → ad2 i = ad i) {c : sw_Ce} (hv : ∀ o, c = .inl o → ∀ v ∈ o.2, sw_rf n v) : sw_ce tA ad2 c = sw_ce tA ad c := by
  cases c with
  | inl o => simp only [sw_ce]; rw [sw_cv_map he (hv o rfl)]
  | inr a => rfl
theorem sw_wo_len {tA : Nat → ClassId} {ad : Nat → Nat} {H : sw_HS} : (sw_wo tA ad H).length = H.2.1 - 1 := by simp [sw_wo]
theorem sw_wo_i {tA : Nat → ClassId} {ad : Nat → Nat} {H : sw_HS} {i : Nat} (h : i < H.2.1 - 1) : (sw_wo tA ad H)[i]? = some (ad (i + 1), sw_ce tA ad (H.1 (i + 1))) := by
  unfold sw_wo
  rw [List.getElem?_map, List.getElem?_range h]
  rfl
theorem sw_wo_at {tA : Nat → ClassId} {ad : Nat → Nat} {H : sw_HS} {a : Nat} (h1 : 0 < a) (h2 : a < H.2.1) : (sw_wo tA ad H)[a - 1]? = some (ad a, sw_ce tA ad (H.1 a)) := by
  rw [sw_wo_i (by omega), show a - 1 + 1 = a by omega]
theorem sw_wo_set {tA : Nat → ClassId} {ad : Nat → Nat} {H : sw_HS} {a : Nat} {c : sw_Ce} (h1 : 0 < a) (h2 : a < H.2.1) : (sw_wo tA ad H).set (a - 1) (ad a, sw_ce tA ad c) = sw_wo tA ad (sw_wr H a c) := by
  apply List.ext_getElem?
  intro i
  by_cases hi : i < H.2.1 - 1
  · rw [sw_wo_i (H := sw_wr H a c) hi]
    by_cases e : a - 1 = i
    · subst e
      rw [List.getElem?_set_self (by rw [sw_wo_len]; omega), show a - 1 + 1 = a by omega]
      simp [sw_wr, sw_up]
    · rw [List.getElem?_set_ne e, sw_wo_i hi]
      have e2 : ¬ i + 1 = a := by omega
      simp [sw_wr, sw_up, e2]
  · rw [List.getElem?_eq_none (by rw [List.length_set, sw_wo_len]; omega), List.getElem?_eq_none (by rw [sw_wo_len]; show H.2.1 - 1 ≤ i; omega)]
def sw_ad (ad : Nat → Nat) (n q : Nat) : Nat → Nat := fun i => if i = n then q else ad i
theorem sw_ad_ext (ad : Nat → Nat) (n q : Nat) : ∀ i, i < n → sw_ad ad n q i = ad i := fun i h => by unfold sw_ad; rw [if_neg (by omega)]
theorem sw_ad_at (ad : Nat → Nat) (n q : Nat) : sw_ad ad n q n = q := by unfold sw_ad; rw [if_pos rfl]
theorem sw_wo_push {tA : Nat → ClassId} {ad : Nat → Nat} {H : sw_HS} {c : sw_Ce} {len q : Nat} (hn : 1 ≤ H.2.1) (hf : sw_hf H.2.1 H.1) (hc : ∀ o, c = .inl o → ∀ v ∈ o.2, sw_rf H.2.1 v) : sw_wo tA ad H ++ [(q, sw_ce tA ad c)] = sw_wo tA (sw_ad ad H.2.1 q) (sw_mk H c len) := by
  have e := sw_ad_ext ad H.2.1 q
  apply List.ext_getElem?
  intro i
  by_cases hi : i < H.2.1 - 1
  · rw [List.getElem?_append_left (by rw [sw_wo_len]; exact hi), sw_wo_i hi, sw_wo_i (H := sw_mk H c len) (show i < H.2.1 + 1 - 1 by omega)]
    have e2 : ¬ i + 1 = H.2.1 := by omega
    have e3 : (sw_mk H c len).1 (i + 1) = H.1 (i + 1) := by simp [sw_mk, sw_up, e2]
    rw [e3, e _ (by omega), sw_ce_ext e (fun o ho => hf (i + 1) (by omega) o ho)]
  · by_cases h2 : i = H.2.1 - 1
    · subst h2
      rw [List.getElem?_append_right (by rw [sw_wo_len]; omega), sw_wo_len, Nat.sub_self, sw_wo_i (H := sw_mk H c len) (show H.2.1 - 1 < H.2.1 + 1 - 1 by omega), show H.2.1 - 1 + 1 = H.2.1 by omega]
      have e3 : (sw_mk H c len).1 H.2.1 = c := by simp [sw_mk, sw_up]
      rw [e3, sw_ad_at, sw_ce_ext e hc]
      rfl
    · rw [List.getElem?_eq_none (by rw [List.length_append, sw_wo_len]; simp; omega), List.getElem?_eq_none (by rw [sw_wo_len]; show H.2.1 + 1 - 1 ≤ i; omega)]
def sw_ll (ad : Nat → Nat) : Nat → sw_LS → List (Nat × Value)
  | _, [] => []
  | b, none :: r => sw_ll ad (b + 1) r
  | b, some v :: r => (b, sw_cv ad v) :: sw_ll ad (b + 1) r
theorem sw_ll_mem {ad : Nat → Nat} : ∀ (ls : sw_LS) (b i : Nat) (w : Value), (i, w) ∈ sw_ll ad b ls ↔ ∃ v, b ≤ i ∧ ls[i - b]? = some (some v) ∧ w = sw_cv ad v
  | [], b, i, w => by simp [sw_ll]
  | none :: r, b, i, w => by
    rw [sw_ll, sw_ll_mem r (b + 1) i w]
    constructor
    · rintro ⟨v, h1, h2, h3⟩
      refine ⟨v, by omega, ?_, h3⟩
      rw [show i - b = (i - (b + 1)) + 1 by omega, List.getElem?_cons_succ]
      exact h2
    · rintro ⟨v, h1, h2, h3⟩
      by_cases e : i = b
      · subst e
        rw [Nat.sub_self] at h2
        simp at h2
      · refine ⟨v, by omega, ?_, h3⟩
        rw [show i - b = (i - (b + 1)) + 1 by omega, List.getElem?_cons_succ] at h2
        exact h2
  | some u :: r, b, i, w => by
    rw [sw_ll, List.mem_cons, sw_ll_mem r (b + 1) i w]
    constructor
    · rintro (h | ⟨v, h1, h2, h3⟩)
      · cases h
        exact ⟨u, Nat.le_refl _, by rw [Nat.sub_self]; rfl, rfl⟩
      · refine ⟨v, by omega, ?_, h3⟩
        rw [show i - b = (i - (b + 1)) + 1 by omega, List.getElem?_cons_succ]
        exact h2
    · rintro ⟨v, h1, h2, h3⟩
      by_cases e : i = b
      · subst e
        rw [Nat.sub_self] at h2
        simp at h2
        subst h2
        exact Or.inl (by rw [h3])
      · refine Or.inr ⟨v, by omega, ?_, h3⟩
        rw [show i - b = (i - (b + 1)) + 1 by omega, List.getElem?_cons_succ] at h2
        exact h2
def sw_LR (ad : Nat → Nat) (nL : Nat) (lsA : Array Slot) (ls : sw_LS) : Prop := lv_has lsA nL (sw_ll ad 0 ls)
theorem sw_LR_at {ad : Nat → Nat} {nL : Nat} {lsA : Array Slot} {ls : sw_LS} (h : sw_LR ad nL lsA ls) {i : Nat} {v : Value} (hv : ls[i]? = some (some v)) : lsA[i]? = some (.val (sw_cv ad v)) :=
  h.2.2 (i, _) ((sw_ll_mem ls 0 i _).mpr ⟨v, Nat.zero_le _, hv, rfl⟩)
theorem sw_LR_of {ad : Nat → Nat} {nL : Nat} {lsA : Array Slot} {ls : sw_LS} {lv : List (Nat × Value)} (h : lv_has lsA nL lv) (hm : ∀ i v, ls[i]? = some (some v) → (i, sw_cv ad v) ∈ lv) : sw_LR ad nL lsA ls := by
  refine ⟨h.1, h.2.1, fun q hq => ?_⟩
  obtain ⟨i, w⟩ := q
  obtain ⟨v, -, h2, h3⟩ := (sw_ll_mem ls 0 i w).mp hq
  subst h3
  exact h.2.2 (i, sw_cv ad v) (hm i v h2)
theorem sw_LR_ext {n : Nat} {ad ad2 : Nat → Nat} {nL : Nat} {lsA : Array Slot} {ls : sw_LS} (he : ∀ i, i < n → ad2 i = ad i) (hr : ∀ v, some v ∈ ls → sw_rf n v) (h : sw_LR ad nL lsA ls) : sw_LR ad2 nL lsA ls :=
  sw_LR_of h fun i v hv => (sw_ll_mem ls 0 i _).mpr ⟨v, Nat.zero_le _, hv, sw_cv_ext he (hr v (List.mem_of_getElem? hv))⟩
theorem sw_LR_no {ad ad2 : Nat → Nat} {nL : Nat} {lsA : Array Slot} {ls : sw_LS} {lv : List (Nat × Value)} (h : lv_has lsA nL lv) : sw_LR ad2 nL lsA (sw_no ls) := by
  refine sw_LR_of h fun i v hv => ?_
  have := List.mem_of_getElem? hv
  simp [sw_no] at this
theorem sw_set1_at {ls : sw_LS} {i : Nat} {v : Value} {j : Nat} {u : Value} (h : (sw_set1 ls i v)[j]? = some (some u)) : (j = i ∧ u = v) ∨ (j ≠ i ∧ ls[j]? = some (some u) ∧ ¬ (j + 1 = i ∧ u.category = 2)) := by
  have key : ∀ (l : sw_LS) (k : Nat), (l.set k (some v))[j]? = some (some u) → (j = k ∧ u = v) ∨ (j ≠ k ∧ l[j]? = some (some u)) := by
    intro l k h
    by_cases e : k = j
    · subst e
      rw [List.getElem?_set] at h
      simp only [if_true] at h
      split at h
      · cases h; exact Or.inl ⟨rfl, rfl⟩
      · cases h
    · rw [List.getElem?_set_ne e] at h
      exact Or.inr ⟨fun q => e q.symm, h⟩
  cases i with
  | zero =>
    rcases key _ _ h with q | ⟨q1, q2⟩
    · exact Or.inl q
    · exact Or.inr ⟨q1, q2, by omega⟩
  | succ k =>
    simp only [sw_set1] at h
    have drop : (((ls.set k none).set (k + 1) (some v))[j]? = some (some u)) → (j = k + 1 ∧ u = v) ∨ (j ≠ k + 1 ∧ ls[j]? = some (some u) ∧ ¬ (j + 1 = k + 1 ∧ u.category = 2)) := by
      intro h
      rcases key _ _ h with q | ⟨q1, q2⟩
      · exact Or.inl q
      · by_cases e : k = j
        · subst e
          rw [List.getElem?_set] at q2
          simp only [if_true] at q2
          split at q2 <;> cases q2
        · rw [List.getElem?_set_ne e] at q2
          exact Or.inr ⟨q1, q2, by omega⟩
    split at h
    · exact drop h
    · exact drop h
    · next n1 n2 =>
      rcases key _ _ h with q | ⟨q1, q2⟩
      · exact Or.inl q
      · refine Or.inr ⟨q1, q2, ?_⟩
        rintro ⟨q3, q4⟩
        have e : j = k := by omega
        subst e
        cases u <;> simp [Value.category] at q4
        · exact n1 _ q2
        · exact n2 _ q2
theorem sw_set1_len (ls : sw_LS) (i : Nat) (v : Value) : (sw_set1 ls i v).length = ls.length := by
  unfold sw_set1
  split
  · simp
  · split <;> simp
theorem sw_LR_set1 {ad : Nat → Nat} {nL : Nat} {lsB : Array Slot} {ls : sw_LS} {i : Nat} {v : Value} (h : lv_has lsB nL ((i, sw_cv ad v) :: (sw_ll ad 0 ls).filter (fun q => !(q.1 == i) && !(q.1 + 1 == i && q.2.category == 2)))) : sw_LR ad nL lsB (sw_set1 ls i v) := by
  refine sw_LR_of h fun j u hj => ?_
  rcases sw_set1_at hj with ⟨rfl, rfl⟩ | ⟨h1, h2, h3⟩
  · exact List.mem_cons_self
  · refine List.mem_cons_of_mem _ (List.mem_filter.mpr ⟨(sw_ll_mem ls 0 j _).mpr ⟨u, Nat.zero_le _, h2, rfl⟩, ?_⟩)
    simp only [sw_cv_cat]
    simp [h1]
    rcases Classical.em (j + 1 = i) with q | q
    · exact Or.inr fun z => h3 ⟨q, z⟩
    · exact Or.inl q
theorem sw_LR_set2 {ad : Nat → Nat} {nL : Nat} {lsB : Array Slot} {ls : sw_LS} {i : Nat} {v : Value} (h : lv_has lsB nL ((i, sw_cv ad v) :: (sw_ll ad 0 ls).filter (fun q => !(q.1 == i) && (!(q.1 == i + 1) && !(q.1 + 1 == i && q.2.category == 2))))) : sw_LR ad nL lsB (sw_set2 ls i v) := by
  refine sw_LR_of h fun j u hj => ?_
  unfold sw_set2 at hj
  by_cases e : i + 1 = j
  · subst e
    rw [List.getElem?_set] at hj
    simp only [if_true] at hj
    split at hj <;> cases hj
  · rw [List.getElem?_set_ne e] at hj
    rcases sw_set1_at hj with ⟨rfl, rfl⟩ | ⟨h1, h2, h3⟩
    · exact List.mem_cons_self
    · refine List.mem_cons_of_mem _ (List.mem_filter.mpr ⟨(sw_ll_mem ls 0 j _).mpr ⟨u, Nat.zero_le _, h2, rfl⟩, ?_⟩)
      simp only [sw_cv_cat]
      have e2 : ¬ j = i + 1 := fun q => e q.symm
      simp [h1, e2]
      rcases Classical.em (j + 1 = i) with q | q
      · exact Or.inr fun z => h3 ⟨q, z⟩
      · exact Or.inl q
theorem sw_set2_len (ls : sw_LS) (i : Nat) (v : Value) : (sw_set2 ls i v).length = ls.length := by
  unfold sw_set2
  rw [List.length_set, sw_set1_len]
theorem sw_set1_rf {n : Nat} {ls : sw_LS} {i : Nat} {v : Value} (hl : ∀ w, some w ∈ ls → sw_rf n w) (hv : sw_rf n v) : ∀ w, some w ∈ sw_set1 ls i v → sw_rf n w := by
  intro w hw
  obtain ⟨j, hj⟩ := List.getElem?_of_mem hw
  rcases sw_set1_at hj with ⟨-, rfl⟩ | ⟨-, h2, -⟩
  · exact hv
  · exact hl w (List.mem_of_getElem? h2)
theorem sw_set2_rf {n : Nat} {ls : sw_LS} {i : Nat} {v : Value} (hl : ∀ w, some w ∈ ls → sw_rf n w) (hv : sw_rf n v) : ∀ w, some w ∈ sw_set2 ls i v → sw_rf n w := by
  intro w hw
  obtain ⟨j, hj⟩ := List.getElem?_of_mem hw
  unfold sw_set2 at hj
  by_cases e : i + 1 = j
  · subst e
    rw [List.getElem?_set] at hj
    simp only [if_true] at hj
    split at hj <;> cases hj
  · rw [List.getElem?_set_ne e] at hj
    exact sw_set1_rf hl hv w (List.mem_of_getElem? hj)
theorem sw_no_rf {n : Nat} {ls : sw_LS} : ∀ w, some w ∈ sw_no ls → sw_rf n w := by
  intro w hw
  simp [sw_no] at hw
theorem sw_el_lg (ad : Nat → Nat) : ∀ (a : List Value), (lg_sl (a.map (sw_cv ad))).length = (sw_el a).length
  | [] => rfl
  | v :: r => by
    have ih := sw_el_lg ad r
    unfold lg_sl at ih ⊢
    rw [List.map_cons, List.flatMap_cons, List.length_append, ih]
    cases v <;> simp [sw_cv, sw_el, Value.category] <;> omega
theorem sw_el_mem (ad : Nat → Nat) : ∀ (a : List Value) (b i : Nat) (u : Value), (sw_el a)[i]? = some (some u) → (b + i, sw_cv ad u) ∈ lv_args b (a.map (sw_cv ad))
  | [], b, i, u, h => by simp [sw_el] at h
  | v :: r, b, i, u, h => by
    rw [List.map_cons, lv_args, sw_cv_cat]
    by_cases hc : v.category = 2
    · have e : sw_el (v :: r) = some v :: none :: sw_el r := by cases v <;> simp [Value.category] at hc <;> rfl
      rw [e] at h
      rw [if_pos hc]
      match i, h with
      | 0, h => simp at h; subst h; exact List.mem_cons_self
      | 1, h => simp at h
      | i + 2, h =>
        rw [List.getElem?_cons_succ, List.getElem?_cons_succ] at h
        have := sw_el_mem ad r (b + 2) i u h
        rw [show b + 2 + i = b + (i + 2) by omega] at this
        exact List.mem_cons_of_mem _ this
    · have e : sw_el (v :: r) = some v :: sw_el r := by cases v <;> first | rfl | exact absurd rfl hc
      rw [e] at h
      rw [if_neg hc]
      match i, h with
      | 0, h => simp at h; subst h; exact List.mem_cons_self
      | i + 1, h =>
        rw [List.getElem?_cons_succ] at h
        have := sw_el_mem ad r (b + 1) i u h
        rw [show b + 1 + i = b + (i + 1) by omega] at this
        exact List.mem_cons_of_mem _ this
theorem sw_el_rf {n : Nat} : ∀ {a : List Value}, (∀ v ∈ a, sw_rf n v) → ∀ w, some w ∈ sw_el a → sw_rf n w
  | [], _, w, hw => by simp [sw_el] at hw
  | v :: r, h, w, hw => by
    have ih := sw_el_rf (a := r) (fun x hx => h x (List.mem_cons_of_mem _ hx)) w
    have h0 := h v List.mem_cons_self
    cases v <;> simp [sw_el] at hw <;> rcases hw with rfl | hw <;> first | exact h0 | exact ih hw
theorem sw_en_LR {ad : Nat → Nat} {y : Nat} {a : List Value} (h : (sw_el a).length ≤ sw_ml y) : sw_LR ad (sw_ml y) ((lg_sl (a.map (sw_cv ad)) ++ List.replicate (sw_ml y - (lg_sl (a.map (sw_cv ad))).length) Slot.unset).toArray) (sw_en y a) := by
  refine sw_LR_of (lv_entry (a.map (sw_cv ad)) (n := sw_ml y) (by rw [sw_el_lg]; exact h)) fun i v hv => ?_
  unfold sw_en at hv
  by_cases hi : i < (sw_el a).length
  · rw [List.getElem?_append_left hi] at hv
    have := sw_el_mem ad a 0 i v hv
    rwa [Nat.zero_add] at this
  · rw [List.getElem?_append_right (by omega)] at hv
    have := List.mem_of_getElem? hv
    simp at this
theorem sw_en_len {y : Nat} {a : List Value} (h : (sw_el a).length ≤ sw_ml y) : (sw_en y a).length = sw_ml y := by
  unfold sw_en
  simp
  omega
theorem sw_en_rf {n y : Nat} {a : List Value} (h : ∀ v ∈ a, sw_rf n v) : ∀ w, some w ∈ sw_en y a → sw_rf n w := by
  intro w hw
  unfold sw_en at hw
  rcases List.mem_append.mp hw with q | q
  · exact sw_el_rf h w q
  · simp at q
