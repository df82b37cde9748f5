def sw_Ev (b L : Nat) (xs : Nat → Int32) (A : Nat → Prop) (U : State) (Hh : Heap) : Prop := va_X b L xs U Hh ∧ b < Hh.size ∧ ¬ A b ∧ (∀ w ∈ sw_N, va_Nw w U) ∧ va_Z "java/lang/String" "COMPACT_STRINGS" "Z" (.int 1) A U Hh ∧ vx_Zq Bundle.tN "UNASSIGNED_STACK" Bundle.steD A U Hh ∧ vx_Zq Bundle.tN "SUPPRESSED_SENTINEL" Bundle.listD A U Hh ∧ ∃ sa, vk_R RX11 359 "the SITE is SHUT" sa U
theorem sw_Nw_warm {s U : State} (hW : s.WarmedH U.vm) : ∀ w ∈ sw_N, va_Nw w s → va_Nw w U := by
  intro w hw h
  have hk := (List.mem_filter.mp hw).2
  cases w <;> simp [sw_nk] at hk <;> first
    | exact va_Nw.warmF hW h
    | exact va_Nw.warmM hW h
    | exact va_Nw.warmC hW h
    | exact va_Nw.warmD hW h
theorem sw_Nw_on : ∀ w ∈ sw_N, w.onTables = true := by
  intro w hw
  have hk := (List.mem_filter.mp hw).2
  cases w <;> simp [sw_nk] at hk <;> rfl
theorem sw_Ev_next {b L : Nat} {xs : Nat → Int32} {A A2 : Nat → Prop} {s U : State} {H0 Hm : Heap} {locs : List Loc} (h : sw_Ev b L xs A s H0) (hS : va_S A H0 Hm locs) (hA : ∀ q, A2 q → A q) (hW : s.WarmedH U.vm) : sw_Ev b L xs A2 U Hm := by
  obtain ⟨h1, h2, h3, h4, h5, h6, h7, sa, h8⟩ := h
  exact ⟨va_X.moved hW.alike (h1.kept (hS.2.1 b h2 h3)), Nat.lt_of_lt_of_le h2 hS.1, fun q => h3 (hA b q), fun w hw => sw_Nw_warm hW w hw (h4 w hw), va_Z.moved hW.alike ((h5.kept hS.2.1).narrow hA), vx_Zq.moved hW.alike ((h6.kept hS.2.1).narrow hA), vx_Zq.moved hW.alike ((h7.kept hS.2.1).narrow hA), sa, h8.warm hW⟩
theorem sw_Ev_same {b L : Nat} {xs : Nat → Int32} {A : Nat → Prop} {u U : State} {Hh : Heap} (h : sw_Ev b L xs A u Hh) (hv : u.vm = U.vm) : sw_Ev b L xs A U Hh := by
  obtain ⟨h1, h2, h3, h4, h5, h6, h7, sa, h8⟩ := h
  have ha : u.vm.Alike U.vm := by rw [hv]; exact Vm.Alike.refl _
  exact ⟨va_X.moved ha h1, h2, h3, fun w hw => va_Nw.same (sw_Nw_on w hw) hv (h4 w hw), va_Z.moved ha h5, vx_Zq.moved ha h6, vx_Zq.moved ha h7, sa, h8.same hv.symm⟩
def sw_sf (n : Nat) (st : List Value) : Prop := ∀ v ∈ st, sw_rf n v
theorem sw_sf_cons {n : Nat} {v : Value} {st : List Value} : sw_sf n (v :: st) ↔ sw_rf n v ∧ sw_sf n st := List.forall_mem_cons
theorem sw_sf_nil {n : Nat} : sw_sf n [] := fun _ h => absurd h List.not_mem_nil
def sw_Wd (dC : Nat → ClassId) (dI : Nat → Nat → Nat) (tA : Nat → ClassId) (ad : Nat → Nat) (A : Nat → Prop) (H : sw_HS) (H0 Hm : Heap) (locs : List Loc) : Prop := va_P (dC, dI) sw_cl (sw_wo tA ad H) Hm ∧ va_D A (sw_wo tA ad H) ∧ va_S A H0 Hm locs
def sw_In (L : Nat) (xs : Nat → Int32) (nL : Nat) (ls : sw_LS) (st : List Value) (H : sw_HS) : Prop := (1 ≤ H.2.1 ∧ H.1 0 = .inr (0, L, xs) ∧ sw_hf H.2.1 H.1) ∧ ls.length = nL ∧ (∀ v, some v ∈ ls → sw_rf H.2.1 v) ∧ sw_sf H.2.1 st
def sw_ok (L : Nat) (xs : Nat → Int32) (E : sw_Ot × sw_HS) : Prop := (1 ≤ E.2.2.1 ∧ E.2.1 0 = .inr (0, L, xs) ∧ sw_hf E.2.2.1 E.2.1) ∧ (E.1 = none ∨ E.1 = some none ∨ (∃ x, E.1 = some (some (.int x))) ∨ ∃ x, E.1 = some (some (.long x)))
def sw_Le (H K : sw_HS) : Prop := H.2.1 ≤ K.2.1 ∧ H.2.2.1 ≤ K.2.2.1 ∧ H.2.2.2 ≤ K.2.2.2
theorem sw_Le.rf (H : sw_HS) : sw_Le H H := ⟨Nat.le_refl _, Nat.le_refl _, Nat.le_refl _⟩
theorem sw_Le.tr {H K J : sw_HS} (h : sw_Le H K) (g : sw_Le K J) : sw_Le H J := ⟨Nat.le_trans h.1 g.1, Nat.le_trans h.2.1 g.2.1, Nat.le_trans h.2.2 g.2.2⟩
abbrev sw_B : Type := Nat × Nat × (Nat → Nat)
def sw_a0 (b : sw_B) (ad : Nat → Nat) : Prop := ad 0 = b.1 ∧ ∀ i, i < b.2.1 → ad i = b.2.2 i
theorem sw_a0_up {b : sw_B} {ad ad2 : Nat → Nat} {n : Nat} (he : ∀ i, i < n → ad2 i = ad i) (h1 : 1 ≤ n) (hb : b.2.1 ≤ n) (h : sw_a0 b ad) : sw_a0 b ad2 := ⟨(he 0 h1).trans h.1, fun i hi => (he i (Nat.lt_of_lt_of_le hi hb)).trans (h.2 i hi)⟩
section sw_Lo
variable (p : Program) (l : Launch) (e : Env) (R : Room) (s : State) (mid : MethodId) (args : Array Value) (below : List Frame) (meth : Method) (c : Code) (Q : State → Prop) (m : Nat) (A : Nat → Prop) (dC : Nat → ClassId) (dI : Nat → Nat → Nat) (tA : Nat → ClassId) (b : sw_B) (L k0 z0 : Nat) (xs : Nat → Int32) (E : sw_Ot × sw_HS)
def sw_Cx : Prop := (p.tables.exec = Jvm.exec ∧ c.code = sw_by m ∧ c.maxLocals = sw_ml m ∧ s.vm.findClass (sw_on (sw_ow m)) = some mid.cls) ∧ (∀ w ∈ sw_T, w.before args s = true) ∧ va_K (dC, dI) sw_cl (sw_ty tA) s ∧ (∀ q, s.heap.size ≤ q → A q) ∧ sw_Ev b.1 L xs A s s.heap ∧
  (E.2.2.2.1 ≤ R.cells + k0 ∧ E.2.2.2.2 ≤ R.slots + z0 ∧ sw_fr m ≤ R.frames ∧ sw_lo m ≤ R.locals) ∧ (sw_kd m = 2 → meth.name = "<init>") ∧ l.stackTraces = false ∧ (match sw_hh m with | none => E.1 = none → ∀ x ∈ c.exceptionTable.toList, False | some h => c.exceptionTable.toList = tableOf h)
def sw_Wx (ad : Nat → Nat) (H : sw_HS) (Hm : Heap) (locs : List Loc) (pc : Nat) (lsA : Array Slot) (st : List Value) : Prop := W p l e R s mid args below meth c Hm locs (H.2.2.1 - k0) (H.2.2.2 - z0) Q (F0 mid pc lsA (st.map (sw_cv ad)))
def sw_G (pc : Nat) (ls : sw_LS) (st : List Value) (H : sw_HS) : Prop := sw_In L xs (sw_ml m) ls st H → sw_Le H E.2 ∧ sw_ok L xs E ∧
  ∀ (ad : Nat → Nat) (Hm : Heap) (locs : List Loc) (lsA : Array Slot), sw_a0 b ad → sw_LR ad (sw_ml m) lsA ls → sw_Wd dC dI tA ad A H s.heap Hm locs → (b.2.1 ≤ H.2.1 ∧ k0 ≤ H.2.2.1) → z0 ≤ H.2.2.2 → sw_Wx p l e R s mid args below meth c Q k0 z0 ad H Hm locs pc lsA st
end sw_Lo
section sw_Lp
variable {p : Program} {l : Launch} {e : Env} {R : Room} {s : State} {mid : MethodId} {args : Array Value} {below : List Frame} {meth : Method} {c : Code} {Q : State → Prop} {m : Nat} {A : Nat → Prop} {dC : Nat → ClassId} {dI : Nat → Nat → Nat} {tA : Nat → ClassId} {b : sw_B} {L k0 z0 : Nat} {xs : Nat → Int32} {E : sw_Ot × sw_HS}
theorem sw_G_gen {pc pc2 : Nat} {ls ls2 : sw_LS} {st st2 : List Value} {H H2 : sw_HS} (hin : sw_In L xs (sw_ml m) ls st H → sw_In L xs (sw_ml m) ls2 st2 H2) (hle : sw_Le H H2)
    (hw : sw_In L xs (sw_ml m) ls st H → sw_Le H2 E.2 → ∀ (ad : Nat → Nat) (Hm : Heap) (locs : List Loc) (lsA : Array Slot), sw_a0 b ad → sw_LR ad (sw_ml m) lsA ls → sw_Wd dC dI tA ad A H s.heap Hm locs → (b.2.1 ≤ H.2.1 ∧ k0 ≤ H.2.2.1) → z0 ≤ H.2.2.2 →
      (∀ (ad2 : Nat → Nat) (Hm2 : Heap) (locs2 : List Loc) (lsB : Array Slot), sw_a0 b ad2 → sw_LR ad2 (sw_ml m) lsB ls2 → sw_Wd dC dI tA ad2 A H2 s.heap Hm2 locs2 → sw_Wx p l e R s mid args below meth c Q k0 z0 ad2 H2 Hm2 locs2 pc2 lsB st2) →
      sw_Wx p l e R s mid args below meth c Q k0 z0 ad H Hm locs pc lsA st)
    (g : sw_G p l e R s mid args below meth c Q m A dC dI tA b L k0 z0 xs E pc2 ls2 st2 H2) : sw_G p l e R s mid args below meth c Q m A dC dI tA b L k0 z0 xs E pc ls st H := by
  intro h
  obtain ⟨g1, g2, g3⟩ := g (hin h)
  refine ⟨hle.tr g1, g2, fun ad Hm locs lsA h0 hL hW hk hz => ?_⟩
  exact hw h g1 ad Hm locs lsA h0 hL hW hk hz fun ad2 Hm2 locs2 lsB h02 hL2 hW2 => g3 ad2 Hm2 locs2 lsB h02 hL2 hW2 ⟨Nat.le_trans hk.1 hle.1, Nat.le_trans hk.2 hle.2.1⟩ (Nat.le_trans hz hle.2.2)
theorem sw_G_st {pc pc2 : Nat} {ls : sw_LS} {st st2 : List Value} {H : sw_HS} (hs : sw_sf H.2.1 st → (∀ v, some v ∈ ls → sw_rf H.2.1 v) → sw_sf H.2.1 st2)
    (hw : ∀ (ad : Nat → Nat) (Hm : Heap) (locs : List Loc) (lsA : Array Slot), sw_LR ad (sw_ml m) lsA ls → sw_Wx p l e R s mid args below meth c Q k0 z0 ad H Hm locs pc2 lsA st2 → sw_Wx p l e R s mid args below meth c Q k0 z0 ad H Hm locs pc lsA st)
    (g : sw_G p l e R s mid args below meth c Q m A dC dI tA b L k0 z0 xs E pc2 ls st2 H) : sw_G p l e R s mid args below meth c Q m A dC dI tA b L k0 z0 xs E pc ls st H :=
  sw_G_gen (fun h => ⟨h.1, h.2.1, h.2.2.1, hs h.2.2.2 h.2.2.1⟩) (sw_Le.rf H) (fun _ _ ad Hm locs lsA h0 hL hW _ _ k => hw ad Hm locs lsA hL (k ad Hm locs lsA h0 hL hW)) g
theorem sw_G_ls {pc pc2 : Nat} {ls ls2 : sw_LS} {st st2 : List Value} {H : sw_HS} (hn : ls2.length = ls.length) (hs : sw_sf H.2.1 st → (∀ v, some v ∈ ls → sw_rf H.2.1 v) → sw_sf H.2.1 st2 ∧ ∀ v, some v ∈ ls2 → sw_rf H.2.1 v)
    (hw : ∀ (ad : Nat → Nat) (Hm : Heap) (locs : List Loc) (lsA : Array Slot), ls.length = sw_ml m → sw_LR ad (sw_ml m) lsA ls → (∀ lsB, sw_LR ad (sw_ml m) lsB ls2 → sw_Wx p l e R s mid args below meth c Q k0 z0 ad H Hm locs pc2 lsB st2) → sw_Wx p l e R s mid args below meth c Q k0 z0 ad H Hm locs pc lsA st)
    (g : sw_G p l e R s mid args below meth c Q m A dC dI tA b L k0 z0 xs E pc2 ls2 st2 H) : sw_G p l e R s mid args below meth c Q m A dC dI tA b L k0 z0 xs E pc ls st H :=
  sw_G_gen (fun h => ⟨h.1, hn.trans h.2.1, (hs h.2.2.2 h.2.2.1).2, (hs h.2.2.2 h.2.2.1).1⟩) (sw_Le.rf H) (fun h _ ad Hm locs lsA h0 hL hW _ _ k => hw ad Hm locs lsA h.2.1 hL fun lsB hB => k ad Hm locs lsB h0 hB hW) g
end sw_Lp
section sw_inv
variable {st : List Value} {ls : sw_LS}
theorem sw_ldi_v {k : Nat} {K : Int32 → Prop} (h : sw_ldi False ls k K) : ∃ x, ls[k]? = some (some (.int x)) ∧ K x := by
  unfold sw_ldi at h
  split at h
  · next x hx => exact ⟨x, hx, h⟩
  · exact h.elim
theorem sw_ldl_v {k : Nat} {K : Int64 → Prop} (h : sw_ldl False ls k K) : ∃ x, ls[k]? = some (some (.long x)) ∧ K x := by
  unfold sw_ldl at h
  split at h
  · next x hx => exact ⟨x, hx, h⟩
  · exact h.elim
theorem sw_lda_v {k : Nat} {K : Nat → Prop} (h : sw_lda False ls k K) : ∃ x, ls[k]? = some (some (.ref x)) ∧ K x := by
  unfold sw_lda at h
  split at h
  · next x hx => exact ⟨x, hx, h⟩
  · exact h.elim
theorem sw_has1_v {k : Nat} {K : Prop} (h : sw_has1 False ls k K) : k < ls.length ∧ K := by
  unfold sw_has1 at h
  split at h
  · next x hx => exact ⟨(List.getElem?_eq_some_iff.mp hx).1, h⟩
  · exact h.elim
theorem sw_i1_v {K : Int32 → List Value → Prop} (h : sw_i1 False st K) : ∃ x r, st = .int x :: r ∧ K x r := by
  unfold sw_i1 at h
  split at h
  · exact ⟨_, _, rfl, h⟩
  · exact h.elim
theorem sw_i2_v {K : Int32 → Int32 → List Value → Prop} (h : sw_i2 False st K) : ∃ x y r, st = .int y :: .int x :: r ∧ K x y r := by
  unfold sw_i2 at h
  split at h
  · exact ⟨_, _, _, rfl, h⟩
  · exact h.elim
theorem sw_l1_v {K : Int64 → List Value → Prop} (h : sw_l1 False st K) : ∃ x r, st = .long x :: r ∧ K x r := by
  unfold sw_l1 at h
  split at h
  · exact ⟨_, _, rfl, h⟩
  · exact h.elim
theorem sw_l2_v {K : Int64 → Int64 → List Value → Prop} (h : sw_l2 False st K) : ∃ x y r, st = .long y :: .long x :: r ∧ K x y r := by
  unfold sw_l2 at h
  split at h
  · exact ⟨_, _, _, rfl, h⟩
  · exact h.elim
theorem sw_li_v {K : Int64 → Int32 → List Value → Prop} (h : sw_li False st K) : ∃ x y r, st = .int y :: .long x :: r ∧ K x y r := by
  unfold sw_li at h
  split at h
  · exact ⟨_, _, _, rfl, h⟩
  · exact h.elim
theorem sw_r1_v {K : Nat → List Value → Prop} (h : sw_r1 False st K) : ∃ x r, st = .ref x :: r ∧ K x r := by
  unfold sw_r1 at h
  split at h
  · exact ⟨_, _, rfl, h⟩
  · exact h.elim
theorem sw_ri_v {K : Nat → Int32 → List Value → Prop} (h : sw_ri False st K) : ∃ a i r, st = .int i :: .ref a :: r ∧ K a i r := by
  unfold sw_ri at h
  split at h
  · exact ⟨_, _, _, rfl, h⟩
  · exact h.elim
theorem sw_rix_v {K : Nat → Int32 → Int32 → List Value → Prop} (h : sw_rix False st K) : ∃ a i x r, st = .int x :: .int i :: .ref a :: r ∧ K a i x r := by
  unfold sw_rix at h
  split at h
  · exact ⟨_, _, _, _, rfl, h⟩
  · exact h.elim
theorem sw_rv_v {K : Nat → Value → List Value → Prop} (h : sw_rv False st K) : ∃ a v r, st = v :: .ref a :: r ∧ K a v r := by
  unfold sw_rv at h
  split at h
  · exact ⟨_, _, _, rfl, h⟩
  · exact h.elim
theorem sw_jp_v {pc : Nat} {o : Int} {K : Nat → Prop} (h : sw_jp False pc o K) : ∃ t : Nat, (pc : Int) + o = (t : Int) ∧ K t := by
  unfold sw_jp at h
  split at h
  · next t ht => exact ⟨t, ht, h⟩
  · exact h.elim
theorem sw_ck_v {K : Prop} (h : sw_ck False st K) : sw_cat st ≤ 8 ∧ K := by
  unfold sw_ck at h
  split at h
  · next q => exact ⟨q, h⟩
  · exact h.elim
theorem sw_ite_v {c : Prop} [Decidable c] {K : Prop} (h : if c then K else False) : c ∧ K := by
  split at h
  · next q => exact ⟨q, h⟩
  · exact h.elim
theorem sw_nite_v {c : Prop} [Decidable c] {K : Prop} (h : if c then False else K) : ¬ c ∧ K := by
  split at h
  · exact h.elim
  · next q => exact ⟨q, h⟩
end sw_inv
theorem sw_b8 {n : Int} (h1 : -128 ≤ n) (h2 : n ≤ 127) : (Int8.ofInt n).toInt32 = Int32.ofInt n := by
  apply Int32.toInt_inj.mp
  rw [Int8.toInt_toInt32, Int8.toInt_ofInt, Int32.toInt_ofInt, Int.bmod_def, Int.bmod_def]
  simp only [Int8.size, Int32.size]
  omega
theorem sw_b16 {n : Int} (h1 : -32768 ≤ n) (h2 : n ≤ 32767) : (Int16.ofInt n).toInt32 = Int32.ofInt n := by
  apply Int32.toInt_inj.mp
  rw [Int16.toInt_toInt32, Int16.toInt_ofInt, Int32.toInt_ofInt, Int.bmod_def, Int.bmod_def]
  simp only [Int16.size, Int32.size]
  omega
