theorem sw_pop_v {K : List Value → List Value → Prop} : ∀ (n : Nat) (st acc : List Value), sw_pop False n st acc K → ∃ a r, st = a.reverse ++ r ∧ a.length = n ∧ K (a ++ acc) r
  | 0, st, acc, h => ⟨[], st, rfl, rfl, h⟩
  | n + 1, [], acc, h => h.elim
  | n + 1, v :: st, acc, h => by
    obtain ⟨a, r, h1, h2, h3⟩ := sw_pop_v n st (v :: acc) h
    refine ⟨a ++ [v], r, ?_, by simp [h2], ?_⟩
    · simp [h1]
    · simpa using h3
theorem sw_rc_v {H : sw_HS} {ci : Nat} {args : List Value} {K : Prop} (h : sw_rc False H (some ci) args K) : ∃ b0 as o, args = .ref b0 :: as ∧ H.1 b0 = .inl o ∧ o.1 = ci ∧ K := by
  unfold sw_rc at h
  dsimp only at h
  split at h
  · split at h
    · next o ho =>
      obtain ⟨q, h⟩ := sw_ite_v h
      exact ⟨_, _, o, rfl, ho, q, h⟩
    · exact h.elim
  · exact h.elim
theorem sw_rr_v {args : List Value} {K : Prop} (h : sw_rr False args K) : ∃ b0 as, args = .ref b0 :: as ∧ K := by
  unfold sw_rr at h
  split at h
  · exact ⟨_, _, rfl, h⟩
  · exact h.elim
theorem sw_good {ws : List Jvm.Cond} (h : ∀ w ∈ ws, w ∈ sw_T) : GoodIn sw_T ws := fun w hw => ⟨h w hw, good_of_word (List.mem_filter.mp (h w hw)).2⟩
def sw_rmm (y : Nat) (H H1 : sw_HS) : Room := { frames := sw_fr y, cells := H1.2.2.1 - H.2.2.1, slots := H1.2.2.2 - H.2.2.2, locals := sw_lo y }
def sw_ext (n : Nat) (ad ad1 : Nat → Nat) : Prop := ∀ i, i < n → ad1 i = ad i
def sw_Bp (dC : Nat → ClassId) (dI : Nat → Nat → Nat) (tA : Nat → ClassId) (A2 : Nat → Prop) (H1 : sw_HS) (ad1 : Nat → Nat) (t : State) : Prop := va_P (dC, dI) sw_cl (sw_wo tA ad1 H1) t.heap ∧ va_K (dC, dI) sw_cl (sw_ty tA) t ∧ va_D A2 (sw_wo tA ad1 H1)
def sw_Qc (o1 : sw_Ot) (n : Nat) (ad : Nat → Nat) (B : (Nat → Nat) → State → Prop) (A2 : Nat → Prop) : Array Value → State → Outcome → State → Prop := match o1 with
  | some (some (.int x)) => va_Qi (S := Nat → Nat) (fun r ad1 => r = x ∧ sw_ext n ad ad1) B A2
  | some (some (.long x)) => va_Ql (S := Nat → Nat) (fun r ad1 => r = x ∧ sw_ext n ad ad1) B A2
  | o => va_Qv (S := Nat → Nat) (fun ad1 => o = some none ∧ sw_ext n ad ad1) B A2
def sw_XC (o1 : sw_Ot) (n : Nat) (ad : Nat → Nat) (B : (Nat → Nat) → State → Prop) (A2 : Nat → Prop) : String → State → State → Prop := vx_X (S := Nat → Nat) (fun ad1 => o1 = none ∧ sw_ext n ad ad1) (fun E ad1 t => E = "java/lang/IllegalStateException" ∧ B ad1 t) A2
def sw_Pc (dC : Nat → ClassId) (dI : Nat → Nat → Nat) (tA : Nat → ClassId) (b L : Nat) (xs : Nat → Int32) (ad : Nat → Nat) (sz : Nat) (H : sw_HS) (a : List Value) : Array Value → State → Prop := va_Pc (a.map (sw_cv ad)) (fun U => U.heap.size = sz ∧ va_P (dC, dI) sw_cl (sw_wo tA ad H) U.heap ∧ va_K (dC, dI) sw_cl (sw_ty tA) U ∧ va_D (fun _ => True) (sw_wo tA ad H) ∧ sw_Ev b L xs (va_A (sw_wo tA ad H) sz) U U.heap)
def sw_MC (L : Nat) (xs : Nat → Int32) (y : Nat) (a : List Value) (H : sw_HS) (o1 : sw_Ot) (H1 : sw_HS) : Prop := (sw_el a).length ≤ sw_ml y ∧ ((1 ≤ H.2.1 ∧ H.1 0 = .inr (0, L, xs) ∧ sw_hf H.2.1 H.1) → sw_sf H.2.1 a → sw_Le H H1 ∧ sw_ok L xs (o1, H1) ∧
  ∀ (l : Launch) (b : Nat) (dC : Nat → ClassId) (dI : Nat → Nat → Nat) (tA : Nat → ClassId) (ad : Nat → Nat) (sz : Nat), l.stackTraces = false → ad 0 = b →
    vx_Met l (sw_nm y) (sw_fw y :: sw_T) (sw_rmm y H H1) (sw_Pc dC dI tA b L xs ad sz H a) (sw_Qc o1 H.2.1 ad (sw_Bp dC dI tA (va_A (sw_wo tA ad H) sz) H1) (va_A (sw_wo tA ad H) sz)) (sw_XC o1 H.2.1 ad (sw_Bp dC dI tA (va_A (sw_wo tA ad H) sz) H1) (va_A (sw_wo tA ad H) sz)) (H1.2.2.1 - H.2.2.1) (H1.2.2.2 - H.2.2.2) (va_A (sw_wo tA ad H) sz))
theorem sw_Pc_blind {dC : Nat → ClassId} {dI : Nat → Nat → Nat} {tA : Nat → ClassId} {b L : Nat} {xs : Nat → Int32} {ad : Nat → Nat} {sz : Nat} {H : sw_HS} {a : List Value} : FrameBlind (sw_Pc dC dI tA b L xs ad sz H a) := by
  intro v U g mk q
  obtain ⟨q0, q1, qP, qK, qD, qE⟩ := q
  exact ⟨q0, q1, qP, va_K.moved (u := U) (U := U.calling g mk v) (Vm.Alike.refl U.vm) qK, qD, sw_Ev_same (U := U.calling g mk v) qE rfl⟩
section sw_Lr
variable {p : Program} {l : Launch} {e : Env} {R : Room} {s : State} {mid : MethodId} {args : Array Value} {below : List Frame} {meth : Method} {c : Code} {Q : State → Prop} {m : Nat} {A : Nat → Prop} {dC : Nat → ClassId} {dI : Nat → Nat → Nat} {tA : Nat → ClassId} {b : sw_B} {L k0 z0 : Nat} {xs : Nat → Int32} {E : sw_Ot × sw_HS}
variable {pc : Nat} {ls : sw_LS} {r : List Value} {H : sw_HS}
theorem sw_G_mk {pc2 : Nat} {st : List Value} {cl : sw_Ce} {len : Nat} (X : sw_Cx p l R s mid args meth c m A dC dI tA b L k0 z0 xs E) (hr : sw_sf H.2.1 st → sw_sf H.2.1 r) (hc : ∀ o, cl = .inl o → ∀ v ∈ o.2, sw_rf H.2.1 v)
    (hw : ∀ (ad : Nat → Nat) (Hm : Heap) (locs : List Loc) (lsA : Array Slot) (k z : Nat), sw_Wd dC dI tA ad A H s.heap Hm locs → k + 1 ≤ R.cells → z + len ≤ R.slots →
      (∀ (q : Nat) (H1 : Heap), va_P (dC, dI) sw_cl (sw_wo tA ad H ++ [(q, sw_ce tA ad cl)]) H1 → va_D A (sw_wo tA ad H ++ [(q, sw_ce tA ad cl)]) → va_S A s.heap H1 locs → W p l e R s mid args below meth c H1 locs (k + 1) (z + len) Q (F0 mid pc2 lsA (.ref q :: r.map (sw_cv ad)))) →
      W p l e R s mid args below meth c Hm locs k z Q (F0 mid pc lsA (st.map (sw_cv ad))))
    (g : sw_G p l e R s mid args below meth c Q m A dC dI tA b L k0 z0 xs E pc2 ls (.ref H.2.1 :: r) (sw_mk H cl len)) : sw_G p l e R s mid args below meth c Q m A dC dI tA b L k0 z0 xs E pc ls st H := by
  obtain ⟨-, hts, hK, hA, hE, ⟨hRc, hRs, hRf, hRl⟩, hini, hst, hex⟩ := X
  refine sw_G_gen (fun hI => sw_mk_in hI hc (hr hI.2.2.2)) ⟨Nat.le_succ _, Nat.le_succ _, Nat.le_add_right _ _⟩ (fun hI hle ad Hm locs lsA h0 hL hW hk hz kk => ?_) g
  have c1 : H.2.2.1 + 1 ≤ E.2.2.2.1 := hle.2.1
  have c2 : H.2.2.2 + len ≤ E.2.2.2.2 := hle.2.2
  refine hw ad Hm locs lsA _ _ hW (by omega) (by omega) (fun q H1 hP1 hD1 hS1 => ?_)
  have e2 := sw_ad_ext ad H.2.1 q
  rw [sw_wo_push (len := len) hI.1.1 hI.1.2.2 hc] at hP1 hD1
  have k := kk (sw_ad ad H.2.1 q) H1 locs lsA (sw_a0_up e2 hI.1.1 hk.1 h0) (sw_LR_ext e2 hI.2.2.1 hL) ⟨hP1, hD1, hS1⟩
  unfold sw_Wx at k
  rw [List.map_cons, sw_cv_map e2 (hr hI.2.2.2), show sw_cv (sw_ad ad H.2.1 q) (.ref H.2.1) = .ref q by simp only [sw_cv]; rw [sw_ad_at]] at k
  rw [show (sw_mk H cl len).2.2.1 - k0 = H.2.2.1 - k0 + 1 by show H.2.2.1 + 1 - k0 = _; omega, show (sw_mk H cl len).2.2.2 - z0 = H.2.2.2 - z0 + len by show H.2.2.2 + len - z0 = _; omega] at k
  exact k
theorem sw_l_new (X : sw_Cx p l R s mid args meth c m A dC dI tA b L k0 z0 xs E) {i ci : Nat} (hd : decode (sw_by m) pc = .ok (.new i, 3)) (hn : sw_new (sw_ow m) i = some ci)
    (h : sw_G p l e R s mid args below meth c Q m A dC dI tA b L k0 z0 xs E (pc + 3) ls (.ref H.2.1 :: r) (sw_mk H (.inl (ci, sw_df ci)) (sw_df ci).length)) : sw_G p l e R s mid args below meth c Q m A dC dI tA b L k0 z0 xs E pc ls r H := by
  obtain ⟨⟨hx, hb, hml, hown⟩, hts, hK, hA, -⟩ := id X
  obtain ⟨hci, q, hcl, hlink⟩ := sw_PW_at hn
  obtain ⟨C, T, N, ty, g1, g2, g3, g4, g5, g6, g7, g8⟩ := sw_FC_at ci hci
  cases Option.some.inj (hcl.symm.trans g1)
  refine sw_G_mk X (fun q => q) (fun o ho v hv => by cases ho; exact sw_df_rf v hv) (fun ad Hm locs lsA k z hW hk hz kk => ?_) h
  obtain ⟨hP, hD, hS⟩ := hW
  have e1 : sw_ce tA ad (.inl (ci, sw_df ci)) = .inr (ci, sw_df ci) := by simp only [sw_ce]; rw [sw_df_cv]
  rw [e1] at kk
  rw [g7] at hz kk
  exact va_new hx hb hts g2 ty g4 hown (hts _ hlink) (hts _ g5) (hts _ g6) hK hP hD hS hA g1 g8 hk hz hd (fun q H1 hP1 hD1 hS1 => kk q H1 hP1 hD1 hS1)
theorem sw_ac0 : Cond.arrayClass .int ∈ sw_T := sw_in 83 rfl rfl
theorem sw_ac1 : Cond.arrayClass .boolean ∈ sw_T := sw_in 108 rfl rfl
theorem sw_ac2 : Cond.arrayClass .byte ∈ sw_T := sw_in 345 rfl rfl
theorem sw_nwb4 {N : Nat} (h : N ≤ 1000) : N * 4 ≤ 536870912 := Nat.le_trans (Nat.mul_le_mul_right 4 h) (Nat.le_of_ble_eq_true rfl)
theorem sw_nwb1 {N : Nat} (h : N ≤ 1000) : N * 1 ≤ 536870912 := Nat.le_trans (Nat.mul_le_mul_right 1 h) (Nat.le_of_ble_eq_true rfl)
theorem sw_l_nwa (X : sw_Cx p l R s mid args meth c m A dC dI tA b L k0 z0 xs E) {n : Int32} {t : Nat} {at9 : ArrayType} (ht : (t = 0 ∧ at9 = .int) ∨ (t = 1 ∧ at9 = .boolean) ∨ (t = 2 ∧ at9 = .byte)) (hd : decode (sw_by m) pc = .ok (.newarray at9, 2))
    (h : sw_nw False H t n fun H1 => sw_G p l e R s mid args below meth c Q m A dC dI tA b L k0 z0 xs E (pc + 2) ls (.ref H.2.1 :: r) H1) : sw_G p l e R s mid args below meth c Q m A dC dI tA b L k0 z0 xs E pc ls (.int n :: r) H := by
  obtain ⟨⟨hx, hb, hml, hown⟩, hts, hK, hA, -⟩ := id X
  unfold sw_nw at h
  obtain ⟨⟨q1, q2⟩, h⟩ := sw_ite_v h
  refine sw_G_mk X ?_ ?_ ?_ h
  · intro q; exact (sw_sf_cons.mp q).2
  · intro o ho; cases ho
  intro ad Hm locs lsA k z hW hk hz kk
  obtain ⟨hP, hD, hS⟩ := hW
  have hn0 : ¬ n < 0 := by rw [Int32.lt_iff_toInt_lt, Int32.toInt_zero]; omega
  have hN : n.toNatClampNeg ≤ 1000 := by show n.toInt.toNat ≤ 1000; omega
  obtain ⟨t0, t1, t2⟩ := sw_K_ty hK
  rcases ht with ⟨rfl, rfl⟩ | ⟨rfl, rfl⟩ | ⟨rfl, rfl⟩
  · refine va_newa (atype := .int) hx hb (hts _ sw_ac0) (ty := .int) rfl hK hP hD hS hA (a0 := (n.toNatClampNeg, .inl fun _ => 0)) (fun cA => rfl) hn0 rfl (sw_nwb4 hN) hk hz hd (fun q cA H1 hK1 hP1 hD1 hS1 => ?_)
    have e9 : cA = tA 0 := Option.some.inj (((hK1.2 3 (cA, .int) rfl).2).symm.trans t0)
    subst e9
    exact kk q H1 hP1 hD1 hS1
  · refine va_newa (atype := .boolean) hx hb (hts _ sw_ac1) (ty := .boolean) rfl hK hP hD hS hA (a0 := (n.toNatClampNeg, .inl fun _ => 0)) (fun cA => rfl) hn0 rfl (sw_nwb1 hN) hk hz hd (fun q cA H1 hK1 hP1 hD1 hS1 => ?_)
    have e9 : cA = tA 1 := Option.some.inj (((hK1.2 3 (cA, .boolean) rfl).2).symm.trans t1)
    subst e9
    exact kk q H1 hP1 hD1 hS1
  · refine va_newa (atype := .byte) hx hb (hts _ sw_ac2) (ty := .byte) rfl hK hP hD hS hA (a0 := (n.toNatClampNeg, .inl fun _ => 0)) (fun cA => rfl) hn0 rfl (sw_nwb1 hN) hk hz hd (fun q cA H1 hK1 hP1 hD1 hS1 => ?_)
    have e9 : cA = tA 2 := Option.some.inj (((hK1.2 3 (cA, .byte) rfl).2).symm.trans t2)
    subst e9
    exact kk q H1 hP1 hD1 hS1
def sw_Th (p : Program) (l : Launch) (e : Env) (R : Room) (s : State) (mid : MethodId) (args : Array Value) (below : List Frame) (meth : Method) (c : Code) (Q : State → Prop) (m : Nat) (A : Nat → Prop) (dC : Nat → ClassId) (dI : Nat → Nat → Nat) (tA : Nat → ClassId) (b : sw_B) (L k0 z0 : Nat) (xs : Nat → Int32) (E : sw_Ot × sw_HS) (pc : Nat) (ls : sw_LS) (r : List Value) (o1 : sw_Ot) (H1 : sw_HS) : Prop :=
  o1 = none → sw_ok L xs (none, H1) → ls.length = sw_ml m → (sw_Le H1 E.2 ∧ sw_ok L xs E) ∧ ∀ (ad : Nat → Nat) (Hm : Heap) (locs : List Loc) (lsA : Array Slot) (q : Nat) (ce : Cell), sw_a0 b ad → sw_LR ad (sw_ml m) lsA ls → sw_Wd dC dI tA ad A H1 s.heap Hm locs → (b.2.1 ≤ H1.2.1 ∧ k0 ≤ H1.2.2.1) → z0 ≤ H1.2.2.2 → Hm[q]? = some ce → ce.vm = .none → s.vm.findClass "java/lang/IllegalStateException" = some ce.cls → vx_W p l e R s mid args below meth c Hm locs (H1.2.2.1 - k0) (H1.2.2.2 - z0) Q (F0 mid pc lsA (r.map (sw_cv ad))) q
/-- behind a call, however it was made -/
theorem sw_l_call (X : sw_Cx p l R s mid args meth c m A dC dI tA b L k0 z0 xs E) {y : Nat} {a : List Value} {o1 : sw_Ot} {H1 : sw_HS} (hM : sw_MC L xs y a H o1 H1)
    (hrun : ∀ (ad : Nat → Nat) (Hm : Heap) (locs : List Loc) (lsA : Array Slot), sw_a0 b ad → sw_sf H.2.1 a → sw_LR ad (sw_ml m) lsA ls → sw_Wd dC dI tA ad A H s.heap Hm locs → (H.2.2.1 - k0) + (H1.2.2.1 - H.2.2.1) ≤ R.cells → (H.2.2.2 - z0) + (H1.2.2.2 - H.2.2.2) ≤ R.slots →
      vx_Met l (sw_nm y) (sw_fw y :: sw_T) (sw_rmm y H H1) (sw_Pc dC dI tA b.1 L xs ad Hm.size H a) (sw_Qc o1 H.2.1 ad (sw_Bp dC dI tA (va_A (sw_wo tA ad H) Hm.size) H1) (va_A (sw_wo tA ad H) Hm.size)) (sw_XC o1 H.2.1 ad (sw_Bp dC dI tA (va_A (sw_wo tA ad H) Hm.size) H1) (va_A (sw_wo tA ad H) Hm.size)) (H1.2.2.1 - H.2.2.1) (H1.2.2.2 - H.2.2.2) (va_A (sw_wo tA ad H) Hm.size) →
      (∀ U : State, U.heap = Hm → s.WarmedH U.vm → sw_Pc dC dI tA b.1 L xs ad Hm.size H a (a.map (sw_cv ad)).toArray U) →
      vx_Run p l e R s mid args below meth c Hm locs (H.2.2.1 - k0) (H.2.2.2 - z0) (H1.2.2.1 - H.2.2.1) (H1.2.2.2 - H.2.2.2) (F0 mid pc lsA ((a.reverse ++ r).map (sw_cv ad))) (r.map (sw_cv ad)) (sw_Qc o1 H.2.1 ad (sw_Bp dC dI tA (va_A (sw_wo tA ad H) Hm.size) H1) (va_A (sw_wo tA ad H) Hm.size) (a.map (sw_cv ad)).toArray) (sw_XC o1 H.2.1 ad (sw_Bp dC dI tA (va_A (sw_wo tA ad H) Hm.size) H1) (va_A (sw_wo tA ad H) Hm.size)) (va_A (sw_wo tA ad H) Hm.size))
    (hret : ∀ v, o1 = some v → sw_G p l e R s mid args below meth c Q m A dC dI tA b L k0 z0 xs E (pc + 3) ls (v.toList ++ r) H1)
    (hthr : sw_Th p l e R s mid args below meth c Q m A dC dI tA b L k0 z0 xs E pc ls r o1 H1) :
    sw_G p l e R s mid args below meth c Q m A dC dI tA b L k0 z0 xs E pc ls (a.reverse ++ r) H := by
  obtain ⟨⟨hx, hb, hml, hown⟩, hts, hK, hA, hE, ⟨hRc, hRs, hRf, hRl⟩, hini, hst, hex⟩ := X
  intro hI
  have sfa : sw_sf H.2.1 a := fun v hv => hI.2.2.2 v (List.mem_append_left _ (List.mem_reverse.mpr hv))
  have sfr : sw_sf H.2.1 r := fun v hv => hI.2.2.2 v (List.mem_append_right _ hv)
  obtain ⟨hlen, hM⟩ := hM
  obtain ⟨hle, hok, hmet⟩ := hM hI.1 sfa
  have hin1 : ∀ v, o1 = some v → sw_In L xs (sw_ml m) ls (v.toList ++ r) H1 := by
    intro v hv
    refine ⟨hok.1, hI.2.1, fun w hw => sw_rf_up hle.1 (hI.2.2.1 w hw), fun w hw => ?_⟩
    rcases List.mem_append.mp hw with q | q
    · rcases hok.2 with z | z | ⟨x, z⟩ | ⟨x, z⟩
      · have z : o1 = none := z; rw [hv] at z; cases z
      · have z : o1 = some none := z; rw [hv] at z; cases z; cases q
      · have z : o1 = some (some (.int x)) := z; rw [hv] at z; cases z; cases List.mem_singleton.mp q; trivial
      · have z : o1 = some (some (.long x)) := z; rw [hv] at z; cases z; cases List.mem_singleton.mp q; trivial
    · exact sw_rf_up hle.1 (sfr w q)
  have hfin : sw_Le H1 E.2 ∧ sw_ok L xs E := by
    cases ho : o1 with
    | none => exact (hthr ho (by rw [← ho]; exact hok) hI.2.1).1
    | some v => exact ⟨(hret v ho (hin1 v ho)).1, (hret v ho (hin1 v ho)).2.1⟩
  refine ⟨hle.tr hfin.1, hfin.2, fun ad Hm locs lsA h0 hL hW hk hz => ?_⟩
  have hk1 : b.2.1 ≤ H1.2.1 ∧ k0 ≤ H1.2.2.1 := ⟨Nat.le_trans hk.1 hle.1, Nat.le_trans hk.2 hle.2.1⟩
  have hz1 : z0 ≤ H1.2.2.2 := Nat.le_trans hz hle.2.2
  have b1 := hfin.1.2.1
  have b2 := hfin.1.2.2
  have b3 := hle.2.1
  have b4 := hle.2.2
  have ek : H.2.2.1 - k0 + (H1.2.2.1 - H.2.2.1) = H1.2.2.1 - k0 := by omega
  have ez : H.2.2.2 - z0 + (H1.2.2.2 - H.2.2.2) = H1.2.2.2 - z0 := by omega
  obtain ⟨hP, hD, hS⟩ := id hW
  have hF : ∀ q, va_A (sw_wo tA ad H) Hm.size q → A q := by
    intro q hq
    rcases hq with ⟨k, e1, hq⟩ | hq
    · exact hD.2 k _ hq
    · exact hA q (Nat.le_trans hS.1 hq)
  have hrun := hrun ad Hm locs lsA h0 sfa hL hW (by omega) (by omega) (hmet l b.1 dC dI tA ad Hm.size hst h0.1) (fun U hU hW9 => ⟨rfl, by rw [hU], by rw [hU]; exact hP, va_K.moved hW9.alike hK, hD.weaken (fun _ _ _ _ => trivial), by rw [hU]; exact sw_Ev_next hE hS hF hW9⟩)
  have kx : ∀ (E9 : String) (ce : Cell) (q9 : Addr) (u : Nat → Nat) (t : State) (H9 : Heap) (locs1 : List Loc), t.heap = H9 → s.vm.Alike t.vm → (o1 = none ∧ sw_ext H.2.1 ad u) → (E9 = "java/lang/IllegalStateException" ∧ sw_Bp dC dI tA (va_A (sw_wo tA ad H) Hm.size) H1 u t) → Hm.size ≤ H9.size → (∀ q : Nat, q < Hm.size → ¬ va_A (sw_wo tA ad H) Hm.size q → H9[q]? = Hm[q]?) → va_S A s.heap H9 locs1 → H9[q9]? = some ce → ce.vm = .none → s.vm.findClass E9 = some ce.cls → vx_W p l e R s mid args below meth c H9 locs1 (H.2.2.1 - k0 + (H1.2.2.1 - H.2.2.1)) (H.2.2.2 - z0 + (H1.2.2.2 - H.2.2.2)) Q (F0 mid pc lsA (r.map (sw_cv ad))) q9 := by
    intro E9 ce q9 u t H9 locs1 ht hvm ⟨hn, hext⟩ ⟨hE9, hB1, hB2, hB3⟩ hz9 hk9 hS9 hc1 hc2 hc3
    subst hE9
    rw [ek, ez]
    have := (hthr hn (by rw [← hn]; exact hok) hI.2.1).2 u H9 locs1 lsA q9 ce (sw_a0_up hext hI.1.1 hk.1 h0) (sw_LR_ext hext hI.2.2.1 hL) ⟨by rw [← ht]; exact hB1, hB3.weaken (fun _ _ _ h => hF _ h), hS9⟩ hk1 hz1 hc1 hc2 hc3
    rw [sw_cv_map hext sfr] at this
    exact this
  have kr : ∀ (v : Option Value), o1 = some v → ∀ (u : Nat → Nat) (t : State) (H9 : Heap) (locs1 : List Loc), t.heap = H9 → sw_ext H.2.1 ad u → sw_Bp dC dI tA (va_A (sw_wo tA ad H) Hm.size) H1 u t → va_S A s.heap H9 locs1 → W p l e R s mid args below meth c H9 locs1 (H.2.2.1 - k0 + (H1.2.2.1 - H.2.2.1)) (H.2.2.2 - z0 + (H1.2.2.2 - H.2.2.2)) Q (F0 mid (pc + 3) lsA ((v.toList ++ r).map (sw_cv u))) := by
    intro v hv u t H9 locs1 ht hext ⟨hB1, hB2, hB3⟩ hS9
    rw [ek, ez]
    exact (hret v hv (hin1 v hv)).2.2 u H9 locs1 lsA (sw_a0_up hext hI.1.1 hk.1 h0) (sw_LR_ext hext hI.2.2.1 hL) ⟨by rw [← ht]; exact hB1, hB3.weaken (fun _ _ _ h => hF _ h), hS9⟩ hk1 hz1
  rcases hok.2 with ho | ho | ⟨x, ho⟩ | ⟨x, ho⟩
  · have ho : o1 = none := ho
    subst ho
    exact vx_callv (a := (a.map (sw_cv ad)).toArray) hrun hS (fun q _ h => hF q h) hF (fun q _ h => hF q h) kx (fun u t H9 locs1 ht hvm hw hB hz9 hk9 hS9 => by cases hw.1)
  · have ho : o1 = some none := ho
    subst ho
    refine vx_callv (a := (a.map (sw_cv ad)).toArray) hrun hS (fun q _ h => hF q h) hF (fun q _ h => hF q h) kx (fun u t H9 locs1 ht hvm hw hB hz9 hk9 hS9 => ?_)
    have := kr none rfl u t H9 locs1 ht hw.2 hB hS9
    rw [show (none : Option Value).toList ++ r = r from rfl, sw_cv_map hw.2 sfr] at this
    exact this
  · have ho : o1 = some (some (.int x)) := ho
    subst ho
    refine vx_calli (a := (a.map (sw_cv ad)).toArray) hrun hS (fun q _ h => hF q h) hF (fun q _ h => hF q h) kx (fun r9 u t H9 locs1 ht hvm hw hB hz9 hk9 hS9 => ?_)
    obtain ⟨rfl, hext⟩ := hw
    have := kr (some (.int r9)) rfl u t H9 locs1 ht hext hB hS9
    rw [show (some (Value.int r9)).toList ++ r = .int r9 :: r from rfl, List.map_cons, sw_cv_map hext sfr] at this
    exact this
  · have ho : o1 = some (some (.long x)) := ho
    subst ho
    refine vx_calll (a := (a.map (sw_cv ad)).toArray) hrun hS (fun q _ h => hF q h) hF (fun q _ h => hF q h) kx (fun r9 u t H9 locs1 ht hvm hw hB hz9 hk9 hS9 => ?_)
    obtain ⟨rfl, hext⟩ := hw
    have := kr (some (.long r9)) rfl u t H9 locs1 ht hext hB hS9
    rw [show (some (Value.long r9)).toList ++ r = .long r9 :: r from rfl, List.map_cons, sw_cv_map hext sfr] at this
    exact this
end sw_Lr
