def sw_H0 (L : Nat) (xs : Nat → Int32) : sw_HS := (fun _ => .inr (0, L, xs), 1, 0, 0)
set_option maxRecDepth 100000 in
theorem sw_tbl9 : Jvm.Cond.laysStatic "java/lang/String" "COMPACT_STRINGS" "Z" ∈ lw_tbl ∧ Jvm.Cond.initialized "java/lang/String" ∈ lw_tbl ∧ Jvm.Cond.initialized "java/lang/Throwable" ∈ lw_tbl ∧ Jvm.Cond.stringRef RX11 359 "the SITE is SHUT" ∈ lw_tbl ∧ Jvm.Cond.laysStatic Bundle.tN "UNASSIGNED_STACK" Bundle.steD ∈ lw_tbl ∧ Jvm.Cond.laysStatic Bundle.tN "SUPPRESSED_SENTINEL" Bundle.listD ∈ lw_tbl :=
  ⟨List.mem_of_getElem? (i := 325) rfl, List.mem_of_getElem? (i := 46) rfl, List.mem_of_getElem? (i := 48) rfl, List.mem_of_getElem? (i := 764) rfl, List.mem_of_getElem? (i := 418) rfl, List.mem_of_getElem? (i := 420) rfl⟩
theorem sw_fl9 : (Jvm.Cond.eq (Jvm.Term.static "java/lang/String" "COMPACT_STRINGS" "Z") (Jvm.Term.int 1)) ∈ flatC (Jvm.Cond.and given_1 narrow_1) ∧ (Jvm.Cond.isRef (Jvm.Term.static Bundle.tN "UNASSIGNED_STACK" Bundle.steD)) ∈ flatC (Jvm.Cond.and given_1 narrow_1) ∧ (Jvm.Cond.isRef (Jvm.Term.static Bundle.tN "SUPPRESSED_SENTINEL" Bundle.listD)) ∈ flatC (Jvm.Cond.and given_1 narrow_1) ∧ (Jvm.Cond.exactly (Jvm.Term.string RX11 359) "java/lang/String") ∈ flatC (Jvm.Cond.and given_1 narrow_1) :=
  ⟨by decide +kernel, by decide +kernel, by decide +kernel, by decide +kernel⟩
theorem sw_kn {args : Array Value} {s : State} (hts : ∀ w ∈ sw_T, w.before args s = true) : ∃ (dC : Nat → ClassId) (dI : Nat → Nat → Nat), ∀ (c : Nat) (q : vw_C), sw_cl[c]? = some q → u_Kn s q.1 q.2.1 q.2.2 (dC c) (dI c) := by
  have h : ∀ ci : Nat, ∃ z : ClassId × (Nat → Nat), ∀ q : vw_C, sw_cl[ci]? = some q → u_Kn s q.1 q.2.1 q.2.2 z.1 z.2 := by
    intro ci
    by_cases hci : ci < 13
    · obtain ⟨C, T, N, ty, g1, g2, g3, g4, g5, g6, g7, g8⟩ := sw_FC_at ci hci
      obtain ⟨cC, iS, hk⟩ := u_known hts g2 (hts _ g5)
      refine ⟨(cC, iS), fun q hq => ?_⟩
      cases Option.some.inj (hq.symm.trans g1)
      exact hk
    · refine ⟨(default, fun _ => 0), fun q hq => ?_⟩
      rw [List.getElem?_eq_none (show sw_cl.length ≤ ci by show 13 ≤ ci; omega)] at hq
      cases hq
  refine ⟨fun c => (Classical.choose (h c)).1, fun c => (Classical.choose (h c)).2, fun c q hq => Classical.choose_spec (h c) q hq⟩
theorem sw_arT {args : Array Value} {s : State} {ty : FieldType} (hra : ∀ cA, va_RA s cA ty = (s.vm.findClass ("[" ++ ty.toString) = some cA)) (h : (Jvm.Cond.arrayClass ty).before args s = true) : ∃ cA, ArrOfT s cA ty ∧ va_RA s cA ty := by
  obtain ⟨c, k, comp, h1, h2, h3⟩ := Cond.arrayClass_spec h
  exact ⟨c, fun n z => ⟨fun k h => (by cases h), k, h2, comp, h3⟩, by rw [hra]; exact h1⟩
theorem sw_start (hlaw : ∀ (L : Nat) (xs : Nat → Int32), L ≤ 260 → sw_M 150 [.ref 0] (sw_H0 L xs) fun o H1 => o = some (some (.int 1)) ∧ H1.2.2.1 ≤ 600130 ∧ H1.2.2.2 ≤ 7301080)
    {p : Program} {e : Env} {s : State} {m : MethodId} {below : List Frame} {meth : Method} {c : Code} (l : Launch) (hflags : l.flags = flags0) {b L : Nat} {xs : Nat → Int32} (hL : L ≤ 260) (C0 : lw_At p s m meth c b L xs) : W p l e room_1 s m #[Value.ref b] below meth c s.heap [] 0 0 (lw_Z below #[Value.ref b] s) (entryFrame m ([Value.ref b] : List Value).toArray 30) := by
  obtain ⟨hx, hb, hr, hml, hown, hts0, hX, hbl, hlocks, hgv⟩ := C0
  have hs := flat_of_before _ hgv
  have hts : ∀ w ∈ sw_T, w.before #[Value.ref b] s = true := fun w hw => hts0 w (List.mem_filter.mp hw).1
  obtain ⟨t1, t2, t3, t4, t5, t6⟩ := sw_tbl9
  obtain ⟨n1, n2, n3, n4⟩ := sw_fl9
  obtain ⟨dC, dI, hkn⟩ := sw_kn hts
  obtain ⟨c0, a0, b0⟩ := sw_arT (ty := .int) (fun _ => rfl) (hts _ sw_ac0)
  obtain ⟨c1, a1, b1⟩ := sw_arT (ty := .boolean) (fun _ => rfl) (hts _ sw_ac1)
  obtain ⟨c2, a2, b2⟩ := sw_arT (ty := .byte) (fun _ => rfl) (hts _ sw_ac2)
  let tA : Nat → ClassId := fun i => if i = 0 then c0 else if i = 1 then c1 else c2
  have hK : va_K (dC, dI) sw_cl (sw_ty tA) s := by
    refine ⟨hkn, fun k q hq => ?_⟩
    match k, hq with
    | 0, hq => cases hq; exact ⟨a0, b0⟩
    | 1, hq => cases hq; exact ⟨a1, b1⟩
    | 2, hq => cases hq; exact ⟨a2, b2⟩
    | k + 3, hq => cases hq
  have hA : ∀ a : Nat, a < s.heap.size → ¬ s.heap.size ≤ a := fun a h => Nat.not_le_of_lt h
  have hE : sw_Ev b L xs (fun q => s.heap.size ≤ q) s s.heap := by
    refine ⟨hX, hbl, hA b hbl, fun w hw => va_Nw.of (sw_Nw_on w hw) (hts0 w (List.mem_filter.mp hw).1), va_Zof (hts0 _ t1) (hts0 _ t2) (Cond.eq_int (hs _ n1) rfl) hA, vx_Zqof (hts0 _ t5) (hts0 _ t3) (hs _ n2) hA, vx_Zqof (hts0 _ t6) (hts0 _ t3) (hs _ n3) hA, ?_⟩
    obtain ⟨sa, -, -, -, h9, -⟩ := Cond.exactly_spec (hs _ n4)
    exact ⟨sa, vk_R.of (hts0 _ t4) h9⟩
  obtain ⟨hl, n, o, H1, hrun, ho, hc, hz⟩ := hlaw L xs hL
  subst ho
  have hst : l.stackTraces = false := by unfold Launch.stackTraces; rw [hflags]; decide
  have h39 : meth.sig.returnType = some .boolean := hr
  have X : sw_Cx p l room_1 s m #[Value.ref b] meth c 150 (fun q => s.heap.size ≤ q) dC dI tA (b, 1, fun _ => b) L 0 0 xs (some (some (.int 1)), H1) :=
    ⟨⟨hx, hb, hml, hown⟩, hts, hK, fun _ h => h, hE, ⟨hc, hz, by decide, by decide⟩, fun h => absurd h (by decide), hst, fun h => by cases h⟩
  have Y : sw_Cq s #[Value.ref b] below meth (sw_Qm s #[Value.ref b] below (fun q => s.heap.size ≤ q) dC dI tA (b, 1, fun _ => b) 0 0 (some (some (.int 1)), H1)) 150 (fun q => s.heap.size ≤ q) dC dI tA (b, 1, fun _ => b) 0 0 (some (some (.int 1)), H1) := ⟨rfl, hlocks, hr⟩
  have hin : sw_In L xs (sw_ml 150) (sw_en 150 [.ref 0]) [] (sw_H0 L xs) := ⟨⟨Nat.le_refl _, rfl, fun j hj o ho => by cases ho⟩, sw_en_len hl, sw_en_rf (fun v hv => by cases List.mem_singleton.mp hv; exact Nat.lt_succ_self 0), sw_sf_nil⟩
  have g := (sw_sound n 150 0 _ _ _ _ hrun p l e room_1 s m _ below meth c _ _ dC dI tA _ 0 0 X Y hin).2.2 (fun _ => b) s.heap [] _ ⟨rfl, fun _ _ => rfl⟩ (sw_en_LR hl) ⟨fun k q hq => (by cases hq), ⟨fun i j p q hp => (by cases hp), fun k q hq => (by cases hq)⟩, Nat.le_refl _, fun _ _ _ => rfl, fun _ h => absurd h List.not_mem_nil⟩ ⟨Nat.le_refl _, Nat.le_refl _⟩ (Nat.le_refl _)
  unfold sw_Wx at g
  rw [show ([Value.ref b] : List Value).toArray = ([Value.ref 0].map (sw_cv fun _ => b)).toArray from rfl, lg_entry_eq]
  intro T hT XX
  obtain ⟨t, hstep, o9, e1, e2, e3⟩ := g T hT XX
  refine ⟨t, hstep, o9, e1, e2, ?_⟩
  rcases e3 with ⟨⟨⟨x, u, f1, ⟨rfl, -⟩, -⟩, -⟩, Lc, hfr, hLc⟩ | ⟨q, -, E9, ce, L9, ⟨u, ⟨f1, -⟩, -⟩, -⟩
  · obtain ⟨g1, g2, g3⟩ := hfr
    exact ⟨f1, g1, g2, g3.weaken (fun z hz h => absurd (hLc z hz) (Nat.not_le_of_lt h)) hc hz⟩
  · cases f1
