theorem sw_cat_cv {ad : Nat → Nat} : ∀ st : List Value, (((st.map (sw_cv ad)).map fun v => v.category).sum) = sw_cat st
  | [] => rfl
  | v :: st => by
    have := sw_cat_cv (ad := ad) st
    unfold sw_cat at this ⊢
    simp only [List.map_cons, List.sum_cons, this]
    congr 1
    cases v <;> rfl
theorem sw_rm_v {m y : Nat} (h : sw_rm m y = true) : sw_fr y + 1 ≤ sw_fr m ∧ 19 + sw_ml y + sw_lo y ≤ sw_lo m := by
  unfold sw_rm at h
  simpa using h
theorem sw_fw_no {y : Nat} (h : sw_hh y = none) : sw_fw y = .code (sw_nm y) (sw_by y) (sw_ml y) (sw_rt y) := by unfold sw_fw; rw [h]
theorem sw_fw_hh {y : Nat} {hh : List (Nat × Nat × Nat × Nat)} (h : sw_hh y = some hh) : sw_fw y = .codeWith (sw_nm y) (sw_by y) (sw_ml y) (sw_rt y) hh := by unfold sw_fw; rw [h]
theorem sw_kd_big {y : Nat} (h : y = 1001 ∨ y = 1000) : sw_kd y = 3 := by rcases h with rfl | rfl <;> rfl
theorem sw_PI_lt {o i y : Nat} (h : sw_inv o i = some y) (hk : ¬ sw_kd y = 3) : y < 150 ∧ (Jvm.Cond.methodLink (sw_on o) i (sw_nm y) ∈ sw_T ∨ ∃ host, Jvm.Cond.methodLinkNest (sw_on o) i (sw_nm y) host ∈ sw_N ∧ sw_hh y = none) := by
  rcases sw_PI_at h with q | q | q
  · exact q
  · exact absurd (sw_kd_big (Or.inl q.1)) hk
  · exact absurd (sw_kd_big (Or.inr q.1)) hk
theorem sw_goodB {y : Nat} (h : sw_fw y ∈ sw_T) : GoodIn sw_T (sw_fw y :: sw_T) := sw_good fun w hw => by
  rcases List.mem_cons.mp hw with rfl | q
  · exact h
  · exact q
theorem sw_goodS {y i : Nat} {o : String} (h : sw_fw y ∈ sw_T) (h1 : Jvm.Cond.methodLink o i (sw_nm y) ∈ sw_T) (h2 : Jvm.Cond.static (sw_nm y) ∈ sw_T) (h3 : Jvm.Cond.initialized (sw_nm y).cls ∈ sw_T) : GoodIn sw_T (va_wsS o i (sw_nm y) (sw_fw y :: sw_T)) := sw_good fun w q => by
  rcases List.mem_cons.mp q with rfl | q
  · exact h1
  rcases List.mem_cons.mp q with rfl | q
  · exact h2
  rcases List.mem_cons.mp q with rfl | q
  · exact h3
  rcases List.mem_cons.mp q with rfl | q
  · exact h
  · exact q
theorem sw_goodV {y i : Nat} {o : String} (h : sw_fw y ∈ sw_T) (h1 : Jvm.Cond.methodLink o i (sw_nm y) ∈ sw_T) (h2 : Jvm.Cond.instanceMethod (sw_nm y) ∈ sw_T) (h3 : Jvm.Cond.selects (sw_nm y).cls (sw_nm y) (sw_nm y) ∈ sw_T) (h4 : Jvm.Cond.initialized (sw_nm y).cls ∈ sw_T) : GoodIn sw_T (wsV o i (sw_nm y).cls (sw_nm y) (sw_fw y :: sw_T)) := sw_good fun w q => by
  rcases List.mem_cons.mp q with rfl | q
  · exact h1
  rcases List.mem_cons.mp q with rfl | q
  · exact h2
  rcases List.mem_cons.mp q with rfl | q
  · exact h3
  rcases List.mem_cons.mp q with rfl | q
  · exact h4
  rcases List.mem_cons.mp q with rfl | q
  · exact h
  · exact q
section sw_Ls
variable {p : Program} {l : Launch} {e : Env} {R : Room} {s : State} {mid : MethodId} {args : Array Value} {below : List Frame} {meth : Method} {c : Code} {Q : State → Prop} {m : Nat} {A : Nat → Prop} {dC : Nat → ClassId} {dI : Nat → Nat → Nat} {tA : Nat → ClassId} {b : sw_B} {L k0 z0 : Nat} {xs : Nat → Int32} {E : sw_Ot × sw_HS}
variable {pc : Nat} {ls : sw_LS} {r : List Value} {H : sw_HS}
theorem sw_stk {ad : Nat → Nat} {a r : List Value} : (a.reverse ++ r).map (sw_cv ad) = (a.map (sw_cv ad)).reverse ++ r.map (sw_cv ad) := by rw [List.map_append, List.map_reverse]
theorem sw_stk2 {ad : Nat → Nat} {b0 : Nat} {as r : List Value} : ((Value.ref b0 :: as).reverse ++ r).map (sw_cv ad) = (as.map (sw_cv ad)).reverse ++ .ref (ad b0) :: r.map (sw_cv ad) := by
  rw [sw_stk]
  simp [sw_cv]
theorem sw_c_s (X : sw_Cx p l R s mid args meth c m A dC dI tA b L k0 z0 xs E) {y i : Nat} {a : List Value} {o1 : sw_Ot} {H1 : sw_HS} (hd : decode (sw_by m) pc = .ok (.invokestatic i, 3)) (hi : sw_inv (sw_ow m) i = some y) (hk : sw_kd y = 0) (hrm : sw_rm m y = true) (hl : a.length = sw_na y) (hc : sw_cat r ≤ 8) (hM : sw_MC L xs y a H o1 H1)
    (hret : ∀ v, o1 = some v → sw_G p l e R s mid args below meth c Q m A dC dI tA b L k0 z0 xs E (pc + 3) ls (v.toList ++ r) H1)
    (hthr : sw_Th p l e R s mid args below meth c Q m A dC dI tA b L k0 z0 xs E pc ls r o1 H1) :
    sw_G p l e R s mid args below meth c Q m A dC dI tA b L k0 z0 xs E pc ls (a.reverse ++ r) H := by
  obtain ⟨⟨hx, hb, hml, hown⟩, hts, hK, hA, ⟨-, -, -, hN, -⟩, ⟨hRc, hRs, hRf, hRl⟩, -⟩ := id X
  obtain ⟨hy, hlink⟩ := sw_PI_lt hi (by omega)
  obtain ⟨⟨f1, f2, f3, f4⟩, f5, f6, f7⟩ := sw_FM_at y hy
  obtain ⟨r1, r2⟩ := sw_rm_v hrm
  rw [if_pos hk] at f6
  have hst : Jvm.Cond.static (sw_nm y) ∈ sw_T := by
    rcases f7 with q | q | q
    · exact q.2
    · omega
    · omega
  refine sw_l_call X hM (fun ad Hm locs lsA h0 hsf hL hW hkk hz hmet hPc => ?_) hret hthr
  have S : CallFix p mid c (sw_by m) (sw_ml m) s args sw_T (sw_on (sw_ow m)) := ⟨hx, hb, hml, hown, hts⟩
  have hroom : (sw_rmm y H H1).frames + 1 ≤ R.frames ∧ 8 + (sw_ml y + 11) + (sw_rmm y H H1).locals ≤ R.locals := by
    constructor
    · show sw_fr y + 1 ≤ R.frames; omega
    · show 8 + (sw_ml y + 11) + sw_lo y ≤ R.locals; omega
  have hcat : 2 * (F0 mid pc lsA ((a.reverse ++ r).map (sw_cv ad))).monitorRoom + ((r.map (sw_cv ad)).map fun v => v.category).sum ≤ 8 := by
    rw [sw_cat_cv]
    show 2 * 0 + _ ≤ 8
    omega
  rcases hlink with hl1 | ⟨host, hl1, hl2⟩
  · cases hh : sw_hh y with
    | none =>
      exact vx_runS S hmet (va_cwS (sw_na y) hts (sw_goodS f2 hl1 hst f3) (congrArg (· :: sw_T) (sw_fw_no hh)) rfl rfl ⟨f5.1, f5.2, f6⟩ hroom) ⟨sw_Pc_blind, hPc⟩ rfl (by rw [List.length_map]; exact hl) hL.1 sw_stk hcat hd ⟨hkk, hz⟩
    | some hd9 =>
      exact vx_runSX S hmet (vx_cwSW (sw_na y) hts (sw_goodS f2 hl1 hst f3) (congrArg (· :: sw_T) (sw_fw_hh hh)) rfl rfl ⟨f5.1, f5.2, f6⟩ hroom) ⟨sw_Pc_blind, hPc⟩ rfl (by rw [List.length_map]; exact hl) hL.1 sw_stk hcat hd ⟨hkk, hz⟩
  · exact vx_runSN S hmet ⟨va_cnB (sw_na y) hts (sw_goodB f2) (congrArg (· :: sw_T) (sw_fw_no hl2)) rfl rfl (hN _ hl1) (hts _ f3) ⟨f5.1, f5.2, f6⟩ hroom, hts _ hst, trivial⟩ ⟨sw_Pc_blind, hPc⟩ rfl (by rw [List.length_map]; exact hl) hL.1 sw_stk hcat hd ⟨hkk, hz⟩
theorem sw_c_v (X : sw_Cx p l R s mid args meth c m A dC dI tA b L k0 z0 xs E) {y i b0 : Nat} {as : List Value} {o : Nat × List Value} {o1 : sw_Ot} {H1 : sw_HS} (hd : decode (sw_by m) pc = .ok (.invokevirtual i, 3)) (hi : sw_inv (sw_ow m) i = some y) (hk : sw_kd y = 1) (hrm : sw_rm m y = true) (hl : as.length + 1 = sw_na y) (hc : sw_cat r ≤ 8) (ho : H.1 b0 = .inl o) (hrx : sw_rx y = some o.1) (hM : sw_MC L xs y (.ref b0 :: as) H o1 H1)
    (hret : ∀ v, o1 = some v → sw_G p l e R s mid args below meth c Q m A dC dI tA b L k0 z0 xs E (pc + 3) ls (v.toList ++ r) H1)
    (hthr : sw_Th p l e R s mid args below meth c Q m A dC dI tA b L k0 z0 xs E pc ls r o1 H1) :
    sw_G p l e R s mid args below meth c Q m A dC dI tA b L k0 z0 xs E pc ls ((Value.ref b0 :: as).reverse ++ r) H := by
  intro hI
  obtain ⟨⟨hx, hb, hml, hown⟩, hts, hK, hA, ⟨-, -, -, hN, -⟩, ⟨hRc, hRs, hRf, hRl⟩, -⟩ := id X
  obtain ⟨hy, hlink⟩ := sw_PI_lt hi (by omega)
  obtain ⟨⟨f1, f2, f3, f4⟩, f5, f6, f7⟩ := sw_FM_at y hy
  obtain ⟨r1, r2⟩ := sw_rm_v hrm
  rw [if_neg (by omega)] at f6
  obtain ⟨-, g1, g2, g3, g4, ci, q, g5, g6, g7⟩ : sw_kd y = 1 ∧ 1 ≤ sw_na y ∧ Jvm.Cond.instanceMethod (sw_nm y) ∈ sw_T ∧ Jvm.Cond.selects (sw_nm y).cls (sw_nm y) (sw_nm y) ∈ sw_T ∧ sw_hh y = none ∧ ∃ (ci : Nat) (q : vw_C), sw_rx y = some ci ∧ sw_cl[ci]? = some q ∧ q.1 = (sw_nm y).cls := by
    rcases f7 with q | q | q
    · omega
    · exact q
    · omega
  cases Option.some.inj (g5.symm.trans hrx)
  refine sw_l_call X hM (fun ad Hm locs lsA h0 hsf hL hW hkk hz hmet hPc => ?_) hret hthr hI
  have S : CallFix p mid c (sw_by m) (sw_ml m) s args sw_T (sw_on (sw_ow m)) := ⟨hx, hb, hml, hown, hts⟩
  have hroom : (sw_rmm y H H1).frames + 1 ≤ R.frames ∧ 8 + (sw_ml y + 11) + (sw_rmm y H H1).locals ≤ R.locals := by
    constructor
    · show sw_fr y + 1 ≤ R.frames; omega
    · show 8 + (sw_ml y + 11) + sw_lo y ≤ R.locals; omega
  have hcat : 2 * (F0 mid pc lsA (((Value.ref b0 :: as).reverse ++ r).map (sw_cv ad))).monitorRoom + ((r.map (sw_cv ad)).map fun v => v.category).sum ≤ 8 := by
    rw [sw_cat_cv]
    show 2 * 0 + _ ≤ 8
    omega
  have hlen : (as.map (sw_cv ad)).length = sw_na y - 1 := by rw [List.length_map]; omega
  have hb0 : ¬ b0 = 0 := by
    rintro rfl
    rw [hI.1.2.1] at ho
    cases ho
  have hb1 : b0 < H.2.1 := (sw_sf_cons.mp hsf).1
  have hw := sw_wo_at (tA := tA) (ad := ad) (H := H) (Nat.pos_of_ne_zero hb0) hb1
  rw [ho] at hw
  have hrec := va_recv hK hW.1 g6 hw
  rw [g7] at hrec
  rcases hlink with hl1 | ⟨host, hl1, hl2⟩
  · exact vx_runV S hmet (cwV (sw_na y - 1) hts (sw_goodV f2 hl1 g2 g3 f3) (congrArg (· :: sw_T) (sw_fw_no g4)) rfl rfl ⟨rfl, f5.1, f5.2, f6⟩ hroom) ⟨sw_Pc_blind, hrec, hPc⟩ rfl hlen hL.1 sw_stk2 hcat hd ⟨hkk, hz⟩
  · exact vx_runVN S hmet ⟨va_cnB (sw_na y - 1) hts (sw_goodB f2) (congrArg (· :: sw_T) (sw_fw_no hl2)) rfl rfl (hN _ hl1) (hts _ f3) ⟨f5.1, f5.2, f6⟩ hroom, hts _ g2, hts _ g3⟩ ⟨sw_Pc_blind, hrec, hPc⟩ rfl hlen hL.1 sw_stk2 hcat hd ⟨hkk, hz⟩
theorem sw_c_i (X : sw_Cx p l R s mid args meth c m A dC dI tA b L k0 z0 xs E) {y i b0 : Nat} {as : List Value} {o1 : sw_Ot} {H1 : sw_HS} (hd : decode (sw_by m) pc = .ok (.invokespecial i, 3)) (hi : sw_inv (sw_ow m) i = some y) (hk : sw_kd y = 2) (hrm : sw_rm m y = true) (hl : as.length + 1 = sw_na y) (hc : sw_cat r ≤ 8) (hM : sw_MC L xs y (.ref b0 :: as) H o1 H1)
    (hret : ∀ v, o1 = some v → sw_G p l e R s mid args below meth c Q m A dC dI tA b L k0 z0 xs E (pc + 3) ls (v.toList ++ r) H1)
    (hthr : sw_Th p l e R s mid args below meth c Q m A dC dI tA b L k0 z0 xs E pc ls r o1 H1) :
    sw_G p l e R s mid args below meth c Q m A dC dI tA b L k0 z0 xs E pc ls ((Value.ref b0 :: as).reverse ++ r) H := by
  obtain ⟨⟨hx, hb, hml, hown⟩, hts, hK, hA, ⟨-, -, -, hN, -⟩, ⟨hRc, hRs, hRf, hRl⟩, -⟩ := id X
  obtain ⟨hy, hlink⟩ := sw_PI_lt hi (by omega)
  obtain ⟨⟨f1, f2, f3, f4⟩, f5, f6, f7⟩ := sw_FM_at y hy
  obtain ⟨r1, r2⟩ := sw_rm_v hrm
  rw [if_neg (by omega)] at f6
  obtain ⟨-, g1, g2, g3, g5, g4⟩ : sw_kd y = 2 ∧ 1 ≤ sw_na y ∧ Jvm.Cond.instanceMethod (sw_nm y) ∈ sw_T ∧ (sw_nm y).name = "<init>" ∧ sw_rt y = none ∧ sw_hh y = none := by
    rcases f7 with q | q | q
    · omega
    · omega
    · exact q
  refine sw_l_call X hM (fun ad Hm locs lsA h0 hsf hL hW hkk hz hmet hPc => ?_) hret hthr
  have S : CallFix p mid c (sw_by m) (sw_ml m) s args sw_T (sw_on (sw_ow m)) := ⟨hx, hb, hml, hown, hts⟩
  have hroom : (sw_rmm y H H1).frames + 1 ≤ R.frames ∧ 8 + (sw_ml y + 11) + (sw_rmm y H H1).locals ≤ R.locals := by
    constructor
    · show sw_fr y + 1 ≤ R.frames; omega
    · show 8 + (sw_ml y + 11) + sw_lo y ≤ R.locals; omega
  have hcat : 2 * (F0 mid pc lsA (((Value.ref b0 :: as).reverse ++ r).map (sw_cv ad))).monitorRoom + ((r.map (sw_cv ad)).map fun v => v.category).sum ≤ 8 := by
    rw [sw_cat_cv]
    show 2 * 0 + _ ≤ 8
    omega
  have hlen : (as.map (sw_cv ad)).length = sw_na y - 1 := by rw [List.length_map]; omega
  have hfw : sw_fw y = .code (sw_nm y) (sw_by y) (sw_ml y) none := by rw [sw_fw_no g4, g5]
  rcases hlink with hl1 | ⟨host, hl1, hl2⟩
  · exact vx_runI S hmet (cwI (sw_na y - 1) hts (sw_goodB f2) (congrArg (· :: sw_T) hfw) rfl rfl (hts _ f3) (hts _ hl1) (hts _ g2) g3 ⟨f5.1, f5.2, f6⟩ hroom) ⟨sw_Pc_blind, hPc⟩ rfl hlen hL.1 sw_stk2 hcat hd ⟨hkk, hz⟩
  · exact vx_runIN S hmet ⟨va_cnB (sw_na y - 1) hts (sw_goodB f2) (congrArg (· :: sw_T) hfw) rfl rfl (hN _ hl1) (hts _ f3) ⟨f5.1, f5.2, f6⟩ hroom, g3, hts _ g2⟩ ⟨sw_Pc_blind, hPc⟩ rfl hlen hL.1 sw_stk2 hcat hd ⟨hkk, hz⟩
end sw_Ls
