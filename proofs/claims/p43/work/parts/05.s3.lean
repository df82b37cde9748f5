theorem sw_df_nr {ci : Nat} : ∀ v ∈ sw_df ci, v = .null ∨ v = .int 0 := by
  intro v hv
  unfold sw_df at hv
  cases h : sw_dfL[ci]? with
  | none => rw [h] at hv; simp at hv
  | some l =>
    rw [h] at hv
    have h1 : ∀ l ∈ sw_dfL, ∀ v ∈ l, v = Value.null ∨ v = Value.int 0 := by simp [sw_dfL]
    exact h1 l (List.mem_of_getElem? h) v hv
theorem sw_df_cv {ci : Nat} {ad : Nat → Nat} : (sw_df ci).map (sw_cv ad) = sw_df ci := by
  have : ∀ v ∈ sw_df ci, sw_cv ad v = v := by
    intro v hv
    rcases sw_df_nr v hv with rfl | rfl <;> rfl
  rw [List.map_congr_left this, List.map_id'']
  intro; rfl
theorem sw_df_rf {ci n : Nat} : ∀ v ∈ sw_df ci, sw_rf n v := by
  intro v hv
  rcases sw_df_nr v hv with rfl | rfl <;> trivial
theorem sw_wr_in {L : Nat} {xs : Nat → Int32} {nL : Nat} {ls : sw_LS} {st st2 : List Value} {H : sw_HS} {a : Nat} {cl : sw_Ce} (h : sw_In L xs nL ls st H) (ha : ¬ a = 0) (hc : ∀ o, cl = .inl o → ∀ v ∈ o.2, sw_rf H.2.1 v) (hs : sw_sf H.2.1 st2) : sw_In L xs nL ls st2 (sw_wr H a cl) := by
  obtain ⟨⟨h1, h2, h3⟩, h4, h5, h6⟩ := h
  refine ⟨⟨h1, ?_, ?_⟩, h4, h5, hs⟩
  · show sw_up H.1 a cl 0 = _
    unfold sw_up
    rw [if_neg (fun q => ha q.symm)]
    exact h2
  · intro j hj o ho
    have ho : sw_up H.1 a cl j = .inl o := ho
    unfold sw_up at ho
    split at ho
    · exact hc o ho
    · exact h3 j hj o ho
theorem sw_mk_in {L : Nat} {xs : Nat → Int32} {nL : Nat} {ls : sw_LS} {st r : List Value} {H : sw_HS} {cl : sw_Ce} {len : Nat} (h : sw_In L xs nL ls st H) (hc : ∀ o, cl = .inl o → ∀ v ∈ o.2, sw_rf H.2.1 v) (hs : sw_sf H.2.1 r) : sw_In L xs nL ls (.ref H.2.1 :: r) (sw_mk H cl len) := by
  obtain ⟨⟨h1, h2, h3⟩, h4, h5, h6⟩ := h
  have up : ∀ v, sw_rf H.2.1 v → sw_rf (H.2.1 + 1) v := fun v => sw_rf_up (Nat.le_succ _)
  refine ⟨⟨Nat.le_succ_of_le h1, ?_, ?_⟩, h4, fun v hv => up v (h5 v hv), sw_sf_cons.mpr ⟨Nat.lt_succ_self _, fun v hv => up v (hs v hv)⟩⟩
  · show sw_up H.1 H.2.1 cl 0 = _
    unfold sw_up
    rw [if_neg (by omega)]
    exact h2
  · intro j hj o ho
    have ho : sw_up H.1 H.2.1 cl j = .inl o := ho
    have hj : j < H.2.1 + 1 := hj
    unfold sw_up at ho
    split at ho
    · exact fun v hv => up v (hc o ho v hv)
    · exact fun v hv => up v (h3 j (by omega) o ho v hv)
theorem sw_K_ty {dC : Nat → ClassId} {dI : Nat → Nat → Nat} {tA : Nat → ClassId} {s : State} (h : va_K (dC, dI) sw_cl (sw_ty tA) s) : s.vm.findClass ("[" ++ FieldType.int.toString) = some (tA 0) ∧ s.vm.findClass ("[" ++ FieldType.boolean.toString) = some (tA 1) ∧ s.vm.findClass ("[" ++ FieldType.byte.toString) = some (tA 2) :=
  ⟨(h.2 0 _ rfl).2, (h.2 1 _ rfl).2, (h.2 2 _ rfl).2⟩
theorem sw_okv_v {kd ty : Nat} {v : Value} (h : sw_okv kd ty v = true) : (ty = 0 ∧ ∃ x, v = .int x) ∨ (ty = 1 ∧ kd = 2 ∧ ∃ a, v = .ref a) ∨ (ty = 2 ∧ v = .int 0) ∨ (ty = 4 ∧ ∃ a, v = .ref a) := by
  unfold sw_okv at h
  split at h
  · exact Or.inl ⟨rfl, _, rfl⟩
  · exact Or.inr (Or.inl ⟨rfl, beq_iff_eq.mp h, _, rfl⟩)
  · exact Or.inr (Or.inr (Or.inl ⟨rfl, by rw [beq_iff_eq.mp h]⟩))
  · exact Or.inr (Or.inr (Or.inr ⟨rfl, _, rfl⟩))
  · cases h
section sw_Lq
variable {p : Program} {l : Launch} {e : Env} {R : Room} {s : State} {mid : MethodId} {args : Array Value} {below : List Frame} {meth : Method} {c : Code} {Q : State → Prop} {m : Nat} {A : Nat → Prop} {dC : Nat → ClassId} {dI : Nat → Nat → Nat} {tA : Nat → ClassId} {b : sw_B} {L k0 z0 : Nat} {xs : Nat → Int32} {E : sw_Ot × sw_HS}
variable {pc : Nat} {ls : sw_LS} {r : List Value} {H : sw_HS}
theorem sw_l_if (X : sw_Cx p l R s mid args meth c m A dC dI tA b L k0 z0 xs E) {x : Int32} {cd : ClassFile.Cond} {o : Int} {t : Nat} (ht : (pc : Int) + o = t) (hd : decode (sw_by m) pc = .ok (.ifCond cd o, 3))
    (h : sw_cm cd x 0 (sw_G p l e R s mid args below meth c Q m A dC dI tA b L k0 z0 xs E t ls r H) (sw_G p l e R s mid args below meth c Q m A dC dI tA b L k0 z0 xs E (pc + 3) ls r H)) : sw_G p l e R s mid args below meth c Q m A dC dI tA b L k0 z0 xs E pc ls (.int x :: r) H := by
  obtain ⟨⟨hx, hb, hml, hown⟩, -⟩ := X
  have hs : sw_sf H.2.1 (.int x :: r) → (∀ v, some v ∈ ls → sw_rf H.2.1 v) → sw_sf H.2.1 r := fun hs _ => (sw_sf_cons.mp hs).2
  cases cd <;> simp only [sw_cm] at h <;> split at h
  · next q => exact sw_G_st hs (fun _ _ _ _ _ k => lv_if_eq hx hb hd ht (fun _ => k) (fun z => absurd q z)) h
  · next q => exact sw_G_st hs (fun _ _ _ _ _ k => lv_if_eq hx hb hd ht (fun z => absurd z q) (fun _ => k)) h
  · next q => exact sw_G_st hs (fun _ _ _ _ _ k => lv_if_ne hx hb hd ht (fun _ => k) (fun z => absurd z q)) h
  · next q => exact sw_G_st hs (fun _ _ _ _ _ k => lv_if_ne hx hb hd ht (fun z => absurd z q) (fun _ => k)) h
  · next q => exact sw_G_st hs (fun _ _ _ _ _ k => lv_if_lt hx hb hd ht (fun _ => k) (fun z => absurd q z)) h
  · next q => exact sw_G_st hs (fun _ _ _ _ _ k => lv_if_lt hx hb hd ht (fun z => absurd z q) (fun _ => k)) h
  · next q => exact sw_G_st hs (fun _ _ _ _ _ k => lv_if_ge hx hb hd ht (fun _ => k) (fun z => absurd q z)) h
  · next q => exact sw_G_st hs (fun _ _ _ _ _ k => lv_if_ge hx hb hd ht (fun z => absurd z q) (fun _ => k)) h
  · next q => exact sw_G_st hs (fun _ _ _ _ _ k => lv_if_gt hx hb hd ht (fun _ => k) (fun z => absurd q z)) h
  · next q => exact sw_G_st hs (fun _ _ _ _ _ k => lv_if_gt hx hb hd ht (fun z => absurd z q) (fun _ => k)) h
  · next q => exact sw_G_st hs (fun _ _ _ _ _ k => lv_if_le hx hb hd ht (fun _ => k) (fun z => absurd q z)) h
  · next q => exact sw_G_st hs (fun _ _ _ _ _ k => lv_if_le hx hb hd ht (fun z => absurd z q) (fun _ => k)) h
theorem sw_l_icmp (X : sw_Cx p l R s mid args meth c m A dC dI tA b L k0 z0 xs E) {x y : Int32} {cd : ClassFile.Cond} {o : Int} {t : Nat} (ht : (pc : Int) + o = t) (hd : decode (sw_by m) pc = .ok (.if_icmp cd o, 3))
    (h : sw_cm cd x y (sw_G p l e R s mid args below meth c Q m A dC dI tA b L k0 z0 xs E t ls r H) (sw_G p l e R s mid args below meth c Q m A dC dI tA b L k0 z0 xs E (pc + 3) ls r H)) : sw_G p l e R s mid args below meth c Q m A dC dI tA b L k0 z0 xs E pc ls (.int y :: .int x :: r) H := by
  obtain ⟨⟨hx, hb, hml, hown⟩, -⟩ := X
  have hs : sw_sf H.2.1 (.int y :: .int x :: r) → (∀ v, some v ∈ ls → sw_rf H.2.1 v) → sw_sf H.2.1 r := fun hs _ => (sw_sf_cons.mp (sw_sf_cons.mp hs).2).2
  cases cd <;> simp only [sw_cm] at h <;> split at h
  · next q => exact sw_G_st hs (fun _ _ _ _ _ k => lv_icmp_eq hx hb hd ht (fun _ => k) (fun z => absurd q z)) h
  · next q => exact sw_G_st hs (fun _ _ _ _ _ k => lv_icmp_eq hx hb hd ht (fun z => absurd z q) (fun _ => k)) h
  · next q => exact sw_G_st hs (fun _ _ _ _ _ k => lv_icmp_ne hx hb hd ht (fun _ => k) (fun z => absurd z q)) h
  · next q => exact sw_G_st hs (fun _ _ _ _ _ k => lv_icmp_ne hx hb hd ht (fun z => absurd z q) (fun _ => k)) h
  · next q => exact sw_G_st hs (fun _ _ _ _ _ k => lv_icmp_lt hx hb hd ht (fun _ => k) (fun z => absurd q z)) h
  · next q => exact sw_G_st hs (fun _ _ _ _ _ k => lv_icmp_lt hx hb hd ht (fun z => absurd z q) (fun _ => k)) h
  · next q => exact sw_G_st hs (fun _ _ _ _ _ k => lv_icmp_ge hx hb hd ht (fun _ => k) (fun z => absurd q z)) h
  · next q => exact sw_G_st hs (fun _ _ _ _ _ k => lv_icmp_ge hx hb hd ht (fun z => absurd z q) (fun _ => k)) h
  · next q => exact sw_G_st hs (fun _ _ _ _ _ k => lv_icmp_gt hx hb hd ht (fun _ => k) (fun z => absurd q z)) h
  · next q => exact sw_G_st hs (fun _ _ _ _ _ k => lv_icmp_gt hx hb hd ht (fun z => absurd z q) (fun _ => k)) h
  · next q => exact sw_G_st hs (fun _ _ _ _ _ k => lv_icmp_le hx hb hd ht (fun _ => k) (fun z => absurd q z)) h
  · next q => exact sw_G_st hs (fun _ _ _ _ _ k => lv_icmp_le hx hb hd ht (fun z => absurd z q) (fun _ => k)) h
theorem sw_l_ts (X : sw_Cx p l R s mid args meth c m A dC dI tA b L k0 z0 xs E) {x : Int32} {d lo hi : Int} {os : Array Int} {len : Nat} (hd : decode (sw_by m) pc = .ok (.tableswitch d lo hi os, len))
    (h : sw_ts False pc x d lo hi os fun t => sw_G p l e R s mid args below meth c Q m A dC dI tA b L k0 z0 xs E t ls r H) : sw_G p l e R s mid args below meth c Q m A dC dI tA b L k0 z0 xs E pc ls (.int x :: r) H := by
  obtain ⟨⟨hx, hb, hml, hown⟩, -⟩ := X
  have hs : sw_sf H.2.1 (.int x :: r) → (∀ v, some v ∈ ls → sw_rf H.2.1 v) → sw_sf H.2.1 r := fun hs _ => (sw_sf_cons.mp hs).2
  unfold sw_ts at h
  split at h
  · next q =>
    obtain ⟨t, ht, h⟩ := sw_jp_v h
    exact sw_G_st hs (fun _ _ _ _ _ k => lv_tableOut hx hb hd q ht k) h
  · next q =>
    split at h
    · next o ho =>
      obtain ⟨t, ht, h⟩ := sw_jp_v h
      exact sw_G_st hs (fun _ _ _ _ _ k => lv_tableIn hx hb hd (fun z => q (Or.inl z)) (fun z => q (Or.inr z)) ho ht k) h
    · exact h.elim
theorem sw_l_ald (X : sw_Cx p l R s mid args meth c m A dC dI tA b L k0 z0 xs E) {a : Nat} {i : Int32} {t : Nat} (ht : (t = 0 ∧ decode (sw_by m) pc = .ok (.iaload, 1)) ∨ (t = 1 ∧ decode (sw_by m) pc = .ok (.baload, 1)))
    (h : sw_ald False H t a i fun x => sw_G p l e R s mid args below meth c Q m A dC dI tA b L k0 z0 xs E (pc + 1) ls (.int x :: r) H) : sw_G p l e R s mid args below meth c Q m A dC dI tA b L k0 z0 xs E pc ls (.int i :: .ref a :: r) H := by
  obtain ⟨⟨hx, hb, hml, hown⟩, hts, hK, hA, ⟨hX, hbl, hbA, -⟩, -⟩ := X
  unfold sw_ald at h
  split at h
  · next cl hcl =>
    obtain ⟨⟨q1, q2, q3⟩, h⟩ := sw_ite_v h
    refine sw_G_gen ?_ (sw_Le.rf H) ?_ h
    · exact fun h => ⟨h.1, h.2.1, h.2.2.1, sw_sf_cons.mpr ⟨trivial, (sw_sf_cons.mp (sw_sf_cons.mp h.2.2.2).2).2⟩⟩
    intro hI _ ad Hm locs lsA h0 hL hW hk hz kk
    have k := kk ad Hm locs lsA h0 hL hW
    obtain ⟨hP, hD, hS⟩ := hW
    have ha : a < H.2.1 := (sw_sf_cons.mp (sw_sf_cons.mp hI.2.2.2).2).1
    have hi : vp_in i cl.2.1 := vp_in_iff.mpr ⟨q2, q3⟩
    by_cases ha0 : a = 0
    · subst ha0
      have e1 : cl = (0, L, xs) := Sum.inr.inj (hcl.symm.trans hI.1.2.1)
      subst e1
      rcases ht with ⟨rfl, hd⟩ | ⟨rfl, hd⟩
      · have k2 := va_sld hx hb hX hbl hbA hS hi hd k
        rw [← h0.1] at k2
        exact k2
      · cases q1
    · have hw := sw_wo_at (tA := tA) (ad := ad) (H := H) (Nat.pos_of_ne_zero ha0) ha
      rw [hcl] at hw
      obtain ⟨t0, n0, f0⟩ := cl
      cases q1
      rcases ht with ⟨rfl, hd⟩ | ⟨rfl, hd⟩
      · exact va_iald hx hb hK hP (a - 1) 0 hw rfl hi hd k
      · exact va_zald hx hb hK hP (a - 1) 1 hw rfl hi hd k
  · exact h.elim
theorem sw_l_ast (X : sw_Cx p l R s mid args meth c m A dC dI tA b L k0 z0 xs E) {a : Nat} {i x y : Int32} {t : Nat} (ht : (t = 0 ∧ y = x ∧ decode (sw_by m) pc = .ok (.iastore, 1)) ∨ (t = 1 ∧ y = (x &&& 1) ∧ decode (sw_by m) pc = .ok (.bastore, 1)))
    (h : sw_ast False H t a i y fun H1 => sw_G p l e R s mid args below meth c Q m A dC dI tA b L k0 z0 xs E (pc + 1) ls r H1) : sw_G p l e R s mid args below meth c Q m A dC dI tA b L k0 z0 xs E pc ls (.int x :: .int i :: .ref a :: r) H := by
  obtain ⟨⟨hx, hb, hml, hown⟩, hts, hK, hA, -⟩ := X
  unfold sw_ast at h
  split at h
  · next cl hcl =>
    obtain ⟨⟨⟨q1, q4⟩, q2, q3⟩, h⟩ := sw_ite_v h
    have sf : sw_sf H.2.1 (.int x :: .int i :: .ref a :: r) → a < H.2.1 ∧ sw_sf H.2.1 r := fun h => sw_sf_cons.mp (sw_sf_cons.mp (sw_sf_cons.mp h).2).2
    refine sw_G_gen ?_ ?_ ?_ h
    rotate_left
    · exact sw_Le.rf H
    rotate_left
    · exact fun h => sw_wr_in h q4 (fun o ho => nomatch ho) (sf h.2.2.2).2
    intro hI _ ad Hm locs lsA h0 hL hW hk hz kk
    obtain ⟨hP, hD, hS⟩ := hW
    have ha : a < H.2.1 := (sf hI.2.2.2).1
    have hi : vp_in i cl.2.1 := vp_in_iff.mpr ⟨q2, q3⟩
    have hw := sw_wo_at (tA := tA) (ad := ad) (H := H) (Nat.pos_of_ne_zero q4) ha
    rw [hcl] at hw
    obtain ⟨t0, n0, f0⟩ := cl
    cases q1
    rcases ht with ⟨rfl, rfl, hd⟩ | ⟨rfl, rfl, hd⟩
    · refine va_iast hx hb hK hP hD hS (a - 1) 0 hw rfl hi hd (fun H1 locs1 hP1 hD1 hS1 => ?_)
      have e := sw_wo_set (tA := tA) (ad := ad) (H := H) (c := .inr (0, n0, upd f0 i.toNatClampNeg y)) (Nat.pos_of_ne_zero q4) ha
      exact kk ad H1 locs1 lsA h0 hL ⟨by rw [← e]; exact hP1, by rw [← e]; exact hD1, hS1⟩
    · refine va_zast hx hb hK hP hD hS (a - 1) 1 hw rfl hi hd (fun H1 locs1 hP1 hD1 hS1 => ?_)
      have e := sw_wo_set (tA := tA) (ad := ad) (H := H) (c := .inr (1, n0, upd f0 i.toNatClampNeg (x &&& 1))) (Nat.pos_of_ne_zero q4) ha
      exact kk ad H1 locs1 lsA h0 hL ⟨by rw [← e]; exact hP1, by rw [← e]; exact hD1, hS1⟩
  · exact h.elim
theorem sw_l_aln (X : sw_Cx p l R s mid args meth c m A dC dI tA b L k0 z0 xs E) {a : Nat} (hd : decode (sw_by m) pc = .ok (.arraylength, 1))
    (h : sw_aln False H a fun x => sw_G p l e R s mid args below meth c Q m A dC dI tA b L k0 z0 xs E (pc + 1) ls (.int x :: r) H) : sw_G p l e R s mid args below meth c Q m A dC dI tA b L k0 z0 xs E pc ls (.ref a :: r) H := by
  obtain ⟨⟨hx, hb, hml, hown⟩, hts, hK, hA, ⟨hX, hbl, hbA, -⟩, -⟩ := X
  unfold sw_aln at h
  split at h
  · next cl hcl =>
    obtain ⟨q1, h⟩ := sw_ite_v h
    refine sw_G_gen ?_ (sw_Le.rf H) ?_ h
    · exact fun h => ⟨h.1, h.2.1, h.2.2.1, sw_sf_cons.mpr ⟨trivial, (sw_sf_cons.mp h.2.2.2).2⟩⟩
    intro hI _ ad Hm locs lsA h0 hL hW hk hz kk
    have k := kk ad Hm locs lsA h0 hL hW
    obtain ⟨hP, hD, hS⟩ := hW
    have ha : a < H.2.1 := (sw_sf_cons.mp hI.2.2.2).1
    by_cases ha0 : a = 0
    · subst ha0
      have e1 : cl = (0, L, xs) := Sum.inr.inj (hcl.symm.trans hI.1.2.1)
      subst e1
      have k2 := va_slen hx hb hX hbl hbA hS hd k
      rw [← h0.1] at k2
      exact k2
    · have hw := sw_wo_at (tA := tA) (ad := ad) (H := H) (Nat.pos_of_ne_zero ha0) ha
      rw [hcl] at hw
      obtain ⟨t0, n0, f0⟩ := cl
      have q1 : t0 < 3 := q1
      have ht : ∃ ty, (sw_ty tA)[t0]? = some (tA t0, ty) := by
        match t0, q1 with
        | 0, _ => exact ⟨_, rfl⟩
        | 1, _ => exact ⟨_, rfl⟩
        | 2, _ => exact ⟨_, rfl⟩
      obtain ⟨ty, ht⟩ := ht
      exact va_alen hx hb hK hP (a - 1) t0 (x := (n0, .inl f0)) hw ht rfl hd k
  · exact h.elim
theorem sw_l_get (X : sw_Cx p l R s mid args meth c m A dC dI tA b L k0 z0 xs E) {a i : Nat} (hd : decode (sw_by m) pc = .ok (.getfield i, 3))
    (h : sw_gf False H (sw_fld (sw_ow m) i) a fun v => sw_G p l e R s mid args below meth c Q m A dC dI tA b L k0 z0 xs E (pc + 3) ls (v :: r) H) : sw_G p l e R s mid args below meth c Q m A dC dI tA b L k0 z0 xs E pc ls (.ref a :: r) H := by
  obtain ⟨⟨hx, hb, hml, hown⟩, hts, hK, hA, ⟨hX, hbl, hbA, hN, -⟩, -⟩ := X
  unfold sw_gf at h
  split at h
  · exact h.elim
  · next e0 he0 =>
    obtain ⟨hci, C, T, N, hcl, hkN, ty, hty, hlink⟩ := sw_PF_at he0
    obtain ⟨C9, T9, N9, ty9, g1, g2, g3, g4, -⟩ := sw_FC_at e0.1 hci
    cases Option.some.inj (hcl.symm.trans g1)
    split at h
    · next o ho =>
      obtain ⟨q1, h⟩ := sw_ite_v h
      split at h
      · next v hv =>
        have ha0 : sw_In L xs (sw_ml m) ls (.ref a :: r) H → ¬ a = 0 := by
          rintro hI rfl
          rw [hI.1.2.1] at ho
          cases ho
        refine sw_G_gen (fun hI => ⟨hI.1, hI.2.1, hI.2.2.1, sw_sf_cons.mpr ⟨hI.1.2.2 a (sw_sf_cons.mp hI.2.2.2).1 o ho v (List.mem_of_getElem? hv), (sw_sf_cons.mp hI.2.2.2).2⟩⟩) (sw_Le.rf H) (fun hI _ ad Hm locs lsA h0 hL hW hk hz kk => ?_) h
        have k := kk ad Hm locs lsA h0 hL hW
        obtain ⟨hP, hD, hS⟩ := hW
        have ha : a < H.2.1 := (sw_sf_cons.mp hI.2.2.2).1
        have hw := sw_wo_at (tA := tA) (ad := ad) (H := H) (Nat.pos_of_ne_zero (ha0 hI)) ha
        rw [ho] at hw
        obtain ⟨ci, fs⟩ := o
        have q1 : ci = e0.1 := q1
        subst q1
        have hv2 : (fs.map (sw_cv ad))[e0.2.1]? = some (sw_cv ad v) := by rw [List.getElem?_map, show fs[e0.2.1]? = some v from hv]; rfl
        rcases hlink with ⟨hl, -⟩ | ⟨-, host, hl⟩
        · exact va_get hx hb hts g2 hown hK hP (a - 1) hw hcl e0.2.1 hkN (hts _ hl) (fun _ q => q) hv2 hd k
        · exact va_getN hx hb hts g2 hown hK hP (a - 1) hw hcl e0.2.1 hkN (va_Nw.use rfl (hN _ hl)) (fun _ q => q) hv2 hd k
      · exact h.elim
    · exact h.elim
theorem sw_l_put (X : sw_Cx p l R s mid args meth c m A dC dI tA b L k0 z0 xs E) {a i : Nat} {v : Value} (hd : decode (sw_by m) pc = .ok (.putfield i, 3))
    (h : sw_pf False H (sw_fld (sw_ow m) i) (sw_kd m) a v fun H1 => sw_G p l e R s mid args below meth c Q m A dC dI tA b L k0 z0 xs E (pc + 3) ls r H1) : sw_G p l e R s mid args below meth c Q m A dC dI tA b L k0 z0 xs E pc ls (v :: .ref a :: r) H := by
  obtain ⟨⟨hx, hb, hml, hown⟩, hts, hK, hA, -, -, hini, -⟩ := X
  unfold sw_pf at h
  split at h
  · exact h.elim
  · next e0 he0 =>
    obtain ⟨hci, C, T, N, hcl, hkN, ty, hty, hlink⟩ := sw_PF_at he0
    obtain ⟨C9, T9, N9, ty9, g1, g2, g3, g4, -⟩ := sw_FC_at e0.1 hci
    cases Option.some.inj (hcl.symm.trans g1)
    split at h
    · next o ho =>
      obtain ⟨⟨q1, q2, q3⟩, h⟩ := sw_ite_v h
      have sf : sw_sf H.2.1 (v :: .ref a :: r) → sw_rf H.2.1 v ∧ a < H.2.1 ∧ sw_sf H.2.1 r := fun h => ⟨(sw_sf_cons.mp h).1, sw_sf_cons.mp (sw_sf_cons.mp h).2⟩
      have ha0 : sw_In L xs (sw_ml m) ls (v :: .ref a :: r) H → ¬ a = 0 := by
        rintro hI rfl
        rw [hI.1.2.1] at ho
        cases ho
      refine sw_G_gen (fun hI => sw_wr_in hI (ha0 hI) (fun o2 ho2 w hw => ?_) (sf hI.2.2.2).2.2) (sw_Le.rf H) (fun hI _ ad Hm locs lsA h0 hL hW hk hz kk => ?_) h
      · cases ho2
        rcases List.mem_or_eq_of_mem_set hw with q | q
        · exact hI.1.2.2 a (sf hI.2.2.2).2.1 o ho w q
        · rw [q]; exact (sf hI.2.2.2).1
      · obtain ⟨hP, hD, hS⟩ := hW
        have ha : a < H.2.1 := (sf hI.2.2.2).2.1
        have hap := Nat.pos_of_ne_zero (ha0 hI)
        have hw := sw_wo_at (tA := tA) (ad := ad) (H := H) hap ha
        rw [ho] at hw
        obtain ⟨ci, fs⟩ := o
        have q1 : ci = e0.1 := q1
        subst q1
        have q2 : e0.2.1 < (fs.map (sw_cv ad)).length := by rw [List.length_map]; exact q2
        have e9 := sw_wo_set (tA := tA) (ad := ad) (H := H) (c := .inl (e0.1, fs.set e0.2.1 v)) hap ha
        have e8 : sw_ce tA ad (.inl (e0.1, fs.set e0.2.1 v)) = .inr (e0.1, (fs.map (sw_cv ad)).set e0.2.1 (sw_cv ad v)) := by
          simp only [sw_ce, List.map_set]
        rw [e8] at e9
        have kk2 : ∀ (H1 : Heap) (locs1 : List Loc), va_P (dC, dI) sw_cl ((sw_wo tA ad H).set (a - 1) (ad a, .inr (e0.1, (fs.map (sw_cv ad)).set e0.2.1 (sw_cv ad v)))) H1 → va_D A ((sw_wo tA ad H).set (a - 1) (ad a, .inr (e0.1, (fs.map (sw_cv ad)).set e0.2.1 (sw_cv ad v)))) → va_S A s.heap H1 locs1 → sw_Wx p l e R s mid args below meth c Q k0 z0 ad (sw_wr H a (.inl (e0.1, fs.set e0.2.1 v))) H1 locs1 (pc + 3) lsA r := by
          intro H1 locs1 hP1 hD1 hS1
          rw [e9] at hP1 hD1
          exact kk ad H1 locs1 lsA h0 hL ⟨hP1, hD1, hS1⟩
        rcases hlink with ⟨hl, t0, t1, t2, t4⟩ | ⟨ht3, -⟩
        · rcases sw_okv_v q3 with ⟨hty0, x, rfl⟩ | ⟨hty1, hk2, x, rfl⟩ | ⟨hty2, rfl⟩ | ⟨hty4, x, rfl⟩
          · obtain ⟨f1, rfl⟩ := t0 hty0
            exact va_put hx hb hts g2 ty9 g4 g3 hown hK hP hD hS (a - 1) hw hcl e0.2.1 hkN (hts _ hl) (fun _ q => q) f1 hty rfl rfl q2 hd kk2
          · obtain ⟨f1, f2, f3⟩ := t1 hty1
            have hin2 := hini hk2
            rcases f3 with ⟨nm, rfl⟩ | ⟨tt, rfl⟩
            · exact va_putF hx hb hts g2 ty9 g4 g3 hown hK hP hD hS (a - 1) hw hcl e0.2.1 hkN (hts _ hl) (fun _ q => q) f1 hin2 f2 hty rfl rfl q2 hd kk2
            · exact va_putF hx hb hts g2 ty9 g4 g3 hown hK hP hD hS (a - 1) hw hcl e0.2.1 hkN (hts _ hl) (fun _ q => q) f1 hin2 f2 hty rfl rfl q2 hd kk2
          · obtain ⟨f1, rfl⟩ := t2 hty2
            exact va_put hx hb hts g2 ty9 g4 g3 hown hK hP hD hS (a - 1) hw hcl e0.2.1 hkN (hts _ hl) (fun _ q => q) f1 hty rfl rfl q2 hd kk2
          · obtain ⟨f1, f3⟩ := t4 hty4
            rcases f3 with ⟨nm, rfl⟩ | ⟨tt, rfl⟩
            · exact va_put hx hb hts g2 ty9 g4 g3 hown hK hP hD hS (a - 1) hw hcl e0.2.1 hkN (hts _ hl) (fun _ q => q) f1 hty rfl rfl q2 hd kk2
            · exact va_put hx hb hts g2 ty9 g4 g3 hown hK hP hD hS (a - 1) hw hcl e0.2.1 hkN (hts _ hl) (fun _ q => q) f1 hty rfl rfl q2 hd kk2
        · rcases sw_okv_v q3 with ⟨q, -⟩ | ⟨q, -⟩ | ⟨q, -⟩ | ⟨q, -⟩ <;> rw [ht3] at q <;> cases q
    · exact h.elim
end sw_Lq
