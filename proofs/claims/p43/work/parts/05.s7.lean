theorem sw_rk_all : ∀ k, k < 151 → (sw_rk k = 0 → sw_rt k = none) ∧ (sw_rk k = 1 → sw_rt k = some .int) ∧ (sw_rk k = 2 → sw_rt k = some .boolean) ∧ (sw_rk k = 3 → sw_rt k = some .long) := by decide +kernel
theorem sw_rk_v {m : Nat} (h : sw_rk m < 4) : (sw_rk m = 0 → sw_rt m = none) ∧ (sw_rk m = 1 → sw_rt m = some .int) ∧ (sw_rk m = 2 → sw_rt m = some .boolean) ∧ (sw_rk m = 3 → sw_rt m = some .long) := by
  by_cases hm : m < 151
  · exact sw_rk_all m hm
  · exfalso
    unfold sw_rk at h
    rw [List.getElem?_eq_none (show sw_rkL.length ≤ m by rw [show sw_rkL.length = 151 from rfl]; omega)] at h
    simp at h
section sw_Lu
variable {p : Program} {l : Launch} {e : Env} {R : Room} {s : State} {mid : MethodId} {args : Array Value} {below : List Frame} {meth : Method} {c : Code} {Q : State → Prop} {m : Nat} {A : Nat → Prop} {dC : Nat → ClassId} {dI : Nat → Nat → Nat} {tA : Nat → ClassId} {b : sw_B} {L k0 z0 : Nat} {xs : Nat → Int32} {E : sw_Ot × sw_HS}
variable {pc : Nat} {ls : sw_LS} {st r : List Value} {H : sw_HS}
theorem sw_qc_i {ad : Nat → Nat} {x : Int32} {Hm : Heap} {t : State} (X : va_K (dC, dI) sw_cl (sw_ty tA) s) (h0 : sw_a0 b ad) (hP : va_P (dC, dI) sw_cl (sw_wo tA ad H) t.heap) (hD : va_D A (sw_wo tA ad H)) (hF : va_F A s t) (hv : s.WarmedH t.vm) : sw_Qc (some (some (.int x))) b.2.1 b.2.2 (sw_Bp dC dI tA A H) A args s (.returned (some (.int x))) t :=
  ⟨⟨x, ad, rfl, ⟨rfl, h0.2⟩, hP, va_K.moved hv.alike X, hD⟩, hF⟩
theorem sw_qc_l {ad : Nat → Nat} {x : Int64} {Hm : Heap} {t : State} (X : va_K (dC, dI) sw_cl (sw_ty tA) s) (h0 : sw_a0 b ad) (hP : va_P (dC, dI) sw_cl (sw_wo tA ad H) t.heap) (hD : va_D A (sw_wo tA ad H)) (hF : va_F A s t) (hv : s.WarmedH t.vm) : sw_Qc (some (some (.long x))) b.2.1 b.2.2 (sw_Bp dC dI tA A H) A args s (.returned (some (.long x))) t :=
  ⟨⟨x, ad, rfl, ⟨rfl, h0.2⟩, hP, va_K.moved hv.alike X, hD⟩, hF⟩
theorem sw_qc_v {ad : Nat → Nat} {Hm : Heap} {t : State} (X : va_K (dC, dI) sw_cl (sw_ty tA) s) (h0 : sw_a0 b ad) (hP : va_P (dC, dI) sw_cl (sw_wo tA ad H) t.heap) (hD : va_D A (sw_wo tA ad H)) (hF : va_F A s t) (hv : s.WarmedH t.vm) : sw_Qc (some none) b.2.1 b.2.2 (sw_Bp dC dI tA A H) A args s (.returned none) t :=
  ⟨⟨ad, rfl, ⟨rfl, h0.2⟩, hP, va_K.moved hv.alike X, hD⟩, hF⟩
theorem sw_l_ir (X : sw_Cx p l R s mid args meth c m A dC dI tA b L k0 z0 xs E) (Y : sw_Cq s args below meth Q m A dC dI tA b k0 z0 E) {x : Int32} (hd : decode (sw_by m) pc = .ok (.ireturn, 1)) (hk : sw_rk m = 1 ∨ sw_rk m = 2 ∧ (x = 0 ∨ x = 1)) (hE : E = (some (some (.int x)), H)) : sw_G p l e R s mid args below meth c Q m A dC dI tA b L k0 z0 xs E pc ls [.int x] H := by
  subst hE
  obtain ⟨⟨hx, hb, hml, hown⟩, hts, hK, -⟩ := X
  obtain ⟨rfl, hlocks, hret⟩ := Y
  intro hI
  refine ⟨sw_Le.rf H, ⟨hI.1, Or.inr (Or.inr (Or.inl ⟨x, rfl⟩))⟩, fun ad Hm locs lsA h0 hL hW _ _ => ?_⟩
  obtain ⟨hP, hD, hS⟩ := hW
  have hq : ∀ t : State, t.heap = Hm → s.WarmedH t.vm → sw_Qc (some (some (.int x))) b.2.1 b.2.2 (sw_Bp dC dI tA A H) A args s (.returned (some (.int x))) t := fun t ht hv => sw_qc_i (Hm := Hm) hK h0 (by rw [ht]; exact hP) hD (hS.F ht) hv
  rcases hk with hk | ⟨hk, hx01⟩
  · exact vx_ret (W.iret hx hb (hret.trans ((sw_rk_v (by omega)).2.1 hk)) hq (fun z hz => hS.2.2 z hz) hd hlocks)
  · exact vx_ret (W.zret hx hb (hret.trans ((sw_rk_v (by omega)).2.2.1 hk)) (by rcases hx01 with rfl | rfl <;> rfl) hq (fun z hz => hS.2.2 z hz) hd hlocks)
theorem sw_l_lr (X : sw_Cx p l R s mid args meth c m A dC dI tA b L k0 z0 xs E) (Y : sw_Cq s args below meth Q m A dC dI tA b k0 z0 E) {x : Int64} (hd : decode (sw_by m) pc = .ok (.lreturn, 1)) (hk : sw_rk m = 3) (hE : E = (some (some (.long x)), H)) : sw_G p l e R s mid args below meth c Q m A dC dI tA b L k0 z0 xs E pc ls [.long x] H := by
  subst hE
  obtain ⟨⟨hx, hb, hml, hown⟩, hts, hK, -⟩ := X
  obtain ⟨rfl, hlocks, hret⟩ := Y
  intro hI
  refine ⟨sw_Le.rf H, ⟨hI.1, Or.inr (Or.inr (Or.inr ⟨x, rfl⟩))⟩, fun ad Hm locs lsA h0 hL hW _ _ => ?_⟩
  obtain ⟨hP, hD, hS⟩ := hW
  exact vx_ret (W.lret hx hb (hret.trans ((sw_rk_v (by omega)).2.2.2 hk)) (fun t ht hv => sw_qc_l (Hm := Hm) hK h0 (by rw [ht]; exact hP) hD (hS.F ht) hv) (fun z hz => hS.2.2 z hz) hd hlocks)
theorem sw_l_vr (X : sw_Cx p l R s mid args meth c m A dC dI tA b L k0 z0 xs E) (Y : sw_Cq s args below meth Q m A dC dI tA b k0 z0 E) (hd : decode (sw_by m) pc = .ok (.return_, 1)) (hk : sw_rk m = 0) (hE : E = (some none, H)) : sw_G p l e R s mid args below meth c Q m A dC dI tA b L k0 z0 xs E pc ls [] H := by
  subst hE
  obtain ⟨⟨hx, hb, hml, hown⟩, hts, hK, -⟩ := X
  obtain ⟨rfl, hlocks, hret⟩ := Y
  intro hI
  refine ⟨sw_Le.rf H, ⟨hI.1, Or.inr (Or.inl rfl)⟩, fun ad Hm locs lsA h0 hL hW _ _ => ?_⟩
  obtain ⟨hP, hD, hS⟩ := hW
  exact vx_ret (W.vret hx hb (hret.trans ((sw_rk_v (by omega)).1 hk)) (fun t ht hv => sw_qc_v (Hm := Hm) hK h0 (by rw [ht]; exact hP) hD (hS.F ht) hv) (fun z hz => hS.2.2 z hz) hd hlocks)
theorem sw_l_oi (X : sw_Cx p l R s mid args meth c m A dC dI tA b L k0 z0 xs E) {i a : Nat} (hd : decode (sw_by m) pc = .ok (.invokespecial i, 3)) (hi : sw_inv (sw_ow m) i = some 1000) (hf : 1 ≤ sw_fr m) (hl : 20 ≤ sw_lo m) (hc : sw_cat r ≤ 8)
    (h : sw_G p l e R s mid args below meth c Q m A dC dI tA b L k0 z0 xs E (pc + 3) ls r H) : sw_G p l e R s mid args below meth c Q m A dC dI tA b L k0 z0 xs E pc ls (.ref a :: r) H := by
  obtain ⟨⟨hx, hb, hml, hown⟩, hts, hK, hA, hEv, ⟨hRc, hRs, hRf, hRl⟩, -⟩ := X
  rcases sw_PI_at hi with q | q | q
  · exact absurd q.1 (by decide)
  · exact absurd q.1 (by decide)
  · obtain ⟨-, q1, q2, q3⟩ := q
    refine sw_G_st (fun hs _ => (sw_sf_cons.mp hs).2) (fun ad Hm locs lsA hL k => ?_) h
    refine W.objInit hx hb hown (hts _ q1) (hts _ q2) (hts _ q3) rfl (hL.1.trans hml.symm) rfl hd (by omega) ?_ k
    show 2 * 0 + (((r.map (sw_cv ad)).map fun v => v.category).sum) + 12 ≤ _
    rw [sw_cat_cv]
    omega
theorem sw_l_mx (X : sw_Cx p l R s mid args meth c m A dC dI tA b L k0 z0 xs E) {i : Nat} {x y : Int32} (hd : decode (sw_by m) pc = .ok (.invokestatic i, 3)) (hi : sw_inv (sw_ow m) i = some 1001) (hf : 1 ≤ sw_fr m) (hl : 21 ≤ sw_lo m) (hc : sw_cat r ≤ 8)
    (h : sw_G p l e R s mid args below meth c Q m A dC dI tA b L k0 z0 xs E (pc + 3) ls (.int (if x < y then y else x) :: r) H) : sw_G p l e R s mid args below meth c Q m A dC dI tA b L k0 z0 xs E pc ls (.int y :: .int x :: r) H := by
  obtain ⟨⟨hx, hb, hml, hown⟩, hts, hK, hA, hEv, ⟨hRc, hRs, hRf, hRl⟩, -⟩ := X
  rcases sw_PI_at hi with q | q | q
  · exact absurd q.1 (by decide)
  · obtain ⟨-, q1, q2, q3, q4⟩ := q
    refine sw_G_gen ?_ (sw_Le.rf H) (fun hI hle ad Hm locs lsA h0 hL hW hk hz kk => ?_) h
    · exact fun hI => ⟨hI.1, hI.2.1, hI.2.2.1, sw_sf_cons.mpr ⟨trivial, (sw_sf_cons.mp (sw_sf_cons.mp hI.2.2.2).2).2⟩⟩
    have k := kk ad Hm locs lsA h0 hL hW
    have b1 := hle.2.1
    have b2 := hle.2.2
    refine va_mmax hx hb (hml.trans hL.1.symm) hown (hts _ q1) (hts _ q2) (hts _ q3) (hts _ q4) (by omega) ?_ (by omega) (by omega) hd k
    rw [sw_cat_cv]
    omega
  · exact absurd q.1 (by decide)
theorem sw_l_gs (X : sw_Cx p l R s mid args meth c m A dC dI tA b L k0 z0 xs E) (hd : decode (sw_by m) pc = .ok (.getstatic 18, 3)) (hm : m = sw_sb)
    (h : sw_G p l e R s mid args below meth c Q m A dC dI tA b L k0 z0 xs E (pc + 3) ls (.int 1 :: st) H) : sw_G p l e R s mid args below meth c Q m A dC dI tA b L k0 z0 xs E pc ls st H := by
  subst hm
  obtain ⟨⟨hx, hb, hml, hown⟩, hts, hK, hA, ⟨-, -, -, hN, hC, -⟩, -⟩ := X
  obtain ⟨w1, w2, w3, w4, w5⟩ := sw_tw
  refine sw_G_gen ?_ (sw_Le.rf H) (fun hI hle ad Hm locs lsA h0 hL hW hk hz kk => ?_) h
  · exact fun hI => ⟨hI.1, hI.2.1, hI.2.2.1, sw_sf_cons.mpr ⟨trivial, hI.2.2.2⟩⟩
  exact va_gets hx hb hC hW.2.2 hown (hts _ w5) (fun _ q => q) hd (kk ad Hm locs lsA h0 hL hW)
end sw_Lu
