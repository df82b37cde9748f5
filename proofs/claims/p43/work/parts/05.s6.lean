theorem sw_inT (i : Nat) {w : Jvm.Cond} (h : lw_tbl[i]? = some w) (hg : (goodWord w || sw_nk w) = true) : w ∈ sw_T ∨ w ∈ sw_N := by
  rcases (Bool.or_eq_true _ _).mp hg with q | q
  · exact Or.inl (sw_in i h q)
  · exact Or.inr (sw_inN i h q)
def sw_tI : List Jvm.Cond := [Jvm.Cond.isRef (.static Bundle.tN "UNASSIGNED_STACK" Bundle.steD), Jvm.Cond.isRef (.static Bundle.tN "SUPPRESSED_SENTINEL" Bundle.listD)]
def sw_ps : List Nat := [48, 413, 422, 426, 429, 431, 414, 415, 61, 62, 416, 421, 427, 447, 403, 448, 405, 449, 407, 417, 418, 419, 420, 409, 443, 444, 446, 409, 766, 767, 768, 437, 395, 437, 438, 439, 440, 397, 440, 441, 442, 443, 399, 765, 756, 757, 758, 424, 759, 760, 761, 762, 2000, 2001, 412, 411, 763]
def sw_at9 (i : Nat) : Option Jvm.Cond := if i < 2000 then lw_tbl[i]? else sw_tI[i - 2000]?
abbrev sw_oA : List Jvm.Cond := Bundle.ownAtoms RX11 297 "java/lang/IllegalStateException" ["java/lang/RuntimeException", "java/lang/Exception"]
set_option maxRecDepth 100000 in
theorem sw_oA_eq : sw_oA = sw_ps.filterMap sw_at9 := rfl
set_option maxRecDepth 100000 in
theorem sw_oA_all : sw_oA.all (fun w => goodWord w || sw_nk w || decide (w = Jvm.Cond.laysStatic Bundle.tN "UNASSIGNED_STACK" Bundle.steD) || decide (w = Jvm.Cond.laysStatic Bundle.tN "SUPPRESSED_SENTINEL" Bundle.listD) || decide (w = Jvm.Cond.isRef (.static Bundle.tN "UNASSIGNED_STACK" Bundle.steD)) || decide (w = Jvm.Cond.isRef (.static Bundle.tN "SUPPRESSED_SENTINEL" Bundle.listD))) = true := rfl
theorem sw_hat : ∀ w ∈ vx_atS RX11 297 "java/lang/IllegalStateException" ["java/lang/RuntimeException", "java/lang/Exception"], w ∈ sw_T ∨ w ∈ sw_N := by
  intro w hw
  obtain ⟨h1, h2⟩ := List.mem_filter.mp hw
  have h3 := List.all_eq_true.mp sw_oA_all w h1
  have h4 : ∃ i, sw_at9 i = some w := by
    have h5 : w ∈ sw_ps.filterMap sw_at9 := by rw [← sw_oA_eq]; exact h1
    obtain ⟨i, -, hi⟩ := List.mem_filterMap.mp h5
    exact ⟨i, hi⟩
  simp only [vx_no, Bool.and_eq_true, decide_eq_true_eq] at h2
  simp only [Bool.or_eq_true, decide_eq_true_eq] at h3
  have hg : (goodWord w || sw_nk w) = true := by
    rcases h3 with ((((q | q) | q) | q) | q) | q
    · rw [q]; rfl
    · rw [q]; simp
    · exact absurd q h2.1.2
    · exact absurd q h2.2
    · exact absurd q h2.1.1.1
    · exact absurd q h2.1.1.2
  obtain ⟨i, hi⟩ := h4
  unfold sw_at9 at hi
  split at hi
  · exact sw_inT i hi hg
  · exfalso
    have := List.mem_of_getElem? hi
    unfold sw_tI at this
    rcases List.mem_cons.mp this with q | this
    · exact h2.1.1.1 q
    rcases List.mem_cons.mp this with q | this
    · exact h2.1.1.2 q
    · cases this
theorem sw_oT {w : Jvm.Cond} (h : w ∈ sw_T ∨ w ∈ sw_N) : vx_ot w = true := by
  unfold vx_ot
  rcases h with h | h
  · rw [(List.mem_filter.mp h).2, Bool.or_true]
  · rw [sw_Nw_on w h, Bool.true_or]
set_option maxRecDepth 100000 in
theorem sw_tw : Jvm.Cond.classLink RX11 293 "java/lang/IllegalStateException" ∈ sw_T ∧ Jvm.Cond.initialized "java/lang/IllegalStateException" ∈ sw_T ∧ Jvm.Cond.classLink RL 16 "java/lang/IllegalStateException" ∈ sw_T ∧ Jvm.Cond.castable "java/lang/IllegalStateException" "java/lang/IllegalStateException" ∈ sw_N ∧ Jvm.Cond.fieldLink RJ5 18 "java/lang/String" "COMPACT_STRINGS" "Z" ∈ sw_T :=
  ⟨sw_in 755 rfl rfl, sw_in 53 rfl rfl, sw_in 746 rfl rfl, sw_inN 757 rfl rfl, sw_in 324 rfl rfl⟩
section sw_Lt
variable {p : Program} {l : Launch} {e : Env} {R : Room} {s : State} {mid : MethodId} {args : Array Value} {below : List Frame} {meth : Method} {c : Code} {Q : State → Prop} {m : Nat} {A : Nat → Prop} {dC : Nat → ClassId} {dI : Nat → Nat → Nat} {tA : Nat → ClassId} {b : sw_B} {L k0 z0 : Nat} {xs : Nat → Int32} {E : sw_Ot × sw_HS}
variable {pc : Nat} {ls : sw_LS} {r : List Value} {H : sw_HS}
def sw_Qm (s : State) (args : Array Value) (below : List Frame) (A : Nat → Prop) (dC : Nat → ClassId) (dI : Nat → Nat → Nat) (tA : Nat → ClassId) (b : sw_B) (k0 z0 : Nat) (E : sw_Ot × sw_HS) : State → Prop := vx_MQ below (sw_Qc E.1 b.2.1 b.2.2 (sw_Bp dC dI tA A E.2) A) (sw_XC E.1 b.2.1 b.2.2 (sw_Bp dC dI tA A E.2) A) args s (E.2.2.2.1 - k0) (E.2.2.2.2 - z0) A
def sw_Cq (s : State) (args : Array Value) (below : List Frame) (meth : Method) (Q : State → Prop) (m : Nat) (A : Nat → Prop) (dC : Nat → ClassId) (dI : Nat → Nat → Nat) (tA : Nat → ClassId) (b : sw_B) (k0 z0 : Nat) (E : sw_Ot × sw_HS) : Prop := Q = sw_Qm s args below A dC dI tA b k0 z0 E ∧ meth.locks = false ∧ meth.sig.returnType = sw_rt m
theorem sw_xc {ad : Nat → Nat} {H1 : sw_HS} {Hm : Heap} {locs : List Loc} {t : State} (X : va_K (dC, dI) sw_cl (sw_ty tA) s) (h0 : sw_a0 b ad) (hP : va_P (dC, dI) sw_cl (sw_wo tA ad H1) t.heap) (hD : va_D A (sw_wo tA ad H1)) (hF : va_F A s t) (hv : s.vm.Alike t.vm) : sw_XC none b.2.1 b.2.2 (sw_Bp dC dI tA A H1) A "java/lang/IllegalStateException" s t :=
  ⟨ad, ⟨rfl, h0.2⟩, ⟨rfl, hP, va_K.moved hv X, hD⟩, hF⟩
theorem sw_l_out (X : sw_Cx p l R s mid args meth c m A dC dI tA b L k0 z0 xs E) (Y : sw_Cq s args below meth Q m A dC dI tA b k0 z0 E) {o1 : sw_Ot} {H1 : sw_HS} (hh : sw_hd m pc = none) (hE : E = (none, H1)) : sw_Th p l e R s mid args below meth c Q m A dC dI tA b L k0 z0 xs E pc ls r o1 H1 := by
  obtain ⟨⟨hx, hb, hml, hown⟩, hts, hK, hA, hEv, hR, hini, hst, hex⟩ := X
  obtain ⟨rfl, hlocks, hret⟩ := Y
  subst hE
  intro _ hok hlen
  refine ⟨⟨sw_Le.rf H1, hok⟩, fun ad Hm locs lsA q ce h0 hL hW hk hz hc1 hc2 hc3 => ?_⟩
  obtain ⟨hP, hD, hS⟩ := hW
  refine vx_out (E := "java/lang/IllegalStateException") (ce := ce) ?_ hlocks hc1 hc2 hc3 (fun t ht hv => sw_xc (Hm := Hm) (locs := locs) hK h0 (by rw [ht]; exact hP) hD (hS.F ht) hv) (fun z hz => hS.2.2 z hz) (Nat.le_refl _) (Nat.le_refl _)
  intro z hz
  unfold sw_hh at hex
  unfold sw_hd at hh
  split at hh
  · cases hh
  · next n1 =>
    split at hh
    · cases hh
    · next n2 =>
      split at hh
      · cases hh
      · next n3 =>
        split at hex
        · exact absurd (hex rfl z hz) id
        · next h9 =>
          rw [hex] at hz
          split at h9
          · next e1 =>
            cases h9
            cases List.mem_singleton.mp hz
            have : ¬ pc < 14 := fun q => n1 ⟨e1, q⟩
            simp [covers]
            omega
          · split at h9
            · next e1 =>
              cases h9
              cases List.mem_singleton.mp hz
              have : ¬ pc < 6 := fun q => n2 ⟨e1, q⟩
              simp [covers]
              omega
            · split at h9
              · next e1 =>
                cases h9
                cases List.mem_singleton.mp hz
                have : ¬ pc < 6 := fun q => n3 ⟨e1, q⟩
                simp [covers]
                omega
              · cases h9
theorem sw_hd_v {q : Nat} (h : sw_hd m pc = some q) : sw_on (sw_ow m) = RL ∧ 3 < sw_ml m ∧ ∃ (a z : Nat), sw_hh m = some [(a, z, q - 1, 16)] ∧ a ≤ pc ∧ pc < z ∧ 1 ≤ q ∧ decode (sw_by m) (q - 1) = .ok (.astore_n 3, 1) := by
  unfold sw_hd at h
  split at h
  · next n1 =>
    obtain ⟨rfl, n1⟩ := n1
    cases h
    exact ⟨rfl, by decide, 0, 14, rfl, Nat.zero_le _, n1, by decide, dL_wets_15⟩
  · split at h
    · next n1 =>
      obtain ⟨rfl, n1⟩ := n1
      cases h
      exact ⟨rfl, by decide, 0, 6, rfl, Nat.zero_le _, n1, by decide, dL_comes_7⟩
    · split at h
      · next n1 =>
        obtain ⟨rfl, n1⟩ := n1
        cases h
        exact ⟨rfl, by decide, 0, 6, rfl, Nat.zero_le _, n1, by decide, dL_most_7⟩
      · cases h
theorem sw_l_cat (X : sw_Cx p l R s mid args meth c m A dC dI tA b L k0 z0 xs E) {o1 : sw_Ot} {H1 : sw_HS} {q9 : Nat} (hh : sw_hd m pc = some q9) (g : sw_G p l e R s mid args below meth c Q m A dC dI tA b L k0 z0 xs E q9 (sw_no ls) [] H1) : sw_Th p l e R s mid args below meth c Q m A dC dI tA b L k0 z0 xs E pc ls r o1 H1 := by
  obtain ⟨⟨hx, hb, hml, hown⟩, hts, hK, hA, ⟨-, -, -, hN, -⟩, hR, hini, hst, hex⟩ := X
  intro _ hok hlen
  have hin : sw_In L xs (sw_ml m) (sw_no ls) [] H1 := by
    refine ⟨hok.1, ?_, fun v hv => ?_, sw_sf_nil⟩
    · unfold sw_no; rw [List.length_map]; exact hlen
    · unfold sw_no at hv
      simp at hv
  obtain ⟨g1, g2, g3⟩ := g hin
  refine ⟨⟨g1, g2⟩, fun ad Hm locs lsA q ce h0 hL hW hk hz hc1 hc2 hc3 => ?_⟩
  obtain ⟨ho, hm3, a, z, e1, e2, e3, e4, e5⟩ := sw_hd_v hh
  obtain ⟨w1, w2, w3, w4, w5⟩ := sw_tw
  rw [e1] at hex
  have hex : c.exceptionTable.toList = [] ++ (⟨a, z, q9 - 1, 16⟩ : ExceptionTableEntry) :: [] := hex
  rw [ho] at hown
  refine vx_catch (own := RL) (name := "java/lang/IllegalStateException") (E := "java/lang/IllegalStateException") (ce := ce) hown [] _ [] hex (fun _ h => absurd h List.not_mem_nil) (by simp [covers]; omega) (show (16 : Nat) ≠ 0 by decide) (hts _ w3) (va_Nw.use rfl (hN _ w4)) hc1 hc2 hc3 ?_
  refine lv_astore_n hx hb e5 rfl hL hm3 rfl fun lsB hB => ?_
  have := g3 ad Hm locs lsB h0 (sw_LR_no (ad := ad) hB) hW hk hz
  unfold sw_Wx at this
  show W p l e R s mid args below meth c Hm locs (H1.2.2.1 - k0) (H1.2.2.2 - z0) Q (F0 mid (q9 - 1 + 1) lsB [])
  rw [show q9 - 1 + 1 = q9 by omega]
  exact this
def sw_Cc (p : Program) (l : Launch) (e : Env) (R : Room) (s : State) (mid : MethodId) (args : Array Value) (below : List Frame) (meth : Method) (c : Code) (Q : State → Prop) (m : Nat) (A : Nat → Prop) (dC : Nat → ClassId) (dI : Nat → Nat → Nat) (tA : Nat → ClassId) (b : sw_B) (L k0 z0 : Nat) (xs : Nat → Int32) (E : sw_Ot × sw_HS) (pc : Nat) (ls : sw_LS) (y : Nat) (a r : List Value) (H : sw_HS) : Prop :=
  ∃ (o1 : sw_Ot) (H1 : sw_HS), (y < 150 → sw_MC L xs y a H o1 H1) ∧ (∀ v, o1 = some v → sw_G p l e R s mid args below meth c Q m A dC dI tA b L k0 z0 xs E (pc + 3) ls (v.toList ++ r) H1) ∧ (o1 = none → (∃ q, sw_hd m pc = some q ∧ sw_G p l e R s mid args below meth c Q m A dC dI tA b L k0 z0 xs E q (sw_no ls) [] H1) ∨ (sw_hd m pc = none ∧ E = (none, H1)))
theorem sw_Cc_v (X : sw_Cx p l R s mid args meth c m A dC dI tA b L k0 z0 xs E) (Y : sw_Cq s args below meth Q m A dC dI tA b k0 z0 E) {y : Nat} {a : List Value} (h : sw_Cc p l e R s mid args below meth c Q m A dC dI tA b L k0 z0 xs E pc ls y a r H) : ∃ (o1 : sw_Ot) (H1 : sw_HS), (y < 150 → sw_MC L xs y a H o1 H1) ∧ (∀ v, o1 = some v → sw_G p l e R s mid args below meth c Q m A dC dI tA b L k0 z0 xs E (pc + 3) ls (v.toList ++ r) H1) ∧ sw_Th p l e R s mid args below meth c Q m A dC dI tA b L k0 z0 xs E pc ls r o1 H1 := by
  obtain ⟨o1, H1, h1, h2, h3⟩ := h
  refine ⟨o1, H1, h1, h2, ?_⟩
  intro ho
  rcases h3 ho with ⟨q, hq, g⟩ | ⟨hq, hE⟩
  · exact sw_l_cat X hq g ho
  · exact sw_l_out X Y hq hE ho
theorem sw_l_thr (X : sw_Cx p l R s mid args meth c m A dC dI tA b L k0 z0 xs E) (Y : sw_Cq s args below meth Q m A dC dI tA b k0 z0 E) (hm : m = 38) (hpc : pc = 12) (hE : E = (none, sw_ex H)) : sw_G p l e R s mid args below meth c Q m A dC dI tA b L k0 z0 xs E pc ls [] H := by
  subst hm hpc hE
  obtain ⟨⟨hx, hb, hml, hown⟩, hts, hK, hA, ⟨hX, hbl, hbA, hN, hC, hU, hNn, sa, hstr⟩, ⟨hRc, hRs, hRf, hRl⟩, hini, hst, hex⟩ := X
  obtain ⟨rfl, hlocks, hret⟩ := Y
  obtain ⟨w1, w2, w3, w4, w5⟩ := sw_tw
  intro hI
  refine ⟨⟨Nat.le_refl _, Nat.le_succ _, Nat.le_add_right _ _⟩, ⟨hI.1, Or.inl rfl⟩, fun ad Hm locs lsA h0 hL hW hk hz => ?_⟩
  obtain ⟨hP, hD, hS⟩ := hW
  have r1 : H.2.2.1 + 1 ≤ R.cells + k0 := hRc
  have r2 : H.2.2.2 + 6 ≤ R.slots + z0 := hRs
  have r3 : 6 ≤ R.frames := hRf
  have r4 : 82 ≤ R.locals := hRl
  have m1 : H.2.2.1 - k0 + 1 ≤ (sw_ex H).2.2.1 - k0 := by show _ ≤ H.2.2.1 + 1 - k0; omega
  have m2 : H.2.2.2 - z0 + 6 ≤ (sw_ex H).2.2.2 - z0 := by show _ ≤ H.2.2.2 + 6 - z0; omega
  have hTN : ∀ w, (w ∈ sw_T ∨ w ∈ sw_N) → w.before args s = true := fun w h => h.elim (hts w) (fun q => va_Nw.use (sw_Nw_on w q) (hN w q))
  refine vx_throwSW (own := RX11) (cls := "java/lang/IllegalStateException") (text := "the SITE is SHUT") (names := ["java/lang/RuntimeException", "java/lang/Exception"]) (ik := 293) (is := 359) (ic := 297) (sa := sa) (A := A) hx hb hst hown (by decide +kernel) (by decide +kernel) (hts _ w1) (hts _ w2) hstr (fun w hw => hTN w (sw_hat w hw)) (fun w hw => ?_) hU hNn hS (hL.1.trans hml.symm) dX11_needNotShut_12 dX11_needNotShut_15 dX11_needNotShut_16 dX11_needNotShut_19 dX11_needNotShut_22 (fun x hx => absurd (hex rfl x hx) id) (by show 2 + 3 < _; omega) (by show 0 + (13 * (2 + 1) + 43) ≤ _; omega) (by omega) (by omega) hlocks (fun t hv hs9 hk9 => ?_) (fun z hz => hS.2.2 z hz) m1 m2
  · rcases List.mem_cons.mp hw with rfl | hw
    · exact sw_oT (Or.inl w1)
    rcases List.mem_cons.mp hw with rfl | hw
    · exact sw_oT (Or.inl w2)
    · exact sw_oT (sw_hat w hw)
  · refine sw_xc (Hm := Hm) (locs := locs) (H1 := sw_ex H) hK h0 (hP.kept fun k q hq => hk9 _ (hP k q hq).lt) hD ⟨Nat.le_trans hS.1 hs9, fun q h1 h2 => ?_⟩ hv
    rw [hk9 q (Nat.lt_of_lt_of_le h1 hS.1)]
    exact hS.2.1 q h1 h2
end sw_Lt
