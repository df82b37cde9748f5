/-- the contract of a method, from what its runs do -/
theorem sw_con {L : Nat} {xs : Nat → Int32} (n y : Nat) (a : List Value) (H : sw_HS) (o1 : sw_Ot) (H1 : sw_HS) (hy : y < 150) (hl : (sw_el a).length ≤ sw_ml y) (h : sw_X n y 0 (sw_en y a) [] H = some (o1, H1))
    (hG : ∀ (p : Program) (l : Launch) (e : Env) (R : Room) (s : State) (mid : MethodId) (args : Array Value) (below : List Frame) (meth : Method) (c : Code) (Q : State → Prop) (A : Nat → Prop) (dC : Nat → ClassId) (dI : Nat → Nat → Nat) (tA : Nat → ClassId) (b : sw_B) (k0 z0 : Nat),
      sw_Cx p l R s mid args meth c y A dC dI tA b L k0 z0 xs (o1, H1) → sw_Cq s args below meth Q y A dC dI tA b k0 z0 (o1, H1) → sw_G p l e R s mid args below meth c Q y A dC dI tA b L k0 z0 xs (o1, H1) 0 (sw_en y a) [] H) : sw_MC L xs y a H o1 H1 := by
  refine ⟨hl, fun hI hsf => ?_⟩
  have hin : sw_In L xs (sw_ml y) (sw_en y a) [] H := ⟨hI, sw_en_len hl, sw_en_rf hsf, sw_sf_nil⟩
  obtain ⟨hle, hok⟩ := sw_X_ok n y 0 (sw_en y a) [] H (o1, H1) h (sw_ml y) hin
  refine ⟨hle, hok, fun l b dC dI tA ad sz hst h0 => ?_⟩
  obtain ⟨⟨f1, f2, f3, f4⟩, f5, f6, f7⟩ := sw_FM_at y hy
  have key : ∀ (p : Program) (e : Env) (s : State) (mid : MethodId) (args : Array Value) (below : List Frame) (meth : Method) (c : Code) (s₁ : State), BodyLoose p l (sw_nm y) (headSpec (sw_fw y :: sw_T) (sw_rmm y H H1)) (sw_by y) (sw_ml y) (sw_rt y) e s mid args below meth c s₁ → c.maxLocals = sw_ml y → (match sw_hh y with | none => o1 = none → ∀ x ∈ c.exceptionTable.toList, False | some h => c.exceptionTable.toList = tableOf h) → sw_Pc dC dI tA b L xs ad sz H a args s →
      W p l e (headSpec (sw_fw y :: sw_T) (sw_rmm y H H1)).room s mid args below meth c s.heap [] 0 0 (vx_MQ below (sw_Qc o1 H.2.1 ad (sw_Bp dC dI tA (va_A (sw_wo tA ad H) sz) H1) (va_A (sw_wo tA ad H) sz)) (sw_XC o1 H.2.1 ad (sw_Bp dC dI tA (va_A (sw_wo tA ad H) sz) H1) (va_A (sw_wo tA ad H) sz)) args s (H1.2.2.1 - H.2.2.1) (H1.2.2.2 - H.2.2.2) (va_A (sw_wo tA ad H) sz)) (entryFrame mid args (sw_ml y)) := by
    intro p e s mid args below meth c s₁ B hml ht hP
    obtain ⟨rfl, hsz, hP, hK, hD, hE⟩ := hP
    have hts : ∀ w ∈ sw_T, w.before ((a.map (sw_cv ad)).toArray) s = true := fun w hw => atoms_spec (ws := sw_fw y :: sw_T) B.pre w (List.mem_cons_of_mem _ hw)
    have X : sw_Cx p l (headSpec (sw_fw y :: sw_T) (sw_rmm y H H1)).room s mid ((a.map (sw_cv ad)).toArray) meth c y (va_A (sw_wo tA ad H) sz) dC dI tA (b, H.2.1, ad) L H.2.2.1 H.2.2.2 xs (o1, H1) := by
      have c1 := hle.2.1
      have c2 := hle.2.2
      refine ⟨⟨B.exec, B.bytes, hml, by rw [f4]; exact findClass_of_methodNamed B.named⟩, hts, hK, fun q hq => Or.inr (hsz ▸ hq), hE, ⟨?_, ?_, Nat.le_refl _, Nat.le_refl _⟩, fun hk => ?_, hst, ht⟩
      · show H1.2.2.1 ≤ H1.2.2.1 - H.2.2.1 + H.2.2.1; omega
      · show H1.2.2.2 ≤ H1.2.2.2 - H.2.2.2 + H.2.2.2; omega
      · rcases f7 with q | q | q
        · have := q.1; omega
        · have := q.1; omega
        · exact (name_of_methodNamed B.named B.method).1.trans q.2.2.2.1
    have Y : sw_Cq s ((a.map (sw_cv ad)).toArray) below meth (sw_Qm s ((a.map (sw_cv ad)).toArray) below (va_A (sw_wo tA ad H) sz) dC dI tA (b, H.2.1, ad) H.2.2.1 H.2.2.2 (o1, H1)) y (va_A (sw_wo tA ad H) sz) dC dI tA (b, H.2.1, ad) H.2.2.1 H.2.2.2 (o1, H1) := ⟨rfl, B.notSynchronized, B.returns⟩
    have g := (hG p l e _ s mid _ below meth c _ _ dC dI tA _ _ _ X Y hin).2.2 ad s.heap [] _ ⟨h0, fun _ _ => rfl⟩ (sw_en_LR hl) ⟨hP, hD.weaken (fun k q hk _ => va_A.in hk), Nat.le_refl _, fun _ _ _ => rfl, fun _ h => absurd h List.not_mem_nil⟩ ⟨Nat.le_refl _, Nat.le_refl _⟩ (Nat.le_refl _)
    unfold sw_Wx at g
    rw [Nat.sub_self, Nat.sub_self] at g
    rw [lg_entry_eq]
    exact g
  cases hh : sw_hh y with
  | none =>
    rw [hh] at key
    exact vx_ofW f1 (congrArg (· :: sw_T) (sw_fw_no hh)) (fun p e s mid args below meth c s₁ B hml ht hP => key p e s mid args below meth c s₁ B hml (fun _ => ht) hP)
  | some h9 =>
    rw [hh] at key
    exact vx_ofWH f1 (congrArg (· :: sw_T) (sw_fw_hh hh)) (fun p e s mid args below meth c s₁ B hml hP => key p e s mid args below meth c s₁ B hml (vx_table (x := sw_nm y) B (by rw [← sw_fw_hh hh]; exact atoms_spec (ws := sw_fw y :: sw_T) B.pre _ List.mem_cons_self)) hP)
/-- a run of the abstract machine is a walk of the real one -/
theorem sw_sound {L : Nat} {xs : Nat → Int32} : ∀ (n m pc : Nat) (ls : sw_LS) (st : List Value) (H : sw_HS) (E : sw_Ot × sw_HS), sw_X n m pc ls st H = some E →
    ∀ (p : Program) (l : Launch) (e : Env) (R : Room) (s : State) (mid : MethodId) (args : Array Value) (below : List Frame) (meth : Method) (c : Code) (Q : State → Prop) (A : Nat → Prop) (dC : Nat → ClassId) (dI : Nat → Nat → Nat) (tA : Nat → ClassId) (b : sw_B) (k0 z0 : Nat),
      sw_Cx p l R s mid args meth c m A dC dI tA b L k0 z0 xs E → sw_Cq s args below meth Q m A dC dI tA b k0 z0 E → sw_G p l e R s mid args below meth c Q m A dC dI tA b L k0 z0 xs E pc ls st H
  | 0, _, _, _, _, _, _, h, _, _, _, _, _, _, _, _, _, _, _, _, _, _, _, _, _, _, _, _ => by simp [sw_X] at h
  | n + 1, m, pc, ls, st, H, E, h, p, l, e, R, s, mid, args, below, meth, c, Q, A, dC, dI, tA, b, k0, z0, X, Y => by
    unfold sw_X at h
    split at h
    · cases h
    · split at h
      · rename_i ins len hd hl
        refine sw_loc X Y hd hl ?_
        refine sw_SX_p (P := fun (a : Option (sw_Ot × sw_HS)) (b : Prop) => a = some E → b) (fun h => by cases h) (fun pc ls st H h => sw_sound n m pc ls st H E h p l e R s mid args below meth c Q A dC dI tA b k0 z0 X Y) (fun y a r H h => ?_) (fun v H h => (Option.some.inj h).symm) (fun H h => (Option.some.inj h).symm) m pc _ ls st H h
        try dsimp only at h ⊢
        by_cases hle : (sw_el a).length ≤ sw_ml y
        case neg => rw [if_neg hle] at h; cases h
        rw [if_pos hle] at h
        cases h1 : sw_X n y 0 (sw_en y a) [] H with
        | none => rw [h1] at h; cases h
        | some z =>
          rw [h1] at h
          obtain ⟨o1, H1⟩ := z
          refine ⟨o1, H1, fun hy => sw_con n y a H o1 H1 hy hle h1 (sw_sound n y 0 (sw_en y a) [] H (o1, H1) h1), fun v hv => ?_, fun hv => ?_⟩
          · subst hv
            exact sw_sound n m _ _ _ H1 E h p l e R s mid args below meth c Q A dC dI tA b k0 z0 X Y
          · subst hv
            dsimp only at h
            split at h
            · next q hq => exact Or.inl ⟨q, hq, sw_sound n m _ _ _ H1 E h p l e R s mid args below meth c Q A dC dI tA b k0 z0 X Y⟩
            · next hq => exact Or.inr ⟨hq, (Option.some.inj h).symm⟩
      · cases h
