section sw_Lw
variable {p : Program} {l : Launch} {e : Env} {R : Room} {s : State} {mid : MethodId} {args : Array Value} {below : List Frame} {meth : Method} {c : Code} {Q : State → Prop} {m : Nat} {A : Nat → Prop} {dC : Nat → ClassId} {dI : Nat → Nat → Nat} {tA : Nat → ClassId} {b : sw_B} {L k0 z0 : Nat} {xs : Nat → Int32} {E : sw_Ot × sw_HS}
variable {pc : Nat} {ls : sw_LS} {st r : List Value} {H : sw_HS}
/-- one step of the abstract machine is a walk of the real one -/
theorem sw_loc (X : sw_Cx p l R s mid args meth c m A dC dI tA b L k0 z0 xs E) (Y : sw_Cq s args below meth Q m A dC dI tA b k0 z0 E) {ins : Instr} {len : Nat} (hd : decode (sw_by m) pc = .ok (ins, len)) (hl : sw_ln ins len = true)
    (h : sw_SX False (fun pc ls st H => sw_G p l e R s mid args below meth c Q m A dC dI tA b L k0 z0 xs E pc ls st H) (fun y a r H => sw_Cc p l e R s mid args below meth c Q m A dC dI tA b L k0 z0 xs E pc ls y a r H) (fun v H => E = (some v, H)) (fun H => E = (none, H)) m pc ins ls st H) : sw_G p l e R s mid args below meth c Q m A dC dI tA b L k0 z0 xs E pc ls st H := by
  cases ins
  case iadd => cases sw_len_eq hl; exact sw_o_iadd X hd h
  case isub => cases sw_len_eq hl; exact sw_o_isub X hd h
  case imul => cases sw_len_eq hl; exact sw_o_imul X hd h
  case iand => cases sw_len_eq hl; exact sw_o_iand X hd h
  case ior => cases sw_len_eq hl; exact sw_o_ior X hd h
  case ixor => cases sw_len_eq hl; exact sw_o_ixor X hd h
  case ishl => cases sw_len_eq hl; exact sw_o_ishl X hd h
  case ishr => cases sw_len_eq hl; exact sw_o_ishr X hd h
  case idiv => cases sw_len_eq hl; exact sw_o_idiv X hd h
  case irem => cases sw_len_eq hl; exact sw_o_irem X hd h
  case ladd => cases sw_len_eq hl; exact sw_o_ladd X hd h
  case lsub => cases sw_len_eq hl; exact sw_o_lsub X hd h
  case lmul => cases sw_len_eq hl; exact sw_o_lmul X hd h
  case land => cases sw_len_eq hl; exact sw_o_land X hd h
  case lor => cases sw_len_eq hl; exact sw_o_lor X hd h
  case lxor => cases sw_len_eq hl; exact sw_o_lxor X hd h
  case ldiv => cases sw_len_eq hl; exact sw_o_ldiv X hd h
  case lcmp => cases sw_len_eq hl; exact sw_o_lcmp X hd h
  case lshl => cases sw_len_eq hl; exact sw_o_lshl X hd h
  case lshr => cases sw_len_eq hl; exact sw_o_lshr X hd h
  case i2l => cases sw_len_eq hl; exact sw_o_i2l X hd h
  case l2i => cases sw_len_eq hl; exact sw_o_l2i X hd h
  case dup => cases sw_len_eq hl; exact sw_o_dup X hd h
  case dup2 => cases sw_len_eq hl; exact sw_o_dup2 X hd h
  case pop => cases sw_len_eq hl; exact sw_o_pop X hd h
  case goto o => cases sw_len_eq hl; exact sw_o_goto X hd h
  case iconst n => cases sw_len_eq hl; exact sw_o_iconst X hd h
  case lconst n => cases sw_len_eq hl; exact sw_o_lconst X hd h
  case iload i => cases sw_len_eq hl; exact sw_o_iload X hd h
  case iload_n i => cases sw_len_eq hl; exact sw_o_iload_n X hd h
  case lload i => cases sw_len_eq hl; exact sw_o_lload X hd h
  case lload_n i => cases sw_len_eq hl; exact sw_o_lload_n X hd h
  case aload i => cases sw_len_eq hl; exact sw_o_aload X hd h
  case aload_n i => cases sw_len_eq hl; exact sw_o_aload_n X hd h
  case istore i => cases sw_len_eq hl; exact sw_o_istore X hd h
  case istore_n i => cases sw_len_eq hl; exact sw_o_istore_n X hd h
  case astore i => cases sw_len_eq hl; exact sw_o_astore X hd h
  case astore_n i => cases sw_len_eq hl; exact sw_o_astore_n X hd h
  case lstore i => cases sw_len_eq hl; exact sw_o_lstore X hd h
  case lstore_n i => cases sw_len_eq hl; exact sw_o_lstore_n X hd h
  case iinc i n => cases sw_len_eq hl; exact sw_o_iinc X hd h
  case bipush n =>
    have hl := (Bool.and_eq_true _ _).mp hl
    cases sw_len_eq hl.1
    exact sw_o_bipush X (decide_eq_true_eq.mp hl.2) hd h
  case sipush n =>
    have hl := (Bool.and_eq_true _ _).mp hl
    cases sw_len_eq hl.1
    exact sw_o_sipush X (decide_eq_true_eq.mp hl.2) hd h
  case ldc i =>
    cases sw_len_eq hl
    simp only [sw_SX] at h
    split at h
    · next v hv => exact sw_o_ldc X hv hd h
    · exact h.elim
  case ldc_w i =>
    cases sw_len_eq hl
    simp only [sw_SX] at h
    split at h
    · next v hv => exact sw_o_ldcw X hv hd h
    · exact h.elim
  case ldc2_w i =>
    cases sw_len_eq hl
    simp only [sw_SX] at h
    split at h
    · next v hv => exact sw_o_ldc2 X hv hd h
    · exact h.elim
  case ifCond cd o =>
    cases sw_len_eq hl
    simp only [sw_SX] at h
    obtain ⟨x, r, rfl, h⟩ := sw_i1_v h
    obtain ⟨t, ht, h⟩ := sw_jp_v h
    exact sw_l_if X ht hd h
  case if_icmp cd o =>
    cases sw_len_eq hl
    simp only [sw_SX] at h
    obtain ⟨x, y, r, rfl, h⟩ := sw_i2_v h
    obtain ⟨t, ht, h⟩ := sw_jp_v h
    exact sw_l_icmp X ht hd h
  case tableswitch d lo hi os =>
    simp only [sw_SX] at h
    obtain ⟨x, r, rfl, h⟩ := sw_i1_v h
    exact sw_l_ts X hd h
  case iaload =>
    cases sw_len_eq hl
    simp only [sw_SX] at h
    obtain ⟨a, i, r, rfl, h⟩ := sw_ri_v h
    exact sw_l_ald X (Or.inl ⟨rfl, hd⟩) h
  case baload =>
    cases sw_len_eq hl
    simp only [sw_SX] at h
    obtain ⟨a, i, r, rfl, h⟩ := sw_ri_v h
    exact sw_l_ald X (Or.inr ⟨rfl, hd⟩) h
  case iastore =>
    cases sw_len_eq hl
    simp only [sw_SX] at h
    obtain ⟨a, i, x, r, rfl, h⟩ := sw_rix_v h
    exact sw_l_ast X (Or.inl ⟨rfl, rfl, hd⟩) h
  case bastore =>
    cases sw_len_eq hl
    simp only [sw_SX] at h
    obtain ⟨a, i, x, r, rfl, h⟩ := sw_rix_v h
    exact sw_l_ast X (Or.inr ⟨rfl, rfl, hd⟩) h
  case arraylength =>
    cases sw_len_eq hl
    simp only [sw_SX] at h
    obtain ⟨a, r, rfl, h⟩ := sw_r1_v h
    exact sw_l_aln X hd h
  case getfield i =>
    cases sw_len_eq hl
    simp only [sw_SX] at h
    obtain ⟨a, r, rfl, h⟩ := sw_r1_v h
    exact sw_l_get X hd h
  case putfield i =>
    cases sw_len_eq hl
    simp only [sw_SX] at h
    obtain ⟨a, v, r, rfl, h⟩ := sw_rv_v h
    exact sw_l_put X hd h
  case getstatic i =>
    cases sw_len_eq hl
    simp only [sw_SX] at h
    obtain ⟨⟨h1, h2⟩, h9⟩ := sw_ite_v h
    subst h2
    exact sw_l_gs X hd h1 h9
  case new i =>
    cases sw_len_eq hl
    simp only [sw_SX] at h
    split at h
    · next ci hci => exact sw_l_new X hd hci h
    · obtain ⟨⟨h1, h2, h3⟩, h9⟩ := sw_ite_v h
      subst h3
      exact sw_l_thr X Y h1 h2 h9
  case newarray t =>
    cases sw_len_eq hl
    simp only [sw_SX] at h
    obtain ⟨n, r, rfl, h⟩ := sw_i1_v h
    cases t
    case int => exact sw_l_nwa X (Or.inl ⟨rfl, rfl⟩) hd h
    case boolean => exact sw_l_nwa X (Or.inr (Or.inl ⟨rfl, rfl⟩)) hd h
    case byte => exact sw_l_nwa X (Or.inr (Or.inr ⟨rfl, rfl⟩)) hd h
    all_goals exact h.elim
  case invokestatic i =>
    cases sw_len_eq hl
    simp only [sw_SX] at h
    split at h
    · next y hy =>
      split at h
      · next hk =>
        obtain ⟨a, r, rfl, hn, h⟩ := sw_pop_v _ _ _ h
        rw [List.append_nil] at h
        obtain ⟨hc, h⟩ := sw_ck_v h
        obtain ⟨o1, H1, h1, h2, h3⟩ := sw_Cc_v X Y h
        exact sw_c_s X hd hy hk.1 hk.2 hn hc (h1 (sw_PI_lt hy (by omega)).1) h2 h3
      · obtain ⟨⟨h1, h2, h3⟩, h9⟩ := sw_ite_v h
        subst h1
        obtain ⟨x, y, r, rfl, h8⟩ := sw_i2_v h9
        obtain ⟨hc, h7⟩ := sw_ck_v h8
        exact sw_l_mx X hd hy h2 h3 hc h7
    · exact h.elim
  case invokevirtual i =>
    cases sw_len_eq hl
    simp only [sw_SX] at h
    split at h
    · next y hy =>
      obtain ⟨hk, h⟩ := sw_ite_v h
      obtain ⟨a, r, rfl, hn, h⟩ := sw_pop_v _ _ _ h
      rw [List.append_nil] at h
      obtain ⟨hc, h⟩ := sw_ck_v h
      have hrx : ∃ ci, sw_rx y = some ci := by
        obtain ⟨hy9, -⟩ := sw_PI_lt hy (by omega)
        rcases (sw_FM_at y hy9).2.2.2 with q | q | q
        · have := q.1; omega
        · obtain ⟨-, -, -, -, -, ci, -, h9, -⟩ := q
          exact ⟨ci, h9⟩
        · have := q.1; omega
      obtain ⟨ci, hrx⟩ := hrx
      rw [hrx] at h
      obtain ⟨b0, as, o, rfl, ho, hoc, h⟩ := sw_rc_v h
      obtain ⟨o1, H1, h1, h2, h3⟩ := sw_Cc_v X Y h
      exact sw_c_v X hd hy hk.1 hk.2 hn hc ho (hrx.trans (congrArg some hoc.symm)) (h1 (sw_PI_lt hy (by omega)).1) h2 h3
    · exact h.elim
  case invokespecial i =>
    cases sw_len_eq hl
    simp only [sw_SX] at h
    split at h
    · next y hy =>
      split at h
      · next hk =>
        obtain ⟨a, r, rfl, hn, h⟩ := sw_pop_v _ _ _ h
        rw [List.append_nil] at h
        obtain ⟨hc, h⟩ := sw_ck_v h
        obtain ⟨b0, as, rfl, h⟩ := sw_rr_v h
        obtain ⟨o1, H1, h1, h2, h3⟩ := sw_Cc_v X Y h
        exact sw_c_i X hd hy hk.1 hk.2 hn hc (h1 (sw_PI_lt hy (by omega)).1) h2 h3
      · obtain ⟨⟨h1, h2, h3⟩, h9⟩ := sw_ite_v h
        subst h1
        obtain ⟨a, r, rfl, h8⟩ := sw_r1_v h9
        obtain ⟨hc, h7⟩ := sw_ck_v h8
        exact sw_l_oi X hd hy h2 h3 hc h7
    · exact h.elim
  case ireturn =>
    cases sw_len_eq hl
    simp only [sw_SX] at h
    split at h
    · obtain ⟨h1, h⟩ := sw_ite_v h
      exact sw_l_ir X Y hd h1 h
    · exact h.elim
  case lreturn =>
    cases sw_len_eq hl
    simp only [sw_SX] at h
    split at h
    · obtain ⟨h1, h⟩ := sw_ite_v h
      exact sw_l_lr X Y hd h1 h
    · exact h.elim
  case return_ =>
    cases sw_len_eq hl
    simp only [sw_SX] at h
    split at h
    · obtain ⟨h1, h⟩ := sw_ite_v h
      exact sw_l_vr X Y hd h1 h
    · exact h.elim
  all_goals exact h.elim
end sw_Lw
