/-! what a run keeps, without any machine -/
section sw_pu
variable {L nL : Nat} {xs : Nat → Int32} {E : sw_Ot × sw_HS} {m pc : Nat} {ls : sw_LS} {st r : List Value} {H : sw_HS}
def sw_Gp (L : Nat) (xs : Nat → Int32) (E : sw_Ot × sw_HS) (nL : Nat) (ls : sw_LS) (st : List Value) (H : sw_HS) : Prop := sw_In L xs nL ls st H → sw_Le H E.2 ∧ sw_ok L xs E
def sw_Cp (L : Nat) (xs : Nat → Int32) (E : sw_Ot × sw_HS) (nL : Nat) (ls : sw_LS) (a r : List Value) (H : sw_HS) : Prop :=
  ∃ (o1 : sw_Ot) (H1 : sw_HS), ((1 ≤ H.2.1 ∧ H.1 0 = .inr (0, L, xs) ∧ sw_hf H.2.1 H.1) → sw_sf H.2.1 a → sw_Le H H1 ∧ sw_ok L xs (o1, H1)) ∧ (∀ v, o1 = some v → sw_Gp L xs E nL ls (v.toList ++ r) H1) ∧ (o1 = none → sw_Gp L xs E nL (sw_no ls) [] H1 ∨ E = (none, H1))
theorem sw_gp_st {st2 : List Value} (h : sw_Gp L xs E nL ls st2 H) (hs : sw_sf H.2.1 st → (∀ v, some v ∈ ls → sw_rf H.2.1 v) → sw_sf H.2.1 st2) : sw_Gp L xs E nL ls st H := fun hI => h ⟨hI.1, hI.2.1, hI.2.2.1, hs hI.2.2.2 hI.2.2.1⟩
theorem sw_gp_ls {ls2 : sw_LS} {st2 : List Value} (h : sw_Gp L xs E nL ls2 st2 H) (hn : ls2.length = ls.length) (hs : sw_sf H.2.1 st → (∀ v, some v ∈ ls → sw_rf H.2.1 v) → sw_sf H.2.1 st2 ∧ ∀ v, some v ∈ ls2 → sw_rf H.2.1 v) : sw_Gp L xs E nL ls st H := fun hI => h ⟨hI.1, hn.trans hI.2.1, (hs hI.2.2.2 hI.2.2.1).2, (hs hI.2.2.2 hI.2.2.1).1⟩
theorem sw_gp_wr {st2 : List Value} {a : Nat} {cl : sw_Ce} (h : sw_Gp L xs E nL ls st2 (sw_wr H a cl)) (ha : sw_In L xs nL ls st H → ¬ a = 0 ∧ (∀ o, cl = .inl o → ∀ v ∈ o.2, sw_rf H.2.1 v) ∧ sw_sf H.2.1 st2) : sw_Gp L xs E nL ls st H := fun hI => h (sw_wr_in hI (ha hI).1 (ha hI).2.1 (ha hI).2.2)
theorem sw_gp_mk {cl : sw_Ce} {len : Nat} (h : sw_Gp L xs E nL ls (.ref H.2.1 :: r) (sw_mk H cl len)) (hc : ∀ o, cl = .inl o → ∀ v ∈ o.2, sw_rf H.2.1 v) (hs : sw_sf H.2.1 st → sw_sf H.2.1 r) : sw_Gp L xs E nL ls st H := fun hI => by
  obtain ⟨g1, g2⟩ := h (sw_mk_in hI hc (hs hI.2.2.2))
  exact ⟨sw_Le.tr ⟨Nat.le_succ _, Nat.le_succ _, Nat.le_add_right _ _⟩ g1, g2⟩
theorem sw_gp_cm {cd : ClassFile.Cond} {x y : Int32} {P1 P2 : Prop} (h : sw_cm cd x y P1 P2) : P1 ∨ P2 := by
  cases cd <;> simp only [sw_cm] at h <;> split at h <;> first | exact Or.inl h | exact Or.inr h
theorem sw_gp_call {a : List Value} (h : sw_Cp L xs E nL ls a r H) (hn : ls.length = nL → (sw_no ls).length = nL := fun h => by unfold sw_no; rw [List.length_map]; exact h) : sw_Gp L xs E nL ls (a.reverse ++ r) H := by
  obtain ⟨o1, H1, h1, h2, h3⟩ := h
  intro hI
  have sfa : sw_sf H.2.1 a := fun v hv => hI.2.2.2 v (List.mem_append_left _ (List.mem_reverse.mpr hv))
  have sfr : sw_sf H.2.1 r := fun v hv => hI.2.2.2 v (List.mem_append_right _ hv)
  obtain ⟨hle, hok⟩ := h1 hI.1 sfa
  cases ho : o1 with
  | none =>
    rcases h3 ho with g | g
    · obtain ⟨g1, g2⟩ := g ⟨hok.1, hn hI.2.1, fun v hv => by unfold sw_no at hv; simp at hv, sw_sf_nil⟩
      exact ⟨hle.tr g1, g2⟩
    · rw [g]
      subst ho
      exact ⟨hle, hok⟩
  | some v =>
    have g := h2 v ho
    obtain ⟨g1, g2⟩ := g ⟨hok.1, hI.2.1, fun w hw => sw_rf_up hle.1 (hI.2.2.1 w hw), fun w hw => by
      rcases List.mem_append.mp hw with q | q
      · subst ho
        rcases hok.2 with z | z | ⟨x, z⟩ | ⟨x, z⟩
        · cases z
        · cases z; cases q
        · cases z; cases List.mem_singleton.mp q; trivial
        · cases z; cases List.mem_singleton.mp q; trivial
      · exact sw_rf_up hle.1 (sfr w q)⟩
    exact ⟨hle.tr g1, g2⟩
theorem sw_pure {ins : Instr} (h : sw_SX False (fun _ ls st H => sw_Gp L xs E nL ls st H) (fun _ a r H => sw_Cp L xs E nL ls a r H) (fun v H => E = (some v, H)) (fun H => E = (none, H)) m pc ins ls st H) : sw_Gp L xs E nL ls st H := by
  cases ins
  case iadd =>
    simp only [sw_SX] at h
    obtain ⟨x, y, r, rfl, h⟩ := sw_i2_v h
    exact sw_gp_st h fun hs _ => sw_s0i (sw_s1 (sw_s1 hs))
  case isub =>
    simp only [sw_SX] at h
    obtain ⟨x, y, r, rfl, h⟩ := sw_i2_v h
    exact sw_gp_st h fun hs _ => sw_s0i (sw_s1 (sw_s1 hs))
  case imul =>
    simp only [sw_SX] at h
    obtain ⟨x, y, r, rfl, h⟩ := sw_i2_v h
    exact sw_gp_st h fun hs _ => sw_s0i (sw_s1 (sw_s1 hs))
  case iand =>
    simp only [sw_SX] at h
    obtain ⟨x, y, r, rfl, h⟩ := sw_i2_v h
    exact sw_gp_st h fun hs _ => sw_s0i (sw_s1 (sw_s1 hs))
  case ior =>
    simp only [sw_SX] at h
    obtain ⟨x, y, r, rfl, h⟩ := sw_i2_v h
    exact sw_gp_st h fun hs _ => sw_s0i (sw_s1 (sw_s1 hs))
  case ixor =>
    simp only [sw_SX] at h
    obtain ⟨x, y, r, rfl, h⟩ := sw_i2_v h
    exact sw_gp_st h fun hs _ => sw_s0i (sw_s1 (sw_s1 hs))
  case ishl =>
    simp only [sw_SX] at h
    obtain ⟨x, y, r, rfl, h⟩ := sw_i2_v h
    exact sw_gp_st h fun hs _ => sw_s0i (sw_s1 (sw_s1 hs))
  case ishr =>
    simp only [sw_SX] at h
    obtain ⟨x, y, r, rfl, h⟩ := sw_i2_v h
    exact sw_gp_st h fun hs _ => sw_s0i (sw_s1 (sw_s1 hs))
  case idiv =>
    simp only [sw_SX] at h
    obtain ⟨x, y, r, rfl, h⟩ := sw_i2_v h
    obtain ⟨hy, h⟩ := sw_nite_v h
    exact sw_gp_st h fun hs _ => sw_s0i (sw_s1 (sw_s1 hs))
  case irem =>
    simp only [sw_SX] at h
    obtain ⟨x, y, r, rfl, h⟩ := sw_i2_v h
    obtain ⟨hy, h⟩ := sw_nite_v h
    exact sw_gp_st h fun hs _ => sw_s0i (sw_s1 (sw_s1 hs))
  case ladd =>
    simp only [sw_SX] at h
    obtain ⟨x, y, r, rfl, h⟩ := sw_l2_v h
    exact sw_gp_st h fun hs _ => sw_s0l (sw_s1 (sw_s1 hs))
  case lsub =>
    simp only [sw_SX] at h
    obtain ⟨x, y, r, rfl, h⟩ := sw_l2_v h
    exact sw_gp_st h fun hs _ => sw_s0l (sw_s1 (sw_s1 hs))
  case lmul =>
    simp only [sw_SX] at h
    obtain ⟨x, y, r, rfl, h⟩ := sw_l2_v h
    exact sw_gp_st h fun hs _ => sw_s0l (sw_s1 (sw_s1 hs))
  case land =>
    simp only [sw_SX] at h
    obtain ⟨x, y, r, rfl, h⟩ := sw_l2_v h
    exact sw_gp_st h fun hs _ => sw_s0l (sw_s1 (sw_s1 hs))
  case lor =>
    simp only [sw_SX] at h
    obtain ⟨x, y, r, rfl, h⟩ := sw_l2_v h
    exact sw_gp_st h fun hs _ => sw_s0l (sw_s1 (sw_s1 hs))
  case lxor =>
    simp only [sw_SX] at h
    obtain ⟨x, y, r, rfl, h⟩ := sw_l2_v h
    exact sw_gp_st h fun hs _ => sw_s0l (sw_s1 (sw_s1 hs))
  case ldiv =>
    simp only [sw_SX] at h
    obtain ⟨x, y, r, rfl, h⟩ := sw_l2_v h
    obtain ⟨hy, h⟩ := sw_nite_v h
    exact sw_gp_st h fun hs _ => sw_s0l (sw_s1 (sw_s1 hs))
  case lcmp =>
    simp only [sw_SX] at h
    obtain ⟨x, y, r, rfl, h⟩ := sw_l2_v h
    exact sw_gp_st h fun hs _ => sw_s0i (sw_s1 (sw_s1 hs))
  case lshl =>
    simp only [sw_SX] at h
    obtain ⟨x, y, r, rfl, h⟩ := sw_li_v h
    exact sw_gp_st h fun hs _ => sw_s0l (sw_s1 (sw_s1 hs))
  case lshr =>
    simp only [sw_SX] at h
    obtain ⟨x, y, r, rfl, h⟩ := sw_li_v h
    exact sw_gp_st h fun hs _ => sw_s0l (sw_s1 (sw_s1 hs))
  case i2l =>
    simp only [sw_SX] at h
    obtain ⟨x, r, rfl, h⟩ := sw_i1_v h
    exact sw_gp_st h fun hs _ => sw_s0l (sw_s1 hs)
  case l2i =>
    simp only [sw_SX] at h
    obtain ⟨x, r, rfl, h⟩ := sw_l1_v h
    exact sw_gp_st h fun hs _ => sw_s0i (sw_s1 hs)
  case dup =>
    simp only [sw_SX] at h
    obtain ⟨x, r, rfl, h⟩ := sw_r1_v h
    exact sw_gp_st h fun hs _ => sw_sf_cons.mpr ⟨(sw_sf_cons.mp hs).1, hs⟩
  case dup2 =>
    simp only [sw_SX] at h
    obtain ⟨a, i, r, rfl, h⟩ := sw_ri_v h
    exact sw_gp_st h fun hs _ => sw_s0i (sw_sf_cons.mpr ⟨(sw_sf_cons.mp (sw_s1 hs)).1, hs⟩)
  case pop =>
    simp only [sw_SX] at h
    obtain ⟨x, r, rfl, h⟩ := sw_i1_v h
    exact sw_gp_st h fun hs _ => sw_s1 hs
  case goto o =>
    simp only [sw_SX] at h
    obtain ⟨t, ht, h⟩ := sw_jp_v h
    exact h
  case iconst n =>
    simp only [sw_SX] at h
    exact sw_gp_st h fun hs _ => sw_s0i hs
  case bipush n =>
    simp only [sw_SX] at h
    exact sw_gp_st h fun hs _ => sw_s0i hs
  case sipush n =>
    simp only [sw_SX] at h
    exact sw_gp_st h fun hs _ => sw_s0i hs
  case lconst n =>
    simp only [sw_SX] at h
    exact sw_gp_st h fun hs _ => sw_s0l hs
  case ldc i =>
    simp only [sw_SX] at h
    split at h
    · exact sw_gp_st h fun hs _ => sw_s0i hs
    · exact h.elim
  case ldc_w i =>
    simp only [sw_SX] at h
    split at h
    · exact sw_gp_st h fun hs _ => sw_s0i hs
    · exact h.elim
  case ldc2_w i =>
    simp only [sw_SX] at h
    split at h
    · exact sw_gp_st h fun hs _ => sw_s0l hs
    · exact h.elim
  case iload i =>
    simp only [sw_SX] at h
    obtain ⟨x, hv, h⟩ := sw_ldi_v h
    exact sw_gp_st h fun hs hl => sw_s0i hs
  case iload_n i =>
    simp only [sw_SX] at h
    obtain ⟨x, hv, h⟩ := sw_ldi_v h
    exact sw_gp_st h fun hs hl => sw_s0i hs
  case lload i =>
    simp only [sw_SX] at h
    obtain ⟨x, hv, h⟩ := sw_ldl_v h
    exact sw_gp_st h fun hs hl => sw_s0l hs
  case lload_n i =>
    simp only [sw_SX] at h
    obtain ⟨x, hv, h⟩ := sw_ldl_v h
    exact sw_gp_st h fun hs hl => sw_s0l hs
  case aload i =>
    simp only [sw_SX] at h
    obtain ⟨x, hv, h⟩ := sw_lda_v h
    exact sw_gp_st h fun hs hl => sw_sf_cons.mpr ⟨hl _ (List.mem_of_getElem? hv), hs⟩
  case aload_n i =>
    simp only [sw_SX] at h
    obtain ⟨x, hv, h⟩ := sw_lda_v h
    exact sw_gp_st h fun hs hl => sw_sf_cons.mpr ⟨hl _ (List.mem_of_getElem? hv), hs⟩
  case istore i =>
    simp only [sw_SX] at h
    obtain ⟨hi, h⟩ := sw_has1_v h
    obtain ⟨x, r, rfl, h⟩ := sw_i1_v h
    exact sw_gp_ls h (sw_set1_len _ _ _) fun hs hl => ⟨sw_s1 hs, sw_set1_rf hl (sw_sf_cons.mp hs).1⟩
  case istore_n i =>
    simp only [sw_SX] at h
    obtain ⟨hi, h⟩ := sw_has1_v h
    obtain ⟨x, r, rfl, h⟩ := sw_i1_v h
    exact sw_gp_ls h (sw_set1_len _ _ _) fun hs hl => ⟨sw_s1 hs, sw_set1_rf hl (sw_sf_cons.mp hs).1⟩
  case astore i =>
    simp only [sw_SX] at h
    obtain ⟨hi, h⟩ := sw_has1_v h
    obtain ⟨x, r, rfl, h⟩ := sw_r1_v h
    exact sw_gp_ls h (sw_set1_len _ _ _) fun hs hl => ⟨sw_s1 hs, sw_set1_rf hl (sw_sf_cons.mp hs).1⟩
  case astore_n i =>
    simp only [sw_SX] at h
    obtain ⟨hi, h⟩ := sw_has1_v h
    obtain ⟨x, r, rfl, h⟩ := sw_r1_v h
    exact sw_gp_ls h (sw_set1_len _ _ _) fun hs hl => ⟨sw_s1 hs, sw_set1_rf hl (sw_sf_cons.mp hs).1⟩
  case lstore i =>
    simp only [sw_SX] at h
    obtain ⟨hi, h⟩ := sw_has1_v h
    obtain ⟨x, r, rfl, h⟩ := sw_l1_v h
    exact sw_gp_ls h (sw_set2_len _ _ _) fun hs hl => ⟨sw_s1 hs, sw_set2_rf hl (sw_sf_cons.mp hs).1⟩
  case lstore_n i =>
    simp only [sw_SX] at h
    obtain ⟨hi, h⟩ := sw_has1_v h
    obtain ⟨x, r, rfl, h⟩ := sw_l1_v h
    exact sw_gp_ls h (sw_set2_len _ _ _) fun hs hl => ⟨sw_s1 hs, sw_set2_rf hl (sw_sf_cons.mp hs).1⟩
  case iinc i n =>
    simp only [sw_SX] at h
    obtain ⟨x, hv, h⟩ := sw_ldi_v h
    exact sw_gp_ls h (sw_set1_len _ _ _) fun hs hl => ⟨hs, sw_set1_rf (v := .int (x + Int32.ofInt n)) hl trivial⟩
  case ifCond cd o =>
    simp only [sw_SX] at h
    obtain ⟨x, r, rfl, h⟩ := sw_i1_v h
    obtain ⟨t, ht, h⟩ := sw_jp_v h
    rcases sw_gp_cm h with h | h
    · exact sw_gp_st h fun hs _ => sw_s1 hs
    · exact sw_gp_st h fun hs _ => sw_s1 hs
  case if_icmp cd o =>
    simp only [sw_SX] at h
    obtain ⟨x, y, r, rfl, h⟩ := sw_i2_v h
    obtain ⟨t, ht, h⟩ := sw_jp_v h
    rcases sw_gp_cm h with h | h
    · exact sw_gp_st h fun hs _ => sw_s1 (sw_s1 hs)
    · exact sw_gp_st h fun hs _ => sw_s1 (sw_s1 hs)
  case tableswitch d lo hi os =>
    simp only [sw_SX] at h
    obtain ⟨x, r, rfl, h9⟩ := sw_i1_v h
    unfold sw_ts at h9
    split at h9
    · obtain ⟨t, ht, h9⟩ := sw_jp_v h9
      exact sw_gp_st h9 fun hs _ => sw_s1 hs
    · split at h9
      · obtain ⟨t, ht, h9⟩ := sw_jp_v h9
        exact sw_gp_st h9 fun hs _ => sw_s1 hs
      · exact h9.elim
  case iaload =>
    simp only [sw_SX] at h
    obtain ⟨a, i, r, rfl, h9⟩ := sw_ri_v h
    unfold sw_ald at h9
    split at h9
    · obtain ⟨q, h9⟩ := sw_ite_v h9
      exact sw_gp_st h9 fun hs _ => sw_s0i (sw_s1 (sw_s1 hs))
    · exact h9.elim
  case baload =>
    simp only [sw_SX] at h
    obtain ⟨a, i, r, rfl, h9⟩ := sw_ri_v h
    unfold sw_ald at h9
    split at h9
    · obtain ⟨q, h9⟩ := sw_ite_v h9
      exact sw_gp_st h9 fun hs _ => sw_s0i (sw_s1 (sw_s1 hs))
    · exact h9.elim
  case iastore =>
    simp only [sw_SX] at h
    obtain ⟨a, i, x, r, rfl, h9⟩ := sw_rix_v h
    unfold sw_ast at h9
    split at h9
    · obtain ⟨q, h9⟩ := sw_ite_v h9
      refine sw_gp_wr h9 fun hI => ⟨q.1.2, ?_, sw_s1 (sw_s1 (sw_s1 hI.2.2.2))⟩
      intro o ho; cases ho
    · exact h9.elim
  case bastore =>
    simp only [sw_SX] at h
    obtain ⟨a, i, x, r, rfl, h9⟩ := sw_rix_v h
    unfold sw_ast at h9
    split at h9
    · obtain ⟨q, h9⟩ := sw_ite_v h9
      refine sw_gp_wr h9 fun hI => ⟨q.1.2, ?_, sw_s1 (sw_s1 (sw_s1 hI.2.2.2))⟩
      intro o ho; cases ho
    · exact h9.elim
  case arraylength =>
    simp only [sw_SX] at h
    obtain ⟨a, r, rfl, h9⟩ := sw_r1_v h
    unfold sw_aln at h9
    split at h9
    · obtain ⟨q, h9⟩ := sw_ite_v h9
      exact sw_gp_st h9 fun hs _ => sw_s0i (sw_s1 hs)
    · exact h9.elim
  case getfield i =>
    simp only [sw_SX] at h
    obtain ⟨a, r, rfl, h9⟩ := sw_r1_v h
    unfold sw_gf at h9
    split at h9
    · exact h9.elim
    · split at h9
      · next o ho =>
        obtain ⟨q, h9⟩ := sw_ite_v h9
        split at h9
        · next v hv => exact fun hI => h9 ⟨hI.1, hI.2.1, hI.2.2.1, sw_sf_cons.mpr ⟨hI.1.2.2 a (sw_sf_cons.mp hI.2.2.2).1 o ho v (List.mem_of_getElem? hv), sw_s1 hI.2.2.2⟩⟩
        · exact h9.elim
      · exact h9.elim
  case putfield i =>
    simp only [sw_SX] at h
    obtain ⟨a, v, r, rfl, h9⟩ := sw_rv_v h
    unfold sw_pf at h9
    split at h9
    · exact h9.elim
    · split at h9
      · next o ho =>
        obtain ⟨q, h9⟩ := sw_ite_v h9
        refine sw_gp_wr h9 fun hI => ⟨?_, fun o2 ho2 w hw => ?_, sw_s1 (sw_s1 hI.2.2.2)⟩
        · rintro rfl
          rw [hI.1.2.1] at ho
          cases ho
        · cases ho2
          rcases List.mem_or_eq_of_mem_set hw with q | q
          · exact hI.1.2.2 a (sw_sf_cons.mp (sw_s1 hI.2.2.2)).1 o ho w q
          · rw [q]; exact (sw_sf_cons.mp hI.2.2.2).1
      · exact h9.elim
  case getstatic i =>
    simp only [sw_SX] at h
    obtain ⟨q, h⟩ := sw_ite_v h
    exact sw_gp_st h fun hs _ => sw_s0i hs
  case new i =>
    simp only [sw_SX] at h
    split at h
    · exact sw_gp_mk h (fun o ho v hv => by cases ho; exact sw_df_rf v hv) (fun hs => hs)
    · obtain ⟨q, h⟩ := sw_ite_v h
      rw [h]
      exact fun hI => ⟨⟨Nat.le_refl _, Nat.le_succ _, Nat.le_add_right _ _⟩, hI.1, Or.inl rfl⟩
  case newarray t =>
    simp only [sw_SX] at h
    obtain ⟨n, r, rfl, h⟩ := sw_i1_v h
    cases t
    case int => exact sw_gp_mk (sw_ite_v h).2 (fun o ho => nomatch ho) (fun hs => sw_s1 hs)
    case boolean => exact sw_gp_mk (sw_ite_v h).2 (fun o ho => nomatch ho) (fun hs => sw_s1 hs)
    case byte => exact sw_gp_mk (sw_ite_v h).2 (fun o ho => nomatch ho) (fun hs => sw_s1 hs)
    all_goals exact h.elim
  case invokestatic i =>
    simp only [sw_SX] at h
    split at h
    · split at h
      · obtain ⟨a, r, rfl, hn, h⟩ := sw_pop_v _ _ _ h
        rw [List.append_nil] at h
        exact sw_gp_call (sw_ck_v h).2
      · obtain ⟨q, h⟩ := sw_ite_v h
        obtain ⟨x, y, r, rfl, h⟩ := sw_i2_v h
        exact sw_gp_st (sw_ck_v h).2 fun hs _ => sw_s0i (sw_s1 (sw_s1 hs))
    · exact h.elim
  case invokevirtual i =>
    simp only [sw_SX] at h
    split at h
    · obtain ⟨q, h⟩ := sw_ite_v h
      obtain ⟨a, r, rfl, hn, h⟩ := sw_pop_v _ _ _ h
      rw [List.append_nil] at h
      have h := (sw_ck_v h).2
      unfold sw_rc at h
      split at h
      · exact sw_gp_call h
      · split at h
        · split at h
          · exact sw_gp_call (sw_ite_v h).2
          · exact h.elim
        · exact h.elim
    · exact h.elim
  case invokespecial i =>
    simp only [sw_SX] at h
    split at h
    · split at h
      · obtain ⟨a, r, rfl, hn, h⟩ := sw_pop_v _ _ _ h
        rw [List.append_nil] at h
        obtain ⟨b0, as, rfl, h⟩ := sw_rr_v (sw_ck_v h).2
        exact sw_gp_call h
      · obtain ⟨q, h⟩ := sw_ite_v h
        obtain ⟨a, r, rfl, h⟩ := sw_r1_v h
        exact sw_gp_st (sw_ck_v h).2 fun hs _ => sw_s1 hs
    · exact h.elim
  case ireturn =>
    simp only [sw_SX] at h
    split at h
    · rw [(sw_ite_v h).2]
      exact fun hI => ⟨sw_Le.rf H, hI.1, Or.inr (Or.inr (Or.inl ⟨_, rfl⟩))⟩
    · exact h.elim
  case lreturn =>
    simp only [sw_SX] at h
    split at h
    · rw [(sw_ite_v h).2]
      exact fun hI => ⟨sw_Le.rf H, hI.1, Or.inr (Or.inr (Or.inr ⟨_, rfl⟩))⟩
    · exact h.elim
  case return_ =>
    simp only [sw_SX] at h
    split at h
    · rw [(sw_ite_v h).2]
      exact fun hI => ⟨sw_Le.rf H, hI.1, Or.inr (Or.inl rfl)⟩
    · exact h.elim
  all_goals exact h.elim
/-- a run of the abstract machine keeps the heap well -/
theorem sw_X_ok : ∀ (n m pc : Nat) (ls : sw_LS) (st : List Value) (H : sw_HS) (E : sw_Ot × sw_HS), sw_X n m pc ls st H = some E → ∀ nL, sw_Gp L xs E nL ls st H
  | 0, _, _, _, _, _, _, h, _ => by simp [sw_X] at h
  | n + 1, m, pc, ls, st, H, E, h, nL => by
    unfold sw_X at h
    split at h
    · cases h
    · split at h
      · rename_i ins len hd hl
        refine sw_pure (m := m) (pc := pc) (ins := ins) ?_
        refine sw_SX_p (P := fun (a : Option (sw_Ot × sw_HS)) (b : Prop) => a = some E → b) (fun h => by cases h) (fun pc ls st H h => sw_X_ok n m pc ls st H E h nL) (fun y a r H h => ?_) (fun v H h => (Option.some.inj h).symm) (fun H h => (Option.some.inj h).symm) m pc _ ls st H h
        try dsimp only at h ⊢
        by_cases hle : (sw_el a).length ≤ sw_ml y
        case neg => rw [if_neg hle] at h; cases h
        rw [if_pos hle] at h
        cases h1 : sw_X n y 0 (sw_en y a) [] H with
        | none => rw [h1] at h; cases h
        | some z =>
          rw [h1] at h
          obtain ⟨o1, H1⟩ := z
          refine ⟨o1, H1, fun hI hs => sw_X_ok n y 0 (sw_en y a) [] H (o1, H1) h1 (sw_ml y) ⟨hI, sw_en_len hle, sw_en_rf hs, sw_sf_nil⟩, fun v hv => ?_, fun hv => ?_⟩
          · subst hv
            exact sw_X_ok n m _ _ _ H1 E h nL
          · subst hv
            dsimp only at h
            split at h
            · exact Or.inl (sw_X_ok n m _ _ _ H1 E h nL)
            · exact Or.inr (Option.some.inj h).symm
      · cases h
end sw_pu
