section sw_P
variable {ρ σ : Type} {P : ρ → σ → Prop} {f1 : ρ} {f2 : σ}
theorem sw_jp_p (hf : P f1 f2) {pc : Nat} {o : Int} {K1 : Nat → ρ} {K2 : Nat → σ} (hK : ∀ t, P (K1 t) (K2 t)) : P (sw_jp f1 pc o K1) (sw_jp f2 pc o K2) := by
  unfold sw_jp
  split
  · exact hK _
  · exact hf
theorem sw_ldi_p (hf : P f1 f2) {ls : sw_LS} {k : Nat} {K1 : Int32 → ρ} {K2 : Int32 → σ} (hK : ∀ t, P (K1 t) (K2 t)) : P (sw_ldi f1 ls k K1) (sw_ldi f2 ls k K2) := by
  unfold sw_ldi
  split
  · exact hK _
  · exact hf
theorem sw_ldl_p (hf : P f1 f2) {ls : sw_LS} {k : Nat} {K1 : Int64 → ρ} {K2 : Int64 → σ} (hK : ∀ t, P (K1 t) (K2 t)) : P (sw_ldl f1 ls k K1) (sw_ldl f2 ls k K2) := by
  unfold sw_ldl
  split
  · exact hK _
  · exact hf
theorem sw_lda_p (hf : P f1 f2) {ls : sw_LS} {k : Nat} {K1 : Nat → ρ} {K2 : Nat → σ} (hK : ∀ t, P (K1 t) (K2 t)) : P (sw_lda f1 ls k K1) (sw_lda f2 ls k K2) := by
  unfold sw_lda
  split
  · exact hK _
  · exact hf
theorem sw_has1_p (hf : P f1 f2) {ls : sw_LS} {k : Nat} {K1 : ρ} {K2 : σ} (hK : P K1 K2) : P (sw_has1 f1 ls k K1) (sw_has1 f2 ls k K2) := by
  unfold sw_has1
  split
  · exact hK
  · exact hf
theorem sw_i1_p (hf : P f1 f2) {st : List Value} {K1 : Int32 → List Value → ρ} {K2 : Int32 → List Value → σ} (hK : ∀ x r, P (K1 x r) (K2 x r)) : P (sw_i1 f1 st K1) (sw_i1 f2 st K2) := by
  unfold sw_i1
  split
  · exact hK _ _
  · exact hf
theorem sw_i2_p (hf : P f1 f2) {st : List Value} {K1 : Int32 → Int32 → List Value → ρ} {K2 : Int32 → Int32 → List Value → σ} (hK : ∀ x y r, P (K1 x y r) (K2 x y r)) : P (sw_i2 f1 st K1) (sw_i2 f2 st K2) := by
  unfold sw_i2
  split
  · exact hK _ _ _
  · exact hf
theorem sw_l1_p (hf : P f1 f2) {st : List Value} {K1 : Int64 → List Value → ρ} {K2 : Int64 → List Value → σ} (hK : ∀ x r, P (K1 x r) (K2 x r)) : P (sw_l1 f1 st K1) (sw_l1 f2 st K2) := by
  unfold sw_l1
  split
  · exact hK _ _
  · exact hf
theorem sw_l2_p (hf : P f1 f2) {st : List Value} {K1 : Int64 → Int64 → List Value → ρ} {K2 : Int64 → Int64 → List Value → σ} (hK : ∀ x y r, P (K1 x y r) (K2 x y r)) : P (sw_l2 f1 st K1) (sw_l2 f2 st K2) := by
  unfold sw_l2
  split
  · exact hK _ _ _
  · exact hf
theorem sw_li_p (hf : P f1 f2) {st : List Value} {K1 : Int64 → Int32 → List Value → ρ} {K2 : Int64 → Int32 → List Value → σ} (hK : ∀ x y r, P (K1 x y r) (K2 x y r)) : P (sw_li f1 st K1) (sw_li f2 st K2) := by
  unfold sw_li
  split
  · exact hK _ _ _
  · exact hf
theorem sw_r1_p (hf : P f1 f2) {st : List Value} {K1 : Nat → List Value → ρ} {K2 : Nat → List Value → σ} (hK : ∀ x r, P (K1 x r) (K2 x r)) : P (sw_r1 f1 st K1) (sw_r1 f2 st K2) := by
  unfold sw_r1
  split
  · exact hK _ _
  · exact hf
theorem sw_ri_p (hf : P f1 f2) {st : List Value} {K1 : Nat → Int32 → List Value → ρ} {K2 : Nat → Int32 → List Value → σ} (hK : ∀ x y r, P (K1 x y r) (K2 x y r)) : P (sw_ri f1 st K1) (sw_ri f2 st K2) := by
  unfold sw_ri
  split
  · exact hK _ _ _
  · exact hf
theorem sw_rix_p (hf : P f1 f2) {st : List Value} {K1 : Nat → Int32 → Int32 → List Value → ρ} {K2 : Nat → Int32 → Int32 → List Value → σ} (hK : ∀ x y z r, P (K1 x y z r) (K2 x y z r)) : P (sw_rix f1 st K1) (sw_rix f2 st K2) := by
  unfold sw_rix
  split
  · exact hK _ _ _ _
  · exact hf
theorem sw_rv_p (hf : P f1 f2) {st : List Value} {K1 : Nat → Value → List Value → ρ} {K2 : Nat → Value → List Value → σ} (hK : ∀ x y r, P (K1 x y r) (K2 x y r)) : P (sw_rv f1 st K1) (sw_rv f2 st K2) := by
  unfold sw_rv
  split
  · exact hK _ _ _
  · exact hf
theorem sw_ite_p (hf : P f1 f2) {c : Prop} [Decidable c] {K1 : ρ} {K2 : σ} (hK : P K1 K2) : P (if c then K1 else f1) (if c then K2 else f2) := by
  split
  · exact hK
  · exact hf
theorem sw_nite_p (hf : P f1 f2) {c : Prop} [Decidable c] {K1 : ρ} {K2 : σ} (hK : P K1 K2) : P (if c then f1 else K1) (if c then f2 else K2) := by
  split
  · exact hf
  · exact hK
theorem sw_ald_p (hf : P f1 f2) {H : sw_HS} {t a : Nat} {i : Int32} {K1 : Int32 → ρ} {K2 : Int32 → σ} (hK : ∀ t, P (K1 t) (K2 t)) : P (sw_ald f1 H t a i K1) (sw_ald f2 H t a i K2) := by
  unfold sw_ald
  split
  · exact sw_ite_p hf (hK _)
  · exact hf
theorem sw_ast_p (hf : P f1 f2) {H : sw_HS} {t a : Nat} {i x : Int32} {K1 : sw_HS → ρ} {K2 : sw_HS → σ} (hK : ∀ t, P (K1 t) (K2 t)) : P (sw_ast f1 H t a i x K1) (sw_ast f2 H t a i x K2) := by
  unfold sw_ast
  split
  · exact sw_ite_p hf (hK _)
  · exact hf
theorem sw_aln_p (hf : P f1 f2) {H : sw_HS} {a : Nat} {K1 : Int32 → ρ} {K2 : Int32 → σ} (hK : ∀ t, P (K1 t) (K2 t)) : P (sw_aln f1 H a K1) (sw_aln f2 H a K2) := by
  unfold sw_aln
  split
  · exact sw_ite_p hf (hK _)
  · exact hf
theorem sw_gf_p (hf : P f1 f2) {H : sw_HS} {e : Option (Nat × Nat × Nat)} {a : Nat} {K1 : Value → ρ} {K2 : Value → σ} (hK : ∀ t, P (K1 t) (K2 t)) : P (sw_gf f1 H e a K1) (sw_gf f2 H e a K2) := by
  unfold sw_gf
  split
  · exact hf
  · split
    · refine sw_ite_p hf ?_
      split
      · exact hK _
      · exact hf
    · exact hf
theorem sw_pf_p (hf : P f1 f2) {H : sw_HS} {e : Option (Nat × Nat × Nat)} {kd a : Nat} {v : Value} {K1 : sw_HS → ρ} {K2 : sw_HS → σ} (hK : ∀ t, P (K1 t) (K2 t)) : P (sw_pf f1 H e kd a v K1) (sw_pf f2 H e kd a v K2) := by
  unfold sw_pf
  split
  · exact hf
  · split
    · exact sw_ite_p hf (hK _)
    · exact hf
theorem sw_pop_p (hf : P f1 f2) {K1 : List Value → List Value → ρ} {K2 : List Value → List Value → σ} (hK : ∀ x r, P (K1 x r) (K2 x r)) : ∀ (n : Nat) (st acc : List Value), P (sw_pop f1 n st acc K1) (sw_pop f2 n st acc K2)
  | 0, st, acc => hK _ _
  | _ + 1, [], _ => hf
  | n + 1, v :: st, acc => sw_pop_p hf hK n st (v :: acc)
theorem sw_ck_p (hf : P f1 f2) {st : List Value} {K1 : ρ} {K2 : σ} (hK : P K1 K2) : P (sw_ck f1 st K1) (sw_ck f2 st K2) := sw_ite_p hf hK
theorem sw_rc_p (hf : P f1 f2) {H : sw_HS} {e : Option Nat} {args : List Value} {K1 : ρ} {K2 : σ} (hK : P K1 K2) : P (sw_rc f1 H e args K1) (sw_rc f2 H e args K2) := by
  unfold sw_rc
  split
  · exact hK
  · split
    · split
      · exact sw_ite_p hf hK
      · exact hf
    · exact hf
theorem sw_rr_p (hf : P f1 f2) {args : List Value} {K1 : ρ} {K2 : σ} (hK : P K1 K2) : P (sw_rr f1 args K1) (sw_rr f2 args K2) := by
  unfold sw_rr
  split
  · exact hK
  · exact hf
theorem sw_nw_p (hf : P f1 f2) {H : sw_HS} {t : Nat} {n : Int32} {K1 : sw_HS → ρ} {K2 : sw_HS → σ} (hK : ∀ t, P (K1 t) (K2 t)) : P (sw_nw f1 H t n K1) (sw_nw f2 H t n K2) := sw_ite_p hf (hK _)
theorem sw_cm_p {c : ClassFile.Cond} {x y : Int32} {a1 b1 : ρ} {a2 b2 : σ} (ha : P a1 a2) (hb : P b1 b2) : P (sw_cm c x y a1 b1) (sw_cm c x y a2 b2) := by
  unfold sw_cm
  split <;> (split <;> first | exact ha | exact hb)
theorem sw_ts_p (hf : P f1 f2) {pc : Nat} {x : Int32} {d lo hi : Int} {os : Array Int} {K1 : Nat → ρ} {K2 : Nat → σ} (hK : ∀ t, P (K1 t) (K2 t)) : P (sw_ts f1 pc x d lo hi os K1) (sw_ts f2 pc x d lo hi os K2) := by
  unfold sw_ts
  split
  · exact sw_jp_p hf hK
  · split
    · exact sw_jp_p hf hK
    · exact hf
set_option maxHeartbeats 4000000 in
theorem sw_SX_p (hf : P f1 f2) {K1 : Nat → sw_LS → List Value → sw_HS → ρ} {K2 : Nat → sw_LS → List Value → sw_HS → σ} {C1 : Nat → List Value → List Value → sw_HS → ρ} {C2 : Nat → List Value → List Value → sw_HS → σ} {R1 : Option Value → sw_HS → ρ} {R2 : Option Value → sw_HS → σ} {T1 : sw_HS → ρ} {T2 : sw_HS → σ}
    (hK : ∀ pc ls st H, P (K1 pc ls st H) (K2 pc ls st H)) (hC : ∀ y a r H, P (C1 y a r H) (C2 y a r H)) (hR : ∀ v H, P (R1 v H) (R2 v H)) (hT : ∀ H, P (T1 H) (T2 H)) (m pc : Nat) (ins : Instr) (ls : sw_LS) (st : List Value) (H : sw_HS) :
    P (sw_SX f1 K1 C1 R1 T1 m pc ins ls st H) (sw_SX f2 K2 C2 R2 T2 m pc ins ls st H) := by
  cases ins <;> simp only [sw_SX] <;> first
    | exact hf
    | exact hK _ _ _ _
    | exact sw_ldi_p hf fun _ => hK _ _ _ _
    | exact sw_ldl_p hf fun _ => hK _ _ _ _
    | exact sw_lda_p hf fun _ => hK _ _ _ _
    | exact sw_has1_p hf (sw_i1_p hf fun _ _ => hK _ _ _ _)
    | exact sw_has1_p hf (sw_l1_p hf fun _ _ => hK _ _ _ _)
    | exact sw_has1_p hf (sw_r1_p hf fun _ _ => hK _ _ _ _)
    | exact sw_i2_p hf fun _ _ _ => hK _ _ _ _
    | exact sw_i2_p hf fun _ _ _ => sw_nite_p hf (hK _ _ _ _)
    | exact sw_l2_p hf fun _ _ _ => hK _ _ _ _
    | exact sw_l2_p hf fun _ _ _ => sw_nite_p hf (hK _ _ _ _)
    | exact sw_li_p hf fun _ _ _ => hK _ _ _ _
    | exact sw_i1_p hf fun _ _ => hK _ _ _ _
    | exact sw_l1_p hf fun _ _ => hK _ _ _ _
    | exact sw_r1_p hf fun _ _ => hK _ _ _ _
    | exact sw_ri_p hf fun _ _ _ => hK _ _ _ _
    | exact sw_i1_p hf fun _ _ => sw_jp_p hf fun _ => sw_cm_p (hK _ _ _ _) (hK _ _ _ _)
    | exact sw_i2_p hf fun _ _ _ => sw_jp_p hf fun _ => sw_cm_p (hK _ _ _ _) (hK _ _ _ _)
    | exact sw_jp_p hf fun _ => hK _ _ _ _
    | exact sw_i1_p hf fun _ _ => sw_ts_p hf fun _ => hK _ _ _ _
    | exact sw_ri_p hf fun _ _ _ => sw_ald_p hf fun _ => hK _ _ _ _
    | exact sw_rix_p hf fun _ _ _ _ => sw_ast_p hf fun _ => hK _ _ _ _
    | exact sw_r1_p hf fun _ _ => sw_aln_p hf fun _ => hK _ _ _ _
    | exact sw_r1_p hf fun _ _ => sw_gf_p hf fun _ => hK _ _ _ _
    | exact sw_rv_p hf fun _ _ _ => sw_pf_p hf fun _ => hK _ _ _ _
    | exact sw_ite_p hf (hK _ _ _ _)
    | (split <;> first
        | exact hf
        | exact hK _ _ _ _
        | exact hR _ _
        | exact sw_ite_p hf (hT _)
        | exact sw_ite_p hf (hR _ _)
        | exact sw_ite_p hf (sw_pop_p hf (fun _ _ => sw_ck_p hf (hC _ _ _ _)) _ _ _)
        | exact sw_ite_p hf (sw_pop_p hf (fun _ _ => sw_ck_p hf (sw_rc_p hf (hC _ _ _ _))) _ _ _)
        | exact sw_i1_p hf fun _ _ => sw_nw_p hf fun _ => hK _ _ _ _
        | (split
           · exact sw_pop_p hf (fun _ _ => sw_ck_p hf (sw_rr_p hf (hC _ _ _ _))) _ _ _
           · exact sw_ite_p hf (sw_r1_p hf fun _ _ => sw_ck_p hf (hK _ _ _ _)))
        | (split
           · exact sw_pop_p hf (fun _ _ => sw_ck_p hf (hC _ _ _ _)) _ _ _
           · exact sw_ite_p hf (sw_i2_p hf fun _ _ _ => sw_ck_p hf (hK _ _ _ _)))
        | exact sw_i1_p hf fun _ _ => hf)
end sw_P
/-- more fuel does the same -/
theorem sw_X_up : ∀ (n k : Nat) (m pc : Nat) (ls : sw_LS) (st : List Value) (H : sw_HS) (r : sw_Ot × sw_HS), sw_X n m pc ls st H = some r → sw_X (n + k) m pc ls st H = some r
  | 0, _, _, _, _, _, _, _, h => by simp [sw_X] at h
  | n + 1, k, m, pc, ls, st, H, r, h => by
    rw [show n + 1 + k = (n + k) + 1 by omega]
    unfold sw_X at h ⊢
    split at h
    · cases h
    · split at h
      · rename_i ins len hd hl
        rw [if_pos hl]
        refine sw_SX_p (P := fun (a b : Option (sw_Ot × sw_HS)) => ∀ r, a = some r → b = some r) (fun _ h => by cases h) (fun pc ls st H r h => sw_X_up n k m pc ls st H r h) (fun y a q H r h => ?_) (fun _ _ _ h => h) (fun _ _ h => h) m pc ins ls st H r h
        try dsimp only at h ⊢
        by_cases hle : (sw_el a).length ≤ sw_ml y
        case neg => rw [if_neg hle] at h; cases h
        rw [if_pos hle] at h ⊢
        cases h1 : sw_X n y 0 (sw_en y a) [] H with
        | none => rw [h1] at h; cases h
        | some z =>
          rw [h1] at h
          rw [sw_X_up n k y 0 _ _ H z h1]
          obtain ⟨o, H1⟩ := z
          cases o with
          | some v => exact sw_X_up n k m _ _ _ H1 r h
          | none =>
            cases h2 : sw_hd m pc with
            | none => rw [h2] at h; exact h
            | some z => rw [h2] at h; exact sw_X_up n k m _ _ _ H1 r h
      · cases h
/-- one step, as an equation -/
theorem sw_A_step {m pc : Nat} {cc : ByteArray} {ins : Instr} {len : Nat} (hb : sw_by m = cc) (hd : decode cc pc = .ok (ins, len)) (hl : sw_ln ins len = true) (ls : sw_LS) (st : List Value) (H : sw_HS) (Q : sw_Ot → sw_HS → Prop) :
    sw_A m pc ls st H Q = sw_SX False (fun pc ls st H => sw_A m pc ls st H Q) (fun y a r H => sw_M y a H (sw_K m (pc + 3) (sw_hd m pc) ls r Q)) (fun v H => Q (some v) H) (fun H => Q none H) m pc ins ls st H := by
  have hX : ∀ n, sw_X (n + 1) m pc ls st H = sw_SX none (fun pc ls st H => sw_X n m pc ls st H)
        (fun y args r H => if (sw_el args).length ≤ sw_ml y then (match sw_X n y 0 (sw_en y args) [] H with
          | none => none
          | some (some v, H1) => sw_X n m (pc + 3) ls (v.toList ++ r) H1
          | some (none, H1) => match sw_hd m pc with
            | some q => sw_X n m q (sw_no ls) [] H1
            | none => some (none, H1)) else none)
        (fun v H => some (some v, H)) (fun H => some (none, H)) m pc ins ls st H := by
    intro n
    rw [sw_X, hb, hd]
    dsimp only
    rw [if_pos hl]
    rfl
  refine propext ⟨fun h => ?_, fun h => ?_⟩
  · obtain ⟨n, o, H1, h1, h2⟩ := h
    cases n with
    | zero => simp [sw_X] at h1
    | succ n =>
      rw [hX n] at h1
      refine sw_SX_p (P := fun (a : Option (sw_Ot × sw_HS)) (b : Prop) => ∀ o H1, a = some (o, H1) → Q o H1 → b) (fun _ _ h => by cases h) (fun pc ls st H o H1 h q => ⟨n, o, H1, h, q⟩) (fun y a r H o H1 h q => ?_) (fun v H o H1 h q => by cases h; exact q) (fun H o H1 h q => by cases h; exact q) m pc ins ls st H o H1 h1 h2
      by_cases hle : (sw_el a).length ≤ sw_ml y
      case neg => rw [if_neg hle] at h; cases h
      rw [if_pos hle] at h
      refine ⟨hle, ?_⟩
      cases h3 : sw_X n y 0 (sw_en y a) [] H with
      | none => rw [h3] at h; cases h
      | some z =>
        rw [h3] at h
        obtain ⟨o2, H2⟩ := z
        refine ⟨n, o2, H2, h3, ?_⟩
        cases o2 with
        | some v => exact ⟨n, o, H1, h, q⟩
        | none =>
          unfold sw_K
          dsimp only at h ⊢
          cases h4 : sw_hd m pc with
          | none => rw [h4] at h; cases h; exact q
          | some z => rw [h4] at h; exact ⟨n, o, H1, h, q⟩
  · have key : ∃ n o H1, (sw_SX (ρ := Nat → Option (sw_Ot × sw_HS)) (fun _ => none) (fun pc ls st H n => sw_X n m pc ls st H)
        (fun y args r H n => if (sw_el args).length ≤ sw_ml y then (match sw_X n y 0 (sw_en y args) [] H with
          | none => none
          | some (some v, H1) => sw_X n m (pc + 3) ls (v.toList ++ r) H1
          | some (none, H1) => match sw_hd m pc with
            | some q => sw_X n m q (sw_no ls) [] H1
            | none => some (none, H1)) else none)
        (fun v H _ => some (some v, H)) (fun H _ => some (none, H)) m pc ins ls st H) n = some (o, H1) ∧ Q o H1 := by
      refine sw_SX_p (P := fun (b : Prop) (a : Nat → Option (sw_Ot × sw_HS)) => b → ∃ n o H1, a n = some (o, H1) ∧ Q o H1) (fun h => h.elim) (fun pc ls st H h => h) (fun y a r H h => ?_) (fun v H h => ⟨0, _, _, rfl, h⟩) (fun H h => ⟨0, _, _, rfl, h⟩) m pc ins ls st H h
      obtain ⟨hle, n1, o1, H1, h1, h2⟩ := h
      simp only [if_pos hle]
      cases o1 with
      | some v =>
        obtain ⟨n2, o2, H2, h3, h4⟩ := h2
        refine ⟨n1 + n2, o2, H2, ?_, h4⟩
        rw [sw_X_up n1 n2 _ _ _ _ _ _ h1]
        dsimp only
        rw [show n1 + n2 = n2 + n1 by omega]
        exact sw_X_up n2 n1 _ _ _ _ _ _ h3
      | none =>
        unfold sw_K at h2
        dsimp only at h2
        cases h5 : sw_hd m pc with
        | none =>
          rw [h5] at h2
          refine ⟨n1, none, H1, ?_, h2⟩
          rw [h1]
        | some z =>
          rw [h5] at h2
          obtain ⟨n2, o2, H2, h3, h4⟩ := h2
          refine ⟨n1 + n2, o2, H2, ?_, h4⟩
          rw [sw_X_up n1 n2 _ _ _ _ _ _ h1]
          dsimp only
          rw [show n1 + n2 = n2 + n1 by omega]
          exact sw_X_up n2 n1 _ _ _ _ _ _ h3
    obtain ⟨n, o, H1, h1, h2⟩ := key
    refine ⟨n + 1, o, H1, ?_, h2⟩
    rw [hX n]
    rw [← h1]
    refine sw_SX_p (P := fun (b : Option (sw_Ot × sw_HS)) (a : Nat → Option (sw_Ot × sw_HS)) => b = a n) ?_ ?_ ?_ ?_ ?_ m pc ins ls st H
    · rfl
    · intros; rfl
    · intros; rfl
    · intros; rfl
    · intros; rfl
theorem sw_A_mono {m pc : Nat} {ls : sw_LS} {st : List Value} {H : sw_HS} {Q Q2 : sw_Ot → sw_HS → Prop} (h : sw_A m pc ls st H Q) (hq : ∀ o H1, Q o H1 → Q2 o H1) : sw_A m pc ls st H Q2 := by
  obtain ⟨n, o, H1, h1, h2⟩ := h
  exact ⟨n, o, H1, h1, hq o H1 h2⟩
