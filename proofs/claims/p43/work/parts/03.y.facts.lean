def sw_FC (ci : Nat) : Prop := ∃ (C : String) (T : u_T) (N : Nat) (ty : Nat → FieldType), sw_cl[ci]? = some (C, T, N) ∧ (∀ w ∈ u_ws C T N, w ∈ sw_T) ∧ (∀ a, a < N → ∀ b, b < N → a ≠ b → (T a).2.1 ≠ (T b).2.1) ∧ (∀ k, k < N → parseFieldDescriptor (T k).2.2.1 = some (ty k)) ∧
  Jvm.Cond.instantiable C N ∈ sw_T ∧ Jvm.Cond.initialized C ∈ sw_T ∧ (sw_df ci).length = N ∧ (∀ k, k < N → defaultValue (ty k) = vp_V (sw_df ci) k)
theorem sw_uws {C : String} {T : u_T} {N : Nat} (h : ∀ k, k < N → u_lay C T k ∈ sw_T) : ∀ w ∈ u_ws C T N, w ∈ sw_T := by
  intro w hw
  obtain ⟨k, hk, rfl⟩ := List.mem_map.mp hw
  exact h k (List.mem_range.mp hk)
set_option maxRecDepth 100000 in
theorem sw_FC_0 : sw_FC 0 := ⟨RX0, TX0, 6, tyX0, rfl, sw_uws (fun k hk => match k, hk with | 0, _ => sw_in 237 rfl rfl | 1, _ => sw_in 239 rfl rfl | 2, _ => sw_in 241 rfl rfl | 3, _ => sw_in 243 rfl rfl | 4, _ => sw_in 245 rfl rfl | 5, _ => sw_in 247 rfl rfl | j + 6, h => absurd h (by omega)), nmX0, tyX0_ok, sw_in 230 rfl rfl, sw_in 39 rfl rfl, rfl, fun k hk => match k, hk with | 0, _ => rfl | 1, _ => rfl | 2, _ => rfl | 3, _ => rfl | 4, _ => rfl | 5, _ => rfl | j + 6, h => absurd h (by omega)⟩
set_option maxRecDepth 100000 in
theorem sw_FC_1 : sw_FC 1 := ⟨RX1, TX1, 5, tyX1, rfl, sw_uws (fun k hk => match k, hk with | 0, _ => sw_in 285 rfl rfl | 1, _ => sw_in 287 rfl rfl | 2, _ => sw_in 289 rfl rfl | 3, _ => sw_in 291 rfl rfl | 4, _ => sw_in 293 rfl rfl | j + 5, h => absurd h (by omega)), nmX1, tyX1_ok, sw_in 271 rfl rfl, sw_in 41 rfl rfl, rfl, fun k hk => match k, hk with | 0, _ => rfl | 1, _ => rfl | 2, _ => rfl | 3, _ => rfl | 4, _ => rfl | j + 5, h => absurd h (by omega)⟩
set_option maxRecDepth 100000 in
theorem sw_FC_2 : sw_FC 2 := ⟨RX2, TX2, 3, tyX2, rfl, sw_uws (fun k hk => match k, hk with | 0, _ => sw_in 222 rfl rfl | 1, _ => sw_in 224 rfl rfl | 2, _ => sw_in 226 rfl rfl | j + 3, h => absurd h (by omega)), nmX2, tyX2_ok, sw_in 199 rfl rfl, sw_in 37 rfl rfl, rfl, fun k hk => match k, hk with | 0, _ => rfl | 1, _ => rfl | 2, _ => rfl | j + 3, h => absurd h (by omega)⟩
set_option maxRecDepth 100000 in
theorem sw_FC_3 : sw_FC 3 := ⟨RX3, TX3, 2, tyX3, rfl, sw_uws (fun k hk => match k, hk with | 0, _ => sw_in 214 rfl rfl | 1, _ => sw_in 216 rfl rfl | j + 2, h => absurd h (by omega)), nmX3, tyX3_ok, sw_in 205 rfl rfl, sw_in 38 rfl rfl, rfl, fun k hk => match k, hk with | 0, _ => rfl | 1, _ => rfl | j + 2, h => absurd h (by omega)⟩
set_option maxRecDepth 100000 in
theorem sw_FC_4 : sw_FC 4 := ⟨RX4, TX4, 4, tyX4, rfl, sw_uws (fun k hk => match k, hk with | 0, _ => sw_in 189 rfl rfl | 1, _ => sw_in 191 rfl rfl | 2, _ => sw_in 193 rfl rfl | 3, _ => sw_in 195 rfl rfl | j + 4, h => absurd h (by omega)), nmX4, tyX4_ok, sw_in 178 rfl rfl, sw_in 36 rfl rfl, rfl, fun k hk => match k, hk with | 0, _ => rfl | 1, _ => rfl | 2, _ => rfl | 3, _ => rfl | j + 4, h => absurd h (by omega)⟩
set_option maxRecDepth 100000 in
theorem sw_FC_5 : sw_FC 5 := ⟨RX5, TX5, 3, tyX5, rfl, sw_uws (fun k hk => match k, hk with | 0, _ => sw_in 308 rfl rfl | 1, _ => sw_in 310 rfl rfl | 2, _ => sw_in 312 rfl rfl | j + 3, h => absurd h (by omega)), nmX5, tyX5_ok, sw_in 297 rfl rfl, sw_in 43 rfl rfl, rfl, fun k hk => match k, hk with | 0, _ => rfl | 1, _ => rfl | 2, _ => rfl | j + 3, h => absurd h (by omega)⟩
set_option maxRecDepth 100000 in
theorem sw_FC_6 : sw_FC 6 := ⟨RX6, TX6, 3, tyX6, rfl, sw_uws (fun k hk => match k, hk with | 0, _ => sw_in 263 rfl rfl | 1, _ => sw_in 265 rfl rfl | 2, _ => sw_in 267 rfl rfl | j + 3, h => absurd h (by omega)), nmX6, tyX6_ok, sw_in 253 rfl rfl, sw_in 40 rfl rfl, rfl, fun k hk => match k, hk with | 0, _ => rfl | 1, _ => rfl | 2, _ => rfl | j + 3, h => absurd h (by omega)⟩
set_option maxRecDepth 100000 in
theorem sw_FC_7 : sw_FC 7 := ⟨RX7, TX7, 9, tyX7, rfl, sw_uws (fun k hk => match k, hk with | 0, _ => sw_in 123 rfl rfl | 1, _ => sw_in 125 rfl rfl | 2, _ => sw_in 127 rfl rfl | 3, _ => sw_in 129 rfl rfl | 4, _ => sw_in 131 rfl rfl | 5, _ => sw_in 133 rfl rfl | 6, _ => sw_in 135 rfl rfl | 7, _ => sw_in 137 rfl rfl | 8, _ => sw_in 139 rfl rfl | j + 9, h => absurd h (by omega)), nmX7, tyX7_ok, sw_in 85 rfl rfl, sw_in 33 rfl rfl, rfl, fun k hk => match k, hk with | 0, _ => rfl | 1, _ => rfl | 2, _ => rfl | 3, _ => rfl | 4, _ => rfl | 5, _ => rfl | 6, _ => rfl | 7, _ => rfl | 8, _ => rfl | j + 9, h => absurd h (by omega)⟩
set_option maxRecDepth 100000 in
theorem sw_FC_8 : sw_FC 8 := ⟨RX8, TX8, 2, tyX8, rfl, sw_uws (fun k hk => match k, hk with | 0, _ => sw_in 78 rfl rfl | 1, _ => sw_in 80 rfl rfl | j + 2, h => absurd h (by omega)), nmX8, tyX8_ok, sw_in 64 rfl rfl, sw_in 32 rfl rfl, rfl, fun k hk => match k, hk with | 0, _ => rfl | 1, _ => rfl | j + 2, h => absurd h (by omega)⟩
set_option maxRecDepth 100000 in
theorem sw_FC_9 : sw_FC 9 := ⟨RX9, TX9, 7, tyX9, rfl, sw_uws (fun k hk => match k, hk with | 0, _ => sw_in 162 rfl rfl | 1, _ => sw_in 164 rfl rfl | 2, _ => sw_in 166 rfl rfl | 3, _ => sw_in 168 rfl rfl | 4, _ => sw_in 170 rfl rfl | 5, _ => sw_in 172 rfl rfl | 6, _ => sw_in 174 rfl rfl | j + 7, h => absurd h (by omega)), nmX9, tyX9_ok, sw_in 143 rfl rfl, sw_in 35 rfl rfl, rfl, fun k hk => match k, hk with | 0, _ => rfl | 1, _ => rfl | 2, _ => rfl | 3, _ => rfl | 4, _ => rfl | 5, _ => rfl | 6, _ => rfl | j + 7, h => absurd h (by omega)⟩
set_option maxRecDepth 100000 in
theorem sw_FC_10 : sw_FC 10 := ⟨RX10, TX10, 3, tyX10, rfl, sw_uws (fun k hk => match k, hk with | 0, _ => sw_in 101 rfl rfl | 1, _ => sw_in 103 rfl rfl | 2, _ => sw_in 105 rfl rfl | j + 3, h => absurd h (by omega)), nmX10, tyX10_ok, sw_in 91 rfl rfl, sw_in 34 rfl rfl, rfl, fun k hk => match k, hk with | 0, _ => rfl | 1, _ => rfl | 2, _ => rfl | j + 3, h => absurd h (by omega)⟩
set_option maxRecDepth 100000 in
theorem sw_FC_11 : sw_FC 11 := ⟨RX11, TX11, 12, tyX11, rfl, sw_uws (fun k hk => match k, hk with | 0, _ => sw_in 358 rfl rfl | 1, _ => sw_in 360 rfl rfl | 2, _ => sw_in 362 rfl rfl | 3, _ => sw_in 364 rfl rfl | 4, _ => sw_in 366 rfl rfl | 5, _ => sw_in 368 rfl rfl | 6, _ => sw_in 370 rfl rfl | 7, _ => sw_in 372 rfl rfl | 8, _ => sw_in 374 rfl rfl | 9, _ => sw_in 376 rfl rfl | 10, _ => sw_in 378 rfl rfl | 11, _ => sw_in 380 rfl rfl | j + 12, h => absurd h (by omega)), nmX11, tyX11_ok, sw_in 56 rfl rfl, sw_in 31 rfl rfl, rfl, fun k hk => match k, hk with | 0, _ => rfl | 1, _ => rfl | 2, _ => rfl | 3, _ => rfl | 4, _ => rfl | 5, _ => rfl | 6, _ => rfl | 7, _ => rfl | 8, _ => rfl | 9, _ => rfl | 10, _ => rfl | 11, _ => rfl | j + 12, h => absurd h (by omega)⟩
set_option maxRecDepth 100000 in
theorem sw_FC_12 : sw_FC 12 := ⟨RJ4, TJ4, 4, tyJ4, rfl, sw_uws (fun k hk => match k, hk with | 0, _ => sw_in 336 rfl rfl | 1, _ => sw_in 338 rfl rfl | 2, _ => sw_in 340 rfl rfl | 3, _ => sw_in 342 rfl rfl | j + 4, h => absurd h (by omega)), nmJ4, tyJ4_ok, sw_in 316 rfl rfl, sw_in 45 rfl rfl, rfl, fun k hk => match k, hk with | 0, _ => rfl | 1, _ => rfl | 2, _ => rfl | 3, _ => rfl | j + 4, h => absurd h (by omega)⟩
theorem sw_FC_at (ci : Nat) (h : ci < 13) : sw_FC ci := match ci, h with | 0, _ => sw_FC_0 | 1, _ => sw_FC_1 | 2, _ => sw_FC_2 | 3, _ => sw_FC_3 | 4, _ => sw_FC_4 | 5, _ => sw_FC_5 | 6, _ => sw_FC_6 | 7, _ => sw_FC_7 | 8, _ => sw_FC_8 | 9, _ => sw_FC_9 | 10, _ => sw_FC_10 | 11, _ => sw_FC_11 | 12, _ => sw_FC_12 | j + 13, h => absurd h (by omega)
theorem sw_look {α : Type} {L : List (List (Nat × α))} {o i : Nat} {v : α} (h : ((L[o]?).getD []).lookup i = some v) : ∃ l, L[o]? = some l ∧ (i, v) ∈ l := by
  cases ho : L[o]? with
  | none => rw [ho] at h; simp at h
  | some l =>
    rw [ho] at h
    refine ⟨l, rfl, ?_⟩
    simp only [Option.getD_some] at h
    clear ho
    induction l with
    | nil => simp at h
    | cons a l ih =>
      obtain ⟨j, w⟩ := a
      rw [List.lookup_cons] at h
      cases hj : i == j with
      | true =>
        rw [hj] at h
        cases h
        rw [beq_iff_eq.mp hj]
        exact List.mem_cons_self
      | false =>
        rw [hj] at h
        exact List.mem_cons_of_mem _ (ih h)
def sw_each {α : Type} (P : Nat → Nat → α → Prop) (o : Nat) : List (List (Nat × α)) → Prop
  | [] => True
  | l :: L => (∀ e ∈ l, P o e.1 e.2) ∧ sw_each P (o + 1) L
theorem sw_each_at {α : Type} {P : Nat → Nat → α → Prop} : ∀ (L : List (List (Nat × α))) (b : Nat), sw_each P b L → ∀ (o : Nat) (l : List (Nat × α)), L[o]? = some l → ∀ e ∈ l, P (b + o) e.1 e.2
  | [], _, _, o, l, h, _, _ => by simp at h
  | a :: L, b, hP, 0, l, h, e, he => by
    simp at h
    subst h
    exact hP.1 e he
  | a :: L, b, hP, o + 1, l, h, e, he => by
    rw [List.getElem?_cons_succ] at h
    have := sw_each_at L (b + 1) hP.2 o l h e he
    rwa [show b + 1 + o = b + (o + 1) by omega] at this
def sw_PF (o i : Nat) (e : Nat × Nat × Nat) : Prop := e.1 < 13 ∧ ∃ (C : String) (T : u_T) (N : Nat), sw_cl[e.1]? = some (C, T, N) ∧ e.2.1 < N ∧ ∃ ty, parseFieldDescriptor (T e.2.1).2.2.1 = some ty ∧
  ((Jvm.Cond.fieldLink (sw_on o) i (T e.2.1).1 (T e.2.1).2.1 (T e.2.1).2.2.1 ∈ sw_T ∧ (e.2.2 = 0 → (T e.2.1).2.2.2 = false ∧ ty = .int) ∧ (e.2.2 = 1 → (T e.2.1).2.2.2 = true ∧ (T e.2.1).1 = sw_on o ∧ ((∃ n, ty = .object n) ∨ ∃ t, ty = .array t)) ∧ (e.2.2 = 2 → (T e.2.1).2.2.2 = false ∧ ty = .byte) ∧ (e.2.2 = 4 → (T e.2.1).2.2.2 = false ∧ ((∃ n, ty = .object n) ∨ ∃ t, ty = .array t)))
  ∨ (e.2.2 = 3 ∧ ∃ host, Jvm.Cond.fieldLinkNest (sw_on o) i (T e.2.1).1 (T e.2.1).2.1 (T e.2.1).2.2.1 host ∈ sw_N))
theorem sw_PFo_0 : ∀ e ∈ ([] : List (Nat × (Nat × Nat × Nat))), sw_PF 0 e.1 e.2 := fun _ h => absurd h List.not_mem_nil
set_option maxRecDepth 100000 in
theorem sw_PF_1_15 : sw_PF 1 15 (12, 0, 4) := ⟨by decide, _, _, _, rfl, by decide, .array .byte, by decide +kernel, Or.inl ⟨sw_in 333 rfl rfl, fun h => absurd h (by decide), fun h => absurd h (by decide), fun h => absurd h (by decide), fun _ => ⟨rfl, Or.inr ⟨_, rfl⟩⟩⟩⟩
set_option maxRecDepth 100000 in
theorem sw_PF_1_22 : sw_PF 1 22 (12, 1, 2) := ⟨by decide, _, _, _, rfl, by decide, .byte, by decide +kernel, Or.inl ⟨sw_in 334 rfl rfl, fun h => absurd h (by decide), fun h => absurd h (by decide), fun _ => ⟨rfl, rfl⟩, fun h => absurd h (by decide)⟩⟩
theorem sw_PFo_1 : ∀ e ∈ ([(15, (12, 0, 4)), (22, (12, 1, 2))] : List (Nat × (Nat × Nat × Nat))), sw_PF 1 e.1 e.2 := List.forall_mem_cons.mpr ⟨sw_PF_1_15, List.forall_mem_cons.mpr ⟨sw_PF_1_22, fun _ h => absurd h List.not_mem_nil⟩⟩
theorem sw_PFo_2 : ∀ e ∈ ([] : List (Nat × (Nat × Nat × Nat))), sw_PF 2 e.1 e.2 := fun _ h => absurd h List.not_mem_nil
theorem sw_PFo_3 : ∀ e ∈ ([] : List (Nat × (Nat × Nat × Nat))), sw_PF 3 e.1 e.2 := fun _ h => absurd h List.not_mem_nil
set_option maxRecDepth 100000 in
theorem sw_PF_4_9 : sw_PF 4 9 (0, 0, 1) := ⟨by decide, _, _, _, rfl, by decide, .array .int, by decide +kernel, Or.inl ⟨sw_in 235 rfl rfl, fun h => absurd h (by decide), fun _ => ⟨rfl, rfl, Or.inr ⟨_, rfl⟩⟩, fun h => absurd h (by decide), fun h => absurd h (by decide)⟩⟩
set_option maxRecDepth 100000 in
theorem sw_PF_4_15 : sw_PF 4 15 (0, 1, 1) := ⟨by decide, _, _, _, rfl, by decide, .array .int, by decide +kernel, Or.inl ⟨sw_in 236 rfl rfl, fun h => absurd h (by decide), fun _ => ⟨rfl, rfl, Or.inr ⟨_, rfl⟩⟩, fun h => absurd h (by decide), fun h => absurd h (by decide)⟩⟩
theorem sw_PFo_4 : ∀ e ∈ ([(9, (0, 0, 1)), (15, (0, 1, 1))] : List (Nat × (Nat × Nat × Nat))), sw_PF 4 e.1 e.2 := List.forall_mem_cons.mpr ⟨sw_PF_4_9, List.forall_mem_cons.mpr ⟨sw_PF_4_15, fun _ h => absurd h List.not_mem_nil⟩⟩
set_option maxRecDepth 100000 in
theorem sw_PF_5_9 : sw_PF 5 9 (1, 0, 1) := ⟨by decide, _, _, _, rfl, by decide, .array .int, by decide +kernel, Or.inl ⟨sw_in 279 rfl rfl, fun h => absurd h (by decide), fun _ => ⟨rfl, rfl, Or.inr ⟨_, rfl⟩⟩, fun h => absurd h (by decide), fun h => absurd h (by decide)⟩⟩
set_option maxRecDepth 100000 in
theorem sw_PF_5_15 : sw_PF 5 15 (1, 1, 1) := ⟨by decide, _, _, _, rfl, by decide, .array .boolean, by decide +kernel, Or.inl ⟨sw_in 281 rfl rfl, fun h => absurd h (by decide), fun _ => ⟨rfl, rfl, Or.inr ⟨_, rfl⟩⟩, fun h => absurd h (by decide), fun h => absurd h (by decide)⟩⟩
set_option maxRecDepth 100000 in
theorem sw_PF_5_19 : sw_PF 5 19 (1, 2, 1) := ⟨by decide, _, _, _, rfl, by decide, .array .boolean, by decide +kernel, Or.inl ⟨sw_in 282 rfl rfl, fun h => absurd h (by decide), fun _ => ⟨rfl, rfl, Or.inr ⟨_, rfl⟩⟩, fun h => absurd h (by decide), fun h => absurd h (by decide)⟩⟩
set_option maxRecDepth 100000 in
theorem sw_PF_5_22 : sw_PF 5 22 (1, 3, 1) := ⟨by decide, _, _, _, rfl, by decide, .array .int, by decide +kernel, Or.inl ⟨sw_in 283 rfl rfl, fun h => absurd h (by decide), fun _ => ⟨rfl, rfl, Or.inr ⟨_, rfl⟩⟩, fun h => absurd h (by decide), fun h => absurd h (by decide)⟩⟩
set_option maxRecDepth 100000 in
theorem sw_PF_5_34 : sw_PF 5 34 (1, 4, 0) := ⟨by decide, _, _, _, rfl, by decide, .int, by decide +kernel, Or.inl ⟨sw_in 284 rfl rfl, fun _ => ⟨rfl, rfl⟩, fun h => absurd h (by decide), fun h => absurd h (by decide), fun h => absurd h (by decide)⟩⟩
theorem sw_PFo_5 : ∀ e ∈ ([(9, (1, 0, 1)), (15, (1, 1, 1)), (19, (1, 2, 1)), (22, (1, 3, 1)), (34, (1, 4, 0))] : List (Nat × (Nat × Nat × Nat))), sw_PF 5 e.1 e.2 := List.forall_mem_cons.mpr ⟨sw_PF_5_9, List.forall_mem_cons.mpr ⟨sw_PF_5_15, List.forall_mem_cons.mpr ⟨sw_PF_5_19, List.forall_mem_cons.mpr ⟨sw_PF_5_22, List.forall_mem_cons.mpr ⟨sw_PF_5_34, fun _ h => absurd h List.not_mem_nil⟩⟩⟩⟩⟩
set_option maxRecDepth 100000 in
theorem sw_PF_6_9 : sw_PF 6 9 (10, 0, 1) := ⟨by decide, _, _, _, rfl, by decide, .array .int, by decide +kernel, Or.inl ⟨sw_in 96 rfl rfl, fun h => absurd h (by decide), fun _ => ⟨rfl, rfl, Or.inr ⟨_, rfl⟩⟩, fun h => absurd h (by decide), fun h => absurd h (by decide)⟩⟩
set_option maxRecDepth 100000 in
theorem sw_PF_6_15 : sw_PF 6 15 (10, 1, 0) := ⟨by decide, _, _, _, rfl, by decide, .int, by decide +kernel, Or.inl ⟨sw_in 97 rfl rfl, fun _ => ⟨rfl, rfl⟩, fun h => absurd h (by decide), fun h => absurd h (by decide), fun h => absurd h (by decide)⟩⟩
set_option maxRecDepth 100000 in
theorem sw_PF_6_19 : sw_PF 6 19 (10, 2, 0) := ⟨by decide, _, _, _, rfl, by decide, .int, by decide +kernel, Or.inl ⟨sw_in 98 rfl rfl, fun _ => ⟨rfl, rfl⟩, fun h => absurd h (by decide), fun h => absurd h (by decide), fun h => absurd h (by decide)⟩⟩
theorem sw_PFo_6 : ∀ e ∈ ([(9, (10, 0, 1)), (15, (10, 1, 0)), (19, (10, 2, 0))] : List (Nat × (Nat × Nat × Nat))), sw_PF 6 e.1 e.2 := List.forall_mem_cons.mpr ⟨sw_PF_6_9, List.forall_mem_cons.mpr ⟨sw_PF_6_15, List.forall_mem_cons.mpr ⟨sw_PF_6_19, fun _ h => absurd h List.not_mem_nil⟩⟩⟩
set_option maxRecDepth 100000 in
theorem sw_PF_7_10 : sw_PF 7 10 (11, 0, 1) := ⟨by decide, _, _, _, rfl, by decide, .object "Seepwork$Numbers", by decide +kernel, Or.inl ⟨sw_in 346 rfl rfl, fun h => absurd h (by decide), fun _ => ⟨rfl, rfl, Or.inl ⟨_, rfl⟩⟩, fun h => absurd h (by decide), fun h => absurd h (by decide)⟩⟩
set_option maxRecDepth 100000 in
theorem sw_PF_7_16 : sw_PF 7 16 (11, 1, 1) := ⟨by decide, _, _, _, rfl, by decide, .object "Seepwork$Numbers", by decide +kernel, Or.inl ⟨sw_in 347 rfl rfl, fun h => absurd h (by decide), fun _ => ⟨rfl, rfl, Or.inl ⟨_, rfl⟩⟩, fun h => absurd h (by decide), fun h => absurd h (by decide)⟩⟩
set_option maxRecDepth 100000 in
theorem sw_PF_7_22 : sw_PF 7 22 (11, 2, 1) := ⟨by decide, _, _, _, rfl, by decide, .object "Seepwork$Land", by decide +kernel, Or.inl ⟨sw_in 348 rfl rfl, fun h => absurd h (by decide), fun _ => ⟨rfl, rfl, Or.inl ⟨_, rfl⟩⟩, fun h => absurd h (by decide), fun h => absurd h (by decide)⟩⟩
set_option maxRecDepth 100000 in
theorem sw_PF_7_29 : sw_PF 7 29 (11, 3, 1) := ⟨by decide, _, _, _, rfl, by decide, .object "Seepwork$Openings", by decide +kernel, Or.inl ⟨sw_in 349 rfl rfl, fun h => absurd h (by decide), fun _ => ⟨rfl, rfl, Or.inl ⟨_, rfl⟩⟩, fun h => absurd h (by decide), fun h => absurd h (by decide)⟩⟩
set_option maxRecDepth 100000 in
theorem sw_PF_7_36 : sw_PF 7 36 (11, 4, 1) := ⟨by decide, _, _, _, rfl, by decide, .object "Seepwork$Flow", by decide +kernel, Or.inl ⟨sw_in 350 rfl rfl, fun h => absurd h (by decide), fun _ => ⟨rfl, rfl, Or.inl ⟨_, rfl⟩⟩, fun h => absurd h (by decide), fun h => absurd h (by decide)⟩⟩
set_option maxRecDepth 100000 in
theorem sw_PF_7_43 : sw_PF 7 43 (11, 5, 1) := ⟨by decide, _, _, _, rfl, by decide, .object "Seepwork$EdgeFinder", by decide +kernel, Or.inl ⟨sw_in 351 rfl rfl, fun h => absurd h (by decide), fun _ => ⟨rfl, rfl, Or.inl ⟨_, rfl⟩⟩, fun h => absurd h (by decide), fun h => absurd h (by decide)⟩⟩
set_option maxRecDepth 100000 in
theorem sw_PF_7_50 : sw_PF 7 50 (11, 6, 1) := ⟨by decide, _, _, _, rfl, by decide, .object "Seepwork$Block", by decide +kernel, Or.inl ⟨sw_in 352 rfl rfl, fun h => absurd h (by decide), fun _ => ⟨rfl, rfl, Or.inl ⟨_, rfl⟩⟩, fun h => absurd h (by decide), fun h => absurd h (by decide)⟩⟩
set_option maxRecDepth 100000 in
theorem sw_PF_7_57 : sw_PF 7 57 (11, 7, 1) := ⟨by decide, _, _, _, rfl, by decide, .object "Seepwork$Floods", by decide +kernel, Or.inl ⟨sw_in 353 rfl rfl, fun h => absurd h (by decide), fun _ => ⟨rfl, rfl, Or.inl ⟨_, rfl⟩⟩, fun h => absurd h (by decide), fun h => absurd h (by decide)⟩⟩
set_option maxRecDepth 100000 in
theorem sw_PF_7_64 : sw_PF 7 64 (11, 8, 1) := ⟨by decide, _, _, _, rfl, by decide, .object "Seepwork$Invasion", by decide +kernel, Or.inl ⟨sw_in 354 rfl rfl, fun h => absurd h (by decide), fun _ => ⟨rfl, rfl, Or.inl ⟨_, rfl⟩⟩, fun h => absurd h (by decide), fun h => absurd h (by decide)⟩⟩
set_option maxRecDepth 100000 in
theorem sw_PF_7_71 : sw_PF 7 71 (11, 9, 1) := ⟨by decide, _, _, _, rfl, by decide, .object "Seepwork$Bundle", by decide +kernel, Or.inl ⟨sw_in 355 rfl rfl, fun h => absurd h (by decide), fun _ => ⟨rfl, rfl, Or.inl ⟨_, rfl⟩⟩, fun h => absurd h (by decide), fun h => absurd h (by decide)⟩⟩
set_option maxRecDepth 100000 in
theorem sw_PF_7_78 : sw_PF 7 78 (11, 10, 1) := ⟨by decide, _, _, _, rfl, by decide, .object "Seepwork$Fluids", by decide +kernel, Or.inl ⟨sw_in 356 rfl rfl, fun h => absurd h (by decide), fun _ => ⟨rfl, rfl, Or.inl ⟨_, rfl⟩⟩, fun h => absurd h (by decide), fun h => absurd h (by decide)⟩⟩
set_option maxRecDepth 100000 in
theorem sw_PF_7_85 : sw_PF 7 85 (11, 11, 1) := ⟨by decide, _, _, _, rfl, by decide, .object "java/lang/StringBuilder", by decide +kernel, Or.inl ⟨sw_in 357 rfl rfl, fun h => absurd h (by decide), fun _ => ⟨rfl, rfl, Or.inl ⟨_, rfl⟩⟩, fun h => absurd h (by decide), fun h => absurd h (by decide)⟩⟩
set_option maxRecDepth 100000 in
theorem sw_PF_7_101 : sw_PF 7 101 (8, 0, 3) := ⟨by decide, _, _, _, rfl, by decide, .array .int, by decide +kernel, Or.inr ⟨rfl, "Seepwork", sw_inN 72 rfl rfl⟩⟩
set_option maxRecDepth 100000 in
theorem sw_PF_7_108 : sw_PF 7 108 (8, 1, 3) := ⟨by decide, _, _, _, rfl, by decide, .array .int, by decide +kernel, Or.inr ⟨rfl, "Seepwork", sw_inN 76 rfl rfl⟩⟩
set_option maxRecDepth 100000 in
theorem sw_PF_7_118 : sw_PF 7 118 (7, 0, 3) := ⟨by decide, _, _, _, rfl, by decide, .array .boolean, by decide +kernel, Or.inr ⟨rfl, "Seepwork", sw_inN 110 rfl rfl⟩⟩
set_option maxRecDepth 100000 in
theorem sw_PF_7_144 : sw_PF 7 144 (9, 4, 3) := ⟨by decide, _, _, _, rfl, by decide, .int, by decide +kernel, Or.inr ⟨rfl, "Seepwork", sw_inN 157 rfl rfl⟩⟩
set_option maxRecDepth 100000 in
theorem sw_PF_7_148 : sw_PF 7 148 (9, 5, 3) := ⟨by decide, _, _, _, rfl, by decide, .int, by decide +kernel, Or.inr ⟨rfl, "Seepwork", sw_inN 159 rfl rfl⟩⟩
set_option maxRecDepth 100000 in
theorem sw_PF_7_151 : sw_PF 7 151 (9, 6, 3) := ⟨by decide, _, _, _, rfl, by decide, .int, by decide +kernel, Or.inr ⟨rfl, "Seepwork", sw_inN 161 rfl rfl⟩⟩
set_option maxRecDepth 100000 in
theorem sw_PF_7_194 : sw_PF 7 194 (3, 0, 3) := ⟨by decide, _, _, _, rfl, by decide, .array .int, by decide +kernel, Or.inr ⟨rfl, "Seepwork", sw_inN 212 rfl rfl⟩⟩
set_option maxRecDepth 100000 in
theorem sw_PF_7_218 : sw_PF 7 218 (6, 1, 3) := ⟨by decide, _, _, _, rfl, by decide, .int, by decide +kernel, Or.inr ⟨rfl, "Seepwork", sw_inN 260 rfl rfl⟩⟩
set_option maxRecDepth 100000 in
theorem sw_PF_7_221 : sw_PF 7 221 (6, 2, 3) := ⟨by decide, _, _, _, rfl, by decide, .int, by decide +kernel, Or.inr ⟨rfl, "Seepwork", sw_inN 262 rfl rfl⟩⟩
set_option maxRecDepth 100000 in
theorem sw_PF_7_227 : sw_PF 7 227 (7, 1, 3) := ⟨by decide, _, _, _, rfl, by decide, .array .boolean, by decide +kernel, Or.inr ⟨rfl, "Seepwork", sw_inN 112 rfl rfl⟩⟩
set_option maxRecDepth 100000 in
theorem sw_PF_7_233 : sw_PF 7 233 (7, 6, 3) := ⟨by decide, _, _, _, rfl, by decide, .int, by decide +kernel, Or.inr ⟨rfl, "Seepwork", sw_inN 119 rfl rfl⟩⟩
set_option maxRecDepth 100000 in
theorem sw_PF_7_236 : sw_PF 7 236 (7, 7, 3) := ⟨by decide, _, _, _, rfl, by decide, .int, by decide +kernel, Or.inr ⟨rfl, "Seepwork", sw_inN 121 rfl rfl⟩⟩
set_option maxRecDepth 100000 in
theorem sw_PF_7_248 : sw_PF 7 248 (7, 2, 3) := ⟨by decide, _, _, _, rfl, by decide, .array .boolean, by decide +kernel, Or.inr ⟨rfl, "Seepwork", sw_inN 114 rfl rfl⟩⟩
set_option maxRecDepth 100000 in
theorem sw_PF_7_257 : sw_PF 7 257 (1, 0, 3) := ⟨by decide, _, _, _, rfl, by decide, .array .int, by decide +kernel, Or.inr ⟨rfl, "Seepwork", sw_inN 280 rfl rfl⟩⟩
set_option maxRecDepth 100000 in
theorem sw_PF_7_276 : sw_PF 7 276 (5, 0, 3) := ⟨by decide, _, _, _, rfl, by decide, .array .boolean, by decide +kernel, Or.inr ⟨rfl, "Seepwork", sw_inN 305 rfl rfl⟩⟩
theorem sw_PFo_7 : ∀ e ∈ ([(10, (11, 0, 1)), (16, (11, 1, 1)), (22, (11, 2, 1)), (29, (11, 3, 1)), (36, (11, 4, 1)), (43, (11, 5, 1)), (50, (11, 6, 1)), (57, (11, 7, 1)), (64, (11, 8, 1)), (71, (11, 9, 1)), (78, (11, 10, 1)), (85, (11, 11, 1)), (101, (8, 0, 3)), (108, (8, 1, 3)), (118, (7, 0, 3)), (144, (9, 4, 3)), (148, (9, 5, 3)), (151, (9, 6, 3)), (194, (3, 0, 3)), (218, (6, 1, 3)), (221, (6, 2, 3)), (227, (7, 1, 3)), (233, (7, 6, 3)), (236, (7, 7, 3)), (248, (7, 2, 3)), (257, (1, 0, 3)), (276, (5, 0, 3))] : List (Nat × (Nat × Nat × Nat))), sw_PF 7 e.1 e.2 := List.forall_mem_cons.mpr ⟨sw_PF_7_10, List.forall_mem_cons.mpr ⟨sw_PF_7_16, List.forall_mem_cons.mpr ⟨sw_PF_7_22, List.forall_mem_cons.mpr ⟨sw_PF_7_29, List.forall_mem_cons.mpr ⟨sw_PF_7_36, List.forall_mem_cons.mpr ⟨sw_PF_7_43, List.forall_mem_cons.mpr ⟨sw_PF_7_50, List.forall_mem_cons.mpr ⟨sw_PF_7_57, List.forall_mem_cons.mpr ⟨sw_PF_7_64, List.forall_mem_cons.mpr ⟨sw_PF_7_71, List.forall_mem_cons.mpr ⟨sw_PF_7_78, List.forall_mem_cons.mpr ⟨sw_PF_7_85, List.forall_mem_cons.mpr ⟨sw_PF_7_101, List.forall_mem_cons.mpr ⟨sw_PF_7_108, List.forall_mem_cons.mpr ⟨sw_PF_7_118, List.forall_mem_cons.mpr ⟨sw_PF_7_144, List.forall_mem_cons.mpr ⟨sw_PF_7_148, List.forall_mem_cons.mpr ⟨sw_PF_7_151, List.forall_mem_cons.mpr ⟨sw_PF_7_194, List.forall_mem_cons.mpr ⟨sw_PF_7_218, List.forall_mem_cons.mpr ⟨sw_PF_7_221, List.forall_mem_cons.mpr ⟨sw_PF_7_227, List.forall_mem_cons.mpr ⟨sw_PF_7_233, List.forall_mem_cons.mpr ⟨sw_PF_7_236, List.forall_mem_cons.mpr ⟨sw_PF_7_248, List.forall_mem_cons.mpr ⟨sw_PF_7_257, List.forall_mem_cons.mpr ⟨sw_PF_7_276, fun _ h => absurd h List.not_mem_nil⟩⟩⟩⟩⟩⟩⟩⟩⟩⟩⟩⟩⟩⟩⟩⟩⟩⟩⟩⟩⟩⟩⟩⟩⟩⟩⟩
set_option maxRecDepth 100000 in
theorem sw_PF_8_9 : sw_PF 8 9 (2, 0, 1) := ⟨by decide, _, _, _, rfl, by decide, .array .int, by decide +kernel, Or.inl ⟨sw_in 219 rfl rfl, fun h => absurd h (by decide), fun _ => ⟨rfl, rfl, Or.inr ⟨_, rfl⟩⟩, fun h => absurd h (by decide), fun h => absurd h (by decide)⟩⟩
set_option maxRecDepth 100000 in
theorem sw_PF_8_15 : sw_PF 8 15 (2, 1, 1) := ⟨by decide, _, _, _, rfl, by decide, .array .boolean, by decide +kernel, Or.inl ⟨sw_in 220 rfl rfl, fun h => absurd h (by decide), fun _ => ⟨rfl, rfl, Or.inr ⟨_, rfl⟩⟩, fun h => absurd h (by decide), fun h => absurd h (by decide)⟩⟩
set_option maxRecDepth 100000 in
theorem sw_PF_8_22 : sw_PF 8 22 (2, 2, 1) := ⟨by decide, _, _, _, rfl, by decide, .object "Seepwork$Floods", by decide +kernel, Or.inl ⟨sw_in 221 rfl rfl, fun h => absurd h (by decide), fun _ => ⟨rfl, rfl, Or.inl ⟨_, rfl⟩⟩, fun h => absurd h (by decide), fun h => absurd h (by decide)⟩⟩
set_option maxRecDepth 100000 in
theorem sw_PF_8_66 : sw_PF 8 66 (3, 0, 3) := ⟨by decide, _, _, _, rfl, by decide, .array .int, by decide +kernel, Or.inr ⟨rfl, "Seepwork", sw_inN 211 rfl rfl⟩⟩
theorem sw_PFo_8 : ∀ e ∈ ([(9, (2, 0, 1)), (15, (2, 1, 1)), (22, (2, 2, 1)), (66, (3, 0, 3))] : List (Nat × (Nat × Nat × Nat))), sw_PF 8 e.1 e.2 := List.forall_mem_cons.mpr ⟨sw_PF_8_9, List.forall_mem_cons.mpr ⟨sw_PF_8_15, List.forall_mem_cons.mpr ⟨sw_PF_8_22, List.forall_mem_cons.mpr ⟨sw_PF_8_66, fun _ h => absurd h List.not_mem_nil⟩⟩⟩⟩
set_option maxRecDepth 100000 in
theorem sw_PF_9_9 : sw_PF 9 9 (3, 0, 1) := ⟨by decide, _, _, _, rfl, by decide, .array .int, by decide +kernel, Or.inl ⟨sw_in 210 rfl rfl, fun h => absurd h (by decide), fun _ => ⟨rfl, rfl, Or.inr ⟨_, rfl⟩⟩, fun h => absurd h (by decide), fun h => absurd h (by decide)⟩⟩
set_option maxRecDepth 100000 in
theorem sw_PF_9_15 : sw_PF 9 15 (3, 1, 1) := ⟨by decide, _, _, _, rfl, by decide, .array .boolean, by decide +kernel, Or.inl ⟨sw_in 213 rfl rfl, fun h => absurd h (by decide), fun _ => ⟨rfl, rfl, Or.inr ⟨_, rfl⟩⟩, fun h => absurd h (by decide), fun h => absurd h (by decide)⟩⟩
set_option maxRecDepth 100000 in
theorem sw_PF_9_44 : sw_PF 9 44 (8, 0, 3) := ⟨by decide, _, _, _, rfl, by decide, .array .int, by decide +kernel, Or.inr ⟨rfl, "Seepwork", sw_inN 73 rfl rfl⟩⟩
theorem sw_PFo_9 : ∀ e ∈ ([(9, (3, 0, 1)), (15, (3, 1, 1)), (44, (8, 0, 3))] : List (Nat × (Nat × Nat × Nat))), sw_PF 9 e.1 e.2 := List.forall_mem_cons.mpr ⟨sw_PF_9_9, List.forall_mem_cons.mpr ⟨sw_PF_9_15, List.forall_mem_cons.mpr ⟨sw_PF_9_44, fun _ h => absurd h List.not_mem_nil⟩⟩⟩
set_option maxRecDepth 100000 in
theorem sw_PF_10_9 : sw_PF 10 9 (4, 0, 1) := ⟨by decide, _, _, _, rfl, by decide, .array .int, by decide +kernel, Or.inl ⟨sw_in 185 rfl rfl, fun h => absurd h (by decide), fun _ => ⟨rfl, rfl, Or.inr ⟨_, rfl⟩⟩, fun h => absurd h (by decide), fun h => absurd h (by decide)⟩⟩
set_option maxRecDepth 100000 in
theorem sw_PF_10_15 : sw_PF 10 15 (4, 1, 1) := ⟨by decide, _, _, _, rfl, by decide, .array .boolean, by decide +kernel, Or.inl ⟨sw_in 186 rfl rfl, fun h => absurd h (by decide), fun _ => ⟨rfl, rfl, Or.inr ⟨_, rfl⟩⟩, fun h => absurd h (by decide), fun h => absurd h (by decide)⟩⟩
set_option maxRecDepth 100000 in
theorem sw_PF_10_19 : sw_PF 10 19 (4, 2, 1) := ⟨by decide, _, _, _, rfl, by decide, .array .int, by decide +kernel, Or.inl ⟨sw_in 187 rfl rfl, fun h => absurd h (by decide), fun _ => ⟨rfl, rfl, Or.inr ⟨_, rfl⟩⟩, fun h => absurd h (by decide), fun h => absurd h (by decide)⟩⟩
set_option maxRecDepth 100000 in
theorem sw_PF_10_25 : sw_PF 10 25 (4, 3, 1) := ⟨by decide, _, _, _, rfl, by decide, .object "Seepwork$SiteQueue", by decide +kernel, Or.inl ⟨sw_in 188 rfl rfl, fun h => absurd h (by decide), fun _ => ⟨rfl, rfl, Or.inl ⟨_, rfl⟩⟩, fun h => absurd h (by decide), fun h => absurd h (by decide)⟩⟩
set_option maxRecDepth 100000 in
theorem sw_PF_10_43 : sw_PF 10 43 (9, 1, 3) := ⟨by decide, _, _, _, rfl, by decide, .array .boolean, by decide +kernel, Or.inr ⟨rfl, "Seepwork", sw_inN 153 rfl rfl⟩⟩
set_option maxRecDepth 100000 in
theorem sw_PF_10_84 : sw_PF 10 84 (9, 0, 3) := ⟨by decide, _, _, _, rfl, by decide, .array .boolean, by decide +kernel, Or.inr ⟨rfl, "Seepwork", sw_inN 151 rfl rfl⟩⟩
theorem sw_PFo_10 : ∀ e ∈ ([(9, (4, 0, 1)), (15, (4, 1, 1)), (19, (4, 2, 1)), (25, (4, 3, 1)), (43, (9, 1, 3)), (84, (9, 0, 3))] : List (Nat × (Nat × Nat × Nat))), sw_PF 10 e.1 e.2 := List.forall_mem_cons.mpr ⟨sw_PF_10_9, List.forall_mem_cons.mpr ⟨sw_PF_10_15, List.forall_mem_cons.mpr ⟨sw_PF_10_19, List.forall_mem_cons.mpr ⟨sw_PF_10_25, List.forall_mem_cons.mpr ⟨sw_PF_10_43, List.forall_mem_cons.mpr ⟨sw_PF_10_84, fun _ h => absurd h List.not_mem_nil⟩⟩⟩⟩⟩⟩
set_option maxRecDepth 100000 in
theorem sw_PF_11_9 : sw_PF 11 9 (5, 0, 1) := ⟨by decide, _, _, _, rfl, by decide, .array .boolean, by decide +kernel, Or.inl ⟨sw_in 304 rfl rfl, fun h => absurd h (by decide), fun _ => ⟨rfl, rfl, Or.inr ⟨_, rfl⟩⟩, fun h => absurd h (by decide), fun h => absurd h (by decide)⟩⟩
set_option maxRecDepth 100000 in
theorem sw_PF_11_15 : sw_PF 11 15 (5, 1, 1) := ⟨by decide, _, _, _, rfl, by decide, .array .boolean, by decide +kernel, Or.inl ⟨sw_in 306 rfl rfl, fun h => absurd h (by decide), fun _ => ⟨rfl, rfl, Or.inr ⟨_, rfl⟩⟩, fun h => absurd h (by decide), fun h => absurd h (by decide)⟩⟩
set_option maxRecDepth 100000 in
theorem sw_PF_11_21 : sw_PF 11 21 (5, 2, 1) := ⟨by decide, _, _, _, rfl, by decide, .object "Seepwork$SiteQueue", by decide +kernel, Or.inl ⟨sw_in 307 rfl rfl, fun h => absurd h (by decide), fun _ => ⟨rfl, rfl, Or.inl ⟨_, rfl⟩⟩, fun h => absurd h (by decide), fun h => absurd h (by decide)⟩⟩
set_option maxRecDepth 100000 in
theorem sw_PF_11_33 : sw_PF 11 33 (8, 1, 3) := ⟨by decide, _, _, _, rfl, by decide, .array .int, by decide +kernel, Or.inr ⟨rfl, "Seepwork", sw_inN 77 rfl rfl⟩⟩
theorem sw_PFo_11 : ∀ e ∈ ([(9, (5, 0, 1)), (15, (5, 1, 1)), (21, (5, 2, 1)), (33, (8, 1, 3))] : List (Nat × (Nat × Nat × Nat))), sw_PF 11 e.1 e.2 := List.forall_mem_cons.mpr ⟨sw_PF_11_9, List.forall_mem_cons.mpr ⟨sw_PF_11_15, List.forall_mem_cons.mpr ⟨sw_PF_11_21, List.forall_mem_cons.mpr ⟨sw_PF_11_33, fun _ h => absurd h List.not_mem_nil⟩⟩⟩⟩
set_option maxRecDepth 100000 in
theorem sw_PF_12_9 : sw_PF 12 9 (6, 0, 1) := ⟨by decide, _, _, _, rfl, by decide, .array .boolean, by decide +kernel, Or.inl ⟨sw_in 258 rfl rfl, fun h => absurd h (by decide), fun _ => ⟨rfl, rfl, Or.inr ⟨_, rfl⟩⟩, fun h => absurd h (by decide), fun h => absurd h (by decide)⟩⟩
set_option maxRecDepth 100000 in
theorem sw_PF_12_19 : sw_PF 12 19 (6, 1, 0) := ⟨by decide, _, _, _, rfl, by decide, .int, by decide +kernel, Or.inl ⟨sw_in 259 rfl rfl, fun _ => ⟨rfl, rfl⟩, fun h => absurd h (by decide), fun h => absurd h (by decide), fun h => absurd h (by decide)⟩⟩
set_option maxRecDepth 100000 in
theorem sw_PF_12_23 : sw_PF 12 23 (6, 2, 0) := ⟨by decide, _, _, _, rfl, by decide, .int, by decide +kernel, Or.inl ⟨sw_in 261 rfl rfl, fun _ => ⟨rfl, rfl⟩, fun h => absurd h (by decide), fun h => absurd h (by decide), fun h => absurd h (by decide)⟩⟩
set_option maxRecDepth 100000 in
theorem sw_PF_12_37 : sw_PF 12 37 (8, 0, 3) := ⟨by decide, _, _, _, rfl, by decide, .array .int, by decide +kernel, Or.inr ⟨rfl, "Seepwork", sw_inN 70 rfl rfl⟩⟩
theorem sw_PFo_12 : ∀ e ∈ ([(9, (6, 0, 1)), (19, (6, 1, 0)), (23, (6, 2, 0)), (37, (8, 0, 3))] : List (Nat × (Nat × Nat × Nat))), sw_PF 12 e.1 e.2 := List.forall_mem_cons.mpr ⟨sw_PF_12_9, List.forall_mem_cons.mpr ⟨sw_PF_12_19, List.forall_mem_cons.mpr ⟨sw_PF_12_23, List.forall_mem_cons.mpr ⟨sw_PF_12_37, fun _ h => absurd h List.not_mem_nil⟩⟩⟩⟩
set_option maxRecDepth 100000 in
theorem sw_PF_13_9 : sw_PF 13 9 (7, 0, 1) := ⟨by decide, _, _, _, rfl, by decide, .array .boolean, by decide +kernel, Or.inl ⟨sw_in 109 rfl rfl, fun h => absurd h (by decide), fun _ => ⟨rfl, rfl, Or.inr ⟨_, rfl⟩⟩, fun h => absurd h (by decide), fun h => absurd h (by decide)⟩⟩
set_option maxRecDepth 100000 in
theorem sw_PF_13_15 : sw_PF 13 15 (7, 1, 1) := ⟨by decide, _, _, _, rfl, by decide, .array .boolean, by decide +kernel, Or.inl ⟨sw_in 111 rfl rfl, fun h => absurd h (by decide), fun _ => ⟨rfl, rfl, Or.inr ⟨_, rfl⟩⟩, fun h => absurd h (by decide), fun h => absurd h (by decide)⟩⟩
set_option maxRecDepth 100000 in
theorem sw_PF_13_18 : sw_PF 13 18 (7, 2, 1) := ⟨by decide, _, _, _, rfl, by decide, .array .boolean, by decide +kernel, Or.inl ⟨sw_in 113 rfl rfl, fun h => absurd h (by decide), fun _ => ⟨rfl, rfl, Or.inr ⟨_, rfl⟩⟩, fun h => absurd h (by decide), fun h => absurd h (by decide)⟩⟩
set_option maxRecDepth 100000 in
theorem sw_PF_13_21 : sw_PF 13 21 (7, 4, 1) := ⟨by decide, _, _, _, rfl, by decide, .array .boolean, by decide +kernel, Or.inl ⟨sw_in 116 rfl rfl, fun h => absurd h (by decide), fun _ => ⟨rfl, rfl, Or.inr ⟨_, rfl⟩⟩, fun h => absurd h (by decide), fun h => absurd h (by decide)⟩⟩
set_option maxRecDepth 100000 in
theorem sw_PF_13_24 : sw_PF 13 24 (7, 5, 1) := ⟨by decide, _, _, _, rfl, by decide, .array .boolean, by decide +kernel, Or.inl ⟨sw_in 117 rfl rfl, fun h => absurd h (by decide), fun _ => ⟨rfl, rfl, Or.inr ⟨_, rfl⟩⟩, fun h => absurd h (by decide), fun h => absurd h (by decide)⟩⟩
set_option maxRecDepth 100000 in
theorem sw_PF_13_30 : sw_PF 13 30 (7, 8, 1) := ⟨by decide, _, _, _, rfl, by decide, .object "Seepwork$SiteQueue", by decide +kernel, Or.inl ⟨sw_in 122 rfl rfl, fun h => absurd h (by decide), fun _ => ⟨rfl, rfl, Or.inl ⟨_, rfl⟩⟩, fun h => absurd h (by decide), fun h => absurd h (by decide)⟩⟩
set_option maxRecDepth 100000 in
theorem sw_PF_13_46 : sw_PF 13 46 (7, 6, 0) := ⟨by decide, _, _, _, rfl, by decide, .int, by decide +kernel, Or.inl ⟨sw_in 118 rfl rfl, fun _ => ⟨rfl, rfl⟩, fun h => absurd h (by decide), fun h => absurd h (by decide), fun h => absurd h (by decide)⟩⟩
set_option maxRecDepth 100000 in
theorem sw_PF_13_50 : sw_PF 13 50 (7, 7, 0) := ⟨by decide, _, _, _, rfl, by decide, .int, by decide +kernel, Or.inl ⟨sw_in 120 rfl rfl, fun _ => ⟨rfl, rfl⟩, fun h => absurd h (by decide), fun h => absurd h (by decide), fun h => absurd h (by decide)⟩⟩
set_option maxRecDepth 100000 in
theorem sw_PF_13_59 : sw_PF 13 59 (7, 3, 0) := ⟨by decide, _, _, _, rfl, by decide, .int, by decide +kernel, Or.inl ⟨sw_in 115 rfl rfl, fun _ => ⟨rfl, rfl⟩, fun h => absurd h (by decide), fun h => absurd h (by decide), fun h => absurd h (by decide)⟩⟩
set_option maxRecDepth 100000 in
theorem sw_PF_13_76 : sw_PF 13 76 (10, 2, 3) := ⟨by decide, _, _, _, rfl, by decide, .int, by decide +kernel, Or.inr ⟨rfl, "Seepwork", sw_inN 100 rfl rfl⟩⟩
theorem sw_PFo_13 : ∀ e ∈ ([(9, (7, 0, 1)), (15, (7, 1, 1)), (18, (7, 2, 1)), (21, (7, 4, 1)), (24, (7, 5, 1)), (30, (7, 8, 1)), (46, (7, 6, 0)), (50, (7, 7, 0)), (59, (7, 3, 0)), (76, (10, 2, 3))] : List (Nat × (Nat × Nat × Nat))), sw_PF 13 e.1 e.2 := List.forall_mem_cons.mpr ⟨sw_PF_13_9, List.forall_mem_cons.mpr ⟨sw_PF_13_15, List.forall_mem_cons.mpr ⟨sw_PF_13_18, List.forall_mem_cons.mpr ⟨sw_PF_13_21, List.forall_mem_cons.mpr ⟨sw_PF_13_24, List.forall_mem_cons.mpr ⟨sw_PF_13_30, List.forall_mem_cons.mpr ⟨sw_PF_13_46, List.forall_mem_cons.mpr ⟨sw_PF_13_50, List.forall_mem_cons.mpr ⟨sw_PF_13_59, List.forall_mem_cons.mpr ⟨sw_PF_13_76, fun _ h => absurd h List.not_mem_nil⟩⟩⟩⟩⟩⟩⟩⟩⟩⟩
set_option maxRecDepth 100000 in
theorem sw_PF_14_9 : sw_PF 14 9 (8, 0, 1) := ⟨by decide, _, _, _, rfl, by decide, .array .int, by decide +kernel, Or.inl ⟨sw_in 69 rfl rfl, fun h => absurd h (by decide), fun _ => ⟨rfl, rfl, Or.inr ⟨_, rfl⟩⟩, fun h => absurd h (by decide), fun h => absurd h (by decide)⟩⟩
set_option maxRecDepth 100000 in
theorem sw_PF_14_15 : sw_PF 14 15 (8, 1, 1) := ⟨by decide, _, _, _, rfl, by decide, .array .int, by decide +kernel, Or.inl ⟨sw_in 74 rfl rfl, fun h => absurd h (by decide), fun _ => ⟨rfl, rfl, Or.inr ⟨_, rfl⟩⟩, fun h => absurd h (by decide), fun h => absurd h (by decide)⟩⟩
theorem sw_PFo_14 : ∀ e ∈ ([(9, (8, 0, 1)), (15, (8, 1, 1))] : List (Nat × (Nat × Nat × Nat))), sw_PF 14 e.1 e.2 := List.forall_mem_cons.mpr ⟨sw_PF_14_9, List.forall_mem_cons.mpr ⟨sw_PF_14_15, fun _ h => absurd h List.not_mem_nil⟩⟩
set_option maxRecDepth 100000 in
theorem sw_PF_15_9 : sw_PF 15 9 (9, 0, 1) := ⟨by decide, _, _, _, rfl, by decide, .array .boolean, by decide +kernel, Or.inl ⟨sw_in 150 rfl rfl, fun h => absurd h (by decide), fun _ => ⟨rfl, rfl, Or.inr ⟨_, rfl⟩⟩, fun h => absurd h (by decide), fun h => absurd h (by decide)⟩⟩
set_option maxRecDepth 100000 in
theorem sw_PF_15_15 : sw_PF 15 15 (9, 1, 1) := ⟨by decide, _, _, _, rfl, by decide, .array .boolean, by decide +kernel, Or.inl ⟨sw_in 152 rfl rfl, fun h => absurd h (by decide), fun _ => ⟨rfl, rfl, Or.inr ⟨_, rfl⟩⟩, fun h => absurd h (by decide), fun h => absurd h (by decide)⟩⟩
set_option maxRecDepth 100000 in
theorem sw_PF_15_18 : sw_PF 15 18 (9, 2, 1) := ⟨by decide, _, _, _, rfl, by decide, .array .int, by decide +kernel, Or.inl ⟨sw_in 154 rfl rfl, fun h => absurd h (by decide), fun _ => ⟨rfl, rfl, Or.inr ⟨_, rfl⟩⟩, fun h => absurd h (by decide), fun h => absurd h (by decide)⟩⟩
set_option maxRecDepth 100000 in
theorem sw_PF_15_25 : sw_PF 15 25 (9, 3, 1) := ⟨by decide, _, _, _, rfl, by decide, .object "Seepwork$SiteQueue", by decide +kernel, Or.inl ⟨sw_in 155 rfl rfl, fun h => absurd h (by decide), fun _ => ⟨rfl, rfl, Or.inl ⟨_, rfl⟩⟩, fun h => absurd h (by decide), fun h => absurd h (by decide)⟩⟩
set_option maxRecDepth 100000 in
theorem sw_PF_15_29 : sw_PF 15 29 (8, 1, 3) := ⟨by decide, _, _, _, rfl, by decide, .array .int, by decide +kernel, Or.inr ⟨rfl, "Seepwork", sw_inN 75 rfl rfl⟩⟩
set_option maxRecDepth 100000 in
theorem sw_PF_15_41 : sw_PF 15 41 (8, 0, 3) := ⟨by decide, _, _, _, rfl, by decide, .array .int, by decide +kernel, Or.inr ⟨rfl, "Seepwork", sw_inN 71 rfl rfl⟩⟩
set_option maxRecDepth 100000 in
theorem sw_PF_15_64 : sw_PF 15 64 (9, 4, 0) := ⟨by decide, _, _, _, rfl, by decide, .int, by decide +kernel, Or.inl ⟨sw_in 156 rfl rfl, fun _ => ⟨rfl, rfl⟩, fun h => absurd h (by decide), fun h => absurd h (by decide), fun h => absurd h (by decide)⟩⟩
set_option maxRecDepth 100000 in
theorem sw_PF_15_68 : sw_PF 15 68 (9, 5, 0) := ⟨by decide, _, _, _, rfl, by decide, .int, by decide +kernel, Or.inl ⟨sw_in 158 rfl rfl, fun _ => ⟨rfl, rfl⟩, fun h => absurd h (by decide), fun h => absurd h (by decide), fun h => absurd h (by decide)⟩⟩
set_option maxRecDepth 100000 in
theorem sw_PF_15_71 : sw_PF 15 71 (9, 6, 0) := ⟨by decide, _, _, _, rfl, by decide, .int, by decide +kernel, Or.inl ⟨sw_in 160 rfl rfl, fun _ => ⟨rfl, rfl⟩, fun h => absurd h (by decide), fun h => absurd h (by decide), fun h => absurd h (by decide)⟩⟩
set_option maxRecDepth 100000 in
theorem sw_PF_15_89 : sw_PF 15 89 (10, 2, 3) := ⟨by decide, _, _, _, rfl, by decide, .int, by decide +kernel, Or.inr ⟨rfl, "Seepwork", sw_inN 99 rfl rfl⟩⟩
theorem sw_PFo_15 : ∀ e ∈ ([(9, (9, 0, 1)), (15, (9, 1, 1)), (18, (9, 2, 1)), (25, (9, 3, 1)), (29, (8, 1, 3)), (41, (8, 0, 3)), (64, (9, 4, 0)), (68, (9, 5, 0)), (71, (9, 6, 0)), (89, (10, 2, 3))] : List (Nat × (Nat × Nat × Nat))), sw_PF 15 e.1 e.2 := List.forall_mem_cons.mpr ⟨sw_PF_15_9, List.forall_mem_cons.mpr ⟨sw_PF_15_15, List.forall_mem_cons.mpr ⟨sw_PF_15_18, List.forall_mem_cons.mpr ⟨sw_PF_15_25, List.forall_mem_cons.mpr ⟨sw_PF_15_29, List.forall_mem_cons.mpr ⟨sw_PF_15_41, List.forall_mem_cons.mpr ⟨sw_PF_15_64, List.forall_mem_cons.mpr ⟨sw_PF_15_68, List.forall_mem_cons.mpr ⟨sw_PF_15_71, List.forall_mem_cons.mpr ⟨sw_PF_15_89, fun _ h => absurd h List.not_mem_nil⟩⟩⟩⟩⟩⟩⟩⟩⟩⟩
theorem sw_PF_all : sw_each sw_PF 0 sw_fldL := ⟨sw_PFo_0, ⟨sw_PFo_1, ⟨sw_PFo_2, ⟨sw_PFo_3, ⟨sw_PFo_4, ⟨sw_PFo_5, ⟨sw_PFo_6, ⟨sw_PFo_7, ⟨sw_PFo_8, ⟨sw_PFo_9, ⟨sw_PFo_10, ⟨sw_PFo_11, ⟨sw_PFo_12, ⟨sw_PFo_13, ⟨sw_PFo_14, ⟨sw_PFo_15, True.intro⟩⟩⟩⟩⟩⟩⟩⟩⟩⟩⟩⟩⟩⟩⟩⟩
theorem sw_PF_at {o i : Nat} {e : Nat × Nat × Nat} (h : sw_fld o i = some e) : sw_PF o i e := by
  obtain ⟨l, h1, h2⟩ := sw_look h
  have := sw_each_at _ 0 sw_PF_all o l h1 _ h2
  rwa [Nat.zero_add] at this
def sw_PI (o i : Nat) (y : Nat) : Prop := (y < 150 ∧ (Jvm.Cond.methodLink (sw_on o) i (sw_nm y) ∈ sw_T ∨ ∃ host, Jvm.Cond.methodLinkNest (sw_on o) i (sw_nm y) host ∈ sw_N ∧ sw_hh y = none)) ∨ (y = 1001 ∧ Jvm.Cond.methodLink (sw_on o) i Lib.Math.max.name ∈ sw_T ∧ Jvm.Cond.static Lib.Math.max.name ∈ sw_T ∧ Jvm.Cond.initialized "java/lang/Math" ∈ sw_T ∧ Jvm.Cond.code Lib.Math.max.name Lib.Math.max.code 2 (some .int) ∈ sw_T) ∨ (y = 1000 ∧ Jvm.Cond.methodLink (sw_on o) i Lib.objectInit ∈ sw_T ∧ Jvm.Cond.instanceMethod Lib.objectInit ∈ sw_T ∧ Jvm.Cond.code Lib.objectInit ⟨#[0xb1]⟩ 1 none ∈ sw_T)
set_option maxRecDepth 100000 in
theorem sw_PI_0_1 : sw_PI 0 1 12 := Or.inl ⟨by decide, Or.inl (sw_in 320 rfl rfl)⟩
theorem sw_PIo_0 : ∀ e ∈ ([(1, 12)] : List (Nat × Nat)), sw_PI 0 e.1 e.2 := List.forall_mem_cons.mpr ⟨sw_PI_0_1, fun _ h => absurd h List.not_mem_nil⟩
set_option maxRecDepth 100000 in
theorem sw_PI_1_3 : sw_PI 1 3 1000 := Or.inr (Or.inr ⟨rfl, sw_in 323 rfl rfl, sw_in 61 rfl rfl, sw_in 62 rfl rfl⟩)
theorem sw_PIo_1 : ∀ e ∈ ([(3, 1000)] : List (Nat × Nat)), sw_PI 1 e.1 e.2 := List.forall_mem_cons.mpr ⟨sw_PI_1_3, fun _ h => absurd h List.not_mem_nil⟩
theorem sw_PIo_2 : ∀ e ∈ ([] : List (Nat × Nat)), sw_PI 2 e.1 e.2 := fun _ h => absurd h List.not_mem_nil
set_option maxRecDepth 100000 in
theorem sw_PI_3_10 : sw_PI 3 10 39 := Or.inl ⟨by decide, Or.inl (sw_in 747 rfl rfl)⟩
set_option maxRecDepth 100000 in
theorem sw_PI_3_18 : sw_PI 3 18 140 := Or.inl ⟨by decide, Or.inl (sw_in 1011 rfl rfl)⟩
set_option maxRecDepth 100000 in
theorem sw_PI_3_22 : sw_PI 3 22 142 := Or.inl ⟨by decide, Or.inl (sw_in 1034 rfl rfl)⟩
set_option maxRecDepth 100000 in
theorem sw_PI_3_25 : sw_PI 3 25 30 := Or.inl ⟨by decide, Or.inl (sw_in 777 rfl rfl)⟩
set_option maxRecDepth 100000 in
theorem sw_PI_3_31 : sw_PI 3 31 79 := Or.inl ⟨by decide, Or.inl (sw_in 771 rfl rfl)⟩
set_option maxRecDepth 100000 in
theorem sw_PI_3_35 : sw_PI 3 35 80 := Or.inl ⟨by decide, Or.inl (sw_in 774 rfl rfl)⟩
set_option maxRecDepth 100000 in
theorem sw_PI_3_40 : sw_PI 3 40 81 := Or.inl ⟨by decide, Or.inl (sw_in 796 rfl rfl)⟩
set_option maxRecDepth 100000 in
theorem sw_PI_3_44 : sw_PI 3 44 69 := Or.inl ⟨by decide, Or.inl (sw_in 780 rfl rfl)⟩
set_option maxRecDepth 100000 in
theorem sw_PI_3_48 : sw_PI 3 48 82 := Or.inl ⟨by decide, Or.inl (sw_in 792 rfl rfl)⟩
set_option maxRecDepth 100000 in
theorem sw_PI_3_52 : sw_PI 3 52 141 := Or.inl ⟨by decide, Or.inl (sw_in 1008 rfl rfl)⟩
set_option maxRecDepth 100000 in
theorem sw_PI_3_56 : sw_PI 3 56 143 := Or.inl ⟨by decide, Or.inl (sw_in 1031 rfl rfl)⟩
set_option maxRecDepth 100000 in
theorem sw_PI_3_59 : sw_PI 3 59 37 := Or.inl ⟨by decide, Or.inl (sw_in 783 rfl rfl)⟩
set_option maxRecDepth 100000 in
theorem sw_PI_3_63 : sw_PI 3 63 31 := Or.inl ⟨by decide, Or.inl (sw_in 786 rfl rfl)⟩
set_option maxRecDepth 100000 in
theorem sw_PI_3_67 : sw_PI 3 67 48 := Or.inl ⟨by decide, Or.inl (sw_in 802 rfl rfl)⟩
set_option maxRecDepth 100000 in
theorem sw_PI_3_74 : sw_PI 3 74 21 := Or.inl ⟨by decide, Or.inl (sw_in 809 rfl rfl)⟩
set_option maxRecDepth 100000 in
theorem sw_PI_3_77 : sw_PI 3 77 16 := Or.inl ⟨by decide, Or.inl (sw_in 739 rfl rfl)⟩
set_option maxRecDepth 100000 in
theorem sw_PI_3_80 : sw_PI 3 80 96 := Or.inl ⟨by decide, Or.inl (sw_in 819 rfl rfl)⟩
set_option maxRecDepth 100000 in
theorem sw_PI_3_84 : sw_PI 3 84 83 := Or.inl ⟨by decide, Or.inl (sw_in 789 rfl rfl)⟩
set_option maxRecDepth 100000 in
theorem sw_PI_3_88 : sw_PI 3 88 99 := Or.inl ⟨by decide, Or.inl (sw_in 827 rfl rfl)⟩
set_option maxRecDepth 100000 in
theorem sw_PI_3_92 : sw_PI 3 92 100 := Or.inl ⟨by decide, Or.inl (sw_in 839 rfl rfl)⟩
set_option maxRecDepth 100000 in
theorem sw_PI_3_95 : sw_PI 3 95 102 := Or.inl ⟨by decide, Or.inl (sw_in 842 rfl rfl)⟩
set_option maxRecDepth 100000 in
theorem sw_PI_3_98 : sw_PI 3 98 109 := Or.inl ⟨by decide, Or.inl (sw_in 851 rfl rfl)⟩
set_option maxRecDepth 100000 in
theorem sw_PI_3_102 : sw_PI 3 102 116 := Or.inl ⟨by decide, Or.inl (sw_in 878 rfl rfl)⟩
set_option maxRecDepth 100000 in
theorem sw_PI_3_105 : sw_PI 3 105 117 := Or.inl ⟨by decide, Or.inl (sw_in 911 rfl rfl)⟩
set_option maxRecDepth 100000 in
theorem sw_PI_3_109 : sw_PI 3 109 124 := Or.inl ⟨by decide, Or.inl (sw_in 914 rfl rfl)⟩
set_option maxRecDepth 100000 in
theorem sw_PI_3_112 : sw_PI 3 112 125 := Or.inl ⟨by decide, Or.inl (sw_in 951 rfl rfl)⟩
set_option maxRecDepth 100000 in
theorem sw_PI_3_115 : sw_PI 3 115 127 := Or.inl ⟨by decide, Or.inl (sw_in 955 rfl rfl)⟩
set_option maxRecDepth 100000 in
theorem sw_PI_3_118 : sw_PI 3 118 128 := Or.inl ⟨by decide, Or.inl (sw_in 964 rfl rfl)⟩
set_option maxRecDepth 100000 in
theorem sw_PI_3_121 : sw_PI 3 121 129 := Or.inl ⟨by decide, Or.inl (sw_in 968 rfl rfl)⟩
set_option maxRecDepth 100000 in
theorem sw_PI_3_124 : sw_PI 3 124 131 := Or.inl ⟨by decide, Or.inl (sw_in 974 rfl rfl)⟩
set_option maxRecDepth 100000 in
theorem sw_PI_3_128 : sw_PI 3 128 133 := Or.inl ⟨by decide, Or.inl (sw_in 977 rfl rfl)⟩
set_option maxRecDepth 100000 in
theorem sw_PI_3_131 : sw_PI 3 131 134 := Or.inl ⟨by decide, Or.inl (sw_in 990 rfl rfl)⟩
set_option maxRecDepth 100000 in
theorem sw_PI_3_134 : sw_PI 3 134 136 := Or.inl ⟨by decide, Or.inl (sw_in 996 rfl rfl)⟩
set_option maxRecDepth 100000 in
theorem sw_PI_3_137 : sw_PI 3 137 144 := Or.inl ⟨by decide, Or.inl (sw_in 1005 rfl rfl)⟩
set_option maxRecDepth 100000 in
theorem sw_PI_3_141 : sw_PI 3 141 44 := Or.inl ⟨by decide, Or.inl (sw_in 1041 rfl rfl)⟩
set_option maxRecDepth 100000 in
theorem sw_PI_3_144 : sw_PI 3 144 14 := Or.inl ⟨by decide, Or.inl (sw_in 57 rfl rfl)⟩
set_option maxRecDepth 100000 in
theorem sw_PI_3_145 : sw_PI 3 145 15 := Or.inl ⟨by decide, Or.inl (sw_in 734 rfl rfl)⟩
set_option maxRecDepth 100000 in
theorem sw_PI_3_149 : sw_PI 3 149 20 := Or.inl ⟨by decide, Or.inl (sw_in 383 rfl rfl)⟩
set_option maxRecDepth 100000 in
theorem sw_PI_3_153 : sw_PI 3 153 22 := Or.inl ⟨by decide, Or.inl (sw_in 813 rfl rfl)⟩
set_option maxRecDepth 100000 in
theorem sw_PI_3_157 : sw_PI 3 157 24 := Or.inl ⟨by decide, Or.inl (sw_in 466 rfl rfl)⟩
set_option maxRecDepth 100000 in
theorem sw_PI_3_160 : sw_PI 3 160 26 := Or.inl ⟨by decide, Or.inl (sw_in 489 rfl rfl)⟩
set_option maxRecDepth 100000 in
theorem sw_PI_3_163 : sw_PI 3 163 29 := Or.inl ⟨by decide, Or.inl (sw_in 519 rfl rfl)⟩
set_option maxRecDepth 100000 in
theorem sw_PI_3_166 : sw_PI 3 166 36 := Or.inl ⟨by decide, Or.inl (sw_in 531 rfl rfl)⟩
set_option maxRecDepth 100000 in
theorem sw_PI_3_169 : sw_PI 3 169 40 := Or.inl ⟨by decide, Or.inl (sw_in 743 rfl rfl)⟩
set_option maxRecDepth 100000 in
theorem sw_PI_3_173 : sw_PI 3 173 45 := Or.inl ⟨by decide, Or.inl (sw_in 1038 rfl rfl)⟩
set_option maxRecDepth 100000 in
theorem sw_PI_3_177 : sw_PI 3 177 47 := Or.inl ⟨by decide, Or.inl (sw_in 549 rfl rfl)⟩
set_option maxRecDepth 100000 in
theorem sw_PI_3_180 : sw_PI 3 180 54 := Or.inl ⟨by decide, Or.inl (sw_in 558 rfl rfl)⟩
set_option maxRecDepth 100000 in
theorem sw_PI_3_183 : sw_PI 3 183 56 := Or.inl ⟨by decide, Or.inl (sw_in 582 rfl rfl)⟩
set_option maxRecDepth 100000 in
theorem sw_PI_3_186 : sw_PI 3 186 63 := Or.inl ⟨by decide, Or.inl (sw_in 590 rfl rfl)⟩
set_option maxRecDepth 100000 in
theorem sw_PI_3_189 : sw_PI 3 189 64 := Or.inl ⟨by decide, Or.inl (sw_in 799 rfl rfl)⟩
set_option maxRecDepth 100000 in
theorem sw_PI_3_193 : sw_PI 3 193 68 := Or.inl ⟨by decide, Or.inl (sw_in 619 rfl rfl)⟩
set_option maxRecDepth 100000 in
theorem sw_PI_3_197 : sw_PI 3 197 70 := Or.inl ⟨by decide, Or.inl (sw_in 805 rfl rfl)⟩
set_option maxRecDepth 100000 in
theorem sw_PI_3_201 : sw_PI 3 201 77 := Or.inl ⟨by decide, Or.inl (sw_in 637 rfl rfl)⟩
set_option maxRecDepth 100000 in
theorem sw_PI_3_204 : sw_PI 3 204 78 := Or.inl ⟨by decide, Or.inl (sw_in 668 rfl rfl)⟩
set_option maxRecDepth 100000 in
theorem sw_PI_3_207 : sw_PI 3 207 92 := Or.inl ⟨by decide, Or.inl (sw_in 691 rfl rfl)⟩
set_option maxRecDepth 100000 in
theorem sw_PI_3_218 : sw_PI 3 218 94 := Or.inl ⟨by decide, Or.inl (sw_in 680 rfl rfl)⟩
set_option maxRecDepth 100000 in
theorem sw_PI_3_221 : sw_PI 3 221 130 := Or.inl ⟨by decide, Or.inl (sw_in 816 rfl rfl)⟩
set_option maxRecDepth 100000 in
theorem sw_PI_3_225 : sw_PI 3 225 145 := Or.inl ⟨by decide, Or.inl (sw_in 971 rfl rfl)⟩
set_option maxRecDepth 100000 in
theorem sw_PI_3_229 : sw_PI 3 229 147 := Or.inl ⟨by decide, Or.inl (sw_in 672 rfl rfl)⟩
set_option maxRecDepth 100000 in
theorem sw_PI_3_232 : sw_PI 3 232 148 := Or.inl ⟨by decide, Or.inl (sw_in 722 rfl rfl)⟩
set_option maxRecDepth 100000 in
theorem sw_PI_3_235 : sw_PI 3 235 149 := Or.inl ⟨by decide, Or.inl (sw_in 497 rfl rfl)⟩
theorem sw_PIo_3 : ∀ e ∈ ([(10, 39), (18, 140), (22, 142), (25, 30), (31, 79), (35, 80), (40, 81), (44, 69), (48, 82), (52, 141), (56, 143), (59, 37), (63, 31), (67, 48), (74, 21), (77, 16), (80, 96), (84, 83), (88, 99), (92, 100), (95, 102), (98, 109), (102, 116), (105, 117), (109, 124), (112, 125), (115, 127), (118, 128), (121, 129), (124, 131), (128, 133), (131, 134), (134, 136), (137, 144), (141, 44), (144, 14), (145, 15), (149, 20), (153, 22), (157, 24), (160, 26), (163, 29), (166, 36), (169, 40), (173, 45), (177, 47), (180, 54), (183, 56), (186, 63), (189, 64), (193, 68), (197, 70), (201, 77), (204, 78), (207, 92), (218, 94), (221, 130), (225, 145), (229, 147), (232, 148), (235, 149)] : List (Nat × Nat)), sw_PI 3 e.1 e.2 := List.forall_mem_cons.mpr ⟨sw_PI_3_10, List.forall_mem_cons.mpr ⟨sw_PI_3_18, List.forall_mem_cons.mpr ⟨sw_PI_3_22, List.forall_mem_cons.mpr ⟨sw_PI_3_25, List.forall_mem_cons.mpr ⟨sw_PI_3_31, List.forall_mem_cons.mpr ⟨sw_PI_3_35, List.forall_mem_cons.mpr ⟨sw_PI_3_40, List.forall_mem_cons.mpr ⟨sw_PI_3_44, List.forall_mem_cons.mpr ⟨sw_PI_3_48, List.forall_mem_cons.mpr ⟨sw_PI_3_52, List.forall_mem_cons.mpr ⟨sw_PI_3_56, List.forall_mem_cons.mpr ⟨sw_PI_3_59, List.forall_mem_cons.mpr ⟨sw_PI_3_63, List.forall_mem_cons.mpr ⟨sw_PI_3_67, List.forall_mem_cons.mpr ⟨sw_PI_3_74, List.forall_mem_cons.mpr ⟨sw_PI_3_77, List.forall_mem_cons.mpr ⟨sw_PI_3_80, List.forall_mem_cons.mpr ⟨sw_PI_3_84, List.forall_mem_cons.mpr ⟨sw_PI_3_88, List.forall_mem_cons.mpr ⟨sw_PI_3_92, List.forall_mem_cons.mpr ⟨sw_PI_3_95, List.forall_mem_cons.mpr ⟨sw_PI_3_98, List.forall_mem_cons.mpr ⟨sw_PI_3_102, List.forall_mem_cons.mpr ⟨sw_PI_3_105, List.forall_mem_cons.mpr ⟨sw_PI_3_109, List.forall_mem_cons.mpr ⟨sw_PI_3_112, List.forall_mem_cons.mpr ⟨sw_PI_3_115, List.forall_mem_cons.mpr ⟨sw_PI_3_118, List.forall_mem_cons.mpr ⟨sw_PI_3_121, List.forall_mem_cons.mpr ⟨sw_PI_3_124, List.forall_mem_cons.mpr ⟨sw_PI_3_128, List.forall_mem_cons.mpr ⟨sw_PI_3_131, List.forall_mem_cons.mpr ⟨sw_PI_3_134, List.forall_mem_cons.mpr ⟨sw_PI_3_137, List.forall_mem_cons.mpr ⟨sw_PI_3_141, List.forall_mem_cons.mpr ⟨sw_PI_3_144, List.forall_mem_cons.mpr ⟨sw_PI_3_145, List.forall_mem_cons.mpr ⟨sw_PI_3_149, List.forall_mem_cons.mpr ⟨sw_PI_3_153, List.forall_mem_cons.mpr ⟨sw_PI_3_157, List.forall_mem_cons.mpr ⟨sw_PI_3_160, List.forall_mem_cons.mpr ⟨sw_PI_3_163, List.forall_mem_cons.mpr ⟨sw_PI_3_166, List.forall_mem_cons.mpr ⟨sw_PI_3_169, List.forall_mem_cons.mpr ⟨sw_PI_3_173, List.forall_mem_cons.mpr ⟨sw_PI_3_177, List.forall_mem_cons.mpr ⟨sw_PI_3_180, List.forall_mem_cons.mpr ⟨sw_PI_3_183, List.forall_mem_cons.mpr ⟨sw_PI_3_186, List.forall_mem_cons.mpr ⟨sw_PI_3_189, List.forall_mem_cons.mpr ⟨sw_PI_3_193, List.forall_mem_cons.mpr ⟨sw_PI_3_197, List.forall_mem_cons.mpr ⟨sw_PI_3_201, List.forall_mem_cons.mpr ⟨sw_PI_3_204, List.forall_mem_cons.mpr ⟨sw_PI_3_207, List.forall_mem_cons.mpr ⟨sw_PI_3_218, List.forall_mem_cons.mpr ⟨sw_PI_3_221, List.forall_mem_cons.mpr ⟨sw_PI_3_225, List.forall_mem_cons.mpr ⟨sw_PI_3_229, List.forall_mem_cons.mpr ⟨sw_PI_3_232, List.forall_mem_cons.mpr ⟨sw_PI_3_235, fun _ h => absurd h List.not_mem_nil⟩⟩⟩⟩⟩⟩⟩⟩⟩⟩⟩⟩⟩⟩⟩⟩⟩⟩⟩⟩⟩⟩⟩⟩⟩⟩⟩⟩⟩⟩⟩⟩⟩⟩⟩⟩⟩⟩⟩⟩⟩⟩⟩⟩⟩⟩⟩⟩⟩⟩⟩⟩⟩⟩⟩⟩⟩⟩⟩⟩⟩
set_option maxRecDepth 100000 in
theorem sw_PI_4_3 : sw_PI 4 3 1000 := Or.inr (Or.inr ⟨rfl, sw_in 234 rfl rfl, sw_in 61 rfl rfl, sw_in 62 rfl rfl⟩)
theorem sw_PIo_4 : ∀ e ∈ ([(3, 1000)] : List (Nat × Nat)), sw_PI 4 e.1 e.2 := List.forall_mem_cons.mpr ⟨sw_PI_4_3, fun _ h => absurd h List.not_mem_nil⟩
set_option maxRecDepth 100000 in
theorem sw_PI_5_3 : sw_PI 5 3 1000 := Or.inr (Or.inr ⟨rfl, sw_in 275 rfl rfl, sw_in 61 rfl rfl, sw_in 62 rfl rfl⟩)
set_option maxRecDepth 100000 in
theorem sw_PI_5_25 : sw_PI 5 25 9 := Or.inl ⟨by decide, Or.inl (sw_in 276 rfl rfl)⟩
set_option maxRecDepth 100000 in
theorem sw_PI_5_31 : sw_PI 5 31 57 := Or.inl ⟨by decide, Or.inl (sw_in 598 rfl rfl)⟩
set_option maxRecDepth 100000 in
theorem sw_PI_5_38 : sw_PI 5 38 58 := Or.inl ⟨by decide, Or.inl (sw_in 602 rfl rfl)⟩
set_option maxRecDepth 100000 in
theorem sw_PI_5_42 : sw_PI 5 42 60 := Or.inl ⟨by decide, Or.inl (sw_in 607 rfl rfl)⟩
set_option maxRecDepth 100000 in
theorem sw_PI_5_45 : sw_PI 5 45 66 := Or.inl ⟨by decide, Or.inl (sw_in 632 rfl rfl)⟩
set_option maxRecDepth 100000 in
theorem sw_PI_5_48 : sw_PI 5 48 1001 := Or.inr (Or.inl ⟨rfl, sw_in 636 rfl rfl, sw_in 517 rfl rfl, sw_in 54 rfl rfl, sw_in 518 rfl rfl⟩)
set_option maxRecDepth 100000 in
theorem sw_PI_5_54 : sw_PI 5 54 61 := Or.inl ⟨by decide, Or.inl (sw_in 627 rfl rfl)⟩
set_option maxRecDepth 100000 in
theorem sw_PI_5_58 : sw_PI 5 58 35 := Or.inl ⟨by decide, Or.inr ⟨"Seepwork", sw_inN 606 rfl rfl, rfl⟩⟩
set_option maxRecDepth 100000 in
theorem sw_PI_5_62 : sw_PI 5 62 59 := Or.inl ⟨by decide, Or.inl (sw_in 611 rfl rfl)⟩
theorem sw_PIo_5 : ∀ e ∈ ([(3, 1000), (25, 9), (31, 57), (38, 58), (42, 60), (45, 66), (48, 1001), (54, 61), (58, 35), (62, 59)] : List (Nat × Nat)), sw_PI 5 e.1 e.2 := List.forall_mem_cons.mpr ⟨sw_PI_5_3, List.forall_mem_cons.mpr ⟨sw_PI_5_25, List.forall_mem_cons.mpr ⟨sw_PI_5_31, List.forall_mem_cons.mpr ⟨sw_PI_5_38, List.forall_mem_cons.mpr ⟨sw_PI_5_42, List.forall_mem_cons.mpr ⟨sw_PI_5_45, List.forall_mem_cons.mpr ⟨sw_PI_5_48, List.forall_mem_cons.mpr ⟨sw_PI_5_54, List.forall_mem_cons.mpr ⟨sw_PI_5_58, List.forall_mem_cons.mpr ⟨sw_PI_5_62, fun _ h => absurd h List.not_mem_nil⟩⟩⟩⟩⟩⟩⟩⟩⟩⟩
set_option maxRecDepth 100000 in
theorem sw_PI_6_3 : sw_PI 6 3 1000 := Or.inr (Or.inr ⟨rfl, sw_in 95 rfl rfl, sw_in 61 rfl rfl, sw_in 62 rfl rfl⟩)
theorem sw_PIo_6 : ∀ e ∈ ([(3, 1000)] : List (Nat × Nat)), sw_PI 6 e.1 e.2 := List.forall_mem_cons.mpr ⟨sw_PI_6_3, fun _ h => absurd h List.not_mem_nil⟩
set_option maxRecDepth 100000 in
theorem sw_PI_7_1 : sw_PI 7 1 1000 := Or.inr (Or.inr ⟨rfl, sw_in 60 rfl rfl, sw_in 61 rfl rfl, sw_in 62 rfl rfl⟩)
set_option maxRecDepth 100000 in
theorem sw_PI_7_9 : sw_PI 7 9 0 := Or.inl ⟨by decide, Or.inr ⟨"Seepwork", sw_inN 65 rfl rfl, rfl⟩⟩
set_option maxRecDepth 100000 in
theorem sw_PI_7_21 : sw_PI 7 21 2 := Or.inl ⟨by decide, Or.inr ⟨"Seepwork", sw_inN 86 rfl rfl, rfl⟩⟩
set_option maxRecDepth 100000 in
theorem sw_PI_7_28 : sw_PI 7 28 3 := Or.inl ⟨by decide, Or.inr ⟨"Seepwork", sw_inN 144 rfl rfl, rfl⟩⟩
set_option maxRecDepth 100000 in
theorem sw_PI_7_35 : sw_PI 7 35 4 := Or.inl ⟨by decide, Or.inr ⟨"Seepwork", sw_inN 179 rfl rfl, rfl⟩⟩
set_option maxRecDepth 100000 in
theorem sw_PI_7_42 : sw_PI 7 42 6 := Or.inl ⟨by decide, Or.inr ⟨"Seepwork", sw_inN 200 rfl rfl, rfl⟩⟩
set_option maxRecDepth 100000 in
theorem sw_PI_7_49 : sw_PI 7 49 7 := Or.inl ⟨by decide, Or.inr ⟨"Seepwork", sw_inN 231 rfl rfl, rfl⟩⟩
set_option maxRecDepth 100000 in
theorem sw_PI_7_56 : sw_PI 7 56 5 := Or.inl ⟨by decide, Or.inr ⟨"Seepwork", sw_inN 251 rfl rfl, rfl⟩⟩
set_option maxRecDepth 100000 in
theorem sw_PI_7_63 : sw_PI 7 63 8 := Or.inl ⟨by decide, Or.inr ⟨"Seepwork", sw_inN 254 rfl rfl, rfl⟩⟩
set_option maxRecDepth 100000 in
theorem sw_PI_7_70 : sw_PI 7 70 10 := Or.inl ⟨by decide, Or.inl (sw_in 272 rfl rfl)⟩
set_option maxRecDepth 100000 in
theorem sw_PI_7_77 : sw_PI 7 77 11 := Or.inl ⟨by decide, Or.inr ⟨"Seepwork", sw_inN 298 rfl rfl, rfl⟩⟩
set_option maxRecDepth 100000 in
theorem sw_PI_7_84 : sw_PI 7 84 13 := Or.inl ⟨by decide, Or.inl (sw_in 317 rfl rfl)⟩
set_option maxRecDepth 100000 in
theorem sw_PI_7_90 : sw_PI 7 90 17 := Or.inl ⟨by decide, Or.inl (sw_in 388 rfl rfl)⟩
set_option maxRecDepth 100000 in
theorem sw_PI_7_94 : sw_PI 7 94 19 := Or.inl ⟨by decide, Or.inl (sw_in 458 rfl rfl)⟩
set_option maxRecDepth 100000 in
theorem sw_PI_7_98 : sw_PI 7 98 23 := Or.inl ⟨by decide, Or.inl (sw_in 470 rfl rfl)⟩
set_option maxRecDepth 100000 in
theorem sw_PI_7_105 : sw_PI 7 105 25 := Or.inl ⟨by decide, Or.inl (sw_in 493 rfl rfl)⟩
set_option maxRecDepth 100000 in
theorem sw_PI_7_111 : sw_PI 7 111 84 := Or.inl ⟨by decide, Or.inl (sw_in 501 rfl rfl)⟩
set_option maxRecDepth 100000 in
theorem sw_PI_7_114 : sw_PI 7 114 105 := Or.inl ⟨by decide, Or.inl (sw_in 505 rfl rfl)⟩
set_option maxRecDepth 100000 in
theorem sw_PI_7_122 : sw_PI 7 122 28 := Or.inl ⟨by decide, Or.inl (sw_in 523 rfl rfl)⟩
set_option maxRecDepth 100000 in
theorem sw_PI_7_125 : sw_PI 7 125 34 := Or.inl ⟨by decide, Or.inl (sw_in 535 rfl rfl)⟩
set_option maxRecDepth 100000 in
theorem sw_PI_7_129 : sw_PI 7 129 35 := Or.inl ⟨by decide, Or.inl (sw_in 546 rfl rfl)⟩
set_option maxRecDepth 100000 in
theorem sw_PI_7_133 : sw_PI 7 133 95 := Or.inl ⟨by decide, Or.inl (sw_in 823 rfl rfl)⟩
set_option maxRecDepth 100000 in
theorem sw_PI_7_137 : sw_PI 7 137 98 := Or.inl ⟨by decide, Or.inl (sw_in 831 rfl rfl)⟩
set_option maxRecDepth 100000 in
theorem sw_PI_7_141 : sw_PI 7 141 101 := Or.inl ⟨by decide, Or.inl (sw_in 846 rfl rfl)⟩
set_option maxRecDepth 100000 in
theorem sw_PI_7_154 : sw_PI 7 154 91 := Or.inl ⟨by decide, Or.inl (sw_in 701 rfl rfl)⟩
set_option maxRecDepth 100000 in
theorem sw_PI_7_157 : sw_PI 7 157 108 := Or.inl ⟨by decide, Or.inl (sw_in 855 rfl rfl)⟩
set_option maxRecDepth 100000 in
theorem sw_PI_7_161 : sw_PI 7 161 115 := Or.inl ⟨by decide, Or.inl (sw_in 882 rfl rfl)⟩
set_option maxRecDepth 100000 in
theorem sw_PI_7_164 : sw_PI 7 164 122 := Or.inl ⟨by decide, Or.inl (sw_in 918 rfl rfl)⟩
set_option maxRecDepth 100000 in
theorem sw_PI_7_168 : sw_PI 7 168 123 := Or.inl ⟨by decide, Or.inl (sw_in 947 rfl rfl)⟩
set_option maxRecDepth 100000 in
theorem sw_PI_7_171 : sw_PI 7 171 126 := Or.inl ⟨by decide, Or.inl (sw_in 959 rfl rfl)⟩
set_option maxRecDepth 100000 in
theorem sw_PI_7_190 : sw_PI 7 190 132 := Or.inl ⟨by decide, Or.inl (sw_in 981 rfl rfl)⟩
set_option maxRecDepth 100000 in
theorem sw_PI_7_198 : sw_PI 7 198 135 := Or.inl ⟨by decide, Or.inl (sw_in 1001 rfl rfl)⟩
set_option maxRecDepth 100000 in
theorem sw_PI_7_208 : sw_PI 7 208 133 := Or.inl ⟨by decide, Or.inl (sw_in 995 rfl rfl)⟩
set_option maxRecDepth 100000 in
theorem sw_PI_7_211 : sw_PI 7 211 137 := Or.inl ⟨by decide, Or.inl (sw_in 1015 rfl rfl)⟩
set_option maxRecDepth 100000 in
theorem sw_PI_7_214 : sw_PI 7 214 139 := Or.inl ⟨by decide, Or.inl (sw_in 1019 rfl rfl)⟩
set_option maxRecDepth 100000 in
theorem sw_PI_7_224 : sw_PI 7 224 38 := Or.inl ⟨by decide, Or.inl (sw_in 751 rfl rfl)⟩
set_option maxRecDepth 100000 in
theorem sw_PI_7_230 : sw_PI 7 230 43 := Or.inl ⟨by decide, Or.inl (sw_in 1045 rfl rfl)⟩
set_option maxRecDepth 100000 in
theorem sw_PI_7_245 : sw_PI 7 245 46 := Or.inl ⟨by decide, Or.inl (sw_in 553 rfl rfl)⟩
set_option maxRecDepth 100000 in
theorem sw_PI_7_251 : sw_PI 7 251 53 := Or.inl ⟨by decide, Or.inl (sw_in 562 rfl rfl)⟩
set_option maxRecDepth 100000 in
theorem sw_PI_7_254 : sw_PI 7 254 55 := Or.inl ⟨by decide, Or.inl (sw_in 586 rfl rfl)⟩
set_option maxRecDepth 100000 in
theorem sw_PI_7_260 : sw_PI 7 260 61 := Or.inl ⟨by decide, Or.inl (sw_in 594 rfl rfl)⟩
set_option maxRecDepth 100000 in
theorem sw_PI_7_263 : sw_PI 7 263 62 := Or.inl ⟨by decide, Or.inl (sw_in 615 rfl rfl)⟩
set_option maxRecDepth 100000 in
theorem sw_PI_7_266 : sw_PI 7 266 65 := Or.inl ⟨by decide, Or.inl (sw_in 623 rfl rfl)⟩
set_option maxRecDepth 100000 in
theorem sw_PI_7_269 : sw_PI 7 269 67 := Or.inl ⟨by decide, Or.inl (sw_in 628 rfl rfl)⟩
set_option maxRecDepth 100000 in
theorem sw_PI_7_272 : sw_PI 7 272 76 := Or.inl ⟨by decide, Or.inl (sw_in 641 rfl rfl)⟩
set_option maxRecDepth 100000 in
theorem sw_PI_7_279 : sw_PI 7 279 146 := Or.inl ⟨by decide, Or.inl (sw_in 676 rfl rfl)⟩
set_option maxRecDepth 100000 in
theorem sw_PI_7_283 : sw_PI 7 283 93 := Or.inl ⟨by decide, Or.inl (sw_in 684 rfl rfl)⟩
set_option maxRecDepth 100000 in
theorem sw_PI_7_286 : sw_PI 7 286 87 := Or.inl ⟨by decide, Or.inl (sw_in 695 rfl rfl)⟩
set_option maxRecDepth 100000 in
theorem sw_PI_7_361 : sw_PI 7 361 27 := Or.inl ⟨by decide, Or.inl (sw_in 527 rfl rfl)⟩
set_option maxRecDepth 100000 in
theorem sw_PI_7_371 : sw_PI 7 371 85 := Or.inl ⟨by decide, Or.inl (sw_in 515 rfl rfl)⟩
set_option maxRecDepth 100000 in
theorem sw_PI_7_374 : sw_PI 7 374 32 := Or.inl ⟨by decide, Or.inl (sw_in 656 rfl rfl)⟩
theorem sw_PIo_7 : ∀ e ∈ ([(1, 1000), (9, 0), (21, 2), (28, 3), (35, 4), (42, 6), (49, 7), (56, 5), (63, 8), (70, 10), (77, 11), (84, 13), (90, 17), (94, 19), (98, 23), (105, 25), (111, 84), (114, 105), (122, 28), (125, 34), (129, 35), (133, 95), (137, 98), (141, 101), (154, 91), (157, 108), (161, 115), (164, 122), (168, 123), (171, 126), (190, 132), (198, 135), (208, 133), (211, 137), (214, 139), (224, 38), (230, 43), (245, 46), (251, 53), (254, 55), (260, 61), (263, 62), (266, 65), (269, 67), (272, 76), (279, 146), (283, 93), (286, 87), (361, 27), (371, 85), (374, 32)] : List (Nat × Nat)), sw_PI 7 e.1 e.2 := List.forall_mem_cons.mpr ⟨sw_PI_7_1, List.forall_mem_cons.mpr ⟨sw_PI_7_9, List.forall_mem_cons.mpr ⟨sw_PI_7_21, List.forall_mem_cons.mpr ⟨sw_PI_7_28, List.forall_mem_cons.mpr ⟨sw_PI_7_35, List.forall_mem_cons.mpr ⟨sw_PI_7_42, List.forall_mem_cons.mpr ⟨sw_PI_7_49, List.forall_mem_cons.mpr ⟨sw_PI_7_56, List.forall_mem_cons.mpr ⟨sw_PI_7_63, List.forall_mem_cons.mpr ⟨sw_PI_7_70, List.forall_mem_cons.mpr ⟨sw_PI_7_77, List.forall_mem_cons.mpr ⟨sw_PI_7_84, List.forall_mem_cons.mpr ⟨sw_PI_7_90, List.forall_mem_cons.mpr ⟨sw_PI_7_94, List.forall_mem_cons.mpr ⟨sw_PI_7_98, List.forall_mem_cons.mpr ⟨sw_PI_7_105, List.forall_mem_cons.mpr ⟨sw_PI_7_111, List.forall_mem_cons.mpr ⟨sw_PI_7_114, List.forall_mem_cons.mpr ⟨sw_PI_7_122, List.forall_mem_cons.mpr ⟨sw_PI_7_125, List.forall_mem_cons.mpr ⟨sw_PI_7_129, List.forall_mem_cons.mpr ⟨sw_PI_7_133, List.forall_mem_cons.mpr ⟨sw_PI_7_137, List.forall_mem_cons.mpr ⟨sw_PI_7_141, List.forall_mem_cons.mpr ⟨sw_PI_7_154, List.forall_mem_cons.mpr ⟨sw_PI_7_157, List.forall_mem_cons.mpr ⟨sw_PI_7_161, List.forall_mem_cons.mpr ⟨sw_PI_7_164, List.forall_mem_cons.mpr ⟨sw_PI_7_168, List.forall_mem_cons.mpr ⟨sw_PI_7_171, List.forall_mem_cons.mpr ⟨sw_PI_7_190, List.forall_mem_cons.mpr ⟨sw_PI_7_198, List.forall_mem_cons.mpr ⟨sw_PI_7_208, List.forall_mem_cons.mpr ⟨sw_PI_7_211, List.forall_mem_cons.mpr ⟨sw_PI_7_214, List.forall_mem_cons.mpr ⟨sw_PI_7_224, List.forall_mem_cons.mpr ⟨sw_PI_7_230, List.forall_mem_cons.mpr ⟨sw_PI_7_245, List.forall_mem_cons.mpr ⟨sw_PI_7_251, List.forall_mem_cons.mpr ⟨sw_PI_7_254, List.forall_mem_cons.mpr ⟨sw_PI_7_260, List.forall_mem_cons.mpr ⟨sw_PI_7_263, List.forall_mem_cons.mpr ⟨sw_PI_7_266, List.forall_mem_cons.mpr ⟨sw_PI_7_269, List.forall_mem_cons.mpr ⟨sw_PI_7_272, List.forall_mem_cons.mpr ⟨sw_PI_7_279, List.forall_mem_cons.mpr ⟨sw_PI_7_283, List.forall_mem_cons.mpr ⟨sw_PI_7_286, List.forall_mem_cons.mpr ⟨sw_PI_7_361, List.forall_mem_cons.mpr ⟨sw_PI_7_371, List.forall_mem_cons.mpr ⟨sw_PI_7_374, fun _ h => absurd h List.not_mem_nil⟩⟩⟩⟩⟩⟩⟩⟩⟩⟩⟩⟩⟩⟩⟩⟩⟩⟩⟩⟩⟩⟩⟩⟩⟩⟩⟩⟩⟩⟩⟩⟩⟩⟩⟩⟩⟩⟩⟩⟩⟩⟩⟩⟩⟩⟩⟩⟩⟩⟩⟩
set_option maxRecDepth 100000 in
theorem sw_PI_8_3 : sw_PI 8 3 1000 := Or.inr (Or.inr ⟨rfl, sw_in 203 rfl rfl, sw_in 61 rfl rfl, sw_in 62 rfl rfl⟩)
set_option maxRecDepth 100000 in
theorem sw_PI_8_21 : sw_PI 8 21 5 := Or.inl ⟨by decide, Or.inr ⟨"Seepwork", sw_inN 206 rfl rfl, rfl⟩⟩
set_option maxRecDepth 100000 in
theorem sw_PI_8_26 : sw_PI 8 26 103 := Or.inl ⟨by decide, Or.inl (sw_in 859 rfl rfl)⟩
set_option maxRecDepth 100000 in
theorem sw_PI_8_30 : sw_PI 8 30 104 := Or.inl ⟨by decide, Or.inr ⟨"Seepwork", sw_inN 864 rfl rfl, rfl⟩⟩
set_option maxRecDepth 100000 in
theorem sw_PI_8_34 : sw_PI 8 34 106 := Or.inl ⟨by decide, Or.inl (sw_in 867 rfl rfl)⟩
set_option maxRecDepth 100000 in
theorem sw_PI_8_38 : sw_PI 8 38 85 := Or.inl ⟨by decide, Or.inr ⟨"Seepwork", sw_inN 871 rfl rfl, rfl⟩⟩
set_option maxRecDepth 100000 in
theorem sw_PI_8_42 : sw_PI 8 42 107 := Or.inl ⟨by decide, Or.inl (sw_in 874 rfl rfl)⟩
set_option maxRecDepth 100000 in
theorem sw_PI_8_45 : sw_PI 8 45 86 := Or.inl ⟨by decide, Or.inr ⟨"Seepwork", sw_inN 872 rfl rfl, rfl⟩⟩
set_option maxRecDepth 100000 in
theorem sw_PI_8_48 : sw_PI 8 48 105 := Or.inl ⟨by decide, Or.inl (sw_in 873 rfl rfl)⟩
set_option maxRecDepth 100000 in
theorem sw_PI_8_54 : sw_PI 8 54 72 := Or.inl ⟨by decide, Or.inr ⟨"Seepwork", sw_inN 863 rfl rfl, rfl⟩⟩
set_option maxRecDepth 100000 in
theorem sw_PI_8_58 : sw_PI 8 58 112 := Or.inl ⟨by decide, Or.inl (sw_in 886 rfl rfl)⟩
set_option maxRecDepth 100000 in
theorem sw_PI_8_62 : sw_PI 8 62 113 := Or.inl ⟨by decide, Or.inl (sw_in 900 rfl rfl)⟩
set_option maxRecDepth 100000 in
theorem sw_PI_8_69 : sw_PI 8 69 114 := Or.inl ⟨by decide, Or.inl (sw_in 904 rfl rfl)⟩
set_option maxRecDepth 100000 in
theorem sw_PI_8_73 : sw_PI 8 73 110 := Or.inl ⟨by decide, Or.inl (sw_in 890 rfl rfl)⟩
set_option maxRecDepth 100000 in
theorem sw_PI_8_76 : sw_PI 8 76 111 := Or.inl ⟨by decide, Or.inl (sw_in 896 rfl rfl)⟩
set_option maxRecDepth 100000 in
theorem sw_PI_8_80 : sw_PI 8 80 32 := Or.inl ⟨by decide, Or.inr ⟨"Seepwork", sw_inN 908 rfl rfl, rfl⟩⟩
set_option maxRecDepth 100000 in
theorem sw_PI_8_83 : sw_PI 8 83 89 := Or.inl ⟨by decide, Or.inr ⟨"Seepwork", sw_inN 909 rfl rfl, rfl⟩⟩
set_option maxRecDepth 100000 in
theorem sw_PI_8_86 : sw_PI 8 86 1001 := Or.inr (Or.inl ⟨rfl, sw_in 910 rfl rfl, sw_in 517 rfl rfl, sw_in 54 rfl rfl, sw_in 518 rfl rfl⟩)
theorem sw_PIo_8 : ∀ e ∈ ([(3, 1000), (21, 5), (26, 103), (30, 104), (34, 106), (38, 85), (42, 107), (45, 86), (48, 105), (54, 72), (58, 112), (62, 113), (69, 114), (73, 110), (76, 111), (80, 32), (83, 89), (86, 1001)] : List (Nat × Nat)), sw_PI 8 e.1 e.2 := List.forall_mem_cons.mpr ⟨sw_PI_8_3, List.forall_mem_cons.mpr ⟨sw_PI_8_21, List.forall_mem_cons.mpr ⟨sw_PI_8_26, List.forall_mem_cons.mpr ⟨sw_PI_8_30, List.forall_mem_cons.mpr ⟨sw_PI_8_34, List.forall_mem_cons.mpr ⟨sw_PI_8_38, List.forall_mem_cons.mpr ⟨sw_PI_8_42, List.forall_mem_cons.mpr ⟨sw_PI_8_45, List.forall_mem_cons.mpr ⟨sw_PI_8_48, List.forall_mem_cons.mpr ⟨sw_PI_8_54, List.forall_mem_cons.mpr ⟨sw_PI_8_58, List.forall_mem_cons.mpr ⟨sw_PI_8_62, List.forall_mem_cons.mpr ⟨sw_PI_8_69, List.forall_mem_cons.mpr ⟨sw_PI_8_73, List.forall_mem_cons.mpr ⟨sw_PI_8_76, List.forall_mem_cons.mpr ⟨sw_PI_8_80, List.forall_mem_cons.mpr ⟨sw_PI_8_83, List.forall_mem_cons.mpr ⟨sw_PI_8_86, fun _ h => absurd h List.not_mem_nil⟩⟩⟩⟩⟩⟩⟩⟩⟩⟩⟩⟩⟩⟩⟩⟩⟩⟩
set_option maxRecDepth 100000 in
theorem sw_PI_9_3 : sw_PI 9 3 1000 := Or.inr (Or.inr ⟨rfl, sw_in 209 rfl rfl, sw_in 61 rfl rfl, sw_in 62 rfl rfl⟩)
set_option maxRecDepth 100000 in
theorem sw_PI_9_19 : sw_PI 9 19 9 := Or.inl ⟨by decide, Or.inl (sw_in 894 rfl rfl)⟩
set_option maxRecDepth 100000 in
theorem sw_PI_9_25 : sw_PI 9 25 104 := Or.inl ⟨by decide, Or.inr ⟨"Seepwork", sw_inN 895 rfl rfl, rfl⟩⟩
set_option maxRecDepth 100000 in
theorem sw_PI_9_29 : sw_PI 9 29 110 := Or.inl ⟨by decide, Or.inl (sw_in 985 rfl rfl)⟩
set_option maxRecDepth 100000 in
theorem sw_PI_9_32 : sw_PI 9 32 111 := Or.inl ⟨by decide, Or.inl (sw_in 986 rfl rfl)⟩
set_option maxRecDepth 100000 in
theorem sw_PI_9_36 : sw_PI 9 36 113 := Or.inl ⟨by decide, Or.inl (sw_in 987 rfl rfl)⟩
set_option maxRecDepth 100000 in
theorem sw_PI_9_40 : sw_PI 9 40 32 := Or.inl ⟨by decide, Or.inr ⟨"Seepwork", sw_inN 988 rfl rfl, rfl⟩⟩
set_option maxRecDepth 100000 in
theorem sw_PI_9_49 : sw_PI 9 49 89 := Or.inl ⟨by decide, Or.inr ⟨"Seepwork", sw_inN 989 rfl rfl, rfl⟩⟩
theorem sw_PIo_9 : ∀ e ∈ ([(3, 1000), (19, 9), (25, 104), (29, 110), (32, 111), (36, 113), (40, 32), (49, 89)] : List (Nat × Nat)), sw_PI 9 e.1 e.2 := List.forall_mem_cons.mpr ⟨sw_PI_9_3, List.forall_mem_cons.mpr ⟨sw_PI_9_19, List.forall_mem_cons.mpr ⟨sw_PI_9_25, List.forall_mem_cons.mpr ⟨sw_PI_9_29, List.forall_mem_cons.mpr ⟨sw_PI_9_32, List.forall_mem_cons.mpr ⟨sw_PI_9_36, List.forall_mem_cons.mpr ⟨sw_PI_9_40, List.forall_mem_cons.mpr ⟨sw_PI_9_49, fun _ h => absurd h List.not_mem_nil⟩⟩⟩⟩⟩⟩⟩⟩
set_option maxRecDepth 100000 in
theorem sw_PI_10_3 : sw_PI 10 3 1000 := Or.inr (Or.inr ⟨rfl, sw_in 182 rfl rfl, sw_in 61 rfl rfl, sw_in 62 rfl rfl⟩)
set_option maxRecDepth 100000 in
theorem sw_PI_10_24 : sw_PI 10 24 1 := Or.inl ⟨by decide, Or.inr ⟨"Seepwork", sw_inN 184 rfl rfl, rfl⟩⟩
set_option maxRecDepth 100000 in
theorem sw_PI_10_29 : sw_PI 10 29 9 := Or.inl ⟨by decide, Or.inl (sw_in 922 rfl rfl)⟩
set_option maxRecDepth 100000 in
theorem sw_PI_10_35 : sw_PI 10 35 120 := Or.inl ⟨by decide, Or.inl (sw_in 923 rfl rfl)⟩
set_option maxRecDepth 100000 in
theorem sw_PI_10_39 : sw_PI 10 39 121 := Or.inl ⟨by decide, Or.inl (sw_in 941 rfl rfl)⟩
set_option maxRecDepth 100000 in
theorem sw_PI_10_48 : sw_PI 10 48 85 := Or.inl ⟨by decide, Or.inr ⟨"Seepwork", sw_inN 946 rfl rfl, rfl⟩⟩
set_option maxRecDepth 100000 in
theorem sw_PI_10_52 : sw_PI 10 52 86 := Or.inl ⟨by decide, Or.inr ⟨"Seepwork", sw_inN 945 rfl rfl, rfl⟩⟩
set_option maxRecDepth 100000 in
theorem sw_PI_10_55 : sw_PI 10 55 118 := Or.inl ⟨by decide, Or.inl (sw_in 927 rfl rfl)⟩
set_option maxRecDepth 100000 in
theorem sw_PI_10_59 : sw_PI 10 59 52 := Or.inl ⟨by decide, Or.inl (sw_in 934 rfl rfl)⟩
set_option maxRecDepth 100000 in
theorem sw_PI_10_63 : sw_PI 10 63 72 := Or.inl ⟨by decide, Or.inr ⟨"Seepwork", sw_inN 932 rfl rfl, rfl⟩⟩
set_option maxRecDepth 100000 in
theorem sw_PI_10_67 : sw_PI 10 67 32 := Or.inl ⟨by decide, Or.inr ⟨"Seepwork", sw_inN 935 rfl rfl, rfl⟩⟩
set_option maxRecDepth 100000 in
theorem sw_PI_10_71 : sw_PI 10 71 119 := Or.inl ⟨by decide, Or.inl (sw_in 936 rfl rfl)⟩
set_option maxRecDepth 100000 in
theorem sw_PI_10_75 : sw_PI 10 75 89 := Or.inl ⟨by decide, Or.inr ⟨"Seepwork", sw_inN 940 rfl rfl, rfl⟩⟩
set_option maxRecDepth 100000 in
theorem sw_PI_10_78 : sw_PI 10 78 50 := Or.inl ⟨by decide, Or.inl (sw_in 933 rfl rfl)⟩
set_option maxRecDepth 100000 in
theorem sw_PI_10_81 : sw_PI 10 81 49 := Or.inl ⟨by decide, Or.inl (sw_in 931 rfl rfl)⟩
theorem sw_PIo_10 : ∀ e ∈ ([(3, 1000), (24, 1), (29, 9), (35, 120), (39, 121), (48, 85), (52, 86), (55, 118), (59, 52), (63, 72), (67, 32), (71, 119), (75, 89), (78, 50), (81, 49)] : List (Nat × Nat)), sw_PI 10 e.1 e.2 := List.forall_mem_cons.mpr ⟨sw_PI_10_3, List.forall_mem_cons.mpr ⟨sw_PI_10_24, List.forall_mem_cons.mpr ⟨sw_PI_10_29, List.forall_mem_cons.mpr ⟨sw_PI_10_35, List.forall_mem_cons.mpr ⟨sw_PI_10_39, List.forall_mem_cons.mpr ⟨sw_PI_10_48, List.forall_mem_cons.mpr ⟨sw_PI_10_52, List.forall_mem_cons.mpr ⟨sw_PI_10_55, List.forall_mem_cons.mpr ⟨sw_PI_10_59, List.forall_mem_cons.mpr ⟨sw_PI_10_63, List.forall_mem_cons.mpr ⟨sw_PI_10_67, List.forall_mem_cons.mpr ⟨sw_PI_10_71, List.forall_mem_cons.mpr ⟨sw_PI_10_75, List.forall_mem_cons.mpr ⟨sw_PI_10_78, List.forall_mem_cons.mpr ⟨sw_PI_10_81, fun _ h => absurd h List.not_mem_nil⟩⟩⟩⟩⟩⟩⟩⟩⟩⟩⟩⟩⟩⟩⟩
set_option maxRecDepth 100000 in
theorem sw_PI_11_3 : sw_PI 11 3 1000 := Or.inr (Or.inr ⟨rfl, sw_in 301 rfl rfl, sw_in 61 rfl rfl, sw_in 62 rfl rfl⟩)
set_option maxRecDepth 100000 in
theorem sw_PI_11_20 : sw_PI 11 20 1 := Or.inl ⟨by decide, Or.inr ⟨"Seepwork", sw_inN 303 rfl rfl, rfl⟩⟩
set_option maxRecDepth 100000 in
theorem sw_PI_11_25 : sw_PI 11 25 73 := Or.inl ⟨by decide, Or.inl (sw_in 645 rfl rfl)⟩
set_option maxRecDepth 100000 in
theorem sw_PI_11_29 : sw_PI 11 29 75 := Or.inl ⟨by decide, Or.inl (sw_in 660 rfl rfl)⟩
set_option maxRecDepth 100000 in
theorem sw_PI_11_39 : sw_PI 11 39 74 := Or.inl ⟨by decide, Or.inl (sw_in 664 rfl rfl)⟩
set_option maxRecDepth 100000 in
theorem sw_PI_11_43 : sw_PI 11 43 71 := Or.inl ⟨by decide, Or.inl (sw_in 650 rfl rfl)⟩
set_option maxRecDepth 100000 in
theorem sw_PI_11_47 : sw_PI 11 47 72 := Or.inl ⟨by decide, Or.inr ⟨"Seepwork", sw_inN 653 rfl rfl, rfl⟩⟩
set_option maxRecDepth 100000 in
theorem sw_PI_11_51 : sw_PI 11 51 32 := Or.inl ⟨by decide, Or.inr ⟨"Seepwork", sw_inN 659 rfl rfl, rfl⟩⟩
set_option maxRecDepth 100000 in
theorem sw_PI_11_55 : sw_PI 11 55 49 := Or.inl ⟨by decide, Or.inl (sw_in 649 rfl rfl)⟩
set_option maxRecDepth 100000 in
theorem sw_PI_11_58 : sw_PI 11 58 50 := Or.inl ⟨by decide, Or.inl (sw_in 657 rfl rfl)⟩
set_option maxRecDepth 100000 in
theorem sw_PI_11_62 : sw_PI 11 62 52 := Or.inl ⟨by decide, Or.inl (sw_in 658 rfl rfl)⟩
theorem sw_PIo_11 : ∀ e ∈ ([(3, 1000), (20, 1), (25, 73), (29, 75), (39, 74), (43, 71), (47, 72), (51, 32), (55, 49), (58, 50), (62, 52)] : List (Nat × Nat)), sw_PI 11 e.1 e.2 := List.forall_mem_cons.mpr ⟨sw_PI_11_3, List.forall_mem_cons.mpr ⟨sw_PI_11_20, List.forall_mem_cons.mpr ⟨sw_PI_11_25, List.forall_mem_cons.mpr ⟨sw_PI_11_29, List.forall_mem_cons.mpr ⟨sw_PI_11_39, List.forall_mem_cons.mpr ⟨sw_PI_11_43, List.forall_mem_cons.mpr ⟨sw_PI_11_47, List.forall_mem_cons.mpr ⟨sw_PI_11_51, List.forall_mem_cons.mpr ⟨sw_PI_11_55, List.forall_mem_cons.mpr ⟨sw_PI_11_58, List.forall_mem_cons.mpr ⟨sw_PI_11_62, fun _ h => absurd h List.not_mem_nil⟩⟩⟩⟩⟩⟩⟩⟩⟩⟩⟩
set_option maxRecDepth 100000 in
theorem sw_PI_12_3 : sw_PI 12 3 1000 := Or.inr (Or.inr ⟨rfl, sw_in 257 rfl rfl, sw_in 61 rfl rfl, sw_in 62 rfl rfl⟩)
set_option maxRecDepth 100000 in
theorem sw_PI_12_15 : sw_PI 12 15 104 := Or.inl ⟨by decide, Or.inr ⟨"Seepwork", sw_inN 1023 rfl rfl, rfl⟩⟩
set_option maxRecDepth 100000 in
theorem sw_PI_12_26 : sw_PI 12 26 138 := Or.inl ⟨by decide, Or.inl (sw_in 1024 rfl rfl)⟩
set_option maxRecDepth 100000 in
theorem sw_PI_12_30 : sw_PI 12 30 85 := Or.inl ⟨by decide, Or.inr ⟨"Seepwork", sw_inN 1028 rfl rfl, rfl⟩⟩
set_option maxRecDepth 100000 in
theorem sw_PI_12_34 : sw_PI 12 34 86 := Or.inl ⟨by decide, Or.inr ⟨"Seepwork", sw_inN 1029 rfl rfl, rfl⟩⟩
set_option maxRecDepth 100000 in
theorem sw_PI_12_43 : sw_PI 12 43 1001 := Or.inr (Or.inl ⟨rfl, sw_in 1030 rfl rfl, sw_in 517 rfl rfl, sw_in 54 rfl rfl, sw_in 518 rfl rfl⟩)
theorem sw_PIo_12 : ∀ e ∈ ([(3, 1000), (15, 104), (26, 138), (30, 85), (34, 86), (43, 1001)] : List (Nat × Nat)), sw_PI 12 e.1 e.2 := List.forall_mem_cons.mpr ⟨sw_PI_12_3, List.forall_mem_cons.mpr ⟨sw_PI_12_15, List.forall_mem_cons.mpr ⟨sw_PI_12_26, List.forall_mem_cons.mpr ⟨sw_PI_12_30, List.forall_mem_cons.mpr ⟨sw_PI_12_34, List.forall_mem_cons.mpr ⟨sw_PI_12_43, fun _ h => absurd h List.not_mem_nil⟩⟩⟩⟩⟩⟩
set_option maxRecDepth 100000 in
theorem sw_PI_13_3 : sw_PI 13 3 1000 := Or.inr (Or.inr ⟨rfl, sw_in 89 rfl rfl, sw_in 61 rfl rfl, sw_in 62 rfl rfl⟩)
set_option maxRecDepth 100000 in
theorem sw_PI_13_29 : sw_PI 13 29 1 := Or.inl ⟨by decide, Or.inr ⟨"Seepwork", sw_inN 92 rfl rfl, rfl⟩⟩
set_option maxRecDepth 100000 in
theorem sw_PI_13_34 : sw_PI 13 34 33 := Or.inl ⟨by decide, Or.inl (sw_in 539 rfl rfl)⟩
set_option maxRecDepth 100000 in
theorem sw_PI_13_38 : sw_PI 13 38 32 := Or.inl ⟨by decide, Or.inr ⟨"Seepwork", sw_inN 543 rfl rfl, rfl⟩⟩
set_option maxRecDepth 100000 in
theorem sw_PI_13_42 : sw_PI 13 42 35 := Or.inl ⟨by decide, Or.inr ⟨"Seepwork", sw_inN 1049 rfl rfl, rfl⟩⟩
set_option maxRecDepth 100000 in
theorem sw_PI_13_53 : sw_PI 13 53 42 := Or.inl ⟨by decide, Or.inl (sw_in 1050 rfl rfl)⟩
set_option maxRecDepth 100000 in
theorem sw_PI_13_56 : sw_PI 13 56 41 := Or.inl ⟨by decide, Or.inl (sw_in 1054 rfl rfl)⟩
set_option maxRecDepth 100000 in
theorem sw_PI_13_62 : sw_PI 13 62 18 := Or.inl ⟨by decide, Or.inr ⟨"Seepwork", sw_inN 557 rfl rfl, rfl⟩⟩
set_option maxRecDepth 100000 in
theorem sw_PI_13_65 : sw_PI 13 65 49 := Or.inl ⟨by decide, Or.inl (sw_in 566 rfl rfl)⟩
set_option maxRecDepth 100000 in
theorem sw_PI_13_68 : sw_PI 13 68 51 := Or.inl ⟨by decide, Or.inl (sw_in 570 rfl rfl)⟩
set_option maxRecDepth 100000 in
theorem sw_PI_13_72 : sw_PI 13 72 52 := Or.inl ⟨by decide, Or.inl (sw_in 578 rfl rfl)⟩
set_option maxRecDepth 100000 in
theorem sw_PI_13_79 : sw_PI 13 79 50 := Or.inl ⟨by decide, Or.inl (sw_in 574 rfl rfl)⟩
theorem sw_PIo_13 : ∀ e ∈ ([(3, 1000), (29, 1), (34, 33), (38, 32), (42, 35), (53, 42), (56, 41), (62, 18), (65, 49), (68, 51), (72, 52), (79, 50)] : List (Nat × Nat)), sw_PI 13 e.1 e.2 := List.forall_mem_cons.mpr ⟨sw_PI_13_3, List.forall_mem_cons.mpr ⟨sw_PI_13_29, List.forall_mem_cons.mpr ⟨sw_PI_13_34, List.forall_mem_cons.mpr ⟨sw_PI_13_38, List.forall_mem_cons.mpr ⟨sw_PI_13_42, List.forall_mem_cons.mpr ⟨sw_PI_13_53, List.forall_mem_cons.mpr ⟨sw_PI_13_56, List.forall_mem_cons.mpr ⟨sw_PI_13_62, List.forall_mem_cons.mpr ⟨sw_PI_13_65, List.forall_mem_cons.mpr ⟨sw_PI_13_68, List.forall_mem_cons.mpr ⟨sw_PI_13_72, List.forall_mem_cons.mpr ⟨sw_PI_13_79, fun _ h => absurd h List.not_mem_nil⟩⟩⟩⟩⟩⟩⟩⟩⟩⟩⟩⟩
set_option maxRecDepth 100000 in
theorem sw_PI_14_3 : sw_PI 14 3 1000 := Or.inr (Or.inr ⟨rfl, sw_in 68 rfl rfl, sw_in 61 rfl rfl, sw_in 62 rfl rfl⟩)
set_option maxRecDepth 100000 in
theorem sw_PI_14_18 : sw_PI 14 18 18 := Or.inl ⟨by decide, Or.inr ⟨"Seepwork", sw_inN 462 rfl rfl, rfl⟩⟩
set_option maxRecDepth 100000 in
theorem sw_PI_14_22 : sw_PI 14 22 85 := Or.inl ⟨by decide, Or.inr ⟨"Seepwork", sw_inN 509 rfl rfl, rfl⟩⟩
set_option maxRecDepth 100000 in
theorem sw_PI_14_25 : sw_PI 14 25 86 := Or.inl ⟨by decide, Or.inr ⟨"Seepwork", sw_inN 512 rfl rfl, rfl⟩⟩
set_option maxRecDepth 100000 in
theorem sw_PI_14_28 : sw_PI 14 28 1001 := Or.inr (Or.inl ⟨rfl, sw_in 516 rfl rfl, sw_in 517 rfl rfl, sw_in 54 rfl rfl, sw_in 518 rfl rfl⟩)
theorem sw_PIo_14 : ∀ e ∈ ([(3, 1000), (18, 18), (22, 85), (25, 86), (28, 1001)] : List (Nat × Nat)), sw_PI 14 e.1 e.2 := List.forall_mem_cons.mpr ⟨sw_PI_14_3, List.forall_mem_cons.mpr ⟨sw_PI_14_18, List.forall_mem_cons.mpr ⟨sw_PI_14_22, List.forall_mem_cons.mpr ⟨sw_PI_14_25, List.forall_mem_cons.mpr ⟨sw_PI_14_28, fun _ h => absurd h List.not_mem_nil⟩⟩⟩⟩⟩
set_option maxRecDepth 100000 in
theorem sw_PI_15_3 : sw_PI 15 3 1000 := Or.inr (Or.inr ⟨rfl, sw_in 147 rfl rfl, sw_in 61 rfl rfl, sw_in 62 rfl rfl⟩)
set_option maxRecDepth 100000 in
theorem sw_PI_15_24 : sw_PI 15 24 1 := Or.inl ⟨by decide, Or.inr ⟨"Seepwork", sw_inN 149 rfl rfl, rfl⟩⟩
set_option maxRecDepth 100000 in
theorem sw_PI_15_34 : sw_PI 15 34 85 := Or.inl ⟨by decide, Or.inr ⟨"Seepwork", sw_inN 699 rfl rfl, rfl⟩⟩
set_option maxRecDepth 100000 in
theorem sw_PI_15_38 : sw_PI 15 38 86 := Or.inl ⟨by decide, Or.inr ⟨"Seepwork", sw_inN 700 rfl rfl, rfl⟩⟩
set_option maxRecDepth 100000 in
theorem sw_PI_15_44 : sw_PI 15 44 88 := Or.inl ⟨by decide, Or.inl (sw_in 705 rfl rfl)⟩
set_option maxRecDepth 100000 in
theorem sw_PI_15_48 : sw_PI 15 48 90 := Or.inl ⟨by decide, Or.inl (sw_in 713 rfl rfl)⟩
set_option maxRecDepth 100000 in
theorem sw_PI_15_51 : sw_PI 15 51 72 := Or.inl ⟨by decide, Or.inr ⟨"Seepwork", sw_inN 711 rfl rfl, rfl⟩⟩
set_option maxRecDepth 100000 in
theorem sw_PI_15_55 : sw_PI 15 55 9 := Or.inl ⟨by decide, Or.inl (sw_in 709 rfl rfl)⟩
set_option maxRecDepth 100000 in
theorem sw_PI_15_61 : sw_PI 15 61 97 := Or.inl ⟨by decide, Or.inl (sw_in 835 rfl rfl)⟩
set_option maxRecDepth 100000 in
theorem sw_PI_15_74 : sw_PI 15 74 1001 := Or.inr (Or.inl ⟨rfl, sw_in 850 rfl rfl, sw_in 517 rfl rfl, sw_in 54 rfl rfl, sw_in 518 rfl rfl⟩)
set_option maxRecDepth 100000 in
theorem sw_PI_15_80 : sw_PI 15 80 91 := Or.inl ⟨by decide, Or.inl (sw_in 963 rfl rfl)⟩
set_option maxRecDepth 100000 in
theorem sw_PI_15_83 : sw_PI 15 83 49 := Or.inl ⟨by decide, Or.inl (sw_in 710 rfl rfl)⟩
set_option maxRecDepth 100000 in
theorem sw_PI_15_86 : sw_PI 15 86 50 := Or.inl ⟨by decide, Or.inl (sw_in 712 rfl rfl)⟩
set_option maxRecDepth 100000 in
theorem sw_PI_15_92 : sw_PI 15 92 52 := Or.inl ⟨by decide, Or.inl (sw_in 717 rfl rfl)⟩
set_option maxRecDepth 100000 in
theorem sw_PI_15_96 : sw_PI 15 96 32 := Or.inl ⟨by decide, Or.inr ⟨"Seepwork", sw_inN 718 rfl rfl, rfl⟩⟩
set_option maxRecDepth 100000 in
theorem sw_PI_15_99 : sw_PI 15 99 89 := Or.inl ⟨by decide, Or.inr ⟨"Seepwork", sw_inN 719 rfl rfl, rfl⟩⟩
theorem sw_PIo_15 : ∀ e ∈ ([(3, 1000), (24, 1), (34, 85), (38, 86), (44, 88), (48, 90), (51, 72), (55, 9), (61, 97), (74, 1001), (80, 91), (83, 49), (86, 50), (92, 52), (96, 32), (99, 89)] : List (Nat × Nat)), sw_PI 15 e.1 e.2 := List.forall_mem_cons.mpr ⟨sw_PI_15_3, List.forall_mem_cons.mpr ⟨sw_PI_15_24, List.forall_mem_cons.mpr ⟨sw_PI_15_34, List.forall_mem_cons.mpr ⟨sw_PI_15_38, List.forall_mem_cons.mpr ⟨sw_PI_15_44, List.forall_mem_cons.mpr ⟨sw_PI_15_48, List.forall_mem_cons.mpr ⟨sw_PI_15_51, List.forall_mem_cons.mpr ⟨sw_PI_15_55, List.forall_mem_cons.mpr ⟨sw_PI_15_61, List.forall_mem_cons.mpr ⟨sw_PI_15_74, List.forall_mem_cons.mpr ⟨sw_PI_15_80, List.forall_mem_cons.mpr ⟨sw_PI_15_83, List.forall_mem_cons.mpr ⟨sw_PI_15_86, List.forall_mem_cons.mpr ⟨sw_PI_15_92, List.forall_mem_cons.mpr ⟨sw_PI_15_96, List.forall_mem_cons.mpr ⟨sw_PI_15_99, fun _ h => absurd h List.not_mem_nil⟩⟩⟩⟩⟩⟩⟩⟩⟩⟩⟩⟩⟩⟩⟩⟩
theorem sw_PI_all : sw_each sw_PI 0 sw_invL := ⟨sw_PIo_0, ⟨sw_PIo_1, ⟨sw_PIo_2, ⟨sw_PIo_3, ⟨sw_PIo_4, ⟨sw_PIo_5, ⟨sw_PIo_6, ⟨sw_PIo_7, ⟨sw_PIo_8, ⟨sw_PIo_9, ⟨sw_PIo_10, ⟨sw_PIo_11, ⟨sw_PIo_12, ⟨sw_PIo_13, ⟨sw_PIo_14, ⟨sw_PIo_15, True.intro⟩⟩⟩⟩⟩⟩⟩⟩⟩⟩⟩⟩⟩⟩⟩⟩
theorem sw_PI_at {o i y : Nat} (h : sw_inv o i = some y) : sw_PI o i y := by
  obtain ⟨l, h1, h2⟩ := sw_look h
  have := sw_each_at _ 0 sw_PI_all o l h1 _ h2
  rwa [Nat.zero_add] at this
def sw_PW (o i ci : Nat) : Prop := ci < 13 ∧ ∃ q, sw_cl[ci]? = some q ∧ Jvm.Cond.classLink (sw_on o) i q.1 ∈ sw_T
theorem sw_PWo_0 : ∀ e ∈ ([] : List (Nat × Nat)), sw_PW 0 e.1 e.2 := fun _ h => absurd h List.not_mem_nil
theorem sw_PWo_1 : ∀ e ∈ ([] : List (Nat × Nat)), sw_PW 1 e.1 e.2 := fun _ h => absurd h List.not_mem_nil
theorem sw_PWo_2 : ∀ e ∈ ([] : List (Nat × Nat)), sw_PW 2 e.1 e.2 := fun _ h => absurd h List.not_mem_nil
set_option maxRecDepth 100000 in
theorem sw_PW_3_11 : sw_PW 3 11 11 := ⟨by decide, _, rfl, sw_in 55 rfl rfl⟩
theorem sw_PWo_3 : ∀ e ∈ ([(11, 11)] : List (Nat × Nat)), sw_PW 3 e.1 e.2 := List.forall_mem_cons.mpr ⟨sw_PW_3_11, fun _ h => absurd h List.not_mem_nil⟩
theorem sw_PWo_4 : ∀ e ∈ ([] : List (Nat × Nat)), sw_PW 4 e.1 e.2 := fun _ h => absurd h List.not_mem_nil
theorem sw_PWo_5 : ∀ e ∈ ([] : List (Nat × Nat)), sw_PW 5 e.1 e.2 := fun _ h => absurd h List.not_mem_nil
theorem sw_PWo_6 : ∀ e ∈ ([] : List (Nat × Nat)), sw_PW 6 e.1 e.2 := fun _ h => absurd h List.not_mem_nil
set_option maxRecDepth 100000 in
theorem sw_PW_7_7 : sw_PW 7 7 8 := ⟨by decide, _, rfl, sw_in 63 rfl rfl⟩
set_option maxRecDepth 100000 in
theorem sw_PW_7_19 : sw_PW 7 19 7 := ⟨by decide, _, rfl, sw_in 84 rfl rfl⟩
set_option maxRecDepth 100000 in
theorem sw_PW_7_26 : sw_PW 7 26 9 := ⟨by decide, _, rfl, sw_in 142 rfl rfl⟩
set_option maxRecDepth 100000 in
theorem sw_PW_7_33 : sw_PW 7 33 4 := ⟨by decide, _, rfl, sw_in 177 rfl rfl⟩
set_option maxRecDepth 100000 in
theorem sw_PW_7_40 : sw_PW 7 40 2 := ⟨by decide, _, rfl, sw_in 198 rfl rfl⟩
set_option maxRecDepth 100000 in
theorem sw_PW_7_47 : sw_PW 7 47 0 := ⟨by decide, _, rfl, sw_in 229 rfl rfl⟩
set_option maxRecDepth 100000 in
theorem sw_PW_7_54 : sw_PW 7 54 3 := ⟨by decide, _, rfl, sw_in 250 rfl rfl⟩
set_option maxRecDepth 100000 in
theorem sw_PW_7_61 : sw_PW 7 61 6 := ⟨by decide, _, rfl, sw_in 252 rfl rfl⟩
set_option maxRecDepth 100000 in
theorem sw_PW_7_68 : sw_PW 7 68 1 := ⟨by decide, _, rfl, sw_in 270 rfl rfl⟩
set_option maxRecDepth 100000 in
theorem sw_PW_7_75 : sw_PW 7 75 5 := ⟨by decide, _, rfl, sw_in 296 rfl rfl⟩
set_option maxRecDepth 100000 in
theorem sw_PW_7_82 : sw_PW 7 82 12 := ⟨by decide, _, rfl, sw_in 315 rfl rfl⟩
theorem sw_PWo_7 : ∀ e ∈ ([(7, 8), (19, 7), (26, 9), (33, 4), (40, 2), (47, 0), (54, 3), (61, 6), (68, 1), (75, 5), (82, 12)] : List (Nat × Nat)), sw_PW 7 e.1 e.2 := List.forall_mem_cons.mpr ⟨sw_PW_7_7, List.forall_mem_cons.mpr ⟨sw_PW_7_19, List.forall_mem_cons.mpr ⟨sw_PW_7_26, List.forall_mem_cons.mpr ⟨sw_PW_7_33, List.forall_mem_cons.mpr ⟨sw_PW_7_40, List.forall_mem_cons.mpr ⟨sw_PW_7_47, List.forall_mem_cons.mpr ⟨sw_PW_7_54, List.forall_mem_cons.mpr ⟨sw_PW_7_61, List.forall_mem_cons.mpr ⟨sw_PW_7_68, List.forall_mem_cons.mpr ⟨sw_PW_7_75, List.forall_mem_cons.mpr ⟨sw_PW_7_82, fun _ h => absurd h List.not_mem_nil⟩⟩⟩⟩⟩⟩⟩⟩⟩⟩⟩
set_option maxRecDepth 100000 in
theorem sw_PW_8_19 : sw_PW 8 19 3 := ⟨by decide, _, rfl, sw_in 204 rfl rfl⟩
theorem sw_PWo_8 : ∀ e ∈ ([(19, 3)] : List (Nat × Nat)), sw_PW 8 e.1 e.2 := List.forall_mem_cons.mpr ⟨sw_PW_8_19, fun _ h => absurd h List.not_mem_nil⟩
theorem sw_PWo_9 : ∀ e ∈ ([] : List (Nat × Nat)), sw_PW 9 e.1 e.2 := fun _ h => absurd h List.not_mem_nil
set_option maxRecDepth 100000 in
theorem sw_PW_10_22 : sw_PW 10 22 10 := ⟨by decide, _, rfl, sw_in 183 rfl rfl⟩
theorem sw_PWo_10 : ∀ e ∈ ([(22, 10)] : List (Nat × Nat)), sw_PW 10 e.1 e.2 := List.forall_mem_cons.mpr ⟨sw_PW_10_22, fun _ h => absurd h List.not_mem_nil⟩
set_option maxRecDepth 100000 in
theorem sw_PW_11_18 : sw_PW 11 18 10 := ⟨by decide, _, rfl, sw_in 302 rfl rfl⟩
theorem sw_PWo_11 : ∀ e ∈ ([(18, 10)] : List (Nat × Nat)), sw_PW 11 e.1 e.2 := List.forall_mem_cons.mpr ⟨sw_PW_11_18, fun _ h => absurd h List.not_mem_nil⟩
theorem sw_PWo_12 : ∀ e ∈ ([] : List (Nat × Nat)), sw_PW 12 e.1 e.2 := fun _ h => absurd h List.not_mem_nil
set_option maxRecDepth 100000 in
theorem sw_PW_13_27 : sw_PW 13 27 10 := ⟨by decide, _, rfl, sw_in 90 rfl rfl⟩
theorem sw_PWo_13 : ∀ e ∈ ([(27, 10)] : List (Nat × Nat)), sw_PW 13 e.1 e.2 := List.forall_mem_cons.mpr ⟨sw_PW_13_27, fun _ h => absurd h List.not_mem_nil⟩
theorem sw_PWo_14 : ∀ e ∈ ([] : List (Nat × Nat)), sw_PW 14 e.1 e.2 := fun _ h => absurd h List.not_mem_nil
set_option maxRecDepth 100000 in
theorem sw_PW_15_22 : sw_PW 15 22 10 := ⟨by decide, _, rfl, sw_in 148 rfl rfl⟩
theorem sw_PWo_15 : ∀ e ∈ ([(22, 10)] : List (Nat × Nat)), sw_PW 15 e.1 e.2 := List.forall_mem_cons.mpr ⟨sw_PW_15_22, fun _ h => absurd h List.not_mem_nil⟩
theorem sw_PW_all : sw_each sw_PW 0 sw_newL := ⟨sw_PWo_0, ⟨sw_PWo_1, ⟨sw_PWo_2, ⟨sw_PWo_3, ⟨sw_PWo_4, ⟨sw_PWo_5, ⟨sw_PWo_6, ⟨sw_PWo_7, ⟨sw_PWo_8, ⟨sw_PWo_9, ⟨sw_PWo_10, ⟨sw_PWo_11, ⟨sw_PWo_12, ⟨sw_PWo_13, ⟨sw_PWo_14, ⟨sw_PWo_15, True.intro⟩⟩⟩⟩⟩⟩⟩⟩⟩⟩⟩⟩⟩⟩⟩⟩
theorem sw_PW_at {o i ci : Nat} (h : sw_new o i = some ci) : sw_PW o i ci := by
  obtain ⟨l, h1, h2⟩ := sw_look h
  have := sw_each_at _ 0 sw_PW_all o l h1 _ h2
  rwa [Nat.zero_add] at this
def sw_PC (o i : Nat) (v : Int) : Prop := Jvm.Cond.constant (sw_on o) i (Int32.ofInt v) ∈ sw_T
theorem sw_PCo_0 : ∀ e ∈ ([] : List (Nat × Int)), sw_PC 0 e.1 e.2 := fun _ h => absurd h List.not_mem_nil
theorem sw_PCo_1 : ∀ e ∈ ([] : List (Nat × Int)), sw_PC 1 e.1 e.2 := fun _ h => absurd h List.not_mem_nil
theorem sw_PCo_2 : ∀ e ∈ ([] : List (Nat × Int)), sw_PC 2 e.1 e.2 := fun _ h => absurd h List.not_mem_nil
set_option maxRecDepth 100000 in
theorem sw_PC_3_7 : sw_PC 3 7 1000308347 := sw_in 737 rfl rfl
set_option maxRecDepth 100000 in
theorem sw_PC_3_8 : sw_PC 3 8 751363521 := sw_in 738 rfl rfl
set_option maxRecDepth 100000 in
theorem sw_PC_3_9 : sw_PC 3 9 2147483647 := sw_in 742 rfl rfl
set_option maxRecDepth 100000 in
theorem sw_PC_3_73 : sw_PC 3 73 65536 := sw_in 812 rfl rfl
theorem sw_PCo_3 : ∀ e ∈ ([(7, 1000308347), (8, 751363521), (9, 2147483647), (73, 65536)] : List (Nat × Int)), sw_PC 3 e.1 e.2 := List.forall_mem_cons.mpr ⟨sw_PC_3_7, List.forall_mem_cons.mpr ⟨sw_PC_3_8, List.forall_mem_cons.mpr ⟨sw_PC_3_9, List.forall_mem_cons.mpr ⟨sw_PC_3_73, fun _ h => absurd h List.not_mem_nil⟩⟩⟩⟩
theorem sw_PCo_4 : ∀ e ∈ ([] : List (Nat × Int)), sw_PC 4 e.1 e.2 := fun _ h => absurd h List.not_mem_nil
theorem sw_PCo_5 : ∀ e ∈ ([] : List (Nat × Int)), sw_PC 5 e.1 e.2 := fun _ h => absurd h List.not_mem_nil
theorem sw_PCo_6 : ∀ e ∈ ([] : List (Nat × Int)), sw_PC 6 e.1 e.2 := fun _ h => absurd h List.not_mem_nil
set_option maxRecDepth 100000 in
theorem sw_PC_7_89 : sw_PC 7 89 65535 := sw_in 387 rfl rfl
set_option maxRecDepth 100000 in
theorem sw_PC_7_197 : sw_PC 7 197 60000 := sw_in 1000 rfl rfl
set_option maxRecDepth 100000 in
theorem sw_PC_7_362 : sw_PC 7 362 65536 := sw_in 465 rfl rfl
theorem sw_PCo_7 : ∀ e ∈ ([(89, 65535), (197, 60000), (362, 65536)] : List (Nat × Int)), sw_PC 7 e.1 e.2 := List.forall_mem_cons.mpr ⟨sw_PC_7_89, List.forall_mem_cons.mpr ⟨sw_PC_7_197, List.forall_mem_cons.mpr ⟨sw_PC_7_362, fun _ h => absurd h List.not_mem_nil⟩⟩⟩
theorem sw_PCo_8 : ∀ e ∈ ([] : List (Nat × Int)), sw_PC 8 e.1 e.2 := fun _ h => absurd h List.not_mem_nil
theorem sw_PCo_9 : ∀ e ∈ ([] : List (Nat × Int)), sw_PC 9 e.1 e.2 := fun _ h => absurd h List.not_mem_nil
theorem sw_PCo_10 : ∀ e ∈ ([] : List (Nat × Int)), sw_PC 10 e.1 e.2 := fun _ h => absurd h List.not_mem_nil
theorem sw_PCo_11 : ∀ e ∈ ([] : List (Nat × Int)), sw_PC 11 e.1 e.2 := fun _ h => absurd h List.not_mem_nil
theorem sw_PCo_12 : ∀ e ∈ ([] : List (Nat × Int)), sw_PC 12 e.1 e.2 := fun _ h => absurd h List.not_mem_nil
theorem sw_PCo_13 : ∀ e ∈ ([] : List (Nat × Int)), sw_PC 13 e.1 e.2 := fun _ h => absurd h List.not_mem_nil
theorem sw_PCo_14 : ∀ e ∈ ([] : List (Nat × Int)), sw_PC 14 e.1 e.2 := fun _ h => absurd h List.not_mem_nil
theorem sw_PCo_15 : ∀ e ∈ ([] : List (Nat × Int)), sw_PC 15 e.1 e.2 := fun _ h => absurd h List.not_mem_nil
theorem sw_PC_all : sw_each sw_PC 0 sw_cstL := ⟨sw_PCo_0, ⟨sw_PCo_1, ⟨sw_PCo_2, ⟨sw_PCo_3, ⟨sw_PCo_4, ⟨sw_PCo_5, ⟨sw_PCo_6, ⟨sw_PCo_7, ⟨sw_PCo_8, ⟨sw_PCo_9, ⟨sw_PCo_10, ⟨sw_PCo_11, ⟨sw_PCo_12, ⟨sw_PCo_13, ⟨sw_PCo_14, ⟨sw_PCo_15, True.intro⟩⟩⟩⟩⟩⟩⟩⟩⟩⟩⟩⟩⟩⟩⟩⟩
theorem sw_PC_at {o i : Nat} {v : Int} (h : sw_cst o i = some v) : sw_PC o i v := by
  obtain ⟨l, h1, h2⟩ := sw_look h
  have := sw_each_at _ 0 sw_PC_all o l h1 _ h2
  rwa [Nat.zero_add] at this
def sw_PL (o i : Nat) (v : Int) : Prop := Jvm.Cond.constantLong (sw_on o) i (Int64.ofInt v) ∈ sw_T
theorem sw_PLo_0 : ∀ e ∈ ([] : List (Nat × Int)), sw_PL 0 e.1 e.2 := fun _ h => absurd h List.not_mem_nil
theorem sw_PLo_1 : ∀ e ∈ ([] : List (Nat × Int)), sw_PL 1 e.1 e.2 := fun _ h => absurd h List.not_mem_nil
theorem sw_PLo_2 : ∀ e ∈ ([] : List (Nat × Int)), sw_PL 2 e.1 e.2 := fun _ h => absurd h List.not_mem_nil
set_option maxRecDepth 100000 in
theorem sw_PL_3_38 : sw_PL 3 38 (-1) := sw_in 795 rfl rfl
set_option maxRecDepth 100000 in
theorem sw_PL_3_71 : sw_PL 3 71 68719476735 := sw_in 808 rfl rfl
set_option maxRecDepth 100000 in
theorem sw_PL_3_210 : sw_PL 3 210 1000 := sw_in 1058 rfl rfl
set_option maxRecDepth 100000 in
theorem sw_PL_3_212 : sw_PL 3 212 4 := sw_in 1059 rfl rfl
set_option maxRecDepth 100000 in
theorem sw_PL_3_214 : sw_PL 3 214 2 := sw_in 1060 rfl rfl
set_option maxRecDepth 100000 in
theorem sw_PL_3_216 : sw_PL 3 216 1000000000 := sw_in 1061 rfl rfl
theorem sw_PLo_3 : ∀ e ∈ ([(38, (-1)), (71, 68719476735), (210, 1000), (212, 4), (214, 2), (216, 1000000000)] : List (Nat × Int)), sw_PL 3 e.1 e.2 := List.forall_mem_cons.mpr ⟨sw_PL_3_38, List.forall_mem_cons.mpr ⟨sw_PL_3_71, List.forall_mem_cons.mpr ⟨sw_PL_3_210, List.forall_mem_cons.mpr ⟨sw_PL_3_212, List.forall_mem_cons.mpr ⟨sw_PL_3_214, List.forall_mem_cons.mpr ⟨sw_PL_3_216, fun _ h => absurd h List.not_mem_nil⟩⟩⟩⟩⟩⟩
theorem sw_PLo_4 : ∀ e ∈ ([] : List (Nat × Int)), sw_PL 4 e.1 e.2 := fun _ h => absurd h List.not_mem_nil
theorem sw_PLo_5 : ∀ e ∈ ([] : List (Nat × Int)), sw_PL 5 e.1 e.2 := fun _ h => absurd h List.not_mem_nil
theorem sw_PLo_6 : ∀ e ∈ ([] : List (Nat × Int)), sw_PL 6 e.1 e.2 := fun _ h => absurd h List.not_mem_nil
set_option maxRecDepth 100000 in
theorem sw_PL_7_363 : sw_PL 7 363 1000 := sw_in 687 rfl rfl
set_option maxRecDepth 100000 in
theorem sw_PL_7_365 : sw_PL 7 365 4 := sw_in 688 rfl rfl
set_option maxRecDepth 100000 in
theorem sw_PL_7_367 : sw_PL 7 367 2 := sw_in 689 rfl rfl
set_option maxRecDepth 100000 in
theorem sw_PL_7_369 : sw_PL 7 369 1000000000 := sw_in 690 rfl rfl
theorem sw_PLo_7 : ∀ e ∈ ([(363, 1000), (365, 4), (367, 2), (369, 1000000000)] : List (Nat × Int)), sw_PL 7 e.1 e.2 := List.forall_mem_cons.mpr ⟨sw_PL_7_363, List.forall_mem_cons.mpr ⟨sw_PL_7_365, List.forall_mem_cons.mpr ⟨sw_PL_7_367, List.forall_mem_cons.mpr ⟨sw_PL_7_369, fun _ h => absurd h List.not_mem_nil⟩⟩⟩⟩
theorem sw_PLo_8 : ∀ e ∈ ([] : List (Nat × Int)), sw_PL 8 e.1 e.2 := fun _ h => absurd h List.not_mem_nil
theorem sw_PLo_9 : ∀ e ∈ ([] : List (Nat × Int)), sw_PL 9 e.1 e.2 := fun _ h => absurd h List.not_mem_nil
theorem sw_PLo_10 : ∀ e ∈ ([] : List (Nat × Int)), sw_PL 10 e.1 e.2 := fun _ h => absurd h List.not_mem_nil
theorem sw_PLo_11 : ∀ e ∈ ([] : List (Nat × Int)), sw_PL 11 e.1 e.2 := fun _ h => absurd h List.not_mem_nil
theorem sw_PLo_12 : ∀ e ∈ ([] : List (Nat × Int)), sw_PL 12 e.1 e.2 := fun _ h => absurd h List.not_mem_nil
theorem sw_PLo_13 : ∀ e ∈ ([] : List (Nat × Int)), sw_PL 13 e.1 e.2 := fun _ h => absurd h List.not_mem_nil
theorem sw_PLo_14 : ∀ e ∈ ([] : List (Nat × Int)), sw_PL 14 e.1 e.2 := fun _ h => absurd h List.not_mem_nil
theorem sw_PLo_15 : ∀ e ∈ ([] : List (Nat × Int)), sw_PL 15 e.1 e.2 := fun _ h => absurd h List.not_mem_nil
theorem sw_PL_all : sw_each sw_PL 0 sw_cslL := ⟨sw_PLo_0, ⟨sw_PLo_1, ⟨sw_PLo_2, ⟨sw_PLo_3, ⟨sw_PLo_4, ⟨sw_PLo_5, ⟨sw_PLo_6, ⟨sw_PLo_7, ⟨sw_PLo_8, ⟨sw_PLo_9, ⟨sw_PLo_10, ⟨sw_PLo_11, ⟨sw_PLo_12, ⟨sw_PLo_13, ⟨sw_PLo_14, ⟨sw_PLo_15, True.intro⟩⟩⟩⟩⟩⟩⟩⟩⟩⟩⟩⟩⟩⟩⟩⟩
theorem sw_PL_at {o i : Nat} {v : Int} (h : sw_csl o i = some v) : sw_PL o i v := by
  obtain ⟨l, h1, h2⟩ := sw_look h
  have := sw_each_at _ 0 sw_PL_all o l h1 _ h2
  rwa [Nat.zero_add] at this
