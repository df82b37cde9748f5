theorem sw_len_eq {len k : Nat} (h : (len == k) = true) : len = k := beq_iff_eq.mp h
theorem sw_s0i {n : Nat} {x : Int32} {r : List Value} (h : sw_sf n r) : sw_sf n (.int x :: r) := sw_sf_cons.mpr ⟨trivial, h⟩
theorem sw_s0l {n : Nat} {x : Int64} {r : List Value} (h : sw_sf n r) : sw_sf n (.long x :: r) := sw_sf_cons.mpr ⟨trivial, h⟩
theorem sw_s1 {n : Nat} {v : Value} {r : List Value} (h : sw_sf n (v :: r)) : sw_sf n r := (sw_sf_cons.mp h).2
section sw_Lv
variable {p : Program} {l : Launch} {e : Env} {R : Room} {s : State} {mid : MethodId} {args : Array Value} {below : List Frame} {meth : Method} {c : Code} {Q : State → Prop} {m : Nat} {A : Nat → Prop} {dC : Nat → ClassId} {dI : Nat → Nat → Nat} {tA : Nat → ClassId} {b : sw_B} {L k0 z0 : Nat} {xs : Nat → Int32} {E : sw_Ot × sw_HS}
variable {pc : Nat} {ls : sw_LS} {st r : List Value} {H : sw_HS}
theorem sw_o_iadd (X : sw_Cx p l R s mid args meth c m A dC dI tA b L k0 z0 xs E) (hd : decode (sw_by m) pc = .ok (.iadd, 1))
    (h : sw_i2 False st fun x y r => sw_G p l e R s mid args below meth c Q m A dC dI tA b L k0 z0 xs E (pc + 1) ls (.int (x + y) :: r) H) : sw_G p l e R s mid args below meth c Q m A dC dI tA b L k0 z0 xs E pc ls st H := by
  obtain ⟨⟨hx, hb, hml, hown⟩, hts, -⟩ := X
  obtain ⟨x, y, r, rfl, h⟩ := sw_i2_v h
  exact sw_G_st (fun hs _ => sw_s0i (sw_s1 (sw_s1 hs))) (fun ad Hm locs lsA hL k => lv_iadd hx hb hd k) h
theorem sw_o_isub (X : sw_Cx p l R s mid args meth c m A dC dI tA b L k0 z0 xs E) (hd : decode (sw_by m) pc = .ok (.isub, 1))
    (h : sw_i2 False st fun x y r => sw_G p l e R s mid args below meth c Q m A dC dI tA b L k0 z0 xs E (pc + 1) ls (.int (x - y) :: r) H) : sw_G p l e R s mid args below meth c Q m A dC dI tA b L k0 z0 xs E pc ls st H := by
  obtain ⟨⟨hx, hb, hml, hown⟩, hts, -⟩ := X
  obtain ⟨x, y, r, rfl, h⟩ := sw_i2_v h
  exact sw_G_st (fun hs _ => sw_s0i (sw_s1 (sw_s1 hs))) (fun ad Hm locs lsA hL k => lv_isub hx hb hd k) h
theorem sw_o_imul (X : sw_Cx p l R s mid args meth c m A dC dI tA b L k0 z0 xs E) (hd : decode (sw_by m) pc = .ok (.imul, 1))
    (h : sw_i2 False st fun x y r => sw_G p l e R s mid args below meth c Q m A dC dI tA b L k0 z0 xs E (pc + 1) ls (.int (x * y) :: r) H) : sw_G p l e R s mid args below meth c Q m A dC dI tA b L k0 z0 xs E pc ls st H := by
  obtain ⟨⟨hx, hb, hml, hown⟩, hts, -⟩ := X
  obtain ⟨x, y, r, rfl, h⟩ := sw_i2_v h
  exact sw_G_st (fun hs _ => sw_s0i (sw_s1 (sw_s1 hs))) (fun ad Hm locs lsA hL k => lv_imul hx hb hd k) h
theorem sw_o_iand (X : sw_Cx p l R s mid args meth c m A dC dI tA b L k0 z0 xs E) (hd : decode (sw_by m) pc = .ok (.iand, 1))
    (h : sw_i2 False st fun x y r => sw_G p l e R s mid args below meth c Q m A dC dI tA b L k0 z0 xs E (pc + 1) ls (.int (x &&& y) :: r) H) : sw_G p l e R s mid args below meth c Q m A dC dI tA b L k0 z0 xs E pc ls st H := by
  obtain ⟨⟨hx, hb, hml, hown⟩, hts, -⟩ := X
  obtain ⟨x, y, r, rfl, h⟩ := sw_i2_v h
  exact sw_G_st (fun hs _ => sw_s0i (sw_s1 (sw_s1 hs))) (fun ad Hm locs lsA hL k => lv_iand hx hb hd k) h
theorem sw_o_ior (X : sw_Cx p l R s mid args meth c m A dC dI tA b L k0 z0 xs E) (hd : decode (sw_by m) pc = .ok (.ior, 1))
    (h : sw_i2 False st fun x y r => sw_G p l e R s mid args below meth c Q m A dC dI tA b L k0 z0 xs E (pc + 1) ls (.int (x ||| y) :: r) H) : sw_G p l e R s mid args below meth c Q m A dC dI tA b L k0 z0 xs E pc ls st H := by
  obtain ⟨⟨hx, hb, hml, hown⟩, hts, -⟩ := X
  obtain ⟨x, y, r, rfl, h⟩ := sw_i2_v h
  exact sw_G_st (fun hs _ => sw_s0i (sw_s1 (sw_s1 hs))) (fun ad Hm locs lsA hL k => lv_ior hx hb hd k) h
theorem sw_o_ixor (X : sw_Cx p l R s mid args meth c m A dC dI tA b L k0 z0 xs E) (hd : decode (sw_by m) pc = .ok (.ixor, 1))
    (h : sw_i2 False st fun x y r => sw_G p l e R s mid args below meth c Q m A dC dI tA b L k0 z0 xs E (pc + 1) ls (.int (x ^^^ y) :: r) H) : sw_G p l e R s mid args below meth c Q m A dC dI tA b L k0 z0 xs E pc ls st H := by
  obtain ⟨⟨hx, hb, hml, hown⟩, hts, -⟩ := X
  obtain ⟨x, y, r, rfl, h⟩ := sw_i2_v h
  exact sw_G_st (fun hs _ => sw_s0i (sw_s1 (sw_s1 hs))) (fun ad Hm locs lsA hL k => lv_ixor hx hb hd k) h
theorem sw_o_ishl (X : sw_Cx p l R s mid args meth c m A dC dI tA b L k0 z0 xs E) (hd : decode (sw_by m) pc = .ok (.ishl, 1))
    (h : sw_i2 False st fun x y r => sw_G p l e R s mid args below meth c Q m A dC dI tA b L k0 z0 xs E (pc + 1) ls (.int (x <<< (y &&& 31)) :: r) H) : sw_G p l e R s mid args below meth c Q m A dC dI tA b L k0 z0 xs E pc ls st H := by
  obtain ⟨⟨hx, hb, hml, hown⟩, hts, -⟩ := X
  obtain ⟨x, y, r, rfl, h⟩ := sw_i2_v h
  exact sw_G_st (fun hs _ => sw_s0i (sw_s1 (sw_s1 hs))) (fun ad Hm locs lsA hL k => lv_ishl hx hb hd k) h
theorem sw_o_ishr (X : sw_Cx p l R s mid args meth c m A dC dI tA b L k0 z0 xs E) (hd : decode (sw_by m) pc = .ok (.ishr, 1))
    (h : sw_i2 False st fun x y r => sw_G p l e R s mid args below meth c Q m A dC dI tA b L k0 z0 xs E (pc + 1) ls (.int (x >>> (y &&& 31)) :: r) H) : sw_G p l e R s mid args below meth c Q m A dC dI tA b L k0 z0 xs E pc ls st H := by
  obtain ⟨⟨hx, hb, hml, hown⟩, hts, -⟩ := X
  obtain ⟨x, y, r, rfl, h⟩ := sw_i2_v h
  exact sw_G_st (fun hs _ => sw_s0i (sw_s1 (sw_s1 hs))) (fun ad Hm locs lsA hL k => lv_ishr hx hb hd k) h
theorem sw_o_idiv (X : sw_Cx p l R s mid args meth c m A dC dI tA b L k0 z0 xs E) (hd : decode (sw_by m) pc = .ok (.idiv, 1))
    (h : sw_i2 False st fun x y r => if y = 0 then False else sw_G p l e R s mid args below meth c Q m A dC dI tA b L k0 z0 xs E (pc + 1) ls (.int (x / y) :: r) H) : sw_G p l e R s mid args below meth c Q m A dC dI tA b L k0 z0 xs E pc ls st H := by
  obtain ⟨⟨hx, hb, hml, hown⟩, hts, -⟩ := X
  obtain ⟨x, y, r, rfl, h⟩ := sw_i2_v h
  obtain ⟨hy, h⟩ := sw_nite_v h
  exact sw_G_st (fun hs _ => sw_s0i (sw_s1 (sw_s1 hs))) (fun ad Hm locs lsA hL k => lv_idiv hx hb hd hy k) h
theorem sw_o_irem (X : sw_Cx p l R s mid args meth c m A dC dI tA b L k0 z0 xs E) (hd : decode (sw_by m) pc = .ok (.irem, 1))
    (h : sw_i2 False st fun x y r => if y = 0 then False else sw_G p l e R s mid args below meth c Q m A dC dI tA b L k0 z0 xs E (pc + 1) ls (.int (x - x / y * y) :: r) H) : sw_G p l e R s mid args below meth c Q m A dC dI tA b L k0 z0 xs E pc ls st H := by
  obtain ⟨⟨hx, hb, hml, hown⟩, hts, -⟩ := X
  obtain ⟨x, y, r, rfl, h⟩ := sw_i2_v h
  obtain ⟨hy, h⟩ := sw_nite_v h
  exact sw_G_st (fun hs _ => sw_s0i (sw_s1 (sw_s1 hs))) (fun ad Hm locs lsA hL k => lv_irem hx hb hd hy k) h
theorem sw_o_ladd (X : sw_Cx p l R s mid args meth c m A dC dI tA b L k0 z0 xs E) (hd : decode (sw_by m) pc = .ok (.ladd, 1))
    (h : sw_l2 False st fun x y r => sw_G p l e R s mid args below meth c Q m A dC dI tA b L k0 z0 xs E (pc + 1) ls (.long (x + y) :: r) H) : sw_G p l e R s mid args below meth c Q m A dC dI tA b L k0 z0 xs E pc ls st H := by
  obtain ⟨⟨hx, hb, hml, hown⟩, hts, -⟩ := X
  obtain ⟨x, y, r, rfl, h⟩ := sw_l2_v h
  exact sw_G_st (fun hs _ => sw_s0l (sw_s1 (sw_s1 hs))) (fun ad Hm locs lsA hL k => lv_ladd hx hb hd k) h
theorem sw_o_lsub (X : sw_Cx p l R s mid args meth c m A dC dI tA b L k0 z0 xs E) (hd : decode (sw_by m) pc = .ok (.lsub, 1))
    (h : sw_l2 False st fun x y r => sw_G p l e R s mid args below meth c Q m A dC dI tA b L k0 z0 xs E (pc + 1) ls (.long (x - y) :: r) H) : sw_G p l e R s mid args below meth c Q m A dC dI tA b L k0 z0 xs E pc ls st H := by
  obtain ⟨⟨hx, hb, hml, hown⟩, hts, -⟩ := X
  obtain ⟨x, y, r, rfl, h⟩ := sw_l2_v h
  exact sw_G_st (fun hs _ => sw_s0l (sw_s1 (sw_s1 hs))) (fun ad Hm locs lsA hL k => lv_lsub hx hb hd k) h
theorem sw_o_lmul (X : sw_Cx p l R s mid args meth c m A dC dI tA b L k0 z0 xs E) (hd : decode (sw_by m) pc = .ok (.lmul, 1))
    (h : sw_l2 False st fun x y r => sw_G p l e R s mid args below meth c Q m A dC dI tA b L k0 z0 xs E (pc + 1) ls (.long (x * y) :: r) H) : sw_G p l e R s mid args below meth c Q m A dC dI tA b L k0 z0 xs E pc ls st H := by
  obtain ⟨⟨hx, hb, hml, hown⟩, hts, -⟩ := X
  obtain ⟨x, y, r, rfl, h⟩ := sw_l2_v h
  exact sw_G_st (fun hs _ => sw_s0l (sw_s1 (sw_s1 hs))) (fun ad Hm locs lsA hL k => lv_lmul hx hb hd k) h
theorem sw_o_land (X : sw_Cx p l R s mid args meth c m A dC dI tA b L k0 z0 xs E) (hd : decode (sw_by m) pc = .ok (.land, 1))
    (h : sw_l2 False st fun x y r => sw_G p l e R s mid args below meth c Q m A dC dI tA b L k0 z0 xs E (pc + 1) ls (.long (x &&& y) :: r) H) : sw_G p l e R s mid args below meth c Q m A dC dI tA b L k0 z0 xs E pc ls st H := by
  obtain ⟨⟨hx, hb, hml, hown⟩, hts, -⟩ := X
  obtain ⟨x, y, r, rfl, h⟩ := sw_l2_v h
  exact sw_G_st (fun hs _ => sw_s0l (sw_s1 (sw_s1 hs))) (fun ad Hm locs lsA hL k => lv_land hx hb hd k) h
theorem sw_o_lor (X : sw_Cx p l R s mid args meth c m A dC dI tA b L k0 z0 xs E) (hd : decode (sw_by m) pc = .ok (.lor, 1))
    (h : sw_l2 False st fun x y r => sw_G p l e R s mid args below meth c Q m A dC dI tA b L k0 z0 xs E (pc + 1) ls (.long (x ||| y) :: r) H) : sw_G p l e R s mid args below meth c Q m A dC dI tA b L k0 z0 xs E pc ls st H := by
  obtain ⟨⟨hx, hb, hml, hown⟩, hts, -⟩ := X
  obtain ⟨x, y, r, rfl, h⟩ := sw_l2_v h
  exact sw_G_st (fun hs _ => sw_s0l (sw_s1 (sw_s1 hs))) (fun ad Hm locs lsA hL k => lv_lor hx hb hd k) h
theorem sw_o_lxor (X : sw_Cx p l R s mid args meth c m A dC dI tA b L k0 z0 xs E) (hd : decode (sw_by m) pc = .ok (.lxor, 1))
    (h : sw_l2 False st fun x y r => sw_G p l e R s mid args below meth c Q m A dC dI tA b L k0 z0 xs E (pc + 1) ls (.long (x ^^^ y) :: r) H) : sw_G p l e R s mid args below meth c Q m A dC dI tA b L k0 z0 xs E pc ls st H := by
  obtain ⟨⟨hx, hb, hml, hown⟩, hts, -⟩ := X
  obtain ⟨x, y, r, rfl, h⟩ := sw_l2_v h
  exact sw_G_st (fun hs _ => sw_s0l (sw_s1 (sw_s1 hs))) (fun ad Hm locs lsA hL k => lv_lxor hx hb hd k) h
theorem sw_o_ldiv (X : sw_Cx p l R s mid args meth c m A dC dI tA b L k0 z0 xs E) (hd : decode (sw_by m) pc = .ok (.ldiv, 1))
    (h : sw_l2 False st fun x y r => if y = 0 then False else sw_G p l e R s mid args below meth c Q m A dC dI tA b L k0 z0 xs E (pc + 1) ls (.long (x / y) :: r) H) : sw_G p l e R s mid args below meth c Q m A dC dI tA b L k0 z0 xs E pc ls st H := by
  obtain ⟨⟨hx, hb, hml, hown⟩, hts, -⟩ := X
  obtain ⟨x, y, r, rfl, h⟩ := sw_l2_v h
  obtain ⟨hy, h⟩ := sw_nite_v h
  exact sw_G_st (fun hs _ => sw_s0l (sw_s1 (sw_s1 hs))) (fun ad Hm locs lsA hL k => lv_ldiv hx hb hd hy k) h
theorem sw_o_lcmp (X : sw_Cx p l R s mid args meth c m A dC dI tA b L k0 z0 xs E) (hd : decode (sw_by m) pc = .ok (.lcmp, 1))
    (h : sw_l2 False st fun x y r => sw_G p l e R s mid args below meth c Q m A dC dI tA b L k0 z0 xs E (pc + 1) ls (.int (lg_cmp x y) :: r) H) : sw_G p l e R s mid args below meth c Q m A dC dI tA b L k0 z0 xs E pc ls st H := by
  obtain ⟨⟨hx, hb, hml, hown⟩, hts, -⟩ := X
  obtain ⟨x, y, r, rfl, h⟩ := sw_l2_v h
  exact sw_G_st (fun hs _ => sw_s0i (sw_s1 (sw_s1 hs))) (fun ad Hm locs lsA hL k => W.lcmp hx hb hd k) h
theorem sw_o_lshl (X : sw_Cx p l R s mid args meth c m A dC dI tA b L k0 z0 xs E) (hd : decode (sw_by m) pc = .ok (.lshl, 1))
    (h : sw_li False st fun x y r => sw_G p l e R s mid args below meth c Q m A dC dI tA b L k0 z0 xs E (pc + 1) ls (.long (x <<< (y.toInt64 &&& 63)) :: r) H) : sw_G p l e R s mid args below meth c Q m A dC dI tA b L k0 z0 xs E pc ls st H := by
  obtain ⟨⟨hx, hb, hml, hown⟩, hts, -⟩ := X
  obtain ⟨x, y, r, rfl, h⟩ := sw_li_v h
  exact sw_G_st (fun hs _ => sw_s0l (sw_s1 (sw_s1 hs))) (fun ad Hm locs lsA hL k => lv_lshl hx hb hd rfl k) h
theorem sw_o_lshr (X : sw_Cx p l R s mid args meth c m A dC dI tA b L k0 z0 xs E) (hd : decode (sw_by m) pc = .ok (.lshr, 1))
    (h : sw_li False st fun x y r => sw_G p l e R s mid args below meth c Q m A dC dI tA b L k0 z0 xs E (pc + 1) ls (.long (x >>> (y.toInt64 &&& 63)) :: r) H) : sw_G p l e R s mid args below meth c Q m A dC dI tA b L k0 z0 xs E pc ls st H := by
  obtain ⟨⟨hx, hb, hml, hown⟩, hts, -⟩ := X
  obtain ⟨x, y, r, rfl, h⟩ := sw_li_v h
  exact sw_G_st (fun hs _ => sw_s0l (sw_s1 (sw_s1 hs))) (fun ad Hm locs lsA hL k => lv_lshr hx hb hd rfl k) h
theorem sw_o_i2l (X : sw_Cx p l R s mid args meth c m A dC dI tA b L k0 z0 xs E) (hd : decode (sw_by m) pc = .ok (.i2l, 1))
    (h : sw_i1 False st fun x r => sw_G p l e R s mid args below meth c Q m A dC dI tA b L k0 z0 xs E (pc + 1) ls (.long x.toInt64 :: r) H) : sw_G p l e R s mid args below meth c Q m A dC dI tA b L k0 z0 xs E pc ls st H := by
  obtain ⟨⟨hx, hb, hml, hown⟩, hts, -⟩ := X
  obtain ⟨x, r, rfl, h⟩ := sw_i1_v h
  exact sw_G_st (fun hs _ => sw_s0l (sw_s1 hs)) (fun ad Hm locs lsA hL k => lv_i2l hx hb hd rfl k) h
theorem sw_o_l2i (X : sw_Cx p l R s mid args meth c m A dC dI tA b L k0 z0 xs E) (hd : decode (sw_by m) pc = .ok (.l2i, 1))
    (h : sw_l1 False st fun x r => sw_G p l e R s mid args below meth c Q m A dC dI tA b L k0 z0 xs E (pc + 1) ls (.int x.toInt32 :: r) H) : sw_G p l e R s mid args below meth c Q m A dC dI tA b L k0 z0 xs E pc ls st H := by
  obtain ⟨⟨hx, hb, hml, hown⟩, hts, -⟩ := X
  obtain ⟨x, r, rfl, h⟩ := sw_l1_v h
  exact sw_G_st (fun hs _ => sw_s0i (sw_s1 hs)) (fun ad Hm locs lsA hL k => lv_l2i hx hb hd rfl k) h
theorem sw_o_dup (X : sw_Cx p l R s mid args meth c m A dC dI tA b L k0 z0 xs E) (hd : decode (sw_by m) pc = .ok (.dup, 1))
    (h : sw_r1 False st fun a r => sw_G p l e R s mid args below meth c Q m A dC dI tA b L k0 z0 xs E (pc + 1) ls (.ref a :: .ref a :: r) H) : sw_G p l e R s mid args below meth c Q m A dC dI tA b L k0 z0 xs E pc ls st H := by
  obtain ⟨⟨hx, hb, hml, hown⟩, hts, -⟩ := X
  obtain ⟨x, r, rfl, h⟩ := sw_r1_v h
  exact sw_G_st (fun hs _ => sw_sf_cons.mpr ⟨(sw_sf_cons.mp hs).1, hs⟩) (fun ad Hm locs lsA hL k => lv_dup hx hb hd rfl k) h
theorem sw_o_dup2 (X : sw_Cx p l R s mid args meth c m A dC dI tA b L k0 z0 xs E) (hd : decode (sw_by m) pc = .ok (.dup2, 1))
    (h : sw_ri False st fun a i r => sw_G p l e R s mid args below meth c Q m A dC dI tA b L k0 z0 xs E (pc + 1) ls (.int i :: .ref a :: .int i :: .ref a :: r) H) : sw_G p l e R s mid args below meth c Q m A dC dI tA b L k0 z0 xs E pc ls st H := by
  obtain ⟨⟨hx, hb, hml, hown⟩, hts, -⟩ := X
  obtain ⟨a, i, r, rfl, h⟩ := sw_ri_v h
  exact sw_G_st (fun hs _ => sw_s0i (sw_sf_cons.mpr ⟨(sw_sf_cons.mp (sw_s1 hs)).1, hs⟩)) (fun ad Hm locs lsA hL k => lv_dup2_11 hx hb hd rfl rfl k) h
theorem sw_o_pop (X : sw_Cx p l R s mid args meth c m A dC dI tA b L k0 z0 xs E) (hd : decode (sw_by m) pc = .ok (.pop, 1))
    (h : sw_i1 False st fun _ r => sw_G p l e R s mid args below meth c Q m A dC dI tA b L k0 z0 xs E (pc + 1) ls r H) : sw_G p l e R s mid args below meth c Q m A dC dI tA b L k0 z0 xs E pc ls st H := by
  obtain ⟨⟨hx, hb, hml, hown⟩, hts, -⟩ := X
  obtain ⟨x, r, rfl, h⟩ := sw_i1_v h
  exact sw_G_st (fun hs _ => sw_s1 hs) (fun ad Hm locs lsA hL k => lv_pop hx hb hd rfl k) h
theorem sw_o_goto (X : sw_Cx p l R s mid args meth c m A dC dI tA b L k0 z0 xs E) {o : Int} (hd : decode (sw_by m) pc = .ok (.goto o, 3))
    (h : sw_jp False pc o fun t => sw_G p l e R s mid args below meth c Q m A dC dI tA b L k0 z0 xs E t ls st H) : sw_G p l e R s mid args below meth c Q m A dC dI tA b L k0 z0 xs E pc ls st H := by
  obtain ⟨⟨hx, hb, hml, hown⟩, hts, -⟩ := X
  obtain ⟨t, ht, h⟩ := sw_jp_v h
  exact sw_G_st (fun hs _ => hs) (fun ad Hm locs lsA hL k => lv_goto hx hb hd ht k) h
theorem sw_o_iconst (X : sw_Cx p l R s mid args meth c m A dC dI tA b L k0 z0 xs E) {n : Int} (hd : decode (sw_by m) pc = .ok (.iconst n, 1))
    (h : sw_G p l e R s mid args below meth c Q m A dC dI tA b L k0 z0 xs E (pc + 1) ls (.int (Int32.ofInt n) :: st) H) : sw_G p l e R s mid args below meth c Q m A dC dI tA b L k0 z0 xs E pc ls st H := by
  obtain ⟨⟨hx, hb, hml, hown⟩, hts, -⟩ := X
  exact sw_G_st (fun hs _ => sw_s0i hs) (fun ad Hm locs lsA hL k => lv_iconst hx hb hd rfl k) h
theorem sw_o_bipush (X : sw_Cx p l R s mid args meth c m A dC dI tA b L k0 z0 xs E) {n : Int} (hn : -128 ≤ n ∧ n ≤ 127) (hd : decode (sw_by m) pc = .ok (.bipush n, 2))
    (h : sw_G p l e R s mid args below meth c Q m A dC dI tA b L k0 z0 xs E (pc + 2) ls (.int (Int32.ofInt n) :: st) H) : sw_G p l e R s mid args below meth c Q m A dC dI tA b L k0 z0 xs E pc ls st H := by
  obtain ⟨⟨hx, hb, hml, hown⟩, hts, -⟩ := X
  exact sw_G_st (fun hs _ => sw_s0i hs) (fun ad Hm locs lsA hL k => lv_bipush hx hb hd (sw_b8 hn.1 hn.2) k) h
theorem sw_o_sipush (X : sw_Cx p l R s mid args meth c m A dC dI tA b L k0 z0 xs E) {n : Int} (hn : -32768 ≤ n ∧ n ≤ 32767) (hd : decode (sw_by m) pc = .ok (.sipush n, 3))
    (h : sw_G p l e R s mid args below meth c Q m A dC dI tA b L k0 z0 xs E (pc + 3) ls (.int (Int32.ofInt n) :: st) H) : sw_G p l e R s mid args below meth c Q m A dC dI tA b L k0 z0 xs E pc ls st H := by
  obtain ⟨⟨hx, hb, hml, hown⟩, hts, -⟩ := X
  exact sw_G_st (fun hs _ => sw_s0i hs) (fun ad Hm locs lsA hL k => lv_sipush hx hb hd (sw_b16 hn.1 hn.2) k) h
theorem sw_o_lconst (X : sw_Cx p l R s mid args meth c m A dC dI tA b L k0 z0 xs E) {n : Fin 2} (hd : decode (sw_by m) pc = .ok (.lconst n, 1))
    (h : sw_G p l e R s mid args below meth c Q m A dC dI tA b L k0 z0 xs E (pc + 1) ls (.long (Int64.ofNat (n : Nat)) :: st) H) : sw_G p l e R s mid args below meth c Q m A dC dI tA b L k0 z0 xs E pc ls st H := by
  obtain ⟨⟨hx, hb, hml, hown⟩, hts, -⟩ := X
  exact sw_G_st (fun hs _ => sw_s0l hs) (fun ad Hm locs lsA hL k => lv_lconst hx hb hd rfl k) h
theorem sw_o_ldc (X : sw_Cx p l R s mid args meth c m A dC dI tA b L k0 z0 xs E) {i : Nat} {v : Int} (hv : sw_cst (sw_ow m) i = some v) (hd : decode (sw_by m) pc = .ok (.ldc i, 2))
    (h : sw_G p l e R s mid args below meth c Q m A dC dI tA b L k0 z0 xs E (pc + 2) ls (.int (Int32.ofInt v) :: st) H) : sw_G p l e R s mid args below meth c Q m A dC dI tA b L k0 z0 xs E pc ls st H := by
  obtain ⟨⟨hx, hb, hml, hown⟩, hts, -⟩ := X
  exact sw_G_st (fun hs _ => sw_s0i hs) (fun ad Hm locs lsA hL k => lv_ldc hx hb hown (hts _ (sw_PC_at hv)) hd k) h
theorem sw_o_ldcw (X : sw_Cx p l R s mid args meth c m A dC dI tA b L k0 z0 xs E) {i : Nat} {v : Int} (hv : sw_cst (sw_ow m) i = some v) (hd : decode (sw_by m) pc = .ok (.ldc_w i, 3))
    (h : sw_G p l e R s mid args below meth c Q m A dC dI tA b L k0 z0 xs E (pc + 3) ls (.int (Int32.ofInt v) :: st) H) : sw_G p l e R s mid args below meth c Q m A dC dI tA b L k0 z0 xs E pc ls st H := by
  obtain ⟨⟨hx, hb, hml, hown⟩, hts, -⟩ := X
  exact sw_G_st (fun hs _ => sw_s0i hs) (fun ad Hm locs lsA hL k => lv_ldcw hx hb hown (hts _ (sw_PC_at hv)) hd k) h
theorem sw_o_ldc2 (X : sw_Cx p l R s mid args meth c m A dC dI tA b L k0 z0 xs E) {i : Nat} {v : Int} (hv : sw_csl (sw_ow m) i = some v) (hd : decode (sw_by m) pc = .ok (.ldc2_w i, 3))
    (h : sw_G p l e R s mid args below meth c Q m A dC dI tA b L k0 z0 xs E (pc + 3) ls (.long (Int64.ofInt v) :: st) H) : sw_G p l e R s mid args below meth c Q m A dC dI tA b L k0 z0 xs E pc ls st H := by
  obtain ⟨⟨hx, hb, hml, hown⟩, hts, -⟩ := X
  exact sw_G_st (fun hs _ => sw_s0l hs) (fun ad Hm locs lsA hL k => lv_ldc2 hx hb hown (hts _ (sw_PL_at hv)) hd k) h
theorem sw_o_iload (X : sw_Cx p l R s mid args meth c m A dC dI tA b L k0 z0 xs E) {i : Nat} (hd : decode (sw_by m) pc = .ok (.iload i, 2))
    (h : sw_ldi False ls i fun x => sw_G p l e R s mid args below meth c Q m A dC dI tA b L k0 z0 xs E (pc + 2) ls (.int x :: st) H) : sw_G p l e R s mid args below meth c Q m A dC dI tA b L k0 z0 xs E pc ls st H := by
  obtain ⟨⟨hx, hb, hml, hown⟩, hts, -⟩ := X
  obtain ⟨x, hv, h⟩ := sw_ldi_v h
  exact sw_G_st (fun hs hl => sw_s0i hs) (fun ad Hm locs lsA hL k => lv_iload hx hb hd (sw_LR_at hL hv) k) h
theorem sw_o_iload_n (X : sw_Cx p l R s mid args meth c m A dC dI tA b L k0 z0 xs E) {i : Fin 4} (hd : decode (sw_by m) pc = .ok (.iload_n i, 1))
    (h : sw_ldi False ls (i : Nat) fun x => sw_G p l e R s mid args below meth c Q m A dC dI tA b L k0 z0 xs E (pc + 1) ls (.int x :: st) H) : sw_G p l e R s mid args below meth c Q m A dC dI tA b L k0 z0 xs E pc ls st H := by
  obtain ⟨⟨hx, hb, hml, hown⟩, hts, -⟩ := X
  obtain ⟨x, hv, h⟩ := sw_ldi_v h
  exact sw_G_st (fun hs hl => sw_s0i hs) (fun ad Hm locs lsA hL k => lv_iload_n hx hb hd rfl (sw_LR_at hL hv) k) h
theorem sw_o_lload (X : sw_Cx p l R s mid args meth c m A dC dI tA b L k0 z0 xs E) {i : Nat} (hd : decode (sw_by m) pc = .ok (.lload i, 2))
    (h : sw_ldl False ls i fun x => sw_G p l e R s mid args below meth c Q m A dC dI tA b L k0 z0 xs E (pc + 2) ls (.long x :: st) H) : sw_G p l e R s mid args below meth c Q m A dC dI tA b L k0 z0 xs E pc ls st H := by
  obtain ⟨⟨hx, hb, hml, hown⟩, hts, -⟩ := X
  obtain ⟨x, hv, h⟩ := sw_ldl_v h
  exact sw_G_st (fun hs hl => sw_s0l hs) (fun ad Hm locs lsA hL k => lv_lload hx hb hd (sw_LR_at hL hv) k) h
theorem sw_o_lload_n (X : sw_Cx p l R s mid args meth c m A dC dI tA b L k0 z0 xs E) {i : Fin 4} (hd : decode (sw_by m) pc = .ok (.lload_n i, 1))
    (h : sw_ldl False ls (i : Nat) fun x => sw_G p l e R s mid args below meth c Q m A dC dI tA b L k0 z0 xs E (pc + 1) ls (.long x :: st) H) : sw_G p l e R s mid args below meth c Q m A dC dI tA b L k0 z0 xs E pc ls st H := by
  obtain ⟨⟨hx, hb, hml, hown⟩, hts, -⟩ := X
  obtain ⟨x, hv, h⟩ := sw_ldl_v h
  exact sw_G_st (fun hs hl => sw_s0l hs) (fun ad Hm locs lsA hL k => lv_lload_n hx hb hd rfl (sw_LR_at hL hv) k) h
theorem sw_o_aload (X : sw_Cx p l R s mid args meth c m A dC dI tA b L k0 z0 xs E) {i : Nat} (hd : decode (sw_by m) pc = .ok (.aload i, 2))
    (h : sw_lda False ls i fun x => sw_G p l e R s mid args below meth c Q m A dC dI tA b L k0 z0 xs E (pc + 2) ls (.ref x :: st) H) : sw_G p l e R s mid args below meth c Q m A dC dI tA b L k0 z0 xs E pc ls st H := by
  obtain ⟨⟨hx, hb, hml, hown⟩, hts, -⟩ := X
  obtain ⟨x, hv, h⟩ := sw_lda_v h
  exact sw_G_st (fun hs hl => sw_sf_cons.mpr ⟨hl _ (List.mem_of_getElem? hv), hs⟩) (fun ad Hm locs lsA hL k => lv_aload hx hb hd (sw_LR_at hL hv) k) h
theorem sw_o_aload_n (X : sw_Cx p l R s mid args meth c m A dC dI tA b L k0 z0 xs E) {i : Fin 4} (hd : decode (sw_by m) pc = .ok (.aload_n i, 1))
    (h : sw_lda False ls (i : Nat) fun x => sw_G p l e R s mid args below meth c Q m A dC dI tA b L k0 z0 xs E (pc + 1) ls (.ref x :: st) H) : sw_G p l e R s mid args below meth c Q m A dC dI tA b L k0 z0 xs E pc ls st H := by
  obtain ⟨⟨hx, hb, hml, hown⟩, hts, -⟩ := X
  obtain ⟨x, hv, h⟩ := sw_lda_v h
  exact sw_G_st (fun hs hl => sw_sf_cons.mpr ⟨hl _ (List.mem_of_getElem? hv), hs⟩) (fun ad Hm locs lsA hL k => lv_aload_n hx hb hd rfl (sw_LR_at hL hv) k) h
theorem sw_o_istore (X : sw_Cx p l R s mid args meth c m A dC dI tA b L k0 z0 xs E) {i : Nat} (hd : decode (sw_by m) pc = .ok (.istore i, 2))
    (h : sw_has1 False ls i (sw_i1 False st fun x r => sw_G p l e R s mid args below meth c Q m A dC dI tA b L k0 z0 xs E (pc + 2) (sw_set1 ls i (.int x)) r H)) : sw_G p l e R s mid args below meth c Q m A dC dI tA b L k0 z0 xs E pc ls st H := by
  obtain ⟨⟨hx, hb, hml, hown⟩, hts, -⟩ := X
  obtain ⟨hi, h⟩ := sw_has1_v h
  obtain ⟨x, r, rfl, h⟩ := sw_i1_v h
  exact sw_G_ls (sw_set1_len _ _ _) (fun hs hl => ⟨sw_s1 hs, sw_set1_rf hl (sw_sf_cons.mp hs).1⟩) (fun ad Hm locs lsA hn hL k => lv_istore hx hb hd hL (hn ▸ hi) rfl fun lsB hB => k lsB (sw_LR_set1 hB)) h
theorem sw_o_istore_n (X : sw_Cx p l R s mid args meth c m A dC dI tA b L k0 z0 xs E) {i : Fin 4} (hd : decode (sw_by m) pc = .ok (.istore_n i, 1))
    (h : sw_has1 False ls (i : Nat) (sw_i1 False st fun x r => sw_G p l e R s mid args below meth c Q m A dC dI tA b L k0 z0 xs E (pc + 1) (sw_set1 ls (i : Nat) (.int x)) r H)) : sw_G p l e R s mid args below meth c Q m A dC dI tA b L k0 z0 xs E pc ls st H := by
  obtain ⟨⟨hx, hb, hml, hown⟩, hts, -⟩ := X
  obtain ⟨hi, h⟩ := sw_has1_v h
  obtain ⟨x, r, rfl, h⟩ := sw_i1_v h
  exact sw_G_ls (sw_set1_len _ _ _) (fun hs hl => ⟨sw_s1 hs, sw_set1_rf hl (sw_sf_cons.mp hs).1⟩) (fun ad Hm locs lsA hn hL k => lv_istore_n hx hb hd rfl hL (hn ▸ hi) rfl fun lsB hB => k lsB (sw_LR_set1 hB)) h
theorem sw_o_astore (X : sw_Cx p l R s mid args meth c m A dC dI tA b L k0 z0 xs E) {i : Nat} (hd : decode (sw_by m) pc = .ok (.astore i, 2))
    (h : sw_has1 False ls i (sw_r1 False st fun x r => sw_G p l e R s mid args below meth c Q m A dC dI tA b L k0 z0 xs E (pc + 2) (sw_set1 ls i (.ref x)) r H)) : sw_G p l e R s mid args below meth c Q m A dC dI tA b L k0 z0 xs E pc ls st H := by
  obtain ⟨⟨hx, hb, hml, hown⟩, hts, -⟩ := X
  obtain ⟨hi, h⟩ := sw_has1_v h
  obtain ⟨x, r, rfl, h⟩ := sw_r1_v h
  exact sw_G_ls (sw_set1_len _ _ _) (fun hs hl => ⟨sw_s1 hs, sw_set1_rf hl (sw_sf_cons.mp hs).1⟩) (fun ad Hm locs lsA hn hL k => lv_astore hx hb hd hL (hn ▸ hi) rfl fun lsB hB => k lsB (sw_LR_set1 hB)) h
theorem sw_o_astore_n (X : sw_Cx p l R s mid args meth c m A dC dI tA b L k0 z0 xs E) {i : Fin 4} (hd : decode (sw_by m) pc = .ok (.astore_n i, 1))
    (h : sw_has1 False ls (i : Nat) (sw_r1 False st fun x r => sw_G p l e R s mid args below meth c Q m A dC dI tA b L k0 z0 xs E (pc + 1) (sw_set1 ls (i : Nat) (.ref x)) r H)) : sw_G p l e R s mid args below meth c Q m A dC dI tA b L k0 z0 xs E pc ls st H := by
  obtain ⟨⟨hx, hb, hml, hown⟩, hts, -⟩ := X
  obtain ⟨hi, h⟩ := sw_has1_v h
  obtain ⟨x, r, rfl, h⟩ := sw_r1_v h
  exact sw_G_ls (sw_set1_len _ _ _) (fun hs hl => ⟨sw_s1 hs, sw_set1_rf hl (sw_sf_cons.mp hs).1⟩) (fun ad Hm locs lsA hn hL k => lv_astore_n hx hb hd rfl hL (hn ▸ hi) rfl fun lsB hB => k lsB (sw_LR_set1 hB)) h
theorem sw_o_lstore (X : sw_Cx p l R s mid args meth c m A dC dI tA b L k0 z0 xs E) {i : Nat} (hd : decode (sw_by m) pc = .ok (.lstore i, 2))
    (h : sw_has1 False ls (i + 1) (sw_l1 False st fun x r => sw_G p l e R s mid args below meth c Q m A dC dI tA b L k0 z0 xs E (pc + 2) (sw_set2 ls i (.long x)) r H)) : sw_G p l e R s mid args below meth c Q m A dC dI tA b L k0 z0 xs E pc ls st H := by
  obtain ⟨⟨hx, hb, hml, hown⟩, hts, -⟩ := X
  obtain ⟨hi, h⟩ := sw_has1_v h
  obtain ⟨x, r, rfl, h⟩ := sw_l1_v h
  exact sw_G_ls (sw_set2_len _ _ _) (fun hs hl => ⟨sw_s1 hs, sw_set2_rf hl (sw_sf_cons.mp hs).1⟩) (fun ad Hm locs lsA hn hL k => lv_lstore hx hb hd hL (hn ▸ hi) rfl fun lsB hB => k lsB (sw_LR_set2 hB)) h
theorem sw_o_lstore_n (X : sw_Cx p l R s mid args meth c m A dC dI tA b L k0 z0 xs E) {i : Fin 4} (hd : decode (sw_by m) pc = .ok (.lstore_n i, 1))
    (h : sw_has1 False ls ((i : Nat) + 1) (sw_l1 False st fun x r => sw_G p l e R s mid args below meth c Q m A dC dI tA b L k0 z0 xs E (pc + 1) (sw_set2 ls (i : Nat) (.long x)) r H)) : sw_G p l e R s mid args below meth c Q m A dC dI tA b L k0 z0 xs E pc ls st H := by
  obtain ⟨⟨hx, hb, hml, hown⟩, hts, -⟩ := X
  obtain ⟨hi, h⟩ := sw_has1_v h
  obtain ⟨x, r, rfl, h⟩ := sw_l1_v h
  exact sw_G_ls (sw_set2_len _ _ _) (fun hs hl => ⟨sw_s1 hs, sw_set2_rf hl (sw_sf_cons.mp hs).1⟩) (fun ad Hm locs lsA hn hL k => lv_lstore_n hx hb hd rfl hL (hn ▸ hi) rfl fun lsB hB => k lsB (sw_LR_set2 hB)) h
theorem sw_o_iinc (X : sw_Cx p l R s mid args meth c m A dC dI tA b L k0 z0 xs E) {i : Nat} {n : Int} (hd : decode (sw_by m) pc = .ok (.iinc i n, 3))
    (h : sw_ldi False ls i fun x => sw_G p l e R s mid args below meth c Q m A dC dI tA b L k0 z0 xs E (pc + 3) (sw_set1 ls i (.int (x + Int32.ofInt n))) st H) : sw_G p l e R s mid args below meth c Q m A dC dI tA b L k0 z0 xs E pc ls st H := by
  obtain ⟨⟨hx, hb, hml, hown⟩, hts, -⟩ := X
  obtain ⟨x, hv, h⟩ := sw_ldi_v h
  have hi : i < ls.length := (List.getElem?_eq_some_iff.mp hv).1
  refine sw_G_ls (sw_set1_len _ _ _) (fun hs hl => ⟨hs, sw_set1_rf (v := .int (x + Int32.ofInt n)) hl trivial⟩) (fun ad Hm locs lsA hn hL k => ?_) h
  obtain ⟨j, hj⟩ := List.getElem?_of_mem ((sw_ll_mem (ad := ad) ls 0 i (.int x)).mpr ⟨.int x, Nat.zero_le _, hv, rfl⟩)
  exact lv_iinc hx hb hd hL hj rfl (hn ▸ hi) rfl fun lsB hB => k lsB (sw_LR_set1 hB)
end sw_Lv
