abbrev sw_LS : Type := List (Option Value)
abbrev sw_Ce : Type := (Nat × List Value) ⊕ (Nat × Nat × (Nat → Int32))
abbrev sw_HS : Type := (Nat → sw_Ce) × Nat × Nat × Nat
abbrev sw_Ot : Type := Option (Option Value)
def sw_up (h : Nat → sw_Ce) (a : Nat) (c : sw_Ce) : Nat → sw_Ce := fun j => if j = a then c else h j
def sw_wr (H : sw_HS) (a : Nat) (c : sw_Ce) : sw_HS := (sw_up H.1 a c, H.2)
def sw_mk (H : sw_HS) (c : sw_Ce) (len : Nat) : sw_HS := (sw_up H.1 H.2.1 c, H.2.1 + 1, H.2.2.1 + 1, H.2.2.2 + len)
def sw_ex (H : sw_HS) : sw_HS := (H.1, H.2.1, H.2.2.1 + 1, H.2.2.2 + 6)
def sw_set1 (ls : sw_LS) (i : Nat) (v : Value) : sw_LS := match i with
  | 0 => ls.set 0 (some v)
  | j + 1 => match ls[j]? with
    | some (some (.long _)) => (ls.set j none).set (j + 1) (some v)
    | some (some (.double _)) => (ls.set j none).set (j + 1) (some v)
    | _ => ls.set (j + 1) (some v)
def sw_set2 (ls : sw_LS) (i : Nat) (v : Value) : sw_LS := (sw_set1 ls i v).set (i + 1) none
def sw_no (ls : sw_LS) : sw_LS := ls.map fun _ => none
section sw_C
variable {ρ : Type}
def sw_jp (fl : ρ) (pc : Nat) (off : Int) (K : Nat → ρ) : ρ := match (pc : Int) + off with
  | .ofNat t => K t
  | .negSucc _ => fl
def sw_ldi (fl : ρ) (ls : sw_LS) (k : Nat) (K : Int32 → ρ) : ρ := match ls[k]? with
  | some (some (.int x)) => K x
  | _ => fl
def sw_ldl (fl : ρ) (ls : sw_LS) (k : Nat) (K : Int64 → ρ) : ρ := match ls[k]? with
  | some (some (.long x)) => K x
  | _ => fl
def sw_lda (fl : ρ) (ls : sw_LS) (k : Nat) (K : Nat → ρ) : ρ := match ls[k]? with
  | some (some (.ref x)) => K x
  | _ => fl
def sw_has1 (fl : ρ) (ls : sw_LS) (k : Nat) (K : ρ) : ρ := match ls[k]? with
  | some _ => K
  | none => fl
def sw_i1 (fl : ρ) (st : List Value) (K : Int32 → List Value → ρ) : ρ := match st with
  | .int x :: r => K x r
  | _ => fl
def sw_i2 (fl : ρ) (st : List Value) (K : Int32 → Int32 → List Value → ρ) : ρ := match st with
  | .int y :: .int x :: r => K x y r
  | _ => fl
def sw_l1 (fl : ρ) (st : List Value) (K : Int64 → List Value → ρ) : ρ := match st with
  | .long x :: r => K x r
  | _ => fl
def sw_l2 (fl : ρ) (st : List Value) (K : Int64 → Int64 → List Value → ρ) : ρ := match st with
  | .long y :: .long x :: r => K x y r
  | _ => fl
def sw_li (fl : ρ) (st : List Value) (K : Int64 → Int32 → List Value → ρ) : ρ := match st with
  | .int y :: .long x :: r => K x y r
  | _ => fl
def sw_r1 (fl : ρ) (st : List Value) (K : Nat → List Value → ρ) : ρ := match st with
  | .ref a :: r => K a r
  | _ => fl
def sw_ri (fl : ρ) (st : List Value) (K : Nat → Int32 → List Value → ρ) : ρ := match st with
  | .int i :: .ref a :: r => K a i r
  | _ => fl
def sw_rix (fl : ρ) (st : List Value) (K : Nat → Int32 → Int32 → List Value → ρ) : ρ := match st with
  | .int x :: .int i :: .ref a :: r => K a i x r
  | _ => fl
def sw_rv (fl : ρ) (st : List Value) (K : Nat → Value → List Value → ρ) : ρ := match st with
  | v :: .ref a :: r => K a v r
  | _ => fl
def sw_ald (fl : ρ) (H : sw_HS) (t a : Nat) (i : Int32) (K : Int32 → ρ) : ρ := match H.1 a with
  | .inr c => if c.1 = t ∧ 0 ≤ i.toInt ∧ i.toInt < c.2.1 then K (c.2.2 i.toNatClampNeg) else fl
  | .inl _ => fl
def sw_ast (fl : ρ) (H : sw_HS) (t a : Nat) (i x : Int32) (K : sw_HS → ρ) : ρ := match H.1 a with
  | .inr c => if (c.1 = t ∧ ¬ a = 0) ∧ 0 ≤ i.toInt ∧ i.toInt < c.2.1 then K (sw_wr H a (.inr (t, c.2.1, upd c.2.2 i.toNatClampNeg x))) else fl
  | .inl _ => fl
def sw_aln (fl : ρ) (H : sw_HS) (a : Nat) (K : Int32 → ρ) : ρ := match H.1 a with
  | .inr c => if c.1 < 3 then K (Int32.ofNat c.2.1) else fl
  | .inl _ => fl
def sw_gf (fl : ρ) (H : sw_HS) (e : Option (Nat × Nat × Nat)) (a : Nat) (K : Value → ρ) : ρ := match e with
  | none => fl
  | some e => match H.1 a with
    | .inl c => if c.1 = e.1 then (match c.2[e.2.1]? with
      | some v => K v
      | none => fl) else fl
    | .inr _ => fl
def sw_okv (kd ty : Nat) (v : Value) : Bool := match ty, v with
  | 0, .int _ => true
  | 1, .ref _ => kd == 2
  | 2, .int x => x == 0
  | 4, .ref _ => true
  | _, _ => false
def sw_pf (fl : ρ) (H : sw_HS) (e : Option (Nat × Nat × Nat)) (kd a : Nat) (v : Value) (K : sw_HS → ρ) : ρ := match e with
  | none => fl
  | some e => match H.1 a with
    | .inl c => if c.1 = e.1 ∧ e.2.1 < c.2.length ∧ sw_okv kd e.2.2 v = true then K (sw_wr H a (.inl (c.1, c.2.set e.2.1 v))) else fl
    | .inr _ => fl
def sw_pop (fl : ρ) : Nat → List Value → List Value → (List Value → List Value → ρ) → ρ
  | 0, st, acc, K => K acc st
  | _ + 1, [], _, _ => fl
  | n + 1, v :: st, acc, K => sw_pop fl n st (v :: acc) K
def sw_cat (st : List Value) : Nat := (st.map fun v => v.category).sum
def sw_ck (fl : ρ) (st : List Value) (K : ρ) : ρ := if sw_cat st ≤ 8 then K else fl
def sw_rc (fl : ρ) (H : sw_HS) (e : Option Nat) (args : List Value) (K : ρ) : ρ := match e with
  | none => K
  | some ci => match args with
    | .ref a :: _ => (match H.1 a with
      | .inl c => if c.1 = ci then K else fl
      | .inr _ => fl)
    | _ => fl
def sw_rr (fl : ρ) (args : List Value) (K : ρ) : ρ := match args with
  | .ref _ :: _ => K
  | _ => fl
def sw_nw (fl : ρ) (H : sw_HS) (t : Nat) (n : Int32) (K : sw_HS → ρ) : ρ := if 0 ≤ n.toInt ∧ n.toInt ≤ 1000 then K (sw_mk H (.inr (t, n.toNatClampNeg, fun _ => 0)) n.toNatClampNeg) else fl
def sw_cm (c : ClassFile.Cond) (x y : Int32) (a b : ρ) : ρ := match c with
  | .eq => if x = y then a else b
  | .ne => if ¬ x = y then a else b
  | .lt => if x < y then a else b
  | .ge => if y ≤ x then a else b
  | .gt => if y < x then a else b
  | .le => if x ≤ y then a else b
def sw_ts (fl : ρ) (pc : Nat) (x : Int32) (d lo hi : Int) (os : Array Int) (K : Nat → ρ) : ρ := if x.toInt < lo ∨ hi < x.toInt then sw_jp fl pc d K else (match os[(x.toInt - lo).toNat]? with
  | some o => sw_jp fl pc o K
  | none => fl)
end sw_C
def sw_ln (ins : Instr) (len : Nat) : Bool := match ins with
  | .iconst _ | .lconst _ | .iload_n _ | .lload_n _ | .aload_n _ | .istore_n _ | .lstore_n _ | .astore_n _ => len == 1
  | .bipush n => len == 2 && decide (-128 ≤ n ∧ n ≤ 127)
  | .sipush n => len == 3 && decide (-32768 ≤ n ∧ n ≤ 32767)
  | .iload _ | .lload _ | .aload _ | .istore _ | .lstore _ | .astore _ | .ldc _ | .newarray _ => len == 2
  | .iinc _ _ | .ldc_w _ | .ldc2_w _ | .ifCond _ _ | .if_icmp _ _ | .goto _ | .getfield _ | .putfield _ | .getstatic _ | .new _ | .invokestatic _ | .invokevirtual _ | .invokespecial _ => len == 3
  | .tableswitch _ _ _ _ => true
  | _ => len == 1
section sw_SXs
variable {ρ : Type}
def sw_SX (fl : ρ) (K : Nat → sw_LS → List Value → sw_HS → ρ) (C : Nat → List Value → List Value → sw_HS → ρ) (Rt : Option Value → sw_HS → ρ) (Th : sw_HS → ρ) (m pc : Nat) (ins : Instr) (ls : sw_LS) (st : List Value) (H : sw_HS) : ρ := match ins with
  | .iconst n => K (pc + 1) ls (.int (Int32.ofInt n) :: st) H
  | .bipush n => K (pc + 2) ls (.int (Int32.ofInt n) :: st) H
  | .sipush n => K (pc + 3) ls (.int (Int32.ofInt n) :: st) H
  | .lconst n => K (pc + 1) ls (.long (Int64.ofNat (n : Nat)) :: st) H
  | .ldc i => (match sw_cst (sw_ow m) i with
    | some v => K (pc + 2) ls (.int (Int32.ofInt v) :: st) H
    | none => fl)
  | .ldc_w i => (match sw_cst (sw_ow m) i with
    | some v => K (pc + 3) ls (.int (Int32.ofInt v) :: st) H
    | none => fl)
  | .ldc2_w i => (match sw_csl (sw_ow m) i with
    | some v => K (pc + 3) ls (.long (Int64.ofInt v) :: st) H
    | none => fl)
  | .iload k => sw_ldi fl ls k fun x => K (pc + 2) ls (.int x :: st) H
  | .iload_n k => sw_ldi fl ls k fun x => K (pc + 1) ls (.int x :: st) H
  | .lload k => sw_ldl fl ls k fun x => K (pc + 2) ls (.long x :: st) H
  | .lload_n k => sw_ldl fl ls k fun x => K (pc + 1) ls (.long x :: st) H
  | .aload k => sw_lda fl ls k fun x => K (pc + 2) ls (.ref x :: st) H
  | .aload_n k => sw_lda fl ls k fun x => K (pc + 1) ls (.ref x :: st) H
  | .istore k => sw_has1 fl ls k (sw_i1 fl st fun x r => K (pc + 2) (sw_set1 ls k (.int x)) r H)
  | .istore_n k => sw_has1 fl ls k (sw_i1 fl st fun x r => K (pc + 1) (sw_set1 ls k (.int x)) r H)
  | .lstore k => sw_has1 fl ls (k + 1) (sw_l1 fl st fun x r => K (pc + 2) (sw_set2 ls k (.long x)) r H)
  | .lstore_n k => sw_has1 fl ls (k + 1) (sw_l1 fl st fun x r => K (pc + 1) (sw_set2 ls k (.long x)) r H)
  | .astore k => sw_has1 fl ls k (sw_r1 fl st fun x r => K (pc + 2) (sw_set1 ls k (.ref x)) r H)
  | .astore_n k => sw_has1 fl ls k (sw_r1 fl st fun x r => K (pc + 1) (sw_set1 ls k (.ref x)) r H)
  | .iinc k n => sw_ldi fl ls k fun x => K (pc + 3) (sw_set1 ls k (.int (x + Int32.ofInt n))) st H
  | .iadd => sw_i2 fl st fun x y r => K (pc + 1) ls (.int (x + y) :: r) H
  | .isub => sw_i2 fl st fun x y r => K (pc + 1) ls (.int (x - y) :: r) H
  | .imul => sw_i2 fl st fun x y r => K (pc + 1) ls (.int (x * y) :: r) H
  | .iand => sw_i2 fl st fun x y r => K (pc + 1) ls (.int (x &&& y) :: r) H
  | .ior => sw_i2 fl st fun x y r => K (pc + 1) ls (.int (x ||| y) :: r) H
  | .ixor => sw_i2 fl st fun x y r => K (pc + 1) ls (.int (x ^^^ y) :: r) H
  | .idiv => sw_i2 fl st fun x y r => if y = 0 then fl else K (pc + 1) ls (.int (x / y) :: r) H
  | .irem => sw_i2 fl st fun x y r => if y = 0 then fl else K (pc + 1) ls (.int (x - x / y * y) :: r) H
  | .ishl => sw_i2 fl st fun x y r => K (pc + 1) ls (.int (x <<< (y &&& 31)) :: r) H
  | .ishr => sw_i2 fl st fun x y r => K (pc + 1) ls (.int (x >>> (y &&& 31)) :: r) H
  | .ladd => sw_l2 fl st fun x y r => K (pc + 1) ls (.long (x + y) :: r) H
  | .lsub => sw_l2 fl st fun x y r => K (pc + 1) ls (.long (x - y) :: r) H
  | .lmul => sw_l2 fl st fun x y r => K (pc + 1) ls (.long (x * y) :: r) H
  | .land => sw_l2 fl st fun x y r => K (pc + 1) ls (.long (x &&& y) :: r) H
  | .lor => sw_l2 fl st fun x y r => K (pc + 1) ls (.long (x ||| y) :: r) H
  | .lxor => sw_l2 fl st fun x y r => K (pc + 1) ls (.long (x ^^^ y) :: r) H
  | .ldiv => sw_l2 fl st fun x y r => if y = 0 then fl else K (pc + 1) ls (.long (x / y) :: r) H
  | .lcmp => sw_l2 fl st fun x y r => K (pc + 1) ls (.int (lg_cmp x y) :: r) H
  | .lshl => sw_li fl st fun x y r => K (pc + 1) ls (.long (x <<< (y.toInt64 &&& 63)) :: r) H
  | .lshr => sw_li fl st fun x y r => K (pc + 1) ls (.long (x >>> (y.toInt64 &&& 63)) :: r) H
  | .i2l => sw_i1 fl st fun x r => K (pc + 1) ls (.long x.toInt64 :: r) H
  | .l2i => sw_l1 fl st fun x r => K (pc + 1) ls (.int x.toInt32 :: r) H
  | .dup => sw_r1 fl st fun a r => K (pc + 1) ls (.ref a :: .ref a :: r) H
  | .dup2 => sw_ri fl st fun a i r => K (pc + 1) ls (.int i :: .ref a :: .int i :: .ref a :: r) H
  | .pop => sw_i1 fl st fun _ r => K (pc + 1) ls r H
  | .ifCond c o => sw_i1 fl st fun x r => sw_jp fl pc o fun t => sw_cm c x 0 (K t ls r H) (K (pc + 3) ls r H)
  | .if_icmp c o => sw_i2 fl st fun x y r => sw_jp fl pc o fun t => sw_cm c x y (K t ls r H) (K (pc + 3) ls r H)
  | .goto o => sw_jp fl pc o fun t => K t ls st H
  | .tableswitch d lo hi os => sw_i1 fl st fun x r => sw_ts fl pc x d lo hi os fun t => K t ls r H
  | .iaload => sw_ri fl st fun a i r => sw_ald fl H 0 a i fun x => K (pc + 1) ls (.int x :: r) H
  | .baload => sw_ri fl st fun a i r => sw_ald fl H 1 a i fun x => K (pc + 1) ls (.int x :: r) H
  | .iastore => sw_rix fl st fun a i x r => sw_ast fl H 0 a i x fun H1 => K (pc + 1) ls r H1
  | .bastore => sw_rix fl st fun a i x r => sw_ast fl H 1 a i (x &&& 1) fun H1 => K (pc + 1) ls r H1
  | .arraylength => sw_r1 fl st fun a r => sw_aln fl H a fun x => K (pc + 1) ls (.int x :: r) H
  | .getfield i => sw_r1 fl st fun a r => sw_gf fl H (sw_fld (sw_ow m) i) a fun v => K (pc + 3) ls (v :: r) H
  | .putfield i => sw_rv fl st fun a v r => sw_pf fl H (sw_fld (sw_ow m) i) (sw_kd m) a v fun H1 => K (pc + 3) ls r H1
  | .getstatic i => if m = sw_sb ∧ i = 18 then K (pc + 3) ls (.int 1 :: st) H else fl
  | .new i => (match sw_new (sw_ow m) i with
    | some ci => K (pc + 3) ls (.ref H.2.1 :: st) (sw_mk H (.inl (ci, sw_df ci)) (sw_df ci).length)
    | none => if m = sw_nn ∧ pc = 12 ∧ st = [] then Th (sw_ex H) else fl)
  | .newarray t => sw_i1 fl st fun n r => (match t with
    | .int => sw_nw fl H 0 n fun H1 => K (pc + 2) ls (.ref H.2.1 :: r) H1
    | .boolean => sw_nw fl H 1 n fun H1 => K (pc + 2) ls (.ref H.2.1 :: r) H1
    | .byte => sw_nw fl H 2 n fun H1 => K (pc + 2) ls (.ref H.2.1 :: r) H1
    | _ => fl)
  | .invokestatic i => (match sw_inv (sw_ow m) i with
    | some y => if sw_kd y = 0 ∧ sw_rm m y = true then sw_pop fl (sw_na y) st [] fun args r => sw_ck fl r (C y args r H) else (if y = 1001 ∧ 1 ≤ sw_fr m ∧ 21 ≤ sw_lo m then sw_i2 fl st fun x y r => sw_ck fl r (K (pc + 3) ls (.int (if x < y then y else x) :: r) H) else fl)
    | none => fl)
  | .invokevirtual i => (match sw_inv (sw_ow m) i with
    | some y => if sw_kd y = 1 ∧ sw_rm m y = true then sw_pop fl (sw_na y) st [] fun args r => sw_ck fl r (sw_rc fl H (sw_rx y) args (C y args r H)) else fl
    | none => fl)
  | .invokespecial i => (match sw_inv (sw_ow m) i with
    | some y => if sw_kd y = 2 ∧ sw_rm m y = true then sw_pop fl (sw_na y) st [] fun args r => sw_ck fl r (sw_rr fl args (C y args r H)) else (if y = 1000 ∧ 1 ≤ sw_fr m ∧ 20 ≤ sw_lo m then sw_r1 fl st fun _ r => sw_ck fl r (K (pc + 3) ls r H) else fl)
    | none => fl)
  | .ireturn => (match st with
    | [.int x] => if sw_rk m = 1 ∨ sw_rk m = 2 ∧ (x = 0 ∨ x = 1) then Rt (some (.int x)) H else fl
    | _ => fl)
  | .lreturn => (match st with
    | [.long x] => if sw_rk m = 3 then Rt (some (.long x)) H else fl
    | _ => fl)
  | .return_ => (match st with
    | [] => if sw_rk m = 0 then Rt none H else fl
    | _ => fl)
  | _ => fl
end sw_SXs
/-- the locals with which a body begins -/
def sw_el : List Value → sw_LS
  | [] => []
  | v :: r => match v with
    | .long x => some (.long x) :: none :: sw_el r
    | .double x => some (.double x) :: none :: sw_el r
    | v => some v :: sw_el r
def sw_en (y : Nat) (args : List Value) : sw_LS := sw_el args ++ List.replicate (sw_ml y - (sw_el args).length) none
/-- the machine: fuel, method, place, locals, operands, heap -/
def sw_X : Nat → Nat → Nat → sw_LS → List Value → sw_HS → Option (sw_Ot × sw_HS)
  | 0, _, _, _, _, _ => none
  | n + 1, m, pc, ls, st, H => match decode (sw_by m) pc with
    | .error _ => none
    | .ok (ins, len) => if sw_ln ins len = true then sw_SX none (fun pc ls st H => sw_X n m pc ls st H)
        (fun y args r H => if (sw_el args).length ≤ sw_ml y then (match sw_X n y 0 (sw_en y args) [] H with
          | none => none
          | some (some v, H1) => sw_X n m (pc + 3) ls (v.toList ++ r) H1
          | some (none, H1) => match sw_hd m pc with
            | some q => sw_X n m q (sw_no ls) [] H1
            | none => some (none, H1)) else none)
        (fun v H => some (some v, H)) (fun H => some (none, H)) m pc ins ls st H else none
def sw_A (m pc : Nat) (ls : sw_LS) (st : List Value) (H : sw_HS) (Q : sw_Ot → sw_HS → Prop) : Prop := ∃ (n : Nat) (o : sw_Ot) (H1 : sw_HS), sw_X n m pc ls st H = some (o, H1) ∧ Q o H1
def sw_M (y : Nat) (args : List Value) (H : sw_HS) (Q : sw_Ot → sw_HS → Prop) : Prop := (sw_el args).length ≤ sw_ml y ∧ sw_A y 0 (sw_en y args) [] H Q
/-- behind a call -/
def sw_K (m pc : Nat) (hd : Option Nat) (ls : sw_LS) (r : List Value) (Q : sw_Ot → sw_HS → Prop) : sw_Ot → sw_HS → Prop := fun o H1 => match o with
  | some v => sw_A m pc ls (v.toList ++ r) H1 Q
  | none => match hd with
    | some q => sw_A m q (sw_no ls) [] H1 Q
    | none => Q none H1
