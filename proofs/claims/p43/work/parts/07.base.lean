/-! ints of the machine as integers; the abstract machine's pieces on them -/
theorem I_T {x : Int} (h1 : -2147483648 ≤ x) (h2 : x < 2147483648) : (Int32.ofInt x).toInt = x := by
  rw [Int32.toInt_ofInt, Int.bmod_def]
  simp only [Int32.size]
  omega
theorem I_of (x : Int32) : Int32.ofInt x.toInt = x := Int32.ofInt_toInt x
theorem I_b (x : Int32) : -2147483648 ≤ x.toInt ∧ x.toInt < 2147483648 := ⟨x.le_toInt, x.toInt_lt⟩
theorem I_eq {a b : Int} (h1 : -2147483648 ≤ a) (h2 : a < 2147483648) (h3 : -2147483648 ≤ b) (h4 : b < 2147483648) : (Int32.ofInt a = Int32.ofInt b) ↔ a = b := by
  constructor
  · intro h
    have h5 := congrArg Int32.toInt h
    rwa [I_T h1 h2, I_T h3 h4] at h5
  · intro h; rw [h]
theorem I_lt {a b : Int} (h1 : -2147483648 ≤ a) (h2 : a < 2147483648) (h3 : -2147483648 ≤ b) (h4 : b < 2147483648) : (Int32.ofInt a < Int32.ofInt b) ↔ a < b := by
  rw [Int32.lt_iff_toInt_lt, I_T h1 h2, I_T h3 h4]
theorem I_le {a b : Int} (h1 : -2147483648 ≤ a) (h2 : a < 2147483648) (h3 : -2147483648 ≤ b) (h4 : b < 2147483648) : (Int32.ofInt a ≤ Int32.ofInt b) ↔ a ≤ b := by
  rw [Int32.le_iff_toInt_le, I_T h1 h2, I_T h3 h4]
theorem I_z : (0 : Int32) = Int32.ofInt 0 := rfl
theorem I_1 : (1 : Int32) = Int32.ofInt 1 := rfl
theorem I_eq0 {a : Int} (h1 : -2147483648 ≤ a) (h2 : a < 2147483648) : (Int32.ofInt a = 0) ↔ a = 0 := by
  rw [I_z]; exact I_eq h1 h2 (by omega) (by omega)
theorem I_lt0 {a : Int} (h1 : -2147483648 ≤ a) (h2 : a < 2147483648) : (Int32.ofInt a < 0) ↔ a < 0 := by
  rw [I_z]; exact I_lt h1 h2 (by omega) (by omega)
theorem I_0lt {a : Int} (h1 : -2147483648 ≤ a) (h2 : a < 2147483648) : (0 < Int32.ofInt a) ↔ 0 < a := by
  rw [I_z]; exact I_lt (by omega) (by omega) h1 h2
theorem I_le0 {a : Int} (h1 : -2147483648 ≤ a) (h2 : a < 2147483648) : (Int32.ofInt a ≤ 0) ↔ a ≤ 0 := by
  rw [I_z]; exact I_le h1 h2 (by omega) (by omega)
theorem I_0le {a : Int} (h1 : -2147483648 ≤ a) (h2 : a < 2147483648) : (0 ≤ Int32.ofInt a) ↔ 0 ≤ a := by
  rw [I_z]; exact I_le (by omega) (by omega) h1 h2
theorem I_add (a b : Int) : Int32.ofInt a + Int32.ofInt b = Int32.ofInt (a + b) := (Int32.ofInt_add a b).symm
theorem I_sub (a b : Int) : Int32.ofInt a - Int32.ofInt b = Int32.ofInt (a - b) := (Int32.ofInt_sub a b).symm
theorem I_mul (a b : Int) : Int32.ofInt a * Int32.ofInt b = Int32.ofInt (a * b) := (Int32.ofInt_mul a b).symm
theorem I_div {a b : Int} (h1 : 0 ≤ a) (h2 : a < 2147483648) (h3 : 0 < b) (h4 : b < 2147483648) : Int32.ofInt a / Int32.ofInt b = Int32.ofInt (a / b) := by
  apply Int32.toInt_inj.mp
  rw [Int32.toInt_div, I_T (by omega) (by omega), I_T (by omega) (by omega), Int.tdiv_eq_ediv_of_nonneg h1]
  have h5 : 0 ≤ a / b := Int.ediv_nonneg h1 (by omega)
  have h6 : a / b ≤ a := Int.ediv_le_self b h1
  rw [I_T (by omega) (by omega), Int.bmod_def]
  omega
/-- the remainder as the machine has it -/
theorem I_rem {a b : Int} (h1 : 0 ≤ a) (h2 : a < 2147483648) (h3 : 0 < b) (h4 : b < 2147483648) : Int32.ofInt a - Int32.ofInt a / Int32.ofInt b * Int32.ofInt b = Int32.ofInt (a % b) := by
  rw [I_div h1 h2 h3 h4, I_mul, I_sub, Int.emod_def, Int.mul_comm b]
theorem I_em (s k : Int) : s - s / k * k = s % k := by rw [Int.emod_def, Int.mul_comm k]
theorem I_cl {x : Int} (h1 : 0 ≤ x) (h2 : x < 2147483648) : (Int32.ofInt x).toNatClampNeg = x.toNat := by
  show (Int32.ofInt x).toInt.toNat = _
  rw [I_T (by omega) h2]
theorem I_a1 {v : Int} (h : v = 0 ∨ v = 1) : Int32.ofInt v &&& 1 = Int32.ofInt v := by rcases h with rfl | rfl <;> decide
theorem I_r1 {v : Int} (h : v = 0 ∨ v = 1) : (Int32.ofInt v = 0 ∨ Int32.ofInt v = 1) ↔ True := by rcases h with rfl | rfl <;> decide
theorem I_eq1 {a : Int} (h1 : -2147483648 ≤ a) (h2 : a < 2147483648) : (Int32.ofInt a = 1) ↔ a = 1 := by
  rw [I_1]; exact I_eq h1 h2 (by omega) (by omega)
section sw_c7
variable {m : Nat} {ls : sw_LS} {st r : List Value} {H : sw_HS} {Q : sw_Ot → sw_HS → Prop}
def sw_al (c : sw_Ce) (t : Nat) (i : Int32) (K : Int32 → Prop) : Prop := match c with
  | .inr c => if c.1 = t ∧ 0 ≤ i.toInt ∧ i.toInt < c.2.1 then K (c.2.2 i.toNatClampNeg) else False
  | .inl _ => False
theorem ald_1 (t a : Nat) (i : Int32) (K : Int32 → Prop) : sw_ald False H t a i K = sw_al (H.1 a) t i K := rfl
theorem ald_2 {t n : Nat} {f : Nat → Int32} {i : Int} {K : Int32 → Prop} (h1 : 0 ≤ i) (h2 : i < n) (h3 : i < 2147483648) : sw_al (.inr (t, n, f)) t (Int32.ofInt i) K = K (f i.toNat) := by
  unfold sw_al
  dsimp only
  rw [I_T (by omega) h3, I_cl h1 h3, if_pos ⟨rfl, h1, h2⟩]
def sw_as (c : sw_Ce) (H : sw_HS) (t a : Nat) (i x : Int32) (K : sw_HS → Prop) : Prop := match c with
  | .inr c => if (c.1 = t ∧ ¬ a = 0) ∧ 0 ≤ i.toInt ∧ i.toInt < c.2.1 then K (sw_wr H a (.inr (t, c.2.1, upd c.2.2 i.toNatClampNeg x))) else False
  | .inl _ => False
theorem ast_1 (t a : Nat) (i x : Int32) (K : sw_HS → Prop) : sw_ast False H t a i x K = sw_as (H.1 a) H t a i x K := rfl
theorem ast_2 {t n a : Nat} {f : Nat → Int32} {i : Int} {x : Int32} {K : sw_HS → Prop} (h0 : ¬ a = 0) (h1 : 0 ≤ i) (h2 : i < n) (h3 : i < 2147483648) : sw_as (.inr (t, n, f)) H t a (Int32.ofInt i) x K = K (sw_wr H a (.inr (t, n, upd f i.toNat x))) := by
  unfold sw_as
  dsimp only
  rw [I_T (by omega) h3, I_cl h1 h3, if_pos ⟨⟨rfl, h0⟩, h1, h2⟩]
def sw_ln9 (c : sw_Ce) (K : Int32 → Prop) : Prop := match c with
  | .inr c => if c.1 < 3 then K (Int32.ofNat c.2.1) else False
  | .inl _ => False
theorem aln_1 (a : Nat) (K : Int32 → Prop) : sw_aln False H a K = sw_ln9 (H.1 a) K := rfl
theorem aln_2 {t n : Nat} {f : Nat → Int32} {K : Int32 → Prop} (h : t < 3) : sw_ln9 (.inr (t, n, f)) K = K (Int32.ofInt n) := by
  unfold sw_ln9
  dsimp only
  rw [if_pos h]
  rfl
def sw_gf9 (c : sw_Ce) (e : Nat × Nat × Nat) (K : Value → Prop) : Prop := match c with
    | .inl c => if c.1 = e.1 then (match c.2[e.2.1]? with
      | some v => K v
      | none => False) else False
    | .inr _ => False
theorem gf_1 (e : Nat × Nat × Nat) (a : Nat) (K : Value → Prop) : sw_gf False H (some e) a K = sw_gf9 (H.1 a) e K := rfl
theorem gf_2 {ci k ty : Nat} {fs : List Value} {K : Value → Prop} : sw_gf9 (.inl (ci, fs)) (ci, k, ty) K = (match fs[k]? with | some v => K v | none => False) := by
  unfold sw_gf9
  dsimp only
  rw [if_pos rfl]
def sw_pf9 (c : sw_Ce) (H : sw_HS) (e : Nat × Nat × Nat) (kd a : Nat) (v : Value) (K : sw_HS → Prop) : Prop := match c with
    | .inl c => if c.1 = e.1 ∧ e.2.1 < c.2.length ∧ sw_okv kd e.2.2 v = true then K (sw_wr H a (.inl (c.1, c.2.set e.2.1 v))) else False
    | .inr _ => False
theorem pf_1 (e : Nat × Nat × Nat) (kd a : Nat) (v : Value) (K : sw_HS → Prop) : sw_pf False H (some e) kd a v K = sw_pf9 (H.1 a) H e kd a v K := rfl
theorem pf_2 {ci k kd a : Nat} {x : Int32} {fs : List Value} {K : sw_HS → Prop} : sw_pf9 (.inl (ci, fs)) H (ci, k, 0) kd a (.int x) K = if k < fs.length then K (sw_wr H a (.inl (ci, fs.set k (.int x)))) else False := by
  unfold sw_pf9
  dsimp only
  by_cases h : k < fs.length
  · rw [if_pos ⟨rfl, h, rfl⟩, if_pos h]
  · rw [if_neg (fun q => h q.2.1), if_neg h]
theorem pf_3 {ci k a b : Nat} {fs : List Value} {K : sw_HS → Prop} : sw_pf9 (.inl (ci, fs)) H (ci, k, 1) 2 a (.ref b) K = if k < fs.length then K (sw_wr H a (.inl (ci, fs.set k (.ref b)))) else False := by
  unfold sw_pf9
  dsimp only
  by_cases h : k < fs.length
  · rw [if_pos ⟨rfl, h, rfl⟩, if_pos h]
  · rw [if_neg (fun q => h q.2.1), if_neg h]
theorem nw_1 {t : Nat} {n : Int} {K : sw_HS → Prop} (h1 : 0 ≤ n) (h2 : n ≤ 1000) : sw_nw False H t (Int32.ofInt n) K = K (sw_mk H (.inr (t, n.toNat, fun _ => 0)) n.toNat) := by
  unfold sw_nw
  rw [I_T (by omega) (by omega), I_cl h1 (by omega), if_pos ⟨h1, h2⟩]
theorem cat_le (v : Value) : v.category ≤ 2 := by rcases lv_cat v with h | h <;> omega
theorem ck_0 {K : Prop} : sw_ck False [] K = K := if_pos (by decide)
theorem ck_1 {v : Value} {K : Prop} : sw_ck False [v] K = K := if_pos (by have := cat_le v; simp [sw_cat]; omega)
theorem ck_2 {v u : Value} {K : Prop} : sw_ck False [v, u] K = K := if_pos (by have := cat_le v; have := cat_le u; simp [sw_cat]; omega)
theorem ck_3 {v u w : Value} {K : Prop} : sw_ck False [v, u, w] K = K := if_pos (by have := cat_le v; have := cat_le u; have := cat_le w; simp [sw_cat]; omega)
theorem ck_4 {v u w z : Value} {K : Prop} : sw_ck False [v, u, w, z] K = K := if_pos (by have := cat_le v; have := cat_le u; have := cat_le w; have := cat_le z; simp [sw_cat]; omega)
theorem rr_1 {a : Nat} {as : List Value} {K : Prop} : sw_rr False (.ref a :: as) K = K := rfl
def sw_rc9 (c : sw_Ce) (ci : Nat) (K : Prop) : Prop := match c with
  | .inl c => if c.1 = ci then K else False
  | .inr _ => False
theorem rc_1 {ci a : Nat} {as : List Value} {K : Prop} : sw_rc False H (some ci) (.ref a :: as) K = sw_rc9 (H.1 a) ci K := rfl
theorem rc_2 {ci : Nat} {fs : List Value} {K : Prop} : sw_rc9 (.inl (ci, fs)) ci K = K := if_pos rfl
theorem K_i {pc : Nat} {hd : Option Nat} {x : Int32} : sw_K m pc hd ls r Q (some (some (.int x))) H = sw_A m pc ls (.int x :: r) H Q := rfl
theorem K_l {pc : Nat} {hd : Option Nat} {x : Int64} : sw_K m pc hd ls r Q (some (some (.long x))) H = sw_A m pc ls (.long x :: r) H Q := rfl
theorem K_v {pc : Nat} {hd : Option Nat} : sw_K m pc hd ls r Q (some none) H = sw_A m pc ls r H Q := rfl
theorem K_t {pc q : Nat} : sw_K m pc (some q) ls r Q none H = sw_A m q (sw_no ls) [] H Q := rfl
theorem K_o {pc : Nat} : sw_K m pc none ls r Q none H = Q none H := rfl
theorem ts_in {pc k : Nat} {x d lo hi : Int} {os : Array Int} {o : Int} {K : Nat → Prop} (h1 : lo ≤ x) (h2 : x ≤ hi) (h3 : -2147483648 ≤ x) (h4 : x < 2147483648) (ho : os[(x - lo).toNat]? = some o) (hk : (pc : Int) + o = k) : sw_ts False pc (Int32.ofInt x) d lo hi os K = K k := by
  unfold sw_ts
  rw [I_T h3 h4, if_neg (by omega), ho]
  dsimp only
  unfold sw_jp
  rw [hk]
theorem ts_out {pc k : Nat} {x d lo hi : Int} {os : Array Int} {K : Nat → Prop} (h1 : x < lo ∨ hi < x) (h3 : -2147483648 ≤ x) (h4 : x < 2147483648) (hk : (pc : Int) + d = k) : sw_ts False pc (Int32.ofInt x) d lo hi os K = K k := by
  unfold sw_ts
  rw [I_T h3 h4, if_pos h1]
  unfold sw_jp
  rw [hk]
end sw_c7
