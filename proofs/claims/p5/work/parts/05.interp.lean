/-! ===== an interpreter of the program as data, over values that are known, or a symbol, or a function of what the script holds ===== -/
abbrev ezq_E : Type := Nat → Int32
abbrev ezq_I : Type := Nat ⊕ (Nat ⊕ (ezq_E → Int32))
abbrev ezq_L : Type := Nat ⊕ (Nat ⊕ (ezq_E → Int64))
abbrev ezq_P : Type := Option (Nat ⊕ Nat)
abbrev ezq_V : Type := ezq_I ⊕ (ezq_L ⊕ ezq_P)
abbrev ezq_S : Type := List (Nat × ezq_V)
abbrev ezq_G : Type := Nat → Nat × Nat
def ezq_dI (ρ : ezq_E) : ezq_I → Int32 := fun a => match a with
  | .inl n => Int32.ofNat n
  | .inr (.inl k) => ρ k
  | .inr (.inr f) => f ρ
/-- long symbols: an int k of the script made long; 100 + k: and shifted by 32; 200 + k: its low half alone; 300 + k: two ints of the script, k and the next, as one long -/
def ezq_ls (ρ : ezq_E) (k : Nat) : Int64 := if k < 100 then (ρ k).toInt64 else if k < 200 then (ρ (k - 100)).toInt64 <<< ((Int32.ofNat 32).toInt64 &&& 63) else if k < 300 then (ρ (k - 200)).toInt64 &&& Int64.ofNat 4294967295 else (ρ (k - 300)).toInt64 <<< ((Int32.ofNat 32).toInt64 &&& 63) ||| ((ρ (k - 299)).toInt64 &&& Int64.ofNat 4294967295)
def ezq_dL (ρ : ezq_E) : ezq_L → Int64 := fun a => match a with
  | .inl n => Int64.ofNat n
  | .inr (.inl k) => ezq_ls ρ k
  | .inr (.inr f) => f ρ
def ezq_dP (B : Nat) (xa : Nat → Option Nat) : ezq_P → Value := fun p => match p with
  | none => .null
  | some (.inl k) => .ref (B + k)
  | some (.inr i) => match xa i with
    | none => .null
    | some a => .ref a
def ezq_d (ρ : ezq_E) (B : Nat) (xa : Nat → Option Nat) : ezq_V → Value := fun v => match v with
  | .inl a => .int (ezq_dI ρ a)
  | .inr (.inl x) => .long (ezq_dL ρ x)
  | .inr (.inr p) => ezq_dP B xa p
def ezq_c2 (v : ezq_V) : Bool := match v with
  | .inr (.inl _) => true
  | _ => false
def ezq_k (x : Int32) : ezq_I := .inl x.toUInt32.toNat
def ezq_kl (x : Int64) : ezq_L := .inl x.toUInt64.toNat
theorem ezq_dk {ρ : ezq_E} (x : Int32) : ezq_dI ρ (ezq_k x) = x := by
  exact Int32.ofNat_bitVecToNat x.toBitVec
theorem ezq_dkl {ρ : ezq_E} (x : Int64) : ezq_dL ρ (ezq_kl x) = x := by
  exact Int64.ofNat_bitVecToNat x.toBitVec
def ezq_id {α : Type} (a : α) : α := a
section KZ
variable {Ω : Type}
noncomputable def ezq_fn (n : Nat) (k : Nat → Ω) : Ω := Nat.rec (motive := fun _ => Ω) (k 0) (fun m _ => k (Nat.succ m)) n
theorem ezq_fn_eq (n : Nat) (k : Nat → Ω) : ezq_fn n k = k n := by cases n <;> rfl
noncomputable def ezq_fi (a : ezq_I) (k : ezq_I → Ω) : Ω := match a with
  | .inl n => ezq_fn n (fun m => k (.inl m))
  | .inr x => k (.inr x)
theorem ezq_fi_eq (a : ezq_I) (k : ezq_I → Ω) : ezq_fi a k = k a := by
  rcases a with n | z
  · show ezq_fn n (fun m => k (.inl m)) = k (.inl n)
    exact ezq_fn_eq n (fun m => k (.inl m))
  · rfl
noncomputable def ezq_fl (a : ezq_L) (k : ezq_L → Ω) : Ω := match a with
  | .inl n => ezq_fn n (fun m => k (.inl m))
  | .inr x => k (.inr x)
theorem ezq_fl_eq (a : ezq_L) (k : ezq_L → Ω) : ezq_fl a k = k a := by
  rcases a with n | z
  · show ezq_fn n (fun m => k (.inl m)) = k (.inl n)
    exact ezq_fn_eq n (fun m => k (.inl m))
  · rfl
end KZ
def ezq_o1 (f : Int32 → Int32) (a : ezq_I) : ezq_I := match a with
  | .inl x => ezq_k (f (Int32.ofNat x))
  | .inr z => .inr (.inr (fun ρ => f (ezq_dI ρ (.inr z))))
def ezq_o2 (f : Int32 → Int32 → Int32) (a b : ezq_I) : ezq_I := match a with
  | .inl x => match b with
    | .inl y => ezq_k (f (Int32.ofNat x) (Int32.ofNat y))
    | .inr z => .inr (.inr (fun ρ => f (Int32.ofNat x) (ezq_dI ρ (.inr z))))
  | .inr z => .inr (.inr (fun ρ => f (ezq_dI ρ (.inr z)) (ezq_dI ρ b)))
def ezq_l1 (f : Int64 → Int64) (a : ezq_L) : ezq_L := match a with
  | .inl x => ezq_kl (f (Int64.ofNat x))
  | .inr z => .inr (.inr (fun ρ => f (ezq_dL ρ (.inr z))))
def ezq_l2 (f : Int64 → Int64 → Int64) (a b : ezq_L) : ezq_L := match a with
  | .inl x => match b with
    | .inl y => ezq_kl (f (Int64.ofNat x) (Int64.ofNat y))
    | .inr z => .inr (.inr (fun ρ => f (Int64.ofNat x) (ezq_dL ρ (.inr z))))
  | .inr z => .inr (.inr (fun ρ => f (ezq_dL ρ (.inr z)) (ezq_dL ρ b)))
def ezq_il (f : Int32 → Int64) (a : ezq_I) : ezq_L := match a with
  | .inl x => ezq_kl (f (Int32.ofNat x))
  | .inr z => .inr (.inr (fun ρ => f (ezq_dI ρ (.inr z))))
def ezq_li (f : Int64 → Int32) (a : ezq_L) : ezq_I := match a with
  | .inl x => ezq_k (f (Int64.ofNat x))
  | .inr z => .inr (.inr (fun ρ => f (ezq_dL ρ (.inr z))))
def ezq_lil (f : Int64 → Int32 → Int64) (a : ezq_L) (b : ezq_I) : ezq_L := match a with
  | .inl x => match b with
    | .inl y => ezq_kl (f (Int64.ofNat x) (Int32.ofNat y))
    | .inr z => .inr (.inr (fun ρ => f (Int64.ofNat x) (ezq_dI ρ (.inr z))))
  | .inr z => .inr (.inr (fun ρ => f (ezq_dL ρ (.inr z)) (ezq_dI ρ b)))
def ezq_lli (f : Int64 → Int64 → Int32) (a b : ezq_L) : ezq_I := match a with
  | .inl x => match b with
    | .inl y => ezq_k (f (Int64.ofNat x) (Int64.ofNat y))
    | .inr z => .inr (.inr (fun ρ => f (Int64.ofNat x) (ezq_dL ρ (.inr z))))
  | .inr z => .inr (.inr (fun ρ => f (ezq_dL ρ (.inr z)) (ezq_dL ρ b)))
section KO
variable {ρ : ezq_E}
theorem ezq_o1_d (f : Int32 → Int32) (a : ezq_I) : ezq_dI ρ (ezq_o1 f a) = f (ezq_dI ρ a) := by
  cases a
  · exact ezq_dk _
  · rfl
theorem ezq_o2_d (f : Int32 → Int32 → Int32) (a b : ezq_I) : ezq_dI ρ (ezq_o2 f a b) = f (ezq_dI ρ a) (ezq_dI ρ b) := by
  cases a
  · cases b
    · exact ezq_dk _
    · rfl
  · rfl
theorem ezq_l1_d (f : Int64 → Int64) (a : ezq_L) : ezq_dL ρ (ezq_l1 f a) = f (ezq_dL ρ a) := by
  cases a
  · exact ezq_dkl _
  · rfl
theorem ezq_l2_d (f : Int64 → Int64 → Int64) (a b : ezq_L) : ezq_dL ρ (ezq_l2 f a b) = f (ezq_dL ρ a) (ezq_dL ρ b) := by
  cases a
  · cases b
    · exact ezq_dkl _
    · rfl
  · rfl
theorem ezq_il_d (f : Int32 → Int64) (a : ezq_I) : ezq_dL ρ (ezq_il f a) = f (ezq_dI ρ a) := by
  cases a
  · exact ezq_dkl _
  · rfl
theorem ezq_li_d (f : Int64 → Int32) (a : ezq_L) : ezq_dI ρ (ezq_li f a) = f (ezq_dL ρ a) := by
  cases a
  · exact ezq_dk _
  · rfl
theorem ezq_lil_d (f : Int64 → Int32 → Int64) (a : ezq_L) (b : ezq_I) : ezq_dL ρ (ezq_lil f a b) = f (ezq_dL ρ a) (ezq_dI ρ b) := by
  cases a
  · cases b
    · exact ezq_dkl _
    · rfl
  · rfl
theorem ezq_lli_d (f : Int64 → Int64 → Int32) (a b : ezq_L) : ezq_dI ρ (ezq_lli f a b) = f (ezq_dL ρ a) (ezq_dL ρ b) := by
  cases a
  · cases b
    · exact ezq_dk _
    · rfl
  · rfl
end KO
/-! rules that keep long symbols -/
def ezq_i2l (a : ezq_I) : ezq_L := match a with
  | .inr (.inl k) => bif Nat.blt k 100 then .inr (.inl k) else ezq_il (fun x => x.toInt64) (.inr (.inl k))
  | a => ezq_il (fun x => x.toInt64) a
def ezq_shl (a : ezq_L) (b : ezq_I) : ezq_L := match a with
  | .inr (.inl k) => match b with
    | .inl n => bif Nat.blt k 100 && Nat.beq n 32 then .inr (.inl (k + 100)) else ezq_lil (fun x y => x <<< (y.toInt64 &&& 63)) (.inr (.inl k)) (.inl n)
    | .inr z => ezq_lil (fun x y => x <<< (y.toInt64 &&& 63)) (.inr (.inl k)) (.inr z)
  | a => ezq_lil (fun x y => x <<< (y.toInt64 &&& 63)) a b
def ezq_lan (a b : ezq_L) : ezq_L := match a with
  | .inr (.inl k) => match b with
    | .inl n => bif Nat.blt k 100 && Nat.beq n 4294967295 then .inr (.inl (k + 200)) else ezq_l2 (fun x y => x &&& y) (.inr (.inl k)) (.inl n)
    | .inr z => ezq_l2 (fun x y => x &&& y) (.inr (.inl k)) (.inr z)
  | a => ezq_l2 (fun x y => x &&& y) a b
def ezq_lor (a b : ezq_L) : ezq_L := match a with
  | .inr (.inl j) => match b with
    | .inr (.inl k) => bif (Nat.ble 100 j && Nat.blt j 199) && Nat.beq k (j + 101) then .inr (.inl (j + 200)) else ezq_l2 (fun x y => x ||| y) (.inr (.inl j)) (.inr (.inl k))
    | b => ezq_l2 (fun x y => x ||| y) (.inr (.inl j)) b
  | a => ezq_l2 (fun x y => x ||| y) a b
/-! an int by its place among all of them -/
def ezq_off (x : Int32) : Nat := (x.toInt + 2147483648).toNat
def ezq_on (n : Nat) : Nat := (n + 2147483648) % 4294967296
def ezq_rb (c : ClassFile.Cond) (x y : Nat) : Bool := match c with
  | .eq => Nat.beq x y
  | .ne => !(Nat.beq x y)
  | .lt => Nat.blt x y
  | .ge => Nat.ble y x
  | .gt => Nat.blt y x
  | .le => Nat.ble x y
def ezq_sc (c : ClassFile.Cond) : ClassFile.Cond := match c with
  | .eq => .eq
  | .ne => .ne
  | .lt => .gt
  | .ge => .le
  | .gt => .lt
  | .le => .ge
def ezq_up (Γ : ezq_G) (k lo hi : Nat) : ezq_G := fun j => bif Nat.beq j k then (lo, hi) else Γ j
section KC
variable {Ω : Type} (fk : (ezq_E → Bool) → Ω → Ω → Ω)
/-- a symbol of few numbers (fewer than the symbol 99's least) is told apart -/
noncomputable def ezq_cz (n : Nat) : ezq_G → Nat → (ezq_G → Ω) → Ω :=
  Nat.rec (motive := fun _ => ezq_G → Nat → (ezq_G → Ω) → Ω) (fun Γ _ c => c Γ) (fun _ ih Γ k c => ezq_fn (Γ k).1 fun lo => ezq_fn (Γ k).2 fun hi =>
    bif Nat.ble (Γ 99).1 (hi - lo) then c Γ else bif Nat.beq lo hi then c Γ else fk (fun ρ => Nat.beq (ezq_off (ρ k)) lo) (c (ezq_up Γ k lo lo)) (ih (ezq_up Γ k (lo + 1) hi) k c)) n
/-- is the symbol k below N? -/
noncomputable def ezq_lt (Γ : ezq_G) (k N : Nat) (yes no : ezq_G → Ω) : Ω :=
  bif Nat.ble N (Γ k).1 then no Γ else bif Nat.blt (Γ k).2 N then yes Γ else
    fk (fun ρ => Nat.blt (ezq_off (ρ k)) N) (ezq_cz fk 20 (ezq_up Γ k (Γ k).1 (N - 1)) k yes) (ezq_cz fk 20 (ezq_up Γ k N (Γ k).2) k no)
noncomputable def ezq_eq (Γ : ezq_G) (k N : Nat) (yes no : ezq_G → Ω) : Ω :=
  bif Nat.blt N (Γ k).1 || Nat.blt (Γ k).2 N then no Γ else bif Nat.beq (Γ k).1 N && Nat.beq (Γ k).2 N then yes Γ else
    fk (fun ρ => Nat.beq (ezq_off (ρ k)) N) (yes (ezq_up Γ k N N))
      (bif Nat.beq (Γ k).1 N then ezq_fn (N + 1) (fun M => no (ezq_up Γ k M (Γ k).2)) else bif Nat.beq (Γ k).2 N then ezq_fn (N - 1) (fun M => no (ezq_up Γ k (Γ k).1 M)) else
        fk (fun ρ => Nat.blt (ezq_off (ρ k)) N) (ezq_fn (N - 1) fun M => ezq_cz fk 20 (ezq_up Γ k (Γ k).1 M) k no) (ezq_fn (N + 1) fun M => ezq_cz fk 20 (ezq_up Γ k M (Γ k).2) k no))
noncomputable def ezq_spN (Γ : ezq_G) (k : Nat) (c : ClassFile.Cond) (N : Nat) (yes no : ezq_G → Ω) : Ω := match c with
  | .eq => ezq_eq fk Γ k N yes no
  | .ne => ezq_eq fk Γ k N no yes
  | .lt => ezq_lt fk Γ k N yes no
  | .ge => ezq_lt fk Γ k N no yes
  | .le => ezq_fn (N + 1) fun M => ezq_lt fk Γ k M yes no
  | .gt => ezq_fn (N + 1) fun M => ezq_lt fk Γ k M no yes
noncomputable def ezq_sp (Γ : ezq_G) (k : Nat) (c : ClassFile.Cond) (n : Nat) (yes no : ezq_G → Ω) : Ω := ezq_fn (ezq_on n) fun N => ezq_spN fk Γ k c N yes no
noncomputable def ezq_cmp (Γ : ezq_G) (c : ClassFile.Cond) (a b : ezq_I) (yes no : ezq_G → Ω) : Ω := match a with
  | .inl x => match b with
    | .inl y => bif ezq_rb c (ezq_on x) (ezq_on y) then yes Γ else no Γ
    | .inr (.inl k) => ezq_sp fk Γ k (ezq_sc c) x yes no
    | .inr (.inr f) => fk (fun ρ => ezq_rb c (ezq_off (Int32.ofNat x)) (ezq_off (f ρ))) (yes Γ) (no Γ)
  | .inr (.inl k) => match b with
    | .inl y => ezq_sp fk Γ k c y yes no
    | .inr (.inl j) => bif Nat.beq k j then (bif ezq_rb c 0 0 then yes Γ else no Γ) else fk (fun ρ => ezq_rb c (ezq_off (ρ k)) (ezq_off (ρ j))) (yes Γ) (no Γ)
    | .inr (.inr f) => fk (fun ρ => ezq_rb c (ezq_off (ρ k)) (ezq_off (f ρ))) (yes Γ) (no Γ)
  | .inr (.inr f) => fk (fun ρ => ezq_rb c (ezq_off (f ρ)) (ezq_off (ezq_dI ρ b))) (yes Γ) (no Γ)
end KC
/-- a symbol that can be one number alone is known -/
def ezq_nm (Γ : ezq_G) (a : ezq_I) : ezq_I := match a with
  | .inr (.inl k) => bif Nat.beq (Γ k).1 (Γ k).2 then .inl (((Γ k).1 + 2147483648) % 4294967296) else .inr (.inl k)
  | a => a
/-- 'and' of the script's first int with 31 is the symbol 7; the script's length less 7 is the symbol 9 -/
def ezq_and (a b : ezq_I) : ezq_I := match a with
  | .inr (.inl 0) => match b with
    | .inl 31 => .inr (.inl 7)
    | b => ezq_o2 (fun x y => x &&& y) (.inr (.inl 0)) b
  | a => ezq_o2 (fun x y => x &&& y) a b
def ezq_sub (a b : ezq_I) : ezq_I := match a with
  | .inr (.inl 8) => match b with
    | .inl 7 => .inr (.inl 9)
    | b => ezq_o2 (fun x y => x - y) (.inr (.inl 8)) b
  | a => ezq_o2 (fun x y => x - y) a b
/-! the cells: a tree of 128 places -/
abbrev ezq_C : Type := (Nat × List ezq_V) ⊕ (Nat × Nat × (Nat → ezq_V))
def ezq_T : Nat → Type := fun n => Nat.rec (motive := fun _ => Type) ezq_C (fun _ T => T × T) n
noncomputable def ezq_tg (n : Nat) : ezq_T n → Nat → ezq_C :=
  Nat.rec (motive := fun n => ezq_T n → Nat → ezq_C) (fun t _ => t) (fun n ih t i => bif Nat.ble (2 ^ n) i then ih t.2 (i - 2 ^ n) else ih t.1 i) n
noncomputable def ezq_tset (n : Nat) : ezq_T n → Nat → ezq_C → ezq_T n :=
  Nat.rec (motive := fun n => ezq_T n → Nat → ezq_C → ezq_T n) (fun _ _ v => v) (fun n ih t i v => bif Nat.ble (2 ^ n) i then (t.1, ih t.2 (i - 2 ^ n) v) else (ih t.1 i v, t.2)) n
noncomputable def ezq_ts {Ω : Type} (n : Nat) : ezq_T n → Nat → ezq_C → (ezq_T n → Ω) → Ω :=
  Nat.rec (motive := fun n => ezq_T n → Nat → ezq_C → (ezq_T n → Ω) → Ω) (fun _ _ v k => k v)
    (fun n ih t i v k => match t with
      | (a, b) => bif Nat.ble (2 ^ n) i then ih b (i - 2 ^ n) v (fun b' => k (a, b')) else ih a i v (fun a' => k (a', b))) n
theorem ezq_ts_eq {Ω : Type} (n : Nat) : ∀ (t : ezq_T n) (i : Nat) (v : ezq_C) (k : ezq_T n → Ω), ezq_ts n t i v k = k (ezq_tset n t i v) := by
  induction n with
  | zero => intro t i v k; rfl
  | succ n ih =>
    intro t i v k
    obtain ⟨a, b⟩ := t
    show (bif Nat.ble (2 ^ n) i then ezq_ts n b (i - 2 ^ n) v (fun b' => k (a, b')) else ezq_ts n a i v (fun a' => k (a', b))) = k (bif Nat.ble (2 ^ n) i then (a, ezq_tset n b (i - 2 ^ n) v) else (ezq_tset n a i v, b))
    cases Nat.ble (2 ^ n) i
    · exact ih a i v _
    · exact ih b _ v _
theorem ezq_tg_set (n : Nat) : ∀ (t : ezq_T n) (i j : Nat) (v : ezq_C), i < 2 ^ n → j < 2 ^ n → ezq_tg n (ezq_tset n t i v) j = if j = i then v else ezq_tg n t j := by
  induction n with
  | zero =>
    intro t i j v hi hj
    have e : j = i := by
      rw [Nat.pow_zero] at hi hj
      omega
    rw [if_pos e]
    rfl
  | succ n ih =>
    intro t i j v hi hj
    obtain ⟨a, b⟩ := t
    have hp : 2 ^ (n + 1) = 2 ^ n + 2 ^ n := by rw [Nat.pow_succ]; omega
    show (bif Nat.ble (2 ^ n) j then ezq_tg n (bif Nat.ble (2 ^ n) i then (a, ezq_tset n b (i - 2 ^ n) v) else (ezq_tset n a i v, b)).2 (j - 2 ^ n) else ezq_tg n (bif Nat.ble (2 ^ n) i then (a, ezq_tset n b (i - 2 ^ n) v) else (ezq_tset n a i v, b)).1 j) = if j = i then v else (bif Nat.ble (2 ^ n) j then ezq_tg n b (j - 2 ^ n) else ezq_tg n a j)
    cases hi2 : Nat.ble (2 ^ n) i <;> cases hj2 : Nat.ble (2 ^ n) j
    · have h1 : i < 2 ^ n := Nat.not_le.mp fun h => by rw [Nat.ble_eq_true_of_le h] at hi2; cases hi2
      have h2 : j < 2 ^ n := Nat.not_le.mp fun h => by rw [Nat.ble_eq_true_of_le h] at hj2; cases hj2
      exact ih a i j v h1 h2
    · have h1 : i < 2 ^ n := Nat.not_le.mp fun h => by rw [Nat.ble_eq_true_of_le h] at hi2; cases hi2
      have h2 : 2 ^ n ≤ j := Nat.le_of_ble_eq_true hj2
      rw [if_neg (by omega)]
      rfl
    · have h1 : 2 ^ n ≤ i := Nat.le_of_ble_eq_true hi2
      have h2 : j < 2 ^ n := Nat.not_le.mp fun h => by rw [Nat.ble_eq_true_of_le h] at hj2; cases hj2
      rw [if_neg (by omega)]
      rfl
    · have h1 : 2 ^ n ≤ i := Nat.le_of_ble_eq_true hi2
      have h2 : 2 ^ n ≤ j := Nat.le_of_ble_eq_true hj2
      show ezq_tg n (ezq_tset n b (i - 2 ^ n) v) (j - 2 ^ n) = if j = i then v else ezq_tg n b (j - 2 ^ n)
      rw [ih b (i - 2 ^ n) (j - 2 ^ n) v (by omega) (by omega)]
      by_cases e : j = i
      · rw [if_pos e, if_pos (by rw [e])]
      · rw [if_neg e, if_neg (by omega)]
/-! the pieces of a step: what they take off the stack, out of the locals, out of the cells -/
section KP
variable {Ω : Type} (bot : Ω)
def ezq_i1 (st : List ezq_V) (k : ezq_I → List ezq_V → Ω) : Ω := match st with
  | .inl x :: r => k x r
  | _ => bot
def ezq_j1 (st : List ezq_V) (k : ezq_L → List ezq_V → Ω) : Ω := match st with
  | .inr (.inl x) :: r => k x r
  | _ => bot
def ezq_p1 (st : List ezq_V) (k : ezq_P → List ezq_V → Ω) : Ω := match st with
  | .inr (.inr x) :: r => k x r
  | _ => bot
def ezq_v1 (st : List ezq_V) (k : ezq_V → List ezq_V → Ω) : Ω := match st with
  | x :: r => bif ezq_c2 x then bot else k x r
  | _ => bot
noncomputable def ezq_lo (ls : ezq_S) (i : Nat) (k : ezq_V → Ω) : Ω := List.rec (motive := fun _ => Ω) bot (fun q _ ih => bif Nat.beq q.1 i then k q.2 else ih) ls
def ezq_f1 (i : Nat) (q : Nat × ezq_V) : Bool := bif Nat.beq q.1 i then false else bif Nat.beq (Nat.succ q.1) i then !(ezq_c2 q.2) else true
def ezq_f2 (i : Nat) (q : Nat × ezq_V) : Bool := bif Nat.beq q.1 i then false else bif Nat.beq q.1 (Nat.succ i) then false else bif Nat.beq (Nat.succ q.1) i then !(ezq_c2 q.2) else true
noncomputable def ezq_fil (p : Nat × ezq_V → Bool) (ls : ezq_S) : (ezq_S → Ω) → Ω := List.rec (motive := fun _ => (ezq_S → Ω) → Ω) (fun k => k []) (fun q _ ih k => bif p q then ih (fun r => k (q :: r)) else ih k) ls
theorem ezq_fil_eq (p : Nat × ezq_V → Bool) (ls : ezq_S) : ∀ k : ezq_S → Ω, ezq_fil p ls k = k (ls.filter p) := by
  induction ls with
  | nil => intro k; rfl
  | cons q r ih =>
    intro k
    show (bif p q then ezq_fil p r (fun r => k (q :: r)) else ezq_fil p r k) = k ((q :: r).filter p)
    cases h : p q
    · rw [List.filter_cons_of_neg (by rw [h]; decide)]
      exact ih k
    · rw [List.filter_cons_of_pos h]
      exact ih _
noncomputable def ezq_sto (i : Nat) (v : ezq_V) (ls : ezq_S) (k : ezq_S → Ω) : Ω := bif ezq_c2 v then ezq_fil (ezq_f2 i) ls (fun r => k ((i, v) :: r)) else ezq_fil (ezq_f1 i) ls (fun r => k ((i, v) :: r))
noncomputable def ezq_pop (n : Nat) : List ezq_V → List ezq_V → (List ezq_V → List ezq_V → Ω) → Ω :=
  Nat.rec (motive := fun _ => List ezq_V → List ezq_V → (List ezq_V → List ezq_V → Ω) → Ω) (fun st acc k => k acc st) (fun _ ih st acc k => match st with
    | [] => bot
    | v :: r => ih r (v :: acc) k) n
noncomputable def ezq_lset (fs : List ezq_V) : Nat → ezq_V → (List ezq_V → Ω) → Ω :=
  List.rec (motive := fun _ => Nat → ezq_V → (List ezq_V → Ω) → Ω) (fun _ _ k => k []) (fun x r ih i v k => match i with
    | 0 => k (v :: r)
    | j + 1 => ih j v (fun r' => k (x :: r'))) fs
theorem ezq_lset_eq (fs : List ezq_V) : ∀ (i : Nat) (v : ezq_V) (k : List ezq_V → Ω), ezq_lset fs i v k = k (fs.set i v) := by
  induction fs with
  | nil => intro i v k; rfl
  | cons x r ih =>
    intro i v k
    cases i with
    | zero => rfl
    | succ j => exact ih j v _
/-- an own cell -/
noncomputable def ezq_ob (sz : Nat) (t : ezq_T 7) (p : ezq_P) (k : Nat → Nat → List ezq_V → Ω) : Ω := match p with
  | some (.inl q) => bif Nat.ble sz q then bot else match ezq_tg 7 t q with
    | .inl (ci, fs) => bif Nat.ble 13 ci then bot else k q ci fs
    | _ => bot
  | _ => bot
noncomputable def ezq_ar (sz : Nat) (t : ezq_T 7) (p : ezq_P) (k : Nat → Nat → Nat → (Nat → ezq_V) → Ω) : Ω := match p with
  | some (.inl q) => bif Nat.ble sz q then bot else match ezq_tg 7 t q with
    | .inr (ty, n, f) => k q ty n f
    | _ => bot
  | _ => bot
end KP
def ezq_aup (f : Nat → ezq_V) (i : Nat) (v : ezq_V) : Nat → ezq_V := fun j => bif Nat.beq j i then v else f j
noncomputable def ezq_cat (vs : List ezq_V) : Nat := List.rec (motive := fun _ => Nat) 0 (fun v _ ih => (bif ezq_c2 v then 2 else 1) + ih) vs
/-! what stands there from the start: the script is 0; FIRST_NUMBERS is 1; 2 and 4 are the texts, 3 and 5 their bytes; 6 is the formatter -/
def ezq_t1 : List Nat := [0, 9, 0, 0, 0, 0, 0, 0, 0, 10, 5]
def ezq_t3 : List Nat := [116, 119, 105, 103, 32, 104, 105, 103, 104, 32, 116, 104, 105, 99, 107, 32, 115, 105, 100, 101, 32, 111, 110, 32, 115, 116, 114, 105, 110, 103, 32, 107, 105, 116, 101, 32, 119, 111, 114, 116, 104, 32, 112, 97, 112, 101, 114, 32, 116, 104, 105, 110, 103, 32, 115, 116, 117, 99, 107, 32, 102, 114, 101, 101, 115, 32, 111, 118, 101, 114, 32, 119, 105, 110, 100, 32, 108, 105, 102, 116, 32, 100, 101, 119, 32, 108, 97, 100, 100, 101, 114, 32, 112, 111, 108, 101, 32, 119, 101, 105, 103, 104, 115, 32, 99, 111, 114, 100, 32, 101, 108, 109, 32, 114, 117, 110, 32, 116, 101, 97, 114, 32, 112, 117, 108, 108, 32, 115, 108, 97, 99, 107, 32, 108, 105, 102, 116, 115, 32, 104, 117, 114, 108, 32, 99, 108, 105, 109, 98, 32, 112, 111, 107, 101, 32, 104, 111, 117, 114, 32, 110, 111, 114, 116, 104, 32, 101, 97, 115, 116, 32, 115, 111, 117, 116, 104, 32, 119, 101, 115, 116, 32, 115, 111, 102, 116, 32, 104, 97, 114, 100, 32, 114, 117, 110, 115, 32, 98, 105, 116, 101, 115, 32, 116, 101, 97, 114, 115, 32, 100, 111, 119, 110, 32, 115, 116, 105, 99, 107, 115, 32, 110, 111, 116, 32, 97, 110, 100, 32, 111, 114, 32, 116, 105, 103, 104, 116, 32, 115, 105, 122, 101, 32, 97, 119, 97, 121, 32, 102, 111, 114, 99, 101, 32]
def ezq_t5 : List Nat := [40, 41, 60, 61, 43, 45, 42, 59]
def ezq_el (i : Nat) : Nat := match i with
  | 1 => 11
  | 3 => 254
  | 5 => 8
  | _ => 0
def ezq_et (i : Nat) : List Nat := match i with
  | 1 => ezq_t1
  | 3 => ezq_t3
  | _ => ezq_t5
/-- no cells yet -/
noncomputable def ezq_te (n : Nat) : ezq_T n := Nat.rec (motive := fun n => ezq_T n) (.inr (9, 0, fun _ => .inl (.inl 0))) (fun _ t => (t, t)) n
/-- what some calls answer, by where their ints lie: boxes (bounds of some symbols), and what is answered there (elsewhere -1) -/
def ezq_box (s : Nat) : List (List (Nat × Nat × Nat) × Nat) := match s with
  | 41 => [([(1, 2147483648, 2147483648), (2, 2147483648, 2147483696)], 1000000), ([(1, 2147483649, 2147483651), (2, 2147483648, 2147483696)], 0)]
  | 42 => [([(1, 2147483648, 2147483663), (2, 2147483648, 2147483663)], 15)]
  | 43 => [([(1, 2147483647, 2147483651)], 256)]
  | 44 => [([(1, 2147483648, 2147483663), (2, 2147483648, 2147483663)], 0)]
  | 46 => [([(1, 2147483648, 2147493647), (2, 2147483649, 2147483668), (3, 2147483649, 2147483654), (4, 2147483648, 2147483650)], 0)]
  | _ => []
def ezq_inb (g : Nat → Int32) (b : List (Nat × Nat × Nat)) : Bool := b.all fun q => Nat.ble q.2.1 (ezq_off (g q.1)) && Nat.ble (ezq_off (g q.1)) q.2.2
def ezq_bxv (g : Nat → Int32) (bs : List (List (Nat × Nat × Nat) × Nat)) : Nat := match bs with
  | [] => 4294967295
  | b :: r => bif ezq_inb g b.1 then b.2 else ezq_bxv g r
def ezq_val (s : Nat) (g : Nat → Int32) : Int32 := Int32.ofNat (ezq_bxv g (ezq_box s))
