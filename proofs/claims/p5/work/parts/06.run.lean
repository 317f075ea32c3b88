/-! ===== a step, and a run ===== -/
def ezq_dfl (ci : Nat) : List ezq_V := (List.range (ezq_vw ci).2.2).map fun k => match ezq_fty ci k with
  | .long => .inr (.inl (.inl 0))
  | .object _ => .inr (.inr none)
  | .array _ => .inr (.inr none)
  | _ => .inl (.inl 0)
def ezq_xt (i : Nat) : ezq_V := .inr (.inr (some (.inr i)))
def ezq_ow (k : Nat) : ezq_V := .inr (.inr (some (.inl k)))
def ezq_kn (n : Nat) : ezq_V := .inl (.inl n)
/-- the symbol of the script's int at m -/
def ezq_sx (m : Nat) : Nat := bif Nat.blt m 7 then m else m + 1000
/-- is m below the script's length, as far as that is known? -/
def ezq_sl (m : Nat) (p : Nat × Nat) : Bool := Nat.blt (m + 2147483648) p.1
section KR
variable {Ω : Type} (bot : Ω)
noncomputable def ezq_w1 (d : Nat) (st : List ezq_V) (k : ezq_V → List ezq_V → Ω) : Ω := match d with
  | 0 => ezq_i1 bot st fun x r => k (.inl x) r
  | 1 => ezq_j1 bot st fun x r => k (.inr (.inl x)) r
  | 2 => ezq_i1 bot st fun x r => match x with
    | .inl n => bif Nat.ble n 1 then k (.inl (.inl n)) r else bot
    | _ => bot
  | _ => ezq_p1 bot st fun x r => k (.inr (.inr x)) r
noncomputable def ezq_div (f : Int32 → Int32 → Int32) (st : List ezq_V) (k : ezq_I → List ezq_V → Ω) : Ω := ezq_i1 bot st fun y r => ezq_i1 bot r fun x r => match y with
  | .inl m => bif Nat.beq (m % 4294967296) 0 then bot else ezq_fi (ezq_o2 f x (.inl m)) fun z => k z r
  | _ => bot
noncomputable def ezq_ldv (f : Int64 → Int64 → Int64) (st : List ezq_V) (k : ezq_L → List ezq_V → Ω) : Ω := ezq_j1 bot st fun y r => ezq_j1 bot r fun x r => match y with
  | .inl m => bif Nat.beq (m % 18446744073709551616) 0 then bot else ezq_fl (ezq_l2 f x (.inl m)) fun z => k z r
  | _ => bot
noncomputable def ezq_b2 (f : Int32 → Int32 → Int32) (st : List ezq_V) (k : ezq_I → List ezq_V → Ω) : Ω := ezq_i1 bot st fun y r => ezq_i1 bot r fun x r => ezq_fi (ezq_o2 f x y) fun z => k z r
noncomputable def ezq_bl (f : Int64 → Int64 → Int64) (st : List ezq_V) (k : ezq_L → List ezq_V → Ω) : Ω := ezq_j1 bot st fun y r => ezq_j1 bot r fun x r => ezq_fl (ezq_l2 f x y) fun z => k z r
noncomputable def ezq_sh (f : Int64 → Int32 → Int64) (st : List ezq_V) (k : ezq_L → List ezq_V → Ω) : Ω := ezq_i1 bot st fun y r => ezq_j1 bot r fun x r => ezq_fl (ezq_lil f x y) fun z => k z r
/-- a new cell -/
noncomputable def ezq_al (sz : Nat) (t : ezq_T 7) (cl sl mc ms n : Nat) (c : ezq_C) (k : Nat → ezq_T 7 → Nat → Nat → Ω) : Ω :=
  bif Nat.blt sz 128 && (Nat.ble (cl + 1) mc && Nat.ble (sl + n) ms) then
    ezq_ts 7 t sz c fun t' => ezq_fn (sz + 1) fun sz' => ezq_fn (cl + 1) fun cl' => ezq_fn (sl + n) fun sl' => k sz' t' cl' sl'
  else bot
def ezq_ary (ty : ArrayType) : Nat := match ty with
  | .int => 0
  | .long => 1
  | .boolean => 2
  | _ => 9
def ezq_ard (ty : ArrayType) : ezq_V := match ty with
  | .long => .inr (.inl (.inl 0))
  | _ => .inl (.inl 0)
noncomputable def ezq_ald (Γ : ezq_G) (sz : Nat) (t : ezq_T 7) (ty : Nat) (m : Nat) (p : ezq_P) (k : ezq_V → Ω) : Ω := match p with
  | some (.inl q) => ezq_ar bot sz t (some (.inl q)) fun _ ty' n f => bif Nat.blt m n && Nat.beq ty' ty then k (f m) else bot
  | some (.inr i) => match i with
    | 0 => bif Nat.beq ty 0 && ezq_sl m (Γ 8) then k (.inl (.inr (.inl (ezq_sx m)))) else bot
    | 1 => bif Nat.blt m 11 && Nat.beq ty 0 then k (ezq_kn (ezq_t1.getD m 0)) else bot
    | 3 => bif Nat.blt m 254 && Nat.beq ty 2 then k (ezq_kn (ezq_t3.getD m 0)) else bot
    | 5 => bif Nat.blt m 8 && Nat.beq ty 2 then k (ezq_kn (ezq_t5.getD m 0)) else bot
    | _ => bot
  | none => bot
noncomputable def ezq_ast (sz : Nat) (t : ezq_T 7) (ty : Nat) (v : ezq_V) (r : List ezq_V) (k : List ezq_V → ezq_T 7 → Ω) : Ω :=
  ezq_i1 bot r fun i r => ezq_p1 bot r fun p r => ezq_ar bot sz t p fun q ty' n f => match i with
    | .inl m => bif Nat.blt m n && Nat.beq ty' ty then ezq_ts 7 t q (.inr (ty', n, ezq_aup f m v)) fun t' => k r t' else bot
    | _ => bot
noncomputable def ezq_a_iconst  (Γ : ezq_G) (a b c d x pc : Nat) (ls : ezq_S) (st : List ezq_V) (sz : Nat) (t : ezq_T 7) (cl sl mc ms : Nat) (go : Nat → ezq_S → List ezq_V → Ω) (gh : Nat → List ezq_V → Nat → ezq_T 7 → Nat → Nat → Ω) (br : ClassFile.Cond → ezq_I → ezq_I → Nat → Nat → List ezq_V → Ω) (sw : List (Int × Int) → Int → ezq_I → List ezq_V → Ω) (ca : Ω) (re : Option ezq_V → Ω) : Ω := go (pc + 1) ls (.inl (.inl a) :: st)
noncomputable def ezq_a_bipush  (Γ : ezq_G) (a b c d x pc : Nat) (ls : ezq_S) (st : List ezq_V) (sz : Nat) (t : ezq_T 7) (cl sl mc ms : Nat) (go : Nat → ezq_S → List ezq_V → Ω) (gh : Nat → List ezq_V → Nat → ezq_T 7 → Nat → Nat → Ω) (br : ClassFile.Cond → ezq_I → ezq_I → Nat → Nat → List ezq_V → Ω) (sw : List (Int × Int) → Int → ezq_I → List ezq_V → Ω) (ca : Ω) (re : Option ezq_V → Ω) : Ω := go (pc + 2) ls (.inl (.inl a) :: st)
noncomputable def ezq_a_sipush  (Γ : ezq_G) (a b c d x pc : Nat) (ls : ezq_S) (st : List ezq_V) (sz : Nat) (t : ezq_T 7) (cl sl mc ms : Nat) (go : Nat → ezq_S → List ezq_V → Ω) (gh : Nat → List ezq_V → Nat → ezq_T 7 → Nat → Nat → Ω) (br : ClassFile.Cond → ezq_I → ezq_I → Nat → Nat → List ezq_V → Ω) (sw : List (Int × Int) → Int → ezq_I → List ezq_V → Ω) (ca : Ω) (re : Option ezq_V → Ω) : Ω := go (pc + 3) ls (.inl (.inl a) :: st)
noncomputable def ezq_a_lconst  (Γ : ezq_G) (a b c d x pc : Nat) (ls : ezq_S) (st : List ezq_V) (sz : Nat) (t : ezq_T 7) (cl sl mc ms : Nat) (go : Nat → ezq_S → List ezq_V → Ω) (gh : Nat → List ezq_V → Nat → ezq_T 7 → Nat → Nat → Ω) (br : ClassFile.Cond → ezq_I → ezq_I → Nat → Nat → List ezq_V → Ω) (sw : List (Int × Int) → Int → ezq_I → List ezq_V → Ω) (ca : Ω) (re : Option ezq_V → Ω) : Ω := go (pc + 1) ls (.inr (.inl (.inl a)) :: st)
noncomputable def ezq_a_iload_n  (Γ : ezq_G) (a b c d x pc : Nat) (ls : ezq_S) (st : List ezq_V) (sz : Nat) (t : ezq_T 7) (cl sl mc ms : Nat) (go : Nat → ezq_S → List ezq_V → Ω) (gh : Nat → List ezq_V → Nat → ezq_T 7 → Nat → Nat → Ω) (br : ClassFile.Cond → ezq_I → ezq_I → Nat → Nat → List ezq_V → Ω) (sw : List (Int × Int) → Int → ezq_I → List ezq_V → Ω) (ca : Ω) (re : Option ezq_V → Ω) : Ω := ezq_lo bot ls a fun v => ezq_i1 bot [v] fun y _ => go (pc + 1) ls (.inl (ezq_nm Γ y) :: st)
noncomputable def ezq_a_iload  (Γ : ezq_G) (a b c d x pc : Nat) (ls : ezq_S) (st : List ezq_V) (sz : Nat) (t : ezq_T 7) (cl sl mc ms : Nat) (go : Nat → ezq_S → List ezq_V → Ω) (gh : Nat → List ezq_V → Nat → ezq_T 7 → Nat → Nat → Ω) (br : ClassFile.Cond → ezq_I → ezq_I → Nat → Nat → List ezq_V → Ω) (sw : List (Int × Int) → Int → ezq_I → List ezq_V → Ω) (ca : Ω) (re : Option ezq_V → Ω) : Ω := ezq_lo bot ls a fun v => ezq_i1 bot [v] fun y _ => go (pc + 2) ls (.inl (ezq_nm Γ y) :: st)
noncomputable def ezq_a_lload_n  (Γ : ezq_G) (a b c d x pc : Nat) (ls : ezq_S) (st : List ezq_V) (sz : Nat) (t : ezq_T 7) (cl sl mc ms : Nat) (go : Nat → ezq_S → List ezq_V → Ω) (gh : Nat → List ezq_V → Nat → ezq_T 7 → Nat → Nat → Ω) (br : ClassFile.Cond → ezq_I → ezq_I → Nat → Nat → List ezq_V → Ω) (sw : List (Int × Int) → Int → ezq_I → List ezq_V → Ω) (ca : Ω) (re : Option ezq_V → Ω) : Ω := ezq_lo bot ls a fun v => ezq_j1 bot [v] fun y _ => go (pc + 1) ls (.inr (.inl y) :: st)
noncomputable def ezq_a_lload  (Γ : ezq_G) (a b c d x pc : Nat) (ls : ezq_S) (st : List ezq_V) (sz : Nat) (t : ezq_T 7) (cl sl mc ms : Nat) (go : Nat → ezq_S → List ezq_V → Ω) (gh : Nat → List ezq_V → Nat → ezq_T 7 → Nat → Nat → Ω) (br : ClassFile.Cond → ezq_I → ezq_I → Nat → Nat → List ezq_V → Ω) (sw : List (Int × Int) → Int → ezq_I → List ezq_V → Ω) (ca : Ω) (re : Option ezq_V → Ω) : Ω := ezq_lo bot ls a fun v => ezq_j1 bot [v] fun y _ => go (pc + 2) ls (.inr (.inl y) :: st)
noncomputable def ezq_a_aload_n  (Γ : ezq_G) (a b c d x pc : Nat) (ls : ezq_S) (st : List ezq_V) (sz : Nat) (t : ezq_T 7) (cl sl mc ms : Nat) (go : Nat → ezq_S → List ezq_V → Ω) (gh : Nat → List ezq_V → Nat → ezq_T 7 → Nat → Nat → Ω) (br : ClassFile.Cond → ezq_I → ezq_I → Nat → Nat → List ezq_V → Ω) (sw : List (Int × Int) → Int → ezq_I → List ezq_V → Ω) (ca : Ω) (re : Option ezq_V → Ω) : Ω := ezq_lo bot ls a fun v => ezq_p1 bot [v] fun y _ => go (pc + 1) ls (.inr (.inr y) :: st)
noncomputable def ezq_a_aload  (Γ : ezq_G) (a b c d x pc : Nat) (ls : ezq_S) (st : List ezq_V) (sz : Nat) (t : ezq_T 7) (cl sl mc ms : Nat) (go : Nat → ezq_S → List ezq_V → Ω) (gh : Nat → List ezq_V → Nat → ezq_T 7 → Nat → Nat → Ω) (br : ClassFile.Cond → ezq_I → ezq_I → Nat → Nat → List ezq_V → Ω) (sw : List (Int × Int) → Int → ezq_I → List ezq_V → Ω) (ca : Ω) (re : Option ezq_V → Ω) : Ω := ezq_lo bot ls a fun v => ezq_p1 bot [v] fun y _ => go (pc + 2) ls (.inr (.inr y) :: st)
noncomputable def ezq_a_istore_n  (Γ : ezq_G) (a b c d x pc : Nat) (ls : ezq_S) (st : List ezq_V) (sz : Nat) (t : ezq_T 7) (cl sl mc ms : Nat) (go : Nat → ezq_S → List ezq_V → Ω) (gh : Nat → List ezq_V → Nat → ezq_T 7 → Nat → Nat → Ω) (br : ClassFile.Cond → ezq_I → ezq_I → Nat → Nat → List ezq_V → Ω) (sw : List (Int × Int) → Int → ezq_I → List ezq_V → Ω) (ca : Ω) (re : Option ezq_V → Ω) : Ω := ezq_i1 bot st fun y r => ezq_sto a (.inl y) ls fun l => go (pc + 1) l r
noncomputable def ezq_a_istore  (Γ : ezq_G) (a b c d x pc : Nat) (ls : ezq_S) (st : List ezq_V) (sz : Nat) (t : ezq_T 7) (cl sl mc ms : Nat) (go : Nat → ezq_S → List ezq_V → Ω) (gh : Nat → List ezq_V → Nat → ezq_T 7 → Nat → Nat → Ω) (br : ClassFile.Cond → ezq_I → ezq_I → Nat → Nat → List ezq_V → Ω) (sw : List (Int × Int) → Int → ezq_I → List ezq_V → Ω) (ca : Ω) (re : Option ezq_V → Ω) : Ω := ezq_i1 bot st fun y r => ezq_sto a (.inl y) ls fun l => go (pc + 2) l r
noncomputable def ezq_a_lstore_n  (Γ : ezq_G) (a b c d x pc : Nat) (ls : ezq_S) (st : List ezq_V) (sz : Nat) (t : ezq_T 7) (cl sl mc ms : Nat) (go : Nat → ezq_S → List ezq_V → Ω) (gh : Nat → List ezq_V → Nat → ezq_T 7 → Nat → Nat → Ω) (br : ClassFile.Cond → ezq_I → ezq_I → Nat → Nat → List ezq_V → Ω) (sw : List (Int × Int) → Int → ezq_I → List ezq_V → Ω) (ca : Ω) (re : Option ezq_V → Ω) : Ω := ezq_j1 bot st fun y r => ezq_sto a (.inr (.inl y)) ls fun l => go (pc + 1) l r
noncomputable def ezq_a_lstore  (Γ : ezq_G) (a b c d x pc : Nat) (ls : ezq_S) (st : List ezq_V) (sz : Nat) (t : ezq_T 7) (cl sl mc ms : Nat) (go : Nat → ezq_S → List ezq_V → Ω) (gh : Nat → List ezq_V → Nat → ezq_T 7 → Nat → Nat → Ω) (br : ClassFile.Cond → ezq_I → ezq_I → Nat → Nat → List ezq_V → Ω) (sw : List (Int × Int) → Int → ezq_I → List ezq_V → Ω) (ca : Ω) (re : Option ezq_V → Ω) : Ω := ezq_j1 bot st fun y r => ezq_sto a (.inr (.inl y)) ls fun l => go (pc + 2) l r
noncomputable def ezq_a_astore_n  (Γ : ezq_G) (a b c d x pc : Nat) (ls : ezq_S) (st : List ezq_V) (sz : Nat) (t : ezq_T 7) (cl sl mc ms : Nat) (go : Nat → ezq_S → List ezq_V → Ω) (gh : Nat → List ezq_V → Nat → ezq_T 7 → Nat → Nat → Ω) (br : ClassFile.Cond → ezq_I → ezq_I → Nat → Nat → List ezq_V → Ω) (sw : List (Int × Int) → Int → ezq_I → List ezq_V → Ω) (ca : Ω) (re : Option ezq_V → Ω) : Ω := ezq_p1 bot st fun y r => ezq_sto a (.inr (.inr y)) ls fun l => go (pc + 1) l r
noncomputable def ezq_a_astore  (Γ : ezq_G) (a b c d x pc : Nat) (ls : ezq_S) (st : List ezq_V) (sz : Nat) (t : ezq_T 7) (cl sl mc ms : Nat) (go : Nat → ezq_S → List ezq_V → Ω) (gh : Nat → List ezq_V → Nat → ezq_T 7 → Nat → Nat → Ω) (br : ClassFile.Cond → ezq_I → ezq_I → Nat → Nat → List ezq_V → Ω) (sw : List (Int × Int) → Int → ezq_I → List ezq_V → Ω) (ca : Ω) (re : Option ezq_V → Ω) : Ω := ezq_p1 bot st fun y r => ezq_sto a (.inr (.inr y)) ls fun l => go (pc + 2) l r
noncomputable def ezq_a_iinc  (Γ : ezq_G) (a b c d x pc : Nat) (ls : ezq_S) (st : List ezq_V) (sz : Nat) (t : ezq_T 7) (cl sl mc ms : Nat) (go : Nat → ezq_S → List ezq_V → Ω) (gh : Nat → List ezq_V → Nat → ezq_T 7 → Nat → Nat → Ω) (br : ClassFile.Cond → ezq_I → ezq_I → Nat → Nat → List ezq_V → Ω) (sw : List (Int × Int) → Int → ezq_I → List ezq_V → Ω) (ca : Ω) (re : Option ezq_V → Ω) : Ω := ezq_lo bot ls a fun v => ezq_i1 bot [v] fun y _ => ezq_fi (ezq_o2 (fun x y => x + y) y (.inl b)) fun z => ezq_sto a (.inl z) ls fun l => go (pc + 3) l st
noncomputable def ezq_a_iadd  (Γ : ezq_G) (a b c d x pc : Nat) (ls : ezq_S) (st : List ezq_V) (sz : Nat) (t : ezq_T 7) (cl sl mc ms : Nat) (go : Nat → ezq_S → List ezq_V → Ω) (gh : Nat → List ezq_V → Nat → ezq_T 7 → Nat → Nat → Ω) (br : ClassFile.Cond → ezq_I → ezq_I → Nat → Nat → List ezq_V → Ω) (sw : List (Int × Int) → Int → ezq_I → List ezq_V → Ω) (ca : Ω) (re : Option ezq_V → Ω) : Ω := ezq_b2 bot (fun x y => x + y) st fun z r => go (pc + 1) ls (.inl z :: r)
noncomputable def ezq_a_isub  (Γ : ezq_G) (a b c d x pc : Nat) (ls : ezq_S) (st : List ezq_V) (sz : Nat) (t : ezq_T 7) (cl sl mc ms : Nat) (go : Nat → ezq_S → List ezq_V → Ω) (gh : Nat → List ezq_V → Nat → ezq_T 7 → Nat → Nat → Ω) (br : ClassFile.Cond → ezq_I → ezq_I → Nat → Nat → List ezq_V → Ω) (sw : List (Int × Int) → Int → ezq_I → List ezq_V → Ω) (ca : Ω) (re : Option ezq_V → Ω) : Ω := ezq_i1 bot st fun y r => ezq_i1 bot r fun x r => ezq_fi (ezq_sub x y) fun z => go (pc + 1) ls (.inl z :: r)
noncomputable def ezq_a_imul  (Γ : ezq_G) (a b c d x pc : Nat) (ls : ezq_S) (st : List ezq_V) (sz : Nat) (t : ezq_T 7) (cl sl mc ms : Nat) (go : Nat → ezq_S → List ezq_V → Ω) (gh : Nat → List ezq_V → Nat → ezq_T 7 → Nat → Nat → Ω) (br : ClassFile.Cond → ezq_I → ezq_I → Nat → Nat → List ezq_V → Ω) (sw : List (Int × Int) → Int → ezq_I → List ezq_V → Ω) (ca : Ω) (re : Option ezq_V → Ω) : Ω := ezq_b2 bot (fun x y => x * y) st fun z r => go (pc + 1) ls (.inl z :: r)
noncomputable def ezq_a_iand  (Γ : ezq_G) (a b c d x pc : Nat) (ls : ezq_S) (st : List ezq_V) (sz : Nat) (t : ezq_T 7) (cl sl mc ms : Nat) (go : Nat → ezq_S → List ezq_V → Ω) (gh : Nat → List ezq_V → Nat → ezq_T 7 → Nat → Nat → Ω) (br : ClassFile.Cond → ezq_I → ezq_I → Nat → Nat → List ezq_V → Ω) (sw : List (Int × Int) → Int → ezq_I → List ezq_V → Ω) (ca : Ω) (re : Option ezq_V → Ω) : Ω := ezq_i1 bot st fun y r => ezq_i1 bot r fun x r => ezq_fi (ezq_nm Γ (ezq_and x y)) fun z => go (pc + 1) ls (.inl z :: r)
noncomputable def ezq_a_ior  (Γ : ezq_G) (a b c d x pc : Nat) (ls : ezq_S) (st : List ezq_V) (sz : Nat) (t : ezq_T 7) (cl sl mc ms : Nat) (go : Nat → ezq_S → List ezq_V → Ω) (gh : Nat → List ezq_V → Nat → ezq_T 7 → Nat → Nat → Ω) (br : ClassFile.Cond → ezq_I → ezq_I → Nat → Nat → List ezq_V → Ω) (sw : List (Int × Int) → Int → ezq_I → List ezq_V → Ω) (ca : Ω) (re : Option ezq_V → Ω) : Ω := ezq_b2 bot (fun x y => x ||| y) st fun z r => go (pc + 1) ls (.inl z :: r)
noncomputable def ezq_a_ixor  (Γ : ezq_G) (a b c d x pc : Nat) (ls : ezq_S) (st : List ezq_V) (sz : Nat) (t : ezq_T 7) (cl sl mc ms : Nat) (go : Nat → ezq_S → List ezq_V → Ω) (gh : Nat → List ezq_V → Nat → ezq_T 7 → Nat → Nat → Ω) (br : ClassFile.Cond → ezq_I → ezq_I → Nat → Nat → List ezq_V → Ω) (sw : List (Int × Int) → Int → ezq_I → List ezq_V → Ω) (ca : Ω) (re : Option ezq_V → Ω) : Ω := ezq_b2 bot (fun x y => x ^^^ y) st fun z r => go (pc + 1) ls (.inl z :: r)
noncomputable def ezq_a_ishl  (Γ : ezq_G) (a b c d x pc : Nat) (ls : ezq_S) (st : List ezq_V) (sz : Nat) (t : ezq_T 7) (cl sl mc ms : Nat) (go : Nat → ezq_S → List ezq_V → Ω) (gh : Nat → List ezq_V → Nat → ezq_T 7 → Nat → Nat → Ω) (br : ClassFile.Cond → ezq_I → ezq_I → Nat → Nat → List ezq_V → Ω) (sw : List (Int × Int) → Int → ezq_I → List ezq_V → Ω) (ca : Ω) (re : Option ezq_V → Ω) : Ω := ezq_b2 bot (fun x y => x <<< (y &&& 31)) st fun z r => go (pc + 1) ls (.inl z :: r)
noncomputable def ezq_a_ishr  (Γ : ezq_G) (a b c d x pc : Nat) (ls : ezq_S) (st : List ezq_V) (sz : Nat) (t : ezq_T 7) (cl sl mc ms : Nat) (go : Nat → ezq_S → List ezq_V → Ω) (gh : Nat → List ezq_V → Nat → ezq_T 7 → Nat → Nat → Ω) (br : ClassFile.Cond → ezq_I → ezq_I → Nat → Nat → List ezq_V → Ω) (sw : List (Int × Int) → Int → ezq_I → List ezq_V → Ω) (ca : Ω) (re : Option ezq_V → Ω) : Ω := ezq_b2 bot (fun x y => x >>> (y &&& 31)) st fun z r => go (pc + 1) ls (.inl z :: r)
noncomputable def ezq_a_iushr  (Γ : ezq_G) (a b c d x pc : Nat) (ls : ezq_S) (st : List ezq_V) (sz : Nat) (t : ezq_T 7) (cl sl mc ms : Nat) (go : Nat → ezq_S → List ezq_V → Ω) (gh : Nat → List ezq_V → Nat → ezq_T 7 → Nat → Nat → Ω) (br : ClassFile.Cond → ezq_I → ezq_I → Nat → Nat → List ezq_V → Ω) (sw : List (Int × Int) → Int → ezq_I → List ezq_V → Ω) (ca : Ω) (re : Option ezq_V → Ω) : Ω := ezq_b2 bot (fun x y => (x.toUInt32 >>> (y.toUInt32 &&& Int32.toUInt32 31)).toInt32) st fun z r => go (pc + 1) ls (.inl z :: r)
noncomputable def ezq_a_idiv  (Γ : ezq_G) (a b c d x pc : Nat) (ls : ezq_S) (st : List ezq_V) (sz : Nat) (t : ezq_T 7) (cl sl mc ms : Nat) (go : Nat → ezq_S → List ezq_V → Ω) (gh : Nat → List ezq_V → Nat → ezq_T 7 → Nat → Nat → Ω) (br : ClassFile.Cond → ezq_I → ezq_I → Nat → Nat → List ezq_V → Ω) (sw : List (Int × Int) → Int → ezq_I → List ezq_V → Ω) (ca : Ω) (re : Option ezq_V → Ω) : Ω := ezq_div bot (fun x y => x / y) st fun z r => go (pc + 1) ls (.inl z :: r)
noncomputable def ezq_a_irem  (Γ : ezq_G) (a b c d x pc : Nat) (ls : ezq_S) (st : List ezq_V) (sz : Nat) (t : ezq_T 7) (cl sl mc ms : Nat) (go : Nat → ezq_S → List ezq_V → Ω) (gh : Nat → List ezq_V → Nat → ezq_T 7 → Nat → Nat → Ω) (br : ClassFile.Cond → ezq_I → ezq_I → Nat → Nat → List ezq_V → Ω) (sw : List (Int × Int) → Int → ezq_I → List ezq_V → Ω) (ca : Ω) (re : Option ezq_V → Ω) : Ω := ezq_div bot (fun x y => x - x / y * y) st fun z r => go (pc + 1) ls (.inl z :: r)
noncomputable def ezq_a_ineg  (Γ : ezq_G) (a b c d x pc : Nat) (ls : ezq_S) (st : List ezq_V) (sz : Nat) (t : ezq_T 7) (cl sl mc ms : Nat) (go : Nat → ezq_S → List ezq_V → Ω) (gh : Nat → List ezq_V → Nat → ezq_T 7 → Nat → Nat → Ω) (br : ClassFile.Cond → ezq_I → ezq_I → Nat → Nat → List ezq_V → Ω) (sw : List (Int × Int) → Int → ezq_I → List ezq_V → Ω) (ca : Ω) (re : Option ezq_V → Ω) : Ω := ezq_i1 bot st fun y r => ezq_fi (ezq_o1 (fun x => -x) y) fun z => go (pc + 1) ls (.inl z :: r)
noncomputable def ezq_a_i2l  (Γ : ezq_G) (a b c d x pc : Nat) (ls : ezq_S) (st : List ezq_V) (sz : Nat) (t : ezq_T 7) (cl sl mc ms : Nat) (go : Nat → ezq_S → List ezq_V → Ω) (gh : Nat → List ezq_V → Nat → ezq_T 7 → Nat → Nat → Ω) (br : ClassFile.Cond → ezq_I → ezq_I → Nat → Nat → List ezq_V → Ω) (sw : List (Int × Int) → Int → ezq_I → List ezq_V → Ω) (ca : Ω) (re : Option ezq_V → Ω) : Ω := ezq_i1 bot st fun y r => ezq_fl (ezq_i2l y) fun z => go (pc + 1) ls (.inr (.inl z) :: r)
noncomputable def ezq_a_i2b  (Γ : ezq_G) (a b c d x pc : Nat) (ls : ezq_S) (st : List ezq_V) (sz : Nat) (t : ezq_T 7) (cl sl mc ms : Nat) (go : Nat → ezq_S → List ezq_V → Ω) (gh : Nat → List ezq_V → Nat → ezq_T 7 → Nat → Nat → Ω) (br : ClassFile.Cond → ezq_I → ezq_I → Nat → Nat → List ezq_V → Ω) (sw : List (Int × Int) → Int → ezq_I → List ezq_V → Ω) (ca : Ω) (re : Option ezq_V → Ω) : Ω := ezq_i1 bot st fun y r => ezq_fi (ezq_o1 (fun x => x.toInt8.toInt32) y) fun z => go (pc + 1) ls (.inl z :: r)
noncomputable def ezq_a_i2c  (Γ : ezq_G) (a b c d x pc : Nat) (ls : ezq_S) (st : List ezq_V) (sz : Nat) (t : ezq_T 7) (cl sl mc ms : Nat) (go : Nat → ezq_S → List ezq_V → Ω) (gh : Nat → List ezq_V → Nat → ezq_T 7 → Nat → Nat → Ω) (br : ClassFile.Cond → ezq_I → ezq_I → Nat → Nat → List ezq_V → Ω) (sw : List (Int × Int) → Int → ezq_I → List ezq_V → Ω) (ca : Ω) (re : Option ezq_V → Ω) : Ω := ezq_i1 bot st fun y r => ezq_fi (ezq_o1 (fun x => (x.toUInt32 % 65536).toInt32) y) fun z => go (pc + 1) ls (.inl z :: r)
noncomputable def ezq_a_l2i  (Γ : ezq_G) (a b c d x pc : Nat) (ls : ezq_S) (st : List ezq_V) (sz : Nat) (t : ezq_T 7) (cl sl mc ms : Nat) (go : Nat → ezq_S → List ezq_V → Ω) (gh : Nat → List ezq_V → Nat → ezq_T 7 → Nat → Nat → Ω) (br : ClassFile.Cond → ezq_I → ezq_I → Nat → Nat → List ezq_V → Ω) (sw : List (Int × Int) → Int → ezq_I → List ezq_V → Ω) (ca : Ω) (re : Option ezq_V → Ω) : Ω := ezq_j1 bot st fun y r => ezq_fi (ezq_li (fun x => x.toInt32) y) fun z => go (pc + 1) ls (.inl z :: r)
noncomputable def ezq_a_lcmp  (Γ : ezq_G) (a b c d x pc : Nat) (ls : ezq_S) (st : List ezq_V) (sz : Nat) (t : ezq_T 7) (cl sl mc ms : Nat) (go : Nat → ezq_S → List ezq_V → Ω) (gh : Nat → List ezq_V → Nat → ezq_T 7 → Nat → Nat → Ω) (br : ClassFile.Cond → ezq_I → ezq_I → Nat → Nat → List ezq_V → Ω) (sw : List (Int × Int) → Int → ezq_I → List ezq_V → Ω) (ca : Ω) (re : Option ezq_V → Ω) : Ω := ezq_j1 bot st fun y r => ezq_j1 bot r fun x r => ezq_fi (ezq_lli lg_cmp x y) fun z => go (pc + 1) ls (.inl z :: r)
noncomputable def ezq_a_ladd  (Γ : ezq_G) (a b c d x pc : Nat) (ls : ezq_S) (st : List ezq_V) (sz : Nat) (t : ezq_T 7) (cl sl mc ms : Nat) (go : Nat → ezq_S → List ezq_V → Ω) (gh : Nat → List ezq_V → Nat → ezq_T 7 → Nat → Nat → Ω) (br : ClassFile.Cond → ezq_I → ezq_I → Nat → Nat → List ezq_V → Ω) (sw : List (Int × Int) → Int → ezq_I → List ezq_V → Ω) (ca : Ω) (re : Option ezq_V → Ω) : Ω := ezq_bl bot (fun x y => x + y) st fun z r => go (pc + 1) ls (.inr (.inl z) :: r)
noncomputable def ezq_a_lsub  (Γ : ezq_G) (a b c d x pc : Nat) (ls : ezq_S) (st : List ezq_V) (sz : Nat) (t : ezq_T 7) (cl sl mc ms : Nat) (go : Nat → ezq_S → List ezq_V → Ω) (gh : Nat → List ezq_V → Nat → ezq_T 7 → Nat → Nat → Ω) (br : ClassFile.Cond → ezq_I → ezq_I → Nat → Nat → List ezq_V → Ω) (sw : List (Int × Int) → Int → ezq_I → List ezq_V → Ω) (ca : Ω) (re : Option ezq_V → Ω) : Ω := ezq_bl bot (fun x y => x - y) st fun z r => go (pc + 1) ls (.inr (.inl z) :: r)
noncomputable def ezq_a_lmul  (Γ : ezq_G) (a b c d x pc : Nat) (ls : ezq_S) (st : List ezq_V) (sz : Nat) (t : ezq_T 7) (cl sl mc ms : Nat) (go : Nat → ezq_S → List ezq_V → Ω) (gh : Nat → List ezq_V → Nat → ezq_T 7 → Nat → Nat → Ω) (br : ClassFile.Cond → ezq_I → ezq_I → Nat → Nat → List ezq_V → Ω) (sw : List (Int × Int) → Int → ezq_I → List ezq_V → Ω) (ca : Ω) (re : Option ezq_V → Ω) : Ω := ezq_bl bot (fun x y => x * y) st fun z r => go (pc + 1) ls (.inr (.inl z) :: r)
noncomputable def ezq_a_land  (Γ : ezq_G) (a b c d x pc : Nat) (ls : ezq_S) (st : List ezq_V) (sz : Nat) (t : ezq_T 7) (cl sl mc ms : Nat) (go : Nat → ezq_S → List ezq_V → Ω) (gh : Nat → List ezq_V → Nat → ezq_T 7 → Nat → Nat → Ω) (br : ClassFile.Cond → ezq_I → ezq_I → Nat → Nat → List ezq_V → Ω) (sw : List (Int × Int) → Int → ezq_I → List ezq_V → Ω) (ca : Ω) (re : Option ezq_V → Ω) : Ω := ezq_j1 bot st fun y r => ezq_j1 bot r fun x r => ezq_fl (ezq_lan x y) fun z => go (pc + 1) ls (.inr (.inl z) :: r)
noncomputable def ezq_a_lor  (Γ : ezq_G) (a b c d x pc : Nat) (ls : ezq_S) (st : List ezq_V) (sz : Nat) (t : ezq_T 7) (cl sl mc ms : Nat) (go : Nat → ezq_S → List ezq_V → Ω) (gh : Nat → List ezq_V → Nat → ezq_T 7 → Nat → Nat → Ω) (br : ClassFile.Cond → ezq_I → ezq_I → Nat → Nat → List ezq_V → Ω) (sw : List (Int × Int) → Int → ezq_I → List ezq_V → Ω) (ca : Ω) (re : Option ezq_V → Ω) : Ω := ezq_j1 bot st fun y r => ezq_j1 bot r fun x r => ezq_fl (ezq_lor x y) fun z => go (pc + 1) ls (.inr (.inl z) :: r)
noncomputable def ezq_a_lxor  (Γ : ezq_G) (a b c d x pc : Nat) (ls : ezq_S) (st : List ezq_V) (sz : Nat) (t : ezq_T 7) (cl sl mc ms : Nat) (go : Nat → ezq_S → List ezq_V → Ω) (gh : Nat → List ezq_V → Nat → ezq_T 7 → Nat → Nat → Ω) (br : ClassFile.Cond → ezq_I → ezq_I → Nat → Nat → List ezq_V → Ω) (sw : List (Int × Int) → Int → ezq_I → List ezq_V → Ω) (ca : Ω) (re : Option ezq_V → Ω) : Ω := ezq_bl bot (fun x y => x ^^^ y) st fun z r => go (pc + 1) ls (.inr (.inl z) :: r)
noncomputable def ezq_a_ldiv  (Γ : ezq_G) (a b c d x pc : Nat) (ls : ezq_S) (st : List ezq_V) (sz : Nat) (t : ezq_T 7) (cl sl mc ms : Nat) (go : Nat → ezq_S → List ezq_V → Ω) (gh : Nat → List ezq_V → Nat → ezq_T 7 → Nat → Nat → Ω) (br : ClassFile.Cond → ezq_I → ezq_I → Nat → Nat → List ezq_V → Ω) (sw : List (Int × Int) → Int → ezq_I → List ezq_V → Ω) (ca : Ω) (re : Option ezq_V → Ω) : Ω := ezq_ldv bot (fun x y => x / y) st fun z r => go (pc + 1) ls (.inr (.inl z) :: r)
noncomputable def ezq_a_lrem  (Γ : ezq_G) (a b c d x pc : Nat) (ls : ezq_S) (st : List ezq_V) (sz : Nat) (t : ezq_T 7) (cl sl mc ms : Nat) (go : Nat → ezq_S → List ezq_V → Ω) (gh : Nat → List ezq_V → Nat → ezq_T 7 → Nat → Nat → Ω) (br : ClassFile.Cond → ezq_I → ezq_I → Nat → Nat → List ezq_V → Ω) (sw : List (Int × Int) → Int → ezq_I → List ezq_V → Ω) (ca : Ω) (re : Option ezq_V → Ω) : Ω := ezq_ldv bot (fun x y => x - x / y * y) st fun z r => go (pc + 1) ls (.inr (.inl z) :: r)
noncomputable def ezq_a_lshl  (Γ : ezq_G) (a b c d x pc : Nat) (ls : ezq_S) (st : List ezq_V) (sz : Nat) (t : ezq_T 7) (cl sl mc ms : Nat) (go : Nat → ezq_S → List ezq_V → Ω) (gh : Nat → List ezq_V → Nat → ezq_T 7 → Nat → Nat → Ω) (br : ClassFile.Cond → ezq_I → ezq_I → Nat → Nat → List ezq_V → Ω) (sw : List (Int × Int) → Int → ezq_I → List ezq_V → Ω) (ca : Ω) (re : Option ezq_V → Ω) : Ω := ezq_i1 bot st fun y r => ezq_j1 bot r fun x r => ezq_fl (ezq_shl x y) fun z => go (pc + 1) ls (.inr (.inl z) :: r)
noncomputable def ezq_a_lshr  (Γ : ezq_G) (a b c d x pc : Nat) (ls : ezq_S) (st : List ezq_V) (sz : Nat) (t : ezq_T 7) (cl sl mc ms : Nat) (go : Nat → ezq_S → List ezq_V → Ω) (gh : Nat → List ezq_V → Nat → ezq_T 7 → Nat → Nat → Ω) (br : ClassFile.Cond → ezq_I → ezq_I → Nat → Nat → List ezq_V → Ω) (sw : List (Int × Int) → Int → ezq_I → List ezq_V → Ω) (ca : Ω) (re : Option ezq_V → Ω) : Ω := ezq_sh bot (fun x y => x >>> (y.toInt64 &&& 63)) st fun z r => go (pc + 1) ls (.inr (.inl z) :: r)
noncomputable def ezq_a_lushr  (Γ : ezq_G) (a b c d x pc : Nat) (ls : ezq_S) (st : List ezq_V) (sz : Nat) (t : ezq_T 7) (cl sl mc ms : Nat) (go : Nat → ezq_S → List ezq_V → Ω) (gh : Nat → List ezq_V → Nat → ezq_T 7 → Nat → Nat → Ω) (br : ClassFile.Cond → ezq_I → ezq_I → Nat → Nat → List ezq_V → Ω) (sw : List (Int × Int) → Int → ezq_I → List ezq_V → Ω) (ca : Ω) (re : Option ezq_V → Ω) : Ω := ezq_sh bot (fun x y => (x.toUInt64 >>> (y.toInt64.toUInt64 &&& Int64.toUInt64 63)).toInt64) st fun z r => go (pc + 1) ls (.inr (.inl z) :: r)
noncomputable def ezq_a_dup  (Γ : ezq_G) (a b c d x pc : Nat) (ls : ezq_S) (st : List ezq_V) (sz : Nat) (t : ezq_T 7) (cl sl mc ms : Nat) (go : Nat → ezq_S → List ezq_V → Ω) (gh : Nat → List ezq_V → Nat → ezq_T 7 → Nat → Nat → Ω) (br : ClassFile.Cond → ezq_I → ezq_I → Nat → Nat → List ezq_V → Ω) (sw : List (Int × Int) → Int → ezq_I → List ezq_V → Ω) (ca : Ω) (re : Option ezq_V → Ω) : Ω := ezq_v1 bot st fun y r => go (pc + 1) ls (y :: y :: r)
noncomputable def ezq_a_pop  (Γ : ezq_G) (a b c d x pc : Nat) (ls : ezq_S) (st : List ezq_V) (sz : Nat) (t : ezq_T 7) (cl sl mc ms : Nat) (go : Nat → ezq_S → List ezq_V → Ω) (gh : Nat → List ezq_V → Nat → ezq_T 7 → Nat → Nat → Ω) (br : ClassFile.Cond → ezq_I → ezq_I → Nat → Nat → List ezq_V → Ω) (sw : List (Int × Int) → Int → ezq_I → List ezq_V → Ω) (ca : Ω) (re : Option ezq_V → Ω) : Ω := ezq_v1 bot st fun _ r => go (pc + 1) ls r
noncomputable def ezq_a_dup2  (Γ : ezq_G) (a b c d x pc : Nat) (ls : ezq_S) (st : List ezq_V) (sz : Nat) (t : ezq_T 7) (cl sl mc ms : Nat) (go : Nat → ezq_S → List ezq_V → Ω) (gh : Nat → List ezq_V → Nat → ezq_T 7 → Nat → Nat → Ω) (br : ClassFile.Cond → ezq_I → ezq_I → Nat → Nat → List ezq_V → Ω) (sw : List (Int × Int) → Int → ezq_I → List ezq_V → Ω) (ca : Ω) (re : Option ezq_V → Ω) : Ω := ezq_v1 bot st fun y r => ezq_v1 bot r fun z r => go (pc + 1) ls (y :: z :: y :: z :: r)
noncomputable def ezq_a_ifCond (cc : ClassFile.Cond) (Γ : ezq_G) (a b c d x pc : Nat) (ls : ezq_S) (st : List ezq_V) (sz : Nat) (t : ezq_T 7) (cl sl mc ms : Nat) (go : Nat → ezq_S → List ezq_V → Ω) (gh : Nat → List ezq_V → Nat → ezq_T 7 → Nat → Nat → Ω) (br : ClassFile.Cond → ezq_I → ezq_I → Nat → Nat → List ezq_V → Ω) (sw : List (Int × Int) → Int → ezq_I → List ezq_V → Ω) (ca : Ω) (re : Option ezq_V → Ω) : Ω := ezq_i1 bot st fun y r => br cc y (.inl 0) a (pc + 3) r
noncomputable def ezq_a_if_icmp (cc : ClassFile.Cond) (Γ : ezq_G) (a b c d x pc : Nat) (ls : ezq_S) (st : List ezq_V) (sz : Nat) (t : ezq_T 7) (cl sl mc ms : Nat) (go : Nat → ezq_S → List ezq_V → Ω) (gh : Nat → List ezq_V → Nat → ezq_T 7 → Nat → Nat → Ω) (br : ClassFile.Cond → ezq_I → ezq_I → Nat → Nat → List ezq_V → Ω) (sw : List (Int × Int) → Int → ezq_I → List ezq_V → Ω) (ca : Ω) (re : Option ezq_V → Ω) : Ω := ezq_i1 bot st fun y r => ezq_i1 bot r fun x r => br cc x y a (pc + 3) r
noncomputable def ezq_a_goto  (Γ : ezq_G) (a b c d x pc : Nat) (ls : ezq_S) (st : List ezq_V) (sz : Nat) (t : ezq_T 7) (cl sl mc ms : Nat) (go : Nat → ezq_S → List ezq_V → Ω) (gh : Nat → List ezq_V → Nat → ezq_T 7 → Nat → Nat → Ω) (br : ClassFile.Cond → ezq_I → ezq_I → Nat → Nat → List ezq_V → Ω) (sw : List (Int × Int) → Int → ezq_I → List ezq_V → Ω) (ca : Ω) (re : Option ezq_V → Ω) : Ω := go a ls st
noncomputable def ezq_a_ifnull  (Γ : ezq_G) (a b c d x pc : Nat) (ls : ezq_S) (st : List ezq_V) (sz : Nat) (t : ezq_T 7) (cl sl mc ms : Nat) (go : Nat → ezq_S → List ezq_V → Ω) (gh : Nat → List ezq_V → Nat → ezq_T 7 → Nat → Nat → Ω) (br : ClassFile.Cond → ezq_I → ezq_I → Nat → Nat → List ezq_V → Ω) (sw : List (Int × Int) → Int → ezq_I → List ezq_V → Ω) (ca : Ω) (re : Option ezq_V → Ω) : Ω := ezq_p1 bot st fun p r => match p with
      | none => go a ls r
      | some (.inl _) => go (pc + 3) ls r
      | some (.inr i) => bif Nat.beq i 1 then go (pc + 3) ls r else bot
noncomputable def ezq_a_tableswitch (df lo : Int) (offs : Array Int) (Γ : ezq_G) (a b c d x pc : Nat) (ls : ezq_S) (st : List ezq_V) (sz : Nat) (t : ezq_T 7) (cl sl mc ms : Nat) (go : Nat → ezq_S → List ezq_V → Ω) (gh : Nat → List ezq_V → Nat → ezq_T 7 → Nat → Nat → Ω) (br : ClassFile.Cond → ezq_I → ezq_I → Nat → Nat → List ezq_V → Ω) (sw : List (Int × Int) → Int → ezq_I → List ezq_V → Ω) (ca : Ω) (re : Option ezq_V → Ω) : Ω := ezq_i1 bot st fun y r => sw (offs.toList.zipIdx.map fun q => (lo + (q.2 : Int), q.1)) df y r
noncomputable def ezq_a_lookupswitch (df : Int) (ps : Array (Int × Int)) (Γ : ezq_G) (a b c d x pc : Nat) (ls : ezq_S) (st : List ezq_V) (sz : Nat) (t : ezq_T 7) (cl sl mc ms : Nat) (go : Nat → ezq_S → List ezq_V → Ω) (gh : Nat → List ezq_V → Nat → ezq_T 7 → Nat → Nat → Ω) (br : ClassFile.Cond → ezq_I → ezq_I → Nat → Nat → List ezq_V → Ω) (sw : List (Int × Int) → Int → ezq_I → List ezq_V → Ω) (ca : Ω) (re : Option ezq_V → Ω) : Ω := ezq_i1 bot st fun y r => sw ps.toList df y r
noncomputable def ezq_a_getfield  (Γ : ezq_G) (a b c d x pc : Nat) (ls : ezq_S) (st : List ezq_V) (sz : Nat) (t : ezq_T 7) (cl sl mc ms : Nat) (go : Nat → ezq_S → List ezq_V → Ω) (gh : Nat → List ezq_V → Nat → ezq_T 7 → Nat → Nat → Ω) (br : ClassFile.Cond → ezq_I → ezq_I → Nat → Nat → List ezq_V → Ω) (sw : List (Int × Int) → Int → ezq_I → List ezq_V → Ω) (ca : Ω) (re : Option ezq_V → Ω) : Ω := ezq_p1 bot st fun p r => bif Nat.beq a 100 then (match p with
        | some (.inr 2) => go (pc + 3) ls (ezq_xt 3 :: r)
        | some (.inr 4) => go (pc + 3) ls (ezq_xt 5 :: r)
        | _ => bot) else bif Nat.beq a 101 then (match p with
        | some (.inr 2) => go (pc + 3) ls (ezq_kn 0 :: r)
        | some (.inr 4) => go (pc + 3) ls (ezq_kn 0 :: r)
        | _ => bot) else ezq_ob bot sz t p fun _ ci fs => bif Nat.beq ci a then (match fs[b]? with
        | some v => go (pc + 3) ls (v :: r)
        | none => bot) else bot
noncomputable def ezq_a_putfield  (Γ : ezq_G) (a b c d x pc : Nat) (ls : ezq_S) (st : List ezq_V) (sz : Nat) (t : ezq_T 7) (cl sl mc ms : Nat) (go : Nat → ezq_S → List ezq_V → Ω) (gh : Nat → List ezq_V → Nat → ezq_T 7 → Nat → Nat → Ω) (br : ClassFile.Cond → ezq_I → ezq_I → Nat → Nat → List ezq_V → Ω) (sw : List (Int × Int) → Int → ezq_I → List ezq_V → Ω) (ca : Ω) (re : Option ezq_V → Ω) : Ω := ezq_w1 bot d st fun v r => ezq_p1 bot r fun p r => ezq_ob bot sz t p fun q ci fs => bif Nat.beq ci a then (ezq_lset fs b v fun fs' => ezq_ts 7 t q (.inl (ci, fs')) fun t' => gh (pc + 3) r sz t' cl sl) else bot
noncomputable def ezq_a_getstatic  (Γ : ezq_G) (a b c d x pc : Nat) (ls : ezq_S) (st : List ezq_V) (sz : Nat) (t : ezq_T 7) (cl sl mc ms : Nat) (go : Nat → ezq_S → List ezq_V → Ω) (gh : Nat → List ezq_V → Nat → ezq_T 7 → Nat → Nat → Ω) (br : ClassFile.Cond → ezq_I → ezq_I → Nat → Nat → List ezq_V → Ω) (sw : List (Int × Int) → Int → ezq_I → List ezq_V → Ω) (ca : Ω) (re : Option ezq_V → Ω) : Ω := match a with
      | 0 => go (pc + 3) ls (ezq_xt 1 :: st)
      | 1 => go (pc + 3) ls (ezq_kn 1 :: st)
      | 2 => go (pc + 3) ls (ezq_xt 6 :: st)
      | _ => bot
noncomputable def ezq_a_new  (Γ : ezq_G) (a b c d x pc : Nat) (ls : ezq_S) (st : List ezq_V) (sz : Nat) (t : ezq_T 7) (cl sl mc ms : Nat) (go : Nat → ezq_S → List ezq_V → Ω) (gh : Nat → List ezq_V → Nat → ezq_T 7 → Nat → Nat → Ω) (br : ClassFile.Cond → ezq_I → ezq_I → Nat → Nat → List ezq_V → Ω) (sw : List (Int × Int) → Int → ezq_I → List ezq_V → Ω) (ca : Ω) (re : Option ezq_V → Ω) : Ω := bif Nat.beq a 99 then bot else ezq_al bot sz t cl sl mc ms b (.inl (a, ezq_dfl a)) fun sz' t' cl' sl' => gh (pc + 3) (ezq_ow sz :: st) sz' t' cl' sl'
noncomputable def ezq_a_newarray (ty : ArrayType) (Γ : ezq_G) (a b c d x pc : Nat) (ls : ezq_S) (st : List ezq_V) (sz : Nat) (t : ezq_T 7) (cl sl mc ms : Nat) (go : Nat → ezq_S → List ezq_V → Ω) (gh : Nat → List ezq_V → Nat → ezq_T 7 → Nat → Nat → Ω) (br : ClassFile.Cond → ezq_I → ezq_I → Nat → Nat → List ezq_V → Ω) (sw : List (Int × Int) → Int → ezq_I → List ezq_V → Ω) (ca : Ω) (re : Option ezq_V → Ω) : Ω := ezq_i1 bot st fun y r => match y with
      | .inl n => bif Nat.ble n 100000 && Nat.ble (ezq_ary ty) 2 then ezq_al bot sz t cl sl mc ms n (.inr (ezq_ary ty, n, fun _ => ezq_ard ty)) fun sz' t' cl' sl' => gh (pc + 2) (ezq_ow sz :: r) sz' t' cl' sl' else bot
      | _ => bot
noncomputable def ezq_a_arraylength  (Γ : ezq_G) (a b c d x pc : Nat) (ls : ezq_S) (st : List ezq_V) (sz : Nat) (t : ezq_T 7) (cl sl mc ms : Nat) (go : Nat → ezq_S → List ezq_V → Ω) (gh : Nat → List ezq_V → Nat → ezq_T 7 → Nat → Nat → Ω) (br : ClassFile.Cond → ezq_I → ezq_I → Nat → Nat → List ezq_V → Ω) (sw : List (Int × Int) → Int → ezq_I → List ezq_V → Ω) (ca : Ω) (re : Option ezq_V → Ω) : Ω := ezq_p1 bot st fun p r => match p with
      | some (.inl q) => ezq_ar bot sz t (some (.inl q)) fun _ _ n _ => go (pc + 1) ls (ezq_kn n :: r)
      | some (.inr i) => match i with
        | 0 => go (pc + 1) ls (.inl (ezq_nm Γ (.inr (.inl 8))) :: r)
        | 1 => go (pc + 1) ls (ezq_kn 11 :: r)
        | 3 => go (pc + 1) ls (ezq_kn 254 :: r)
        | 5 => go (pc + 1) ls (ezq_kn 8 :: r)
        | _ => bot
      | none => bot
noncomputable def ezq_a_iaload  (Γ : ezq_G) (a b c d x pc : Nat) (ls : ezq_S) (st : List ezq_V) (sz : Nat) (t : ezq_T 7) (cl sl mc ms : Nat) (go : Nat → ezq_S → List ezq_V → Ω) (gh : Nat → List ezq_V → Nat → ezq_T 7 → Nat → Nat → Ω) (br : ClassFile.Cond → ezq_I → ezq_I → Nat → Nat → List ezq_V → Ω) (sw : List (Int × Int) → Int → ezq_I → List ezq_V → Ω) (ca : Ω) (re : Option ezq_V → Ω) : Ω := ezq_i1 bot st fun y r => ezq_p1 bot r fun p r => match y with
      | .inl m => ezq_ald bot Γ sz t 0 m p fun v => ezq_i1 bot [v] fun z _ => go (pc + 1) ls (.inl (ezq_nm Γ z) :: r)
      | _ => bot
noncomputable def ezq_a_laload  (Γ : ezq_G) (a b c d x pc : Nat) (ls : ezq_S) (st : List ezq_V) (sz : Nat) (t : ezq_T 7) (cl sl mc ms : Nat) (go : Nat → ezq_S → List ezq_V → Ω) (gh : Nat → List ezq_V → Nat → ezq_T 7 → Nat → Nat → Ω) (br : ClassFile.Cond → ezq_I → ezq_I → Nat → Nat → List ezq_V → Ω) (sw : List (Int × Int) → Int → ezq_I → List ezq_V → Ω) (ca : Ω) (re : Option ezq_V → Ω) : Ω := ezq_i1 bot st fun y r => ezq_p1 bot r fun p r => match y with
      | .inl m => ezq_ald bot Γ sz t 1 m p fun v => ezq_j1 bot [v] fun z _ => go (pc + 1) ls (.inr (.inl z) :: r)
      | _ => bot
noncomputable def ezq_a_baload  (Γ : ezq_G) (a b c d x pc : Nat) (ls : ezq_S) (st : List ezq_V) (sz : Nat) (t : ezq_T 7) (cl sl mc ms : Nat) (go : Nat → ezq_S → List ezq_V → Ω) (gh : Nat → List ezq_V → Nat → ezq_T 7 → Nat → Nat → Ω) (br : ClassFile.Cond → ezq_I → ezq_I → Nat → Nat → List ezq_V → Ω) (sw : List (Int × Int) → Int → ezq_I → List ezq_V → Ω) (ca : Ω) (re : Option ezq_V → Ω) : Ω := ezq_i1 bot st fun y r => ezq_p1 bot r fun p r => match y with
      | .inl m => ezq_ald bot Γ sz t 2 m p fun v => ezq_i1 bot [v] fun z _ => go (pc + 1) ls (.inl (ezq_nm Γ z) :: r)
      | _ => bot
noncomputable def ezq_a_iastore  (Γ : ezq_G) (a b c d x pc : Nat) (ls : ezq_S) (st : List ezq_V) (sz : Nat) (t : ezq_T 7) (cl sl mc ms : Nat) (go : Nat → ezq_S → List ezq_V → Ω) (gh : Nat → List ezq_V → Nat → ezq_T 7 → Nat → Nat → Ω) (br : ClassFile.Cond → ezq_I → ezq_I → Nat → Nat → List ezq_V → Ω) (sw : List (Int × Int) → Int → ezq_I → List ezq_V → Ω) (ca : Ω) (re : Option ezq_V → Ω) : Ω := ezq_i1 bot st fun v r => ezq_ast bot sz t 0 (.inl v) r fun r t' => gh (pc + 1) r sz t' cl sl
noncomputable def ezq_a_lastore  (Γ : ezq_G) (a b c d x pc : Nat) (ls : ezq_S) (st : List ezq_V) (sz : Nat) (t : ezq_T 7) (cl sl mc ms : Nat) (go : Nat → ezq_S → List ezq_V → Ω) (gh : Nat → List ezq_V → Nat → ezq_T 7 → Nat → Nat → Ω) (br : ClassFile.Cond → ezq_I → ezq_I → Nat → Nat → List ezq_V → Ω) (sw : List (Int × Int) → Int → ezq_I → List ezq_V → Ω) (ca : Ω) (re : Option ezq_V → Ω) : Ω := ezq_j1 bot st fun v r => ezq_ast bot sz t 1 (.inr (.inl v)) r fun r t' => gh (pc + 1) r sz t' cl sl
noncomputable def ezq_a_bastore  (Γ : ezq_G) (a b c d x pc : Nat) (ls : ezq_S) (st : List ezq_V) (sz : Nat) (t : ezq_T 7) (cl sl mc ms : Nat) (go : Nat → ezq_S → List ezq_V → Ω) (gh : Nat → List ezq_V → Nat → ezq_T 7 → Nat → Nat → Ω) (br : ClassFile.Cond → ezq_I → ezq_I → Nat → Nat → List ezq_V → Ω) (sw : List (Int × Int) → Int → ezq_I → List ezq_V → Ω) (ca : Ω) (re : Option ezq_V → Ω) : Ω := ezq_w1 bot 2 st fun v r => ezq_ast bot sz t 2 v r fun r t' => gh (pc + 1) r sz t' cl sl
noncomputable def ezq_a_ldc  (Γ : ezq_G) (a b c d x pc : Nat) (ls : ezq_S) (st : List ezq_V) (sz : Nat) (t : ezq_T 7) (cl sl mc ms : Nat) (go : Nat → ezq_S → List ezq_V → Ω) (gh : Nat → List ezq_V → Nat → ezq_T 7 → Nat → Nat → Ω) (br : ClassFile.Cond → ezq_I → ezq_I → Nat → Nat → List ezq_V → Ω) (sw : List (Int × Int) → Int → ezq_I → List ezq_V → Ω) (ca : Ω) (re : Option ezq_V → Ω) : Ω := match a with
      | 0 => go (pc + 2) ls (ezq_kn b :: st)
      | 1 => bif Nat.ble b 1 then go (pc + 2) ls (ezq_xt (2 + 2 * b) :: st) else bot
      | _ => bot
noncomputable def ezq_a_ldc_w  (Γ : ezq_G) (a b c d x pc : Nat) (ls : ezq_S) (st : List ezq_V) (sz : Nat) (t : ezq_T 7) (cl sl mc ms : Nat) (go : Nat → ezq_S → List ezq_V → Ω) (gh : Nat → List ezq_V → Nat → ezq_T 7 → Nat → Nat → Ω) (br : ClassFile.Cond → ezq_I → ezq_I → Nat → Nat → List ezq_V → Ω) (sw : List (Int × Int) → Int → ezq_I → List ezq_V → Ω) (ca : Ω) (re : Option ezq_V → Ω) : Ω := match a with
      | 0 => go (pc + 3) ls (ezq_kn b :: st)
      | _ => bot
noncomputable def ezq_a_ldc2_w  (Γ : ezq_G) (a b c d x pc : Nat) (ls : ezq_S) (st : List ezq_V) (sz : Nat) (t : ezq_T 7) (cl sl mc ms : Nat) (go : Nat → ezq_S → List ezq_V → Ω) (gh : Nat → List ezq_V → Nat → ezq_T 7 → Nat → Nat → Ω) (br : ClassFile.Cond → ezq_I → ezq_I → Nat → Nat → List ezq_V → Ω) (sw : List (Int × Int) → Int → ezq_I → List ezq_V → Ω) (ca : Ω) (re : Option ezq_V → Ω) : Ω := match b with
      | 0 => go (pc + 3) ls (.inr (.inl (.inl a)) :: st)
      | _ => bot
noncomputable def ezq_a_checkcast  (Γ : ezq_G) (a b c d x pc : Nat) (ls : ezq_S) (st : List ezq_V) (sz : Nat) (t : ezq_T 7) (cl sl mc ms : Nat) (go : Nat → ezq_S → List ezq_V → Ω) (gh : Nat → List ezq_V → Nat → ezq_T 7 → Nat → Nat → Ω) (br : ClassFile.Cond → ezq_I → ezq_I → Nat → Nat → List ezq_V → Ω) (sw : List (Int × Int) → Int → ezq_I → List ezq_V → Ω) (ca : Ω) (re : Option ezq_V → Ω) : Ω := ezq_p1 bot st fun p r => ezq_ar bot sz t p fun _ ty _ _ => bif Nat.beq ty 0 then go (pc + 3) ls (.inr (.inr p) :: r) else bot
noncomputable def ezq_a_invokevirtual  (Γ : ezq_G) (a b c d x pc : Nat) (ls : ezq_S) (st : List ezq_V) (sz : Nat) (t : ezq_T 7) (cl sl mc ms : Nat) (go : Nat → ezq_S → List ezq_V → Ω) (gh : Nat → List ezq_V → Nat → ezq_T 7 → Nat → Nat → Ω) (br : ClassFile.Cond → ezq_I → ezq_I → Nat → Nat → List ezq_V → Ω) (sw : List (Int × Int) → Int → ezq_I → List ezq_V → Ω) (ca : Ω) (re : Option ezq_V → Ω) : Ω := bif Nat.beq c 8 then (ezq_p1 bot st fun p r => match p with
        | some (.inr 1) => ezq_al bot sz t cl sl mc ms 11 (.inr (0, 11, fun j => ezq_kn (ezq_t1.getD j 0))) fun sz' t' cl' sl' => bif Nat.ble (ezq_cat r) 8 then gh (pc + 3) (ezq_ow sz :: r) sz' t' cl' sl' else bot
        | _ => bot) else ca
noncomputable def ezq_a_invokespecial  (Γ : ezq_G) (a b c d x pc : Nat) (ls : ezq_S) (st : List ezq_V) (sz : Nat) (t : ezq_T 7) (cl sl mc ms : Nat) (go : Nat → ezq_S → List ezq_V → Ω) (gh : Nat → List ezq_V → Nat → ezq_T 7 → Nat → Nat → Ω) (br : ClassFile.Cond → ezq_I → ezq_I → Nat → Nat → List ezq_V → Ω) (sw : List (Int × Int) → Int → ezq_I → List ezq_V → Ω) (ca : Ω) (re : Option ezq_V → Ω) : Ω := bif Nat.beq c 5 then (ezq_p1 bot st fun p r => match p with
        | some (.inl _) => bif Nat.ble (ezq_cat r) 8 then go (pc + 3) ls r else bot
        | _ => bot) else ca
noncomputable def ezq_a_invokestatic  (Γ : ezq_G) (a b c d x pc : Nat) (ls : ezq_S) (st : List ezq_V) (sz : Nat) (t : ezq_T 7) (cl sl mc ms : Nat) (go : Nat → ezq_S → List ezq_V → Ω) (gh : Nat → List ezq_V → Nat → ezq_T 7 → Nat → Nat → Ω) (br : ClassFile.Cond → ezq_I → ezq_I → Nat → Nat → List ezq_V → Ω) (sw : List (Int × Int) → Int → ezq_I → List ezq_V → Ω) (ca : Ω) (re : Option ezq_V → Ω) : Ω := bif Nat.beq c 7 then (bif Nat.ble (ezq_cat st) 8 && (Nat.ble cl mc && Nat.ble sl ms) then (match a with
        | 0 => ezq_b2 bot (fun x y => if x < y then y else x) st fun z r => go (pc + 3) ls (.inl z :: r)
        | 1 => ezq_b2 bot (fun x y => if y < x then y else x) st fun z r => go (pc + 3) ls (.inl z :: r)
        | 2 => ezq_i1 bot st fun y r => ezq_fi (ezq_o1 (fun x => if 0 ≤ x then x else 0 - x) y) fun z => go (pc + 3) ls (.inl z :: r)
        | 3 => ezq_bl bot (fun x y => if y < x then x else y) st fun z r => go (pc + 3) ls (.inr (.inl z) :: r)
        | _ => bot) else bot) else ca
noncomputable def ezq_a_ireturn  (Γ : ezq_G) (a b c d x pc : Nat) (ls : ezq_S) (st : List ezq_V) (sz : Nat) (t : ezq_T 7) (cl sl mc ms : Nat) (go : Nat → ezq_S → List ezq_V → Ω) (gh : Nat → List ezq_V → Nat → ezq_T 7 → Nat → Nat → Ω) (br : ClassFile.Cond → ezq_I → ezq_I → Nat → Nat → List ezq_V → Ω) (sw : List (Int × Int) → Int → ezq_I → List ezq_V → Ω) (ca : Ω) (re : Option ezq_V → Ω) : Ω := ezq_i1 bot st fun y r => match r with
      | [] => re (some (.inl y))
      | _ => bot
noncomputable def ezq_a_lreturn  (Γ : ezq_G) (a b c d x pc : Nat) (ls : ezq_S) (st : List ezq_V) (sz : Nat) (t : ezq_T 7) (cl sl mc ms : Nat) (go : Nat → ezq_S → List ezq_V → Ω) (gh : Nat → List ezq_V → Nat → ezq_T 7 → Nat → Nat → Ω) (br : ClassFile.Cond → ezq_I → ezq_I → Nat → Nat → List ezq_V → Ω) (sw : List (Int × Int) → Int → ezq_I → List ezq_V → Ω) (ca : Ω) (re : Option ezq_V → Ω) : Ω := ezq_j1 bot st fun y r => match r with
      | [] => re (some (.inr (.inl y)))
      | _ => bot
noncomputable def ezq_a_return_  (Γ : ezq_G) (a b c d x pc : Nat) (ls : ezq_S) (st : List ezq_V) (sz : Nat) (t : ezq_T 7) (cl sl mc ms : Nat) (go : Nat → ezq_S → List ezq_V → Ω) (gh : Nat → List ezq_V → Nat → ezq_T 7 → Nat → Nat → Ω) (br : ClassFile.Cond → ezq_I → ezq_I → Nat → Nat → List ezq_V → Ω) (sw : List (Int × Int) → Int → ezq_I → List ezq_V → Ω) (ca : Ω) (re : Option ezq_V → Ω) : Ω := match st with
      | [] => re none
      | _ => bot
abbrev ezq_Act0 (Ω : Type) : Type := ezq_G → Nat → Nat → Nat → Nat → Nat → Nat → ezq_S → List ezq_V → Nat → ezq_T 7 → Nat → Nat → Nat → Nat → (Nat → ezq_S → List ezq_V → Ω) → (Nat → List ezq_V → Nat → ezq_T 7 → Nat → Nat → Ω) → (ClassFile.Cond → ezq_I → ezq_I → Nat → Nat → List ezq_V → Ω) → (List (Int × Int) → Int → ezq_I → List ezq_V → Ω) → Ω → (Option ezq_V → Ω) → Ω
noncomputable def ezq_disp (i : Instr) : ezq_Act0 Ω := match i with
  | .iconst _ => ezq_a_iconst
  | .bipush _ => ezq_a_bipush
  | .sipush _ => ezq_a_sipush
  | .lconst _ => ezq_a_lconst
  | .iload_n _ => ezq_a_iload_n bot
  | .iload _ => ezq_a_iload bot
  | .lload_n _ => ezq_a_lload_n bot
  | .lload _ => ezq_a_lload bot
  | .aload_n _ => ezq_a_aload_n bot
  | .aload _ => ezq_a_aload bot
  | .istore_n _ => ezq_a_istore_n bot
  | .istore _ => ezq_a_istore bot
  | .lstore_n _ => ezq_a_lstore_n bot
  | .lstore _ => ezq_a_lstore bot
  | .astore_n _ => ezq_a_astore_n bot
  | .astore _ => ezq_a_astore bot
  | .iinc _ _ => ezq_a_iinc bot
  | .iadd => ezq_a_iadd bot
  | .isub => ezq_a_isub bot
  | .imul => ezq_a_imul bot
  | .iand => ezq_a_iand bot
  | .ior => ezq_a_ior bot
  | .ixor => ezq_a_ixor bot
  | .ishl => ezq_a_ishl bot
  | .ishr => ezq_a_ishr bot
  | .iushr => ezq_a_iushr bot
  | .idiv => ezq_a_idiv bot
  | .irem => ezq_a_irem bot
  | .ineg => ezq_a_ineg bot
  | .i2l => ezq_a_i2l bot
  | .i2b => ezq_a_i2b bot
  | .i2c => ezq_a_i2c bot
  | .l2i => ezq_a_l2i bot
  | .lcmp => ezq_a_lcmp bot
  | .ladd => ezq_a_ladd bot
  | .lsub => ezq_a_lsub bot
  | .lmul => ezq_a_lmul bot
  | .land => ezq_a_land bot
  | .lor => ezq_a_lor bot
  | .lxor => ezq_a_lxor bot
  | .ldiv => ezq_a_ldiv bot
  | .lrem => ezq_a_lrem bot
  | .lshl => ezq_a_lshl bot
  | .lshr => ezq_a_lshr bot
  | .lushr => ezq_a_lushr bot
  | .dup => ezq_a_dup bot
  | .pop => ezq_a_pop bot
  | .dup2 => ezq_a_dup2 bot
  | .ifCond cc _ => ezq_a_ifCond bot cc
  | .if_icmp cc _ => ezq_a_if_icmp bot cc
  | .goto _ => ezq_a_goto
  | .ifnull _ => ezq_a_ifnull bot
  | .tableswitch df lo _ offs => ezq_a_tableswitch bot df lo offs
  | .lookupswitch df ps => ezq_a_lookupswitch bot df ps
  | .getfield _ => ezq_a_getfield bot
  | .putfield _ => ezq_a_putfield bot
  | .getstatic _ => ezq_a_getstatic bot
  | .new _ => ezq_a_new bot
  | .newarray ty => ezq_a_newarray bot ty
  | .arraylength => ezq_a_arraylength bot
  | .iaload => ezq_a_iaload bot
  | .laload => ezq_a_laload bot
  | .baload => ezq_a_baload bot
  | .iastore => ezq_a_iastore bot
  | .lastore => ezq_a_lastore bot
  | .bastore => ezq_a_bastore bot
  | .ldc _ => ezq_a_ldc bot
  | .ldc_w _ => ezq_a_ldc_w bot
  | .ldc2_w _ => ezq_a_ldc2_w bot
  | .checkcast _ => ezq_a_checkcast bot
  | .invokevirtual _ => ezq_a_invokevirtual bot
  | .invokespecial _ => ezq_a_invokespecial bot
  | .invokestatic _ => ezq_a_invokestatic bot
  | .ireturn => ezq_a_ireturn bot
  | .lreturn => ezq_a_lreturn bot
  | .return_ => ezq_a_return_ bot
  | _ => fun _ _ _ _ _ _ _ _ _ _ _ _ _ _ _ _ _ _ _ _ _ => bot
noncomputable def ezq_step (Γ : ezq_G) (e : ezq_Y) (pc : Nat) (ls : ezq_S) (st : List ezq_V) (sz : Nat) (t : ezq_T 7) (cl sl mc ms : Nat)
    (go : Nat → ezq_S → List ezq_V → Ω) (gh : Nat → List ezq_V → Nat → ezq_T 7 → Nat → Nat → Ω) (br : ClassFile.Cond → ezq_I → ezq_I → Nat → Nat → List ezq_V → Ω)
    (sw : List (Int × Int) → Int → ezq_I → List ezq_V → Ω) (ca : Ω) (re : Option ezq_V → Ω) : Ω :=
  match e with
  | (i, _, a, b, c, d, x) => ezq_disp bot i Γ a b c d x pc ls st sz t cl sl mc ms go gh br sw ca re
def ezq_rok (ret : Option FieldType) (v : Option ezq_V) : Bool := match v with
  | none => match ret with
    | none => true
    | _ => false
  | some v => match ret with
    | some .int => match v with
      | .inl _ => true
      | _ => false
    | some .long => match v with
      | .inr (.inl _) => true
      | _ => false
    | some .boolean => match v with
      | .inl (.inl n) => Nat.ble n 1
      | _ => false
    | some .byte => match v with
      | .inl (.inl n) => Nat.ble n 1
      | _ => false
    | some .char => match v with
      | .inl (.inl n) => Nat.ble n 65535
      | _ => false
    | _ => false
noncomputable def ezq_arg (vs : List ezq_V) : Nat → (ezq_S → Ω) → Ω :=
  List.rec (motive := fun _ => Nat → (ezq_S → Ω) → Ω) (fun _ k => k []) (fun v _ ih i k => ezq_fn (bif ezq_c2 v then i + 2 else i + 1) fun j => ih j fun r => k ((i, v) :: r)) vs
end KR
section KRUN
variable {Ω : Type} (bot : Ω) (fk : (ezq_E → Bool) → Ω → Ω → Ω)
noncomputable def ezq_swl (y : ezq_I) (tg : ezq_G → Int → Ω) (df : ezq_G → Ω) (ps : List (Int × Int)) : ezq_G → Ω :=
  List.rec (motive := fun _ => ezq_G → Ω) (fun Γ => df Γ) (fun q _ ih Γ => ezq_cmp fk Γ .eq y (ezq_k (Int32.ofInt q.1)) (fun Γ => tg Γ q.2) ih) ps
/-- the receiver of a call, by kind -/
noncomputable def ezq_rcv (sz : Nat) (t : ezq_T 7) (c o : Nat) (as rest : List ezq_V) (k : List ezq_V → List ezq_V → Ω) : Ω := match c with
  | 0 => ezq_p1 bot rest fun p r => match p with
    | some (.inl q) => ezq_ob bot sz t (some (.inl q)) fun _ ci _ => bif Nat.beq ci o then k (.inr (.inr (some (.inl q))) :: as) r else bot
    | some (.inr i) => bif Nat.beq o 14 && (Nat.beq i 2 || Nat.beq i 4) then k (.inr (.inr (some (.inr i))) :: as) r else bot
    | none => bot
  | 1 => ezq_p1 bot rest fun p r => match p with
    | some (.inl q) => k (.inr (.inr (some (.inl q))) :: as) r
    | _ => bot
  | 2 => k as rest
  | 3 => k as rest
  | 4 => ezq_p1 bot rest fun p r => match p with
    | some (.inl q) => k (.inr (.inr (some (.inl q))) :: as) r
    | _ => bot
  | _ => bot
abbrev ezq_KS (Ω : Type) : Type := ezq_G → ezq_S → List ezq_V → Nat → ezq_T 7 → Nat → Nat → Ω
abbrev ezq_KK (Ω : Type) : Type := ezq_G → Option ezq_V → Nat → ezq_T 7 → Ω
abbrev ezq_RT (Ω : Type) : Type := Nat → ezq_G → ezq_R → Nat → ezq_S → List ezq_V → Nat → ezq_T 7 → Nat → Nat → Nat → ezq_KS Ω → ezq_KK Ω → Ω
/-- how a call is made: by a run of its own, or from what is known of the callee -/
abbrev ezq_HT (Ω : Type) : Type := ezq_RT Ω → Nat → Nat → ezq_G → List ezq_V → Nat → ezq_T 7 → ezq_KK Ω → Ω
noncomputable def ezq_h0 : ezq_HT Ω := fun ih a d Γ as sz t k => ezq_arg as 0 fun ls0 => ezq_id (ih d Γ (ezq_sel a) 0 ls0 [] sz t 0 0 1000000000 (fun _ _ _ _ _ _ _ => bot) k)
variable (hk : ezq_HT Ω)
noncomputable def ezq_call (ih : ezq_RT Ω) (d : Nat) (Γ : ezq_G) (r : ezq_R) (pc : Nat) (ls : ezq_S) (st : List ezq_V) (sz : Nat) (t : ezq_T 7) (cl sl : Nat) (sp : Nat) (ks : ezq_KS Ω) (k : ezq_KK Ω) (a b c d1 x : Nat) : Ω := match d with
  | 0 => bot
  | d' + 1 => bif Nat.ble (cl + d1) r.2.2.2.2.2.2.1 && Nat.ble (sl + x) r.2.2.2.2.2.2.2 then
      ezq_pop bot b st [] fun as rest => ezq_rcv bot sz t c (ezq_sel a).2.2.1 as rest fun as rest =>
        bif Nat.ble (ezq_cat rest) 8 && (Nat.ble (ezq_cat as) (ezq_sel a).2.2.2.2.1 && Nat.ble (ezq_sel a).2.2.2.2.1 80) then
        hk ih a d' Γ as sz t (fun Γ' v sz' t' =>
          ezq_fn (pc + 3) fun q => ezq_fn (cl + d1) fun cl' => ezq_fn (sl + x) fun sl' => ezq_id (ih d Γ' r q ls (match v with
            | none => rest
            | some v => v :: rest) sz' t' cl' sl' sp ks k)) else bot
    else bot
noncomputable def ezq_run : Nat → ezq_RT Ω := fun fuel => Nat.rec (motive := fun _ => ezq_RT Ω) (fun _ _ _ _ _ _ _ _ _ _ _ _ _ => bot)
  (fun _ ih d Γ r pc ls st sz t cl sl sp ks k => match r.1 pc with
    | none => bot
    | some e => ezq_step bot Γ e pc ls st sz t cl sl r.2.2.2.2.2.2.1 r.2.2.2.2.2.2.2
        (fun pc' ls' st' => ezq_fn pc' fun q => bif Nat.beq q sp then ks Γ ls' st' sz t cl sl else ezq_id (ih d Γ r q ls' st' sz t cl sl sp ks k))
        (fun pc' st' sz' t' cl' sl' => ezq_fn pc' fun q => ezq_id (ih d Γ r q ls st' sz' t' cl' sl' sp ks k))
        (fun cc x y p1 p2 st' => ezq_cmp fk Γ cc x y (fun Γ' => ezq_fn p1 fun q => bif Nat.beq q sp then ks Γ' ls st' sz t cl sl else ezq_id (ih d Γ' r q ls st' sz t cl sl sp ks k)) (fun Γ' => ezq_fn p2 fun q => bif Nat.beq q sp then ks Γ' ls st' sz t cl sl else ezq_id (ih d Γ' r q ls st' sz t cl sl sp ks k)))
        (fun ps df y st' => ezq_swl fk y (fun Γ' o => bif decide ((pc : Int) + o < 0) then bot else ezq_fn ((pc : Int) + o).toNat fun q => ezq_id (ih d Γ' r q ls st' sz t cl sl sp ks k)) (fun Γ' => bif decide ((pc : Int) + df < 0) then bot else ezq_fn ((pc : Int) + df).toNat fun q => ezq_id (ih d Γ' r q ls st' sz t cl sl sp ks k)) ps Γ)
        (ezq_call bot hk ih d Γ r pc ls st sz t cl sl sp ks k e.2.2.1 e.2.2.2.1 e.2.2.2.2.1 e.2.2.2.2.2.1 e.2.2.2.2.2.2)
        (fun v => bif ezq_rok r.2.2.2.2.2.1 v && (Nat.ble cl r.2.2.2.2.2.2.1 && Nat.ble sl r.2.2.2.2.2.2.2) then k Γ v sz t else bot)) fuel
end KRUN
