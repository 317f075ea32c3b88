/-! ===== a step, and a run ===== -/
def ezq_dfl (ci : Nat) : List ezq_V := (List.range (ezq_vw ci).2.2).map fun k => match ezq_fty ci k with
  | .long => .inr (.inl (.inl 0))
  | .object _ => .inr (.inr none)
  | .array _ => .inr (.inr none)
  | _ => .inl (.inl 0)
def ezq_xt (i : Nat) : ezq_V := .inr (.inr (some (.inr i)))
def ezq_ow (k : Nat) : ezq_V := .inr (.inr (some (.inl k)))
def ezq_kn (n : Nat) : ezq_V := .inl (.inl n)
section KR
variable {Ω : Type} (bot : Ω)
noncomputable def ezq_w1 (d : Nat) (st : List ezq_V) (k : ezq_V → List ezq_V → Ω) : Ω := match d with
  | 0 => ezq_i1 bot st fun x r => k (.inl x) r
  | 1 => ezq_j1 bot st fun x r => k (.inr (.inl x)) r
  | 2 => ezq_i1 bot st fun x r => match x with
    | .inl n => bif Nat.ble n 1 then k (.inl (.inl n)) r else bot
    | _ => bot
  | _ => ezq_p1 bot st fun x r => k (.inr (.inr x)) r
noncomputable def ezq_div (f : Int32 → Int32 → Int32) (st : List ezq_V) (k : ezq_I → List ezq_V → Ω) : Ω := ezq_i1 bot st fun y r => ezq_i1 bot r fun x r => match y with
  | .inl m => bif Nat.beq (m % 4294967296) 0 then bot else ezq_fi (ezq_o2 f x (.inl m)) fun z => k z r
  | _ => bot
noncomputable def ezq_ldv (f : Int64 → Int64 → Int64) (st : List ezq_V) (k : ezq_L → List ezq_V → Ω) : Ω := ezq_j1 bot st fun y r => ezq_j1 bot r fun x r => match y with
  | .inl m => bif Nat.beq (m % 18446744073709551616) 0 then bot else ezq_fl (ezq_l2 f x (.inl m)) fun z => k z r
  | _ => bot
noncomputable def ezq_b2 (f : Int32 → Int32 → Int32) (st : List ezq_V) (k : ezq_I → List ezq_V → Ω) : Ω := ezq_i1 bot st fun y r => ezq_i1 bot r fun x r => ezq_fi (ezq_o2 f x y) fun z => k z r
noncomputable def ezq_bl (f : Int64 → Int64 → Int64) (st : List ezq_V) (k : ezq_L → List ezq_V → Ω) : Ω := ezq_j1 bot st fun y r => ezq_j1 bot r fun x r => ezq_fl (ezq_l2 f x y) fun z => k z r
noncomputable def ezq_sh (f : Int64 → Int32 → Int64) (st : List ezq_V) (k : ezq_L → List ezq_V → Ω) : Ω := ezq_i1 bot st fun y r => ezq_j1 bot r fun x r => ezq_fl (ezq_lil f x y) fun z => k z r
/-- a new cell -/
noncomputable def ezq_al (sz : Nat) (t : ezq_T 7) (cl sl mc ms n : Nat) (c : ezq_C) (k : Nat → ezq_T 7 → Nat → Nat → Ω) : Ω :=
  bif Nat.blt sz 128 && (Nat.ble (cl + 1) mc && Nat.ble (sl + n) ms) then
    ezq_ts 7 t sz c fun t' => ezq_fn (sz + 1) fun sz' => ezq_fn (cl + 1) fun cl' => ezq_fn (sl + n) fun sl' => k sz' t' cl' sl'
  else bot
def ezq_ary (ty : ArrayType) : Nat := match ty with
  | .int => 0
  | .long => 1
  | .boolean => 2
  | _ => 9
def ezq_ard (ty : ArrayType) : ezq_V := match ty with
  | .long => .inr (.inl (.inl 0))
  | _ => .inl (.inl 0)
noncomputable def ezq_ald (Γ : ezq_G) (sz : Nat) (t : ezq_T 7) (ty : Nat) (m : Nat) (p : ezq_P) (k : ezq_V → Ω) : Ω := match p with
  | some (.inl q) => ezq_ar bot sz t (some (.inl q)) fun _ ty' n f => bif Nat.blt m n && Nat.beq ty' ty then k (f m) else bot
  | some (.inr i) => match i with
    | 0 => bif Nat.blt m 7 && (Nat.beq ty 0 && Nat.ble 2147483648 (Γ 9).1) then k (.inl (.inr (.inl m))) else bot
    | 1 => bif Nat.blt m 11 && Nat.beq ty 0 then k (ezq_kn (ezq_t1.getD m 0)) else bot
    | 3 => bif Nat.blt m 254 && Nat.beq ty 2 then k (ezq_kn (ezq_t3.getD m 0)) else bot
    | 5 => bif Nat.blt m 8 && Nat.beq ty 2 then k (ezq_kn (ezq_t5.getD m 0)) else bot
    | _ => bot
  | none => bot
noncomputable def ezq_ast (sz : Nat) (t : ezq_T 7) (ty : Nat) (v : ezq_V) (r : List ezq_V) (k : List ezq_V → ezq_T 7 → Ω) : Ω :=
  ezq_i1 bot r fun i r => ezq_p1 bot r fun p r => ezq_ar bot sz t p fun q ty' n f => match i with
    | .inl m => bif Nat.blt m n && Nat.beq ty' ty then ezq_ts 7 t q (.inr (ty', n, ezq_aup f m v)) fun t' => k r t' else bot
    | _ => bot
noncomputable def ezq_step (Γ : ezq_G) (e : ezq_Y) (pc : Nat) (ls : ezq_S) (st : List ezq_V) (sz : Nat) (t : ezq_T 7) (cl sl mc ms : Nat)
    (go : Nat → ezq_S → List ezq_V → Ω) (gh : Nat → List ezq_V → Nat → ezq_T 7 → Nat → Nat → Ω) (br : ClassFile.Cond → ezq_I → ezq_I → Nat → Nat → List ezq_V → Ω)
    (sw : List (Int × Int) → Int → ezq_I → List ezq_V → Ω) (ca : Ω) (re : Option ezq_V → Ω) : Ω :=
  match e with
  | (i, _, a, b, c, d, x) => match i with
    | .iconst _ => go (pc + 1) ls (.inl (.inl a) :: st)
    | .bipush _ => go (pc + 2) ls (.inl (.inl a) :: st)
    | .sipush _ => go (pc + 3) ls (.inl (.inl a) :: st)
    | .lconst _ => go (pc + 1) ls (.inr (.inl (.inl a)) :: st)
    | .iload_n _ => ezq_lo bot ls a fun v => ezq_i1 bot [v] fun y _ => go (pc + 1) ls (.inl (ezq_nm Γ y) :: st)
    | .iload _ => ezq_lo bot ls a fun v => ezq_i1 bot [v] fun y _ => go (pc + 2) ls (.inl (ezq_nm Γ y) :: st)
    | .lload_n _ => ezq_lo bot ls a fun v => ezq_j1 bot [v] fun y _ => go (pc + 1) ls (.inr (.inl y) :: st)
    | .lload _ => ezq_lo bot ls a fun v => ezq_j1 bot [v] fun y _ => go (pc + 2) ls (.inr (.inl y) :: st)
    | .aload_n _ => ezq_lo bot ls a fun v => ezq_p1 bot [v] fun y _ => go (pc + 1) ls (.inr (.inr y) :: st)
    | .aload _ => ezq_lo bot ls a fun v => ezq_p1 bot [v] fun y _ => go (pc + 2) ls (.inr (.inr y) :: st)
    | .istore_n _ => ezq_i1 bot st fun y r => ezq_sto a (.inl y) ls fun l => go (pc + 1) l r
    | .istore _ => ezq_i1 bot st fun y r => ezq_sto a (.inl y) ls fun l => go (pc + 2) l r
    | .lstore_n _ => ezq_j1 bot st fun y r => ezq_sto a (.inr (.inl y)) ls fun l => go (pc + 1) l r
    | .lstore _ => ezq_j1 bot st fun y r => ezq_sto a (.inr (.inl y)) ls fun l => go (pc + 2) l r
    | .astore_n _ => ezq_p1 bot st fun y r => ezq_sto a (.inr (.inr y)) ls fun l => go (pc + 1) l r
    | .astore _ => ezq_p1 bot st fun y r => ezq_sto a (.inr (.inr y)) ls fun l => go (pc + 2) l r
    | .iinc _ _ => ezq_lo bot ls a fun v => ezq_i1 bot [v] fun y _ => ezq_fi (ezq_o2 (fun x y => x + y) y (.inl b)) fun z => ezq_sto a (.inl z) ls fun l => go (pc + 3) l st
    | .iadd => ezq_b2 bot (fun x y => x + y) st fun z r => go (pc + 1) ls (.inl z :: r)
    | .isub => ezq_i1 bot st fun y r => ezq_i1 bot r fun x r => ezq_fi (ezq_sub x y) fun z => go (pc + 1) ls (.inl z :: r)
    | .imul => ezq_b2 bot (fun x y => x * y) st fun z r => go (pc + 1) ls (.inl z :: r)
    | .iand => ezq_i1 bot st fun y r => ezq_i1 bot r fun x r => ezq_fi (ezq_nm Γ (ezq_and x y)) fun z => go (pc + 1) ls (.inl z :: r)
    | .ior => ezq_b2 bot (fun x y => x ||| y) st fun z r => go (pc + 1) ls (.inl z :: r)
    | .ixor => ezq_b2 bot (fun x y => x ^^^ y) st fun z r => go (pc + 1) ls (.inl z :: r)
    | .ishl => ezq_b2 bot (fun x y => x <<< (y &&& 31)) st fun z r => go (pc + 1) ls (.inl z :: r)
    | .ishr => ezq_b2 bot (fun x y => x >>> (y &&& 31)) st fun z r => go (pc + 1) ls (.inl z :: r)
    | .iushr => ezq_b2 bot (fun x y => (x.toUInt32 >>> (y.toUInt32 &&& Int32.toUInt32 31)).toInt32) st fun z r => go (pc + 1) ls (.inl z :: r)
    | .idiv => ezq_div bot (fun x y => x / y) st fun z r => go (pc + 1) ls (.inl z :: r)
    | .irem => ezq_div bot (fun x y => x - x / y * y) st fun z r => go (pc + 1) ls (.inl z :: r)
    | .ineg => ezq_i1 bot st fun y r => ezq_fi (ezq_o1 (fun x => -x) y) fun z => go (pc + 1) ls (.inl z :: r)
    | .i2l => ezq_i1 bot st fun y r => ezq_fl (ezq_il (fun x => x.toInt64) y) fun z => go (pc + 1) ls (.inr (.inl z) :: r)
    | .i2b => ezq_i1 bot st fun y r => ezq_fi (ezq_o1 (fun x => x.toInt8.toInt32) y) fun z => go (pc + 1) ls (.inl z :: r)
    | .i2c => ezq_i1 bot st fun y r => ezq_fi (ezq_o1 (fun x => (x.toUInt32 % 65536).toInt32) y) fun z => go (pc + 1) ls (.inl z :: r)
    | .l2i => ezq_j1 bot st fun y r => ezq_fi (ezq_li (fun x => x.toInt32) y) fun z => go (pc + 1) ls (.inl z :: r)
    | .lcmp => ezq_j1 bot st fun y r => ezq_j1 bot r fun x r => ezq_fi (ezq_lli lg_cmp x y) fun z => go (pc + 1) ls (.inl z :: r)
    | .ladd => ezq_bl bot (fun x y => x + y) st fun z r => go (pc + 1) ls (.inr (.inl z) :: r)
    | .lsub => ezq_bl bot (fun x y => x - y) st fun z r => go (pc + 1) ls (.inr (.inl z) :: r)
    | .lmul => ezq_bl bot (fun x y => x * y) st fun z r => go (pc + 1) ls (.inr (.inl z) :: r)
    | .land => ezq_bl bot (fun x y => x &&& y) st fun z r => go (pc + 1) ls (.inr (.inl z) :: r)
    | .lor => ezq_bl bot (fun x y => x ||| y) st fun z r => go (pc + 1) ls (.inr (.inl z) :: r)
    | .lxor => ezq_bl bot (fun x y => x ^^^ y) st fun z r => go (pc + 1) ls (.inr (.inl z) :: r)
    | .ldiv => ezq_ldv bot (fun x y => x / y) st fun z r => go (pc + 1) ls (.inr (.inl z) :: r)
    | .lrem => ezq_ldv bot (fun x y => x - x / y * y) st fun z r => go (pc + 1) ls (.inr (.inl z) :: r)
    | .lshl => ezq_sh bot (fun x y => x <<< (y.toInt64 &&& 63)) st fun z r => go (pc + 1) ls (.inr (.inl z) :: r)
    | .lshr => ezq_sh bot (fun x y => x >>> (y.toInt64 &&& 63)) st fun z r => go (pc + 1) ls (.inr (.inl z) :: r)
    | .lushr => ezq_sh bot (fun x y => (x.toUInt64 >>> (y.toInt64.toUInt64 &&& Int64.toUInt64 63)).toInt64) st fun z r => go (pc + 1) ls (.inr (.inl z) :: r)
    | .dup => ezq_v1 bot st fun y r => go (pc + 1) ls (y :: y :: r)
    | .pop => ezq_v1 bot st fun _ r => go (pc + 1) ls r
    | .dup2 => ezq_v1 bot st fun y r => ezq_v1 bot r fun z r => go (pc + 1) ls (y :: z :: y :: z :: r)
    | .ifCond cc _ => ezq_i1 bot st fun y r => br cc y (.inl 0) a (pc + 3) r
    | .if_icmp cc _ => ezq_i1 bot st fun y r => ezq_i1 bot r fun x r => br cc x y a (pc + 3) r
    | .goto _ => go a ls st
    | .ifnull _ => ezq_p1 bot st fun p r => match p with
      | none => go a ls r
      | some (.inl _) => go (pc + 3) ls r
      | some (.inr i) => bif Nat.beq i 1 then go (pc + 3) ls r else bot
    | .tableswitch df lo _ offs => ezq_i1 bot st fun y r => sw (offs.toList.zipIdx.map fun q => (lo + (q.2 : Int), q.1)) df y r
    | .lookupswitch df ps => ezq_i1 bot st fun y r => sw ps.toList df y r
    | .getfield _ => ezq_p1 bot st fun p r => bif Nat.beq a 100 then (match p with
        | some (.inr 2) => go (pc + 3) ls (ezq_xt 3 :: r)
        | some (.inr 4) => go (pc + 3) ls (ezq_xt 5 :: r)
        | _ => bot) else bif Nat.beq a 101 then (match p with
        | some (.inr 2) => go (pc + 3) ls (ezq_kn 0 :: r)
        | some (.inr 4) => go (pc + 3) ls (ezq_kn 0 :: r)
        | _ => bot) else ezq_ob bot sz t p fun _ ci fs => bif Nat.beq ci a then (match fs[b]? with
        | some v => go (pc + 3) ls (v :: r)
        | none => bot) else bot
    | .putfield _ => ezq_w1 bot d st fun v r => ezq_p1 bot r fun p r => ezq_ob bot sz t p fun q ci fs => bif Nat.beq ci a then (ezq_lset fs b v fun fs' => ezq_ts 7 t q (.inl (ci, fs')) fun t' => gh (pc + 3) r sz t' cl sl) else bot
    | .getstatic _ => match a with
      | 0 => go (pc + 3) ls (ezq_xt 1 :: st)
      | 1 => go (pc + 3) ls (ezq_kn 1 :: st)
      | 2 => go (pc + 3) ls (ezq_xt 6 :: st)
      | _ => bot
    | .new _ => bif Nat.beq a 99 then bot else ezq_al bot sz t cl sl mc ms b (.inl (a, ezq_dfl a)) fun sz' t' cl' sl' => gh (pc + 3) (ezq_ow sz :: st) sz' t' cl' sl'
    | .newarray ty => ezq_i1 bot st fun y r => match y with
      | .inl n => bif Nat.ble n 100000 && Nat.ble (ezq_ary ty) 2 then ezq_al bot sz t cl sl mc ms n (.inr (ezq_ary ty, n, fun _ => ezq_ard ty)) fun sz' t' cl' sl' => gh (pc + 2) (ezq_ow sz :: r) sz' t' cl' sl' else bot
      | _ => bot
    | .arraylength => ezq_p1 bot st fun p r => match p with
      | some (.inl q) => ezq_ar bot sz t (some (.inl q)) fun _ _ n _ => go (pc + 1) ls (ezq_kn n :: r)
      | some (.inr i) => match i with
        | 0 => go (pc + 1) ls (.inl (ezq_nm Γ (.inr (.inl 8))) :: r)
        | 1 => go (pc + 1) ls (ezq_kn 11 :: r)
        | 3 => go (pc + 1) ls (ezq_kn 254 :: r)
        | 5 => go (pc + 1) ls (ezq_kn 8 :: r)
        | _ => bot
      | none => bot
    | .iaload => ezq_i1 bot st fun y r => ezq_p1 bot r fun p r => match y with
      | .inl m => ezq_ald bot Γ sz t 0 m p fun v => ezq_i1 bot [v] fun z _ => go (pc + 1) ls (.inl (ezq_nm Γ z) :: r)
      | _ => bot
    | .laload => ezq_i1 bot st fun y r => ezq_p1 bot r fun p r => match y with
      | .inl m => ezq_ald bot Γ sz t 1 m p fun v => ezq_j1 bot [v] fun z _ => go (pc + 1) ls (.inr (.inl z) :: r)
      | _ => bot
    | .baload => ezq_i1 bot st fun y r => ezq_p1 bot r fun p r => match y with
      | .inl m => ezq_ald bot Γ sz t 2 m p fun v => ezq_i1 bot [v] fun z _ => go (pc + 1) ls (.inl (ezq_nm Γ z) :: r)
      | _ => bot
    | .iastore => ezq_i1 bot st fun v r => ezq_ast bot sz t 0 (.inl v) r fun r t' => gh (pc + 1) r sz t' cl sl
    | .lastore => ezq_j1 bot st fun v r => ezq_ast bot sz t 1 (.inr (.inl v)) r fun r t' => gh (pc + 1) r sz t' cl sl
    | .bastore => ezq_w1 bot 2 st fun v r => ezq_ast bot sz t 2 v r fun r t' => gh (pc + 1) r sz t' cl sl
    | .ldc _ => match a with
      | 0 => go (pc + 2) ls (ezq_kn b :: st)
      | 1 => bif Nat.ble b 1 then go (pc + 2) ls (ezq_xt (2 + 2 * b) :: st) else bot
      | _ => bot
    | .ldc_w _ => match a with
      | 0 => go (pc + 3) ls (ezq_kn b :: st)
      | _ => bot
    | .ldc2_w _ => match b with
      | 0 => go (pc + 3) ls (.inr (.inl (.inl a)) :: st)
      | _ => bot
    | .checkcast _ => ezq_p1 bot st fun p r => ezq_ar bot sz t p fun _ ty _ _ => bif Nat.beq ty 0 then go (pc + 3) ls (.inr (.inr p) :: r) else bot
    | .invokevirtual _ => bif Nat.beq c 8 then (ezq_p1 bot st fun p r => match p with
        | some (.inr 1) => ezq_al bot sz t cl sl mc ms 11 (.inr (0, 11, fun j => ezq_kn (ezq_t1.getD j 0))) fun sz' t' cl' sl' => bif Nat.ble (ezq_cat r) 8 then gh (pc + 3) (ezq_ow sz :: r) sz' t' cl' sl' else bot
        | _ => bot) else ca
    | .invokespecial _ => bif Nat.beq c 5 then (ezq_p1 bot st fun p r => match p with
        | some (.inl _) => bif Nat.ble (ezq_cat r) 8 then go (pc + 3) ls r else bot
        | _ => bot) else ca
    | .invokestatic _ => bif Nat.beq c 7 then (bif Nat.ble (ezq_cat st) 8 && (Nat.ble cl mc && Nat.ble sl ms) then (match a with
        | 0 => ezq_b2 bot (fun x y => if x < y then y else x) st fun z r => go (pc + 3) ls (.inl z :: r)
        | 1 => ezq_b2 bot (fun x y => if y < x then y else x) st fun z r => go (pc + 3) ls (.inl z :: r)
        | 2 => ezq_i1 bot st fun y r => ezq_fi (ezq_o1 (fun x => if 0 ≤ x then x else 0 - x) y) fun z => go (pc + 3) ls (.inl z :: r)
        | _ => bot) else bot) else ca
    | .ireturn => ezq_i1 bot st fun y r => match r with
      | [] => re (some (.inl y))
      | _ => bot
    | .lreturn => ezq_j1 bot st fun y r => match r with
      | [] => re (some (.inr (.inl y)))
      | _ => bot
    | .return_ => match st with
      | [] => re none
      | _ => bot
    | _ => bot
def ezq_rok (ret : Option FieldType) (v : Option ezq_V) : Bool := match v with
  | none => match ret with
    | none => true
    | _ => false
  | some v => match ret with
    | some .int => match v with
      | .inl _ => true
      | _ => false
    | some .long => match v with
      | .inr (.inl _) => true
      | _ => false
    | some .boolean => match v with
      | .inl (.inl n) => Nat.ble n 1
      | _ => false
    | some .byte => match v with
      | .inl (.inl n) => Nat.ble n 1
      | _ => false
    | some .char => match v with
      | .inl (.inl n) => Nat.ble n 65535
      | _ => false
    | _ => false
noncomputable def ezq_arg (vs : List ezq_V) : Nat → (ezq_S → Ω) → Ω :=
  List.rec (motive := fun _ => Nat → (ezq_S → Ω) → Ω) (fun _ k => k []) (fun v _ ih i k => ezq_fn (bif ezq_c2 v then i + 2 else i + 1) fun j => ih j fun r => k ((i, v) :: r)) vs
end KR
section KRUN
variable {Ω : Type} (bot : Ω) (fk : (ezq_E → Bool) → Ω → Ω → Ω)
noncomputable def ezq_swl (y : ezq_I) (tg : ezq_G → Int → Ω) (df : ezq_G → Ω) (ps : List (Int × Int)) : ezq_G → Ω :=
  List.rec (motive := fun _ => ezq_G → Ω) (fun Γ => df Γ) (fun q _ ih Γ => ezq_cmp fk Γ .eq y (ezq_k (Int32.ofInt q.1)) (fun Γ => tg Γ q.2) ih) ps
/-- the receiver of a call, by kind -/
noncomputable def ezq_rcv (sz : Nat) (t : ezq_T 7) (c o : Nat) (as rest : List ezq_V) (k : List ezq_V → List ezq_V → Ω) : Ω := match c with
  | 0 => ezq_p1 bot rest fun p r => match p with
    | some (.inl q) => ezq_ob bot sz t (some (.inl q)) fun _ ci _ => bif Nat.beq ci o then k (.inr (.inr (some (.inl q))) :: as) r else bot
    | some (.inr i) => bif Nat.beq o 14 && (Nat.beq i 2 || Nat.beq i 4) then k (.inr (.inr (some (.inr i))) :: as) r else bot
    | none => bot
  | 1 => ezq_p1 bot rest fun p r => match p with
    | some (.inl q) => k (.inr (.inr (some (.inl q))) :: as) r
    | _ => bot
  | 2 => k as rest
  | 3 => k as rest
  | 4 => ezq_p1 bot rest fun p r => match p with
    | some (.inl q) => k (.inr (.inr (some (.inl q))) :: as) r
    | _ => bot
  | _ => bot
abbrev ezq_KS (Ω : Type) : Type := ezq_G → ezq_S → List ezq_V → Nat → ezq_T 7 → Nat → Nat → Ω
abbrev ezq_KK (Ω : Type) : Type := ezq_G → Option ezq_V → Nat → ezq_T 7 → Ω
abbrev ezq_RT (Ω : Type) : Type := Nat → ezq_G → ezq_R → Nat → ezq_S → List ezq_V → Nat → ezq_T 7 → Nat → Nat → Nat → ezq_KS Ω → ezq_KK Ω → Ω
noncomputable def ezq_call (ih : ezq_RT Ω) (d : Nat) (Γ : ezq_G) (r : ezq_R) (pc : Nat) (ls : ezq_S) (st : List ezq_V) (sz : Nat) (t : ezq_T 7) (cl sl : Nat) (sp : Nat) (ks : ezq_KS Ω) (k : ezq_KK Ω) (a b c d1 x : Nat) : Ω := match d with
  | 0 => bot
  | d' + 1 => bif Nat.ble (cl + d1) r.2.2.2.2.2.2.1 && Nat.ble (sl + x) r.2.2.2.2.2.2.2 then
      ezq_pop bot b st [] fun as rest => ezq_rcv bot sz t c (ezq_sel a).2.2.1 as rest fun as rest =>
        bif Nat.ble (ezq_cat rest) 8 && (Nat.ble (ezq_cat as) (ezq_sel a).2.2.2.2.1 && Nat.ble (ezq_sel a).2.2.2.2.1 80) then
        ezq_arg as 0 fun ls0 => ezq_id (ih d' Γ (ezq_sel a) 0 ls0 [] sz t 0 0 1000000000 (fun _ _ _ _ _ _ _ => bot) fun Γ' v sz' t' =>
          ezq_fn (pc + 3) fun q => ezq_fn (cl + d1) fun cl' => ezq_fn (sl + x) fun sl' => ezq_id (ih d Γ' r q ls (match v with
            | none => rest
            | some v => v :: rest) sz' t' cl' sl' sp ks k)) else bot
    else bot
noncomputable def ezq_run : Nat → ezq_RT Ω := fun fuel => Nat.rec (motive := fun _ => ezq_RT Ω) (fun _ _ _ _ _ _ _ _ _ _ _ _ _ => bot)
  (fun _ ih d Γ r pc ls st sz t cl sl sp ks k => match r.1 pc with
    | none => bot
    | some e => ezq_step bot Γ e pc ls st sz t cl sl r.2.2.2.2.2.2.1 r.2.2.2.2.2.2.2
        (fun pc' ls' st' => ezq_fn pc' fun q => bif Nat.beq q sp then ks Γ ls' st' sz t cl sl else ezq_id (ih d Γ r q ls' st' sz t cl sl sp ks k))
        (fun pc' st' sz' t' cl' sl' => ezq_fn pc' fun q => ezq_id (ih d Γ r q ls st' sz' t' cl' sl' sp ks k))
        (fun cc x y p1 p2 st' => ezq_cmp fk Γ cc x y (fun Γ' => ezq_fn p1 fun q => bif Nat.beq q sp then ks Γ' ls st' sz t cl sl else ezq_id (ih d Γ' r q ls st' sz t cl sl sp ks k)) (fun Γ' => ezq_fn p2 fun q => bif Nat.beq q sp then ks Γ' ls st' sz t cl sl else ezq_id (ih d Γ' r q ls st' sz t cl sl sp ks k)))
        (fun ps df y st' => ezq_swl fk y (fun Γ' o => bif decide ((pc : Int) + o < 0) then bot else ezq_fn ((pc : Int) + o).toNat fun q => ezq_id (ih d Γ' r q ls st' sz t cl sl sp ks k)) (fun Γ' => bif decide ((pc : Int) + df < 0) then bot else ezq_fn ((pc : Int) + df).toNat fun q => ezq_id (ih d Γ' r q ls st' sz t cl sl sp ks k)) ps Γ)
        (ezq_call bot ih d Γ r pc ls st sz t cl sl sp ks k e.2.2.1 e.2.2.2.1 e.2.2.2.2.1 e.2.2.2.2.2.1 e.2.2.2.2.2.2)
        (fun v => bif ezq_rok r.2.2.2.2.2.1 v && (Nat.ble cl r.2.2.2.2.2.2.1 && Nat.ble sl r.2.2.2.2.2.2.2) then k Γ v sz t else bot)) fuel
end KRUN
