/-! ===== the interpreter once more, over Bool, in small pieces, faster for the kernel ===== -/
def ezq_an : (ezq_E → Bool) → Bool → Bool → Bool := fun _ a b => a && b
noncomputable def ezq_go (ih : ezq_RT Bool) (dd : Nat) (Γ : ezq_G) (r : ezq_R) (sz : Nat) (t : ezq_T 7) (cl sl sp : Nat) (ks : ezq_KS Bool) (k : ezq_KK Bool) : Nat → ezq_S → List ezq_V → Bool := fun pc ls st => ezq_fn pc fun q => bif Nat.beq q sp then ks Γ ls st sz t cl sl else ezq_id (ih dd Γ r q ls st sz t cl sl sp ks k)
noncomputable def ezq_gh (ih : ezq_RT Bool) (dd : Nat) (Γ : ezq_G) (r : ezq_R) (ls : ezq_S) (sp : Nat) (ks : ezq_KS Bool) (k : ezq_KK Bool) : Nat → List ezq_V → Nat → ezq_T 7 → Nat → Nat → Bool := fun pc st sz t cl sl => ezq_fn pc fun q => ezq_id (ih dd Γ r q ls st sz t cl sl sp ks k)
noncomputable def ezq_bg (ih : ezq_RT Bool) (dd : Nat) (r : ezq_R) (ls : ezq_S) (st : List ezq_V) (sz : Nat) (t : ezq_T 7) (cl sl sp : Nat) (ks : ezq_KS Bool) (k : ezq_KK Bool) (pc : Nat) : ezq_G → Bool := fun Γ => ezq_fn pc fun q => bif Nat.beq q sp then ks Γ ls st sz t cl sl else ezq_id (ih dd Γ r q ls st sz t cl sl sp ks k)
noncomputable def ezq_brF (ih : ezq_RT Bool) (dd : Nat) (Γ : ezq_G) (r : ezq_R) (ls : ezq_S) (sz : Nat) (t : ezq_T 7) (cl sl sp : Nat) (ks : ezq_KS Bool) (k : ezq_KK Bool) : ClassFile.Cond → ezq_I → ezq_I → Nat → Nat → List ezq_V → Bool := fun cc x y p1 p2 st => ezq_cmp ezq_an Γ cc x y (ezq_bg ih dd r ls st sz t cl sl sp ks k p1) (ezq_bg ih dd r ls st sz t cl sl sp ks k p2)
noncomputable def ezq_swF (ih : ezq_RT Bool) (dd : Nat) (Γ : ezq_G) (r : ezq_R) (pc : Nat) (ls : ezq_S) (sz : Nat) (t : ezq_T 7) (cl sl sp : Nat) (ks : ezq_KS Bool) (k : ezq_KK Bool) : List (Int × Int) → Int → ezq_I → List ezq_V → Bool := fun ps df y st => ezq_swl ezq_an y (fun Γ o => bif decide ((pc : Int) + o < 0) then false else ezq_fn ((pc : Int) + o).toNat fun q => ezq_id (ih dd Γ r q ls st sz t cl sl sp ks k)) (fun Γ => bif decide ((pc : Int) + df < 0) then false else ezq_fn ((pc : Int) + df).toNat fun q => ezq_id (ih dd Γ r q ls st sz t cl sl sp ks k)) ps Γ
noncomputable def ezq_reF (Γ : ezq_G) (r : ezq_R) (sz : Nat) (t : ezq_T 7) (cl sl : Nat) (k : ezq_KK Bool) : Option ezq_V → Bool := fun v => bif ezq_rok r.2.2.2.2.2.1 v && (Nat.ble cl r.2.2.2.2.2.2.1 && Nat.ble sl r.2.2.2.2.2.2.2) then k Γ v sz t else false
abbrev ezq_FA : Type := Nat → Nat → Nat → Nat → Nat → ezq_RT Bool → ezq_RT Bool
noncomputable def ezq_f_iconst  : ezq_FA := fun a b c d x ih dd Γ rr pc ls st sz t cl sl sp ks k => (ezq_go ih dd Γ rr sz t cl sl sp ks k) (pc + 1) ls (.inl (.inl a) :: st)
noncomputable def ezq_f_bipush  : ezq_FA := fun a b c d x ih dd Γ rr pc ls st sz t cl sl sp ks k => (ezq_go ih dd Γ rr sz t cl sl sp ks k) (pc + 2) ls (.inl (.inl a) :: st)
noncomputable def ezq_f_sipush  : ezq_FA := fun a b c d x ih dd Γ rr pc ls st sz t cl sl sp ks k => (ezq_go ih dd Γ rr sz t cl sl sp ks k) (pc + 3) ls (.inl (.inl a) :: st)
noncomputable def ezq_f_lconst  : ezq_FA := fun a b c d x ih dd Γ rr pc ls st sz t cl sl sp ks k => (ezq_go ih dd Γ rr sz t cl sl sp ks k) (pc + 1) ls (.inr (.inl (.inl a)) :: st)
noncomputable def ezq_f_iload_n  : ezq_FA := fun a b c d x ih dd Γ rr pc ls st sz t cl sl sp ks k => ezq_lo false ls a fun v => ezq_i1 false [v] fun y _ => (ezq_go ih dd Γ rr sz t cl sl sp ks k) (pc + 1) ls (.inl (ezq_nm Γ y) :: st)
noncomputable def ezq_f_iload  : ezq_FA := fun a b c d x ih dd Γ rr pc ls st sz t cl sl sp ks k => ezq_lo false ls a fun v => ezq_i1 false [v] fun y _ => (ezq_go ih dd Γ rr sz t cl sl sp ks k) (pc + 2) ls (.inl (ezq_nm Γ y) :: st)
noncomputable def ezq_f_lload_n  : ezq_FA := fun a b c d x ih dd Γ rr pc ls st sz t cl sl sp ks k => ezq_lo false ls a fun v => ezq_j1 false [v] fun y _ => (ezq_go ih dd Γ rr sz t cl sl sp ks k) (pc + 1) ls (.inr (.inl y) :: st)
noncomputable def ezq_f_lload  : ezq_FA := fun a b c d x ih dd Γ rr pc ls st sz t cl sl sp ks k => ezq_lo false ls a fun v => ezq_j1 false [v] fun y _ => (ezq_go ih dd Γ rr sz t cl sl sp ks k) (pc + 2) ls (.inr (.inl y) :: st)
noncomputable def ezq_f_aload_n  : ezq_FA := fun a b c d x ih dd Γ rr pc ls st sz t cl sl sp ks k => ezq_lo false ls a fun v => ezq_p1 false [v] fun y _ => (ezq_go ih dd Γ rr sz t cl sl sp ks k) (pc + 1) ls (.inr (.inr y) :: st)
noncomputable def ezq_f_aload  : ezq_FA := fun a b c d x ih dd Γ rr pc ls st sz t cl sl sp ks k => ezq_lo false ls a fun v => ezq_p1 false [v] fun y _ => (ezq_go ih dd Γ rr sz t cl sl sp ks k) (pc + 2) ls (.inr (.inr y) :: st)
noncomputable def ezq_f_istore_n  : ezq_FA := fun a b c d x ih dd Γ rr pc ls st sz t cl sl sp ks k => ezq_i1 false st fun y r => ezq_sto a (.inl y) ls fun l => (ezq_go ih dd Γ rr sz t cl sl sp ks k) (pc + 1) l r
noncomputable def ezq_f_istore  : ezq_FA := fun a b c d x ih dd Γ rr pc ls st sz t cl sl sp ks k => ezq_i1 false st fun y r => ezq_sto a (.inl y) ls fun l => (ezq_go ih dd Γ rr sz t cl sl sp ks k) (pc + 2) l r
noncomputable def ezq_f_lstore_n  : ezq_FA := fun a b c d x ih dd Γ rr pc ls st sz t cl sl sp ks k => ezq_j1 false st fun y r => ezq_sto a (.inr (.inl y)) ls fun l => (ezq_go ih dd Γ rr sz t cl sl sp ks k) (pc + 1) l r
noncomputable def ezq_f_lstore  : ezq_FA := fun a b c d x ih dd Γ rr pc ls st sz t cl sl sp ks k => ezq_j1 false st fun y r => ezq_sto a (.inr (.inl y)) ls fun l => (ezq_go ih dd Γ rr sz t cl sl sp ks k) (pc + 2) l r
noncomputable def ezq_f_astore_n  : ezq_FA := fun a b c d x ih dd Γ rr pc ls st sz t cl sl sp ks k => ezq_p1 false st fun y r => ezq_sto a (.inr (.inr y)) ls fun l => (ezq_go ih dd Γ rr sz t cl sl sp ks k) (pc + 1) l r
noncomputable def ezq_f_astore  : ezq_FA := fun a b c d x ih dd Γ rr pc ls st sz t cl sl sp ks k => ezq_p1 false st fun y r => ezq_sto a (.inr (.inr y)) ls fun l => (ezq_go ih dd Γ rr sz t cl sl sp ks k) (pc + 2) l r
noncomputable def ezq_f_iinc  : ezq_FA := fun a b c d x ih dd Γ rr pc ls st sz t cl sl sp ks k => ezq_lo false ls a fun v => ezq_i1 false [v] fun y _ => ezq_fi (ezq_o2 (fun x y => x + y) y (.inl b)) fun z => ezq_sto a (.inl z) ls fun l => (ezq_go ih dd Γ rr sz t cl sl sp ks k) (pc + 3) l st
noncomputable def ezq_f_iadd  : ezq_FA := fun a b c d x ih dd Γ rr pc ls st sz t cl sl sp ks k => ezq_b2 false (fun x y => x + y) st fun z r => (ezq_go ih dd Γ rr sz t cl sl sp ks k) (pc + 1) ls (.inl z :: r)
noncomputable def ezq_f_isub  : ezq_FA := fun a b c d x ih dd Γ rr pc ls st sz t cl sl sp ks k => ezq_i1 false st fun y r => ezq_i1 false r fun x r => ezq_fi (ezq_sub x y) fun z => (ezq_go ih dd Γ rr sz t cl sl sp ks k) (pc + 1) ls (.inl z :: r)
noncomputable def ezq_f_imul  : ezq_FA := fun a b c d x ih dd Γ rr pc ls st sz t cl sl sp ks k => ezq_b2 false (fun x y => x * y) st fun z r => (ezq_go ih dd Γ rr sz t cl sl sp ks k) (pc + 1) ls (.inl z :: r)
noncomputable def ezq_f_iand  : ezq_FA := fun a b c d x ih dd Γ rr pc ls st sz t cl sl sp ks k => ezq_i1 false st fun y r => ezq_i1 false r fun x r => ezq_fi (ezq_nm Γ (ezq_and x y)) fun z => (ezq_go ih dd Γ rr sz t cl sl sp ks k) (pc + 1) ls (.inl z :: r)
noncomputable def ezq_f_ior  : ezq_FA := fun a b c d x ih dd Γ rr pc ls st sz t cl sl sp ks k => ezq_b2 false (fun x y => x ||| y) st fun z r => (ezq_go ih dd Γ rr sz t cl sl sp ks k) (pc + 1) ls (.inl z :: r)
noncomputable def ezq_f_ixor  : ezq_FA := fun a b c d x ih dd Γ rr pc ls st sz t cl sl sp ks k => ezq_b2 false (fun x y => x ^^^ y) st fun z r => (ezq_go ih dd Γ rr sz t cl sl sp ks k) (pc + 1) ls (.inl z :: r)
noncomputable def ezq_f_ishl  : ezq_FA := fun a b c d x ih dd Γ rr pc ls st sz t cl sl sp ks k => ezq_b2 false (fun x y => x <<< (y &&& 31)) st fun z r => (ezq_go ih dd Γ rr sz t cl sl sp ks k) (pc + 1) ls (.inl z :: r)
noncomputable def ezq_f_ishr  : ezq_FA := fun a b c d x ih dd Γ rr pc ls st sz t cl sl sp ks k => ezq_b2 false (fun x y => x >>> (y &&& 31)) st fun z r => (ezq_go ih dd Γ rr sz t cl sl sp ks k) (pc + 1) ls (.inl z :: r)
noncomputable def ezq_f_iushr  : ezq_FA := fun a b c d x ih dd Γ rr pc ls st sz t cl sl sp ks k => ezq_b2 false (fun x y => (x.toUInt32 >>> (y.toUInt32 &&& Int32.toUInt32 31)).toInt32) st fun z r => (ezq_go ih dd Γ rr sz t cl sl sp ks k) (pc + 1) ls (.inl z :: r)
noncomputable def ezq_f_idiv  : ezq_FA := fun a b c d x ih dd Γ rr pc ls st sz t cl sl sp ks k => ezq_div false (fun x y => x / y) st fun z r => (ezq_go ih dd Γ rr sz t cl sl sp ks k) (pc + 1) ls (.inl z :: r)
noncomputable def ezq_f_irem  : ezq_FA := fun a b c d x ih dd Γ rr pc ls st sz t cl sl sp ks k => ezq_div false (fun x y => x - x / y * y) st fun z r => (ezq_go ih dd Γ rr sz t cl sl sp ks k) (pc + 1) ls (.inl z :: r)
noncomputable def ezq_f_ineg  : ezq_FA := fun a b c d x ih dd Γ rr pc ls st sz t cl sl sp ks k => ezq_i1 false st fun y r => ezq_fi (ezq_o1 (fun x => -x) y) fun z => (ezq_go ih dd Γ rr sz t cl sl sp ks k) (pc + 1) ls (.inl z :: r)
noncomputable def ezq_f_i2l  : ezq_FA := fun a b c d x ih dd Γ rr pc ls st sz t cl sl sp ks k => ezq_i1 false st fun y r => ezq_fl (ezq_i2l y) fun z => (ezq_go ih dd Γ rr sz t cl sl sp ks k) (pc + 1) ls (.inr (.inl z) :: r)
noncomputable def ezq_f_i2b  : ezq_FA := fun a b c d x ih dd Γ rr pc ls st sz t cl sl sp ks k => ezq_i1 false st fun y r => ezq_fi (ezq_o1 (fun x => x.toInt8.toInt32) y) fun z => (ezq_go ih dd Γ rr sz t cl sl sp ks k) (pc + 1) ls (.inl z :: r)
noncomputable def ezq_f_i2c  : ezq_FA := fun a b c d x ih dd Γ rr pc ls st sz t cl sl sp ks k => ezq_i1 false st fun y r => ezq_fi (ezq_o1 (fun x => (x.toUInt32 % 65536).toInt32) y) fun z => (ezq_go ih dd Γ rr sz t cl sl sp ks k) (pc + 1) ls (.inl z :: r)
noncomputable def ezq_f_l2i  : ezq_FA := fun a b c d x ih dd Γ rr pc ls st sz t cl sl sp ks k => ezq_j1 false st fun y r => ezq_fi (ezq_li (fun x => x.toInt32) y) fun z => (ezq_go ih dd Γ rr sz t cl sl sp ks k) (pc + 1) ls (.inl z :: r)
noncomputable def ezq_f_lcmp  : ezq_FA := fun a b c d x ih dd Γ rr pc ls st sz t cl sl sp ks k => ezq_j1 false st fun y r => ezq_j1 false r fun x r => ezq_fi (ezq_lli lg_cmp x y) fun z => (ezq_go ih dd Γ rr sz t cl sl sp ks k) (pc + 1) ls (.inl z :: r)
noncomputable def ezq_f_ladd  : ezq_FA := fun a b c d x ih dd Γ rr pc ls st sz t cl sl sp ks k => ezq_bl false (fun x y => x + y) st fun z r => (ezq_go ih dd Γ rr sz t cl sl sp ks k) (pc + 1) ls (.inr (.inl z) :: r)
noncomputable def ezq_f_lsub  : ezq_FA := fun a b c d x ih dd Γ rr pc ls st sz t cl sl sp ks k => ezq_bl false (fun x y => x - y) st fun z r => (ezq_go ih dd Γ rr sz t cl sl sp ks k) (pc + 1) ls (.inr (.inl z) :: r)
noncomputable def ezq_f_lmul  : ezq_FA := fun a b c d x ih dd Γ rr pc ls st sz t cl sl sp ks k => ezq_bl false (fun x y => x * y) st fun z r => (ezq_go ih dd Γ rr sz t cl sl sp ks k) (pc + 1) ls (.inr (.inl z) :: r)
noncomputable def ezq_f_land  : ezq_FA := fun a b c d x ih dd Γ rr pc ls st sz t cl sl sp ks k => ezq_j1 false st fun y r => ezq_j1 false r fun x r => ezq_fl (ezq_lan x y) fun z => (ezq_go ih dd Γ rr sz t cl sl sp ks k) (pc + 1) ls (.inr (.inl z) :: r)
noncomputable def ezq_f_lor  : ezq_FA := fun a b c d x ih dd Γ rr pc ls st sz t cl sl sp ks k => ezq_j1 false st fun y r => ezq_j1 false r fun x r => ezq_fl (ezq_lor x y) fun z => (ezq_go ih dd Γ rr sz t cl sl sp ks k) (pc + 1) ls (.inr (.inl z) :: r)
noncomputable def ezq_f_lxor  : ezq_FA := fun a b c d x ih dd Γ rr pc ls st sz t cl sl sp ks k => ezq_bl false (fun x y => x ^^^ y) st fun z r => (ezq_go ih dd Γ rr sz t cl sl sp ks k) (pc + 1) ls (.inr (.inl z) :: r)
noncomputable def ezq_f_ldiv  : ezq_FA := fun a b c d x ih dd Γ rr pc ls st sz t cl sl sp ks k => ezq_ldv false (fun x y => x / y) st fun z r => (ezq_go ih dd Γ rr sz t cl sl sp ks k) (pc + 1) ls (.inr (.inl z) :: r)
noncomputable def ezq_f_lrem  : ezq_FA := fun a b c d x ih dd Γ rr pc ls st sz t cl sl sp ks k => ezq_ldv false (fun x y => x - x / y * y) st fun z r => (ezq_go ih dd Γ rr sz t cl sl sp ks k) (pc + 1) ls (.inr (.inl z) :: r)
noncomputable def ezq_f_lshl  : ezq_FA := fun a b c d x ih dd Γ rr pc ls st sz t cl sl sp ks k => ezq_i1 false st fun y r => ezq_j1 false r fun x r => ezq_fl (ezq_shl x y) fun z => (ezq_go ih dd Γ rr sz t cl sl sp ks k) (pc + 1) ls (.inr (.inl z) :: r)
noncomputable def ezq_f_lshr  : ezq_FA := fun a b c d x ih dd Γ rr pc ls st sz t cl sl sp ks k => ezq_sh false (fun x y => x >>> (y.toInt64 &&& 63)) st fun z r => (ezq_go ih dd Γ rr sz t cl sl sp ks k) (pc + 1) ls (.inr (.inl z) :: r)
noncomputable def ezq_f_lushr  : ezq_FA := fun a b c d x ih dd Γ rr pc ls st sz t cl sl sp ks k => ezq_sh false (fun x y => (x.toUInt64 >>> (y.toInt64.toUInt64 &&& Int64.toUInt64 63)).toInt64) st fun z r => (ezq_go ih dd Γ rr sz t cl sl sp ks k) (pc + 1) ls (.inr (.inl z) :: r)
noncomputable def ezq_f_dup  : ezq_FA := fun a b c d x ih dd Γ rr pc ls st sz t cl sl sp ks k => ezq_v1 false st fun y r => (ezq_go ih dd Γ rr sz t cl sl sp ks k) (pc + 1) ls (y :: y :: r)
noncomputable def ezq_f_pop  : ezq_FA := fun a b c d x ih dd Γ rr pc ls st sz t cl sl sp ks k => ezq_v1 false st fun _ r => (ezq_go ih dd Γ rr sz t cl sl sp ks k) (pc + 1) ls r
noncomputable def ezq_f_dup2  : ezq_FA := fun a b c d x ih dd Γ rr pc ls st sz t cl sl sp ks k => ezq_v1 false st fun y r => ezq_v1 false r fun z r => (ezq_go ih dd Γ rr sz t cl sl sp ks k) (pc + 1) ls (y :: z :: y :: z :: r)
noncomputable def ezq_f_ifCond (cc : ClassFile.Cond) : ezq_FA := fun a b c d x ih dd Γ rr pc ls st sz t cl sl sp ks k => ezq_i1 false st fun y r => (ezq_brF ih dd Γ rr ls sz t cl sl sp ks k) cc y (.inl 0) a (pc + 3) r
noncomputable def ezq_f_if_icmp (cc : ClassFile.Cond) : ezq_FA := fun a b c d x ih dd Γ rr pc ls st sz t cl sl sp ks k => ezq_i1 false st fun y r => ezq_i1 false r fun x r => (ezq_brF ih dd Γ rr ls sz t cl sl sp ks k) cc x y a (pc + 3) r
noncomputable def ezq_f_goto  : ezq_FA := fun a b c d x ih dd Γ rr pc ls st sz t cl sl sp ks k => (ezq_go ih dd Γ rr sz t cl sl sp ks k) a ls st
noncomputable def ezq_f_ifnull  : ezq_FA := fun a b c d x ih dd Γ rr pc ls st sz t cl sl sp ks k => ezq_p1 false st fun p r => match p with
      | none => (ezq_go ih dd Γ rr sz t cl sl sp ks k) a ls r
      | some (.inl _) => (ezq_go ih dd Γ rr sz t cl sl sp ks k) (pc + 3) ls r
      | some (.inr i) => bif Nat.beq i 1 then (ezq_go ih dd Γ rr sz t cl sl sp ks k) (pc + 3) ls r else false
noncomputable def ezq_f_tableswitch (df lo : Int) (offs : Array Int) : ezq_FA := fun a b c d x ih dd Γ rr pc ls st sz t cl sl sp ks k => ezq_i1 false st fun y r => (ezq_swF ih dd Γ rr pc ls sz t cl sl sp ks k) (offs.toList.zipIdx.map fun q => (lo + (q.2 : Int), q.1)) df y r
noncomputable def ezq_f_lookupswitch (df : Int) (ps : Array (Int × Int)) : ezq_FA := fun a b c d x ih dd Γ rr pc ls st sz t cl sl sp ks k => ezq_i1 false st fun y r => (ezq_swF ih dd Γ rr pc ls sz t cl sl sp ks k) ps.toList df y r
noncomputable def ezq_f_getfield  : ezq_FA := fun a b c d x ih dd Γ rr pc ls st sz t cl sl sp ks k => ezq_p1 false st fun p r => bif Nat.beq a 100 then (match p with
        | some (.inr 2) => (ezq_go ih dd Γ rr sz t cl sl sp ks k) (pc + 3) ls (ezq_xt 3 :: r)
        | some (.inr 4) => (ezq_go ih dd Γ rr sz t cl sl sp ks k) (pc + 3) ls (ezq_xt 5 :: r)
        | _ => false) else bif Nat.beq a 101 then (match p with
        | some (.inr 2) => (ezq_go ih dd Γ rr sz t cl sl sp ks k) (pc + 3) ls (ezq_kn 0 :: r)
        | some (.inr 4) => (ezq_go ih dd Γ rr sz t cl sl sp ks k) (pc + 3) ls (ezq_kn 0 :: r)
        | _ => false) else ezq_ob false sz t p fun _ ci fs => bif Nat.beq ci a then (match fs[b]? with
        | some v => (ezq_go ih dd Γ rr sz t cl sl sp ks k) (pc + 3) ls (v :: r)
        | none => false) else false
noncomputable def ezq_f_putfield  : ezq_FA := fun a b c d x ih dd Γ rr pc ls st sz t cl sl sp ks k => ezq_w1 false d st fun v r => ezq_p1 false r fun p r => ezq_ob false sz t p fun q ci fs => bif Nat.beq ci a then (ezq_lset fs b v fun fs' => ezq_ts 7 t q (.inl (ci, fs')) fun t' => (ezq_gh ih dd Γ rr ls sp ks k) (pc + 3) r sz t' cl sl) else false
noncomputable def ezq_f_getstatic  : ezq_FA := fun a b c d x ih dd Γ rr pc ls st sz t cl sl sp ks k => match a with
      | 0 => (ezq_go ih dd Γ rr sz t cl sl sp ks k) (pc + 3) ls (ezq_xt 1 :: st)
      | 1 => (ezq_go ih dd Γ rr sz t cl sl sp ks k) (pc + 3) ls (ezq_kn 1 :: st)
      | 2 => (ezq_go ih dd Γ rr sz t cl sl sp ks k) (pc + 3) ls (ezq_xt 6 :: st)
      | _ => false
noncomputable def ezq_f_new  : ezq_FA := fun a b c d x ih dd Γ rr pc ls st sz t cl sl sp ks k => bif Nat.beq a 99 then false else ezq_al false sz t cl sl rr.2.2.2.2.2.2.1 rr.2.2.2.2.2.2.2 b (.inl (a, ezq_dfl a)) fun sz' t' cl' sl' => (ezq_gh ih dd Γ rr ls sp ks k) (pc + 3) (ezq_ow sz :: st) sz' t' cl' sl'
noncomputable def ezq_f_newarray (ty : ArrayType) : ezq_FA := fun a b c d x ih dd Γ rr pc ls st sz t cl sl sp ks k => ezq_i1 false st fun y r => match y with
      | .inl n => bif Nat.ble n 100000 && Nat.ble (ezq_ary ty) 2 then ezq_al false sz t cl sl rr.2.2.2.2.2.2.1 rr.2.2.2.2.2.2.2 n (.inr (ezq_ary ty, n, fun _ => ezq_ard ty)) fun sz' t' cl' sl' => (ezq_gh ih dd Γ rr ls sp ks k) (pc + 2) (ezq_ow sz :: r) sz' t' cl' sl' else false
      | _ => false
noncomputable def ezq_f_arraylength  : ezq_FA := fun a b c d x ih dd Γ rr pc ls st sz t cl sl sp ks k => ezq_p1 false st fun p r => match p with
      | some (.inl q) => ezq_ar false sz t (some (.inl q)) fun _ _ n _ => (ezq_go ih dd Γ rr sz t cl sl sp ks k) (pc + 1) ls (ezq_kn n :: r)
      | some (.inr i) => match i with
        | 0 => (ezq_go ih dd Γ rr sz t cl sl sp ks k) (pc + 1) ls (.inl (ezq_nm Γ (.inr (.inl 8))) :: r)
        | 1 => (ezq_go ih dd Γ rr sz t cl sl sp ks k) (pc + 1) ls (ezq_kn 11 :: r)
        | 3 => (ezq_go ih dd Γ rr sz t cl sl sp ks k) (pc + 1) ls (ezq_kn 254 :: r)
        | 5 => (ezq_go ih dd Γ rr sz t cl sl sp ks k) (pc + 1) ls (ezq_kn 8 :: r)
        | _ => false
      | none => false
noncomputable def ezq_f_iaload  : ezq_FA := fun a b c d x ih dd Γ rr pc ls st sz t cl sl sp ks k => ezq_i1 false st fun y r => ezq_p1 false r fun p r => match y with
      | .inl m => ezq_ald false Γ sz t 0 m p fun v => ezq_i1 false [v] fun z _ => (ezq_go ih dd Γ rr sz t cl sl sp ks k) (pc + 1) ls (.inl (ezq_nm Γ z) :: r)
      | _ => false
noncomputable def ezq_f_laload  : ezq_FA := fun a b c d x ih dd Γ rr pc ls st sz t cl sl sp ks k => ezq_i1 false st fun y r => ezq_p1 false r fun p r => match y with
      | .inl m => ezq_ald false Γ sz t 1 m p fun v => ezq_j1 false [v] fun z _ => (ezq_go ih dd Γ rr sz t cl sl sp ks k) (pc + 1) ls (.inr (.inl z) :: r)
      | _ => false
noncomputable def ezq_f_baload  : ezq_FA := fun a b c d x ih dd Γ rr pc ls st sz t cl sl sp ks k => ezq_i1 false st fun y r => ezq_p1 false r fun p r => match y with
      | .inl m => ezq_ald false Γ sz t 2 m p fun v => ezq_i1 false [v] fun z _ => (ezq_go ih dd Γ rr sz t cl sl sp ks k) (pc + 1) ls (.inl (ezq_nm Γ z) :: r)
      | _ => false
noncomputable def ezq_f_iastore  : ezq_FA := fun a b c d x ih dd Γ rr pc ls st sz t cl sl sp ks k => ezq_i1 false st fun v r => ezq_ast false sz t 0 (.inl v) r fun r t' => (ezq_gh ih dd Γ rr ls sp ks k) (pc + 1) r sz t' cl sl
noncomputable def ezq_f_lastore  : ezq_FA := fun a b c d x ih dd Γ rr pc ls st sz t cl sl sp ks k => ezq_j1 false st fun v r => ezq_ast false sz t 1 (.inr (.inl v)) r fun r t' => (ezq_gh ih dd Γ rr ls sp ks k) (pc + 1) r sz t' cl sl
noncomputable def ezq_f_bastore  : ezq_FA := fun a b c d x ih dd Γ rr pc ls st sz t cl sl sp ks k => ezq_w1 false 2 st fun v r => ezq_ast false sz t 2 v r fun r t' => (ezq_gh ih dd Γ rr ls sp ks k) (pc + 1) r sz t' cl sl
noncomputable def ezq_f_ldc  : ezq_FA := fun a b c d x ih dd Γ rr pc ls st sz t cl sl sp ks k => match a with
      | 0 => (ezq_go ih dd Γ rr sz t cl sl sp ks k) (pc + 2) ls (ezq_kn b :: st)
      | 1 => bif Nat.ble b 1 then (ezq_go ih dd Γ rr sz t cl sl sp ks k) (pc + 2) ls (ezq_xt (2 + 2 * b) :: st) else false
      | _ => false
noncomputable def ezq_f_ldc_w  : ezq_FA := fun a b c d x ih dd Γ rr pc ls st sz t cl sl sp ks k => match a with
      | 0 => (ezq_go ih dd Γ rr sz t cl sl sp ks k) (pc + 3) ls (ezq_kn b :: st)
      | _ => false
noncomputable def ezq_f_ldc2_w  : ezq_FA := fun a b c d x ih dd Γ rr pc ls st sz t cl sl sp ks k => match b with
      | 0 => (ezq_go ih dd Γ rr sz t cl sl sp ks k) (pc + 3) ls (.inr (.inl (.inl a)) :: st)
      | _ => false
noncomputable def ezq_f_checkcast  : ezq_FA := fun a b c d x ih dd Γ rr pc ls st sz t cl sl sp ks k => ezq_p1 false st fun p r => ezq_ar false sz t p fun _ ty _ _ => bif Nat.beq ty 0 then (ezq_go ih dd Γ rr sz t cl sl sp ks k) (pc + 3) ls (.inr (.inr p) :: r) else false
noncomputable def ezq_f_invokevirtual  : ezq_FA := fun a b c d x ih dd Γ rr pc ls st sz t cl sl sp ks k => bif Nat.beq c 8 then (ezq_p1 false st fun p r => match p with
        | some (.inr 1) => ezq_al false sz t cl sl rr.2.2.2.2.2.2.1 rr.2.2.2.2.2.2.2 11 (.inr (0, 11, fun j => ezq_kn (ezq_t1.getD j 0))) fun sz' t' cl' sl' => bif Nat.ble (ezq_cat r) 8 then (ezq_gh ih dd Γ rr ls sp ks k) (pc + 3) (ezq_ow sz :: r) sz' t' cl' sl' else false
        | _ => false) else (ezq_call false ezq_hB ih dd Γ rr pc ls st sz t cl sl sp ks k a b c d x)
noncomputable def ezq_f_invokespecial  : ezq_FA := fun a b c d x ih dd Γ rr pc ls st sz t cl sl sp ks k => bif Nat.beq c 5 then (ezq_p1 false st fun p r => match p with
        | some (.inl _) => bif Nat.ble (ezq_cat r) 8 then (ezq_go ih dd Γ rr sz t cl sl sp ks k) (pc + 3) ls r else false
        | _ => false) else (ezq_call false ezq_hB ih dd Γ rr pc ls st sz t cl sl sp ks k a b c d x)
noncomputable def ezq_f_invokestatic  : ezq_FA := fun a b c d x ih dd Γ rr pc ls st sz t cl sl sp ks k => bif Nat.beq c 7 then (bif Nat.ble (ezq_cat st) 8 && (Nat.ble cl rr.2.2.2.2.2.2.1 && Nat.ble sl rr.2.2.2.2.2.2.2) then (match a with
        | 0 => ezq_b2 false (fun x y => if x < y then y else x) st fun z r => (ezq_go ih dd Γ rr sz t cl sl sp ks k) (pc + 3) ls (.inl z :: r)
        | 1 => ezq_b2 false (fun x y => if y < x then y else x) st fun z r => (ezq_go ih dd Γ rr sz t cl sl sp ks k) (pc + 3) ls (.inl z :: r)
        | 2 => ezq_i1 false st fun y r => ezq_fi (ezq_o1 (fun x => if 0 ≤ x then x else 0 - x) y) fun z => (ezq_go ih dd Γ rr sz t cl sl sp ks k) (pc + 3) ls (.inl z :: r)
        | _ => false) else false) else (ezq_call false ezq_hB ih dd Γ rr pc ls st sz t cl sl sp ks k a b c d x)
noncomputable def ezq_f_ireturn  : ezq_FA := fun a b c d x ih dd Γ rr pc ls st sz t cl sl sp ks k => ezq_i1 false st fun y r => match r with
      | [] => (ezq_reF Γ rr sz t cl sl k) (some (.inl y))
      | _ => false
noncomputable def ezq_f_lreturn  : ezq_FA := fun a b c d x ih dd Γ rr pc ls st sz t cl sl sp ks k => ezq_j1 false st fun y r => match r with
      | [] => (ezq_reF Γ rr sz t cl sl k) (some (.inr (.inl y)))
      | _ => false
noncomputable def ezq_f_return_  : ezq_FA := fun a b c d x ih dd Γ rr pc ls st sz t cl sl sp ks k => match st with
      | [] => (ezq_reF Γ rr sz t cl sl k) none
      | _ => false
def ezq_f__ : ezq_FA := fun _ _ _ _ _ _ _ _ _ _ _ _ _ _ _ _ _ _ _ => false
noncomputable def ezq_fd : Instr → ezq_FA := fun i => @Instr.casesOn (fun _ => ezq_FA) i (ezq_f__) (ezq_f__) (ezq_f__) (fun _ => ezq_f_aload) (fun _ => ezq_f_aload_n) (fun _ => ezq_f__) (ezq_f__) ezq_f_arraylength (fun _ => ezq_f_astore) (fun _ => ezq_f_astore_n) (ezq_f__) ezq_f_baload ezq_f_bastore (fun _ => ezq_f_bipush) (ezq_f__) (ezq_f__) (fun _ => ezq_f_checkcast) (ezq_f__) (ezq_f__) (ezq_f__) (ezq_f__) (ezq_f__) (ezq_f__) (fun _ => ezq_f__) (fun _ => ezq_f__) (ezq_f__) (fun _ => ezq_f__) (fun _ => ezq_f__) (ezq_f__) (ezq_f__) (ezq_f__) (ezq_f__) (fun _ => ezq_f__) (fun _ => ezq_f__) (ezq_f__) ezq_f_dup (ezq_f__) (ezq_f__) ezq_f_dup2 (ezq_f__) (ezq_f__) (ezq_f__) (ezq_f__) (ezq_f__) (ezq_f__) (ezq_f__) (ezq_f__) (fun _ => ezq_f__) (fun _ => ezq_f__) (ezq_f__) (fun _ => ezq_f__) (fun _ => ezq_f__) (ezq_f__) (ezq_f__) (ezq_f__) (ezq_f__) (fun _ => ezq_f__) (fun _ => ezq_f__) (ezq_f__) (fun _ => ezq_f_getfield) (fun _ => ezq_f_getstatic) (fun _ => ezq_f_goto) (fun _ => ezq_f__) ezq_f_i2b ezq_f_i2c (ezq_f__) (ezq_f__) ezq_f_i2l (ezq_f__) ezq_f_iadd ezq_f_iaload ezq_f_iand ezq_f_iastore (fun _ => ezq_f_iconst) ezq_f_idiv (fun _ _ => ezq_f__) (fun cc _ => ezq_f_if_icmp cc) (fun cc _ => ezq_f_ifCond cc) (fun _ => ezq_f__) (fun _ => ezq_f_ifnull) (fun _ _ => ezq_f_iinc) (fun _ => ezq_f_iload) (fun _ => ezq_f_iload_n) ezq_f_imul ezq_f_ineg (fun _ => ezq_f__) (fun _ => ezq_f__) (fun _ _ => ezq_f__) (fun _ => ezq_f_invokespecial) (fun _ => ezq_f_invokestatic) (fun _ => ezq_f_invokevirtual) ezq_f_ior ezq_f_irem ezq_f_ireturn ezq_f_ishl ezq_f_ishr (fun _ => ezq_f_istore) (fun _ => ezq_f_istore_n) ezq_f_isub ezq_f_iushr ezq_f_ixor (fun _ => ezq_f__) (fun _ => ezq_f__) (ezq_f__) (ezq_f__) ezq_f_l2i ezq_f_ladd ezq_f_laload ezq_f_land ezq_f_lastore ezq_f_lcmp (fun _ => ezq_f_lconst) (fun _ => ezq_f_ldc) (fun _ => ezq_f_ldc_w) (fun _ => ezq_f_ldc2_w) ezq_f_ldiv (fun _ => ezq_f_lload) (fun _ => ezq_f_lload_n) ezq_f_lmul (ezq_f__) (fun df ps => ezq_f_lookupswitch df ps) ezq_f_lor ezq_f_lrem ezq_f_lreturn ezq_f_lshl ezq_f_lshr (fun _ => ezq_f_lstore) (fun _ => ezq_f_lstore_n) ezq_f_lsub ezq_f_lushr ezq_f_lxor (ezq_f__) (ezq_f__) (fun _ _ => ezq_f__) (fun _ => ezq_f_new) (fun ty => ezq_f_newarray ty) (ezq_f__) ezq_f_pop (ezq_f__) (fun _ => ezq_f_putfield) (fun _ => ezq_f__) (fun _ => ezq_f__) ezq_f_return_ (ezq_f__) (ezq_f__) (fun _ => ezq_f_sipush) (ezq_f__) (fun df lo _ offs => ezq_f_tableswitch df lo offs)
noncomputable def ezq_fx (ih : ezq_RT Bool) (dd : Nat) (Γ : ezq_G) (r : ezq_R) (pc : Nat) (ls : ezq_S) (st : List ezq_V) (sz : Nat) (t : ezq_T 7) (cl sl sp : Nat) (ks : ezq_KS Bool) (k : ezq_KK Bool) (o : Option ezq_Y) : Bool := match o with
  | none => false
  | some e => ezq_fd e.1 e.2.2.1 e.2.2.2.1 e.2.2.2.2.1 e.2.2.2.2.2.1 e.2.2.2.2.2.2 ih dd Γ r pc ls st sz t cl sl sp ks k
noncomputable def ezq_frun : Nat → ezq_RT Bool := fun fuel => Nat.rec (motive := fun _ => ezq_RT Bool) (fun _ _ _ _ _ _ _ _ _ _ _ _ _ => false) (fun _ ih dd Γ r pc ls st sz t cl sl sp ks k => ezq_fx ih dd Γ r pc ls st sz t cl sl sp ks k (r.1 pc)) fuel
theorem ezq_fx_eq (ih : ezq_RT Bool) (d : Nat) (Γ : ezq_G) (r : ezq_R) (pc : Nat) (ls : ezq_S) (st : List ezq_V) (sz : Nat) (t : ezq_T 7) (cl sl sp : Nat) (ks : ezq_KS Bool) (k : ezq_KK Bool) (e : ezq_Y) :
    ezq_fx ih d Γ r pc ls st sz t cl sl sp ks k (some e) = ezq_step false Γ e pc ls st sz t cl sl r.2.2.2.2.2.2.1 r.2.2.2.2.2.2.2
        (fun pc' ls' st' => ezq_fn pc' fun q => bif Nat.beq q sp then ks Γ ls' st' sz t cl sl else ezq_id (ih d Γ r q ls' st' sz t cl sl sp ks k))
        (fun pc' st' sz' t' cl' sl' => ezq_fn pc' fun q => ezq_id (ih d Γ r q ls st' sz' t' cl' sl' sp ks k))
        (fun cc x y p1 p2 st' => ezq_cmp ezq_an Γ cc x y (fun Γ' => ezq_fn p1 fun q => bif Nat.beq q sp then ks Γ' ls st' sz t cl sl else ezq_id (ih d Γ' r q ls st' sz t cl sl sp ks k)) (fun Γ' => ezq_fn p2 fun q => bif Nat.beq q sp then ks Γ' ls st' sz t cl sl else ezq_id (ih d Γ' r q ls st' sz t cl sl sp ks k)))
        (fun ps df y st' => ezq_swl ezq_an y (fun Γ' o => bif decide ((pc : Int) + o < 0) then false else ezq_fn ((pc : Int) + o).toNat fun q => ezq_id (ih d Γ' r q ls st' sz t cl sl sp ks k)) (fun Γ' => bif decide ((pc : Int) + df < 0) then false else ezq_fn ((pc : Int) + df).toNat fun q => ezq_id (ih d Γ' r q ls st' sz t cl sl sp ks k)) ps Γ)
        (ezq_call false ezq_hB ih d Γ r pc ls st sz t cl sl sp ks k e.2.2.1 e.2.2.2.1 e.2.2.2.2.1 e.2.2.2.2.2.1 e.2.2.2.2.2.2)
        (fun v => bif ezq_rok r.2.2.2.2.2.1 v && (Nat.ble cl r.2.2.2.2.2.2.1 && Nat.ble sl r.2.2.2.2.2.2.2) then k Γ v sz t else false) := by
  obtain ⟨i, l, a, b, c, d1, x⟩ := e
  cases i <;> rfl
theorem ezq_frun_eq (n : Nat) : ezq_frun n = ezq_run false ezq_an ezq_hB n := by
  induction n with
  | zero => rfl
  | succ n ih =>
    funext d Γ r pc ls st sz t cl sl sp ks k
    show ezq_fx (ezq_frun n) d Γ r pc ls st sz t cl sl sp ks k (r.1 pc) = _
    rw [ih]
    show _ = (match r.1 pc with
      | none => false
      | some e => ezq_step false Γ e pc ls st sz t cl sl r.2.2.2.2.2.2.1 r.2.2.2.2.2.2.2
        (fun pc' ls' st' => ezq_fn pc' fun q => bif Nat.beq q sp then ks Γ ls' st' sz t cl sl else ezq_id (ezq_run false ezq_an ezq_hB n d Γ r q ls' st' sz t cl sl sp ks k))
        (fun pc' st' sz' t' cl' sl' => ezq_fn pc' fun q => ezq_id (ezq_run false ezq_an ezq_hB n d Γ r q ls st' sz' t' cl' sl' sp ks k))
        (fun cc x y p1 p2 st' => ezq_cmp ezq_an Γ cc x y (fun Γ' => ezq_fn p1 fun q => bif Nat.beq q sp then ks Γ' ls st' sz t cl sl else ezq_id (ezq_run false ezq_an ezq_hB n d Γ' r q ls st' sz t cl sl sp ks k)) (fun Γ' => ezq_fn p2 fun q => bif Nat.beq q sp then ks Γ' ls st' sz t cl sl else ezq_id (ezq_run false ezq_an ezq_hB n d Γ' r q ls st' sz t cl sl sp ks k)))
        (fun ps df y st' => ezq_swl ezq_an y (fun Γ' o => bif decide ((pc : Int) + o < 0) then false else ezq_fn ((pc : Int) + o).toNat fun q => ezq_id (ezq_run false ezq_an ezq_hB n d Γ' r q ls st' sz t cl sl sp ks k)) (fun Γ' => bif decide ((pc : Int) + df < 0) then false else ezq_fn ((pc : Int) + df).toNat fun q => ezq_id (ezq_run false ezq_an ezq_hB n d Γ' r q ls st' sz t cl sl sp ks k)) ps Γ)
        (ezq_call false ezq_hB (ezq_run false ezq_an ezq_hB n) d Γ r pc ls st sz t cl sl sp ks k e.2.2.1 e.2.2.2.1 e.2.2.2.2.1 e.2.2.2.2.2.1 e.2.2.2.2.2.2)
        (fun v => bif ezq_rok r.2.2.2.2.2.1 v && (Nat.ble cl r.2.2.2.2.2.2.1 && Nat.ble sl r.2.2.2.2.2.2.2) then k Γ v sz t else false))
    cases r.1 pc with
    | none => rfl
    | some e => exact ezq_fx_eq _ d Γ r pc ls st sz t cl sl sp ks k e
