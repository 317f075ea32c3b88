/-! ===== the interpreter once more, in small pieces, faster for the kernel: first over what a call gives back ===== -/
abbrev ezq_Re : Type := Option ezq_V × (Nat × ezq_T 7)
abbrev ezq_Ro : Type := Option ezq_Re
def ezq_un : (ezq_E → Bool) → ezq_Ro → ezq_Ro → ezq_Ro := fun _ _ _ => none
noncomputable def ezq_hU : ezq_HT ezq_Ro := ezq_h0 none
noncomputable def ezq_uo (ih : ezq_RT ezq_Ro) (dd : Nat) (Γ : ezq_G) (r : ezq_R) (sz : Nat) (t : ezq_T 7) (cl sl sp : Nat) (ks : ezq_KS ezq_Ro) (k : ezq_KK ezq_Ro) : Nat → ezq_S → List ezq_V → ezq_Ro := fun pc ls st => ezq_fn pc fun q => bif Nat.beq q sp then ks Γ ls st sz t cl sl else ezq_id (ih dd Γ r q ls st sz t cl sl sp ks k)
noncomputable def ezq_uh (ih : ezq_RT ezq_Ro) (dd : Nat) (Γ : ezq_G) (r : ezq_R) (ls : ezq_S) (sp : Nat) (ks : ezq_KS ezq_Ro) (k : ezq_KK ezq_Ro) : Nat → List ezq_V → Nat → ezq_T 7 → Nat → Nat → ezq_Ro := fun pc st sz t cl sl => ezq_fn pc fun q => ezq_id (ih dd Γ r q ls st sz t cl sl sp ks k)
noncomputable def ezq_ub (ih : ezq_RT ezq_Ro) (dd : Nat) (r : ezq_R) (ls : ezq_S) (st : List ezq_V) (sz : Nat) (t : ezq_T 7) (cl sl sp : Nat) (ks : ezq_KS ezq_Ro) (k : ezq_KK ezq_Ro) (pc : Nat) : ezq_G → ezq_Ro := fun Γ => ezq_fn pc fun q => bif Nat.beq q sp then ks Γ ls st sz t cl sl else ezq_id (ih dd Γ r q ls st sz t cl sl sp ks k)
noncomputable def ezq_ubr (ih : ezq_RT ezq_Ro) (dd : Nat) (Γ : ezq_G) (r : ezq_R) (ls : ezq_S) (sz : Nat) (t : ezq_T 7) (cl sl sp : Nat) (ks : ezq_KS ezq_Ro) (k : ezq_KK ezq_Ro) : ClassFile.Cond → ezq_I → ezq_I → Nat → Nat → List ezq_V → ezq_Ro := fun cc x y p1 p2 st => ezq_cmp ezq_un Γ cc x y (ezq_ub ih dd r ls st sz t cl sl sp ks k p1) (ezq_ub ih dd r ls st sz t cl sl sp ks k p2)
noncomputable def ezq_usw (ih : ezq_RT ezq_Ro) (dd : Nat) (Γ : ezq_G) (r : ezq_R) (pc : Nat) (ls : ezq_S) (sz : Nat) (t : ezq_T 7) (cl sl sp : Nat) (ks : ezq_KS ezq_Ro) (k : ezq_KK ezq_Ro) : List (Int × Int) → Int → ezq_I → List ezq_V → ezq_Ro := fun ps df y st => ezq_swl ezq_un y (fun Γ o => bif decide ((pc : Int) + o < 0) then none else ezq_fn ((pc : Int) + o).toNat fun q => ezq_id (ih dd Γ r q ls st sz t cl sl sp ks k)) (fun Γ => bif decide ((pc : Int) + df < 0) then none else ezq_fn ((pc : Int) + df).toNat fun q => ezq_id (ih dd Γ r q ls st sz t cl sl sp ks k)) ps Γ
noncomputable def ezq_ure (Γ : ezq_G) (r : ezq_R) (sz : Nat) (t : ezq_T 7) (cl sl : Nat) (k : ezq_KK ezq_Ro) : Option ezq_V → ezq_Ro := fun v => bif ezq_rok r.2.2.2.2.2.1 v && (Nat.ble cl r.2.2.2.2.2.2.1 && Nat.ble sl r.2.2.2.2.2.2.2) then k Γ v sz t else none
abbrev ezq_UA : Type := Nat → Nat → Nat → Nat → Nat → ezq_RT ezq_Ro → ezq_RT ezq_Ro
noncomputable def ezq_u_iconst  : ezq_UA := fun a b c d x ih dd Γ rr pc ls st sz t cl sl sp ks k => (ezq_uo ih dd Γ rr sz t cl sl sp ks k) (pc + 1) ls (.inl (.inl a) :: st)
noncomputable def ezq_u_bipush  : ezq_UA := fun a b c d x ih dd Γ rr pc ls st sz t cl sl sp ks k => (ezq_uo ih dd Γ rr sz t cl sl sp ks k) (pc + 2) ls (.inl (.inl a) :: st)
noncomputable def ezq_u_sipush  : ezq_UA := fun a b c d x ih dd Γ rr pc ls st sz t cl sl sp ks k => (ezq_uo ih dd Γ rr sz t cl sl sp ks k) (pc + 3) ls (.inl (.inl a) :: st)
noncomputable def ezq_u_lconst  : ezq_UA := fun a b c d x ih dd Γ rr pc ls st sz t cl sl sp ks k => (ezq_uo ih dd Γ rr sz t cl sl sp ks k) (pc + 1) ls (.inr (.inl (.inl a)) :: st)
noncomputable def ezq_u_iload_n  : ezq_UA := fun a b c d x ih dd Γ rr pc ls st sz t cl sl sp ks k => ezq_lo none ls a fun v => ezq_i1 none [v] fun y _ => (ezq_uo ih dd Γ rr sz t cl sl sp ks k) (pc + 1) ls (.inl (ezq_nm Γ y) :: st)
noncomputable def ezq_u_iload  : ezq_UA := fun a b c d x ih dd Γ rr pc ls st sz t cl sl sp ks k => ezq_lo none ls a fun v => ezq_i1 none [v] fun y _ => (ezq_uo ih dd Γ rr sz t cl sl sp ks k) (pc + 2) ls (.inl (ezq_nm Γ y) :: st)
noncomputable def ezq_u_lload_n  : ezq_UA := fun a b c d x ih dd Γ rr pc ls st sz t cl sl sp ks k => ezq_lo none ls a fun v => ezq_j1 none [v] fun y _ => (ezq_uo ih dd Γ rr sz t cl sl sp ks k) (pc + 1) ls (.inr (.inl y) :: st)
noncomputable def ezq_u_lload  : ezq_UA := fun a b c d x ih dd Γ rr pc ls st sz t cl sl sp ks k => ezq_lo none ls a fun v => ezq_j1 none [v] fun y _ => (ezq_uo ih dd Γ rr sz t cl sl sp ks k) (pc + 2) ls (.inr (.inl y) :: st)
noncomputable def ezq_u_aload_n  : ezq_UA := fun a b c d x ih dd Γ rr pc ls st sz t cl sl sp ks k => ezq_lo none ls a fun v => ezq_p1 none [v] fun y _ => (ezq_uo ih dd Γ rr sz t cl sl sp ks k) (pc + 1) ls (.inr (.inr y) :: st)
noncomputable def ezq_u_aload  : ezq_UA := fun a b c d x ih dd Γ rr pc ls st sz t cl sl sp ks k => ezq_lo none ls a fun v => ezq_p1 none [v] fun y _ => (ezq_uo ih dd Γ rr sz t cl sl sp ks k) (pc + 2) ls (.inr (.inr y) :: st)
noncomputable def ezq_u_istore_n  : ezq_UA := fun a b c d x ih dd Γ rr pc ls st sz t cl sl sp ks k => ezq_i1 none st fun y r => ezq_sto a (.inl y) ls fun l => (ezq_uo ih dd Γ rr sz t cl sl sp ks k) (pc + 1) l r
noncomputable def ezq_u_istore  : ezq_UA := fun a b c d x ih dd Γ rr pc ls st sz t cl sl sp ks k => ezq_i1 none st fun y r => ezq_sto a (.inl y) ls fun l => (ezq_uo ih dd Γ rr sz t cl sl sp ks k) (pc + 2) l r
noncomputable def ezq_u_lstore_n  : ezq_UA := fun a b c d x ih dd Γ rr pc ls st sz t cl sl sp ks k => ezq_j1 none st fun y r => ezq_sto a (.inr (.inl y)) ls fun l => (ezq_uo ih dd Γ rr sz t cl sl sp ks k) (pc + 1) l r
noncomputable def ezq_u_lstore  : ezq_UA := fun a b c d x ih dd Γ rr pc ls st sz t cl sl sp ks k => ezq_j1 none st fun y r => ezq_sto a (.inr (.inl y)) ls fun l => (ezq_uo ih dd Γ rr sz t cl sl sp ks k) (pc + 2) l r
noncomputable def ezq_u_astore_n  : ezq_UA := fun a b c d x ih dd Γ rr pc ls st sz t cl sl sp ks k => ezq_p1 none st fun y r => ezq_sto a (.inr (.inr y)) ls fun l => (ezq_uo ih dd Γ rr sz t cl sl sp ks k) (pc + 1) l r
noncomputable def ezq_u_astore  : ezq_UA := fun a b c d x ih dd Γ rr pc ls st sz t cl sl sp ks k => ezq_p1 none st fun y r => ezq_sto a (.inr (.inr y)) ls fun l => (ezq_uo ih dd Γ rr sz t cl sl sp ks k) (pc + 2) l r
noncomputable def ezq_u_iinc  : ezq_UA := fun a b c d x ih dd Γ rr pc ls st sz t cl sl sp ks k => ezq_lo none ls a fun v => ezq_i1 none [v] fun y _ => ezq_fi (ezq_o2 (fun x y => x + y) y (.inl b)) fun z => ezq_sto a (.inl z) ls fun l => (ezq_uo ih dd Γ rr sz t cl sl sp ks k) (pc + 3) l st
noncomputable def ezq_u_iadd  : ezq_UA := fun a b c d x ih dd Γ rr pc ls st sz t cl sl sp ks k => ezq_b2 none (fun x y => x + y) st fun z r => (ezq_uo ih dd Γ rr sz t cl sl sp ks k) (pc + 1) ls (.inl z :: r)
noncomputable def ezq_u_isub  : ezq_UA := fun a b c d x ih dd Γ rr pc ls st sz t cl sl sp ks k => ezq_i1 none st fun y r => ezq_i1 none r fun x r => ezq_fi (ezq_sub x y) fun z => (ezq_uo ih dd Γ rr sz t cl sl sp ks k) (pc + 1) ls (.inl z :: r)
noncomputable def ezq_u_imul  : ezq_UA := fun a b c d x ih dd Γ rr pc ls st sz t cl sl sp ks k => ezq_b2 none (fun x y => x * y) st fun z r => (ezq_uo ih dd Γ rr sz t cl sl sp ks k) (pc + 1) ls (.inl z :: r)
noncomputable def ezq_u_iand  : ezq_UA := fun a b c d x ih dd Γ rr pc ls st sz t cl sl sp ks k => ezq_i1 none st fun y r => ezq_i1 none r fun x r => ezq_fi (ezq_nm Γ (ezq_and x y)) fun z => (ezq_uo ih dd Γ rr sz t cl sl sp ks k) (pc + 1) ls (.inl z :: r)
noncomputable def ezq_u_ior  : ezq_UA := fun a b c d x ih dd Γ rr pc ls st sz t cl sl sp ks k => ezq_b2 none (fun x y => x ||| y) st fun z r => (ezq_uo ih dd Γ rr sz t cl sl sp ks k) (pc + 1) ls (.inl z :: r)
noncomputable def ezq_u_ixor  : ezq_UA := fun a b c d x ih dd Γ rr pc ls st sz t cl sl sp ks k => ezq_b2 none (fun x y => x ^^^ y) st fun z r => (ezq_uo ih dd Γ rr sz t cl sl sp ks k) (pc + 1) ls (.inl z :: r)
noncomputable def ezq_u_ishl  : ezq_UA := fun a b c d x ih dd Γ rr pc ls st sz t cl sl sp ks k => ezq_b2 none (fun x y => x <<< (y &&& 31)) st fun z r => (ezq_uo ih dd Γ rr sz t cl sl sp ks k) (pc + 1) ls (.inl z :: r)
noncomputable def ezq_u_ishr  : ezq_UA := fun a b c d x ih dd Γ rr pc ls st sz t cl sl sp ks k => ezq_b2 none (fun x y => x >>> (y &&& 31)) st fun z r => (ezq_uo ih dd Γ rr sz t cl sl sp ks k) (pc + 1) ls (.inl z :: r)
noncomputable def ezq_u_iushr  : ezq_UA := fun a b c d x ih dd Γ rr pc ls st sz t cl sl sp ks k => ezq_b2 none (fun x y => (x.toUInt32 >>> (y.toUInt32 &&& Int32.toUInt32 31)).toInt32) st fun z r => (ezq_uo ih dd Γ rr sz t cl sl sp ks k) (pc + 1) ls (.inl z :: r)
noncomputable def ezq_u_idiv  : ezq_UA := fun a b c d x ih dd Γ rr pc ls st sz t cl sl sp ks k => ezq_div none (fun x y => x / y) st fun z r => (ezq_uo ih dd Γ rr sz t cl sl sp ks k) (pc + 1) ls (.inl z :: r)
noncomputable def ezq_u_irem  : ezq_UA := fun a b c d x ih dd Γ rr pc ls st sz t cl sl sp ks k => ezq_div none (fun x y => x - x / y * y) st fun z r => (ezq_uo ih dd Γ rr sz t cl sl sp ks k) (pc + 1) ls (.inl z :: r)
noncomputable def ezq_u_ineg  : ezq_UA := fun a b c d x ih dd Γ rr pc ls st sz t cl sl sp ks k => ezq_i1 none st fun y r => ezq_fi (ezq_o1 (fun x => -x) y) fun z => (ezq_uo ih dd Γ rr sz t cl sl sp ks k) (pc + 1) ls (.inl z :: r)
noncomputable def ezq_u_i2l  : ezq_UA := fun a b c d x ih dd Γ rr pc ls st sz t cl sl sp ks k => ezq_i1 none st fun y r => ezq_fl (ezq_i2l y) fun z => (ezq_uo ih dd Γ rr sz t cl sl sp ks k) (pc + 1) ls (.inr (.inl z) :: r)
noncomputable def ezq_u_i2b  : ezq_UA := fun a b c d x ih dd Γ rr pc ls st sz t cl sl sp ks k => ezq_i1 none st fun y r => ezq_fi (ezq_o1 (fun x => x.toInt8.toInt32) y) fun z => (ezq_uo ih dd Γ rr sz t cl sl sp ks k) (pc + 1) ls (.inl z :: r)
noncomputable def ezq_u_i2c  : ezq_UA := fun a b c d x ih dd Γ rr pc ls st sz t cl sl sp ks k => ezq_i1 none st fun y r => ezq_fi (ezq_o1 (fun x => (x.toUInt32 % 65536).toInt32) y) fun z => (ezq_uo ih dd Γ rr sz t cl sl sp ks k) (pc + 1) ls (.inl z :: r)
noncomputable def ezq_u_l2i  : ezq_UA := fun a b c d x ih dd Γ rr pc ls st sz t cl sl sp ks k => ezq_j1 none st fun y r => ezq_fi (ezq_li (fun x => x.toInt32) y) fun z => (ezq_uo ih dd Γ rr sz t cl sl sp ks k) (pc + 1) ls (.inl z :: r)
noncomputable def ezq_u_lcmp  : ezq_UA := fun a b c d x ih dd Γ rr pc ls st sz t cl sl sp ks k => ezq_j1 none st fun y r => ezq_j1 none r fun x r => ezq_fi (ezq_lli lg_cmp x y) fun z => (ezq_uo ih dd Γ rr sz t cl sl sp ks k) (pc + 1) ls (.inl z :: r)
noncomputable def ezq_u_ladd  : ezq_UA := fun a b c d x ih dd Γ rr pc ls st sz t cl sl sp ks k => ezq_bl none (fun x y => x + y) st fun z r => (ezq_uo ih dd Γ rr sz t cl sl sp ks k) (pc + 1) ls (.inr (.inl z) :: r)
noncomputable def ezq_u_lsub  : ezq_UA := fun a b c d x ih dd Γ rr pc ls st sz t cl sl sp ks k => ezq_bl none (fun x y => x - y) st fun z r => (ezq_uo ih dd Γ rr sz t cl sl sp ks k) (pc + 1) ls (.inr (.inl z) :: r)
noncomputable def ezq_u_lmul  : ezq_UA := fun a b c d x ih dd Γ rr pc ls st sz t cl sl sp ks k => ezq_bl none (fun x y => x * y) st fun z r => (ezq_uo ih dd Γ rr sz t cl sl sp ks k) (pc + 1) ls (.inr (.inl z) :: r)
noncomputable def ezq_u_land  : ezq_UA := fun a b c d x ih dd Γ rr pc ls st sz t cl sl sp ks k => ezq_j1 none st fun y r => ezq_j1 none r fun x r => ezq_fl (ezq_lan x y) fun z => (ezq_uo ih dd Γ rr sz t cl sl sp ks k) (pc + 1) ls (.inr (.inl z) :: r)
noncomputable def ezq_u_lor  : ezq_UA := fun a b c d x ih dd Γ rr pc ls st sz t cl sl sp ks k => ezq_j1 none st fun y r => ezq_j1 none r fun x r => ezq_fl (ezq_lor x y) fun z => (ezq_uo ih dd Γ rr sz t cl sl sp ks k) (pc + 1) ls (.inr (.inl z) :: r)
noncomputable def ezq_u_lxor  : ezq_UA := fun a b c d x ih dd Γ rr pc ls st sz t cl sl sp ks k => ezq_bl none (fun x y => x ^^^ y) st fun z r => (ezq_uo ih dd Γ rr sz t cl sl sp ks k) (pc + 1) ls (.inr (.inl z) :: r)
noncomputable def ezq_u_ldiv  : ezq_UA := fun a b c d x ih dd Γ rr pc ls st sz t cl sl sp ks k => ezq_ldv none (fun x y => x / y) st fun z r => (ezq_uo ih dd Γ rr sz t cl sl sp ks k) (pc + 1) ls (.inr (.inl z) :: r)
noncomputable def ezq_u_lrem  : ezq_UA := fun a b c d x ih dd Γ rr pc ls st sz t cl sl sp ks k => ezq_ldv none (fun x y => x - x / y * y) st fun z r => (ezq_uo ih dd Γ rr sz t cl sl sp ks k) (pc + 1) ls (.inr (.inl z) :: r)
noncomputable def ezq_u_lshl  : ezq_UA := fun a b c d x ih dd Γ rr pc ls st sz t cl sl sp ks k => ezq_i1 none st fun y r => ezq_j1 none r fun x r => ezq_fl (ezq_shl x y) fun z => (ezq_uo ih dd Γ rr sz t cl sl sp ks k) (pc + 1) ls (.inr (.inl z) :: r)
noncomputable def ezq_u_lshr  : ezq_UA := fun a b c d x ih dd Γ rr pc ls st sz t cl sl sp ks k => ezq_sh none (fun x y => x >>> (y.toInt64 &&& 63)) st fun z r => (ezq_uo ih dd Γ rr sz t cl sl sp ks k) (pc + 1) ls (.inr (.inl z) :: r)
noncomputable def ezq_u_lushr  : ezq_UA := fun a b c d x ih dd Γ rr pc ls st sz t cl sl sp ks k => ezq_sh none (fun x y => (x.toUInt64 >>> (y.toInt64.toUInt64 &&& Int64.toUInt64 63)).toInt64) st fun z r => (ezq_uo ih dd Γ rr sz t cl sl sp ks k) (pc + 1) ls (.inr (.inl z) :: r)
noncomputable def ezq_u_dup  : ezq_UA := fun a b c d x ih dd Γ rr pc ls st sz t cl sl sp ks k => ezq_v1 none st fun y r => (ezq_uo ih dd Γ rr sz t cl sl sp ks k) (pc + 1) ls (y :: y :: r)
noncomputable def ezq_u_pop  : ezq_UA := fun a b c d x ih dd Γ rr pc ls st sz t cl sl sp ks k => ezq_v1 none st fun _ r => (ezq_uo ih dd Γ rr sz t cl sl sp ks k) (pc + 1) ls r
noncomputable def ezq_u_dup2  : ezq_UA := fun a b c d x ih dd Γ rr pc ls st sz t cl sl sp ks k => ezq_v1 none st fun y r => ezq_v1 none r fun z r => (ezq_uo ih dd Γ rr sz t cl sl sp ks k) (pc + 1) ls (y :: z :: y :: z :: r)
noncomputable def ezq_u_ifCond (cc : ClassFile.Cond) : ezq_UA := fun a b c d x ih dd Γ rr pc ls st sz t cl sl sp ks k => ezq_i1 none st fun y r => (ezq_ubr ih dd Γ rr ls sz t cl sl sp ks k) cc y (.inl 0) a (pc + 3) r
noncomputable def ezq_u_if_icmp (cc : ClassFile.Cond) : ezq_UA := fun a b c d x ih dd Γ rr pc ls st sz t cl sl sp ks k => ezq_i1 none st fun y r => ezq_i1 none r fun x r => (ezq_ubr ih dd Γ rr ls sz t cl sl sp ks k) cc x y a (pc + 3) r
noncomputable def ezq_u_goto  : ezq_UA := fun a b c d x ih dd Γ rr pc ls st sz t cl sl sp ks k => (ezq_uo ih dd Γ rr sz t cl sl sp ks k) a ls st
noncomputable def ezq_u_ifnull  : ezq_UA := fun a b c d x ih dd Γ rr pc ls st sz t cl sl sp ks k => ezq_p1 none st fun p r => match p with
      | none => (ezq_uo ih dd Γ rr sz t cl sl sp ks k) a ls r
      | some (.inl _) => (ezq_uo ih dd Γ rr sz t cl sl sp ks k) (pc + 3) ls r
      | some (.inr i) => bif Nat.beq i 1 then (ezq_uo ih dd Γ rr sz t cl sl sp ks k) (pc + 3) ls r else none
noncomputable def ezq_u_tableswitch (df lo : Int) (offs : Array Int) : ezq_UA := fun a b c d x ih dd Γ rr pc ls st sz t cl sl sp ks k => ezq_i1 none st fun y r => (ezq_usw ih dd Γ rr pc ls sz t cl sl sp ks k) (offs.toList.zipIdx.map fun q => (lo + (q.2 : Int), q.1)) df y r
noncomputable def ezq_u_lookupswitch (df : Int) (ps : Array (Int × Int)) : ezq_UA := fun a b c d x ih dd Γ rr pc ls st sz t cl sl sp ks k => ezq_i1 none st fun y r => (ezq_usw ih dd Γ rr pc ls sz t cl sl sp ks k) ps.toList df y r
noncomputable def ezq_u_getfield  : ezq_UA := fun a b c d x ih dd Γ rr pc ls st sz t cl sl sp ks k => ezq_p1 none st fun p r => bif Nat.beq a 100 then (match p with
        | some (.inr 2) => (ezq_uo ih dd Γ rr sz t cl sl sp ks k) (pc + 3) ls (ezq_xt 3 :: r)
        | some (.inr 4) => (ezq_uo ih dd Γ rr sz t cl sl sp ks k) (pc + 3) ls (ezq_xt 5 :: r)
        | _ => none) else bif Nat.beq a 101 then (match p with
        | some (.inr 2) => (ezq_uo ih dd Γ rr sz t cl sl sp ks k) (pc + 3) ls (ezq_kn 0 :: r)
        | some (.inr 4) => (ezq_uo ih dd Γ rr sz t cl sl sp ks k) (pc + 3) ls (ezq_kn 0 :: r)
        | _ => none) else ezq_ob none sz t p fun _ ci fs => bif Nat.beq ci a then (match fs[b]? with
        | some v => (ezq_uo ih dd Γ rr sz t cl sl sp ks k) (pc + 3) ls (v :: r)
        | none => none) else none
noncomputable def ezq_u_putfield  : ezq_UA := fun a b c d x ih dd Γ rr pc ls st sz t cl sl sp ks k => ezq_w1 none d st fun v r => ezq_p1 none r fun p r => ezq_ob none sz t p fun q ci fs => bif Nat.beq ci a then (ezq_lset fs b v fun fs' => ezq_ts 7 t q (.inl (ci, fs')) fun t' => (ezq_uh ih dd Γ rr ls sp ks k) (pc + 3) r sz t' cl sl) else none
noncomputable def ezq_u_getstatic  : ezq_UA := fun a b c d x ih dd Γ rr pc ls st sz t cl sl sp ks k => match a with
      | 0 => (ezq_uo ih dd Γ rr sz t cl sl sp ks k) (pc + 3) ls (ezq_xt 1 :: st)
      | 1 => (ezq_uo ih dd Γ rr sz t cl sl sp ks k) (pc + 3) ls (ezq_kn 1 :: st)
      | 2 => (ezq_uo ih dd Γ rr sz t cl sl sp ks k) (pc + 3) ls (ezq_xt 6 :: st)
      | _ => none
noncomputable def ezq_u_new  : ezq_UA := fun a b c d x ih dd Γ rr pc ls st sz t cl sl sp ks k => bif Nat.beq a 99 then none else ezq_al none sz t cl sl rr.2.2.2.2.2.2.1 rr.2.2.2.2.2.2.2 b (.inl (a, ezq_dfl a)) fun sz' t' cl' sl' => (ezq_uh ih dd Γ rr ls sp ks k) (pc + 3) (ezq_ow sz :: st) sz' t' cl' sl'
noncomputable def ezq_u_newarray (ty : ArrayType) : ezq_UA := fun a b c d x ih dd Γ rr pc ls st sz t cl sl sp ks k => ezq_i1 none st fun y r => match y with
      | .inl n => bif Nat.ble n 100000 && Nat.ble (ezq_ary ty) 2 then ezq_al none sz t cl sl rr.2.2.2.2.2.2.1 rr.2.2.2.2.2.2.2 n (.inr (ezq_ary ty, n, fun _ => ezq_ard ty)) fun sz' t' cl' sl' => (ezq_uh ih dd Γ rr ls sp ks k) (pc + 2) (ezq_ow sz :: r) sz' t' cl' sl' else none
      | _ => none
noncomputable def ezq_u_arraylength  : ezq_UA := fun a b c d x ih dd Γ rr pc ls st sz t cl sl sp ks k => ezq_p1 none st fun p r => match p with
      | some (.inl q) => ezq_ar none sz t (some (.inl q)) fun _ _ n _ => (ezq_uo ih dd Γ rr sz t cl sl sp ks k) (pc + 1) ls (ezq_kn n :: r)
      | some (.inr i) => match i with
        | 0 => (ezq_uo ih dd Γ rr sz t cl sl sp ks k) (pc + 1) ls (.inl (ezq_nm Γ (.inr (.inl 8))) :: r)
        | 1 => (ezq_uo ih dd Γ rr sz t cl sl sp ks k) (pc + 1) ls (ezq_kn 11 :: r)
        | 3 => (ezq_uo ih dd Γ rr sz t cl sl sp ks k) (pc + 1) ls (ezq_kn 254 :: r)
        | 5 => (ezq_uo ih dd Γ rr sz t cl sl sp ks k) (pc + 1) ls (ezq_kn 8 :: r)
        | _ => none
      | none => none
noncomputable def ezq_u_iaload  : ezq_UA := fun a b c d x ih dd Γ rr pc ls st sz t cl sl sp ks k => ezq_i1 none st fun y r => ezq_p1 none r fun p r => match y with
      | .inl m => ezq_ald none Γ sz t 0 m p fun v => ezq_i1 none [v] fun z _ => (ezq_uo ih dd Γ rr sz t cl sl sp ks k) (pc + 1) ls (.inl (ezq_nm Γ z) :: r)
      | _ => none
noncomputable def ezq_u_laload  : ezq_UA := fun a b c d x ih dd Γ rr pc ls st sz t cl sl sp ks k => ezq_i1 none st fun y r => ezq_p1 none r fun p r => match y with
      | .inl m => ezq_ald none Γ sz t 1 m p fun v => ezq_j1 none [v] fun z _ => (ezq_uo ih dd Γ rr sz t cl sl sp ks k) (pc + 1) ls (.inr (.inl z) :: r)
      | _ => none
noncomputable def ezq_u_baload  : ezq_UA := fun a b c d x ih dd Γ rr pc ls st sz t cl sl sp ks k => ezq_i1 none st fun y r => ezq_p1 none r fun p r => match y with
      | .inl m => ezq_ald none Γ sz t 2 m p fun v => ezq_i1 none [v] fun z _ => (ezq_uo ih dd Γ rr sz t cl sl sp ks k) (pc + 1) ls (.inl (ezq_nm Γ z) :: r)
      | _ => none
noncomputable def ezq_u_iastore  : ezq_UA := fun a b c d x ih dd Γ rr pc ls st sz t cl sl sp ks k => ezq_i1 none st fun v r => ezq_ast none sz t 0 (.inl v) r fun r t' => (ezq_uh ih dd Γ rr ls sp ks k) (pc + 1) r sz t' cl sl
noncomputable def ezq_u_lastore  : ezq_UA := fun a b c d x ih dd Γ rr pc ls st sz t cl sl sp ks k => ezq_j1 none st fun v r => ezq_ast none sz t 1 (.inr (.inl v)) r fun r t' => (ezq_uh ih dd Γ rr ls sp ks k) (pc + 1) r sz t' cl sl
noncomputable def ezq_u_bastore  : ezq_UA := fun a b c d x ih dd Γ rr pc ls st sz t cl sl sp ks k => ezq_w1 none 2 st fun v r => ezq_ast none sz t 2 v r fun r t' => (ezq_uh ih dd Γ rr ls sp ks k) (pc + 1) r sz t' cl sl
noncomputable def ezq_u_ldc  : ezq_UA := fun a b c d x ih dd Γ rr pc ls st sz t cl sl sp ks k => match a with
      | 0 => (ezq_uo ih dd Γ rr sz t cl sl sp ks k) (pc + 2) ls (ezq_kn b :: st)
      | 1 => bif Nat.ble b 1 then (ezq_uo ih dd Γ rr sz t cl sl sp ks k) (pc + 2) ls (ezq_xt (2 + 2 * b) :: st) else none
      | _ => none
noncomputable def ezq_u_ldc_w  : ezq_UA := fun a b c d x ih dd Γ rr pc ls st sz t cl sl sp ks k => match a with
      | 0 => (ezq_uo ih dd Γ rr sz t cl sl sp ks k) (pc + 3) ls (ezq_kn b :: st)
      | _ => none
noncomputable def ezq_u_ldc2_w  : ezq_UA := fun a b c d x ih dd Γ rr pc ls st sz t cl sl sp ks k => match b with
      | 0 => (ezq_uo ih dd Γ rr sz t cl sl sp ks k) (pc + 3) ls (.inr (.inl (.inl a)) :: st)
      | _ => none
noncomputable def ezq_u_checkcast  : ezq_UA := fun a b c d x ih dd Γ rr pc ls st sz t cl sl sp ks k => ezq_p1 none st fun p r => ezq_ar none sz t p fun _ ty _ _ => bif Nat.beq ty 0 then (ezq_uo ih dd Γ rr sz t cl sl sp ks k) (pc + 3) ls (.inr (.inr p) :: r) else none
noncomputable def ezq_u_invokevirtual  : ezq_UA := fun a b c d x ih dd Γ rr pc ls st sz t cl sl sp ks k => bif Nat.beq c 8 then (ezq_p1 none st fun p r => match p with
        | some (.inr 1) => ezq_al none sz t cl sl rr.2.2.2.2.2.2.1 rr.2.2.2.2.2.2.2 11 (.inr (0, 11, fun j => ezq_kn (ezq_t1.getD j 0))) fun sz' t' cl' sl' => bif Nat.ble (ezq_cat r) 8 then (ezq_uh ih dd Γ rr ls sp ks k) (pc + 3) (ezq_ow sz :: r) sz' t' cl' sl' else none
        | _ => none) else (ezq_call none ezq_hU ih dd Γ rr pc ls st sz t cl sl sp ks k a b c d x)
noncomputable def ezq_u_invokespecial  : ezq_UA := fun a b c d x ih dd Γ rr pc ls st sz t cl sl sp ks k => bif Nat.beq c 5 then (ezq_p1 none st fun p r => match p with
        | some (.inl _) => bif Nat.ble (ezq_cat r) 8 then (ezq_uo ih dd Γ rr sz t cl sl sp ks k) (pc + 3) ls r else none
        | _ => none) else (ezq_call none ezq_hU ih dd Γ rr pc ls st sz t cl sl sp ks k a b c d x)
noncomputable def ezq_u_invokestatic  : ezq_UA := fun a b c d x ih dd Γ rr pc ls st sz t cl sl sp ks k => bif Nat.beq c 7 then (bif Nat.ble (ezq_cat st) 8 && (Nat.ble cl rr.2.2.2.2.2.2.1 && Nat.ble sl rr.2.2.2.2.2.2.2) then (match a with
        | 0 => ezq_b2 none (fun x y => if x < y then y else x) st fun z r => (ezq_uo ih dd Γ rr sz t cl sl sp ks k) (pc + 3) ls (.inl z :: r)
        | 1 => ezq_b2 none (fun x y => if y < x then y else x) st fun z r => (ezq_uo ih dd Γ rr sz t cl sl sp ks k) (pc + 3) ls (.inl z :: r)
        | 2 => ezq_i1 none st fun y r => ezq_fi (ezq_o1 (fun x => if 0 ≤ x then x else 0 - x) y) fun z => (ezq_uo ih dd Γ rr sz t cl sl sp ks k) (pc + 3) ls (.inl z :: r)
        | _ => none) else none) else (ezq_call none ezq_hU ih dd Γ rr pc ls st sz t cl sl sp ks k a b c d x)
noncomputable def ezq_u_ireturn  : ezq_UA := fun a b c d x ih dd Γ rr pc ls st sz t cl sl sp ks k => ezq_i1 none st fun y r => match r with
      | [] => (ezq_ure Γ rr sz t cl sl k) (some (.inl y))
      | _ => none
noncomputable def ezq_u_lreturn  : ezq_UA := fun a b c d x ih dd Γ rr pc ls st sz t cl sl sp ks k => ezq_j1 none st fun y r => match r with
      | [] => (ezq_ure Γ rr sz t cl sl k) (some (.inr (.inl y)))
      | _ => none
noncomputable def ezq_u_return_  : ezq_UA := fun a b c d x ih dd Γ rr pc ls st sz t cl sl sp ks k => match st with
      | [] => (ezq_ure Γ rr sz t cl sl k) none
      | _ => none
def ezq_u__ : ezq_UA := fun _ _ _ _ _ _ _ _ _ _ _ _ _ _ _ _ _ _ _ => none
noncomputable def ezq_ud : Instr → ezq_UA := fun i => @Instr.casesOn (fun _ => ezq_UA) i (ezq_u__) (ezq_u__) (ezq_u__) (fun _ => ezq_u_aload) (fun _ => ezq_u_aload_n) (fun _ => ezq_u__) (ezq_u__) ezq_u_arraylength (fun _ => ezq_u_astore) (fun _ => ezq_u_astore_n) (ezq_u__) ezq_u_baload ezq_u_bastore (fun _ => ezq_u_bipush) (ezq_u__) (ezq_u__) (fun _ => ezq_u_checkcast) (ezq_u__) (ezq_u__) (ezq_u__) (ezq_u__) (ezq_u__) (ezq_u__) (fun _ => ezq_u__) (fun _ => ezq_u__) (ezq_u__) (fun _ => ezq_u__) (fun _ => ezq_u__) (ezq_u__) (ezq_u__) (ezq_u__) (ezq_u__) (fun _ => ezq_u__) (fun _ => ezq_u__) (ezq_u__) ezq_u_dup (ezq_u__) (ezq_u__) ezq_u_dup2 (ezq_u__) (ezq_u__) (ezq_u__) (ezq_u__) (ezq_u__) (ezq_u__) (ezq_u__) (ezq_u__) (fun _ => ezq_u__) (fun _ => ezq_u__) (ezq_u__) (fun _ => ezq_u__) (fun _ => ezq_u__) (ezq_u__) (ezq_u__) (ezq_u__) (ezq_u__) (fun _ => ezq_u__) (fun _ => ezq_u__) (ezq_u__) (fun _ => ezq_u_getfield) (fun _ => ezq_u_getstatic) (fun _ => ezq_u_goto) (fun _ => ezq_u__) ezq_u_i2b ezq_u_i2c (ezq_u__) (ezq_u__) ezq_u_i2l (ezq_u__) ezq_u_iadd ezq_u_iaload ezq_u_iand ezq_u_iastore (fun _ => ezq_u_iconst) ezq_u_idiv (fun _ _ => ezq_u__) (fun cc _ => ezq_u_if_icmp cc) (fun cc _ => ezq_u_ifCond cc) (fun _ => ezq_u__) (fun _ => ezq_u_ifnull) (fun _ _ => ezq_u_iinc) (fun _ => ezq_u_iload) (fun _ => ezq_u_iload_n) ezq_u_imul ezq_u_ineg (fun _ => ezq_u__) (fun _ => ezq_u__) (fun _ _ => ezq_u__) (fun _ => ezq_u_invokespecial) (fun _ => ezq_u_invokestatic) (fun _ => ezq_u_invokevirtual) ezq_u_ior ezq_u_irem ezq_u_ireturn ezq_u_ishl ezq_u_ishr (fun _ => ezq_u_istore) (fun _ => ezq_u_istore_n) ezq_u_isub ezq_u_iushr ezq_u_ixor (fun _ => ezq_u__) (fun _ => ezq_u__) (ezq_u__) (ezq_u__) ezq_u_l2i ezq_u_ladd ezq_u_laload ezq_u_land ezq_u_lastore ezq_u_lcmp (fun _ => ezq_u_lconst) (fun _ => ezq_u_ldc) (fun _ => ezq_u_ldc_w) (fun _ => ezq_u_ldc2_w) ezq_u_ldiv (fun _ => ezq_u_lload) (fun _ => ezq_u_lload_n) ezq_u_lmul (ezq_u__) (fun df ps => ezq_u_lookupswitch df ps) ezq_u_lor ezq_u_lrem ezq_u_lreturn ezq_u_lshl ezq_u_lshr (fun _ => ezq_u_lstore) (fun _ => ezq_u_lstore_n) ezq_u_lsub ezq_u_lushr ezq_u_lxor (ezq_u__) (ezq_u__) (fun _ _ => ezq_u__) (fun _ => ezq_u_new) (fun ty => ezq_u_newarray ty) (ezq_u__) ezq_u_pop (ezq_u__) (fun _ => ezq_u_putfield) (fun _ => ezq_u__) (fun _ => ezq_u__) ezq_u_return_ (ezq_u__) (ezq_u__) (fun _ => ezq_u_sipush) (ezq_u__) (fun df lo _ offs => ezq_u_tableswitch df lo offs)
noncomputable def ezq_ux (ih : ezq_RT ezq_Ro) (dd : Nat) (Γ : ezq_G) (r : ezq_R) (pc : Nat) (ls : ezq_S) (st : List ezq_V) (sz : Nat) (t : ezq_T 7) (cl sl sp : Nat) (ks : ezq_KS ezq_Ro) (k : ezq_KK ezq_Ro) (o : Option ezq_Y) : ezq_Ro := match o with
  | none => none
  | some e => ezq_ud e.1 e.2.2.1 e.2.2.2.1 e.2.2.2.2.1 e.2.2.2.2.2.1 e.2.2.2.2.2.2 ih dd Γ r pc ls st sz t cl sl sp ks k
noncomputable def ezq_urun : Nat → ezq_RT ezq_Ro := fun fuel => Nat.rec (motive := fun _ => ezq_RT ezq_Ro) (fun _ _ _ _ _ _ _ _ _ _ _ _ _ => none) (fun _ ih dd Γ r pc ls st sz t cl sl sp ks k => ezq_ux ih dd Γ r pc ls st sz t cl sl sp ks k (r.1 pc)) fuel
theorem ezq_ux_eq (ih : ezq_RT ezq_Ro) (d : Nat) (Γ : ezq_G) (r : ezq_R) (pc : Nat) (ls : ezq_S) (st : List ezq_V) (sz : Nat) (t : ezq_T 7) (cl sl sp : Nat) (ks : ezq_KS ezq_Ro) (k : ezq_KK ezq_Ro) (e : ezq_Y) :
    ezq_ux ih d Γ r pc ls st sz t cl sl sp ks k (some e) = ezq_step none Γ e pc ls st sz t cl sl r.2.2.2.2.2.2.1 r.2.2.2.2.2.2.2
        (fun pc' ls' st' => ezq_fn pc' fun q => bif Nat.beq q sp then ks Γ ls' st' sz t cl sl else ezq_id (ih d Γ r q ls' st' sz t cl sl sp ks k))
        (fun pc' st' sz' t' cl' sl' => ezq_fn pc' fun q => ezq_id (ih d Γ r q ls st' sz' t' cl' sl' sp ks k))
        (fun cc x y p1 p2 st' => ezq_cmp ezq_un Γ cc x y (fun Γ' => ezq_fn p1 fun q => bif Nat.beq q sp then ks Γ' ls st' sz t cl sl else ezq_id (ih d Γ' r q ls st' sz t cl sl sp ks k)) (fun Γ' => ezq_fn p2 fun q => bif Nat.beq q sp then ks Γ' ls st' sz t cl sl else ezq_id (ih d Γ' r q ls st' sz t cl sl sp ks k)))
        (fun ps df y st' => ezq_swl ezq_un y (fun Γ' o => bif decide ((pc : Int) + o < 0) then none else ezq_fn ((pc : Int) + o).toNat fun q => ezq_id (ih d Γ' r q ls st' sz t cl sl sp ks k)) (fun Γ' => bif decide ((pc : Int) + df < 0) then none else ezq_fn ((pc : Int) + df).toNat fun q => ezq_id (ih d Γ' r q ls st' sz t cl sl sp ks k)) ps Γ)
        (ezq_call none ezq_hU ih d Γ r pc ls st sz t cl sl sp ks k e.2.2.1 e.2.2.2.1 e.2.2.2.2.1 e.2.2.2.2.2.1 e.2.2.2.2.2.2)
        (fun v => bif ezq_rok r.2.2.2.2.2.1 v && (Nat.ble cl r.2.2.2.2.2.2.1 && Nat.ble sl r.2.2.2.2.2.2.2) then k Γ v sz t else none) := by
  obtain ⟨i, l, a, b, c, d1, x⟩ := e
  cases i <;> rfl
theorem ezq_urun_eq (n : Nat) : ezq_urun n = ezq_run none ezq_un ezq_hU n := by
  induction n with
  | zero => rfl
  | succ n ih =>
    funext d Γ r pc ls st sz t cl sl sp ks k
    show ezq_ux (ezq_urun n) d Γ r pc ls st sz t cl sl sp ks k (r.1 pc) = _
    rw [ih]
    show _ = (match r.1 pc with
      | none => none
      | some e => ezq_step none Γ e pc ls st sz t cl sl r.2.2.2.2.2.2.1 r.2.2.2.2.2.2.2
        (fun pc' ls' st' => ezq_fn pc' fun q => bif Nat.beq q sp then ks Γ ls' st' sz t cl sl else ezq_id (ezq_run none ezq_un ezq_hU n d Γ r q ls' st' sz t cl sl sp ks k))
        (fun pc' st' sz' t' cl' sl' => ezq_fn pc' fun q => ezq_id (ezq_run none ezq_un ezq_hU n d Γ r q ls st' sz' t' cl' sl' sp ks k))
        (fun cc x y p1 p2 st' => ezq_cmp ezq_un Γ cc x y (fun Γ' => ezq_fn p1 fun q => bif Nat.beq q sp then ks Γ' ls st' sz t cl sl else ezq_id (ezq_run none ezq_un ezq_hU n d Γ' r q ls st' sz t cl sl sp ks k)) (fun Γ' => ezq_fn p2 fun q => bif Nat.beq q sp then ks Γ' ls st' sz t cl sl else ezq_id (ezq_run none ezq_un ezq_hU n d Γ' r q ls st' sz t cl sl sp ks k)))
        (fun ps df y st' => ezq_swl ezq_un y (fun Γ' o => bif decide ((pc : Int) + o < 0) then none else ezq_fn ((pc : Int) + o).toNat fun q => ezq_id (ezq_run none ezq_un ezq_hU n d Γ' r q ls st' sz t cl sl sp ks k)) (fun Γ' => bif decide ((pc : Int) + df < 0) then none else ezq_fn ((pc : Int) + df).toNat fun q => ezq_id (ezq_run none ezq_un ezq_hU n d Γ' r q ls st' sz t cl sl sp ks k)) ps Γ)
        (ezq_call none ezq_hU (ezq_run none ezq_un ezq_hU n) d Γ r pc ls st sz t cl sl sp ks k e.2.2.1 e.2.2.2.1 e.2.2.2.2.1 e.2.2.2.2.2.1 e.2.2.2.2.2.2)
        (fun v => bif ezq_rok r.2.2.2.2.2.1 v && (Nat.ble cl r.2.2.2.2.2.2.1 && Nat.ble sl r.2.2.2.2.2.2.2) then k Γ v sz t else none))
    cases r.1 pc with
    | none => rfl
    | some e => exact ezq_ux_eq _ d Γ r pc ls st sz t cl sl sp ks k e
/-! ===== calls that are kept in mind, calls that are summed up ===== -/
def ezq_gf : ezq_G := fun _ => (0, 4294967295)
noncomputable def ezq_nf1 {Ω : Type} (bot : Ω) (v : ezq_V) (k : ezq_V → Ω) : Ω := match v with
  | .inl (.inl n) => ezq_fn n fun m => k (.inl (.inl m))
  | .inr (.inr (some (.inl q))) => ezq_fn q fun m => k (.inr (.inr (some (.inl m))))
  | _ => bot
noncomputable def ezq_nfs {Ω : Type} (bot : Ω) (vs : List ezq_V) : (List ezq_V → Ω) → Ω :=
  List.rec (motive := fun _ => (List ezq_V → Ω) → Ω) (fun k => k []) (fun v _ ih k => ezq_nf1 bot v fun v' => ih fun r => k (v' :: r)) vs
def ezq_n6 : Nat := 1000000
/-- what a call gives back, where nothing forks -/
noncomputable def ezq_mem (N a d : Nat) (as : List ezq_V) (sz : Nat) (t : ezq_T 7) : ezq_Ro :=
  ezq_arg as 0 fun ls0 => ezq_id (ezq_urun N d ezq_gf (ezq_sel a) 0 ls0 [] sz t 0 0 1000000000 (fun _ _ _ _ _ _ _ => none) (fun _ v sz' t' => some (v, sz', t')))
noncomputable def ezq_hM (N a d : Nat) (Γ : ezq_G) (as : List ezq_V) (sz : Nat) (t : ezq_T 7) (K : ezq_KK Bool) : Bool :=
  ezq_fn a fun a => ezq_fn d fun d => ezq_fn sz fun sz => ezq_nfs false as fun as => match ezq_mem N a d as sz t with
    | none => false
    | some (v, sz', t') => K Γ v sz' t'
/-- cells out of a window: 13 stands for 'as it was', 14 for 'whatever it is' -/
noncomputable def ezq_fzw {Ω : Type} (ci : Nat) (n : Nat) : ezq_T n → Nat → Nat → Nat → (ezq_T n → Ω) → Ω :=
  Nat.rec (motive := fun n => ezq_T n → Nat → Nat → Nat → (ezq_T n → Ω) → Ω) (fun x o lo hi k => bif Nat.ble lo o && Nat.blt o hi then k x else k (.inl (ci, [])))
    (fun n ih t o lo hi k => match t with
      | (a, b) => ezq_fn (o + 2 ^ n) fun o' => ih a o lo hi fun a' => ih b o' lo hi fun b' => k (a', b')) n
noncomputable def ezq_fzt (ci : Nat) (n : Nat) : ezq_T n → Nat → Nat → Nat → ezq_T n :=
  Nat.rec (motive := fun n => ezq_T n → Nat → Nat → Nat → ezq_T n) (fun x o lo hi => bif Nat.ble lo o && Nat.blt o hi then x else .inl (ci, [])) (fun n ih t o lo hi => (ih t.1 o lo hi, ih t.2 (o + 2 ^ n) lo hi)) n
def ezq_i13 (x : ezq_C) : Bool := match x with
  | .inl (ci, _) => Nat.beq ci 13
  | _ => false
/-- are the cells out of the window still 13? -/
noncomputable def ezq_fck (n : Nat) : ezq_T n → Nat → Nat → Nat → Bool :=
  Nat.rec (motive := fun n => ezq_T n → Nat → Nat → Nat → Bool) (fun x o lo hi => bif Nat.ble lo o && Nat.blt o hi then true else ezq_i13 x)
    (fun n ih t o lo hi => match t with
      | (a, b) => ezq_fn (o + 2 ^ n) fun o' => ih a o lo hi && ih b o' lo hi) n
noncomputable def ezq_vk (Γ : ezq_G) (n : Nat) (bs : List (List (Nat × Nat × Nat) × Nat)) : Bool :=
  List.rec (motive := fun _ => Bool) (Nat.beq n 4294967295) (fun b _ ih =>
    bif b.1.all (fun q => Nat.ble q.2.1 (Γ q.1).1 && Nat.ble (Γ q.1).2 q.2.2) then Nat.beq n b.2 else
    bif b.1.any (fun q => Nat.blt (Γ q.1).2 q.2.1 || Nat.blt q.2.2 (Γ q.1).1) then ih else false) bs
noncomputable def ezq_chk (s sz lo hi : Nat) : ezq_KK Bool := fun Γ v sz' t' => match v with
  | some (.inl (.inl n)) => (Nat.beq sz' sz && ezq_fck 7 t' 0 lo hi) && ezq_vk Γ n (ezq_box s)
  | _ => false
/-- a call summed up: it is run by itself, on the cells of the window; behind it they are whatever they are -/
noncomputable def ezq_hS (s lo hi lo2 hi2 : Nat) : ezq_HT Bool := fun ih a d Γ as sz t K =>
  (ezq_fzw 13 7 t 0 lo hi fun t1 => ezq_arg as 0 fun ls0 => ezq_id (ih d Γ (ezq_sel a) 0 ls0 [] sz t1 0 0 1000000000 (fun _ _ _ _ _ _ _ => false) (ezq_chk s sz lo hi))) &&
  (ezq_fzw 14 7 t 0 lo2 hi2 fun t2 => K Γ (some (.inl (.inr (.inl s)))) sz t2)
noncomputable def ezq_hB : ezq_HT Bool := fun ih a d Γ as sz t K => ezq_fn a fun a =>
  bif Nat.blt a 172 then ezq_h0 false ih a d Γ as sz t K else
  bif Nat.beq a 183 then ezq_hM ezq_n6 a d Γ as sz t K else
  bif Nat.beq a 321 then ezq_hM ezq_n6 a d Γ as sz t K else
  bif Nat.beq a 172 then ezq_hS 41 0 72 72 128 ih a d Γ as sz t K else
  bif Nat.beq a 313 then ezq_hS 41 72 128 0 72 ih a d Γ as sz t K else
  bif Nat.beq a 181 then ezq_hS 42 0 72 72 128 ih a d Γ as sz t K else
  bif Nat.beq a 319 then ezq_hS 42 72 128 0 72 ih a d Γ as sz t K else
  bif Nat.beq a 185 then ezq_hS 43 0 72 72 128 ih a d Γ as sz t K else
  bif Nat.beq a 324 then ezq_hS 43 72 128 0 72 ih a d Γ as sz t K else
  bif Nat.beq a 195 then ezq_hS 46 0 72 72 128 ih a d Γ as sz t K else
  bif Nat.beq a 329 then ezq_hS 46 72 128 0 72 ih a d Γ as sz t K else
  bif Nat.beq a 187 then ezq_hS 44 0 72 72 128 ih a d Γ as sz t K else
  bif Nat.beq a 325 then ezq_hS 44 72 128 0 72 ih a d Γ as sz t K else ezq_h0 false ih a d Γ as sz t K
/-! ===== then over Bool ===== -/
def ezq_an : (ezq_E → Bool) → Bool → Bool → Bool := fun _ a b => a && b
noncomputable def ezq_go (ih : ezq_RT Bool) (dd : Nat) (Γ : ezq_G) (r : ezq_R) (sz : Nat) (t : ezq_T 7) (cl sl sp : Nat) (ks : ezq_KS Bool) (k : ezq_KK Bool) : Nat → ezq_S → List ezq_V → Bool := fun pc ls st => ezq_fn pc fun q => bif Nat.beq q sp then ks Γ ls st sz t cl sl else ezq_id (ih dd Γ r q ls st sz t cl sl sp ks k)
noncomputable def ezq_gh (ih : ezq_RT Bool) (dd : Nat) (Γ : ezq_G) (r : ezq_R) (ls : ezq_S) (sp : Nat) (ks : ezq_KS Bool) (k : ezq_KK Bool) : Nat → List ezq_V → Nat → ezq_T 7 → Nat → Nat → Bool := fun pc st sz t cl sl => ezq_fn pc fun q => ezq_id (ih dd Γ r q ls st sz t cl sl sp ks k)
noncomputable def ezq_bg (ih : ezq_RT Bool) (dd : Nat) (r : ezq_R) (ls : ezq_S) (st : List ezq_V) (sz : Nat) (t : ezq_T 7) (cl sl sp : Nat) (ks : ezq_KS Bool) (k : ezq_KK Bool) (pc : Nat) : ezq_G → Bool := fun Γ => ezq_fn pc fun q => bif Nat.beq q sp then ks Γ ls st sz t cl sl else ezq_id (ih dd Γ r q ls st sz t cl sl sp ks k)
noncomputable def ezq_brF (ih : ezq_RT Bool) (dd : Nat) (Γ : ezq_G) (r : ezq_R) (ls : ezq_S) (sz : Nat) (t : ezq_T 7) (cl sl sp : Nat) (ks : ezq_KS Bool) (k : ezq_KK Bool) : ClassFile.Cond → ezq_I → ezq_I → Nat → Nat → List ezq_V → Bool := fun cc x y p1 p2 st => ezq_cmp ezq_an Γ cc x y (ezq_bg ih dd r ls st sz t cl sl sp ks k p1) (ezq_bg ih dd r ls st sz t cl sl sp ks k p2)
noncomputable def ezq_swF (ih : ezq_RT Bool) (dd : Nat) (Γ : ezq_G) (r : ezq_R) (pc : Nat) (ls : ezq_S) (sz : Nat) (t : ezq_T 7) (cl sl sp : Nat) (ks : ezq_KS Bool) (k : ezq_KK Bool) : List (Int × Int) → Int → ezq_I → List ezq_V → Bool := fun ps df y st => ezq_swl ezq_an y (fun Γ o => bif decide ((pc : Int) + o < 0) then false else ezq_fn ((pc : Int) + o).toNat fun q => ezq_id (ih dd Γ r q ls st sz t cl sl sp ks k)) (fun Γ => bif decide ((pc : Int) + df < 0) then false else ezq_fn ((pc : Int) + df).toNat fun q => ezq_id (ih dd Γ r q ls st sz t cl sl sp ks k)) ps Γ
noncomputable def ezq_reF (Γ : ezq_G) (r : ezq_R) (sz : Nat) (t : ezq_T 7) (cl sl : Nat) (k : ezq_KK Bool) : Option ezq_V → Bool := fun v => bif ezq_rok r.2.2.2.2.2.1 v && (Nat.ble cl r.2.2.2.2.2.2.1 && Nat.ble sl r.2.2.2.2.2.2.2) then k Γ v sz t else false
abbrev ezq_FA : Type := Nat → Nat → Nat → Nat → Nat → ezq_RT Bool → ezq_RT Bool
noncomputable def ezq_f_iconst  : ezq_FA := fun a b c d x ih dd Γ rr pc ls st sz t cl sl sp ks k => (ezq_go ih dd Γ rr sz t cl sl sp ks k) (pc + 1) ls (.inl (.inl a) :: st)
noncomputable def ezq_f_bipush  : ezq_FA := fun a b c d x ih dd Γ rr pc ls st sz t cl sl sp ks k => (ezq_go ih dd Γ rr sz t cl sl sp ks k) (pc + 2) ls (.inl (.inl a) :: st)
noncomputable def ezq_f_sipush  : ezq_FA := fun a b c d x ih dd Γ rr pc ls st sz t cl sl sp ks k => (ezq_go ih dd Γ rr sz t cl sl sp ks k) (pc + 3) ls (.inl (.inl a) :: st)
noncomputable def ezq_f_lconst  : ezq_FA := fun a b c d x ih dd Γ rr pc ls st sz t cl sl sp ks k => (ezq_go ih dd Γ rr sz t cl sl sp ks k) (pc + 1) ls (.inr (.inl (.inl a)) :: st)
noncomputable def ezq_f_iload_n  : ezq_FA := fun a b c d x ih dd Γ rr pc ls st sz t cl sl sp ks k => ezq_lo false ls a fun v => ezq_i1 false [v] fun y _ => (ezq_go ih dd Γ rr sz t cl sl sp ks k) (pc + 1) ls (.inl (ezq_nm Γ y) :: st)
noncomputable def ezq_f_iload  : ezq_FA := fun a b c d x ih dd Γ rr pc ls st sz t cl sl sp ks k => ezq_lo false ls a fun v => ezq_i1 false [v] fun y _ => (ezq_go ih dd Γ rr sz t cl sl sp ks k) (pc + 2) ls (.inl (ezq_nm Γ y) :: st)
noncomputable def ezq_f_lload_n  : ezq_FA := fun a b c d x ih dd Γ rr pc ls st sz t cl sl sp ks k => ezq_lo false ls a fun v => ezq_j1 false [v] fun y _ => (ezq_go ih dd Γ rr sz t cl sl sp ks k) (pc + 1) ls (.inr (.inl y) :: st)
noncomputable def ezq_f_lload  : ezq_FA := fun a b c d x ih dd Γ rr pc ls st sz t cl sl sp ks k => ezq_lo false ls a fun v => ezq_j1 false [v] fun y _ => (ezq_go ih dd Γ rr sz t cl sl sp ks k) (pc + 2) ls (.inr (.inl y) :: st)
noncomputable def ezq_f_aload_n  : ezq_FA := fun a b c d x ih dd Γ rr pc ls st sz t cl sl sp ks k => ezq_lo false ls a fun v => ezq_p1 false [v] fun y _ => (ezq_go ih dd Γ rr sz t cl sl sp ks k) (pc + 1) ls (.inr (.inr y) :: st)
noncomputable def ezq_f_aload  : ezq_FA := fun a b c d x ih dd Γ rr pc ls st sz t cl sl sp ks k => ezq_lo false ls a fun v => ezq_p1 false [v] fun y _ => (ezq_go ih dd Γ rr sz t cl sl sp ks k) (pc + 2) ls (.inr (.inr y) :: st)
noncomputable def ezq_f_istore_n  : ezq_FA := fun a b c d x ih dd Γ rr pc ls st sz t cl sl sp ks k => ezq_i1 false st fun y r => ezq_sto a (.inl y) ls fun l => (ezq_go ih dd Γ rr sz t cl sl sp ks k) (pc + 1) l r
noncomputable def ezq_f_istore  : ezq_FA := fun a b c d x ih dd Γ rr pc ls st sz t cl sl sp ks k => ezq_i1 false st fun y r => ezq_sto a (.inl y) ls fun l => (ezq_go ih dd Γ rr sz t cl sl sp ks k) (pc + 2) l r
noncomputable def ezq_f_lstore_n  : ezq_FA := fun a b c d x ih dd Γ rr pc ls st sz t cl sl sp ks k => ezq_j1 false st fun y r => ezq_sto a (.inr (.inl y)) ls fun l => (ezq_go ih dd Γ rr sz t cl sl sp ks k) (pc + 1) l r
noncomputable def ezq_f_lstore  : ezq_FA := fun a b c d x ih dd Γ rr pc ls st sz t cl sl sp ks k => ezq_j1 false st fun y r => ezq_sto a (.inr (.inl y)) ls fun l => (ezq_go ih dd Γ rr sz t cl sl sp ks k) (pc + 2) l r
noncomputable def ezq_f_astore_n  : ezq_FA := fun a b c d x ih dd Γ rr pc ls st sz t cl sl sp ks k => ezq_p1 false st fun y r => ezq_sto a (.inr (.inr y)) ls fun l => (ezq_go ih dd Γ rr sz t cl sl sp ks k) (pc + 1) l r
noncomputable def ezq_f_astore  : ezq_FA := fun a b c d x ih dd Γ rr pc ls st sz t cl sl sp ks k => ezq_p1 false st fun y r => ezq_sto a (.inr (.inr y)) ls fun l => (ezq_go ih dd Γ rr sz t cl sl sp ks k) (pc + 2) l r
noncomputable def ezq_f_iinc  : ezq_FA := fun a b c d x ih dd Γ rr pc ls st sz t cl sl sp ks k => ezq_lo false ls a fun v => ezq_i1 false [v] fun y _ => ezq_fi (ezq_o2 (fun x y => x + y) y (.inl b)) fun z => ezq_sto a (.inl z) ls fun l => (ezq_go ih dd Γ rr sz t cl sl sp ks k) (pc + 3) l st
noncomputable def ezq_f_iadd  : ezq_FA := fun a b c d x ih dd Γ rr pc ls st sz t cl sl sp ks k => ezq_b2 false (fun x y => x + y) st fun z r => (ezq_go ih dd Γ rr sz t cl sl sp ks k) (pc + 1) ls (.inl z :: r)
noncomputable def ezq_f_isub  : ezq_FA := fun a b c d x ih dd Γ rr pc ls st sz t cl sl sp ks k => ezq_i1 false st fun y r => ezq_i1 false r fun x r => ezq_fi (ezq_sub x y) fun z => (ezq_go ih dd Γ rr sz t cl sl sp ks k) (pc + 1) ls (.inl z :: r)
noncomputable def ezq_f_imul  : ezq_FA := fun a b c d x ih dd Γ rr pc ls st sz t cl sl sp ks k => ezq_b2 false (fun x y => x * y) st fun z r => (ezq_go ih dd Γ rr sz t cl sl sp ks k) (pc + 1) ls (.inl z :: r)
noncomputable def ezq_f_iand  : ezq_FA := fun a b c d x ih dd Γ rr pc ls st sz t cl sl sp ks k => ezq_i1 false st fun y r => ezq_i1 false r fun x r => ezq_fi (ezq_nm Γ (ezq_and x y)) fun z => (ezq_go ih dd Γ rr sz t cl sl sp ks k) (pc + 1) ls (.inl z :: r)
noncomputable def ezq_f_ior  : ezq_FA := fun a b c d x ih dd Γ rr pc ls st sz t cl sl sp ks k => ezq_b2 false (fun x y => x ||| y) st fun z r => (ezq_go ih dd Γ rr sz t cl sl sp ks k) (pc + 1) ls (.inl z :: r)
noncomputable def ezq_f_ixor  : ezq_FA := fun a b c d x ih dd Γ rr pc ls st sz t cl sl sp ks k => ezq_b2 false (fun x y => x ^^^ y) st fun z r => (ezq_go ih dd Γ rr sz t cl sl sp ks k) (pc + 1) ls (.inl z :: r)
noncomputable def ezq_f_ishl  : ezq_FA := fun a b c d x ih dd Γ rr pc ls st sz t cl sl sp ks k => ezq_b2 false (fun x y => x <<< (y &&& 31)) st fun z r => (ezq_go ih dd Γ rr sz t cl sl sp ks k) (pc + 1) ls (.inl z :: r)
noncomputable def ezq_f_ishr  : ezq_FA := fun a b c d x ih dd Γ rr pc ls st sz t cl sl sp ks k => ezq_b2 false (fun x y => x >>> (y &&& 31)) st fun z r => (ezq_go ih dd Γ rr sz t cl sl sp ks k) (pc + 1) ls (.inl z :: r)
noncomputable def ezq_f_iushr  : ezq_FA := fun a b c d x ih dd Γ rr pc ls st sz t cl sl sp ks k => ezq_b2 false (fun x y => (x.toUInt32 >>> (y.toUInt32 &&& Int32.toUInt32 31)).toInt32) st fun z r => (ezq_go ih dd Γ rr sz t cl sl sp ks k) (pc + 1) ls (.inl z :: r)
noncomputable def ezq_f_idiv  : ezq_FA := fun a b c d x ih dd Γ rr pc ls st sz t cl sl sp ks k => ezq_div false (fun x y => x / y) st fun z r => (ezq_go ih dd Γ rr sz t cl sl sp ks k) (pc + 1) ls (.inl z :: r)
noncomputable def ezq_f_irem  : ezq_FA := fun a b c d x ih dd Γ rr pc ls st sz t cl sl sp ks k => ezq_div false (fun x y => x - x / y * y) st fun z r => (ezq_go ih dd Γ rr sz t cl sl sp ks k) (pc + 1) ls (.inl z :: r)
noncomputable def ezq_f_ineg  : ezq_FA := fun a b c d x ih dd Γ rr pc ls st sz t cl sl sp ks k => ezq_i1 false st fun y r => ezq_fi (ezq_o1 (fun x => -x) y) fun z => (ezq_go ih dd Γ rr sz t cl sl sp ks k) (pc + 1) ls (.inl z :: r)
noncomputable def ezq_f_i2l  : ezq_FA := fun a b c d x ih dd Γ rr pc ls st sz t cl sl sp ks k => ezq_i1 false st fun y r => ezq_fl (ezq_i2l y) fun z => (ezq_go ih dd Γ rr sz t cl sl sp ks k) (pc + 1) ls (.inr (.inl z) :: r)
noncomputable def ezq_f_i2b  : ezq_FA := fun a b c d x ih dd Γ rr pc ls st sz t cl sl sp ks k => ezq_i1 false st fun y r => ezq_fi (ezq_o1 (fun x => x.toInt8.toInt32) y) fun z => (ezq_go ih dd Γ rr sz t cl sl sp ks k) (pc + 1) ls (.inl z :: r)
noncomputable def ezq_f_i2c  : ezq_FA := fun a b c d x ih dd Γ rr pc ls st sz t cl sl sp ks k => ezq_i1 false st fun y r => ezq_fi (ezq_o1 (fun x => (x.toUInt32 % 65536).toInt32) y) fun z => (ezq_go ih dd Γ rr sz t cl sl sp ks k) (pc + 1) ls (.inl z :: r)
noncomputable def ezq_f_l2i  : ezq_FA := fun a b c d x ih dd Γ rr pc ls st sz t cl sl sp ks k => ezq_j1 false st fun y r => ezq_fi (ezq_li (fun x => x.toInt32) y) fun z => (ezq_go ih dd Γ rr sz t cl sl sp ks k) (pc + 1) ls (.inl z :: r)
noncomputable def ezq_f_lcmp  : ezq_FA := fun a b c d x ih dd Γ rr pc ls st sz t cl sl sp ks k => ezq_j1 false st fun y r => ezq_j1 false r fun x r => ezq_fi (ezq_lli lg_cmp x y) fun z => (ezq_go ih dd Γ rr sz t cl sl sp ks k) (pc + 1) ls (.inl z :: r)
noncomputable def ezq_f_ladd  : ezq_FA := fun a b c d x ih dd Γ rr pc ls st sz t cl sl sp ks k => ezq_bl false (fun x y => x + y) st fun z r => (ezq_go ih dd Γ rr sz t cl sl sp ks k) (pc + 1) ls (.inr (.inl z) :: r)
noncomputable def ezq_f_lsub  : ezq_FA := fun a b c d x ih dd Γ rr pc ls st sz t cl sl sp ks k => ezq_bl false (fun x y => x - y) st fun z r => (ezq_go ih dd Γ rr sz t cl sl sp ks k) (pc + 1) ls (.inr (.inl z) :: r)
noncomputable def ezq_f_lmul  : ezq_FA := fun a b c d x ih dd Γ rr pc ls st sz t cl sl sp ks k => ezq_bl false (fun x y => x * y) st fun z r => (ezq_go ih dd Γ rr sz t cl sl sp ks k) (pc + 1) ls (.inr (.inl z) :: r)
noncomputable def ezq_f_land  : ezq_FA := fun a b c d x ih dd Γ rr pc ls st sz t cl sl sp ks k => ezq_j1 false st fun y r => ezq_j1 false r fun x r => ezq_fl (ezq_lan x y) fun z => (ezq_go ih dd Γ rr sz t cl sl sp ks k) (pc + 1) ls (.inr (.inl z) :: r)
noncomputable def ezq_f_lor  : ezq_FA := fun a b c d x ih dd Γ rr pc ls st sz t cl sl sp ks k => ezq_j1 false st fun y r => ezq_j1 false r fun x r => ezq_fl (ezq_lor x y) fun z => (ezq_go ih dd Γ rr sz t cl sl sp ks k) (pc + 1) ls (.inr (.inl z) :: r)
noncomputable def ezq_f_lxor  : ezq_FA := fun a b c d x ih dd Γ rr pc ls st sz t cl sl sp ks k => ezq_bl false (fun x y => x ^^^ y) st fun z r => (ezq_go ih dd Γ rr sz t cl sl sp ks k) (pc + 1) ls (.inr (.inl z) :: r)
noncomputable def ezq_f_ldiv  : ezq_FA := fun a b c d x ih dd Γ rr pc ls st sz t cl sl sp ks k => ezq_ldv false (fun x y => x / y) st fun z r => (ezq_go ih dd Γ rr sz t cl sl sp ks k) (pc + 1) ls (.inr (.inl z) :: r)
noncomputable def ezq_f_lrem  : ezq_FA := fun a b c d x ih dd Γ rr pc ls st sz t cl sl sp ks k => ezq_ldv false (fun x y => x - x / y * y) st fun z r => (ezq_go ih dd Γ rr sz t cl sl sp ks k) (pc + 1) ls (.inr (.inl z) :: r)
noncomputable def ezq_f_lshl  : ezq_FA := fun a b c d x ih dd Γ rr pc ls st sz t cl sl sp ks k => ezq_i1 false st fun y r => ezq_j1 false r fun x r => ezq_fl (ezq_shl x y) fun z => (ezq_go ih dd Γ rr sz t cl sl sp ks k) (pc + 1) ls (.inr (.inl z) :: r)
noncomputable def ezq_f_lshr  : ezq_FA := fun a b c d x ih dd Γ rr pc ls st sz t cl sl sp ks k => ezq_sh false (fun x y => x >>> (y.toInt64 &&& 63)) st fun z r => (ezq_go ih dd Γ rr sz t cl sl sp ks k) (pc + 1) ls (.inr (.inl z) :: r)
noncomputable def ezq_f_lushr  : ezq_FA := fun a b c d x ih dd Γ rr pc ls st sz t cl sl sp ks k => ezq_sh false (fun x y => (x.toUInt64 >>> (y.toInt64.toUInt64 &&& Int64.toUInt64 63)).toInt64) st fun z r => (ezq_go ih dd Γ rr sz t cl sl sp ks k) (pc + 1) ls (.inr (.inl z) :: r)
noncomputable def ezq_f_dup  : ezq_FA := fun a b c d x ih dd Γ rr pc ls st sz t cl sl sp ks k => ezq_v1 false st fun y r => (ezq_go ih dd Γ rr sz t cl sl sp ks k) (pc + 1) ls (y :: y :: r)
noncomputable def ezq_f_pop  : ezq_FA := fun a b c d x ih dd Γ rr pc ls st sz t cl sl sp ks k => ezq_v1 false st fun _ r => (ezq_go ih dd Γ rr sz t cl sl sp ks k) (pc + 1) ls r
noncomputable def ezq_f_dup2  : ezq_FA := fun a b c d x ih dd Γ rr pc ls st sz t cl sl sp ks k => ezq_v1 false st fun y r => ezq_v1 false r fun z r => (ezq_go ih dd Γ rr sz t cl sl sp ks k) (pc + 1) ls (y :: z :: y :: z :: r)
noncomputable def ezq_f_ifCond (cc : ClassFile.Cond) : ezq_FA := fun a b c d x ih dd Γ rr pc ls st sz t cl sl sp ks k => ezq_i1 false st fun y r => (ezq_brF ih dd Γ rr ls sz t cl sl sp ks k) cc y (.inl 0) a (pc + 3) r
noncomputable def ezq_f_if_icmp (cc : ClassFile.Cond) : ezq_FA := fun a b c d x ih dd Γ rr pc ls st sz t cl sl sp ks k => ezq_i1 false st fun y r => ezq_i1 false r fun x r => (ezq_brF ih dd Γ rr ls sz t cl sl sp ks k) cc x y a (pc + 3) r
noncomputable def ezq_f_goto  : ezq_FA := fun a b c d x ih dd Γ rr pc ls st sz t cl sl sp ks k => (ezq_go ih dd Γ rr sz t cl sl sp ks k) a ls st
noncomputable def ezq_f_ifnull  : ezq_FA := fun a b c d x ih dd Γ rr pc ls st sz t cl sl sp ks k => ezq_p1 false st fun p r => match p with
      | none => (ezq_go ih dd Γ rr sz t cl sl sp ks k) a ls r
      | some (.inl _) => (ezq_go ih dd Γ rr sz t cl sl sp ks k) (pc + 3) ls r
      | some (.inr i) => bif Nat.beq i 1 then (ezq_go ih dd Γ rr sz t cl sl sp ks k) (pc + 3) ls r else false
noncomputable def ezq_f_tableswitch (df lo : Int) (offs : Array Int) : ezq_FA := fun a b c d x ih dd Γ rr pc ls st sz t cl sl sp ks k => ezq_i1 false st fun y r => (ezq_swF ih dd Γ rr pc ls sz t cl sl sp ks k) (offs.toList.zipIdx.map fun q => (lo + (q.2 : Int), q.1)) df y r
noncomputable def ezq_f_lookupswitch (df : Int) (ps : Array (Int × Int)) : ezq_FA := fun a b c d x ih dd Γ rr pc ls st sz t cl sl sp ks k => ezq_i1 false st fun y r => (ezq_swF ih dd Γ rr pc ls sz t cl sl sp ks k) ps.toList df y r
noncomputable def ezq_f_getfield  : ezq_FA := fun a b c d x ih dd Γ rr pc ls st sz t cl sl sp ks k => ezq_p1 false st fun p r => bif Nat.beq a 100 then (match p with
        | some (.inr 2) => (ezq_go ih dd Γ rr sz t cl sl sp ks k) (pc + 3) ls (ezq_xt 3 :: r)
        | some (.inr 4) => (ezq_go ih dd Γ rr sz t cl sl sp ks k) (pc + 3) ls (ezq_xt 5 :: r)
        | _ => false) else bif Nat.beq a 101 then (match p with
        | some (.inr 2) => (ezq_go ih dd Γ rr sz t cl sl sp ks k) (pc + 3) ls (ezq_kn 0 :: r)
        | some (.inr 4) => (ezq_go ih dd Γ rr sz t cl sl sp ks k) (pc + 3) ls (ezq_kn 0 :: r)
        | _ => false) else ezq_ob false sz t p fun _ ci fs => bif Nat.beq ci a then (match fs[b]? with
        | some v => (ezq_go ih dd Γ rr sz t cl sl sp ks k) (pc + 3) ls (v :: r)
        | none => false) else false
noncomputable def ezq_f_putfield  : ezq_FA := fun a b c d x ih dd Γ rr pc ls st sz t cl sl sp ks k => ezq_w1 false d st fun v r => ezq_p1 false r fun p r => ezq_ob false sz t p fun q ci fs => bif Nat.beq ci a then (ezq_lset fs b v fun fs' => ezq_ts 7 t q (.inl (ci, fs')) fun t' => (ezq_gh ih dd Γ rr ls sp ks k) (pc + 3) r sz t' cl sl) else false
noncomputable def ezq_f_getstatic  : ezq_FA := fun a b c d x ih dd Γ rr pc ls st sz t cl sl sp ks k => match a with
      | 0 => (ezq_go ih dd Γ rr sz t cl sl sp ks k) (pc + 3) ls (ezq_xt 1 :: st)
      | 1 => (ezq_go ih dd Γ rr sz t cl sl sp ks k) (pc + 3) ls (ezq_kn 1 :: st)
      | 2 => (ezq_go ih dd Γ rr sz t cl sl sp ks k) (pc + 3) ls (ezq_xt 6 :: st)
      | _ => false
noncomputable def ezq_f_new  : ezq_FA := fun a b c d x ih dd Γ rr pc ls st sz t cl sl sp ks k => bif Nat.beq a 99 then false else ezq_al false sz t cl sl rr.2.2.2.2.2.2.1 rr.2.2.2.2.2.2.2 b (.inl (a, ezq_dfl a)) fun sz' t' cl' sl' => (ezq_gh ih dd Γ rr ls sp ks k) (pc + 3) (ezq_ow sz :: st) sz' t' cl' sl'
noncomputable def ezq_f_newarray (ty : ArrayType) : ezq_FA := fun a b c d x ih dd Γ rr pc ls st sz t cl sl sp ks k => ezq_i1 false st fun y r => match y with
      | .inl n => bif Nat.ble n 100000 && Nat.ble (ezq_ary ty) 2 then ezq_al false sz t cl sl rr.2.2.2.2.2.2.1 rr.2.2.2.2.2.2.2 n (.inr (ezq_ary ty, n, fun _ => ezq_ard ty)) fun sz' t' cl' sl' => (ezq_gh ih dd Γ rr ls sp ks k) (pc + 2) (ezq_ow sz :: r) sz' t' cl' sl' else false
      | _ => false
noncomputable def ezq_f_arraylength  : ezq_FA := fun a b c d x ih dd Γ rr pc ls st sz t cl sl sp ks k => ezq_p1 false st fun p r => match p with
      | some (.inl q) => ezq_ar false sz t (some (.inl q)) fun _ _ n _ => (ezq_go ih dd Γ rr sz t cl sl sp ks k) (pc + 1) ls (ezq_kn n :: r)
      | some (.inr i) => match i with
        | 0 => (ezq_go ih dd Γ rr sz t cl sl sp ks k) (pc + 1) ls (.inl (ezq_nm Γ (.inr (.inl 8))) :: r)
        | 1 => (ezq_go ih dd Γ rr sz t cl sl sp ks k) (pc + 1) ls (ezq_kn 11 :: r)
        | 3 => (ezq_go ih dd Γ rr sz t cl sl sp ks k) (pc + 1) ls (ezq_kn 254 :: r)
        | 5 => (ezq_go ih dd Γ rr sz t cl sl sp ks k) (pc + 1) ls (ezq_kn 8 :: r)
        | _ => false
      | none => false
noncomputable def ezq_f_iaload  : ezq_FA := fun a b c d x ih dd Γ rr pc ls st sz t cl sl sp ks k => ezq_i1 false st fun y r => ezq_p1 false r fun p r => match y with
      | .inl m => ezq_ald false Γ sz t 0 m p fun v => ezq_i1 false [v] fun z _ => (ezq_go ih dd Γ rr sz t cl sl sp ks k) (pc + 1) ls (.inl (ezq_nm Γ z) :: r)
      | _ => false
noncomputable def ezq_f_laload  : ezq_FA := fun a b c d x ih dd Γ rr pc ls st sz t cl sl sp ks k => ezq_i1 false st fun y r => ezq_p1 false r fun p r => match y with
      | .inl m => ezq_ald false Γ sz t 1 m p fun v => ezq_j1 false [v] fun z _ => (ezq_go ih dd Γ rr sz t cl sl sp ks k) (pc + 1) ls (.inr (.inl z) :: r)
      | _ => false
noncomputable def ezq_f_baload  : ezq_FA := fun a b c d x ih dd Γ rr pc ls st sz t cl sl sp ks k => ezq_i1 false st fun y r => ezq_p1 false r fun p r => match y with
      | .inl m => ezq_ald false Γ sz t 2 m p fun v => ezq_i1 false [v] fun z _ => (ezq_go ih dd Γ rr sz t cl sl sp ks k) (pc + 1) ls (.inl (ezq_nm Γ z) :: r)
      | _ => false
noncomputable def ezq_f_iastore  : ezq_FA := fun a b c d x ih dd Γ rr pc ls st sz t cl sl sp ks k => ezq_i1 false st fun v r => ezq_ast false sz t 0 (.inl v) r fun r t' => (ezq_gh ih dd Γ rr ls sp ks k) (pc + 1) r sz t' cl sl
noncomputable def ezq_f_lastore  : ezq_FA := fun a b c d x ih dd Γ rr pc ls st sz t cl sl sp ks k => ezq_j1 false st fun v r => ezq_ast false sz t 1 (.inr (.inl v)) r fun r t' => (ezq_gh ih dd Γ rr ls sp ks k) (pc + 1) r sz t' cl sl
noncomputable def ezq_f_bastore  : ezq_FA := fun a b c d x ih dd Γ rr pc ls st sz t cl sl sp ks k => ezq_w1 false 2 st fun v r => ezq_ast false sz t 2 v r fun r t' => (ezq_gh ih dd Γ rr ls sp ks k) (pc + 1) r sz t' cl sl
noncomputable def ezq_f_ldc  : ezq_FA := fun a b c d x ih dd Γ rr pc ls st sz t cl sl sp ks k => match a with
      | 0 => (ezq_go ih dd Γ rr sz t cl sl sp ks k) (pc + 2) ls (ezq_kn b :: st)
      | 1 => bif Nat.ble b 1 then (ezq_go ih dd Γ rr sz t cl sl sp ks k) (pc + 2) ls (ezq_xt (2 + 2 * b) :: st) else false
      | _ => false
noncomputable def ezq_f_ldc_w  : ezq_FA := fun a b c d x ih dd Γ rr pc ls st sz t cl sl sp ks k => match a with
      | 0 => (ezq_go ih dd Γ rr sz t cl sl sp ks k) (pc + 3) ls (ezq_kn b :: st)
      | _ => false
noncomputable def ezq_f_ldc2_w  : ezq_FA := fun a b c d x ih dd Γ rr pc ls st sz t cl sl sp ks k => match b with
      | 0 => (ezq_go ih dd Γ rr sz t cl sl sp ks k) (pc + 3) ls (.inr (.inl (.inl a)) :: st)
      | _ => false
noncomputable def ezq_f_checkcast  : ezq_FA := fun a b c d x ih dd Γ rr pc ls st sz t cl sl sp ks k => ezq_p1 false st fun p r => ezq_ar false sz t p fun _ ty _ _ => bif Nat.beq ty 0 then (ezq_go ih dd Γ rr sz t cl sl sp ks k) (pc + 3) ls (.inr (.inr p) :: r) else false
noncomputable def ezq_f_invokevirtual  : ezq_FA := fun a b c d x ih dd Γ rr pc ls st sz t cl sl sp ks k => bif Nat.beq c 8 then (ezq_p1 false st fun p r => match p with
        | some (.inr 1) => ezq_al false sz t cl sl rr.2.2.2.2.2.2.1 rr.2.2.2.2.2.2.2 11 (.inr (0, 11, fun j => ezq_kn (ezq_t1.getD j 0))) fun sz' t' cl' sl' => bif Nat.ble (ezq_cat r) 8 then (ezq_gh ih dd Γ rr ls sp ks k) (pc + 3) (ezq_ow sz :: r) sz' t' cl' sl' else false
        | _ => false) else (ezq_call false ezq_hB ih dd Γ rr pc ls st sz t cl sl sp ks k a b c d x)
noncomputable def ezq_f_invokespecial  : ezq_FA := fun a b c d x ih dd Γ rr pc ls st sz t cl sl sp ks k => bif Nat.beq c 5 then (ezq_p1 false st fun p r => match p with
        | some (.inl _) => bif Nat.ble (ezq_cat r) 8 then (ezq_go ih dd Γ rr sz t cl sl sp ks k) (pc + 3) ls r else false
        | _ => false) else (ezq_call false ezq_hB ih dd Γ rr pc ls st sz t cl sl sp ks k a b c d x)
noncomputable def ezq_f_invokestatic  : ezq_FA := fun a b c d x ih dd Γ rr pc ls st sz t cl sl sp ks k => bif Nat.beq c 7 then (bif Nat.ble (ezq_cat st) 8 && (Nat.ble cl rr.2.2.2.2.2.2.1 && Nat.ble sl rr.2.2.2.2.2.2.2) then (match a with
        | 0 => ezq_b2 false (fun x y => if x < y then y else x) st fun z r => (ezq_go ih dd Γ rr sz t cl sl sp ks k) (pc + 3) ls (.inl z :: r)
        | 1 => ezq_b2 false (fun x y => if y < x then y else x) st fun z r => (ezq_go ih dd Γ rr sz t cl sl sp ks k) (pc + 3) ls (.inl z :: r)
        | 2 => ezq_i1 false st fun y r => ezq_fi (ezq_o1 (fun x => if 0 ≤ x then x else 0 - x) y) fun z => (ezq_go ih dd Γ rr sz t cl sl sp ks k) (pc + 3) ls (.inl z :: r)
        | _ => false) else false) else (ezq_call false ezq_hB ih dd Γ rr pc ls st sz t cl sl sp ks k a b c d x)
noncomputable def ezq_f_ireturn  : ezq_FA := fun a b c d x ih dd Γ rr pc ls st sz t cl sl sp ks k => ezq_i1 false st fun y r => match r with
      | [] => (ezq_reF Γ rr sz t cl sl k) (some (.inl y))
      | _ => false
noncomputable def ezq_f_lreturn  : ezq_FA := fun a b c d x ih dd Γ rr pc ls st sz t cl sl sp ks k => ezq_j1 false st fun y r => match r with
      | [] => (ezq_reF Γ rr sz t cl sl k) (some (.inr (.inl y)))
      | _ => false
noncomputable def ezq_f_return_  : ezq_FA := fun a b c d x ih dd Γ rr pc ls st sz t cl sl sp ks k => match st with
      | [] => (ezq_reF Γ rr sz t cl sl k) none
      | _ => false
def ezq_f__ : ezq_FA := fun _ _ _ _ _ _ _ _ _ _ _ _ _ _ _ _ _ _ _ => false
noncomputable def ezq_fd : Instr → ezq_FA := fun i => @Instr.casesOn (fun _ => ezq_FA) i (ezq_f__) (ezq_f__) (ezq_f__) (fun _ => ezq_f_aload) (fun _ => ezq_f_aload_n) (fun _ => ezq_f__) (ezq_f__) ezq_f_arraylength (fun _ => ezq_f_astore) (fun _ => ezq_f_astore_n) (ezq_f__) ezq_f_baload ezq_f_bastore (fun _ => ezq_f_bipush) (ezq_f__) (ezq_f__) (fun _ => ezq_f_checkcast) (ezq_f__) (ezq_f__) (ezq_f__) (ezq_f__) (ezq_f__) (ezq_f__) (fun _ => ezq_f__) (fun _ => ezq_f__) (ezq_f__) (fun _ => ezq_f__) (fun _ => ezq_f__) (ezq_f__) (ezq_f__) (ezq_f__) (ezq_f__) (fun _ => ezq_f__) (fun _ => ezq_f__) (ezq_f__) ezq_f_dup (ezq_f__) (ezq_f__) ezq_f_dup2 (ezq_f__) (ezq_f__) (ezq_f__) (ezq_f__) (ezq_f__) (ezq_f__) (ezq_f__) (ezq_f__) (fun _ => ezq_f__) (fun _ => ezq_f__) (ezq_f__) (fun _ => ezq_f__) (fun _ => ezq_f__) (ezq_f__) (ezq_f__) (ezq_f__) (ezq_f__) (fun _ => ezq_f__) (fun _ => ezq_f__) (ezq_f__) (fun _ => ezq_f_getfield) (fun _ => ezq_f_getstatic) (fun _ => ezq_f_goto) (fun _ => ezq_f__) ezq_f_i2b ezq_f_i2c (ezq_f__) (ezq_f__) ezq_f_i2l (ezq_f__) ezq_f_iadd ezq_f_iaload ezq_f_iand ezq_f_iastore (fun _ => ezq_f_iconst) ezq_f_idiv (fun _ _ => ezq_f__) (fun cc _ => ezq_f_if_icmp cc) (fun cc _ => ezq_f_ifCond cc) (fun _ => ezq_f__) (fun _ => ezq_f_ifnull) (fun _ _ => ezq_f_iinc) (fun _ => ezq_f_iload) (fun _ => ezq_f_iload_n) ezq_f_imul ezq_f_ineg (fun _ => ezq_f__) (fun _ => ezq_f__) (fun _ _ => ezq_f__) (fun _ => ezq_f_invokespecial) (fun _ => ezq_f_invokestatic) (fun _ => ezq_f_invokevirtual) ezq_f_ior ezq_f_irem ezq_f_ireturn ezq_f_ishl ezq_f_ishr (fun _ => ezq_f_istore) (fun _ => ezq_f_istore_n) ezq_f_isub ezq_f_iushr ezq_f_ixor (fun _ => ezq_f__) (fun _ => ezq_f__) (ezq_f__) (ezq_f__) ezq_f_l2i ezq_f_ladd ezq_f_laload ezq_f_land ezq_f_lastore ezq_f_lcmp (fun _ => ezq_f_lconst) (fun _ => ezq_f_ldc) (fun _ => ezq_f_ldc_w) (fun _ => ezq_f_ldc2_w) ezq_f_ldiv (fun _ => ezq_f_lload) (fun _ => ezq_f_lload_n) ezq_f_lmul (ezq_f__) (fun df ps => ezq_f_lookupswitch df ps) ezq_f_lor ezq_f_lrem ezq_f_lreturn ezq_f_lshl ezq_f_lshr (fun _ => ezq_f_lstore) (fun _ => ezq_f_lstore_n) ezq_f_lsub ezq_f_lushr ezq_f_lxor (ezq_f__) (ezq_f__) (fun _ _ => ezq_f__) (fun _ => ezq_f_new) (fun ty => ezq_f_newarray ty) (ezq_f__) ezq_f_pop (ezq_f__) (fun _ => ezq_f_putfield) (fun _ => ezq_f__) (fun _ => ezq_f__) ezq_f_return_ (ezq_f__) (ezq_f__) (fun _ => ezq_f_sipush) (ezq_f__) (fun df lo _ offs => ezq_f_tableswitch df lo offs)
noncomputable def ezq_fx (ih : ezq_RT Bool) (dd : Nat) (Γ : ezq_G) (r : ezq_R) (pc : Nat) (ls : ezq_S) (st : List ezq_V) (sz : Nat) (t : ezq_T 7) (cl sl sp : Nat) (ks : ezq_KS Bool) (k : ezq_KK Bool) (o : Option ezq_Y) : Bool := match o with
  | none => false
  | some e => ezq_fd e.1 e.2.2.1 e.2.2.2.1 e.2.2.2.2.1 e.2.2.2.2.2.1 e.2.2.2.2.2.2 ih dd Γ r pc ls st sz t cl sl sp ks k
noncomputable def ezq_frun : Nat → ezq_RT Bool := fun fuel => Nat.rec (motive := fun _ => ezq_RT Bool) (fun _ _ _ _ _ _ _ _ _ _ _ _ _ => false) (fun _ ih dd Γ r pc ls st sz t cl sl sp ks k => ezq_fx ih dd Γ r pc ls st sz t cl sl sp ks k (r.1 pc)) fuel
theorem ezq_fx_eq (ih : ezq_RT Bool) (d : Nat) (Γ : ezq_G) (r : ezq_R) (pc : Nat) (ls : ezq_S) (st : List ezq_V) (sz : Nat) (t : ezq_T 7) (cl sl sp : Nat) (ks : ezq_KS Bool) (k : ezq_KK Bool) (e : ezq_Y) :
    ezq_fx ih d Γ r pc ls st sz t cl sl sp ks k (some e) = ezq_step false Γ e pc ls st sz t cl sl r.2.2.2.2.2.2.1 r.2.2.2.2.2.2.2
        (fun pc' ls' st' => ezq_fn pc' fun q => bif Nat.beq q sp then ks Γ ls' st' sz t cl sl else ezq_id (ih d Γ r q ls' st' sz t cl sl sp ks k))
        (fun pc' st' sz' t' cl' sl' => ezq_fn pc' fun q => ezq_id (ih d Γ r q ls st' sz' t' cl' sl' sp ks k))
        (fun cc x y p1 p2 st' => ezq_cmp ezq_an Γ cc x y (fun Γ' => ezq_fn p1 fun q => bif Nat.beq q sp then ks Γ' ls st' sz t cl sl else ezq_id (ih d Γ' r q ls st' sz t cl sl sp ks k)) (fun Γ' => ezq_fn p2 fun q => bif Nat.beq q sp then ks Γ' ls st' sz t cl sl else ezq_id (ih d Γ' r q ls st' sz t cl sl sp ks k)))
        (fun ps df y st' => ezq_swl ezq_an y (fun Γ' o => bif decide ((pc : Int) + o < 0) then false else ezq_fn ((pc : Int) + o).toNat fun q => ezq_id (ih d Γ' r q ls st' sz t cl sl sp ks k)) (fun Γ' => bif decide ((pc : Int) + df < 0) then false else ezq_fn ((pc : Int) + df).toNat fun q => ezq_id (ih d Γ' r q ls st' sz t cl sl sp ks k)) ps Γ)
        (ezq_call false ezq_hB ih d Γ r pc ls st sz t cl sl sp ks k e.2.2.1 e.2.2.2.1 e.2.2.2.2.1 e.2.2.2.2.2.1 e.2.2.2.2.2.2)
        (fun v => bif ezq_rok r.2.2.2.2.2.1 v && (Nat.ble cl r.2.2.2.2.2.2.1 && Nat.ble sl r.2.2.2.2.2.2.2) then k Γ v sz t else false) := by
  obtain ⟨i, l, a, b, c, d1, x⟩ := e
  cases i <;> rfl
theorem ezq_frun_eq (n : Nat) : ezq_frun n = ezq_run false ezq_an ezq_hB n := by
  induction n with
  | zero => rfl
  | succ n ih =>
    funext d Γ r pc ls st sz t cl sl sp ks k
    show ezq_fx (ezq_frun n) d Γ r pc ls st sz t cl sl sp ks k (r.1 pc) = _
    rw [ih]
    show _ = (match r.1 pc with
      | none => false
      | some e => ezq_step false Γ e pc ls st sz t cl sl r.2.2.2.2.2.2.1 r.2.2.2.2.2.2.2
        (fun pc' ls' st' => ezq_fn pc' fun q => bif Nat.beq q sp then ks Γ ls' st' sz t cl sl else ezq_id (ezq_run false ezq_an ezq_hB n d Γ r q ls' st' sz t cl sl sp ks k))
        (fun pc' st' sz' t' cl' sl' => ezq_fn pc' fun q => ezq_id (ezq_run false ezq_an ezq_hB n d Γ r q ls st' sz' t' cl' sl' sp ks k))
        (fun cc x y p1 p2 st' => ezq_cmp ezq_an Γ cc x y (fun Γ' => ezq_fn p1 fun q => bif Nat.beq q sp then ks Γ' ls st' sz t cl sl else ezq_id (ezq_run false ezq_an ezq_hB n d Γ' r q ls st' sz t cl sl sp ks k)) (fun Γ' => ezq_fn p2 fun q => bif Nat.beq q sp then ks Γ' ls st' sz t cl sl else ezq_id (ezq_run false ezq_an ezq_hB n d Γ' r q ls st' sz t cl sl sp ks k)))
        (fun ps df y st' => ezq_swl ezq_an y (fun Γ' o => bif decide ((pc : Int) + o < 0) then false else ezq_fn ((pc : Int) + o).toNat fun q => ezq_id (ezq_run false ezq_an ezq_hB n d Γ' r q ls st' sz t cl sl sp ks k)) (fun Γ' => bif decide ((pc : Int) + df < 0) then false else ezq_fn ((pc : Int) + df).toNat fun q => ezq_id (ezq_run false ezq_an ezq_hB n d Γ' r q ls st' sz t cl sl sp ks k)) ps Γ)
        (ezq_call false ezq_hB (ezq_run false ezq_an ezq_hB n) d Γ r pc ls st sz t cl sl sp ks k e.2.2.1 e.2.2.2.1 e.2.2.2.2.1 e.2.2.2.2.2.1 e.2.2.2.2.2.2)
        (fun v => bif ezq_rok r.2.2.2.2.2.1 v && (Nat.ble cl r.2.2.2.2.2.2.1 && Nat.ble sl r.2.2.2.2.2.2.2) then k Γ v sz t else false))
    cases r.1 pc with
    | none => rfl
    | some e => exact ezq_fx_eq _ d Γ r pc ls st sz t cl sl sp ks k e
