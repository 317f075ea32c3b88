/-! THE CLAIM OUT OF ONE WALK OF THE LAW'S BODY. Your part is whole_start (and what it stands on); all else here is the same for every law, but numbers. -/
def R_law : String := "ElmKiteLaw"
def lw_P (b : Addr) (xs : List Int32) (args : Array Value) (s : State) : Prop := args = #[.ref b] ∧ s.IntsAt b xs ∧ xs.length ≤ 7 ∧ (Jvm.Cond.and given_1 narrow_1).before args s = true
def lw_Q (_ : Array Value) (s : State) (o : Outcome) (t : State) : Prop := o = .returned (some (.int 1)) ∧ Framed s o t [] 600000 7302250
def lw_Z (below : List Frame) (a : Array Value) (s : State) : State → Prop := fun t => ∃ o, t.status = .running ∧ Ended t below o ∧ lw_Q a s o t
/-- the law's own end, with 1 on the stack, nothing written that was there before, its room as the claim has it -/
theorem lw_ret {p : Program} {l : Launch} {e : Env} {s : State} {m : MethodId} {below : List Frame} {meth : Method} {c : Code} {b : Nat} (hx : p.tables.exec = Jvm.exec) (hb : c.code = code) (hr : meth.sig.returnType = ret) (hlocks : meth.locks = false) {pc : Nat} {H : Heap} {ls : Array Slot} (hdg : decode code pc = .ok (.ireturn, 1)) : W p l e room_1 s m #[Value.ref b] below meth c H [] 600000 7302250 (lw_Z below #[Value.ref b] s) (F0 m pc ls [.int 1]) := by
  intro T hT X
  obtain ⟨fs, hret, hrun, hended, hW, hframe⟩ := X.leave (v := some (.int 1)) (hlocks := hlocks) (fun h => by rw [hr] at h; cases h)
  have hmeth' : T.vm.method? m = some meth := X.method'
  refine ⟨T.setFrames fs, ?_, .returned (some (.int 1)), hrun, hended, rfl, ⟨_, rfl⟩, hW, hframe⟩
  jvm_step X.here [X.here.top, hx, hb, hdg, hmeth', hr, ret, narrow_b1]
  (try refine ⟨rfl, ?_⟩); (try refine ⟨rfl, ?_⟩)
  first | (intro acts; rw [hret _ acts rfl rfl rfl]) | rw [hret _ _ rfl rfl rfl]
  exact Steps.refl _
/-- what holds at the law's entry: the machine, the code, the tables' words (any of lw_tbl by 'hts w (by decide +kernel)'), the script of L ints xs at the cell b, what the Statement gives of the start (any of its parts by flat_of_before) -/
def lw_At (p : Program) (s : State) (m : MethodId) (meth : Method) (c : Code) (b L : Nat) (xs : Nat → Int32) : Prop :=
  p.tables.exec = Jvm.exec ∧ c.code = code ∧ meth.sig.returnType = ret ∧ c.maxLocals = 4 ∧ s.vm.findClass R_law = some m.cls ∧ (∀ w ∈ lw_tbl, w.before #[Value.ref b] s = true) ∧ va_X b L xs s s.heap ∧ b < s.heap.size ∧ meth.locks = false ∧ (Jvm.Cond.and given_1 narrow_1).before #[Value.ref b] s = true
/-! ===== the law, by runs of the interpreter ===== -/
/-- what is known of the script at the start: the symbol 7 is what the first int asks for, 8 its length, 9 its length less 7 -/
def ezq_gm (lim k k2 lo hi : Nat) : ezq_G := fun j => match j with
  | 99 => (lim, 4294967295)
  | 7 => (2147483648 + k, 2147483648 + k2)
  | 8 => (2147483648 + lo, 2147483648 + hi)
  | 9 => (2147483641 + lo, 2147483641 + hi)
  | _ => (0, 4294967295)
def ezq_ko : ezq_KK Bool := fun _ v _ _ => match v with
  | some (.inl (.inl 1)) => true
  | _ => false
noncomputable def ezq_law (n : Nat) (Γ : ezq_G) : Bool := ezq_run false ezq_an ezq_hB n 30 Γ ezq_re336 0 [(0, ezq_xt 0)] [] 0 (ezq_te 7) 0 0 1000000000 (fun _ _ _ _ _ _ _ => false) ezq_ko
noncomputable def ezq_lawF (n : Nat) (Γ : ezq_G) : Bool := ezq_frun n 30 Γ ezq_re336 0 [(0, ezq_xt 0)] [] 0 (ezq_te 7) 0 0 1000000000 (fun _ _ _ _ _ _ _ => false) ezq_ko
theorem ezq_lawF_eq (n : Nat) (Γ : ezq_G) : ezq_lawF n Γ = ezq_law n Γ := by
  unfold ezq_lawF ezq_law
  rw [ezq_frun_eq]
theorem ezq_fkB {ρ : ezq_E} : ∀ (c : ezq_E → Bool) (a b : Bool), ezq_an c a b = true → (c ρ = true → a = true) ∧ (c ρ = false → b = true) := by
  intro c a b h
  unfold ezq_an at h
  rw [Bool.and_eq_true] at h
  exact ⟨fun _ => h.1, fun _ => h.2⟩
theorem ezq_ko_ok {Γ : ezq_G} {v : Option ezq_V} {sz : Nat} {t : ezq_T 7} (h : ezq_ko Γ v sz t = true) : v = some (.inl (.inl 1)) := by
  unfold ezq_ko at h
  split at h
  · rfl
  · cases h
theorem ezq_gm_ok {lim L k k2 lo hi : Nat} {xs : Nat → Int32} (hL : L ≤ 7) (hlim : lim ≤ 2147483648) (hlo : lo ≤ L) (hhi : L ≤ hi) (hk : 2147483648 + k ≤ ezq_off (xs 0 &&& 31)) (hk2 : ezq_off (xs 0 &&& 31) ≤ 2147483648 + k2) : ezq_okG (ezq_rho L xs) (ezq_gm lim k k2 lo hi) := by
  intro j
  have hall : ∀ L, L ≤ 7 → ezq_off (Int32.ofNat L) = 2147483648 + L ∧ ezq_off (Int32.ofNat L - 7) = 2147483641 + L := by decide
  obtain ⟨h8, h9⟩ := hall L hL
  have hlt := ezq_off_lt (ezq_rho L xs j)
  by_cases e7 : j = 7
  · subst e7
    show 2147483648 + k ≤ ezq_off (xs 0 &&& 31) ∧ ezq_off (xs 0 &&& 31) ≤ 2147483648 + k2
    omega
  · by_cases e8 : j = 8
    · subst e8
      show 2147483648 + lo ≤ ezq_off (Int32.ofNat L) ∧ ezq_off (Int32.ofNat L) ≤ 2147483648 + hi
      omega
    · by_cases e9 : j = 9
      · subst e9
        show 2147483641 + lo ≤ ezq_off (Int32.ofNat L - 7) ∧ ezq_off (Int32.ofNat L - 7) ≤ 2147483641 + hi
        omega
      · by_cases e99 : j = 99
        · subst e99
          show lim ≤ ezq_off (0 : Int32) ∧ ezq_off (0 : Int32) ≤ 4294967295
          have h0 : ezq_off (0 : Int32) = 2147483648 := by decide
          omega
        have e : ezq_gm lim k k2 lo hi j = (0, 4294967295) := by
          unfold ezq_gm
          split
          · exact absurd rfl e99
          · exact absurd rfl e7
          · exact absurd rfl e8
          · exact absurd rfl e9
          · rfl
        rw [e]
        exact ⟨Nat.zero_le _, by show _ ≤ 4294967295; omega⟩
/-- what holds at the law's entry -/
theorem ezq_enter {Ω : Type} {bot : Ω} {fk : (ezq_E → Bool) → Ω → Ω → Ω} {hk : ezq_HT Ω} {T : Ω → Prop} (hbot : ¬ T bot) {p : Program} {e : Env} {s : State} {m : MethodId} {below : List Frame} {meth : Method} {c : Code} (l : Launch) {b L : Nat} {xs : Nat → Int32} (hL : L ≤ 7) (C0 : lw_At p s m meth c b L xs)
    {xa : Nat → Option Nat} {D : va_G} {cA : Nat → ClassId} (hK : ezq_K (ezq_rho L xs) s.heap.size xa s.heap D cA s) (hxa : xa 0 = some b)
    (hfk : ∀ c a b, T (fk c a b) → (c (ezq_rho L xs) = true → T a) ∧ (c (ezq_rho L xs) = false → T b)) (hhk : ∀ n, (∀ Hr : Heap, ezq_Ru bot fk hk T l (ezq_rho L xs) s.heap.size xa s.heap D cA Hr n) → ∀ Hr : Heap, ezq_HkOk bot fk hk T l (ezq_rho L xs) s.heap.size xa s.heap D cA Hr n) {n : Nat} {Γ : ezq_G} {k : ezq_KK Ω} (hkk : ∀ Γ v sz t, ezq_okG (ezq_rho L xs) Γ → T (k Γ v sz t) → ∃ a, v = some (.inl a) ∧ ezq_dI (ezq_rho L xs) a = 1)
    (h : T (ezq_run bot fk hk n 30 Γ ezq_re336 0 [(0, ezq_xt 0)] [] 0 (ezq_te 7) 0 0 1000000000 (fun _ _ _ _ _ _ _ => bot) k)) (hG : ezq_okG (ezq_rho L xs) Γ) :
    W p l e room_1 s m #[Value.ref b] below meth c s.heap [] 0 0 (lw_Z below #[Value.ref b] s) (entryFrame m ([Value.ref b] : List Value).toArray 4) := by
  obtain ⟨hx, hb, hr, hml, hown, hts, hX, hbl, hlocks, hgv⟩ := C0
  have hl := lv_entry [Value.ref b] (n := 4) (Nat.le_of_ble_eq_true rfl)
  rw [lg_entry_eq]
  have hdl : lv_args 0 [Value.ref b] = ezq_dl (ezq_rho L xs) s.heap.size xa [(0, ezq_xt 0)] := by
    show [(0, Value.ref b)] = [(0, ezq_dP s.heap.size xa (some (.inr 0)))]
    simp [ezq_dP, hxa]
  rw [hdl] at hl
  refine ezq_run_ok (l := l) (B := s.heap.size) (xa := xa) (Hb := s.heap) (D := D) (cA := cA) hbot hfk hhk n s.heap 30 Γ ezq_re336 0 _ [] 0 (ezq_te 7) 0 0 1000000000 _ k h hG ezq_gd336 p e room_1 s m _ below meth c _ ⟨hx, hb, hml, hown, ezq_T0_tbl hts, hK, fun z => absurd z (by decide), by decide, by decide, Nat.le_refl _, Nat.le_refl _⟩ ?_ (fun Γ' ls' st' sz' t' cl' sl' _ hk1 => absurd hk1 hbot) _ s.heap [] hl ⟨by omega, by omega, fun k hk => absurd hk (by omega), fun q _ => rfl⟩ (fun q h => by cases h)
  intro Γ' v sz' t' cl' sl' pc' lsA H locs hG' hkv hrok hcl hsl hH' hL' hdec
  obtain ⟨a, rfl, ha⟩ := hkk Γ' v sz' t' hG' hkv
  refine va_forget (fun q hq => hL' q hq) ?_
  refine W.widen (k := 600000) (n := 7302250) hcl hsl ?_
  show W p l e room_1 s m #[Value.ref b] below meth c H [] 600000 7302250 (lw_Z below #[Value.ref b] s) (F0 m pc' lsA [.int (ezq_dI (ezq_rho L xs) a)])
  rw [ha]
  exact lw_ret hx hb hr hlocks hdec
