/-! ===== what the interpreter's state says of the machine's ===== -/
def ezq_tyf (n : Nat) : FieldType := match n with
  | 0 => .int
  | 1 => .long
  | _ => .boolean
def ezq_wn (w : Cond) : Bool := match w with
  | .methodLinkNest .. => true
  | .fieldLinkNest .. => true
  | .castable .. => true
  | _ => false
section KW
variable (ρ : ezq_E) (B : Nat) (xa : Nat → Option Nat) (Hb : Heap) (D : va_G) (cA : Nat → ClassId) (Hr : Heap)
def ezq_at (q : Nat) (x : ezq_C) (H : Heap) : Prop := match x with
  | .inl (ci, fs) => (ci < 13 ∧ fs.length = (ezq_vw ci).2.2 ∧ t_OB q (D.1 ci) (ezq_vw ci).2.2 (D.2 ci) H (vp_V (fs.map (ezq_d ρ B xa)))) ∨ (13 ≤ ci ∧ (ci = 13 → H[q]? = Hr[q]?))
  | .inr (ty, n, f) => ty ≤ 2 ∧ n ≤ 100000 ∧ H[q]? = some (arrV (cA ty) n (fun j => ezq_d ρ B xa (f j)))
def ezq_HR (sz : Nat) (t : ezq_T 7) (H : Heap) : Prop := sz ≤ 128 ∧ H.size = B + sz ∧ (∀ k, k < sz → ezq_at ρ B xa D cA Hr (B + k) (ezq_tg 7 t k) H) ∧ ∀ q, q < B → H[q]? = Hb[q]?
def ezq_no (q : Nat) : Prop := B ≤ q
def ezq_XS (U : State) (a v idx n : Nat) (tb : List Nat) : Prop := va_O "java/lang/String" a (ezq_no B) U Hb ∧ va_OF "java/lang/String" "coder" "B" (.int 0) a (ezq_no B) U Hb ∧ va_OF "java/lang/String" "value" "[B" (.ref v) a (ezq_no B) U Hb ∧ va_T .byte v n (fun j => .int (Int32.ofNat (tb.getD j 0))) (ezq_no B) U Hb ∧ ∃ tx, vk_R "ElmKite$Tokens" idx tx a U
def ezq_X0 (U : State) : Prop := ∃ b L, xa 0 = some b ∧ L ≤ 3584 ∧ ρ 8 = Int32.ofNat L ∧ ρ 9 = ρ 8 - 7 ∧ ρ 7 = ρ 0 &&& 31 ∧ va_X b L (fun m => ρ (ezq_sx m)) U Hb ∧ b < B
def ezq_X1 (U : State) : Prop := ∃ b, xa 1 = some b ∧ (∃ cell : Cell, Hb[b]? = some cell ∧ cell.cls = cA 0 ∧ (∀ k, cell.vm ≠ .statics k) ∧ cell.vm ≠ .unknown ∧ cell.slots = (arrV (cA 0) 11 (fun j => .int (Int32.ofNat (ezq_t1.getD j 0)))).slots) ∧ b < B ∧ va_Z "ElmKite" "FIRST_NUMBERS" "[I" (.ref b) (ezq_no B) U Hb
def ezq_K (U : State) : Prop :=
  (∀ ci, ci < 13 → u_Kn U (ezq_vw ci).1 (ezq_vw ci).2.1 (ezq_vw ci).2.2 (D.1 ci) (D.2 ci)) ∧
  (∀ ty, ty ≤ 2 → ArrOfT U (cA ty) (ezq_tyf ty) ∧ U.vm.findClass ("[" ++ (ezq_tyf ty).toString) = some (cA ty)) ∧
  (∀ w ∈ lw_tbl, ezq_wn w = true → va_Nw w U) ∧ Hb.size = B ∧ ezq_X0 ρ B xa Hb U ∧ ezq_X1 B xa Hb cA U ∧
  (∃ a v, xa 2 = some a ∧ xa 3 = some v ∧ ezq_XS B Hb U a v 19 254 ezq_t3) ∧
  (∃ a v, xa 4 = some a ∧ xa 5 = some v ∧ ezq_XS B Hb U a v 113 8 ezq_t5) ∧
  va_Z "java/lang/String" "COMPACT_STRINGS" "Z" (.int 1) (ezq_no B) U Hb ∧
  va_Z "jdk/internal/util/Preconditions" "SIOOBE_FORMATTER" "Ljava/util/function/BiFunction;" (ezq_dP B xa (some (.inr 6))) (ezq_no B) U Hb
def ezq_okG (Γ : ezq_G) : Prop := ∀ k, (Γ k).1 ≤ ezq_off (ρ k) ∧ ezq_off (ρ k) ≤ (Γ k).2
end KW
section KW2
variable {ρ : ezq_E} {B : Nat} {xa : Nat → Option Nat} {Hb : Heap} {D : va_G} {cA : Nat → ClassId} {Hr : Heap}
theorem ezq_XS.warm {s U : State} {a v idx n : Nat} {tb : List Nat} (hW : s.WarmedH U.vm) (h : ezq_XS B Hb s a v idx n tb) : ezq_XS B Hb U a v idx n tb := by
  obtain ⟨h1, h2, h3, h4, tx, h5⟩ := h
  exact ⟨h1.moved hW.alike, h2.moved hW.alike, h3.moved hW.alike, h4.moved hW.alike, tx, h5.warm hW⟩
theorem ezq_K.warm {s U : State} (hW : s.WarmedH U.vm) (h : ezq_K ρ B xa Hb D cA s) : ezq_K ρ B xa Hb D cA U := by
  obtain ⟨h1, h2, h3, h4, ⟨b0, L, g1, g2, g3, g4, g5, g6, g7⟩, ⟨b1, f1, f2, f3, f4⟩, ⟨a2, v2, k1, k2, k3⟩, ⟨a4, v4, m1, m2, m3⟩, h9, h10⟩ := h
  have hvm := hW.alike
  refine ⟨fun ci hc => u_Kn_moved hvm (h1 ci hc), fun ty ht => ⟨arrOfT_moved hvm (h2 ty ht).1, by rw [hvm.findClass]; exact (h2 ty ht).2⟩, fun w hw hn => ?_, h4, ⟨b0, L, g1, g2, g3, g4, g5, g6.moved hvm, g7⟩, ⟨b1, f1, f2, f3, f4.moved hvm⟩, ⟨a2, v2, k1, k2, k3.warm hW⟩, ⟨a4, v4, m1, m2, m3.warm hW⟩, h9.moved hvm, h10.moved hvm⟩
  have h := h3 w hw hn
  cases w <;> first | (simp [ezq_wn] at hn; done) | exact va_Nw.warmM hW h | exact va_Nw.warmF hW h | exact va_Nw.warmC hW h
theorem ezq_K.same {s U : State} (hvm : s.vm = U.vm) (h : ezq_K ρ B xa Hb D cA s) : ezq_K ρ B xa Hb D cA U := by
  obtain ⟨h1, h2, h3, h4, ⟨b0, L, g1, g2, g3, g4, g5, g6, g7⟩, ⟨b1, f1, f2, f3, f4⟩, ⟨a2, v2, k1, k2, k3⟩, ⟨a4, v4, m1, m2, m3⟩, h9, h10⟩ := h
  have hal : s.vm.Alike U.vm := by rw [hvm]; exact Vm.Alike.refl _
  have hx : ∀ {a v idx n : Nat} {tb : List Nat}, ezq_XS B Hb s a v idx n tb → ezq_XS B Hb U a v idx n tb := fun ⟨q1, q2, q3, q4, tx, q5⟩ => ⟨q1.moved hal, q2.moved hal, q3.moved hal, q4.moved hal, tx, q5.same hvm.symm⟩
  refine ⟨fun ci hc => u_Kn_moved hal (h1 ci hc), fun ty ht => ⟨arrOfT_moved hal (h2 ty ht).1, by rw [hal.findClass]; exact (h2 ty ht).2⟩, fun w hw hn => ?_, h4, ⟨b0, L, g1, g2, g3, g4, g5, g6.moved hal, g7⟩, ⟨b1, f1, f2, f3, f4.moved hal⟩, ⟨a2, v2, k1, k2, hx k3⟩, ⟨a4, v4, m1, m2, hx m3⟩, h9.moved hal, h10.moved hal⟩
  have h := h3 w hw hn
  cases w <;> first | (simp [ezq_wn] at hn; done) | exact va_Nw.same rfl hvm h
theorem ezq_at.kept {q : Nat} {x : ezq_C} {H H1 : Heap} (h : ezq_at ρ B xa D cA Hr q x H) (hq : H1[q]? = H[q]?) : ezq_at ρ B xa D cA Hr q x H1 := by
  cases x with
  | inl o =>
    obtain ⟨ci, fs⟩ := o
    rcases h with h | h
    · exact Or.inl ⟨h.1, h.2.1, h.2.2.kept hq⟩
    · exact Or.inr ⟨h.1, fun e => by rw [hq]; exact h.2 e⟩
  | inr o =>
    obtain ⟨ty, n, f⟩ := o
    exact ⟨h.1, h.2.1, by rw [hq]; exact h.2.2⟩
theorem ezq_HR.set {sz : Nat} {t : ezq_T 7} {H H1 : Heap} {q : Nat} {x : ezq_C} (h : ezq_HR ρ B xa Hb D cA Hr sz t H) (hq : q < sz) (z : H1.size = H.size) (o : ∀ a, a ≠ B + q → H1[a]? = H[a]?) (hx : ezq_at ρ B xa D cA Hr (B + q) x H1) : ezq_HR ρ B xa Hb D cA Hr sz (ezq_tset 7 t q x) H1 := by
  obtain ⟨h1, h2, h3, h4⟩ := h
  refine ⟨h1, by rw [z]; exact h2, fun k hk => ?_, fun a ha => by rw [o a (by omega)]; exact h4 a ha⟩
  rw [ezq_tg_set 7 t q k x (by omega) (by omega)]
  by_cases e : k = q
  · rw [if_pos e, e]
    exact hx
  · rw [if_neg e]
    exact (h3 k hk).kept (o _ (by omega))
theorem ezq_HR.push {sz : Nat} {t : ezq_T 7} {H H1 : Heap} {x : ezq_C} (h : ezq_HR ρ B xa Hb D cA Hr sz t H) (hs : sz < 128) (z : H1.size = H.size + 1) (o : ∀ a, a < H.size → H1[a]? = H[a]?) (hx : ezq_at ρ B xa D cA Hr (B + sz) x H1) : ezq_HR ρ B xa Hb D cA Hr (sz + 1) (ezq_tset 7 t sz x) H1 := by
  obtain ⟨h1, h2, h3, h4⟩ := h
  refine ⟨by omega, by omega, fun k hk => ?_, fun a ha => by rw [o a (by omega)]; exact h4 a ha⟩
  rw [ezq_tg_set 7 t sz k x (by omega) (by omega)]
  by_cases e : k = sz
  · rw [if_pos e, e]
    exact hx
  · rw [if_neg e]
    exact (h3 k (by omega)).kept (o _ (by omega))
theorem ezq_atO {q ci : Nat} {fs : List ezq_V} {H : Heap} (h13 : ci < 13) (h : ezq_at ρ B xa D cA Hr q (.inl (ci, fs)) H) : ci < 13 ∧ fs.length = (ezq_vw ci).2.2 ∧ t_OB q (D.1 ci) (ezq_vw ci).2.2 (D.2 ci) H (vp_V (fs.map (ezq_d ρ B xa))) := by
  rcases h with h | h
  · exact h
  · exact absurd h.1 (by omega)
theorem ezq_beq (a b : Nat) : Nat.beq a b = decide (a = b) := by
  cases h : Nat.beq a b
  · exact (decide_eq_false (fun e => by rw [e, Nat.beq_refl] at h; cases h)).symm
  · exact (decide_eq_true (Nat.eq_of_beq_eq_true h)).symm
theorem ezq_bleF {a b : Nat} (h : Nat.ble a b = false) : b < a := Nat.not_le.mp fun q => by rw [Nat.ble_eq_true_of_le q] at h; cases h
theorem ezq_bltT {a b : Nat} (h : Nat.blt a b = true) : a < b := Nat.le_of_ble_eq_true h
theorem ezq_bltF {a b : Nat} (h : Nat.blt a b = false) : b ≤ a := Nat.le_of_lt_succ (ezq_bleF h)
theorem ezq_dcat (v : ezq_V) : (ezq_d ρ B xa v).category = bif ezq_c2 v then 2 else 1 := by
  rcases v with a | x | p
  · rfl
  · rfl
  · show (ezq_dP B xa p).category = 1
    rcases p with _ | k | i
    · rfl
    · rfl
    · show (match xa i with | none => Value.null | some a => .ref a).category = 1
      cases xa i <;> rfl
theorem ezq_dcat1 {v : ezq_V} (h : ezq_c2 v = false) : (ezq_d ρ B xa v).category = 1 := by rw [ezq_dcat, h]; rfl
theorem ezq_sumcat (vs : List ezq_V) : ((vs.map (ezq_d ρ B xa)).map fun v => v.category).sum = ezq_cat vs := by
  induction vs with
  | nil => rfl
  | cons v r ih =>
    show (ezq_d ρ B xa v).category + ((r.map (ezq_d ρ B xa)).map fun v => v.category).sum = (bif ezq_c2 v then 2 else 1) + ezq_cat r
    rw [ih, ezq_dcat]
theorem ezq_slen (vs : List ezq_V) : (lg_sl (vs.map (ezq_d ρ B xa))).length = ezq_cat vs := by
  induction vs with
  | nil => rfl
  | cons v r ih =>
    have e : lg_sl ((v :: r).map (ezq_d ρ B xa)) = (if (ezq_d ρ B xa v).category = 2 then [.val (ezq_d ρ B xa v), .second] else [.val (ezq_d ρ B xa v)]) ++ lg_sl (r.map (ezq_d ρ B xa)) := by simp [lg_sl]
    rw [e, List.length_append, ih, ezq_dcat]
    show _ = (bif ezq_c2 v then 2 else 1) + ezq_cat r
    cases ezq_c2 v <;> simp
/-- the locals, as the rows have them -/
def ezq_dl (ρ : ezq_E) (B : Nat) (xa : Nat → Option Nat) (ls : ezq_S) : List (Nat × Value) := ls.map (fun q => (q.1, ezq_d ρ B xa q.2))
theorem ezq_dl_mem {ls : ezq_S} {i : Nat} {v : ezq_V} (h : (i, v) ∈ ls) : (i, ezq_d ρ B xa v) ∈ ezq_dl ρ B xa ls := List.mem_map.mpr ⟨(i, v), h, rfl⟩
theorem ezq_dl_f1 (i : Nat) (ls : ezq_S) : (ezq_dl ρ B xa ls).filter (fun q => !(q.1 == i) && !(q.1 + 1 == i && q.2.category == 2)) = ezq_dl ρ B xa (ls.filter (ezq_f1 i)) := by
  unfold ezq_dl
  rw [List.filter_map]
  congr 1
  congr 1
  funext q
  show (!(q.1 == i) && !(q.1 + 1 == i && (ezq_d ρ B xa q.2).category == 2)) = ezq_f1 i q
  rw [ezq_dcat]
  unfold ezq_f1
  rw [ezq_beq, ezq_beq]
  by_cases e1 : q.1 = i
  · simp [e1]
  · by_cases e2 : q.1 + 1 = i <;> cases ezq_c2 q.2 <;> simp [e1, e2]
theorem ezq_dl_f2 (i : Nat) (ls : ezq_S) : (ezq_dl ρ B xa ls).filter (fun q => !(q.1 == i) && (!(q.1 == i + 1) && !(q.1 + 1 == i && q.2.category == 2))) = ezq_dl ρ B xa (ls.filter (ezq_f2 i)) := by
  unfold ezq_dl
  rw [List.filter_map]
  congr 1
  congr 1
  funext q
  show (!(q.1 == i) && (!(q.1 == i + 1) && !(q.1 + 1 == i && (ezq_d ρ B xa q.2).category == 2))) = ezq_f2 i q
  rw [ezq_dcat]
  unfold ezq_f2
  rw [ezq_beq, ezq_beq, ezq_beq]
  by_cases e1 : q.1 = i
  · simp [e1]
  · by_cases e3 : q.1 = i + 1
    · simp [e3]
    · by_cases e2 : q.1 + 1 = i <;> cases ezq_c2 q.2 <;> simp [e1, e2, e3]
/-- the arguments as locals -/
def ezq_args (i : Nat) (vs : List ezq_V) : ezq_S := match vs with
  | [] => []
  | v :: r => (i, v) :: ezq_args (bif ezq_c2 v then i + 2 else i + 1) r
theorem ezq_args_d (vs : List ezq_V) : ∀ i : Nat, lv_args i (vs.map (ezq_d ρ B xa)) = ezq_dl ρ B xa (ezq_args i vs) := by
  induction vs with
  | nil => intro i; rfl
  | cons v r ih =>
    intro i
    show (i, ezq_d ρ B xa v) :: lv_args (if (ezq_d ρ B xa v).category = 2 then i + 2 else i + 1) (r.map (ezq_d ρ B xa)) = (i, ezq_d ρ B xa v) :: ezq_dl ρ B xa (ezq_args (bif ezq_c2 v then i + 2 else i + 1) r)
    rw [ezq_dcat, ← ih]
    cases ezq_c2 v <;> rfl
theorem ezq_arg_eq {Ω : Type} (vs : List ezq_V) : ∀ (i : Nat) (k : ezq_S → Ω), ezq_arg vs i k = k (ezq_args i vs) := by
  induction vs with
  | nil => intro i k; rfl
  | cons v r ih =>
    intro i k
    show ezq_fn (bif ezq_c2 v then i + 2 else i + 1) (fun j => ezq_arg r j fun r => k ((i, v) :: r)) = k ((i, v) :: ezq_args (bif ezq_c2 v then i + 2 else i + 1) r)
    rw [ezq_fn_eq, ih]
end KW2
/-! what the pieces of a step say, where they don't fail -/
section KT
variable {Ω : Type} {bot : Ω} {T : Ω → Prop}
theorem ezq_i1_ok (hbot : ¬ T bot) {st : List ezq_V} {k : ezq_I → List ezq_V → Ω} (h : T (ezq_i1 bot st k)) : ∃ x r, st = .inl x :: r ∧ T (k x r) := by
  match st, h with
  | [], h => exact absurd h hbot
  | .inl x :: r, h => exact ⟨x, r, rfl, h⟩
  | .inr (.inl x) :: r, h => exact absurd h hbot
  | .inr (.inr x) :: r, h => exact absurd h hbot
theorem ezq_j1_ok (hbot : ¬ T bot) {st : List ezq_V} {k : ezq_L → List ezq_V → Ω} (h : T (ezq_j1 bot st k)) : ∃ x r, st = .inr (.inl x) :: r ∧ T (k x r) := by
  match st, h with
  | [], h => exact absurd h hbot
  | .inl x :: r, h => exact absurd h hbot
  | .inr (.inl x) :: r, h => exact ⟨x, r, rfl, h⟩
  | .inr (.inr x) :: r, h => exact absurd h hbot
theorem ezq_p1_ok (hbot : ¬ T bot) {st : List ezq_V} {k : ezq_P → List ezq_V → Ω} (h : T (ezq_p1 bot st k)) : ∃ x r, st = .inr (.inr x) :: r ∧ T (k x r) := by
  match st, h with
  | [], h => exact absurd h hbot
  | .inl x :: r, h => exact absurd h hbot
  | .inr (.inl x) :: r, h => exact absurd h hbot
  | .inr (.inr x) :: r, h => exact ⟨x, r, rfl, h⟩
theorem ezq_v1_ok (hbot : ¬ T bot) {st : List ezq_V} {k : ezq_V → List ezq_V → Ω} (h : T (ezq_v1 bot st k)) : ∃ x r, st = x :: r ∧ ezq_c2 x = false ∧ T (k x r) := by
  match st, h with
  | [], h => exact absurd h hbot
  | x :: r, h =>
    cases hc : ezq_c2 x
    · refine ⟨x, r, rfl, hc, ?_⟩
      have h : T (bif ezq_c2 x then bot else k x r) := h
      rw [hc] at h
      exact h
    · have h : T (bif ezq_c2 x then bot else k x r) := h
      rw [hc] at h
      exact absurd h hbot
theorem ezq_lo_ok (hbot : ¬ T bot) {ls : ezq_S} {i : Nat} {k : ezq_V → Ω} (h : T (ezq_lo bot ls i k)) : ∃ v, (i, v) ∈ ls ∧ T (k v) := by
  induction ls with
  | nil => exact absurd h hbot
  | cons q r ih =>
    have h : T (bif Nat.beq q.1 i then k q.2 else ezq_lo bot r i k) := h
    cases hb : Nat.beq q.1 i
    · rw [hb] at h
      obtain ⟨v, h1, h2⟩ := ih h
      exact ⟨v, List.mem_cons_of_mem _ h1, h2⟩
    · rw [hb] at h
      have e := Nat.eq_of_beq_eq_true hb
      exact ⟨q.2, by rw [← e]; exact List.mem_cons_self, h⟩
theorem ezq_sto1_ok {i : Nat} {v : ezq_V} {ls : ezq_S} {k : ezq_S → Ω} (hc : ezq_c2 v = false) (h : T (ezq_sto i v ls k)) : T (k ((i, v) :: ls.filter (ezq_f1 i))) := by
  unfold ezq_sto at h
  rw [hc] at h
  have h : T (ezq_fil (ezq_f1 i) ls (fun r => k ((i, v) :: r))) := h
  rw [ezq_fil_eq] at h
  exact h
theorem ezq_sto2_ok {i : Nat} {v : ezq_V} {ls : ezq_S} {k : ezq_S → Ω} (hc : ezq_c2 v = true) (h : T (ezq_sto i v ls k)) : T (k ((i, v) :: ls.filter (ezq_f2 i))) := by
  unfold ezq_sto at h
  rw [hc] at h
  have h : T (ezq_fil (ezq_f2 i) ls (fun r => k ((i, v) :: r))) := h
  rw [ezq_fil_eq] at h
  exact h
theorem ezq_pop_ok (hbot : ¬ T bot) (n : Nat) : ∀ {st acc : List ezq_V} {k : List ezq_V → List ezq_V → Ω}, T (ezq_pop bot n st acc k) → ∃ as rest, st = as.reverse ++ rest ∧ as.length = n ∧ T (k (as ++ acc) rest) := by
  induction n with
  | zero => intro st acc k h; exact ⟨[], st, rfl, rfl, h⟩
  | succ n ih =>
    intro st acc k h
    match st, h with
    | [], h => exact absurd h hbot
    | v :: r, h =>
      obtain ⟨as, rest, h1, h2, h3⟩ := ih (st := r) (acc := v :: acc) h
      refine ⟨as ++ [v], rest, ?_, ?_, ?_⟩
      · rw [h1, List.reverse_append]
        rfl
      · rw [List.length_append, h2]
        rfl
      · rw [List.append_assoc]
        exact h3
theorem ezq_ob_ok (hbot : ¬ T bot) {sz : Nat} {t : ezq_T 7} {p : ezq_P} {k : Nat → Nat → List ezq_V → Ω} (h : T (ezq_ob bot sz t p k)) : ∃ q ci fs, p = some (.inl q) ∧ q < sz ∧ ezq_tg 7 t q = .inl (ci, fs) ∧ ci < 13 ∧ T (k q ci fs) := by
  rcases p with _ | q | i
  · exact absurd h hbot
  · have h : T (bif Nat.ble sz q then bot else match ezq_tg 7 t q with
      | .inl (ci, fs) => bif Nat.ble 13 ci then bot else k q ci fs
      | _ => bot) := h
    cases hb : Nat.ble sz q
    · rw [hb] at h
      cases ht : ezq_tg 7 t q with
      | inl o =>
        rw [ht] at h
        have h : T (bif Nat.ble 13 o.1 then bot else k q o.1 o.2) := h
        cases h13 : Nat.ble 13 o.1
        · rw [h13] at h
          exact ⟨q, o.1, o.2, rfl, ezq_bleF hb, ht, ezq_bleF h13, h⟩
        · rw [h13] at h
          exact absurd h hbot
      | inr o =>
        rw [ht] at h
        exact absurd h hbot
    · rw [hb] at h
      exact absurd h hbot
  · exact absurd h hbot
theorem ezq_ar_ok (hbot : ¬ T bot) {sz : Nat} {t : ezq_T 7} {p : ezq_P} {k : Nat → Nat → Nat → (Nat → ezq_V) → Ω} (h : T (ezq_ar bot sz t p k)) : ∃ q ty n f, p = some (.inl q) ∧ q < sz ∧ ezq_tg 7 t q = .inr (ty, n, f) ∧ T (k q ty n f) := by
  rcases p with _ | q | i
  · exact absurd h hbot
  · have h : T (bif Nat.ble sz q then bot else match ezq_tg 7 t q with
      | .inr (ty, n, f) => k q ty n f
      | _ => bot) := h
    cases hb : Nat.ble sz q
    · rw [hb] at h
      cases ht : ezq_tg 7 t q with
      | inl o =>
        rw [ht] at h
        exact absurd h hbot
      | inr o =>
        rw [ht] at h
        exact ⟨q, o.1, o.2.1, o.2.2, rfl, ezq_bleF hb, ht, h⟩
    · rw [hb] at h
      exact absurd h hbot
  · exact absurd h hbot
theorem ezq_bif_ok (hbot : ¬ T bot) {b : Bool} {x : Ω} (h : T (bif b then x else bot)) : b = true ∧ T x := by
  cases b
  · exact absurd h hbot
  · exact ⟨rfl, h⟩
theorem ezq_bifN_ok (hbot : ¬ T bot) {b : Bool} {x : Ω} (h : T (bif b then bot else x)) : b = false ∧ T x := by
  cases b
  · exact ⟨rfl, h⟩
  · exact absurd h hbot
theorem ezq_b2_ok (hbot : ¬ T bot) {f : Int32 → Int32 → Int32} {st : List ezq_V} {k : ezq_I → List ezq_V → Ω} (h : T (ezq_b2 bot f st k)) : ∃ y x r, st = .inl y :: .inl x :: r ∧ T (k (ezq_o2 f x y) r) := by
  obtain ⟨y, r, rfl, h_1⟩ := ezq_i1_ok hbot h
  obtain ⟨x, r, rfl, h_2⟩ := ezq_i1_ok hbot h_1
  rw [ezq_fi_eq] at h_2
  exact ⟨y, x, r, rfl, h_2⟩
theorem ezq_bl_ok (hbot : ¬ T bot) {f : Int64 → Int64 → Int64} {st : List ezq_V} {k : ezq_L → List ezq_V → Ω} (h : T (ezq_bl bot f st k)) : ∃ y x r, st = .inr (.inl y) :: .inr (.inl x) :: r ∧ T (k (ezq_l2 f x y) r) := by
  obtain ⟨y, r, rfl, h_1⟩ := ezq_j1_ok hbot h
  obtain ⟨x, r, rfl, h_2⟩ := ezq_j1_ok hbot h_1
  rw [ezq_fl_eq] at h_2
  exact ⟨y, x, r, rfl, h_2⟩
theorem ezq_sh_ok (hbot : ¬ T bot) {f : Int64 → Int32 → Int64} {st : List ezq_V} {k : ezq_L → List ezq_V → Ω} (h : T (ezq_sh bot f st k)) : ∃ y x r, st = .inl y :: .inr (.inl x) :: r ∧ T (k (ezq_lil f x y) r) := by
  obtain ⟨y, r, rfl, h_1⟩ := ezq_i1_ok hbot h
  obtain ⟨x, r, rfl, h_2⟩ := ezq_j1_ok hbot h_1
  rw [ezq_fl_eq] at h_2
  exact ⟨y, x, r, rfl, h_2⟩
theorem ezq_ne0 {m : Nat} (h : Nat.beq (m % 4294967296) 0 = false) : ¬ Int32.ofNat m = 0 := by
  intro e
  have h1 : (Int32.ofNat m).toUInt32.toNat = (0 : Int32).toUInt32.toNat := by rw [e]
  have h2 : m % 4294967296 = 0 := h1
  rw [h2] at h
  cases h
theorem ezq_ne0L {m : Nat} (h : Nat.beq (m % 18446744073709551616) 0 = false) : ¬ Int64.ofNat m = 0 := by
  intro e
  have h1 : (Int64.ofNat m).toUInt64.toNat = (0 : Int64).toUInt64.toNat := by rw [e]
  have h2 : m % 18446744073709551616 = 0 := h1
  rw [h2] at h
  cases h
theorem ezq_div_ok (hbot : ¬ T bot) {f : Int32 → Int32 → Int32} {st : List ezq_V} {k : ezq_I → List ezq_V → Ω} (h : T (ezq_div bot f st k)) : ∃ m x r, st = .inl (.inl m) :: .inl x :: r ∧ ¬ Int32.ofNat m = 0 ∧ T (k (ezq_o2 f x (.inl m)) r) := by
  obtain ⟨y, r, rfl, h_1⟩ := ezq_i1_ok hbot h
  obtain ⟨x, r, rfl, h_2⟩ := ezq_i1_ok hbot h_1
  rcases y with m | y
  · obtain ⟨h1, h_3⟩ := ezq_bifN_ok hbot h_2
    rw [ezq_fi_eq] at h_3
    exact ⟨m, x, r, rfl, ezq_ne0 h1, h_3⟩
  · exact absurd h_2 hbot
theorem ezq_ldv_ok (hbot : ¬ T bot) {f : Int64 → Int64 → Int64} {st : List ezq_V} {k : ezq_L → List ezq_V → Ω} (h : T (ezq_ldv bot f st k)) : ∃ m x r, st = .inr (.inl (.inl m)) :: .inr (.inl x) :: r ∧ ¬ Int64.ofNat m = 0 ∧ T (k (ezq_l2 f x (.inl m)) r) := by
  obtain ⟨y, r, rfl, h_1⟩ := ezq_j1_ok hbot h
  obtain ⟨x, r, rfl, h_2⟩ := ezq_j1_ok hbot h_1
  rcases y with m | y
  · obtain ⟨h1, h_3⟩ := ezq_bifN_ok hbot h_2
    rw [ezq_fl_eq] at h_3
    exact ⟨m, x, r, rfl, ezq_ne0L h1, h_3⟩
  · exact absurd h_2 hbot
theorem ezq_al_ok (hbot : ¬ T bot) {sz : Nat} {t : ezq_T 7} {cl sl mc ms n : Nat} {c : ezq_C} {k : Nat → ezq_T 7 → Nat → Nat → Ω} (h : T (ezq_al bot sz t cl sl mc ms n c k)) : sz < 128 ∧ cl + 1 ≤ mc ∧ sl + n ≤ ms ∧ T (k (sz + 1) (ezq_tset 7 t sz c) (cl + 1) (sl + n)) := by
  obtain ⟨h1, h_1⟩ := ezq_bif_ok hbot h
  simp only [Bool.and_eq_true] at h1
  rw [ezq_ts_eq, ezq_fn_eq, ezq_fn_eq, ezq_fn_eq] at h_1
  exact ⟨ezq_bltT h1.1, Nat.le_of_ble_eq_true h1.2.1, Nat.le_of_ble_eq_true h1.2.2, h_1⟩
theorem ezq_ast_ok (hbot : ¬ T bot) {sz : Nat} {t : ezq_T 7} {ty : Nat} {v : ezq_V} {r : List ezq_V} {k : List ezq_V → ezq_T 7 → Ω} (h : T (ezq_ast bot sz t ty v r k)) : ∃ m q n f r', r = .inl (.inl m) :: .inr (.inr (some (.inl q))) :: r' ∧ q < sz ∧ ezq_tg 7 t q = .inr (ty, n, f) ∧ m < n ∧ T (k r' (ezq_tset 7 t q (.inr (ty, n, ezq_aup f m v)))) := by
  obtain ⟨i, r, rfl, h_1⟩ := ezq_i1_ok hbot h
  obtain ⟨p, r, rfl, h_2⟩ := ezq_p1_ok hbot h_1
  obtain ⟨q, ty', n, f, rfl, hq, ht, h_3⟩ := ezq_ar_ok hbot h_2
  rcases i with m | i
  · obtain ⟨h1, h_4⟩ := ezq_bif_ok hbot h_3
    simp only [Bool.and_eq_true] at h1
    rw [ezq_ts_eq] at h_4
    obtain rfl := Nat.eq_of_beq_eq_true h1.2
    exact ⟨m, q, n, f, r, rfl, hq, ht, ezq_bltT h1.1, h_4⟩
  · exact absurd h_3 hbot
end KT
/-! comparisons -/
theorem ezq_off_on (n : Nat) : ezq_off (Int32.ofNat n) = ezq_on n := by
  unfold ezq_off ezq_on
  have h : (Int32.ofNat n).toInt = Int.bmod n 4294967296 := by simp [Int32.toInt_ofNat']
  rw [h]
  have h2 : Int.bmod n 4294967296 = if (n : Int) % ((4294967296 : Nat) : Int) < (((4294967296 : Nat) : Int) + 1) / 2 then (n : Int) % ((4294967296 : Nat) : Int) else (n : Int) % ((4294967296 : Nat) : Int) - ((4294967296 : Nat) : Int) := rfl
  rw [h2]
  split <;> omega
theorem ezq_off_lt (x : Int32) : ezq_off x < 4294967296 := by
  have h1 := x.toInt_lt
  have h2 := x.le_toInt
  unfold ezq_off
  omega
theorem ezq_off_toInt (x : Int32) : x.toInt = (ezq_off x : Int) - 2147483648 := by
  have h2 := x.le_toInt
  unfold ezq_off
  omega
theorem ezq_off_eq {x y : Int32} : ezq_off x = ezq_off y ↔ x = y := by
  constructor
  · intro h
    apply Int32.toInt_inj.mp
    rw [ezq_off_toInt x, ezq_off_toInt y, h]
  · intro h
    rw [h]
theorem ezq_off_ltI {x y : Int32} : x < y ↔ ezq_off x < ezq_off y := by
  rw [Int32.lt_iff_toInt_lt, ezq_off_toInt x, ezq_off_toInt y]
  omega
theorem ezq_off_leI {x y : Int32} : x ≤ y ↔ ezq_off x ≤ ezq_off y := by
  rw [Int32.le_iff_toInt_le, ezq_off_toInt x, ezq_off_toInt y]
  omega
theorem ezq_up_ok {ρ : ezq_E} {Γ : ezq_G} {k lo hi : Nat} (h : ezq_okG ρ Γ) (h1 : lo ≤ ezq_off (ρ k)) (h2 : ezq_off (ρ k) ≤ hi) : ezq_okG ρ (ezq_up Γ k lo hi) := by
  intro j
  unfold ezq_up
  cases hb : Nat.beq j k
  · exact h j
  · rw [Nat.eq_of_beq_eq_true hb]
    exact ⟨h1, h2⟩
section KCmp
variable {Ω : Type} {fk : (ezq_E → Bool) → Ω → Ω → Ω} {T : Ω → Prop} {ρ : ezq_E}
/-- what a fork gives: the one side where b, the other where not -/
def ezq_br (T : Ω → Prop) (ρ : ezq_E) (b : Bool) (yes no : ezq_G → Ω) : Prop := (b = true → ∃ Γ, ezq_okG ρ Γ ∧ T (yes Γ)) ∧ (b = false → ∃ Γ, ezq_okG ρ Γ ∧ T (no Γ))
theorem ezq_cz_ok (hfk : ∀ c a b, T (fk c a b) → (c ρ = true → T a) ∧ (c ρ = false → T b)) (n : Nat) : ∀ {Γ : ezq_G} {k : Nat} {c : ezq_G → Ω}, ezq_okG ρ Γ → T (ezq_cz fk n Γ k c) → ∃ Γ', ezq_okG ρ Γ' ∧ T (c Γ') := by
  induction n with
  | zero => intro Γ k c hG h; exact ⟨Γ, hG, h⟩
  | succ n ih =>
    intro Γ k c hG h
    have h : T (ezq_fn (Γ k).1 fun lo => ezq_fn (Γ k).2 fun hi => bif Nat.ble (Γ 99).1 (hi - lo) then c Γ else bif Nat.beq lo hi then c Γ else fk (fun ρ => Nat.beq (ezq_off (ρ k)) lo) (c (ezq_up Γ k lo lo)) (ezq_cz fk n (ezq_up Γ k (lo + 1) hi) k c)) := h
    rw [ezq_fn_eq, ezq_fn_eq] at h
    have hk := hG k
    cases h1 : Nat.ble (Γ 99).1 ((Γ k).2 - (Γ k).1)
    · rw [h1] at h
      cases h2 : Nat.beq (Γ k).1 (Γ k).2
      · rw [h2] at h
        obtain ⟨ha, hb⟩ := hfk _ _ _ h
        cases h3 : Nat.beq (ezq_off (ρ k)) (Γ k).1
        · have hne : ezq_off (ρ k) ≠ (Γ k).1 := fun q => by rw [q, Nat.beq_refl] at h3; cases h3
          exact ih (ezq_up_ok hG (by omega) hk.2) (hb h3)
        · have e := Nat.eq_of_beq_eq_true h3
          exact ⟨_, ezq_up_ok hG (by omega) (by omega), ha h3⟩
      · rw [h2] at h
        exact ⟨Γ, hG, h⟩
    · rw [h1] at h
      exact ⟨Γ, hG, h⟩
theorem ezq_lt_ok (hfk : ∀ c a b, T (fk c a b) → (c ρ = true → T a) ∧ (c ρ = false → T b)) {Γ : ezq_G} {k N : Nat} {yes no : ezq_G → Ω} (hG : ezq_okG ρ Γ) (h : T (ezq_lt fk Γ k N yes no)) : ezq_br T ρ (Nat.blt (ezq_off (ρ k)) N) yes no := by
  unfold ezq_lt at h
  have hk := hG k
  cases h1 : Nat.ble N (Γ k).1
  · rw [h1] at h
    cases h2 : Nat.blt (Γ k).2 N
    · rw [h2] at h
      obtain ⟨ha, hb⟩ := hfk _ _ _ h
      exact ⟨fun e => ezq_cz_ok hfk 20 (ezq_up_ok hG hk.1 (by have := ezq_bltT e; omega)) (ha e), fun e => ezq_cz_ok hfk 20 (ezq_up_ok hG (ezq_bltF e) hk.2) (hb e)⟩
    · rw [h2] at h
      refine ⟨fun _ => ⟨Γ, hG, h⟩, fun e => ?_⟩
      have := ezq_bltF e
      have := ezq_bltT h2
      omega
  · rw [h1] at h
    refine ⟨fun e => ?_, fun _ => ⟨Γ, hG, h⟩⟩
    have := ezq_bltT e
    have := Nat.le_of_ble_eq_true h1
    omega
theorem ezq_eq_ok (hfk : ∀ c a b, T (fk c a b) → (c ρ = true → T a) ∧ (c ρ = false → T b)) {Γ : ezq_G} {k N : Nat} {yes no : ezq_G → Ω} (hG : ezq_okG ρ Γ) (h : T (ezq_eq fk Γ k N yes no)) : ezq_br T ρ (Nat.beq (ezq_off (ρ k)) N) yes no := by
  unfold ezq_eq at h
  have hk := hG k
  cases h1 : (Nat.blt N (Γ k).1 || Nat.blt (Γ k).2 N)
  · rw [h1] at h
    cases h2 : (Nat.beq (Γ k).1 N && Nat.beq (Γ k).2 N)
    · rw [h2] at h
      obtain ⟨ha, hb⟩ := hfk _ _ _ h
      refine ⟨fun e => ⟨_, ezq_up_ok hG (Nat.le_of_eq (Nat.eq_of_beq_eq_true e).symm) (Nat.le_of_eq (Nat.eq_of_beq_eq_true e)), ha e⟩, fun e => ?_⟩
      have hne : ezq_off (ρ k) ≠ N := fun q => by rw [q, Nat.beq_refl] at e; cases e
      have hb' := hb e
      cases h3 : Nat.beq (Γ k).1 N
      · rw [h3] at hb'
        cases h4 : Nat.beq (Γ k).2 N
        · rw [h4] at hb'
          obtain ⟨hc, hd⟩ := hfk _ _ _ hb'
          cases h5 : Nat.blt (ezq_off (ρ k)) N
          · have h6 := ezq_bltF h5
            have h7 := hd h5
            rw [ezq_fn_eq] at h7
            exact ezq_cz_ok hfk 20 (ezq_up_ok hG (by omega) hk.2) h7
          · have h6 := ezq_bltT h5
            have h7 := hc h5
            rw [ezq_fn_eq] at h7
            exact ezq_cz_ok hfk 20 (ezq_up_ok hG hk.1 (by omega)) h7
        · rw [h4] at hb'
          have := Nat.eq_of_beq_eq_true h4
          have h7 : T (ezq_fn (N - 1) (fun M => no (ezq_up Γ k (Γ k).1 M))) := hb'
          rw [ezq_fn_eq] at h7
          exact ⟨_, ezq_up_ok hG hk.1 (by omega), h7⟩
      · rw [h3] at hb'
        have := Nat.eq_of_beq_eq_true h3
        have h7 : T (ezq_fn (N + 1) (fun M => no (ezq_up Γ k M (Γ k).2))) := hb'
        rw [ezq_fn_eq] at h7
        exact ⟨_, ezq_up_ok hG (by omega) hk.2, h7⟩
    · rw [h2] at h
      simp only [Bool.and_eq_true] at h2
      have e1 := Nat.eq_of_beq_eq_true h2.1
      have e2 := Nat.eq_of_beq_eq_true h2.2
      refine ⟨fun _ => ⟨Γ, hG, h⟩, fun e => ?_⟩
      have e3 : ezq_off (ρ k) = N := by omega
      rw [e3, Nat.beq_refl] at e
      cases e
  · rw [h1] at h
    refine ⟨fun e => ?_, fun _ => ⟨Γ, hG, h⟩⟩
    have e1 := Nat.eq_of_beq_eq_true e
    simp only [Bool.or_eq_true] at h1
    rcases h1 with h1 | h1
    · have := ezq_bltT h1
      omega
    · have := ezq_bltT h1
      omega
theorem ezq_br.swap {b : Bool} {yes no : ezq_G → Ω} (h : ezq_br T ρ b no yes) : ezq_br T ρ (!b) yes no := by
  cases b
  · exact ⟨fun _ => h.2 rfl, fun e => (by cases e)⟩
  · exact ⟨fun e => (by cases e), fun _ => h.1 rfl⟩
theorem ezq_nblt (a b : Nat) : (!(Nat.blt a b)) = Nat.ble b a := by
  cases h : Nat.blt a b
  · exact (Nat.ble_eq_true_of_le (ezq_bltF h)).symm
  · cases h2 : Nat.ble b a
    · rfl
    · have := ezq_bltT h
      have := Nat.le_of_ble_eq_true h2
      omega
theorem ezq_bltS (a b : Nat) : Nat.blt a (b + 1) = Nat.ble a b := rfl
theorem ezq_bltS2 (a b : Nat) : Nat.blt a b = !(Nat.blt b (a + 1)) := by
  rw [ezq_nblt]
  rfl
theorem ezq_spN_ok (hfk : ∀ c a b, T (fk c a b) → (c ρ = true → T a) ∧ (c ρ = false → T b)) {Γ : ezq_G} {k N : Nat} {c : ClassFile.Cond} {yes no : ezq_G → Ω} (hG : ezq_okG ρ Γ) (h : T (ezq_spN fk Γ k c N yes no)) : ezq_br T ρ (ezq_rb c (ezq_off (ρ k)) N) yes no := by
  cases c with
  | eq => exact ezq_eq_ok hfk hG h
  | ne => exact (ezq_eq_ok hfk hG h).swap
  | lt => exact ezq_lt_ok hfk hG h
  | ge =>
    show ezq_br T ρ (Nat.ble N (ezq_off (ρ k))) yes no
    rw [← ezq_nblt]
    exact (ezq_lt_ok hfk hG h).swap
  | gt =>
    have h : T (ezq_fn (N + 1) fun M => ezq_lt fk Γ k M no yes) := h
    rw [ezq_fn_eq] at h
    show ezq_br T ρ (Nat.blt N (ezq_off (ρ k))) yes no
    rw [ezq_bltS2]
    exact (ezq_lt_ok hfk hG h).swap
  | le =>
    have h : T (ezq_fn (N + 1) fun M => ezq_lt fk Γ k M yes no) := h
    rw [ezq_fn_eq] at h
    exact ezq_lt_ok hfk hG h
theorem ezq_sp_ok (hfk : ∀ c a b, T (fk c a b) → (c ρ = true → T a) ∧ (c ρ = false → T b)) {Γ : ezq_G} {k n : Nat} {c : ClassFile.Cond} {yes no : ezq_G → Ω} (hG : ezq_okG ρ Γ) (h : T (ezq_sp fk Γ k c n yes no)) : ezq_br T ρ (ezq_rb c (ezq_off (ρ k)) (ezq_on n)) yes no := by
  have e : ezq_sp fk Γ k c n yes no = ezq_spN fk Γ k c (ezq_on n) yes no := ezq_fn_eq (ezq_on n) (fun N => ezq_spN fk Γ k c N yes no)
  rw [e] at h
  exact ezq_spN_ok hfk hG h
theorem ezq_rb_sc (c : ClassFile.Cond) (x y : Nat) : ezq_rb (ezq_sc c) y x = ezq_rb c x y := by
  cases c
  · show Nat.beq y x = Nat.beq x y
    rw [ezq_beq, ezq_beq]
    exact decide_eq_decide.mpr ⟨Eq.symm, Eq.symm⟩
  · show (!(Nat.beq y x)) = !(Nat.beq x y)
    rw [ezq_beq, ezq_beq]
    congr 1
    exact decide_eq_decide.mpr ⟨Eq.symm, Eq.symm⟩
  · rfl
  · rfl
  · rfl
  · rfl
theorem ezq_rb_refl (c : ClassFile.Cond) (n : Nat) : ezq_rb c n n = ezq_rb c 0 0 := by
  have h1 : Nat.beq n n = true := Nat.beq_refl n
  have h2 : Nat.blt n n = false := by
    cases h : Nat.blt n n
    · rfl
    · exact absurd (ezq_bltT h) (Nat.lt_irrefl n)
  have h3 : Nat.ble n n = true := Nat.ble_eq_true_of_le (Nat.le_refl n)
  cases c <;> simp only [ezq_rb, h1, h2, h3] <;> rfl
theorem ezq_cmp_ok (hfk : ∀ c a b, T (fk c a b) → (c ρ = true → T a) ∧ (c ρ = false → T b)) {Γ : ezq_G} {c : ClassFile.Cond} {a b : ezq_I} {yes no : ezq_G → Ω} (hG : ezq_okG ρ Γ) (h : T (ezq_cmp fk Γ c a b yes no)) : ezq_br T ρ (ezq_rb c (ezq_off (ezq_dI ρ a)) (ezq_off (ezq_dI ρ b))) yes no := by
  have gen : ∀ {q : ezq_E → Bool}, T (fk q (yes Γ) (no Γ)) → ezq_br T ρ (q ρ) yes no := fun h => ⟨fun e => ⟨Γ, hG, (hfk _ _ _ h).1 e⟩, fun e => ⟨Γ, hG, (hfk _ _ _ h).2 e⟩⟩
  rcases a with x | k | f
  · rcases b with y | k | f
    · have h : T (bif ezq_rb c (ezq_on x) (ezq_on y) then yes Γ else no Γ) := h
      show ezq_br T ρ (ezq_rb c (ezq_off (Int32.ofNat x)) (ezq_off (Int32.ofNat y))) yes no
      rw [ezq_off_on, ezq_off_on]
      cases hb : ezq_rb c (ezq_on x) (ezq_on y)
      · rw [hb] at h
        exact ⟨fun e => (by cases e), fun _ => ⟨Γ, hG, h⟩⟩
      · rw [hb] at h
        exact ⟨fun _ => ⟨Γ, hG, h⟩, fun e => (by cases e)⟩
    · show ezq_br T ρ (ezq_rb c (ezq_off (Int32.ofNat x)) (ezq_off (ρ k))) yes no
      rw [← ezq_rb_sc, ezq_off_on]
      exact ezq_sp_ok hfk hG h
    · exact gen h
  · rcases b with y | j | f
    · show ezq_br T ρ (ezq_rb c (ezq_off (ρ k)) (ezq_off (Int32.ofNat y))) yes no
      rw [ezq_off_on]
      exact ezq_sp_ok hfk hG h
    · have h2 : T (bif Nat.beq k j then (bif ezq_rb c 0 0 then yes Γ else no Γ) else fk (fun ρ => ezq_rb c (ezq_off (ρ k)) (ezq_off (ρ j))) (yes Γ) (no Γ)) := h
      show ezq_br T ρ (ezq_rb c (ezq_off (ρ k)) (ezq_off (ρ j))) yes no
      cases hb : Nat.beq k j
      · rw [hb] at h2
        exact gen h2
      · rw [hb] at h2
        rw [Nat.eq_of_beq_eq_true hb, ezq_rb_refl]
        cases hc : ezq_rb c 0 0
        · rw [hc] at h2
          exact ⟨fun e => (by cases e), fun _ => ⟨Γ, hG, h2⟩⟩
        · rw [hc] at h2
          exact ⟨fun _ => ⟨Γ, hG, h2⟩, fun e => (by cases e)⟩
    · exact gen h
  · exact gen h
end KCmp
theorem ezq_nm_d {ρ : ezq_E} {Γ : ezq_G} (hG : ezq_okG ρ Γ) (a : ezq_I) : ezq_dI ρ (ezq_nm Γ a) = ezq_dI ρ a := by
  rcases a with x | k | f
  · rfl
  · show ezq_dI ρ (bif Nat.beq (Γ k).1 (Γ k).2 then .inl (((Γ k).1 + 2147483648) % 4294967296) else .inr (.inl k)) = ρ k
    cases hb : Nat.beq (Γ k).1 (Γ k).2
    · rfl
    · have e := Nat.eq_of_beq_eq_true hb
      have hk := hG k
      show Int32.ofNat (((Γ k).1 + 2147483648) % 4294967296) = ρ k
      apply ezq_off_eq.mp
      rw [ezq_off_on]
      have := ezq_off_lt (ρ k)
      unfold ezq_on
      omega
  · rfl
theorem ezq_and_d {ρ : ezq_E} (h7 : ρ 7 = ρ 0 &&& 31) (a b : ezq_I) : ezq_dI ρ (ezq_and a b) = ezq_dI ρ a &&& ezq_dI ρ b := by
  have g : ∀ a b : ezq_I, ezq_dI ρ (ezq_o2 (fun x y => x &&& y) a b) = ezq_dI ρ a &&& ezq_dI ρ b := fun a b => ezq_o2_d _ a b
  unfold ezq_and
  split
  · split
    · exact h7
    · exact g _ _
  · exact g _ _
theorem ezq_i2l_d {ρ : ezq_E} (a : ezq_I) : ezq_dL ρ (ezq_i2l a) = (ezq_dI ρ a).toInt64 := by
  have g : ∀ a : ezq_I, ezq_dL ρ (ezq_il (fun x => x.toInt64) a) = (ezq_dI ρ a).toInt64 := fun a => ezq_il_d _ a
  rcases a with n | k | f
  · exact g (.inl n)
  · show ezq_dL ρ (bif Nat.blt k 100 then .inr (.inl k) else ezq_il (fun x => x.toInt64) (.inr (.inl k))) = (ρ k).toInt64
    cases hb : Nat.blt k 100
    · exact g (.inr (.inl k))
    · show ezq_ls ρ k = (ρ k).toInt64
      exact if_pos (ezq_bltT hb)
  · exact g (.inr (.inr f))
theorem ezq_shl_d {ρ : ezq_E} (a : ezq_L) (b : ezq_I) : ezq_dL ρ (ezq_shl a b) = ezq_dL ρ a <<< ((ezq_dI ρ b).toInt64 &&& 63) := by
  have g : ∀ (a : ezq_L) (b : ezq_I), ezq_dL ρ (ezq_lil (fun x y => x <<< (y.toInt64 &&& 63)) a b) = ezq_dL ρ a <<< ((ezq_dI ρ b).toInt64 &&& 63) := fun a b => ezq_lil_d _ a b
  rcases a with n | k | f
  · exact g (.inl n) b
  · rcases b with m | z
    · show ezq_dL ρ (bif Nat.blt k 100 && Nat.beq m 32 then .inr (.inl (k + 100)) else ezq_lil (fun x y => x <<< (y.toInt64 &&& 63)) (.inr (.inl k)) (.inl m)) = _
      cases hb : (Nat.blt k 100 && Nat.beq m 32)
      · exact g (.inr (.inl k)) (.inl m)
      · rw [Bool.and_eq_true] at hb
        have h1 := ezq_bltT hb.1
        obtain rfl := Nat.eq_of_beq_eq_true hb.2
        show ezq_ls ρ (k + 100) = ezq_ls ρ k <<< ((Int32.ofNat 32).toInt64 &&& 63)
        unfold ezq_ls
        rw [if_neg (by omega), if_pos (by omega), if_pos h1, Nat.add_sub_cancel]
    · exact g (.inr (.inl k)) (.inr z)
  · exact g (.inr (.inr f)) b
theorem ezq_lan_d {ρ : ezq_E} (a b : ezq_L) : ezq_dL ρ (ezq_lan a b) = ezq_dL ρ a &&& ezq_dL ρ b := by
  have g : ∀ a b : ezq_L, ezq_dL ρ (ezq_l2 (fun x y => x &&& y) a b) = ezq_dL ρ a &&& ezq_dL ρ b := fun a b => ezq_l2_d _ a b
  rcases a with n | k | f
  · exact g (.inl n) b
  · rcases b with m | z
    · show ezq_dL ρ (bif Nat.blt k 100 && Nat.beq m 4294967295 then .inr (.inl (k + 200)) else ezq_l2 (fun x y => x &&& y) (.inr (.inl k)) (.inl m)) = _
      cases hb : (Nat.blt k 100 && Nat.beq m 4294967295)
      · exact g (.inr (.inl k)) (.inl m)
      · rw [Bool.and_eq_true] at hb
        have h1 := ezq_bltT hb.1
        obtain rfl := Nat.eq_of_beq_eq_true hb.2
        show ezq_ls ρ (k + 200) = ezq_ls ρ k &&& Int64.ofNat 4294967295
        unfold ezq_ls
        rw [if_neg (by omega), if_neg (by omega), if_pos (by omega), if_pos h1, Nat.add_sub_cancel]
    · exact g (.inr (.inl k)) (.inr z)
  · exact g (.inr (.inr f)) b
theorem ezq_lor_d {ρ : ezq_E} (a b : ezq_L) : ezq_dL ρ (ezq_lor a b) = ezq_dL ρ a ||| ezq_dL ρ b := by
  have g : ∀ a b : ezq_L, ezq_dL ρ (ezq_l2 (fun x y => x ||| y) a b) = ezq_dL ρ a ||| ezq_dL ρ b := fun a b => ezq_l2_d _ a b
  rcases a with n | j | f
  · exact g (.inl n) b
  · rcases b with m | k | f
    · exact g (.inr (.inl j)) (.inl m)
    · show ezq_dL ρ (bif (Nat.ble 100 j && Nat.blt j 199) && Nat.beq k (j + 101) then .inr (.inl (j + 200)) else ezq_l2 (fun x y => x ||| y) (.inr (.inl j)) (.inr (.inl k))) = _
      cases hb : ((Nat.ble 100 j && Nat.blt j 199) && Nat.beq k (j + 101))
      · exact g (.inr (.inl j)) (.inr (.inl k))
      · rw [Bool.and_eq_true, Bool.and_eq_true] at hb
        have h1 := Nat.le_of_ble_eq_true hb.1.1
        have h2 := ezq_bltT hb.1.2
        obtain rfl := Nat.eq_of_beq_eq_true hb.2
        show ezq_ls ρ (j + 200) = ezq_ls ρ j ||| ezq_ls ρ (j + 101)
        unfold ezq_ls
        rw [if_neg (by omega), if_neg (by omega), if_neg (by omega), if_neg (by omega), if_pos (by omega), if_neg (by omega), if_neg (by omega), if_pos (by omega)]
        rw [show j + 200 - 300 = j - 100 by omega, show j + 200 - 299 = j + 101 - 200 by omega]
    · exact g (.inr (.inl j)) (.inr (.inr f))
  · exact g (.inr (.inr f)) b
theorem ezq_sub_d {ρ : ezq_E} (h9 : ρ 9 = ρ 8 - 7) (a b : ezq_I) : ezq_dI ρ (ezq_sub a b) = ezq_dI ρ a - ezq_dI ρ b := by
  have g : ∀ a b : ezq_I, ezq_dI ρ (ezq_o2 (fun x y => x - y) a b) = ezq_dI ρ a - ezq_dI ρ b := fun a b => ezq_o2_d _ a b
  unfold ezq_sub
  split
  · split
    · exact h9
    · exact g _ _
  · exact g _ _
