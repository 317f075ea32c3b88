/-! what is read and written of cells -/
section KMem
variable {Ω : Type} {bot : Ω} {T : Ω → Prop} {ρ : ezq_E} {B : Nat} {xa : Nat → Option Nat} {Hb : Heap} {D : va_G} {cA : Nat → ClassId} {Hr : Heap} {s : State}
theorem ezq_ix {m n : Nat} (hm : m < n) (hn : n ≤ 100000) : ¬ (Int32.ofNat m < 0 ∨ n ≤ (Int32.ofNat m).toNatClampNeg) ∧ (Int32.ofNat m).toNatClampNeg = m := by
  have h1 : (Int32.ofNat m).toNatClampNeg = m := Int32.toNatClampNeg_ofNat_of_lt (by omega)
  refine ⟨fun h => ?_, h1⟩
  rcases h with h | h
  · have h2 := Int32.zero_le_ofNat_of_lt (a := m) (by omega)
    exact (Int32.not_lt.mpr h2) h
  · rw [h1] at h
    omega
theorem ezq_own {sz : Nat} {t : ezq_T 7} {H : Heap} {q ty n : Nat} {f : Nat → ezq_V} (hK : ezq_K ρ B xa Hb D cA s) (hH : ezq_HR ρ B xa Hb D cA Hr sz t H) (hq : q < sz) (ht : ezq_tg 7 t q = .inr (ty, n, f)) : H[B + q]? = some (arrV (cA ty) n (fun j => ezq_d ρ B xa (f j))) ∧ ty ≤ 2 ∧ n ≤ 100000 ∧ s.isArrayOf (arrV (cA ty) n (fun j => ezq_d ρ B xa (f j))) (ezq_tyf ty) := by
  have h := hH.2.2.1 q hq
  rw [ht] at h
  obtain ⟨h1, h2, h3⟩ := h
  exact ⟨h3, h1, h2, (hK.2.1 ty h1).1 n _⟩
theorem ezq_offN {n : Nat} (h : n < 2147483648) : ezq_off (Int32.ofNat n) = n + 2147483648 := by
  unfold ezq_off
  rw [Int32.toInt_ofNat_of_lt (by omega)]
  omega
theorem ezq_ald_ok (hbot : ¬ T bot) {Γ : ezq_G} (hG : ezq_okG ρ Γ) {sz : Nat} {t : ezq_T 7} {H : Heap} {ty m : Nat} {p : ezq_P} {k : ezq_V → Ω} (hK : ezq_K ρ B xa Hb D cA s) (hH : ezq_HR ρ B xa Hb D cA Hr sz t H) (h : T (ezq_ald bot Γ sz t ty m p k)) :
    ∃ v w cell, T (k v) ∧ ezq_dP B xa p = .ref w ∧ H[w]? = some cell ∧ cell.vm ≠ .unknown ∧ ¬ (Int32.ofNat m < 0 ∨ cell.slots.size ≤ (Int32.ofNat m).toNatClampNeg) ∧ cell.slots[(Int32.ofNat m).toNatClampNeg]? = some (ezq_d ρ B xa v) ∧ (s.isArrayOf cell (ezq_tyf ty) ∨ (ty = 2 ∧ s.isArrayOf cell .byte)) := by
  have hK' := hK
  obtain ⟨hKn, hKa, hKw, hBs, ⟨b0, L, g1, g2, g3, g4, g5, ⟨scr, x1, x2, x3, x4, x5⟩, g7⟩, ⟨b1, f1, f2, f3, f4⟩, ⟨a2, v2, k1, k2, k3⟩, ⟨a4, v4, m1, m2, m3⟩, hZ1, hZ2⟩ := hK'
  have hlow := hH.2.2.2
  rcases p with _ | q | i
  · exact absurd h hbot
  · obtain ⟨q', ty', n, f, e1, hq, ht, h_1⟩ := ezq_ar_ok hbot (show T (ezq_ar bot sz t (some (.inl q)) fun _ ty' n f => bif Nat.blt m n && Nat.beq ty' ty then k (f m) else bot) from h)
    cases e1
    obtain ⟨h1, h_2⟩ := ezq_bif_ok hbot h_1
    simp only [Bool.and_eq_true] at h1
    obtain rfl := Nat.eq_of_beq_eq_true h1.2
    obtain ⟨c1, c2, c3, c4⟩ := ezq_own hK hH hq ht
    obtain ⟨i1, i2⟩ := ezq_ix (ezq_bltT h1.1) c3
    refine ⟨f m, B + q, _, h_2, rfl, c1, fun z => (by cases z), by rw [arrV_size]; exact i1, ?_, Or.inl c4⟩
    rw [i2, arrV_read _ _ (ezq_bltT h1.1)]
  · match i, h with
    | 0, h_3 =>
      obtain ⟨h1, h_4⟩ := ezq_bif_ok hbot h_3
      simp only [Bool.and_eq_true] at h1
      obtain ⟨h2, h3⟩ := h1
      obtain rfl := Nat.eq_of_beq_eq_true h2
      have hm : m < L := by
        have e1 : m + 2147483648 < (Γ 8).1 := ezq_bltT h3
        have e2 := (hG 8).1
        rw [g3, ezq_offN (by omega)] at e2
        omega
      obtain ⟨i1, i2⟩ := ezq_ix (m := m) (n := L) (by omega) (by omega)
      refine ⟨_, b0, scr, h_4, by simp [ezq_dP, g1], by rw [hlow b0 g7]; exact x1, x3, by rw [x4]; exact i1, ?_, Or.inl x2⟩
      rw [i2, x5 m (by omega)]
      rfl
    | 1, h_5 =>
      obtain ⟨h1, h_6⟩ := ezq_bif_ok hbot h_5
      simp only [Bool.and_eq_true] at h1
      obtain ⟨h1, h2⟩ := h1
      obtain rfl := Nat.eq_of_beq_eq_true h2
      have hm := ezq_bltT h1
      obtain ⟨i1, i2⟩ := ezq_ix hm (by omega)
      obtain ⟨cell, y1, y2, y3, y4, y5⟩ := f2
      refine ⟨_, b1, cell, h_6, by simp [ezq_dP, f1], by rw [hlow b1 f3]; exact y1, y4, by rw [y5, arrV_size]; exact i1, ?_, Or.inl ⟨y3, by rw [y2]; exact ((hKa 0 (by omega)).1 11 (fun _ => .null)).2⟩⟩
      rw [i2, y5, arrV_read _ _ hm]
      rfl
    | 2, h_7 => exact absurd h_7 hbot
    | 3, h_8 =>
      obtain ⟨h1, h_9⟩ := ezq_bif_ok hbot h_8
      simp only [Bool.and_eq_true] at h1
      obtain ⟨h1, h2⟩ := h1
      obtain rfl := Nat.eq_of_beq_eq_true h2
      have hm := ezq_bltT h1
      obtain ⟨i1, i2⟩ := ezq_ix hm (by omega)
      obtain ⟨-, -, -, ⟨cell, t1, t2, t3, t4, t5, t6, t7⟩, -⟩ := k3
      have hv : v2 < B := Nat.not_le.mp t7
      refine ⟨_, v2, cell, h_9, by simp [ezq_dP, k2], by rw [hlow v2 hv]; exact t1, t3, fun z => ?_, ?_, Or.inr ⟨rfl, t2⟩⟩
      · rcases z with z | z
        · exact i1 (Or.inl z)
        · rw [i2] at z
          omega
      · rw [i2, t6 m hm]
        rfl
    | 4, h_10 => exact absurd h_10 hbot
    | 5, h_11 =>
      obtain ⟨h1, h_12⟩ := ezq_bif_ok hbot h_11
      simp only [Bool.and_eq_true] at h1
      obtain ⟨h1, h2⟩ := h1
      obtain rfl := Nat.eq_of_beq_eq_true h2
      have hm := ezq_bltT h1
      obtain ⟨i1, i2⟩ := ezq_ix hm (by omega)
      obtain ⟨-, -, -, ⟨cell, t1, t2, t3, t4, t5, t6, t7⟩, -⟩ := m3
      have hv : v4 < B := Nat.not_le.mp t7
      refine ⟨_, v4, cell, h_12, by simp [ezq_dP, m2], by rw [hlow v4 hv]; exact t1, t3, fun z => ?_, ?_, Or.inr ⟨rfl, t2⟩⟩
      · rcases z with z | z
        · exact i1 (Or.inl z)
        · rw [i2] at z
          omega
      · rw [i2, t6 m hm]
        rfl
    | j + 6, h_13 => exact absurd h_13 hbot
/-- a store into an array of ours -/
theorem ezq_at_st {q ty n m : Nat} {f : Nat → ezq_V} {v : ezq_V} {w : Value} {H1 : Heap} (h1 : ty ≤ 2) (h2 : n ≤ 100000) (hw : ezq_d ρ B xa v = w) (e : H1[q]? = some ((arrV (cA ty) n (fun j => ezq_d ρ B xa (f j))).setSlot m w)) : ezq_at ρ B xa D cA Hr q (.inr (ty, n, ezq_aup f m v)) H1 := by
  refine ⟨h1, h2, ?_⟩
  rw [e, arrV_store]
  congr 2
  funext j
  show updV _ m w j = ezq_d ρ B xa (bif Nat.beq j m then v else f j)
  rw [ezq_beq]
  by_cases e1 : j = m
  · simp [updV, e1, hw]
  · simp [updV, e1]
theorem ezq_locs {locs : List Loc} {q k : Nat} (hL : ∀ x ∈ locs, B ≤ x.base) : ∀ x ∈ locs ++ [⟨B + q, k⟩], B ≤ x.base := by
  intro x hx
  rcases List.mem_append.mp hx with h | h
  · exact hL x h
  · rw [List.mem_singleton.mp h]
    exact Nat.le_add_right B q
theorem ezq_w1_ok (hbot : ¬ T bot) {dd : Nat} {st : List ezq_V} {k : ezq_V → List ezq_V → Ω} (h : T (ezq_w1 bot dd st k)) : ∃ v r, st = v :: r ∧ T (k v r) ∧ ((dd = 0 ∧ ∃ a, v = .inl a) ∨ (dd = 1 ∧ ∃ a, v = .inr (.inl a)) ∨ (dd = 2 ∧ ∃ n, v = .inl (.inl n) ∧ n ≤ 1) ∨ (3 ≤ dd ∧ ∃ a, v = .inr (.inr a))) := by
  match dd, h with
  | 0, h_1 =>
    obtain ⟨x, r, rfl, h_2⟩ := ezq_i1_ok hbot h_1
    exact ⟨_, r, rfl, h_2, Or.inl ⟨rfl, x, rfl⟩⟩
  | 1, h_3 =>
    obtain ⟨x, r, rfl, h_4⟩ := ezq_j1_ok hbot h_3
    exact ⟨_, r, rfl, h_4, Or.inr (Or.inl ⟨rfl, x, rfl⟩)⟩
  | 2, h_5 =>
    obtain ⟨x, r, rfl, h_6⟩ := ezq_i1_ok hbot h_5
    rcases x with n | z
    · obtain ⟨h1, h_7⟩ := ezq_bif_ok hbot h_6
      exact ⟨_, r, rfl, h_7, Or.inr (Or.inr (Or.inl ⟨rfl, n, rfl, Nat.le_of_ble_eq_true h1⟩))⟩
    · exact absurd h_6 hbot
  | j + 3, h_8 =>
    obtain ⟨x, r, rfl, h_9⟩ := ezq_p1_ok hbot h_8
    exact ⟨_, r, rfl, h_9, Or.inr (Or.inr (Or.inr ⟨by omega, x, rfl⟩))⟩
theorem ezq_nz : ∀ n, n ≤ 1 → narrow .boolean (.int (Int32.ofNat n)) = .int (Int32.ofNat n) := by
  intro n hn
  match n, hn with
  | 0, _ => rfl
  | 1, _ => rfl
  | j + 2, h => exact absurd h (by omega)
theorem ezq_fz : ∀ n, n ≤ 1 → fits .boolean (.int (Int32.ofNat n)) = true := by
  intro n hn
  match n, hn with
  | 0, _ => rfl
  | 1, _ => rfl
  | j + 2, h => exact absurd h (by omega)
theorem ezq_dP_ref (p : ezq_P) : ezq_dP B xa p = .null ∨ ∃ w, ezq_dP B xa p = .ref w := by
  rcases p with _ | k | i
  · exact Or.inl rfl
  · exact Or.inr ⟨_, rfl⟩
  · unfold ezq_dP
    dsimp only
    cases xa i with
    | none => exact Or.inl rfl
    | some a => exact Or.inr ⟨a, rfl⟩
/-- a value that a field of that type takes -/
theorem ezq_fits {dd : Nat} {ty : FieldType} {v : ezq_V} (h : (match dd with
        | 0 => decide (ty = .int)
        | 1 => decide (ty = .long)
        | 2 => decide (ty = .boolean)
        | _ => match ty with
          | .object _ => true
          | .array _ => true
          | _ => false) = true) (hv : (dd = 0 ∧ ∃ a, v = .inl a) ∨ (dd = 1 ∧ ∃ a, v = .inr (.inl a)) ∨ (dd = 2 ∧ ∃ n, v = .inl (.inl n) ∧ n ≤ 1) ∨ (3 ≤ dd ∧ ∃ a, v = .inr (.inr a))) : narrow ty (ezq_d ρ B xa v) = ezq_d ρ B xa v ∧ fits ty (ezq_d ρ B xa v) = true := by
  rcases hv with ⟨rfl, a, rfl⟩ | ⟨rfl, a, rfl⟩ | ⟨rfl, n, rfl, hn⟩ | ⟨hd, a, rfl⟩
  · have h : decide (ty = .int) = true := h
    obtain rfl := of_decide_eq_true h
    exact ⟨rfl, rfl⟩
  · have h : decide (ty = .long) = true := h
    obtain rfl := of_decide_eq_true h
    exact ⟨rfl, rfl⟩
  · have h : decide (ty = .boolean) = true := h
    obtain rfl := of_decide_eq_true h
    exact ⟨ezq_nz n hn, ezq_fz n hn⟩
  · obtain ⟨j, rfl⟩ : ∃ j, dd = j + 3 := ⟨dd - 3, by omega⟩
    show narrow ty (ezq_dP B xa a) = ezq_dP B xa a ∧ fits ty (ezq_dP B xa a) = true
    rcases ezq_dP_ref (B := B) (xa := xa) a with e | ⟨w, e⟩ <;> rw [e] <;> cases ty <;> first | exact ⟨rfl, rfl⟩ | (exact absurd (show false = true from h) (by decide))
def ezq_tyk (ty : FieldType) : Bool := match ty with
  | .int => true
  | .long => true
  | .boolean => true
  | .object _ => true
  | .array _ => true
  | _ => false
theorem ezq_tyks : ∀ ci, ci < 13 → ∀ k, k < (ezq_vw ci).2.2 → ezq_tyk (ezq_fty ci k) = true := by decide +kernel
theorem ezq_dfl_len (ci : Nat) : (ezq_dfl ci).length = (ezq_vw ci).2.2 := by simp [ezq_dfl]
theorem ezq_dfl_d {ci k : Nat} (h : ci < 13) (hk : k < (ezq_vw ci).2.2) : defaultValue (ezq_fty ci k) = vp_V ((ezq_dfl ci).map (ezq_d ρ B xa)) k := by
  have ht := ezq_tyks ci h k hk
  unfold vp_V ezq_dfl
  rw [List.getD_eq_getElem?_getD, List.getElem?_map, List.getElem?_map, List.getElem?_range hk]
  show defaultValue (ezq_fty ci k) = ezq_d ρ B xa (match ezq_fty ci k with
    | .long => .inr (.inl (.inl 0))
    | .object _ => .inr (.inr none)
    | .array _ => .inr (.inr none)
    | _ => .inl (.inl 0))
  revert ht
  cases ezq_fty ci k <;> intro ht <;> first | rfl | (exact absurd ht (by decide))
end KMem
theorem ezq_CR_ok {o k a : Nat} (h : ezq_CR.any (fun q => Nat.beq q.1 o && (Nat.beq q.2.1 k && Nat.beq q.2.2.1 a)) = true) : Cond.classLink (ezq_cn o) k (ezq_vw a).1 ∈ ezq_T0 ∧ a < 13 := by
  obtain ⟨q, hq, h⟩ := List.any_eq_true.mp h
  simp only [Bool.and_eq_true] at h
  have h2 := List.all_eq_true.mp ezq_CRok q hq
  simp only [ezq_cok, Bool.and_eq_true] at h2
  rw [← Nat.eq_of_beq_eq_true h.1, ← Nat.eq_of_beq_eq_true h.2.1, ← Nat.eq_of_beq_eq_true h.2.2]
  exact ⟨ezq_wi_in h2.1 rfl, Nat.le_of_ble_eq_true h2.2⟩
theorem ezq_CI_ok {a b : Nat} (h : ezq_CI.any (fun q => Nat.beq q.1 a && Nat.beq q.2.1 b) = true) : Cond.instantiable (ezq_vw a).1 b ∈ ezq_T0 ∧ Cond.initialized (ezq_vw a).1 ∈ ezq_T0 ∧ (ezq_vw a).2.2 = b := by
  obtain ⟨q, hq, h⟩ := List.any_eq_true.mp h
  simp only [Bool.and_eq_true] at h
  have h2 := List.all_eq_true.mp ezq_CIok q hq
  simp only [Bool.and_eq_true] at h2
  rw [← Nat.eq_of_beq_eq_true h.1, ← Nat.eq_of_beq_eq_true h.2]
  exact ⟨ezq_wi_in h2.1 rfl, ezq_wi_in h2.2.1 rfl, Nat.eq_of_beq_eq_true h2.2.2⟩
theorem ezq_KI_ok {o k b : Nat} (h : ezq_KI.any (fun q => Nat.beq q.1 o && (Nat.beq q.2.1 k && Nat.beq q.2.2.1 b)) = true) : Cond.constant (ezq_cn o) k (Int32.ofNat b) ∈ ezq_T0 := by
  obtain ⟨q, hq, h⟩ := List.any_eq_true.mp h
  simp only [Bool.and_eq_true] at h
  have h2 := List.all_eq_true.mp ezq_KIok q hq
  rw [← Nat.eq_of_beq_eq_true h.1, ← Nat.eq_of_beq_eq_true h.2.1, ← Nat.eq_of_beq_eq_true h.2.2]
  exact ezq_wi_in h2 rfl
theorem ezq_KL_ok {o k b : Nat} (h : ezq_KL.any (fun q => Nat.beq q.1 o && (Nat.beq q.2.1 k && Nat.beq q.2.2.1 b)) = true) : Cond.constantLong (ezq_cn o) k (Int64.ofNat b) ∈ ezq_T0 := by
  obtain ⟨q, hq, h⟩ := List.any_eq_true.mp h
  simp only [Bool.and_eq_true] at h
  have h2 := List.all_eq_true.mp ezq_KLok q hq
  rw [← Nat.eq_of_beq_eq_true h.1, ← Nat.eq_of_beq_eq_true h.2.1, ← Nat.eq_of_beq_eq_true h.2.2]
  exact ezq_wi_in h2 rfl
theorem ezq_OI_ok {o k : Nat} (h : ezq_OIr.any (fun q => Nat.beq q.1 o && Nat.beq q.2.1 k) = true) : Cond.methodLink (ezq_cn o) k objectInit ∈ ezq_T0 := by
  obtain ⟨q, hq, h⟩ := List.any_eq_true.mp h
  simp only [Bool.and_eq_true] at h
  have h2 := List.all_eq_true.mp ezq_OIok q hq
  rw [← Nat.eq_of_beq_eq_true h.1, ← Nat.eq_of_beq_eq_true h.2]
  exact ezq_wi_in h2 rfl
theorem ezq_MX_ok {o k a : Nat} (h : ezq_MX.any (fun q => Nat.beq q.1 o && (Nat.beq q.2.1 k && Nat.beq q.2.2.1 a)) = true) (ha : a < 4) : Cond.methodLink (ezq_cn o) k (ezq_mx a).1 ∈ ezq_T0 := by
  obtain ⟨q, hq, h⟩ := List.any_eq_true.mp h
  simp only [Bool.and_eq_true] at h
  have h2 := List.all_eq_true.mp ezq_MXok q hq
  simp only [Bool.or_eq_true] at h2
  have e := Nat.eq_of_beq_eq_true h.2.2
  rcases h2 with h2 | h2
  · have := Nat.le_of_ble_eq_true h2
    omega
  · rw [← Nat.eq_of_beq_eq_true h.1, ← Nat.eq_of_beq_eq_true h.2.1, ← e]
    exact ezq_wi_in h2 rfl
section KCl
variable {p : Program} {l : Launch} {e : Env} {R : Room} {s : State} {m : MethodId} {args : Array Value} {below : List Frame} {meth : Method} {c : Code} {H : Heap} {locs : List Loc} {cells slots : Nat} {Q : State → Prop}
variable {cc : ByteArray} {pc : Nat} {ls : Array Slot} {rest : List Value} {a : Nat}
theorem ezq_Wclone (hexec : p.tables.exec = Jvm.exec) (hb : c.code = cc) (hml : c.maxLocals = ls.size) {own ad : String} {index : Nat} (hown : s.vm.findClass own = some m.cls)
    (hlink : (Cond.methodLink own index ⟨ad, "clone", "()Ljava/lang/Object;"⟩).before args s = true) (hsame : (Cond.sameMethod ad "java/lang/Object" "clone" "()Ljava/lang/Object;").before args s = true)
    (hnat : (Cond.native ⟨"java/lang/Object", "clone", "()Ljava/lang/Object;"⟩).before args s = true) (hinst : (Cond.instanceMethod ⟨"java/lang/Object", "clone", "()Ljava/lang/Object;"⟩).before args s = true)
    (hsel : (Cond.selects ad ⟨ad, "clone", "()Ljava/lang/Object;"⟩ ⟨"java/lang/Object", "clone", "()Ljava/lang/Object;"⟩).before args s = true) (hcl : va_Nw (.castable ad "java/lang/Cloneable") s)
    {cA : ClassId} {n : Nat} {f : Nat → Value} {ty : FieldType} (hArr : ArrOfT s cA ty) {cell : Cell} (hcell : H[a]? = some cell) (hcls : cell.cls = cA) (hst : ∀ k, cell.vm ≠ .statics k) (hun : cell.vm ≠ .unknown) (hsl : cell.slots = (arrV cA n f).slots) (hnm : s.vm.findClass ad = some cA) (hfit : ∀ (i : Nat) (v : Value), (arrV cA n f).slots[i]? = some v → fits ty v = true)
    (hframes : 1 ≤ R.frames) (hlocals : (rest.map fun v => v.category).sum + 14 ≤ R.locals) (hcells : cells + 1 ≤ R.cells) (hslots : slots + n ≤ R.slots) (hdg : decode cc pc = .ok (.invokevirtual index, 3))
    (kk : W p l e R s m args below meth c (H.push (arrV cA n f)) locs (cells + 1) (slots + n) Q (F0 m (pc + 3) ls (.ref H.size :: rest))) : W p l e R s m args below meth c H locs cells slots Q (F0 m pc ls (.ref a :: rest)) := by
  obtain ⟨c0, t0', f1, f2, f3⟩ := Cond.castable_spec (va_Nw.use (A := args) rfl hcl)
  cases hnm.symm.trans f1
  intro T hT X
  have hcellT : T.heap[a]? = some cell := by rw [hT]; exact hcell
  obtain ⟨-, kA, hkA, comp, hkind⟩ := State.isArrayOf_alike X.warmed.alike (hArr 0 (fun _ => .null))
  obtain ⟨-, kS, hkS, compS, hkindS⟩ := hArr 0 (fun _ => .null)
  obtain ⟨vm', X', st⟩ := X.cloneArray hexec hown hlink hsame hnat hinst hsel (a := a) (cell := cell) hcellT hst hun (by rw [hcls]; exact hnm) f2 (by rw [hcls]; exact f3)
    (fun i v hv => by
      rw [hsl] at hv
      rw [hcls]
      have hk' : T.vm.classes[cA]? = some kA := hkA
      simpa [State.fitsSlot, State.slotType?, hk', hkind] using hfit i v hv)
    (g := F0 m pc ls (.ref a :: rest)) rfl (by rw [hml]) rfl (by rw [hb]; exact hdg) hframes (by show 2 * 0 + _ + 14 ≤ _; omega) hcells (by rw [hsl, arrV_size]; exact hslots) (hloader := by rw [hcls]; exact Vm.clonesLoader_of_array hkS hkindS)
  have hce : ({ cls := cell.cls, slots := cell.slots } : Cell) = arrV cA n f := by rw [hcls, hsl]; rfl
  rw [hce, hsl, arrV_size] at X'
  obtain ⟨t, b1, b2⟩ := kk ((T.setVm vm').pushCell (arrV cA n f)) (by rw [← hT]; rfl) X'
  refine ⟨t, st t ?_, b2⟩
  rw [hce, hT]
  exact b1
end KCl
/-! ===== a step is right: what the interpreter does, the machine does ===== -/
section KST
def ezq_Wd (p : Program) (l : Launch) (e : Env) (R : Room) (s : State) (m : MethodId) (args : Array Value) (below : List Frame) (meth : Method) (c : Code) (Q : State → Prop) (ρ : ezq_E) (B : Nat) (xa : Nat → Option Nat) (Hb : Heap) (D : va_G) (cA : Nat → ClassId) (Hr : Heap) (nL pc : Nat) (ls : ezq_S) (st : List ezq_V) (sz : Nat) (t : ezq_T 7) (cl sl : Nat) : Prop :=
  ∀ (lsA : Array Slot) (H : Heap) (locs : List Loc), lv_has lsA nL (ezq_dl ρ B xa ls) → ezq_HR ρ B xa Hb D cA Hr sz t H → (∀ q ∈ locs, B ≤ q.base) → W p l e R s m args below meth c H locs cl sl Q (F0 m pc lsA (st.map (ezq_d ρ B xa)))
/-- a method is being run: its record, how deep calls may go below it, the room -/
def ezq_Act (p : Program) (R : Room) (s : State) (m : MethodId) (args : Array Value) (meth : Method) (c : Code) (ρ : ezq_E) (B : Nat) (xa : Nat → Option Nat) (Hb : Heap) (D : va_G) (cA : Nat → ClassId) (r : ezq_R) (d : Nat) : Prop :=
  p.tables.exec = Jvm.exec ∧ c.code = ezq_byt r.2.1 ∧ c.maxLocals = r.2.2.2.2.1 ∧ s.vm.findClass (ezq_cn r.2.2.1) = some m.cls ∧ (∀ w ∈ ezq_T0, w.before args s = true) ∧ ezq_K ρ B xa Hb D cA s ∧ (r.2.2.2.1.name = "<init>" → meth.name = "<init>") ∧ 1 + d ≤ R.frames ∧ 40 + d * 100 ≤ R.locals ∧ r.2.2.2.2.2.2.1 ≤ R.cells ∧ r.2.2.2.2.2.2.2 ≤ R.slots
theorem ezq_rbT {c : ClassFile.Cond} {x y : Int32} (h : match c with
  | .eq => x = y
  | .ne => ¬ x = y
  | .lt => x < y
  | .ge => y ≤ x
  | .gt => y < x
  | .le => x ≤ y) : ezq_rb c (ezq_off x) (ezq_off y) = true := by
  cases c with
  | eq =>
    show Nat.beq (ezq_off x) (ezq_off y) = true
    rw [show x = y from h]
    exact Nat.beq_refl _
  | ne =>
    show (!(Nat.beq (ezq_off x) (ezq_off y))) = true
    rw [ezq_beq, decide_eq_false (fun q => h (ezq_off_eq.mp q))]
    rfl
  | lt => exact Nat.ble_eq_true_of_le (ezq_off_ltI.mp h)
  | ge => exact Nat.ble_eq_true_of_le (ezq_off_leI.mp h)
  | gt => exact Nat.ble_eq_true_of_le (ezq_off_ltI.mp h)
  | le => exact Nat.ble_eq_true_of_le (ezq_off_leI.mp h)
theorem ezq_rbF {c : ClassFile.Cond} {x y : Int32} (h : ¬ match c with
  | .eq => x = y
  | .ne => ¬ x = y
  | .lt => x < y
  | .ge => y ≤ x
  | .gt => y < x
  | .le => x ≤ y) : ezq_rb c (ezq_off x) (ezq_off y) = false := by
  cases hb : ezq_rb c (ezq_off x) (ezq_off y)
  · rfl
  · refine absurd ?_ h
    cases c with
    | eq => exact ezq_off_eq.mp (Nat.eq_of_beq_eq_true hb)
    | ne =>
      intro q
      have hb : (!(Nat.beq (ezq_off x) (ezq_off y))) = true := hb
      rw [q, Nat.beq_refl] at hb
      cases hb
    | lt => exact ezq_off_ltI.mpr (Nat.le_of_ble_eq_true hb)
    | ge => exact ezq_off_leI.mpr (Nat.le_of_ble_eq_true hb)
    | gt => exact ezq_off_ltI.mpr (Nat.le_of_ble_eq_true hb)
    | le => exact ezq_off_leI.mpr (Nat.le_of_ble_eq_true hb)
/-- a table's jumps as a list's -/
theorem ezq_tab (lo df v : Int) (os : List Int) : ∀ j : Nat, Op.lookupswitch.offset ((os.zipIdx j).map fun q => (lo + (q.2 : Int), q.1)) df v = if lo + j ≤ v ∧ v < lo + j + os.length then os.getD (v - lo - j).toNat df else df := by
  induction os with
  | nil =>
    intro j
    rw [if_neg (by simp only [List.length_nil]; omega)]
    rfl
  | cons o r ih =>
    intro j
    rw [List.zipIdx_cons, List.map_cons, Op.lookupswitch.offset_cons, ih (j + 1)]
    by_cases e : lo + (j : Int) = v
    · rw [if_pos e, if_pos (by simp only [List.length_cons]; omega), show (v - lo - j).toNat = 0 by omega]
      rfl
    · rw [if_neg e]
      by_cases h : lo + (j : Int) ≤ v ∧ v < lo + j + (o :: r).length
      · simp only [List.length_cons] at h
        rw [if_pos (by omega), if_pos (by simp only [List.length_cons]; omega), show (v - lo - j).toNat = (v - lo - (j + 1 : Nat)).toNat + 1 by omega]
        rfl
      · simp only [List.length_cons] at h
        rw [if_neg (by omega), if_neg (by simp only [List.length_cons]; omega)]
set_option maxHeartbeats 40000000 in
set_option maxRecDepth 100000 in
theorem ezq_step_ok {Ω : Type} {bot : Ω} {T : Ω → Prop} (hbot : ¬ T bot) {p : Program} {l : Launch} {e : Env} {R : Room} {s : State} {m : MethodId} {args : Array Value} {below : List Frame} {meth : Method} {c : Code} {Q : State → Prop}
    {ρ : ezq_E} {B : Nat} {xa : Nat → Option Nat} {Hb : Heap} {D : va_G} {cA : Nat → ClassId} {Hr : Heap} {r : ezq_R} {d : Nat} (hAct : ezq_Act p R s m args meth c ρ B xa Hb D cA r d)
    {Γ : ezq_G} (hG : ezq_okG ρ Γ) {ee : ezq_Y} {pc : Nat} (hdg : decode (ezq_byt r.2.1) pc = .ok (ee.1, ee.2.1)) (hlk : ezq_lk r.2.2.1 r.2.2.2.2.1 (decide (r.2.2.2.1.name = "<init>")) pc ee = true) {ls : ezq_S} {st : List ezq_V} {sz : Nat} {t : ezq_T 7} {cl sl : Nat}
    {go : Nat → ezq_S → List ezq_V → Ω} {gh : Nat → List ezq_V → Nat → ezq_T 7 → Nat → Nat → Ω} {br : ClassFile.Cond → ezq_I → ezq_I → Nat → Nat → List ezq_V → Ω} {sw : List (Int × Int) → Int → ezq_I → List ezq_V → Ω} {ca : Ω} {re : Option ezq_V → Ω}
    (h : T (ezq_step bot Γ ee pc ls st sz t cl sl r.2.2.2.2.2.2.1 r.2.2.2.2.2.2.2 go gh br sw ca re))
    (hgo : ∀ pc' ls' st', T (go pc' ls' st') → ezq_Wd p l e R s m args below meth c Q ρ B xa Hb D cA Hr r.2.2.2.2.1 pc' ls' st' sz t cl sl)
    (hgh : ∀ pc' st' sz' t' cl' sl', T (gh pc' st' sz' t' cl' sl') → ezq_Wd p l e R s m args below meth c Q ρ B xa Hb D cA Hr r.2.2.2.2.1 pc' ls st' sz' t' cl' sl')
    (hbr : ∀ cc x y p1 p2 st', T (br cc x y p1 p2 st') → (ezq_rb cc (ezq_off (ezq_dI ρ x)) (ezq_off (ezq_dI ρ y)) = true → ezq_Wd p l e R s m args below meth c Q ρ B xa Hb D cA Hr r.2.2.2.2.1 p1 ls st' sz t cl sl) ∧ (ezq_rb cc (ezq_off (ezq_dI ρ x)) (ezq_off (ezq_dI ρ y)) = false → ezq_Wd p l e R s m args below meth c Q ρ B xa Hb D cA Hr r.2.2.2.2.1 p2 ls st' sz t cl sl))
    (hsw : ∀ ps df y st', ps.all (fun q => decide ((Int32.ofInt q.1).toInt = q.1)) = true → T (sw ps df y st') → ∃ tgt : Nat, (pc : Int) + Op.lookupswitch.offset ps df (ezq_dI ρ y).toInt = (tgt : Int) ∧ ezq_Wd p l e R s m args below meth c Q ρ B xa Hb D cA Hr r.2.2.2.2.1 tgt ls st' sz t cl sl)
    (hca : T ca → ((∃ k, ee.1 = .invokevirtual k) ∨ (∃ k, ee.1 = .invokespecial k) ∨ ∃ k, ee.1 = .invokestatic k) → ezq_Wd p l e R s m args below meth c Q ρ B xa Hb D cA Hr r.2.2.2.2.1 pc ls st sz t cl sl)
    (hre : ∀ v, T (re v) → st = v.toList → ((v = none ∧ ee.1 = .return_) ∨ (∃ a, v = some (.inl a) ∧ ee.1 = .ireturn) ∨ ∃ a, v = some (.inr (.inl a)) ∧ ee.1 = .lreturn) → ee.2.1 = 1 → ezq_Wd p l e R s m args below meth c Q ρ B xa Hb D cA Hr r.2.2.2.2.1 pc ls st sz t cl sl) :
    ezq_Wd p l e R s m args below meth c Q ρ B xa Hb D cA Hr r.2.2.2.2.1 pc ls st sz t cl sl := by
  obtain ⟨hx, hb, hml, hown, hts, hK, hnm, hR1, hR2, hRc, hRs⟩ := hAct
  have hK' := hK
  obtain ⟨hKn, hKa, hKw, hBs, hX0, hX1, hX2, hX4, hZ1, hZ2⟩ := hK'
  have hX0' := hX0
  obtain ⟨b0, L, g1, g2, g3, g4, g5, g6, g7⟩ := hX0'
  have gi : ∀ {pc' : Nat} {z : ezq_I} {rr : List ezq_V} {v : Int32} {lsA : Array Slot} {H : Heap} {locs : List Loc}, T (go pc' ls (.inl z :: rr)) → ezq_dI ρ z = v → lv_has lsA r.2.2.2.2.1 (ezq_dl ρ B xa ls) → ezq_HR ρ B xa Hb D cA Hr sz t H → (∀ q ∈ locs, B ≤ q.base) → W p l e R s m args below meth c H locs cl sl Q (F0 m pc' lsA (.int v :: rr.map (ezq_d ρ B xa))) := by
    intro pc' z rr v lsA H locs h1 h2 hl hH hL
    subst h2
    exact hgo _ _ _ h1 lsA H locs hl hH hL
  have gl : ∀ {pc' : Nat} {z : ezq_L} {rr : List ezq_V} {v : Int64} {lsA : Array Slot} {H : Heap} {locs : List Loc}, T (go pc' ls (.inr (.inl z) :: rr)) → ezq_dL ρ z = v → lv_has lsA r.2.2.2.2.1 (ezq_dl ρ B xa ls) → ezq_HR ρ B xa Hb D cA Hr sz t H → (∀ q ∈ locs, B ≤ q.base) → W p l e R s m args below meth c H locs cl sl Q (F0 m pc' lsA (.long v :: rr.map (ezq_d ρ B xa))) := by
    intro pc' z rr v lsA H locs h1 h2 hl hH hL
    subst h2
    exact hgo _ _ _ h1 lsA H locs hl hH hL
  have gv : ∀ {pc' : Nat} {z : ezq_V} {rr : List ezq_V} {v : Value} {lsA : Array Slot} {H : Heap} {locs : List Loc}, T (go pc' ls (z :: rr)) → ezq_d ρ B xa z = v → lv_has lsA r.2.2.2.2.1 (ezq_dl ρ B xa ls) → ezq_HR ρ B xa Hb D cA Hr sz t H → (∀ q ∈ locs, B ≤ q.base) → W p l e R s m args below meth c H locs cl sl Q (F0 m pc' lsA (v :: rr.map (ezq_d ρ B xa))) := by
    intro pc' z rr v lsA H locs h1 h2 hl hH hL
    subst h2
    exact hgo _ _ _ h1 lsA H locs hl hH hL
  obtain ⟨i, n, a, b, kd, dd, x⟩ := ee
  replace hdg : decode (ezq_byt r.2.1) pc = .ok (i, n) := hdg
  cases i
  case iconst v0 =>
    replace hlk : (Nat.beq n 1 && decide (Int32.ofInt v0 = Int32.ofNat a)) = true := hlk
    simp only [Bool.and_eq_true, decide_eq_true_eq] at hlk
    obtain ⟨hn, hlk⟩ := hlk
    obtain rfl := Nat.eq_of_beq_eq_true hn
    have h_1 : T (go (pc + 1) ls (.inl (.inl a) :: st)) := h
    intro lsA H locs hl hH hL
    exact lv_iconst hx hb hdg hlk (gi h_1 rfl hl hH hL)
  case bipush v0 =>
    replace hlk : (Nat.beq n 2 && decide ((Int8.ofInt v0).toInt32 = Int32.ofNat a)) = true := hlk
    simp only [Bool.and_eq_true, decide_eq_true_eq] at hlk
    obtain ⟨hn, hlk⟩ := hlk
    obtain rfl := Nat.eq_of_beq_eq_true hn
    have h_2 : T (go (pc + 2) ls (.inl (.inl a) :: st)) := h
    intro lsA H locs hl hH hL
    exact lv_bipush hx hb hdg hlk (gi h_2 rfl hl hH hL)
  case sipush v0 =>
    replace hlk : (Nat.beq n 3 && decide ((Int16.ofInt v0).toInt32 = Int32.ofNat a)) = true := hlk
    simp only [Bool.and_eq_true, decide_eq_true_eq] at hlk
    obtain ⟨hn, hlk⟩ := hlk
    obtain rfl := Nat.eq_of_beq_eq_true hn
    have h_3 : T (go (pc + 3) ls (.inl (.inl a) :: st)) := h
    intro lsA H locs hl hH hL
    exact lv_sipush hx hb hdg hlk (gi h_3 rfl hl hH hL)
  case lconst v0 =>
    replace hlk : (Nat.beq n 1 && decide (Int64.ofNat v0.val = Int64.ofNat a)) = true := hlk
    simp only [Bool.and_eq_true, decide_eq_true_eq] at hlk
    obtain ⟨hn, hlk⟩ := hlk
    obtain rfl := Nat.eq_of_beq_eq_true hn
    have h_4 : T (go (pc + 1) ls (.inr (.inl (.inl a)) :: st)) := h
    intro lsA H locs hl hH hL
    exact lv_lconst hx hb hdg hlk (gl h_4 rfl hl hH hL)
  case iload_n k0 =>
    replace hlk : (Nat.beq n 1 && Nat.beq k0.val a) = true := hlk
    simp only [Bool.and_eq_true, decide_eq_true_eq] at hlk
    obtain ⟨hn, hlk⟩ := hlk
    obtain rfl := Nat.eq_of_beq_eq_true hn
    replace hlk := Nat.eq_of_beq_eq_true hlk
    have h_5 : T (ezq_lo bot ls a fun v => ezq_i1 bot [v] fun y _ => go (pc + 1) ls (.inl (ezq_nm Γ y) :: st)) := h
    obtain ⟨v, hv, h_6⟩ := ezq_lo_ok hbot h_5
    obtain ⟨y, r2, e1, h_7⟩ := ezq_i1_ok hbot h_6
    obtain ⟨rfl, -⟩ := List.cons.inj e1
    intro lsA H locs hl hH hL
    exact lv_iload_n hx hb hdg hlk (x := ezq_dI ρ y) (hl.2.2 _ (ezq_dl_mem hv)) (gi h_7 (ezq_nm_d hG y) hl hH hL)
  case lload_n k0 =>
    replace hlk : (Nat.beq n 1 && Nat.beq k0.val a) = true := hlk
    simp only [Bool.and_eq_true, decide_eq_true_eq] at hlk
    obtain ⟨hn, hlk⟩ := hlk
    obtain rfl := Nat.eq_of_beq_eq_true hn
    replace hlk := Nat.eq_of_beq_eq_true hlk
    have h_8 : T (ezq_lo bot ls a fun v => ezq_j1 bot [v] fun y _ => go (pc + 1) ls (.inr (.inl y) :: st)) := h
    obtain ⟨v, hv, h_9⟩ := ezq_lo_ok hbot h_8
    obtain ⟨y, r2, e1, h_10⟩ := ezq_j1_ok hbot h_9
    obtain ⟨rfl, -⟩ := List.cons.inj e1
    intro lsA H locs hl hH hL
    exact lv_lload_n hx hb hdg hlk (x := ezq_dL ρ y) (hl.2.2 _ (ezq_dl_mem hv)) (gl h_10 rfl hl hH hL)
  case aload_n k0 =>
    replace hlk : (Nat.beq n 1 && Nat.beq k0.val a) = true := hlk
    simp only [Bool.and_eq_true, decide_eq_true_eq] at hlk
    obtain ⟨hn, hlk⟩ := hlk
    obtain rfl := Nat.eq_of_beq_eq_true hn
    replace hlk := Nat.eq_of_beq_eq_true hlk
    have h_11 : T (ezq_lo bot ls a fun v => ezq_p1 bot [v] fun y _ => go (pc + 1) ls (.inr (.inr y) :: st)) := h
    obtain ⟨v, hv, h_12⟩ := ezq_lo_ok hbot h_11
    obtain ⟨y, r2, e1, h_13⟩ := ezq_p1_ok hbot h_12
    obtain ⟨rfl, -⟩ := List.cons.inj e1
    intro lsA H locs hl hH hL
    have hq : lsA[a]? = some (.val (ezq_dP B xa y)) := hl.2.2 _ (ezq_dl_mem hv)
    rcases ezq_dP_ref (B := B) (xa := xa) y with hp | ⟨w, hp⟩
    · rw [hp] at hq
      exact lv_aload_nN hx hb hdg hlk hq (gv h_13 hp hl hH hL)
    · rw [hp] at hq
      exact lv_aload_n hx hb hdg hlk hq (gv h_13 hp hl hH hL)
  case istore_n k0 =>
    replace hlk : (Nat.beq n 1 && (Nat.beq k0.val a && Nat.blt a r.2.2.2.2.1)) = true := hlk
    simp only [Bool.and_eq_true, decide_eq_true_eq] at hlk
    obtain ⟨hn, hlk⟩ := hlk
    obtain rfl := Nat.eq_of_beq_eq_true hn
    obtain ⟨hlk, hlm⟩ := hlk
    replace hlk := Nat.eq_of_beq_eq_true hlk
    replace hlm := ezq_bltT hlm
    have h_14 : T (ezq_i1 bot st fun y r => ezq_sto a (.inl y) ls fun l => go (pc + 1) l r) := h
    obtain ⟨y, rr, rfl, h_15⟩ := ezq_i1_ok hbot h_14
    have h_16 := ezq_sto1_ok rfl h_15
    intro lsA H locs hl hH hL
    exact lv_istore_n (lv' := ezq_dl ρ B xa ((a, .inl y) :: ls.filter (ezq_f1 a))) hx hb hdg hlk hl hlm (by rw [ezq_dl_f1]; rfl) (fun lsB hlB => hgo _ _ _ h_16 lsB H locs hlB hH hL)
  case lstore_n k0 =>
    replace hlk : (Nat.beq n 1 && (Nat.beq k0.val a && Nat.blt (a + 1) r.2.2.2.2.1)) = true := hlk
    simp only [Bool.and_eq_true, decide_eq_true_eq] at hlk
    obtain ⟨hn, hlk⟩ := hlk
    obtain rfl := Nat.eq_of_beq_eq_true hn
    obtain ⟨hlk, hlm⟩ := hlk
    replace hlk := Nat.eq_of_beq_eq_true hlk
    replace hlm := ezq_bltT hlm
    have h_17 : T (ezq_j1 bot st fun y r => ezq_sto a (.inr <| .inl <| y) ls fun l => go (pc + 1) l r) := h
    obtain ⟨y, rr, rfl, h_18⟩ := ezq_j1_ok hbot h_17
    have h_19 := ezq_sto2_ok rfl h_18
    intro lsA H locs hl hH hL
    exact lv_lstore_n (lv' := ezq_dl ρ B xa ((a, .inr (.inl y)) :: ls.filter (ezq_f2 a))) hx hb hdg hlk hl hlm (by rw [ezq_dl_f2]; rfl) (fun lsB hlB => hgo _ _ _ h_19 lsB H locs hlB hH hL)
  case astore_n k0 =>
    replace hlk : (Nat.beq n 1 && (Nat.beq k0.val a && Nat.blt a r.2.2.2.2.1)) = true := hlk
    simp only [Bool.and_eq_true, decide_eq_true_eq] at hlk
    obtain ⟨hn, hlk⟩ := hlk
    obtain rfl := Nat.eq_of_beq_eq_true hn
    obtain ⟨hlk, hlm⟩ := hlk
    replace hlk := Nat.eq_of_beq_eq_true hlk
    replace hlm := ezq_bltT hlm
    have h_20 : T (ezq_p1 bot st fun y r => ezq_sto a (.inr <| .inr <| y) ls fun l => go (pc + 1) l r) := h
    obtain ⟨y, rr, rfl, h_21⟩ := ezq_p1_ok hbot h_20
    have h_22 := ezq_sto1_ok rfl h_21
    intro lsA H locs hl hH hL
    rcases ezq_dP_ref (B := B) (xa := xa) y with hp | ⟨w, hp⟩
    · show W p l e R s m args below meth c H locs cl sl Q (F0 m pc lsA (ezq_dP B xa y :: rr.map (ezq_d ρ B xa)))
      rw [hp]
      exact lv_astore_nN (lv' := ezq_dl ρ B xa ((a, .inr (.inr y)) :: ls.filter (ezq_f1 a))) hx hb hdg hlk hl hlm (by rw [ezq_dl_f1, ← hp]; rfl) (fun lsB hlB => hgo _ _ _ h_22 lsB H locs hlB hH hL)
    · show W p l e R s m args below meth c H locs cl sl Q (F0 m pc lsA (ezq_dP B xa y :: rr.map (ezq_d ρ B xa)))
      rw [hp]
      exact lv_astore_n (lv' := ezq_dl ρ B xa ((a, .inr (.inr y)) :: ls.filter (ezq_f1 a))) hx hb hdg hlk hl hlm (by rw [ezq_dl_f1, ← hp]; rfl) (fun lsB hlB => hgo _ _ _ h_22 lsB H locs hlB hH hL)
  case iload k0 =>
    replace hlk : (Nat.beq n 2 && Nat.beq k0 a) = true := hlk
    simp only [Bool.and_eq_true, decide_eq_true_eq] at hlk
    obtain ⟨hn, hlk⟩ := hlk
    obtain rfl := Nat.eq_of_beq_eq_true hn
    replace hlk := Nat.eq_of_beq_eq_true hlk
    obtain rfl := hlk
    have h_23 : T (ezq_lo bot ls k0 fun v => ezq_i1 bot [v] fun y _ => go (pc + 2) ls (.inl (ezq_nm Γ y) :: st)) := h
    obtain ⟨v, hv, h_24⟩ := ezq_lo_ok hbot h_23
    obtain ⟨y, r2, e1, h_25⟩ := ezq_i1_ok hbot h_24
    obtain ⟨rfl, -⟩ := List.cons.inj e1
    intro lsA H locs hl hH hL
    exact lv_iload hx hb hdg (x := ezq_dI ρ y) (hl.2.2 _ (ezq_dl_mem hv)) (gi h_25 (ezq_nm_d hG y) hl hH hL)
  case lload k0 =>
    replace hlk : (Nat.beq n 2 && Nat.beq k0 a) = true := hlk
    simp only [Bool.and_eq_true, decide_eq_true_eq] at hlk
    obtain ⟨hn, hlk⟩ := hlk
    obtain rfl := Nat.eq_of_beq_eq_true hn
    replace hlk := Nat.eq_of_beq_eq_true hlk
    obtain rfl := hlk
    have h_26 : T (ezq_lo bot ls k0 fun v => ezq_j1 bot [v] fun y _ => go (pc + 2) ls (.inr (.inl y) :: st)) := h
    obtain ⟨v, hv, h_27⟩ := ezq_lo_ok hbot h_26
    obtain ⟨y, r2, e1, h_28⟩ := ezq_j1_ok hbot h_27
    obtain ⟨rfl, -⟩ := List.cons.inj e1
    intro lsA H locs hl hH hL
    exact lv_lload hx hb hdg (x := ezq_dL ρ y) (hl.2.2 _ (ezq_dl_mem hv)) (gl h_28 rfl hl hH hL)
  case aload k0 =>
    replace hlk : (Nat.beq n 2 && Nat.beq k0 a) = true := hlk
    simp only [Bool.and_eq_true, decide_eq_true_eq] at hlk
    obtain ⟨hn, hlk⟩ := hlk
    obtain rfl := Nat.eq_of_beq_eq_true hn
    replace hlk := Nat.eq_of_beq_eq_true hlk
    obtain rfl := hlk
    have h_29 : T (ezq_lo bot ls k0 fun v => ezq_p1 bot [v] fun y _ => go (pc + 2) ls (.inr (.inr y) :: st)) := h
    obtain ⟨v, hv, h_30⟩ := ezq_lo_ok hbot h_29
    obtain ⟨y, r2, e1, h_31⟩ := ezq_p1_ok hbot h_30
    obtain ⟨rfl, -⟩ := List.cons.inj e1
    intro lsA H locs hl hH hL
    have hq : lsA[k0]? = some (.val (ezq_dP B xa y)) := hl.2.2 _ (ezq_dl_mem hv)
    rcases ezq_dP_ref (B := B) (xa := xa) y with hp | ⟨w, hp⟩
    · rw [hp] at hq
      exact lv_aloadN hx hb hdg hq (gv h_31 hp hl hH hL)
    · rw [hp] at hq
      exact lv_aload hx hb hdg hq (gv h_31 hp hl hH hL)
  case istore k0 =>
    replace hlk : (Nat.beq n 2 && (Nat.beq k0 a && Nat.blt a r.2.2.2.2.1)) = true := hlk
    simp only [Bool.and_eq_true, decide_eq_true_eq] at hlk
    obtain ⟨hn, hlk⟩ := hlk
    obtain rfl := Nat.eq_of_beq_eq_true hn
    obtain ⟨hlk, hlm⟩ := hlk
    replace hlk := Nat.eq_of_beq_eq_true hlk
    replace hlm := ezq_bltT hlm
    obtain rfl := hlk
    have h_32 : T (ezq_i1 bot st fun y r => ezq_sto k0 (.inl y) ls fun l => go (pc + 2) l r) := h
    obtain ⟨y, rr, rfl, h_33⟩ := ezq_i1_ok hbot h_32
    have h_34 := ezq_sto1_ok rfl h_33
    intro lsA H locs hl hH hL
    exact lv_istore (lv' := ezq_dl ρ B xa ((k0, .inl y) :: ls.filter (ezq_f1 k0))) hx hb hdg hl hlm (by rw [ezq_dl_f1]; rfl) (fun lsB hlB => hgo _ _ _ h_34 lsB H locs hlB hH hL)
  case lstore k0 =>
    replace hlk : (Nat.beq n 2 && (Nat.beq k0 a && Nat.blt (a + 1) r.2.2.2.2.1)) = true := hlk
    simp only [Bool.and_eq_true, decide_eq_true_eq] at hlk
    obtain ⟨hn, hlk⟩ := hlk
    obtain rfl := Nat.eq_of_beq_eq_true hn
    obtain ⟨hlk, hlm⟩ := hlk
    replace hlk := Nat.eq_of_beq_eq_true hlk
    replace hlm := ezq_bltT hlm
    obtain rfl := hlk
    have h_35 : T (ezq_j1 bot st fun y r => ezq_sto k0 (.inr <| .inl <| y) ls fun l => go (pc + 2) l r) := h
    obtain ⟨y, rr, rfl, h_36⟩ := ezq_j1_ok hbot h_35
    have h_37 := ezq_sto2_ok rfl h_36
    intro lsA H locs hl hH hL
    exact lv_lstore (lv' := ezq_dl ρ B xa ((k0, .inr (.inl y)) :: ls.filter (ezq_f2 k0))) hx hb hdg hl hlm (by rw [ezq_dl_f2]; rfl) (fun lsB hlB => hgo _ _ _ h_37 lsB H locs hlB hH hL)
  case astore k0 =>
    replace hlk : (Nat.beq n 2 && (Nat.beq k0 a && Nat.blt a r.2.2.2.2.1)) = true := hlk
    simp only [Bool.and_eq_true, decide_eq_true_eq] at hlk
    obtain ⟨hn, hlk⟩ := hlk
    obtain rfl := Nat.eq_of_beq_eq_true hn
    obtain ⟨hlk, hlm⟩ := hlk
    replace hlk := Nat.eq_of_beq_eq_true hlk
    replace hlm := ezq_bltT hlm
    obtain rfl := hlk
    have h_38 : T (ezq_p1 bot st fun y r => ezq_sto k0 (.inr <| .inr <| y) ls fun l => go (pc + 2) l r) := h
    obtain ⟨y, rr, rfl, h_39⟩ := ezq_p1_ok hbot h_38
    have h_40 := ezq_sto1_ok rfl h_39
    intro lsA H locs hl hH hL
    rcases ezq_dP_ref (B := B) (xa := xa) y with hp | ⟨w, hp⟩
    · show W p l e R s m args below meth c H locs cl sl Q (F0 m pc lsA (ezq_dP B xa y :: rr.map (ezq_d ρ B xa)))
      rw [hp]
      exact lv_astoreN (lv' := ezq_dl ρ B xa ((k0, .inr (.inr y)) :: ls.filter (ezq_f1 k0))) hx hb hdg hl hlm (by rw [ezq_dl_f1, ← hp]; rfl) (fun lsB hlB => hgo _ _ _ h_40 lsB H locs hlB hH hL)
    · show W p l e R s m args below meth c H locs cl sl Q (F0 m pc lsA (ezq_dP B xa y :: rr.map (ezq_d ρ B xa)))
      rw [hp]
      exact lv_astore (lv' := ezq_dl ρ B xa ((k0, .inr (.inr y)) :: ls.filter (ezq_f1 k0))) hx hb hdg hl hlm (by rw [ezq_dl_f1, ← hp]; rfl) (fun lsB hlB => hgo _ _ _ h_40 lsB H locs hlB hH hL)
  case iinc k0 v0 =>
    replace hlk : (Nat.beq n 3 && (Nat.beq k0 a && (decide (Int32.ofInt v0 = Int32.ofNat b) && Nat.blt a r.2.2.2.2.1))) = true := hlk
    simp only [Bool.and_eq_true, decide_eq_true_eq] at hlk
    obtain ⟨hn, hlk⟩ := hlk
    obtain rfl := Nat.eq_of_beq_eq_true hn
    obtain ⟨hk, hv0, hlm⟩ := hlk
    obtain rfl := Nat.eq_of_beq_eq_true hk
    replace hlm := ezq_bltT hlm
    have h_41 : T (ezq_lo bot ls k0 fun v => ezq_i1 bot [v] fun y _ => ezq_fi (ezq_o2 (fun x y => x + y) y (.inl b)) fun z => ezq_sto k0 (.inl z) ls fun l => go (pc + 3) l st) := h
    obtain ⟨v, hv, h_42⟩ := ezq_lo_ok hbot h_41
    obtain ⟨y, r2, e1, h_43⟩ := ezq_i1_ok hbot h_42
    obtain ⟨rfl, -⟩ := List.cons.inj e1
    rw [ezq_fi_eq] at h_43
    have h_44 := ezq_sto1_ok rfl h_43
    intro lsA H locs hl hH hL
    obtain ⟨kk, hkk⟩ := List.getElem?_of_mem (ezq_dl_mem (ρ := ρ) (B := B) (xa := xa) hv)
    exact lv_iinc (v := ezq_dI ρ (ezq_o2 (fun x y => x + y) y (.inl b))) (x := ezq_dI ρ y) (lv' := ezq_dl ρ B xa ((k0, .inl (ezq_o2 (fun x y => x + y) y (.inl b))) :: ls.filter (ezq_f1 k0))) hx hb hdg hl hkk (by rw [ezq_o2_d, hv0]; rfl) hlm (by rw [ezq_dl_f1]; rfl) (fun lsB hlB => hgo _ _ _ h_44 lsB H locs hlB hH hL)
  case iadd =>
    obtain rfl := Nat.eq_of_beq_eq_true (show Nat.beq n 1 = true from hlk)
    have h_45 : T (ezq_b2 bot (fun x y => x + y) st fun z r => go (pc + 1) ls (.inl z :: r)) := h
    obtain ⟨y, x, rr, rfl, h_46⟩ := ezq_b2_ok hbot h_45
    intro lsA H locs hl hH hL
    exact lv_iadd hx hb hdg (gi h_46 (ezq_o2_d _ _ _) hl hH hL)
  case imul =>
    obtain rfl := Nat.eq_of_beq_eq_true (show Nat.beq n 1 = true from hlk)
    have h_47 : T (ezq_b2 bot (fun x y => x * y) st fun z r => go (pc + 1) ls (.inl z :: r)) := h
    obtain ⟨y, x, rr, rfl, h_48⟩ := ezq_b2_ok hbot h_47
    intro lsA H locs hl hH hL
    exact lv_imul hx hb hdg (gi h_48 (ezq_o2_d _ _ _) hl hH hL)
  case ior =>
    obtain rfl := Nat.eq_of_beq_eq_true (show Nat.beq n 1 = true from hlk)
    have h_49 : T (ezq_b2 bot (fun x y => x ||| y) st fun z r => go (pc + 1) ls (.inl z :: r)) := h
    obtain ⟨y, x, rr, rfl, h_50⟩ := ezq_b2_ok hbot h_49
    intro lsA H locs hl hH hL
    exact lv_ior hx hb hdg (gi h_50 (ezq_o2_d _ _ _) hl hH hL)
  case ixor =>
    obtain rfl := Nat.eq_of_beq_eq_true (show Nat.beq n 1 = true from hlk)
    have h_51 : T (ezq_b2 bot (fun x y => x ^^^ y) st fun z r => go (pc + 1) ls (.inl z :: r)) := h
    obtain ⟨y, x, rr, rfl, h_52⟩ := ezq_b2_ok hbot h_51
    intro lsA H locs hl hH hL
    exact lv_ixor hx hb hdg (gi h_52 (ezq_o2_d _ _ _) hl hH hL)
  case ishl =>
    obtain rfl := Nat.eq_of_beq_eq_true (show Nat.beq n 1 = true from hlk)
    have h_53 : T (ezq_b2 bot (fun x y => x <<< (y &&& 31)) st fun z r => go (pc + 1) ls (.inl z :: r)) := h
    obtain ⟨y, x, rr, rfl, h_54⟩ := ezq_b2_ok hbot h_53
    intro lsA H locs hl hH hL
    exact lv_ishl hx hb hdg (gi h_54 (ezq_o2_d _ _ _) hl hH hL)
  case ishr =>
    obtain rfl := Nat.eq_of_beq_eq_true (show Nat.beq n 1 = true from hlk)
    have h_55 : T (ezq_b2 bot (fun x y => x >>> (y &&& 31)) st fun z r => go (pc + 1) ls (.inl z :: r)) := h
    obtain ⟨y, x, rr, rfl, h_56⟩ := ezq_b2_ok hbot h_55
    intro lsA H locs hl hH hL
    exact lv_ishr hx hb hdg (gi h_56 (ezq_o2_d _ _ _) hl hH hL)
  case iushr =>
    obtain rfl := Nat.eq_of_beq_eq_true (show Nat.beq n 1 = true from hlk)
    have h_57 : T (ezq_b2 bot (fun x y => (x.toUInt32 >>> (y.toUInt32 &&& Int32.toUInt32 31)).toInt32) st fun z r => go (pc + 1) ls (.inl z :: r)) := h
    obtain ⟨y, x, rr, rfl, h_58⟩ := ezq_b2_ok hbot h_57
    intro lsA H locs hl hH hL
    exact lv_iushr hx hb hdg rfl (gi h_58 (ezq_o2_d _ _ _) hl hH hL)
  case isub =>
    obtain rfl := Nat.eq_of_beq_eq_true (show Nat.beq n 1 = true from hlk)
    have h_59 : T (ezq_i1 bot st fun y r => ezq_i1 bot r fun x r => ezq_fi (ezq_sub x y) fun z => go (pc + 1) ls (.inl z :: r)) := h
    obtain ⟨y, rr, rfl, h_60⟩ := ezq_i1_ok hbot h_59
    obtain ⟨x, rr, rfl, h_61⟩ := ezq_i1_ok hbot h_60
    rw [ezq_fi_eq] at h_61
    intro lsA H locs hl hH hL
    exact lv_isub hx hb hdg (gi h_61 (ezq_sub_d g4 _ _) hl hH hL)
  case iand =>
    obtain rfl := Nat.eq_of_beq_eq_true (show Nat.beq n 1 = true from hlk)
    have h_62 : T (ezq_i1 bot st fun y r => ezq_i1 bot r fun x r => ezq_fi (ezq_nm Γ (ezq_and x y)) fun z => go (pc + 1) ls (.inl z :: r)) := h
    obtain ⟨y, rr, rfl, h_63⟩ := ezq_i1_ok hbot h_62
    obtain ⟨x, rr, rfl, h_64⟩ := ezq_i1_ok hbot h_63
    rw [ezq_fi_eq] at h_64
    intro lsA H locs hl hH hL
    exact lv_iand hx hb hdg (gi h_64 ((ezq_nm_d hG _).trans (ezq_and_d g5 _ _)) hl hH hL)
  case idiv =>
    obtain rfl := Nat.eq_of_beq_eq_true (show Nat.beq n 1 = true from hlk)
    have h_65 : T (ezq_div bot (fun x y => x / y) st fun z r => go (pc + 1) ls (.inl z :: r)) := h
    obtain ⟨y, x, rr, rfl, hne, h_66⟩ := ezq_div_ok hbot h_65
    intro lsA H locs hl hH hL
    exact lv_idiv hx hb hdg hne (gi h_66 (ezq_o2_d _ _ _) hl hH hL)
  case irem =>
    obtain rfl := Nat.eq_of_beq_eq_true (show Nat.beq n 1 = true from hlk)
    have h_67 : T (ezq_div bot (fun x y => x - x / y * y) st fun z r => go (pc + 1) ls (.inl z :: r)) := h
    obtain ⟨y, x, rr, rfl, hne, h_68⟩ := ezq_div_ok hbot h_67
    intro lsA H locs hl hH hL
    exact lv_irem hx hb hdg hne (gi h_68 (ezq_o2_d _ _ _) hl hH hL)
  case ineg =>
    obtain rfl := Nat.eq_of_beq_eq_true (show Nat.beq n 1 = true from hlk)
    have h_69 : T (ezq_i1 bot st fun y r => ezq_fi (ezq_o1 (fun x => -x) y) fun z => go (pc + 1) ls (.inl z :: r)) := h
    obtain ⟨y, rr, rfl, h_70⟩ := ezq_i1_ok hbot h_69
    rw [ezq_fi_eq] at h_70
    intro lsA H locs hl hH hL
    exact lv_ineg hx hb hdg (gi h_70 (ezq_o1_d _ _) hl hH hL)
  case i2l =>
    obtain rfl := Nat.eq_of_beq_eq_true (show Nat.beq n 1 = true from hlk)
    have h_71 : T (ezq_i1 bot st fun y r => ezq_fl (ezq_i2l y) fun z => go (pc + 1) ls (.inr (.inl z) :: r)) := h
    obtain ⟨y, rr, rfl, h_72⟩ := ezq_i1_ok hbot h_71
    rw [ezq_fl_eq] at h_72
    intro lsA H locs hl hH hL
    exact lv_i2l hx hb hdg rfl (gl h_72 (ezq_i2l_d _) hl hH hL)
  case i2b =>
    obtain rfl := Nat.eq_of_beq_eq_true (show Nat.beq n 1 = true from hlk)
    have h_73 : T (ezq_i1 bot st fun y r => ezq_fi (ezq_o1 (fun x => x.toInt8.toInt32) y) fun z => go (pc + 1) ls (.inl z :: r)) := h
    obtain ⟨y, rr, rfl, h_74⟩ := ezq_i1_ok hbot h_73
    rw [ezq_fi_eq] at h_74
    intro lsA H locs hl hH hL
    exact lv_i2b hx hb hdg rfl (gi h_74 (ezq_o1_d _ _) hl hH hL)
  case i2c =>
    obtain rfl := Nat.eq_of_beq_eq_true (show Nat.beq n 1 = true from hlk)
    have h_75 : T (ezq_i1 bot st fun y r => ezq_fi (ezq_o1 (fun x => (x.toUInt32 % 65536).toInt32) y) fun z => go (pc + 1) ls (.inl z :: r)) := h
    obtain ⟨y, rr, rfl, h_76⟩ := ezq_i1_ok hbot h_75
    rw [ezq_fi_eq] at h_76
    intro lsA H locs hl hH hL
    exact lv_i2c hx hb hdg rfl (gi h_76 (ezq_o1_d _ _) hl hH hL)
  case l2i =>
    obtain rfl := Nat.eq_of_beq_eq_true (show Nat.beq n 1 = true from hlk)
    have h_77 : T (ezq_j1 bot st fun y r => ezq_fi (ezq_li (fun x => x.toInt32) y) fun z => go (pc + 1) ls (.inl z :: r)) := h
    obtain ⟨y, rr, rfl, h_78⟩ := ezq_j1_ok hbot h_77
    rw [ezq_fi_eq] at h_78
    intro lsA H locs hl hH hL
    exact lv_l2i hx hb hdg rfl (gi h_78 (ezq_li_d _ _) hl hH hL)
  case lcmp =>
    obtain rfl := Nat.eq_of_beq_eq_true (show Nat.beq n 1 = true from hlk)
    have h_79 : T (ezq_j1 bot st fun y r => ezq_j1 bot r fun x r => ezq_fi (ezq_lli lg_cmp x y) fun z => go (pc + 1) ls (.inl z :: r)) := h
    obtain ⟨y, rr, rfl, h_80⟩ := ezq_j1_ok hbot h_79
    obtain ⟨x, rr, rfl, h_81⟩ := ezq_j1_ok hbot h_80
    rw [ezq_fi_eq] at h_81
    intro lsA H locs hl hH hL
    exact W.lcmp hx hb hdg (gi h_81 (ezq_lli_d _ _ _) hl hH hL)
  case ladd =>
    obtain rfl := Nat.eq_of_beq_eq_true (show Nat.beq n 1 = true from hlk)
    have h_82 : T (ezq_bl bot (fun x y => x + y) st fun z r => go (pc + 1) ls (.inr (.inl z) :: r)) := h
    obtain ⟨y, x, rr, rfl, h_83⟩ := ezq_bl_ok hbot h_82
    intro lsA H locs hl hH hL
    exact lv_ladd hx hb hdg (gl h_83 (ezq_l2_d _ _ _) hl hH hL)
  case lsub =>
    obtain rfl := Nat.eq_of_beq_eq_true (show Nat.beq n 1 = true from hlk)
    have h_84 : T (ezq_bl bot (fun x y => x - y) st fun z r => go (pc + 1) ls (.inr (.inl z) :: r)) := h
    obtain ⟨y, x, rr, rfl, h_85⟩ := ezq_bl_ok hbot h_84
    intro lsA H locs hl hH hL
    exact lv_lsub hx hb hdg (gl h_85 (ezq_l2_d _ _ _) hl hH hL)
  case lmul =>
    obtain rfl := Nat.eq_of_beq_eq_true (show Nat.beq n 1 = true from hlk)
    have h_86 : T (ezq_bl bot (fun x y => x * y) st fun z r => go (pc + 1) ls (.inr (.inl z) :: r)) := h
    obtain ⟨y, x, rr, rfl, h_87⟩ := ezq_bl_ok hbot h_86
    intro lsA H locs hl hH hL
    exact lv_lmul hx hb hdg (gl h_87 (ezq_l2_d _ _ _) hl hH hL)
  case lxor =>
    obtain rfl := Nat.eq_of_beq_eq_true (show Nat.beq n 1 = true from hlk)
    have h_88 : T (ezq_bl bot (fun x y => x ^^^ y) st fun z r => go (pc + 1) ls (.inr (.inl z) :: r)) := h
    obtain ⟨y, x, rr, rfl, h_89⟩ := ezq_bl_ok hbot h_88
    intro lsA H locs hl hH hL
    exact lv_lxor hx hb hdg (gl h_89 (ezq_l2_d _ _ _) hl hH hL)
  case ldiv =>
    obtain rfl := Nat.eq_of_beq_eq_true (show Nat.beq n 1 = true from hlk)
    have h_90 : T (ezq_ldv bot (fun x y => x / y) st fun z r => go (pc + 1) ls (.inr (.inl z) :: r)) := h
    obtain ⟨y, x, rr, rfl, hne, h_91⟩ := ezq_ldv_ok hbot h_90
    intro lsA H locs hl hH hL
    exact lv_ldiv hx hb hdg hne (gl h_91 (ezq_l2_d _ _ _) hl hH hL)
  case lrem =>
    obtain rfl := Nat.eq_of_beq_eq_true (show Nat.beq n 1 = true from hlk)
    have h_92 : T (ezq_ldv bot (fun x y => x - x / y * y) st fun z r => go (pc + 1) ls (.inr (.inl z) :: r)) := h
    obtain ⟨y, x, rr, rfl, hne, h_93⟩ := ezq_ldv_ok hbot h_92
    intro lsA H locs hl hH hL
    exact lv_lrem hx hb hdg hne (gl h_93 (ezq_l2_d _ _ _) hl hH hL)
  case land =>
    obtain rfl := Nat.eq_of_beq_eq_true (show Nat.beq n 1 = true from hlk)
    have h_94 : T (ezq_j1 bot st fun y r => ezq_j1 bot r fun x r => ezq_fl (ezq_lan x y) fun z => go (pc + 1) ls (.inr (.inl z) :: r)) := h
    obtain ⟨y, rr, rfl, h_95⟩ := ezq_j1_ok hbot h_94
    obtain ⟨x, rr, rfl, h_96⟩ := ezq_j1_ok hbot h_95
    rw [ezq_fl_eq] at h_96
    intro lsA H locs hl hH hL
    exact lv_land hx hb hdg (gl h_96 (ezq_lan_d _ _) hl hH hL)
  case lor =>
    obtain rfl := Nat.eq_of_beq_eq_true (show Nat.beq n 1 = true from hlk)
    have h_97 : T (ezq_j1 bot st fun y r => ezq_j1 bot r fun x r => ezq_fl (ezq_lor x y) fun z => go (pc + 1) ls (.inr (.inl z) :: r)) := h
    obtain ⟨y, rr, rfl, h_98⟩ := ezq_j1_ok hbot h_97
    obtain ⟨x, rr, rfl, h_99⟩ := ezq_j1_ok hbot h_98
    rw [ezq_fl_eq] at h_99
    intro lsA H locs hl hH hL
    exact lv_lor hx hb hdg (gl h_99 (ezq_lor_d _ _) hl hH hL)
  case lshl =>
    obtain rfl := Nat.eq_of_beq_eq_true (show Nat.beq n 1 = true from hlk)
    have h_100 : T (ezq_i1 bot st fun y r => ezq_j1 bot r fun x r => ezq_fl (ezq_shl x y) fun z => go (pc + 1) ls (.inr (.inl z) :: r)) := h
    obtain ⟨y, rr, rfl, h_101⟩ := ezq_i1_ok hbot h_100
    obtain ⟨x, rr, rfl, h_102⟩ := ezq_j1_ok hbot h_101
    rw [ezq_fl_eq] at h_102
    intro lsA H locs hl hH hL
    exact lv_lshl hx hb hdg rfl (gl h_102 (ezq_shl_d _ _) hl hH hL)
  case lshr =>
    obtain rfl := Nat.eq_of_beq_eq_true (show Nat.beq n 1 = true from hlk)
    have h_103 : T (ezq_sh bot (fun x y => x >>> (y.toInt64 &&& 63)) st fun z r => go (pc + 1) ls (.inr (.inl z) :: r)) := h
    obtain ⟨y, x, rr, rfl, h_104⟩ := ezq_sh_ok hbot h_103
    intro lsA H locs hl hH hL
    exact lv_lshr hx hb hdg rfl (gl h_104 (ezq_lil_d _ _ _) hl hH hL)
  case lushr =>
    obtain rfl := Nat.eq_of_beq_eq_true (show Nat.beq n 1 = true from hlk)
    have h_105 : T (ezq_sh bot (fun x y => (x.toUInt64 >>> (y.toInt64.toUInt64 &&& Int64.toUInt64 63)).toInt64) st fun z r => go (pc + 1) ls (.inr (.inl z) :: r)) := h
    obtain ⟨y, x, rr, rfl, h_106⟩ := ezq_sh_ok hbot h_105
    intro lsA H locs hl hH hL
    exact lv_lushr hx hb hdg rfl (gl h_106 (ezq_lil_d _ _ _) hl hH hL)
  case dup =>
    obtain rfl := Nat.eq_of_beq_eq_true (show Nat.beq n 1 = true from hlk)
    have h_107 : T (ezq_v1 bot st fun y r => go (pc + 1) ls (y :: y :: r)) := h
    obtain ⟨y, rr, rfl, hc, h_108⟩ := ezq_v1_ok hbot h_107
    intro lsA H locs hl hH hL
    exact lv_dup hx hb hdg (ezq_dcat1 hc) (hgo _ _ _ h_108 lsA H locs hl hH hL)
  case pop =>
    obtain rfl := Nat.eq_of_beq_eq_true (show Nat.beq n 1 = true from hlk)
    have h_109 : T (ezq_v1 bot st fun _ r => go (pc + 1) ls r) := h
    obtain ⟨y, rr, rfl, hc, h_110⟩ := ezq_v1_ok hbot h_109
    intro lsA H locs hl hH hL
    exact lv_pop hx hb hdg (ezq_dcat1 hc) (hgo _ _ _ h_110 lsA H locs hl hH hL)
  case dup2 =>
    obtain rfl := Nat.eq_of_beq_eq_true (show Nat.beq n 1 = true from hlk)
    have h_111 : T (ezq_v1 bot st fun y r => ezq_v1 bot r fun z r => go (pc + 1) ls (y :: z :: y :: z :: r)) := h
    obtain ⟨y, rr, rfl, hc, h_112⟩ := ezq_v1_ok hbot h_111
    obtain ⟨z, rr, rfl, hc2, h_113⟩ := ezq_v1_ok hbot h_112
    intro lsA H locs hl hH hL
    exact lv_dup2_11 hx hb hdg (ezq_dcat1 hc) (ezq_dcat1 hc2) (hgo _ _ _ h_113 lsA H locs hl hH hL)
  case ifCond c0 f0 =>
    replace hlk : (Nat.beq n 3 && decide ((pc : Int) + f0 = (a : Int))) = true := hlk
    simp only [Bool.and_eq_true, decide_eq_true_eq] at hlk
    obtain ⟨hn, hlk⟩ := hlk
    obtain rfl := Nat.eq_of_beq_eq_true hn
    have h_114 : T (ezq_i1 bot st fun y r => br c0 y (.inl 0) a (pc + 3) r) := h
    obtain ⟨y, rr, rfl, h_115⟩ := ezq_i1_ok hbot h_114
    obtain ⟨k1, k2⟩ := hbr _ _ _ _ _ _ h_115
    intro lsA H locs hl hH hL
    cases c0 with
    | eq => exact lv_if_eq hx hb hdg hlk (fun q => k1 (ezq_rbT (c := .eq) (y := 0) q) lsA H locs hl hH hL) (fun q => k2 (ezq_rbF (c := .eq) (y := 0) q) lsA H locs hl hH hL)
    | ne => exact lv_if_ne hx hb hdg hlk (fun q => k1 (ezq_rbT (c := .ne) (y := 0) q) lsA H locs hl hH hL) (fun q => k2 (ezq_rbF (c := .ne) (y := 0) (fun z => z q)) lsA H locs hl hH hL)
    | lt => exact lv_if_lt hx hb hdg hlk (fun q => k1 (ezq_rbT (c := .lt) (y := 0) q) lsA H locs hl hH hL) (fun q => k2 (ezq_rbF (c := .lt) (y := 0) q) lsA H locs hl hH hL)
    | ge => exact lv_if_ge hx hb hdg hlk (fun q => k1 (ezq_rbT (c := .ge) (y := 0) q) lsA H locs hl hH hL) (fun q => k2 (ezq_rbF (c := .ge) (y := 0) q) lsA H locs hl hH hL)
    | gt => exact lv_if_gt hx hb hdg hlk (fun q => k1 (ezq_rbT (c := .gt) (y := 0) q) lsA H locs hl hH hL) (fun q => k2 (ezq_rbF (c := .gt) (y := 0) q) lsA H locs hl hH hL)
    | le => exact lv_if_le hx hb hdg hlk (fun q => k1 (ezq_rbT (c := .le) (y := 0) q) lsA H locs hl hH hL) (fun q => k2 (ezq_rbF (c := .le) (y := 0) q) lsA H locs hl hH hL)
  case if_icmp c0 f0 =>
    replace hlk : (Nat.beq n 3 && decide ((pc : Int) + f0 = (a : Int))) = true := hlk
    simp only [Bool.and_eq_true, decide_eq_true_eq] at hlk
    obtain ⟨hn, hlk⟩ := hlk
    obtain rfl := Nat.eq_of_beq_eq_true hn
    have h_116 : T (ezq_i1 bot st fun y r => ezq_i1 bot r fun x r => br c0 x y a (pc + 3) r) := h
    obtain ⟨y, rr, rfl, h_117⟩ := ezq_i1_ok hbot h_116
    obtain ⟨x, rr, rfl, h_118⟩ := ezq_i1_ok hbot h_117
    obtain ⟨k1, k2⟩ := hbr _ _ _ _ _ _ h_118
    intro lsA H locs hl hH hL
    cases c0 with
    | eq => exact lv_icmp_eq hx hb hdg hlk (fun q => k1 (ezq_rbT (c := .eq) q) lsA H locs hl hH hL) (fun q => k2 (ezq_rbF (c := .eq) q) lsA H locs hl hH hL)
    | ne => exact lv_icmp_ne hx hb hdg hlk (fun q => k1 (ezq_rbT (c := .ne) q) lsA H locs hl hH hL) (fun q => k2 (ezq_rbF (c := .ne) (fun z => z q)) lsA H locs hl hH hL)
    | lt => exact lv_icmp_lt hx hb hdg hlk (fun q => k1 (ezq_rbT (c := .lt) q) lsA H locs hl hH hL) (fun q => k2 (ezq_rbF (c := .lt) q) lsA H locs hl hH hL)
    | ge => exact lv_icmp_ge hx hb hdg hlk (fun q => k1 (ezq_rbT (c := .ge) q) lsA H locs hl hH hL) (fun q => k2 (ezq_rbF (c := .ge) q) lsA H locs hl hH hL)
    | gt => exact lv_icmp_gt hx hb hdg hlk (fun q => k1 (ezq_rbT (c := .gt) q) lsA H locs hl hH hL) (fun q => k2 (ezq_rbF (c := .gt) q) lsA H locs hl hH hL)
    | le => exact lv_icmp_le hx hb hdg hlk (fun q => k1 (ezq_rbT (c := .le) q) lsA H locs hl hH hL) (fun q => k2 (ezq_rbF (c := .le) q) lsA H locs hl hH hL)
  case goto f0 =>
    replace hlk : (Nat.beq n 3 && decide ((pc : Int) + f0 = (a : Int))) = true := hlk
    simp only [Bool.and_eq_true, decide_eq_true_eq] at hlk
    obtain ⟨hn, hlk⟩ := hlk
    obtain rfl := Nat.eq_of_beq_eq_true hn
    have h_119 : T (go a ls st) := h
    intro lsA H locs hl hH hL
    exact lv_goto hx hb hdg hlk (hgo _ _ _ h_119 lsA H locs hl hH hL)
  case ifnull f0 =>
    replace hlk : (Nat.beq n 3 && decide ((pc : Int) + f0 = (a : Int))) = true := hlk
    simp only [Bool.and_eq_true, decide_eq_true_eq] at hlk
    obtain ⟨hn, hlk⟩ := hlk
    obtain rfl := Nat.eq_of_beq_eq_true hn
    have h_120 : T (ezq_p1 bot st fun p r => match p with
      | none => go a ls r
      | some (.inl _) => go (pc + 3) ls r
      | some (.inr i) => bif Nat.beq i 1 then go (pc + 3) ls r else bot) := h
    obtain ⟨pp, rr, rfl, h_121⟩ := ezq_p1_ok hbot h_120
    intro lsA H locs hl hH hL
    rcases pp with _ | k1 | i1
    · exact lv_ifnullN hx hb hdg hlk (hgo _ _ _ h_121 lsA H locs hl hH hL)
    · exact lv_ifnull hx hb hdg (hgo _ _ _ h_121 lsA H locs hl hH hL)
    · obtain ⟨hi, h_122⟩ := ezq_bif_ok hbot h_121
      obtain rfl := Nat.eq_of_beq_eq_true hi
      obtain ⟨b1, f1, -⟩ := hX1
      show W p l e R s m args below meth c H locs cl sl Q (F0 m pc lsA (ezq_dP B xa (some (.inr 1)) :: rr.map (ezq_d ρ B xa)))
      rw [show ezq_dP B xa (some (.inr 1)) = .ref b1 by simp [ezq_dP, f1]]
      exact lv_ifnull hx hb hdg (hgo _ _ _ h_122 lsA H locs hl hH hL)
  case lookupswitch df ps =>
    replace hlk : ((ps.toList.zip (ps.toList.drop 1)).all (fun (a, next) => a.1 < next.1) && ps.toList.all (fun q => decide ((Int32.ofInt q.1).toInt = q.1))) = true := hlk
    rw [Bool.and_eq_true] at hlk
    have h_123 : T (ezq_i1 bot st fun y r => sw ps.toList df y r) := h
    obtain ⟨y, rr, rfl, h_124⟩ := ezq_i1_ok hbot h_123
    obtain ⟨tgt, ht, k1⟩ := hsw _ _ _ _ hlk.2 h_124
    intro lsA H locs hl hH hL
    exact lv_lookup hx hb hdg hlk.1 rfl ht (k1 lsA H locs hl hH hL)
  case tableswitch df lo hi offs =>
    replace hlk : (decide (hi = lo + (offs.toList.length : Int) - 1) && (offs.toList.zipIdx.map fun q => (lo + (q.2 : Int), q.1)).all (fun q => decide ((Int32.ofInt q.1).toInt = q.1))) = true := hlk
    rw [Bool.and_eq_true, decide_eq_true_eq] at hlk
    have h_125 : T (ezq_i1 bot st fun y r => sw (offs.toList.zipIdx.map fun q => (lo + (q.2 : Int), q.1)) df y r) := h
    obtain ⟨y, rr, rfl, h_126⟩ := ezq_i1_ok hbot h_125
    obtain ⟨tgt, ht, k1⟩ := hsw _ _ _ _ hlk.2 h_126
    rw [ezq_tab] at ht
    have hhi := hlk.1
    intro lsA H locs hl hH hL
    by_cases hin : lo + ((0 : Nat) : Int) ≤ (ezq_dI ρ y).toInt ∧ (ezq_dI ρ y).toInt < lo + ((0 : Nat) : Int) + offs.toList.length
    · rw [if_pos hin] at ht
      have hlt : ((ezq_dI ρ y).toInt - lo).toNat < offs.toList.length := by omega
      rw [show ((ezq_dI ρ y).toInt - lo - ((0 : Nat) : Int)).toNat = ((ezq_dI ρ y).toInt - lo).toNat by omega] at ht
      refine lv_tableIn (off := offs.toList.getD ((ezq_dI ρ y).toInt - lo).toNat df) hx hb hdg (by omega) (by omega) ?_ ht (k1 lsA H locs hl hH hL)
      rw [← Array.getElem?_toList, List.getD_eq_getElem?_getD, List.getElem?_eq_getElem hlt]
      rfl
    · rw [if_neg hin] at ht
      exact lv_tableOut hx hb hdg (by omega) ht (k1 lsA H locs hl hH hL)
  case getfield k0 =>
    replace hlk : (Nat.beq n 3 && ((bif Nat.beq a 100 then (Nat.beq r.2.2.1 14 && Nat.beq k0 9) else bif Nat.beq a 101 then (Nat.beq r.2.2.1 14 && Nat.beq k0 15) else bif Nat.beq x 1 then (Nat.beq r.2.2.1 6 && (Nat.beq k0 37 && (Nat.beq a 4 && decide ((ezq_vw 4).2.1 b = ("ElmKite$Now", "over", "I", false) ∧ b < 9)))) else ezq_isF r.2.2.1 k0 a b))) = true := hlk
    rw [Bool.and_eq_true] at hlk
    obtain ⟨hn, hlk⟩ := hlk
    obtain rfl := Nat.eq_of_beq_eq_true hn
    have h_127 : T (ezq_p1 bot st fun p r => bif Nat.beq a 100 then (match p with
            | some (.inr 2) => go (pc + 3) ls (ezq_xt 3 :: r)
            | some (.inr 4) => go (pc + 3) ls (ezq_xt 5 :: r)
            | _ => bot) else bif Nat.beq a 101 then (match p with
            | some (.inr 2) => go (pc + 3) ls (ezq_kn 0 :: r)
            | some (.inr 4) => go (pc + 3) ls (ezq_kn 0 :: r)
            | _ => bot) else ezq_ob bot sz t p fun _ ci fs => bif Nat.beq ci a then (match fs[b]? with
            | some v => go (pc + 3) ls (v :: r)
            | none => bot) else bot) := h
    obtain ⟨pp, rr, rfl, h_128⟩ := ezq_p1_ok hbot h_127
    cases ha : Nat.beq a 100
    · rw [ha] at h_128 hlk
      simp only [cond_false] at h_128 hlk
      cases ha1 : Nat.beq a 101
      · rw [ha1] at h_128 hlk
        simp only [cond_false] at h_128 hlk
        obtain ⟨q, ci, fs, rfl, hq, ht, h13, h_129⟩ := ezq_ob_ok hbot h_128
        obtain ⟨hci, h_130⟩ := ezq_bif_ok hbot h_129
        obtain rfl := Nat.eq_of_beq_eq_true hci
        cases hf : fs[b]? with
        | none =>
          rw [hf] at h_130
          exact absurd h_130 hbot
        | some v =>
          rw [hf] at h_130
          have h_131 : T (go (pc + 3) ls (v :: rr)) := h_130
          intro lsA H locs hl hH hL
          have hq2 := hH.2.2.1 q hq
          rw [ht] at hq2
          obtain ⟨c1, c2, cell, q1, q2, q3, q4⟩ := ezq_atO h13 hq2
          obtain ⟨hS, hfc, kC, hkC, hkind⟩ := hKn ci c1
          cases hx1 : Nat.beq x 1
          · rw [hx1] at hlk
            obtain ⟨hw, hbN, -⟩ := ezq_isF_ok (show ezq_isF r.2.2.1 k0 ci b = true from hlk)
            obtain ⟨cf, kf, fi, f, hi, hsl⟩ := hS b hbN
            refine W.getf hx hb hown (hts _ hw) hi (u_facts hfc hkC (u_lays hts (ezq_lay c1) hbN) hi).1 q1 (by rw [q3]; exact fun z => by cases z) (v := ezq_d ρ B xa v) ?_ rfl rfl hdg (gv h_131 rfl hl hH hL)
            rw [hsl, q4 b hbN]
            simp [vp_V, hf]
          · rw [hx1] at hlk
            simp only [cond_true, Bool.and_eq_true, decide_eq_true_eq] at hlk
            obtain ⟨ho, hk, h5, hT5, hb5⟩ := hlk
            replace ho := Nat.eq_of_beq_eq_true ho
            obtain rfl := Nat.eq_of_beq_eq_true hk
            obtain rfl := Nat.eq_of_beq_eq_true h5
            obtain ⟨cf, kf, fi, f, hi, hsl⟩ := hS b hb5
            have hlay := u_lays hts (ezq_lay c1) hb5
            rw [hT5] at hi hlay
            refine va_Wgetf (host := "ElmKite") hx hb (by rw [ho] at hown; exact hown) (va_Nw.use rfl (hKw _ (ezq_wi_tbl ezq_sFN) rfl)) hi (u_facts hfc hkC hlay hi).1 q1 (by rw [q3]; exact fun z => by cases z) (v := ezq_d ρ B xa v) ?_ rfl rfl hdg (gv h_131 rfl hl hH hL)
            rw [hsl, q4 b hb5]
            simp [vp_V, hf]
      · rw [ha1] at h_128 hlk
        simp only [cond_true, Bool.and_eq_true] at h_128 hlk
        have ho := Nat.eq_of_beq_eq_true hlk.1
        obtain rfl := Nat.eq_of_beq_eq_true hlk.2
        rw [ho] at hown
        split at h_128
        · intro lsA H locs hl hH hL
          obtain ⟨a2, v2, k1, k2, k3⟩ := hX2
          obtain ⟨-, ⟨cf, k, fi, f, cell, h1, h2, h3, h4, h5, h6⟩, -⟩ := k3
          show W p l e R s m args below meth c H locs cl sl Q (F0 m pc lsA (ezq_dP B xa (some (.inr 2)) :: rr.map (ezq_d ρ B xa)))
          rw [show ezq_dP B xa (some (.inr 2)) = .ref a2 by simp [ezq_dP, k1]]
          exact W.getf hx hb hown (hts _ (ezq_wi_in ezq_sS15 rfl)) h1 h2 (by rw [hH.2.2.2 a2 (Nat.not_le.mp h6)]; exact h3) h4 h5 rfl rfl hdg (gv h_128 rfl hl hH hL)
        · intro lsA H locs hl hH hL
          obtain ⟨a2, v2, k1, k2, k3⟩ := hX4
          obtain ⟨-, ⟨cf, k, fi, f, cell, h1, h2, h3, h4, h5, h6⟩, -⟩ := k3
          show W p l e R s m args below meth c H locs cl sl Q (F0 m pc lsA (ezq_dP B xa (some (.inr 4)) :: rr.map (ezq_d ρ B xa)))
          rw [show ezq_dP B xa (some (.inr 4)) = .ref a2 by simp [ezq_dP, k1]]
          exact W.getf hx hb hown (hts _ (ezq_wi_in ezq_sS15 rfl)) h1 h2 (by rw [hH.2.2.2 a2 (Nat.not_le.mp h6)]; exact h3) h4 h5 rfl rfl hdg (gv h_128 rfl hl hH hL)
        · exact absurd h_128 hbot
    · rw [ha] at h_128 hlk
      simp only [cond_true, Bool.and_eq_true] at h_128 hlk
      have ho := Nat.eq_of_beq_eq_true hlk.1
      obtain rfl := Nat.eq_of_beq_eq_true hlk.2
      rw [ho] at hown
      split at h_128
      · intro lsA H locs hl hH hL
        obtain ⟨a2, v2, k1, k2, k3⟩ := hX2
        obtain ⟨-, -, ⟨cf, k, fi, f, cell, h1, h2, h3, h4, h5, h6⟩, -⟩ := k3
        show W p l e R s m args below meth c H locs cl sl Q (F0 m pc lsA (ezq_dP B xa (some (.inr 2)) :: rr.map (ezq_d ρ B xa)))
        rw [show ezq_dP B xa (some (.inr 2)) = .ref a2 by simp [ezq_dP, k1]]
        exact W.getf hx hb hown (hts _ (ezq_wi_in ezq_sS9 rfl)) h1 h2 (by rw [hH.2.2.2 a2 (Nat.not_le.mp h6)]; exact h3) h4 h5 rfl rfl hdg (gv h_128 (show ezq_dP B xa (some (.inr 3)) = .ref v2 by simp [ezq_dP, k2]) hl hH hL)
      · intro lsA H locs hl hH hL
        obtain ⟨a2, v2, k1, k2, k3⟩ := hX4
        obtain ⟨-, -, ⟨cf, k, fi, f, cell, h1, h2, h3, h4, h5, h6⟩, -⟩ := k3
        show W p l e R s m args below meth c H locs cl sl Q (F0 m pc lsA (ezq_dP B xa (some (.inr 4)) :: rr.map (ezq_d ρ B xa)))
        rw [show ezq_dP B xa (some (.inr 4)) = .ref a2 by simp [ezq_dP, k1]]
        exact W.getf hx hb hown (hts _ (ezq_wi_in ezq_sS9 rfl)) h1 h2 (by rw [hH.2.2.2 a2 (Nat.not_le.mp h6)]; exact h3) h4 h5 rfl rfl hdg (gv h_128 (show ezq_dP B xa (some (.inr 5)) = .ref v2 by simp [ezq_dP, k2]) hl hH hL)
      · exact absurd h_128 hbot
  case putfield k0 =>
    replace hlk : (Nat.beq n 3 && (ezq_isF r.2.2.1 k0 a b && (decide (((ezq_vw a).2.1 b).2.2.2 = Nat.beq kd 1) && ((bif Nat.beq kd 1 then (decide (r.2.2.2.1.name = "<init>") && decide (((ezq_vw a).2.1 b).1 = ezq_cn r.2.2.1)) else Nat.beq kd 0) && (match (generalizing := false) dd with
            | 0 => decide (ezq_fty a b = .int)
            | 1 => decide (ezq_fty a b = .long)
            | 2 => decide (ezq_fty a b = .boolean)
            | _ => match ezq_fty a b with
              | .object _ => true
              | .array _ => true
              | _ => false))))) = true := hlk
    rw [Bool.and_eq_true, Bool.and_eq_true, Bool.and_eq_true, Bool.and_eq_true] at hlk
    obtain ⟨hn, hF, hfin, hdecl, hty⟩ := hlk
    obtain rfl := Nat.eq_of_beq_eq_true hn
    have h_132 : T (ezq_w1 bot dd st fun v r => ezq_p1 bot r fun p r => ezq_ob bot sz t p fun q ci fs => bif Nat.beq ci a then (ezq_lset fs b v fun fs' => ezq_ts 7 t q (.inl (ci, fs')) fun t' => gh (pc + 3) r sz t' cl sl) else bot) := h
    obtain ⟨v, rr, rfl, h_133, hv⟩ := ezq_w1_ok hbot h_132
    obtain ⟨pp, rr, rfl, h_134⟩ := ezq_p1_ok hbot h_133
    obtain ⟨q, ci, fs, rfl, hq, ht, h13, h_135⟩ := ezq_ob_ok hbot h_134
    obtain ⟨hci, h_136⟩ := ezq_bif_ok hbot h_135
    obtain rfl := Nat.eq_of_beq_eq_true hci
    rw [ezq_lset_eq, ezq_ts_eq] at h_136
    obtain ⟨hw, hbN, c1⟩ := ezq_isF_ok hF
    obtain ⟨hnar, hfit⟩ := ezq_fits (ρ := ρ) (B := B) (xa := xa) hty hv
    intro lsA H locs hl hH hL
    have hq2 := hH.2.2.1 q hq
    rw [ht] at hq2
    obtain ⟨-, c2, cell, q1, q2, q3, q4⟩ := ezq_atO h13 hq2
    obtain ⟨hS, hfc, kC, hkC, hkind⟩ := hKn ci c1
    obtain ⟨cf, kf, fi, f, hi, hsl⟩ := hS b hbN
    have hap : ∀ x y, x < (ezq_vw ci).2.2 → y < (ezq_vw ci).2.2 → x ≠ y → (D.2 ci) x ≠ (D.2 ci) y := by
      intro x y hx9 hy9 hne
      obtain ⟨_, _, _, fa, hia, ea⟩ := hS x hx9
      obtain ⟨_, _, _, fb, hib, eb⟩ := hS y hy9
      rw [← ea, ← eb]
      refine u_apart (u_lays hts (ezq_lay c1) hx9) (u_lays hts (ezq_lay c1) hy9) hia hib ?_
      rw [(State.fieldFound?_type hia (ezq_typ ci c1 x hx9)).1, (State.fieldFound?_type hib (ezq_typ ci c1 y hy9)).1]
      exact ezq_nmd ci c1 x hx9 y hy9 hne
    have hlay := hts _ (ezq_lay c1 _ (u_in_lay hbN))
    have hst := (u_facts hfc hkC (u_lays hts (ezq_lay c1) hbN) hi).1
    have hend : ∀ H1 : Heap, H1[B + q]? = some (cell.setSlot f.slot (ezq_d ρ B xa v)) → H1.size = H.size → (∀ z, z ≠ B + q → H1[z]? = H[z]?) → W p l e R s m args below meth c H1 (locs ++ [⟨B + q, f.slot⟩]) cl sl Q (F0 m (pc + 3) lsA (rr.map (ezq_d ρ B xa))) := by
      intro H1 e1 e2 e3
      rw [hsl] at e1
      refine hgh _ _ _ _ _ _ h_136 lsA H1 _ hl (hH.set hq e2 e3 (Or.inl ⟨c1, by rw [List.length_set]; exact c2, ?_⟩)) (ezq_locs hL)
      refine t_OB.to (V := updV (vp_V (fs.map (ezq_d ρ B xa))) b (ezq_d ρ B xa v)) ⟨_, e1, q2, q3, t_set q4 hap hbN _⟩ (fun j _ => ?_)
      rw [List.map_set]
      exact vp_updV_set (by rw [List.length_map, c2]; exact hbN) _ j
    unfold u_lay at hlay
    cases hc1 : Nat.beq kd 1
    · rw [hc1] at hfin
      replace hfin := of_decide_eq_true hfin
      rw [if_neg (by rw [hfin]; decide)] at hlay
      have h6 := u_store hfc hkC hkind hlay hi (ezq_typ ci c1 b hbN) hnar hfit
      exact W.putK hx hb (f := f) ⟨hown, hts _ hw, ⟨_, _, _, hi⟩, hst⟩ (by rw [q2]; exact h6) q1 q3 (by rw [hsl]; exact k2_hasslot (q4 b hbN)) rfl rfl hdg hend
    · rw [hc1] at hfin hdecl
      replace hfin := of_decide_eq_true hfin
      replace hdecl : (decide (r.2.2.2.1.name = "<init>") && decide (((ezq_vw ci).2.1 b).1 = ezq_cn r.2.2.1)) = true := hdecl
      rw [Bool.and_eq_true, decide_eq_true_eq, decide_eq_true_eq] at hdecl
      obtain ⟨hini, hdecl⟩ := hdecl
      rw [if_pos hfin] at hlay
      have hcf : m.cls = cf := by
        obtain ⟨_, _, c', _, _, _, -, -, hf', -, -, -, hown2, -⟩ := Cond.laysFinal_spec hlay
        have e1 : c' = cf := by have := hi.symm.trans hf'; simp at this; exact this.1.symm
        rw [hdecl] at hown2
        rw [← e1]; exact Option.some.inj (hown.symm.trans hown2)
      have h6 := u_fits hfc hkC hkind (Or.inr hlay) hi (ezq_typ ci c1 b hbN) hnar hfit
      exact W.putFinK hx hb hown (hts _ hw) hi hst hcf (hnm hini) (by rw [q2]; exact h6) q1 q3 (by rw [hsl]; exact k2_hasslot (q4 b hbN)) rfl rfl hdg hend
  case getstatic k0 =>
    replace hlk : (Nat.beq n 3 && (match (generalizing := false) a with
            | 0 => (Nat.beq r.2.2.1 11 && false) || (Nat.beq r.2.2.1 9 && (Nat.beq k0 53 && Nat.beq b 1))
            | 1 => Nat.beq r.2.2.1 14 && Nat.beq k0 38
            | 2 => Nat.beq r.2.2.1 14 && Nat.beq k0 1053
            | _ => true)) = true := hlk
    rw [Bool.and_eq_true] at hlk
    obtain ⟨hn, hlk⟩ := hlk
    obtain rfl := Nat.eq_of_beq_eq_true hn
    match a, h, hlk with
    | 0, h_137, hlk =>
      have h_138 : T (go (pc + 3) ls (ezq_xt 1 :: st)) := h_137
      simp only [Bool.or_eq_true, Bool.and_eq_true] at hlk
      rcases hlk with hlk | ⟨ho, hk, -⟩
      · exact absurd hlk.2 (by decide)
      · replace ho := Nat.eq_of_beq_eq_true ho
        obtain rfl := Nat.eq_of_beq_eq_true hk
        rw [ho] at hown
        intro lsA H locs hl hH hL
        obtain ⟨b1, f1, f2, f3, cf, kf, fi, f, a1, cell, h1, h2, h3, h4, h5, h6, h7, h8⟩ := hX1
        exact va_WgetsN (host := "ElmKite") hx hb hown (va_Nw.use rfl (hKw _ (ezq_wi_tbl ezq_s53) rfl)) h1 h2 h3 h4 (by rw [hH.2.2.2 a1 (Nat.not_le.mp h8)]; exact h5) (fun z => by rw [z] at h6; cases h6) h7 rfl hdg (gv h_138 (show ezq_dP B xa (some (.inr 1)) = .ref b1 by simp [ezq_dP, f1]) hl hH hL)
    | 1, h_139, hlk =>
      have h_140 : T (go (pc + 3) ls (ezq_kn 1 :: st)) := h_139
      simp only [Bool.and_eq_true] at hlk
      have ho := Nat.eq_of_beq_eq_true hlk.1
      obtain rfl := Nat.eq_of_beq_eq_true hlk.2
      rw [ho] at hown
      intro lsA H locs hl hH hL
      obtain ⟨cf, kf, fi, f, a1, cell, h1, h2, h3, h4, h5, h6, h7, h8⟩ := hZ1
      exact W.gets hx hb hown (hts _ (ezq_wi_in ezq_s38 rfl)) h1 h2 h3 h4 (by rw [hH.2.2.2 a1 (Nat.not_le.mp h8)]; exact h5) (fun z => by rw [z] at h6; cases h6) h7 rfl hdg (gv h_140 rfl hl hH hL)
    | 2, h_141, hlk =>
      have h_142 : T (go (pc + 3) ls (ezq_xt 6 :: st)) := h_141
      simp only [Bool.and_eq_true] at hlk
      have ho := Nat.eq_of_beq_eq_true hlk.1
      obtain rfl := Nat.eq_of_beq_eq_true hlk.2
      rw [ho] at hown
      intro lsA H locs hl hH hL
      obtain ⟨cf, kf, fi, f, a1, cell, h1, h2, h3, h4, h5, h6, h7, h8⟩ := hZ2
      exact W.gets hx hb hown (hts _ (ezq_wi_in ezq_s1053 rfl)) h1 h2 h3 h4 (by rw [hH.2.2.2 a1 (Nat.not_le.mp h8)]; exact h5) (fun z => by rw [z] at h6; cases h6) h7 rfl hdg (gv h_142 rfl hl hH hL)
    | j + 3, h_143, hlk => exact absurd h_143 hbot
  case new k0 =>
    replace hlk : (Nat.beq n 3 && ((bif Nat.beq a 99 then true else (ezq_CR.any (fun q => Nat.beq q.1 r.2.2.1 && (Nat.beq q.2.1 k0 && Nat.beq q.2.2.1 a)) && ezq_CI.any (fun q => Nat.beq q.1 a && Nat.beq q.2.1 b))))) = true := hlk
    rw [Bool.and_eq_true] at hlk
    obtain ⟨hn, hlk⟩ := hlk
    obtain rfl := Nat.eq_of_beq_eq_true hn
    have h_144 : T (bif Nat.beq a 99 then bot else ezq_al bot sz t cl sl r.2.2.2.2.2.2.1 r.2.2.2.2.2.2.2 b (.inl (a, ezq_dfl a)) fun sz' t' cl' sl' => gh (pc + 3) (ezq_ow sz :: st) sz' t' cl' sl') := h
    obtain ⟨h99, h_145⟩ := ezq_bifN_ok hbot h_144
    rw [h99] at hlk
    obtain ⟨hs, hcl, hsl, h_146⟩ := ezq_al_ok hbot h_145
    replace hlk := hlk
    rw [cond_false, Bool.and_eq_true] at hlk
    obtain ⟨hw, ha13⟩ := ezq_CR_ok hlk.1
    obtain ⟨hw1, hw2, rfl⟩ := ezq_CI_ok hlk.2
    intro lsA H locs hl hH hL
    have hKc := hKn a ha13
    refine W.newcK hx hb hown (hts _ hw) (hts _ hw1) (hts _ hw2) rfl hdg (by omega) (by omega) hKc.2.1 rfl fun H1 kC hkC e1 z1 o1 => ?_
    rw [hH.2.1]
    refine hgh _ _ _ _ _ _ h_146 lsA H1 locs hl (hH.push hs z1 o1 (Or.inl ⟨ha13, ezq_dfl_len a, ?_⟩)) hL
    rw [← hH.2.1]
    exact (u_born (ezq_fty a) hts (ezq_lay ha13) hKc hkC e1 (ezq_typ a ha13)).to (fun j hj => ezq_dfl_d ha13 hj)
  case newarray ty0 =>
    obtain rfl := Nat.eq_of_beq_eq_true (show Nat.beq n 2 = true from hlk)
    have h_147 : T (ezq_i1 bot st fun y r2 => match y with
          | .inl n => bif Nat.ble n 100000 && Nat.ble (ezq_ary ty0) 2 then ezq_al bot sz t cl sl r.2.2.2.2.2.2.1 r.2.2.2.2.2.2.2 n (.inr (ezq_ary ty0, n, fun _ => ezq_ard ty0)) fun sz' t' cl' sl' => gh (pc + 2) (ezq_ow sz :: r2) sz' t' cl' sl' else bot
          | _ => bot) := h
    obtain ⟨y, rr, rfl, h_148⟩ := ezq_i1_ok hbot h_147
    rcases y with nn | y
    · obtain ⟨h1, h_149⟩ := ezq_bif_ok hbot h_148
      simp only [Bool.and_eq_true] at h1
      have hn1 := Nat.le_of_ble_eq_true h1.1
      have hn2 := Nat.le_of_ble_eq_true h1.2
      obtain ⟨hs, hcl, hsl, h_150⟩ := ezq_al_ok hbot h_149
      intro lsA H locs hl hH hL
      have hk : newarray.typeOf ty0 = ezq_tyf (ezq_ary ty0) ∧ Cond.arrayClass (newarray.typeOf ty0) ∈ ezq_T0 ∧ componentBytes (newarray.typeOf ty0) ≤ 8 ∧ defaultValue (newarray.typeOf ty0) = ezq_d ρ B xa (ezq_ard ty0) := by
        cases ty0 <;> first | exact ⟨rfl, ezq_wi_in ezq_sA0 rfl, by decide, rfl⟩ | exact ⟨rfl, ezq_wi_in ezq_sA1 rfl, by decide, rfl⟩ | exact ⟨rfl, ezq_wi_in ezq_sA2 rfl, by decide, rfl⟩ | exact absurd hn2 (by decide)
      have hbytes : nn * componentBytes (newarray.typeOf ty0) ≤ 536870912 := Nat.le_trans (Nat.mul_le_mul hn1 hk.2.2.1) (by decide)
      refine va_newaK hx hb (hts _ hk.2.1) rfl hdg (n := Int32.ofNat nn) (N := nn) rfl (fun z => ?_) (Int32.toNatClampNeg_ofNat_of_lt (by omega)) hbytes (by omega) (by omega) rfl fun H1 cB e1 z1 o1 hAr hNm => ?_
      · exact (Int32.not_lt.mpr (Int32.zero_le_ofNat_of_lt (a := nn) (by omega))) z
      · have hcB : cB = cA (ezq_ary ty0) := by
          have h2 := (hKa (ezq_ary ty0) hn2).2
          rw [← hk.1] at h2
          exact Option.some.inj (hNm.symm.trans h2)
        rw [hH.2.1]
        refine hgh _ _ _ _ _ _ h_150 lsA H1 locs hl (hH.push hs z1 o1 ⟨hn2, hn1, ?_⟩) hL
        rw [← hH.2.1, e1, hcB, hk.2.2.2]
    · exact absurd h_148 hbot
  case arraylength =>
    obtain rfl := Nat.eq_of_beq_eq_true (show Nat.beq n 1 = true from hlk)
    have h_151 : T (ezq_p1 bot st fun p r => match p with
          | some (.inl q) => ezq_ar bot sz t (some (.inl q)) fun _ _ n _ => go (pc + 1) ls (ezq_kn n :: r)
          | some (.inr i) => match i with
            | 0 => go (pc + 1) ls (.inl (ezq_nm Γ (.inr (.inl 8))) :: r)
            | 1 => go (pc + 1) ls (ezq_kn 11 :: r)
            | 3 => go (pc + 1) ls (ezq_kn 254 :: r)
            | 5 => go (pc + 1) ls (ezq_kn 8 :: r)
            | _ => bot
          | none => bot) := h
    obtain ⟨pp, rr, rfl, h_152⟩ := ezq_p1_ok hbot h_151
    intro lsA H locs hl hH hL
    rcases pp with _ | q | i
    · exact absurd h_152 hbot
    · obtain ⟨q', ty', nn, f, e1, hq, ht, h_153⟩ := ezq_ar_ok hbot h_152
      cases e1
      obtain ⟨c1, c2, c3, c4⟩ := ezq_own hK hH hq ht
      exact W.alen (n := Int32.ofNat nn) hx hb c1 c4 (by rw [arrV_size] <;> rfl) rfl rfl hdg (gi h_153 rfl hl hH hL)
    · match i, h_152 with
      | 0, h_154 =>
        have h_155 : T (go (pc + 1) ls (.inl (ezq_nm Γ (.inr (.inl 8))) :: rr)) := h_154
        obtain ⟨scr, x1, x2, x3, x4, x5⟩ := g6
        show W p l e R s m args below meth c H locs cl sl Q (F0 m pc lsA (ezq_dP B xa (some (.inr 0)) :: rr.map (ezq_d ρ B xa)))
        rw [show ezq_dP B xa (some (.inr 0)) = .ref b0 by simp [ezq_dP, g1]]
        exact W.alen (n := Int32.ofNat L) hx hb (by rw [hH.2.2.2 b0 g7]; exact x1) x2 (by rw [x4] <;> rfl) rfl rfl hdg (gi h_155 ((ezq_nm_d hG _).trans g3) hl hH hL)
      | 1, h_156 =>
        have h_157 : T (go (pc + 1) ls (ezq_kn 11 :: rr)) := h_156
        obtain ⟨b1, f1, f2, f3, f4⟩ := hX1
        show W p l e R s m args below meth c H locs cl sl Q (F0 m pc lsA (ezq_dP B xa (some (.inr 1)) :: rr.map (ezq_d ρ B xa)))
        rw [show ezq_dP B xa (some (.inr 1)) = .ref b1 by simp [ezq_dP, f1]]
        obtain ⟨cell, y1, y2, y3, y4, y5⟩ := f2
        exact W.alen (n := Int32.ofNat 11) hx hb (by rw [hH.2.2.2 b1 f3]; exact y1) (ty := .int) ⟨y3, by rw [y2]; exact ((hKa 0 (by omega)).1 11 (fun _ => .null)).2⟩ (by rw [y5, arrV_size] <;> rfl) rfl rfl hdg (gi h_157 rfl hl hH hL)
      | 2, h_158 => exact absurd h_158 hbot
      | 3, h_159 =>
        have h_160 : T (go (pc + 1) ls (ezq_kn 254 :: rr)) := h_159
        obtain ⟨a2, v2, k1, k2, k3⟩ := hX2
        obtain ⟨-, -, -, ⟨cell, t1, t2, t3, t4, t5, t6, t7⟩, -⟩ := k3
        show W p l e R s m args below meth c H locs cl sl Q (F0 m pc lsA (ezq_dP B xa (some (.inr 3)) :: rr.map (ezq_d ρ B xa)))
        rw [show ezq_dP B xa (some (.inr 3)) = .ref v2 by simp [ezq_dP, k2]]
        exact W.alen (n := Int32.ofNat 254) hx hb (by rw [hH.2.2.2 v2 (Nat.not_le.mp t7)]; exact t1) t2 t5 rfl rfl hdg (gi h_160 rfl hl hH hL)
      | 4, h_161 => exact absurd h_161 hbot
      | 5, h_162 =>
        have h_163 : T (go (pc + 1) ls (ezq_kn 8 :: rr)) := h_162
        obtain ⟨a2, v2, k1, k2, k3⟩ := hX4
        obtain ⟨-, -, -, ⟨cell, t1, t2, t3, t4, t5, t6, t7⟩, -⟩ := k3
        show W p l e R s m args below meth c H locs cl sl Q (F0 m pc lsA (ezq_dP B xa (some (.inr 5)) :: rr.map (ezq_d ρ B xa)))
        rw [show ezq_dP B xa (some (.inr 5)) = .ref v2 by simp [ezq_dP, k2]]
        exact W.alen (n := Int32.ofNat 8) hx hb (by rw [hH.2.2.2 v2 (Nat.not_le.mp t7)]; exact t1) t2 t5 rfl rfl hdg (gi h_163 rfl hl hH hL)
      | j + 6, h_164 => exact absurd h_164 hbot
  case iaload =>
    obtain rfl := Nat.eq_of_beq_eq_true (show Nat.beq n 1 = true from hlk)
    have h_165 : T (ezq_i1 bot st fun y r => ezq_p1 bot r fun p r => match y with
          | .inl m => ezq_ald bot Γ sz t 0 m p fun v => ezq_i1 bot [v] fun z _ => go (pc + 1) ls (.inl (ezq_nm Γ z) :: r)
          | _ => bot) := h
    obtain ⟨y, rr, rfl, h_166⟩ := ezq_i1_ok hbot h_165
    obtain ⟨pp, rr, rfl, h_167⟩ := ezq_p1_ok hbot h_166
    rcases y with mm | y
    · intro lsA H locs hl hH hL
      obtain ⟨v, w, cell, h_168, e1, e2, e3, e4, e5, e6⟩ := ezq_ald_ok hbot hG hK hH (show T (ezq_ald bot Γ sz t 0 mm pp fun v => ezq_i1 bot [v] fun z _ => go (pc + 1) ls (.inl (ezq_nm Γ z) :: rr)) from h_167)
      obtain ⟨z, r2, e7, h_169⟩ := ezq_i1_ok hbot h_168
      obtain ⟨rfl, -⟩ := List.cons.inj e7
      show W p l e R s m args below meth c H locs cl sl Q (F0 m pc lsA (.int (Int32.ofNat mm) :: ezq_dP B xa pp :: rr.map (ezq_d ρ B xa)))
      rw [e1]
      have e6 : s.isArrayOf cell .int := e6.elim id fun q => absurd q.1 (by decide)
      exact W.iald hx hb e2 e6 e3 e4 e5 rfl rfl hdg (gi h_169 (ezq_nm_d hG z) hl hH hL)
    · exact absurd h_167 hbot
  case laload =>
    obtain rfl := Nat.eq_of_beq_eq_true (show Nat.beq n 1 = true from hlk)
    have h_170 : T (ezq_i1 bot st fun y r => ezq_p1 bot r fun p r => match y with
          | .inl m => ezq_ald bot Γ sz t 1 m p fun v => ezq_j1 bot [v] fun z _ => go (pc + 1) ls (.inr (.inl z) :: r)
          | _ => bot) := h
    obtain ⟨y, rr, rfl, h_171⟩ := ezq_i1_ok hbot h_170
    obtain ⟨pp, rr, rfl, h_172⟩ := ezq_p1_ok hbot h_171
    rcases y with mm | y
    · intro lsA H locs hl hH hL
      obtain ⟨v, w, cell, h_173, e1, e2, e3, e4, e5, e6⟩ := ezq_ald_ok hbot hG hK hH (show T (ezq_ald bot Γ sz t 1 mm pp fun v => ezq_j1 bot [v] fun z _ => go (pc + 1) ls (.inr (.inl z) :: rr)) from h_172)
      obtain ⟨z, r2, e7, h_174⟩ := ezq_j1_ok hbot h_173
      obtain ⟨rfl, -⟩ := List.cons.inj e7
      show W p l e R s m args below meth c H locs cl sl Q (F0 m pc lsA (.int (Int32.ofNat mm) :: ezq_dP B xa pp :: rr.map (ezq_d ρ B xa)))
      rw [e1]
      have e6 : s.isArrayOf cell .long := e6.elim id fun q => absurd q.1 (by decide)
      exact W.lald hx hb e2 e6 e3 e4 e5 rfl rfl hdg (gl h_174 rfl hl hH hL)
    · exact absurd h_172 hbot
  case baload =>
    obtain rfl := Nat.eq_of_beq_eq_true (show Nat.beq n 1 = true from hlk)
    have h_175 : T (ezq_i1 bot st fun y r => ezq_p1 bot r fun p r => match y with
          | .inl m => ezq_ald bot Γ sz t 2 m p fun v => ezq_i1 bot [v] fun z _ => go (pc + 1) ls (.inl (ezq_nm Γ z) :: r)
          | _ => bot) := h
    obtain ⟨y, rr, rfl, h_176⟩ := ezq_i1_ok hbot h_175
    obtain ⟨pp, rr, rfl, h_177⟩ := ezq_p1_ok hbot h_176
    rcases y with mm | y
    · intro lsA H locs hl hH hL
      obtain ⟨v, w, cell, h_178, e1, e2, e3, e4, e5, e6⟩ := ezq_ald_ok hbot hG hK hH (show T (ezq_ald bot Γ sz t 2 mm pp fun v => ezq_i1 bot [v] fun z _ => go (pc + 1) ls (.inl (ezq_nm Γ z) :: rr)) from h_177)
      obtain ⟨z, r2, e7, h_179⟩ := ezq_i1_ok hbot h_178
      obtain ⟨rfl, -⟩ := List.cons.inj e7
      show W p l e R s m args below meth c H locs cl sl Q (F0 m pc lsA (.int (Int32.ofNat mm) :: ezq_dP B xa pp :: rr.map (ezq_d ρ B xa)))
      rw [e1]
      rcases e6 with e6 | ⟨-, e6⟩
      · exact W.zald hx hb e2 e6 e3 e4 e5 rfl rfl hdg (gi h_179 (ezq_nm_d hG z) hl hH hL)
      · exact W.bald hx hb e2 e6 e3 e4 e5 rfl rfl hdg (gi h_179 (ezq_nm_d hG z) hl hH hL)
    · exact absurd h_177 hbot
  case iastore =>
    obtain rfl := Nat.eq_of_beq_eq_true (show Nat.beq n 1 = true from hlk)
    have h_180 : T (ezq_i1 bot st fun v r => ezq_ast bot sz t 0 (.inl v) r fun r t' => gh (pc + 1) r sz t' cl sl) := h
    obtain ⟨v, rr0, rfl, h_181⟩ := ezq_i1_ok hbot h_180
    obtain ⟨mm, q, nn, f, rr, rfl, hq, ht, hm, h_182⟩ := ezq_ast_ok hbot h_181
    intro lsA H locs hl hH hL
    obtain ⟨c1, c2, c3, c4⟩ := ezq_own hK hH hq ht
    obtain ⟨i1, i2⟩ := ezq_ix hm c3
    exact W.iast hx hb c1 c4 (fun z => by cases z) (by rw [arrV_size]; exact i1) rfl rfl hdg (fun H1 e1 z1 o1 => hgh _ _ _ _ _ _ h_182 lsA H1 _ hl (hH.set hq z1 o1 (ezq_at_st c2 c3 (w := .int (ezq_dI ρ v)) rfl (by have e2 : (ezq_dI ρ (.inl mm)).toNatClampNeg = mm := i2; rw [e2] at e1; exact e1))) (ezq_locs hL))
  case lastore =>
    obtain rfl := Nat.eq_of_beq_eq_true (show Nat.beq n 1 = true from hlk)
    have h_183 : T (ezq_j1 bot st fun v r => ezq_ast bot sz t 1 (.inr (.inl v)) r fun r t' => gh (pc + 1) r sz t' cl sl) := h
    obtain ⟨v, rr0, rfl, h_184⟩ := ezq_j1_ok hbot h_183
    obtain ⟨mm, q, nn, f, rr, rfl, hq, ht, hm, h_185⟩ := ezq_ast_ok hbot h_184
    intro lsA H locs hl hH hL
    obtain ⟨c1, c2, c3, c4⟩ := ezq_own hK hH hq ht
    obtain ⟨i1, i2⟩ := ezq_ix hm c3
    exact W.last hx hb c1 c4 (fun z => by cases z) (by rw [arrV_size]; exact i1) rfl rfl hdg (fun H1 e1 z1 o1 => hgh _ _ _ _ _ _ h_185 lsA H1 _ hl (hH.set hq z1 o1 (ezq_at_st c2 c3 (w := .long (ezq_dL ρ v)) rfl (by have e2 : (ezq_dI ρ (.inl mm)).toNatClampNeg = mm := i2; rw [e2] at e1; exact e1))) (ezq_locs hL))
  case bastore =>
    obtain rfl := Nat.eq_of_beq_eq_true (show Nat.beq n 1 = true from hlk)
    have h_186 : T (ezq_w1 bot 2 st fun v r => ezq_ast bot sz t 2 v r fun r t' => gh (pc + 1) r sz t' cl sl) := h
    obtain ⟨v, rr0, rfl, h_187, hv⟩ := ezq_w1_ok hbot h_186
    obtain ⟨n1, rfl, hn1⟩ : ∃ n1, v = .inl (.inl n1) ∧ n1 ≤ 1 := by
      rcases hv with ⟨z, -⟩ | ⟨z, -⟩ | ⟨-, z⟩ | ⟨z, -⟩
      · exact absurd z (by decide)
      · exact absurd z (by decide)
      · exact z
      · exact absurd z (by decide)
    obtain ⟨mm, q, nn, f, rr, rfl, hq, ht, hm, h_188⟩ := ezq_ast_ok hbot h_187
    intro lsA H locs hl hH hL
    obtain ⟨c1, c2, c3, c4⟩ := ezq_own hK hH hq ht
    obtain ⟨i1, i2⟩ := ezq_ix hm c3
    exact W.zast hx hb c1 c4 (fun z => by cases z) (by rw [arrV_size]; exact i1) rfl rfl hdg (fun H1 e1 z1 o1 => hgh _ _ _ _ _ _ h_188 lsA H1 _ hl (hH.set hq z1 o1 (ezq_at_st c2 c3 (w := narrow .boolean (.int (Int32.ofNat n1))) (ezq_nz n1 hn1).symm (by have e2 : (ezq_dI ρ (.inl mm)).toNatClampNeg = mm := i2; rw [e2] at e1; exact e1))) (ezq_locs hL))
  case ldc k0 =>
    replace hlk : (Nat.beq n 2 && (bif Nat.beq a 0 then ezq_KI.any (fun q => Nat.beq q.1 r.2.2.1 && (Nat.beq q.2.1 k0 && Nat.beq q.2.2.1 b)) else (bif Nat.beq a 1 then (Nat.beq r.2.2.1 7 && Nat.beq k0 (bif Nat.beq b 0 then 19 else 113)) else true))) = true := hlk
    rw [Bool.and_eq_true] at hlk
    obtain ⟨hn, hlk⟩ := hlk
    obtain rfl := Nat.eq_of_beq_eq_true hn
    match a, h, hlk with
    | 0, h_189, hlk =>
      have h_190 : T (go (pc + 2) ls (ezq_kn b :: st)) := h_189
      have hw := ezq_KI_ok (show ezq_KI.any (fun q => Nat.beq q.1 r.2.2.1 && (Nat.beq q.2.1 k0 && Nat.beq q.2.2.1 b)) = true from hlk)
      intro lsA H locs hl hH hL
      exact lv_ldc hx hb hown (hts _ hw) hdg (gi h_190 rfl hl hH hL)
    | 1, h_191, hlk =>
      have h_192 : T (bif Nat.ble b 1 then go (pc + 2) ls (ezq_xt (2 + 2 * b) :: st) else bot) := h_191
      obtain ⟨hb2, h_193⟩ := ezq_bif_ok hbot h_192
      replace hb2 := Nat.le_of_ble_eq_true hb2
      replace hlk : (Nat.beq r.2.2.1 7 && Nat.beq k0 (bif Nat.beq b 0 then 19 else 113)) = true := hlk
      rw [Bool.and_eq_true] at hlk
      have ho := Nat.eq_of_beq_eq_true hlk.1
      have hk := Nat.eq_of_beq_eq_true hlk.2
      rw [ho] at hown
      intro lsA H locs hl hH hL
      match b, h_193, hk, hb2 with
      | 0, h_194, hk, hb2 =>
        have hk : k0 = 19 := hk
        subst hk
        obtain ⟨a2, v2, k1, k2, -, -, -, -, tx, k3⟩ := hX2
        exact va_ldcS hx hb hown k3 hdg (gv h_194 (show ezq_dP B xa (some (.inr 2)) = .ref a2 by simp [ezq_dP, k1]) hl hH hL)
      | 1, h_195, hk, hb2 =>
        have hk : k0 = 113 := hk
        subst hk
        obtain ⟨a2, v2, k1, k2, -, -, -, -, tx, k3⟩ := hX4
        exact va_ldcS hx hb hown k3 hdg (gv h_195 (show ezq_dP B xa (some (.inr 4)) = .ref a2 by simp [ezq_dP, k1]) hl hH hL)
      | j + 2, h_196, hk, hb2 => exact absurd hb2 (by omega)
    | j + 2, h_197, hlk => exact absurd h_197 hbot
  case ldc_w k0 =>
    replace hlk : (Nat.beq n 3 && (bif Nat.beq a 0 then ezq_KI.any (fun q => Nat.beq q.1 r.2.2.1 && (Nat.beq q.2.1 k0 && Nat.beq q.2.2.1 b)) else true)) = true := hlk
    rw [Bool.and_eq_true] at hlk
    obtain ⟨hn, hlk⟩ := hlk
    obtain rfl := Nat.eq_of_beq_eq_true hn
    match a, h, hlk with
    | 0, h_198, hlk =>
      have h_199 : T (go (pc + 3) ls (ezq_kn b :: st)) := h_198
      have hw := ezq_KI_ok (show ezq_KI.any (fun q => Nat.beq q.1 r.2.2.1 && (Nat.beq q.2.1 k0 && Nat.beq q.2.2.1 b)) = true from hlk)
      intro lsA H locs hl hH hL
      exact lv_ldcw hx hb hown (hts _ hw) hdg (gi h_199 rfl hl hH hL)
    | j + 1, h_200, hlk => exact absurd h_200 hbot
  case ldc2_w k0 =>
    replace hlk : (Nat.beq n 3 && (bif Nat.beq b 0 then ezq_KL.any (fun q => Nat.beq q.1 r.2.2.1 && (Nat.beq q.2.1 k0 && Nat.beq q.2.2.1 a)) else true)) = true := hlk
    rw [Bool.and_eq_true] at hlk
    obtain ⟨hn, hlk⟩ := hlk
    obtain rfl := Nat.eq_of_beq_eq_true hn
    match b, h, hlk with
    | 0, h_201, hlk =>
      have h_202 : T (go (pc + 3) ls (.inr (.inl (.inl a)) :: st)) := h_201
      have hw := ezq_KL_ok (show ezq_KL.any (fun q => Nat.beq q.1 r.2.2.1 && (Nat.beq q.2.1 k0 && Nat.beq q.2.2.1 a)) = true from hlk)
      intro lsA H locs hl hH hL
      exact lv_ldc2 hx hb hown (hts _ hw) hdg (gl h_202 rfl hl hH hL)
    | j + 1, h_203, hlk => exact absurd h_203 hbot
  case checkcast k0 =>
    replace hlk : (Nat.beq n 3 && (Nat.beq r.2.2.1 9 && Nat.beq k0 57)) = true := hlk
    simp only [Bool.and_eq_true] at hlk
    obtain ⟨hn, ho, hk⟩ := hlk
    obtain rfl := Nat.eq_of_beq_eq_true hn
    replace ho := Nat.eq_of_beq_eq_true ho
    obtain rfl := Nat.eq_of_beq_eq_true hk
    rw [ho] at hown
    have h_204 : T (ezq_p1 bot st fun p r => ezq_ar bot sz t p fun _ ty _ _ => bif Nat.beq ty 0 then go (pc + 3) ls (.inr (.inr p) :: r) else bot) := h
    obtain ⟨pp, rr, rfl, h_205⟩ := ezq_p1_ok hbot h_204
    obtain ⟨q, ty, nn, f, rfl, hq, ht, h_206⟩ := ezq_ar_ok hbot h_205
    obtain ⟨h1, h_207⟩ := ezq_bif_ok hbot h_206
    obtain rfl := Nat.eq_of_beq_eq_true h1
    intro lsA H locs hl hH hL
    obtain ⟨c1, c2, c3, c4⟩ := ezq_own hK hH hq ht
    exact va_castE hx hb hown (hts _ (ezq_wi_in ezq_sC7 rfl)) ⟨_, c1, rfl, (hKa 0 (by omega)).2⟩ hdg (hgo _ _ _ h_207 lsA H locs hl hH hL)
  case invokevirtual k0 =>
    replace hlk : (Nat.beq n 3 && (match (generalizing := false) kd with
            | 0 => ezq_isM ezq_M0 r.2.2.1 k0 a b 0 && ezq_caps a dd x
            | 8 => Nat.beq r.2.2.1 9 && Nat.beq k0 56
            | 9 => true
            | _ => false)) = true := hlk
    rw [Bool.and_eq_true] at hlk
    obtain ⟨hn, hlk⟩ := hlk
    obtain rfl := Nat.eq_of_beq_eq_true hn
    have h_208 : T (bif Nat.beq kd 8 then (ezq_p1 bot st fun p r2 => match p with
            | some (.inr 1) => ezq_al bot sz t cl sl r.2.2.2.2.2.2.1 r.2.2.2.2.2.2.2 11 (.inr (0, 11, fun j => ezq_kn (ezq_t1.getD j 0))) fun sz' t' cl' sl' => bif Nat.ble (ezq_cat r2) 8 then gh (pc + 3) (ezq_ow sz :: r2) sz' t' cl' sl' else bot
            | _ => bot) else ca) := h
    cases h8 : Nat.beq kd 8
    · rw [h8] at h_208
      exact hca h_208 (Or.inl ⟨k0, rfl⟩)
    · obtain rfl := Nat.eq_of_beq_eq_true h8
      replace hlk : (Nat.beq r.2.2.1 9 && Nat.beq k0 56) = true := hlk
      rw [Bool.and_eq_true] at hlk
      have ho := Nat.eq_of_beq_eq_true hlk.1
      obtain rfl := Nat.eq_of_beq_eq_true hlk.2
      rw [ho] at hown
      have h_209 : T (ezq_p1 bot st fun p r2 => match p with
            | some (.inr 1) => ezq_al bot sz t cl sl r.2.2.2.2.2.2.1 r.2.2.2.2.2.2.2 11 (.inr (0, 11, fun j => ezq_kn (ezq_t1.getD j 0))) fun sz' t' cl' sl' => bif Nat.ble (ezq_cat r2) 8 then gh (pc + 3) (ezq_ow sz :: r2) sz' t' cl' sl' else bot
            | _ => bot) := h_208
      obtain ⟨pp, rr, rfl, h_210⟩ := ezq_p1_ok hbot h_209
      split at h_210
      · obtain ⟨hs, hcl, hsl, h_211⟩ := ezq_al_ok hbot h_210
        obtain ⟨hcat, h_212⟩ := ezq_bif_ok hbot h_211
        replace hcat := Nat.le_of_ble_eq_true hcat
        intro lsA H locs hl hH hL
        obtain ⟨b1, f1, f2, f3, f4⟩ := hX1
        show W p l e R s m args below meth c H locs cl sl Q (F0 m pc lsA (ezq_dP B xa (some (.inr 1)) :: rr.map (ezq_d ρ B xa)))
        rw [show ezq_dP B xa (some (.inr 1)) = .ref b1 by simp [ezq_dP, f1]]
        obtain ⟨cell, y1, y2, y3, y4, y5⟩ := f2
        refine ezq_Wclone hx hb (by rw [hl.1, hml]) hown (hts _ (ezq_wi_in ezq_sC1 rfl)) (hts _ (ezq_wi_in ezq_sC2 rfl)) (hts _ (ezq_wi_in ezq_sC3 rfl)) (hts _ (ezq_wi_in ezq_sC4 rfl)) (hts _ (ezq_wi_in ezq_sC5 rfl)) (hKw _ (ezq_wi_tbl ezq_sC6) rfl) (hKa 0 (by omega)).1 (by rw [hH.2.2.2 b1 f3]; exact y1) y2 y3 y4 y5 (hKa 0 (by omega)).2 (ty := .int) (fun i v hv => ?_) (by omega) (by rw [ezq_sumcat]; omega) (by omega) (by omega) hdg ?_
        · have hi : i < 11 := by
            have := (Array.getElem?_eq_some_iff.mp hv).1
            rw [arrV_size] at this
            exact this
          rw [arrV_read _ _ hi] at hv
          cases hv
          rfl
        · rw [hH.2.1]
          refine hgh _ _ _ _ _ _ h_212 lsA _ locs hl (hH.push hs (by rw [Array.size_push]) (fun a ha => by rw [Array.getElem?_push, if_neg (Nat.ne_of_lt ha)]) ⟨by omega, by omega, ?_⟩) hL
          rw [← hH.2.1, Array.getElem?_push_size]
          rfl
      · exact absurd h_210 hbot
  case invokespecial k0 =>
    replace hlk : (Nat.beq n 3 && (match (generalizing := false) kd with
            | 1 => ezq_isM ezq_M1 r.2.2.1 k0 a b 1 && ezq_caps a dd x
            | 4 => ezq_isM ezq_M4 r.2.2.1 k0 a b 4 && ezq_caps a dd x
            | 5 => ezq_OIr.any (fun q => Nat.beq q.1 r.2.2.1 && Nat.beq q.2.1 k0)
            | 9 => true
            | _ => false)) = true := hlk
    rw [Bool.and_eq_true] at hlk
    obtain ⟨hn, hlk⟩ := hlk
    obtain rfl := Nat.eq_of_beq_eq_true hn
    have h_213 : T (bif Nat.beq kd 5 then (ezq_p1 bot st fun p r => match p with
            | some (.inl _) => bif Nat.ble (ezq_cat r) 8 then go (pc + 3) ls r else bot
            | _ => bot) else ca) := h
    cases h5 : Nat.beq kd 5
    · rw [h5] at h_213
      exact hca h_213 (Or.inr (Or.inl ⟨k0, rfl⟩))
    · obtain rfl := Nat.eq_of_beq_eq_true h5
      have hw := ezq_OI_ok (show ezq_OIr.any (fun q => Nat.beq q.1 r.2.2.1 && Nat.beq q.2.1 k0) = true from hlk)
      have h_214 : T (ezq_p1 bot st fun p r => match p with
            | some (.inl _) => bif Nat.ble (ezq_cat r) 8 then go (pc + 3) ls r else bot
            | _ => bot) := h_213
      obtain ⟨pp, rr, rfl, h_215⟩ := ezq_p1_ok hbot h_214
      rcases pp with _ | q | i
      · exact absurd h_215 hbot
      · obtain ⟨hcat, h_216⟩ := ezq_bif_ok hbot h_215
        replace hcat := Nat.le_of_ble_eq_true hcat
        intro lsA H locs hl hH hL
        exact W.objInit hx hb hown (hts _ hw) (hts _ (ezq_wi_in ezq_sO1 rfl)) (hts _ (ezq_in ezq_sO2 rfl)) rfl (by rw [hml]; exact hl.1) rfl hdg (by omega) (by show 2 * 0 + _ + 12 ≤ _; rw [ezq_sumcat]; omega) (hgo _ _ _ h_216 lsA H locs hl hH hL)
      · exact absurd h_215 hbot
  case invokestatic k0 =>
    replace hlk : (Nat.beq n 3 && (match (generalizing := false) kd with
            | 2 => ezq_isM ezq_M2 r.2.2.1 k0 a b 2 && ezq_caps a dd x
            | 3 => ezq_isM ezq_M3 r.2.2.1 k0 a b 3 && ezq_caps a dd x
            | 7 => ezq_MX.any (fun q => Nat.beq q.1 r.2.2.1 && (Nat.beq q.2.1 k0 && Nat.beq q.2.2.1 a))
            | 9 => true
            | _ => false)) = true := hlk
    rw [Bool.and_eq_true] at hlk
    obtain ⟨hn, hlk⟩ := hlk
    obtain rfl := Nat.eq_of_beq_eq_true hn
    have h_217 : T (bif Nat.beq kd 7 then (bif Nat.ble (ezq_cat st) 8 && (Nat.ble cl r.2.2.2.2.2.2.1 && Nat.ble sl r.2.2.2.2.2.2.2) then (match (generalizing := false) a with
            | 0 => ezq_b2 bot (fun x y => if x < y then y else x) st fun z r => go (pc + 3) ls (.inl z :: r)
            | 1 => ezq_b2 bot (fun x y => if y < x then y else x) st fun z r => go (pc + 3) ls (.inl z :: r)
            | 2 => ezq_i1 bot st fun y r => ezq_fi (ezq_o1 (fun x => if 0 ≤ x then x else 0 - x) y) fun z => go (pc + 3) ls (.inl z :: r)
            | 3 => ezq_bl bot (fun x y => if y < x then x else y) st fun z r => go (pc + 3) ls (.inr (.inl z) :: r)
            | _ => bot) else bot) else ca) := h
    cases h7 : Nat.beq kd 7
    · rw [h7] at h_217
      exact hca h_217 (Or.inr (Or.inr ⟨k0, rfl⟩))
    · obtain rfl := Nat.eq_of_beq_eq_true h7
      have h_218 : T (bif Nat.ble (ezq_cat st) 8 && (Nat.ble cl r.2.2.2.2.2.2.1 && Nat.ble sl r.2.2.2.2.2.2.2) then (match (generalizing := false) a with
            | 0 => ezq_b2 bot (fun x y => if x < y then y else x) st fun z r => go (pc + 3) ls (.inl z :: r)
            | 1 => ezq_b2 bot (fun x y => if y < x then y else x) st fun z r => go (pc + 3) ls (.inl z :: r)
            | 2 => ezq_i1 bot st fun y r => ezq_fi (ezq_o1 (fun x => if 0 ≤ x then x else 0 - x) y) fun z => go (pc + 3) ls (.inl z :: r)
            | 3 => ezq_bl bot (fun x y => if y < x then x else y) st fun z r => go (pc + 3) ls (.inr (.inl z) :: r)
            | _ => bot) else bot) := h_217
      obtain ⟨hc8, h_219⟩ := ezq_bif_ok hbot h_218
      simp only [Bool.and_eq_true] at hc8
      have hcat := Nat.le_of_ble_eq_true hc8.1
      have hcl := Nat.le_of_ble_eq_true hc8.2.1
      have hsl := Nat.le_of_ble_eq_true hc8.2.2
      intro lsA H locs hl hH hL
      match a, h_219, hlk with
      | 0, h_220, hlk =>
        have h_221 : T (ezq_b2 bot (fun x y => if x < y then y else x) st fun z r => go (pc + 3) ls (.inl z :: r)) := h_220
        obtain ⟨y, x1, rr, rfl, h_222⟩ := ezq_b2_ok hbot h_221
        replace hcat : 1 + (1 + ezq_cat rr) ≤ 8 := hcat
        have hmx := ezq_MX_ok (show ezq_MX.any (fun q => Nat.beq q.1 r.2.2.1 && (Nat.beq q.2.1 k0 && Nat.beq q.2.2.1 0)) = true from hlk) (by omega)
        have hms := ezq_MXw 0 (by omega)
        exact va_mmax hx hb (by rw [hl.1, hml]) hown (hts _ hmx) (hts _ (ezq_wi_in hms.2 rfl)) (hts _ (ezq_wi_in ezq_MXini rfl)) (hts _ (ezq_wi_in hms.1 rfl)) (by omega) (by rw [ezq_sumcat]; omega) (by omega) (by omega) hdg (gi h_222 (ezq_o2_d (ρ := ρ) (fun x y => if x < y then y else x) x1 y) hl hH hL)
      | 1, h_223, hlk =>
        have h_224 : T (ezq_b2 bot (fun x y => if y < x then y else x) st fun z r => go (pc + 3) ls (.inl z :: r)) := h_223
        obtain ⟨y, x1, rr, rfl, h_225⟩ := ezq_b2_ok hbot h_224
        replace hcat : 1 + (1 + ezq_cat rr) ≤ 8 := hcat
        have hmx := ezq_MX_ok (show ezq_MX.any (fun q => Nat.beq q.1 r.2.2.1 && (Nat.beq q.2.1 k0 && Nat.beq q.2.2.1 1)) = true from hlk) (by omega)
        have hms := ezq_MXw 1 (by omega)
        exact va_mmin hx hb (by rw [hl.1, hml]) hown (hts _ hmx) (hts _ (ezq_wi_in hms.2 rfl)) (hts _ (ezq_wi_in ezq_MXini rfl)) (hts _ (ezq_wi_in hms.1 rfl)) (by omega) (by rw [ezq_sumcat]; omega) (by omega) (by omega) hdg (gi h_225 (ezq_o2_d (ρ := ρ) (fun x y => if y < x then y else x) x1 y) hl hH hL)
      | 2, h_226, hlk =>
        obtain ⟨y, rr, rfl, h_227⟩ := ezq_i1_ok hbot (show T (ezq_i1 bot st fun y r => ezq_fi (ezq_o1 (fun x => if 0 ≤ x then x else 0 - x) y) fun z => go (pc + 3) ls (.inl z :: r)) from h_226)
        rw [ezq_fi_eq] at h_227
        replace hcat : 1 + ezq_cat rr ≤ 8 := hcat
        have hmx := ezq_MX_ok (show ezq_MX.any (fun q => Nat.beq q.1 r.2.2.1 && (Nat.beq q.2.1 k0 && Nat.beq q.2.2.1 2)) = true from hlk) (by omega)
        have hms := ezq_MXw 2 (by omega)
        exact va_mabs hx hb (by rw [hl.1, hml]) hown (hts _ hmx) (hts _ (ezq_wi_in hms.2 rfl)) (hts _ (ezq_wi_in ezq_MXini rfl)) (hts _ (ezq_wi_in hms.1 rfl)) (by omega) (by rw [ezq_sumcat]; omega) (by omega) (by omega) hdg (gi h_227 (ezq_o1_d (ρ := ρ) (fun x => if 0 ≤ x then x else 0 - x) y) hl hH hL)
      | 3, h_229x, hlk =>
        have h_229y : T (ezq_bl bot (fun x y => if y < x then x else y) st fun z r => go (pc + 3) ls (.inr (.inl z) :: r)) := h_229x
        obtain ⟨y, x1, rr, rfl, h_229z⟩ := ezq_bl_ok hbot h_229y
        replace hcat : 2 + (2 + ezq_cat rr) ≤ 8 := hcat
        have hmx := ezq_MX_ok (show ezq_MX.any (fun q => Nat.beq q.1 r.2.2.1 && (Nat.beq q.2.1 k0 && Nat.beq q.2.2.1 3)) = true from hlk) (by omega)
        have hms := ezq_MXw 3 (by omega)
        exact va_mmax_long hx hb (by rw [hl.1, hml]) hown (hts _ hmx) (hts _ (ezq_wi_in hms.2 rfl)) (hts _ (ezq_wi_in ezq_MXini rfl)) (hts _ (ezq_wi_in hms.1 rfl)) (by omega) (by rw [ezq_sumcat]; omega) (by omega) (by omega) hdg (gl h_229z (ezq_l2_d (ρ := ρ) (fun x y => if y < x then x else y) x1 y) hl hH hL)
      | j + 4, h_228, hlk => exact absurd h_228 hbot
  case ireturn =>
    have hn := Nat.eq_of_beq_eq_true (show Nat.beq n 1 = true from hlk)
    have h_229 : T (ezq_i1 bot st fun y r => match r with
          | [] => re (some (.inl y))
          | _ => bot) := h
    obtain ⟨y, rr, rfl, h_230⟩ := ezq_i1_ok hbot h_229
    cases rr with
    | nil => exact hre _ h_230 rfl (Or.inr (Or.inl ⟨y, rfl, rfl⟩)) hn
    | cons a b => exact absurd h_230 hbot
  case lreturn =>
    have hn := Nat.eq_of_beq_eq_true (show Nat.beq n 1 = true from hlk)
    have h_231 : T (ezq_j1 bot st fun y r => match r with
          | [] => re (some (.inr (.inl y)))
          | _ => bot) := h
    obtain ⟨y, rr, rfl, h_232⟩ := ezq_j1_ok hbot h_231
    cases rr with
    | nil => exact hre _ h_232 rfl (Or.inr (Or.inr ⟨y, rfl, rfl⟩)) hn
    | cons a b => exact absurd h_232 hbot
  case return_ =>
    have hn := Nat.eq_of_beq_eq_true (show Nat.beq n 1 = true from hlk)
    cases st with
    | nil => exact hre _ h rfl (Or.inl ⟨rfl, rfl⟩) hn
    | cons a b => exact absurd h hbot
  all_goals exact absurd h hbot
end KST
