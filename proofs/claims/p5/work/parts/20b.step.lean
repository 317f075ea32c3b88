/-! ===== by hand: a row an instruction ===== -/
def ezw_i (i : Int) : ezq_V := .inl (.inl (ezw_z i))
def ezw_l (i : Int) : ezq_V := .inr (.inl (.inl (ezw_zl i)))
def ezw_p (q : Nat) : ezq_V := .inr (.inr (some (.inl q)))
/-- rows of ints, of longs, of truths -/
def ezw_ca (n : Nat) (a : Int → Int) : ezq_C := .inr (0, n, fun k => ezw_i (a (k : Int)))
def ezw_cl (n : Nat) (a : Int → Int) : ezq_C := .inr (1, n, fun k => ezw_l (a (k : Int)))
def ezw_cb (n : Nat) (a : Int → Int) : ezq_C := .inr (2, n, fun k => ezw_i (a (k : Int)))
def ezw_co (ci : Nat) (fs : List ezq_V) : ezq_C := .inl (ci, fs)
/-- the fields of the classes: references by rf, numbers by f -/
def ezw_flds (ci : Nat) (rf : Nat → Nat) (f : Nat → Int) : List ezq_V := match ci with
  | 0 => [ezw_p (rf 0), ezw_p (rf 1), ezw_p (rf 2), ezw_i (f 3)]
  | 1 => [ezw_p (rf 0), ezw_p (rf 1), ezw_l (f 2), ezw_i (f 3), ezw_i (f 4), ezw_i (f 5)]
  | 2 => [ezw_p (rf 0), ezw_i (f 1)]
  | 3 => [ezw_p (rf 0), ezw_p (rf 1), ezw_p (rf 2), ezw_i (f 3), ezw_i (f 4), ezw_i (f 5)]
  | 4 => [ezw_i (f 0), ezw_i (f 1), ezw_i (f 2), ezw_i (f 3), ezw_i (f 4), ezw_i (f 5), ezw_i (f 6), ezw_p (rf 7), ezw_p (rf 8)]
  | 5 => [ezw_p (rf 0), ezw_p (rf 1), ezw_p (rf 2), ezw_i (f 3), ezw_i (f 4)]
  | 6 => [ezw_p (rf 0), ezw_p (rf 1), ezw_i (f 2), ezw_i (f 3)]
  | 7 => [ezw_p (rf 0), ezw_p (rf 1), ezw_i (f 2), ezw_i (f 3), ezw_i (f 4), ezw_i (f 5), ezw_i (f 6), ezw_l (f 7), ezw_i (f 8), ezw_i (f 9)]
  | 8 => [ezw_p (rf 0)]
  | 9 => [ezw_p (rf 0), ezw_p (rf 1), ezw_p (rf 2), ezw_p (rf 3), ezw_p (rf 4), ezw_p (rf 5), ezw_p (rf 6), ezw_p (rf 7), ezw_p (rf 8), ezw_p (rf 9), ezw_p (rf 10), ezw_p (rf 11), ezw_p (rf 12), ezw_p (rf 13), ezw_p (rf 14), ezw_i (f 15), ezw_i (f 16), ezw_i (f 17)]
  | 10 => [ezw_p (rf 0), ezw_p (rf 1), ezw_i (f 2)]
  | 11 => [ezw_p (rf 0), ezw_p (rf 1), ezw_p (rf 2), ezw_p (rf 3), ezw_p (rf 4), ezw_p (rf 5), ezw_p (rf 6), ezw_p (rf 7), ezw_p (rf 8), ezw_p (rf 9), ezw_p (rf 10)]
  | 12 => [ezw_i (f 0), ezw_p (rf 1), ezw_i (f 2), ezw_i (f 3), ezw_p (rf 4), ezw_p (rf 5), ezw_p (rf 6), ezw_i (f 7), ezw_i (f 8), ezw_p (rf 9), ezw_p (rf 10), ezw_p (rf 11), ezw_p (rf 12), ezw_i (f 13), ezw_p (rf 14), ezw_p (rf 15), ezw_p (rf 16), ezw_p (rf 17), ezw_i (f 18), ezw_i (f 19), ezw_i (f 20), ezw_p (rf 21), ezw_p (rf 22), ezw_p (rf 23), ezw_p (rf 24), ezw_i (f 25), ezw_p (rf 26), ezw_p (rf 27), ezw_p (rf 28), ezw_i (f 29), ezw_i (f 30), ezw_i (f 31), ezw_p (rf 32), ezw_p (rf 33), ezw_p (rf 34), ezw_p (rf 35), ezw_i (f 36), ezw_l (f 37), ezw_i (f 38)]
  | _ => []
def ezw_obj (ci : Nat) (rf : Nat → Nat) (f : Nat → Int) : ezq_C := ezw_co ci (ezw_flds ci rf f)
def ezw_fu (f : Nat → Int) (k : Nat) (v : Int) : Nat → Int := fun j => if j = k then v else f j
def ezw_ru (f : Nat → Nat) (k v : Nat) : Nat → Nat := fun j => if j = k then v else f j
def ezw_au (a : Int → Int) (i v : Int) : Int → Int := fun k => if k = i then v else a k
def ezw_at (r : ezq_R) (pc : Nat) : Option ezq_Y := bif Nat.blt pc 100000 then r.1 pc else none
noncomputable def ezw_lk (ls : ezq_S) (i : Nat) : Option ezq_V := List.rec (motive := fun _ => Option ezq_V) none (fun q _ ih => bif Nat.beq q.1 i then some q.2 else ih) ls
def ezw_has (ls' : ezq_S) (ls : List (Option ezq_V)) : Prop := ∀ (i : Nat) (v : ezq_V), ls[i]? = some (some v) → ezw_lk ls' i = some v
/-- a place behind which no long lies over it -/
def ezw_nl (ls : List (Option ezq_V)) (i : Nat) : Bool := match i with
  | 0 => true
  | j + 1 => match ls[j]? with
    | some (some v) => !(ezq_c2 v)
    | _ => true
theorem ezw_at_ok {r : ezq_R} {pc : Nat} {e : ezq_Y} (h : ezw_at r pc = some e) : r.1 pc = some e ∧ pc < 100000 := by
  unfold ezw_at at h
  cases hb : Nat.blt pc 100000
  · rw [hb] at h
    cases h
  · rw [hb] at h
    exact ⟨h, ezq_bltT hb⟩
theorem ezw_lo_lk {bot : Prop} (ls : ezq_S) (i : Nat) (v : ezq_V) (k : ezq_V → Prop) : ezw_lk ls i = some v → ezq_lo bot ls i k = k v := by
  induction ls with
  | nil => intro h; cases h
  | cons q r ih =>
    intro h
    have h : (bif Nat.beq q.1 i then some q.2 else ezw_lk r i) = some v := h
    show (bif Nat.beq q.1 i then k q.2 else ezq_lo bot r i k) = k v
    cases hb : Nat.beq q.1 i
    · rw [hb] at h
      exact ih h
    · rw [hb] at h
      cases h
      rfl
theorem ezw_lk_fil {p : Nat × ezq_V → Bool} {j : Nat} {v : ezq_V} (hp : ∀ q : Nat × ezq_V, q.1 = j → q.2 = v → p q = true) (ls : ezq_S) : ezw_lk ls j = some v → ezw_lk (ls.filter p) j = some v := by
  induction ls with
  | nil => intro h; cases h
  | cons q r ih =>
    intro h
    have h : (bif Nat.beq q.1 j then some q.2 else ezw_lk r j) = some v := h
    cases hb : Nat.beq q.1 j
    · rw [hb] at h
      cases hq : p q
      · rw [List.filter_cons_of_neg (by rw [hq]; decide)]
        exact ih h
      · rw [List.filter_cons_of_pos hq]
        show (bif Nat.beq q.1 j then some q.2 else ezw_lk (r.filter p) j) = some v
        rw [hb]
        exact ih h
    · rw [hb] at h
      have e : q.2 = v := by
        have h : some q.2 = some v := h
        exact Option.some.inj h
      rw [List.filter_cons_of_pos (hp q (Nat.eq_of_beq_eq_true hb) e)]
      show (bif Nat.beq q.1 j then some q.2 else ezw_lk (r.filter p) j) = some v
      rw [hb, e]
      rfl
theorem ezw_beqF {a b : Nat} (h : a ≠ b) : Nat.beq a b = false := by
  cases hb : Nat.beq a b
  · rfl
  · exact absurd (Nat.eq_of_beq_eq_true hb) h
theorem ezw_has1 {ls' : ezq_S} {ls : List (Option ezq_V)} {i : Nat} {v : ezq_V} (h : ezw_has ls' ls) (hn : ezw_nl ls i = true) : ezw_has ((i, v) :: ls'.filter (ezq_f1 i)) (ls.set i (some v)) := by
  intro j w hj
  show (bif Nat.beq i j then some v else ezw_lk (ls'.filter (ezq_f1 i)) j) = some w
  by_cases e : i = j
  · subst e
    rw [Nat.beq_refl]
    rw [List.getElem?_set] at hj
    rw [if_pos rfl] at hj
    split at hj
    · have := Option.some.inj (Option.some.inj hj)
      rw [this]
      rfl
    · cases hj
  · rw [ezw_beqF e]
    rw [List.getElem?_set, if_neg e] at hj
    refine ezw_lk_fil (fun q e1 e2 => ?_) ls' (h j w hj)
    unfold ezq_f1
    rw [ezw_beqF (by omega)]
    show (bif Nat.beq (Nat.succ q.1) i then !(ezq_c2 q.2) else true) = true
    cases hb : Nat.beq (Nat.succ q.1) i
    · rfl
    · have hi := Nat.eq_of_beq_eq_true hb
      rw [← hi, e1] at hn
      have hn : (match ls[j]? with
        | some (some v) => !(ezq_c2 v)
        | _ => true) = true := hn
      rw [hj] at hn
      show (!(ezq_c2 q.2)) = true
      rw [e2]
      exact hn
theorem ezw_has2 {ls' : ezq_S} {ls : List (Option ezq_V)} {i : Nat} {v : ezq_V} (h : ezw_has ls' ls) (hn : ezw_nl ls i = true) : ezw_has ((i, v) :: ls'.filter (ezq_f2 i)) ((ls.set i (some v)).set (i + 1) none) := by
  intro j w hj
  show (bif Nat.beq i j then some v else ezw_lk (ls'.filter (ezq_f2 i)) j) = some w
  rw [List.getElem?_set] at hj
  by_cases e2 : i + 1 = j
  · rw [if_pos e2] at hj
    split at hj
    · cases hj
    · cases hj
  · rw [if_neg e2] at hj
    by_cases e : i = j
    · subst e
      rw [Nat.beq_refl]
      rw [List.getElem?_set, if_pos rfl] at hj
      split at hj
      · have := Option.some.inj (Option.some.inj hj)
        rw [this]
        rfl
      · cases hj
    · rw [ezw_beqF e]
      rw [List.getElem?_set, if_neg e] at hj
      refine ezw_lk_fil (fun q e1 e3 => ?_) ls' (h j w hj)
      unfold ezq_f2
      rw [ezw_beqF (by omega), ezw_beqF (show q.1 ≠ Nat.succ i by omega)]
      show (bif Nat.beq (Nat.succ q.1) i then !(ezq_c2 q.2) else true) = true
      cases hb : Nat.beq (Nat.succ q.1) i
      · rfl
      · have hi := Nat.eq_of_beq_eq_true hb
        rw [← hi, e1] at hn
        have hn : (match ls[j]? with
          | some (some v) => !(ezq_c2 v)
          | _ => true) = true := hn
        rw [hj] at hn
        show (!(ezq_c2 q.2)) = true
        rw [e3]
        exact hn
theorem ezw_aup {a : Int → Int} {f : Int → ezq_V} {i v : Int} (h : 0 ≤ i) : ezq_aup (fun k : Nat => f (a (k : Int))) i.toNat (f v) = fun k : Nat => f (ezw_au a i v (k : Int)) := by
  funext k
  show (bif Nat.beq k i.toNat then f v else f (a (k : Int))) = f (if (k : Int) = i then v else a (k : Int))
  cases hb : Nat.beq k i.toNat
  · have : k ≠ i.toNat := fun e => by rw [e, Nat.beq_refl] at hb; cases hb
    rw [if_neg (by omega)]
    rfl
  · have := Nat.eq_of_beq_eq_true hb
    rw [if_pos (by omega)]
    rfl
theorem ezw_bleF {a b : Nat} (h : b < a) : Nat.ble a b = false := by
  cases hb : Nat.ble a b
  · rfl
  · have := Nat.le_of_ble_eq_true hb
    omega
theorem ezw_popeq {bot : Prop} (as : List ezq_V) (k : List ezq_V → List ezq_V → Prop) : ∀ (n : Nat), as.length = n → ∀ {rest : List ezq_V}, ezq_pop bot n (as.reverse ++ rest) [] k = k as rest := by
  have gen : ∀ (bs acc rest : List ezq_V), ezq_pop bot bs.length (bs ++ rest) acc k = k (bs.reverse ++ acc) rest := by
    intro bs
    induction bs with
    | nil => intro acc rest; rfl
    | cons b bs ih =>
      intro acc rest
      show ezq_pop bot bs.length (bs ++ rest) (b :: acc) k = _
      rw [ih (b :: acc) rest, List.reverse_cons, List.append_assoc]
      rfl
  intro n hn rest
  have := gen as.reverse [] rest
  rw [List.length_reverse, hn, List.reverse_reverse, List.append_nil] at this
  exact this
def ezw_vs (v : Option ezq_V) (st : List ezq_V) : List ezq_V := match v with
  | none => st
  | some v => v :: st
def ezw_pos (as : List ezq_V) : List (Option ezq_V) := match as with
  | [] => []
  | v :: r => some v :: (bif ezq_c2 v then none :: ezw_pos r else ezw_pos r)
theorem ezw_posok1 (as : List ezq_V) (k : Nat) : ∀ o i v, (ezw_pos as ++ List.replicate k none)[i]? = some (some v) → ezw_lk (ezq_args o as) (o + i) = some v := by
  induction as with
  | nil =>
    intro o i v h
    rw [show ezw_pos [] = [] from rfl, List.nil_append, List.getElem?_replicate] at h
    split at h <;> cases h
  | cons w r ih =>
    intro o i v h
    show (bif Nat.beq o (o + i) then some w else ezw_lk (ezq_args (bif ezq_c2 w then o + 2 else o + 1) r) (o + i)) = some v
    cases i with
    | zero =>
      rw [Nat.add_zero, Nat.beq_refl]
      exact Option.some.inj h
    | succ i =>
      rw [ezw_beqF (by omega), cond_false]
      have h : ((bif ezq_c2 w then none :: ezw_pos r else ezw_pos r) ++ List.replicate k none)[i]? = some (some v) := h
      cases hc : ezq_c2 w
      · rw [hc] at h
        have := ih (o + 1) i v h
        rw [show o + 1 + i = o + (i + 1) by omega] at this
        exact this
      · rw [hc] at h
        cases i with
        | zero => cases h
        | succ i =>
          have := ih (o + 2) i v h
          rw [show o + 2 + i = o + (i + 1 + 1) by omega] at this
          exact this
theorem ezw_posok (as : List ezq_V) (k : Nat) : ezw_has (ezq_args 0 as) (ezw_pos as ++ List.replicate k none) := by
  intro i v h
  have := ezw_posok1 as k 0 i v h
  rw [Nat.zero_add] at this
  exact this
/-! the run -/
/-- all that the symbols are is known -/
def ezw_G (ρ : ezq_E) : ezq_G := fun k => (ezq_off (ρ k), ezq_off (ρ k))
theorem ezw_offz (x : Int32) : (ezq_off x + 2147483648) % 4294967296 = ezw_z x.toInt := by
  have h1 := Int32.le_toInt x
  have h2 := Int32.toInt_lt x
  unfold ezq_off ezw_z
  omega
def ezw_nm0 (n : Nat) : ezq_I := .inl ((n + 2147483648) % 4294967296)
theorem ezw_nmk {ρ : ezq_E} {k : Nat} : ezq_nm (ezw_G ρ) (.inr (.inl k)) = .inl (ezw_z (ρ k).toInt) := by
  have e : ezq_nm (ezw_G ρ) (.inr (.inl k)) = bif Nat.beq (ezq_off (ρ k)) (ezq_off (ρ k)) then ezw_nm0 (ezq_off (ρ k)) else .inr (.inl k) := rfl
  rw [e, Nat.beq_refl, cond_true]
  exact congrArg Sum.inl (ezw_offz (ρ k))
theorem ezw_slok {ρ : ezq_E} {m L : Nat} (h : m < L) (hL : L ≤ 3584) (hρ : ρ 8 = Int32.ofNat L) : ezq_sl m (ezw_G ρ 8) = true := by
  have e : (ezw_G ρ 8).1 = ezq_off (ρ 8) := rfl
  unfold ezq_sl
  rw [e, hρ, ezq_offN (by omega)]
  exact Nat.ble_eq_true_of_le (by omega)
theorem ezw_onne {u v : Nat} (hu : u < 4294967296) (hv : v < 4294967296) (h : v ≠ u) : ezq_on u ≠ ezq_on v := by
  unfold ezq_on
  omega
theorem ezw_swl {ρ : ezq_E} {fk : (ezq_E → Bool) → Prop → Prop → Prop} {u : Nat} (hu : u < 4294967296) (tg : ezq_G → Int → Prop) (dff : ezq_G → Prop) (ps : List (Int × Int)) : (match ps.find? (fun q => decide (ezw_z q.1 = u)) with | some q => tg (ezw_G ρ) q.2 | none => dff (ezw_G ρ)) → ezq_swl fk (.inl u) tg dff ps (ezw_G ρ) := by
  induction ps with
  | nil => intro h; exact h
  | cons q ps ih =>
    intro h
    show ezq_cmp fk (ezw_G ρ) .eq (.inl u) (ezq_k (Int32.ofInt q.1)) (fun Γ => tg Γ q.2) (fun Γ => ezq_swl fk (.inl u) tg dff ps Γ)
    rw [ezw_zk]
    have hl2 := ezw_zlt q.1
    generalize hv : ezw_z q.1 = v at hl2
    show (bif Nat.beq (ezq_on u) (ezq_on v) then tg (ezw_G ρ) q.2 else ezq_swl fk (.inl u) tg dff ps (ezw_G ρ))
    cases hd : Nat.beq v u
    · have hne : v ≠ u := fun e => by rw [e, Nat.beq_refl] at hd; cases hd
      rw [ezw_beqF (ezw_onne hu hl2 hne)]
      rw [List.find?_cons_of_neg (by show ¬ decide (ezw_z q.1 = u) = true; rw [hv, decide_eq_false hne]; decide)] at h
      exact ih h
    · have he := Nat.eq_of_beq_eq_true hd
      rw [List.find?_cons_of_pos (by show decide (ezw_z q.1 = u) = true; rw [hv, decide_eq_true he])] at h
      rw [he, Nat.beq_refl]
      exact h
/-- cells and elements that a method's run has made when it is looked at: the law has made all objects, the others nothing -/
def ezw_kc (r : ezq_R) : Nat := Nat.min (bif Nat.beq r.2.1 1000000 then 100 else 0) r.2.2.2.2.2.2.1
def ezw_ks (r : ezq_R) : Nat := Nat.min (bif Nat.beq r.2.1 1000000 then 100000 else 0) r.2.2.2.2.2.2.2
theorem ezw_kc_ok (r : ezq_R) : Nat.ble (ezw_kc r) r.2.2.2.2.2.2.1 = true := Nat.ble_eq_true_of_le (Nat.min_le_right _ _)
theorem ezw_ks_ok (r : ezq_R) : Nat.ble (ezw_ks r) r.2.2.2.2.2.2.2 = true := Nat.ble_eq_true_of_le (Nat.min_le_right _ _)
def ezw_fk (ρ : ezq_E) : (ezq_E → Bool) → Prop → Prop → Prop := fun c a b => (c ρ = true → a) ∧ (c ρ = false → b)
def ezw_hk (l : Launch) (ρ : ezq_E) (B : Nat) (xa : Nat → Option Nat) (Hb : Heap) (D : va_G) (cA : Nat → ClassId) : ezq_HT Prop := fun _ a d Γ as sz t K => ezq_okG ρ Γ → ∀ (Hr : Heap) (fn : Nat → Option ezq_Y) (pb o2 : Nat) (y : MethodName) (mL : Nat) (ret : Option FieldType) (mc ms : Nat),
  ezq_sel a = (fn, pb, o2, y, mL, ret, mc, ms) → plainName y.cls = true → y.cls = ezq_cn o2 → ezq_cat as ≤ mL →
  Met l y (.code y (ezq_byt pb) mL ret :: ezq_T0) ({ frames := 1 + d, cells := mc, slots := ms, locals := 40 + d * 100 }) (va_Pc (as.map (ezq_d ρ B xa)) (fun U => ezq_HR ρ B xa Hb D cA Hr sz t U.heap ∧ ezq_K ρ B xa Hb D cA U)) (ezq_Qc (fun P : Prop => P) ρ B xa Hb D cA Hr K) mc ms (ezq_no B)
section KWr
variable {l : Launch} {ρ : ezq_E} {B : Nat} {xa : Nat → Option Nat} {Hb : Heap} {D : va_G} {cA : Nat → ClassId}
theorem ezw_prun (n : Nat) : ∀ Hr : Heap, ezq_Ru False (ezw_fk ρ) (ezw_hk l ρ B xa Hb D cA) (fun P : Prop => P) l ρ B xa Hb D cA Hr n :=
  ezq_run_ok (fun h => h) (fun c a b h => h) (fun n ih Hr a d Γ as sz t K fn pb o2 y mL ret mc ms hr h hG hpl hcl hcat => h hG Hr fn pb o2 y mL ret mc ms hr hpl hcl hcat) n
def ezw_K (K : Option ezq_V → (Nat → ezq_C) → Prop) : ezq_KK Prop := fun _ v sz t => sz = 96 ∧ ∃ g, t = ezw_T 7 g 0 ∧ K v g
variable (l ρ B xa Hb D cA)
def ezw_run (n d : Nat) (r : ezq_R) (K : Option ezq_V → (Nat → ezq_C) → Prop) (pc : Nat) (ls : ezq_S) (st : List ezq_V) (g : Nat → ezq_C) : Prop :=
  ezq_run False (ezw_fk ρ) (ezw_hk l ρ B xa Hb D cA) n d (ezw_G ρ) r pc ls st 96 (ezw_T 7 g 0) (ezw_kc r) (ezw_ks r) 1000000000 (fun _ _ _ _ _ _ _ => False) (ezw_K K)
abbrev ezw_Q (v0 : Option ezq_V) (g0 : Nat → ezq_C) : Option ezq_V → (Nat → ezq_C) → Prop := fun v g => v0 = v ∧ g0 = g
def ezw_Kq (v0 : Option ezq_V) (g0 : Nat → ezq_C) : Option ezq_V → (Nat → ezq_C) → Prop := fun v g => v = v0 ∧ g = g0
/-- from here on the method ends, with what P says of its answer and of the cells -/
def ezw_E (d : Nat) (r : ezq_R) (P : Option ezq_V → (Nat → ezq_C) → Prop) (pc : Nat) (ls : List (Option ezq_V)) (st : List ezq_V) (g : Nat → ezq_C) : Prop :=
  ∃ n v0 g0, P v0 g0 ∧ ∀ ls', ezw_has ls' ls → ezw_run l ρ B xa Hb D cA n d r (ezw_Kq v0 g0) pc ls' st g
/-- a call: the method a of these arguments over these cells, at depth d, ends with K -/
def ezw_M (a d : Nat) (as : List ezq_V) (g : Nat → ezq_C) (K : Option ezq_V → (Nat → ezq_C) → Prop) : Prop :=
  ∀ (Hr : Heap) (fn : Nat → Option ezq_Y) (pb o2 : Nat) (y : MethodName) (mL : Nat) (ret : Option FieldType) (mc ms : Nat),
  ezq_sel a = (fn, pb, o2, y, mL, ret, mc, ms) → plainName y.cls = true → y.cls = ezq_cn o2 → ezq_cat as ≤ mL →
  Met l y (.code y (ezq_byt pb) mL ret :: ezq_T0) ({ frames := 1 + d, cells := mc, slots := ms, locals := 40 + d * 100 }) (va_Pc (as.map (ezq_d ρ B xa)) (fun U => ezq_HR ρ B xa Hb D cA Hr 96 (ezw_T 7 g 0) U.heap ∧ ezq_K ρ B xa Hb D cA U)) (ezq_Qc (fun P : Prop => P) ρ B xa Hb D cA Hr (ezw_K K)) mc ms (ezq_no B)
/-- a contract: the method a, of these arguments over these cells, at depth d, ends, with what P says -/
def ezw_C (a d : Nat) (as : List ezq_V) (g : Nat → ezq_C) (P : Option ezq_V → (Nat → ezq_C) → Prop) : Prop := ∃ v0 g0, P v0 g0 ∧ ezw_M l ρ B xa Hb D cA a d as g (ezw_Kq v0 g0)
variable {l ρ B xa Hb D cA}
variable {d : Nat} {r : ezq_R} {K P : Option ezq_V → (Nat → ezq_C) → Prop} {pc : Nat} {ls : List (Option ezq_V)} {st : List ezq_V} {g : Nat → ezq_C}
theorem ezw_gfok : ezq_okG ρ (ezw_G ρ) := fun k => ⟨Nat.le_refl _, Nat.le_refl _⟩
/-- a method's contract out of its run -/
theorem ezw_met {a k : Nat} {as : List ezq_V} (hr : ezq_sel a = r) (hl : Nat.beq r.2.1 1000000 = false) (h : ezw_E l ρ B xa Hb D cA d r P 0 (ezw_pos as ++ List.replicate k none) [] g) : ezw_C l ρ B xa Hb D cA a d as g P := by
  obtain ⟨n, v0, g0, hP, h⟩ := h
  refine ⟨v0, g0, hP, ?_⟩
  intro Hr fn pb o2 y mL ret mc ms hs hpl hcl hc
  have hGc := ezq_good a
  have k1 : ezw_kc r = 0 := by
    unfold ezw_kc
    rw [hl]
    exact Nat.zero_min _
  have k2 : ezw_ks r = 0 := by
    unfold ezw_ks
    rw [hl]
    exact Nat.zero_min _
  have h1 := h _ (ezw_posok as k)
  unfold ezw_run at h1
  rw [k1, k2] at h1
  clear k1 k2 hl
  subst hr
  rw [hs] at hGc h1
  exact ezq_met (fun h => h) (ezw_prun n Hr) hGc hpl hcl (fun _ _ _ _ _ _ _ h => h) h1 ezw_gfok hc
theorem ezw_Cmono {a : Nat} {as : List ezq_V} {P2 : Option ezq_V → (Nat → ezq_C) → Prop} (h : ezw_C l ρ B xa Hb D cA a d as g P) (hp : ∀ v g', P v g' → P2 v g') : ezw_C l ρ B xa Hb D cA a d as g P2 := by
  obtain ⟨v0, g0, h1, h2⟩ := h
  exact ⟨v0, g0, hp _ _ h1, h2⟩
theorem ezw_Emono {P2 : Option ezq_V → (Nat → ezq_C) → Prop} (hp : ∀ v g', P v g' → P2 v g') (h : ezw_E l ρ B xa Hb D cA d r P pc ls st g) : ezw_E l ρ B xa Hb D cA d r P2 pc ls st g := by
  obtain ⟨n, v0, g0, h1, h2⟩ := h
  exact ⟨n, v0, g0, hp _ _ h1, h2⟩
theorem ezw_rs {n : Nat} {ls' : ezq_S} {e : ezq_Y} (he : ezw_at r pc = some e)
    (H : ∀ (go : Nat → ezq_S → List ezq_V → Prop) (gh : Nat → List ezq_V → Nat → ezq_T 7 → Nat → Nat → Prop) (br : ClassFile.Cond → ezq_I → ezq_I → Nat → Nat → List ezq_V → Prop) (sw : List (Int × Int) → Int → ezq_I → List ezq_V → Prop) (ca : Prop) (re : Option ezq_V → Prop),
      (∀ pc' ls2 st', pc' < 1000000 → ezw_run l ρ B xa Hb D cA n d r K pc' ls2 st' g → go pc' ls2 st') →
      (∀ pc' st' g', ezw_run l ρ B xa Hb D cA n d r K pc' ls' st' g' → gh pc' st' 96 (ezw_T 7 g' 0) (ezw_kc r) (ezw_ks r)) →
      (∀ cc i j p1 p2 st', ezw_in i → ezw_in j → p1 < 1000000 → p2 < 1000000 → (ezw_rb cc i j → ezw_run l ρ B xa Hb D cA n d r K p1 ls' st' g) → (¬ ezw_rb cc i j → ezw_run l ρ B xa Hb D cA n d r K p2 ls' st' g) → br cc (.inl (ezw_z i)) (.inl (ezw_z j)) p1 p2 st') →
      (∀ ps df i st', (∀ p, (match ps.find? (fun q => decide (ezw_z q.1 = ezw_z i)) with | some q => (pc : Int) + q.2 | none => (pc : Int) + df) = ((p : Nat) : Int) → ezw_run l ρ B xa Hb D cA n d r K p ls' st' g → sw ps df (.inl (ezw_z i)) st')) →
      (ezq_call False (ezw_hk l ρ B xa Hb D cA) (ezq_run False (ezw_fk ρ) (ezw_hk l ρ B xa Hb D cA) n) d (ezw_G ρ) r pc ls' st 96 (ezw_T 7 g 0) (ezw_kc r) (ezw_ks r) 1000000000 (fun _ _ _ _ _ _ _ => False) (ezw_K K) e.2.2.1 e.2.2.2.1 e.2.2.2.2.1 e.2.2.2.2.2.1 e.2.2.2.2.2.2 → ca) →
      (∀ v, ezq_rok r.2.2.2.2.2.1 v = true → K v g → re v) →
      ezq_step False (ezw_G ρ) e pc ls' st 96 (ezw_T 7 g 0) (ezw_kc r) (ezw_ks r) r.2.2.2.2.2.2.1 r.2.2.2.2.2.2.2 go gh br sw ca re) : ezw_run l ρ B xa Hb D cA (n + 1) d r K pc ls' st g := by
  obtain ⟨he, hpc⟩ := ezw_at_ok he
  show (match r.1 pc with
    | none => False
    | some e => ezq_step False (ezw_G ρ) e pc ls' st 96 (ezw_T 7 g 0) (ezw_kc r) (ezw_ks r) r.2.2.2.2.2.2.1 r.2.2.2.2.2.2.2 _ _ _ _ _ _)
  rw [he]
  refine H _ _ _ _ _ _ (fun pc' ls2 st' hb h => ?_) (fun pc' st' g' h => ?_) (fun cc i j p1 p2 st' hi hj h1 h2 ha hb => ?_) (fun ps df i st' p hp h => ?_) (fun h => h) (fun v h1 h => ?_)
  · rw [ezq_fn_eq, ezw_beqF (by omega)]
    exact h
  · rw [ezq_fn_eq]
    exact h
  · have e : ∀ yes no : ezq_G → Prop, ezq_cmp (ezw_fk ρ) (ezw_G ρ) cc (.inl (ezw_z i)) (.inl (ezw_z j)) yes no = (bif ezq_rb cc (ezq_on (ezw_z i)) (ezq_on (ezw_z j)) then yes (ezw_G ρ) else no (ezw_G ρ)) := fun _ _ => rfl
    rw [e]
    obtain ⟨t1, t2⟩ := ezw_rb_d (c := cc) hi hj
    cases hc : ezq_rb cc (ezq_on (ezw_z i)) (ezq_on (ezw_z j))
    · rw [cond_false, ezq_fn_eq, ezw_beqF (by omega)]
      exact hb (t2 hc)
    · rw [cond_true, ezq_fn_eq, ezw_beqF (by omega)]
      exact ha (t1 hc)
  · refine ezw_swl (ezw_zlt i) _ _ ps ?_
    cases hf : ps.find? (fun q => decide (ezw_z q.1 = ezw_z i)) with
    | none =>
      rw [hf] at hp
      have hp : (pc : Int) + df = (p : Int) := hp
      show (bif decide ((pc : Int) + df < 0) then False else ezq_fn ((pc : Int) + df).toNat fun q => _)
      rw [hp, decide_eq_false (by omega), Int.toNat_natCast, cond_false, ezq_fn_eq]
      exact h
    | some q =>
      rw [hf] at hp
      have hp : (pc : Int) + q.2 = (p : Int) := hp
      show (bif decide ((pc : Int) + q.2 < 0) then False else ezq_fn ((pc : Int) + q.2).toNat fun q => _)
      rw [hp, decide_eq_false (by omega), Int.toNat_natCast, cond_false, ezq_fn_eq]
      exact h
  · rw [h1]
    show (bif Nat.ble (ezw_kc r) r.2.2.2.2.2.2.1 && Nat.ble (ezw_ks r) r.2.2.2.2.2.2.2 then ezw_K K (ezw_G ρ) v 96 (ezw_T 7 g 0) else False)
    rw [ezw_kc_ok, ezw_ks_ok]
    exact ⟨rfl, g, rfl, h⟩

theorem ezw_iconst {k : _} {a b0 c0 x0 y0 : Nat} (i : Int) (he : ezw_at r pc = some (.iconst k, 1, (a, b0, c0, x0, y0))) (hi : ezw_z i = a) (h : ezw_E l ρ B xa Hb D cA d r P (pc + 1) ls (ezw_i i :: st) g) : ezw_E l ρ B xa Hb D cA d r P pc ls st g := by
  subst hi
  obtain ⟨n, v0, g0, hP, h⟩ := h
  obtain ⟨-, hpc⟩ := ezw_at_ok he
  exact ⟨n + 1, v0, g0, hP, fun ls' hl => ezw_rs he fun go gh br sw ca re hgo hgh hbr hsw hca hre => hgo _ _ _ (by omega) (h ls' hl)⟩
theorem ezw_bipush {k : _} {a b0 c0 x0 y0 : Nat} (i : Int) (he : ezw_at r pc = some (.bipush k, 2, (a, b0, c0, x0, y0))) (hi : ezw_z i = a) (h : ezw_E l ρ B xa Hb D cA d r P (pc + 2) ls (ezw_i i :: st) g) : ezw_E l ρ B xa Hb D cA d r P pc ls st g := by
  subst hi
  obtain ⟨n, v0, g0, hP, h⟩ := h
  obtain ⟨-, hpc⟩ := ezw_at_ok he
  exact ⟨n + 1, v0, g0, hP, fun ls' hl => ezw_rs he fun go gh br sw ca re hgo hgh hbr hsw hca hre => hgo _ _ _ (by omega) (h ls' hl)⟩
theorem ezw_sipush {k : _} {a b0 c0 x0 y0 : Nat} (i : Int) (he : ezw_at r pc = some (.sipush k, 3, (a, b0, c0, x0, y0))) (hi : ezw_z i = a) (h : ezw_E l ρ B xa Hb D cA d r P (pc + 3) ls (ezw_i i :: st) g) : ezw_E l ρ B xa Hb D cA d r P pc ls st g := by
  subst hi
  obtain ⟨n, v0, g0, hP, h⟩ := h
  obtain ⟨-, hpc⟩ := ezw_at_ok he
  exact ⟨n + 1, v0, g0, hP, fun ls' hl => ezw_rs he fun go gh br sw ca re hgo hgh hbr hsw hca hre => hgo _ _ _ (by omega) (h ls' hl)⟩
theorem ezw_lconst {k : _} {a b0 c0 x0 y0 : Nat} (i : Int) (he : ezw_at r pc = some (.lconst k, 1, (a, b0, c0, x0, y0))) (hi : ezw_zl i = a) (h : ezw_E l ρ B xa Hb D cA d r P (pc + 1) ls (ezw_l i :: st) g) : ezw_E l ρ B xa Hb D cA d r P pc ls st g := by
  subst hi
  obtain ⟨n, v0, g0, hP, h⟩ := h
  obtain ⟨-, hpc⟩ := ezw_at_ok he
  exact ⟨n + 1, v0, g0, hP, fun ls' hl => ezw_rs he fun go gh br sw ca re hgo hgh hbr hsw hca hre => hgo _ _ _ (by omega) (h ls' hl)⟩
theorem ezw_ldc {k b0 c0 x0 y0 : Nat} (i : Int) (he : ezw_at r pc = some (.ldc k, 2, (0, b0, c0, x0, y0))) (hi : ezw_z i = b0) (h : ezw_E l ρ B xa Hb D cA d r P (pc + 2) ls (ezw_i i :: st) g) : ezw_E l ρ B xa Hb D cA d r P pc ls st g := by
  subst hi
  obtain ⟨n, v0, g0, hP, h⟩ := h
  obtain ⟨-, hpc⟩ := ezw_at_ok he
  exact ⟨n + 1, v0, g0, hP, fun ls' hl => ezw_rs he fun go gh br sw ca re hgo hgh hbr hsw hca hre => hgo _ _ _ (by omega) (h ls' hl)⟩
theorem ezw_ldc_w {k b0 c0 x0 y0 : Nat} (i : Int) (he : ezw_at r pc = some (.ldc_w k, 3, (0, b0, c0, x0, y0))) (hi : ezw_z i = b0) (h : ezw_E l ρ B xa Hb D cA d r P (pc + 3) ls (ezw_i i :: st) g) : ezw_E l ρ B xa Hb D cA d r P pc ls st g := by
  subst hi
  obtain ⟨n, v0, g0, hP, h⟩ := h
  obtain ⟨-, hpc⟩ := ezw_at_ok he
  exact ⟨n + 1, v0, g0, hP, fun ls' hl => ezw_rs he fun go gh br sw ca re hgo hgh hbr hsw hca hre => hgo _ _ _ (by omega) (h ls' hl)⟩
theorem ezw_ldc2_w {k a c0 x0 y0 : Nat} (i : Int) (he : ezw_at r pc = some (.ldc2_w k, 3, (a, 0, c0, x0, y0))) (hi : ezw_zl i = a) (h : ezw_E l ρ B xa Hb D cA d r P (pc + 3) ls (ezw_l i :: st) g) : ezw_E l ρ B xa Hb D cA d r P pc ls st g := by
  subst hi
  obtain ⟨n, v0, g0, hP, h⟩ := h
  obtain ⟨-, hpc⟩ := ezw_at_ok he
  exact ⟨n + 1, v0, g0, hP, fun ls' hl => ezw_rs he fun go gh br sw ca re hgo hgh hbr hsw hca hre => hgo _ _ _ (by omega) (h ls' hl)⟩
theorem ezw_iload_n {k : _} {a b0 c0 x0 y0 : Nat} {i : Int} (he : ezw_at r pc = some (.iload_n k, 1, (a, b0, c0, x0, y0))) (hv : ls[a]? = some (some (ezw_i i))) (h : ezw_E l ρ B xa Hb D cA d r P (pc + 1) ls ((ezw_i i) :: st) g) : ezw_E l ρ B xa Hb D cA d r P pc ls st g := by
  obtain ⟨n, v0, g0, hP, h⟩ := h
  obtain ⟨-, hpc⟩ := ezw_at_ok he
  refine ⟨n + 1, v0, g0, hP, fun ls' hl => ezw_rs he fun go gh br sw ca re hgo hgh hbr hsw hca hre => ?_⟩
  show ezq_lo False ls' a (fun v => ezq_i1 False [v] fun y _ => go (pc + 1) ls' (.inl (ezq_nm (ezw_G ρ) y) :: st))
  rw [ezw_lo_lk ls' a _ _ (hl a _ hv)]
  exact hgo _ _ _ (by omega) (h ls' hl)
theorem ezw_iload {k : _} {a b0 c0 x0 y0 : Nat} {i : Int} (he : ezw_at r pc = some (.iload k, 2, (a, b0, c0, x0, y0))) (hv : ls[a]? = some (some (ezw_i i))) (h : ezw_E l ρ B xa Hb D cA d r P (pc + 2) ls ((ezw_i i) :: st) g) : ezw_E l ρ B xa Hb D cA d r P pc ls st g := by
  obtain ⟨n, v0, g0, hP, h⟩ := h
  obtain ⟨-, hpc⟩ := ezw_at_ok he
  refine ⟨n + 1, v0, g0, hP, fun ls' hl => ezw_rs he fun go gh br sw ca re hgo hgh hbr hsw hca hre => ?_⟩
  show ezq_lo False ls' a (fun v => ezq_i1 False [v] fun y _ => go (pc + 2) ls' (.inl (ezq_nm (ezw_G ρ) y) :: st))
  rw [ezw_lo_lk ls' a _ _ (hl a _ hv)]
  exact hgo _ _ _ (by omega) (h ls' hl)
theorem ezw_lload_n {k : _} {a b0 c0 x0 y0 : Nat} {i : Int} (he : ezw_at r pc = some (.lload_n k, 1, (a, b0, c0, x0, y0))) (hv : ls[a]? = some (some (ezw_l i))) (h : ezw_E l ρ B xa Hb D cA d r P (pc + 1) ls ((ezw_l i) :: st) g) : ezw_E l ρ B xa Hb D cA d r P pc ls st g := by
  obtain ⟨n, v0, g0, hP, h⟩ := h
  obtain ⟨-, hpc⟩ := ezw_at_ok he
  refine ⟨n + 1, v0, g0, hP, fun ls' hl => ezw_rs he fun go gh br sw ca re hgo hgh hbr hsw hca hre => ?_⟩
  show ezq_lo False ls' a (fun v => ezq_j1 False [v] fun y _ => go (pc + 1) ls' (.inr (.inl y) :: st))
  rw [ezw_lo_lk ls' a _ _ (hl a _ hv)]
  exact hgo _ _ _ (by omega) (h ls' hl)
theorem ezw_lload {k : _} {a b0 c0 x0 y0 : Nat} {i : Int} (he : ezw_at r pc = some (.lload k, 2, (a, b0, c0, x0, y0))) (hv : ls[a]? = some (some (ezw_l i))) (h : ezw_E l ρ B xa Hb D cA d r P (pc + 2) ls ((ezw_l i) :: st) g) : ezw_E l ρ B xa Hb D cA d r P pc ls st g := by
  obtain ⟨n, v0, g0, hP, h⟩ := h
  obtain ⟨-, hpc⟩ := ezw_at_ok he
  refine ⟨n + 1, v0, g0, hP, fun ls' hl => ezw_rs he fun go gh br sw ca re hgo hgh hbr hsw hca hre => ?_⟩
  show ezq_lo False ls' a (fun v => ezq_j1 False [v] fun y _ => go (pc + 2) ls' (.inr (.inl y) :: st))
  rw [ezw_lo_lk ls' a _ _ (hl a _ hv)]
  exact hgo _ _ _ (by omega) (h ls' hl)
theorem ezw_aload_n {k : _} {a b0 c0 x0 y0 : Nat} {i : Nat} (he : ezw_at r pc = some (.aload_n k, 1, (a, b0, c0, x0, y0))) (hv : ls[a]? = some (some (ezw_p i))) (h : ezw_E l ρ B xa Hb D cA d r P (pc + 1) ls ((ezw_p i) :: st) g) : ezw_E l ρ B xa Hb D cA d r P pc ls st g := by
  obtain ⟨n, v0, g0, hP, h⟩ := h
  obtain ⟨-, hpc⟩ := ezw_at_ok he
  refine ⟨n + 1, v0, g0, hP, fun ls' hl => ezw_rs he fun go gh br sw ca re hgo hgh hbr hsw hca hre => ?_⟩
  show ezq_lo False ls' a (fun v => ezq_p1 False [v] fun y _ => go (pc + 1) ls' (.inr (.inr y) :: st))
  rw [ezw_lo_lk ls' a _ _ (hl a _ hv)]
  exact hgo _ _ _ (by omega) (h ls' hl)
theorem ezw_istore_n {k : _} {a b0 c0 x0 y0 : Nat} {i : Int} (he : ezw_at r pc = some (.istore_n k, 1, (a, b0, c0, x0, y0))) (hn : ezw_nl ls a = true) (h : ezw_E l ρ B xa Hb D cA d r P (pc + 1) (ls.set a (some (ezw_i i))) st g) : ezw_E l ρ B xa Hb D cA d r P pc ls ((ezw_i i) :: st) g := by
  obtain ⟨n, v0, g0, hP, h⟩ := h
  obtain ⟨-, hpc⟩ := ezw_at_ok he
  refine ⟨n + 1, v0, g0, hP, fun ls' hl => ezw_rs he fun go gh br sw ca re hgo hgh hbr hsw hca hre => ?_⟩
  show ezq_fil (ezq_f1 a) ls' (fun q => go (pc + 1) ((a, ezw_i i) :: q) st)
  rw [ezq_fil_eq]
  exact hgo _ _ _ (by omega) (h _ (ezw_has1 hl hn))
theorem ezw_istore {k : _} {a b0 c0 x0 y0 : Nat} {i : Int} (he : ezw_at r pc = some (.istore k, 2, (a, b0, c0, x0, y0))) (hn : ezw_nl ls a = true) (h : ezw_E l ρ B xa Hb D cA d r P (pc + 2) (ls.set a (some (ezw_i i))) st g) : ezw_E l ρ B xa Hb D cA d r P pc ls ((ezw_i i) :: st) g := by
  obtain ⟨n, v0, g0, hP, h⟩ := h
  obtain ⟨-, hpc⟩ := ezw_at_ok he
  refine ⟨n + 1, v0, g0, hP, fun ls' hl => ezw_rs he fun go gh br sw ca re hgo hgh hbr hsw hca hre => ?_⟩
  show ezq_fil (ezq_f1 a) ls' (fun q => go (pc + 2) ((a, ezw_i i) :: q) st)
  rw [ezq_fil_eq]
  exact hgo _ _ _ (by omega) (h _ (ezw_has1 hl hn))
theorem ezw_lstore_n {k : _} {a b0 c0 x0 y0 : Nat} {i : Int} (he : ezw_at r pc = some (.lstore_n k, 1, (a, b0, c0, x0, y0))) (hn : ezw_nl ls a = true) (h : ezw_E l ρ B xa Hb D cA d r P (pc + 1) ((ls.set a (some (ezw_l i))).set (a + 1) none) st g) : ezw_E l ρ B xa Hb D cA d r P pc ls ((ezw_l i) :: st) g := by
  obtain ⟨n, v0, g0, hP, h⟩ := h
  obtain ⟨-, hpc⟩ := ezw_at_ok he
  refine ⟨n + 1, v0, g0, hP, fun ls' hl => ezw_rs he fun go gh br sw ca re hgo hgh hbr hsw hca hre => ?_⟩
  show ezq_fil (ezq_f2 a) ls' (fun q => go (pc + 1) ((a, ezw_l i) :: q) st)
  rw [ezq_fil_eq]
  exact hgo _ _ _ (by omega) (h _ (ezw_has2 hl hn))
theorem ezw_lstore {k : _} {a b0 c0 x0 y0 : Nat} {i : Int} (he : ezw_at r pc = some (.lstore k, 2, (a, b0, c0, x0, y0))) (hn : ezw_nl ls a = true) (h : ezw_E l ρ B xa Hb D cA d r P (pc + 2) ((ls.set a (some (ezw_l i))).set (a + 1) none) st g) : ezw_E l ρ B xa Hb D cA d r P pc ls ((ezw_l i) :: st) g := by
  obtain ⟨n, v0, g0, hP, h⟩ := h
  obtain ⟨-, hpc⟩ := ezw_at_ok he
  refine ⟨n + 1, v0, g0, hP, fun ls' hl => ezw_rs he fun go gh br sw ca re hgo hgh hbr hsw hca hre => ?_⟩
  show ezq_fil (ezq_f2 a) ls' (fun q => go (pc + 2) ((a, ezw_l i) :: q) st)
  rw [ezq_fil_eq]
  exact hgo _ _ _ (by omega) (h _ (ezw_has2 hl hn))
theorem ezw_astore_n {k : _} {a b0 c0 x0 y0 : Nat} {i : Nat} (he : ezw_at r pc = some (.astore_n k, 1, (a, b0, c0, x0, y0))) (hn : ezw_nl ls a = true) (h : ezw_E l ρ B xa Hb D cA d r P (pc + 1) (ls.set a (some (ezw_p i))) st g) : ezw_E l ρ B xa Hb D cA d r P pc ls ((ezw_p i) :: st) g := by
  obtain ⟨n, v0, g0, hP, h⟩ := h
  obtain ⟨-, hpc⟩ := ezw_at_ok he
  refine ⟨n + 1, v0, g0, hP, fun ls' hl => ezw_rs he fun go gh br sw ca re hgo hgh hbr hsw hca hre => ?_⟩
  show ezq_fil (ezq_f1 a) ls' (fun q => go (pc + 1) ((a, ezw_p i) :: q) st)
  rw [ezq_fil_eq]
  exact hgo _ _ _ (by omega) (h _ (ezw_has1 hl hn))
theorem ezw_iinc {k k2 : Int} {kk a b0 c0 x0 y0 : Nat} {i : Int} (j : Int) (he : ezw_at r pc = some (.iinc kk k2, 3, (a, b0, c0, x0, y0))) (hj : ezw_z j = b0) (hv : ls[a]? = some (some (ezw_i i))) (hk : i + j = k) (hn : ezw_nl ls a = true) (h : ezw_E l ρ B xa Hb D cA d r P (pc + 3) (ls.set a (some (ezw_i k))) st g) : ezw_E l ρ B xa Hb D cA d r P pc ls st g := by
  subst hj
  subst hk
  obtain ⟨n, v0, g0, hP, h⟩ := h
  obtain ⟨-, hpc⟩ := ezw_at_ok he
  refine ⟨n + 1, v0, g0, hP, fun ls' hl => ezw_rs he fun go gh br sw ca re hgo hgh hbr hsw hca hre => ?_⟩
  show ezq_lo False ls' a (fun v => ezq_i1 False [v] fun y _ => ezq_fi (ezq_o2 (fun x y => x + y) y (.inl (ezw_z j))) fun z => ezq_sto a (.inl z) ls' fun l => go (pc + 3) l st)
  rw [ezw_lo_lk ls' a _ _ (hl a _ hv)]
  show ezq_fi (ezq_o2 (fun x y => x + y) (.inl (ezw_z i)) (.inl (ezw_z j))) (fun z => ezq_sto a (.inl z) ls' fun l => go (pc + 3) l st)
  rw [ezq_fi_eq, ezw_o2 (k := i + j) (Int32.ofInt_add ..).symm]
  show ezq_fil (ezq_f1 a) ls' (fun q => go (pc + 3) ((a, ezw_i (i + j)) :: q) st)
  rw [ezq_fil_eq]
  exact hgo _ _ _ (by omega) (h _ (ezw_has1 hl hn))
theorem ezw_iadd {i j k : Int} {a b0 c0 x0 y0 : Nat} (he : ezw_at r pc = some (.iadd, 1, (a, b0, c0, x0, y0))) (hk : i + j = k) (h : ezw_E l ρ B xa Hb D cA d r P (pc + 1) ls (ezw_i k :: st) g) : ezw_E l ρ B xa Hb D cA d r P pc ls (ezw_i j :: ezw_i i :: st) g := by
  subst hk
  obtain ⟨n, v0, g0, hP, h⟩ := h
  obtain ⟨-, hpc⟩ := ezw_at_ok he
  refine ⟨n + 1, v0, g0, hP, fun ls' hl => ezw_rs he fun go gh br sw ca re hgo hgh hbr hsw hca hre => ?_⟩
  show ezq_fi (ezq_o2 (fun x y => x + y) (.inl (ezw_z i)) (.inl (ezw_z j))) (fun z => go (pc + 1) ls' (.inl z :: st))
  rw [ezq_fi_eq, ezw_o2 (f := fun x y => x + y) (k := i + j) ((Int32.ofInt_add ..).symm)]
  exact hgo _ _ _ (by omega) (h ls' hl)
theorem ezw_isub {i j k : Int} {a b0 c0 x0 y0 : Nat} (he : ezw_at r pc = some (.isub, 1, (a, b0, c0, x0, y0))) (hk : i - j = k) (h : ezw_E l ρ B xa Hb D cA d r P (pc + 1) ls (ezw_i k :: st) g) : ezw_E l ρ B xa Hb D cA d r P pc ls (ezw_i j :: ezw_i i :: st) g := by
  subst hk
  obtain ⟨n, v0, g0, hP, h⟩ := h
  obtain ⟨-, hpc⟩ := ezw_at_ok he
  refine ⟨n + 1, v0, g0, hP, fun ls' hl => ezw_rs he fun go gh br sw ca re hgo hgh hbr hsw hca hre => ?_⟩
  show ezq_fi (ezq_o2 (fun x y => x - y) (.inl (ezw_z i)) (.inl (ezw_z j))) (fun z => go (pc + 1) ls' (.inl z :: st))
  rw [ezq_fi_eq, ezw_o2 (f := fun x y => x - y) (k := i - j) ((Int32.ofInt_sub ..).symm)]
  exact hgo _ _ _ (by omega) (h ls' hl)
theorem ezw_imul {i j k : Int} {a b0 c0 x0 y0 : Nat} (he : ezw_at r pc = some (.imul, 1, (a, b0, c0, x0, y0))) (hk : i * j = k) (h : ezw_E l ρ B xa Hb D cA d r P (pc + 1) ls (ezw_i k :: st) g) : ezw_E l ρ B xa Hb D cA d r P pc ls (ezw_i j :: ezw_i i :: st) g := by
  subst hk
  obtain ⟨n, v0, g0, hP, h⟩ := h
  obtain ⟨-, hpc⟩ := ezw_at_ok he
  refine ⟨n + 1, v0, g0, hP, fun ls' hl => ezw_rs he fun go gh br sw ca re hgo hgh hbr hsw hca hre => ?_⟩
  show ezq_fi (ezq_o2 (fun x y => x * y) (.inl (ezw_z i)) (.inl (ezw_z j))) (fun z => go (pc + 1) ls' (.inl z :: st))
  rw [ezq_fi_eq, ezw_o2 (f := fun x y => x * y) (k := i * j) ((Int32.ofInt_mul ..).symm)]
  exact hgo _ _ _ (by omega) (h ls' hl)
theorem ezw_iand {i j k : Int} {a b0 c0 x0 y0 : Nat} (he : ezw_at r pc = some (.iand, 1, (a, b0, c0, x0, y0))) (hk : ezw_and i j = k) (h : ezw_E l ρ B xa Hb D cA d r P (pc + 1) ls (ezw_i k :: st) g) : ezw_E l ρ B xa Hb D cA d r P pc ls (ezw_i j :: ezw_i i :: st) g := by
  subst hk
  obtain ⟨n, v0, g0, hP, h⟩ := h
  obtain ⟨-, hpc⟩ := ezw_at_ok he
  refine ⟨n + 1, v0, g0, hP, fun ls' hl => ezw_rs he fun go gh br sw ca re hgo hgh hbr hsw hca hre => ?_⟩
  show ezq_fi (ezq_o2 (fun x y => x &&& y) (.inl (ezw_z i)) (.inl (ezw_z j))) (fun z => go (pc + 1) ls' (.inl z :: st))
  rw [ezq_fi_eq, ezw_o2 (f := fun x y => x &&& y) (k := ezw_and i j) (ezw_and_d i j)]
  exact hgo _ _ _ (by omega) (h ls' hl)
theorem ezw_ior {i j k : Int} {a b0 c0 x0 y0 : Nat} (he : ezw_at r pc = some (.ior, 1, (a, b0, c0, x0, y0))) (hk : ezw_or i j = k) (h : ezw_E l ρ B xa Hb D cA d r P (pc + 1) ls (ezw_i k :: st) g) : ezw_E l ρ B xa Hb D cA d r P pc ls (ezw_i j :: ezw_i i :: st) g := by
  subst hk
  obtain ⟨n, v0, g0, hP, h⟩ := h
  obtain ⟨-, hpc⟩ := ezw_at_ok he
  refine ⟨n + 1, v0, g0, hP, fun ls' hl => ezw_rs he fun go gh br sw ca re hgo hgh hbr hsw hca hre => ?_⟩
  show ezq_fi (ezq_o2 (fun x y => x ||| y) (.inl (ezw_z i)) (.inl (ezw_z j))) (fun z => go (pc + 1) ls' (.inl z :: st))
  rw [ezq_fi_eq, ezw_o2 (f := fun x y => x ||| y) (k := ezw_or i j) (ezw_or_d i j)]
  exact hgo _ _ _ (by omega) (h ls' hl)
theorem ezw_ixor {i j k : Int} {a b0 c0 x0 y0 : Nat} (he : ezw_at r pc = some (.ixor, 1, (a, b0, c0, x0, y0))) (hk : ezw_xor i j = k) (h : ezw_E l ρ B xa Hb D cA d r P (pc + 1) ls (ezw_i k :: st) g) : ezw_E l ρ B xa Hb D cA d r P pc ls (ezw_i j :: ezw_i i :: st) g := by
  subst hk
  obtain ⟨n, v0, g0, hP, h⟩ := h
  obtain ⟨-, hpc⟩ := ezw_at_ok he
  refine ⟨n + 1, v0, g0, hP, fun ls' hl => ezw_rs he fun go gh br sw ca re hgo hgh hbr hsw hca hre => ?_⟩
  show ezq_fi (ezq_o2 (fun x y => x ^^^ y) (.inl (ezw_z i)) (.inl (ezw_z j))) (fun z => go (pc + 1) ls' (.inl z :: st))
  rw [ezq_fi_eq, ezw_o2 (f := fun x y => x ^^^ y) (k := ezw_xor i j) (ezw_xor_d i j)]
  exact hgo _ _ _ (by omega) (h ls' hl)
theorem ezw_ishl {i j k : Int} {a b0 c0 x0 y0 : Nat} (he : ezw_at r pc = some (.ishl, 1, (a, b0, c0, x0, y0))) (hj0 : 0 ≤ j) (hj1 : j < 32) (hk : i * 2 ^ j.toNat = k) (h : ezw_E l ρ B xa Hb D cA d r P (pc + 1) ls (ezw_i k :: st) g) : ezw_E l ρ B xa Hb D cA d r P pc ls (ezw_i j :: ezw_i i :: st) g := by
  subst hk
  obtain ⟨n, v0, g0, hP, h⟩ := h
  obtain ⟨-, hpc⟩ := ezw_at_ok he
  refine ⟨n + 1, v0, g0, hP, fun ls' hl => ezw_rs he fun go gh br sw ca re hgo hgh hbr hsw hca hre => ?_⟩
  show ezq_fi (ezq_o2 (fun x y => x <<< (y &&& 31)) (.inl (ezw_z i)) (.inl (ezw_z j))) (fun z => go (pc + 1) ls' (.inl z :: st))
  rw [ezq_fi_eq, ezw_o2 (f := fun x y => x <<< (y &&& 31)) (k := i * 2 ^ j.toNat) (ezw_shl_d hj0 hj1)]
  exact hgo _ _ _ (by omega) (h ls' hl)
theorem ezw_ishr {i j k : Int} {a b0 c0 x0 y0 : Nat} (he : ezw_at r pc = some (.ishr, 1, (a, b0, c0, x0, y0))) (hi : ezw_in i) (hj0 : 0 ≤ j) (hj1 : j < 32) (hk : i / 2 ^ j.toNat = k) (h : ezw_E l ρ B xa Hb D cA d r P (pc + 1) ls (ezw_i k :: st) g) : ezw_E l ρ B xa Hb D cA d r P pc ls (ezw_i j :: ezw_i i :: st) g := by
  subst hk
  obtain ⟨n, v0, g0, hP, h⟩ := h
  obtain ⟨-, hpc⟩ := ezw_at_ok he
  refine ⟨n + 1, v0, g0, hP, fun ls' hl => ezw_rs he fun go gh br sw ca re hgo hgh hbr hsw hca hre => ?_⟩
  show ezq_fi (ezq_o2 (fun x y => x >>> (y &&& 31)) (.inl (ezw_z i)) (.inl (ezw_z j))) (fun z => go (pc + 1) ls' (.inl z :: st))
  rw [ezq_fi_eq, ezw_o2 (f := fun x y => x >>> (y &&& 31)) (k := i / 2 ^ j.toNat) (ezw_shr_d hi hj0 hj1)]
  exact hgo _ _ _ (by omega) (h ls' hl)
theorem ezw_idiv {i j k : Int} {a b0 c0 x0 y0 : Nat} (he : ezw_at r pc = some (.idiv, 1, (a, b0, c0, x0, y0))) (hi : ezw_in i) (hj : ezw_in j) (h0 : j ≠ 0) (hk : i.tdiv j = k) (h : ezw_E l ρ B xa Hb D cA d r P (pc + 1) ls (ezw_i k :: st) g) : ezw_E l ρ B xa Hb D cA d r P pc ls (ezw_i j :: ezw_i i :: st) g := by
  subst hk
  obtain ⟨n, v0, g0, hP, h⟩ := h
  obtain ⟨-, hpc⟩ := ezw_at_ok he
  refine ⟨n + 1, v0, g0, hP, fun ls' hl => ezw_rs he fun go gh br sw ca re hgo hgh hbr hsw hca hre => ?_⟩
  show (bif Nat.beq (ezw_z j % 4294967296) 0 then False else ezq_fi (ezq_o2 (fun x y => x / y) (.inl (ezw_z i)) (.inl (ezw_z j))) fun z => go (pc + 1) ls' (.inl z :: st))
  have hz : ezw_z j % 4294967296 ≠ 0 := by
    have h3 := hj.1
    have h4 := hj.2
    unfold ezw_z
    omega
  rw [ezw_beqF hz, cond_false, ezq_fi_eq, ezw_o2 (f := fun x y => x / y) (k := i.tdiv j) (ezw_div_d hi hj)]
  exact hgo _ _ _ (by omega) (h ls' hl)
theorem ezw_irem {i j k : Int} {a b0 c0 x0 y0 : Nat} (he : ezw_at r pc = some (.irem, 1, (a, b0, c0, x0, y0))) (hi : ezw_in i) (hj : ezw_in j) (h0 : j ≠ 0) (hk : i.tmod j = k) (h : ezw_E l ρ B xa Hb D cA d r P (pc + 1) ls (ezw_i k :: st) g) : ezw_E l ρ B xa Hb D cA d r P pc ls (ezw_i j :: ezw_i i :: st) g := by
  subst hk
  obtain ⟨n, v0, g0, hP, h⟩ := h
  obtain ⟨-, hpc⟩ := ezw_at_ok he
  refine ⟨n + 1, v0, g0, hP, fun ls' hl => ezw_rs he fun go gh br sw ca re hgo hgh hbr hsw hca hre => ?_⟩
  show (bif Nat.beq (ezw_z j % 4294967296) 0 then False else ezq_fi (ezq_o2 (fun x y => x - x / y * y) (.inl (ezw_z i)) (.inl (ezw_z j))) fun z => go (pc + 1) ls' (.inl z :: st))
  have hz : ezw_z j % 4294967296 ≠ 0 := by
    have h3 := hj.1
    have h4 := hj.2
    unfold ezw_z
    omega
  rw [ezw_beqF hz, cond_false, ezq_fi_eq, ezw_o2 (f := fun x y => x - x / y * y) (k := i.tmod j) (ezw_rem_d hi hj)]
  exact hgo _ _ _ (by omega) (h ls' hl)
theorem ezw_ladd {i j k : Int} {a b0 c0 x0 y0 : Nat} (he : ezw_at r pc = some (.ladd, 1, (a, b0, c0, x0, y0))) (hk : i + j = k) (h : ezw_E l ρ B xa Hb D cA d r P (pc + 1) ls (ezw_l k :: st) g) : ezw_E l ρ B xa Hb D cA d r P pc ls (ezw_l j :: ezw_l i :: st) g := by
  subst hk
  obtain ⟨n, v0, g0, hP, h⟩ := h
  obtain ⟨-, hpc⟩ := ezw_at_ok he
  refine ⟨n + 1, v0, g0, hP, fun ls' hl => ezw_rs he fun go gh br sw ca re hgo hgh hbr hsw hca hre => ?_⟩
  show ezq_fl (ezq_l2 (fun x y => x + y) (.inl (ezw_zl i)) (.inl (ezw_zl j))) (fun z => go (pc + 1) ls' (.inr (.inl z) :: st))
  rw [ezq_fl_eq, ezw_l2 (f := fun x y => x + y) (k := i + j) ((Int64.ofInt_add ..).symm)]
  exact hgo _ _ _ (by omega) (h ls' hl)
theorem ezw_lsub {i j k : Int} {a b0 c0 x0 y0 : Nat} (he : ezw_at r pc = some (.lsub, 1, (a, b0, c0, x0, y0))) (hk : i - j = k) (h : ezw_E l ρ B xa Hb D cA d r P (pc + 1) ls (ezw_l k :: st) g) : ezw_E l ρ B xa Hb D cA d r P pc ls (ezw_l j :: ezw_l i :: st) g := by
  subst hk
  obtain ⟨n, v0, g0, hP, h⟩ := h
  obtain ⟨-, hpc⟩ := ezw_at_ok he
  refine ⟨n + 1, v0, g0, hP, fun ls' hl => ezw_rs he fun go gh br sw ca re hgo hgh hbr hsw hca hre => ?_⟩
  show ezq_fl (ezq_l2 (fun x y => x - y) (.inl (ezw_zl i)) (.inl (ezw_zl j))) (fun z => go (pc + 1) ls' (.inr (.inl z) :: st))
  rw [ezq_fl_eq, ezw_l2 (f := fun x y => x - y) (k := i - j) ((Int64.ofInt_sub ..).symm)]
  exact hgo _ _ _ (by omega) (h ls' hl)
theorem ezw_lmul {i j k : Int} {a b0 c0 x0 y0 : Nat} (he : ezw_at r pc = some (.lmul, 1, (a, b0, c0, x0, y0))) (hk : i * j = k) (h : ezw_E l ρ B xa Hb D cA d r P (pc + 1) ls (ezw_l k :: st) g) : ezw_E l ρ B xa Hb D cA d r P pc ls (ezw_l j :: ezw_l i :: st) g := by
  subst hk
  obtain ⟨n, v0, g0, hP, h⟩ := h
  obtain ⟨-, hpc⟩ := ezw_at_ok he
  refine ⟨n + 1, v0, g0, hP, fun ls' hl => ezw_rs he fun go gh br sw ca re hgo hgh hbr hsw hca hre => ?_⟩
  show ezq_fl (ezq_l2 (fun x y => x * y) (.inl (ezw_zl i)) (.inl (ezw_zl j))) (fun z => go (pc + 1) ls' (.inr (.inl z) :: st))
  rw [ezq_fl_eq, ezw_l2 (f := fun x y => x * y) (k := i * j) ((Int64.ofInt_mul ..).symm)]
  exact hgo _ _ _ (by omega) (h ls' hl)
theorem ezw_land {i j k : Int} {a b0 c0 x0 y0 : Nat} (he : ezw_at r pc = some (.land, 1, (a, b0, c0, x0, y0))) (hk : ezw_andl i j = k) (h : ezw_E l ρ B xa Hb D cA d r P (pc + 1) ls (ezw_l k :: st) g) : ezw_E l ρ B xa Hb D cA d r P pc ls (ezw_l j :: ezw_l i :: st) g := by
  subst hk
  obtain ⟨n, v0, g0, hP, h⟩ := h
  obtain ⟨-, hpc⟩ := ezw_at_ok he
  refine ⟨n + 1, v0, g0, hP, fun ls' hl => ezw_rs he fun go gh br sw ca re hgo hgh hbr hsw hca hre => ?_⟩
  show ezq_fl (ezq_l2 (fun x y => x &&& y) (.inl (ezw_zl i)) (.inl (ezw_zl j))) (fun z => go (pc + 1) ls' (.inr (.inl z) :: st))
  rw [ezq_fl_eq, ezw_l2 (f := fun x y => x &&& y) (k := ezw_andl i j) (ezw_andl_d i j)]
  exact hgo _ _ _ (by omega) (h ls' hl)
theorem ezw_lor {i j k : Int} {a b0 c0 x0 y0 : Nat} (he : ezw_at r pc = some (.lor, 1, (a, b0, c0, x0, y0))) (hk : ezw_orl i j = k) (h : ezw_E l ρ B xa Hb D cA d r P (pc + 1) ls (ezw_l k :: st) g) : ezw_E l ρ B xa Hb D cA d r P pc ls (ezw_l j :: ezw_l i :: st) g := by
  subst hk
  obtain ⟨n, v0, g0, hP, h⟩ := h
  obtain ⟨-, hpc⟩ := ezw_at_ok he
  refine ⟨n + 1, v0, g0, hP, fun ls' hl => ezw_rs he fun go gh br sw ca re hgo hgh hbr hsw hca hre => ?_⟩
  show ezq_fl (ezq_l2 (fun x y => x ||| y) (.inl (ezw_zl i)) (.inl (ezw_zl j))) (fun z => go (pc + 1) ls' (.inr (.inl z) :: st))
  rw [ezq_fl_eq, ezw_l2 (f := fun x y => x ||| y) (k := ezw_orl i j) (ezw_orl_d i j)]
  exact hgo _ _ _ (by omega) (h ls' hl)
theorem ezw_ldiv {i j k : Int} {a b0 c0 x0 y0 : Nat} (he : ezw_at r pc = some (.ldiv, 1, (a, b0, c0, x0, y0))) (hi : ezw_il i) (hj : ezw_il j) (h0 : j ≠ 0) (hk : i.tdiv j = k) (h : ezw_E l ρ B xa Hb D cA d r P (pc + 1) ls (ezw_l k :: st) g) : ezw_E l ρ B xa Hb D cA d r P pc ls (ezw_l j :: ezw_l i :: st) g := by
  subst hk
  obtain ⟨n, v0, g0, hP, h⟩ := h
  obtain ⟨-, hpc⟩ := ezw_at_ok he
  refine ⟨n + 1, v0, g0, hP, fun ls' hl => ezw_rs he fun go gh br sw ca re hgo hgh hbr hsw hca hre => ?_⟩
  show (bif Nat.beq (ezw_zl j % 18446744073709551616) 0 then False else ezq_fl (ezq_l2 (fun x y => x / y) (.inl (ezw_zl i)) (.inl (ezw_zl j))) fun z => go (pc + 1) ls' (.inr (.inl z) :: st))
  have hz : ezw_zl j % 18446744073709551616 ≠ 0 := by
    have h3 := hj.1
    have h4 := hj.2
    unfold ezw_zl
    omega
  rw [ezw_beqF hz, cond_false, ezq_fl_eq, ezw_l2 (f := fun x y => x / y) (k := i.tdiv j) (ezw_divl_d hi hj)]
  exact hgo _ _ _ (by omega) (h ls' hl)
theorem ezw_lrem {i j k : Int} {a b0 c0 x0 y0 : Nat} (he : ezw_at r pc = some (.lrem, 1, (a, b0, c0, x0, y0))) (hi : ezw_il i) (hj : ezw_il j) (h0 : j ≠ 0) (hk : i.tmod j = k) (h : ezw_E l ρ B xa Hb D cA d r P (pc + 1) ls (ezw_l k :: st) g) : ezw_E l ρ B xa Hb D cA d r P pc ls (ezw_l j :: ezw_l i :: st) g := by
  subst hk
  obtain ⟨n, v0, g0, hP, h⟩ := h
  obtain ⟨-, hpc⟩ := ezw_at_ok he
  refine ⟨n + 1, v0, g0, hP, fun ls' hl => ezw_rs he fun go gh br sw ca re hgo hgh hbr hsw hca hre => ?_⟩
  show (bif Nat.beq (ezw_zl j % 18446744073709551616) 0 then False else ezq_fl (ezq_l2 (fun x y => x - x / y * y) (.inl (ezw_zl i)) (.inl (ezw_zl j))) fun z => go (pc + 1) ls' (.inr (.inl z) :: st))
  have hz : ezw_zl j % 18446744073709551616 ≠ 0 := by
    have h3 := hj.1
    have h4 := hj.2
    unfold ezw_zl
    omega
  rw [ezw_beqF hz, cond_false, ezq_fl_eq, ezw_l2 (f := fun x y => x - x / y * y) (k := i.tmod j) (ezw_reml_d hi hj)]
  exact hgo _ _ _ (by omega) (h ls' hl)
theorem ezw_lshl {i j k : Int} {a b0 c0 x0 y0 : Nat} (he : ezw_at r pc = some (.lshl, 1, (a, b0, c0, x0, y0))) (hj0 : 0 ≤ j) (hj1 : j < 64) (hk : i * 2 ^ j.toNat = k) (h : ezw_E l ρ B xa Hb D cA d r P (pc + 1) ls (ezw_l k :: st) g) : ezw_E l ρ B xa Hb D cA d r P pc ls (ezw_i j :: ezw_l i :: st) g := by
  subst hk
  obtain ⟨n, v0, g0, hP, h⟩ := h
  obtain ⟨-, hpc⟩ := ezw_at_ok he
  refine ⟨n + 1, v0, g0, hP, fun ls' hl => ezw_rs he fun go gh br sw ca re hgo hgh hbr hsw hca hre => ?_⟩
  show ezq_fl (ezq_lil (fun x y => x <<< (y.toInt64 &&& 63)) (.inl (ezw_zl i)) (.inl (ezw_z j))) (fun z => go (pc + 1) ls' (.inr (.inl z) :: st))
  rw [ezq_fl_eq, ezw_lil (f := fun x y => x <<< (y.toInt64 &&& 63)) (k := i * 2 ^ j.toNat) (ezw_shll_d hj0 hj1)]
  exact hgo _ _ _ (by omega) (h ls' hl)
theorem ezw_lshr {i j k : Int} {a b0 c0 x0 y0 : Nat} (he : ezw_at r pc = some (.lshr, 1, (a, b0, c0, x0, y0))) (hi : ezw_il i) (hj0 : 0 ≤ j) (hj1 : j < 64) (hk : i / 2 ^ j.toNat = k) (h : ezw_E l ρ B xa Hb D cA d r P (pc + 1) ls (ezw_l k :: st) g) : ezw_E l ρ B xa Hb D cA d r P pc ls (ezw_i j :: ezw_l i :: st) g := by
  subst hk
  obtain ⟨n, v0, g0, hP, h⟩ := h
  obtain ⟨-, hpc⟩ := ezw_at_ok he
  refine ⟨n + 1, v0, g0, hP, fun ls' hl => ezw_rs he fun go gh br sw ca re hgo hgh hbr hsw hca hre => ?_⟩
  show ezq_fl (ezq_lil (fun x y => x >>> (y.toInt64 &&& 63)) (.inl (ezw_zl i)) (.inl (ezw_z j))) (fun z => go (pc + 1) ls' (.inr (.inl z) :: st))
  rw [ezq_fl_eq, ezw_lil (f := fun x y => x >>> (y.toInt64 &&& 63)) (k := i / 2 ^ j.toNat) (ezw_shrl_d hi hj0 hj1)]
  exact hgo _ _ _ (by omega) (h ls' hl)
theorem ezw_lushr {i j k : Int} {a b0 c0 x0 y0 : Nat} (he : ezw_at r pc = some (.lushr, 1, (a, b0, c0, x0, y0))) (hj0 : 0 ≤ j) (hj1 : j < 64) (hk : (ezw_zl i : Int) / 2 ^ j.toNat = k) (h : ezw_E l ρ B xa Hb D cA d r P (pc + 1) ls (ezw_l k :: st) g) : ezw_E l ρ B xa Hb D cA d r P pc ls (ezw_i j :: ezw_l i :: st) g := by
  subst hk
  obtain ⟨n, v0, g0, hP, h⟩ := h
  obtain ⟨-, hpc⟩ := ezw_at_ok he
  refine ⟨n + 1, v0, g0, hP, fun ls' hl => ezw_rs he fun go gh br sw ca re hgo hgh hbr hsw hca hre => ?_⟩
  show ezq_fl (ezq_lil (fun x y => (x.toUInt64 >>> (y.toInt64.toUInt64 &&& Int64.toUInt64 63)).toInt64) (.inl (ezw_zl i)) (.inl (ezw_z j))) (fun z => go (pc + 1) ls' (.inr (.inl z) :: st))
  rw [ezq_fl_eq, ezw_lil (f := fun x y => (x.toUInt64 >>> (y.toInt64.toUInt64 &&& Int64.toUInt64 63)).toInt64) (k := (ezw_zl i : Int) / 2 ^ j.toNat) (ezw_ushrl_d hj0 hj1)]
  exact hgo _ _ _ (by omega) (h ls' hl)
theorem ezw_ineg {i k : Int} {a b0 c0 x0 y0 : Nat} (he : ezw_at r pc = some (.ineg, 1, (a, b0, c0, x0, y0))) (hk : -i = k) (h : ezw_E l ρ B xa Hb D cA d r P (pc + 1) ls (ezw_i k :: st) g) : ezw_E l ρ B xa Hb D cA d r P pc ls (ezw_i i :: st) g := by
  subst hk
  obtain ⟨n, v0, g0, hP, h⟩ := h
  obtain ⟨-, hpc⟩ := ezw_at_ok he
  refine ⟨n + 1, v0, g0, hP, fun ls' hl => ezw_rs he fun go gh br sw ca re hgo hgh hbr hsw hca hre => ?_⟩
  show ezq_fi (ezq_o1 (fun x => -x) (.inl (ezw_z i))) (fun z => go (pc + 1) ls' (.inl z :: st))
  rw [ezq_fi_eq, ezw_o1 (f := fun x => -x) (k := -i) ((Int32.ofInt_neg ..).symm)]
  exact hgo _ _ _ (by omega) (h ls' hl)
theorem ezw_i2l {i k : Int} {a b0 c0 x0 y0 : Nat} (he : ezw_at r pc = some (.i2l, 1, (a, b0, c0, x0, y0))) (hi : ezw_in i) (hk : i = k) (h : ezw_E l ρ B xa Hb D cA d r P (pc + 1) ls (ezw_l k :: st) g) : ezw_E l ρ B xa Hb D cA d r P pc ls (ezw_i i :: st) g := by
  subst hk
  obtain ⟨n, v0, g0, hP, h⟩ := h
  obtain ⟨-, hpc⟩ := ezw_at_ok he
  refine ⟨n + 1, v0, g0, hP, fun ls' hl => ezw_rs he fun go gh br sw ca re hgo hgh hbr hsw hca hre => ?_⟩
  show ezq_fl (ezq_il (fun x => x.toInt64) (.inl (ezw_z i))) (fun z => go (pc + 1) ls' (.inr (.inl z) :: st))
  rw [ezq_fl_eq, ezw_il' (f := fun x => x.toInt64) (k := i) (ezw_i2l_d hi)]
  exact hgo _ _ _ (by omega) (h ls' hl)
theorem ezw_l2i {i k : Int} {a b0 c0 x0 y0 : Nat} (he : ezw_at r pc = some (.l2i, 1, (a, b0, c0, x0, y0))) (hk : i = k) (h : ezw_E l ρ B xa Hb D cA d r P (pc + 1) ls (ezw_i k :: st) g) : ezw_E l ρ B xa Hb D cA d r P pc ls (ezw_l i :: st) g := by
  subst hk
  obtain ⟨n, v0, g0, hP, h⟩ := h
  obtain ⟨-, hpc⟩ := ezw_at_ok he
  refine ⟨n + 1, v0, g0, hP, fun ls' hl => ezw_rs he fun go gh br sw ca re hgo hgh hbr hsw hca hre => ?_⟩
  show ezq_fi (ezq_li (fun x => x.toInt32) (.inl (ezw_zl i))) (fun z => go (pc + 1) ls' (.inl z :: st))
  rw [ezq_fi_eq, ezw_li (f := fun x => x.toInt32) (k := i) Int64.toInt32_ofInt]
  exact hgo _ _ _ (by omega) (h ls' hl)
theorem ezw_lcmp {i j k : Int} {a b0 c0 x0 y0 : Nat} (he : ezw_at r pc = some (.lcmp, 1, (a, b0, c0, x0, y0))) (hi : ezw_il i) (hj : ezw_il j) (hk : (if i < j then -1 else if i = j then 0 else 1) = k) (h : ezw_E l ρ B xa Hb D cA d r P (pc + 1) ls (ezw_i k :: st) g) : ezw_E l ρ B xa Hb D cA d r P pc ls (ezw_l j :: ezw_l i :: st) g := by
  subst hk
  obtain ⟨n, v0, g0, hP, h⟩ := h
  obtain ⟨-, hpc⟩ := ezw_at_ok he
  refine ⟨n + 1, v0, g0, hP, fun ls' hl => ezw_rs he fun go gh br sw ca re hgo hgh hbr hsw hca hre => ?_⟩
  show ezq_fi (ezq_lli lg_cmp (.inl (ezw_zl i)) (.inl (ezw_zl j))) (fun z => go (pc + 1) ls' (.inl z :: st))
  rw [ezq_fi_eq, ezw_lli (f := lg_cmp) (k := if i < j then -1 else if i = j then 0 else 1) (ezw_lcmp_d hi hj)]
  exact hgo _ _ _ (by omega) (h ls' hl)
theorem ezw_dup {v : ezq_V} {a b0 c0 x0 y0 : Nat} (he : ezw_at r pc = some (.dup, 1, (a, b0, c0, x0, y0))) (hv : ezq_c2 v = false) (h : ezw_E l ρ B xa Hb D cA d r P (pc + 1) ls (v :: v :: st) g) : ezw_E l ρ B xa Hb D cA d r P pc ls (v :: st) g := by
  obtain ⟨n, v0, g0, hP, h⟩ := h
  obtain ⟨-, hpc⟩ := ezw_at_ok he
  refine ⟨n + 1, v0, g0, hP, fun ls' hl => ezw_rs he fun go gh br sw ca re hgo hgh hbr hsw hca hre => ?_⟩
  show (bif ezq_c2 v then False else go (pc + 1) ls' (v :: v :: st))
  rw [hv]
  exact hgo _ _ _ (by omega) (h ls' hl)
theorem ezw_pop {v : ezq_V} {a b0 c0 x0 y0 : Nat} (he : ezw_at r pc = some (.pop, 1, (a, b0, c0, x0, y0))) (hv : ezq_c2 v = false) (h : ezw_E l ρ B xa Hb D cA d r P (pc + 1) ls st g) : ezw_E l ρ B xa Hb D cA d r P pc ls (v :: st) g := by
  obtain ⟨n, v0, g0, hP, h⟩ := h
  obtain ⟨-, hpc⟩ := ezw_at_ok he
  refine ⟨n + 1, v0, g0, hP, fun ls' hl => ezw_rs he fun go gh br sw ca re hgo hgh hbr hsw hca hre => ?_⟩
  show (bif ezq_c2 v then False else go (pc + 1) ls' st)
  rw [hv]
  exact hgo _ _ _ (by omega) (h ls' hl)
theorem ezw_dup2 {v w : ezq_V} {a b0 c0 x0 y0 : Nat} (he : ezw_at r pc = some (.dup2, 1, (a, b0, c0, x0, y0))) (hv : ezq_c2 v = false) (hw : ezq_c2 w = false) (h : ezw_E l ρ B xa Hb D cA d r P (pc + 1) ls (v :: w :: v :: w :: st) g) : ezw_E l ρ B xa Hb D cA d r P pc ls (v :: w :: st) g := by
  obtain ⟨n, v0, g0, hP, h⟩ := h
  obtain ⟨-, hpc⟩ := ezw_at_ok he
  refine ⟨n + 1, v0, g0, hP, fun ls' hl => ezw_rs he fun go gh br sw ca re hgo hgh hbr hsw hca hre => ?_⟩
  show (bif ezq_c2 v then False else bif ezq_c2 w then False else go (pc + 1) ls' (v :: w :: v :: w :: st))
  rw [hv, hw]
  exact hgo _ _ _ (by omega) (h ls' hl)
theorem ezw_goto {o : Int} {a b0 c0 x0 y0 : Nat} (he : ezw_at r pc = some (.goto o, 3, (a, b0, c0, x0, y0))) (ha : Nat.blt a 1000000 = true) (h : ezw_E l ρ B xa Hb D cA d r P a ls st g) : ezw_E l ρ B xa Hb D cA d r P pc ls st g := by
  obtain ⟨n, v0, g0, hP, h⟩ := h
  exact ⟨n + 1, v0, g0, hP, fun ls' hl => ezw_rs he fun go gh br sw ca re hgo hgh hbr hsw hca hre => hgo _ _ _ (ezq_bltT ha) (h ls' hl)⟩
theorem ezw_if_eq {i : Int} {o : Int} {a b0 c0 x0 y0 : Nat} (he : ezw_at r pc = some (.ifCond .eq o, 3, (a, b0, c0, x0, y0))) (ha : Nat.blt a 1000000 = true) (hi : ezw_in i) (h1 : i = 0 → ezw_E l ρ B xa Hb D cA d r P a ls st g) (h2 : ¬ i = 0 → ezw_E l ρ B xa Hb D cA d r P (pc + 3) ls st g) : ezw_E l ρ B xa Hb D cA d r P pc ls (ezw_i i :: st) g := by
  have hj : ezw_in 0 := ⟨by decide, by decide⟩
  obtain ⟨-, hpc⟩ := ezw_at_ok he
  by_cases hc : ezw_rb .eq i 0
  · obtain ⟨n, v0, g0, hP, h⟩ := h1 hc
    exact ⟨n + 1, v0, g0, hP, fun ls' hl => ezw_rs he fun go gh br sw ca re hgo hgh hbr hsw hca hre => hbr .eq i 0 _ _ _ hi hj (ezq_bltT ha) (by omega) (fun _ => h ls' hl) (fun z => absurd hc z)⟩
  · obtain ⟨n, v0, g0, hP, h⟩ := h2 (hc)
    exact ⟨n + 1, v0, g0, hP, fun ls' hl => ezw_rs he fun go gh br sw ca re hgo hgh hbr hsw hca hre => hbr .eq i 0 _ _ _ hi hj (ezq_bltT ha) (by omega) (fun z => absurd z hc) (fun _ => h ls' hl)⟩
theorem ezw_icmp_eq {i j : Int} {o : Int} {a b0 c0 x0 y0 : Nat} (he : ezw_at r pc = some (.if_icmp .eq o, 3, (a, b0, c0, x0, y0))) (ha : Nat.blt a 1000000 = true) (hi : ezw_in i) (hj : ezw_in j) (h1 : i = j → ezw_E l ρ B xa Hb D cA d r P a ls st g) (h2 : ¬ i = j → ezw_E l ρ B xa Hb D cA d r P (pc + 3) ls st g) : ezw_E l ρ B xa Hb D cA d r P pc ls (ezw_i j :: ezw_i i :: st) g := by
  obtain ⟨-, hpc⟩ := ezw_at_ok he
  by_cases hc : ezw_rb .eq i j
  · obtain ⟨n, v0, g0, hP, h⟩ := h1 hc
    exact ⟨n + 1, v0, g0, hP, fun ls' hl => ezw_rs he fun go gh br sw ca re hgo hgh hbr hsw hca hre => hbr .eq i j _ _ _ hi hj (ezq_bltT ha) (by omega) (fun _ => h ls' hl) (fun z => absurd hc z)⟩
  · obtain ⟨n, v0, g0, hP, h⟩ := h2 (hc)
    exact ⟨n + 1, v0, g0, hP, fun ls' hl => ezw_rs he fun go gh br sw ca re hgo hgh hbr hsw hca hre => hbr .eq i j _ _ _ hi hj (ezq_bltT ha) (by omega) (fun z => absurd z hc) (fun _ => h ls' hl)⟩
theorem ezw_if_ne {i : Int} {o : Int} {a b0 c0 x0 y0 : Nat} (he : ezw_at r pc = some (.ifCond .ne o, 3, (a, b0, c0, x0, y0))) (ha : Nat.blt a 1000000 = true) (hi : ezw_in i) (h1 : ¬ i = 0 → ezw_E l ρ B xa Hb D cA d r P a ls st g) (h2 : i = 0 → ezw_E l ρ B xa Hb D cA d r P (pc + 3) ls st g) : ezw_E l ρ B xa Hb D cA d r P pc ls (ezw_i i :: st) g := by
  have hj : ezw_in 0 := ⟨by decide, by decide⟩
  obtain ⟨-, hpc⟩ := ezw_at_ok he
  by_cases hc : ezw_rb .ne i 0
  · obtain ⟨n, v0, g0, hP, h⟩ := h1 hc
    exact ⟨n + 1, v0, g0, hP, fun ls' hl => ezw_rs he fun go gh br sw ca re hgo hgh hbr hsw hca hre => hbr .ne i 0 _ _ _ hi hj (ezq_bltT ha) (by omega) (fun _ => h ls' hl) (fun z => absurd hc z)⟩
  · obtain ⟨n, v0, g0, hP, h⟩ := h2 (Classical.not_not.mp hc)
    exact ⟨n + 1, v0, g0, hP, fun ls' hl => ezw_rs he fun go gh br sw ca re hgo hgh hbr hsw hca hre => hbr .ne i 0 _ _ _ hi hj (ezq_bltT ha) (by omega) (fun z => absurd z hc) (fun _ => h ls' hl)⟩
theorem ezw_icmp_ne {i j : Int} {o : Int} {a b0 c0 x0 y0 : Nat} (he : ezw_at r pc = some (.if_icmp .ne o, 3, (a, b0, c0, x0, y0))) (ha : Nat.blt a 1000000 = true) (hi : ezw_in i) (hj : ezw_in j) (h1 : ¬ i = j → ezw_E l ρ B xa Hb D cA d r P a ls st g) (h2 : i = j → ezw_E l ρ B xa Hb D cA d r P (pc + 3) ls st g) : ezw_E l ρ B xa Hb D cA d r P pc ls (ezw_i j :: ezw_i i :: st) g := by
  obtain ⟨-, hpc⟩ := ezw_at_ok he
  by_cases hc : ezw_rb .ne i j
  · obtain ⟨n, v0, g0, hP, h⟩ := h1 hc
    exact ⟨n + 1, v0, g0, hP, fun ls' hl => ezw_rs he fun go gh br sw ca re hgo hgh hbr hsw hca hre => hbr .ne i j _ _ _ hi hj (ezq_bltT ha) (by omega) (fun _ => h ls' hl) (fun z => absurd hc z)⟩
  · obtain ⟨n, v0, g0, hP, h⟩ := h2 (Classical.not_not.mp hc)
    exact ⟨n + 1, v0, g0, hP, fun ls' hl => ezw_rs he fun go gh br sw ca re hgo hgh hbr hsw hca hre => hbr .ne i j _ _ _ hi hj (ezq_bltT ha) (by omega) (fun z => absurd z hc) (fun _ => h ls' hl)⟩
theorem ezw_if_lt {i : Int} {o : Int} {a b0 c0 x0 y0 : Nat} (he : ezw_at r pc = some (.ifCond .lt o, 3, (a, b0, c0, x0, y0))) (ha : Nat.blt a 1000000 = true) (hi : ezw_in i) (h1 : i < 0 → ezw_E l ρ B xa Hb D cA d r P a ls st g) (h2 : 0 ≤ i → ezw_E l ρ B xa Hb D cA d r P (pc + 3) ls st g) : ezw_E l ρ B xa Hb D cA d r P pc ls (ezw_i i :: st) g := by
  have hj : ezw_in 0 := ⟨by decide, by decide⟩
  obtain ⟨-, hpc⟩ := ezw_at_ok he
  by_cases hc : ezw_rb .lt i 0
  · obtain ⟨n, v0, g0, hP, h⟩ := h1 hc
    exact ⟨n + 1, v0, g0, hP, fun ls' hl => ezw_rs he fun go gh br sw ca re hgo hgh hbr hsw hca hre => hbr .lt i 0 _ _ _ hi hj (ezq_bltT ha) (by omega) (fun _ => h ls' hl) (fun z => absurd hc z)⟩
  · obtain ⟨n, v0, g0, hP, h⟩ := h2 (Int.not_lt.mp hc)
    exact ⟨n + 1, v0, g0, hP, fun ls' hl => ezw_rs he fun go gh br sw ca re hgo hgh hbr hsw hca hre => hbr .lt i 0 _ _ _ hi hj (ezq_bltT ha) (by omega) (fun z => absurd z hc) (fun _ => h ls' hl)⟩
theorem ezw_icmp_lt {i j : Int} {o : Int} {a b0 c0 x0 y0 : Nat} (he : ezw_at r pc = some (.if_icmp .lt o, 3, (a, b0, c0, x0, y0))) (ha : Nat.blt a 1000000 = true) (hi : ezw_in i) (hj : ezw_in j) (h1 : i < j → ezw_E l ρ B xa Hb D cA d r P a ls st g) (h2 : j ≤ i → ezw_E l ρ B xa Hb D cA d r P (pc + 3) ls st g) : ezw_E l ρ B xa Hb D cA d r P pc ls (ezw_i j :: ezw_i i :: st) g := by
  obtain ⟨-, hpc⟩ := ezw_at_ok he
  by_cases hc : ezw_rb .lt i j
  · obtain ⟨n, v0, g0, hP, h⟩ := h1 hc
    exact ⟨n + 1, v0, g0, hP, fun ls' hl => ezw_rs he fun go gh br sw ca re hgo hgh hbr hsw hca hre => hbr .lt i j _ _ _ hi hj (ezq_bltT ha) (by omega) (fun _ => h ls' hl) (fun z => absurd hc z)⟩
  · obtain ⟨n, v0, g0, hP, h⟩ := h2 (Int.not_lt.mp hc)
    exact ⟨n + 1, v0, g0, hP, fun ls' hl => ezw_rs he fun go gh br sw ca re hgo hgh hbr hsw hca hre => hbr .lt i j _ _ _ hi hj (ezq_bltT ha) (by omega) (fun z => absurd z hc) (fun _ => h ls' hl)⟩
theorem ezw_if_ge {i : Int} {o : Int} {a b0 c0 x0 y0 : Nat} (he : ezw_at r pc = some (.ifCond .ge o, 3, (a, b0, c0, x0, y0))) (ha : Nat.blt a 1000000 = true) (hi : ezw_in i) (h1 : 0 ≤ i → ezw_E l ρ B xa Hb D cA d r P a ls st g) (h2 : i < 0 → ezw_E l ρ B xa Hb D cA d r P (pc + 3) ls st g) : ezw_E l ρ B xa Hb D cA d r P pc ls (ezw_i i :: st) g := by
  have hj : ezw_in 0 := ⟨by decide, by decide⟩
  obtain ⟨-, hpc⟩ := ezw_at_ok he
  by_cases hc : ezw_rb .ge i 0
  · obtain ⟨n, v0, g0, hP, h⟩ := h1 hc
    exact ⟨n + 1, v0, g0, hP, fun ls' hl => ezw_rs he fun go gh br sw ca re hgo hgh hbr hsw hca hre => hbr .ge i 0 _ _ _ hi hj (ezq_bltT ha) (by omega) (fun _ => h ls' hl) (fun z => absurd hc z)⟩
  · obtain ⟨n, v0, g0, hP, h⟩ := h2 (Int.not_le.mp hc)
    exact ⟨n + 1, v0, g0, hP, fun ls' hl => ezw_rs he fun go gh br sw ca re hgo hgh hbr hsw hca hre => hbr .ge i 0 _ _ _ hi hj (ezq_bltT ha) (by omega) (fun z => absurd z hc) (fun _ => h ls' hl)⟩
theorem ezw_icmp_ge {i j : Int} {o : Int} {a b0 c0 x0 y0 : Nat} (he : ezw_at r pc = some (.if_icmp .ge o, 3, (a, b0, c0, x0, y0))) (ha : Nat.blt a 1000000 = true) (hi : ezw_in i) (hj : ezw_in j) (h1 : j ≤ i → ezw_E l ρ B xa Hb D cA d r P a ls st g) (h2 : i < j → ezw_E l ρ B xa Hb D cA d r P (pc + 3) ls st g) : ezw_E l ρ B xa Hb D cA d r P pc ls (ezw_i j :: ezw_i i :: st) g := by
  obtain ⟨-, hpc⟩ := ezw_at_ok he
  by_cases hc : ezw_rb .ge i j
  · obtain ⟨n, v0, g0, hP, h⟩ := h1 hc
    exact ⟨n + 1, v0, g0, hP, fun ls' hl => ezw_rs he fun go gh br sw ca re hgo hgh hbr hsw hca hre => hbr .ge i j _ _ _ hi hj (ezq_bltT ha) (by omega) (fun _ => h ls' hl) (fun z => absurd hc z)⟩
  · obtain ⟨n, v0, g0, hP, h⟩ := h2 (Int.not_le.mp hc)
    exact ⟨n + 1, v0, g0, hP, fun ls' hl => ezw_rs he fun go gh br sw ca re hgo hgh hbr hsw hca hre => hbr .ge i j _ _ _ hi hj (ezq_bltT ha) (by omega) (fun z => absurd z hc) (fun _ => h ls' hl)⟩
theorem ezw_if_gt {i : Int} {o : Int} {a b0 c0 x0 y0 : Nat} (he : ezw_at r pc = some (.ifCond .gt o, 3, (a, b0, c0, x0, y0))) (ha : Nat.blt a 1000000 = true) (hi : ezw_in i) (h1 : 0 < i → ezw_E l ρ B xa Hb D cA d r P a ls st g) (h2 : i ≤ 0 → ezw_E l ρ B xa Hb D cA d r P (pc + 3) ls st g) : ezw_E l ρ B xa Hb D cA d r P pc ls (ezw_i i :: st) g := by
  have hj : ezw_in 0 := ⟨by decide, by decide⟩
  obtain ⟨-, hpc⟩ := ezw_at_ok he
  by_cases hc : ezw_rb .gt i 0
  · obtain ⟨n, v0, g0, hP, h⟩ := h1 hc
    exact ⟨n + 1, v0, g0, hP, fun ls' hl => ezw_rs he fun go gh br sw ca re hgo hgh hbr hsw hca hre => hbr .gt i 0 _ _ _ hi hj (ezq_bltT ha) (by omega) (fun _ => h ls' hl) (fun z => absurd hc z)⟩
  · obtain ⟨n, v0, g0, hP, h⟩ := h2 (Int.not_lt.mp hc)
    exact ⟨n + 1, v0, g0, hP, fun ls' hl => ezw_rs he fun go gh br sw ca re hgo hgh hbr hsw hca hre => hbr .gt i 0 _ _ _ hi hj (ezq_bltT ha) (by omega) (fun z => absurd z hc) (fun _ => h ls' hl)⟩
theorem ezw_icmp_gt {i j : Int} {o : Int} {a b0 c0 x0 y0 : Nat} (he : ezw_at r pc = some (.if_icmp .gt o, 3, (a, b0, c0, x0, y0))) (ha : Nat.blt a 1000000 = true) (hi : ezw_in i) (hj : ezw_in j) (h1 : j < i → ezw_E l ρ B xa Hb D cA d r P a ls st g) (h2 : i ≤ j → ezw_E l ρ B xa Hb D cA d r P (pc + 3) ls st g) : ezw_E l ρ B xa Hb D cA d r P pc ls (ezw_i j :: ezw_i i :: st) g := by
  obtain ⟨-, hpc⟩ := ezw_at_ok he
  by_cases hc : ezw_rb .gt i j
  · obtain ⟨n, v0, g0, hP, h⟩ := h1 hc
    exact ⟨n + 1, v0, g0, hP, fun ls' hl => ezw_rs he fun go gh br sw ca re hgo hgh hbr hsw hca hre => hbr .gt i j _ _ _ hi hj (ezq_bltT ha) (by omega) (fun _ => h ls' hl) (fun z => absurd hc z)⟩
  · obtain ⟨n, v0, g0, hP, h⟩ := h2 (Int.not_lt.mp hc)
    exact ⟨n + 1, v0, g0, hP, fun ls' hl => ezw_rs he fun go gh br sw ca re hgo hgh hbr hsw hca hre => hbr .gt i j _ _ _ hi hj (ezq_bltT ha) (by omega) (fun z => absurd z hc) (fun _ => h ls' hl)⟩
theorem ezw_if_le {i : Int} {o : Int} {a b0 c0 x0 y0 : Nat} (he : ezw_at r pc = some (.ifCond .le o, 3, (a, b0, c0, x0, y0))) (ha : Nat.blt a 1000000 = true) (hi : ezw_in i) (h1 : i ≤ 0 → ezw_E l ρ B xa Hb D cA d r P a ls st g) (h2 : 0 < i → ezw_E l ρ B xa Hb D cA d r P (pc + 3) ls st g) : ezw_E l ρ B xa Hb D cA d r P pc ls (ezw_i i :: st) g := by
  have hj : ezw_in 0 := ⟨by decide, by decide⟩
  obtain ⟨-, hpc⟩ := ezw_at_ok he
  by_cases hc : ezw_rb .le i 0
  · obtain ⟨n, v0, g0, hP, h⟩ := h1 hc
    exact ⟨n + 1, v0, g0, hP, fun ls' hl => ezw_rs he fun go gh br sw ca re hgo hgh hbr hsw hca hre => hbr .le i 0 _ _ _ hi hj (ezq_bltT ha) (by omega) (fun _ => h ls' hl) (fun z => absurd hc z)⟩
  · obtain ⟨n, v0, g0, hP, h⟩ := h2 (Int.not_le.mp hc)
    exact ⟨n + 1, v0, g0, hP, fun ls' hl => ezw_rs he fun go gh br sw ca re hgo hgh hbr hsw hca hre => hbr .le i 0 _ _ _ hi hj (ezq_bltT ha) (by omega) (fun z => absurd z hc) (fun _ => h ls' hl)⟩
theorem ezw_icmp_le {i j : Int} {o : Int} {a b0 c0 x0 y0 : Nat} (he : ezw_at r pc = some (.if_icmp .le o, 3, (a, b0, c0, x0, y0))) (ha : Nat.blt a 1000000 = true) (hi : ezw_in i) (hj : ezw_in j) (h1 : i ≤ j → ezw_E l ρ B xa Hb D cA d r P a ls st g) (h2 : j < i → ezw_E l ρ B xa Hb D cA d r P (pc + 3) ls st g) : ezw_E l ρ B xa Hb D cA d r P pc ls (ezw_i j :: ezw_i i :: st) g := by
  obtain ⟨-, hpc⟩ := ezw_at_ok he
  by_cases hc : ezw_rb .le i j
  · obtain ⟨n, v0, g0, hP, h⟩ := h1 hc
    exact ⟨n + 1, v0, g0, hP, fun ls' hl => ezw_rs he fun go gh br sw ca re hgo hgh hbr hsw hca hre => hbr .le i j _ _ _ hi hj (ezq_bltT ha) (by omega) (fun _ => h ls' hl) (fun z => absurd hc z)⟩
  · obtain ⟨n, v0, g0, hP, h⟩ := h2 (Int.not_le.mp hc)
    exact ⟨n + 1, v0, g0, hP, fun ls' hl => ezw_rs he fun go gh br sw ca re hgo hgh hbr hsw hca hre => hbr .le i j _ _ _ hi hj (ezq_bltT ha) (by omega) (fun z => absurd z hc) (fun _ => h ls' hl)⟩
theorem ezw_ifnull {o : Int} {q a b0 c0 x0 y0 : Nat} (he : ezw_at r pc = some (.ifnull o, 3, (a, b0, c0, x0, y0))) (h : ezw_E l ρ B xa Hb D cA d r P (pc + 3) ls st g) : ezw_E l ρ B xa Hb D cA d r P pc ls (ezw_p q :: st) g := by
  obtain ⟨n, v0, g0, hP, h⟩ := h
  obtain ⟨-, hpc⟩ := ezw_at_ok he
  exact ⟨n + 1, v0, g0, hP, fun ls' hl => ezw_rs he fun go gh br sw ca re hgo hgh hbr hsw hca hre => hgo _ _ _ (by omega) (h ls' hl)⟩
theorem ezw_getfield {k q a b0 c0 x0 y0 : Nat} {fs : List ezq_V} {v : ezq_V} (he : ezw_at r pc = some (.getfield k, 3, (a, b0, c0, x0, y0))) (hq : g q = ezw_co a fs) (hq9 : Nat.blt q 96 = true) (ha : Nat.blt a 13 = true) (hv : fs[b0]? = some v) (h : ezw_E l ρ B xa Hb D cA d r P (pc + 3) ls (v :: st) g) : ezw_E l ρ B xa Hb D cA d r P pc ls (ezw_p q :: st) g := by
  obtain ⟨n, v0, g0, hP, h⟩ := h
  obtain ⟨-, hpc⟩ := ezw_at_ok he
  have ha := ezq_bltT ha
  have hq9 := ezq_bltT hq9
  refine ⟨n + 1, v0, g0, hP, fun ls' hl => ezw_rs he fun go gh br sw ca re hgo hgh hbr hsw hca hre => ?_⟩
  show (bif Nat.beq a 100 then _ else bif Nat.beq a 101 then _ else ezq_ob False 96 (ezw_T 7 g 0) (some (.inl q)) fun _ ci fs => bif Nat.beq ci a then (match fs[b0]? with
        | some v => go (pc + 3) ls' (v :: st)
        | none => False) else False)
  rw [ezw_beqF (by omega), ezw_beqF (by omega)]
  show (bif Nat.ble 96 q then False else match ezq_tg 7 (ezw_T 7 g 0) q with
      | .inl (ci, fs) => bif Nat.ble 13 ci then False else bif Nat.beq ci a then (match fs[b0]? with
        | some v => go (pc + 3) ls' (v :: st)
        | none => False) else False
      | _ => False)
  rw [ezw_Tg 7 g 0 q (by omega), Nat.zero_add, hq, ezw_bleF hq9]
  show (bif Nat.ble 13 a then False else bif Nat.beq a a then (match fs[b0]? with
        | some v => go (pc + 3) ls' (v :: st)
        | none => False) else False)
  rw [ezw_bleF ha, Nat.beq_refl, hv]
  exact hgo _ _ _ (by omega) (h ls' hl)
theorem ezw_putfield_i {k q a b0 c0 y0 : Nat} {fs : List ezq_V} {i : Int} (he : ezw_at r pc = some (.putfield k, 3, (a, b0, c0, 0, y0))) (hq : g q = ezw_co a fs) (hq9 : Nat.blt q 96 = true) (ha : Nat.blt a 13 = true) (h : ezw_E l ρ B xa Hb D cA d r P (pc + 3) ls st (ezw_u g q (ezw_co a (fs.set b0 (ezw_i i))))) : ezw_E l ρ B xa Hb D cA d r P pc ls ((ezw_i i) :: ezw_p q :: st) g := by
  obtain ⟨n, v0, g0, hP, h⟩ := h
  obtain ⟨-, hpc⟩ := ezw_at_ok he
  have ha := ezq_bltT ha
  have hq9 := ezq_bltT hq9
  refine ⟨n + 1, v0, g0, hP, fun ls' hl => ezw_rs he fun go gh br sw ca re hgo hgh hbr hsw hca hre => ?_⟩
  show (bif Nat.ble 96 q then False else match ezq_tg 7 (ezw_T 7 g 0) q with
      | .inl (ci, fs) => bif Nat.ble 13 ci then False else bif Nat.beq ci a then (ezq_lset fs b0 (ezw_i i) fun fs' => ezq_ts 7 (ezw_T 7 g 0) q (.inl (ci, fs')) fun t' => gh (pc + 3) st 96 t' (ezw_kc r) (ezw_ks r)) else False
      | _ => False)
  rw [ezw_Tg 7 g 0 q (by omega), Nat.zero_add, hq, ezw_bleF hq9]
  show (bif Nat.ble 13 a then False else bif Nat.beq a a then (ezq_lset fs b0 (ezw_i i) fun fs' => ezq_ts 7 (ezw_T 7 g 0) q (.inl (a, fs')) fun t' => gh (pc + 3) st 96 t' (ezw_kc r) (ezw_ks r)) else False)
  rw [ezw_bleF ha, Nat.beq_refl, cond_false, cond_true, ezq_lset_eq, ezq_ts_eq, ezw_Ts (by omega)]
  exact hgh _ _ _ (h ls' hl)
theorem ezw_putfield_l {k q a b0 c0 y0 : Nat} {fs : List ezq_V} {i : Int} (he : ezw_at r pc = some (.putfield k, 3, (a, b0, c0, 1, y0))) (hq : g q = ezw_co a fs) (hq9 : Nat.blt q 96 = true) (ha : Nat.blt a 13 = true) (h : ezw_E l ρ B xa Hb D cA d r P (pc + 3) ls st (ezw_u g q (ezw_co a (fs.set b0 (ezw_l i))))) : ezw_E l ρ B xa Hb D cA d r P pc ls ((ezw_l i) :: ezw_p q :: st) g := by
  obtain ⟨n, v0, g0, hP, h⟩ := h
  obtain ⟨-, hpc⟩ := ezw_at_ok he
  have ha := ezq_bltT ha
  have hq9 := ezq_bltT hq9
  refine ⟨n + 1, v0, g0, hP, fun ls' hl => ezw_rs he fun go gh br sw ca re hgo hgh hbr hsw hca hre => ?_⟩
  show (bif Nat.ble 96 q then False else match ezq_tg 7 (ezw_T 7 g 0) q with
      | .inl (ci, fs) => bif Nat.ble 13 ci then False else bif Nat.beq ci a then (ezq_lset fs b0 (ezw_l i) fun fs' => ezq_ts 7 (ezw_T 7 g 0) q (.inl (ci, fs')) fun t' => gh (pc + 3) st 96 t' (ezw_kc r) (ezw_ks r)) else False
      | _ => False)
  rw [ezw_Tg 7 g 0 q (by omega), Nat.zero_add, hq, ezw_bleF hq9]
  show (bif Nat.ble 13 a then False else bif Nat.beq a a then (ezq_lset fs b0 (ezw_l i) fun fs' => ezq_ts 7 (ezw_T 7 g 0) q (.inl (a, fs')) fun t' => gh (pc + 3) st 96 t' (ezw_kc r) (ezw_ks r)) else False)
  rw [ezw_bleF ha, Nat.beq_refl, cond_false, cond_true, ezq_lset_eq, ezq_ts_eq, ezw_Ts (by omega)]
  exact hgh _ _ _ (h ls' hl)
theorem ezw_putfield_z {k q a b0 c0 y0 : Nat} {fs : List ezq_V} {i : Int} (he : ezw_at r pc = some (.putfield k, 3, (a, b0, c0, 2, y0))) (hq : g q = ezw_co a fs) (hq9 : Nat.blt q 96 = true) (ha : Nat.blt a 13 = true) (hz : 0 ≤ i ∧ i ≤ 1) (h : ezw_E l ρ B xa Hb D cA d r P (pc + 3) ls st (ezw_u g q (ezw_co a (fs.set b0 (ezw_i i))))) : ezw_E l ρ B xa Hb D cA d r P pc ls ((ezw_i i) :: ezw_p q :: st) g := by
  obtain ⟨n, v0, g0, hP, h⟩ := h
  obtain ⟨-, hpc⟩ := ezw_at_ok he
  have ha := ezq_bltT ha
  have hq9 := ezq_bltT hq9
  refine ⟨n + 1, v0, g0, hP, fun ls' hl => ezw_rs he fun go gh br sw ca re hgo hgh hbr hsw hca hre => ?_⟩
  have hz1 : Nat.ble (ezw_z i) 1 = true := Nat.ble_eq_true_of_le (by unfold ezw_z; omega)
  show (bif Nat.ble (ezw_z i) 1 then ezq_ob False 96 (ezw_T 7 g 0) (some (.inl q)) (fun q ci fs => bif Nat.beq ci a then (ezq_lset fs b0 (.inl (.inl (ezw_z i))) fun fs' => ezq_ts 7 (ezw_T 7 g 0) q (.inl (ci, fs')) fun t' => gh (pc + 3) st 96 t' (ezw_kc r) (ezw_ks r)) else False) else False)
  rw [hz1, cond_true]
  show (bif Nat.ble 96 q then False else match ezq_tg 7 (ezw_T 7 g 0) q with
      | .inl (ci, fs) => bif Nat.ble 13 ci then False else bif Nat.beq ci a then (ezq_lset fs b0 (ezw_i i) fun fs' => ezq_ts 7 (ezw_T 7 g 0) q (.inl (ci, fs')) fun t' => gh (pc + 3) st 96 t' (ezw_kc r) (ezw_ks r)) else False
      | _ => False)
  rw [ezw_Tg 7 g 0 q (by omega), Nat.zero_add, hq, ezw_bleF hq9]
  show (bif Nat.ble 13 a then False else bif Nat.beq a a then (ezq_lset fs b0 (ezw_i i) fun fs' => ezq_ts 7 (ezw_T 7 g 0) q (.inl (a, fs')) fun t' => gh (pc + 3) st 96 t' (ezw_kc r) (ezw_ks r)) else False)
  rw [ezw_bleF ha, Nat.beq_refl, cond_false, cond_true, ezq_lset_eq, ezq_ts_eq, ezw_Ts (by omega)]
  exact hgh _ _ _ (h ls' hl)
theorem ezw_putfield_a {k q a b0 c0 y0 : Nat} {fs : List ezq_V} {i : Nat} (he : ezw_at r pc = some (.putfield k, 3, (a, b0, c0, 3, y0))) (hq : g q = ezw_co a fs) (hq9 : Nat.blt q 96 = true) (ha : Nat.blt a 13 = true) (h : ezw_E l ρ B xa Hb D cA d r P (pc + 3) ls st (ezw_u g q (ezw_co a (fs.set b0 (ezw_p i))))) : ezw_E l ρ B xa Hb D cA d r P pc ls ((ezw_p i) :: ezw_p q :: st) g := by
  obtain ⟨n, v0, g0, hP, h⟩ := h
  obtain ⟨-, hpc⟩ := ezw_at_ok he
  have ha := ezq_bltT ha
  have hq9 := ezq_bltT hq9
  refine ⟨n + 1, v0, g0, hP, fun ls' hl => ezw_rs he fun go gh br sw ca re hgo hgh hbr hsw hca hre => ?_⟩
  show (bif Nat.ble 96 q then False else match ezq_tg 7 (ezw_T 7 g 0) q with
      | .inl (ci, fs) => bif Nat.ble 13 ci then False else bif Nat.beq ci a then (ezq_lset fs b0 (ezw_p i) fun fs' => ezq_ts 7 (ezw_T 7 g 0) q (.inl (ci, fs')) fun t' => gh (pc + 3) st 96 t' (ezw_kc r) (ezw_ks r)) else False
      | _ => False)
  rw [ezw_Tg 7 g 0 q (by omega), Nat.zero_add, hq, ezw_bleF hq9]
  show (bif Nat.ble 13 a then False else bif Nat.beq a a then (ezq_lset fs b0 (ezw_p i) fun fs' => ezq_ts 7 (ezw_T 7 g 0) q (.inl (a, fs')) fun t' => gh (pc + 3) st 96 t' (ezw_kc r) (ezw_ks r)) else False)
  rw [ezw_bleF ha, Nat.beq_refl, cond_false, cond_true, ezq_lset_eq, ezq_ts_eq, ezw_Ts (by omega)]
  exact hgh _ _ _ (h ls' hl)
theorem ezw_arraylength {q n0 ty a b0 c0 x0 y0 : Nat} {f : Nat → ezq_V} {k : Int} (he : ezw_at r pc = some (.arraylength, 1, (a, b0, c0, x0, y0))) (hq : g q = .inr (ty, n0, f)) (hq9 : Nat.blt q 96 = true) (hk : (n0 : Int) = k) (hn : n0 ≤ 100000) (h : ezw_E l ρ B xa Hb D cA d r P (pc + 1) ls (ezw_i k :: st) g) : ezw_E l ρ B xa Hb D cA d r P pc ls (ezw_p q :: st) g := by
  subst hk
  obtain ⟨n, v0, g0, hP, h⟩ := h
  obtain ⟨-, hpc⟩ := ezw_at_ok he
  have hq9 := ezq_bltT hq9
  refine ⟨n + 1, v0, g0, hP, fun ls' hl => ezw_rs he fun go gh br sw ca re hgo hgh hbr hsw hca hre => ?_⟩
  show (bif Nat.ble 96 q then False else match ezq_tg 7 (ezw_T 7 g 0) q with
      | .inr (ty, n, f) => go (pc + 1) ls' (ezq_kn n :: st)
      | _ => False)
  rw [ezw_Tg 7 g 0 q (by omega), Nat.zero_add, hq, ezw_bleF hq9]
  have e : ezq_kn n0 = ezw_i (n0 : Int) := by
    show (Sum.inl (Sum.inl n0) : ezq_V) = .inl (.inl (ezw_z (n0 : Int)))
    rw [ezw_zN (by omega)]
  show go (pc + 1) ls' (ezq_kn n0 :: st)
  rw [e]
  exact hgo _ _ _ (by omega) (h ls' hl)
theorem ezw_iaload {q n0 a b0 c0 x0 y0 : Nat} {f : Int → Int} {i k : Int} (he : ezw_at r pc = some (.iaload, 1, (a, b0, c0, x0, y0))) (hq : g q = ezw_ca n0 f) (hq9 : Nat.blt q 96 = true) (h0 : 0 ≤ i) (h1 : i < (n0 : Int)) (hn : n0 ≤ 100000) (hk : f i = k) (h : ezw_E l ρ B xa Hb D cA d r P (pc + 1) ls (ezw_i k :: st) g) : ezw_E l ρ B xa Hb D cA d r P pc ls (ezw_i i :: ezw_p q :: st) g := by
  subst hk
  obtain ⟨n, v0, g0, hP, h⟩ := h
  obtain ⟨-, hpc⟩ := ezw_at_ok he
  have hq9 := ezq_bltT hq9
  obtain ⟨m, rfl⟩ := Int.eq_ofNat_of_zero_le h0
  refine ⟨n + 1, v0, g0, hP, fun ls' hl => ezw_rs he fun go gh br sw ca re hgo hgh hbr hsw hca hre => ?_⟩
  show (bif Nat.ble 96 q then False else match ezq_tg 7 (ezw_T 7 g 0) q with
      | .inr (ty', n, f) => bif Nat.blt (ezw_z (m : Int)) n && Nat.beq ty' 0 then (ezq_i1 False [f (ezw_z (m : Int))] fun z _ => go (pc + 1) ls' (.inl (ezq_nm (ezw_G ρ) z) :: st)) else False
      | _ => False)
  rw [ezw_Tg 7 g 0 q (by omega), Nat.zero_add, hq, ezw_bleF hq9, ezw_zN (by omega)]
  show (bif Nat.blt m n0 && Nat.beq 0 0 then go (pc + 1) ls' (ezw_i (f (m : Int)) :: st) else False)
  rw [show Nat.blt m n0 = true from Nat.ble_eq_true_of_le (by omega)]
  exact hgo _ _ _ (by omega) (h ls' hl)
theorem ezw_laload {q n0 a b0 c0 x0 y0 : Nat} {f : Int → Int} {i k : Int} (he : ezw_at r pc = some (.laload, 1, (a, b0, c0, x0, y0))) (hq : g q = ezw_cl n0 f) (hq9 : Nat.blt q 96 = true) (h0 : 0 ≤ i) (h1 : i < (n0 : Int)) (hn : n0 ≤ 100000) (hk : f i = k) (h : ezw_E l ρ B xa Hb D cA d r P (pc + 1) ls (ezw_l k :: st) g) : ezw_E l ρ B xa Hb D cA d r P pc ls (ezw_i i :: ezw_p q :: st) g := by
  subst hk
  obtain ⟨n, v0, g0, hP, h⟩ := h
  obtain ⟨-, hpc⟩ := ezw_at_ok he
  have hq9 := ezq_bltT hq9
  obtain ⟨m, rfl⟩ := Int.eq_ofNat_of_zero_le h0
  refine ⟨n + 1, v0, g0, hP, fun ls' hl => ezw_rs he fun go gh br sw ca re hgo hgh hbr hsw hca hre => ?_⟩
  show (bif Nat.ble 96 q then False else match ezq_tg 7 (ezw_T 7 g 0) q with
      | .inr (ty', n, f) => bif Nat.blt (ezw_z (m : Int)) n && Nat.beq ty' 1 then (ezq_j1 False [f (ezw_z (m : Int))] fun z _ => go (pc + 1) ls' (.inr (.inl z) :: st)) else False
      | _ => False)
  rw [ezw_Tg 7 g 0 q (by omega), Nat.zero_add, hq, ezw_bleF hq9, ezw_zN (by omega)]
  show (bif Nat.blt m n0 && Nat.beq 1 1 then go (pc + 1) ls' (ezw_l (f (m : Int)) :: st) else False)
  rw [show Nat.blt m n0 = true from Nat.ble_eq_true_of_le (by omega)]
  exact hgo _ _ _ (by omega) (h ls' hl)
theorem ezw_baload {q n0 a b0 c0 x0 y0 : Nat} {f : Int → Int} {i k : Int} (he : ezw_at r pc = some (.baload, 1, (a, b0, c0, x0, y0))) (hq : g q = ezw_cb n0 f) (hq9 : Nat.blt q 96 = true) (h0 : 0 ≤ i) (h1 : i < (n0 : Int)) (hn : n0 ≤ 100000) (hk : f i = k) (h : ezw_E l ρ B xa Hb D cA d r P (pc + 1) ls (ezw_i k :: st) g) : ezw_E l ρ B xa Hb D cA d r P pc ls (ezw_i i :: ezw_p q :: st) g := by
  subst hk
  obtain ⟨n, v0, g0, hP, h⟩ := h
  obtain ⟨-, hpc⟩ := ezw_at_ok he
  have hq9 := ezq_bltT hq9
  obtain ⟨m, rfl⟩ := Int.eq_ofNat_of_zero_le h0
  refine ⟨n + 1, v0, g0, hP, fun ls' hl => ezw_rs he fun go gh br sw ca re hgo hgh hbr hsw hca hre => ?_⟩
  show (bif Nat.ble 96 q then False else match ezq_tg 7 (ezw_T 7 g 0) q with
      | .inr (ty', n, f) => bif Nat.blt (ezw_z (m : Int)) n && Nat.beq ty' 2 then (ezq_i1 False [f (ezw_z (m : Int))] fun z _ => go (pc + 1) ls' (.inl (ezq_nm (ezw_G ρ) z) :: st)) else False
      | _ => False)
  rw [ezw_Tg 7 g 0 q (by omega), Nat.zero_add, hq, ezw_bleF hq9, ezw_zN (by omega)]
  show (bif Nat.blt m n0 && Nat.beq 2 2 then go (pc + 1) ls' (ezw_i (f (m : Int)) :: st) else False)
  rw [show Nat.blt m n0 = true from Nat.ble_eq_true_of_le (by omega)]
  exact hgo _ _ _ (by omega) (h ls' hl)
theorem ezw_iastore {q n0 a b0 c0 x0 y0 : Nat} {f : Int → Int} {i v : Int} (he : ezw_at r pc = some (.iastore, 1, (a, b0, c0, x0, y0))) (hq : g q = ezw_ca n0 f) (hq9 : Nat.blt q 96 = true) (h0 : 0 ≤ i) (h1 : i < (n0 : Int)) (hn : n0 ≤ 100000) (h : ezw_E l ρ B xa Hb D cA d r P (pc + 1) ls st (ezw_u g q (ezw_ca n0 (ezw_au f i v)))) : ezw_E l ρ B xa Hb D cA d r P pc ls (ezw_i v :: ezw_i i :: ezw_p q :: st) g := by
  obtain ⟨n, v0, g0, hP, h⟩ := h
  obtain ⟨-, hpc⟩ := ezw_at_ok he
  have hq9 := ezq_bltT hq9
  refine ⟨n + 1, v0, g0, hP, fun ls' hl => ezw_rs he fun go gh br sw ca re hgo hgh hbr hsw hca hre => ?_⟩
  show (bif Nat.ble 96 q then False else match ezq_tg 7 (ezw_T 7 g 0) q with
      | .inr (ty', n, f) => bif Nat.blt (ezw_z i) n && Nat.beq ty' 0 then ezq_ts 7 (ezw_T 7 g 0) q (.inr (ty', n, ezq_aup f (ezw_z i) (ezw_i v))) (fun t' => gh (pc + 1) st 96 t' (ezw_kc r) (ezw_ks r)) else False
      | _ => False)
  rw [ezw_Tg 7 g 0 q (by omega), Nat.zero_add, hq, ezw_bleF hq9, ezw_znn h0 (by omega)]
  show (bif Nat.blt i.toNat n0 && Nat.beq 0 0 then ezq_ts 7 (ezw_T 7 g 0) q (.inr (0, n0, ezq_aup (fun k => ezw_i (f (k : Int))) i.toNat (ezw_i v))) (fun t' => gh (pc + 1) st 96 t' (ezw_kc r) (ezw_ks r)) else False)
  rw [show Nat.blt i.toNat n0 = true from Nat.ble_eq_true_of_le (by omega), ezw_aup (f := ezw_i) h0, Nat.beq_refl, Bool.and_self, cond_true, ezq_ts_eq, ezw_Ts (by omega)]
  exact hgh _ _ _ (h ls' hl)
theorem ezw_lastore {q n0 a b0 c0 x0 y0 : Nat} {f : Int → Int} {i v : Int} (he : ezw_at r pc = some (.lastore, 1, (a, b0, c0, x0, y0))) (hq : g q = ezw_cl n0 f) (hq9 : Nat.blt q 96 = true) (h0 : 0 ≤ i) (h1 : i < (n0 : Int)) (hn : n0 ≤ 100000) (h : ezw_E l ρ B xa Hb D cA d r P (pc + 1) ls st (ezw_u g q (ezw_cl n0 (ezw_au f i v)))) : ezw_E l ρ B xa Hb D cA d r P pc ls (ezw_l v :: ezw_i i :: ezw_p q :: st) g := by
  obtain ⟨n, v0, g0, hP, h⟩ := h
  obtain ⟨-, hpc⟩ := ezw_at_ok he
  have hq9 := ezq_bltT hq9
  refine ⟨n + 1, v0, g0, hP, fun ls' hl => ezw_rs he fun go gh br sw ca re hgo hgh hbr hsw hca hre => ?_⟩
  show (bif Nat.ble 96 q then False else match ezq_tg 7 (ezw_T 7 g 0) q with
      | .inr (ty', n, f) => bif Nat.blt (ezw_z i) n && Nat.beq ty' 1 then ezq_ts 7 (ezw_T 7 g 0) q (.inr (ty', n, ezq_aup f (ezw_z i) (ezw_l v))) (fun t' => gh (pc + 1) st 96 t' (ezw_kc r) (ezw_ks r)) else False
      | _ => False)
  rw [ezw_Tg 7 g 0 q (by omega), Nat.zero_add, hq, ezw_bleF hq9, ezw_znn h0 (by omega)]
  show (bif Nat.blt i.toNat n0 && Nat.beq 1 1 then ezq_ts 7 (ezw_T 7 g 0) q (.inr (1, n0, ezq_aup (fun k => ezw_l (f (k : Int))) i.toNat (ezw_l v))) (fun t' => gh (pc + 1) st 96 t' (ezw_kc r) (ezw_ks r)) else False)
  rw [show Nat.blt i.toNat n0 = true from Nat.ble_eq_true_of_le (by omega), ezw_aup (f := ezw_l) h0, Nat.beq_refl, Bool.and_self, cond_true, ezq_ts_eq, ezw_Ts (by omega)]
  exact hgh _ _ _ (h ls' hl)
theorem ezw_bastore {q n0 a b0 c0 x0 y0 : Nat} {f : Int → Int} {i v : Int} (he : ezw_at r pc = some (.bastore, 1, (a, b0, c0, x0, y0))) (hq : g q = ezw_cb n0 f) (hq9 : Nat.blt q 96 = true) (h0 : 0 ≤ i) (h1 : i < (n0 : Int)) (hn : n0 ≤ 100000) (hz : 0 ≤ v ∧ v ≤ 1) (h : ezw_E l ρ B xa Hb D cA d r P (pc + 1) ls st (ezw_u g q (ezw_cb n0 (ezw_au f i v)))) : ezw_E l ρ B xa Hb D cA d r P pc ls (ezw_i v :: ezw_i i :: ezw_p q :: st) g := by
  obtain ⟨n, v0, g0, hP, h⟩ := h
  obtain ⟨-, hpc⟩ := ezw_at_ok he
  have hq9 := ezq_bltT hq9
  refine ⟨n + 1, v0, g0, hP, fun ls' hl => ezw_rs he fun go gh br sw ca re hgo hgh hbr hsw hca hre => ?_⟩
  have hz1 : Nat.ble (ezw_z v) 1 = true := Nat.ble_eq_true_of_le (by unfold ezw_z; omega)
  show (bif Nat.ble (ezw_z v) 1 then ezq_ast False 96 (ezw_T 7 g 0) 2 (.inl (.inl (ezw_z v))) (ezw_i i :: ezw_p q :: st) (fun q1 t' => gh (pc + 1) q1 96 t' (ezw_kc r) (ezw_ks r)) else False)
  rw [hz1, cond_true]
  show (bif Nat.ble 96 q then False else match ezq_tg 7 (ezw_T 7 g 0) q with
      | .inr (ty', n, f) => bif Nat.blt (ezw_z i) n && Nat.beq ty' 2 then ezq_ts 7 (ezw_T 7 g 0) q (.inr (ty', n, ezq_aup f (ezw_z i) (ezw_i v))) (fun t' => gh (pc + 1) st 96 t' (ezw_kc r) (ezw_ks r)) else False
      | _ => False)
  rw [ezw_Tg 7 g 0 q (by omega), Nat.zero_add, hq, ezw_bleF hq9, ezw_znn h0 (by omega)]
  show (bif Nat.blt i.toNat n0 && Nat.beq 2 2 then ezq_ts 7 (ezw_T 7 g 0) q (.inr (2, n0, ezq_aup (fun k => ezw_i (f (k : Int))) i.toNat (ezw_i v))) (fun t' => gh (pc + 1) st 96 t' (ezw_kc r) (ezw_ks r)) else False)
  rw [show Nat.blt i.toNat n0 = true from Nat.ble_eq_true_of_le (by omega), ezw_aup (f := ezw_i) h0, Nat.beq_refl, Bool.and_self, cond_true, ezq_ts_eq, ezw_Ts (by omega)]
  exact hgh _ _ _ (h ls' hl)
theorem ezw_mmax {kk b0 x0 y0 : Nat} {i j k : Int} (he : ezw_at r pc = some (.invokestatic kk, 3, (0, b0, 7, x0, y0))) (hi : ezw_in i) (hj : ezw_in j) (hcat : Nat.ble (ezq_cat (ezw_i j :: ezw_i i :: st)) 8 = true) (hk : (if i < j then j else i) = k) (h : ezw_E l ρ B xa Hb D cA d r P (pc + 3) ls (ezw_i k :: st) g) : ezw_E l ρ B xa Hb D cA d r P pc ls (ezw_i j :: ezw_i i :: st) g := by
  subst hk
  obtain ⟨n, v0, g0, hP, h⟩ := h
  obtain ⟨-, hpc⟩ := ezw_at_ok he
  refine ⟨n + 1, v0, g0, hP, fun ls' hl => ezw_rs he fun go gh br sw ca re hgo hgh hbr hsw hca hre => ?_⟩
  show (bif Nat.ble (ezq_cat (ezw_i j :: ezw_i i :: st)) 8 && (Nat.ble (ezw_kc r) r.2.2.2.2.2.2.1 && Nat.ble (ezw_ks r) r.2.2.2.2.2.2.2) then ezq_fi (ezq_o2 (fun x y => if x < y then y else x) (.inl (ezw_z i)) (.inl (ezw_z j))) (fun z => go (pc + 3) ls' (.inl z :: st)) else False)
  rw [hcat, ezw_kc_ok, ezw_ks_ok, Bool.and_self, Bool.and_self, cond_true, ezq_fi_eq, ezw_o2 (f := fun x y => if x < y then y else x) (k := if i < j then j else i) (ezw_max_d hi hj)]
  exact hgo _ _ _ (by omega) (h ls' hl)
theorem ezw_mmin {kk b0 x0 y0 : Nat} {i j k : Int} (he : ezw_at r pc = some (.invokestatic kk, 3, (1, b0, 7, x0, y0))) (hi : ezw_in i) (hj : ezw_in j) (hcat : Nat.ble (ezq_cat (ezw_i j :: ezw_i i :: st)) 8 = true) (hk : (if j < i then j else i) = k) (h : ezw_E l ρ B xa Hb D cA d r P (pc + 3) ls (ezw_i k :: st) g) : ezw_E l ρ B xa Hb D cA d r P pc ls (ezw_i j :: ezw_i i :: st) g := by
  subst hk
  obtain ⟨n, v0, g0, hP, h⟩ := h
  obtain ⟨-, hpc⟩ := ezw_at_ok he
  refine ⟨n + 1, v0, g0, hP, fun ls' hl => ezw_rs he fun go gh br sw ca re hgo hgh hbr hsw hca hre => ?_⟩
  show (bif Nat.ble (ezq_cat (ezw_i j :: ezw_i i :: st)) 8 && (Nat.ble (ezw_kc r) r.2.2.2.2.2.2.1 && Nat.ble (ezw_ks r) r.2.2.2.2.2.2.2) then ezq_fi (ezq_o2 (fun x y => if y < x then y else x) (.inl (ezw_z i)) (.inl (ezw_z j))) (fun z => go (pc + 3) ls' (.inl z :: st)) else False)
  rw [hcat, ezw_kc_ok, ezw_ks_ok, Bool.and_self, Bool.and_self, cond_true, ezq_fi_eq, ezw_o2 (f := fun x y => if y < x then y else x) (k := if j < i then j else i) (ezw_min_d hi hj)]
  exact hgo _ _ _ (by omega) (h ls' hl)
theorem ezw_mabs {kk b0 x0 y0 : Nat} {i k : Int} (he : ezw_at r pc = some (.invokestatic kk, 3, (2, b0, 7, x0, y0))) (hi : ezw_in i) (hcat : Nat.ble (ezq_cat (ezw_i i :: st)) 8 = true) (hk : (if 0 ≤ i then i else 0 - i) = k) (h : ezw_E l ρ B xa Hb D cA d r P (pc + 3) ls (ezw_i k :: st) g) : ezw_E l ρ B xa Hb D cA d r P pc ls (ezw_i i :: st) g := by
  subst hk
  obtain ⟨n, v0, g0, hP, h⟩ := h
  obtain ⟨-, hpc⟩ := ezw_at_ok he
  refine ⟨n + 1, v0, g0, hP, fun ls' hl => ezw_rs he fun go gh br sw ca re hgo hgh hbr hsw hca hre => ?_⟩
  show (bif Nat.ble (ezq_cat (ezw_i i :: st)) 8 && (Nat.ble (ezw_kc r) r.2.2.2.2.2.2.1 && Nat.ble (ezw_ks r) r.2.2.2.2.2.2.2) then ezq_fi (ezq_o1 (fun x => if 0 ≤ x then x else 0 - x) (.inl (ezw_z i))) (fun z => go (pc + 3) ls' (.inl z :: st)) else False)
  rw [hcat, ezw_kc_ok, ezw_ks_ok, Bool.and_self, Bool.and_self, cond_true, ezq_fi_eq, ezw_o1 (f := fun x => if 0 ≤ x then x else 0 - x) (k := if 0 ≤ i then i else 0 - i) (ezw_abs_d hi)]
  exact hgo _ _ _ (by omega) (h ls' hl)
theorem ezw_ireturn {i : Int} {a b0 c0 x0 y0 : Nat} (he : ezw_at r pc = some (.ireturn, 1, (a, b0, c0, x0, y0))) (hr : ezq_rok r.2.2.2.2.2.1 (some (ezw_i i)) = true) (h : P (some (ezw_i i)) g) : ezw_E l ρ B xa Hb D cA d r P pc ls [ezw_i i] g := ⟨1, _, _, h, fun ls' hl => ezw_rs he fun go gh br sw ca re hgo hgh hbr hsw hca hre => hre _ hr ⟨rfl, rfl⟩⟩
theorem ezw_lreturn {i : Int} {a b0 c0 x0 y0 : Nat} (he : ezw_at r pc = some (.lreturn, 1, (a, b0, c0, x0, y0))) (hr : ezq_rok r.2.2.2.2.2.1 (some (ezw_l i)) = true) (h : P (some (ezw_l i)) g) : ezw_E l ρ B xa Hb D cA d r P pc ls [ezw_l i] g := ⟨1, _, _, h, fun ls' hl => ezw_rs he fun go gh br sw ca re hgo hgh hbr hsw hca hre => hre _ hr ⟨rfl, rfl⟩⟩
theorem ezw_return {a b0 c0 x0 y0 : Nat} (he : ezw_at r pc = some (.return_, 1, (a, b0, c0, x0, y0))) (hr : ezq_rok r.2.2.2.2.2.1 none = true) (h : P none g) : ezw_E l ρ B xa Hb D cA d r P pc ls [] g := ⟨1, _, _, h, fun ls' hl => ezw_rs he fun go gh br sw ca re hgo hgh hbr hsw hca hre => hre _ hr ⟨rfl, rfl⟩⟩
theorem ezw_zret {i : Int} (h : 0 ≤ i ∧ i ≤ 1) : ezq_rok (some .boolean) (some (ezw_i i)) = true := Nat.ble_eq_true_of_le (by unfold ezw_z; omega)
theorem ezw_metmono {y : MethodName} {ws : List Jvm.Cond} {rm : Room} {Pc : Array Value → State → Prop} {Qc Qc2 : Array Value → State → Outcome → State → Prop} {mc ms : Nat} {free : Addr → Prop} (hM : Met l y ws rm Pc Qc mc ms free) (hq : ∀ a s o t, Qc a s o t → Qc2 a s o t) : Met l y ws rm Pc Qc2 mc ms free := by
  intro p e h1 h2 h3 s m args below h4 h5 h6 h7
  obtain ⟨n, o, a1, a2, a3, a4⟩ := hM p e h1 h2 h3 s m args below h4 h5 h6 h7
  exact ⟨n, o, a1, a2, a3, hq _ _ _ _ a4.1, a4.2⟩
theorem ezw_callgo {n a d0 : Nat} {ls' : ezq_S} {as rest : List ezq_V} {d1 x : Nat} (hl : ezw_has ls' ls) (hd1 : d1 = 0) (hx : x = 0)
    {v1 : Option ezq_V} {g1 : Nat → ezq_C} (hM : ezw_M l ρ B xa Hb D cA a d0 as g (ezw_Kq v1 g1)) (h4 : ∀ ls', ezw_has ls' ls → ezw_run l ρ B xa Hb D cA n (d0 + 1) r K (pc + 3) ls' (ezw_vs v1 rest) g1) :
    ezw_hk l ρ B xa Hb D cA (ezq_run False (ezw_fk ρ) (ezw_hk l ρ B xa Hb D cA) n) a d0 (ezw_G ρ) as 96 (ezw_T 7 g 0) (fun Γ' v sz' t' =>
          ezq_fn (pc + 3) fun q => ezq_fn (ezw_kc r + d1) fun cl' => ezq_fn (ezw_ks r + x) fun sl' => ezq_id (ezq_run False (ezw_fk ρ) (ezw_hk l ρ B xa Hb D cA) n (d0 + 1) Γ' r q ls' (match v with
            | none => rest
            | some v => v :: rest) sz' t' cl' sl' 1000000000 (fun _ _ _ _ _ _ _ => False) (ezw_K K))) := by
  subst hd1
  subst hx
  intro hG Hr fn pb o2 y mL ret mc ms hs hpl hcl hcat
  refine ezw_metmono (hM Hr fn pb o2 y mL ret mc ms hs hpl hcl hcat) ?_
  rintro ar s o t ⟨Γ', v, sz', t', h1, ⟨h2, g', h3, ⟨e1, e2⟩⟩, h5, h6⟩
  subst e1
  subst e2
  subst h2
  subst h3
  refine ⟨(ezw_G ρ), v, 96, _, ezw_gfok, ?_, h5, h6⟩
  dsimp only
  rw [ezq_fn_eq, ezq_fn_eq, ezq_fn_eq]
  cases v with
  | none => exact h4 ls' hl
  | some v => exact h4 ls' hl
theorem ezw_call2 {kk a na : Nat} {as st1 : List ezq_V} (he : ezw_at r pc = some (.invokestatic kk, 3, (a, na, 2, 0, 0))) (hd : 1 ≤ d) (hst : st1 = as.reverse ++ st) (hna : as.length = na) (h8 : Nat.ble (ezq_cat st) 8 = true) (hmL : (Nat.ble (ezq_cat as) (ezq_sel a).2.2.2.2.1 && Nat.ble (ezq_sel a).2.2.2.2.1 80) = true)
    {P1 : Option ezq_V → (Nat → ezq_C) → Prop} (hC : ezw_C l ρ B xa Hb D cA a (d - 1) as g P1) (h : ∀ v g', P1 v g' → ezw_E l ρ B xa Hb D cA d r P (pc + 3) ls (ezw_vs v st) g') : ezw_E l ρ B xa Hb D cA d r P pc ls st1 g := by
  obtain ⟨v1, g1, hP1, hM⟩ := hC
  obtain ⟨n, v0, g0, hP, h⟩ := h v1 g1 hP1
  obtain ⟨d0, rfl⟩ : ∃ d0, d = d0 + 1 := ⟨d - 1, by omega⟩
  subst hst
  refine ⟨n + 1, v0, g0, hP, fun ls' hl => ezw_rs he fun go gh br sw ca re hgo hgh hbr hsw hca hre => hca ?_⟩
  show (bif Nat.ble (ezw_kc r + 0) r.2.2.2.2.2.2.1 && Nat.ble (ezw_ks r + 0) r.2.2.2.2.2.2.2 then
      ezq_pop False na (as.reverse ++ st) [] fun as rest => ezq_rcv False 96 (ezw_T 7 g 0) 2 (ezq_sel a).2.2.1 as rest fun as rest =>
        bif Nat.ble (ezq_cat rest) 8 && (Nat.ble (ezq_cat as) (ezq_sel a).2.2.2.2.1 && Nat.ble (ezq_sel a).2.2.2.2.1 80) then _ else False
    else False)
  rw [Nat.add_zero, Nat.add_zero, ezw_kc_ok, ezw_ks_ok, Bool.and_self, cond_true, ezw_popeq as _ na hna]
  show (bif Nat.ble (ezq_cat st) 8 && (Nat.ble (ezq_cat as) (ezq_sel a).2.2.2.2.1 && Nat.ble (ezq_sel a).2.2.2.2.1 80) then _ else False)
  rw [h8, hmL]
  exact ezw_callgo hl rfl rfl hM h
theorem ezw_call3 {kk a na : Nat} {as st1 : List ezq_V} (he : ezw_at r pc = some (.invokestatic kk, 3, (a, na, 3, 0, 0))) (hd : 1 ≤ d) (hst : st1 = as.reverse ++ st) (hna : as.length = na) (h8 : Nat.ble (ezq_cat st) 8 = true) (hmL : (Nat.ble (ezq_cat as) (ezq_sel a).2.2.2.2.1 && Nat.ble (ezq_sel a).2.2.2.2.1 80) = true)
    {P1 : Option ezq_V → (Nat → ezq_C) → Prop} (hC : ezw_C l ρ B xa Hb D cA a (d - 1) as g P1) (h : ∀ v g', P1 v g' → ezw_E l ρ B xa Hb D cA d r P (pc + 3) ls (ezw_vs v st) g') : ezw_E l ρ B xa Hb D cA d r P pc ls st1 g := by
  obtain ⟨v1, g1, hP1, hM⟩ := hC
  obtain ⟨n, v0, g0, hP, h⟩ := h v1 g1 hP1
  obtain ⟨d0, rfl⟩ : ∃ d0, d = d0 + 1 := ⟨d - 1, by omega⟩
  subst hst
  refine ⟨n + 1, v0, g0, hP, fun ls' hl => ezw_rs he fun go gh br sw ca re hgo hgh hbr hsw hca hre => hca ?_⟩
  show (bif Nat.ble (ezw_kc r + 0) r.2.2.2.2.2.2.1 && Nat.ble (ezw_ks r + 0) r.2.2.2.2.2.2.2 then
      ezq_pop False na (as.reverse ++ st) [] fun as rest => ezq_rcv False 96 (ezw_T 7 g 0) 3 (ezq_sel a).2.2.1 as rest fun as rest =>
        bif Nat.ble (ezq_cat rest) 8 && (Nat.ble (ezq_cat as) (ezq_sel a).2.2.2.2.1 && Nat.ble (ezq_sel a).2.2.2.2.1 80) then _ else False
    else False)
  rw [Nat.add_zero, Nat.add_zero, ezw_kc_ok, ezw_ks_ok, Bool.and_self, cond_true, ezw_popeq as _ na hna]
  show (bif Nat.ble (ezq_cat st) 8 && (Nat.ble (ezq_cat as) (ezq_sel a).2.2.2.2.1 && Nat.ble (ezq_sel a).2.2.2.2.1 80) then _ else False)
  rw [h8, hmL]
  exact ezw_callgo hl rfl rfl hM h
theorem ezw_call0 {kk a na : Nat} {as st1 : List ezq_V} {q : Nat} (he : ezw_at r pc = some (.invokevirtual kk, 3, (a, na, 0, 0, 0))) (hd : 1 ≤ d) (hst : st1 = as.reverse ++ (ezw_p q :: st)) (hna : as.length = na) {fs : List ezq_V} (hq : g q = ezw_co (ezq_sel a).2.2.1 fs) (hq9 : Nat.blt q 96 = true) (ho : Nat.blt (ezq_sel a).2.2.1 13 = true) (h8 : Nat.ble (ezq_cat st) 8 = true) (hmL : (Nat.ble (ezq_cat (ezw_p q :: as)) (ezq_sel a).2.2.2.2.1 && Nat.ble (ezq_sel a).2.2.2.2.1 80) = true)
    {P1 : Option ezq_V → (Nat → ezq_C) → Prop} (hC : ezw_C l ρ B xa Hb D cA a (d - 1) (ezw_p q :: as) g P1) (h : ∀ v g', P1 v g' → ezw_E l ρ B xa Hb D cA d r P (pc + 3) ls (ezw_vs v st) g') : ezw_E l ρ B xa Hb D cA d r P pc ls st1 g := by
  obtain ⟨v1, g1, hP1, hM⟩ := hC
  obtain ⟨n, v0, g0, hP, h⟩ := h v1 g1 hP1
  obtain ⟨d0, rfl⟩ : ∃ d0, d = d0 + 1 := ⟨d - 1, by omega⟩
  subst hst
  refine ⟨n + 1, v0, g0, hP, fun ls' hl => ezw_rs he fun go gh br sw ca re hgo hgh hbr hsw hca hre => hca ?_⟩
  show (bif Nat.ble (ezw_kc r + 0) r.2.2.2.2.2.2.1 && Nat.ble (ezw_ks r + 0) r.2.2.2.2.2.2.2 then
      ezq_pop False na (as.reverse ++ (ezw_p q :: st)) [] fun as rest => ezq_rcv False 96 (ezw_T 7 g 0) 0 (ezq_sel a).2.2.1 as rest fun as rest =>
        bif Nat.ble (ezq_cat rest) 8 && (Nat.ble (ezq_cat as) (ezq_sel a).2.2.2.2.1 && Nat.ble (ezq_sel a).2.2.2.2.1 80) then _ else False
    else False)
  rw [Nat.add_zero, Nat.add_zero, ezw_kc_ok, ezw_ks_ok, Bool.and_self, cond_true, ezw_popeq as _ na hna]
  show (bif Nat.ble 96 q then False else match ezq_tg 7 (ezw_T 7 g 0) q with
      | .inl (ci, fs) => bif Nat.ble 13 ci then False else bif Nat.beq ci (ezq_sel a).2.2.1 then (bif Nat.ble (ezq_cat st) 8 && (Nat.ble (ezq_cat (ezw_p q :: as)) (ezq_sel a).2.2.2.2.1 && Nat.ble (ezq_sel a).2.2.2.2.1 80) then _ else False) else False
      | _ => False)
  have hq9 := ezq_bltT hq9
  rw [ezw_Tg 7 g 0 q (by omega), Nat.zero_add, hq, ezw_bleF hq9]
  show (bif Nat.ble 13 (ezq_sel a).2.2.1 then False else bif Nat.beq (ezq_sel a).2.2.1 (ezq_sel a).2.2.1 then (bif Nat.ble (ezq_cat st) 8 && (Nat.ble (ezq_cat (ezw_p q :: as)) (ezq_sel a).2.2.2.2.1 && Nat.ble (ezq_sel a).2.2.2.2.1 80) then _ else False) else False)
  rw [ezw_bleF (ezq_bltT ho), Nat.beq_refl, h8, hmL]
  exact ezw_callgo hl rfl rfl hM h
theorem ezw_call2_1 {kk a : Nat} {v1 : ezq_V} (he : ezw_at r pc = some (.invokestatic kk, 3, (a, 1, 2, 0, 0))) (hd : 1 ≤ d) (h8 : Nat.ble (ezq_cat st) 8 = true) (hmL : (Nat.ble (ezq_cat [v1]) (ezq_sel a).2.2.2.2.1 && Nat.ble (ezq_sel a).2.2.2.2.1 80) = true) {P1 : Option ezq_V → (Nat → ezq_C) → Prop} (hC : ezw_C l ρ B xa Hb D cA a (d - 1) [v1] g P1) (h : ∀ v g', P1 v g' → ezw_E l ρ B xa Hb D cA d r P (pc + 3) ls (ezw_vs v st) g') : ezw_E l ρ B xa Hb D cA d r P pc ls (v1 :: st) g :=
  ezw_call2 (as := [v1]) he hd rfl rfl h8 hmL hC h
theorem ezw_call2_2 {kk a : Nat} {v1 v2 : ezq_V} (he : ezw_at r pc = some (.invokestatic kk, 3, (a, 2, 2, 0, 0))) (hd : 1 ≤ d) (h8 : Nat.ble (ezq_cat st) 8 = true) (hmL : (Nat.ble (ezq_cat [v1, v2]) (ezq_sel a).2.2.2.2.1 && Nat.ble (ezq_sel a).2.2.2.2.1 80) = true) {P1 : Option ezq_V → (Nat → ezq_C) → Prop} (hC : ezw_C l ρ B xa Hb D cA a (d - 1) [v1, v2] g P1) (h : ∀ v g', P1 v g' → ezw_E l ρ B xa Hb D cA d r P (pc + 3) ls (ezw_vs v st) g') : ezw_E l ρ B xa Hb D cA d r P pc ls (v2 :: (v1 :: st)) g :=
  ezw_call2 (as := [v1, v2]) he hd rfl rfl h8 hmL hC h
theorem ezw_call2_3 {kk a : Nat} {v1 v2 v3 : ezq_V} (he : ezw_at r pc = some (.invokestatic kk, 3, (a, 3, 2, 0, 0))) (hd : 1 ≤ d) (h8 : Nat.ble (ezq_cat st) 8 = true) (hmL : (Nat.ble (ezq_cat [v1, v2, v3]) (ezq_sel a).2.2.2.2.1 && Nat.ble (ezq_sel a).2.2.2.2.1 80) = true) {P1 : Option ezq_V → (Nat → ezq_C) → Prop} (hC : ezw_C l ρ B xa Hb D cA a (d - 1) [v1, v2, v3] g P1) (h : ∀ v g', P1 v g' → ezw_E l ρ B xa Hb D cA d r P (pc + 3) ls (ezw_vs v st) g') : ezw_E l ρ B xa Hb D cA d r P pc ls (v3 :: (v2 :: (v1 :: st))) g :=
  ezw_call2 (as := [v1, v2, v3]) he hd rfl rfl h8 hmL hC h
theorem ezw_call2_4 {kk a : Nat} {v1 v2 v3 v4 : ezq_V} (he : ezw_at r pc = some (.invokestatic kk, 3, (a, 4, 2, 0, 0))) (hd : 1 ≤ d) (h8 : Nat.ble (ezq_cat st) 8 = true) (hmL : (Nat.ble (ezq_cat [v1, v2, v3, v4]) (ezq_sel a).2.2.2.2.1 && Nat.ble (ezq_sel a).2.2.2.2.1 80) = true) {P1 : Option ezq_V → (Nat → ezq_C) → Prop} (hC : ezw_C l ρ B xa Hb D cA a (d - 1) [v1, v2, v3, v4] g P1) (h : ∀ v g', P1 v g' → ezw_E l ρ B xa Hb D cA d r P (pc + 3) ls (ezw_vs v st) g') : ezw_E l ρ B xa Hb D cA d r P pc ls (v4 :: (v3 :: (v2 :: (v1 :: st)))) g :=
  ezw_call2 (as := [v1, v2, v3, v4]) he hd rfl rfl h8 hmL hC h
theorem ezw_call3_1 {kk a : Nat} {v1 : ezq_V} (he : ezw_at r pc = some (.invokestatic kk, 3, (a, 1, 3, 0, 0))) (hd : 1 ≤ d) (h8 : Nat.ble (ezq_cat st) 8 = true) (hmL : (Nat.ble (ezq_cat [v1]) (ezq_sel a).2.2.2.2.1 && Nat.ble (ezq_sel a).2.2.2.2.1 80) = true) {P1 : Option ezq_V → (Nat → ezq_C) → Prop} (hC : ezw_C l ρ B xa Hb D cA a (d - 1) [v1] g P1) (h : ∀ v g', P1 v g' → ezw_E l ρ B xa Hb D cA d r P (pc + 3) ls (ezw_vs v st) g') : ezw_E l ρ B xa Hb D cA d r P pc ls (v1 :: st) g :=
  ezw_call3 (as := [v1]) he hd rfl rfl h8 hmL hC h
theorem ezw_call3_2 {kk a : Nat} {v1 v2 : ezq_V} (he : ezw_at r pc = some (.invokestatic kk, 3, (a, 2, 3, 0, 0))) (hd : 1 ≤ d) (h8 : Nat.ble (ezq_cat st) 8 = true) (hmL : (Nat.ble (ezq_cat [v1, v2]) (ezq_sel a).2.2.2.2.1 && Nat.ble (ezq_sel a).2.2.2.2.1 80) = true) {P1 : Option ezq_V → (Nat → ezq_C) → Prop} (hC : ezw_C l ρ B xa Hb D cA a (d - 1) [v1, v2] g P1) (h : ∀ v g', P1 v g' → ezw_E l ρ B xa Hb D cA d r P (pc + 3) ls (ezw_vs v st) g') : ezw_E l ρ B xa Hb D cA d r P pc ls (v2 :: (v1 :: st)) g :=
  ezw_call3 (as := [v1, v2]) he hd rfl rfl h8 hmL hC h
theorem ezw_call3_3 {kk a : Nat} {v1 v2 v3 : ezq_V} (he : ezw_at r pc = some (.invokestatic kk, 3, (a, 3, 3, 0, 0))) (hd : 1 ≤ d) (h8 : Nat.ble (ezq_cat st) 8 = true) (hmL : (Nat.ble (ezq_cat [v1, v2, v3]) (ezq_sel a).2.2.2.2.1 && Nat.ble (ezq_sel a).2.2.2.2.1 80) = true) {P1 : Option ezq_V → (Nat → ezq_C) → Prop} (hC : ezw_C l ρ B xa Hb D cA a (d - 1) [v1, v2, v3] g P1) (h : ∀ v g', P1 v g' → ezw_E l ρ B xa Hb D cA d r P (pc + 3) ls (ezw_vs v st) g') : ezw_E l ρ B xa Hb D cA d r P pc ls (v3 :: (v2 :: (v1 :: st))) g :=
  ezw_call3 (as := [v1, v2, v3]) he hd rfl rfl h8 hmL hC h
theorem ezw_call0_0 {kk a : Nat} {q : Nat} (he : ezw_at r pc = some (.invokevirtual kk, 3, (a, 0, 0, 0, 0))) (hd : 1 ≤ d) {fs : List ezq_V} (hq : g q = ezw_co (ezq_sel a).2.2.1 fs) (hq9 : Nat.blt q 96 = true) (ho : Nat.blt (ezq_sel a).2.2.1 13 = true) (h8 : Nat.ble (ezq_cat st) 8 = true) (hmL : (Nat.ble (ezq_cat (ezw_p q :: [])) (ezq_sel a).2.2.2.2.1 && Nat.ble (ezq_sel a).2.2.2.2.1 80) = true) {P1 : Option ezq_V → (Nat → ezq_C) → Prop} (hC : ezw_C l ρ B xa Hb D cA a (d - 1) (ezw_p q :: []) g P1) (h : ∀ v g', P1 v g' → ezw_E l ρ B xa Hb D cA d r P (pc + 3) ls (ezw_vs v st) g') : ezw_E l ρ B xa Hb D cA d r P pc ls (ezw_p q :: st) g :=
  ezw_call0 (as := []) he hd rfl rfl hq hq9 ho h8 hmL hC h
theorem ezw_call0_1 {kk a : Nat} {v1 : ezq_V} {q : Nat} (he : ezw_at r pc = some (.invokevirtual kk, 3, (a, 1, 0, 0, 0))) (hd : 1 ≤ d) {fs : List ezq_V} (hq : g q = ezw_co (ezq_sel a).2.2.1 fs) (hq9 : Nat.blt q 96 = true) (ho : Nat.blt (ezq_sel a).2.2.1 13 = true) (h8 : Nat.ble (ezq_cat st) 8 = true) (hmL : (Nat.ble (ezq_cat (ezw_p q :: [v1])) (ezq_sel a).2.2.2.2.1 && Nat.ble (ezq_sel a).2.2.2.2.1 80) = true) {P1 : Option ezq_V → (Nat → ezq_C) → Prop} (hC : ezw_C l ρ B xa Hb D cA a (d - 1) (ezw_p q :: [v1]) g P1) (h : ∀ v g', P1 v g' → ezw_E l ρ B xa Hb D cA d r P (pc + 3) ls (ezw_vs v st) g') : ezw_E l ρ B xa Hb D cA d r P pc ls (v1 :: (ezw_p q :: st)) g :=
  ezw_call0 (as := [v1]) he hd rfl rfl hq hq9 ho h8 hmL hC h
theorem ezw_call0_2 {kk a : Nat} {v1 v2 : ezq_V} {q : Nat} (he : ezw_at r pc = some (.invokevirtual kk, 3, (a, 2, 0, 0, 0))) (hd : 1 ≤ d) {fs : List ezq_V} (hq : g q = ezw_co (ezq_sel a).2.2.1 fs) (hq9 : Nat.blt q 96 = true) (ho : Nat.blt (ezq_sel a).2.2.1 13 = true) (h8 : Nat.ble (ezq_cat st) 8 = true) (hmL : (Nat.ble (ezq_cat (ezw_p q :: [v1, v2])) (ezq_sel a).2.2.2.2.1 && Nat.ble (ezq_sel a).2.2.2.2.1 80) = true) {P1 : Option ezq_V → (Nat → ezq_C) → Prop} (hC : ezw_C l ρ B xa Hb D cA a (d - 1) (ezw_p q :: [v1, v2]) g P1) (h : ∀ v g', P1 v g' → ezw_E l ρ B xa Hb D cA d r P (pc + 3) ls (ezw_vs v st) g') : ezw_E l ρ B xa Hb D cA d r P pc ls (v2 :: (v1 :: (ezw_p q :: st))) g :=
  ezw_call0 (as := [v1, v2]) he hd rfl rfl hq hq9 ho h8 hmL hC h
theorem ezw_call0_3 {kk a : Nat} {v1 v2 v3 : ezq_V} {q : Nat} (he : ezw_at r pc = some (.invokevirtual kk, 3, (a, 3, 0, 0, 0))) (hd : 1 ≤ d) {fs : List ezq_V} (hq : g q = ezw_co (ezq_sel a).2.2.1 fs) (hq9 : Nat.blt q 96 = true) (ho : Nat.blt (ezq_sel a).2.2.1 13 = true) (h8 : Nat.ble (ezq_cat st) 8 = true) (hmL : (Nat.ble (ezq_cat (ezw_p q :: [v1, v2, v3])) (ezq_sel a).2.2.2.2.1 && Nat.ble (ezq_sel a).2.2.2.2.1 80) = true) {P1 : Option ezq_V → (Nat → ezq_C) → Prop} (hC : ezw_C l ρ B xa Hb D cA a (d - 1) (ezw_p q :: [v1, v2, v3]) g P1) (h : ∀ v g', P1 v g' → ezw_E l ρ B xa Hb D cA d r P (pc + 3) ls (ezw_vs v st) g') : ezw_E l ρ B xa Hb D cA d r P pc ls (v3 :: (v2 :: (v1 :: (ezw_p q :: st)))) g :=
  ezw_call0 (as := [v1, v2, v3]) he hd rfl rfl hq hq9 ho h8 hmL hC h
theorem ezw_call0_4 {kk a : Nat} {v1 v2 v3 v4 : ezq_V} {q : Nat} (he : ezw_at r pc = some (.invokevirtual kk, 3, (a, 4, 0, 0, 0))) (hd : 1 ≤ d) {fs : List ezq_V} (hq : g q = ezw_co (ezq_sel a).2.2.1 fs) (hq9 : Nat.blt q 96 = true) (ho : Nat.blt (ezq_sel a).2.2.1 13 = true) (h8 : Nat.ble (ezq_cat st) 8 = true) (hmL : (Nat.ble (ezq_cat (ezw_p q :: [v1, v2, v3, v4])) (ezq_sel a).2.2.2.2.1 && Nat.ble (ezq_sel a).2.2.2.2.1 80) = true) {P1 : Option ezq_V → (Nat → ezq_C) → Prop} (hC : ezw_C l ρ B xa Hb D cA a (d - 1) (ezw_p q :: [v1, v2, v3, v4]) g P1) (h : ∀ v g', P1 v g' → ezw_E l ρ B xa Hb D cA d r P (pc + 3) ls (ezw_vs v st) g') : ezw_E l ρ B xa Hb D cA d r P pc ls (v4 :: (v3 :: (v2 :: (v1 :: (ezw_p q :: st))))) g :=
  ezw_call0 (as := [v1, v2, v3, v4]) he hd rfl rfl hq hq9 ho h8 hmL hC h
theorem ezw_call0_5 {kk a : Nat} {v1 v2 v3 v4 v5 : ezq_V} {q : Nat} (he : ezw_at r pc = some (.invokevirtual kk, 3, (a, 5, 0, 0, 0))) (hd : 1 ≤ d) {fs : List ezq_V} (hq : g q = ezw_co (ezq_sel a).2.2.1 fs) (hq9 : Nat.blt q 96 = true) (ho : Nat.blt (ezq_sel a).2.2.1 13 = true) (h8 : Nat.ble (ezq_cat st) 8 = true) (hmL : (Nat.ble (ezq_cat (ezw_p q :: [v1, v2, v3, v4, v5])) (ezq_sel a).2.2.2.2.1 && Nat.ble (ezq_sel a).2.2.2.2.1 80) = true) {P1 : Option ezq_V → (Nat → ezq_C) → Prop} (hC : ezw_C l ρ B xa Hb D cA a (d - 1) (ezw_p q :: [v1, v2, v3, v4, v5]) g P1) (h : ∀ v g', P1 v g' → ezw_E l ρ B xa Hb D cA d r P (pc + 3) ls (ezw_vs v st) g') : ezw_E l ρ B xa Hb D cA d r P pc ls (v5 :: (v4 :: (v3 :: (v2 :: (v1 :: (ezw_p q :: st)))))) g :=
  ezw_call0 (as := [v1, v2, v3, v4, v5]) he hd rfl rfl hq hq9 ho h8 hmL hC h
theorem ezw_call0_6 {kk a : Nat} {v1 v2 v3 v4 v5 v6 : ezq_V} {q : Nat} (he : ezw_at r pc = some (.invokevirtual kk, 3, (a, 6, 0, 0, 0))) (hd : 1 ≤ d) {fs : List ezq_V} (hq : g q = ezw_co (ezq_sel a).2.2.1 fs) (hq9 : Nat.blt q 96 = true) (ho : Nat.blt (ezq_sel a).2.2.1 13 = true) (h8 : Nat.ble (ezq_cat st) 8 = true) (hmL : (Nat.ble (ezq_cat (ezw_p q :: [v1, v2, v3, v4, v5, v6])) (ezq_sel a).2.2.2.2.1 && Nat.ble (ezq_sel a).2.2.2.2.1 80) = true) {P1 : Option ezq_V → (Nat → ezq_C) → Prop} (hC : ezw_C l ρ B xa Hb D cA a (d - 1) (ezw_p q :: [v1, v2, v3, v4, v5, v6]) g P1) (h : ∀ v g', P1 v g' → ezw_E l ρ B xa Hb D cA d r P (pc + 3) ls (ezw_vs v st) g') : ezw_E l ρ B xa Hb D cA d r P pc ls (v6 :: (v5 :: (v4 :: (v3 :: (v2 :: (v1 :: (ezw_p q :: st))))))) g :=
  ezw_call0 (as := [v1, v2, v3, v4, v5, v6]) he hd rfl rfl hq hq9 ho h8 hmL hC h
theorem ezw_tableswitch {df lo : Int} {hi : _} {offs : Array Int} {ln p a b0 c0 x0 y0 : Nat} {i : Int} (he : ezw_at r pc = some (.tableswitch df lo hi offs, ln, (a, b0, c0, x0, y0))) (hp : (match (offs.toList.zipIdx.map fun q => (lo + (q.2 : Int), q.1)).find? (fun q => decide (ezw_z q.1 = ezw_z i)) with | some q => (pc : Int) + q.2 | none => (pc : Int) + df) = ((p : Nat) : Int)) (h : ezw_E l ρ B xa Hb D cA d r P p ls st g) : ezw_E l ρ B xa Hb D cA d r P pc ls (ezw_i i :: st) g := by
  obtain ⟨n, v0, g0, hP, h⟩ := h
  exact ⟨n + 1, v0, g0, hP, fun ls' hl => ezw_rs he fun go gh br sw ca re hgo hgh hbr hsw hca hre => hsw _ _ i _ p hp (h ls' hl)⟩
theorem ezw_lookupswitch {df : Int} {ps : Array (Int × Int)} {ln p a b0 c0 x0 y0 : Nat} {i : Int} (he : ezw_at r pc = some (.lookupswitch df ps, ln, (a, b0, c0, x0, y0))) (hp : (match ps.toList.find? (fun q => decide (ezw_z q.1 = ezw_z i)) with | some q => (pc : Int) + q.2 | none => (pc : Int) + df) = ((p : Nat) : Int)) (h : ezw_E l ρ B xa Hb D cA d r P p ls st g) : ezw_E l ρ B xa Hb D cA d r P pc ls (ezw_i i :: st) g := by
  obtain ⟨n, v0, g0, hP, h⟩ := h
  exact ⟨n + 1, v0, g0, hP, fun ls' hl => ezw_rs he fun go gh br sw ca re hgo hgh hbr hsw hca hre => hsw _ _ i _ p hp (h ls' hl)⟩
theorem ezw_absE (z : Int) : ∃ u, (if 0 ≤ z then z else 0 - z) = u ∧ (0 ≤ z ∧ u = z ∨ z < 0 ∧ u = -z) := by
  by_cases h : 0 ≤ z
  · exact ⟨z, if_pos h, Or.inl ⟨h, rfl⟩⟩
  · exact ⟨-z, by rw [if_neg h]; omega, Or.inr ⟨by omega, rfl⟩⟩
theorem ezw_minE (i j : Int) : ∃ u, (if j < i then j else i) = u ∧ (j < i ∧ u = j ∨ i ≤ j ∧ u = i) := by
  by_cases h : j < i
  · exact ⟨j, if_pos h, Or.inl ⟨h, rfl⟩⟩
  · exact ⟨i, if_neg h, Or.inr ⟨by omega, rfl⟩⟩
theorem ezw_maxE (i j : Int) : ∃ u, (if i < j then j else i) = u ∧ (i < j ∧ u = j ∨ j ≤ i ∧ u = i) := by
  by_cases h : i < j
  · exact ⟨j, if_pos h, Or.inl ⟨h, rfl⟩⟩
  · exact ⟨i, if_neg h, Or.inr ⟨by omega, rfl⟩⟩
theorem ezw_cmpE (i j : Int) : ∃ u, (if i < j then -1 else if i = j then 0 else 1) = u ∧ (i < j ∧ u = -1 ∨ i = j ∧ u = 0 ∨ j < i ∧ u = 1) := by
  by_cases h : i < j
  · exact ⟨-1, if_pos h, Or.inl ⟨h, rfl⟩⟩
  · by_cases h2 : i = j
    · exact ⟨0, by rw [if_neg h, if_pos h2], Or.inr (Or.inl ⟨h2, rfl⟩)⟩
    · exact ⟨1, by rw [if_neg h, if_neg h2], Or.inr (Or.inr ⟨by omega, rfl⟩)⟩
theorem ezw_mabsE {kk b0 x0 y0 : Nat} {i : Int} (he : ezw_at r pc = some (.invokestatic kk, 3, (2, b0, 7, x0, y0))) (hi : ezw_in i) (hcat : Nat.ble (ezq_cat (ezw_i i :: st)) 8 = true) (h : ∀ u, (0 ≤ i ∧ u = i ∨ i < 0 ∧ u = -i) → ezw_E l ρ B xa Hb D cA d r P (pc + 3) ls (ezw_i u :: st) g) : ezw_E l ρ B xa Hb D cA d r P pc ls (ezw_i i :: st) g := by
  obtain ⟨u, e, f⟩ := ezw_absE i
  exact ezw_mabs he hi hcat e (h u f)
theorem ezw_mminE {kk b0 x0 y0 : Nat} {i j : Int} (he : ezw_at r pc = some (.invokestatic kk, 3, (1, b0, 7, x0, y0))) (hi : ezw_in i) (hj : ezw_in j) (hcat : Nat.ble (ezq_cat (ezw_i j :: ezw_i i :: st)) 8 = true) (h : ∀ u, (j < i ∧ u = j ∨ i ≤ j ∧ u = i) → ezw_E l ρ B xa Hb D cA d r P (pc + 3) ls (ezw_i u :: st) g) : ezw_E l ρ B xa Hb D cA d r P pc ls (ezw_i j :: ezw_i i :: st) g := by
  obtain ⟨u, e, f⟩ := ezw_minE i j
  exact ezw_mmin he hi hj hcat e (h u f)
theorem ezw_mmaxE {kk b0 x0 y0 : Nat} {i j : Int} (he : ezw_at r pc = some (.invokestatic kk, 3, (0, b0, 7, x0, y0))) (hi : ezw_in i) (hj : ezw_in j) (hcat : Nat.ble (ezq_cat (ezw_i j :: ezw_i i :: st)) 8 = true) (h : ∀ u, (i < j ∧ u = j ∨ j ≤ i ∧ u = i) → ezw_E l ρ B xa Hb D cA d r P (pc + 3) ls (ezw_i u :: st) g) : ezw_E l ρ B xa Hb D cA d r P pc ls (ezw_i j :: ezw_i i :: st) g := by
  obtain ⟨u, e, f⟩ := ezw_maxE i j
  exact ezw_mmax he hi hj hcat e (h u f)
theorem ezw_lcmpE {i j : Int} {a b c x y : Nat} (he : ezw_at r pc = some (.lcmp, 1, (a, b, c, x, y))) (hi : ezw_il i) (hj : ezw_il j) (h : ∀ u, (i < j ∧ u = -1 ∨ i = j ∧ u = 0 ∨ j < i ∧ u = 1) → ezw_E l ρ B xa Hb D cA d r P (pc + 1) ls (ezw_i u :: st) g) : ezw_E l ρ B xa Hb D cA d r P pc ls (ezw_l j :: ezw_l i :: st) g := by
  obtain ⟨u, e, f⟩ := ezw_cmpE i j
  exact ezw_lcmp he hi hj e (h u f)
theorem ezw_putf_i {k q a b0 c0 y0 : Nat} {rf : Nat → Nat} {f : Nat → Int} {i : Int} (he : ezw_at r pc = some (.putfield k, 3, (a, b0, c0, 0, y0))) (hq : g q = ezw_obj a rf f) (hq9 : Nat.blt q 96 = true) (ha : Nat.blt a 13 = true) (hs : (ezw_flds a rf f).set b0 (ezw_i i) = ezw_flds a rf (ezw_fu f b0 i)) (h : ezw_E l ρ B xa Hb D cA d r P (pc + 3) ls st (ezw_u g q (ezw_obj a rf (ezw_fu f b0 i)))) : ezw_E l ρ B xa Hb D cA d r P pc ls (ezw_i i :: ezw_p q :: st) g := by
  refine ezw_putfield_i he hq hq9 ha ?_
  rw [hs]
  exact h
theorem ezw_putf_l {k q a b0 c0 y0 : Nat} {rf : Nat → Nat} {f : Nat → Int} {i : Int} (he : ezw_at r pc = some (.putfield k, 3, (a, b0, c0, 1, y0))) (hq : g q = ezw_obj a rf f) (hq9 : Nat.blt q 96 = true) (ha : Nat.blt a 13 = true) (hs : (ezw_flds a rf f).set b0 (ezw_l i) = ezw_flds a rf (ezw_fu f b0 i)) (h : ezw_E l ρ B xa Hb D cA d r P (pc + 3) ls st (ezw_u g q (ezw_obj a rf (ezw_fu f b0 i)))) : ezw_E l ρ B xa Hb D cA d r P pc ls (ezw_l i :: ezw_p q :: st) g := by
  refine ezw_putfield_l he hq hq9 ha ?_
  rw [hs]
  exact h
theorem ezw_putf_z {k q a b0 c0 y0 : Nat} {rf : Nat → Nat} {f : Nat → Int} {i : Int} (he : ezw_at r pc = some (.putfield k, 3, (a, b0, c0, 2, y0))) (hq : g q = ezw_obj a rf f) (hq9 : Nat.blt q 96 = true) (ha : Nat.blt a 13 = true) (hz : 0 ≤ i ∧ i ≤ 1) (hs : (ezw_flds a rf f).set b0 (ezw_i i) = ezw_flds a rf (ezw_fu f b0 i)) (h : ezw_E l ρ B xa Hb D cA d r P (pc + 3) ls st (ezw_u g q (ezw_obj a rf (ezw_fu f b0 i)))) : ezw_E l ρ B xa Hb D cA d r P pc ls (ezw_i i :: ezw_p q :: st) g := by
  refine ezw_putfield_z he hq hq9 ha hz ?_
  rw [hs]
  exact h
theorem ezw_putf_a {k q a b0 c0 y0 : Nat} {rf : Nat → Nat} {f : Nat → Int} {i : Nat} (he : ezw_at r pc = some (.putfield k, 3, (a, b0, c0, 3, y0))) (hq : g q = ezw_obj a rf f) (hq9 : Nat.blt q 96 = true) (ha : Nat.blt a 13 = true) (hs : (ezw_flds a rf f).set b0 (ezw_p i) = ezw_flds a (ezw_ru rf b0 i) f) (h : ezw_E l ρ B xa Hb D cA d r P (pc + 3) ls st (ezw_u g q (ezw_obj a (ezw_ru rf b0 i) f))) : ezw_E l ρ B xa Hb D cA d r P pc ls (ezw_p i :: ezw_p q :: st) g := by
  refine ezw_putfield_a he hq hq9 ha ?_
  rw [hs]
  exact h
theorem ezw_wrap (i : Int) : ∃ u, ezw_in u ∧ ezw_i i = ezw_i u := ⟨(Int32.ofInt i).toInt, ⟨Int32.le_toInt _, Int32.toInt_lt _⟩, by
  unfold ezw_i
  rw [← ezw_zofN, ← ezw_zofN, Int32.ofInt_toInt]⟩
theorem ezw_wrapl (i : Int) : ∃ u, ezw_il u ∧ ezw_l i = ezw_l u := ⟨(Int64.ofInt i).toInt, ⟨Int64.le_toInt _, Int64.toInt_lt _⟩, by
  unfold ezw_l
  rw [← ezw_zlofN, ← ezw_zlofN, Int64.ofInt_toInt]⟩
theorem ezw_iushrO {i j : Int} {a b0 c0 x0 y0 : Nat} (he : ezw_at r pc = some (.iushr, 1, (a, b0, c0, x0, y0))) (h : ∀ u, ezw_in u → ezw_E l ρ B xa Hb D cA d r P (pc + 1) ls (ezw_i u :: st) g) : ezw_E l ρ B xa Hb D cA d r P pc ls (ezw_i j :: ezw_i i :: st) g := by
  have e := Int32.ofInt_toInt ((fun (x y : Int32) => (x.toUInt32 >>> (y.toUInt32 &&& Int32.toUInt32 31)).toInt32) (Int32.ofInt i) (Int32.ofInt j))
  obtain ⟨n, v0, g0, hP, h⟩ := h _ ⟨Int32.le_toInt ((fun (x y : Int32) => (x.toUInt32 >>> (y.toUInt32 &&& Int32.toUInt32 31)).toInt32) (Int32.ofInt i) (Int32.ofInt j)), Int32.toInt_lt _⟩
  obtain ⟨-, hpc⟩ := ezw_at_ok he
  refine ⟨n + 1, v0, g0, hP, fun ls' hl => ezw_rs he fun go gh br sw ca re hgo hgh hbr hsw hca hre => ?_⟩
  show ezq_fi (ezq_o2 (fun (x y : Int32) => (x.toUInt32 >>> (y.toUInt32 &&& Int32.toUInt32 31)).toInt32) (.inl (ezw_z i)) (.inl (ezw_z j))) (fun z => go (pc + 1) ls' (.inl z :: st))
  rw [ezq_fi_eq, ezw_o2 (f := fun (x y : Int32) => (x.toUInt32 >>> (y.toUInt32 &&& Int32.toUInt32 31)).toInt32) e.symm]
  exact hgo _ _ _ (by omega) (h ls' hl)
theorem ezw_ishlO {i j : Int} {a b0 c0 x0 y0 : Nat} (he : ezw_at r pc = some (.ishl, 1, (a, b0, c0, x0, y0))) (h : ∀ u, ezw_in u → ezw_E l ρ B xa Hb D cA d r P (pc + 1) ls (ezw_i u :: st) g) : ezw_E l ρ B xa Hb D cA d r P pc ls (ezw_i j :: ezw_i i :: st) g := by
  have e := Int32.ofInt_toInt ((fun (x y : Int32) => x <<< (y &&& 31)) (Int32.ofInt i) (Int32.ofInt j))
  obtain ⟨n, v0, g0, hP, h⟩ := h _ ⟨Int32.le_toInt ((fun (x y : Int32) => x <<< (y &&& 31)) (Int32.ofInt i) (Int32.ofInt j)), Int32.toInt_lt _⟩
  obtain ⟨-, hpc⟩ := ezw_at_ok he
  refine ⟨n + 1, v0, g0, hP, fun ls' hl => ezw_rs he fun go gh br sw ca re hgo hgh hbr hsw hca hre => ?_⟩
  show ezq_fi (ezq_o2 (fun (x y : Int32) => x <<< (y &&& 31)) (.inl (ezw_z i)) (.inl (ezw_z j))) (fun z => go (pc + 1) ls' (.inl z :: st))
  rw [ezq_fi_eq, ezw_o2 (f := fun (x y : Int32) => x <<< (y &&& 31)) e.symm]
  exact hgo _ _ _ (by omega) (h ls' hl)
theorem ezw_ishrO {i j : Int} {a b0 c0 x0 y0 : Nat} (he : ezw_at r pc = some (.ishr, 1, (a, b0, c0, x0, y0))) (h : ∀ u, ezw_in u → ezw_E l ρ B xa Hb D cA d r P (pc + 1) ls (ezw_i u :: st) g) : ezw_E l ρ B xa Hb D cA d r P pc ls (ezw_i j :: ezw_i i :: st) g := by
  have e := Int32.ofInt_toInt ((fun (x y : Int32) => x >>> (y &&& 31)) (Int32.ofInt i) (Int32.ofInt j))
  obtain ⟨n, v0, g0, hP, h⟩ := h _ ⟨Int32.le_toInt ((fun (x y : Int32) => x >>> (y &&& 31)) (Int32.ofInt i) (Int32.ofInt j)), Int32.toInt_lt _⟩
  obtain ⟨-, hpc⟩ := ezw_at_ok he
  refine ⟨n + 1, v0, g0, hP, fun ls' hl => ezw_rs he fun go gh br sw ca re hgo hgh hbr hsw hca hre => ?_⟩
  show ezq_fi (ezq_o2 (fun (x y : Int32) => x >>> (y &&& 31)) (.inl (ezw_z i)) (.inl (ezw_z j))) (fun z => go (pc + 1) ls' (.inl z :: st))
  rw [ezq_fi_eq, ezw_o2 (f := fun (x y : Int32) => x >>> (y &&& 31)) e.symm]
  exact hgo _ _ _ (by omega) (h ls' hl)
theorem ezw_slen {a b0 c0 x0 y0 : Nat} (he : ezw_at r pc = some (.arraylength, 1, (a, b0, c0, x0, y0))) (h : ezw_E l ρ B xa Hb D cA d r P (pc + 1) ls (ezw_i (ρ 8).toInt :: st) g) : ezw_E l ρ B xa Hb D cA d r P pc ls (ezq_xt 0 :: st) g := by
  obtain ⟨n, v0, g0, hP, h⟩ := h
  obtain ⟨-, hpc⟩ := ezw_at_ok he
  refine ⟨n + 1, v0, g0, hP, fun ls' hl => ezw_rs he fun go gh br sw ca re hgo hgh hbr hsw hca hre => ?_⟩
  show go (pc + 1) ls' (.inl (ezq_nm (ezw_G ρ) (.inr (.inl 8))) :: st)
  rw [ezw_nmk]
  exact hgo _ _ _ (by omega) (h ls' hl)
theorem ezw_iaE {Γ : ezq_G} {a b c x y pc m sz cl sl mc ms : Nat} {p : ezq_P} {ls : ezq_S} {st : List ezq_V} {t : ezq_T 7} {go : Nat → ezq_S → List ezq_V → Prop} {gh : Nat → List ezq_V → Nat → ezq_T 7 → Nat → Nat → Prop} {br : ClassFile.Cond → ezq_I → ezq_I → Nat → Nat → List ezq_V → Prop} {sw : List (Int × Int) → Int → ezq_I → List ezq_V → Prop} {ca : Prop} {re : Option ezq_V → Prop} :
    ezq_step False Γ (.iaload, 1, (a, b, c, x, y)) pc ls (.inl (.inl m) :: .inr (.inr p) :: st) sz t cl sl mc ms go gh br sw ca re = ezq_ald False Γ sz t 0 m p (fun v => ezq_i1 False [v] fun z _ => go (pc + 1) ls (.inl (ezq_nm Γ z) :: st)) := rfl
theorem ezw_ald0 {ρ : ezq_E} {m : Nat} {t : ezq_T 7} {k : ezq_V → Prop} (h : ezq_sl m (ezw_G ρ 8) = true) (hk : k (.inl (.inr (.inl (ezq_sx m))))) : ezq_ald False (ezw_G ρ) 96 t 0 m (some (.inr 0)) k := by
  have e : ezq_ald False (ezw_G ρ) 96 t 0 m (some (.inr 0)) k = bif Nat.beq 0 0 && ezq_sl m (ezw_G ρ 8) then k (.inl (.inr (.inl (ezq_sx m)))) else False := rfl
  rw [e, h]
  exact hk
theorem ezw_sload {a b0 c0 x0 y0 L : Nat} {i : Int} (he : ezw_at r pc = some (.iaload, 1, (a, b0, c0, x0, y0))) (h0 : 0 ≤ i) (h1 : i < (L : Int)) (hL : L ≤ 3584) (hρ : ρ 8 = Int32.ofNat L) (h : ezw_E l ρ B xa Hb D cA d r P (pc + 1) ls (ezw_i (ρ (ezq_sx i.toNat)).toInt :: st) g) : ezw_E l ρ B xa Hb D cA d r P pc ls (ezw_i i :: ezq_xt 0 :: st) g := by
  obtain ⟨n, v0, g0, hP, h⟩ := h
  obtain ⟨-, hpc⟩ := ezw_at_ok he
  obtain ⟨m, rfl⟩ := Int.eq_ofNat_of_zero_le h0
  have e0 : ezw_i (m : Int) = .inl (.inl m) := by
    unfold ezw_i
    rw [ezw_zN (by omega)]
  rw [Int.toNat_natCast] at h
  refine ⟨n + 1, v0, g0, hP, fun ls' hl => ezw_rs he fun go gh br sw ca re hgo hgh hbr hsw hca hre => ?_⟩
  rw [e0, show ezq_xt 0 = .inr (.inr (some (.inr 0))) from rfl, ezw_iaE]
  refine ezw_ald0 (ezw_slok (by omega) hL hρ) ?_
  show go (pc + 1) ls' (.inl (ezq_nm (ezw_G ρ) (.inr (.inl (ezq_sx m)))) :: st)
  rw [ezw_nmk]
  exact hgo _ _ _ (by omega) (h ls' hl)
theorem ezw_aloadx {k : _} {i a b0 c0 x0 y0 : Nat} (he : ezw_at r pc = some (.aload_n k, 1, (a, b0, c0, x0, y0))) (hv : ls[a]? = some (some (ezq_xt i))) (h : ezw_E l ρ B xa Hb D cA d r P (pc + 1) ls (ezq_xt i :: st) g) : ezw_E l ρ B xa Hb D cA d r P pc ls st g := by
  obtain ⟨n, v0, g0, hP, h⟩ := h
  obtain ⟨-, hpc⟩ := ezw_at_ok he
  refine ⟨n + 1, v0, g0, hP, fun ls' hl => ezw_rs he fun go gh br sw ca re hgo hgh hbr hsw hca hre => ?_⟩
  show ezq_lo False ls' a (fun v => ezq_p1 False [v] fun y _ => go (pc + 1) ls' (.inr (.inr y) :: st))
  rw [ezw_lo_lk ls' a _ _ (hl a _ hv)]
  exact hgo _ _ _ (by omega) (h ls' hl)
/-- fewer locals are enough -/
def ezw_keep (m : List Bool) (ls : List (Option ezq_V)) : List (Option ezq_V) := match m with
  | [] => []
  | b :: m => match ls with
    | [] => []
    | v :: ls => (bif b then v else none) :: ezw_keep m ls
theorem ezw_keep_ok (m : List Bool) : ∀ (ls : List (Option ezq_V)) (i : Nat) (v : ezq_V), (ezw_keep m ls)[i]? = some (some v) → ls[i]? = some (some v) := by
  induction m with
  | nil => intro ls i v h; cases h
  | cons b m ih =>
    intro ls i v h
    cases ls with
    | nil => cases h
    | cons w ls =>
      cases i with
      | zero =>
        cases b
        · cases h
        · exact h
      | succ i => exact ih ls i v h
theorem ezw_keepE (m : List Bool) (h : ezw_E l ρ B xa Hb D cA d r P pc (ezw_keep m ls) st g) : ezw_E l ρ B xa Hb D cA d r P pc ls st g := by
  obtain ⟨n, v0, g0, hP, h⟩ := h
  exact ⟨n, v0, g0, hP, fun ls' hl => h ls' fun i v hv => hl i v (ezw_keep_ok m ls i v hv)⟩
theorem ezw_ldcS {k b0 c x y : Nat} (he : ezw_at r pc = some (.ldc k, 2, (1, b0, c, x, y))) (hb : Nat.ble b0 1 = true) (h : ezw_E l ρ B xa Hb D cA d r P (pc + 2) ls (ezq_xt (2 + 2 * b0) :: st) g) : ezw_E l ρ B xa Hb D cA d r P pc ls st g := by
  obtain ⟨n, v0, g0, hP, h⟩ := h
  obtain ⟨-, hpc⟩ := ezw_at_ok he
  refine ⟨n + 1, v0, g0, hP, fun ls' hl => ezw_rs he fun go gh br sw ca re hgo hgh hbr hsw hca hre => ?_⟩
  show (bif Nat.ble b0 1 then go (pc + 2) ls' (ezq_xt (2 + 2 * b0) :: st) else False)
  rw [hb]
  exact hgo _ _ _ (by omega) (h ls' hl)
theorem ezw_getval4 {k b0 c x y : Nat} (he : ezw_at r pc = some (.getfield k, 3, (100, b0, c, x, y))) (h : ezw_E l ρ B xa Hb D cA d r P (pc + 3) ls (ezq_xt 5 :: st) g) : ezw_E l ρ B xa Hb D cA d r P pc ls (ezq_xt 4 :: st) g := by
  obtain ⟨n, v0, g0, hP, h⟩ := h
  obtain ⟨-, hpc⟩ := ezw_at_ok he
  exact ⟨n + 1, v0, g0, hP, fun ls' hl => ezw_rs he fun go gh br sw ca re hgo hgh hbr hsw hca hre => hgo _ _ _ (by omega) (h ls' hl)⟩
theorem ezw_getcod4 {k b0 c x y : Nat} (he : ezw_at r pc = some (.getfield k, 3, (101, b0, c, x, y))) (h : ezw_E l ρ B xa Hb D cA d r P (pc + 3) ls (ezw_i 0 :: st) g) : ezw_E l ρ B xa Hb D cA d r P pc ls (ezq_xt 4 :: st) g := by
  obtain ⟨n, v0, g0, hP, h⟩ := h
  obtain ⟨-, hpc⟩ := ezw_at_ok he
  exact ⟨n + 1, v0, g0, hP, fun ls' hl => ezw_rs he fun go gh br sw ca re hgo hgh hbr hsw hca hre => hgo _ _ _ (by omega) (h ls' hl)⟩
theorem ezw_getstc {k b0 c x y : Nat} (he : ezw_at r pc = some (.getstatic k, 3, (1, b0, c, x, y))) (h : ezw_E l ρ B xa Hb D cA d r P (pc + 3) ls (ezw_i 1 :: st) g) : ezw_E l ρ B xa Hb D cA d r P pc ls st g := by
  obtain ⟨n, v0, g0, hP, h⟩ := h
  obtain ⟨-, hpc⟩ := ezw_at_ok he
  exact ⟨n + 1, v0, g0, hP, fun ls' hl => ezw_rs he fun go gh br sw ca re hgo hgh hbr hsw hca hre => hgo _ _ _ (by omega) (h ls' hl)⟩
theorem ezw_xlen5 {a b0 c x y : Nat} (he : ezw_at r pc = some (.arraylength, 1, (a, b0, c, x, y))) (h : ezw_E l ρ B xa Hb D cA d r P (pc + 1) ls (ezw_i 8 :: st) g) : ezw_E l ρ B xa Hb D cA d r P pc ls (ezq_xt 5 :: st) g := by
  obtain ⟨n, v0, g0, hP, h⟩ := h
  obtain ⟨-, hpc⟩ := ezw_at_ok he
  exact ⟨n + 1, v0, g0, hP, fun ls' hl => ezw_rs he fun go gh br sw ca re hgo hgh hbr hsw hca hre => hgo _ _ _ (by omega) (h ls' hl)⟩
theorem ezw_t5in : ∀ m, m < 8 → ezw_in ((ezq_t5.getD m 0 : Nat) : Int) ∧ ezw_z ((ezq_t5.getD m 0 : Nat) : Int) = ezq_t5.getD m 0 := by decide
theorem ezw_xbal5 {a b0 c x y : Nat} {i : Int} (he : ezw_at r pc = some (.baload, 1, (a, b0, c, x, y))) (h0 : 0 ≤ i) (h1 : i < 8) (h : ∀ u, ezw_in u → ezw_E l ρ B xa Hb D cA d r P (pc + 1) ls (ezw_i u :: st) g) : ezw_E l ρ B xa Hb D cA d r P pc ls (ezw_i i :: ezq_xt 5 :: st) g := by
  obtain ⟨m, rfl⟩ := Int.eq_ofNat_of_zero_le h0
  obtain ⟨e1, e2⟩ := ezw_t5in m (by omega)
  obtain ⟨n, v0, g0, hP, h⟩ := h _ e1
  obtain ⟨-, hpc⟩ := ezw_at_ok he
  refine ⟨n + 1, v0, g0, hP, fun ls' hl => ezw_rs he fun go gh br sw ca re hgo hgh hbr hsw hca hre => ?_⟩
  show (bif Nat.blt (ezw_z (m : Int)) 8 && Nat.beq 2 2 then go (pc + 1) ls' (ezq_kn (ezq_t5.getD (ezw_z (m : Int)) 0) :: st) else False)
  rw [ezw_zN (by omega), show Nat.blt m 8 = true from Nat.ble_eq_true_of_le (by omega)]
  have e3 : ezq_kn (ezq_t5.getD m 0) = ezw_i ((ezq_t5.getD m 0 : Nat) : Int) := by
    show (Sum.inl (Sum.inl (ezq_t5.getD m 0)) : ezq_V) = .inl (.inl (ezw_z ((ezq_t5.getD m 0 : Nat) : Int)))
    rw [e2]
  show go (pc + 1) ls' (ezq_kn (ezq_t5.getD m 0) :: st)
  rw [e3]
  exact hgo _ _ _ (by omega) (h ls' hl)
theorem ezw_i2bO {i : Int} {a b0 c x y : Nat} (he : ezw_at r pc = some (.i2b, 1, (a, b0, c, x, y))) (h : ∀ u, ezw_in u → ezw_E l ρ B xa Hb D cA d r P (pc + 1) ls (ezw_i u :: st) g) : ezw_E l ρ B xa Hb D cA d r P pc ls (ezw_i i :: st) g := by
  have e := Int32.ofInt_toInt ((fun (x : Int32) => x.toInt8.toInt32) (Int32.ofInt i))
  obtain ⟨n, v0, g0, hP, h⟩ := h _ ⟨Int32.le_toInt ((fun (x : Int32) => x.toInt8.toInt32) (Int32.ofInt i)), Int32.toInt_lt _⟩
  obtain ⟨-, hpc⟩ := ezw_at_ok he
  refine ⟨n + 1, v0, g0, hP, fun ls' hl => ezw_rs he fun go gh br sw ca re hgo hgh hbr hsw hca hre => ?_⟩
  show ezq_fi (ezq_o1 (fun x => x.toInt8.toInt32) (.inl (ezw_z i))) (fun z => go (pc + 1) ls' (.inl z :: st))
  rw [ezq_fi_eq, ezw_o1 (f := fun (x : Int32) => x.toInt8.toInt32) e.symm]
  exact hgo _ _ _ (by omega) (h ls' hl)
theorem ezw_i2cO {i : Int} {a b0 c x y : Nat} (he : ezw_at r pc = some (.i2c, 1, (a, b0, c, x, y))) (h : ∀ u, ezw_in u → ezw_E l ρ B xa Hb D cA d r P (pc + 1) ls (ezw_i u :: st) g) : ezw_E l ρ B xa Hb D cA d r P pc ls (ezw_i i :: st) g := by
  have e := Int32.ofInt_toInt ((fun (x : Int32) => (x.toUInt32 % 65536).toInt32) (Int32.ofInt i))
  obtain ⟨n, v0, g0, hP, h⟩ := h _ ⟨Int32.le_toInt ((fun (x : Int32) => (x.toUInt32 % 65536).toInt32) (Int32.ofInt i)), Int32.toInt_lt _⟩
  obtain ⟨-, hpc⟩ := ezw_at_ok he
  refine ⟨n + 1, v0, g0, hP, fun ls' hl => ezw_rs he fun go gh br sw ca re hgo hgh hbr hsw hca hre => ?_⟩
  show ezq_fi (ezq_o1 (fun x => (x.toUInt32 % 65536).toInt32) (.inl (ezw_z i))) (fun z => go (pc + 1) ls' (.inl z :: st))
  rw [ezq_fi_eq, ezw_o1 (f := fun (x : Int32) => (x.toUInt32 % 65536).toInt32) e.symm]
  exact hgo _ _ _ (by omega) (h ls' hl)
theorem ezw_ifnullx {o : Int} {a b c x y : Nat} (he : ezw_at r pc = some (.ifnull o, 3, (a, b, c, x, y))) (h : ezw_E l ρ B xa Hb D cA d r P (pc + 3) ls st g) : ezw_E l ρ B xa Hb D cA d r P pc ls (ezq_xt 1 :: st) g := by
  obtain ⟨n, v0, g0, hP, h⟩ := h
  obtain ⟨-, hpc⟩ := ezw_at_ok he
  exact ⟨n + 1, v0, g0, hP, fun ls' hl => ezw_rs he fun go gh br sw ca re hgo hgh hbr hsw hca hre => hgo _ _ _ (by omega) (h ls' hl)⟩
theorem ezw_xlen1 {a b0 c x y : Nat} (he : ezw_at r pc = some (.arraylength, 1, (a, b0, c, x, y))) (h : ezw_E l ρ B xa Hb D cA d r P (pc + 1) ls (ezw_i 11 :: st) g) : ezw_E l ρ B xa Hb D cA d r P pc ls (ezq_xt 1 :: st) g := by
  obtain ⟨n, v0, g0, hP, h⟩ := h
  obtain ⟨-, hpc⟩ := ezw_at_ok he
  exact ⟨n + 1, v0, g0, hP, fun ls' hl => ezw_rs he fun go gh br sw ca re hgo hgh hbr hsw hca hre => hgo _ _ _ (by omega) (h ls' hl)⟩
theorem ezw_getst0 {k b0 c x y : Nat} (he : ezw_at r pc = some (.getstatic k, 3, (0, b0, c, x, y))) (h : ezw_E l ρ B xa Hb D cA d r P (pc + 3) ls (ezq_xt 1 :: st) g) : ezw_E l ρ B xa Hb D cA d r P pc ls st g := by
  obtain ⟨n, v0, g0, hP, h⟩ := h
  obtain ⟨-, hpc⟩ := ezw_at_ok he
  exact ⟨n + 1, v0, g0, hP, fun ls' hl => ezw_rs he fun go gh br sw ca re hgo hgh hbr hsw hca hre => hgo _ _ _ (by omega) (h ls' hl)⟩
theorem ezw_t1in : ∀ m, m < 11 → ezw_in ((ezq_t1.getD m 0 : Nat) : Int) ∧ (-2147483648 ≤ ((ezq_t1.getD m 0 : Nat) : Int) ∧ ((ezq_t1.getD m 0 : Nat) : Int) ≤ 9999) ∧ ezw_z ((ezq_t1.getD m 0 : Nat) : Int) = ezq_t1.getD m 0 := by decide
theorem ezw_call0x_0 {kk a : Nat} (he : ezw_at r pc = some (.invokevirtual kk, 3, (a, 0, 0, 0, 0))) (hd : 1 ≤ d) (ho : Nat.beq (ezq_sel a).2.2.1 14 = true) (h8 : Nat.ble (ezq_cat st) 8 = true) (hmL : (Nat.ble (ezq_cat (ezq_xt 4 :: [])) (ezq_sel a).2.2.2.2.1 && Nat.ble (ezq_sel a).2.2.2.2.1 80) = true) {P1 : Option ezq_V → (Nat → ezq_C) → Prop} (hC : ezw_C l ρ B xa Hb D cA a (d - 1) (ezq_xt 4 :: []) g P1) (h : ∀ v g', P1 v g' → ezw_E l ρ B xa Hb D cA d r P (pc + 3) ls (ezw_vs v st) g') : ezw_E l ρ B xa Hb D cA d r P pc ls (ezq_xt 4 :: st) g := by
  obtain ⟨vv, gg, hP1, hM⟩ := hC
  obtain ⟨n, v0, g0, hP, h⟩ := h vv gg hP1
  obtain ⟨d0, rfl⟩ : ∃ d0, d = d0 + 1 := ⟨d - 1, by omega⟩
  refine ⟨n + 1, v0, g0, hP, fun ls' hl => ezw_rs he fun go gh br sw ca re hgo hgh hbr hsw hca hre => hca ?_⟩
  show (bif Nat.ble (ezw_kc r + 0) r.2.2.2.2.2.2.1 && Nat.ble (ezw_ks r + 0) r.2.2.2.2.2.2.2 then
      ezq_pop False 0 (ezq_xt 4 :: st) [] fun as rest => ezq_rcv False 96 (ezw_T 7 g 0) 0 (ezq_sel a).2.2.1 as rest fun as rest =>
        bif Nat.ble (ezq_cat rest) 8 && (Nat.ble (ezq_cat as) (ezq_sel a).2.2.2.2.1 && Nat.ble (ezq_sel a).2.2.2.2.1 80) then _ else False
    else False)
  rw [Nat.add_zero, Nat.add_zero, ezw_kc_ok, ezw_ks_ok, Bool.and_self, cond_true]
  show (bif Nat.beq (ezq_sel a).2.2.1 14 && (Nat.beq 4 2 || Nat.beq 4 4) then (bif Nat.ble (ezq_cat st) 8 && (Nat.ble (ezq_cat (ezq_xt 4 :: [])) (ezq_sel a).2.2.2.2.1 && Nat.ble (ezq_sel a).2.2.2.2.1 80) then _ else False) else False)
  rw [ho, h8, hmL]
  exact ezw_callgo hl rfl rfl hM h
theorem ezw_call0x_1 {kk a : Nat} {v1 : ezq_V} (he : ezw_at r pc = some (.invokevirtual kk, 3, (a, 1, 0, 0, 0))) (hd : 1 ≤ d) (ho : Nat.beq (ezq_sel a).2.2.1 14 = true) (h8 : Nat.ble (ezq_cat st) 8 = true) (hmL : (Nat.ble (ezq_cat (ezq_xt 4 :: [v1])) (ezq_sel a).2.2.2.2.1 && Nat.ble (ezq_sel a).2.2.2.2.1 80) = true) {P1 : Option ezq_V → (Nat → ezq_C) → Prop} (hC : ezw_C l ρ B xa Hb D cA a (d - 1) (ezq_xt 4 :: [v1]) g P1) (h : ∀ v g', P1 v g' → ezw_E l ρ B xa Hb D cA d r P (pc + 3) ls (ezw_vs v st) g') : ezw_E l ρ B xa Hb D cA d r P pc ls (v1 :: (ezq_xt 4 :: st)) g := by
  obtain ⟨vv, gg, hP1, hM⟩ := hC
  obtain ⟨n, v0, g0, hP, h⟩ := h vv gg hP1
  obtain ⟨d0, rfl⟩ : ∃ d0, d = d0 + 1 := ⟨d - 1, by omega⟩
  refine ⟨n + 1, v0, g0, hP, fun ls' hl => ezw_rs he fun go gh br sw ca re hgo hgh hbr hsw hca hre => hca ?_⟩
  show (bif Nat.ble (ezw_kc r + 0) r.2.2.2.2.2.2.1 && Nat.ble (ezw_ks r + 0) r.2.2.2.2.2.2.2 then
      ezq_pop False 1 (v1 :: (ezq_xt 4 :: st)) [] fun as rest => ezq_rcv False 96 (ezw_T 7 g 0) 0 (ezq_sel a).2.2.1 as rest fun as rest =>
        bif Nat.ble (ezq_cat rest) 8 && (Nat.ble (ezq_cat as) (ezq_sel a).2.2.2.2.1 && Nat.ble (ezq_sel a).2.2.2.2.1 80) then _ else False
    else False)
  rw [Nat.add_zero, Nat.add_zero, ezw_kc_ok, ezw_ks_ok, Bool.and_self, cond_true]
  show (bif Nat.beq (ezq_sel a).2.2.1 14 && (Nat.beq 4 2 || Nat.beq 4 4) then (bif Nat.ble (ezq_cat st) 8 && (Nat.ble (ezq_cat (ezq_xt 4 :: [v1])) (ezq_sel a).2.2.2.2.1 && Nat.ble (ezq_sel a).2.2.2.2.1 80) then _ else False) else False)
  rw [ho, h8, hmL]
  exact ezw_callgo hl rfl rfl hM h
theorem ezw_call0x_2 {kk a : Nat} {v1 v2 : ezq_V} (he : ezw_at r pc = some (.invokevirtual kk, 3, (a, 2, 0, 0, 0))) (hd : 1 ≤ d) (ho : Nat.beq (ezq_sel a).2.2.1 14 = true) (h8 : Nat.ble (ezq_cat st) 8 = true) (hmL : (Nat.ble (ezq_cat (ezq_xt 4 :: [v1, v2])) (ezq_sel a).2.2.2.2.1 && Nat.ble (ezq_sel a).2.2.2.2.1 80) = true) {P1 : Option ezq_V → (Nat → ezq_C) → Prop} (hC : ezw_C l ρ B xa Hb D cA a (d - 1) (ezq_xt 4 :: [v1, v2]) g P1) (h : ∀ v g', P1 v g' → ezw_E l ρ B xa Hb D cA d r P (pc + 3) ls (ezw_vs v st) g') : ezw_E l ρ B xa Hb D cA d r P pc ls (v2 :: (v1 :: (ezq_xt 4 :: st))) g := by
  obtain ⟨vv, gg, hP1, hM⟩ := hC
  obtain ⟨n, v0, g0, hP, h⟩ := h vv gg hP1
  obtain ⟨d0, rfl⟩ : ∃ d0, d = d0 + 1 := ⟨d - 1, by omega⟩
  refine ⟨n + 1, v0, g0, hP, fun ls' hl => ezw_rs he fun go gh br sw ca re hgo hgh hbr hsw hca hre => hca ?_⟩
  show (bif Nat.ble (ezw_kc r + 0) r.2.2.2.2.2.2.1 && Nat.ble (ezw_ks r + 0) r.2.2.2.2.2.2.2 then
      ezq_pop False 2 (v2 :: (v1 :: (ezq_xt 4 :: st))) [] fun as rest => ezq_rcv False 96 (ezw_T 7 g 0) 0 (ezq_sel a).2.2.1 as rest fun as rest =>
        bif Nat.ble (ezq_cat rest) 8 && (Nat.ble (ezq_cat as) (ezq_sel a).2.2.2.2.1 && Nat.ble (ezq_sel a).2.2.2.2.1 80) then _ else False
    else False)
  rw [Nat.add_zero, Nat.add_zero, ezw_kc_ok, ezw_ks_ok, Bool.and_self, cond_true]
  show (bif Nat.beq (ezq_sel a).2.2.1 14 && (Nat.beq 4 2 || Nat.beq 4 4) then (bif Nat.ble (ezq_cat st) 8 && (Nat.ble (ezq_cat (ezq_xt 4 :: [v1, v2])) (ezq_sel a).2.2.2.2.1 && Nat.ble (ezq_sel a).2.2.2.2.1 80) then _ else False) else False)
  rw [ho, h8, hmL]
  exact ezw_callgo hl rfl rfl hM h
theorem ezw_tableswitchE {df lo : Int} {hi : _} {offs : Array Int} {ln p a b0 c0 x0 y0 : Nat} {i v : Int} (hv : i = v) (he : ezw_at r pc = some (.tableswitch df lo hi offs, ln, (a, b0, c0, x0, y0))) (hp : (match (offs.toList.zipIdx.map fun q => (lo + (q.2 : Int), q.1)).find? (fun q => decide (ezw_z q.1 = ezw_z v)) with | some q => (pc : Int) + q.2 | none => (pc : Int) + df) = ((p : Nat) : Int)) (h : ezw_E l ρ B xa Hb D cA d r P p ls st g) : ezw_E l ρ B xa Hb D cA d r P pc ls (ezw_i i :: st) g := by
  subst hv
  exact ezw_tableswitch he hp h
theorem ezw_lookupswitchE {df : Int} {ps : Array (Int × Int)} {ln p a b0 c0 x0 y0 : Nat} {i v : Int} (hv : i = v) (he : ezw_at r pc = some (.lookupswitch df ps, ln, (a, b0, c0, x0, y0))) (hp : (match ps.toList.find? (fun q => decide (ezw_z q.1 = ezw_z v)) with | some q => (pc : Int) + q.2 | none => (pc : Int) + df) = ((p : Nat) : Int)) (h : ezw_E l ρ B xa Hb D cA d r P p ls st g) : ezw_E l ρ B xa Hb D cA d r P pc ls (ezw_i i :: st) g := by
  subst hv
  exact ezw_lookupswitch he hp h
def ezs_swn (i : Int) (ps : List (Int × Int)) : Prop := match ps with
  | [] => True
  | q :: r => (ezw_in q.1 ∧ q.1 ≠ i) ∧ ezs_swn i r
theorem ezs_swn_mem {i : Int} (ps : List (Int × Int)) : ezs_swn i ps → ∀ q ∈ ps, ezw_in q.1 ∧ q.1 ≠ i := by
  induction ps with
  | nil => intro _ q hq; cases hq
  | cons p r ih =>
    intro h q hq
    have h : (ezw_in p.1 ∧ p.1 ≠ i) ∧ ezs_swn i r := h
    rcases List.mem_cons.mp hq with e | e
    · rw [e]
      exact h.1
    · exact ih h.2 q e
theorem ezs_swd {i df : Int} {p : Nat} {ps : List (Int × Int)} (hi : ezw_in i) (h : ezs_swn i ps) (hp : (pc : Int) + df = (p : Int)) : (match ps.find? (fun q => decide (ezw_z q.1 = ezw_z i)) with | some q => (pc : Int) + q.2 | none => (pc : Int) + df) = ((p : Nat) : Int) := by
  have e : ps.find? (fun q => decide (ezw_z q.1 = ezw_z i)) = none := by
    rw [List.find?_eq_none]
    intro q hq hz
    obtain ⟨h1, h2⟩ := ezs_swn_mem ps h q hq
    have hz := of_decide_eq_true hz
    have a1 := h1.1
    have a2 := h1.2
    have a3 := hi.1
    have a4 := hi.2
    unfold ezw_z at hz
    omega
  rw [e]
  exact hp
end KWr
