/-! ===== what is answered of a tree: pure ===== -/
def ezp_far (t : ezp_D) (a : Int) : Int := if a < 0 ∨ t.kT ≤ a then -1 else if t.th a < t.nu 9 then -1 else if 20 < t.th a - t.nu 9 then 20 else t.th a - t.nu 9
/-- whether a twig bears one, so many down -/
def ezp_be (t : ezp_D) : Nat → Int → Bool := fun m => match m with
  | 0 => fun _ => true
  | m + 1 => fun i => if i = -1 then true else if t.nu 9 ≤ t.th i then ezp_be t m (t.on i) else false
theorem ezp_be_n {t : ezp_D} {m : Nat} : ezp_be t m (-1) = true := by
  cases m with
  | zero => rfl
  | succ m =>
    show (if (-1 : Int) = -1 then true else if t.nu 9 ≤ t.th (-1) then ezp_be t m (t.on (-1)) else false) = true
    exact if_pos rfl
theorem ezp_be_F {t : ezp_D} {m : Nat} {i : Int} (h : i ≠ -1) (h2 : t.th i < t.nu 9) : ezp_be t (m + 1) i = false := (if_neg h).trans (if_neg (by omega))
theorem ezp_be_T {t : ezp_D} {m : Nat} {i : Int} (h : i ≠ -1) (h2 : t.nu 9 ≤ t.th i) : ezp_be t (m + 1) i = ezp_be t m (t.on i) := (if_neg h).trans (if_pos h2)
theorem ezp_be_m {t : ezp_D} (hB : ezp_B t) : ∀ (n : Nat) (i : Int) (m k : Nat), i < (n : Int) → -1 ≤ i → i < t.kT → i < (m : Int) → i < (k : Int) → ezp_be t m i = ezp_be t k i := by
  intro n
  induction n with
  | zero =>
    intro i m k h0 h1 h2 h3 h4
    have e : i = -1 := by omega
    rw [e, ezp_be_n, ezp_be_n]
  | succ n ih =>
    intro i m k h0 h1 h2 h3 h4
    by_cases e : i = -1
    · rw [e, ezp_be_n, ezp_be_n]
    · obtain ⟨m', rfl⟩ : ∃ m', m = m' + 1 := ⟨m - 1, by omega⟩
      obtain ⟨k', rfl⟩ : ∃ k', k = k' + 1 := ⟨k - 1, by omega⟩
      by_cases hb : t.nu 9 ≤ t.th i
      · have ho := (hB.1 i (by omega) h2).2.2.2
        rw [ezp_be_T e hb, ezp_be_T e hb]
        exact ih _ _ _ (by omega) ho.1 (by omega) (by omega) (by omega)
      · rw [ezp_be_F e (by omega), ezp_be_F e (by omega)]
def ezp_ls (a b : Int) : Int := if a = -1 then b else if a ≤ b then a else b
def ezp_m0 (t : ezp_D) (a : Int) : Int := if ezp_be t 8 a = true then t.hi a else -1
def ezp_m1 (t : ezp_D) (a : Int) : Int := if t.hi a ≤ t.nu 7 + t.nu 8 then ezp_ls (ezp_m0 t a) 9 else ezp_m0 t a
def ezp_m2 (t : ezp_D) (a : Int) : Int := if t.hi a ≤ t.nu 7 then ezp_ls (ezp_m1 t a) 5 else ezp_m1 t a
def ezp_m3 (t : ezp_D) (a : Int) : Int := if t.hi a ≤ t.nu 8 then ezp_ls (ezp_m2 t a) 2 else ezp_m2 t a
def ezp_mi (t : ezp_D) (a : Int) : Int := if a < 0 ∨ t.kT ≤ a then -1 else ezp_m3 t a
def ezp_w1 (t : ezp_D) (a : Int) : Int := if t.hi a ≤ t.nu 8 then 2 else if t.hi a ≤ t.nu 7 then 5 else if t.hi a ≤ t.nu 7 + t.nu 8 then 9 else -1
theorem ezp_m3_w {t : ezp_D} {a : Int} (h1 : 1 ≤ t.hi a) (h7 : 0 ≤ t.nu 7) (h8 : 0 ≤ t.nu 8) : ezp_m3 t a = if ezp_be t 8 a = true ∧ (ezp_w1 t a < 0 ∨ t.hi a < ezp_w1 t a) then t.hi a else ezp_w1 t a := by
  have e0 : ezp_m0 t a = t.hi a ∧ ezp_be t 8 a = true ∨ ezp_m0 t a = -1 ∧ ¬ ezp_be t 8 a = true := by
    unfold ezp_m0
    by_cases h : ezp_be t 8 a = true
    · exact Or.inl ⟨if_pos h, h⟩
    · exact Or.inr ⟨if_neg h, h⟩
  by_cases g8 : t.hi a ≤ t.nu 8
  · have w : ezp_w1 t a = 2 := if_pos g8
    have e1 : ezp_m1 t a = ezp_ls (ezp_m0 t a) 9 := if_pos (by omega)
    have e3 : ezp_m3 t a = ezp_ls (ezp_m2 t a) 2 := if_pos g8
    have e2 : ezp_m2 t a = ezp_ls (ezp_m1 t a) 5 ∨ ezp_m2 t a = ezp_m1 t a := by
      by_cases g7 : t.hi a ≤ t.nu 7
      · exact Or.inl (if_pos g7)
      · exact Or.inr (if_neg g7)
    unfold ezp_ls at e1 e2 e3
    rw [w]
    rcases e0 with ⟨e0, hb⟩ | ⟨e0, hb⟩
    · by_cases g : t.hi a < 2
      · rw [if_pos ⟨hb, Or.inr g⟩]
        rw [if_neg (by omega), if_pos (by omega)] at e1
        rw [if_neg (by omega), if_pos (by omega)] at e2
        rw [if_neg (by omega), if_pos (by omega)] at e3
        omega
      · rw [if_neg (fun z => by omega)]
        rw [if_neg (by omega)] at e1
        have h1' : 2 ≤ ezp_m1 t a := by
          rw [e1]
          split <;> omega
        rw [if_neg (by omega)] at e2
        have h2' : 2 ≤ ezp_m2 t a := by
          rcases e2 with e2 | e2
          · rw [e2]
            split <;> omega
          · omega
        rw [if_neg (by omega)] at e3
        rw [e3]
        split <;> omega
    · rw [if_neg (fun z => hb z.1)]
      rw [if_pos e0] at e1
      rw [if_neg (by omega)] at e2
      have h2' : 2 ≤ ezp_m2 t a := by
        rcases e2 with e2 | e2
        · rw [e2]
          split <;> omega
        · omega
      rw [if_neg (by omega)] at e3
      rw [e3]
      split <;> omega
  · have e3 : ezp_m3 t a = ezp_m2 t a := if_neg g8
    by_cases g7 : t.hi a ≤ t.nu 7
    · have w : ezp_w1 t a = 5 := (if_neg g8).trans (if_pos g7)
      have e1 : ezp_m1 t a = ezp_ls (ezp_m0 t a) 9 := if_pos (by omega)
      have e2 : ezp_m2 t a = ezp_ls (ezp_m1 t a) 5 := if_pos g7
      unfold ezp_ls at e1 e2
      rw [w, e3]
      rcases e0 with ⟨e0, hb⟩ | ⟨e0, hb⟩
      · by_cases g : t.hi a < 5
        · rw [if_pos ⟨hb, Or.inr g⟩]
          rw [if_neg (by omega), if_pos (by omega)] at e1
          rw [if_neg (by omega), if_pos (by omega)] at e2
          omega
        · rw [if_neg (fun z => by omega)]
          rw [if_neg (by omega)] at e1
          have h1' : 5 ≤ ezp_m1 t a := by
            rw [e1]
            split <;> omega
          rw [if_neg (by omega)] at e2
          rw [e2]
          split <;> omega
      · rw [if_neg (fun z => hb z.1)]
        rw [if_pos e0] at e1
        rw [if_neg (by omega), if_neg (by omega)] at e2
        omega
    · have e2 : ezp_m2 t a = ezp_m1 t a := if_neg g7
      by_cases g : t.hi a ≤ t.nu 7 + t.nu 8
      · have w : ezp_w1 t a = 9 := (if_neg g8).trans ((if_neg g7).trans (if_pos g))
        have e1 : ezp_m1 t a = ezp_ls (ezp_m0 t a) 9 := if_pos g
        unfold ezp_ls at e1
        rw [w, e3, e2, e1]
        rcases e0 with ⟨e0, hb⟩ | ⟨e0, hb⟩
        · rw [if_neg (by omega)]
          by_cases q : t.hi a < 9
          · rw [if_pos (show ezp_m0 t a ≤ 9 by omega), if_pos ⟨hb, Or.inr q⟩]
            omega
          · rw [if_neg (show ¬ (ezp_be t 8 a = true ∧ ((9 : Int) < 0 ∨ t.hi a < 9)) from fun z => by have z2 := z.2; omega)]
            split <;> omega
        · rw [if_pos e0, if_neg (fun z => hb z.1)]
      · have w : ezp_w1 t a = -1 := (if_neg g8).trans ((if_neg g7).trans (if_neg g))
        have e1 : ezp_m1 t a = ezp_m0 t a := if_neg g
        rw [w, e3, e2, e1]
        rcases e0 with ⟨e0, hb⟩ | ⟨e0, hb⟩
        · rw [if_pos ⟨hb, Or.inl (by decide)⟩]
          exact e0
        · rw [if_neg (fun z => hb z.1)]
          exact e0
/-! the map -/
def ezp_ox (s : Int) : Int := if s = 1 then -1 else if s = 3 then 1 else 0
def ezp_oy (s : Int) : Int := if s = 0 then 1 else if s = 2 then -1 else 0
/-- so many places on, no elm -/
def ezp_sfn (t : ezp_D) (x y a b : Int) : Nat → Bool := fun m => match m with
  | 0 => true
  | m + 1 => ezp_sfn t x y a b m && decide (t.el (x + (m : Int) * a) (y + (m : Int) * b) ≠ 1)
theorem ezp_sfnT {t : ezp_D} {x y a b k X Y : Int} (k0 : 0 ≤ k) (h : ezp_sfn t x y a b k.toNat = true) (hX : X = x + k * a) (hY : Y = y + k * b) (he : t.el X Y ≠ 1) : ezp_sfn t x y a b (k + 1).toNat = true := by
  obtain ⟨m, rfl⟩ := Int.eq_ofNat_of_zero_le k0
  rw [show ((m : Int) + 1).toNat = m + 1 by omega]
  rw [Int.toNat_natCast] at h
  show (ezp_sfn t x y a b m && decide (t.el (x + (m : Int) * a) (y + (m : Int) * b) ≠ 1)) = true
  rw [h, ← hX, ← hY, Bool.true_and]
  exact decide_eq_true he
theorem ezp_sfnG {t : ezp_D} {x y a b : Int} : ∀ (m : Nat), ezp_sfn t x y a b m = true → ∀ k : Int, 0 ≤ k → k < (m : Int) → t.el (x + k * a) (y + k * b) ≠ 1 := by
  intro m
  induction m with
  | zero => intro _ k k0 k1; omega
  | succ m ih =>
    intro h k k0 k1
    have h : (ezp_sfn t x y a b m && decide (t.el (x + (m : Int) * a) (y + (m : Int) * b) ≠ 1)) = true := h
    rw [Bool.and_eq_true] at h
    by_cases e : k = (m : Int)
    · rw [e]
      exact of_decide_eq_true h.2
    · exact ih h.1 k k0 (by omega)
theorem ezp_sfnF {t : ezp_D} {x y a b k n X Y : Int} (k0 : 0 ≤ k) (k1 : k < n) (hX : X = x + k * a) (hY : Y = y + k * b) (he : t.el X Y = 1) : ezp_sfn t x y a b n.toNat = false := by
  cases hb : ezp_sfn t x y a b n.toNat
  · rfl
  · exact absurd he (by rw [hX, hY]; exact ezp_sfnG _ hb k k0 (by omega))
/-- by a side: all clear as far as the cord goes -/
def ezp_sfd (t : ezp_D) (x y s : Int) (n : Int) : Bool := ezp_sfn t x y (ezp_ox s) (ezp_oy s) n.toNat
def ezp_ssn (t : ezp_D) (x y : Int) : Nat → Int := fun m => match m with
  | 0 => 0
  | m + 1 => if ezp_sfd t x y (m : Int) (t.nu 10 + 1) = true then ezp_ssn t x y m + (2 ^ m : Nat) else ezp_ssn t x y m
def ezp_ss (t : ezp_D) (x y : Int) : Int := ezp_ssn t x y 4
theorem ezp_ssn_r {t : ezp_D} {x y : Int} : ∀ m : Nat, 0 ≤ ezp_ssn t x y m ∧ ezp_ssn t x y m < ((2 ^ m : Nat) : Int) := by
  intro m
  induction m with
  | zero => exact ⟨Int.le_refl 0, show (0 : Int) < ((2 ^ 0 : Nat) : Int) by decide⟩
  | succ m ih =>
    have e : (2 ^ (m + 1) : Nat) = 2 ^ m + 2 ^ m := by rw [Nat.pow_succ]; omega
    by_cases h : ezp_sfd t x y (m : Int) (t.nu 10 + 1) = true
    · have g : ezp_ssn t x y (m + 1) = ezp_ssn t x y m + (2 ^ m : Nat) := if_pos h
      rw [g, e]
      omega
    · have g : ezp_ssn t x y (m + 1) = ezp_ssn t x y m := if_neg h
      rw [g, e]
      omega
theorem ezp_ss_r {t : ezp_D} {x y : Int} : 0 ≤ ezp_ss t x y ∧ ezp_ss t x y < 16 := ezp_ssn_r 4
theorem ezp_or4 : ∀ s : Nat, s < 4 → ∀ v : Nat, v < 2 ^ s → ezw_or (v : Int) (1 * 2 ^ s) = ((v + 2 ^ s : Nat) : Int) := by decide +kernel
theorem ezp_or0 : ∀ v : Nat, v < 16 → ezw_or (v : Int) 0 = (v : Int) := by decide +kernel
theorem ezp_ss_T {t : ezp_D} {x y s : Int} (s0 : 0 ≤ s) (s1 : s < 4) (h : ezp_sfd t x y s (t.nu 10 + 1) = true) : ezw_or (ezp_ssn t x y s.toNat) (1 * 2 ^ s.toNat) = ezp_ssn t x y (s + 1).toNat := by
  obtain ⟨m, rfl⟩ := Int.eq_ofNat_of_zero_le s0
  have r := ezp_ssn_r (t := t) (x := x) (y := y) m
  rw [show ((m : Int) + 1).toNat = m + 1 by omega, Int.toNat_natCast]
  have g : ezp_ssn t x y (m + 1) = ezp_ssn t x y m + (2 ^ m : Nat) := if_pos h
  obtain ⟨v, hv⟩ := Int.eq_ofNat_of_zero_le r.1
  rw [g, hv]
  rw [hv] at r
  rw [ezp_or4 m (by omega) v (by omega)]
  omega
theorem ezp_ss_F {t : ezp_D} {x y s : Int} (s0 : 0 ≤ s) (h : ezp_sfd t x y s (t.nu 10 + 1) = false) : ezp_ssn t x y (s + 1).toNat = ezp_ssn t x y s.toNat := by
  obtain ⟨m, rfl⟩ := Int.eq_ofNat_of_zero_le s0
  rw [show ((m : Int) + 1).toNat = m + 1 by omega, Int.toNat_natCast]
  exact if_neg (by rw [h]; decide)
theorem ezp_ss_in {t : ezp_D} {x y s : Int} (s0 : 0 ≤ s) (s1 : s ≤ 4) : 0 ≤ ezp_ssn t x y s.toNat ∧ ezp_ssn t x y s.toNat < 16 := by
  have r := ezp_ssn_r (t := t) (x := x) (y := y) s.toNat
  have q : (2 ^ s.toNat : Nat) ≤ 2 ^ 4 := Nat.pow_le_pow_right (by decide) (by omega)
  omega
theorem ezp_ss_or0 {t : ezp_D} {x y s : Int} (s0 : 0 ≤ s) (s1 : s ≤ 4) : ezw_or (ezp_ssn t x y s.toNat) 0 = ezp_ssn t x y s.toNat := by
  have r := ezp_ss_in (t := t) (x := x) (y := y) s0 s1
  obtain ⟨v, hv⟩ := Int.eq_ofNat_of_zero_le r.1
  rw [hv] at r ⊢
  exact ezp_or0 v (by omega)
/-- safe -/
def ezp_sa (t : ezp_D) (x y : Int) : Int := if 0 ≤ x ∧ x < 16 ∧ 0 ≤ y ∧ y < 16 then ezp_ss t x y else -1
/-! places -/
theorem ezp_an15 : ∀ v : Nat, v < 16 → (ezw_and (v : Int) 15 = 15 ↔ v = 15) := by decide +kernel
theorem ezp_ans : ∀ v : Nat, v < 16 → ∀ s : Nat, s < 4 → (ezw_and (v : Int) (1 * 2 ^ s) = 1 * 2 ^ s ↔ ezt_b (v : Int) (s : Int) = 1) := by decide +kernel
theorem ezp_bs : ∀ v : Nat, v < 16 → ∀ s : Nat, s < 4 → (ezt_b (v : Int) (s : Int) = 0 ∨ ezt_b (v : Int) (s : Int) = 1) := by decide +kernel
/-- whether a place is told -/
def ezp_ht (t : ezp_D) (s x y : Int) : Int := if s = -1 then (if ezp_ss t x y = 15 then 1 else 0) else ezt_b (ezp_ss t x y) s
def ezp_sm (f : Int → Int) : Nat → Int := fun m => match m with
  | 0 => 0
  | m + 1 => ezp_sm f m + f (m : Int)
theorem ezp_sm_c {f g : Int → Int} : ∀ m : Nat, (∀ k, 0 ≤ k → k < (m : Int) → f k = g k) → ezp_sm f m = ezp_sm g m := by
  intro m
  induction m with
  | zero => intro _; rfl
  | succ m ih =>
    intro h
    show ezp_sm f m + f (m : Int) = ezp_sm g m + g (m : Int)
    rw [ih (fun k k0 k1 => h k k0 (by omega)), h (m : Int) (by omega) (by omega)]
theorem ezp_sm_a {f g : Int → Int} : ∀ m : Nat, ezp_sm (fun k => f k + g k) m = ezp_sm f m + ezp_sm g m := by
  intro m
  induction m with
  | zero => rfl
  | succ m ih =>
    show ezp_sm (fun k => f k + g k) m + (f (m : Int) + g (m : Int)) = (ezp_sm f m + f (m : Int)) + (ezp_sm g m + g (m : Int))
    rw [ih]
    omega
theorem ezp_sm_0 : ∀ m : Nat, ezp_sm (fun _ => 0) m = 0 := by
  intro m
  induction m with
  | zero => rfl
  | succ m ih =>
    show ezp_sm (fun _ => 0) m + 0 = 0
    rw [ih]
    rfl
theorem ezp_sm_sw (f : Int → Int → Int) (n : Nat) : ∀ m : Nat, ezp_sm (fun x => ezp_sm (f x) n) m = ezp_sm (fun y => ezp_sm (fun x => f x y) m) n := by
  intro m
  induction m with
  | zero => exact (ezp_sm_0 n).symm
  | succ m ih =>
    show ezp_sm (fun x => ezp_sm (f x) n) m + ezp_sm (f (m : Int)) n = ezp_sm (fun y => ezp_sm (fun x => f x y) m + f (m : Int) y) n
    rw [ih, ezp_sm_a]
theorem ezp_sm_p (f : Int → Int) (n : Nat) : ∀ k : Nat, ezp_sm f (n + k) = ezp_sm f n + ezp_sm (fun j => f ((n : Int) + j)) k := by
  intro k
  induction k with
  | zero => exact (Int.add_zero _).symm
  | succ k ih =>
    show ezp_sm f (n + k) + f ((n + k : Nat) : Int) = ezp_sm f n + (ezp_sm (fun j => f ((n : Int) + j)) k + f ((n : Int) + (k : Int)))
    rw [ih, Int.natCast_add]
    omega
theorem ezp_sm_16 (f : Int → Int → Int) : ∀ m : Nat, ezp_sm (fun k => f (k % 16) (k / 16)) (16 * m) = ezp_sm (fun y => ezp_sm (fun x => f x y) 16) m := by
  intro m
  induction m with
  | zero => rfl
  | succ m ih =>
    rw [show 16 * (m + 1) = 16 * m + 16 by omega, ezp_sm_p, ih]
    show _ = ezp_sm (fun y => ezp_sm (fun x => f x y) 16) m + ezp_sm (fun x => f x (m : Int)) 16
    rw [ezp_sm_c (f := fun j => f ((((16 * m : Nat) : Int) + j) % 16) ((((16 * m : Nat) : Int) + j) / 16)) (g := fun x => f x (m : Int)) 16 (fun k k0 k1 => by
      show f ((((16 * m : Nat) : Int) + k) % 16) ((((16 * m : Nat) : Int) + k) / 16) = f k (m : Int)
      rw [show (((16 * m : Nat) : Int) + k) % 16 = k by omega, show (((16 * m : Nat) : Int) + k) / 16 = (m : Int) by omega])]
/-- places told, by rows -/
def ezp_pl2 (t : ezp_D) (s : Int) : Int := ezp_sm (fun x => ezp_sm (fun y => ezp_ht t s x y) 16) 16
theorem ezp_pl2_k (t : ezp_D) (s : Int) : ezp_sm (fun k => ezp_ht t s (k % 16) (k / 16)) 256 = ezp_pl2 t s := by
  rw [show (256 : Nat) = 16 * 16 from rfl, ezp_sm_16 (fun x y => ezp_ht t s x y) 16]
  exact (ezp_sm_sw (fun x y => ezp_ht t s x y) 16 16).symm
def ezp_pla (t : ezp_D) (s : Int) : Int := if -1 ≤ s ∧ s ≤ 3 then ezp_pl2 t s else -1
/-! nearest -/
def ezp_ab (a : Int) : Int := if a < 0 then -a else a
def ezp_ds (a b x y : Int) : Int := ezp_ab (x - a) + ezp_ab (y - b)
/-- the least way to a place that is safe by all sides, of those told -/
def ezp_ne (t : ezp_D) (a b : Int) (R : Int → Int → Prop) (u : Int) : Prop := u = -1 ∧ (∀ x y, R x y → ezp_ss t x y ≠ 15) ∨ (0 ≤ u ∧ (∃ x y, R x y ∧ ezp_ss t x y = 15 ∧ u = ezp_ds a b x y) ∧ ∀ x y, R x y → ezp_ss t x y = 15 → u ≤ ezp_ds a b x y)
theorem ezp_ne_u {t : ezp_D} {a b u v : Int} {R S : Int → Int → Prop} (hRS : ∀ x y, R x y ↔ S x y) (h : ezp_ne t a b R u) (g : ezp_ne t a b S v) : u = v := by
  rcases h with ⟨h1, h2⟩ | ⟨h0, ⟨x, y, h1, h2, h3⟩, h4⟩
  · rcases g with ⟨g1, g2⟩ | ⟨g0, ⟨x, y, g1, g2, g3⟩, g4⟩
    · omega
    · exact absurd g2 (h2 x y ((hRS x y).mpr g1))
  · rcases g with ⟨g1, g2⟩ | ⟨g0, ⟨x', y', g1, g2, g3⟩, g4⟩
    · exact absurd h2 (g2 x y ((hRS x y).mp h1))
    · have q1 := h4 x' y' ((hRS x' y').mpr g1) g2
      have q2 := g4 x y ((hRS x y).mp h1) h2
      omega
theorem ezp_ne_0 {t : ezp_D} {a b : Int} {R : Int → Int → Prop} (h : ∀ x y, ¬ R x y) : ezp_ne t a b R (-1) := Or.inl ⟨rfl, fun x y hR => absurd hR (h x y)⟩
theorem ezp_ab_r (a : Int) : 0 ≤ ezp_ab a := by
  unfold ezp_ab
  split <;> omega
theorem ezp_ds_r (a b x y : Int) : 0 ≤ ezp_ds a b x y := by
  have h1 := ezp_ab_r (x - a)
  have h2 := ezp_ab_r (y - b)
  unfold ezp_ds
  omega
/-- one place more, that isn't nearer -/
theorem ezp_ne_s {t : ezp_D} {a b u X Y : Int} {R S : Int → Int → Prop} (h : ezp_ne t a b R u) (hRS : ∀ x y, S x y → R x y ∨ x = X ∧ y = Y) (hSR : ∀ x y, R x y → S x y) (hn : ezp_ss t X Y ≠ 15 ∨ 0 ≤ u ∧ u ≤ ezp_ds a b X Y) : ezp_ne t a b S u := by
  rcases h with ⟨h1, h2⟩ | ⟨h0, ⟨x, y, h1, h2, h3⟩, h4⟩
  · refine Or.inl ⟨h1, fun x y hS => ?_⟩
    rcases hRS x y hS with hR | ⟨rfl, rfl⟩
    · exact h2 x y hR
    · rcases hn with hn | hn
      · exact hn
      · omega
  · refine Or.inr ⟨h0, ⟨x, y, hSR x y h1, h2, h3⟩, fun x' y' hS h15 => ?_⟩
    rcases hRS x' y' hS with hR | ⟨rfl, rfl⟩
    · exact h4 x' y' hR h15
    · rcases hn with hn | hn
      · exact absurd h15 hn
      · exact hn.2
/-- one that is -/
theorem ezp_ne_t {t : ezp_D} {a b u X Y : Int} {R S : Int → Int → Prop} (h : ezp_ne t a b R u) (hRS : ∀ x y, S x y → R x y ∨ x = X ∧ y = Y) (hX : S X Y) (h15 : ezp_ss t X Y = 15) (hn : u = -1 ∨ ezp_ds a b X Y ≤ u) : ezp_ne t a b S (ezp_ds a b X Y) := by
  refine Or.inr ⟨ezp_ds_r a b X Y, ⟨X, Y, hX, h15, rfl⟩, fun x' y' hS g15 => ?_⟩
  rcases hRS x' y' hS with hR | ⟨rfl, rfl⟩
  · rcases h with ⟨h1, h2⟩ | ⟨h0, -, h4⟩
    · exact absurd g15 (h2 x' y' hR)
    · have := h4 x' y' hR g15
      omega
  · exact Int.le_refl _
def ezp_map (x y : Int) : Prop := 0 ≤ x ∧ x < 16 ∧ 0 ≤ y ∧ y < 16
/-- what nearest answers -/
def ezp_nea (t : ezp_D) (a b u : Int) : Prop := 0 ≤ a ∧ a < 16 ∧ 0 ≤ b ∧ b < 16 ∧ ezp_ne t a b ezp_map u ∨ ¬ (0 ≤ a ∧ a < 16 ∧ 0 ≤ b ∧ b < 16) ∧ u = -1
theorem ezp_nea_u {t : ezp_D} {a b u v : Int} (h : ezp_nea t a b u) (g : ezp_nea t a b v) : u = v := by
  rcases h with ⟨h1, h2, h3, h4, h5⟩ | ⟨h1, h2⟩
  · rcases g with ⟨_, _, _, _, g5⟩ | ⟨g1, g2⟩
    · exact ezp_ne_u (fun _ _ => Iff.rfl) h5 g5
    · exact absurd ⟨h1, h2, h3, h4⟩ g1
  · rcases g with ⟨g1, g2, g3, g4, _⟩ | ⟨g1, g2⟩
    · exact absurd ⟨g1, g2, g3, g4⟩ h1
    · omega
theorem ezp_sm_n {f : Int → Int} {k : Int} (h : 0 ≤ k) : ezp_sm f (k + 1).toNat = ezp_sm f k.toNat + f k := by
  obtain ⟨m, rfl⟩ := Int.eq_ofNat_of_zero_le h
  rw [show ((m : Int) + 1).toNat = m + 1 by omega, Int.toNat_natCast]
  rfl
theorem ezp_2in {s : Int} (h0 : 0 ≤ s) (h1 : s < 4) : ezw_in (1 * 2 ^ s.toNat) := by
  rcases (show s = 0 ∨ s = 1 ∨ s = 2 ∨ s = 3 by omega) with rfl | rfl | rfl | rfl <;> exact ⟨by decide, by decide⟩
theorem ezp_an16 : ∀ v : Nat, v < 16 → ∀ w : Nat, w < 16 → 0 ≤ ezw_and (v : Int) (w : Int) ∧ ezw_and (v : Int) (w : Int) < 16 := by decide +kernel
theorem ezp_gs {s a : Int} (gs : s = -1 ∧ a = 15 ∨ 0 ≤ s ∧ s < 4 ∧ a = 1 * 2 ^ s.toNat) : 0 ≤ a ∧ a < 16 := by
  rcases gs with ⟨_, rfl⟩ | ⟨h0, h1, rfl⟩
  · omega
  · rcases (show s = 0 ∨ s = 1 ∨ s = 2 ∨ s = 3 by omega) with rfl | rfl | rfl | rfl <;> exact ⟨by decide, by decide⟩
theorem ezp_and_in {s a v : Int} (gs : s = -1 ∧ a = 15 ∨ 0 ≤ s ∧ s < 4 ∧ a = 1 * 2 ^ s.toNat) (hv : 0 ≤ v ∧ v < 16) : ezw_in (ezw_and v a) := by
  have ha := ezp_gs gs
  obtain ⟨m, rfl⟩ := Int.eq_ofNat_of_zero_le hv.1
  obtain ⟨n, rfl⟩ := Int.eq_ofNat_of_zero_le ha.1
  have h := ezp_an16 m (by omega) n (by omega)
  exact ⟨by omega, by omega⟩
theorem ezp_hit {t : ezp_D} {s a x y : Int} (gs : s = -1 ∧ a = 15 ∨ 0 ≤ s ∧ s < 4 ∧ a = 1 * 2 ^ s.toNat) : ezw_and (ezp_ss t x y) a = a ↔ ezp_ht t s x y = 1 := by
  have hv := ezp_ss_r (t := t) (x := x) (y := y)
  unfold ezp_ht
  obtain ⟨m, hm⟩ := Int.eq_ofNat_of_zero_le hv.1
  rw [hm] at hv ⊢
  rcases gs with ⟨h1, rfl⟩ | ⟨h0, h1, rfl⟩
  · rw [if_pos h1]
    have h := ezp_an15 m (by omega)
    constructor
    · intro z
      rw [if_pos (show (m : Int) = 15 by have := h.mp z; omega)]
    · intro z
      by_cases e : (m : Int) = 15
      · exact h.mpr (by omega)
      · rw [if_neg e] at z
        exact absurd z (by decide)
  · rw [if_neg (by omega)]
    obtain ⟨n, rfl⟩ := Int.eq_ofNat_of_zero_le h0
    rw [Int.toNat_natCast]
    exact ezp_ans m (by omega) n (by omega)
theorem ezp_ht01 {t : ezp_D} {s x y : Int} (h : -1 ≤ s ∧ s ≤ 3) : ezp_ht t s x y = 0 ∨ ezp_ht t s x y = 1 := by
  have hv := ezp_ss_r (t := t) (x := x) (y := y)
  unfold ezp_ht
  split
  · split
    · exact Or.inr rfl
    · exact Or.inl rfl
  · obtain ⟨m, hm⟩ := Int.eq_ofNat_of_zero_le hv.1
    rw [hm] at hv ⊢
    obtain ⟨n, rfl⟩ := Int.eq_ofNat_of_zero_le (show 0 ≤ s by omega)
    exact ezp_bs m (by omega) n (by omega)
theorem ezt_b_hi {v j : Int} (h0 : 0 ≤ v) (h1 : v < 65536) (j0 : 16 ≤ j) : ezt_b v j = 0 := by
  obtain ⟨m, rfl⟩ := Int.eq_ofNat_of_zero_le h0
  obtain ⟨n, rfl⟩ := Int.eq_ofNat_of_zero_le (show 0 ≤ j by omega)
  rw [ezt_b_N]
  have h2 : m < 2 ^ n := Nat.lt_of_lt_of_le (show m < 2 ^ 16 by omega) (Nat.pow_le_pow_right (by decide) (by omega))
  rw [Nat.testBit_lt_two_pow h2]
  rfl
theorem ezp_ne_c {t : ezp_D} {a b u : Int} {R S : Int → Int → Prop} (h : ezp_ne t a b R u) (hRS : ∀ x y, R x y ↔ S x y) : ezp_ne t a b S u := by
  rcases h with ⟨h1, h2⟩ | ⟨h0, ⟨x, y, h1, h2, h3⟩, h4⟩
  · exact Or.inl ⟨h1, fun x y hS => h2 x y ((hRS x y).mpr hS)⟩
  · exact Or.inr ⟨h0, ⟨x, y, (hRS x y).mp h1, h2, h3⟩, fun x y hS => h4 x y ((hRS x y).mpr hS)⟩
/-- minutes, reckoned the other way -/
theorem ezp_mi_w {t : ezp_D} {a : Int} (hB : ezp_B t) (h0 : 0 ≤ a) (h1 : a < t.kT) : ezp_mi t a = if ezp_be t 8 a = true ∧ (ezp_w1 t a < 0 ∨ t.hi a < ezp_w1 t a) then t.hi a else ezp_w1 t a := by
  have h := hB.1 a h0 h1
  have h7 : ezp_lo 7 ≤ t.nu 7 := (hB.2.2.2.2.2.2.2.1.1 7 (by decide) (by decide)).1
  have h8 : ezp_lo 8 ≤ t.nu 8 := (hB.2.2.2.2.2.2.2.1.1 8 (by decide) (by decide)).1
  have e7 : ezp_lo 7 = 0 := by decide
  have e8 : ezp_lo 8 = 0 := by decide
  unfold ezp_mi
  rw [if_neg (by omega)]
  exact ezp_m3_w h.1.1 (by omega) (by omega)
theorem ezp_sfnX {t : ezp_D} {x y a b k : Int} (k0 : 0 ≤ k) (h : ezp_sfn t x y a b k.toNat = false) : ezp_sfn t x y a b (k + 1).toNat = false := by
  obtain ⟨m, rfl⟩ := Int.eq_ofNat_of_zero_le k0
  rw [show ((m : Int) + 1).toNat = m + 1 by omega]
  rw [Int.toNat_natCast] at h
  show (ezp_sfn t x y a b m && decide (t.el (x + (m : Int) * a) (y + (m : Int) * b) ≠ 1)) = false
  rw [h]
  rfl
