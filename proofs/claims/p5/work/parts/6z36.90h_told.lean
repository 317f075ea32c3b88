/-! ===== what is told, reckoned: pure ===== -/
/-- that a soft pull ran off a loose one -/
def ezn_r0 (qc : ezn_Q) (y : ezp_D) (t s : Int) : Int := qc 0 t 0 (ezn_aw s (y.si t)) 0
def ezn_pdn (qc : ezn_Q) (y : ezp_D) (c : Int → Int) (t : Int) : Nat → Int
  | 0 => 1
  | n + 1 => ezn_pdn qc y c t n * (10 - ezn_r0 qc y t (n : Int)) ^ (c (2 * (n : Int))).toNat * (ezn_r0 qc y t (n : Int)) ^ (c (2 * (n : Int) + 1)).toNat
def ezn_pd (qc : ezn_Q) (y : ezp_D) (c : Int → Int) (t : Int) : Int := ezn_pdn qc y c t 4
theorem ezn_pow_r {b : Int} (b0 : 0 ≤ b) (b1 : b ≤ 10) : ∀ n : Nat, 0 ≤ b ^ n ∧ b ^ n ≤ 10 ^ n := by
  intro n
  induction n with
  | zero => exact ⟨by rw [Int.pow_zero]; decide, by rw [Int.pow_zero]; decide⟩
  | succ n ih =>
    rw [Int.pow_succ, Int.pow_succ]
    exact ⟨Int.mul_nonneg ih.1 b0, Int.mul_le_mul ih.2 b1 b0 (Int.le_trans ih.1 ih.2)⟩
theorem ezn_10 : ∀ n : Nat, n < 13 → (10 : Int) ^ n ≤ 1000000000000 := by decide
theorem ezn_pow_12 {b t : Int} (b0 : 0 ≤ b) (b1 : b ≤ 10) (t1 : t ≤ 12) : 0 ≤ b ^ t.toNat ∧ b ^ t.toNat ≤ 1000000000000 := by
  have h := ezn_pow_r b0 b1 t.toNat
  exact ⟨h.1, Int.le_trans h.2 (ezn_10 _ (by omega))⟩
theorem ezn_pow_s {b t : Int} (t0 : 0 ≤ t) : b ^ (t + 1).toNat = b ^ t.toNat * b := by
  rw [show (t + 1).toNat = t.toNat + 1 by omega, Int.pow_succ]
theorem ezn_pdn_s {qc : ezn_Q} {y : ezp_D} {c : Int → Int} {t i : Int} (i0 : 0 ≤ i) : ezn_pdn qc y c t (i + 1).toNat = ezn_pdn qc y c t i.toNat * (10 - ezn_r0 qc y t i) ^ (c (2 * i)).toNat * (ezn_r0 qc y t i) ^ (c (2 * i + 1)).toNat := by
  obtain ⟨n, rfl⟩ := Int.eq_ofNat_of_zero_le i0
  rw [show ((n : Int) + 1).toNat = n + 1 by omega, Int.toNat_natCast]
  rfl
theorem ezn_sm_mono {c : Int → Int} (h : ∀ j, 0 ≤ j → j < 8 → 0 ≤ c j) : ∀ n : Nat, n ≤ 8 → 0 ≤ ezp_sm c n ∧ ezp_sm c n ≤ ezn_tm c := by
  have h0 := h 0 (by decide) (by decide)
  have h1 := h 1 (by decide) (by decide)
  have h2 := h 2 (by decide) (by decide)
  have h3 := h 3 (by decide) (by decide)
  have h4 := h 4 (by decide) (by decide)
  have h5 := h 5 (by decide) (by decide)
  have h6 := h 6 (by decide) (by decide)
  have h7 := h 7 (by decide) (by decide)
  intro n hn
  unfold ezn_tm
  rcases (show n = 0 ∨ n = 1 ∨ n = 2 ∨ n = 3 ∨ n = 4 ∨ n = 5 ∨ n = 6 ∨ n = 7 ∨ n = 8 by omega) with rfl | rfl | rfl | rfl | rfl | rfl | rfl | rfl | rfl
  · show (0 : Int) ≤ 0 ∧ (0 : Int) ≤ _
    omega
  · show 0 ≤ 0 + c 0 ∧ 0 + c 0 ≤ _
    omega
  · show 0 ≤ 0 + c 0 + c 1 ∧ 0 + c 0 + c 1 ≤ _
    omega
  · show 0 ≤ 0 + c 0 + c 1 + c 2 ∧ 0 + c 0 + c 1 + c 2 ≤ _
    omega
  · show 0 ≤ 0 + c 0 + c 1 + c 2 + c 3 ∧ 0 + c 0 + c 1 + c 2 + c 3 ≤ _
    omega
  · show 0 ≤ 0 + c 0 + c 1 + c 2 + c 3 + c 4 ∧ 0 + c 0 + c 1 + c 2 + c 3 + c 4 ≤ _
    omega
  · show 0 ≤ 0 + c 0 + c 1 + c 2 + c 3 + c 4 + c 5 ∧ 0 + c 0 + c 1 + c 2 + c 3 + c 4 + c 5 ≤ _
    omega
  · show 0 ≤ 0 + c 0 + c 1 + c 2 + c 3 + c 4 + c 5 + c 6 ∧ 0 + c 0 + c 1 + c 2 + c 3 + c 4 + c 5 + c 6 ≤ _
    omega
  · show 0 ≤ 0 + c 0 + c 1 + c 2 + c 3 + c 4 + c 5 + c 6 + c 7 ∧ 0 + c 0 + c 1 + c 2 + c 3 + c 4 + c 5 + c 6 + c 7 ≤ _
    omega
/-- a factor more -/
theorem ezn_pow_m {P b t : Int} {x : Nat} (hP : 0 ≤ P ∧ P ≤ 10 ^ x) (b0 : 0 ≤ b) (b1 : b ≤ 10) : 0 ≤ P * b ^ t.toNat ∧ P * b ^ t.toNat ≤ 10 ^ (x + t.toNat) := by
  have h := ezn_pow_r b0 b1 t.toNat
  rw [Int.pow_add]
  exact ⟨Int.mul_nonneg hP.1 h.1, Int.mul_le_mul hP.2 h.2 h.1 (Int.le_trans hP.1 hP.2)⟩
theorem ezn_pdn_r {qc : ezn_Q} {y : ezp_D} {c : Int → Int} {t : Int} (qr : ezn_QR qc) (tb : ezn_TB c) : ∀ n : Nat, n ≤ 4 → 0 ≤ ezn_pdn qc y c t n ∧ ezn_pdn qc y c t n ≤ 10 ^ (ezp_sm c (2 * n)).toNat := by
  intro n
  induction n with
  | zero => intro _; exact ⟨show (0 : Int) ≤ 1 by decide, show (1 : Int) ≤ 10 ^ (0 : Int).toNat by decide⟩
  | succ n ih =>
    intro hn
    have hr : 0 ≤ ezn_r0 qc y t (n : Int) ∧ ezn_r0 qc y t (n : Int) ≤ 10 := qr _ _ _ _ _
    have h1 := ezn_pow_m (b := 10 - ezn_r0 qc y t (n : Int)) (t := c (2 * (n : Int))) (ih (by omega)) (by omega) (by omega)
    have h2 := ezn_pow_m (b := ezn_r0 qc y t (n : Int)) (t := c (2 * (n : Int) + 1)) h1 hr.1 hr.2
    have e1 : ezp_sm c (2 * (n + 1)) = ezp_sm c (2 * n) + c (2 * (n : Int)) + c (2 * (n : Int) + 1) := by
      show ezp_sm c (2 * n) + c ((2 * n : Nat) : Int) + c ((2 * n + 1 : Nat) : Int) = _
      rw [show ((2 * n + 1 : Nat) : Int) = 2 * (n : Int) + 1 by omega, show ((2 * n : Nat) : Int) = 2 * (n : Int) by omega]
    have m1 := ezn_sm_mono tb.1 (2 * n) (by omega)
    have c1 := tb.1 (2 * (n : Int)) (by omega) (by omega)
    have c2 := tb.1 (2 * (n : Int) + 1) (by omega) (by omega)
    rw [e1, show (ezp_sm c (2 * n) + c (2 * (n : Int)) + c (2 * (n : Int) + 1)).toNat = (ezp_sm c (2 * n)).toNat + (c (2 * (n : Int))).toNat + (c (2 * (n : Int) + 1)).toNat by omega]
    exact h2
theorem ezn_pdn_b {qc : ezn_Q} {y : ezp_D} {c : Int → Int} {t : Int} (qr : ezn_QR qc) (tb : ezn_TB c) {n : Nat} (hn : n ≤ 4) : 0 ≤ ezn_pdn qc y c t n ∧ ezn_pdn qc y c t n ≤ 1000000000000 := by
  have h := ezn_pdn_r (y := y) (t := t) qr tb n hn
  have m := ezn_sm_mono tb.1 (2 * n) (by omega)
  have m2 := tb.2
  exact ⟨h.1, Int.le_trans h.2 (ezn_10 _ (by omega))⟩
theorem ezn_pdn_h {qc : ezn_Q} {y : ezp_D} {c : Int → Int} {t i : Int} (qr : ezn_QR qc) (tb : ezn_TB c) (i0 : 0 ≤ i) (i1 : i < 4) : 0 ≤ ezn_pdn qc y c t i.toNat * (10 - ezn_r0 qc y t i) ^ (c (2 * i)).toNat ∧ ezn_pdn qc y c t i.toNat * (10 - ezn_r0 qc y t i) ^ (c (2 * i)).toNat ≤ 1000000000000 := by
  have hr : 0 ≤ ezn_r0 qc y t i ∧ ezn_r0 qc y t i ≤ 10 := qr _ _ _ _ _
  have h := ezn_pow_m (b := 10 - ezn_r0 qc y t i) (t := c (2 * i)) (ezn_pdn_r (y := y) (t := t) qr tb i.toNat (by omega)) (by omega) (by omega)
  obtain ⟨n, rfl⟩ := Int.eq_ofNat_of_zero_le i0
  have m := ezn_sm_mono tb.1 (2 * n + 1) (by omega)
  have m0 := ezn_sm_mono tb.1 (2 * n) (by omega)
  have e1 : ezp_sm c (2 * n + 1) = ezp_sm c (2 * n) + c (2 * (n : Int)) := by
    show ezp_sm c (2 * n) + c ((2 * n : Nat) : Int) = _
    rw [show ((2 * n : Nat) : Int) = 2 * (n : Int) by omega]
  have m2 := tb.2
  have c1 := tb.1 (2 * (n : Int)) (by omega) (by omega)
  rw [Int.toNat_natCast] at h ⊢
  exact ⟨h.1, Int.le_trans h.2 (ezn_10 _ (by omega))⟩
theorem ezn_pd_b {qc : ezn_Q} {y : ezp_D} {c : Int → Int} (qr : ezn_QR qc) (tb : ezn_TB c) (t : Int) : 0 ≤ ezn_pd qc y c t ∧ ezn_pd qc y c t ≤ 1000000000000 := ezn_pdn_b qr tb (by decide)
/-- which fit, as bits -/
def ezn_ft (f : Int → Int) : Nat → Int
  | 0 => 0
  | n + 1 => if 0 < f (n : Int) then ezw_or (ezn_ft f n) (1 * 2 ^ ((n : Int)).toNat) else ezn_ft f n
theorem ezn_ft_r (f : Int → Int) : ∀ n : Nat, n ≤ 8 → 0 ≤ ezn_ft f n ∧ ezn_ft f n < 256 := by
  intro n
  induction n with
  | zero => intro _; exact ⟨Int.le_refl 0, show (0 : Int) < 256 by decide⟩
  | succ n ih =>
    intro hn
    have h := ih (by omega)
    show 0 ≤ (if 0 < f (n : Int) then ezw_or (ezn_ft f n) (1 * 2 ^ ((n : Int)).toNat) else ezn_ft f n) ∧ (if 0 < f (n : Int) then ezw_or (ezn_ft f n) (1 * 2 ^ ((n : Int)).toNat) else ezn_ft f n) < 256
    split
    · obtain ⟨g1, g2, -⟩ := ezt_or1 (v := ezn_ft f n) (j := (n : Int)) 8 (by decide) h.1 h.2 (by omega) (by omega)
      exact ⟨g1, g2⟩
    · exact h
theorem ezn_ft_s {f : Int → Int} {i : Int} (i0 : 0 ≤ i) : ezn_ft f (i + 1).toNat = if 0 < f i then ezw_or (ezn_ft f i.toNat) (1 * 2 ^ i.toNat) else ezn_ft f i.toNat := by
  obtain ⟨n, rfl⟩ := Int.eq_ofNat_of_zero_le i0
  rw [show ((n : Int) + 1).toNat = n + 1 by omega, Int.toNat_natCast]
  rfl
theorem ezn_or0 {x : Int} (x0 : 0 ≤ x) (x1 : x < 4294967296) : ezw_or x 0 = x := by
  obtain ⟨n, rfl⟩ := Int.eq_ofNat_of_zero_le x0
  unfold ezw_or
  rw [ezw_zN (by omega), show ezw_z 0 = 0 from rfl, Nat.or_zero]
/-- the greatest, and where it is first -/
def ezn_gr (f : Int → Int) : Nat → Int
  | 0 => 0
  | n + 1 => if ezn_gr f n < f (n : Int) then f (n : Int) else ezn_gr f n
def ezn_bs (f : Int → Int) : Nat → Int
  | 0 => -1
  | n + 1 => if ezn_gr f n < f (n : Int) then (n : Int) else ezn_bs f n
theorem ezn_gr_s {f : Int → Int} {i : Int} (i0 : 0 ≤ i) : ezn_gr f (i + 1).toNat = if ezn_gr f i.toNat < f i then f i else ezn_gr f i.toNat := by
  obtain ⟨n, rfl⟩ := Int.eq_ofNat_of_zero_le i0
  rw [show ((n : Int) + 1).toNat = n + 1 by omega, Int.toNat_natCast]
  rfl
theorem ezn_bs_s {f : Int → Int} {i : Int} (i0 : 0 ≤ i) : ezn_bs f (i + 1).toNat = if ezn_gr f i.toNat < f i then i else ezn_bs f i.toNat := by
  obtain ⟨n, rfl⟩ := Int.eq_ofNat_of_zero_le i0
  rw [show ((n : Int) + 1).toNat = n + 1 by omega, Int.toNat_natCast]
  rfl
theorem ezn_bs_r (f : Int → Int) : ∀ n : Nat, -1 ≤ ezn_bs f n ∧ ezn_bs f n < n ∧ 0 ≤ ezn_gr f n ∧ (ezn_bs f n = -1 → ezn_gr f n = 0) ∧ (0 ≤ ezn_bs f n → f (ezn_bs f n) = ezn_gr f n ∧ 0 < ezn_gr f n) ∧ ∀ k, 0 ≤ k → k < (n : Int) → f k ≤ ezn_gr f n := by
  intro n
  induction n with
  | zero => exact ⟨Int.le_refl _, show (-1 : Int) < ((0 : Nat) : Int) by decide, Int.le_refl _, fun _ => rfl, fun h => absurd (show (0 : Int) ≤ -1 from h) (by decide), fun k k0 k1 => by omega⟩
  | succ n ih =>
    obtain ⟨i1, i2, i3, i4, i5, i6⟩ := ih
    by_cases h : ezn_gr f n < f (n : Int)
    · have e1 : ezn_gr f (n + 1) = f (n : Int) := if_pos h
      have e2 : ezn_bs f (n + 1) = (n : Int) := if_pos h
      rw [e1, e2]
      refine ⟨by omega, by omega, by omega, fun z => by omega, fun _ => ⟨rfl, by omega⟩, fun k k0 k1 => ?_⟩
      by_cases hk : k = (n : Int)
      · rw [hk]
        exact Int.le_refl _
      · have := i6 k k0 (by omega)
        omega
    · have e1 : ezn_gr f (n + 1) = ezn_gr f n := if_neg h
      have e2 : ezn_bs f (n + 1) = ezn_bs f n := if_neg h
      rw [e1, e2]
      refine ⟨i1, by omega, i3, i4, i5, fun k k0 k1 => ?_⟩
      by_cases hk : k = (n : Int)
      · rw [hk]
        omega
      · exact i6 k k0 (by omega)
theorem ezn_sm_b {f : Int → Int} {M : Int} (h : ∀ k, 0 ≤ f k ∧ f k ≤ M) : ∀ n : Nat, 0 ≤ ezp_sm f n ∧ ezp_sm f n ≤ M * n ∧ ∀ k, 0 ≤ k → k < (n : Int) → f k ≤ ezp_sm f n := by
  intro n
  induction n with
  | zero => exact ⟨Int.le_refl 0, by show (0 : Int) ≤ M * 0; omega, fun k k0 k1 => by omega⟩
  | succ n ih =>
    obtain ⟨i1, i2, i3⟩ := ih
    have hn := h (n : Int)
    have e : ezp_sm f (n + 1) = ezp_sm f n + f (n : Int) := rfl
    have em : M * ((n + 1 : Nat) : Int) = M * (n : Int) + M := by
      rw [show ((n + 1 : Nat) : Int) = (n : Int) + 1 by omega, Int.mul_add, Int.mul_one]
    rw [e, em]
    refine ⟨by omega, by omega, fun k k0 k1 => ?_⟩
    by_cases hk : k = (n : Int)
    · rw [hk]
      omega
    · have := i3 k k0 (by omega)
      omega
/-- millionths -/
def ezn_ml (f : Int → Int) (n : Nat) : Int := ezn_gr f n * 1000000 / ezp_sm f n
/-- by a side: the greatest with running off, and without -/
def ezn_sh (qc : ezn_Q) (y : ezp_D) (c : Int → Int) (s : Int) : Int := ezn_gr (fun t => ezn_pd qc y c t * ezn_r0 qc y t s) y.kT.toNat + ezn_gr (fun t => ezn_pd qc y c t * (10 - ezn_r0 qc y t s)) y.kT.toNat
def ezn_te (qc : ezn_Q) (y : ezp_D) (c : Int → Int) : Int := ezn_bs (ezn_sh qc y c) 4
def ezn_li (qc : ezn_Q) (y : ezp_D) (c : Int → Int) (wh : Int) : Int := if ezn_bs (ezn_pd qc y c) y.kT.toNat = -1 then -1 else if wh = 0 then ezn_bs (ezn_pd qc y c) y.kT.toNat else if wh = 1 then ezn_ml (ezn_pd qc y c) y.kT.toNat else -1
section KN
variable {l : Launch} {ρ : ezq_E} {B : Nat} {xa : Nat → Option Nat} {Hb : Heap} {D : va_G} {cA : Nat → ClassId} {d : Nat}
variable {r : ezq_R} {P : Option ezq_V → (Nat → ezq_C) → Prop} {pc : Nat} {ls : List (Option ezq_V)} {st : List ezq_V} {g : Nat → ezq_C}
theorem ezn_maxl_d {i j : Int} (hi : ezw_il i) (hj : ezw_il j) : (if Int64.ofInt j < Int64.ofInt i then Int64.ofInt i else Int64.ofInt j) = Int64.ofInt (if j < i then i else j) := by
  simp only [Int64.lt_iff_toInt_lt, ezw_toL hi, ezw_toL hj]
  split <;> rfl
theorem ezn_mmaxl {kk b0 x0 y0 : Nat} {i j : Int} (he : ezw_at r pc = some (.invokestatic kk, 3, (3, b0, 7, x0, y0))) (hi : ezw_il i) (hj : ezw_il j) (hcat : Nat.ble (ezq_cat (ezw_l j :: ezw_l i :: st)) 8 = true) (h : ∀ u, (j < i ∧ u = i ∨ i ≤ j ∧ u = j) → ezw_E l ρ B xa Hb D cA d r P (pc + 3) ls (ezw_l u :: st) g) : ezw_E l ρ B xa Hb D cA d r P pc ls (ezw_l j :: ezw_l i :: st) g := by
  obtain ⟨n, v0, g0, hP, h⟩ := h (if j < i then i else j) (by
    by_cases hc : j < i
    · rw [if_pos hc]
      exact Or.inl ⟨hc, rfl⟩
    · rw [if_neg hc]
      exact Or.inr ⟨by omega, rfl⟩)
  obtain ⟨-, hpc⟩ := ezw_at_ok he
  refine ⟨n + 1, v0, g0, hP, fun ls' hl => ezw_rs he fun go gh br sw ca re hgo hgh hbr hsw hca hre => ?_⟩
  show (bif Nat.ble (ezq_cat (ezw_l j :: ezw_l i :: st)) 8 && (Nat.ble (ezw_kc r) r.2.2.2.2.2.2.1 && Nat.ble (ezw_ks r) r.2.2.2.2.2.2.2) then ezq_fl (ezq_l2 (fun x y => if y < x then x else y) (.inl (ezw_zl i)) (.inl (ezw_zl j))) (fun z => go (pc + 3) ls' (.inr (.inl z) :: st)) else False)
  rw [hcat, ezw_kc_ok, ezw_ks_ok, Bool.and_self, Bool.and_self, cond_true, ezq_fl_eq, ezw_l2 (f := fun x y => if y < x then x else y) (k := if j < i then i else j) (ezn_maxl_d hi hj)]
  exact hgo _ _ _ (by omega) (h ls' hl)
end KN
theorem ezn_sh_p {qc : ezn_Q} {y : ezp_D} {c : Int → Int} (qr : ezn_QR qc) (tb : ezn_TB c) (h : ezn_bs (ezn_pd qc y c) y.kT.toNat ≠ -1) : 0 < ezn_sh qc y c 0 := by
  obtain ⟨h1, h2, h3, h4, h5, h6⟩ := ezn_bs_r (ezn_pd qc y c) y.kT.toNat
  obtain ⟨g1, g2⟩ := h5 (by omega)
  have hq : 0 ≤ ezn_r0 qc y (ezn_bs (ezn_pd qc y c) y.kT.toNat) 0 ∧ ezn_r0 qc y (ezn_bs (ezn_pd qc y c) y.kT.toNat) 0 ≤ 10 := qr _ _ _ _ _
  obtain ⟨-, -, a3, -, -, a6⟩ := ezn_bs_r (fun t => ezn_pd qc y c t * ezn_r0 qc y t 0) y.kT.toNat
  obtain ⟨-, -, b3, -, -, b6⟩ := ezn_bs_r (fun t => ezn_pd qc y c t * (10 - ezn_r0 qc y t 0)) y.kT.toNat
  have k1 := a6 (ezn_bs (ezn_pd qc y c) y.kT.toNat) (by omega) (by omega)
  have k2 := b6 (ezn_bs (ezn_pd qc y c) y.kT.toNat) (by omega) (by omega)
  simp only [g1] at k1 k2
  unfold ezn_sh
  by_cases hr : 1 ≤ ezn_r0 qc y (ezn_bs (ezn_pd qc y c) y.kT.toNat) 0
  · have m := Int.mul_pos g2 (show 0 < ezn_r0 qc y (ezn_bs (ezn_pd qc y c) y.kT.toNat) 0 by omega)
    omega
  · have m := Int.mul_pos g2 (show 0 < 10 - ezn_r0 qc y (ezn_bs (ezn_pd qc y c) y.kT.toNat) 0 by omega)
    omega
