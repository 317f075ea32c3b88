/-! ===== sets of places, as bits: pure ===== -/
def ezn_ls (n : Nat) : List Nat := [0, 1, 2, 3, 4, 5].filter (fun p => Nat.beq (n / 2 ^ p % 2) 1)
def ezn_cnN (n : Nat) : Nat := (ezn_ls n).length
def ezn_kpN (n i : Nat) : Nat := (ezn_ls n).getD i 6
def ezn_rkN (n p : Nat) : Nat := ((ezn_ls n).filter (fun q => Nat.blt q p)).length
theorem ezn_f1 : ∀ n : Nat, n < 64 → ezn_cnN n ≤ 6 ∧ ∀ i : Nat, i < 6 → i < ezn_cnN n → ezn_kpN n i < 6 ∧ n / 2 ^ ezn_kpN n i % 2 = 1 ∧ ezn_rkN n (ezn_kpN n i) = i := by decide +kernel
theorem ezn_f2 : ∀ n : Nat, n < 64 → ∀ p : Nat, p < 6 → n / 2 ^ p % 2 = 1 → ezn_rkN n p < ezn_cnN n ∧ ezn_kpN n (ezn_rkN n p) = p ∧ 2 ^ p ≤ n ∧ ezn_cnN (n - 2 ^ p) + 1 = ezn_cnN n := by decide +kernel
theorem ezn_f2b : ∀ n : Nat, n < 64 → ∀ p : Nat, p < 6 → n / 2 ^ p % 2 = 1 → ∀ i : Nat, i < 6 → i < ezn_cnN (n - 2 ^ p) → ezn_kpN (n - 2 ^ p) i = ezn_kpN n (if i < ezn_rkN n p then i else i + 1) := by decide +kernel
theorem ezn_f2c : ∀ n : Nat, n < 64 → ∀ p : Nat, p < 6 → n / 2 ^ p % 2 = 1 → ∀ q : Nat, q < 6 → (n - 2 ^ p) / 2 ^ q % 2 = if q = p then 0 else n / 2 ^ q % 2 := by decide +kernel
theorem ezn_f3 : ∀ n : Nat, n < 64 → ∀ p : Nat, p < 6 → n / 2 ^ p % 2 = 1 → (∀ q : Nat, q < 6 → p < q → n / 2 ^ q % 2 = 0) → ezn_kpN n (ezn_cnN n - 1) = p := by decide +kernel
theorem ezn_f4 : ∀ n : Nat, n < 64 → (∀ q : Nat, q < 6 → n / 2 ^ q % 2 = 0) → n = 0 := by decide +kernel
theorem ezn_f5 : ∀ n : Nat, n < 64 → n ≠ 0 → 1 ≤ ezn_cnN n ∧ ezn_kpN n (ezn_cnN n - 1) < 6 ∧ n / 2 ^ ezn_kpN n (ezn_cnN n - 1) % 2 = 1 ∧ ezn_rkN n (ezn_kpN n (ezn_cnN n - 1)) = ezn_cnN n - 1 ∧ ∀ q : Nat, q < 6 → ezn_kpN n (ezn_cnN n - 1) < q → n / 2 ^ q % 2 = 0 := by decide +kernel
theorem ezn_f6 : ∀ k : Nat, k < 7 → ezn_cnN (2 ^ k - 1) = k ∧ (∀ i : Nat, i < 6 → i < k → ezn_kpN (2 ^ k - 1) i = i) ∧ (∀ q : Nat, q < 6 → (2 ^ k - 1) / 2 ^ q % 2 = if q < k then 1 else 0) ∧ 2 ^ k - 1 < 64 := by decide +kernel
def ezn_cn (x : Int) : Int := ((ezn_cnN x.toNat : Nat) : Int)
def ezn_kp (x i : Int) : Int := ((ezn_kpN x.toNat i.toNat : Nat) : Int)
def ezn_rk (x p : Int) : Int := ((ezn_rkN x.toNat p.toNat : Nat) : Int)
/-- the last place, -1 without one -/
def ezn_lo (x : Int) : Int := if x = 0 then -1 else ezn_kp x (ezn_cn x - 1)
theorem ezn_b (a p : Nat) : ezt_b (a : Int) (p : Int) = ((a / 2 ^ p % 2 : Nat) : Int) := by
  unfold ezt_b
  rw [Int.toNat_natCast, Int.natCast_emod, Int.natCast_ediv, Int.natCast_pow]
  rfl
theorem ezn_p2 (k : Nat) : (2 : Int) ^ ((k : Nat) : Int).toNat = ((2 ^ k : Nat) : Int) := by
  rw [Int.toNat_natCast, Int.natCast_pow]
  rfl
theorem ezn_cn_r {x : Int} (x0 : 0 ≤ x) (x1 : x < 64) : 0 ≤ ezn_cn x ∧ ezn_cn x ≤ 6 := by
  obtain ⟨n, rfl⟩ := Int.eq_ofNat_of_zero_le x0
  have h := (ezn_f1 n (by omega)).1
  unfold ezn_cn
  rw [Int.toNat_natCast]
  omega
theorem ezn_kp_r {x i : Int} (x0 : 0 ≤ x) (x1 : x < 64) (i0 : 0 ≤ i) (i1 : i < ezn_cn x) : (0 ≤ ezn_kp x i ∧ ezn_kp x i < 6) ∧ ezt_b x (ezn_kp x i) = 1 ∧ ezn_rk x (ezn_kp x i) = i := by
  obtain ⟨n, rfl⟩ := Int.eq_ofNat_of_zero_le x0
  obtain ⟨j, rfl⟩ := Int.eq_ofNat_of_zero_le i0
  unfold ezn_cn at i1
  rw [Int.toNat_natCast] at i1
  obtain ⟨h6, h⟩ := ezn_f1 n (by omega)
  obtain ⟨h1, h2, h3⟩ := h j (by omega) (by omega)
  unfold ezn_rk ezn_kp
  rw [Int.toNat_natCast, Int.toNat_natCast, ezn_b, Int.toNat_natCast, h2, h3]
  exact ⟨⟨by omega, by omega⟩, rfl, rfl⟩
theorem ezn_rk_r {x p : Int} (x0 : 0 ≤ x) (x1 : x < 64) (p0 : 0 ≤ p) (p1 : p < 6) (hb : ezt_b x p = 1) : (0 ≤ ezn_rk x p ∧ ezn_rk x p < ezn_cn x) ∧ ezn_kp x (ezn_rk x p) = p := by
  obtain ⟨n, rfl⟩ := Int.eq_ofNat_of_zero_le x0
  obtain ⟨k, rfl⟩ := Int.eq_ofNat_of_zero_le p0
  rw [ezn_b] at hb
  obtain ⟨h1, h2, -⟩ := ezn_f2 n (by omega) k (by omega) (by omega)
  unfold ezn_kp ezn_rk ezn_cn
  rw [Int.toNat_natCast, Int.toNat_natCast, Int.toNat_natCast, h2]
  exact ⟨⟨by omega, by omega⟩, rfl⟩
theorem ezn_p2r {p : Int} (p0 : 0 ≤ p) (p1 : p < 6) : 1 ≤ (2 : Int) ^ p.toNat ∧ (2 : Int) ^ p.toNat ≤ 32 := by
  rcases (show p = 0 ∨ p = 1 ∨ p = 2 ∨ p = 3 ∨ p = 4 ∨ p = 5 by omega) with rfl | rfl | rfl | rfl | rfl | rfl <;> decide
theorem ezn_rm {x p : Int} (x0 : 0 ≤ x) (x1 : x < 64) (p0 : 0 ≤ p) (p1 : p < 6) (hb : ezt_b x p = 1) : (0 ≤ x - 2 ^ p.toNat ∧ x - 2 ^ p.toNat < 64) ∧ ezn_cn (x - 2 ^ p.toNat) = ezn_cn x - 1 ∧ (∀ i, 0 ≤ i → i < ezn_cn x - 1 → ezn_kp (x - 2 ^ p.toNat) i = ezn_kp x (if i < ezn_rk x p then i else i + 1)) ∧ ∀ q, 0 ≤ q → q < 6 → ezt_b (x - 2 ^ p.toNat) q = if q = p then 0 else ezt_b x q := by
  obtain ⟨n, rfl⟩ := Int.eq_ofNat_of_zero_le x0
  obtain ⟨k, rfl⟩ := Int.eq_ofNat_of_zero_le p0
  rw [ezn_b] at hb
  obtain ⟨-, -, h3, h4⟩ := ezn_f2 n (by omega) k (by omega) (by omega)
  have h5 := ezn_f2b n (by omega) k (by omega) (by omega)
  have h6 := ezn_f2c n (by omega) k (by omega) (by omega)
  have h8 := Nat.sub_le n (2 ^ k)
  have e : (n : Int) - 2 ^ ((k : Nat) : Int).toNat = ((n - 2 ^ k : Nat) : Int) := by
    rw [ezn_p2, Int.ofNat_sub h3]
  have h7 := (ezn_f1 n (by omega)).1
  rw [e]
  refine ⟨⟨by omega, by omega⟩, ?_, fun i i0 i1 => ?_, fun q q0 q1 => ?_⟩
  · unfold ezn_cn
    rw [Int.toNat_natCast, Int.toNat_natCast]
    omega
  · obtain ⟨j, rfl⟩ := Int.eq_ofNat_of_zero_le i0
    unfold ezn_cn at i1
    rw [Int.toNat_natCast] at i1
    have h := h5 j (by omega) (by omega)
    unfold ezn_rk
    rw [Int.toNat_natCast, Int.toNat_natCast]
    have e2 : (if (j : Int) < ((ezn_rkN n k : Nat) : Int) then (j : Int) else (j : Int) + 1) = (((if j < ezn_rkN n k then j else j + 1) : Nat) : Int) := by
      by_cases hc : j < ezn_rkN n k
      · rw [if_pos hc, if_pos (by omega)]
      · rw [if_neg hc, if_neg (by omega)]
        rfl
    rw [e2]
    unfold ezn_kp
    rw [Int.toNat_natCast, Int.toNat_natCast, Int.toNat_natCast, Int.toNat_natCast, h]
  · obtain ⟨j, rfl⟩ := Int.eq_ofNat_of_zero_le q0
    have h := h6 j (by omega)
    rw [ezn_b, h, ezn_b]
    by_cases hc : j = k
    · rw [if_pos hc, if_pos (by omega)]
      rfl
    · rw [if_neg hc, if_neg (by omega)]
theorem ezn_lo_of {x p : Int} (x0 : 0 ≤ x) (x1 : x < 64) (p0 : 0 ≤ p) (p1 : p < 6) (hb : ezt_b x p = 1) (hz : ∀ q, p < q → q < 6 → ezt_b x q = 0) : ezn_lo x = p ∧ x ≠ 0 := by
  obtain ⟨n, rfl⟩ := Int.eq_ofNat_of_zero_le x0
  obtain ⟨k, rfl⟩ := Int.eq_ofNat_of_zero_le p0
  rw [ezn_b] at hb
  have hn : n ≠ 0 := by
    intro z
    subst z
    rw [Nat.zero_div] at hb
    exact absurd hb (by decide)
  have h := ezn_f3 n (by omega) k (by omega) (by omega) (fun q q1 q2 => by
    have h2 := hz (q : Int) (by omega) (by omega)
    rw [ezn_b] at h2
    omega)
  have h5 := (ezn_f5 n (by omega) hn).1
  refine ⟨?_, by omega⟩
  unfold ezn_lo
  rw [if_neg (by omega)]
  unfold ezn_kp ezn_cn
  rw [Int.toNat_natCast, show (((ezn_cnN n : Nat) : Int) - 1).toNat = ezn_cnN n - 1 by omega, h]
theorem ezn_lo_z {x : Int} (x0 : 0 ≤ x) (x1 : x < 64) (hz : ∀ q, 0 ≤ q → q < 6 → ezt_b x q = 0) : ezn_lo x = -1 ∧ x = 0 := by
  obtain ⟨n, rfl⟩ := Int.eq_ofNat_of_zero_le x0
  have h := ezn_f4 n (by omega) (fun q q1 => by
    have h2 := hz (q : Int) (by omega) (by omega)
    rw [ezn_b] at h2
    omega)
  subst h
  exact ⟨rfl, rfl⟩
theorem ezn_lo_r {x : Int} (x0 : 0 ≤ x) (x1 : x < 64) (hx : x ≠ 0) : (0 ≤ ezn_lo x ∧ ezn_lo x < 6) ∧ ezt_b x (ezn_lo x) = 1 ∧ ezn_rk x (ezn_lo x) = ezn_cn x - 1 ∧ 1 ≤ ezn_cn x ∧ ezn_lo x = ezn_kp x (ezn_cn x - 1) ∧ ∀ q, ezn_lo x < q → q < 6 → ezt_b x q = 0 := by
  obtain ⟨n, rfl⟩ := Int.eq_ofNat_of_zero_le x0
  obtain ⟨h1, h2, h3, h4, h5⟩ := ezn_f5 n (by omega) (by omega)
  have e1 : ezn_cn (n : Int) = ((ezn_cnN n : Nat) : Int) := by
    unfold ezn_cn
    rw [Int.toNat_natCast]
  have e2 : ezn_lo (n : Int) = ((ezn_kpN n (ezn_cnN n - 1) : Nat) : Int) := by
    unfold ezn_lo
    rw [if_neg hx, e1]
    unfold ezn_kp
    rw [Int.toNat_natCast, show (((ezn_cnN n : Nat) : Int) - 1).toNat = ezn_cnN n - 1 by omega]
  refine ⟨?_, ?_, ?_, ?_, ?_, fun q q0 q1 => ?_⟩
  · rw [e2]
    omega
  · rw [e2, ezn_b, h3]
    rfl
  · rw [e2, e1]
    unfold ezn_rk
    rw [Int.toNat_natCast, Int.toNat_natCast, h4]
    omega
  · rw [e1]
    omega
  · unfold ezn_lo
    rw [if_neg hx]
  · rw [e2] at q0
    obtain ⟨j, rfl⟩ := Int.eq_ofNat_of_zero_le (show 0 ≤ q by omega)
    rw [ezn_b, h5 j (by omega) (by omega)]
    rfl
theorem ezn_full {k : Int} (k0 : 0 ≤ k) (k1 : k ≤ 6) : ((0 : Int) ≤ 1 * 2 ^ k.toNat - 1 ∧ (1 * 2 ^ k.toNat - 1 : Int) < 64) ∧ ezn_cn (1 * 2 ^ k.toNat - 1) = k ∧ (∀ i, 0 ≤ i → i < k → ezn_kp (1 * 2 ^ k.toNat - 1) i = i) ∧ ∀ q, 0 ≤ q → q < 6 → ezt_b (1 * 2 ^ k.toNat - 1) q = if q < k then 1 else 0 := by
  obtain ⟨n, rfl⟩ := Int.eq_ofNat_of_zero_le k0
  obtain ⟨h1, h2, h3, h4⟩ := ezn_f6 n (by omega)
  have hp : 1 ≤ 2 ^ n := Nat.one_le_two_pow
  have e : (1 * 2 ^ ((n : Nat) : Int).toNat - 1 : Int) = ((2 ^ n - 1 : Nat) : Int) := by
    rw [ezn_p2, Int.one_mul, Int.ofNat_sub hp]
    rfl
  rw [e]
  refine ⟨⟨by omega, by omega⟩, ?_, fun i i0 i1 => ?_, fun q q0 q1 => ?_⟩
  · unfold ezn_cn
    rw [Int.toNat_natCast, h1]
  · obtain ⟨j, rfl⟩ := Int.eq_ofNat_of_zero_le i0
    unfold ezn_kp
    rw [Int.toNat_natCast, Int.toNat_natCast, h2 j (by omega) (by omega)]
  · obtain ⟨j, rfl⟩ := Int.eq_ofNat_of_zero_le q0
    rw [ezn_b, h3 j (by omega)]
    by_cases hc : j < n
    · rw [if_pos hc, if_pos (by omega)]
      rfl
    · rw [if_neg hc, if_neg (by omega)]
      rfl
/-- one place taken out, as the class does it -/
theorem ezn_f7 : ∀ n : Nat, n < 64 → ∀ p : Nat, p < 6 → n / 2 ^ p % 2 = 1 → n &&& (2 ^ p ^^^ 4294967295) = n - 2 ^ p := by decide +kernel
theorem ezn_andn {x p : Int} (x0 : 0 ≤ x) (x1 : x < 64) (p0 : 0 ≤ p) (p1 : p < 6) (hb : ezt_b x p = 1) : ezw_and x (ezw_xor (1 * 2 ^ p.toNat) (-1)) = x - 2 ^ p.toNat := by
  obtain ⟨n, rfl⟩ := Int.eq_ofNat_of_zero_le x0
  obtain ⟨k, rfl⟩ := Int.eq_ofNat_of_zero_le p0
  rw [ezn_b] at hb
  have h3 := (ezn_f2 n (by omega) k (by omega) (by omega)).2.2.1
  have h := ezn_f7 n (by omega) k (by omega) (by omega)
  have hq : 2 ^ k < 4294967296 := Nat.lt_of_le_of_lt h3 (by omega)
  rw [ezn_p2, Int.one_mul]
  unfold ezw_xor ezw_and
  have hx : (2 ^ k ^^^ 4294967295 : Nat) < 4294967296 := Nat.xor_lt_two_pow (n := 32) hq (by decide)
  rw [ezw_zN hq, show ezw_z (-1) = 4294967295 from rfl, ezw_zN hx, ezw_zN (show n < 4294967296 by omega), h, Int.ofNat_sub h3]
/-! ===== how it stands: pure ===== -/
/-- string, tight, hour, wind, kite, paper, hand -/
def ezn_N : Type := Int × Int × Int × Int × Int × Int × Int
def ezn_N.ov (w : ezn_N) : Int := w.1
def ezn_N.ti (w : ezn_N) : Int := w.2.1
def ezn_N.ho (w : ezn_N) : Int := w.2.2.1
def ezn_N.wi (w : ezn_N) : Int := w.2.2.2.1
def ezn_N.ki (w : ezn_N) : Int := w.2.2.2.2.1
def ezn_N.pa (w : ezn_N) : Int := w.2.2.2.2.2.1
def ezn_N.ha (w : ezn_N) : Int := w.2.2.2.2.2.2
def ezn_mk (a b c d e f g : Int) : ezn_N := (a, b, c, d, e, f, g)
/-- what a pull is worth of ten: law, twig, tight, away, force -/
abbrev ezn_Q : Type := Int → Int → Int → Int → Int → Int
def ezn_B (y : ezp_D) (w : ezn_N) : Prop := (0 ≤ w.ov ∧ w.ov < 64) ∧ (∀ p, 0 ≤ p → p < 6 → ezt_b w.ov p = 1 → p < y.kS) ∧ (0 ≤ w.ti ∧ w.ti ≤ 9) ∧ (0 ≤ w.ho ∧ w.ho ≤ 23) ∧ (0 ≤ w.wi ∧ w.wi ≤ 3) ∧ (0 ≤ w.ki ∧ w.ki ≤ 2) ∧ (0 ≤ w.pa ∧ w.pa ≤ 99) ∧ (0 ≤ w.ha ∧ w.ha < 16) ∧ (∀ t, 0 ≤ t → t < 4 → ezt_b w.ha t = 1 → t < y.kH) ∧ (w.ki = 0 → w.ov ≠ 0) ∧ (w.ov ≠ 0 → w.ki = 0) ∧ (w.ov = 0 → w.ti = 0)
/-- the last twig -/
def ezn_la (y : ezp_D) (w : ezn_N) : Int := if w.ov = 0 then -1 else y.sg (ezn_lo w.ov)
/-- it is off the one at the place p -/
def ezn_off (w : ezn_N) (p : Int) : ezn_N := ezn_mk (w.ov - 2 ^ p.toNat) (if p = ezn_lo w.ov then 0 else w.ti) w.ho w.wi (if w.ov - 2 ^ p.toNat = 0 then 1 else w.ki) w.pa w.ha
def ezn_bi (w : ezn_N) (f : Int) : ezn_N := ezn_mk w.ov (if w.ti + 1 + f ≤ 9 then w.ti + 1 + f else 9) w.ho w.wi w.ki w.pa w.ha
def ezn_tr (w : ezn_N) : ezn_N := ezn_mk 0 0 w.ho w.wi 2 w.pa w.ha
def ezn_sl (w : ezn_N) : ezn_N := ezn_mk w.ov (w.ti - 1) w.ho w.wi w.ki w.pa w.ha
def ezn_hn (w : ezn_N) (t : Int) : ezn_N := ezn_mk w.ov w.ti w.ho w.wi w.ki w.pa (w.ha - 2 ^ t.toNat)
def ezn_dw (y : ezp_D) (h pa : Int) : Int := if 20 ≤ h ∨ h < 6 then (if pa - y.nu 6 < 0 then 0 else pa - y.nu 6) else pa
def ezn_hr (y : ezp_D) (w : ezn_N) (s : Int) : ezn_N := ezn_mk w.ov w.ti ((w.ho + 1) % 24) s w.ki (if w.ki = 0 then ezn_dw y ((w.ho + 1) % 24) w.pa else w.pa) w.ha
def ezn_bg (y : ezp_D) : ezn_N := ezn_mk (1 * 2 ^ y.kS.toNat - 1) 0 12 (y.nu 2) (if 0 < y.kS then 0 else 1) (y.nu 1) (1 * 2 ^ y.kH.toNat - 1)
def ezn_aw (a b : Int) : Int := if (a - b + 4) % 4 = 3 then 1 else (a - b + 4) % 4
def ezn_ch (q : ezn_Q) (y : ezp_D) (w : ezn_N) (l s f : Int) : Int := q l (ezn_la y w) w.ti (ezn_aw s (y.si (ezn_la y w))) f
/-- can be, and what is then -/
def ezn_cP (q : ezn_Q) (y : ezp_D) (w : ezn_N) (s f e : Int) : Prop := w.ki = 0 ∧ (0 ≤ s ∧ s < 4) ∧ (e = 0 ∧ 0 < ezn_ch q y w 0 s f ∨ e = 1 ∧ ezn_ch q y w 0 s f < 10 ∧ ezn_ch q y w 1 s f < 10 ∨ e = 2 ∧ ezn_ch q y w 0 s f < 10 ∧ 0 < ezn_ch q y w 1 s f)
def ezn_tP (w : ezn_N) (f e : Int) : ezn_N := if e = 0 then ezn_off w (ezn_lo w.ov) else if e = 1 then ezn_bi w f else ezn_tr w
def ezn_cS (w : ezn_N) : Prop := w.ki = 0 ∧ 0 < w.ti
def ezn_cL (y : ezp_D) (w : ezn_N) : Prop := w.ki = 0 ∧ w.ti = 0 ∧ 0 < y.nu 5 ∧ w.wi = y.si (ezn_la y w)
def ezn_cH (y : ezp_D) (w : ezn_N) (t e : Int) : Prop := w.ki = 0 ∧ (0 ≤ t ∧ t < y.kH ∧ ezt_b w.ha t = 1) ∧ (e = 0 ∧ y.st t + y.fr t < 10 ∨ e = 1 ∧ 0 < y.st t ∨ e = 2 ∧ 0 < y.fr t)
def ezn_tH (w : ezn_N) (t e : Int) : ezn_N := if e = 0 then w else if e = 1 then ezn_hn w t else ezn_off w (ezn_lo w.ov)
/-- the place of a twig that the string goes over, -1 without one -/
def ezn_ps (y : ezp_D) (w : ezn_N) (t : Int) : Nat → Int
  | 0 => -1
  | n + 1 => if ezt_b w.ov (5 - n : Int) = 1 ∧ y.sg (5 - n : Int) = t then (5 - n : Int) else ezn_ps y w t n
def ezn_cC (y : ezp_D) (w : ezn_N) (t k : Int) : Prop := ezn_ps y w t 6 ≠ -1 ∧ (k = 1 ∧ y.hi t ≤ y.nu 7 + y.nu 8 ∨ k = 0 ∧ ezp_be y 8 t = true)
/-! ===== the bounds stay ===== -/
theorem ezn_B_off {y : ezp_D} {w : ezn_N} {p : Int} (h : ezn_B y w) (p0 : 0 ≤ p) (p1 : p < 6) (hb : ezt_b w.ov p = 1) : ezn_B y (ezn_off w p) := by
  obtain ⟨h1, h2, h3, h4, h5, h6, h7, h8, h9, h10, h11, h12⟩ := h
  obtain ⟨r1, -, -, r4⟩ := ezn_rm h1.1 h1.2 p0 p1 hb
  have hx : w.ov ≠ 0 := fun z => by
    rw [z, ezt_b0] at hb
    exact absurd hb (by decide)
  refine ⟨r1, fun q q0 q1 q2 => ?_, ?_, h4, h5, ?_, h7, h8, h9, fun z => ?_, fun z => ?_, fun z => ?_⟩
  · have e := r4 q q0 q1
    have q2 : ezt_b (w.ov - 2 ^ p.toNat) q = 1 := q2
    rw [e] at q2
    by_cases hq : q = p
    · rw [if_pos hq] at q2
      exact absurd q2 (by decide)
    · rw [if_neg hq] at q2
      exact h2 q q0 q1 q2
  · show 0 ≤ (if p = ezn_lo w.ov then 0 else w.ti) ∧ (if p = ezn_lo w.ov then 0 else w.ti) ≤ 9
    split <;> omega
  · show 0 ≤ (if w.ov - 2 ^ p.toNat = 0 then 1 else w.ki) ∧ (if w.ov - 2 ^ p.toNat = 0 then 1 else w.ki) ≤ 2
    split <;> omega
  · have z : (if w.ov - 2 ^ p.toNat = 0 then 1 else w.ki) = 0 := z
    show w.ov - 2 ^ p.toNat ≠ 0
    intro z2
    rw [if_pos z2] at z
    exact absurd z (by decide)
  · have z : w.ov - 2 ^ p.toNat ≠ 0 := z
    show (if w.ov - 2 ^ p.toNat = 0 then 1 else w.ki) = 0
    rw [if_neg z]
    exact h11 hx
  · have z : w.ov - 2 ^ p.toNat = 0 := z
    show (if p = ezn_lo w.ov then 0 else w.ti) = 0
    by_cases hp : p = ezn_lo w.ov
    · rw [if_pos hp]
    · exfalso
      obtain ⟨l1, l2, -⟩ := ezn_lo_r h1.1 h1.2 hx
      have e := r4 _ l1.1 l1.2
      rw [z, ezt_b0, if_neg (fun q => hp q.symm), l2] at e
      exact absurd e (by decide)
theorem ezn_B_bi {y : ezp_D} {w : ezn_N} {f : Int} (h : ezn_B y w) (hk : w.ki = 0) (f0 : 0 ≤ f) : ezn_B y (ezn_bi w f) := by
  obtain ⟨h1, h2, h3, h4, h5, h6, h7, h8, h9, h10, h11, h12⟩ := h
  refine ⟨h1, h2, ?_, h4, h5, h6, h7, h8, h9, h10, h11, fun z => absurd z (h10 hk)⟩
  show 0 ≤ (if w.ti + 1 + f ≤ 9 then w.ti + 1 + f else 9) ∧ (if w.ti + 1 + f ≤ 9 then w.ti + 1 + f else 9) ≤ 9
  split <;> omega
theorem ezn_B_tr {y : ezp_D} {w : ezn_N} (h : ezn_B y w) : ezn_B y (ezn_tr w) := by
  obtain ⟨h1, h2, h3, h4, h5, h6, h7, h8, h9, h10, h11, h12⟩ := h
  refine ⟨⟨Int.le_refl 0, show (0 : Int) < 64 by decide⟩, fun p p0 p1 hb => ?_, ⟨Int.le_refl 0, show (0 : Int) ≤ 9 by decide⟩, h4, h5, ⟨show (0 : Int) ≤ 2 by decide, show (2 : Int) ≤ 2 by decide⟩, h7, h8, h9, fun z => absurd (show (2 : Int) = 0 from z) (by decide), fun z => absurd rfl z, fun _ => rfl⟩
  have hb : ezt_b 0 p = 1 := hb
  rw [ezt_b0] at hb
  exact absurd hb (by decide)
theorem ezn_B_sl {y : ezp_D} {w : ezn_N} (h : ezn_B y w) (hk : w.ki = 0) (ht : 0 < w.ti) : ezn_B y (ezn_sl w) := by
  obtain ⟨h1, h2, h3, h4, h5, h6, h7, h8, h9, h10, h11, h12⟩ := h
  refine ⟨h1, h2, ?_, h4, h5, h6, h7, h8, h9, h10, h11, fun z => absurd z (h10 hk)⟩
  show 0 ≤ w.ti - 1 ∧ w.ti - 1 ≤ 9
  omega
theorem ezn_B_hn {y : ezp_D} {w : ezn_N} {t : Int} (h : ezn_B y w) (t0 : 0 ≤ t) (t1 : t < 4) (hb : ezt_b w.ha t = 1) : ezn_B y (ezn_hn w t) := by
  obtain ⟨h1, h2, h3, h4, h5, h6, h7, h8, h9, h10, h11, h12⟩ := h
  obtain ⟨r1, -, -, r4⟩ := ezn_rm h8.1 (by omega) t0 (by omega) hb
  have r5 := ezn_p2r t0 (by omega)
  refine ⟨h1, h2, h3, h4, h5, h6, h7, ?_, fun q q0 q1 q2 => ?_, h10, h11, h12⟩
  · show 0 ≤ w.ha - 2 ^ t.toNat ∧ w.ha - 2 ^ t.toNat < 16
    omega
  · have q2 : ezt_b (w.ha - 2 ^ t.toNat) q = 1 := q2
    rw [r4 q q0 (by omega)] at q2
    by_cases hq : q = t
    · rw [if_pos hq] at q2
      exact absurd q2 (by decide)
    · rw [if_neg hq] at q2
      exact h9 q q0 q1 q2
theorem ezn_dw_r {y : ezp_D} {h pa : Int} (hy : 0 ≤ y.nu 6) (h0 : 0 ≤ pa) : 0 ≤ ezn_dw y h pa ∧ ezn_dw y h pa ≤ pa := by
  unfold ezn_dw
  (repeat' split) <;> omega
theorem ezn_B_hr {y : ezp_D} {w : ezn_N} {s : Int} (h : ezn_B y w) (hy : 0 ≤ y.nu 6) (s0 : 0 ≤ s) (s1 : s < 4) : ezn_B y (ezn_hr y w s) := by
  obtain ⟨h1, h2, h3, h4, h5, h6, h7, h8, h9, h10, h11, h12⟩ := h
  have hd := ezn_dw_r (y := y) (h := (w.ho + 1) % 24) hy h7.1
  refine ⟨h1, h2, h3, ?_, ?_, h6, ?_, h8, h9, h10, h11, h12⟩
  · show 0 ≤ (w.ho + 1) % 24 ∧ (w.ho + 1) % 24 ≤ 23
    omega
  · show 0 ≤ s ∧ s ≤ 3
    omega
  · show 0 ≤ (if w.ki = 0 then ezn_dw y ((w.ho + 1) % 24) w.pa else w.pa) ∧ (if w.ki = 0 then ezn_dw y ((w.ho + 1) % 24) w.pa else w.pa) ≤ 99
    split <;> omega
theorem ezn_B_bg {y : ezp_D} (h : ezp_B y) : ezn_B y (ezn_bg y) := by
  obtain ⟨b1, b2, b3, b4, b5, b6, b7, ⟨b8, b8'⟩, b9⟩ := h
  obtain ⟨f1, -, -, f4⟩ := ezn_full (k := y.kS) (by omega) (by omega)
  obtain ⟨g1, -, -, g4⟩ := ezn_full (k := y.kH) (by omega) (by omega)
  have n2 : 0 ≤ y.nu 2 ∧ y.nu 2 ≤ 3 := b8 2 (by decide) (by decide)
  have n1 : 0 ≤ y.nu 1 ∧ y.nu 1 ≤ 99 := b8 1 (by decide) (by decide)
  have hz : y.kS = 0 → (1 * 2 ^ y.kS.toNat - 1 : Int) = 0 := fun z => by
    rw [z]
    rfl
  have hn : 0 < y.kS → (1 * 2 ^ y.kS.toNat - 1 : Int) ≠ 0 := fun z z2 => by
    have e := f4 0 (by decide) (by decide)
    rw [z2, ezt_b0, if_pos z] at e
    exact absurd e (by decide)
  have hl : (1 * 2 ^ y.kH.toNat - 1 : Int) < 16 := by
    rcases (show y.kH = 0 ∨ y.kH = 1 ∨ y.kH = 2 ∨ y.kH = 3 ∨ y.kH = 4 by omega) with e | e | e | e | e <;> rw [e] <;> decide
  refine ⟨f1, fun p p0 p1 hb => ?_, ⟨Int.le_refl 0, show (0 : Int) ≤ 9 by decide⟩, ⟨show (0 : Int) ≤ 12 by decide, show (12 : Int) ≤ 23 by decide⟩, n2, ?_, n1, ⟨g1.1, hl⟩, fun t t0 t1 hb => ?_, fun z => ?_, fun z => ?_, fun _ => rfl⟩
  · have e := f4 p p0 p1
    have hb : ezt_b (1 * 2 ^ y.kS.toNat - 1) p = 1 := hb
    rw [e] at hb
    by_cases hp : p < y.kS
    · exact hp
    · rw [if_neg hp] at hb
      exact absurd hb (by decide)
  · show 0 ≤ (if 0 < y.kS then (0 : Int) else 1) ∧ (if 0 < y.kS then (0 : Int) else 1) ≤ 2
    split <;> omega
  · have e := g4 t t0 (by omega)
    have hb : ezt_b (1 * 2 ^ y.kH.toNat - 1) t = 1 := hb
    rw [e] at hb
    by_cases hp : t < y.kH
    · exact hp
    · rw [if_neg hp] at hb
      exact absurd hb (by decide)
  · have z : (if 0 < y.kS then (0 : Int) else 1) = 0 := z
    by_cases hp : 0 < y.kS
    · exact hn hp
    · rw [if_neg hp] at z
      exact absurd z (by decide)
  · show (if 0 < y.kS then (0 : Int) else 1) = 0
    by_cases hp : 0 < y.kS
    · rw [if_pos hp]
    · exact absurd (hz (by omega)) z
