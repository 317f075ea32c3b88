/-! ===== numbers held in one: pure ===== -/
theorem ezn_t2 : (2 : Int) ^ (2 : Int).toNat = 4 := by decide
theorem ezn_t4 : (2 : Int) ^ (4 : Int).toNat = 16 := by decide
theorem ezn_t5 : (2 : Int) ^ (5 : Int).toNat = 32 := by decide
theorem ezn_t7 : (2 : Int) ^ (7 : Int).toNat = 128 := by decide
theorem ezn_t11 : (2 : Int) ^ (11 : Int).toNat = 2048 := by decide
theorem ezn_t13 : (2 : Int) ^ (13 : Int).toNat = 8192 := by decide
theorem ezn_t15 : (2 : Int) ^ (15 : Int).toNat = 32768 := by decide
theorem ezn_t20 : (2 : Int) ^ (20 : Int).toNat = 1048576 := by decide
theorem ezn_t24 : (2 : Int) ^ (24 : Int).toNat = 16777216 := by decide
theorem ezn_orl {x t : Int} (m : Nat) (M : Int) (hM : M = 2 ^ m) (hx : x % M = 0) (x0 : 0 ≤ x) (x1 : x + t < 9223372036854775808) (t0 : 0 ≤ t) (t1 : t < M) : ezw_orl x t = x + t := by
  obtain ⟨b, rfl⟩ := Int.eq_ofNat_of_zero_le t0
  obtain ⟨q, rfl⟩ := Int.dvd_of_emod_eq_zero hx
  have hM0 : 0 < M := by omega
  have hq : 0 ≤ q := Int.le_of_mul_le_mul_left (a := M) (by rw [Int.mul_zero]; exact x0) hM0
  obtain ⟨k, rfl⟩ := Int.eq_ofNat_of_zero_le hq
  subst hM
  have e : (2 : Int) ^ m * (k : Int) = ((2 ^ m * k : Nat) : Int) := by
    rw [Int.natCast_mul, Int.natCast_pow]
    rfl
  have hb : b < 2 ^ m := by
    have h : ((b : Nat) : Int) < ((2 ^ m : Nat) : Int) := by
      rw [Int.natCast_pow]
      exact t1
    exact Int.ofNat_lt.mp h
  have key : ∀ X : Nat, X = 2 ^ m * k → (X : Int) + (b : Int) < 9223372036854775808 → ezw_orl (X : Int) (b : Int) = (X : Int) + (b : Int) := by
    intro X hX h1
    unfold ezw_orl
    rw [ezw_zlN (by omega), ezw_zlN (by omega), hX, ← Nat.two_pow_add_eq_or_of_lt hb, ← hX]
    exact Int.natCast_add _ _
  rw [e] at x1 ⊢
  exact key _ rfl x1
theorem ezn_andl {x : Int} (m : Nat) (M K : Int) (hM : M = 2 ^ m) (hK : K + 1 = M) (x0 : 0 ≤ x) (x1 : x < 9223372036854775808) : ezw_andl x K = x % M := by
  obtain ⟨n, rfl⟩ := Int.eq_ofNat_of_zero_le x0
  have hp : 1 ≤ 2 ^ m := Nat.one_le_two_pow
  have hM2 : M = ((2 ^ m : Nat) : Int) := by
    rw [hM, Int.natCast_pow]
    rfl
  by_cases h63 : m < 64
  · have hq : 2 ^ m ≤ 2 ^ 63 := Nat.pow_le_pow_right (by decide) (by omega)
    have hKe : K = ((2 ^ m - 1 : Nat) : Int) := by
      rw [Int.ofNat_sub hp]
      omega
    rw [hKe, hM2]
    unfold ezw_andl
    rw [ezw_zlN (show n < 18446744073709551616 by omega), ezw_zlN (Nat.lt_of_lt_of_le (Nat.sub_lt hp (by decide)) (Nat.le_trans hq (by decide))), Nat.and_two_pow_sub_one_eq_mod]
    exact Int.natCast_emod _ _
  · have hq : 2 ^ 64 ≤ 2 ^ m := Nat.pow_le_pow_right (by decide) (by omega)
    have hz : ezw_zl K = 2 ^ 64 - 1 := by
      unfold ezw_zl
      have e : K = ((2 ^ m : Nat) : Int) - 1 := by omega
      have e2 : 2 ^ m = 2 ^ 64 * 2 ^ (m - 64) := by
        rw [← Nat.pow_add, show 64 + (m - 64) = m by omega]
      rw [e, e2]
      generalize 2 ^ (m - 64) = z
      omega
    rw [hM2]
    unfold ezw_andl
    rw [ezw_zlN (show n < 18446744073709551616 by omega), hz, Nat.and_two_pow_sub_one_eq_mod, Nat.mod_eq_of_lt (show n < 2 ^ 64 by omega), ← Int.natCast_emod, Nat.mod_eq_of_lt (show n < 2 ^ m from Nat.lt_of_lt_of_le (show n < 2 ^ 64 by omega) hq)]
theorem ezn_ushr_d {i k : Int} (i0 : 0 ≤ i) (i1 : i < 2147483648) (hk : ((Int32.ofInt k).toUInt32 &&& Int32.toUInt32 31).toNat % 32 = k.toNat) : ((Int32.ofInt i).toUInt32 >>> ((Int32.ofInt k).toUInt32 &&& Int32.toUInt32 31)).toInt32 = Int32.ofInt (i / 2 ^ k.toNat) := by
  apply ezw_eq32
  rw [ezw_zofN]
  show ((Int32.ofInt i).toUInt32 >>> ((Int32.ofInt k).toUInt32 &&& Int32.toUInt32 31)).toNat = _
  rw [UInt32.toNat_shiftRight, hk, Nat.shiftRight_eq_div_pow]
  have e : (Int32.ofInt i).toUInt32.toNat = ezw_z i := ezw_zofN i
  obtain ⟨n, rfl⟩ := Int.eq_ofNat_of_zero_le i0
  have e3 : ((n : Int) / 2 ^ k.toNat) = ((n / 2 ^ k.toNat : Nat) : Int) := by
    rw [Int.natCast_ediv, Int.natCast_pow]
    rfl
  rw [e, e3, ezw_zN (show n < 4294967296 by omega), ezw_zN]
  exact Nat.lt_of_le_of_lt (Nat.div_le_self _ _) (by omega)
section KN
variable {l : Launch} {ρ : ezq_E} {B : Nat} {xa : Nat → Option Nat} {Hb : Heap} {D : va_G} {cA : Nat → ClassId} {d : Nat}
variable {r : ezq_R} {P : Option ezq_V → (Nat → ezq_C) → Prop} {pc : Nat} {ls : List (Option ezq_V)} {st : List ezq_V} {g : Nat → ezq_C}
theorem ezn_iushr {i j k : Int} {a b0 c0 x0 y0 : Nat} (he : ezw_at r pc = some (.iushr, 1, (a, b0, c0, x0, y0))) (i0 : 0 ≤ i) (i1 : i < 2147483648) (hj : ((Int32.ofInt j).toUInt32 &&& Int32.toUInt32 31).toNat % 32 = j.toNat) (hk : i / 2 ^ j.toNat = k) (h : ezw_E l ρ B xa Hb D cA d r P (pc + 1) ls (ezw_i k :: st) g) : ezw_E l ρ B xa Hb D cA d r P pc ls (ezw_i j :: ezw_i i :: st) g := by
  subst hk
  obtain ⟨n, v0, g0, hP, h⟩ := h
  obtain ⟨-, hpc⟩ := ezw_at_ok he
  refine ⟨n + 1, v0, g0, hP, fun ls' hl => ezw_rs he fun go gh br sw ca re hgo hgh hbr hsw hca hre => ?_⟩
  show ezq_fi (ezq_o2 (fun (x y : Int32) => (x.toUInt32 >>> (y.toUInt32 &&& Int32.toUInt32 31)).toInt32) (.inl (ezw_z i)) (.inl (ezw_z j))) (fun z => go (pc + 1) ls' (.inl z :: st))
  rw [ezq_fi_eq, ezw_o2 (f := fun (x y : Int32) => (x.toUInt32 >>> (y.toUInt32 &&& Int32.toUInt32 31)).toInt32) (k := i / 2 ^ j.toNat) (ezn_ushr_d i0 i1 hj)]
  exact hgo _ _ _ (by omega) (h ls' hl)
end KN
/-! ===== how many bits ===== -/
def ezn_s1 (x : Int) : Int := x - ezw_and (x / 2 ^ (1 : Int).toNat) 1431655765
def ezn_s2 (x : Int) : Int := ezw_and (ezn_s1 x) 858993459 + ezw_and (ezn_s1 x / 2 ^ (2 : Int).toNat) 858993459
def ezn_s3 (x : Int) : Int := ezw_and (ezn_s2 x + ezn_s2 x / 2 ^ (4 : Int).toNat) 252645135
def ezn_s4 (x : Int) : Int := ezn_s3 x + ezn_s3 x / 2 ^ (8 : Int).toNat
def ezn_s5 (x : Int) : Int := ezn_s4 x + ezn_s4 x / 2 ^ (16 : Int).toNat
theorem ezn_sN : ∀ n : Nat, n < 64 → (0 ≤ ezn_s1 (n : Int) ∧ ezn_s1 (n : Int) < 1000) ∧ (0 ≤ ezn_s2 (n : Int) ∧ ezn_s2 (n : Int) < 1000) ∧ (0 ≤ ezn_s3 (n : Int) ∧ ezn_s3 (n : Int) < 1000) ∧ (0 ≤ ezn_s4 (n : Int) ∧ ezn_s4 (n : Int) < 1000) ∧ ezw_and (ezn_s5 (n : Int)) 63 = ((ezn_cnN n : Nat) : Int) := by decide +kernel
theorem ezn_sI {x : Int} (x0 : 0 ≤ x) (x1 : x < 64) : (0 ≤ ezn_s1 x ∧ ezn_s1 x < 1000) ∧ (0 ≤ ezn_s2 x ∧ ezn_s2 x < 1000) ∧ (0 ≤ ezn_s3 x ∧ ezn_s3 x < 1000) ∧ (0 ≤ ezn_s4 x ∧ ezn_s4 x < 1000) ∧ ezw_and (ezn_s5 x) 63 = ezn_cn x := by
  obtain ⟨n, rfl⟩ := Int.eq_ofNat_of_zero_le x0
  exact ezn_sN n (by omega)
section KT
variable {l : Launch} {ρ : ezq_E} {B : Nat} {xa : Nat → Option Nat} {Hb : Heap} {D : va_G} {cA : Nat → ClassId} {d : Nat} {e : Bool × Bool}
def ezt_m132nQ (e : Bool × Bool) (F : Nat → Nat → Int) (A : Nat → Int → Int) (a0 : Int) : Option ezq_V → (Nat → ezq_C) → Prop := fun v g' => ezu_g e F A = g' ∧ ∃ u : Int, (ezw_in u) ∧ (u = ezn_cn a0) ∧ some (ezw_i u) = v
theorem ezt_m132n {a0 : Int} {F : Nat → Nat → Int} {A : Nat → Int → Int} (hS : ezs_T F A) (hd : 0 ≤ d) (ha0 : ezw_in a0) (ga : 0 ≤ a0 ∧ a0 < 64) : ezw_C l ρ B xa Hb D cA 132 d [ezw_i a0] (ezu_g e F A) (ezt_m132nQ e F A a0) := by
  refine ezw_met (k := 0) rfl rfl ?_
  obtain ⟨p1, p2, p3, p4, p5⟩ := ezn_sI ga.1 ga.2
  have hc := ezn_cn_r ga.1 ga.2
  refine ezw_iload_n rfl rfl ?_
  refine ezw_iload_n rfl rfl ?_
  refine ezw_iconst (1) rfl rfl ?_
  refine ezn_iushr rfl (by omega) (by omega) (by decide) rfl ?_
  refine ezw_ldc_w (1431655765) rfl rfl ?_
  refine ezw_iand rfl rfl ?_
  refine ezw_isub (k := ezn_s1 a0) rfl rfl ?_
  refine ezw_istore_n rfl rfl ?_
  refine ezw_iload_n rfl rfl ?_
  refine ezw_ldc_w (858993459) rfl rfl ?_
  refine ezw_iand rfl rfl ?_
  refine ezw_iload_n rfl rfl ?_
  refine ezw_iconst (2) rfl rfl ?_
  refine ezn_iushr rfl (by omega) (by omega) (by decide) rfl ?_
  refine ezw_ldc_w (858993459) rfl rfl ?_
  refine ezw_iand rfl rfl ?_
  refine ezw_iadd (k := ezn_s2 a0) rfl rfl ?_
  refine ezw_istore_n rfl rfl ?_
  refine ezw_iload_n rfl rfl ?_
  refine ezw_iload_n rfl rfl ?_
  refine ezw_iconst (4) rfl rfl ?_
  refine ezn_iushr rfl (by omega) (by omega) (by decide) rfl ?_
  refine ezw_iadd (k := ezn_s2 a0 + ezn_s2 a0 / 2 ^ (4 : Int).toNat) rfl rfl ?_
  refine ezw_ldc_w (252645135) rfl rfl ?_
  refine ezw_iand rfl (k := ezn_s3 a0) rfl ?_
  refine ezw_istore_n rfl rfl ?_
  refine ezw_iload_n rfl rfl ?_
  refine ezw_iload_n rfl rfl ?_
  refine ezw_bipush (8) rfl rfl ?_
  refine ezn_iushr rfl (by omega) (by omega) (by decide) rfl ?_
  refine ezw_iadd (k := ezn_s4 a0) rfl rfl ?_
  refine ezw_istore_n rfl rfl ?_
  refine ezw_iload_n rfl rfl ?_
  refine ezw_iload_n rfl rfl ?_
  refine ezw_bipush (16) rfl rfl ?_
  refine ezn_iushr rfl (by omega) (by omega) (by decide) rfl ?_
  refine ezw_iadd (k := ezn_s5 a0) rfl rfl ?_
  refine ezw_istore_n rfl rfl ?_
  refine ezw_iload_n rfl rfl ?_
  refine ezw_bipush (63) rfl rfl ?_
  refine ezw_iand rfl (k := ezw_and (ezn_s5 a0) 63) rfl ?_
  exact ezw_ireturn rfl rfl ⟨rfl, ezw_and (ezn_s5 a0) 63, ⟨by omega, by omega⟩, p5, rfl⟩
end KT
/-! ===== how the class holds it ===== -/
/-- all of it in one number -/
def ezn_pk (w : ezn_N) : Int := 16777216 * w.ov + 1048576 * w.ti + 32768 * w.ho + 8192 * w.wi + 2048 * w.ki + 16 * w.pa + w.ha
def ezn_C (q : Nat) (w : ezn_N) (F : Nat → Nat → Int) : Prop := F q 0 = w.ov ∧ F q 1 = w.ti ∧ F q 2 = w.ho ∧ F q 3 = w.wi ∧ F q 4 = w.ki ∧ F q 5 = w.pa ∧ F q 6 = w.ha
theorem ezn_C_f {q : Nat} {w : ezn_N} {F F2 : Nat → Nat → Int} (h : ezn_C q w F) (hf : ∀ k, k < 7 → F2 q k = F q k) : ezn_C q w F2 := by
  obtain ⟨h0, h1, h2, h3, h4, h5, h6⟩ := h
  exact ⟨(hf 0 (by decide)).trans h0, (hf 1 (by decide)).trans h1, (hf 2 (by decide)).trans h2, (hf 3 (by decide)).trans h3, (hf 4 (by decide)).trans h4, (hf 5 (by decide)).trans h5, (hf 6 (by decide)).trans h6⟩
def ezn_CQ (qc : ezn_Q) (y : ezp_D) (q : Nat) (A : Nat → Int → Int) : Prop := ∀ t i a f, 0 ≤ t → t < y.kT → 0 ≤ i → i ≤ 9 → 0 ≤ a → a ≤ 2 → 0 ≤ f → f ≤ 1 → A (q + 15) (60 * t + 6 * i + 2 * a + f) = qc 0 t i a f ∧ A (q + 16) (60 * t + 6 * i + 2 * a + f) = qc 1 t i a f
def ezn_QR (qc : ezn_Q) : Prop := ∀ l t i a f, 0 ≤ qc l t i a f ∧ qc l t i a f ≤ 10
def ezn_sa (y : ezp_D) (p : Int) : Int := if 0 ≤ p ∧ p < y.kS then y.sg p else -1
theorem ezn_b01 (v j : Int) : ezt_b v j = 0 ∨ ezt_b v j = 1 := by
  unfold ezt_b
  omega
theorem ezn_b4 {x t : Int} (x0 : 0 ≤ x) (x1 : x < 16) (t0 : 0 ≤ t) (h : ezt_b x t = 1) : t < 4 := by
  obtain ⟨n, rfl⟩ := Int.eq_ofNat_of_zero_le x0
  obtain ⟨k, rfl⟩ := Int.eq_ofNat_of_zero_le t0
  rw [ezn_b] at h
  by_cases hk : k < 4
  · omega
  · exfalso
    have hq : 2 ^ 4 ≤ 2 ^ k := Nat.pow_le_pow_right (by decide) (by omega)
    rw [Nat.div_eq_of_lt (Nat.lt_of_lt_of_le (show n < 2 ^ 4 by omega) hq)] at h
    exact absurd h (by decide)
theorem ezn_la_sa {y : ezp_D} {w : ezn_N} (wb : ezn_B y w) : ezn_sa y (ezn_lo w.ov) = ezn_la y w := by
  obtain ⟨⟨x0, x1⟩, x2, -⟩ := wb
  unfold ezn_sa ezn_la
  by_cases h : w.ov = 0
  · rw [if_pos h, h, if_neg (fun z => absurd z.1 (by decide))]
  · obtain ⟨l1, l2, -⟩ := ezn_lo_r x0 x1 h
    rw [if_neg h, if_pos ⟨l1.1, x2 _ l1.1 l1.2 l2⟩]
theorem ezn_la_r {y : ezp_D} {w : ezn_N} (hB : ezp_B y) (wb : ezn_B y w) (hk : w.ki = 0) : 0 ≤ ezn_la y w ∧ ezn_la y w < y.kT := by
  obtain ⟨⟨x0, x1⟩, x2, x3, x4, x5, x6, x7, x8, x9, x10, x11, x12⟩ := wb
  obtain ⟨b1, b2, b3, b4, b5, b6, b7, b8, b9⟩ := hB
  have h := x10 hk
  obtain ⟨l1, l2, -⟩ := ezn_lo_r x0 x1 h
  unfold ezn_la
  rw [if_neg h]
  exact b3 _ l1.1 (x2 _ l1.1 l1.2 l2)
theorem ezn_aw_r (a b : Int) : 0 ≤ ezn_aw a b ∧ ezn_aw a b ≤ 2 := by
  unfold ezn_aw
  split <;> omega
theorem ezn_ps_F {y : ezp_D} {w : ezn_N} {t c : Int} (c0 : 0 ≤ c) (c1 : c < 6) (h : ¬ (ezt_b w.ov c = 1 ∧ y.sg c = t)) : ezn_ps y w t (6 - c).toNat = ezn_ps y w t (6 - (c + 1)).toNat := by
  have e : (6 - c).toNat = (6 - (c + 1)).toNat + 1 := by omega
  have e2 : (5 - ((6 - (c + 1)).toNat : Int)) = c := by omega
  rw [e]
  show (if ezt_b w.ov (5 - ((6 - (c + 1)).toNat : Int)) = 1 ∧ y.sg (5 - ((6 - (c + 1)).toNat : Int)) = t then (5 - ((6 - (c + 1)).toNat : Int)) else ezn_ps y w t (6 - (c + 1)).toNat) = _
  rw [e2, if_neg h]
theorem ezn_ps_T {y : ezp_D} {w : ezn_N} {t c : Int} (c0 : 0 ≤ c) (c1 : c < 6) (h : ezt_b w.ov c = 1 ∧ y.sg c = t) : ezn_ps y w t (6 - c).toNat = c := by
  have e : (6 - c).toNat = (6 - (c + 1)).toNat + 1 := by omega
  have e2 : (5 - ((6 - (c + 1)).toNat : Int)) = c := by omega
  rw [e]
  show (if ezt_b w.ov (5 - ((6 - (c + 1)).toNat : Int)) = 1 ∧ y.sg (5 - ((6 - (c + 1)).toNat : Int)) = t then (5 - ((6 - (c + 1)).toNat : Int)) else ezn_ps y w t (6 - (c + 1)).toNat) = _
  rw [e2, if_pos h]
theorem ezn_ps_i {y : ezp_D} {w : ezn_N} {t : Int} (n : Nat) (hn : n ≤ 6) : (ezn_ps y w t n = -1 ∧ ∀ p, 6 - (n : Int) ≤ p → p < 6 → ¬ (ezt_b w.ov p = 1 ∧ y.sg p = t)) ∨ (0 ≤ ezn_ps y w t n ∧ ezn_ps y w t n < 6 ∧ ezt_b w.ov (ezn_ps y w t n) = 1 ∧ y.sg (ezn_ps y w t n) = t) := by
  induction n with
  | zero => exact Or.inl ⟨rfl, fun p p0 p1 => by omega⟩
  | succ n ih =>
    by_cases h : ezt_b w.ov (5 - (n : Int)) = 1 ∧ y.sg (5 - (n : Int)) = t
    · have e : ezn_ps y w t (n + 1) = 5 - (n : Int) := if_pos h
      rw [e]
      exact Or.inr ⟨by omega, by omega, h.1, h.2⟩
    · have e : ezn_ps y w t (n + 1) = ezn_ps y w t n := if_neg h
      rw [e]
      rcases ih (by omega) with ⟨g1, g2⟩ | g
      · refine Or.inl ⟨g1, fun p p0 p1 => ?_⟩
        by_cases hp : p = 5 - (n : Int)
        · rw [hp]
          exact h
        · exact g2 p (by omega) p1
      · exact Or.inr g
theorem ezn_ps_r {y : ezp_D} {w : ezn_N} {t : Int} (hB : ezp_B y) (wb : ezn_B y w) (h : ezn_ps y w t 6 ≠ -1) : (0 ≤ ezn_ps y w t 6 ∧ ezn_ps y w t 6 < 6 ∧ ezt_b w.ov (ezn_ps y w t 6) = 1) ∧ y.sg (ezn_ps y w t 6) = t ∧ 0 ≤ t ∧ t < y.kT := by
  rcases ezn_ps_i (y := y) (w := w) (t := t) 6 (by decide) with ⟨g, -⟩ | ⟨g1, g2, g3, g4⟩
  · exact absurd g h
  · obtain ⟨-, x2, -⟩ := wb
    obtain ⟨b1, b2, b3, b4, b5, b6, b7, b8, b9⟩ := hB
    have h3 := b3 _ g1 (x2 _ g1 g2 g3)
    rw [g4] at h3
    exact ⟨⟨g1, g2, g3⟩, g4, h3⟩
theorem ezn_ps_of {y : ezp_D} {w : ezn_N} {t p : Int} (hB : ezp_B y) (wb : ezn_B y w) (p0 : 0 ≤ p) (p1 : p < 6) (hb : ezt_b w.ov p = 1) (hs : y.sg p = t) : ezn_ps y w t 6 = p := by
  obtain ⟨-, x2, -⟩ := wb
  obtain ⟨b1, b2, b3, b4, b5, b6, b7, b8, b9⟩ := hB
  rcases ezn_ps_i (y := y) (w := w) (t := t) 6 (by decide) with ⟨-, g⟩ | ⟨g1, g2, g3, g4⟩
  · exact absurd ⟨hb, hs⟩ (g p (by omega) p1)
  · exact b4 _ _ g1 (x2 _ g1 g2 g3) p0 (x2 _ p0 p1 hb) (g4.trans hs.symm)
