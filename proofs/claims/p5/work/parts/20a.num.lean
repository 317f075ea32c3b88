/-! ===== by hand: a machine's number is an int of Lean, taken modulo its size ===== -/
def ezw_z (i : Int) : Nat := (i % 4294967296).toNat
def ezw_zl (i : Int) : Nat := (i % 18446744073709551616).toNat
abbrev ezw_in (i : Int) : Prop := -2147483648 ≤ i ∧ i < 2147483648
abbrev ezw_il (i : Int) : Prop := -9223372036854775808 ≤ i ∧ i < 9223372036854775808
theorem ezw_zlt (i : Int) : ezw_z i < 4294967296 := by
  unfold ezw_z
  omega
theorem ezw_znn {i : Int} (h : 0 ≤ i) (h2 : i < 4294967296) : ezw_z i = i.toNat := by
  unfold ezw_z
  omega
theorem ezw_zofN (i : Int) : (Int32.ofInt i).toBitVec.toNat = ezw_z i := by
  show (BitVec.ofInt 32 i).toNat = ezw_z i
  rw [BitVec.toNat_ofInt]
  rfl
theorem ezw_zlofN (i : Int) : (Int64.ofInt i).toBitVec.toNat = ezw_zl i := by
  show (BitVec.ofInt 64 i).toNat = ezw_zl i
  rw [BitVec.toNat_ofInt]
  rfl
theorem ezw_eq32 {x y : Int32} (h : x.toBitVec.toNat = y.toBitVec.toNat) : x = y := Int32.toBitVec_inj.mp (BitVec.eq_of_toNat_eq h)
theorem ezw_eq64 {x y : Int64} (h : x.toBitVec.toNat = y.toBitVec.toNat) : x = y := Int64.toBitVec_inj.mp (BitVec.eq_of_toNat_eq h)
theorem ezw_zof (i : Int) : Int32.ofNat (ezw_z i) = Int32.ofInt i := by
  apply ezw_eq32
  rw [ezw_zofN]
  show (BitVec.ofNat 32 (ezw_z i)).toNat = ezw_z i
  rw [BitVec.toNat_ofNat]
  exact Nat.mod_eq_of_lt (ezw_zlt i)
theorem ezw_zllt (i : Int) : ezw_zl i < 18446744073709551616 := by
  unfold ezw_zl
  omega
theorem ezw_zlof (i : Int) : Int64.ofNat (ezw_zl i) = Int64.ofInt i := by
  apply ezw_eq64
  rw [ezw_zlofN]
  show (BitVec.ofNat 64 (ezw_zl i)).toNat = ezw_zl i
  rw [BitVec.toNat_ofNat]
  exact Nat.mod_eq_of_lt (ezw_zllt i)
theorem ezw_zk (i : Int) : ezq_k (Int32.ofInt i) = .inl (ezw_z i) := by
  show Sum.inl ((Int32.ofInt i).toBitVec.toNat) = _
  rw [ezw_zofN]
theorem ezw_zkl (i : Int) : ezq_kl (Int64.ofInt i) = .inl (ezw_zl i) := by
  show Sum.inl ((Int64.ofInt i).toBitVec.toNat) = _
  rw [ezw_zlofN]
theorem ezw_toI {i : Int} (h : ezw_in i) : (Int32.ofInt i).toInt = i := Int32.toInt_ofInt_of_le h.1 h.2
theorem ezw_toL {i : Int} (h : ezw_il i) : (Int64.ofInt i).toInt = i := Int64.toInt_ofInt_of_le h.1 h.2
/-- an operation of two -/
theorem ezw_o2 {f : Int32 → Int32 → Int32} {i j k : Int} (h : f (Int32.ofInt i) (Int32.ofInt j) = Int32.ofInt k) : ezq_o2 f (.inl (ezw_z i)) (.inl (ezw_z j)) = .inl (ezw_z k) := by
  show ezq_k (f (Int32.ofNat (ezw_z i)) (Int32.ofNat (ezw_z j))) = _
  rw [ezw_zof, ezw_zof, h, ezw_zk]
theorem ezw_o1 {f : Int32 → Int32} {i k : Int} (h : f (Int32.ofInt i) = Int32.ofInt k) : ezq_o1 f (.inl (ezw_z i)) = .inl (ezw_z k) := by
  show ezq_k (f (Int32.ofNat (ezw_z i))) = _
  rw [ezw_zof, h, ezw_zk]
theorem ezw_l2 {f : Int64 → Int64 → Int64} {i j k : Int} (h : f (Int64.ofInt i) (Int64.ofInt j) = Int64.ofInt k) : ezq_l2 f (.inl (ezw_zl i)) (.inl (ezw_zl j)) = .inl (ezw_zl k) := by
  show ezq_kl (f (Int64.ofNat (ezw_zl i)) (Int64.ofNat (ezw_zl j))) = _
  rw [ezw_zlof, ezw_zlof, h, ezw_zkl]
theorem ezw_il' {f : Int32 → Int64} {i k : Int} (h : f (Int32.ofInt i) = Int64.ofInt k) : ezq_il f (.inl (ezw_z i)) = .inl (ezw_zl k) := by
  show ezq_kl (f (Int32.ofNat (ezw_z i))) = _
  rw [ezw_zof, h, ezw_zkl]
theorem ezw_li {f : Int64 → Int32} {i k : Int} (h : f (Int64.ofInt i) = Int32.ofInt k) : ezq_li f (.inl (ezw_zl i)) = .inl (ezw_z k) := by
  show ezq_k (f (Int64.ofNat (ezw_zl i))) = _
  rw [ezw_zlof, h, ezw_zk]
theorem ezw_lil {f : Int64 → Int32 → Int64} {i j k : Int} (h : f (Int64.ofInt i) (Int32.ofInt j) = Int64.ofInt k) : ezq_lil f (.inl (ezw_zl i)) (.inl (ezw_z j)) = .inl (ezw_zl k) := by
  show ezq_kl (f (Int64.ofNat (ezw_zl i)) (Int32.ofNat (ezw_z j))) = _
  rw [ezw_zlof, ezw_zof, h, ezw_zkl]
theorem ezw_lli {f : Int64 → Int64 → Int32} {i j k : Int} (h : f (Int64.ofInt i) (Int64.ofInt j) = Int32.ofInt k) : ezq_lli f (.inl (ezw_zl i)) (.inl (ezw_zl j)) = .inl (ezw_z k) := by
  show ezq_k (f (Int64.ofNat (ezw_zl i)) (Int64.ofNat (ezw_zl j))) = _
  rw [ezw_zlof, ezw_zlof, h, ezw_zk]
def ezw_and (i j : Int) : Int := ((ezw_z i &&& ezw_z j : Nat) : Int)
def ezw_or (i j : Int) : Int := ((ezw_z i ||| ezw_z j : Nat) : Int)
def ezw_xor (i j : Int) : Int := ((ezw_z i ^^^ ezw_z j : Nat) : Int)
def ezw_andl (i j : Int) : Int := ((ezw_zl i &&& ezw_zl j : Nat) : Int)
def ezw_orl (i j : Int) : Int := ((ezw_zl i ||| ezw_zl j : Nat) : Int)
theorem ezw_zN {n : Nat} (h : n < 4294967296) : ezw_z (n : Int) = n := by
  unfold ezw_z
  omega
theorem ezw_zlN {n : Nat} (h : n < 18446744073709551616) : ezw_zl (n : Int) = n := by
  unfold ezw_zl
  omega
theorem ezw_and_d (i j : Int) : Int32.ofInt i &&& Int32.ofInt j = Int32.ofInt (ezw_and i j) := by
  apply ezw_eq32
  rw [Int32.toBitVec_and, BitVec.toNat_and, ezw_zofN, ezw_zofN, ezw_zofN]
  unfold ezw_and
  rw [ezw_zN (Nat.lt_of_le_of_lt Nat.and_le_left (ezw_zlt i))]
theorem ezw_or_d (i j : Int) : Int32.ofInt i ||| Int32.ofInt j = Int32.ofInt (ezw_or i j) := by
  apply ezw_eq32
  rw [Int32.toBitVec_or, BitVec.toNat_or, ezw_zofN, ezw_zofN, ezw_zofN]
  unfold ezw_or
  rw [ezw_zN (Nat.or_lt_two_pow (n := 32) (ezw_zlt i) (ezw_zlt j))]
theorem ezw_xor_d (i j : Int) : Int32.ofInt i ^^^ Int32.ofInt j = Int32.ofInt (ezw_xor i j) := by
  apply ezw_eq32
  rw [Int32.toBitVec_xor, BitVec.toNat_xor, ezw_zofN, ezw_zofN, ezw_zofN]
  unfold ezw_xor
  rw [ezw_zN (Nat.xor_lt_two_pow (n := 32) (ezw_zlt i) (ezw_zlt j))]
theorem ezw_andl_d (i j : Int) : Int64.ofInt i &&& Int64.ofInt j = Int64.ofInt (ezw_andl i j) := by
  apply ezw_eq64
  rw [Int64.toBitVec_and, BitVec.toNat_and, ezw_zlofN, ezw_zlofN, ezw_zlofN]
  unfold ezw_andl
  rw [ezw_zlN (Nat.lt_of_le_of_lt Nat.and_le_left (ezw_zllt i))]
theorem ezw_orl_d (i j : Int) : Int64.ofInt i ||| Int64.ofInt j = Int64.ofInt (ezw_orl i j) := by
  apply ezw_eq64
  rw [Int64.toBitVec_or, BitVec.toNat_or, ezw_zlofN, ezw_zlofN, ezw_zlofN]
  unfold ezw_orl
  rw [ezw_zlN (Nat.or_lt_two_pow (n := 64) (ezw_zllt i) (ezw_zllt j))]
/-- shifts by a number that stands there: 0 to 31, 0 to 63 -/
theorem ezw_sm32 {k : Int} (h : 0 ≤ k) (h2 : k < 32) : ((Int32.ofInt k &&& 31).toBitVec.smod 32).toNat = k.toNat := by
  obtain ⟨n, rfl⟩ := Int.eq_ofNat_of_zero_le h
  have hn : n < 32 := by omega
  have : ∀ n : Nat, n < 32 → ((Int32.ofInt (n : Int) &&& 31).toBitVec.smod 32).toNat = (n : Int).toNat := by decide
  exact this n hn
theorem ezw_sm64 {k : Int} (h : 0 ≤ k) (h2 : k < 64) : (((Int32.ofInt k).toInt64 &&& 63).toBitVec.smod 64).toNat = k.toNat := by
  obtain ⟨n, rfl⟩ := Int.eq_ofNat_of_zero_le h
  have hn : n < 64 := by omega
  have : ∀ n : Nat, n < 64 → (((Int32.ofInt (n : Int)).toInt64 &&& 63).toBitVec.smod 64).toNat = (n : Int).toNat := by decide
  exact this n hn
theorem ezw_su64 {k : Int} (h : 0 ≤ k) (h2 : k < 64) : ((Int32.ofInt k).toInt64.toUInt64 &&& Int64.toUInt64 63).toNat = k.toNat := by
  obtain ⟨n, rfl⟩ := Int.eq_ofNat_of_zero_le h
  have hn : n < 64 := by omega
  have : ∀ n : Nat, n < 64 → ((Int32.ofInt (n : Int)).toInt64.toUInt64 &&& Int64.toUInt64 63).toNat = (n : Int).toNat := by decide
  exact this n hn
theorem ezw_i32shr (x n : Int32) {k : Nat} (hn : (n.toBitVec.smod 32).toNat = k) : (x >>> n).toInt = x.toInt / 2 ^ k := by
  show (x.toBitVec.sshiftRight' (n.toBitVec.smod 32)).toInt = _
  rw [BitVec.toInt_sshiftRight', hn, Int.shiftRight_eq_div_pow, Int.natCast_pow]
  rfl
theorem ezw_i64shr (x n : Int64) {k : Nat} (hn : (n.toBitVec.smod 64).toNat = k) : (x >>> n).toInt = x.toInt / 2 ^ k := by
  show (x.toBitVec.sshiftRight' (n.toBitVec.smod 64)).toInt = _
  rw [BitVec.toInt_sshiftRight', hn, Int.shiftRight_eq_div_pow, Int.natCast_pow]
  rfl
theorem ezw_shr_d {i k : Int} (hi : ezw_in i) (h : 0 ≤ k) (h2 : k < 32) : Int32.ofInt i >>> (Int32.ofInt k &&& 31) = Int32.ofInt (i / 2 ^ k.toNat) := by
  apply Int32.toInt_inj.mp
  rw [ezw_i32shr _ _ (ezw_sm32 h h2), ezw_toI hi, ezw_toI]
  have hp : (1 : Int) ≤ 2 ^ k.toNat := by
    have := Nat.one_le_two_pow (n := k.toNat)
    exact_mod_cast this
  have h3 := hi.1
  have h4 := hi.2
  constructor
  · exact Int.le_ediv_of_mul_le (by omega) (by
      have : (-2147483648 : Int) * 2 ^ k.toNat ≤ -2147483648 * 1 := Int.mul_le_mul_of_nonpos_left (by decide) hp
      omega)
  · refine Int.ediv_lt_of_lt_mul (by omega) ?_
    have : (2147483648 : Int) * 1 ≤ 2147483648 * 2 ^ k.toNat := Int.mul_le_mul_of_nonneg_left hp (by decide)
    omega
theorem ezw_shrl_d {i k : Int} (hi : ezw_il i) (h : 0 ≤ k) (h2 : k < 64) : Int64.ofInt i >>> ((Int32.ofInt k).toInt64 &&& 63) = Int64.ofInt (i / 2 ^ k.toNat) := by
  apply Int64.toInt_inj.mp
  rw [ezw_i64shr _ _ (ezw_sm64 h h2), ezw_toL hi, ezw_toL]
  have hp : (1 : Int) ≤ 2 ^ k.toNat := by
    have := Nat.one_le_two_pow (n := k.toNat)
    exact_mod_cast this
  have h3 := hi.1
  have h4 := hi.2
  constructor
  · exact Int.le_ediv_of_mul_le (by omega) (by
      have : (-9223372036854775808 : Int) * 2 ^ k.toNat ≤ -9223372036854775808 * 1 := Int.mul_le_mul_of_nonpos_left (by decide) hp
      omega)
  · refine Int.ediv_lt_of_lt_mul (by omega) ?_
    have : (9223372036854775808 : Int) * 1 ≤ 9223372036854775808 * 2 ^ k.toNat := Int.mul_le_mul_of_nonneg_left hp (by decide)
    omega
theorem ezw_ushrl_d {i k : Int} (h : 0 ≤ k) (h2 : k < 64) : ((Int64.ofInt i).toUInt64 >>> ((Int32.ofInt k).toInt64.toUInt64 &&& Int64.toUInt64 63)).toInt64 = Int64.ofInt ((ezw_zl i : Int) / 2 ^ k.toNat) := by
  apply ezw_eq64
  rw [ezw_zlofN]
  show ((Int64.ofInt i).toUInt64 >>> ((Int32.ofInt k).toInt64.toUInt64 &&& Int64.toUInt64 63)).toNat = _
  rw [UInt64.toNat_shiftRight, ezw_su64 h h2, Nat.shiftRight_eq_div_pow]
  have e : (Int64.ofInt i).toUInt64.toNat = ezw_zl i := ezw_zlofN i
  have e2 : k.toNat % 64 = k.toNat := by omega
  have e3 : ((ezw_zl i : Int) / 2 ^ k.toNat) = ((ezw_zl i / 2 ^ k.toNat : Nat) : Int) := by
    rw [Int.natCast_ediv, Int.natCast_pow]
    rfl
  rw [e, e2, e3, ezw_zlN]
  exact Nat.lt_of_le_of_lt (Nat.div_le_self _ _) (ezw_zllt i)
theorem ezw_shl_d {i k : Int} (h : 0 ≤ k) (h2 : k < 32) : Int32.ofInt i <<< (Int32.ofInt k &&& 31) = Int32.ofInt (i * 2 ^ k.toNat) := by
  apply Int32.toInt_inj.mp
  rw [Int32.toInt_ofInt]
  show ((Int32.ofInt i).toBitVec <<< ((Int32.ofInt k &&& 31).toBitVec.smod 32)).toInt = _
  rw [BitVec.shiftLeft_eq', ezw_sm32 h h2, BitVec.toInt_shiftLeft, ezw_zofN, Nat.shiftLeft_eq]
  show (((ezw_z i * 2 ^ k.toNat : Nat)) : Int).bmod (2 ^ 32) = (i * 2 ^ k.toNat).bmod (2 ^ 32)
  rw [Int.natCast_mul, Int.natCast_pow]
  have e : ((ezw_z i : Nat) : Int) = i % (4294967296 : Nat) := by
    unfold ezw_z
    omega
  rw [e]
  exact Int.emod_mul_bmod i 4294967296
theorem ezw_shll_d {i k : Int} (h : 0 ≤ k) (h2 : k < 64) : Int64.ofInt i <<< ((Int32.ofInt k).toInt64 &&& 63) = Int64.ofInt (i * 2 ^ k.toNat) := by
  apply Int64.toInt_inj.mp
  rw [Int64.toInt_ofInt]
  show ((Int64.ofInt i).toBitVec <<< (((Int32.ofInt k).toInt64 &&& 63).toBitVec.smod 64)).toInt = _
  rw [BitVec.shiftLeft_eq', ezw_sm64 h h2, BitVec.toInt_shiftLeft, ezw_zlofN, Nat.shiftLeft_eq]
  show (((ezw_zl i * 2 ^ k.toNat : Nat)) : Int).bmod (2 ^ 64) = (i * 2 ^ k.toNat).bmod (2 ^ 64)
  rw [Int.natCast_mul, Int.natCast_pow]
  have e : ((ezw_zl i : Nat) : Int) = i % (18446744073709551616 : Nat) := by
    unfold ezw_zl
    omega
  rw [e]
  exact Int.emod_mul_bmod i 18446744073709551616
theorem ezw_div_d {i j : Int} (hi : ezw_in i) (hj : ezw_in j) : Int32.ofInt i / Int32.ofInt j = Int32.ofInt (i.tdiv j) := by
  have h1 := hi.1
  have h2 := hi.2
  have h3 := hj.1
  have h4 := hj.2
  exact (Int32.ofInt_tdiv (by show -2147483648 ≤ i; omega) (by show i ≤ 2147483647; omega) (by show -2147483648 ≤ j; omega) (by show j ≤ 2147483647; omega)).symm
theorem ezw_divl_d {i j : Int} (hi : ezw_il i) (hj : ezw_il j) : Int64.ofInt i / Int64.ofInt j = Int64.ofInt (i.tdiv j) := by
  have h1 := hi.1
  have h2 := hi.2
  have h3 := hj.1
  have h4 := hj.2
  exact (Int64.ofInt_tdiv (by show -9223372036854775808 ≤ i; omega) (by show i ≤ 9223372036854775807; omega) (by show -9223372036854775808 ≤ j; omega) (by show j ≤ 9223372036854775807; omega)).symm
theorem ezw_rem_d {i j : Int} (hi : ezw_in i) (hj : ezw_in j) : Int32.ofInt i - Int32.ofInt i / Int32.ofInt j * Int32.ofInt j = Int32.ofInt (i.tmod j) := by
  rw [ezw_div_d hi hj, ← Int32.ofInt_mul, ← Int32.ofInt_sub, Int.tmod_def, Int.mul_comm]
theorem ezw_reml_d {i j : Int} (hi : ezw_il i) (hj : ezw_il j) : Int64.ofInt i - Int64.ofInt i / Int64.ofInt j * Int64.ofInt j = Int64.ofInt (i.tmod j) := by
  rw [ezw_divl_d hi hj, ← Int64.ofInt_mul, ← Int64.ofInt_sub, Int.tmod_def, Int.mul_comm]
theorem ezw_i2l_d {i : Int} (hi : ezw_in i) : (Int32.ofInt i).toInt64 = Int64.ofInt i := by
  have h1 := hi.1
  have h2 := hi.2
  exact Int32.toInt64_ofInt (by show -2147483648 ≤ i; omega) (by show i ≤ 2147483647; omega)
theorem ezw_lcmp_d {i j : Int} (hi : ezw_il i) (hj : ezw_il j) : lg_cmp (Int64.ofInt i) (Int64.ofInt j) = Int32.ofInt (if i < j then -1 else if i = j then 0 else 1) := by
  unfold lg_cmp
  simp only [gt_iff_lt, Int64.lt_iff_toInt_lt, ← Int64.toInt_inj, ezw_toL hi, ezw_toL hj]
  by_cases h1 : i < j
  · rw [if_neg (by omega), if_neg (by omega), if_pos h1]
    rfl
  · by_cases h2 : i = j
    · rw [if_neg (by omega), if_pos h2, if_neg h1, if_pos h2]
      rfl
    · rw [if_pos (by omega), if_neg h1, if_neg h2]
      rfl
theorem ezw_max_d {i j : Int} (hi : ezw_in i) (hj : ezw_in j) : (if Int32.ofInt i < Int32.ofInt j then Int32.ofInt j else Int32.ofInt i) = Int32.ofInt (if i < j then j else i) := by
  simp only [Int32.lt_iff_toInt_lt, ezw_toI hi, ezw_toI hj]
  split <;> rfl
theorem ezw_min_d {i j : Int} (hi : ezw_in i) (hj : ezw_in j) : (if Int32.ofInt j < Int32.ofInt i then Int32.ofInt j else Int32.ofInt i) = Int32.ofInt (if j < i then j else i) := by
  simp only [Int32.lt_iff_toInt_lt, ezw_toI hi, ezw_toI hj]
  split <;> rfl
theorem ezw_abs_d {i : Int} (hi : ezw_in i) : (if 0 ≤ Int32.ofInt i then Int32.ofInt i else 0 - Int32.ofInt i) = Int32.ofInt (if 0 ≤ i then i else 0 - i) := by
  have h0 : (0 : Int32).toInt = 0 := rfl
  simp only [Int32.le_iff_toInt_le, ezw_toI hi, h0]
  split
  · rfl
  · rw [Int32.ofInt_sub]
    rfl
/-! compares -/
theorem ezw_onz {i : Int} (h : ezw_in i) : ezq_on (ezw_z i) = (i + 2147483648).toNat := by
  have h1 := h.1
  have h2 := h.2
  unfold ezq_on ezw_z
  omega
def ezw_rb (c : ClassFile.Cond) (i j : Int) : Prop := match c with
  | .eq => i = j
  | .ne => ¬ i = j
  | .lt => i < j
  | .ge => j ≤ i
  | .gt => j < i
  | .le => i ≤ j
theorem ezw_rb_d {c : ClassFile.Cond} {i j : Int} (hi : ezw_in i) (hj : ezw_in j) : (ezq_rb c (ezq_on (ezw_z i)) (ezq_on (ezw_z j)) = true → ezw_rb c i j) ∧ (ezq_rb c (ezq_on (ezw_z i)) (ezq_on (ezw_z j)) = false → ¬ ezw_rb c i j) := by
  rw [ezw_onz hi, ezw_onz hj]
  have h1 := hi.1
  have h2 := hi.2
  have h3 := hj.1
  have h4 := hj.2
  cases c
  · refine ⟨fun h => ?_, fun h => ?_⟩
    · have := Nat.eq_of_beq_eq_true h
      show i = j
      omega
    · intro (e : i = j)
      subst e
      rw [show ezq_rb .eq (i + 2147483648).toNat (i + 2147483648).toNat = true from Nat.beq_refl _] at h
      cases h
  · refine ⟨fun h => ?_, fun h => ?_⟩
    · intro (e : i = j)
      subst e
      have h : (!(Nat.beq (i + 2147483648).toNat (i + 2147483648).toNat)) = true := h
      rw [Nat.beq_refl] at h
      cases h
    · have h : (!(Nat.beq (i + 2147483648).toNat (j + 2147483648).toNat)) = false := h
      rw [Bool.not_eq_false'] at h
      have := Nat.eq_of_beq_eq_true h
      show ¬ ¬ i = j
      omega
  · refine ⟨fun h => ?_, fun h => ?_⟩
    · have := ezq_bltT h
      show i < j
      omega
    · have := ezq_bltF h
      show ¬ i < j
      omega
  · refine ⟨fun h => ?_, fun h => ?_⟩
    · have := Nat.le_of_ble_eq_true h
      show j ≤ i
      omega
    · have := ezq_bleF h
      show ¬ j ≤ i
      omega
  · refine ⟨fun h => ?_, fun h => ?_⟩
    · have := ezq_bltT h
      show j < i
      omega
    · have := ezq_bltF h
      show ¬ j < i
      omega
  · refine ⟨fun h => ?_, fun h => ?_⟩
    · have := Nat.le_of_ble_eq_true h
      show i ≤ j
      omega
    · have := ezq_bleF h
      show ¬ i ≤ j
      omega
/-! cells: a tree out of a function -/
def ezw_T (n : Nat) (g : Nat → ezq_C) : Nat → ezq_T n := Nat.rec (motive := fun n => Nat → ezq_T n) (fun o => g o) (fun n ih o => (ih o, ih (o + 2 ^ n))) n
def ezw_u (g : Nat → ezq_C) (a : Nat) (c : ezq_C) : Nat → ezq_C := fun j => if j = a then c else g j
theorem ezw_Tg (n : Nat) (g : Nat → ezq_C) : ∀ (o i : Nat), i < 2 ^ n → ezq_tg n (ezw_T n g o) i = g (o + i) := by
  induction n with
  | zero =>
    intro o i hi
    rw [Nat.pow_zero] at hi
    obtain rfl : i = 0 := by omega
    rfl
  | succ n ih =>
    intro o i hi
    have hp : 2 ^ (n + 1) = 2 ^ n + 2 ^ n := by rw [Nat.pow_succ]; omega
    show (bif Nat.ble (2 ^ n) i then ezq_tg n (ezw_T n g (o + 2 ^ n)) (i - 2 ^ n) else ezq_tg n (ezw_T n g o) i) = g (o + i)
    cases hb : Nat.ble (2 ^ n) i
    · exact ih o i (ezq_bleF hb)
    · have := Nat.le_of_ble_eq_true hb
      have e := ih (o + 2 ^ n) (i - 2 ^ n) (by omega)
      rw [show o + 2 ^ n + (i - 2 ^ n) = o + i by omega] at e
      exact e
theorem ezw_Text (n : Nat) : ∀ t t' : ezq_T n, (∀ i, i < 2 ^ n → ezq_tg n t i = ezq_tg n t' i) → t = t' := by
  induction n with
  | zero =>
    intro t t' h
    exact h 0 (by decide)
  | succ n ih =>
    intro t t' h
    have hp : 2 ^ (n + 1) = 2 ^ n + 2 ^ n := by rw [Nat.pow_succ]; omega
    obtain ⟨a, b⟩ := t
    obtain ⟨a', b'⟩ := t'
    have e1 : a = a' := ih a a' fun i hi => by
      have := h i (by omega)
      have hb : Nat.ble (2 ^ n) i = false := by
        cases hb : Nat.ble (2 ^ n) i
        · rfl
        · have := Nat.le_of_ble_eq_true hb
          omega
      have this : (bif Nat.ble (2 ^ n) i then ezq_tg n b (i - 2 ^ n) else ezq_tg n a i) = (bif Nat.ble (2 ^ n) i then ezq_tg n b' (i - 2 ^ n) else ezq_tg n a' i) := this
      rw [hb] at this
      exact this
    have e2 : b = b' := ih b b' fun i hi => by
      have := h (2 ^ n + i) (by omega)
      have this : (bif Nat.ble (2 ^ n) (2 ^ n + i) then ezq_tg n b (2 ^ n + i - 2 ^ n) else ezq_tg n a (2 ^ n + i)) = (bif Nat.ble (2 ^ n) (2 ^ n + i) then ezq_tg n b' (2 ^ n + i - 2 ^ n) else ezq_tg n a' (2 ^ n + i)) := this
      rw [Nat.ble_eq_true_of_le (by omega), Nat.add_sub_cancel_left] at this
      exact this
    rw [e1, e2]
theorem ezw_Ts {g : Nat → ezq_C} {a : Nat} {c : ezq_C} (h : a < 128) : ezq_tset 7 (ezw_T 7 g 0) a c = ezw_T 7 (ezw_u g a c) 0 := by
  apply ezw_Text
  intro i hi
  rw [ezq_tg_set 7 _ a i c h hi, ezw_Tg 7 _ 0 i hi, ezw_Tg 7 _ 0 i hi, Nat.zero_add]
  rfl
theorem ezw_ug {g : Nat → ezq_C} {a : Nat} {c : ezq_C} : ezw_u g a c a = c := if_pos rfl
theorem ezw_un {g : Nat → ezq_C} {a b : Nat} {c : ezq_C} (h : b ≠ a) : ezw_u g a c b = g b := if_neg h
