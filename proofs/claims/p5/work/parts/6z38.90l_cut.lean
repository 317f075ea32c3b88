/-! ===== walking round, and cutting: pure ===== -/
theorem ezn_cn_0 {x : Int} (x0 : 0 ≤ x) (x1 : x < 64) : x = 0 ↔ ezn_cn x = 0 := by
  obtain ⟨n, rfl⟩ := Int.eq_ofNat_of_zero_le x0
  have ec : ezn_cn (n : Int) = ((ezn_cnN n : Nat) : Int) := by
    unfold ezn_cn
    rw [Int.toNat_natCast]
  rw [ec]
  constructor
  · intro h
    have hn : n = 0 := by omega
    subst hn
    rfl
  · intro h
    by_cases hn : n = 0
    · omega
    · have h5 := (ezn_f5 n (by omega) hn).1
      omega
