/-! ===== the token that is read next, by the class ===== -/
def ezt_CT (c : Int → Int) (k : Int) (F : Nat → Nat → Int) : Prop := F 1 8 = ezp_P c k ∧ F 1 9 = ezp_nx c (ezp_P c k) ∧ F 1 3 = ezp_K c k ∧ (ezp_K c k = 101 → F 1 4 = ezp_V c k) ∧ (ezp_K c k = 100 → F 1 7 = ezp_v 32 (ezp_W c k) ∧ F 1 5 = ezp_ix (ezp_W c k) - 44)
theorem ezt_CT_fr {c : Int → Int} {k : Int} {F F' : Nat → Nat → Int} (h : ezt_CT c k F) (hf : ∀ j, j = 3 ∨ j = 4 ∨ j = 5 ∨ j = 7 ∨ j = 8 ∨ j = 9 → F' 1 j = F 1 j) : ezt_CT c k F' := by
  unfold ezt_CT
  rw [hf 3 (by decide), hf 4 (by decide), hf 5 (by decide), hf 7 (by decide), hf 8 (by decide), hf 9 (by decide)]
  exact h
/-- of a tape's sign -/
theorem ezp_at_n {c : Int → Int} {n q : Int} (h : ezp_tp c n) (h0 : n ≤ q) : c q = 0 := h.2.2.1 q h0
theorem ezp_at_i {c : Int → Int} {n q : Int} (h : ezp_tp c n) (h0 : 0 ≤ q) (hz : c q ≠ 0) : q < n ∧ (c q = 10 ∨ 32 ≤ c q ∧ c q ≤ 126) := by
  rcases Int.lt_or_le q n with g | g
  · exact ⟨g, h.2.2.2 q h0 g⟩
  · exact absurd (h.2.2.1 q g) hz
theorem ezp_blT {x : Int} (h : x = 10 ∨ x = 32) : ezp_bl x = true := decide_eq_true h
theorem ezp_blF {x : Int} (h : x ≠ 10 ∧ x ≠ 32) : ezp_bl x = false := decide_eq_false (by omega)
theorem ezp_leT {x : Int} (h : 97 ≤ x ∧ x ≤ 122) : ezp_le x = true := decide_eq_true h
theorem ezp_leF {x : Int} (h : x < 97 ∨ 122 < x) : ezp_le x = false := decide_eq_false (by omega)
theorem ezp_diT {x : Int} (h : 48 ≤ x ∧ x ≤ 57) : ezp_di x = true := decide_eq_true h
theorem ezp_diF {x : Int} (h : x < 48 ∨ 57 < x) : ezp_di x = false := decide_eq_false (by omega)
theorem ezp_blI {x : Int} (h : ezp_bl x = false) : x ≠ 10 ∧ x ≠ 32 := by
  have := of_decide_eq_false h
  omega
/-- the words' letters, one more -/
theorem ezp_lt_s {c : Int → Int} {q k : Int} (h0 : 0 ≤ k) : ezp_v 32 (ezp_lt c q (k + 1).toNat) = 32 * ezp_v 32 (ezp_lt c q k.toNat) + (c (q + k) - 96) := by
  rw [show (k + 1).toNat = k.toNat + 1 by omega]
  show 32 * ezp_v 32 (ezp_lt c q k.toNat) + (c (q + (k.toNat : Int)) - 96) = _
  rw [show (k.toNat : Int) = k by omega]
theorem ezp_nu_s {c : Int → Int} {q k : Int} (h0 : 0 ≤ k) : ezp_nu c q (k + 1).toNat = 10 * ezp_nu c q k.toNat + (c (q + k) - 48) := by
  rw [show (k + 1).toNat = k.toNat + 1 by omega]
  show 10 * ezp_nu c q k.toNat + (c (q + (k.toNat : Int)) - 48) = _
  rw [show (k.toNat : Int) = k by omega]
def ezp_p32 (k : Int) : Int := ((32 ^ k.toNat : Nat) : Int)
theorem ezp_p32_0 : ezp_p32 0 = 1 := rfl
theorem ezp_p32_s {k : Int} (h : 0 ≤ k) : ezp_p32 (k + 1) = 32 * ezp_p32 k := by
  unfold ezp_p32
  rw [show (k + 1).toNat = k.toNat + 1 by omega, Nat.pow_succ]
  omega
theorem ezp_p32_p (k : Int) : 1 ≤ ezp_p32 k := by
  unfold ezp_p32
  have h2 : 0 < (32 ^ k.toNat : Nat) := Nat.pow_pos (by decide)
  omega
theorem ezp_p32_le {k : Int} (h : k ≤ 8) : ezp_p32 k ≤ 1099511627776 := by
  unfold ezp_p32
  have h1 : (32 ^ k.toNat : Nat) ≤ 32 ^ 8 := Nat.pow_le_pow_right (by decide) (by omega)
  have h3 : (32 ^ 8 : Nat) = 1099511627776 := rfl
  omega
theorem ezp_nxL {c : Int → Int} {q r : Int} (hl : ezp_le (c q) = true) (h1 : q ≤ r) (h2 : r ≤ q + 2000) (h3 : ∀ j, q ≤ j → j < r → ezp_le (c j) = true) (h4 : ezp_le (c r) = false) : ezp_nx c q = r := by
  unfold ezp_nx
  rw [if_pos hl]
  exact ezp_run_uq 2000 h1 (by omega) h3 h4
theorem ezp_nxD {c : Int → Int} {q r : Int} (hl : ezp_le (c q) = false) (hd : ezp_di (c q) = true) (h1 : q ≤ r) (h2 : r ≤ q + 2000) (h3 : ∀ j, q ≤ j → j < r → ezp_di (c j) = true) (h4 : ezp_di (c r) = false) : ezp_nx c q = r := by
  unfold ezp_nx
  rw [if_neg (by rw [hl]; decide), if_pos hd]
  exact ezp_run_uq 2000 h1 (by omega) h3 h4
theorem ezp_nx0 {c : Int → Int} {q : Int} (h : c q = 0) : ezp_nx c q = q := by
  unfold ezp_nx
  rw [h]
  rfl
theorem ezp_nx1 {c : Int → Int} {q : Int} (hl : ezp_le (c q) = false) (hd : ezp_di (c q) = false) (h : c q ≠ 0) : ezp_nx c q = q + 1 := by
  unfold ezp_nx
  rw [if_neg (by rw [hl]; decide), if_neg (by rw [hd]; decide), if_neg h]
theorem ezp_lnE {c : Int → Int} {q r : Int} (h : ezp_nx c q = r) : ezp_ln c q = (r - q).toNat := by
  unfold ezp_ln
  rw [h]
/-- what the class's table is asked for -/
def ezp_pl (c : Int → Int) (q : Int) : List Int := if 8 < ezp_ln c q then [] else ezp_L c q
theorem ezp_kdL {c : Int → Int} {q : Int} (hl : ezp_le (c q) = true) : (8 < ezp_ln c q → ezp_kd c q = 103) ∧ (¬ 8 < ezp_ln c q → (0 ≤ ezp_ix (ezp_L c q) ∧ ezp_ix (ezp_L c q) < 44 → ezp_kd c q = ezp_ix (ezp_L c q)) ∧ (¬ (0 ≤ ezp_ix (ezp_L c q) ∧ ezp_ix (ezp_L c q) < 44) → ezp_kd c q = 100)) := by
  unfold ezp_kd
  rw [if_pos hl]
  refine ⟨fun h => if_pos h, fun h => ⟨fun h2 => ?_, fun h2 => ?_⟩⟩
  · rw [if_neg h, if_pos h2]
  · rw [if_neg h, if_neg h2]
theorem ezp_kdD {c : Int → Int} {q : Int} (hl : ezp_le (c q) = false) (hd : ezp_di (c q) = true) : (4 < ezp_ln c q → ezp_kd c q = 103) ∧ (¬ 4 < ezp_ln c q → ezp_kd c q = 101) := by
  unfold ezp_kd
  rw [if_neg (by rw [hl]; decide), if_pos hd]
  exact ⟨fun h => if_pos h, fun h => if_neg h⟩
theorem ezp_kd0 {c : Int → Int} {q : Int} (h : c q = 0) : ezp_kd c q = 102 := by
  unfold ezp_kd
  rw [h]
  rfl
theorem ezp_kdS {c : Int → Int} {q : Int} (hl : ezp_le (c q) = false) (hd : ezp_di (c q) = false) (h : c q ≠ 0) : (ezp_sg (c q) = true → ezp_kd c q = 200 + c q) ∧ (ezp_sg (c q) = false → ezp_kd c q = 103) := by
  unfold ezp_kd
  rw [if_neg (by rw [hl]; decide), if_neg (by rw [hd]; decide), if_neg h]
  exact ⟨fun h2 => if_pos h2, fun h2 => if_neg (by rw [h2]; decide)⟩
theorem ezp_kdL_ne {c : Int → Int} {q : Int} (hl : ezp_le (c q) = true) : ezp_kd c q ≠ 101 := by
  have h := ezp_kdL hl
  by_cases h8 : 8 < ezp_ln c q
  · have := h.1 h8
    omega
  · by_cases h44 : 0 ≤ ezp_ix (ezp_L c q) ∧ ezp_ix (ezp_L c q) < 44
    · have := (h.2 h8).1 h44
      omega
    · have := (h.2 h8).2 h44
      omega
