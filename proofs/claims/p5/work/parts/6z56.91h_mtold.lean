/-! ===== what is told, reckoned by the model: pure ===== -/
def ezn_g8 (qc : ezn_Q) (y : ezp_D) (t j : Int) : Int := if j % 2 = 1 then ezn_r0 qc y t (j / 2) else 10 - ezn_r0 qc y t (j / 2)
def ezn_sq (g f : Int → Int) : Nat → Int
  | 0 => 1
  | n + 1 => ezn_sq g f n * g (f (n : Int))
theorem ezn_sq_s {g f : Int → Int} {i : Int} (i0 : 0 ≤ i) : ezn_sq g f (i + 1).toNat = ezn_sq g f i.toNat * g (f i) := by
  obtain ⟨n, rfl⟩ := Int.eq_ofNat_of_zero_le i0
  rw [show ((n : Int) + 1).toNat = n + 1 by omega, Int.toNat_natCast]
  rfl
theorem ezn_ct_0 {f : Int → Int} {j : Int} : ∀ n : Nat, 0 ≤ ezn_ct f n j := by
  intro n
  induction n with
  | zero => exact Int.le_refl 0
  | succ n ih =>
    show 0 ≤ ezn_ct f n j + (if f (n : Int) = j then 1 else 0)
    split <;> omega
theorem ezn_ct_y {f : Int → Int} {n : Nat} {j : Int} (h : f (n : Int) = j) (g : Int) : g ^ (ezn_ct f (n + 1) j).toNat = g ^ (ezn_ct f n j).toNat * g := by
  have e : ezn_ct f (n + 1) j = ezn_ct f n j + 1 := by
    show ezn_ct f n j + (if f (n : Int) = j then 1 else 0) = _
    rw [if_pos h]
  rw [e, ezn_pow_s (ezn_ct_0 n)]
theorem ezn_ct_n {f : Int → Int} {n : Nat} {j : Int} (h : f (n : Int) ≠ j) (g : Int) : g ^ (ezn_ct f (n + 1) j).toNat = g ^ (ezn_ct f n j).toNat := by
  have e : ezn_ct f (n + 1) j = ezn_ct f n j := by
    show ezn_ct f n j + (if f (n : Int) = j then 1 else 0) = _
    rw [if_neg h, Int.add_zero]
  rw [e]
def ezn_p8 (g : Int → Int) (c : Int → Int) : Int := 1 * g 0 ^ (c 0).toNat * g 1 ^ (c 1).toNat * g 2 ^ (c 2).toNat * g 3 ^ (c 3).toNat * g 4 ^ (c 4).toNat * g 5 ^ (c 5).toNat * g 6 ^ (c 6).toNat * g 7 ^ (c 7).toNat
theorem ezn_sq_p {g f : Int → Int} : ∀ n : Nat, (∀ k, 0 ≤ k → k < (n : Int) → 0 ≤ f k ∧ f k < 8) → ezn_sq g f n = ezn_p8 g (ezn_ct f n) := by
  intro n
  induction n with
  | zero =>
    intro _
    show (1 : Int) = 1 * g 0 ^ 0 * g 1 ^ 0 * g 2 ^ 0 * g 3 ^ 0 * g 4 ^ 0 * g 5 ^ 0 * g 6 ^ 0 * g 7 ^ 0
    simp only [Int.pow_zero, Int.mul_one]
  | succ n ih =>
    intro h
    have hn := h (n : Int) (by omega) (by omega)
    show ezn_sq g f n * g (f (n : Int)) = _
    rw [ih (fun k k0 k1 => h k k0 (by omega))]
    unfold ezn_p8
    rcases (show f (n : Int) = 0 ∨ f (n : Int) = 1 ∨ f (n : Int) = 2 ∨ f (n : Int) = 3 ∨ f (n : Int) = 4 ∨ f (n : Int) = 5 ∨ f (n : Int) = 6 ∨ f (n : Int) = 7 by omega) with e | e | e | e | e | e | e | e
    · rw [ezn_ct_y (j := 0) e, ezn_ct_n (j := 1) (by omega), ezn_ct_n (j := 2) (by omega), ezn_ct_n (j := 3) (by omega), ezn_ct_n (j := 4) (by omega), ezn_ct_n (j := 5) (by omega), ezn_ct_n (j := 6) (by omega), ezn_ct_n (j := 7) (by omega), e]
      ac_rfl
    · rw [ezn_ct_n (j := 0) (by omega), ezn_ct_y (j := 1) e, ezn_ct_n (j := 2) (by omega), ezn_ct_n (j := 3) (by omega), ezn_ct_n (j := 4) (by omega), ezn_ct_n (j := 5) (by omega), ezn_ct_n (j := 6) (by omega), ezn_ct_n (j := 7) (by omega), e]
      ac_rfl
    · rw [ezn_ct_n (j := 0) (by omega), ezn_ct_n (j := 1) (by omega), ezn_ct_y (j := 2) e, ezn_ct_n (j := 3) (by omega), ezn_ct_n (j := 4) (by omega), ezn_ct_n (j := 5) (by omega), ezn_ct_n (j := 6) (by omega), ezn_ct_n (j := 7) (by omega), e]
      ac_rfl
    · rw [ezn_ct_n (j := 0) (by omega), ezn_ct_n (j := 1) (by omega), ezn_ct_n (j := 2) (by omega), ezn_ct_y (j := 3) e, ezn_ct_n (j := 4) (by omega), ezn_ct_n (j := 5) (by omega), ezn_ct_n (j := 6) (by omega), ezn_ct_n (j := 7) (by omega), e]
      ac_rfl
    · rw [ezn_ct_n (j := 0) (by omega), ezn_ct_n (j := 1) (by omega), ezn_ct_n (j := 2) (by omega), ezn_ct_n (j := 3) (by omega), ezn_ct_y (j := 4) e, ezn_ct_n (j := 5) (by omega), ezn_ct_n (j := 6) (by omega), ezn_ct_n (j := 7) (by omega), e]
      ac_rfl
    · rw [ezn_ct_n (j := 0) (by omega), ezn_ct_n (j := 1) (by omega), ezn_ct_n (j := 2) (by omega), ezn_ct_n (j := 3) (by omega), ezn_ct_n (j := 4) (by omega), ezn_ct_y (j := 5) e, ezn_ct_n (j := 6) (by omega), ezn_ct_n (j := 7) (by omega), e]
      ac_rfl
    · rw [ezn_ct_n (j := 0) (by omega), ezn_ct_n (j := 1) (by omega), ezn_ct_n (j := 2) (by omega), ezn_ct_n (j := 3) (by omega), ezn_ct_n (j := 4) (by omega), ezn_ct_n (j := 5) (by omega), ezn_ct_y (j := 6) e, ezn_ct_n (j := 7) (by omega), e]
      ac_rfl
    · rw [ezn_ct_n (j := 0) (by omega), ezn_ct_n (j := 1) (by omega), ezn_ct_n (j := 2) (by omega), ezn_ct_n (j := 3) (by omega), ezn_ct_n (j := 4) (by omega), ezn_ct_n (j := 5) (by omega), ezn_ct_n (j := 6) (by omega), ezn_ct_y (j := 7) e, e]
      ac_rfl
theorem ezn_p8_c {g c c' : Int → Int} (h : ∀ j, 0 ≤ j → j < 8 → c j = c' j) : ezn_p8 g c = ezn_p8 g c' := by
  unfold ezn_p8
  rw [h 0 (by decide) (by decide), h 1 (by decide) (by decide), h 2 (by decide) (by decide), h 3 (by decide) (by decide), h 4 (by decide) (by decide), h 5 (by decide) (by decide), h 6 (by decide) (by decide), h 7 (by decide) (by decide)]
theorem ezn_pd_8 {qc : ezn_Q} {y : ezp_D} {c : Int → Int} {t : Int} : ezn_pd qc y c t = ezn_p8 (ezn_g8 qc y t) c := rfl
/-- the product along what was told -/
theorem ezn_pd_sq {qc : ezn_Q} {y : ezp_D} {c : Int → Int} {t b : Int} {r : Int → Int} (h : ezn_TD c b r) : ezn_sq (ezn_g8 qc y t) (ezn_sf b r) (r (b + 20)).toNat = ezn_pd qc y c t := by
  obtain ⟨⟨h1, h2, h3⟩, h4, h5⟩ := h
  rw [ezn_pd_8, ezn_sq_p _ (fun k k0 k1 => by
    have h9 := h4 k k0 (by omega)
    unfold ezn_sf
    omega)]
  exact ezn_p8_c (fun j j0 j1 => (h5 j j0 j1).symm)
theorem ezn_sq_r {qc : ezn_Q} {y : ezp_D} {t : Int} {f : Int → Int} (qr : ezn_QR qc) : ∀ n : Nat, 0 ≤ ezn_sq (ezn_g8 qc y t) f n ∧ ezn_sq (ezn_g8 qc y t) f n ≤ 10 ^ n := by
  intro n
  induction n with
  | zero => exact ⟨show (0 : Int) ≤ 1 by decide, show (1 : Int) ≤ 10 ^ 0 by decide⟩
  | succ n ih =>
    have hg : 0 ≤ ezn_g8 qc y t (f (n : Int)) ∧ ezn_g8 qc y t (f (n : Int)) ≤ 10 := by
      have hr : 0 ≤ ezn_r0 qc y t (f (n : Int) / 2) ∧ ezn_r0 qc y t (f (n : Int) / 2) ≤ 10 := qr _ _ _ _ _
      unfold ezn_g8
      split <;> omega
    show 0 ≤ ezn_sq (ezn_g8 qc y t) f n * ezn_g8 qc y t (f (n : Int)) ∧ ezn_sq (ezn_g8 qc y t) f n * ezn_g8 qc y t (f (n : Int)) ≤ _
    rw [Int.pow_succ]
    exact ⟨Int.mul_nonneg ih.1 hg.1, Int.mul_le_mul ih.2 hg.2 hg.1 (Int.le_trans ih.1 ih.2)⟩
theorem ezn_sq_b {qc : ezn_Q} {y : ezp_D} {t i : Int} {f : Int → Int} (qr : ezn_QR qc) (i1 : i ≤ 12) : 0 ≤ ezn_sq (ezn_g8 qc y t) f i.toNat ∧ ezn_sq (ezn_g8 qc y t) f i.toNat ≤ 1000000000000 := by
  have h := ezn_sq_r (y := y) (t := t) (f := f) qr i.toNat
  exact ⟨h.1, Int.le_trans h.2 (ezn_10 _ (by omega))⟩
