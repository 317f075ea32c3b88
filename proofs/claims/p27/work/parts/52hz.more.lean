/-! ===== products ===== -/
def ezm_p10 (c : Int) : Int := ((10 ^ c.toNat : Nat) : Int)
theorem ezm_p10_0 : ezm_p10 0 = 1 := rfl
theorem ezm_p10_s {c : Int} (h : 0 ≤ c) : ezm_p10 (c + 1) = 10 * ezm_p10 c := by
  unfold ezm_p10
  rw [show (c + 1).toNat = c.toNat + 1 by omega, Nat.pow_succ]
  omega
theorem ezm_p10_le {c : Int} (h : c ≤ 12) : 1 ≤ ezm_p10 c ∧ ezm_p10 c ≤ 1000000000000 := by
  unfold ezm_p10
  have h1 : (10 ^ c.toNat : Nat) ≤ 10 ^ 12 := Nat.pow_le_pow_right (by decide) (by omega)
  have h2 : 0 < (10 ^ c.toNat : Nat) := Nat.pow_pos (by decide)
  have h3 : (10 ^ 12 : Nat) = 1000000000000 := rfl
  omega
theorem ezm_mul10 {v b p : Int} (h0 : 0 ≤ v) (h1 : v ≤ p) (b0 : 0 ≤ b) (b1 : b ≤ 10) : 0 ≤ v * b ∧ v * b ≤ 10 * p := by
  refine ⟨Int.mul_nonneg h0 b0, ?_⟩
  have h2 : v * b ≤ p * b := Int.mul_le_mul_of_nonneg_right h1 b0
  have h3 : p * b ≤ p * 10 := Int.mul_le_mul_of_nonneg_left b1 (by omega)
  omega
section KM51f
variable {l : Launch} {ρ : ezq_E} {B : Nat} {xa : Nat → Option Nat} {Hb : Heap} {D : va_G} {cA : Nat → ClassId} {d : Nat}
variable {r : ezq_R} {P : Option ezq_V → (Nat → ezq_C) → Prop} {pc : Nat} {ls : List (Option ezq_V)} {st : List ezq_V} {g : Nat → ezq_C}
theorem ezm_lmulP {i j : Int} {a b c x y : Nat} (he : ezw_at r pc = some (.lmul, 1, (a, b, c, x, y))) {p : Int} (hp : 0 ≤ i * j ∧ i * j ≤ p) (hq : p ≤ 9000000000000000000) (h : ∀ u, u = i * j → 0 ≤ u ∧ u ≤ p → ezw_il u → ezw_E l ρ B xa Hb D cA d r P (pc + 1) ls (ezw_l u :: st) g) : ezw_E l ρ B xa Hb D cA d r P pc ls (ezw_l j :: ezw_l i :: st) g :=
  ezw_lmul he rfl (h _ rfl hp ⟨by omega, by omega⟩)
end KM51f
