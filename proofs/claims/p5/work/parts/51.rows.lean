/-! ===== rows with facts ===== -/
theorem ezm_lt {at' n : Int} {r : Int → Int} (h1 : at' ≤ n) (h2 : r n = 0) (h3 : r at' ≠ 0) : at' < n := by
  by_cases e1 : at' = n
  · rw [e1] at h3
    exact absurd h2 h3
  · omega
/-- c is one of the first m numbers of r -/
def ezm_ex (r : Int → Int) (m c : Int) : Prop := ∃ k, 0 ≤ k ∧ k < m ∧ c = r k
section KM51
variable {l : Launch} {ρ : ezq_E} {B : Nat} {xa : Nat → Option Nat} {Hb : Heap} {D : va_G} {cA : Nat → ClassId} {d : Nat}
variable {r : ezq_R} {P : Option ezq_V → (Nat → ezq_C) → Prop} {pc : Nat} {ls : List (Option ezq_V)} {st : List ezq_V} {g : Nat → ezq_C}
theorem ezm_and1 {i j : Int} (h0 : 0 ≤ i) (h1 : i ≤ 2147483647) : 0 ≤ ezw_and i j ∧ ezw_and i j ≤ i := by
  unfold ezw_and
  have e1 : ezw_z i = i.toNat := by
    unfold ezw_z
    omega
  have e2 : (ezw_z i &&& ezw_z j : Nat) ≤ ezw_z i := Nat.and_le_left
  omega
theorem ezm_and2 {i j : Int} (h0 : 0 ≤ j) (h1 : j ≤ 2147483647) : 0 ≤ ezw_and i j ∧ ezw_and i j ≤ j := by
  unfold ezw_and
  have e1 : ezw_z j = j.toNat := by
    unfold ezw_z
    omega
  have e2 : (ezw_z i &&& ezw_z j : Nat) ≤ ezw_z j := Nat.and_le_right
  omega
theorem ezm_iand {i j : Int} {a b c x y : Nat} (he : ezw_at r pc = some (.iand, 1, (a, b, c, x, y))) (h : ∀ u, ezw_in u → ((0 ≤ i ∧ i ≤ 2147483647 → 0 ≤ u ∧ u ≤ i) ∧ (0 ≤ j ∧ j ≤ 2147483647 → 0 ≤ u ∧ u ≤ j)) → ezw_E l ρ B xa Hb D cA d r P (pc + 1) ls (ezw_i u :: st) g) : ezw_E l ρ B xa Hb D cA d r P pc ls (ezw_i j :: ezw_i i :: st) g := by
  by_cases h1 : 0 ≤ i ∧ i ≤ 2147483647
  · have h2 := ezm_and1 (j := j) h1.1 h1.2
    refine ezw_iand he rfl (h _ ⟨by omega, by omega⟩ ⟨fun _ => h2, fun h3 => ezm_and2 h3.1 h3.2⟩)
  · by_cases h3 : 0 ≤ j ∧ j ≤ 2147483647
    · have h2 := ezm_and2 (i := i) h3.1 h3.2
      refine ezw_iand he rfl (h _ ⟨by omega, by omega⟩ ⟨fun h4 => absurd h4 h1, fun _ => h2⟩)
    · obtain ⟨u, hu, eu⟩ := ezw_wrap (ezw_and i j)
      refine ezw_iand he rfl ?_
      rw [eu]
      exact h u hu ⟨fun h4 => absurd h4 h1, fun h4 => absurd h4 h3⟩
theorem ezm_ishl1 {j : Int} {a b c x y : Nat} (he : ezw_at r pc = some (.ishl, 1, (a, b, c, x, y))) (hj0 : 0 ≤ j) (hj1 : j < 32) (h : ∀ u, ezw_in u → ((j = 0 → u = 1) ∧ (j = 1 → u = 2) ∧ (j = 2 → u = 4) ∧ (j = 3 → u = 8) ∧ (j = 4 → u = 16)) → ezw_E l ρ B xa Hb D cA d r P (pc + 1) ls (ezw_i u :: st) g) : ezw_E l ρ B xa Hb D cA d r P pc ls (ezw_i j :: ezw_i 1 :: st) g := by
  by_cases h1 : j ≤ 4
  · have h2 : j = 0 ∨ j = 1 ∨ j = 2 ∨ j = 3 ∨ j = 4 := by omega
    rcases h2 with rfl | rfl | rfl | rfl | rfl
    · exact ezw_ishl he hj0 hj1 (k := 1) rfl (h 1 ⟨by decide, by decide⟩ ⟨by omega, by omega, by omega, by omega, by omega⟩)
    · exact ezw_ishl he hj0 hj1 (k := 2) rfl (h 2 ⟨by decide, by decide⟩ ⟨by omega, by omega, by omega, by omega, by omega⟩)
    · exact ezw_ishl he hj0 hj1 (k := 4) rfl (h 4 ⟨by decide, by decide⟩ ⟨by omega, by omega, by omega, by omega, by omega⟩)
    · exact ezw_ishl he hj0 hj1 (k := 8) rfl (h 8 ⟨by decide, by decide⟩ ⟨by omega, by omega, by omega, by omega, by omega⟩)
    · exact ezw_ishl he hj0 hj1 (k := 16) rfl (h 16 ⟨by decide, by decide⟩ ⟨by omega, by omega, by omega, by omega, by omega⟩)
  · obtain ⟨u, hu, eu⟩ := ezw_wrap (1 * 2 ^ j.toNat)
    refine ezw_ishl he hj0 hj1 rfl ?_
    rw [eu]
    exact h u hu ⟨by omega, by omega, by omega, by omega, by omega⟩
theorem ezm_tdm {i j : Int} (h0 : 0 ≤ i) (hj : 0 < j) : i.tdiv j = i / j ∧ i.tmod j = i % j := ⟨Int.tdiv_eq_ediv_of_nonneg h0, Int.tmod_eq_emod_of_nonneg h0⟩
theorem ezm_idiv {i j : Int} {a b c x y : Nat} (he : ezw_at r pc = some (.idiv, 1, (a, b, c, x, y))) (hi : ezw_in i) (hj : ezw_in j) (hp : 0 < j) (h : ∀ u, ezw_in u → (0 ≤ i → u = i / j) → ezw_E l ρ B xa Hb D cA d r P (pc + 1) ls (ezw_i u :: st) g) : ezw_E l ρ B xa Hb D cA d r P pc ls (ezw_i j :: ezw_i i :: st) g := by
  by_cases h0 : 0 ≤ i
  · have h1 : 0 ≤ i / j := Int.ediv_nonneg h0 (Int.le_of_lt hp)
    have h2 : i / j ≤ i := Int.ediv_le_self _ h0
    exact ezw_idiv he hi hj (by omega) (ezm_tdm h0 hp).1 (h _ ⟨by omega, by omega⟩ (fun _ => rfl))
  · obtain ⟨u, hu, eu⟩ := ezw_wrap (i.tdiv j)
    refine ezw_idiv he hi hj (by omega) rfl ?_
    rw [eu]
    exact h u hu (fun h3 => absurd h3 h0)
theorem ezm_irem {i j : Int} {a b c x y : Nat} (he : ezw_at r pc = some (.irem, 1, (a, b, c, x, y))) (hi : ezw_in i) (hj : ezw_in j) (hp : 0 < j) (h : ∀ u, ezw_in u → (0 ≤ i → u = i % j) → ezw_E l ρ B xa Hb D cA d r P (pc + 1) ls (ezw_i u :: st) g) : ezw_E l ρ B xa Hb D cA d r P pc ls (ezw_i j :: ezw_i i :: st) g := by
  by_cases h0 : 0 ≤ i
  · have h1 : 0 ≤ i % j := Int.emod_nonneg _ (by omega)
    have h2 : i % j < j := Int.emod_lt_of_pos _ hp
    have h3 := hj.2
    exact ezw_irem he hi hj (by omega) (ezm_tdm h0 hp).2 (h _ ⟨by omega, by omega⟩ (fun _ => rfl))
  · obtain ⟨u, hu, eu⟩ := ezw_wrap (i.tmod j)
    refine ezw_irem he hi hj (by omega) rfl ?_
    rw [eu]
    exact h u hu (fun h3 => absurd h3 h0)
end KM51
