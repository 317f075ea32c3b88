/-! ===== a tree as it is read ===== -/
def ezm_RD (i13 i19 : Int) (t o a rn : Int → Int) : Prop := i19 ≤ t 100 + t 101 ∧ (∀ k, 0 ≤ k → k < t 100 → -1 ≤ t (4 * k + 120) ∧ t (4 * k + 120) < k) ∧ (∀ k, 0 ≤ k → k < t 103 → t (k + 165) < t 100) ∧ (∀ k, 115 ≤ k → k ≤ 116 → t k = -1 ∨ 0 ≤ t k ∧ ezm_code o a (t k + 1100) (i13 + 1100)) ∧ (∀ k, 0 ≤ k → k < i19 → rn k < 8 → rn k < t 100)
theorem ezm_RD_fr {i13 i19 : Int} {t t' o a rn : Int → Int} (h : ezm_RD i13 i19 t o a rn) (h6 : t 100 ≤ 8) (h7 : t 103 ≤ 6) (hf : ∀ j, j = 100 ∨ j = 101 ∨ j = 103 ∨ 115 ≤ j ∧ j ≤ 148 ∨ 165 ≤ j ∧ j ≤ 170 → t' j = t j) : ezm_RD i13 i19 t' o a rn := by
  obtain ⟨h1, h2, h3, h4, h5⟩ := h
  have e0 := hf 100 (by omega)
  have e1 := hf 101 (by omega)
  have e3 := hf 103 (by omega)
  refine ⟨by omega, fun k k0 k1 => ?_, fun k k0 k1 => ?_, fun k k0 k1 => ?_, fun k k0 k1 k2 => ?_⟩
  · rw [hf (4 * k + 120) (by omega)]
    exact h2 k k0 (by omega)
  · rw [hf (k + 165) (by omega), e0]
    exact h3 k k0 (by omega)
  · rw [hf k (by omega)]
    exact h4 k k0 k1
  · rw [e0]
    exact h5 k k0 k1 k2
theorem ezm_RD_twig {i13 i19 i19' m : Int} {t t' o a rn rn' : Int → Int} (h : ezm_RD i13 i19 t o a rn) (hm : m = t 100) (hm0 : 0 ≤ m) (hm8 : m < 8) (h7 : t 103 ≤ 6) (hi : i19' = i19 + 1) (h100 : t' 100 = m + 1) (hf : ∀ j, ¬ (4 * m + 117 ≤ j ∧ j ≤ 4 * m + 120) → j ≠ 100 → t' j = t j) (hon : -1 ≤ t' (4 * m + 120) ∧ t' (4 * m + 120) < m) (hr : rn' i19 = m) (hr2 : ∀ j, j ≠ i19 → rn' j = rn j) : ezm_RD i13 i19' t' o a rn' := by
  obtain ⟨h1, h2, h3, h4, h5⟩ := h
  have e1 := hf 101 (by omega) (by omega)
  have e3 := hf 103 (by omega) (by omega)
  refine ⟨by omega, fun k k0 k1 => ?_, fun k k0 k1 => ?_, fun k k0 k1 => ?_, fun k k0 k1 k2 => ?_⟩
  · by_cases hk : k = m
    · subst hk
      exact hon
    · rw [hf (4 * k + 120) (by omega) (by omega)]
      exact h2 k k0 (by omega)
  · rw [hf (k + 165) (by omega) (by omega), h100]
    have := h3 k k0 (by omega)
    omega
  · rw [hf k (by omega) (by omega)]
    exact h4 k k0 k1
  · by_cases hk : k = i19
    · subst hk
      omega
    · rw [hr2 k hk] at k2 ⊢
      have := h5 k k0 (by omega) k2
      omega
theorem ezm_RD_on {i13 i19 i19' m c : Int} {t o a rn rn' : Int → Int} (h : ezm_RD i13 i19 t o a rn) (hm : m = t 100) (hi : i19' = i19 + 1) (hr : rn' i19 = m) (hr2 : ∀ j, j ≠ i19 → rn' j = rn j) (hx : ezm_ex rn' i19' c) (hc : c < 8) (hne : c ≠ m) : c < m := by
  obtain ⟨k, k0, k1, k2⟩ := hx
  by_cases hk : k = i19
  · subst hk
    omega
  · rw [hr2 k hk] at k2
    have := h.2.2.2.2 k k0 (by omega) (by omega)
    omega
theorem ezm_RD_thing {i13 i19 i19' : Int} {t t' o a rn rn' : Int → Int} (h : ezm_RD i13 i19 t o a rn) (h6 : t 100 ≤ 8) (h7 : t 103 ≤ 6) (hi : i19' = i19 + 1) (h101 : t' 101 = t 101 + 1) (hf : ∀ j, ¬ (149 ≤ j ∧ j ≤ 164) → j ≠ 101 → t' j = t j) (hr : 8 ≤ rn' i19) (hr2 : ∀ j, j ≠ i19 → rn' j = rn j) : ezm_RD i13 i19' t' o a rn' := by
  obtain ⟨h1, h2, h3, h4, h5⟩ := h
  have e0 := hf 100 (by omega) (by omega)
  have e3 := hf 103 (by omega) (by omega)
  refine ⟨by omega, fun k k0 k1 => ?_, fun k k0 k1 => ?_, fun k k0 k1 => ?_, fun k k0 k1 k2 => ?_⟩
  · rw [hf (4 * k + 120) (by omega) (by omega)]
    exact h2 k k0 (by omega)
  · rw [hf (k + 165) (by omega) (by omega), e0]
    exact h3 k k0 (by omega)
  · rw [hf k (by omega) (by omega)]
    exact h4 k k0 k1
  · by_cases hk : k = i19
    · subst hk
      omega
    · rw [hr2 k hk] at k2 ⊢
      rw [e0]
      exact h5 k k0 (by omega) k2
theorem ezm_RD_str {i13 i19 m : Int} {t t' o a rn : Int → Int} (h : ezm_RD i13 i19 t o a rn) (h6 : t 100 ≤ 8) (hm : m = t 103) (hm0 : 0 ≤ m) (hm6 : m < 6) (h103 : t' 103 = m + 1) (hv : t' (m + 165) < t 100) (hf : ∀ j, j ≠ m + 165 → j ≠ 103 → t' j = t j) : ezm_RD i13 i19 t' o a rn := by
  obtain ⟨h1, h2, h3, h4, h5⟩ := h
  have e0 := hf 100 (by omega) (by omega)
  have e1 := hf 101 (by omega) (by omega)
  refine ⟨by omega, fun k k0 k1 => ?_, fun k k0 k1 => ?_, fun k k0 k1 => ?_, fun k k0 k1 k2 => ?_⟩
  · rw [hf (4 * k + 120) (by omega) (by omega)]
    exact h2 k k0 (by omega)
  · rw [e0]
    by_cases hk : k = m
    · subst hk
      exact hv
    · rw [hf (k + 165) (by omega) (by omega)]
      exact h3 k k0 (by omega)
  · rw [hf k (by omega) (by omega)]
    exact h4 k k0 k1
  · rw [e0]
    exact h5 k k0 k1 k2
theorem ezm_RD_st {i13 i19 c : Int} {t o a rn : Int → Int} (h : ezm_RD i13 i19 t o a rn) (hx : ezm_ex rn i19 c) (hc : c < 8) : c < t 100 := by
  obtain ⟨k, k0, k1, k2⟩ := hx
  have := h.2.2.2.2 k k0 k1 (by omega)
  omega
theorem ezm_RD_law {i13 i13' i19 m : Int} {t t' o a o' a' rn : Int → Int} (h : ezm_RD i13 i19 t o a rn) (h6 : t 100 ≤ 8) (h7 : t 103 ≤ 6) (h0 : 0 ≤ i13) (hm : 115 ≤ m ∧ m ≤ 116) (hk : t' m = i13) (hf : ∀ j, j ≠ m → t' j = t j) (hfr : ezm_fr o a o' a' (i13 + 1100)) (hc : ezm_code o' a' (i13 + 1100) (i13' + 1100)) (hi : i13 ≤ i13') : ezm_RD i13' i19 t' o' a' rn := by
  obtain ⟨h1, h2, h3, h4, h5⟩ := h
  have e0 := hf 100 (by omega)
  have e1 := hf 101 (by omega)
  have e3 := hf 103 (by omega)
  refine ⟨by omega, fun k k0 k1 => ?_, fun k k0 k1 => ?_, fun k k0 k1 => ?_, fun k k0 k1 k2 => ?_⟩
  · rw [hf (4 * k + 120) (by omega)]
    exact h2 k k0 (by omega)
  · rw [hf (k + 165) (by omega), e0]
    exact h3 k k0 (by omega)
  · by_cases hkm : k = m
    · subst hkm
      rw [hk]
      exact Or.inr ⟨h0, hc⟩
    · rw [hf k hkm]
      rcases h4 k k0 k1 with g | ⟨g1, g2⟩
      · exact Or.inl g
      · exact Or.inr ⟨g1, ezm_code_fr g2 hfr (by omega)⟩
  · rw [e0]
    exact h5 k k0 k1 k2
theorem ezm_k78_z (j : Int) : ezm_k78 j 0 := ⟨⟨by decide, by decide⟩, fun _ => ⟨by decide, by decide⟩, fun _ => ⟨by decide, by decide⟩, fun _ => ⟨by decide, by decide⟩, fun _ => ⟨by decide, by decide⟩, fun _ => by decide, fun _ => ⟨by decide, by decide⟩, fun _ => ⟨by decide, by decide⟩⟩
theorem ezm_k78_sh {i j v : Int} (h : i % 100 = j % 100) (hv : ezm_k78 i v) : ezm_k78 j v := by
  unfold ezm_k78 at hv ⊢
  rw [← h]
  exact hv
theorem ezm_k88_sh {i j v : Int} (h : i % 50 = j % 50) (hv : ezm_k88 i v) : ezm_k88 j v := by
  unfold ezm_k88 at hv ⊢
  rw [← h]
  exact hv
def ezm_end (r : Int → Int) : Prop := ∃ n, 0 ≤ n ∧ n ≤ 1000 ∧ r n = 0
