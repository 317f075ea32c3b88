/-! ===== a tree and its afternoons between the calls ===== -/
def ezm_TR (t o a : Int → Int) : Prop := (∀ k, 0 ≤ k → k < t 0 → -1 ≤ t (4 * k + 20) ∧ t (4 * k + 20) < k) ∧ (∀ k, 0 ≤ k → k < t 3 → t (k + 65) < t 0) ∧ (∀ k, 15 ≤ k → k ≤ 16 → t k = -1 ∨ 0 ≤ t k ∧ ezm_code o a (t k) 1100)
def ezm_SV (t s : Int → Int) (b : Int) : Prop := (s (b + 17) = 0 → 1 ≤ s b) ∧ ∀ k, 0 ≤ k → k < s b → s (k + (b + 1)) < t 0
def ezm_OK (t s mk : Int → Int) (un : Int) : Prop := ezm_SV t s 0 ∧ (∀ u, 0 ≤ u → u < un → ezm_SV t s (50 * u + 250)) ∧ ∀ m, 0 ≤ m → m < 4 → mk m ≠ 0 → ezm_SV t s (50 * m + 50)
theorem ezm_SV_of {t s : Int → Int} {b b1 b17 : Int} (e1 : b1 = b + 1) (e2 : b17 = b + 17) (h : (s b17 = 0 → 1 ≤ s b) ∧ ∀ k, 0 ≤ k → k < s b → s (k + b1) < t 0) : ezm_SV t s b := by
  subst e1 e2
  exact h
theorem ezm_SV_fr {t t' s s' : Int → Int} {b : Int} (h : ezm_SV t s b) (h6 : s b ≤ 6) (ht : t' 0 = t 0) (hf : ∀ j, b ≤ j → j ≤ b + 17 → s' j = s j) : ezm_SV t' s' b := by
  have e0 := hf b (by omega) (by omega)
  have e17 := hf (b + 17) (by omega) (by omega)
  refine ⟨fun z => ?_, fun k k0 k1 => ?_⟩
  · rw [e17] at z
    rw [e0]
    exact h.1 z
  · rw [e0] at k1
    rw [hf (k + (b + 1)) (by omega) (by omega), ht]
    exact h.2 k k0 k1
/-- a block copied -/
theorem ezm_SV_cp {t s s' : Int → Int} {b b' : Int} (h : ezm_SV t s b) (h6 : s b ≤ 6) (hf : ∀ j, 0 ≤ j → j ≤ 17 → s' (j + b') = s (j + b)) : ezm_SV t s' b' := by
  have e0 : s' b' = s b := by
    have := hf 0 (by omega) (by omega)
    rw [Int.zero_add, Int.zero_add] at this
    exact this
  have e17 : s' (b' + 17) = s (b + 17) := by
    have := hf 17 (by omega) (by omega)
    rw [Int.add_comm 17 b', Int.add_comm 17 b] at this
    exact this
  refine ⟨fun z => ?_, fun k k0 k1 => ?_⟩
  · rw [e17] at z
    rw [e0]
    exact h.1 z
  · rw [e0] at k1
    have := hf (k + 1) (by omega) (by omega)
    rw [show k + (b' + 1) = k + 1 + b' by omega, this, show k + 1 + b = k + (b + 1) by omega]
    exact h.2 k k0 k1
theorem ezm_TR_fr {t t' o a o' a' : Int → Int} (h : ezm_TR t o a) (h0 : t 0 ≤ 8) (h3 : t 3 ≤ 6) (ht : ∀ j, j < 100 → t' j = t j) (hf : ezm_fr o a o' a' 1100) : ezm_TR t' o' a' := by
  obtain ⟨h1, h2, h4⟩ := h
  have e0 := ht 0 (by omega)
  have e3 := ht 3 (by omega)
  refine ⟨fun k k0 k1 => ?_, fun k k0 k1 => ?_, fun k k0 k1 => ?_⟩
  · rw [ht (4 * k + 20) (by omega)]
    exact h1 k k0 (by omega)
  · rw [ht (k + 65) (by omega), e0]
    exact h2 k k0 (by omega)
  · rw [ht k (by omega)]
    rcases h4 k k0 k1 with g | ⟨g1, g2⟩
    · exact Or.inl g
    · exact Or.inr ⟨g1, ezm_code_fr g2 hf (Int.le_refl _)⟩
theorem ezm_TR_of {i13 i19 : Int} {t t' o a o' a' rn : Int → Int} (h : ezm_RD i13 i19 t o a rn) (h0 : t 100 ≤ 8) (h3 : t 103 ≤ 6) (hi : i13 ≤ 1100) (ht : ∀ j, 0 ≤ j → j < 100 → t' j = t (j + 100)) (ho : ∀ j, 0 ≤ j → j < i13 → o' j = o (j + 1100) ∧ a' j = a (j + 1100)) : ezm_TR t' o' a' := by
  obtain ⟨_, h1, h2, h4, _⟩ := h
  have e0 : t' 0 = t 100 := ht 0 (by omega) (by omega)
  have e3 : t' 3 = t 103 := ht 3 (by omega) (by omega)
  refine ⟨fun k k0 k1 => ?_, fun k k0 k1 => ?_, fun k k0 k1 => ?_⟩
  · rw [ht (4 * k + 20) (by omega) (by omega), show 4 * k + 20 + 100 = 4 * k + 120 by omega]
    exact h1 k k0 (by omega)
  · rw [ht (k + 65) (by omega) (by omega), e0, show k + 65 + 100 = k + 165 by omega]
    exact h2 k k0 (by omega)
  · rw [ht k (by omega) (by omega)]
    rcases h4 (k + 100) (by omega) (by omega) with g | ⟨g1, g2⟩
    · exact Or.inl g
    · exact Or.inr ⟨g1, ezm_code_sh g2 (fun j j0 j1 => ho j (by omega) (by omega)) (by omega)⟩
theorem ezm_OK_fr {t t' s mk : Int → Int} {un : Int} (h : ezm_OK t s mk un) (hs : ∀ j, j % 50 = 0 → s j ≤ 6) (ht : t' 0 = t 0) : ezm_OK t' s mk un := ⟨ezm_SV_fr h.1 (hs _ (by omega)) ht (fun _ _ _ => rfl), fun u u0 u1 => ezm_SV_fr (h.2.1 u u0 u1) (hs _ (by omega)) ht (fun _ _ _ => rfl), fun m m0 m1 m2 => ezm_SV_fr (h.2.2 m m0 m1 m2) (hs _ (by omega)) ht (fun _ _ _ => rfl)⟩
theorem ezm_OK_0 {t s s' mk : Int → Int} (h : ezm_SV t s 0) (h6 : s 0 ≤ 6) (hf : ∀ j, 0 ≤ j → j ≤ 17 → s' j = s j) (hm : ∀ j, 0 ≤ j → j < 4 → mk j = 0) : ezm_OK t s' mk 0 := ⟨ezm_SV_fr h h6 rfl (fun j j0 j1 => hf j j0 (by omega)), fun u u0 u1 => absurd u1 (by omega), fun m m0 m1 m2 => absurd (hm m m0 m1) m2⟩
theorem ezm_RD_0 {t o a rn : Int → Int} (h0 : t 100 = 0) (h1 : t 101 = 0) (h3 : t 103 = 0) (h15 : t 115 = -1) (h16 : t 116 = -1) : ezm_RD 0 0 t o a rn := by
  refine ⟨by omega, fun k k0 k1 => absurd k1 (by omega), fun k k0 k1 => absurd k1 (by omega), fun k k0 k1 => ?_, fun k k0 k1 => absurd k1 (by omega)⟩
  have h : k = 115 ∨ k = 116 := by omega
  rcases h with rfl | rfl
  · exact Or.inl h15
  · exact Or.inl h16
theorem ezm_TR_co {t o a : Int → Int} {k u : Int} (h : ezm_TR t o a) (e : u = t k) (h0 : 15 ≤ k) (h1 : k ≤ 16) (hu : u ≠ -1) : ezm_code o a u 1100 := by
  subst e
  rcases h.2.2 k h0 h1 with g | ⟨_, g⟩
  · exact absurd g hu
  · exact g
def ezm_co2 (o a : Int → Int) (p h : Int) : Prop := ∃ n : Nat, p + n < 1100 ∧ h + n ≤ 1050 ∧ ezm_run o a n p h
theorem ezm_co2_of {o a : Int → Int} {p : Int} (h : ezm_code o a p 1100) : ezm_co2 o a p 0 := by
  obtain ⟨n, h1, h2, h3⟩ := h
  exact ⟨n, h1, by omega, h3⟩
theorem ezm_co2_lt {o a : Int → Int} {p h : Int} (hc : ezm_co2 o a p h) : p < 1100 ∧ h ≤ 1050 := by
  obtain ⟨n, h1, h2, h3⟩ := hc
  omega
theorem ezm_co2_1 {o a : Int → Int} {p h : Int} (hc : ezm_co2 o a p h) (ho : o p = 1 ∨ o p = 2) : (o p = 2 → 0 ≤ a p ∧ a p ≤ 3) ∧ h ≤ 1049 ∧ ezm_co2 o a (p + 1) (h + 1) := by
  obtain ⟨n, h1, h2, h3⟩ := hc
  cases n with
  | zero =>
    have h4 : o p = 0 := h3
    omega
  | succ n =>
    rcases h3 with ⟨c, g⟩ | ⟨c, _, g⟩ | ⟨c, c2, _, g⟩
    · exact ⟨by omega, by omega, n, by omega, by omega, g⟩
    · omega
    · omega
theorem ezm_co2_3 {o a : Int → Int} {p h : Int} (hc : ezm_co2 o a p h) (ho : o p = 3) : 1 ≤ h ∧ h ≤ 1049 ∧ ezm_co2 o a (p + 1) h := by
  obtain ⟨n, h1, h2, h3⟩ := hc
  cases n with
  | zero =>
    have h4 : o p = 0 := h3
    omega
  | succ n =>
    rcases h3 with ⟨c, g⟩ | ⟨c, c2, g⟩ | ⟨c, c2, _, g⟩
    · omega
    · exact ⟨by omega, by omega, n, by omega, by omega, g⟩
    · omega
theorem ezm_co2_4 {o a : Int → Int} {p h : Int} (hc : ezm_co2 o a p h) (h0 : o p ≠ 0) (h5 : o p ≠ 1) (h6 : o p ≠ 2) (h7 : o p ≠ 3) : 2 ≤ h ∧ h ≤ 1049 ∧ ezm_co2 o a (p + 1) (h - 1) := by
  obtain ⟨n, h1, h2, h3⟩ := hc
  cases n with
  | zero =>
    have h4 : o p = 0 := h3
    omega
  | succ n =>
    rcases h3 with ⟨c, g⟩ | ⟨c, c2, g⟩ | ⟨c, c2, c3, g⟩
    · omega
    · omega
    · exact ⟨c3, by omega, n, by omega, by omega, g⟩
def ezm_exb (r : Int → Int) (b m c : Int) : Prop := ∃ k, 0 ≤ k ∧ k < m ∧ c = r (k + b)
def ezm_la (r : Int → Int) (b : Int) : Int := r (r b + b)
theorem ezm_z07 {j v : Int} (h : ezm_k88 j v) (hc : j % 50 ≤ 6) : 0 ≤ v ∧ v ≤ 7 := by
  by_cases h0 : j % 50 = 0
  · have := ezm_zs0 h h0
    omega
  · exact ezm_zs1 h (by omega)
