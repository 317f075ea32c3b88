/-! ===== the laws, as the model keeps them ===== -/
def ezm_M1 (R : Int × (Int × (Int → Int))) (k : Int) (r79 r80 : Int → Int) (i13 : Int) : Prop := R.1 = 0 ∧ k = -1 ∨ R.1 = 1 ∧ 0 ≤ k ∧ 0 ≤ R.2.1 ∧ k + R.2.1 + 1 ≤ i13 ∧ (∀ j, 0 ≤ j → j < R.2.1 → r79 (k + j + 1100) = ezm_mo (R.2.2 j) ∧ r80 (k + j + 1100) = ezm_ma (R.2.2 j)) ∧ r79 (k + R.2.1 + 1100) = 0
def ezm_ML (L : ezv_LL) (r78 r79 r80 : Int → Int) (i13 : Int) : Prop := ezm_M1 L.1 (r78 115) r79 r80 i13 ∧ ezm_M1 L.2 (r78 116) r79 r80 i13
def ezm_MG (R : Int × (Int × (Int → Int))) (k : Int) (r79 r80 : Int → Int) : Prop := R.1 = 0 ∧ k = -1 ∨ R.1 = 1 ∧ 0 ≤ k ∧ 0 ≤ R.2.1 ∧ k + R.2.1 + 1 ≤ 1100 ∧ (∀ j, 0 ≤ j → j < R.2.1 → r79 (k + j) = ezm_mo (R.2.2 j) ∧ r80 (k + j) = ezm_ma (R.2.2 j)) ∧ r79 (k + R.2.1) = 0
def ezm_MF (L : ezv_LL) (r78 r79 r80 : Int → Int) : Prop := ezm_MG L.1 (r78 15) r79 r80 ∧ ezm_MG L.2 (r78 16) r79 r80
section
variable {R : Int × (Int × (Int → Int))} {L : ezv_LL} {k k2 i13 x13 : Int} {y : Int × (Int → Int)} {r78 r79 r80 x78 x79 x80 o79 o80 : Int → Int}
theorem ezm_M1_fr (h : ezm_M1 R k r79 r80 i13) (e : k2 = k) (fo : ezm_fr r79 r80 x79 x80 (i13 + 1100)) (hx : i13 ≤ x13) : ezm_M1 R k2 x79 x80 x13 := by
  rw [e]
  rcases h with h | ⟨h1, h2, h3, h4, h5, h6⟩
  · exact Or.inl h
  · refine Or.inr ⟨h1, h2, h3, by omega, fun j j0 j1 => ?_, ?_⟩
    · have f := fo (k + j + 1100) (by omega)
      rw [f.1, f.2]
      exact h5 j j0 j1
    · have f := fo (k + R.2.1 + 1100) (by omega)
      rw [f.1]
      exact h6
theorem ezm_M1_n (lm : ezm_LM i13 y x13 o79 o80) (fo : ezm_fr o79 o80 x79 x80 (x13 + 1100)) (eo : x79 (x13 + 1100) = 0) (h0 : 0 ≤ i13) (e : k = i13) : ezm_M1 (1, y) k x79 x80 (x13 + 1) := by
  obtain ⟨h1, h2, h3⟩ := lm
  rw [e]
  refine Or.inr ⟨rfl, h0, h2, ?_, fun j j0 j1 => ?_, ?_⟩
  · show i13 + y.1 + 1 ≤ x13 + 1
    omega
  · have j1 : j < y.1 := j1
    have f := fo (i13 + j + 1100) (by omega)
    rw [f.1, f.2]
    exact h3 j j0 j1
  · show x79 (i13 + y.1 + 1100) = 0
    rw [← h1]
    exact eo
theorem ezm_ML_78 (h : ezm_ML L r78 r79 r80 i13) (e1 : x78 115 = r78 115) (e2 : x78 116 = r78 116) : ezm_ML L x78 r79 r80 i13 := by
  unfold ezm_ML
  rw [e1, e2]
  exact h
theorem ezm_ML_0 (e1 : r78 115 = -1) (e2 : r78 116 = -1) : ezm_ML ezv_L0 r78 r79 r80 i13 := ⟨Or.inl ⟨rfl, e1⟩, Or.inl ⟨rfl, e2⟩⟩
theorem ezm_MF_cp (h : ezm_ML L r78 r79 r80 i13) (h13 : i13 ≤ 1100) (hc : ∀ j, 0 ≤ j → j < 100 → x78 j = r78 (j + 100)) (ho : ∀ j, 0 ≤ j → j < i13 → x79 j = r79 (j + 1100) ∧ x80 j = r80 (j + 1100)) : ezm_MF L x78 x79 x80 := by
  have key : ∀ (R : Int × (Int × (Int → Int))) (k : Int), ezm_M1 R k r79 r80 i13 → ezm_MG R k x79 x80 := by
    intro R k h
    rcases h with h | ⟨h1, h2, h3, h4, h5, h6⟩
    · exact Or.inl h
    · refine Or.inr ⟨h1, h2, h3, by omega, fun j j0 j1 => ?_, ?_⟩
      · have f := ho (k + j) (by omega) (by omega)
        rw [f.1, f.2]
        exact h5 j j0 j1
      · rw [(ho (k + R.2.1) (by omega) (by omega)).1]
        exact h6
  refine ⟨?_, ?_⟩
  · rw [hc 15 (by decide) (by decide)]
    exact key _ _ h.1
  · rw [hc 16 (by decide) (by decide)]
    exact key _ _ h.2
theorem ezm_MF_fr (h : ezm_MF L r78 r79 r80) (hf : ∀ j, j < 100 → x78 j = r78 j) (fo : ezm_fr r79 r80 x79 x80 1100) : ezm_MF L x78 x79 x80 := by
  have key : ∀ (R : Int × (Int × (Int → Int))) (k : Int), ezm_MG R k r79 r80 → ezm_MG R k x79 x80 := by
    intro R k h
    rcases h with h | ⟨h1, h2, h3, h4, h5, h6⟩
    · exact Or.inl h
    · refine Or.inr ⟨h1, h2, h3, by omega, fun j j0 j1 => ?_, ?_⟩
      · have f := fo (k + j) (by omega)
        rw [f.1, f.2]
        exact h5 j j0 j1
      · rw [(fo (k + R.2.1) (by omega)).1]
        exact h6
  refine ⟨?_, ?_⟩
  · rw [hf 15 (by decide)]
    exact key _ _ h.1
  · rw [hf 16 (by decide)]
    exact key _ _ h.2
end
section
variable {c : Int → Int} {t : ezp_D} {s : Int × Int} {L : ezv_LL}
theorem ezp_lnl_k (k : ezp_K c s.2 ≠ 21 ∧ ezp_K c s.2 ≠ 22) : ezp_lnl c t s L = L := by
  by_cases h : (ezp_cf c t s).1 = 0
  · exact ezp_lnl_n h k
  · exact ezp_lnl_0 h
theorem ezp_cf_d (h : ezp_wds (ezp_K c s.2)) (hd : t.di (ezp_K c s.2) = 1) : ezp_cf c t s = ezp_wr c 3 s := by
  unfold ezp_wds at h
  unfold ezp_cf
  rw [if_neg (by omega), if_neg (by omega), if_neg (by omega), if_neg (by omega), if_pos h, if_pos hd]
theorem ezp_cf_z (z : s.1 = 0) (h : ezp_K c s.2 = 0 ∧ t.kT < 8 ∨ ezp_K c s.2 = 9 ∧ t.kH < 4 ∨ ezp_K c s.2 = 20 ∧ t.kE < 8 ∨ ezp_K c s.2 = 12 ∨ ezp_wds (ezp_K c s.2) ∧ t.di (ezp_K c s.2) ≠ 1) : (ezp_cf c t s).1 = 0 := by
  unfold ezp_wds at h
  unfold ezp_cf
  by_cases h0 : ezp_K c s.2 = 0
  · rw [if_pos h0, if_neg (by omega)]
    exact z
  rw [if_neg h0]
  by_cases h9 : ezp_K c s.2 = 9
  · rw [if_pos h9, if_neg (by omega)]
    exact z
  rw [if_neg h9]
  by_cases h20 : ezp_K c s.2 = 20
  · rw [if_pos h20, if_neg (by omega)]
    exact z
  rw [if_neg h20]
  by_cases h12 : ezp_K c s.2 = 12
  · rw [if_pos h12]
    exact z
  rw [if_neg h12]
  rcases h with h | h | h | h | ⟨h, hd⟩
  · omega
  · omega
  · omega
  · omega
  · rw [if_pos h, if_neg hd]
    exact z
end
