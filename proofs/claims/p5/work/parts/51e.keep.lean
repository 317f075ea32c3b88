/-! ===== blocks of states kept ===== -/
theorem ezm_SV_fr2 {t s s' : Int → Int} {b : Int} (h : ezm_SV t s b) (h6 : s b ≤ 6) (hf : ∀ j, (b ≤ j ∧ j ≤ b + 6) ∨ j = b + 17 → s' j = s j) : ezm_SV t s' b := by
  have e0 := hf b (by omega)
  have e17 := hf (b + 17) (by omega)
  refine ⟨fun z => ?_, fun k k0 k1 => ?_⟩
  · rw [e17] at z
    rw [e0]
    exact h.1 z
  · rw [e0] at k1
    rw [hf (k + (b + 1)) (by omega)]
    exact h.2 k k0 k1
theorem ezm_SV_cp2 {t s s' : Int → Int} {a b b' bb m : Int} (h : ezm_SV t s b) (h6 : s b ≤ 6) (hm : 18 ≤ m) (ea : a = b) (eb : bb = b') (cp : ∀ k, 0 ≤ k → k < m → s' (b' + k) = s (a + k)) : ezm_SV t s' bb := by
  subst ea eb
  refine ezm_SV_cp h h6 (fun j j0 j1 => ?_)
  rw [Int.add_comm j bb, Int.add_comm j a]
  exact cp j j0 (by omega)
theorem ezm_OK_lo {t s s' mk : Int → Int} {un : Int} (h : ezm_OK t s mk un) (hu : un ≤ 16) (h6 : ∀ j, j % 50 = 0 → s j ≤ 6) (fb : ∀ j, j < 1050 → s' j = s j) : ezm_OK t s' mk un :=
  ⟨ezm_SV_fr h.1 (h6 _ (by omega)) rfl (fun j _ _ => fb j (by omega)), fun u u0 u1 => ezm_SV_fr (h.2.1 u u0 u1) (h6 _ (by omega)) rfl (fun j _ _ => fb j (by omega)), fun m m0 m1 m2 => ezm_SV_fr (h.2.2 m m0 m1 m2) (h6 _ (by omega)) rfl (fun j _ _ => fb j (by omega))⟩
