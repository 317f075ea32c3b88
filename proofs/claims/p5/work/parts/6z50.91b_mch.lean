/-! ===== the chances, as the model reckons them: pure ===== -/
theorem ezm_moF1 : ∀ k : Nat, k < 13 → 0 < k → (ezm_mo (-(k : Int)) = 1 ↔ False) ∧ (ezm_mo (-(k : Int)) = 2 ↔ k ≤ 4) ∧ (ezm_mo (-(k : Int)) = 3 ↔ k = 5) := by decide +kernel
theorem ezm_moF2 : ∀ k : Nat, k < 13 → 0 < k → (ezm_mo (-(k : Int)) = 4 ↔ k = 10) ∧ (ezm_mo (-(k : Int)) = 5 ↔ k = 11) ∧ (ezm_mo (-(k : Int)) = 6 ↔ k = 12) := by decide +kernel
theorem ezm_moF3 : ∀ k : Nat, k < 13 → 0 < k → (ezm_mo (-(k : Int)) = 7 ↔ k = 8) ∧ (ezm_mo (-(k : Int)) = 8 ↔ k = 9) ∧ (ezm_mo (-(k : Int)) = 9 ↔ k = 6) := by decide +kernel
theorem ezm_moF4 : ∀ k : Nat, k < 13 → 0 < k → (ezm_mo (-(k : Int)) = 10 ↔ k = 7) ∧ 1 ≤ ezm_mo (-(k : Int)) ∧ ezm_mo (-(k : Int)) ≤ 10 := by decide +kernel
theorem ezm_moF (k : Nat) (h : k < 13) (h0 : 0 < k) : (ezm_mo (-(k : Int)) = 1 ↔ False) ∧ (ezm_mo (-(k : Int)) = 2 ↔ k ≤ 4) ∧ (ezm_mo (-(k : Int)) = 3 ↔ k = 5) ∧ (ezm_mo (-(k : Int)) = 4 ↔ k = 10) ∧ (ezm_mo (-(k : Int)) = 5 ↔ k = 11) ∧ (ezm_mo (-(k : Int)) = 6 ↔ k = 12) ∧ (ezm_mo (-(k : Int)) = 7 ↔ k = 8) ∧ (ezm_mo (-(k : Int)) = 8 ↔ k = 9) ∧ (ezm_mo (-(k : Int)) = 9 ↔ k = 6) ∧ (ezm_mo (-(k : Int)) = 10 ↔ k = 7) ∧ 1 ≤ ezm_mo (-(k : Int)) ∧ ezm_mo (-(k : Int)) ≤ 10 := by
  obtain ⟨a1, a2, a3⟩ := ezm_moF1 k h h0
  obtain ⟨a4, a5, a6⟩ := ezm_moF2 k h h0
  obtain ⟨a7, a8, a9⟩ := ezm_moF3 k h h0
  obtain ⟨a10, a11, a12⟩ := ezm_moF4 k h h0
  exact ⟨a1, a2, a3, a4, a5, a6, a7, a8, a9, a10, a11, a12⟩
theorem ezm_moI {e : Int} (e0 : -12 ≤ e) : (ezm_mo e = 1 ↔ 0 ≤ e) ∧ (ezm_mo e = 2 ↔ -4 ≤ e ∧ e < 0) ∧ (ezm_mo e = 3 ↔ e = -5) ∧ (ezm_mo e = 4 ↔ e = -10) ∧ (ezm_mo e = 5 ↔ e = -11) ∧ (ezm_mo e = 6 ↔ e = -12) ∧ (ezm_mo e = 7 ↔ e = -8) ∧ (ezm_mo e = 8 ↔ e = -9) ∧ (ezm_mo e = 9 ↔ e = -6) ∧ (ezm_mo e = 10 ↔ e = -7) ∧ 1 ≤ ezm_mo e ∧ ezm_mo e ≤ 10 := by
  by_cases h : 0 ≤ e
  · have h1 := ezm_mo_1 h
    omega
  · obtain ⟨k, rfl⟩ : ∃ k : Nat, e = -(k : Int) := ⟨(-e).toNat, by omega⟩
    obtain ⟨g1, g2, g3, g4, g5, g6, g7, g8, g9, g10, g11⟩ := ezm_moF k (by omega) (by omega)
    exact ⟨g1.trans ⟨False.elim, fun z => absurd z h⟩, g2.trans (by omega), g3.trans (by omega), g4.trans (by omega), g5.trans (by omega), g6.trans (by omega), g7.trans (by omega), g8.trans (by omega), g9.trans (by omega), g10.trans (by omega), g11⟩
theorem ezv_P_1 {v : Int} {l : List Int} {r r' : Int → Int} (h : ezv_P l r) (e : r' (l.length : Int) = v) (f : ∀ j, j ≠ (l.length : Int) → r' j = r j) : ezv_P (v :: l) r' := ⟨e, ezv_P_fr h (fun j j0 j1 => f j (by omega))⟩
/-- a pull's chance, by the laws told -/
def ezn_qc (L : ezv_LL) (y : ezp_D) : ezn_Q := fun l t i a f => if l = 0 then ezv_run L.1 i (y.th t) a f else ezv_tear L.2 i (y.th t) a f
theorem ezn_qc_r (L : ezv_LL) (y : ezp_D) : ezn_QR (ezn_qc L y) := fun l t i a f => by
  unfold ezn_qc
  split
  · exact ezv_cl_r _
  · exact ezv_cl_r _
/-- the law l: its place, what it comes to -/
def ezn_lw (L : ezv_LL) (l : Int) : Int × (Int × (Int → Int)) := if l = 0 then L.1 else L.2
def ezn_v0 (l ti aw fo : Int) : Int := if l = 0 then ezv_run0 ti aw else ezv_tear0 ti fo
theorem ezn_qc_e {L : ezv_LL} {y : ezp_D} {l t i a f : Int} : ezn_qc L y l t i a f = ezv_cl (if (ezn_lw L l).1 = 1 then ezv_val (ezv_fc i (y.th t) a f) (ezn_lw L l).2 else ezn_v0 l i a f) := by
  unfold ezn_qc ezn_lw ezn_v0
  by_cases h : l = 0
  · rw [if_pos h, if_pos h, if_pos h]
    rfl
  · rw [if_neg h, if_neg h, if_neg h]
    rfl
theorem ezn_MG {L : ezv_LL} {l : Int} {r78 r79 r80 : Int → Int} (h : ezm_MF L r78 r79 r80) (lo : ezv_LO L) (l0 : 0 ≤ l) (l1 : l ≤ 1) : ezm_MG (ezn_lw L l) (r78 (15 + l)) r79 r80 ∧ ((ezn_lw L l).1 = 1 → ezv_L (ezn_lw L l).2) := by
  unfold ezn_lw
  by_cases hl : l = 0
  · subst hl
    exact ⟨h.1, lo.1.2⟩
  · have hl1 : l = 1 := by omega
    subst hl1
    exact ⟨h.2, lo.2.2⟩
