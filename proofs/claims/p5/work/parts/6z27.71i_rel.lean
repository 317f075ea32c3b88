/-! ===== the model's lines of a kind, its words cut: what is wanted ===== -/
theorem ezm_lkE {K u : Int} (h : u = 0 ∧ K = 5 ∨ u = 1 ∧ K = 6 ∨ u = 2 ∧ K = 13 ∨ u = 3 ∧ K = 14 ∨ u = 4 ∧ K = 15 ∨ u = 5 ∧ K = 16 ∨ u = 6 ∧ K = 18 ∨ u = 7 ∧ K = 19 ∨ u = 8 ∧ K = 21 ∨ u = 9 ∧ K = 22 ∨ u = -1 ∧ K ≠ 5 ∧ K ≠ 6 ∧ K ≠ 13 ∧ K ≠ 14 ∧ K ≠ 15 ∧ K ≠ 16 ∧ K ≠ 18 ∧ K ≠ 19 ∧ K ≠ 21 ∧ K ≠ 22) (h0 : 0 ≤ u) : K = ezp_lk u ∧ ezp_wds K ∧ u < 10 := by
  rcases h with ⟨h1, h2⟩ | ⟨h1, h2⟩ | ⟨h1, h2⟩ | ⟨h1, h2⟩ | ⟨h1, h2⟩ | ⟨h1, h2⟩ | ⟨h1, h2⟩ | ⟨h1, h2⟩ | ⟨h1, h2⟩ | ⟨h1, h2⟩ | ⟨h1, h2⟩
  · rw [h1, h2]; exact ⟨rfl, by unfold ezp_wds; omega, by decide⟩
  · rw [h1, h2]; exact ⟨rfl, by unfold ezp_wds; omega, by decide⟩
  · rw [h1, h2]; exact ⟨rfl, by unfold ezp_wds; omega, by decide⟩
  · rw [h1, h2]; exact ⟨rfl, by unfold ezp_wds; omega, by decide⟩
  · rw [h1, h2]; exact ⟨rfl, by unfold ezp_wds; omega, by decide⟩
  · rw [h1, h2]; exact ⟨rfl, by unfold ezp_wds; omega, by decide⟩
  · rw [h1, h2]; exact ⟨rfl, by unfold ezp_wds; omega, by decide⟩
  · rw [h1, h2]; exact ⟨rfl, by unfold ezp_wds; omega, by decide⟩
  · rw [h1, h2]; exact ⟨rfl, by unfold ezp_wds; omega, by decide⟩
  · rw [h1, h2]; exact ⟨rfl, by unfold ezp_wds; omega, by decide⟩
  · omega
/-- one word of the model, as the class's token -/
def ezm_TD (c : Int → Int) (j : Int) (r74 r75 r76 : Int → Int) : Prop := r75 j = ezp_P c j ∧ (r74 j = 1 → ezp_ok (ezp_W c j) ∧ r76 j = ezp_v 37 (ezp_W c j)) ∧ (r74 j = 0 ∧ ezp_K c j = 102 ∨ r74 j = 1 ∧ (0 ≤ ezp_ix (ezp_W c j) ∧ ezp_ix (ezp_W c j) < 44 ∧ ezp_K c j = ezp_ix (ezp_W c j) ∨ (ezp_ix (ezp_W c j) < 0 ∨ 44 ≤ ezp_ix (ezp_W c j)) ∧ ezp_K c j = 100) ∨ r74 j = 2 ∧ ezp_K c j = 101 ∧ r76 j = ezp_V c j ∨ r74 j = 3 ∧ ezp_K c j = 200 + r76 j ∧ 40 ≤ r76 j ∧ r76 j ≤ 61 ∨ r74 j = 4 ∧ ezp_K c j = 103)
theorem ezm_TD_fr {c : Int → Int} {j : Int} {r74 r75 r76 r74' r75' r76' : Int → Int} (h : ezm_TD c j r74 r75 r76) (e1 : r74' j = r74 j) (e2 : r75' j = r75 j) (e3 : r76' j = r76 j) : ezm_TD c j r74' r75' r76' := by
  unfold ezm_TD
  rw [e1, e2, e3]
  exact h
theorem ezm_TD_0 {c : Int → Int} {j k : Int} {r74 r75 r76 : Int → Int} (e1 : r74 j = 0) (e2 : r75 j = k) (eP : ezp_P c j = k) (z : c k = 0) : ezm_TD c j r74 r75 r76 := by
  refine ⟨e2.trans eP.symm, fun y => absurd y (by rw [e1]; decide), Or.inl ⟨e1, ?_⟩⟩
  unfold ezp_K
  rw [eP]
  exact ezp_kd0 z
theorem ezm_TD_w {c : Int → Int} {j k r : Int} {r74 r75 r76 : Int → Int} (eP : ezp_P c j = k) (e2 : r75 j = k) (hle : ezp_le (c k) = true) (hnx : ezp_nx c k = r) (hall : ∀ i, k ≤ i → i < r → ezp_le (c i) = true) (hr : k ≤ r) (e8 : 8 < r - k → r74 j = 4) (e1 : r - k ≤ 8 → r74 j = 1 ∧ r76 j = ezp_v 37 (ezp_lt c k (r - k).toNat)) : ezm_TD c j r74 r75 r76 := by
  have hln := ezp_lnE hnx
  have hkd := ezp_kdL hle
  have eW : ezp_W c j = ezp_lt c k (r - k).toNat := by
    unfold ezp_W ezp_L
    rw [eP, hln]
  have eK : ezp_K c j = ezp_kd c k := by
    unfold ezp_K
    rw [eP]
  have eL : ezp_L c k = ezp_lt c k (r - k).toNat := by
    unfold ezp_L
    rw [hln]
  rw [hln] at hkd
  by_cases h8 : 8 < r - k
  · have h4 := e8 h8
    refine ⟨e2.trans eP.symm, fun y => absurd y (by omega), Or.inr (Or.inr (Or.inr (Or.inr ⟨h4, ?_⟩)))⟩
    rw [eK]
    exact hkd.1 (by omega)
  · obtain ⟨g1, g2⟩ := e1 (by omega)
    have hk2 := hkd.2 (by omega)
    rw [eL] at hk2
    rw [← eK] at hk2
    refine ⟨e2.trans eP.symm, fun _ => ?_, Or.inr (Or.inl ⟨g1, ?_⟩)⟩
    · rw [eW]
      exact ⟨ezp_lt_ok _ (fun i i0 i1 => hall i i0 (by omega)), g2⟩
    · rw [eW]
      by_cases h44 : 0 ≤ ezp_ix (ezp_lt c k (r - k).toNat) ∧ ezp_ix (ezp_lt c k (r - k).toNat) < 44
      · exact Or.inl ⟨h44.1, h44.2, hk2.1 h44⟩
      · exact Or.inr ⟨by omega, hk2.2 h44⟩
theorem ezm_TD_n {c : Int → Int} {j k r : Int} {r74 r75 r76 : Int → Int} (eP : ezp_P c j = k) (e2 : r75 j = k) (hle : ezp_le (c k) = false) (hdi : ezp_di (c k) = true) (hnx : ezp_nx c k = r) (hr : k ≤ r) (e8 : 4 < r - k → r74 j = 4) (e1 : r - k ≤ 4 → r74 j = 2 ∧ r76 j = ezp_nu c k (r - k).toNat) : ezm_TD c j r74 r75 r76 := by
  have hln := ezp_lnE hnx
  have hkd := ezp_kdD hle hdi
  have eV : ezp_V c j = ezp_nu c k (r - k).toNat := by
    unfold ezp_V ezp_N
    rw [eP, hln]
  have eK : ezp_K c j = ezp_kd c k := by
    unfold ezp_K
    rw [eP]
  rw [hln] at hkd
  by_cases h8 : 4 < r - k
  · have h4 := e8 h8
    refine ⟨e2.trans eP.symm, fun y => absurd y (by omega), Or.inr (Or.inr (Or.inr (Or.inr ⟨h4, ?_⟩)))⟩
    rw [eK]
    exact hkd.1 (by omega)
  · obtain ⟨g1, g2⟩ := e1 (by omega)
    refine ⟨e2.trans eP.symm, fun y => absurd y (by omega), Or.inr (Or.inr (Or.inl ⟨g1, ?_, ?_⟩))⟩
    · rw [eK]
      exact hkd.2 (by omega)
    · rw [eV]
      exact g2
theorem ezm_TD_s {c : Int → Int} {j k : Int} {r74 r75 r76 : Int → Int} (eP : ezp_P c j = k) (e2 : r75 j = k) (hle : ezp_le (c k) = false) (hdi : ezp_di (c k) = false) (hz : c k ≠ 0) (e3 : r76 j = c k) (e1 : ezp_sg (c k) = true ∧ r74 j = 3 ∨ ezp_sg (c k) = false ∧ r74 j = 4) : ezm_TD c j r74 r75 r76 := by
  have hkd := ezp_kdS hle hdi hz
  have eK : ezp_K c j = ezp_kd c k := by
    unfold ezp_K
    rw [eP]
  rcases e1 with ⟨h1, h2⟩ | ⟨h1, h2⟩
  · refine ⟨e2.trans eP.symm, fun y => absurd y (by omega), Or.inr (Or.inr (Or.inr (Or.inl ⟨h2, ?_, ?_⟩)))⟩
    · rw [eK, e3]
      exact hkd.1 h1
    · have h3 := of_decide_eq_true h1
      omega
  · refine ⟨e2.trans eP.symm, fun y => absurd y (by omega), Or.inr (Or.inr (Or.inr (Or.inr ⟨h2, ?_⟩)))⟩
    rw [eK]
    exact hkd.2 h1
/-- a blank more -/
theorem ezp_run_bs {c : Int → Int} {n k : Int} (tp : ezp_tp c n) (h0 : 0 ≤ k) (h1 : k < n) (hb : ezp_bl (c k) = true) : ezp_run ezp_bl c 2000 k = ezp_run ezp_bl c 2000 (k + 1) := by
  obtain ⟨r, e1, e2, e3, e4, e5⟩ := ezp_run_n (p := ezp_bl) (c := c) (q := k + 1) (n := n) (by omega) (by omega) tp.2.1 (ezp_tp_bl tp)
  have hn := tp.2.1
  rw [e1]
  refine ezp_run_uq 2000 (by omega) (by omega) (fun j j0 j1 => ?_) e5
  by_cases e : j = k
  · rw [e]
    exact hb
  · exact e4 j (by omega) j1
theorem ezp_run_b0 {c : Int → Int} {k : Int} (hb : ezp_bl (c k) = false) : ezp_run ezp_bl c 2000 k = k := ezp_run_uq 2000 (Int.le_refl k) (by omega) (fun j j0 j1 => absurd j0 (by omega)) hb
def ezp_p37 (k : Int) : Int := ((37 ^ k.toNat : Nat) : Int)
theorem ezp_p37_0 : ezp_p37 0 = 1 := rfl
theorem ezp_p37_s {k : Int} (h : 0 ≤ k) : ezp_p37 (k + 1) = 37 * ezp_p37 k := by
  unfold ezp_p37
  rw [show (k + 1).toNat = k.toNat + 1 by omega, Nat.pow_succ]
  omega
theorem ezp_p37_le {k : Int} (h : k ≤ 8) : ezp_p37 k ≤ 3512479453921 := by
  unfold ezp_p37
  have h1 : (37 ^ k.toNat : Nat) ≤ 37 ^ 8 := Nat.pow_le_pow_right (by decide) (by omega)
  have h3 : (37 ^ 8 : Nat) = 3512479453921 := rfl
  omega
theorem ezp_lt_s37 {c : Int → Int} {q k : Int} (h0 : 0 ≤ k) : ezp_v 37 (ezp_lt c q (k + 1).toNat) = 37 * ezp_v 37 (ezp_lt c q k.toNat) + (c (q + k) - 96) := by
  rw [show (k + 1).toNat = k.toNat + 1 by omega]
  show 37 * ezp_v 37 (ezp_lt c q k.toNat) + (c (q + (k.toNat : Int)) - 96) = _
  rw [show (k.toNat : Int) = k by omega]
theorem ezm_chr {c r73 : Int → Int} {n k : Int} (hc : c = ezp_ch r73 n) (h0 : 0 ≤ k) (h1 : k < n) : c k = r73 k := by
  rw [hc]
  exact if_pos ⟨h0, h1⟩
