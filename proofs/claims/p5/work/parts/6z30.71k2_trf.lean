/-! ===== the model's tree that stands ===== -/
def ezm_TRF (z : ezp_D) (m : Int) (r78 r81 r83 : Int → Int) : Prop := ∃ i20 : Int, ezm_TRE z m i20 (fun j => r78 (j - 100)) r81 r83
section
variable {z : ezp_D} {m i20 kT kH : Int} {nT nH : Int → List Int} {r78 r81 r82 r83 r84 x78 x81 x83 : Int → Int}
theorem ezm_NM_cp (h : ezm_NM nT kT nH kH m r82 r84) (hn : ∀ j, 0 ≤ j → j < m → x81 j = r82 j ∧ x83 j = r84 j) : ezm_NM nT kT nH kH m x81 x83 := by
  obtain ⟨h0, h1, h2, h3, h4, h5, h6⟩ := h
  refine ⟨h0, fun k k0 k1 => ?_, fun i i0 i1 => ⟨(h2 i i0 i1).1, ?_⟩, fun i i0 i1 => ⟨(h3 i i0 i1).1, ?_⟩, h4, h5, h6⟩
  · rw [(hn k k0 k1).1, (hn k k0 k1).2]
    exact h1 k k0 k1
  · obtain ⟨k, k0, k1, k2⟩ := (h2 i i0 i1).2
    exact ⟨k, k0, k1, by rw [(hn k k0 k1).2]; exact k2⟩
  · obtain ⟨k, k0, k1, k2⟩ := (h3 i i0 i1).2
    exact ⟨k, k0, k1, by rw [(hn k k0 k1).2]; exact k2⟩
theorem ezm_TRE_nm (h : ezm_TRE z m i20 r78 r82 r84) (hn : ∀ j, 0 ≤ j → j < m → x81 j = r82 j ∧ x83 j = r84 j) : ezm_TRE z m i20 r78 x81 x83 := ⟨h.1, h.2.1, ezm_NM_cp h.2.2.1 hn, h.2.2.2⟩
theorem ezm_TRF_cp (h : ezm_TRE z m i20 r78 r82 r84) (hc : ∀ j, 0 ≤ j → j < 100 → x78 j = r78 (j + 100)) (hn : ∀ j, 0 ≤ j → j < m → x81 j = r82 j ∧ x83 j = r84 j) : ezm_TRF z m x78 x81 x83 :=
  ⟨i20, ezm_TRE_nm (ezm_TRE_fr h (fun j j0 j1 _ _ => by
    show x78 (j - 100) = r78 j
    rw [hc (j - 100) (by omega) (by omega), show j - 100 + 100 = j by omega])) hn⟩
theorem ezm_TRF_fr (h : ezm_TRF z m r78 r81 r83) (hf : ∀ j, 0 ≤ j → j < 100 → x78 j = r78 j) : ezm_TRF z m x78 r81 r83 := by
  obtain ⟨i, h⟩ := h
  exact ⟨i, ezm_TRE_fr h (fun j j0 j1 _ _ => hf (j - 100) (by omega) (by omega))⟩
theorem ezm_TRFi (h : ezm_TRF z m r78 r81 r83) : (r78 0 = z.kT ∧ r78 1 = z.kH ∧ r78 2 = z.kE ∧ r78 3 = z.kS) ∧
    (∀ i, 0 ≤ i → i < z.kT → r78 (4 * i + 17) = z.hi i ∧ r78 (4 * i + 18) = z.th i ∧ r78 (4 * i + 19) = z.si i ∧ r78 (4 * i + 20) = z.on i) ∧
    (∀ i, 0 ≤ i → i < z.kH → r78 (4 * i + 49) = z.wo i ∧ r78 (4 * i + 50) = z.st i ∧ r78 (4 * i + 51) = z.fr i) ∧
    (∀ a, 0 ≤ a → a < 4 → (0 ≤ r78 (4 * a + 52) ∧ r78 (4 * a + 52) < 16) ∧ ∀ b, 0 ≤ b → b < 4 → ezt_b (r78 (4 * a + 52)) b = z.ah b a) ∧
    (∀ i, 0 ≤ i → i < z.kS → r78 (i + 65) = z.sg i) ∧
    (∀ x y, (z.el x y = 1 ↔ ∃ i, 0 ≤ i ∧ i < z.kE ∧ r78 (2 * i + 71) = x ∧ r78 (2 * i + 72) = y)) ∧
    (∀ k, 0 ≤ k → k < 11 → r78 (k + 4) = z.nu k) ∧ ezm_NM z.nT z.kT z.nH z.kH m r81 r83 := by
  obtain ⟨i20, ⟨a1, a2, a3, a4⟩, -, nm, tw, th, ov, oz, sg, el, nu, -⟩ := h
  have e : ∀ a b : Int, a - 100 = b → r78 b = (fun j => r78 (j - 100)) a := fun a b h => by
    show r78 b = r78 (a - 100)
    rw [h]
  refine ⟨⟨(e 100 0 (by decide)).trans a1, (e 101 1 (by decide)).trans a2, (e 102 2 (by decide)).trans a3, (e 103 3 (by decide)).trans a4⟩, fun i i0 i1 => ?_, fun i i0 i1 => ?_, fun a g0 g1 => ?_, fun i i0 i1 => ?_, fun x y => ?_, fun k k0 k1 => ?_, nm⟩
  · obtain ⟨h1, h2, h3, h4⟩ := tw i i0 i1
    exact ⟨(e (4 * i + 117) (4 * i + 17) (by omega)).trans h1, (e (4 * i + 118) (4 * i + 18) (by omega)).trans h2, (e (4 * i + 119) (4 * i + 19) (by omega)).trans h3, (e (4 * i + 120) (4 * i + 20) (by omega)).trans h4⟩
  · obtain ⟨h1, h2, h3⟩ := th i i0 i1
    exact ⟨(e (4 * i + 149) (4 * i + 49) (by omega)).trans h1, (e (4 * i + 150) (4 * i + 50) (by omega)).trans h2, (e (4 * i + 151) (4 * i + 51) (by omega)).trans h3⟩
  · rw [e (4 * a + 152) (4 * a + 52) (by omega)]
    exact ov a g0 g1
  · exact (e (i + 165) (i + 65) (by omega)).trans (sg i i0 i1)
  · rw [el x y]
    constructor
    · rintro ⟨i, i0, i1, e1, e2⟩
      exact ⟨i, i0, i1, (e (2 * i + 171) (2 * i + 71) (by omega)).trans e1, (e (2 * i + 172) (2 * i + 72) (by omega)).trans e2⟩
    · rintro ⟨i, i0, i1, e1, e2⟩
      exact ⟨i, i0, i1, (e (2 * i + 171) (2 * i + 71) (by omega)).symm.trans e1, (e (2 * i + 172) (2 * i + 72) (by omega)).symm.trans e2⟩
  · exact (e (k + 104) (k + 4) (by omega)).trans (nu k k0 k1)
end
