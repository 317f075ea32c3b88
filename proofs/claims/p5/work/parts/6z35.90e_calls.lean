/-! ===== calls: pure ===== -/
/-- what lies in the hand is worth -/
def ezn_hw (y : ezp_D) (ha : Int) : Int := ezp_sm (fun t => if ezt_b ha t = 1 then y.wo t else 0) y.kH.toNat
def ezn_wr (y : ezp_D) (w : ezn_N) : Int := if w.ki = 1 ∧ 0 < w.pa then ezn_hw y w.ha + y.nu 0 else ezn_hw y w.ha
theorem ezn_hw_r {y : ezp_D} (hB : ezp_B y) (ha : Int) : ∀ n : Nat, (n : Int) ≤ y.kH → 0 ≤ ezp_sm (fun t => if ezt_b ha t = 1 then y.wo t else 0) n ∧ ezp_sm (fun t => if ezt_b ha t = 1 then y.wo t else 0) n ≤ 999 * n := by
  intro n
  induction n with
  | zero => intro _; exact ⟨Int.le_refl 0, Int.le_refl 0⟩
  | succ n ih =>
    intro hn
    have h := ih (by omega)
    have hb := (hB.2.1 (n : Int) (by omega) (by omega)).1
    have e : ezp_sm (fun t => if ezt_b ha t = 1 then y.wo t else 0) (n + 1) = ezp_sm (fun t => if ezt_b ha t = 1 then y.wo t else 0) n + (if ezt_b ha (n : Int) = 1 then y.wo (n : Int) else 0) := rfl
    rw [e]
    split <;> omega
/-- what is told, by side and whether it ran: as many at most -/
def ezn_tm (c : Int → Int) : Int := c 0 + c 1 + c 2 + c 3 + c 4 + c 5 + c 6 + c 7
def ezn_TB (c : Int → Int) : Prop := (∀ j, 0 ≤ j → j < 8 → 0 ≤ c j) ∧ ezn_tm c ≤ 12
theorem ezn_TB_i {c : Int → Int} (h : ezn_TB c) {j : Int} (j0 : 0 ≤ j) (j1 : j < 8) : 0 ≤ c j ∧ c j ≤ 12 := by
  have h0 := h.1 0 (by decide) (by decide)
  have h1 := h.1 1 (by decide) (by decide)
  have h2 := h.1 2 (by decide) (by decide)
  have h3 := h.1 3 (by decide) (by decide)
  have h4 := h.1 4 (by decide) (by decide)
  have h5 := h.1 5 (by decide) (by decide)
  have h6 := h.1 6 (by decide) (by decide)
  have h7 := h.1 7 (by decide) (by decide)
  have h8 := h.2
  unfold ezn_tm at h8
  rcases (show j = 0 ∨ j = 1 ∨ j = 2 ∨ j = 3 ∨ j = 4 ∨ j = 5 ∨ j = 6 ∨ j = 7 by omega) with rfl | rfl | rfl | rfl | rfl | rfl | rfl | rfl <;> omega
def ezn_ad (c : Int → Int) (s r : Int) : Int → Int := ezp_up c (2 * s + r) (c (2 * s + r) + 1)
theorem ezn_tm_ad {c : Int → Int} {s r : Int} (s0 : 0 ≤ s) (s1 : s < 4) (r0 : 0 ≤ r) (r1 : r ≤ 1) : ezn_tm (ezn_ad c s r) = ezn_tm c + 1 := by
  unfold ezn_tm ezn_ad
  rcases (show 2 * s + r = 0 ∨ 2 * s + r = 1 ∨ 2 * s + r = 2 ∨ 2 * s + r = 3 ∨ 2 * s + r = 4 ∨ 2 * s + r = 5 ∨ 2 * s + r = 6 ∨ 2 * s + r = 7 by omega) with e | e | e | e | e | e | e | e <;> rw [e] <;> unfold ezp_up <;> simp only [Int.reduceEq, if_true, if_false] <;> omega
theorem ezn_TB_ad {c : Int → Int} {s r : Int} (h : ezn_TB c) (h12 : ezn_tm c < 12) (s0 : 0 ≤ s) (s1 : s < 4) (r0 : 0 ≤ r) (r1 : r ≤ 1) : ezn_TB (ezn_ad c s r) := by
  refine ⟨fun j j0 j1 => ?_, by rw [ezn_tm_ad s0 s1 r0 r1]; omega⟩
  have hj := h.1 j j0 j1
  have hc := h.1 (2 * s + r) (by omega) (by omega)
  unfold ezn_ad ezp_up
  split <;> omega
def ezn_ptn (c : Int → Int) : Nat → Int
  | 0 => 0
  | n + 1 => ezn_ptn c n * 16 + c (n : Int)
def ezn_pt (c : Int → Int) : Int := ezn_ptn c 8
theorem ezn_ptn_r {c : Int → Int} (h : ezn_TB c) : ∀ n : Nat, n ≤ 8 → 0 ≤ ezn_ptn c n ∧ ezn_ptn c n < 16 ^ n := by
  intro n
  induction n with
  | zero => intro _; exact ⟨Int.le_refl 0, show (0 : Int) < 16 ^ 0 by decide⟩
  | succ n ih =>
    intro hn
    obtain ⟨i0, i1⟩ := ih (by omega)
    have hc := ezn_TB_i h (j := (n : Int)) (by omega) (by omega)
    have e : ezn_ptn c (n + 1) = ezn_ptn c n * 16 + c (n : Int) := rfl
    rw [e, Int.pow_succ]
    omega
theorem ezn_ptn_7 {c : Int → Int} (h : ezn_TB c) {n : Nat} (hn : n ≤ 7) : 0 ≤ ezn_ptn c n ∧ ezn_ptn c n < 268435456 := by
  obtain ⟨i0, i1⟩ := ezn_ptn_r h n (by omega)
  rcases (show n = 0 ∨ n = 1 ∨ n = 2 ∨ n = 3 ∨ n = 4 ∨ n = 5 ∨ n = 6 ∨ n = 7 by omega) with rfl | rfl | rfl | rfl | rfl | rfl | rfl | rfl <;> refine ⟨i0, ?_⟩ <;> omega
theorem ezn_ptn_8 {c : Int → Int} (h : ezn_TB c) {n : Nat} (hn : n ≤ 8) : 0 ≤ ezn_ptn c n ∧ ezn_ptn c n < 4294967296 := by
  obtain ⟨i0, i1⟩ := ezn_ptn_r h n hn
  by_cases h8 : n = 8
  · subst h8
    exact ⟨i0, by omega⟩
  · have := ezn_ptn_7 h (n := n) (by omega)
    omega
theorem ezn_ptn_s {c : Int → Int} {i : Int} (i0 : 0 ≤ i) : ezn_ptn c (i + 1).toNat = ezn_ptn c i.toNat * 16 + c i := by
  obtain ⟨n, rfl⟩ := Int.eq_ofNat_of_zero_le i0
  have e : ((n : Int) + 1).toNat = n + 1 := by omega
  rw [e, Int.toNat_natCast]
  rfl
/-- undo: what is pushed -/
def ezn_pu (kU : Int) (U : Int → ezn_N) (w : ezn_N) : Int → ezn_N := fun k => if kU = 16 then (if k = 15 then w else U (k + 1)) else (if k = kU then w else U k)
def ezn_pn (kU : Int) : Int := if kU = 16 then 16 else kU + 1
/-- the bounds of what comes of a try -/
theorem ezn_B_tP {qc : ezn_Q} {y : ezp_D} {w : ezn_N} {s f e : Int} (wb : ezn_B y w) (f0 : 0 ≤ f) (h : ezn_cP qc y w s f e) : ezn_B y (ezn_tP w f e) := by
  obtain ⟨l1, l2, -⟩ := ezn_lo_r wb.1.1 wb.1.2 (wb.2.2.2.2.2.2.2.2.2.1 h.1)
  unfold ezn_tP
  split
  · exact ezn_B_off wb l1.1 l1.2 l2
  · split
    · exact ezn_B_bi wb h.1 f0
    · exact ezn_B_tr wb
theorem ezn_B_tH {y : ezp_D} {w : ezn_N} {t e : Int} (hB : ezp_B y) (wb : ezn_B y w) (h : ezn_cH y w t e) : ezn_B y (ezn_tH w t e) := by
  obtain ⟨l1, l2, -⟩ := ezn_lo_r wb.1.1 wb.1.2 (wb.2.2.2.2.2.2.2.2.2.1 h.1)
  have hk := hB.2.2.2.2.2.2.2.2
  unfold ezn_tH
  split
  · exact wb
  · split
    · exact ezn_B_hn wb h.2.1.1 (by have q := h.2.1.2.1; omega) h.2.1.2.2
    · exact ezn_B_off wb l1.1 l1.2 l2
theorem ezn_B_tL {y : ezp_D} {w : ezn_N} (wb : ezn_B y w) (h : w.ki = 0) : ezn_B y (ezn_off w (ezn_lo w.ov)) := by
  obtain ⟨l1, l2, -⟩ := ezn_lo_r wb.1.1 wb.1.2 (wb.2.2.2.2.2.2.2.2.2.1 h)
  exact ezn_B_off wb l1.1 l1.2 l2
theorem ezn_B_tC {y : ezp_D} {w : ezn_N} {t k : Int} (hB : ezp_B y) (wb : ezn_B y w) (h : ezn_cC y w t k) : ezn_B y (ezn_off w (ezn_ps y w t 6)) := by
  obtain ⟨⟨g1, g2, g3⟩, -⟩ := ezn_ps_r hB wb h.1
  exact ezn_B_off wb g1 g2 g3
theorem ezn_B_pu {y : ezp_D} {kU k : Int} {U : Int → ezn_N} {w : ezn_N} (wb : ezn_B y w) (ub : ∀ k, 0 ≤ k → k < kU → ezn_B y (U k)) (hk : 0 ≤ kU ∧ kU ≤ 16) (k0 : 0 ≤ k) (k1 : k < ezn_pn kU) : ezn_B y (ezn_pu kU U w k) := by
  unfold ezn_pn at k1
  unfold ezn_pu
  by_cases h : kU = 16
  · rw [if_pos h] at k1 ⊢
    split
    · exact wb
    · exact ub _ (by omega) (by omega)
  · rw [if_neg h] at k1 ⊢
    split
    · exact wb
    · exact ub _ k0 (by omega)
