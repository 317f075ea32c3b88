/-! ===== how the model holds it ===== -/
def ezn_NW (y : ezp_D) (w : ezn_N) (b : Int) (r : Int → Int) : Prop := r b = ezn_cn w.ov ∧ (∀ i, 0 ≤ i → i < ezn_cn w.ov → r (i + (b + 1)) = y.sg (ezn_kp w.ov i)) ∧ (∀ t, 0 ≤ t → t < 8 → r (t + (b + 7)) = if t = ezn_la y w then w.ti else 0) ∧ r (b + 15) = w.ho ∧ r (b + 16) = w.wi ∧ r (b + 17) = w.ki ∧ r (b + 18) = w.pa ∧ r (b + 19) = w.ha
/-- at a place that is known -/
theorem ezn_NW_i {y : ezp_D} {w : ezn_N} {r : Int → Int} (b b1 b7 b15 b16 b17 b18 b19 : Int) (h1 : b + 1 = b1) (h7 : b + 7 = b7) (h15 : b + 15 = b15) (h16 : b + 16 = b16) (h17 : b + 17 = b17) (h18 : b + 18 = b18) (h19 : b + 19 = b19) : ezn_NW y w b r ↔ (r b = ezn_cn w.ov ∧ (∀ i, 0 ≤ i → i < ezn_cn w.ov → r (i + b1) = y.sg (ezn_kp w.ov i)) ∧ (∀ t, 0 ≤ t → t < 8 → r (t + b7) = if t = ezn_la y w then w.ti else 0) ∧ r b15 = w.ho ∧ r b16 = w.wi ∧ r b17 = w.ki ∧ r b18 = w.pa ∧ r b19 = w.ha) := by
  subst h1 h7 h15 h16 h17 h18 h19
  exact Iff.rfl
theorem ezn_NW_f {y : ezp_D} {w : ezn_N} {b : Int} {r r' : Int → Int} (h : ezn_NW y w b r) (wb : ezn_B y w) (hf : ∀ j, b ≤ j → j < b + 20 → r' j = r j) : ezn_NW y w b r' := by
  obtain ⟨h0, h1, h2, h3, h4, h5, h6, h7⟩ := h
  have hc := ezn_cn_r wb.1.1 wb.1.2
  refine ⟨(hf b (by omega) (by omega)).trans h0, fun i i0 i1 => (hf _ (by omega) (by omega)).trans (h1 i i0 i1), fun t t0 t1 => (hf _ (by omega) (by omega)).trans (h2 t t0 t1), (hf _ (by omega) (by omega)).trans h3, (hf _ (by omega) (by omega)).trans h4, (hf _ (by omega) (by omega)).trans h5, (hf _ (by omega) (by omega)).trans h6, (hf _ (by omega) (by omega)).trans h7⟩
/-- a block copied -/
theorem ezn_NW_c {y : ezp_D} {w : ezn_N} {b b' : Int} {r r' : Int → Int} (h : ezn_NW y w b r) (wb : ezn_B y w) (hc : ∀ k, 0 ≤ k → k < 20 → r' (b' + k) = r (b + k)) : ezn_NW y w b' r' := by
  obtain ⟨h0, h1, h2, h3, h4, h5, h6, h7⟩ := h
  have hn := ezn_cn_r wb.1.1 wb.1.2
  have e0 := hc 0 (by omega) (by omega)
  rw [Int.add_zero, Int.add_zero] at e0
  refine ⟨e0.trans h0, fun i i0 i1 => ?_, fun t t0 t1 => ?_, (hc 15 (by omega) (by omega)).trans h3, (hc 16 (by omega) (by omega)).trans h4, (hc 17 (by omega) (by omega)).trans h5, (hc 18 (by omega) (by omega)).trans h6, (hc 19 (by omega) (by omega)).trans h7⟩
  · have e := hc (i + 1) (by omega) (by omega)
    rw [show i + (b' + 1) = b' + (i + 1) by omega, e, show b + (i + 1) = i + (b + 1) by omega]
    exact h1 i i0 i1
  · have e := hc (t + 7) (by omega) (by omega)
    rw [show t + (b' + 7) = b' + (t + 7) by omega, e, show b + (t + 7) = t + (b + 7) by omega]
    exact h2 t t0 t1
theorem ezn_NW_off {y : ezp_D} {w : ezn_N} {p b : Int} {r r' : Int → Int} (hB : ezp_B y) (wb : ezn_B y w) (h : ezn_NW y w b r) (hk : w.ki = 0) (p0 : 0 ≤ p) (p1 : p < 6) (hb : ezt_b w.ov p = 1) (e0 : r' b = ezn_cn w.ov - 1) (eo : ∀ i, 0 ≤ i → i < ezn_cn w.ov - 1 → r' (i + (b + 1)) = y.sg (ezn_kp w.ov (if i < ezn_rk w.ov p then i else i + 1))) (et : ∀ t, 0 ≤ t → t < 8 → r' (t + (b + 7)) = if t = y.sg p then 0 else r (t + (b + 7))) (e17 : r' (b + 17) = if ezn_cn w.ov - 1 = 0 then 1 else 0) (e15 : r' (b + 15) = r (b + 15)) (e16 : r' (b + 16) = r (b + 16)) (e18 : r' (b + 18) = r (b + 18)) (e19 : r' (b + 19) = r (b + 19)) : ezn_NW y (ezn_off w p) b r' := by
  obtain ⟨h0, h1, h2, h3, h4, h5, h6, h7⟩ := h
  have wb' := wb
  obtain ⟨⟨x0, x1⟩, x2, x3, x4, x5, x6, x7, x8, x9, x10, x11, x12⟩ := wb'
  obtain ⟨⟨m0, m0'⟩, m2, m3, m4⟩ := ezn_rm x0 x1 p0 p1 hb
  obtain ⟨b1, b2, b3, b4, b5, b6, b7, b8, b9⟩ := hB
  have hx := x10 hk
  obtain ⟨l1, l2, l3, l4, l5, l6⟩ := ezn_lo_r x0 x1 hx
  have hz := ezn_cn_0 m0 m0'
  refine ⟨?_, fun i i0 i1 => ?_, fun t t0 t1 => ?_, e15.trans h3, e16.trans h4, ?_, e18.trans h6, e19.trans h7⟩
  · show r' b = ezn_cn (w.ov - 2 ^ p.toNat)
    rw [m2]
    exact e0
  · have i1 : i < ezn_cn (w.ov - 2 ^ p.toNat) := i1
    rw [m2] at i1
    show r' (i + (b + 1)) = y.sg (ezn_kp (w.ov - 2 ^ p.toNat) i)
    rw [m3 i i0 i1]
    exact eo i i0 i1
  · rw [et t t0 t1, h2 t t0 t1]
    show _ = if t = ezn_la y (ezn_off w p) then (if p = ezn_lo w.ov then 0 else w.ti) else 0
    have hla : ezn_la y w = y.sg (ezn_lo w.ov) := if_neg hx
    by_cases hp : p = ezn_lo w.ov
    · rw [if_pos hp, hla, ← hp]
      (repeat' split) <;> first | rfl | contradiction
    · rw [if_neg hp, hla]
      have hl2 : ezt_b (w.ov - 2 ^ p.toNat) (ezn_lo w.ov) = 1 := by
        rw [m4 _ l1.1 l1.2, if_neg (fun z => hp z.symm)]
        exact l2
      have hl := ezn_lo_of m0 m0' l1.1 l1.2 hl2 (fun q q0 q1 => by
        rw [m4 q (by omega) q1]
        split
        · rfl
        · exact l6 q q0 q1)
      have hla2 : ezn_la y (ezn_off w p) = y.sg (ezn_lo w.ov) := by
        show (if w.ov - 2 ^ p.toNat = 0 then -1 else y.sg (ezn_lo (w.ov - 2 ^ p.toNat))) = _
        rw [if_neg hl.2, hl.1]
      rw [hla2]
      by_cases ht : t = y.sg p
      · rw [if_pos ht, if_neg (fun z => hp (b4 _ _ p0 (x2 p p0 p1 hb) l1.1 (x2 _ l1.1 l1.2 l2) (ht.symm.trans z)))]
      · rw [if_neg ht]
  · rw [e17]
    show _ = if w.ov - 2 ^ p.toNat = 0 then 1 else w.ki
    rw [hk]
    by_cases hc : ezn_cn w.ov - 1 = 0
    · rw [if_pos hc, if_pos (hz.mpr (by omega))]
    · rw [if_neg hc, if_neg (fun z => hc (by have := hz.mp z; omega))]
theorem ezn_NW_ti {y : ezp_D} {w w' : ezn_N} {b : Int} {r r' : Int → Int} (h : ezn_NW y w b r) (wb : ezn_B y w) (e1 : w'.ov = w.ov) (e2 : w'.ho = w.ho) (e3 : w'.wi = w.wi) (e4 : w'.ki = w.ki) (e5 : w'.pa = w.pa) (e6 : w'.ha = w.ha) (hf : ∀ j, b ≤ j → j < b + 20 → j ≠ ezn_la y w + (b + 7) → r' j = r j) (ht : r' (ezn_la y w + (b + 7)) = w'.ti) (hl : 0 ≤ ezn_la y w ∧ ezn_la y w < 8) : ezn_NW y w' b r' := by
  obtain ⟨h0, h1, h2, h3, h4, h5, h6, h7⟩ := h
  have hc := ezn_cn_r wb.1.1 wb.1.2
  have hla : ezn_la y w' = ezn_la y w := by
    unfold ezn_la
    rw [e1]
  refine ⟨?_, fun i i0 i1 => ?_, fun t t0 t1 => ?_, ?_, ?_, ?_, ?_, ?_⟩
  · rw [hf b (by omega) (by omega) (by omega), e1]
    exact h0
  · rw [e1] at i1 ⊢
    rw [hf _ (by omega) (by omega) (by omega)]
    exact h1 i i0 i1
  · rw [hla]
    by_cases e : t = ezn_la y w
    · rw [if_pos e, e]
      exact ht
    · rw [if_neg e, hf _ (by omega) (by omega) (by omega), h2 t t0 t1, if_neg e]
  · rw [hf _ (by omega) (by omega) (by omega), e2]
    exact h3
  · rw [hf _ (by omega) (by omega) (by omega), e3]
    exact h4
  · rw [hf _ (by omega) (by omega) (by omega), e4]
    exact h5
  · rw [hf _ (by omega) (by omega) (by omega), e5]
    exact h6
  · rw [hf _ (by omega) (by omega) (by omega), e6]
    exact h7
/-- hour, wind, paper, hand changed -/
theorem ezn_NW_hh {y : ezp_D} {w w' : ezn_N} {b : Int} {r r' : Int → Int} (h : ezn_NW y w b r) (wb : ezn_B y w) (e1 : w'.ov = w.ov) (e2 : w'.ti = w.ti) (e4 : w'.ki = w.ki) (hf : ∀ j, b ≤ j → j < b + 20 → j ≠ b + 15 → j ≠ b + 16 → j ≠ b + 18 → j ≠ b + 19 → r' j = r j) (e15 : r' (b + 15) = w'.ho) (e16 : r' (b + 16) = w'.wi) (e18 : r' (b + 18) = w'.pa) (e19 : r' (b + 19) = w'.ha) : ezn_NW y w' b r' := by
  obtain ⟨h0, h1, h2, h3, h4, h5, h6, h7⟩ := h
  have hc := ezn_cn_r wb.1.1 wb.1.2
  have hla : ezn_la y w' = ezn_la y w := by
    unfold ezn_la
    rw [e1]
  refine ⟨?_, fun i i0 i1 => ?_, fun t t0 t1 => ?_, e15, e16, ?_, e18, e19⟩
  · rw [hf b (by omega) (by omega) (by omega) (by omega) (by omega) (by omega), e1]
    exact h0
  · rw [e1] at i1 ⊢
    rw [hf _ (by omega) (by omega) (by omega) (by omega) (by omega) (by omega)]
    exact h1 i i0 i1
  · rw [hla, e2, hf _ (by omega) (by omega) (by omega) (by omega) (by omega) (by omega)]
    exact h2 t t0 t1
  · rw [hf _ (by omega) (by omega) (by omega) (by omega) (by omega) (by omega), e4]
    exact h5
theorem ezn_NW_tr {y : ezp_D} {w : ezn_N} {b : Int} {r r' : Int → Int} (h : ezn_NW y w b r) (e0 : r' b = 0) (e17 : r' (b + 17) = 2) (et : ∀ t, 0 ≤ t → t < 8 → r' (t + (b + 7)) = 0) (e15 : r' (b + 15) = r (b + 15)) (e16 : r' (b + 16) = r (b + 16)) (e18 : r' (b + 18) = r (b + 18)) (e19 : r' (b + 19) = r (b + 19)) : ezn_NW y (ezn_tr w) b r' := by
  obtain ⟨h0, h1, h2, h3, h4, h5, h6, h7⟩ := h
  refine ⟨e0.trans (show (0 : Int) = ezn_cn 0 from rfl), fun i i0 i1 => ?_, fun t t0 t1 => ?_, e15.trans h3, e16.trans h4, e17, e18.trans h6, e19.trans h7⟩
  · have i1 : i < ezn_cn 0 := i1
    have e : ezn_cn 0 = 0 := rfl
    omega
  · rw [et t t0 t1]
    show (0 : Int) = if t = ezn_la y (ezn_tr w) then 0 else 0
    split <;> rfl
/-- a twig at an index, and its place -/
theorem ezn_ix {y : ezp_D} {w : ezn_N} {p i : Int} (hB : ezp_B y) (wb : ezn_B y w) (p0 : 0 ≤ p) (p1 : p < 6) (hb : ezt_b w.ov p = 1) (i0 : 0 ≤ i) (i1 : i < ezn_cn w.ov) : y.sg (ezn_kp w.ov i) = y.sg p ↔ i = ezn_rk w.ov p := by
  obtain ⟨⟨x0, x1⟩, x2, -⟩ := wb
  obtain ⟨b1, b2, b3, b4, b5, b6, b7, b8, b9⟩ := hB
  obtain ⟨k1, k2, k3⟩ := ezn_kp_r x0 x1 i0 i1
  obtain ⟨r1, r2⟩ := ezn_rk_r x0 x1 p0 p1 hb
  constructor
  · intro h
    have e := b4 _ _ k1.1 (x2 _ k1.1 k1.2 k2) p0 (x2 _ p0 p1 hb) h
    rw [← e, k3]
  · intro h
    rw [h, r2]
theorem ezn_la_kp {y : ezp_D} {w : ezn_N} (wb : ezn_B y w) (h : w.ov ≠ 0) : y.sg (ezn_kp w.ov (ezn_cn w.ov - 1)) = ezn_la y w := by
  obtain ⟨l1, l2, l3, l4, l5, l6⟩ := ezn_lo_r wb.1.1 wb.1.2 h
  unfold ezn_la
  rw [if_neg h, ← l5]
theorem ezn_ps_kp {y : ezp_D} {w : ezn_N} {i t : Int} (hB : ezp_B y) (wb : ezn_B y w) (i0 : 0 ≤ i) (i1 : i < ezn_cn w.ov) (h : y.sg (ezn_kp w.ov i) = t) : ezn_ps y w t 6 ≠ -1 := by
  obtain ⟨k1, k2, k3⟩ := ezn_kp_r wb.1.1 wb.1.2 i0 i1
  rw [ezn_ps_of hB wb k1.1 k1.2 k2 h]
  omega
theorem ezn_ps_nk {y : ezp_D} {w : ezn_N} {t : Int} (hB : ezp_B y) (wb : ezn_B y w) (h : ∀ i, 0 ≤ i → i < ezn_cn w.ov → y.sg (ezn_kp w.ov i) ≠ t) : ezn_ps y w t 6 = -1 := by
  by_cases hp : ezn_ps y w t 6 = -1
  · exact hp
  · exfalso
    obtain ⟨g1, g2, g3⟩ := ezn_ps_r hB wb hp
    obtain ⟨r1, r2⟩ := ezn_rk_r wb.1.1 wb.1.2 g1.1 g1.2.1 g1.2.2
    exact h _ r1.1 r1.2 (by rw [r2]; exact g2)
