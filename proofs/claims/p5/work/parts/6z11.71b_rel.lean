/-! ===== the model's tree while it is read ===== -/
def ezp_lk (k : Int) : Int := [5, 6, 13, 14, 15, 16, 18, 19, 21, 22].getD k.toNat 0
theorem ezp_lkN : ∀ j : Nat, j < 10 → ∀ k : Nat, k < 10 → ([5, 6, 13, 14, 15, 16, 18, 19, 21, 22] : List Int).getD j 0 = ([5, 6, 13, 14, 15, 16, 18, 19, 21, 22] : List Int).getD k 0 → j = k := by decide +kernel
theorem ezp_lk_inj {j k : Int} (j0 : 0 ≤ j) (j1 : j < 10) (k0 : 0 ≤ k) (k1 : k < 10) (e : ezp_lk j = ezp_lk k) : j = k := by
  have := ezp_lkN j.toNat (by omega) k.toNat (by omega) e
  omega
theorem ezp_lkM : ∀ k : Nat, k < 10 → (([5, 6, 13, 14, 15, 16, 18, 19, 21, 22] : List Int).getD k 0 ≠ 0 ∧ ([5, 6, 13, 14, 15, 16, 18, 19, 21, 22] : List Int).getD k 0 ≠ 9 ∧ ([5, 6, 13, 14, 15, 16, 18, 19, 21, 22] : List Int).getD k 0 ≠ 12 ∧ ([5, 6, 13, 14, 15, 16, 18, 19, 21, 22] : List Int).getD k 0 ≠ 20) ∧ (([5, 6, 13, 14, 15, 16, 18, 19, 21, 22] : List Int).getD k 0 = 5 → k = 0) := by decide +kernel
theorem ezp_lk_x {k : Int} (k0 : 0 ≤ k) (k1 : k < 10) : ezp_lk k ≠ 0 ∧ ezp_lk k ≠ 9 ∧ ezp_lk k ≠ 12 ∧ ezp_lk k ≠ 20 := (ezp_lkM k.toNat (by omega)).1
def ezm_TRE (t : ezp_D) (m i20 : Int) (r78 r82 r84 : Int → Int) : Prop :=
  (r78 100 = t.kT ∧ r78 101 = t.kH ∧ r78 102 = t.kE ∧ r78 103 = t.kS) ∧ (0 ≤ t.kT ∧ t.kT ≤ 8 ∧ 0 ≤ t.kH ∧ t.kH ≤ 4 ∧ 0 ≤ t.kE ∧ t.kE ≤ 8 ∧ 0 ≤ t.kS ∧ t.kS ≤ 6) ∧
  ezm_NM t.nT t.kT t.nH t.kH m r82 r84 ∧
  (∀ i, 0 ≤ i → i < t.kT → r78 (4 * i + 117) = t.hi i ∧ r78 (4 * i + 118) = t.th i ∧ r78 (4 * i + 119) = t.si i ∧ r78 (4 * i + 120) = t.on i) ∧
  (∀ i, 0 ≤ i → i < t.kH → r78 (4 * i + 149) = t.wo i ∧ r78 (4 * i + 150) = t.st i ∧ r78 (4 * i + 151) = t.fr i) ∧
  (∀ a, 0 ≤ a → a < 4 → (0 ≤ r78 (4 * a + 152) ∧ r78 (4 * a + 152) < 16) ∧ ∀ b, 0 ≤ b → b < 4 → ezt_b (r78 (4 * a + 152)) b = t.ah b a) ∧
  (∀ a b, 0 ≤ a → a < 4 → t.kH ≤ b → b < 4 → t.ah b a = 0) ∧
  (∀ i, 0 ≤ i → i < t.kS → r78 (i + 165) = t.sg i) ∧
  (∀ x y, (t.el x y = 1 ↔ ∃ i, 0 ≤ i ∧ i < t.kE ∧ r78 (2 * i + 171) = x ∧ r78 (2 * i + 172) = y)) ∧
  (∀ k, 0 ≤ k → k < 11 → r78 (k + 104) = t.nu k) ∧
  (t.di 5 ≠ 1 → t.kS = 0) ∧ (0 ≤ i20 ∧ i20 < 1024) ∧ ∀ k, 0 ≤ k → k < 10 → ezt_b i20 k = t.di (ezp_lk k)
theorem ezm_TRE_fr {t : ezp_D} {m i20 : Int} {r78 r82 r84 r78' : Int → Int} (h : ezm_TRE t m i20 r78 r82 r84) (hf : ∀ j, 100 ≤ j → j ≤ 186 → j ≠ 115 → j ≠ 116 → r78' j = r78 j) : ezm_TRE t m i20 r78' r82 r84 := by
  obtain ⟨⟨a1, a2, a3, a4⟩, ⟨b1, b2, b3, b4, b5, b6, b7, b8⟩, nm, tw, th, ov, oz, sg, el, nu, s0, on⟩ := h
  refine ⟨⟨?_, ?_, ?_, ?_⟩, ⟨b1, b2, b3, b4, b5, b6, b7, b8⟩, nm, fun i i0 i1 => ?_, fun i i0 i1 => ?_, fun a g0 g1 => ?_, oz, fun i i0 i1 => ?_, fun x y => ?_, fun k k0 k1 => ?_, s0, on⟩
  · rw [hf 100 (by omega) (by omega) (by omega) (by omega)]; exact a1
  · rw [hf 101 (by omega) (by omega) (by omega) (by omega)]; exact a2
  · rw [hf 102 (by omega) (by omega) (by omega) (by omega)]; exact a3
  · rw [hf 103 (by omega) (by omega) (by omega) (by omega)]; exact a4
  · rw [hf _ (by omega) (by omega) (by omega) (by omega), hf (4 * i + 118) (by omega) (by omega) (by omega) (by omega), hf (4 * i + 119) (by omega) (by omega) (by omega) (by omega), hf (4 * i + 120) (by omega) (by omega) (by omega) (by omega)]
    exact tw i i0 i1
  · rw [hf _ (by omega) (by omega) (by omega) (by omega), hf (4 * i + 150) (by omega) (by omega) (by omega) (by omega), hf (4 * i + 151) (by omega) (by omega) (by omega) (by omega)]
    exact th i i0 i1
  · rw [hf _ (by omega) (by omega) (by omega) (by omega)]
    exact ov a g0 g1
  · rw [hf _ (by omega) (by omega) (by omega) (by omega)]
    exact sg i i0 i1
  · rw [el x y]
    constructor
    · rintro ⟨i, i0, i1, e1, e2⟩
      exact ⟨i, i0, i1, by rw [hf _ (by omega) (by omega) (by omega) (by omega)]; exact e1, by rw [hf _ (by omega) (by omega) (by omega) (by omega)]; exact e2⟩
    · rintro ⟨i, i0, i1, e1, e2⟩
      rw [hf _ (by omega) (by omega) (by omega) (by omega)] at e1 e2
      exact ⟨i, i0, i1, e1, e2⟩
  · rw [hf _ (by omega) (by omega) (by omega) (by omega)]
    exact nu k k0 k1
theorem ezm_TRE_twig {t : ezp_D} {m m' i20 a b c o : Int} {l : List Int} {r78 r82 r84 r78' r82' r84' : Int → Int} (h : ezm_TRE t m i20 r78 r82 r84) (hk : t.kT < 8) (nm' : ezm_NM (ezp_up t.nT t.kT l) (t.kT + 1) t.nH t.kH m' r82' r84') (e0 : r78' 100 = t.kT + 1) (e1 : r78' (4 * t.kT + 117) = a) (e2 : r78' (4 * t.kT + 118) = b) (e3 : r78' (4 * t.kT + 119) = c) (e4 : r78' (4 * t.kT + 120) = o) (hf : ∀ j, 101 ≤ j → j ≤ 186 → (j < 4 * t.kT + 117 ∨ 4 * t.kT + 120 < j) → r78' j = r78 j) : ezm_TRE (t.twig l a b c o) m' i20 r78' r82' r84' := by
  obtain ⟨⟨a1, a2, a3, a4⟩, ⟨b1, b2, b3, b4, b5, b6, b7, b8⟩, nm, tw, th, ov, oz, sg, el, nu, s0, on⟩ := h
  refine ⟨⟨e0, ?_, ?_, ?_⟩, ⟨?_, ?_, b3, b4, b5, b6, b7, b8⟩, nm', fun i i0 i1 => ?_, fun i i0 i1 => ?_, fun a g0 g1 => ?_, oz, fun i i0 i1 => ?_, fun x y => ?_, fun k k0 k1 => ?_, s0, on⟩
  · rw [hf 101 (by omega) (by omega) (by omega)]; exact a2
  · rw [hf 102 (by omega) (by omega) (by omega)]; exact a3
  · rw [hf 103 (by omega) (by omega) (by omega)]; exact a4
  · show 0 ≤ t.kT + 1
    omega
  · show t.kT + 1 ≤ 8
    omega
  · have i1 : i < t.kT + 1 := i1
    show r78' (4 * i + 117) = ezp_up t.hi t.kT a i ∧ r78' (4 * i + 118) = ezp_up t.th t.kT b i ∧ r78' (4 * i + 119) = ezp_up t.si t.kT c i ∧ r78' (4 * i + 120) = ezp_up t.on t.kT o i
    by_cases e : i = t.kT
    · subst e
      rw [ezp_up_s, ezp_up_s, ezp_up_s, ezp_up_s]
      exact ⟨e1, e2, e3, e4⟩
    · rw [ezp_up_o _ _ e, ezp_up_o _ _ e, ezp_up_o _ _ e, ezp_up_o _ _ e, hf _ (by omega) (by omega) (by omega), hf (4 * i + 118) (by omega) (by omega) (by omega), hf (4 * i + 119) (by omega) (by omega) (by omega), hf (4 * i + 120) (by omega) (by omega) (by omega)]
      exact tw i i0 (by omega)
  · have i1 : i < t.kH := i1
    rw [hf _ (by omega) (by omega) (by omega), hf (4 * i + 150) (by omega) (by omega) (by omega), hf (4 * i + 151) (by omega) (by omega) (by omega)]
    exact th i i0 i1
  · rw [hf _ (by omega) (by omega) (by omega)]
    exact ov a g0 g1
  · have i1 : i < t.kS := i1
    rw [hf _ (by omega) (by omega) (by omega)]
    exact sg i i0 i1
  · show t.el x y = 1 ↔ _
    rw [el x y]
    constructor
    · rintro ⟨i, i0, i1, e1, e2⟩
      exact ⟨i, i0, i1, by rw [hf _ (by omega) (by omega) (by omega)]; exact e1, by rw [hf _ (by omega) (by omega) (by omega)]; exact e2⟩
    · rintro ⟨i, i0, i1, e1, e2⟩
      have i1 : i < t.kE := i1
      rw [hf _ (by omega) (by omega) (by omega)] at e1 e2
      exact ⟨i, i0, i1, e1, e2⟩
  · rw [hf _ (by omega) (by omega) (by omega)]
    exact nu k k0 k1
theorem ezm_TRE_thing {t : ezp_D} {m m' i20 a b c : Int} {l : List Int} {r78 r82 r84 r78' r82' r84' : Int → Int} (h : ezm_TRE t m i20 r78 r82 r84) (hk : t.kH < 4) (nm' : ezm_NM t.nT t.kT (ezp_up t.nH t.kH l) (t.kH + 1) m' r82' r84') (e0 : r78' 101 = t.kH + 1) (e1 : r78' (4 * t.kH + 149) = a) (e2 : r78' (4 * t.kH + 150) = b) (e3 : r78' (4 * t.kH + 151) = c) (hf : ∀ j, 100 ≤ j → j ≤ 186 → j ≠ 101 → (j < 4 * t.kH + 149 ∨ 4 * t.kH + 151 < j) → r78' j = r78 j) : ezm_TRE (t.thing l a b c) m' i20 r78' r82' r84' := by
  obtain ⟨⟨a1, a2, a3, a4⟩, ⟨b1, b2, b3, b4, b5, b6, b7, b8⟩, nm, tw, th, ov, oz, sg, el, nu, s0, on⟩ := h
  refine ⟨⟨?_, e0, ?_, ?_⟩, ⟨b1, b2, ?_, ?_, b5, b6, b7, b8⟩, nm', fun i i0 i1 => ?_, fun i i0 i1 => ?_, fun a g0 g1 => ?_, fun a b g0 g1 q0 q1 => ?_, fun i i0 i1 => ?_, fun x y => ?_, fun k k0 k1 => ?_, s0, on⟩
  · rw [hf 100 (by omega) (by omega) (by omega) (by omega)]; exact a1
  · rw [hf 102 (by omega) (by omega) (by omega) (by omega)]; exact a3
  · rw [hf 103 (by omega) (by omega) (by omega) (by omega)]; exact a4
  · show 0 ≤ t.kH + 1
    omega
  · show t.kH + 1 ≤ 4
    omega
  · have i1 : i < t.kT := i1
    rw [hf _ (by omega) (by omega) (by omega) (by omega), hf (4 * i + 118) (by omega) (by omega) (by omega) (by omega), hf (4 * i + 119) (by omega) (by omega) (by omega) (by omega), hf (4 * i + 120) (by omega) (by omega) (by omega) (by omega)]
    exact tw i i0 i1
  · have i1 : i < t.kH + 1 := i1
    show r78' (4 * i + 149) = ezp_up t.wo t.kH a i ∧ r78' (4 * i + 150) = ezp_up t.st t.kH b i ∧ r78' (4 * i + 151) = ezp_up t.fr t.kH c i
    by_cases e : i = t.kH
    · subst e
      rw [ezp_up_s, ezp_up_s, ezp_up_s]
      exact ⟨e1, e2, e3⟩
    · rw [ezp_up_o _ _ e, ezp_up_o _ _ e, ezp_up_o _ _ e, hf _ (by omega) (by omega) (by omega) (by omega), hf (4 * i + 150) (by omega) (by omega) (by omega) (by omega), hf (4 * i + 151) (by omega) (by omega) (by omega) (by omega)]
      exact th i i0 (by omega)
  · rw [hf _ (by omega) (by omega) (by omega) (by omega)]
    refine ⟨(ov a g0 g1).1, fun b q0 q1 => ?_⟩
    show _ = ezp_up t.ah t.kH (fun _ => 0) b a
    by_cases e : b = t.kH
    · rw [e, ezp_up_s]
      rw [(ov a g0 g1).2 t.kH (by omega) (by omega)]
      exact oz a t.kH g0 g1 (by omega) (by omega)
    · rw [ezp_up_o _ _ e]
      exact (ov a g0 g1).2 b q0 q1
  · have q0 : t.kH + 1 ≤ b := q0
    show ezp_up t.ah t.kH (fun _ => 0) b a = 0
    rw [ezp_up_o _ _ (by omega)]
    exact oz a b g0 g1 (by omega) q1
  · have i1 : i < t.kS := i1
    rw [hf _ (by omega) (by omega) (by omega) (by omega)]
    exact sg i i0 i1
  · show t.el x y = 1 ↔ _
    rw [el x y]
    constructor
    · rintro ⟨i, i0, i1, e1, e2⟩
      exact ⟨i, i0, i1, by rw [hf _ (by omega) (by omega) (by omega) (by omega)]; exact e1, by rw [hf _ (by omega) (by omega) (by omega) (by omega)]; exact e2⟩
    · rintro ⟨i, i0, i1, e1, e2⟩
      have i1 : i < t.kE := i1
      rw [hf _ (by omega) (by omega) (by omega) (by omega)] at e1 e2
      exact ⟨i, i0, i1, e1, e2⟩
  · rw [hf _ (by omega) (by omega) (by omega) (by omega)]
    exact nu k k0 k1
theorem ezm_TRE_strg {t : ezp_D} {m i20 w : Int} {r78 r82 r84 r78' : Int → Int} (h : ezm_TRE t m i20 r78 r82 r84) (hk : t.kS < 6) (hd : t.di 5 = 1) (e0 : r78' 103 = t.kS + 1) (e1 : r78' (t.kS + 165) = w) (hf : ∀ j, 100 ≤ j → j ≤ 186 → j ≠ 103 → j ≠ t.kS + 165 → r78' j = r78 j) : ezm_TRE (t.strg w) m i20 r78' r82 r84 := by
  obtain ⟨⟨a1, a2, a3, a4⟩, ⟨b1, b2, b3, b4, b5, b6, b7, b8⟩, nm, tw, th, ov, oz, sg, el, nu, s0, on⟩ := h
  refine ⟨⟨?_, ?_, ?_, e0⟩, ⟨b1, b2, b3, b4, b5, b6, ?_, ?_⟩, nm, fun i i0 i1 => ?_, fun i i0 i1 => ?_, fun a g0 g1 => ?_, oz, fun i i0 i1 => ?_, fun x y => ?_, fun k k0 k1 => ?_, fun z => absurd hd z, on⟩
  · rw [hf 100 (by omega) (by omega) (by omega) (by omega)]; exact a1
  · rw [hf 101 (by omega) (by omega) (by omega) (by omega)]; exact a2
  · rw [hf 102 (by omega) (by omega) (by omega) (by omega)]; exact a3
  · show 0 ≤ t.kS + 1
    omega
  · show t.kS + 1 ≤ 6
    omega
  · have i1 : i < t.kT := i1
    rw [hf _ (by omega) (by omega) (by omega) (by omega), hf (4 * i + 118) (by omega) (by omega) (by omega) (by omega), hf (4 * i + 119) (by omega) (by omega) (by omega) (by omega), hf (4 * i + 120) (by omega) (by omega) (by omega) (by omega)]
    exact tw i i0 i1
  · have i1 : i < t.kH := i1
    rw [hf _ (by omega) (by omega) (by omega) (by omega), hf (4 * i + 150) (by omega) (by omega) (by omega) (by omega), hf (4 * i + 151) (by omega) (by omega) (by omega) (by omega)]
    exact th i i0 i1
  · rw [hf _ (by omega) (by omega) (by omega) (by omega)]
    exact ov a g0 g1
  · have i1 : i < t.kS + 1 := i1
    show r78' (i + 165) = ezp_up t.sg t.kS w i
    by_cases e : i = t.kS
    · rw [e, ezp_up_s]
      exact e1
    · rw [ezp_up_o _ _ e, hf _ (by omega) (by omega) (by omega) (by omega)]
      exact sg i i0 (by omega)
  · show t.el x y = 1 ↔ _
    rw [el x y]
    constructor
    · rintro ⟨i, i0, i1, e1, e2⟩
      exact ⟨i, i0, i1, by rw [hf _ (by omega) (by omega) (by omega) (by omega)]; exact e1, by rw [hf _ (by omega) (by omega) (by omega) (by omega)]; exact e2⟩
    · rintro ⟨i, i0, i1, e1, e2⟩
      have i1 : i < t.kE := i1
      rw [hf _ (by omega) (by omega) (by omega) (by omega)] at e1 e2
      exact ⟨i, i0, i1, e1, e2⟩
  · rw [hf _ (by omega) (by omega) (by omega) (by omega)]
    exact nu k k0 k1
theorem ezm_TRE_over {t : ezp_D} {m i20 a b : Int} {r78 r82 r84 r78' : Int → Int} (h : ezm_TRE t m i20 r78 r82 r84) (a0 : 0 ≤ a) (a1 : a < 4) (b0 : 0 ≤ b) (b1 : b < t.kH) (e1 : r78' (4 * a + 152) = ezw_or (r78 (4 * a + 152)) (1 * 2 ^ b.toNat)) (hf : ∀ j, 100 ≤ j → j ≤ 186 → j ≠ 4 * a + 152 → r78' j = r78 j) : ezm_TRE (t.over a b) m i20 r78' r82 r84 := by
  obtain ⟨⟨c1, c2, c3, c4⟩, ⟨d1, d2, d3, d4, d5, d6, d7, d8⟩, nm, tw, th, ov, oz, sg, el, nu, s0, on⟩ := h
  refine ⟨⟨?_, ?_, ?_, ?_⟩, ⟨d1, d2, d3, d4, d5, d6, d7, d8⟩, nm, fun i i0 i1 => ?_, fun i i0 i1 => ?_, fun x g0 g1 => ?_, fun x y g0 g1 q0 q1 => ?_, fun i i0 i1 => ?_, fun x y => ?_, fun k k0 k1 => ?_, s0, on⟩
  · rw [hf 100 (by omega) (by omega) (by omega)]; exact c1
  · rw [hf 101 (by omega) (by omega) (by omega)]; exact c2
  · rw [hf 102 (by omega) (by omega) (by omega)]; exact c3
  · rw [hf 103 (by omega) (by omega) (by omega)]; exact c4
  · have i1 : i < t.kT := i1
    rw [hf _ (by omega) (by omega) (by omega), hf (4 * i + 118) (by omega) (by omega) (by omega), hf (4 * i + 119) (by omega) (by omega) (by omega), hf (4 * i + 120) (by omega) (by omega) (by omega)]
    exact tw i i0 i1
  · have i1 : i < t.kH := i1
    rw [hf _ (by omega) (by omega) (by omega), hf (4 * i + 150) (by omega) (by omega) (by omega), hf (4 * i + 151) (by omega) (by omega) (by omega)]
    exact th i i0 i1
  · show (0 ≤ r78' (4 * x + 152) ∧ r78' (4 * x + 152) < 16) ∧ ∀ y, 0 ≤ y → y < 4 → ezt_b (r78' (4 * x + 152)) y = ezp_up t.ah b (ezp_up (t.ah b) a 1) y x
    have g2 := ov x g0 g1
    by_cases e : x = a
    · subst e
      have g3 := ezt_or1 4 (by decide) g2.1.1 g2.1.2 b0 (by omega)
      rw [e1]
      refine ⟨⟨g3.1, g3.2.1⟩, fun y y0 y1 => ?_⟩
      rw [g3.2.2 y y0]
      by_cases ey : y = b
      · rw [if_pos ey, ey, ezp_up_s, ezp_up_s]
      · rw [if_neg ey, ezp_up_o _ _ ey]
        exact g2.2 y y0 y1
    · rw [hf _ (by omega) (by omega) (by omega)]
      refine ⟨g2.1, fun y y0 y1 => ?_⟩
      by_cases ey : y = b
      · rw [ey, ezp_up_s, ezp_up_o _ _ e]
        exact g2.2 b b0 (by omega)
      · rw [ezp_up_o _ _ ey]
        exact g2.2 y y0 y1
  · have q0 : t.kH ≤ y := q0
    show ezp_up t.ah b (ezp_up (t.ah b) a 1) y x = 0
    rw [ezp_up_o _ _ (by omega)]
    exact oz x y g0 g1 q0 q1
  · have i1 : i < t.kS := i1
    rw [hf _ (by omega) (by omega) (by omega)]
    exact sg i i0 i1
  · show t.el x y = 1 ↔ _
    rw [el x y]
    constructor
    · rintro ⟨i, i0, i1, e1, e2⟩
      exact ⟨i, i0, i1, by rw [hf _ (by omega) (by omega) (by omega)]; exact e1, by rw [hf _ (by omega) (by omega) (by omega)]; exact e2⟩
    · rintro ⟨i, i0, i1, e1, e2⟩
      have i1 : i < t.kE := i1
      rw [hf _ (by omega) (by omega) (by omega)] at e1 e2
      exact ⟨i, i0, i1, e1, e2⟩
  · rw [hf _ (by omega) (by omega) (by omega)]
    exact nu k k0 k1
theorem ezm_TRE_elm {t : ezp_D} {m i20 a b : Int} {r78 r82 r84 r78' : Int → Int} (h : ezm_TRE t m i20 r78 r82 r84) (hk : t.kE < 8) (e0 : r78' 102 = t.kE + 1) (e1 : r78' (2 * t.kE + 171) = a) (e2 : r78' (2 * t.kE + 172) = b) (hf : ∀ j, 100 ≤ j → j ≤ 186 → j ≠ 102 → j ≠ 2 * t.kE + 171 → j ≠ 2 * t.kE + 172 → r78' j = r78 j) : ezm_TRE (t.elm a b) m i20 r78' r82 r84 := by
  obtain ⟨⟨c1, c2, c3, c4⟩, ⟨d1, d2, d3, d4, d5, d6, d7, d8⟩, nm, tw, th, ov, oz, sg, el, nu, s0, on⟩ := h
  refine ⟨⟨?_, ?_, e0, ?_⟩, ⟨d1, d2, d3, d4, ?_, ?_, d7, d8⟩, nm, fun i i0 i1 => ?_, fun i i0 i1 => ?_, fun x g0 g1 => ?_, oz, fun i i0 i1 => ?_, fun x y => ?_, fun k k0 k1 => ?_, s0, on⟩
  · rw [hf 100 (by omega) (by omega) (by omega) (by omega) (by omega)]; exact c1
  · rw [hf 101 (by omega) (by omega) (by omega) (by omega) (by omega)]; exact c2
  · rw [hf 103 (by omega) (by omega) (by omega) (by omega) (by omega)]; exact c4
  · show 0 ≤ t.kE + 1
    omega
  · show t.kE + 1 ≤ 8
    omega
  · have i1 : i < t.kT := i1
    rw [hf _ (by omega) (by omega) (by omega) (by omega) (by omega), hf (4 * i + 118) (by omega) (by omega) (by omega) (by omega) (by omega), hf (4 * i + 119) (by omega) (by omega) (by omega) (by omega) (by omega), hf (4 * i + 120) (by omega) (by omega) (by omega) (by omega) (by omega)]
    exact tw i i0 i1
  · have i1 : i < t.kH := i1
    rw [hf _ (by omega) (by omega) (by omega) (by omega) (by omega), hf (4 * i + 150) (by omega) (by omega) (by omega) (by omega) (by omega), hf (4 * i + 151) (by omega) (by omega) (by omega) (by omega) (by omega)]
    exact th i i0 i1
  · rw [hf _ (by omega) (by omega) (by omega) (by omega) (by omega)]
    exact ov x g0 g1
  · have i1 : i < t.kS := i1
    rw [hf _ (by omega) (by omega) (by omega) (by omega) (by omega)]
    exact sg i i0 i1
  · show ezp_up t.el a (ezp_up (t.el a) b 1) x y = 1 ↔ ∃ i, 0 ≤ i ∧ i < t.kE + 1 ∧ r78' (2 * i + 171) = x ∧ r78' (2 * i + 172) = y
    have hel := el x y
    constructor
    · intro z
      by_cases exy : x = a ∧ y = b
      · exact ⟨t.kE, d5, by omega, by rw [e1]; exact exy.1.symm, by rw [e2]; exact exy.2.symm⟩
      · have z2 : t.el x y = 1 := by
          by_cases ex : x = a
          · rw [ex, ezp_up_s, ezp_up_o _ _ (fun q => exy ⟨ex, q⟩), ← ex] at z
            exact z
          · rw [ezp_up_o _ _ ex] at z
            exact z
        obtain ⟨i, i0, i1, q1, q2⟩ := hel.mp z2
        exact ⟨i, i0, by omega, by rw [hf _ (by omega) (by omega) (by omega) (by omega) (by omega)]; exact q1, by rw [hf _ (by omega) (by omega) (by omega) (by omega) (by omega)]; exact q2⟩
    · rintro ⟨i, i0, i1, q1, q2⟩
      by_cases e : i = t.kE
      · subst e
        rw [e1] at q1
        rw [e2] at q2
        rw [← q1, ← q2, ezp_up_s, ezp_up_s]
      · rw [hf _ (by omega) (by omega) (by omega) (by omega) (by omega)] at q1 q2
        have z2 := hel.mpr ⟨i, i0, by omega, q1, q2⟩
        by_cases ex : x = a
        · rw [ex, ezp_up_s]
          by_cases ey : y = b
          · rw [ey, ezp_up_s]
          · rw [ezp_up_o _ _ ey, ← ex]
            exact z2
        · rw [ezp_up_o _ _ ex]
          exact z2
  · rw [hf _ (by omega) (by omega) (by omega) (by omega) (by omega)]
    exact nu k k0 k1
theorem ezm_TRE_say {t : ezp_D} {m i20 k v : Int} {r78 r82 r84 r78' : Int → Int} (h : ezm_TRE t m i20 r78 r82 r84) (k0 : 0 ≤ k) (k1 : k < 11) (e1 : r78' (k + 104) = v) (hf : ∀ j, 100 ≤ j → j ≤ 186 → j ≠ k + 104 → r78' j = r78 j) : ezm_TRE (t.say k v) m i20 r78' r82 r84 := by
  obtain ⟨⟨c1, c2, c3, c4⟩, ⟨d1, d2, d3, d4, d5, d6, d7, d8⟩, nm, tw, th, ov, oz, sg, el, nu, s0, on⟩ := h
  refine ⟨⟨?_, ?_, ?_, ?_⟩, ⟨d1, d2, d3, d4, d5, d6, d7, d8⟩, nm, fun i i0 i1 => ?_, fun i i0 i1 => ?_, fun x g0 g1 => ?_, oz, fun i i0 i1 => ?_, fun x y => ?_, fun q q0 q1 => ?_, s0, on⟩
  · rw [hf 100 (by omega) (by omega) (by omega)]; exact c1
  · rw [hf 101 (by omega) (by omega) (by omega)]; exact c2
  · rw [hf 102 (by omega) (by omega) (by omega)]; exact c3
  · rw [hf 103 (by omega) (by omega) (by omega)]; exact c4
  · have i1 : i < t.kT := i1
    rw [hf _ (by omega) (by omega) (by omega), hf (4 * i + 118) (by omega) (by omega) (by omega), hf (4 * i + 119) (by omega) (by omega) (by omega), hf (4 * i + 120) (by omega) (by omega) (by omega)]
    exact tw i i0 i1
  · have i1 : i < t.kH := i1
    rw [hf _ (by omega) (by omega) (by omega), hf (4 * i + 150) (by omega) (by omega) (by omega), hf (4 * i + 151) (by omega) (by omega) (by omega)]
    exact th i i0 i1
  · rw [hf _ (by omega) (by omega) (by omega)]
    exact ov x g0 g1
  · have i1 : i < t.kS := i1
    rw [hf _ (by omega) (by omega) (by omega)]
    exact sg i i0 i1
  · show t.el x y = 1 ↔ _
    rw [el x y]
    constructor
    · rintro ⟨i, i0, i1, e1, e2⟩
      exact ⟨i, i0, i1, by rw [hf _ (by omega) (by omega) (by omega)]; exact e1, by rw [hf _ (by omega) (by omega) (by omega)]; exact e2⟩
    · rintro ⟨i, i0, i1, e1, e2⟩
      have i1 : i < t.kE := i1
      rw [hf _ (by omega) (by omega) (by omega)] at e1 e2
      exact ⟨i, i0, i1, e1, e2⟩
  · show r78' (q + 104) = ezp_up t.nu k v q
    by_cases e : q = k
    · rw [e, ezp_up_s]
      exact e1
    · rw [ezp_up_o _ _ e, hf _ (by omega) (by omega) (by omega)]
      exact nu q q0 q1
theorem ezm_TRE_once {t : ezp_D} {m i20 x20 k : Int} {r78 r82 r84 : Int → Int} (h : ezm_TRE t m i20 r78 r82 r84) (k0 : 0 ≤ k) (k1 : k < 10) (e : x20 = ezw_or i20 (1 * 2 ^ k.toNat)) : ezm_TRE (t.once (ezp_lk k)) m x20 r78 r82 r84 := by
  obtain ⟨h1, h2, nm, tw, th, ov, oz, sg, el, nu, s0, o1, on⟩ := h
  have g3 := ezt_or1 10 (by decide) o1.1 o1.2 k0 k1
  rw [← e] at g3
  refine ⟨h1, h2, nm, tw, th, ov, oz, sg, el, nu, fun z => ?_, ⟨g3.1, g3.2.1⟩, fun j j0 j1 => ?_⟩
  · have z : ezp_up t.di (ezp_lk k) 1 5 ≠ 1 := z
    by_cases e5 : 5 = ezp_lk k
    · rw [← e5, ezp_up_s] at z
      exact absurd rfl z
    · rw [ezp_up_o _ _ e5] at z
      exact s0 z
  · show ezt_b x20 j = ezp_up t.di (ezp_lk k) 1 (ezp_lk j)
    rw [g3.2.2 j j0]
    by_cases ej : j = k
    · rw [if_pos ej, ej, ezp_up_s]
    · rw [if_neg ej, ezp_up_o _ _ (fun z => ej (ezp_lk_inj j0 j1 k0 k1 z))]
      exact on j j0 j1
theorem ezm_TRE_onceX {t : ezp_D} {m i20 w : Int} {r78 r82 r84 : Int → Int} (h : ezm_TRE t m i20 r78 r82 r84) (hw : w = 0 ∨ w = 9 ∨ w = 12 ∨ w = 20) : ezm_TRE (t.once w) m i20 r78 r82 r84 := by
  obtain ⟨h1, h2, nm, tw, th, ov, oz, sg, el, nu, s0, o1, on⟩ := h
  refine ⟨h1, h2, nm, tw, th, ov, oz, sg, el, nu, fun z => ?_, o1, fun j j0 j1 => ?_⟩
  · have z : ezp_up t.di w 1 5 ≠ 1 := z
    rw [ezp_up_o _ _ (by omega)] at z
    exact s0 z
  · show ezt_b i20 j = ezp_up t.di w 1 (ezp_lk j)
    have hx := ezp_lk_x j0 j1
    rw [ezp_up_o _ _ (by omega)]
    exact on j j0 j1
/-- before anything was told -/
theorem ezm_TRE_0 {r78 r82 r84 : Int → Int} (hz : ∀ j, 100 ≤ j → j ≤ 186 → j ≠ 105 → j ≠ 113 → j ≠ 114 → j ≠ 115 → j ≠ 116 → r78 j = 0) (h5 : r78 105 = 9) (h13 : r78 113 = 10) (h14 : r78 114 = 5) : ezm_TRE ezp_D0 0 0 r78 r82 r84 := by
  refine ⟨⟨hz 100 (by omega) (by omega) (by omega) (by omega) (by omega) (by omega) (by omega), hz 101 (by omega) (by omega) (by omega) (by omega) (by omega) (by omega) (by omega), hz 102 (by omega) (by omega) (by omega) (by omega) (by omega) (by omega) (by omega), hz 103 (by omega) (by omega) (by omega) (by omega) (by omega) (by omega) (by omega)⟩, ⟨Int.le_refl 0, by decide, Int.le_refl 0, by decide, Int.le_refl 0, by decide, Int.le_refl 0, by decide⟩, ?_, fun i i0 i1 => absurd (show i < 0 from i1) (by omega), fun i i0 i1 => absurd (show i < 0 from i1) (by omega), fun a g0 g1 => ?_, fun a b g0 g1 q0 q1 => rfl, fun i i0 i1 => absurd (show i < 0 from i1) (by omega), fun x y => ⟨fun z => absurd (show (0 : Int) = 1 from z) (by decide), fun ⟨i, i0, i1, _⟩ => absurd (show i < 0 from i1) (by omega)⟩, fun k k0 k1 => ?_, fun _ => rfl, ⟨Int.le_refl 0, by decide⟩, fun k k0 k1 => ezt_b0 k⟩
  · exact ⟨⟨Int.le_refl 0, by decide, Int.le_refl 0, by decide, Int.le_refl 0⟩, fun k k0 k1 => absurd k1 (by omega), fun i i0 i1 => absurd (show i < 0 from i1) (by omega), fun i i0 i1 => absurd (show i < 0 from i1) (by omega), fun i j i0 i1 => absurd (show i < 0 from i1) (by omega), fun i j i0 i1 => absurd (show i < 0 from i1) (by omega), fun i j i0 i1 => absurd (show i < 0 from i1) (by omega)⟩
  · rw [hz _ (by omega) (by omega) (by omega) (by omega) (by omega) (by omega) (by omega)]
    exact ⟨⟨by decide, by decide⟩, fun b _ _ => ezt_b0 b⟩
  · show r78 (k + 104) = ezp_fn k
    rcases (show k = 0 ∨ k = 1 ∨ k = 2 ∨ k = 3 ∨ k = 4 ∨ k = 5 ∨ k = 6 ∨ k = 7 ∨ k = 8 ∨ k = 9 ∨ k = 10 by omega) with rfl | rfl | rfl | rfl | rfl | rfl | rfl | rfl | rfl | rfl | rfl
    · exact hz 104 (by omega) (by omega) (by omega) (by omega) (by omega) (by omega) (by omega)
    · exact h5
    · exact hz 106 (by omega) (by omega) (by omega) (by omega) (by omega) (by omega) (by omega)
    · exact hz 107 (by omega) (by omega) (by omega) (by omega) (by omega) (by omega) (by omega)
    · exact hz 108 (by omega) (by omega) (by omega) (by omega) (by omega) (by omega) (by omega)
    · exact hz 109 (by omega) (by omega) (by omega) (by omega) (by omega) (by omega) (by omega)
    · exact hz 110 (by omega) (by omega) (by omega) (by omega) (by omega) (by omega) (by omega)
    · exact hz 111 (by omega) (by omega) (by omega) (by omega) (by omega) (by omega) (by omega)
    · exact hz 112 (by omega) (by omega) (by omega) (by omega) (by omega) (by omega) (by omega)
    · exact h13
    · exact h14
/-- a line up to its end -/
def ezp_lb (c : Int → Int) (t : ezp_D) (s : Int × Int) : (Int × Int) × ezp_D := if (ezp_cf c t s).1 = 0 then ezp_lw c (ezp_K c s.2) (t.once (ezp_K c s.2)) (ezp_t s) else (ezp_cf c t s, t)
theorem ezp_lne_b {c : Int → Int} {t : ezp_D} {s : Int × Int} : ezp_lne c t s = (ezp_w c 259 (ezp_lb c t s).1, (ezp_lb c t s).2) := by
  unfold ezp_lne ezp_lb
  by_cases h : (ezp_cf c t s).1 = 0
  · rw [if_pos h, if_pos h]
  · rw [if_neg h, if_neg h, ezp_w_n h]
section
variable {c : Int → Int} {t : ezp_D} {s : Int × Int}
theorem ezp_lb_5 (hP : 0 ≤ ezp_P c s.2) (z : s.1 = 0) (h : ezp_K c s.2 = 0 ∧ 8 ≤ t.kT ∨ ezp_K c s.2 = 9 ∧ 4 ≤ t.kH ∨ ezp_K c s.2 = 20 ∧ 8 ≤ t.kE) : ezp_lb c t s = (ezp_wr c 5 s, t) := by
  have e : ezp_cf c t s = ezp_wr c 5 s := by
    unfold ezp_cf
    rcases h with ⟨h1, h2⟩ | ⟨h1, h2⟩ | ⟨h1, h2⟩
    · rw [if_pos h1, if_pos h2]
    · rw [if_neg (by omega), if_pos h1, if_pos h2]
    · rw [if_neg (by omega), if_neg (by omega), if_pos h1, if_pos h2]
  unfold ezp_lb
  rw [e, if_neg (ezp_wr_f (by decide) hP)]
theorem ezp_lb_0 (z : s.1 = 0) (h : ezp_K c s.2 = 0 ∧ t.kT < 8 ∨ ezp_K c s.2 = 9 ∧ t.kH < 4 ∨ ezp_K c s.2 = 20 ∧ t.kE < 8 ∨ ezp_K c s.2 = 12 ∨ ezp_wds (ezp_K c s.2) ∧ t.di (ezp_K c s.2) ≠ 1) : ezp_lb c t s = ezp_lw c (ezp_K c s.2) (t.once (ezp_K c s.2)) (ezp_t s) := by
  have e : ezp_cf c t s = s := by
    unfold ezp_cf
    rcases h with ⟨h1, h2⟩ | ⟨h1, h2⟩ | ⟨h1, h2⟩ | h1 | ⟨h1, h2⟩
    · rw [if_pos h1, if_neg (by omega)]
    · rw [if_neg (by omega), if_pos h1, if_neg (by omega)]
    · rw [if_neg (by omega), if_neg (by omega), if_pos h1, if_neg (by omega)]
    · rw [if_neg (by omega), if_neg (by omega), if_neg (by omega), if_pos h1]
    · have h3 := h1
      unfold ezp_wds at h3
      rw [if_neg (by omega), if_neg (by omega), if_neg (by omega), if_neg (by omega), if_pos h3, if_neg h2]
  unfold ezp_lb
  rw [e, if_pos z]
theorem ezp_lb_3 (hP : 0 ≤ ezp_P c s.2) (z : s.1 = 0) (h : ezp_wds (ezp_K c s.2) ∧ t.di (ezp_K c s.2) = 1) : ezp_lb c t s = (ezp_wr c 3 s, t) := by
  have e : ezp_cf c t s = ezp_wr c 3 s := by
    unfold ezp_cf
    have h3 := h.1
    unfold ezp_wds at h3
    rw [if_neg (by omega), if_neg (by omega), if_neg (by omega), if_neg (by omega), if_pos h3, if_pos h.2]
  unfold ezp_lb
  rw [e, if_neg (ezp_wr_f (by decide) hP)]
theorem ezp_lb_1 (hP : 0 ≤ ezp_P c s.2) (z : s.1 = 0) (h : ezp_K c s.2 ≠ 0 ∧ ezp_K c s.2 ≠ 9 ∧ ezp_K c s.2 ≠ 20 ∧ ezp_K c s.2 ≠ 12 ∧ ¬ ezp_wds (ezp_K c s.2)) : ezp_lb c t s = (ezp_wr c 1 s, t) := by
  have e : ezp_cf c t s = ezp_wr c 1 s := by
    unfold ezp_cf
    obtain ⟨g1, g2, g3, g4, g5⟩ := h
    unfold ezp_wds at g5
    rw [if_neg g1, if_neg g2, if_neg g3, if_neg g4, if_neg g5]
  unfold ezp_lb
  rw [e, if_neg (ezp_wr_f (by decide) hP)]
end
