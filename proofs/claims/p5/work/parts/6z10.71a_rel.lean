/-! ===== the model's words, as the class's tokens ===== -/
def ezm_TK (c : Int → Int) (n : Int) (r74 r75 r76 : Int → Int) : Prop := (∀ k, 0 ≤ ezp_P c k) ∧ ∀ j, 0 ≤ j → j ≤ n → r75 j = ezp_P c j ∧ (r74 j = 1 → ezp_ok (ezp_W c j) ∧ r76 j = ezp_v 37 (ezp_W c j)) ∧ (r74 j = 0 ∧ ezp_K c j = 102 ∨ r74 j = 1 ∧ (0 ≤ ezp_ix (ezp_W c j) ∧ ezp_ix (ezp_W c j) < 44 ∧ ezp_K c j = ezp_ix (ezp_W c j) ∨ (ezp_ix (ezp_W c j) < 0 ∨ 44 ≤ ezp_ix (ezp_W c j)) ∧ ezp_K c j = 100) ∨ r74 j = 2 ∧ ezp_K c j = 101 ∧ r76 j = ezp_V c j ∨ r74 j = 3 ∧ ezp_K c j = 200 + r76 j ∧ 40 ≤ r76 j ∧ r76 j ≤ 61 ∨ r74 j = 4 ∧ ezp_K c j = 103)
/-- an implication that is not looked into -/
def ezm_I (p q : Prop) : Prop := p → q
/-- where the model stands -/
def ezm_ST (s : Int × Int) (i8 i7 : Int) : Prop := i8 = s.1 ∧ (s.1 = 0 → i7 = s.2)
theorem ezm_TKi {c : Int → Int} {n : Int} {r74 r75 r76 : Int → Int} {s : Int × Int} {i8 i7 : Int} (tk : ezm_TK c n r74 r75 r76) (st : ezm_ST s i8 i7) (hn : 0 ≤ i7 ∧ i7 ≤ n) : i8 = s.1 ∧ (s.1 = 0 → i7 = s.2) ∧ (s.1 = 0 → r75 i7 = ezp_P c s.2) ∧ 0 ≤ ezp_P c s.2 ∧ (s.1 = 0 → r74 i7 = 1 → ezp_ok (ezp_W c s.2) ∧ r76 i7 = ezp_v 37 (ezp_W c s.2)) ∧ (s.1 = 0 → (r74 i7 = 0 ∧ ezp_K c s.2 = 102 ∨ r74 i7 = 1 ∧ (0 ≤ ezp_ix (ezp_W c s.2) ∧ ezp_ix (ezp_W c s.2) < 44 ∧ ezp_K c s.2 = ezp_ix (ezp_W c s.2) ∨ (ezp_ix (ezp_W c s.2) < 0 ∨ 44 ≤ ezp_ix (ezp_W c s.2)) ∧ ezp_K c s.2 = 100) ∨ r74 i7 = 2 ∧ ezp_K c s.2 = 101 ∧ r76 i7 = ezp_V c s.2 ∨ r74 i7 = 3 ∧ ezp_K c s.2 = 200 + r76 i7 ∧ 40 ≤ r76 i7 ∧ r76 i7 ≤ 61 ∨ r74 i7 = 4 ∧ ezp_K c s.2 = 103)) := by
  obtain ⟨t1, t2⟩ := tk
  refine ⟨st.1, st.2, fun z => ?_, t1 _, fun z => ?_, fun z => ?_⟩
  · rw [← st.2 z]
    exact (t2 i7 hn.1 hn.2).1
  · rw [← st.2 z]
    exact (t2 i7 hn.1 hn.2).2.1
  · rw [← st.2 z]
    exact (t2 i7 hn.1 hn.2).2.2
theorem ezm_ST_t {s : Int × Int} {i8 i7 x8 x7 : Int} (st : ezm_ST s i8 i7) (e8 : x8 = i8) (e7 : i8 = 0 → x7 = i7 + 1) : ezm_ST (ezp_t s) x8 x7 := by
  obtain ⟨h1, h2⟩ := st
  unfold ezp_t
  by_cases e : s.1 = 0
  · rw [if_pos e]
    exact ⟨by show x8 = 0; omega, fun _ => by have := h2 e; show x7 = s.2 + 1; omega⟩
  · rw [if_neg e]
    exact ⟨by omega, fun z => absurd z e⟩
theorem ezm_ST_wr {c : Int → Int} {h : Int} {s : Int × Int} {i8 i7 x8 x7 : Int} (st : ezm_ST s i8 i7) (hh : 1 ≤ h) (hP : 0 ≤ ezp_P c s.2) (e0 : s.1 = 0 → x8 = h + 16 * ezp_P c s.2) (en : s.1 ≠ 0 → x8 = i8) : ezm_ST (ezp_wr c h s) x8 x7 := by
  obtain ⟨h1, h2⟩ := st
  unfold ezp_wr
  by_cases e : s.1 = 0
  · rw [if_pos e]
    exact ⟨e0 e, fun z => absurd z (by show ¬ h + 16 * ezp_P c s.2 = 0; omega)⟩
  · rw [if_neg e]
    exact ⟨by have := en e; omega, fun z => absurd z e⟩
/-- a fault: the place may move -/
theorem ezm_ST_x {s : Int × Int} {i8 i7 x7 : Int} (st : ezm_ST s i8 i7) (e : i8 ≠ 0) : ezm_ST s i8 x7 := ⟨st.1, fun z => absurd (st.1.trans z) e⟩
theorem ezm_ST_7 {s : Int × Int} {i8 i7 x8 x7 : Int} (st : ezm_ST s i8 i7) (e8 : x8 = i8) (e7 : i8 = 0 → x7 = i7) : ezm_ST s x8 x7 := ⟨e8.trans st.1, fun z => by have h := st.2 z; have h1 := st.1; have h2 := e7 (by omega); omega⟩
theorem ezm_ixw {r77 : Int → Int} {l : List Int} {v a : Int} (hM : ∀ w, 0 ≤ w → w < 48 → r77 w = ezl_mw.getD w.toNat 0) (hl : ezp_ok l ∧ v = ezp_v 37 l) (h : 0 ≤ a ∧ a ≤ 47) : v = r77 a ↔ ezp_ix l = a := by
  rw [hM a h.1 (by omega), ezp_mw h.1 (by omega), hl.2]
  exact ezp_isw (Or.inr rfl) h.1 (by omega) hl.1
section
variable {c : Int → Int} {lo hi a m : Int} {s : Int × Int}
theorem ezp_nE1 (h : ¬ (s.1 = 0 ∧ ezp_K c s.2 = 101)) (hP : 0 ≤ ezp_P c s.2) : ezp_n c lo hi s = ezp_wr c 1 s := by
  unfold ezp_n ezp_sn
  rw [if_neg h]
  by_cases e : s.1 = 0
  · exact ezp_t_n (ezp_wr_f (by decide) hP)
  · rw [ezp_wr_n e, ezp_t_n e]
theorem ezp_nE4 (h : s.1 = 0 ∧ ezp_K c s.2 = 101) (hv : ezp_V c s.2 < lo ∨ hi < ezp_V c s.2) (hP : 0 ≤ ezp_P c s.2) : ezp_n c lo hi s = ezp_wr c 4 s := by
  unfold ezp_n ezp_sn
  rw [if_pos h, if_pos hv]
  exact ezp_t_n (ezp_wr_f (by decide) hP)
theorem ezp_nE0 (h : s.1 = 0 ∧ ezp_K c s.2 = 101) (hv : ¬ (ezp_V c s.2 < lo ∨ hi < ezp_V c s.2)) : ezp_n c lo hi s = ezp_t s := by
  unfold ezp_n ezp_sn
  rw [if_pos h, if_neg hv]
theorem ezp_oE1 (h : ¬ (s.1 = 0 ∧ a ≤ ezp_K c s.2 ∧ ezp_K c s.2 < a + m)) : ezp_o c a m s = ezp_wr c 1 s := if_neg h
theorem ezp_oE0 (h : s.1 = 0 ∧ a ≤ ezp_K c s.2 ∧ ezp_K c s.2 < a + m) : ezp_o c a m s = ezp_t s := if_pos h
theorem ezp_seE1 {nm : Int → List Int} {k : Int} (h : ¬ (s.1 = 0 ∧ ezp_K c s.2 = 100)) : ezp_se c nm k s = ezp_wr c 1 s := if_neg h
theorem ezp_seE2 {nm : Int → List Int} {k : Int} (h : s.1 = 0 ∧ ezp_K c s.2 = 100) (h2 : ezp_fi nm k (ezp_W c s.2) = -1) : ezp_se c nm k s = ezp_wr c 2 s := (if_pos h).trans (if_pos h2)
theorem ezp_seE0 {nm : Int → List Int} {k : Int} (h : s.1 = 0 ∧ ezp_K c s.2 = 100) (h2 : ezp_fi nm k (ezp_W c s.2) ≠ -1) : ezp_se c nm k s = s := (if_pos h).trans (if_neg h2)
theorem ezp_nnE1 {nT nH : Int → List Int} {k k2 : Int} (h : ¬ (s.1 = 0 ∧ ezp_K c s.2 = 100)) : ezp_nn c nT k nH k2 s = ezp_wr c 1 s := if_neg h
theorem ezp_nnE3 {nT nH : Int → List Int} {k k2 : Int} (h : s.1 = 0 ∧ ezp_K c s.2 = 100) (h2 : ezp_fi nT k (ezp_W c s.2) ≠ -1 ∨ ezp_fi nH k2 (ezp_W c s.2) ≠ -1) : ezp_nn c nT k nH k2 s = ezp_wr c 3 s := (if_pos h).trans (if_pos h2)
theorem ezp_nnE0 {nT nH : Int → List Int} {k k2 : Int} (h : s.1 = 0 ∧ ezp_K c s.2 = 100) (h2 : ezp_fi nT k (ezp_W c s.2) = -1 ∧ ezp_fi nH k2 (ezp_W c s.2) = -1) : ezp_nn c nT k nH k2 s = ezp_t s := (if_pos h).trans (if_neg (fun z => z.elim (fun y => y h2.1) (fun y => y h2.2)))
end
/-! ===== names ===== -/
def ezm_NM (nT : Int → List Int) (kT : Int) (nH : Int → List Int) (kH : Int) (m : Int) (r82 r84 : Int → Int) : Prop := (0 ≤ kT ∧ kT ≤ 8 ∧ 0 ≤ kH ∧ kH ≤ 4 ∧ 0 ≤ m) ∧ (∀ k, 0 ≤ k → k < m → (0 ≤ r84 k ∧ r84 k < kT ∧ r82 k = ezp_v 37 (nT (r84 k))) ∨ (20 ≤ r84 k ∧ r84 k < kH + 20 ∧ r82 k = ezp_v 37 (nH (r84 k - 20)))) ∧ (∀ i, 0 ≤ i → i < kT → ezp_ok (nT i) ∧ ∃ k, 0 ≤ k ∧ k < m ∧ r84 k = i) ∧ (∀ i, 0 ≤ i → i < kH → ezp_ok (nH i) ∧ ∃ k, 0 ≤ k ∧ k < m ∧ r84 k = i + 20) ∧ (∀ i j, 0 ≤ i → i < kT → 0 ≤ j → j < kT → nT i = nT j → i = j) ∧ (∀ i j, 0 ≤ i → i < kH → 0 ≤ j → j < kH → nH i = nH j → i = j) ∧ (∀ i j, 0 ≤ i → i < kT → 0 ≤ j → j < kH → nT i ≠ nH j)
def ezp_fa (nT : Int → List Int) (kT : Int) (nH : Int → List Int) (kH : Int) (l : List Int) : Int := if ezp_fi nT kT l ≠ -1 then ezp_fi nT kT l else if ezp_fi nH kH l ≠ -1 then ezp_fi nH kH l + 20 else -1
theorem ezm_NM_hit {nT nH : Int → List Int} {kT kH m k : Int} {r82 r84 : Int → Int} {l : List Int} (h : ezm_NM nT kT nH kH m r82 r84) (k0 : 0 ≤ k) (k1 : k < m) (hl : ezp_ok l) (e : r82 k = ezp_v 37 l) : r84 k = ezp_fa nT kT nH kH l := by
  obtain ⟨⟨a1, a2, a3, a4, a5⟩, h1, h2, h3, h4, h5, h6⟩ := h
  unfold ezp_fa
  rcases h1 k k0 k1 with ⟨g1, g2, g3⟩ | ⟨g1, g2, g3⟩
  · have hn : nT (r84 k) = l := ezp_vinj (Or.inr rfl) _ _ (h2 _ g1 g2).1 hl (by rw [← g3, e])
    rcases ezp_fi_r nT l a1 with ⟨f1, f2⟩ | ⟨f1, f2, f3, _⟩
    · exact absurd hn (f2 _ g1 g2)
    · rw [if_pos (by omega)]
      exact h4 _ _ g1 g2 f1 f2 (by rw [f3]; exact hn)
  · have hn : nH (r84 k - 20) = l := ezp_vinj (Or.inr rfl) _ _ (h3 _ (by omega) (by omega)).1 hl (by rw [← g3, e])
    rcases ezp_fi_r nT l a1 with ⟨f1, f2⟩ | ⟨f1, f2, f3, _⟩
    · rw [if_neg (by omega)]
      rcases ezp_fi_r nH l a3 with ⟨q1, q2⟩ | ⟨q1, q2, q3, _⟩
      · exact absurd hn (q2 _ (by omega) (by omega))
      · rw [if_pos (by omega)]
        have := h5 _ _ (show 0 ≤ r84 k - 20 by omega) (by omega) q1 q2 (by rw [q3]; exact hn)
        omega
    · exact absurd (f3.trans hn.symm) (h6 _ _ f1 f2 (by omega) (by omega))
theorem ezm_NM_no {nT nH : Int → List Int} {kT kH m : Int} {r82 r84 : Int → Int} {l : List Int} (h : ezm_NM nT kT nH kH m r82 r84) (hn : ∀ k, 0 ≤ k → k < m → r82 k ≠ ezp_v 37 l) : ezp_fa nT kT nH kH l = -1 := by
  obtain ⟨⟨a1, a2, a3, a4, a5⟩, h1, h2, h3, h4, h5, h6⟩ := h
  unfold ezp_fa
  rcases ezp_fi_r nT l a1 with ⟨f1, f2⟩ | ⟨f1, f2, f3, _⟩
  · rw [if_neg (by omega)]
    rcases ezp_fi_r nH l a3 with ⟨q1, q2⟩ | ⟨q1, q2, q3, _⟩
    · rw [if_neg (by omega)]
    · obtain ⟨k, k0, k1, k2⟩ := (h3 _ q1 q2).2
      rcases h1 k k0 k1 with ⟨g1, g2, g3⟩ | ⟨g1, g2, g3⟩
      · omega
      · refine absurd ?_ (hn k k0 k1)
        rw [g3, show r84 k - 20 = ezp_fi nH kH l by omega, q3]
  · obtain ⟨k, k0, k1, k2⟩ := (h2 _ f1 f2).2
    rcases h1 k k0 k1 with ⟨g1, g2, g3⟩ | ⟨g1, g2, g3⟩
    · refine absurd ?_ (hn k k0 k1)
      rw [g3, show r84 k = ezp_fi nT kT l by omega, f3]
    · omega
/-- what is found, told of a twig -/
theorem ezm_NM_fT {nT nH : Int → List Int} {kT kH m : Int} {r82 r84 : Int → Int} {l : List Int} (h : ezm_NM nT kT nH kH m r82 r84) : (ezp_fi nT kT l ≠ -1 → ezp_fa nT kT nH kH l = ezp_fi nT kT l ∧ 0 ≤ ezp_fi nT kT l ∧ ezp_fi nT kT l < kT) ∧ (ezp_fi nT kT l = -1 → ezp_fa nT kT nH kH l = -1 ∨ 20 ≤ ezp_fa nT kT nH kH l) := by
  obtain ⟨⟨a1, a2, a3, a4, a5⟩, -⟩ := h
  unfold ezp_fa
  rcases ezp_fi_r nT l a1 with ⟨f1, f2⟩ | ⟨f1, f2, f3, _⟩
  · refine ⟨fun z => absurd f1 z, fun _ => ?_⟩
    rw [if_neg (by omega)]
    rcases ezp_fi_r nH l a3 with ⟨q1, q2⟩ | ⟨q1, q2, q3, _⟩
    · rw [if_neg (by omega)]
      exact Or.inl rfl
    · rw [if_pos (by omega)]
      exact Or.inr (by omega)
  · refine ⟨fun z => ?_, fun z => absurd z (by omega)⟩
    rw [if_pos z]
    exact ⟨rfl, f1, f2⟩
/-- told of a thing -/
theorem ezm_NM_fH {nT nH : Int → List Int} {kT kH m : Int} {r82 r84 : Int → Int} {l : List Int} (h : ezm_NM nT kT nH kH m r82 r84) : (ezp_fi nH kH l ≠ -1 → ezp_fa nT kT nH kH l = ezp_fi nH kH l + 20 ∧ 0 ≤ ezp_fi nH kH l ∧ ezp_fi nH kH l < kH) ∧ (ezp_fi nH kH l = -1 → ezp_fa nT kT nH kH l < 20) := by
  obtain ⟨⟨a1, a2, a3, a4, a5⟩, h1, h2, h3, h4, h5, h6⟩ := h
  unfold ezp_fa
  rcases ezp_fi_r nT l a1 with ⟨f1, f2⟩ | ⟨f1, f2, f3, _⟩
  · rw [if_neg (by omega)]
    rcases ezp_fi_r nH l a3 with ⟨q1, q2⟩ | ⟨q1, q2, q3, _⟩
    · refine ⟨fun z => absurd q1 z, fun _ => ?_⟩
      rw [if_neg (by omega)]
      decide
    · refine ⟨fun z => ?_, fun z => absurd z (by omega)⟩
      rw [if_pos z]
      exact ⟨rfl, q1, q2⟩
  · rw [if_pos (by omega)]
    rcases ezp_fi_r nH l a3 with ⟨q1, q2⟩ | ⟨q1, q2, q3, _⟩
    · exact ⟨fun z => absurd q1 z, fun _ => by omega⟩
    · exact absurd (f3.trans q3.symm) (h6 _ _ f1 f2 q1 q2)
/-- a new name is none of the old -/
theorem ezm_NM_fN {nT nH : Int → List Int} {kT kH m : Int} {r82 r84 : Int → Int} {l : List Int} (h : ezm_NM nT kT nH kH m r82 r84) : (ezp_fa nT kT nH kH l < 0 → ezp_fi nT kT l = -1 ∧ ezp_fi nH kH l = -1) ∧ (0 ≤ ezp_fa nT kT nH kH l → ezp_fi nT kT l ≠ -1 ∨ ezp_fi nH kH l ≠ -1) := by
  have hT := ezm_NM_fT (l := l) h
  have hH := ezm_NM_fH (l := l) h
  obtain ⟨⟨a1, a2, a3, a4, a5⟩, -⟩ := h
  have r1 : ezp_fi nT kT l = -1 ∨ 0 ≤ ezp_fi nT kT l := by
    rcases ezp_fi_r nT l a1 with ⟨f1, _⟩ | ⟨f1, _⟩ <;> omega
  have r2 : ezp_fi nH kH l = -1 ∨ 0 ≤ ezp_fi nH kH l := by
    rcases ezp_fi_r nH l a3 with ⟨f1, _⟩ | ⟨f1, _⟩ <;> omega
  refine ⟨fun z => ⟨by omega, by omega⟩, fun z => ?_⟩
  by_cases e : ezp_fi nT kT l = -1
  · by_cases e2 : ezp_fi nH kH l = -1
    · have : ezp_fa nT kT nH kH l = -1 := by
        unfold ezp_fa
        rw [if_neg (by omega), if_neg (by omega)]
      omega
    · exact Or.inr e2
  · exact Or.inl e
theorem ezp_fi_none {nm : Int → List Int} {k : Int} {l : List Int} (h0 : 0 ≤ k) (h : ezp_fi nm k l = -1) : ∀ i, 0 ≤ i → i < k → nm i ≠ l := by
  rcases ezp_fi_r nm l h0 with ⟨_, f2⟩ | ⟨f1, _⟩
  · exact f2
  · omega
theorem ezm_NM_T {nT nH : Int → List Int} {kT kH m : Int} {r82 r84 r82' r84' : Int → Int} {l : List Int} (h : ezm_NM nT kT nH kH m r82 r84) (hk : kT < 8) (hl : ezp_ok l) (hf : ezp_fi nT kT l = -1 ∧ ezp_fi nH kH l = -1) (e1 : r82' m = ezp_v 37 l) (e2 : r84' m = kT) (f1 : ∀ j, j ≠ m → r82' j = r82 j) (f2 : ∀ j, j ≠ m → r84' j = r84 j) : ezm_NM (ezp_up nT kT l) (kT + 1) nH kH (m + 1) r82' r84' := by
  obtain ⟨⟨a1, a2, a3, a4, a5⟩, h1, h2, h3, h4, h5, h6⟩ := h
  have g1 := ezp_fi_none a1 hf.1
  have g2 := ezp_fi_none a3 hf.2
  refine ⟨⟨by omega, by omega, a3, a4, by omega⟩, fun k k0 k1 => ?_, fun i i0 i1 => ?_, fun i i0 i1 => ?_, fun i j i0 i1 j0 j1 e => ?_, h5, fun i j i0 i1 j0 j1 => ?_⟩
  · by_cases e : k = m
    · subst e
      rw [e1, e2]
      exact Or.inl ⟨a1, by omega, by rw [ezp_up_s]⟩
    · rw [f1 k e, f2 k e]
      rcases h1 k k0 (by omega) with ⟨q1, q2, q3⟩ | q
      · exact Or.inl ⟨q1, by omega, by rw [ezp_up_o _ _ (by omega)]; exact q3⟩
      · exact Or.inr q
  · by_cases e : i = kT
    · subst e
      rw [ezp_up_s]
      exact ⟨hl, m, a5, by omega, e2⟩
    · rw [ezp_up_o _ _ e]
      obtain ⟨q1, k, k0, k1, k2⟩ := h2 i i0 (by omega)
      exact ⟨q1, k, k0, by omega, by rw [f2 k (by omega)]; exact k2⟩
  · obtain ⟨q1, k, k0, k1, k2⟩ := h3 i i0 i1
    exact ⟨q1, k, k0, by omega, by rw [f2 k (by omega)]; exact k2⟩
  · by_cases ei : i = kT
    · by_cases ej : j = kT
      · omega
      · rw [ei, ezp_up_s, ezp_up_o _ _ ej] at e
        exact absurd e.symm (g1 j j0 (by omega))
    · by_cases ej : j = kT
      · rw [ej, ezp_up_s, ezp_up_o _ _ ei] at e
        exact absurd e (g1 i i0 (by omega))
      · rw [ezp_up_o _ _ ei, ezp_up_o _ _ ej] at e
        exact h4 i j i0 (by omega) j0 (by omega) e
  · by_cases ei : i = kT
    · rw [ei, ezp_up_s]
      exact fun z => g2 j j0 j1 z.symm
    · rw [ezp_up_o _ _ ei]
      exact h6 i j i0 (by omega) j0 j1
theorem ezm_NM_H {nT nH : Int → List Int} {kT kH m : Int} {r82 r84 r82' r84' : Int → Int} {l : List Int} (h : ezm_NM nT kT nH kH m r82 r84) (hk : kH < 4) (hl : ezp_ok l) (hf : ezp_fi nT kT l = -1 ∧ ezp_fi nH kH l = -1) (e1 : r82' m = ezp_v 37 l) (e2 : r84' m = kH + 20) (f1 : ∀ j, j ≠ m → r82' j = r82 j) (f2 : ∀ j, j ≠ m → r84' j = r84 j) : ezm_NM nT kT (ezp_up nH kH l) (kH + 1) (m + 1) r82' r84' := by
  obtain ⟨⟨a1, a2, a3, a4, a5⟩, h1, h2, h3, h4, h5, h6⟩ := h
  have g1 := ezp_fi_none a1 hf.1
  have g2 := ezp_fi_none a3 hf.2
  refine ⟨⟨a1, a2, by omega, by omega, by omega⟩, fun k k0 k1 => ?_, fun i i0 i1 => ?_, fun i i0 i1 => ?_, h4, fun i j i0 i1 j0 j1 e => ?_, fun i j i0 i1 j0 j1 => ?_⟩
  · by_cases e : k = m
    · subst e
      rw [e1, e2]
      exact Or.inr ⟨by omega, by omega, by rw [show kH + 20 - 20 = kH by omega, ezp_up_s]⟩
    · rw [f1 k e, f2 k e]
      rcases h1 k k0 (by omega) with q | ⟨q1, q2, q3⟩
      · exact Or.inl q
      · exact Or.inr ⟨q1, by omega, by rw [ezp_up_o _ _ (by omega)]; exact q3⟩
  · obtain ⟨q1, k, k0, k1, k2⟩ := h2 i i0 i1
    exact ⟨q1, k, k0, by omega, by rw [f2 k (by omega)]; exact k2⟩
  · by_cases e : i = kH
    · subst e
      rw [ezp_up_s]
      exact ⟨hl, m, a5, by omega, e2⟩
    · rw [ezp_up_o _ _ e]
      obtain ⟨q1, k, k0, k1, k2⟩ := h3 i i0 (by omega)
      exact ⟨q1, k, k0, by omega, by rw [f2 k (by omega)]; exact k2⟩
  · by_cases ei : i = kH
    · by_cases ej : j = kH
      · omega
      · rw [ei, ezp_up_s, ezp_up_o _ _ ej] at e
        exact absurd e.symm (g2 j j0 (by omega))
    · by_cases ej : j = kH
      · rw [ej, ezp_up_s, ezp_up_o _ _ ei] at e
        exact absurd e (g2 i i0 (by omega))
      · rw [ezp_up_o _ _ ei, ezp_up_o _ _ ej] at e
        exact h5 i j i0 (by omega) j0 (by omega) e
  · by_cases ej : j = kH
    · rw [ej, ezp_up_s]
      exact g1 i i0 i1
    · rw [ezp_up_o _ _ ej]
      exact h6 i j i0 i1 j0 (by omega)
/-- with one more name -/
theorem ezp_fi_up {nm : Int → List Int} {k : Int} {l w : List Int} (h0 : 0 ≤ k) : (ezp_fi nm k w ≠ -1 → ezp_fi (ezp_up nm k l) (k + 1) w = ezp_fi nm k w) ∧ (ezp_fi nm k w = -1 → (l = w → ezp_fi (ezp_up nm k l) (k + 1) w = k) ∧ (l ≠ w → ezp_fi (ezp_up nm k l) (k + 1) w = -1)) := by
  rcases ezp_fi_r nm w h0 with ⟨f1, f2⟩ | ⟨f1, f2, f3, f4⟩
  · refine ⟨fun z => absurd f1 z, fun _ => ⟨fun e => ?_, fun e => ?_⟩⟩
    · refine ezp_fi_eq (by omega) h0 (by omega) (by rw [ezp_up_s]; exact e) (fun j j0 j1 => ?_)
      rw [ezp_up_o _ _ (by omega)]
      exact f2 j j0 j1
    · refine ezp_fi_no (by omega) (fun j j0 j1 => ?_)
      by_cases ej : j = k
      · rw [ej, ezp_up_s]
        exact e
      · rw [ezp_up_o _ _ ej]
        exact f2 j j0 (by omega)
  · refine ⟨fun _ => ?_, fun z => absurd z (by omega)⟩
    refine ezp_fi_eq (by omega) f1 (by omega) (by rw [ezp_up_o _ _ (by omega)]; exact f3) (fun j j0 j1 => ?_)
    rw [ezp_up_o _ _ (by omega)]
    exact f4 j j0 j1
/-- a twig told of itself is no twig yet -/
theorem ezp_se_own {c : Int → Int} {nm : Int → List Int} {k : Int} {l : List Int} {s : Int × Int} (h0 : 0 ≤ k) : (s.1 = 0 → ezp_K c s.2 = 100 → ezp_fi (ezp_up nm k l) (k + 1) (ezp_W c s.2) = k → ezp_se c nm k s = ezp_wr c 2 s) ∧ ((s.1 = 0 → ezp_K c s.2 = 100 → ezp_fi (ezp_up nm k l) (k + 1) (ezp_W c s.2) ≠ k) → ezp_se c nm k s = ezp_se c (ezp_up nm k l) (k + 1) s ∧ (s.1 = 0 → ezp_K c s.2 = 100 → ezp_fi nm k (ezp_W c s.2) = ezp_fi (ezp_up nm k l) (k + 1) (ezp_W c s.2))) := by
  have hu := ezp_fi_up (nm := nm) (k := k) (l := l) (w := ezp_W c s.2) h0
  have hr : ezp_fi nm k (ezp_W c s.2) = -1 ∨ 0 ≤ ezp_fi nm k (ezp_W c s.2) ∧ ezp_fi nm k (ezp_W c s.2) < k := by
    rcases ezp_fi_r nm (ezp_W c s.2) h0 with ⟨f1, _⟩ | ⟨f1, f2, _⟩
    · exact Or.inl f1
    · exact Or.inr ⟨f1, f2⟩
  refine ⟨fun z z1 z2 => ?_, fun z => ?_⟩
  · refine ezp_seE2 ⟨z, z1⟩ ?_
    rcases hr with h | ⟨h1, h2⟩
    · exact h
    · have := hu.1 (by omega)
      omega
  · have he : s.1 = 0 → ezp_K c s.2 = 100 → ezp_fi nm k (ezp_W c s.2) = ezp_fi (ezp_up nm k l) (k + 1) (ezp_W c s.2) := fun z1 z2 => by
      have h3 := z z1 z2
      by_cases e : ezp_fi nm k (ezp_W c s.2) = -1
      · by_cases e2 : l = ezp_W c s.2
        · exact absurd ((hu.2 e).1 e2) h3
        · rw [(hu.2 e).2 e2, e]
      · exact (hu.1 e).symm
    refine ⟨?_, he⟩
    by_cases z1 : s.1 = 0 ∧ ezp_K c s.2 = 100
    · by_cases e : ezp_fi nm k (ezp_W c s.2) = -1
      · rw [ezp_seE2 z1 e, ezp_seE2 z1 (by rw [← he z1.1 z1.2]; exact e)]
      · rw [ezp_seE0 z1 e, ezp_seE0 z1 (by rw [← he z1.1 z1.2]; exact e)]
    · rw [ezp_seE1 z1, ezp_seE1 z1]
