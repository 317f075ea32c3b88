/-! ===== the model's lines: what is wanted ===== -/
theorem ezm_on {c : Int → Int} {nm : Int → List Int} {k u y8 y7 : Int} {l : List Int} {s : Int × Int} (h0 : 0 ≤ k) (st : ezm_ST (ezp_se c (ezp_up nm k l) (k + 1) s) y8 y7) (v : y8 = 0 → u = ezp_fi (ezp_up nm k l) (k + 1) (ezp_W c s.2) ∧ ezp_K c s.2 = 100 ∧ 0 ≤ u ∧ u < k + 1 ∧ s.1 = 0) : (y8 = 0 → u = k → ezp_se c nm k s = ezp_wr c 2 s ∧ ezp_se c (ezp_up nm k l) (k + 1) s = s) ∧ ((y8 = 0 → u ≠ k) → ezp_se c nm k s = ezp_se c (ezp_up nm k l) (k + 1) s ∧ (y8 = 0 → ezp_fi nm k (ezp_W c s.2) = u)) := by
  have ho := ezp_se_own (c := c) (nm := nm) (k := k) (l := l) (s := s) h0
  refine ⟨fun z zu => ?_, fun z => ?_⟩
  · obtain ⟨v1, v2, v3, v4, v5⟩ := v z
    exact ⟨ho.1 v5 v2 (by omega), ezp_seE0 ⟨v5, v2⟩ (by omega)⟩
  · have h1 := ho.2 (fun z1 z2 z3 => by
      have h2 := ezp_seE0 (nm := ezp_up nm k l) (k := k + 1) ⟨z1, z2⟩ (by omega)
      have h3 := st.1
      rw [h2] at h3
      have h4 := v (by omega)
      exact z (by omega) (by omega))
    refine ⟨h1.1, fun y => ?_⟩
    obtain ⟨v1, v2, v3, v4, v5⟩ := v y
    rw [h1.2 v5 v2]
    exact v1.symm
/-- a step back -/
theorem ezm_ST_b {s : Int × Int} {i8 i7 x7 : Int} (st : ezm_ST (ezp_t s) i8 i7) (e : x7 = i7 - 1) : ezm_ST s i8 x7 := by
  obtain ⟨h1, h2⟩ := st
  rw [ezp_t1] at h1 h2
  refine ⟨h1, fun z => ?_⟩
  have h3 := h2 z
  unfold ezp_t at h3
  rw [if_pos z] at h3
  have h3 : i7 = s.2 + 1 := h3
  omega
section
variable {c : Int → Int} {t : ezp_D} {s : Int × Int} {w : Int}
theorem ezp_lne_1' : (ezp_lne c t s).1 = ezp_w c 259 (ezp_lb c t s).1 := by rw [ezp_lne_b]
theorem ezp_lne_2' : (ezp_lne c t s).2 = (ezp_lb c t s).2 := by rw [ezp_lne_b]
theorem ezp_lb_w (z : s.1 = 0) (h : ezp_K c s.2 = 0 ∧ t.kT < 8 ∨ ezp_K c s.2 = 9 ∧ t.kH < 4 ∨ ezp_K c s.2 = 20 ∧ t.kE < 8 ∨ ezp_K c s.2 = 12 ∨ ezp_wds (ezp_K c s.2) ∧ t.di (ezp_K c s.2) ≠ 1) (e : ezp_K c s.2 = w) : ezp_lb c t s = ezp_lw c w (t.once w) (ezp_t s) := by
  rw [ezp_lb_0 z h, e]
end
/-- where a line that ends with faults, or without, stands behind its end -/
def ezm_SB (c : Int → Int) (p : Int × Int) (i8 i7 : Int) : Prop := ∃ s2, ezm_ST s2 i8 i7 ∧ ezp_w c 259 s2 = p
theorem ezm_SB_i {c : Int → Int} {t : ezp_D} {s s2 : Int × Int} {i8 i7 : Int} (h : ezm_ST s2 i8 i7) (e : (ezp_lb c t s).1 = s2) : ezm_SB c (ezp_lne c t s).1 i8 i7 := ⟨s2, h, by rw [ezp_lne_1', e]⟩
theorem ezm_ELX {el : Int → Int → Int} {x y : Int} {kE : Int} {r78 : Int → Int} (h : ∀ x y, (el x y = 1 ↔ ∃ i, 0 ≤ i ∧ i < kE ∧ r78 (2 * i + 171) = x ∧ r78 (2 * i + 172) = y)) (x0 : 0 ≤ x) (x1 : x < 16) (y0 : 0 ≤ y) (y1 : y < 16) (hn : ∀ i, 0 ≤ i → i < kE → ¬ (r78 (2 * i + 171) = x ∧ r78 (2 * i + 172) = y)) : el x y ≠ 1 := fun z => by
  obtain ⟨i, i0, i1, e⟩ := (h x y).mp z
  exact hn i i0 i1 e
/-- the string's bits -/
theorem ezp_hs_up {f : Int → Int} {k w v : Int} (h0 : 0 ≤ k) : ezp_hs (ezp_up f k v) w (k + 1).toNat = true ↔ (w = v ∨ ezp_hs f w k.toNat = true) := by
  have e1 : ezp_hs (ezp_up f k v) w k.toNat = ezp_hs f w k.toNat := by
    have key : ∀ m : Nat, (m : Int) ≤ k → ezp_hs (ezp_up f k v) w m = ezp_hs f w m := by
      intro m
      induction m with
      | zero => intro _; rfl
      | succ m ih =>
        intro hm
        show (decide (ezp_up f k v (m : Int) = w) || ezp_hs (ezp_up f k v) w m) = (decide (f (m : Int) = w) || ezp_hs f w m)
        rw [ih (by omega), ezp_up_o _ _ (by omega)]
    exact key k.toNat (by omega)
  rw [show (k + 1).toNat = k.toNat + 1 by omega]
  show (decide (ezp_up f k v ((k.toNat : Nat) : Int) = w) || ezp_hs (ezp_up f k v) w k.toNat) = true ↔ _
  rw [e1, show ((k.toNat : Nat) : Int) = k by omega, ezp_up_s, Bool.or_eq_true, decide_eq_true_iff]
  constructor
  · rintro (h | h)
    · exact Or.inl h.symm
    · exact Or.inr h
  · rintro (h | h)
    · exact Or.inl h.symm
    · exact Or.inr h
theorem ezm_met {met w : Int} {f : Int → Int} {k : Int} (h : 0 ≤ met ∧ met < 256) (hb : ∀ j, 0 ≤ j → j < 8 → (ezt_b met j = 1 ↔ ezp_hs f j k.toNat = true)) (h0 : 0 ≤ k) (w0 : 0 ≤ w) (w1 : w < 8) : (0 ≤ ezw_or met (1 * 2 ^ w.toNat) ∧ ezw_or met (1 * 2 ^ w.toNat) < 256) ∧ ∀ j, 0 ≤ j → j < 8 → (ezt_b (ezw_or met (1 * 2 ^ w.toNat)) j = 1 ↔ ezp_hs (ezp_up f k w) j (k + 1).toNat = true) := by
  have g := ezt_or1 8 (by decide) h.1 h.2 w0 w1
  refine ⟨⟨g.1, g.2.1⟩, fun j j0 j1 => ?_⟩
  rw [g.2.2 j j0, ezp_hs_up h0]
  by_cases e : j = w
  · rw [if_pos e]
    exact ⟨fun _ => Or.inl e, fun _ => rfl⟩
  · rw [if_neg e, hb j j0 j1]
    exact ⟨Or.inr, fun z => z.elim (fun y => absurd y e) id⟩
