/-! ===== what is told, as the model keeps it ===== -/
def ezn_ct (f : Int → Int) : Nat → Int → Int
  | 0, _ => 0
  | n + 1, j => ezn_ct f n j + (if f (n : Int) = j then 1 else 0)
theorem ezn_ct_c {f g : Int → Int} {j : Int} : ∀ n : Nat, (∀ k, 0 ≤ k → k < (n : Int) → f k = g k) → ezn_ct f n j = ezn_ct g n j := by
  intro n
  induction n with
  | zero => intro _; rfl
  | succ n ih =>
    intro h
    show ezn_ct f n j + (if f (n : Int) = j then 1 else 0) = ezn_ct g n j + (if g (n : Int) = j then 1 else 0)
    rw [ih (fun k k0 k1 => h k k0 (by omega)), h (n : Int) (by omega) (by omega)]
def ezn_sf (b : Int) (r : Int → Int) : Int → Int := fun k => 2 * r (2 * k + (b + 21)) + r (2 * k + (b + 22))
def ezn_TD (c : Int → Int) (b : Int) (r : Int → Int) : Prop := (0 ≤ r (b + 20) ∧ r (b + 20) = ezn_tm c ∧ ezn_tm c ≤ 12) ∧ (∀ k, 0 ≤ k → k < r (b + 20) → (0 ≤ r (2 * k + (b + 21)) ∧ r (2 * k + (b + 21)) < 4) ∧ 0 ≤ r (2 * k + (b + 22)) ∧ r (2 * k + (b + 22)) ≤ 1) ∧ ∀ j, 0 ≤ j → j < 8 → c j = ezn_ct (ezn_sf b r) (r (b + 20)).toNat j
theorem ezn_TD_f {c : Int → Int} {b : Int} {r r' : Int → Int} (h : ezn_TD c b r) (hf : ∀ j, b + 20 ≤ j → j < b + 50 → r' j = r j) : ezn_TD c b r' := by
  obtain ⟨⟨h1, h2, h3⟩, h4, h5⟩ := h
  have e0 := hf (b + 20) (by omega) (by omega)
  refine ⟨⟨by omega, by omega, h3⟩, fun k k0 k1 => ?_, fun j j0 j1 => ?_⟩
  · rw [e0] at k1
    rw [hf _ (by omega) (by omega), hf (2 * k + (b + 22)) (by omega) (by omega)]
    exact h4 k k0 k1
  · rw [h5 j j0 j1, e0]
    refine ezn_ct_c _ (fun k k0 k1 => ?_)
    unfold ezn_sf
    rw [hf _ (by omega) (by omega), hf (2 * k + (b + 22)) (by omega) (by omega)]
theorem ezn_TD_c {c : Int → Int} {b b' : Int} {r r' : Int → Int} (h : ezn_TD c b r) (hc : ∀ k, 0 ≤ k → k < 50 → r' (b' + k) = r (b + k)) : ezn_TD c b' r' := by
  obtain ⟨⟨h1, h2, h3⟩, h4, h5⟩ := h
  have e0 := hc 20 (by omega) (by omega)
  have e1 : ∀ k, 0 ≤ k → k < 12 → r' (2 * k + (b' + 21)) = r (2 * k + (b + 21)) := fun k k0 k1 => by
    have h9 := hc (2 * k + 21) (by omega) (by omega)
    rw [show b' + (2 * k + 21) = 2 * k + (b' + 21) by omega, show b + (2 * k + 21) = 2 * k + (b + 21) by omega] at h9
    exact h9
  have e2 : ∀ k, 0 ≤ k → k < 12 → r' (2 * k + (b' + 22)) = r (2 * k + (b + 22)) := fun k k0 k1 => by
    have h9 := hc (2 * k + 22) (by omega) (by omega)
    rw [show b' + (2 * k + 22) = 2 * k + (b' + 22) by omega, show b + (2 * k + 22) = 2 * k + (b + 22) by omega] at h9
    exact h9
  refine ⟨⟨by omega, by omega, h3⟩, fun k k0 k1 => ?_, fun j j0 j1 => ?_⟩
  · rw [e0] at k1
    rw [e1 k k0 (by omega), e2 k k0 (by omega)]
    exact h4 k k0 k1
  · rw [h5 j j0 j1, e0]
    refine ezn_ct_c _ (fun k k0 k1 => ?_)
    unfold ezn_sf
    rw [e1 k k0 (by omega), e2 k k0 (by omega)]
theorem ezn_TD_0 {b : Int} {r : Int → Int} (h : r (b + 20) = 0) : ezn_TD (fun _ => 0) b r := by
  refine ⟨⟨by omega, by rw [h]; rfl, by decide⟩, fun k k0 k1 => by omega, fun j j0 j1 => ?_⟩
  rw [h]
  rfl
theorem ezn_TD_ad {c : Int → Int} {b s t : Int} {r r' : Int → Int} (h : ezn_TD c b r) (h12 : ezn_tm c < 12) (s0 : 0 ≤ s) (s1 : s < 4) (t0 : 0 ≤ t) (t1 : t ≤ 1) (e0 : r' (b + 20) = r (b + 20) + 1) (e1 : r' (2 * r (b + 20) + (b + 21)) = s) (e2 : r' (2 * r (b + 20) + (b + 22)) = t) (hf : ∀ j, b + 21 ≤ j → j < 2 * r (b + 20) + (b + 21) → r' j = r j) : ezn_TD (ezn_ad c s t) b r' := by
  obtain ⟨⟨h1, h2, h3⟩, h4, h5⟩ := h
  have hm := ezn_tm_ad (c := c) s0 s1 t0 t1
  refine ⟨⟨by omega, by rw [e0, hm, h2], by omega⟩, fun k k0 k1 => ?_, fun j j0 j1 => ?_⟩
  · by_cases hk : k = r (b + 20)
    · rw [hk, e1, e2]
      exact ⟨⟨s0, s1⟩, t0, t1⟩
    · rw [hf _ (by omega) (by omega), hf (2 * k + (b + 22)) (by omega) (by omega)]
      exact h4 k k0 (by omega)
  · obtain ⟨n, hn⟩ := Int.eq_ofNat_of_zero_le h1
    have en : (r' (b + 20)).toNat = n + 1 := by omega
    have en2 : (r (b + 20)).toNat = n := by omega
    rw [en]
    show ezn_ad c s t j = ezn_ct (ezn_sf b r') n j + (if ezn_sf b r' (n : Int) = j then 1 else 0)
    have h9 := h5 j j0 j1
    rw [en2] at h9
    have hc : ezn_ct (ezn_sf b r') n j = ezn_ct (ezn_sf b r) n j := ezn_ct_c _ (fun k k0 k1 => by
      unfold ezn_sf
      rw [hf _ (by omega) (by omega), hf (2 * k + (b + 22)) (by omega) (by omega)])
    have hs : ezn_sf b r' (n : Int) = 2 * s + t := by
      unfold ezn_sf
      rw [← hn, e1, e2]
    rw [hc, hs, ← h9]
    unfold ezn_ad ezp_up
    by_cases hj : j = 2 * s + t
    · rw [if_pos hj, if_pos hj.symm, ← hj]
    · rw [if_neg hj, if_neg (fun z => hj z.symm), Int.add_zero]
