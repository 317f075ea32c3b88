/-! ===== a law reckoned: pure ===== -/
/-! what a law's reader tells -/
theorem ezv_V {c : Int → Int} {n k : Int} (tp : ezp_tp c n) (h : ezp_K c k = 101) : 0 ≤ ezp_V c k ∧ ezp_V c k ≤ 9999 := by
  have hP := ezp_Pr tp k
  unfold ezp_K at h
  unfold ezp_V ezp_N
  obtain ⟨q, hq⟩ : ∃ q, q = ezp_P c k := ⟨_, rfl⟩
  rw [← hq] at h hP ⊢
  have hl : ezp_le (c q) = false := by
    cases hb : ezp_le (c q)
    · rfl
    · exact absurd h (ezp_kdL_ne hb)
  have hd : ezp_di (c q) = true := by
    cases hb : ezp_di (c q)
    · by_cases h0 : c q = 0
      · rw [ezp_kd0 h0] at h
        omega
      · have h2 := ezp_kdS hl hb h0
        cases hs : ezp_sg (c q)
        · have := h2.2 hs
          omega
        · have h3 := h2.1 hs
          unfold ezp_sg at hs
          have h4 := of_decide_eq_true hs
          omega
    · rfl
  have h4 : ¬ 4 < ezp_ln c q := fun z => by
    have := (ezp_kdD hl hd).1 z
    omega
  have hx : ezp_nx c q = ezp_run ezp_di c 2000 q := by
    unfold ezp_nx
    rw [hl, hd]
    rfl
  obtain ⟨r, hr, r0, r1, r2, r3⟩ := ezp_run_n (p := ezp_di) (c := c) (q := q) (n := n) hP.1 hP.2 tp.2.1 (fun j hj => by rw [tp.2.2.1 j hj]; rfl)
  have hln : ezp_ln c q = (r - q).toNat := by
    unfold ezp_ln
    rw [hx, hr]
  have hnu := ezp_nu_r (c := c) (q := q) (ezp_ln c q) (fun j j0 j1 => r2 j j0 (by omega))
  exact ⟨hnu.1, hnu.2.2.2.2.1 (by omega)⟩
section
variable {c : Int → Int}
end
/-! rows that hold 32 bits -/
section KTV
variable {l : Launch} {ρ : ezq_E} {B : Nat} {xa : Nat → Option Nat} {Hb : Heap} {D : va_G} {cA : Nat → ClassId} {d : Nat}
variable {r : ezq_R} {P : Option ezq_V → (Nat → ezq_C) → Prop} {pc : Nat} {ls : List (Option ezq_V)} {st : List ezq_V} {g : Nat → ezq_C}
end KTV
