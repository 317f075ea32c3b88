/-! ===== the cells as the constructors leave them ===== -/
def ezl_nw : List Int := [0, 9, 0, 0, 0, 0, 0, 0, 0, 10, 5]
def ezl_F0 : Nat → Nat → Int := fun q k => match q with
  | 13 => (match k with
    | 2 => 12
    | 4 => 1
    | 5 => 9
    | _ => 0)
  | 26 => (match k with
    | 2 => 12
    | 4 => 1
    | 5 => 9
    | _ => 0)
  | _ => 0
def ezl_A0 : Nat → Int → Int := fun q j => match q with
  | 3 => ezl_cw.getD j.toNat 0
  | 44 => ezl_nw.getD j.toNat 0
  | 61 => ezl_nw.getD j.toNat 0
  | _ => 0
def ezl_r77 : Int → Int := fun j => ezl_mw.getD j.toNat 0
def ezl_r78 : Int → Int := fun j => if j = 5 then 9 else if j = 13 then 10 else if j = 14 then 5 else if j = 15 then -1 else if j = 16 then -1 else 0
def ezl_r88 : Int → Int := fun j => if j = 15 then 12 else if j = 17 then 1 else if j = 18 then 9 else 0
def ezl_0 : Int → Int := fun _ => 0
def ezl_g : Nat → ezq_C := ezm_h (false, false) ezl_F0 ezl_A0 0 0 0 0 0 0 0 0 0 0 0 0 0 0 0 0 ezl_0 ezl_0 ezl_0 ezl_0 ezl_r77 ezl_r78 ezl_0 ezl_0 ezl_0 ezl_0 ezl_0 ezl_0 ezl_0 ezl_0 ezl_0 ezl_r88 ezl_0 ezl_0 ezl_0 ezl_0 ezl_0 ezl_0 ezl_0
theorem ezl_getD {P : Int → Prop} {l : List Int} (h : ∀ x ∈ l, P x) (h0 : P 0) (n : Nat) : P (l.getD n 0) := by
  induction l generalizing n with
  | nil => exact h0
  | cons a r ih =>
    cases n with
    | zero => exact h a List.mem_cons_self
    | succ n => exact ih (fun x hx => h x (List.mem_cons_of_mem _ hx)) n
theorem ezl_fk0 (q k : Nat) : ezs_fk q k 0 := by
  unfold ezs_fk
  repeat' split
  all_goals exact ⟨by omega, by omega⟩
theorem ezl_ak0 (q : Nat) : ezs_ak q 0 := by
  unfold ezs_ak
  repeat' split
  all_goals exact ⟨by omega, by omega⟩
theorem ezl_fkN {q k : Nat} {v : Int} (hq : q = 13 ∨ q = 26) (hv : 0 ≤ v ∧ v ≤ 12) : ezs_fk q k v := by
  unfold ezs_fk
  rw [if_neg (by omega), if_neg (by omega), if_neg (by omega), if_neg (by omega)]
  exact ⟨by omega, by omega⟩
theorem ezl_S0 : ezs_T ezl_F0 ezl_A0 := by
  intro q _
  refine ⟨fun k => ?_, fun j => ?_⟩
  · unfold ezl_F0
    split
    · split <;> exact ezl_fkN (by omega) ⟨by omega, by omega⟩
    · split <;> exact ezl_fkN (by omega) ⟨by omega, by omega⟩
    · exact ezl_fk0 _ _
  · unfold ezl_A0
    split
    · exact ezl_getD (P := ezs_ak 3) (by unfold ezl_cw; intro x hx; simp only [List.mem_cons, List.not_mem_nil, or_false] at hx; show ezw_il x; exact ⟨by omega, by omega⟩) (ezl_ak0 3) _
    · exact ezl_getD (P := ezs_ak 44) (by unfold ezl_nw; intro x hx; simp only [List.mem_cons, List.not_mem_nil, or_false] at hx; show -2147483648 ≤ x ∧ x ≤ 9999; omega) (ezl_ak0 44) _
    · exact ezl_getD (P := ezs_ak 61) (by unfold ezl_nw; intro x hx; simp only [List.mem_cons, List.not_mem_nil, or_false] at hx; show -2147483648 ≤ x ∧ x ≤ 9999; omega) (ezl_ak0 61) _
    · exact ezl_ak0 _
theorem ezl_k78 (j : Int) : ezm_k78 j (ezl_r78 j) := by
  unfold ezl_r78
  by_cases h5 : j = 5
  · rw [if_pos h5]
    exact ⟨⟨by omega, by omega⟩, by omega, by omega, by omega, by omega, by omega, by omega, by omega⟩
  rw [if_neg h5]
  by_cases h13 : j = 13
  · rw [if_pos h13]
    exact ⟨⟨by omega, by omega⟩, by omega, by omega, by omega, by omega, by omega, by omega, by omega⟩
  rw [if_neg h13]
  by_cases h14 : j = 14
  · rw [if_pos h14]
    exact ⟨⟨by omega, by omega⟩, by omega, by omega, by omega, by omega, by omega, by omega, by omega⟩
  rw [if_neg h14]
  by_cases h15 : j = 15
  · rw [if_pos h15]
    exact ⟨⟨by omega, by omega⟩, by omega, by omega, by omega, by omega, by omega, by omega, by omega⟩
  rw [if_neg h15]
  by_cases h16 : j = 16
  · rw [if_pos h16]
    exact ⟨⟨by omega, by omega⟩, by omega, by omega, by omega, by omega, by omega, by omega, by omega⟩
  rw [if_neg h16]
  exact ezm_k78_z j
theorem ezl_k88 (j : Int) : ezm_k88 j (ezl_r88 j) := by
  unfold ezl_r88
  by_cases h5 : j = 15
  · rw [if_pos h5]
    exact ⟨⟨by omega, by omega⟩, by omega, by omega, by omega, by omega, by omega⟩
  rw [if_neg h5]
  by_cases h13 : j = 17
  · rw [if_pos h13]
    exact ⟨⟨by omega, by omega⟩, by omega, by omega, by omega, by omega, by omega⟩
  rw [if_neg h13]
  by_cases h14 : j = 18
  · rw [if_pos h14]
    exact ⟨⟨by omega, by omega⟩, by omega, by omega, by omega, by omega, by omega⟩
  rw [if_neg h14]
  exact ⟨⟨by omega, by omega⟩, by omega, by omega, by omega, by omega, by omega⟩
theorem ezl_T0 : ezm_T 0 0 0 0 0 0 0 0 0 0 0 0 0 0 0 0 ezl_0 ezl_0 ezl_0 ezl_0 ezl_r77 ezl_r78 ezl_0 ezl_0 ezl_0 ezl_0 ezl_0 ezl_0 ezl_0 ezl_0 ezl_0 ezl_r88 ezl_0 ezl_0 ezl_0 ezl_0 ezl_0 ezl_0 ezl_0 := ⟨⟨by omega, by omega⟩, ⟨by omega, by omega⟩, ⟨by omega, by omega⟩, ⟨by omega, by omega⟩, ⟨by omega, by omega⟩, ⟨by omega, by omega⟩, ⟨by omega, by omega⟩, ⟨by omega, by omega⟩, ⟨by omega, by omega⟩, ⟨by omega, by omega⟩, ⟨by omega, by omega⟩, ⟨by omega, by omega⟩, ⟨by omega, by omega⟩, ⟨by omega, by omega⟩, ⟨by omega, by omega⟩, ⟨by omega, by omega⟩, fun _ => (show ezw_in 0 from ⟨by decide, by decide⟩), fun _ => (show ezw_in 0 from ⟨by decide, by decide⟩), fun _ => (show (0 : Int) ≤ 0 ∧ (0 : Int) ≤ 1000 from ⟨by decide, by decide⟩), fun _ => (show ezw_il 0 from ⟨by decide, by decide⟩), fun j => ezl_getD (P := ezw_il) (by unfold ezl_mw; intro x hx; simp only [List.mem_cons, List.not_mem_nil, or_false] at hx; exact ⟨by omega, by omega⟩) ⟨by omega, by omega⟩ _, ezl_k78, fun _ => (show ezw_in 0 from ⟨by decide, by decide⟩), fun _ => (show ezw_in 0 from ⟨by decide, by decide⟩), fun _ => (show ezw_il 0 from ⟨by decide, by decide⟩), fun _ => (show ezw_il 0 from ⟨by decide, by decide⟩), fun _ => (show (0 : Int) ≤ 0 ∧ (0 : Int) ≤ 23 from ⟨by decide, by decide⟩), fun _ => (show (0 : Int) ≤ 0 ∧ (0 : Int) ≤ 23 from ⟨by decide, by decide⟩), fun _ => ⟨fun _ => ⟨by show (0 : Int) ≤ 0; omega, by show (0 : Int) ≤ 24; omega⟩, fun _ => ⟨by show (0 : Int) ≤ 0; omega, by show (0 : Int) ≤ 7; omega⟩⟩, fun _ => (show ezw_in 0 from ⟨by decide, by decide⟩), fun _ => (show ezw_in 0 from ⟨by decide, by decide⟩), ezl_k88, fun _ => (show (0 : Int) ≤ 0 ∧ (0 : Int) ≤ 1 from ⟨by decide, by decide⟩), fun _ => (show ezw_in 0 from ⟨by decide, by decide⟩), fun _ => (show ezw_in 0 from ⟨by decide, by decide⟩), fun _ => (show ezw_in 0 from ⟨by decide, by decide⟩), fun _ => (show ezw_in 0 from ⟨by decide, by decide⟩), fun _ => (show ezw_in 0 from ⟨by decide, by decide⟩), fun _ => (show (0 : Int) ≤ 0 ∧ (0 : Int) ≤ 3 from ⟨by decide, by decide⟩)⟩
theorem ezl_TC0 : ezl_TC (false, false) ezp_D0 ezl_F0 ezl_A0 := by
  refine ⟨ezt_TR_0 ⟨rfl, rfl, rfl, rfl⟩ (fun _ _ _ => rfl), fun i i0 i1 => ?_⟩
  show ezl_nw.getD i.toNat 0 = ezp_fn i
  rcases (show i = 0 ∨ i = 1 ∨ i = 2 ∨ i = 3 ∨ i = 4 ∨ i = 5 ∨ i = 6 ∨ i = 7 ∨ i = 8 ∨ i = 9 ∨ i = 10 by omega) with rfl | rfl | rfl | rfl | rfl | rfl | rfl | rfl | rfl | rfl | rfl <;> decide
theorem ezl_TF0 : ezm_TRF ezp_D0 0 ezl_r78 ezl_0 ezl_0 := by
  refine ⟨0, ezm_TRE_0 (fun j j0 j1 h1 h2 h3 h4 h5 => ?_) (by decide) (by decide) (by decide)⟩
  show ezl_r78 (j - 100) = 0
  unfold ezl_r78
  rw [if_neg (by omega), if_neg (by omega), if_neg (by omega), if_neg (by omega), if_neg (by omega)]
def ezj_0 : ezj_S := ezj_mk ezp_D0 ezv_L0 (ezn_bg ezp_D0) (fun _ => 0) 0 (fun _ => ezn_bg ezp_D0) (fun _ => 0) (fun _ => ezn_bg ezp_D0) (fun _ _ => 0)
theorem ezj_TB0 : ezn_TB (fun _ => 0) := ⟨fun _ _ _ => Int.le_refl 0, show (0 : Int) ≤ 12 by decide⟩
theorem ezj_C0 : ezj_C (false, false) ezj_0 ezl_F0 ezl_A0 := by
  refine ⟨⟨ezl_TC0, ezb_D0, ⟨fun p p0 p1 => absurd p1 (by show ¬ p < 60 * 0; omega), fun p p0 p1 => absurd p1 (by show ¬ p < 60 * 0; omega)⟩, ezv_LO_0⟩, ⟨⟨by decide, by decide, by decide, by decide, by decide, by decide, by decide⟩, ezn_B_bg ezb_D0⟩, ⟨fun _ _ _ => rfl, ezj_TB0⟩, ⟨rfl, show (0 : Int) ≤ 0 by decide, show (0 : Int) ≤ 16 by decide⟩, ⟨fun k k0 k1 => absurd (show k < 0 from k1) (by omega), fun k k0 k1 => absurd (show k < 0 from k1) (by omega)⟩, ⟨show (0 : Int) ≤ 0 by decide, show (0 : Int) < 16 by decide⟩, fun m m0 m1 => ezt_b0 m, fun m m0 m1 hm => absurd (show (0 : Int) = 1 from hm) (by decide)⟩
theorem ezj_RW0 : ezj_RW ezl_r78 ezl_r88 := by
  refine ⟨by decide, fun k k0 k1 => ?_, fun t t0 t1 => ?_, by decide, by decide, by decide, by decide, by decide⟩
  · unfold ezl_r78 ezl_r88
    rw [if_neg (by omega), if_neg (by omega), if_neg (by omega), if_neg (by omega), if_neg (by omega), if_neg (by omega), if_neg (by omega), if_neg (by omega)]
  · unfold ezl_r88
    rw [if_neg (by omega), if_neg (by omega), if_neg (by omega)]
theorem ezj_K0 : ezj_K ezj_0 0 0 ezl_r78 ezl_0 ezl_0 ezl_0 ezl_0 ezl_r88 ezl_0 :=
  ⟨ezl_TF0, ⟨Or.inl ⟨rfl, by decide⟩, Or.inl ⟨rfl, by decide⟩⟩, ⟨ezj_NW_bg ezl_TF0 ezb_D0 ezj_RW0, ezn_B_bg ezb_D0⟩, ⟨ezn_TD_0 (by decide), ezj_TB0⟩, rfl, ⟨fun k k0 k1 => absurd k1 (by omega), fun k k0 k1 => absurd k1 (by omega)⟩, fun m m0 m1 => ⟨rfl, fun hm => absurd (show (0 : Int) = 1 from hm) (by decide)⟩⟩
theorem ezl_J0 : ezl_J 0 (ezl_A0 2) 0 ezl_0 ezj_0 ezj_0 ezl_g := by
  show ezl_J 0 (ezl_A0 2) 0 ezl_0 ezj_0 ezj_0 (ezm_h (false, false) ezl_F0 ezl_A0 0 0 0 0 0 0 0 0 0 0 0 0 0 0 0 0 ezl_0 ezl_0 ezl_0 ezl_0 ezl_r77 ezl_r78 ezl_0 ezl_0 ezl_0 ezl_0 ezl_0 ezl_0 ezl_0 ezl_0 ezl_0 ezl_r88 ezl_0 ezl_0 ezl_0 ezl_0 ezl_0 ezl_0 ezl_0)
  refine ezl_pk ezl_S0 ⟨rfl, rfl, fun _ _ _ => rfl⟩ ezj_C0 ezl_T0 ?_ ?_ ⟨rfl, rfl, fun _ _ _ => rfl⟩ ezj_K0
  · refine ⟨fun k k0 k1 => absurd k1 (by show ¬ k < 0; omega), fun k k0 k1 => absurd k1 (by show ¬ k < 0; omega), fun k k0 k1 => Or.inl ?_⟩
    have h : k = 15 ∨ k = 16 := by omega
    rcases h with rfl | rfl <;> rfl
  · exact ⟨⟨fun z => absurd z (by decide), fun k k0 k1 => absurd k1 (by show ¬ k < 0; omega)⟩, fun u u0 u1 => absurd u1 (by omega), fun m m0 m1 m2 => absurd rfl m2⟩
