/-! ===== the program: what a tree is told ===== -/
section KT
variable {l : Launch} {ρ : ezq_E} {B : Nat} {xa : Nat → Option Nat} {Hb : Heap} {D : va_G} {cA : Nat → ClassId} {d : Nat} {e : Bool × Bool}
def ezt_m49Q (e : Bool × Bool) (F : Nat → Nat → Int) (A : Nat → Int → Int) (a0 : Int) (a1 : Int) : Option ezq_V → (Nat → ezq_C) → Prop := fun v g' => ezu_g e F A = g' ∧ ∃ u : Int, (ezw_in u) ∧ (0 ≤ a1 → a1 < 31 → u = ezt_b a0 a1) ∧ some (ezw_i u) = v
theorem ezt_m49 {a0 a1 : Int} {F : Nat → Nat → Int} {A : Nat → Int → Int} (hS : ezs_T F A) (hd : 0 ≤ d) (ha0 : ezw_in a0) (ha1 : ezw_in a1) : ezw_C l ρ B xa Hb D cA 49 d [ezw_i a0, ezw_i a1] (ezu_g e F A) (ezt_m49Q e F A a0 a1) := by
  refine ezw_met (k := 0) rfl rfl ?_
  refine ezw_iload_n rfl rfl ?_
  refine ezw_if_lt rfl rfl ha1 (fun h1_0 => ?_) (fun h1_0 => ?_)
  · refine ezw_iconst (0) rfl rfl ?_
    exact ezw_ireturn rfl rfl ⟨rfl, (0), ⟨by decide, by decide⟩, (by omega), rfl⟩
  · refine ezw_iload_n rfl rfl ?_
    refine ezw_bipush (31) rfl rfl ?_
    refine ezw_icmp_ge rfl rfl ha1 ⟨by decide, by decide⟩ (fun h7_0 => ?_) (fun h7_0 => ?_)
    · refine ezw_iconst (0) rfl rfl ?_
      exact ezw_ireturn rfl rfl ⟨rfl, (0), ⟨by decide, by decide⟩, (by omega), rfl⟩
    · refine ezw_iload_n rfl rfl ?_
      refine ezw_iload_n rfl rfl ?_
      refine ezw_ishr rfl ha0 (by omega) (by omega) (k := (a0 / 2 ^ (a1).toNat)) (rfl) ?_
      refine ezw_iconst (1) rfl rfl ?_
      refine ezw_iand rfl (k := ezw_and (a0 / 2 ^ (a1).toNat) 1) rfl ?_
      refine ezw_goto rfl rfl ?_
      exact ezw_ireturn rfl rfl ⟨rfl, (ezw_and (a0 / 2 ^ (a1).toNat) 1), (by rw [ezt_and1]; exact ⟨by omega, by omega⟩), (fun _ _ => ezt_and1 _), rfl⟩
def ezt_m27_39Q (e : Bool × Bool) (F : Nat → Nat → Int) (A : Nat → Int → Int) (a1 : Int) : Option ezq_V → (Nat → ezq_C) → Prop := fun v g' => ezu_g e F A = g' ∧ ∃ u : Int, (ezw_in u) ∧ (0 ≤ a1 → a1 < 16 → u = A 39 a1) ∧ some (ezw_i u) = v
theorem ezt_m27_39 {a1 : Int} {F : Nat → Nat → Int} {A : Nat → Int → Int} (hS : ezs_T F A) (hd : 0 ≤ d) (ha1 : ezw_in a1) : ezw_C l ρ B xa Hb D cA 27 d [ezw_p 39, ezw_i a1] (ezu_g e F A) (ezt_m27_39Q e F A a1) := by
  refine ezw_met (k := 0) rfl rfl ?_
  refine ezw_aload_n rfl rfl ?_
  refine ezw_ifnull rfl ?_
  refine ezw_iload_n rfl rfl ?_
  refine ezw_if_lt rfl rfl ha1 (fun h5_0 => ?_) (fun h5_0 => ?_)
  · refine ezw_iconst (0) rfl rfl ?_
    exact ezw_ireturn rfl rfl ⟨rfl, (0), ⟨by decide, by decide⟩, by omega, rfl⟩
  · refine ezw_iload_n rfl rfl ?_
    refine ezw_aload_n rfl rfl ?_
    refine ezs_alen (k := 16) rfl rfl rfl rfl (by decide) (by decide) ?_
    refine ezw_icmp_ge rfl rfl ha1 ⟨by decide, by decide⟩ (fun h11_0 => ?_) (fun h11_0 => ?_)
    · refine ezw_iconst (0) rfl rfl ?_
      exact ezw_ireturn rfl rfl ⟨rfl, (0), ⟨by decide, by decide⟩, by omega, rfl⟩
    · refine ezw_aload_n rfl rfl ?_
      refine ezw_iload_n rfl rfl ?_
      refine ezy_iaload hS rfl rfl rfl (by omega) (by omega) (by decide) (fun u1 hu1 ku1 eu1 => ?_)
      refine ezw_goto rfl rfl ?_
      exact ezw_ireturn rfl rfl ⟨rfl, u1, hu1, by omega, rfl⟩
def ezt_m27_42Q (e : Bool × Bool) (F : Nat → Nat → Int) (A : Nat → Int → Int) (a1 : Int) : Option ezq_V → (Nat → ezq_C) → Prop := fun v g' => ezu_g e F A = g' ∧ ∃ u : Int, (ezw_in u) ∧ (0 ≤ a1 → a1 < 4 → u = A 42 a1) ∧ some (ezw_i u) = v
theorem ezt_m27_42 {a1 : Int} {F : Nat → Nat → Int} {A : Nat → Int → Int} (hS : ezs_T F A) (hd : 0 ≤ d) (ha1 : ezw_in a1) : ezw_C l ρ B xa Hb D cA 27 d [ezw_p 42, ezw_i a1] (ezu_g e F A) (ezt_m27_42Q e F A a1) := by
  refine ezw_met (k := 0) rfl rfl ?_
  refine ezw_aload_n rfl rfl ?_
  refine ezw_ifnull rfl ?_
  refine ezw_iload_n rfl rfl ?_
  refine ezw_if_lt rfl rfl ha1 (fun h5_0 => ?_) (fun h5_0 => ?_)
  · refine ezw_iconst (0) rfl rfl ?_
    exact ezw_ireturn rfl rfl ⟨rfl, (0), ⟨by decide, by decide⟩, by omega, rfl⟩
  · refine ezw_iload_n rfl rfl ?_
    refine ezw_aload_n rfl rfl ?_
    refine ezs_alen (k := 4) rfl rfl rfl rfl (by decide) (by decide) ?_
    refine ezw_icmp_ge rfl rfl ha1 ⟨by decide, by decide⟩ (fun h11_0 => ?_) (fun h11_0 => ?_)
    · refine ezw_iconst (0) rfl rfl ?_
      exact ezw_ireturn rfl rfl ⟨rfl, (0), ⟨by decide, by decide⟩, by omega, rfl⟩
    · refine ezw_aload_n rfl rfl ?_
      refine ezw_iload_n rfl rfl ?_
      refine ezy_iaload hS rfl rfl rfl (by omega) (by omega) (by decide) (fun u1 hu1 ku1 eu1 => ?_)
      refine ezw_goto rfl rfl ?_
      exact ezw_ireturn rfl rfl ⟨rfl, u1, hu1, by omega, rfl⟩
def ezt_m27_43Q (e : Bool × Bool) (F : Nat → Nat → Int) (A : Nat → Int → Int) (a1 : Int) : Option ezq_V → (Nat → ezq_C) → Prop := fun v g' => ezu_g e F A = g' ∧ ∃ u : Int, (ezw_in u) ∧ (0 ≤ a1 → a1 < 6 → u = A 43 a1) ∧ some (ezw_i u) = v
theorem ezt_m27_43 {a1 : Int} {F : Nat → Nat → Int} {A : Nat → Int → Int} (hS : ezs_T F A) (hd : 0 ≤ d) (ha1 : ezw_in a1) : ezw_C l ρ B xa Hb D cA 27 d [ezw_p 43, ezw_i a1] (ezu_g e F A) (ezt_m27_43Q e F A a1) := by
  refine ezw_met (k := 0) rfl rfl ?_
  refine ezw_aload_n rfl rfl ?_
  refine ezw_ifnull rfl ?_
  refine ezw_iload_n rfl rfl ?_
  refine ezw_if_lt rfl rfl ha1 (fun h5_0 => ?_) (fun h5_0 => ?_)
  · refine ezw_iconst (0) rfl rfl ?_
    exact ezw_ireturn rfl rfl ⟨rfl, (0), ⟨by decide, by decide⟩, by omega, rfl⟩
  · refine ezw_iload_n rfl rfl ?_
    refine ezw_aload_n rfl rfl ?_
    refine ezs_alen (k := 6) rfl rfl rfl rfl (by decide) (by decide) ?_
    refine ezw_icmp_ge rfl rfl ha1 ⟨by decide, by decide⟩ (fun h11_0 => ?_) (fun h11_0 => ?_)
    · refine ezw_iconst (0) rfl rfl ?_
      exact ezw_ireturn rfl rfl ⟨rfl, (0), ⟨by decide, by decide⟩, by omega, rfl⟩
    · refine ezw_aload_n rfl rfl ?_
      refine ezw_iload_n rfl rfl ?_
      refine ezy_iaload hS rfl rfl rfl (by omega) (by omega) (by decide) (fun u1 hu1 ku1 eu1 => ?_)
      refine ezw_goto rfl rfl ?_
      exact ezw_ireturn rfl rfl ⟨rfl, u1, hu1, by omega, rfl⟩
def ezt_m21_31Q (e : Bool × Bool) (F : Nat → Nat → Int) (A : Nat → Int → Int) (a1 : Int) (a2 : Int) : Option ezq_V → (Nat → ezq_C) → Prop := fun v g' => ∃ (A' : Nat → Int → Int), ezu_g e F A' = g' ∧ ezs_T F A' ∧ (∀ p, ¬ (p = 31) → A' p = A p) ∧ (0 ≤ a1 → a1 < 8 → A' 31 a1 = a2) ∧ (∀ j, j ≠ a1 → A' 31 j = A 31 j) ∧ none = v
theorem ezt_m21_31 {a1 a2 : Int} {F : Nat → Nat → Int} {A : Nat → Int → Int} (hS : ezs_T F A) (hd : 0 ≤ d) (ha1 : ezw_in a1) (ha2 : ezw_in a2) : ezw_C l ρ B xa Hb D cA 21 d [ezw_p 31, ezw_i a1, ezw_i a2] (ezu_g e F A) (ezt_m21_31Q e F A a1 a2) := by
  refine ezw_met (k := 0) rfl rfl ?_
  refine ezw_aload_n rfl rfl ?_
  refine ezw_ifnull rfl ?_
  refine ezw_iload_n rfl rfl ?_
  refine ezw_if_lt rfl rfl ha1 (fun h5_0 => ?_) (fun h5_0 => ?_)
  · exact ezw_return rfl rfl ⟨A, rfl, hS, (fun _ _ => rfl), (by omega), (fun _ _ => rfl), rfl⟩
  · refine ezw_iload_n rfl rfl ?_
    refine ezw_aload_n rfl rfl ?_
    refine ezs_alen (k := 8) rfl rfl rfl rfl (by decide) (by decide) ?_
    refine ezw_icmp_ge rfl rfl ha1 ⟨by decide, by decide⟩ (fun h11_0 => ?_) (fun h11_0 => ?_)
    · exact ezw_return rfl rfl ⟨A, rfl, hS, (fun _ _ => rfl), (by omega), (fun _ _ => rfl), rfl⟩
    · refine ezw_aload_n rfl rfl ?_
      refine ezw_iload_n rfl rfl ?_
      refine ezw_iload_n rfl rfl ?_
      refine ezy_iastore hS rfl rfl rfl (by omega) (by omega) (by decide) ha2 (fun A1 hS mA1 nA1 => ?_)
      exact ezw_return rfl rfl ⟨A1, rfl, hS, (fun p h => by
            funext j
            rw [nA1 p j (by omega)]), (fun _ _ => mA1), (fun j hj => nA1 31 j (by omega)), rfl⟩
def ezt_m21_32Q (e : Bool × Bool) (F : Nat → Nat → Int) (A : Nat → Int → Int) (a1 : Int) (a2 : Int) : Option ezq_V → (Nat → ezq_C) → Prop := fun v g' => ∃ (A' : Nat → Int → Int), ezu_g e F A' = g' ∧ ezs_T F A' ∧ (∀ p, ¬ (p = 32) → A' p = A p) ∧ (0 ≤ a1 → a1 < 8 → A' 32 a1 = a2) ∧ (∀ j, j ≠ a1 → A' 32 j = A 32 j) ∧ none = v
theorem ezt_m21_32 {a1 a2 : Int} {F : Nat → Nat → Int} {A : Nat → Int → Int} (hS : ezs_T F A) (hd : 0 ≤ d) (ha1 : ezw_in a1) (ha2 : ezw_in a2) : ezw_C l ρ B xa Hb D cA 21 d [ezw_p 32, ezw_i a1, ezw_i a2] (ezu_g e F A) (ezt_m21_32Q e F A a1 a2) := by
  refine ezw_met (k := 0) rfl rfl ?_
  refine ezw_aload_n rfl rfl ?_
  refine ezw_ifnull rfl ?_
  refine ezw_iload_n rfl rfl ?_
  refine ezw_if_lt rfl rfl ha1 (fun h5_0 => ?_) (fun h5_0 => ?_)
  · exact ezw_return rfl rfl ⟨A, rfl, hS, (fun _ _ => rfl), (by omega), (fun _ _ => rfl), rfl⟩
  · refine ezw_iload_n rfl rfl ?_
    refine ezw_aload_n rfl rfl ?_
    refine ezs_alen (k := 8) rfl rfl rfl rfl (by decide) (by decide) ?_
    refine ezw_icmp_ge rfl rfl ha1 ⟨by decide, by decide⟩ (fun h11_0 => ?_) (fun h11_0 => ?_)
    · exact ezw_return rfl rfl ⟨A, rfl, hS, (fun _ _ => rfl), (by omega), (fun _ _ => rfl), rfl⟩
    · refine ezw_aload_n rfl rfl ?_
      refine ezw_iload_n rfl rfl ?_
      refine ezw_iload_n rfl rfl ?_
      refine ezy_iastore hS rfl rfl rfl (by omega) (by omega) (by decide) ha2 (fun A1 hS mA1 nA1 => ?_)
      exact ezw_return rfl rfl ⟨A1, rfl, hS, (fun p h => by
            funext j
            rw [nA1 p j (by omega)]), (fun _ _ => mA1), (fun j hj => nA1 32 j (by omega)), rfl⟩
def ezt_m21_33Q (e : Bool × Bool) (F : Nat → Nat → Int) (A : Nat → Int → Int) (a1 : Int) (a2 : Int) : Option ezq_V → (Nat → ezq_C) → Prop := fun v g' => ∃ (A' : Nat → Int → Int), ezu_g e F A' = g' ∧ ezs_T F A' ∧ (∀ p, ¬ (p = 33) → A' p = A p) ∧ (0 ≤ a1 → a1 < 8 → A' 33 a1 = a2) ∧ (∀ j, j ≠ a1 → A' 33 j = A 33 j) ∧ none = v
theorem ezt_m21_33 {a1 a2 : Int} {F : Nat → Nat → Int} {A : Nat → Int → Int} (hS : ezs_T F A) (hd : 0 ≤ d) (ha1 : ezw_in a1) (ha2 : ezw_in a2) : ezw_C l ρ B xa Hb D cA 21 d [ezw_p 33, ezw_i a1, ezw_i a2] (ezu_g e F A) (ezt_m21_33Q e F A a1 a2) := by
  refine ezw_met (k := 0) rfl rfl ?_
  refine ezw_aload_n rfl rfl ?_
  refine ezw_ifnull rfl ?_
  refine ezw_iload_n rfl rfl ?_
  refine ezw_if_lt rfl rfl ha1 (fun h5_0 => ?_) (fun h5_0 => ?_)
  · exact ezw_return rfl rfl ⟨A, rfl, hS, (fun _ _ => rfl), (by omega), (fun _ _ => rfl), rfl⟩
  · refine ezw_iload_n rfl rfl ?_
    refine ezw_aload_n rfl rfl ?_
    refine ezs_alen (k := 8) rfl rfl rfl rfl (by decide) (by decide) ?_
    refine ezw_icmp_ge rfl rfl ha1 ⟨by decide, by decide⟩ (fun h11_0 => ?_) (fun h11_0 => ?_)
    · exact ezw_return rfl rfl ⟨A, rfl, hS, (fun _ _ => rfl), (by omega), (fun _ _ => rfl), rfl⟩
    · refine ezw_aload_n rfl rfl ?_
      refine ezw_iload_n rfl rfl ?_
      refine ezw_iload_n rfl rfl ?_
      refine ezy_iastore hS rfl rfl rfl (by omega) (by omega) (by decide) ha2 (fun A1 hS mA1 nA1 => ?_)
      exact ezw_return rfl rfl ⟨A1, rfl, hS, (fun p h => by
            funext j
            rw [nA1 p j (by omega)]), (fun _ _ => mA1), (fun j hj => nA1 33 j (by omega)), rfl⟩
def ezt_m21_34Q (e : Bool × Bool) (F : Nat → Nat → Int) (A : Nat → Int → Int) (a1 : Int) (a2 : Int) : Option ezq_V → (Nat → ezq_C) → Prop := fun v g' => ∃ (A' : Nat → Int → Int), ezu_g e F A' = g' ∧ ezs_T F A' ∧ (∀ p, ¬ (p = 34) → A' p = A p) ∧ (0 ≤ a1 → a1 < 8 → A' 34 a1 = a2) ∧ (∀ j, j ≠ a1 → A' 34 j = A 34 j) ∧ none = v
theorem ezt_m21_34 {a1 a2 : Int} {F : Nat → Nat → Int} {A : Nat → Int → Int} (hS : ezs_T F A) (hd : 0 ≤ d) (ha1 : ezw_in a1) (ha2 : ezw_in a2) : ezw_C l ρ B xa Hb D cA 21 d [ezw_p 34, ezw_i a1, ezw_i a2] (ezu_g e F A) (ezt_m21_34Q e F A a1 a2) := by
  refine ezw_met (k := 0) rfl rfl ?_
  refine ezw_aload_n rfl rfl ?_
  refine ezw_ifnull rfl ?_
  refine ezw_iload_n rfl rfl ?_
  refine ezw_if_lt rfl rfl ha1 (fun h5_0 => ?_) (fun h5_0 => ?_)
  · exact ezw_return rfl rfl ⟨A, rfl, hS, (fun _ _ => rfl), (by omega), (fun _ _ => rfl), rfl⟩
  · refine ezw_iload_n rfl rfl ?_
    refine ezw_aload_n rfl rfl ?_
    refine ezs_alen (k := 8) rfl rfl rfl rfl (by decide) (by decide) ?_
    refine ezw_icmp_ge rfl rfl ha1 ⟨by decide, by decide⟩ (fun h11_0 => ?_) (fun h11_0 => ?_)
    · exact ezw_return rfl rfl ⟨A, rfl, hS, (fun _ _ => rfl), (by omega), (fun _ _ => rfl), rfl⟩
    · refine ezw_aload_n rfl rfl ?_
      refine ezw_iload_n rfl rfl ?_
      refine ezw_iload_n rfl rfl ?_
      refine ezy_iastore hS rfl rfl rfl (by omega) (by omega) (by decide) ha2 (fun A1 hS mA1 nA1 => ?_)
      exact ezw_return rfl rfl ⟨A1, rfl, hS, (fun p h => by
            funext j
            rw [nA1 p j (by omega)]), (fun _ _ => mA1), (fun j hj => nA1 34 j (by omega)), rfl⟩
def ezt_m21_35Q (e : Bool × Bool) (F : Nat → Nat → Int) (A : Nat → Int → Int) (a1 : Int) (a2 : Int) : Option ezq_V → (Nat → ezq_C) → Prop := fun v g' => ∃ (A' : Nat → Int → Int), ezu_g e F A' = g' ∧ ezs_T F A' ∧ (∀ p, ¬ (p = 35) → A' p = A p) ∧ (0 ≤ a1 → a1 < 4 → A' 35 a1 = a2) ∧ (∀ j, j ≠ a1 → A' 35 j = A 35 j) ∧ none = v
theorem ezt_m21_35 {a1 a2 : Int} {F : Nat → Nat → Int} {A : Nat → Int → Int} (hS : ezs_T F A) (hd : 0 ≤ d) (ha1 : ezw_in a1) (ha2 : ezw_in a2) : ezw_C l ρ B xa Hb D cA 21 d [ezw_p 35, ezw_i a1, ezw_i a2] (ezu_g e F A) (ezt_m21_35Q e F A a1 a2) := by
  refine ezw_met (k := 0) rfl rfl ?_
  refine ezw_aload_n rfl rfl ?_
  refine ezw_ifnull rfl ?_
  refine ezw_iload_n rfl rfl ?_
  refine ezw_if_lt rfl rfl ha1 (fun h5_0 => ?_) (fun h5_0 => ?_)
  · exact ezw_return rfl rfl ⟨A, rfl, hS, (fun _ _ => rfl), (by omega), (fun _ _ => rfl), rfl⟩
  · refine ezw_iload_n rfl rfl ?_
    refine ezw_aload_n rfl rfl ?_
    refine ezs_alen (k := 4) rfl rfl rfl rfl (by decide) (by decide) ?_
    refine ezw_icmp_ge rfl rfl ha1 ⟨by decide, by decide⟩ (fun h11_0 => ?_) (fun h11_0 => ?_)
    · exact ezw_return rfl rfl ⟨A, rfl, hS, (fun _ _ => rfl), (by omega), (fun _ _ => rfl), rfl⟩
    · refine ezw_aload_n rfl rfl ?_
      refine ezw_iload_n rfl rfl ?_
      refine ezw_iload_n rfl rfl ?_
      refine ezy_iastore hS rfl rfl rfl (by omega) (by omega) (by decide) ha2 (fun A1 hS mA1 nA1 => ?_)
      exact ezw_return rfl rfl ⟨A1, rfl, hS, (fun p h => by
            funext j
            rw [nA1 p j (by omega)]), (fun _ _ => mA1), (fun j hj => nA1 35 j (by omega)), rfl⟩
def ezt_m21_36Q (e : Bool × Bool) (F : Nat → Nat → Int) (A : Nat → Int → Int) (a1 : Int) (a2 : Int) : Option ezq_V → (Nat → ezq_C) → Prop := fun v g' => ∃ (A' : Nat → Int → Int), ezu_g e F A' = g' ∧ ezs_T F A' ∧ (∀ p, ¬ (p = 36) → A' p = A p) ∧ (0 ≤ a1 → a1 < 4 → A' 36 a1 = a2) ∧ (∀ j, j ≠ a1 → A' 36 j = A 36 j) ∧ none = v
theorem ezt_m21_36 {a1 a2 : Int} {F : Nat → Nat → Int} {A : Nat → Int → Int} (hS : ezs_T F A) (hd : 0 ≤ d) (ha1 : ezw_in a1) (ha2 : ezw_in a2) : ezw_C l ρ B xa Hb D cA 21 d [ezw_p 36, ezw_i a1, ezw_i a2] (ezu_g e F A) (ezt_m21_36Q e F A a1 a2) := by
  refine ezw_met (k := 0) rfl rfl ?_
  refine ezw_aload_n rfl rfl ?_
  refine ezw_ifnull rfl ?_
  refine ezw_iload_n rfl rfl ?_
  refine ezw_if_lt rfl rfl ha1 (fun h5_0 => ?_) (fun h5_0 => ?_)
  · exact ezw_return rfl rfl ⟨A, rfl, hS, (fun _ _ => rfl), (by omega), (fun _ _ => rfl), rfl⟩
  · refine ezw_iload_n rfl rfl ?_
    refine ezw_aload_n rfl rfl ?_
    refine ezs_alen (k := 4) rfl rfl rfl rfl (by decide) (by decide) ?_
    refine ezw_icmp_ge rfl rfl ha1 ⟨by decide, by decide⟩ (fun h11_0 => ?_) (fun h11_0 => ?_)
    · exact ezw_return rfl rfl ⟨A, rfl, hS, (fun _ _ => rfl), (by omega), (fun _ _ => rfl), rfl⟩
    · refine ezw_aload_n rfl rfl ?_
      refine ezw_iload_n rfl rfl ?_
      refine ezw_iload_n rfl rfl ?_
      refine ezy_iastore hS rfl rfl rfl (by omega) (by omega) (by decide) ha2 (fun A1 hS mA1 nA1 => ?_)
      exact ezw_return rfl rfl ⟨A1, rfl, hS, (fun p h => by
            funext j
            rw [nA1 p j (by omega)]), (fun _ _ => mA1), (fun j hj => nA1 36 j (by omega)), rfl⟩
def ezt_m21_37Q (e : Bool × Bool) (F : Nat → Nat → Int) (A : Nat → Int → Int) (a1 : Int) (a2 : Int) : Option ezq_V → (Nat → ezq_C) → Prop := fun v g' => ∃ (A' : Nat → Int → Int), ezu_g e F A' = g' ∧ ezs_T F A' ∧ (∀ p, ¬ (p = 37) → A' p = A p) ∧ (0 ≤ a1 → a1 < 4 → A' 37 a1 = a2) ∧ (∀ j, j ≠ a1 → A' 37 j = A 37 j) ∧ none = v
theorem ezt_m21_37 {a1 a2 : Int} {F : Nat → Nat → Int} {A : Nat → Int → Int} (hS : ezs_T F A) (hd : 0 ≤ d) (ha1 : ezw_in a1) (ha2 : ezw_in a2) : ezw_C l ρ B xa Hb D cA 21 d [ezw_p 37, ezw_i a1, ezw_i a2] (ezu_g e F A) (ezt_m21_37Q e F A a1 a2) := by
  refine ezw_met (k := 0) rfl rfl ?_
  refine ezw_aload_n rfl rfl ?_
  refine ezw_ifnull rfl ?_
  refine ezw_iload_n rfl rfl ?_
  refine ezw_if_lt rfl rfl ha1 (fun h5_0 => ?_) (fun h5_0 => ?_)
  · exact ezw_return rfl rfl ⟨A, rfl, hS, (fun _ _ => rfl), (by omega), (fun _ _ => rfl), rfl⟩
  · refine ezw_iload_n rfl rfl ?_
    refine ezw_aload_n rfl rfl ?_
    refine ezs_alen (k := 4) rfl rfl rfl rfl (by decide) (by decide) ?_
    refine ezw_icmp_ge rfl rfl ha1 ⟨by decide, by decide⟩ (fun h11_0 => ?_) (fun h11_0 => ?_)
    · exact ezw_return rfl rfl ⟨A, rfl, hS, (fun _ _ => rfl), (by omega), (fun _ _ => rfl), rfl⟩
    · refine ezw_aload_n rfl rfl ?_
      refine ezw_iload_n rfl rfl ?_
      refine ezw_iload_n rfl rfl ?_
      refine ezy_iastore hS rfl rfl rfl (by omega) (by omega) (by decide) ha2 (fun A1 hS mA1 nA1 => ?_)
      exact ezw_return rfl rfl ⟨A1, rfl, hS, (fun p h => by
            funext j
            rw [nA1 p j (by omega)]), (fun _ _ => mA1), (fun j hj => nA1 37 j (by omega)), rfl⟩
def ezt_m21_39Q (e : Bool × Bool) (F : Nat → Nat → Int) (A : Nat → Int → Int) (a1 : Int) (a2 : Int) : Option ezq_V → (Nat → ezq_C) → Prop := fun v g' => ∃ (A' : Nat → Int → Int), ezu_g e F A' = g' ∧ ezs_T F A' ∧ (∀ p, ¬ (p = 39) → A' p = A p) ∧ (0 ≤ a1 → a1 < 16 → A' 39 a1 = a2) ∧ (∀ j, j ≠ a1 → A' 39 j = A 39 j) ∧ none = v
theorem ezt_m21_39 {a1 a2 : Int} {F : Nat → Nat → Int} {A : Nat → Int → Int} (hS : ezs_T F A) (hd : 0 ≤ d) (ha1 : ezw_in a1) (ha2 : ezw_in a2) : ezw_C l ρ B xa Hb D cA 21 d [ezw_p 39, ezw_i a1, ezw_i a2] (ezu_g e F A) (ezt_m21_39Q e F A a1 a2) := by
  refine ezw_met (k := 0) rfl rfl ?_
  refine ezw_aload_n rfl rfl ?_
  refine ezw_ifnull rfl ?_
  refine ezw_iload_n rfl rfl ?_
  refine ezw_if_lt rfl rfl ha1 (fun h5_0 => ?_) (fun h5_0 => ?_)
  · exact ezw_return rfl rfl ⟨A, rfl, hS, (fun _ _ => rfl), (by omega), (fun _ _ => rfl), rfl⟩
  · refine ezw_iload_n rfl rfl ?_
    refine ezw_aload_n rfl rfl ?_
    refine ezs_alen (k := 16) rfl rfl rfl rfl (by decide) (by decide) ?_
    refine ezw_icmp_ge rfl rfl ha1 ⟨by decide, by decide⟩ (fun h11_0 => ?_) (fun h11_0 => ?_)
    · exact ezw_return rfl rfl ⟨A, rfl, hS, (fun _ _ => rfl), (by omega), (fun _ _ => rfl), rfl⟩
    · refine ezw_aload_n rfl rfl ?_
      refine ezw_iload_n rfl rfl ?_
      refine ezw_iload_n rfl rfl ?_
      refine ezy_iastore hS rfl rfl rfl (by omega) (by omega) (by decide) ha2 (fun A1 hS mA1 nA1 => ?_)
      exact ezw_return rfl rfl ⟨A1, rfl, hS, (fun p h => by
            funext j
            rw [nA1 p j (by omega)]), (fun _ _ => mA1), (fun j hj => nA1 39 j (by omega)), rfl⟩
def ezt_m21_42Q (e : Bool × Bool) (F : Nat → Nat → Int) (A : Nat → Int → Int) (a1 : Int) (a2 : Int) : Option ezq_V → (Nat → ezq_C) → Prop := fun v g' => ∃ (A' : Nat → Int → Int), ezu_g e F A' = g' ∧ ezs_T F A' ∧ (∀ p, ¬ (p = 42) → A' p = A p) ∧ (0 ≤ a1 → a1 < 4 → A' 42 a1 = a2) ∧ (∀ j, j ≠ a1 → A' 42 j = A 42 j) ∧ none = v
theorem ezt_m21_42 {a1 a2 : Int} {F : Nat → Nat → Int} {A : Nat → Int → Int} (hS : ezs_T F A) (hd : 0 ≤ d) (ha1 : ezw_in a1) (ha2 : ezw_in a2) : ezw_C l ρ B xa Hb D cA 21 d [ezw_p 42, ezw_i a1, ezw_i a2] (ezu_g e F A) (ezt_m21_42Q e F A a1 a2) := by
  refine ezw_met (k := 0) rfl rfl ?_
  refine ezw_aload_n rfl rfl ?_
  refine ezw_ifnull rfl ?_
  refine ezw_iload_n rfl rfl ?_
  refine ezw_if_lt rfl rfl ha1 (fun h5_0 => ?_) (fun h5_0 => ?_)
  · exact ezw_return rfl rfl ⟨A, rfl, hS, (fun _ _ => rfl), (by omega), (fun _ _ => rfl), rfl⟩
  · refine ezw_iload_n rfl rfl ?_
    refine ezw_aload_n rfl rfl ?_
    refine ezs_alen (k := 4) rfl rfl rfl rfl (by decide) (by decide) ?_
    refine ezw_icmp_ge rfl rfl ha1 ⟨by decide, by decide⟩ (fun h11_0 => ?_) (fun h11_0 => ?_)
    · exact ezw_return rfl rfl ⟨A, rfl, hS, (fun _ _ => rfl), (by omega), (fun _ _ => rfl), rfl⟩
    · refine ezw_aload_n rfl rfl ?_
      refine ezw_iload_n rfl rfl ?_
      refine ezw_iload_n rfl rfl ?_
      refine ezy_iastore hS rfl rfl rfl (by omega) (by omega) (by decide) ha2 (fun A1 hS mA1 nA1 => ?_)
      exact ezw_return rfl rfl ⟨A1, rfl, hS, (fun p h => by
            funext j
            rw [nA1 p j (by omega)]), (fun _ _ => mA1), (fun j hj => nA1 42 j (by omega)), rfl⟩
def ezt_m21_43Q (e : Bool × Bool) (F : Nat → Nat → Int) (A : Nat → Int → Int) (a1 : Int) (a2 : Int) : Option ezq_V → (Nat → ezq_C) → Prop := fun v g' => ∃ (A' : Nat → Int → Int), ezu_g e F A' = g' ∧ ezs_T F A' ∧ (∀ p, ¬ (p = 43) → A' p = A p) ∧ (0 ≤ a1 → a1 < 6 → A' 43 a1 = a2) ∧ (∀ j, j ≠ a1 → A' 43 j = A 43 j) ∧ none = v
theorem ezt_m21_43 {a1 a2 : Int} {F : Nat → Nat → Int} {A : Nat → Int → Int} (hS : ezs_T F A) (hd : 0 ≤ d) (ha1 : ezw_in a1) (ha2 : ezw_in a2) : ezw_C l ρ B xa Hb D cA 21 d [ezw_p 43, ezw_i a1, ezw_i a2] (ezu_g e F A) (ezt_m21_43Q e F A a1 a2) := by
  refine ezw_met (k := 0) rfl rfl ?_
  refine ezw_aload_n rfl rfl ?_
  refine ezw_ifnull rfl ?_
  refine ezw_iload_n rfl rfl ?_
  refine ezw_if_lt rfl rfl ha1 (fun h5_0 => ?_) (fun h5_0 => ?_)
  · exact ezw_return rfl rfl ⟨A, rfl, hS, (fun _ _ => rfl), (by omega), (fun _ _ => rfl), rfl⟩
  · refine ezw_iload_n rfl rfl ?_
    refine ezw_aload_n rfl rfl ?_
    refine ezs_alen (k := 6) rfl rfl rfl rfl (by decide) (by decide) ?_
    refine ezw_icmp_ge rfl rfl ha1 ⟨by decide, by decide⟩ (fun h11_0 => ?_) (fun h11_0 => ?_)
    · exact ezw_return rfl rfl ⟨A, rfl, hS, (fun _ _ => rfl), (by omega), (fun _ _ => rfl), rfl⟩
    · refine ezw_aload_n rfl rfl ?_
      refine ezw_iload_n rfl rfl ?_
      refine ezw_iload_n rfl rfl ?_
      refine ezy_iastore hS rfl rfl rfl (by omega) (by omega) (by decide) ha2 (fun A1 hS mA1 nA1 => ?_)
      exact ezw_return rfl rfl ⟨A1, rfl, hS, (fun p h => by
            funext j
            rw [nA1 p j (by omega)]), (fun _ _ => mA1), (fun j hj => nA1 43 j (by omega)), rfl⟩
def ezt_m21_44Q (e : Bool × Bool) (F : Nat → Nat → Int) (A : Nat → Int → Int) (a1 : Int) (a2 : Int) : Option ezq_V → (Nat → ezq_C) → Prop := fun v g' => ∃ (A' : Nat → Int → Int), ezu_g e F A' = g' ∧ ezs_T F A' ∧ (∀ p, ¬ (p = 44) → A' p = A p) ∧ (0 ≤ a1 → a1 < 11 → A' 44 a1 = a2) ∧ (∀ j, j ≠ a1 → A' 44 j = A 44 j) ∧ none = v
theorem ezt_m21_44 {a1 a2 : Int} {F : Nat → Nat → Int} {A : Nat → Int → Int} (hS : ezs_T F A) (hd : 0 ≤ d) (ha1 : ezw_in a1) (ha2 : ezw_in a2) (hv : -2147483648 ≤ a2 ∧ a2 ≤ 9999) : ezw_C l ρ B xa Hb D cA 21 d [ezw_p 44, ezw_i a1, ezw_i a2] (ezu_g e F A) (ezt_m21_44Q e F A a1 a2) := by
  refine ezw_met (k := 0) rfl rfl ?_
  refine ezw_aload_n rfl rfl ?_
  refine ezw_ifnull rfl ?_
  refine ezw_iload_n rfl rfl ?_
  refine ezw_if_lt rfl rfl ha1 (fun h5_0 => ?_) (fun h5_0 => ?_)
  · exact ezw_return rfl rfl ⟨A, rfl, hS, (fun _ _ => rfl), (by omega), (fun _ _ => rfl), rfl⟩
  · refine ezw_iload_n rfl rfl ?_
    refine ezw_aload_n rfl rfl ?_
    refine ezs_alen (k := 11) rfl rfl rfl rfl (by decide) (by decide) ?_
    refine ezw_icmp_ge rfl rfl ha1 ⟨by decide, by decide⟩ (fun h11_0 => ?_) (fun h11_0 => ?_)
    · exact ezw_return rfl rfl ⟨A, rfl, hS, (fun _ _ => rfl), (by omega), (fun _ _ => rfl), rfl⟩
    · refine ezw_aload_n rfl rfl ?_
      refine ezw_iload_n rfl rfl ?_
      refine ezw_iload_n rfl rfl ?_
      refine ezy_iastore hS rfl rfl rfl (by omega) (by omega) (by decide) (show ezs_ak 44 _ from ⟨by omega, by omega⟩) (fun A1 hS mA1 nA1 => ?_)
      exact ezw_return rfl rfl ⟨A1, rfl, hS, (fun p h => by
            funext j
            rw [nA1 p j (by omega)]), (fun _ _ => mA1), (fun j hj => nA1 44 j (by omega)), rfl⟩
def ezt_m64_40Q (e : Bool × Bool) (F : Nat → Nat → Int) (A : Nat → Int → Int) (a1 : Int) (a2 : Int) : Option ezq_V → (Nat → ezq_C) → Prop := fun v g' => ∃ (A' : Nat → Int → Int), ezu_g e F A' = g' ∧ ezs_T F A' ∧ (∀ p, ¬ (p = 40) → A' p = A p) ∧ (0 ≤ a1 → a1 < 8 → A' 40 a1 = a2) ∧ (∀ j, j ≠ a1 → A' 40 j = A 40 j) ∧ none = v
theorem ezt_m64_40 {a1 a2 : Int} {F : Nat → Nat → Int} {A : Nat → Int → Int} (hS : ezs_T F A) (hd : 0 ≤ d) (ha1 : ezw_in a1) (ha2 : ezw_il a2) : ezw_C l ρ B xa Hb D cA 64 d [ezw_p 40, ezw_i a1, ezw_l a2] (ezu_g e F A) (ezt_m64_40Q e F A a1 a2) := by
  refine ezw_met (k := 0) rfl rfl ?_
  refine ezw_aload_n rfl rfl ?_
  refine ezw_ifnull rfl ?_
  refine ezw_iload_n rfl rfl ?_
  refine ezw_if_lt rfl rfl ha1 (fun h5_0 => ?_) (fun h5_0 => ?_)
  · exact ezw_return rfl rfl ⟨A, rfl, hS, (fun _ _ => rfl), (by omega), (fun _ _ => rfl), rfl⟩
  · refine ezw_iload_n rfl rfl ?_
    refine ezw_aload_n rfl rfl ?_
    refine ezs_alen (k := 8) rfl rfl rfl rfl (by decide) (by decide) ?_
    refine ezw_icmp_ge rfl rfl ha1 ⟨by decide, by decide⟩ (fun h11_0 => ?_) (fun h11_0 => ?_)
    · exact ezw_return rfl rfl ⟨A, rfl, hS, (fun _ _ => rfl), (by omega), (fun _ _ => rfl), rfl⟩
    · refine ezw_aload_n rfl rfl ?_
      refine ezw_iload_n rfl rfl ?_
      refine ezw_lload_n rfl rfl ?_
      refine ezy_lastore hS rfl rfl rfl (by omega) (by omega) (by decide) ha2 (fun A1 hS mA1 nA1 => ?_)
      exact ezw_return rfl rfl ⟨A1, rfl, hS, (fun p h => by
            funext j
            rw [nA1 p j (by omega)]), (fun _ _ => mA1), (fun j hj => nA1 40 j (by omega)), rfl⟩
def ezt_m64_41Q (e : Bool × Bool) (F : Nat → Nat → Int) (A : Nat → Int → Int) (a1 : Int) (a2 : Int) : Option ezq_V → (Nat → ezq_C) → Prop := fun v g' => ∃ (A' : Nat → Int → Int), ezu_g e F A' = g' ∧ ezs_T F A' ∧ (∀ p, ¬ (p = 41) → A' p = A p) ∧ (0 ≤ a1 → a1 < 4 → A' 41 a1 = a2) ∧ (∀ j, j ≠ a1 → A' 41 j = A 41 j) ∧ none = v
theorem ezt_m64_41 {a1 a2 : Int} {F : Nat → Nat → Int} {A : Nat → Int → Int} (hS : ezs_T F A) (hd : 0 ≤ d) (ha1 : ezw_in a1) (ha2 : ezw_il a2) : ezw_C l ρ B xa Hb D cA 64 d [ezw_p 41, ezw_i a1, ezw_l a2] (ezu_g e F A) (ezt_m64_41Q e F A a1 a2) := by
  refine ezw_met (k := 0) rfl rfl ?_
  refine ezw_aload_n rfl rfl ?_
  refine ezw_ifnull rfl ?_
  refine ezw_iload_n rfl rfl ?_
  refine ezw_if_lt rfl rfl ha1 (fun h5_0 => ?_) (fun h5_0 => ?_)
  · exact ezw_return rfl rfl ⟨A, rfl, hS, (fun _ _ => rfl), (by omega), (fun _ _ => rfl), rfl⟩
  · refine ezw_iload_n rfl rfl ?_
    refine ezw_aload_n rfl rfl ?_
    refine ezs_alen (k := 4) rfl rfl rfl rfl (by decide) (by decide) ?_
    refine ezw_icmp_ge rfl rfl ha1 ⟨by decide, by decide⟩ (fun h11_0 => ?_) (fun h11_0 => ?_)
    · exact ezw_return rfl rfl ⟨A, rfl, hS, (fun _ _ => rfl), (by omega), (fun _ _ => rfl), rfl⟩
    · refine ezw_aload_n rfl rfl ?_
      refine ezw_iload_n rfl rfl ?_
      refine ezw_lload_n rfl rfl ?_
      refine ezy_lastore hS rfl rfl rfl (by omega) (by omega) (by decide) ha2 (fun A1 hS mA1 nA1 => ?_)
      exact ezw_return rfl rfl ⟨A1, rfl, hS, (fun p h => by
            funext j
            rw [nA1 p j (by omega)]), (fun _ _ => mA1), (fun j hj => nA1 41 j (by omega)), rfl⟩
def ezt_m69_30Q (e : Bool × Bool) (F : Nat → Nat → Int) (A : Nat → Int → Int) (a1 : Int) (a2 : Int) : Option ezq_V → (Nat → ezq_C) → Prop := fun v g' => ∃ (A' : Nat → Int → Int), ezu_g e F A' = g' ∧ ezs_T F A' ∧ (∀ p, ¬ (p = 44) → A' p = A p) ∧ (0 ≤ a1 → a1 < 11 → A' 44 a1 = a2) ∧ (∀ j, j ≠ a1 → A' 44 j = A 44 j) ∧ none = v
theorem ezt_m69_30 {a1 a2 : Int} {F : Nat → Nat → Int} {A : Nat → Int → Int} (hS : ezs_T F A) (hd : 1 ≤ d) (ha1 : ezw_in a1) (ha2 : ezw_in a2) (hv : -2147483648 ≤ a2 ∧ a2 ≤ 9999) : ezw_C l ρ B xa Hb D cA 69 d [ezw_p 30, ezw_i a1, ezw_i a2] (ezu_g e F A) (ezt_m69_30Q e F A a1 a2) := by
  refine ezw_met (k := 0) rfl rfl ?_
  refine ezw_aload_n rfl rfl ?_
  refine ezs_getp (p := 44) rfl rfl rfl rfl rfl ?_
  refine ezw_iload_n rfl rfl ?_
  refine ezw_iload_n rfl rfl ?_
  refine ezw_call3_3 rfl (by omega) rfl rfl (ezt_m21_44 hS (by omega) ha1 ha2 (by omega)) ?_
  rintro _ _ ⟨A1, rfl, hS, nA1, m_1, n_1, rfl⟩
  exact ezw_return rfl rfl ⟨A1, rfl, hS, (fun p h => by
        funext j
        rw [nA1 p (by omega)]), m_1, n_1, rfl⟩
def ezt_m63_30Q (e : Bool × Bool) (F : Nat → Nat → Int) (A : Nat → Int → Int) (t : ezp_D) (wl : List Int) (a1 : Int) (a2 : Int) (a3 : Int) (a4 : Int) (a5 : Int) : Option ezq_V → (Nat → ezq_C) → Prop := fun v g' => ∃ (F' : Nat → Nat → Int) (A' : Nat → Int → Int), ezu_g e F' A' = g' ∧ ezs_T F' A' ∧ (∀ p j, ¬ (p = 30 ∧ (j = 15)) → F' p j = F p j) ∧ (∀ p, ¬ (p = 31 ∨ p = 32 ∨ p = 33 ∨ p = 34 ∨ p = 40) → A' p = A p) ∧ (ezt_TR 30 (t.twig wl a2 a3 a4 a5) F' A') ∧ none = v
theorem ezt_m63_30 {t : ezp_D} {wl : List Int} {a1 a2 a3 a4 a5 : Int} {F : Nat → Nat → Int} {A : Nat → Int → Int} (hS : ezs_T F A) (hd : 1 ≤ d) (ha1 : ezw_il a1) (ha2 : ezw_in a2) (ha3 : ezw_in a3) (ha4 : ezw_in a4) (ha5 : ezw_in a5) (tr : ezt_TR 30 t F A) (hk : t.kT < 8) (hl : ezp_ok wl) (ha : a1 = ezp_v 32 wl) : ezw_C l ρ B xa Hb D cA 63 d [ezw_p 30, ezw_l a1, ezw_i a2, ezw_i a3, ezw_i a4, ezw_i a5] (ezu_g e F A) (ezt_m63_30Q e F A t wl a1 a2 a3 a4 a5) := by
  refine ezw_met (k := 0) rfl rfl ?_
  obtain ⟨⟨c1, c2, c3, c4⟩, ⟨d1, d2, d3, d4, d5, d6, d7, d8⟩, trr⟩ := id tr
  refine ezw_aload_n rfl rfl ?_
  refine ezs_getp (p := 40) rfl rfl rfl rfl rfl ?_
  refine ezw_aload_n rfl rfl ?_
  refine ezy_get_i hS rfl rfl rfl rfl rfl rfl (fun u1 hu1 ku1 eu1 => ?_)
  replace eu1 := eu1.symm
  subst eu1
  refine ezw_lload_n rfl rfl ?_
  refine ezw_call3_3 rfl (by omega) rfl rfl (ezt_m64_40 hS (by omega) hu1 ha1) ?_
  rintro _ _ ⟨A2, rfl, hS, nA2, m_2, n_2, rfl⟩
  refine ezw_aload_n rfl rfl ?_
  refine ezs_getp (p := 31) rfl rfl rfl rfl rfl ?_
  refine ezw_aload_n rfl rfl ?_
  refine ezy_get_i hS rfl rfl rfl rfl rfl rfl (fun u3 hu3 ku3 eu3 => ?_)
  replace eu3 := eu3.symm
  subst eu3
  refine ezw_iload_n rfl rfl ?_
  refine ezw_call3_3 rfl (by omega) rfl rfl (ezt_m21_31 hS (by omega) hu3 ha2) ?_
  rintro _ _ ⟨A4, rfl, hS, nA4, m_4, n_4, rfl⟩
  refine ezw_aload_n rfl rfl ?_
  refine ezs_getp (p := 32) rfl rfl rfl rfl rfl ?_
  refine ezw_aload_n rfl rfl ?_
  refine ezy_get_i hS rfl rfl rfl rfl rfl rfl (fun u5 hu5 ku5 eu5 => ?_)
  replace eu5 := eu5.symm
  subst eu5
  refine ezw_iload rfl rfl ?_
  refine ezw_call3_3 rfl (by omega) rfl rfl (ezt_m21_32 hS (by omega) hu5 ha3) ?_
  rintro _ _ ⟨A6, rfl, hS, nA6, m_6, n_6, rfl⟩
  refine ezw_aload_n rfl rfl ?_
  refine ezs_getp (p := 33) rfl rfl rfl rfl rfl ?_
  refine ezw_aload_n rfl rfl ?_
  refine ezy_get_i hS rfl rfl rfl rfl rfl rfl (fun u7 hu7 ku7 eu7 => ?_)
  replace eu7 := eu7.symm
  subst eu7
  refine ezw_iload rfl rfl ?_
  refine ezw_call3_3 rfl (by omega) rfl rfl (ezt_m21_33 hS (by omega) hu7 ha4) ?_
  rintro _ _ ⟨A8, rfl, hS, nA8, m_8, n_8, rfl⟩
  refine ezw_aload_n rfl rfl ?_
  refine ezs_getp (p := 34) rfl rfl rfl rfl rfl ?_
  refine ezw_aload_n rfl rfl ?_
  refine ezy_get_i hS rfl rfl rfl rfl rfl rfl (fun u9 hu9 ku9 eu9 => ?_)
  replace eu9 := eu9.symm
  subst eu9
  refine ezw_iload rfl rfl ?_
  refine ezw_call3_3 rfl (by omega) rfl rfl (ezt_m21_34 hS (by omega) hu9 ha5) ?_
  rintro _ _ ⟨A10, rfl, hS, nA10, m_10, n_10, rfl⟩
  refine ezw_aload_n rfl rfl ?_
  refine ezw_dup rfl rfl ?_
  refine ezy_get_i hS rfl rfl rfl rfl rfl rfl (fun u11 hu11 ku11 eu11 => ?_)
  replace eu11 := eu11.symm
  subst eu11
  refine ezw_iconst (1) rfl rfl ?_
  refine ezw_iadd (k := (F 30 15) + 1) rfl (by omega) ?_
  refine ezy_put_i hS rfl rfl rfl rfl rfl ⟨by omega, by omega⟩ (fun F12 hS mF12 nF12 => ?_)
  exact ezw_return rfl rfl ⟨F12, A10, rfl, hS, (fun p j h => by rw [nF12 p j (by omega)]), (fun p h => by
        funext j
        rw [nA10 p (by omega), nA8 p (by omega), nA6 p (by omega), nA4 p (by omega), nA2 p (by omega)]), (ezt_TR_twig (F' := F12) (A' := A10) tr hk hl (by rw [mF12]) (by rw [nF12 30 16 (by decide)]) (by rw [nF12 30 17 (by decide)]) (by rw [nF12 38 1 (by decide)]) (fun k k1 k2 => by rw [nA10 (30 + k) (by omega), nA8 (30 + k) (by omega), nA6 (30 + k) (by omega), nA4 (30 + k) (by omega), nA2 (30 + k) (by omega)]) (fun k k1 k2 => by rw [nA10 (30 + k) (by omega), nA8 (30 + k) (by omega), nA6 (30 + k) (by omega), nA4 (30 + k) (by omega), nA2 (30 + k) (by omega)]) ⟨(show A10 40 (F 30 15) = ezp_v 32 wl from ha ▸ (by rw [nA10 40 (by decide), nA8 40 (by decide), nA6 40 (by decide), nA4 40 (by decide)]; exact m_2 (by omega) (by omega))), (by rw [nA10 31 (by decide), nA8 31 (by decide), nA6 31 (by decide)]; exact m_4 (by omega) (by omega)), (by rw [nA10 32 (by decide), nA8 32 (by decide)]; exact m_6 (by omega) (by omega)), (by rw [nA10 33 (by decide)]; exact m_8 (by omega) (by omega)), (m_10 (by omega) (by omega))⟩ (fun j hj => ⟨(show A10 40 j = A 40 j from by rw [nA10 40 (by decide), nA8 40 (by decide), nA6 40 (by decide), nA4 40 (by decide), n_2 j hj]), (show A10 31 j = A 31 j from by rw [nA10 31 (by decide), nA8 31 (by decide), nA6 31 (by decide), n_4 j hj, nA2 31 (by decide)]), (show A10 32 j = A 32 j from by rw [nA10 32 (by decide), nA8 32 (by decide), n_6 j hj, nA4 32 (by decide), nA2 32 (by decide)]), (show A10 33 j = A 33 j from by rw [nA10 33 (by decide), n_8 j hj, nA6 33 (by decide), nA4 33 (by decide), nA2 33 (by decide)]), (show A10 34 j = A 34 j from by rw [n_10 j hj, nA8 34 (by decide), nA6 34 (by decide), nA4 34 (by decide), nA2 34 (by decide)])⟩)), rfl⟩
def ezt_m71_30Q (e : Bool × Bool) (F : Nat → Nat → Int) (A : Nat → Int → Int) (t : ezp_D) (wl : List Int) (a1 : Int) (a2 : Int) (a3 : Int) (a4 : Int) : Option ezq_V → (Nat → ezq_C) → Prop := fun v g' => ∃ (F' : Nat → Nat → Int) (A' : Nat → Int → Int), ezu_g e F' A' = g' ∧ ezs_T F' A' ∧ (∀ p j, ¬ (p = 30 ∧ (j = 16)) → F' p j = F p j) ∧ (∀ p, ¬ (p = 35 ∨ p = 36 ∨ p = 37 ∨ p = 41 ∨ p = 42) → A' p = A p) ∧ (ezt_TR 30 (t.thing wl a2 a3 a4) F' A') ∧ none = v
theorem ezt_m71_30 {t : ezp_D} {wl : List Int} {a1 a2 a3 a4 : Int} {F : Nat → Nat → Int} {A : Nat → Int → Int} (hS : ezs_T F A) (hd : 1 ≤ d) (ha1 : ezw_il a1) (ha2 : ezw_in a2) (ha3 : ezw_in a3) (ha4 : ezw_in a4) (tr : ezt_TR 30 t F A) (hk : t.kH < 4) (hl : ezp_ok wl) (ha : a1 = ezp_v 32 wl) : ezw_C l ρ B xa Hb D cA 71 d [ezw_p 30, ezw_l a1, ezw_i a2, ezw_i a3, ezw_i a4] (ezu_g e F A) (ezt_m71_30Q e F A t wl a1 a2 a3 a4) := by
  refine ezw_met (k := 0) rfl rfl ?_
  obtain ⟨⟨c1, c2, c3, c4⟩, ⟨d1, d2, d3, d4, d5, d6, d7, d8⟩, trr⟩ := id tr
  refine ezw_aload_n rfl rfl ?_
  refine ezs_getp (p := 41) rfl rfl rfl rfl rfl ?_
  refine ezw_aload_n rfl rfl ?_
  refine ezy_get_i hS rfl rfl rfl rfl rfl rfl (fun u1 hu1 ku1 eu1 => ?_)
  replace eu1 := eu1.symm
  subst eu1
  refine ezw_lload_n rfl rfl ?_
  refine ezw_call3_3 rfl (by omega) rfl rfl (ezt_m64_41 hS (by omega) hu1 ha1) ?_
  rintro _ _ ⟨A2, rfl, hS, nA2, m_2, n_2, rfl⟩
  refine ezw_aload_n rfl rfl ?_
  refine ezs_getp (p := 35) rfl rfl rfl rfl rfl ?_
  refine ezw_aload_n rfl rfl ?_
  refine ezy_get_i hS rfl rfl rfl rfl rfl rfl (fun u3 hu3 ku3 eu3 => ?_)
  replace eu3 := eu3.symm
  subst eu3
  refine ezw_iload_n rfl rfl ?_
  refine ezw_call3_3 rfl (by omega) rfl rfl (ezt_m21_35 hS (by omega) hu3 ha2) ?_
  rintro _ _ ⟨A4, rfl, hS, nA4, m_4, n_4, rfl⟩
  refine ezw_aload_n rfl rfl ?_
  refine ezs_getp (p := 36) rfl rfl rfl rfl rfl ?_
  refine ezw_aload_n rfl rfl ?_
  refine ezy_get_i hS rfl rfl rfl rfl rfl rfl (fun u5 hu5 ku5 eu5 => ?_)
  replace eu5 := eu5.symm
  subst eu5
  refine ezw_iload rfl rfl ?_
  refine ezw_call3_3 rfl (by omega) rfl rfl (ezt_m21_36 hS (by omega) hu5 ha3) ?_
  rintro _ _ ⟨A6, rfl, hS, nA6, m_6, n_6, rfl⟩
  refine ezw_aload_n rfl rfl ?_
  refine ezs_getp (p := 37) rfl rfl rfl rfl rfl ?_
  refine ezw_aload_n rfl rfl ?_
  refine ezy_get_i hS rfl rfl rfl rfl rfl rfl (fun u7 hu7 ku7 eu7 => ?_)
  replace eu7 := eu7.symm
  subst eu7
  refine ezw_iload rfl rfl ?_
  refine ezw_call3_3 rfl (by omega) rfl rfl (ezt_m21_37 hS (by omega) hu7 ha4) ?_
  rintro _ _ ⟨A8, rfl, hS, nA8, m_8, n_8, rfl⟩
  refine ezw_aload_n rfl rfl ?_
  refine ezs_getp (p := 42) rfl rfl rfl rfl rfl ?_
  refine ezw_aload_n rfl rfl ?_
  refine ezy_get_i hS rfl rfl rfl rfl rfl rfl (fun u9 hu9 ku9 eu9 => ?_)
  replace eu9 := eu9.symm
  subst eu9
  refine ezw_iconst (0) rfl rfl ?_
  refine ezw_call3_3 rfl (by omega) rfl rfl (ezt_m21_42 hS (by omega) hu9 ⟨by decide, by decide⟩) ?_
  rintro _ _ ⟨A10, rfl, hS, nA10, m_10, n_10, rfl⟩
  refine ezw_aload_n rfl rfl ?_
  refine ezw_dup rfl rfl ?_
  refine ezy_get_i hS rfl rfl rfl rfl rfl rfl (fun u11 hu11 ku11 eu11 => ?_)
  replace eu11 := eu11.symm
  subst eu11
  refine ezw_iconst (1) rfl rfl ?_
  refine ezw_iadd (k := (F 30 16) + 1) rfl (by omega) ?_
  refine ezy_put_i hS rfl rfl rfl rfl rfl ⟨by omega, by omega⟩ (fun F12 hS mF12 nF12 => ?_)
  exact ezw_return rfl rfl ⟨F12, A10, rfl, hS, (fun p j h => by rw [nF12 p j (by omega)]), (fun p h => by
        funext j
        rw [nA10 p (by omega), nA8 p (by omega), nA6 p (by omega), nA4 p (by omega), nA2 p (by omega)]), (ezt_TR_thing (F' := F12) (A' := A10) tr hk hl (by rw [nF12 30 15 (by decide)]) (by rw [mF12]) (by rw [nF12 30 17 (by decide)]) (by rw [nF12 38 1 (by decide)]) (fun k k1 k2 => by rw [nA10 (30 + k) (by omega), nA8 (30 + k) (by omega), nA6 (30 + k) (by omega), nA4 (30 + k) (by omega), nA2 (30 + k) (by omega)]) (fun k k1 k2 => by rw [nA10 (30 + k) (by omega), nA8 (30 + k) (by omega), nA6 (30 + k) (by omega), nA4 (30 + k) (by omega), nA2 (30 + k) (by omega)]) (by rw [nA10 43 (by decide), nA8 43 (by decide), nA6 43 (by decide), nA4 43 (by decide), nA2 43 (by decide)]) ⟨(show A10 41 (F 30 16) = ezp_v 32 wl from ha ▸ (by rw [nA10 41 (by decide), nA8 41 (by decide), nA6 41 (by decide), nA4 41 (by decide)]; exact m_2 (by omega) (by omega))), (by rw [nA10 35 (by decide), nA8 35 (by decide), nA6 35 (by decide)]; exact m_4 (by omega) (by omega)), (by rw [nA10 36 (by decide), nA8 36 (by decide)]; exact m_6 (by omega) (by omega)), (by rw [nA10 37 (by decide)]; exact m_8 (by omega) (by omega)), (m_10 (by omega) (by omega))⟩ (fun j hj => ⟨(show A10 41 j = A 41 j from by rw [nA10 41 (by decide), nA8 41 (by decide), nA6 41 (by decide), nA4 41 (by decide), n_2 j hj]), (show A10 35 j = A 35 j from by rw [nA10 35 (by decide), nA8 35 (by decide), nA6 35 (by decide), n_4 j hj, nA2 35 (by decide)]), (show A10 36 j = A 36 j from by rw [nA10 36 (by decide), nA8 36 (by decide), n_6 j hj, nA4 36 (by decide), nA2 36 (by decide)]), (show A10 37 j = A 37 j from by rw [nA10 37 (by decide), n_8 j hj, nA6 37 (by decide), nA4 37 (by decide), nA2 37 (by decide)]), (show A10 42 j = A 42 j from by rw [n_10 j hj, nA8 42 (by decide), nA6 42 (by decide), nA4 42 (by decide), nA2 42 (by decide)])⟩)), rfl⟩
def ezt_m67_30Q (e : Bool × Bool) (F : Nat → Nat → Int) (A : Nat → Int → Int) (t : ezp_D) (a1 : Int) : Option ezq_V → (Nat → ezq_C) → Prop := fun v g' => ∃ (F' : Nat → Nat → Int) (A' : Nat → Int → Int), ezu_g e F' A' = g' ∧ ezs_T F' A' ∧ (∀ p j, ¬ (p = 30 ∧ (j = 17)) → F' p j = F p j) ∧ (∀ p, ¬ (p = 43) → A' p = A p) ∧ (ezt_TR 30 (t.strg a1) F' A') ∧ none = v
theorem ezt_m67_30 {t : ezp_D} {a1 : Int} {F : Nat → Nat → Int} {A : Nat → Int → Int} (hS : ezs_T F A) (hd : 1 ≤ d) (ha1 : ezw_in a1) (tr : ezt_TR 30 t F A) (hk : t.kS < 6) : ezw_C l ρ B xa Hb D cA 67 d [ezw_p 30, ezw_i a1] (ezu_g e F A) (ezt_m67_30Q e F A t a1) := by
  refine ezw_met (k := 0) rfl rfl ?_
  obtain ⟨⟨c1, c2, c3, c4⟩, ⟨d1, d2, d3, d4, d5, d6, d7, d8⟩, e3, e4, e5, e6⟩ := id tr
  refine ezw_aload_n rfl rfl ?_
  refine ezs_getp (p := 43) rfl rfl rfl rfl rfl ?_
  refine ezw_aload_n rfl rfl ?_
  refine ezy_get_i hS rfl rfl rfl rfl rfl rfl (fun u1 hu1 ku1 eu1 => ?_)
  replace eu1 := eu1.symm
  subst eu1
  refine ezw_iload_n rfl rfl ?_
  refine ezw_call3_3 rfl (by omega) rfl rfl (ezt_m21_43 hS (by omega) hu1 ha1) ?_
  rintro _ _ ⟨A2, rfl, hS, nA2, m_2, n_2, rfl⟩
  refine ezw_aload_n rfl rfl ?_
  refine ezw_dup rfl rfl ?_
  refine ezy_get_i hS rfl rfl rfl rfl rfl rfl (fun u3 hu3 ku3 eu3 => ?_)
  replace eu3 := eu3.symm
  subst eu3
  refine ezw_iconst (1) rfl rfl ?_
  refine ezw_iadd (k := (F 30 17) + 1) rfl (by omega) ?_
  refine ezy_put_i hS rfl rfl rfl rfl rfl ⟨by omega, by omega⟩ (fun F4 hS mF4 nF4 => ?_)
  exact ezw_return rfl rfl ⟨F4, A2, rfl, hS, (fun p j h => by rw [nF4 p j (by omega)]), (fun p h => by
        funext j
        rw [nA2 p (by omega)]), (ezt_TR_strg (F' := F4) (A' := A2) tr hk (by rw [nF4 30 15 (by decide)]) (by rw [nF4 30 16 (by decide)]) (by rw [mF4]) (by rw [nF4 38 1 (by decide)]) (fun k k1 k2 => by rw [nA2 (30 + k) (by omega)]) (m_2 (by omega) (by omega)) (fun j hj => (show A2 43 j = A 43 j from by rw [n_2 j hj]))), rfl⟩
def ezt_m66_30Q (e : Bool × Bool) (F : Nat → Nat → Int) (A : Nat → Int → Int) (t : ezp_D) (a1 : Int) : Option ezq_V → (Nat → ezq_C) → Prop := fun v g' => ezu_g e F A = g' ∧ ∃ u : Int, (0 ≤ u ∧ u ≤ 1) ∧ (u = 1 → ezp_hs t.sg a1 t.kS.toNat = true) ∧ (u = 0 → ezp_hs t.sg a1 t.kS.toNat = false) ∧ some (ezw_i u) = v
theorem ezt_m66_30 {t : ezp_D} {a1 : Int} {F : Nat → Nat → Int} {A : Nat → Int → Int} (hS : ezs_T F A) (hd : 1 ≤ d) (ha1 : ezw_in a1) (tr : ezt_TR 30 t F A) : ezw_C l ρ B xa Hb D cA 66 d [ezw_p 30, ezw_i a1] (ezu_g e F A) (ezt_m66_30Q e F A t a1) := by
  refine ezw_met (k := 1) rfl rfl ?_
  obtain ⟨⟨c1, c2, c3, c4⟩, ⟨d1, d2, d3, d4, d5, d6, d7, d8⟩, e3, e4, e5, e6⟩ := id tr
  have e5 : ∀ i, 0 ≤ i → i < t.kS → A 43 i = t.sg i := e5
  refine ezw_iconst (0) rfl rfl ?_
  refine ezw_istore_n rfl rfl ?_
  have L2_2 : ∀ c1 : Int, ezw_in c1 → ((0) ≤ c1) → (∀ i, 0 ≤ i → i < c1 → t.sg i ≠ a1) → ezw_E l ρ B xa Hb D cA d ezq_re66 (ezt_m66_30Q e F A t a1) 2 [some (ezw_p 30), some (ezw_i a1), some (ezw_i c1)] [] (ezu_g e F A) := by
    refine ezs_up ?_
    intro c1 hc1 ihc1 g_2 no_2
    refine ezw_iload_n rfl rfl ?_
    refine ezw_aload_n rfl rfl ?_
    refine ezy_get_i hS rfl rfl rfl rfl rfl rfl (fun u3 hu3 ku3 eu3 => ?_)
    replace eu3 := eu3.symm
    subst eu3
    refine ezw_icmp_ge rfl rfl hc1 hu3 (fun h7_3 => ?_) (fun h7_3 => ?_)
    · refine ezw_iconst (0) rfl rfl ?_
      exact ezw_ireturn rfl (ezw_zret ⟨by omega, by omega⟩) ⟨rfl, (0), ⟨by omega, by omega⟩, (by omega), (fun _ => ezp_hsF (fun i i0 i1 => no_2 i i0 (by omega))), rfl⟩
    · refine ezw_aload_n rfl rfl ?_
      refine ezs_getp (p := 43) rfl rfl rfl rfl rfl ?_
      refine ezw_iload_n rfl rfl ?_
      refine ezw_call3_2 rfl (by omega) rfl rfl (ezt_m27_43 hS (by omega) hc1) ?_
      rintro _ _ ⟨rfl, u5, hu5, v_4, rfl⟩
      refine ezw_iload_n rfl rfl ?_
      refine ezw_icmp_ne rfl rfl hu5 ha1 (fun h19_5 => ?_) (fun h19_5 => ?_)
      · refine ezw_iinc (k := c1 + 1) (1) rfl rfl rfl (by omega) rfl ?_
        refine ezw_goto rfl rfl ?_
        exact ezw_keepE [true, true, true] (ihc1 (c1 + 1) (by omega) ⟨by omega, by omega⟩ (by omega) (fun i i0 i1 => by
              by_cases hi : i = c1
              · subst hi
                have h7 := e5 _ i0 (by omega)
                have h8 := v_4 i0 (by omega)
                omega
              · exact no_2 i i0 (by omega)))
      · refine ezw_iconst (1) rfl rfl ?_
        exact ezw_ireturn rfl (ezw_zret ⟨by omega, by omega⟩) ⟨rfl, (1), ⟨by omega, by omega⟩, (fun _ => ezp_hsT c1 (by omega) (by omega) (by
              have h7 := e5 c1 (by omega) (by omega)
              have h8 := v_4 (by omega) (by omega)
              omega)), (by omega), rfl⟩
  exact ezw_keepE [true, true, true] (L2_2 (0) ⟨by decide, by decide⟩ (by omega) (fun i i0 i1 => by omega))
def ezt_m73_30Q (e : Bool × Bool) (F : Nat → Nat → Int) (A : Nat → Int → Int) (t : ezp_D) (a1 : Int) (a2 : Int) : Option ezq_V → (Nat → ezq_C) → Prop := fun v g' => ezu_g e F A = g' ∧ ∃ u : Int, (0 ≤ u ∧ u ≤ 1) ∧ (u = 1 → t.ah a2 a1 = 1) ∧ (u = 0 → t.ah a2 a1 ≠ 1) ∧ some (ezw_i u) = v
theorem ezt_m73_30 {t : ezp_D} {a1 a2 : Int} {F : Nat → Nat → Int} {A : Nat → Int → Int} (hS : ezs_T F A) (hd : 1 ≤ d) (ha1 : ezw_in a1) (ha2 : ezw_in a2) (tr : ezt_TR 30 t F A) (g1 : 0 ≤ a1 ∧ a1 < 4 ∧ 0 ≤ a2 ∧ a2 < t.kH) : ezw_C l ρ B xa Hb D cA 73 d [ezw_p 30, ezw_i a1, ezw_i a2] (ezu_g e F A) (ezt_m73_30Q e F A t a1 a2) := by
  refine ezw_met (k := 0) rfl rfl ?_
  obtain ⟨⟨c1, c2, c3, c4⟩, ⟨d1, d2, d3, d4, d5, d6, d7, d8⟩, e3, e4, e5, e6⟩ := id tr
  refine ezw_aload_n rfl rfl ?_
  refine ezs_getp (p := 42) rfl rfl rfl rfl rfl ?_
  refine ezw_iload_n rfl rfl ?_
  refine ezw_call3_2 rfl (by omega) rfl rfl (ezt_m27_42 hS (by omega) ha2) ?_
  rintro _ _ ⟨rfl, u2, hu2, v_1, rfl⟩
  refine ezw_iload_n rfl rfl ?_
  refine ezw_call3_2 rfl (by omega) rfl rfl (ezt_m49 hS (by omega) hu2 ha1) ?_
  rintro _ _ ⟨rfl, u4, hu4, v_3, rfl⟩
  have h7 : ezt_b (A 42 a2) a1 = t.ah a2 a1 := (e4 a2 (by omega) (by omega)).2.2.2.2.2 a1 (by omega) (by omega)
  have h8 := v_1 (by omega) (by omega)
  have h9 := v_3 (by omega) (by omega)
  rw [h8, h7] at h9
  refine ezw_iconst (1) rfl rfl ?_
  refine ezw_icmp_ne rfl rfl hu4 ⟨by decide, by decide⟩ (fun h13_4 => ?_) (fun h13_4 => ?_)
  · refine ezw_iconst (0) rfl rfl ?_
    exact ezw_ireturn rfl (ezw_zret ⟨by omega, by omega⟩) ⟨rfl, (0), ⟨by omega, by omega⟩, by omega, by omega, rfl⟩
  · refine ezw_iconst (1) rfl rfl ?_
    refine ezw_goto rfl rfl ?_
    exact ezw_ireturn rfl (ezw_zret ⟨by omega, by omega⟩) ⟨rfl, (1), ⟨by omega, by omega⟩, by omega, by omega, rfl⟩
def ezt_m74_30Q (e : Bool × Bool) (F : Nat → Nat → Int) (A : Nat → Int → Int) (t : ezp_D) (a1 : Int) (a2 : Int) : Option ezq_V → (Nat → ezq_C) → Prop := fun v g' => ∃ (A' : Nat → Int → Int), ezu_g e F A' = g' ∧ ezs_T F A' ∧ (∀ p, ¬ (p = 42) → A' p = A p) ∧ (ezt_TR 30 (t.over a1 a2) F A') ∧ none = v
theorem ezt_m74_30 {t : ezp_D} {a1 a2 : Int} {F : Nat → Nat → Int} {A : Nat → Int → Int} (hS : ezs_T F A) (hd : 1 ≤ d) (ha1 : ezw_in a1) (ha2 : ezw_in a2) (tr : ezt_TR 30 t F A) (g1 : 0 ≤ a1 ∧ a1 < 4 ∧ 0 ≤ a2 ∧ a2 < t.kH) : ezw_C l ρ B xa Hb D cA 74 d [ezw_p 30, ezw_i a1, ezw_i a2] (ezu_g e F A) (ezt_m74_30Q e F A t a1 a2) := by
  refine ezw_met (k := 0) rfl rfl ?_
  obtain ⟨⟨c1, c2, c3, c4⟩, ⟨d1, d2, d3, d4, d5, d6, d7, d8⟩, e3, e4, e5, e6⟩ := id tr
  refine ezw_aload_n rfl rfl ?_
  refine ezs_getp (p := 42) rfl rfl rfl rfl rfl ?_
  refine ezw_iload_n rfl rfl ?_
  refine ezw_aload_n rfl rfl ?_
  refine ezs_getp (p := 42) rfl rfl rfl rfl rfl ?_
  refine ezw_iload_n rfl rfl ?_
  refine ezw_call3_2 rfl (by omega) rfl rfl (ezt_m27_42 hS (by omega) ha2) ?_
  rintro _ _ ⟨rfl, u2, hu2, v_1, rfl⟩
  have h7 : 0 ≤ A 42 a2 ∧ A 42 a2 < 16 := (e4 a2 (by omega) (by omega)).2.2.2.2.1
  have h8 := v_1 (by omega) (by omega)
  have hor := ezt_or1 (v := u2) (j := a1) 4 (by decide) (by omega) (by omega) (by omega) (by omega)
  refine ezw_iconst (1) rfl rfl ?_
  refine ezw_iload_n rfl rfl ?_
  refine ezw_ishl rfl (by omega) (by omega) (k := (1 * 2 ^ (a1).toNat)) (rfl) ?_
  refine ezw_ior rfl (k := ezw_or u2 (1 * 2 ^ (a1).toNat)) rfl ?_
  refine ezw_call3_3 rfl (by omega) rfl rfl (ezt_m21_42 hS (by omega) ha2 ⟨by omega, by omega⟩) ?_
  rintro _ _ ⟨A3, rfl, hS, nA3, m_3, n_3, rfl⟩
  exact ezw_return rfl rfl ⟨A3, rfl, hS, (fun p h => by
        funext j
        rw [nA3 p (by omega)]), (ezt_TR_over (F' := F) (A' := A3) tr (by omega) (by omega) (by omega) (by omega) rfl rfl rfl rfl (fun k k1 k2 => by rw [nA3 (30 + k) (by omega)]) (by rw [nA3 43 (by decide)]) (h8 ▸ (m_3 (by omega) (by omega))) (fun j hj => (show A3 42 j = A 42 j from by rw [n_3 j hj]))), rfl⟩
def ezt_m78_38Q (e : Bool × Bool) (F : Nat → Nat → Int) (A : Nat → Int → Int) (t : ezp_D) (a1 : Int) (a2 : Int) : Option ezq_V → (Nat → ezq_C) → Prop := fun v g' => ezu_g e F A = g' ∧ ∃ u : Int, (0 ≤ u ∧ u ≤ 1) ∧ (u = 1 → t.el a1 a2 = 1) ∧ (u = 0 → t.el a1 a2 ≠ 1) ∧ some (ezw_i u) = v
theorem ezt_m78_38 {t : ezp_D} {a1 a2 : Int} {F : Nat → Nat → Int} {A : Nat → Int → Int} (hS : ezs_T F A) (hd : 1 ≤ d) (ha1 : ezw_in a1) (ha2 : ezw_in a2) (tr : ezt_TR 30 t F A) (g1 : 0 ≤ a1 ∧ a1 < 16 ∧ 0 ≤ a2 ∧ a2 < 16) : ezw_C l ρ B xa Hb D cA 78 d [ezw_p 38, ezw_i a1, ezw_i a2] (ezu_g e F A) (ezt_m78_38Q e F A t a1 a2) := by
  refine ezw_met (k := 0) rfl rfl ?_
  obtain ⟨⟨c1, c2, c3, c4⟩, ⟨d1, d2, d3, d4, d5, d6, d7, d8⟩, e3, e4, e5, e6⟩ := id tr
  refine ezw_aload_n rfl rfl ?_
  refine ezs_getp (p := 39) rfl rfl rfl rfl rfl ?_
  refine ezw_iload_n rfl rfl ?_
  refine ezw_call3_2 rfl (by omega) rfl rfl (ezt_m27_39 hS (by omega) ha1) ?_
  rintro _ _ ⟨rfl, u2, hu2, v_1, rfl⟩
  refine ezw_iload_n rfl rfl ?_
  refine ezw_call3_2 rfl (by omega) rfl rfl (ezt_m49 hS (by omega) hu2 ha2) ?_
  rintro _ _ ⟨rfl, u4, hu4, v_3, rfl⟩
  have h7 : ezt_b (A 39 a1) a2 = t.el a1 a2 := (e6 a1 (by omega) (by omega)).2 a2 (by omega) (by omega)
  have h8 := v_1 (by omega) (by omega)
  have h9 := v_3 (by omega) (by omega)
  rw [h8, h7] at h9
  refine ezw_iconst (1) rfl rfl ?_
  refine ezw_icmp_ne rfl rfl hu4 ⟨by decide, by decide⟩ (fun h13_4 => ?_) (fun h13_4 => ?_)
  · refine ezw_iconst (0) rfl rfl ?_
    exact ezw_ireturn rfl (ezw_zret ⟨by omega, by omega⟩) ⟨rfl, (0), ⟨by omega, by omega⟩, by omega, by omega, rfl⟩
  · refine ezw_iconst (1) rfl rfl ?_
    refine ezw_goto rfl rfl ?_
    exact ezw_ireturn rfl (ezw_zret ⟨by omega, by omega⟩) ⟨rfl, (1), ⟨by omega, by omega⟩, by omega, by omega, rfl⟩
def ezt_m79_38Q (e : Bool × Bool) (F : Nat → Nat → Int) (A : Nat → Int → Int) (t : ezp_D) (a1 : Int) (a2 : Int) : Option ezq_V → (Nat → ezq_C) → Prop := fun v g' => ∃ (F' : Nat → Nat → Int) (A' : Nat → Int → Int), ezu_g e F' A' = g' ∧ ezs_T F' A' ∧ (∀ p j, ¬ (p = 38 ∧ (j = 1)) → F' p j = F p j) ∧ (∀ p, ¬ (p = 39) → A' p = A p) ∧ (ezt_TR 30 (t.elm a1 a2) F' A') ∧ none = v
theorem ezt_m79_38 {t : ezp_D} {a1 a2 : Int} {F : Nat → Nat → Int} {A : Nat → Int → Int} (hS : ezs_T F A) (hd : 1 ≤ d) (ha1 : ezw_in a1) (ha2 : ezw_in a2) (tr : ezt_TR 30 t F A) (hk : t.kE < 8) (g1 : 0 ≤ a1 ∧ a1 < 16 ∧ 0 ≤ a2 ∧ a2 < 16) : ezw_C l ρ B xa Hb D cA 79 d [ezw_p 38, ezw_i a1, ezw_i a2] (ezu_g e F A) (ezt_m79_38Q e F A t a1 a2) := by
  refine ezw_met (k := 0) rfl rfl ?_
  obtain ⟨⟨c1, c2, c3, c4⟩, ⟨d1, d2, d3, d4, d5, d6, d7, d8⟩, e3, e4, e5, e6⟩ := id tr
  have c4 : F 38 1 = t.kE := c4
  refine ezw_aload_n rfl rfl ?_
  refine ezs_getp (p := 39) rfl rfl rfl rfl rfl ?_
  refine ezw_iload_n rfl rfl ?_
  refine ezw_aload_n rfl rfl ?_
  refine ezs_getp (p := 39) rfl rfl rfl rfl rfl ?_
  refine ezw_iload_n rfl rfl ?_
  refine ezw_call3_2 rfl (by omega) rfl rfl (ezt_m27_39 hS (by omega) ha1) ?_
  rintro _ _ ⟨rfl, u2, hu2, v_1, rfl⟩
  have h7 : 0 ≤ A 39 a1 ∧ A 39 a1 < 65536 := (e6 a1 (by omega) (by omega)).1
  have h8 := v_1 (by omega) (by omega)
  have hor := ezt_or1 (v := u2) (j := a2) 16 (by decide) (by omega) (by omega) (by omega) (by omega)
  refine ezw_iconst (1) rfl rfl ?_
  refine ezw_iload_n rfl rfl ?_
  refine ezw_ishl rfl (by omega) (by omega) (k := (1 * 2 ^ (a2).toNat)) (rfl) ?_
  refine ezw_ior rfl (k := ezw_or u2 (1 * 2 ^ (a2).toNat)) rfl ?_
  refine ezw_call3_3 rfl (by omega) rfl rfl (ezt_m21_39 hS (by omega) ha1 ⟨by omega, by omega⟩) ?_
  rintro _ _ ⟨A3, rfl, hS, nA3, m_3, n_3, rfl⟩
  refine ezw_aload_n rfl rfl ?_
  refine ezw_dup rfl rfl ?_
  refine ezy_get_i hS rfl rfl rfl rfl rfl rfl (fun u4 hu4 ku4 eu4 => ?_)
  replace eu4 := eu4.symm
  subst eu4
  refine ezw_iconst (1) rfl rfl ?_
  refine ezw_iadd (k := (F 38 1) + 1) rfl (by omega) ?_
  refine ezy_put_i hS rfl rfl rfl rfl rfl ⟨by omega, by omega⟩ (fun F5 hS mF5 nF5 => ?_)
  exact ezw_return rfl rfl ⟨F5, A3, rfl, hS, (fun p j h => by rw [nF5 p j (by omega)]), (fun p h => by
        funext j
        rw [nA3 p (by omega)]), (ezt_TR_elm (F' := F5) (A' := A3) tr hk (by omega) (by omega) (by omega) (by omega) (by rw [nF5 30 15 (by decide)]) (by rw [nF5 30 16 (by decide)]) (by rw [nF5 30 17 (by decide)]) (by rw [mF5]) (fun k k1 k2 => by rw [nA3 (30 + k) (by omega)]) (fun k k1 k2 => by rw [nA3 (30 + k) (by omega)]) (h8 ▸ (m_3 (by omega) (by omega))) (fun j hj => (show A3 39 j = A 39 j from by rw [n_3 j hj]))), rfl⟩
def ezt_m27_56Q (e : Bool × Bool) (F : Nat → Nat → Int) (A : Nat → Int → Int) (a1 : Int) : Option ezq_V → (Nat → ezq_C) → Prop := fun v g' => ezu_g e F A = g' ∧ ∃ u : Int, (ezw_in u) ∧ (0 ≤ a1 → a1 < 16 → u = A 56 a1) ∧ some (ezw_i u) = v
theorem ezt_m27_56 {a1 : Int} {F : Nat → Nat → Int} {A : Nat → Int → Int} (hS : ezs_T F A) (hd : 0 ≤ d) (ha1 : ezw_in a1) : ezw_C l ρ B xa Hb D cA 27 d [ezw_p 56, ezw_i a1] (ezu_g e F A) (ezt_m27_56Q e F A a1) := by
  refine ezw_met (k := 0) rfl rfl ?_
  refine ezw_aload_n rfl rfl ?_
  refine ezw_ifnull rfl ?_
  refine ezw_iload_n rfl rfl ?_
  refine ezw_if_lt rfl rfl ha1 (fun h5_0 => ?_) (fun h5_0 => ?_)
  · refine ezw_iconst (0) rfl rfl ?_
    exact ezw_ireturn rfl rfl ⟨rfl, (0), ⟨by decide, by decide⟩, by omega, rfl⟩
  · refine ezw_iload_n rfl rfl ?_
    refine ezw_aload_n rfl rfl ?_
    refine ezs_alen (k := 16) rfl rfl rfl rfl (by decide) (by decide) ?_
    refine ezw_icmp_ge rfl rfl ha1 ⟨by decide, by decide⟩ (fun h11_0 => ?_) (fun h11_0 => ?_)
    · refine ezw_iconst (0) rfl rfl ?_
      exact ezw_ireturn rfl rfl ⟨rfl, (0), ⟨by decide, by decide⟩, by omega, rfl⟩
    · refine ezw_aload_n rfl rfl ?_
      refine ezw_iload_n rfl rfl ?_
      refine ezy_iaload hS rfl rfl rfl (by omega) (by omega) (by decide) (fun u1 hu1 ku1 eu1 => ?_)
      refine ezw_goto rfl rfl ?_
      exact ezw_ireturn rfl rfl ⟨rfl, u1, hu1, by omega, rfl⟩
def ezt_m27_59Q (e : Bool × Bool) (F : Nat → Nat → Int) (A : Nat → Int → Int) (a1 : Int) : Option ezq_V → (Nat → ezq_C) → Prop := fun v g' => ezu_g e F A = g' ∧ ∃ u : Int, (ezw_in u) ∧ (0 ≤ a1 → a1 < 4 → u = A 59 a1) ∧ some (ezw_i u) = v
theorem ezt_m27_59 {a1 : Int} {F : Nat → Nat → Int} {A : Nat → Int → Int} (hS : ezs_T F A) (hd : 0 ≤ d) (ha1 : ezw_in a1) : ezw_C l ρ B xa Hb D cA 27 d [ezw_p 59, ezw_i a1] (ezu_g e F A) (ezt_m27_59Q e F A a1) := by
  refine ezw_met (k := 0) rfl rfl ?_
  refine ezw_aload_n rfl rfl ?_
  refine ezw_ifnull rfl ?_
  refine ezw_iload_n rfl rfl ?_
  refine ezw_if_lt rfl rfl ha1 (fun h5_0 => ?_) (fun h5_0 => ?_)
  · refine ezw_iconst (0) rfl rfl ?_
    exact ezw_ireturn rfl rfl ⟨rfl, (0), ⟨by decide, by decide⟩, by omega, rfl⟩
  · refine ezw_iload_n rfl rfl ?_
    refine ezw_aload_n rfl rfl ?_
    refine ezs_alen (k := 4) rfl rfl rfl rfl (by decide) (by decide) ?_
    refine ezw_icmp_ge rfl rfl ha1 ⟨by decide, by decide⟩ (fun h11_0 => ?_) (fun h11_0 => ?_)
    · refine ezw_iconst (0) rfl rfl ?_
      exact ezw_ireturn rfl rfl ⟨rfl, (0), ⟨by decide, by decide⟩, by omega, rfl⟩
    · refine ezw_aload_n rfl rfl ?_
      refine ezw_iload_n rfl rfl ?_
      refine ezy_iaload hS rfl rfl rfl (by omega) (by omega) (by decide) (fun u1 hu1 ku1 eu1 => ?_)
      refine ezw_goto rfl rfl ?_
      exact ezw_ireturn rfl rfl ⟨rfl, u1, hu1, by omega, rfl⟩
def ezt_m27_60Q (e : Bool × Bool) (F : Nat → Nat → Int) (A : Nat → Int → Int) (a1 : Int) : Option ezq_V → (Nat → ezq_C) → Prop := fun v g' => ezu_g e F A = g' ∧ ∃ u : Int, (ezw_in u) ∧ (0 ≤ a1 → a1 < 6 → u = A 60 a1) ∧ some (ezw_i u) = v
theorem ezt_m27_60 {a1 : Int} {F : Nat → Nat → Int} {A : Nat → Int → Int} (hS : ezs_T F A) (hd : 0 ≤ d) (ha1 : ezw_in a1) : ezw_C l ρ B xa Hb D cA 27 d [ezw_p 60, ezw_i a1] (ezu_g e F A) (ezt_m27_60Q e F A a1) := by
  refine ezw_met (k := 0) rfl rfl ?_
  refine ezw_aload_n rfl rfl ?_
  refine ezw_ifnull rfl ?_
  refine ezw_iload_n rfl rfl ?_
  refine ezw_if_lt rfl rfl ha1 (fun h5_0 => ?_) (fun h5_0 => ?_)
  · refine ezw_iconst (0) rfl rfl ?_
    exact ezw_ireturn rfl rfl ⟨rfl, (0), ⟨by decide, by decide⟩, by omega, rfl⟩
  · refine ezw_iload_n rfl rfl ?_
    refine ezw_aload_n rfl rfl ?_
    refine ezs_alen (k := 6) rfl rfl rfl rfl (by decide) (by decide) ?_
    refine ezw_icmp_ge rfl rfl ha1 ⟨by decide, by decide⟩ (fun h11_0 => ?_) (fun h11_0 => ?_)
    · refine ezw_iconst (0) rfl rfl ?_
      exact ezw_ireturn rfl rfl ⟨rfl, (0), ⟨by decide, by decide⟩, by omega, rfl⟩
    · refine ezw_aload_n rfl rfl ?_
      refine ezw_iload_n rfl rfl ?_
      refine ezy_iaload hS rfl rfl rfl (by omega) (by omega) (by decide) (fun u1 hu1 ku1 eu1 => ?_)
      refine ezw_goto rfl rfl ?_
      exact ezw_ireturn rfl rfl ⟨rfl, u1, hu1, by omega, rfl⟩
def ezt_m21_48Q (e : Bool × Bool) (F : Nat → Nat → Int) (A : Nat → Int → Int) (a1 : Int) (a2 : Int) : Option ezq_V → (Nat → ezq_C) → Prop := fun v g' => ∃ (A' : Nat → Int → Int), ezu_g e F A' = g' ∧ ezs_T F A' ∧ (∀ p, ¬ (p = 48) → A' p = A p) ∧ (0 ≤ a1 → a1 < 8 → A' 48 a1 = a2) ∧ (∀ j, j ≠ a1 → A' 48 j = A 48 j) ∧ none = v
theorem ezt_m21_48 {a1 a2 : Int} {F : Nat → Nat → Int} {A : Nat → Int → Int} (hS : ezs_T F A) (hd : 0 ≤ d) (ha1 : ezw_in a1) (ha2 : ezw_in a2) : ezw_C l ρ B xa Hb D cA 21 d [ezw_p 48, ezw_i a1, ezw_i a2] (ezu_g e F A) (ezt_m21_48Q e F A a1 a2) := by
  refine ezw_met (k := 0) rfl rfl ?_
  refine ezw_aload_n rfl rfl ?_
  refine ezw_ifnull rfl ?_
  refine ezw_iload_n rfl rfl ?_
  refine ezw_if_lt rfl rfl ha1 (fun h5_0 => ?_) (fun h5_0 => ?_)
  · exact ezw_return rfl rfl ⟨A, rfl, hS, (fun _ _ => rfl), (by omega), (fun _ _ => rfl), rfl⟩
  · refine ezw_iload_n rfl rfl ?_
    refine ezw_aload_n rfl rfl ?_
    refine ezs_alen (k := 8) rfl rfl rfl rfl (by decide) (by decide) ?_
    refine ezw_icmp_ge rfl rfl ha1 ⟨by decide, by decide⟩ (fun h11_0 => ?_) (fun h11_0 => ?_)
    · exact ezw_return rfl rfl ⟨A, rfl, hS, (fun _ _ => rfl), (by omega), (fun _ _ => rfl), rfl⟩
    · refine ezw_aload_n rfl rfl ?_
      refine ezw_iload_n rfl rfl ?_
      refine ezw_iload_n rfl rfl ?_
      refine ezy_iastore hS rfl rfl rfl (by omega) (by omega) (by decide) ha2 (fun A1 hS mA1 nA1 => ?_)
      exact ezw_return rfl rfl ⟨A1, rfl, hS, (fun p h => by
            funext j
            rw [nA1 p j (by omega)]), (fun _ _ => mA1), (fun j hj => nA1 48 j (by omega)), rfl⟩
def ezt_m21_49Q (e : Bool × Bool) (F : Nat → Nat → Int) (A : Nat → Int → Int) (a1 : Int) (a2 : Int) : Option ezq_V → (Nat → ezq_C) → Prop := fun v g' => ∃ (A' : Nat → Int → Int), ezu_g e F A' = g' ∧ ezs_T F A' ∧ (∀ p, ¬ (p = 49) → A' p = A p) ∧ (0 ≤ a1 → a1 < 8 → A' 49 a1 = a2) ∧ (∀ j, j ≠ a1 → A' 49 j = A 49 j) ∧ none = v
theorem ezt_m21_49 {a1 a2 : Int} {F : Nat → Nat → Int} {A : Nat → Int → Int} (hS : ezs_T F A) (hd : 0 ≤ d) (ha1 : ezw_in a1) (ha2 : ezw_in a2) : ezw_C l ρ B xa Hb D cA 21 d [ezw_p 49, ezw_i a1, ezw_i a2] (ezu_g e F A) (ezt_m21_49Q e F A a1 a2) := by
  refine ezw_met (k := 0) rfl rfl ?_
  refine ezw_aload_n rfl rfl ?_
  refine ezw_ifnull rfl ?_
  refine ezw_iload_n rfl rfl ?_
  refine ezw_if_lt rfl rfl ha1 (fun h5_0 => ?_) (fun h5_0 => ?_)
  · exact ezw_return rfl rfl ⟨A, rfl, hS, (fun _ _ => rfl), (by omega), (fun _ _ => rfl), rfl⟩
  · refine ezw_iload_n rfl rfl ?_
    refine ezw_aload_n rfl rfl ?_
    refine ezs_alen (k := 8) rfl rfl rfl rfl (by decide) (by decide) ?_
    refine ezw_icmp_ge rfl rfl ha1 ⟨by decide, by decide⟩ (fun h11_0 => ?_) (fun h11_0 => ?_)
    · exact ezw_return rfl rfl ⟨A, rfl, hS, (fun _ _ => rfl), (by omega), (fun _ _ => rfl), rfl⟩
    · refine ezw_aload_n rfl rfl ?_
      refine ezw_iload_n rfl rfl ?_
      refine ezw_iload_n rfl rfl ?_
      refine ezy_iastore hS rfl rfl rfl (by omega) (by omega) (by decide) ha2 (fun A1 hS mA1 nA1 => ?_)
      exact ezw_return rfl rfl ⟨A1, rfl, hS, (fun p h => by
            funext j
            rw [nA1 p j (by omega)]), (fun _ _ => mA1), (fun j hj => nA1 49 j (by omega)), rfl⟩
def ezt_m21_50Q (e : Bool × Bool) (F : Nat → Nat → Int) (A : Nat → Int → Int) (a1 : Int) (a2 : Int) : Option ezq_V → (Nat → ezq_C) → Prop := fun v g' => ∃ (A' : Nat → Int → Int), ezu_g e F A' = g' ∧ ezs_T F A' ∧ (∀ p, ¬ (p = 50) → A' p = A p) ∧ (0 ≤ a1 → a1 < 8 → A' 50 a1 = a2) ∧ (∀ j, j ≠ a1 → A' 50 j = A 50 j) ∧ none = v
theorem ezt_m21_50 {a1 a2 : Int} {F : Nat → Nat → Int} {A : Nat → Int → Int} (hS : ezs_T F A) (hd : 0 ≤ d) (ha1 : ezw_in a1) (ha2 : ezw_in a2) : ezw_C l ρ B xa Hb D cA 21 d [ezw_p 50, ezw_i a1, ezw_i a2] (ezu_g e F A) (ezt_m21_50Q e F A a1 a2) := by
  refine ezw_met (k := 0) rfl rfl ?_
  refine ezw_aload_n rfl rfl ?_
  refine ezw_ifnull rfl ?_
  refine ezw_iload_n rfl rfl ?_
  refine ezw_if_lt rfl rfl ha1 (fun h5_0 => ?_) (fun h5_0 => ?_)
  · exact ezw_return rfl rfl ⟨A, rfl, hS, (fun _ _ => rfl), (by omega), (fun _ _ => rfl), rfl⟩
  · refine ezw_iload_n rfl rfl ?_
    refine ezw_aload_n rfl rfl ?_
    refine ezs_alen (k := 8) rfl rfl rfl rfl (by decide) (by decide) ?_
    refine ezw_icmp_ge rfl rfl ha1 ⟨by decide, by decide⟩ (fun h11_0 => ?_) (fun h11_0 => ?_)
    · exact ezw_return rfl rfl ⟨A, rfl, hS, (fun _ _ => rfl), (by omega), (fun _ _ => rfl), rfl⟩
    · refine ezw_aload_n rfl rfl ?_
      refine ezw_iload_n rfl rfl ?_
      refine ezw_iload_n rfl rfl ?_
      refine ezy_iastore hS rfl rfl rfl (by omega) (by omega) (by decide) ha2 (fun A1 hS mA1 nA1 => ?_)
      exact ezw_return rfl rfl ⟨A1, rfl, hS, (fun p h => by
            funext j
            rw [nA1 p j (by omega)]), (fun _ _ => mA1), (fun j hj => nA1 50 j (by omega)), rfl⟩
def ezt_m21_51Q (e : Bool × Bool) (F : Nat → Nat → Int) (A : Nat → Int → Int) (a1 : Int) (a2 : Int) : Option ezq_V → (Nat → ezq_C) → Prop := fun v g' => ∃ (A' : Nat → Int → Int), ezu_g e F A' = g' ∧ ezs_T F A' ∧ (∀ p, ¬ (p = 51) → A' p = A p) ∧ (0 ≤ a1 → a1 < 8 → A' 51 a1 = a2) ∧ (∀ j, j ≠ a1 → A' 51 j = A 51 j) ∧ none = v
theorem ezt_m21_51 {a1 a2 : Int} {F : Nat → Nat → Int} {A : Nat → Int → Int} (hS : ezs_T F A) (hd : 0 ≤ d) (ha1 : ezw_in a1) (ha2 : ezw_in a2) : ezw_C l ρ B xa Hb D cA 21 d [ezw_p 51, ezw_i a1, ezw_i a2] (ezu_g e F A) (ezt_m21_51Q e F A a1 a2) := by
  refine ezw_met (k := 0) rfl rfl ?_
  refine ezw_aload_n rfl rfl ?_
  refine ezw_ifnull rfl ?_
  refine ezw_iload_n rfl rfl ?_
  refine ezw_if_lt rfl rfl ha1 (fun h5_0 => ?_) (fun h5_0 => ?_)
  · exact ezw_return rfl rfl ⟨A, rfl, hS, (fun _ _ => rfl), (by omega), (fun _ _ => rfl), rfl⟩
  · refine ezw_iload_n rfl rfl ?_
    refine ezw_aload_n rfl rfl ?_
    refine ezs_alen (k := 8) rfl rfl rfl rfl (by decide) (by decide) ?_
    refine ezw_icmp_ge rfl rfl ha1 ⟨by decide, by decide⟩ (fun h11_0 => ?_) (fun h11_0 => ?_)
    · exact ezw_return rfl rfl ⟨A, rfl, hS, (fun _ _ => rfl), (by omega), (fun _ _ => rfl), rfl⟩
    · refine ezw_aload_n rfl rfl ?_
      refine ezw_iload_n rfl rfl ?_
      refine ezw_iload_n rfl rfl ?_
      refine ezy_iastore hS rfl rfl rfl (by omega) (by omega) (by decide) ha2 (fun A1 hS mA1 nA1 => ?_)
      exact ezw_return rfl rfl ⟨A1, rfl, hS, (fun p h => by
            funext j
            rw [nA1 p j (by omega)]), (fun _ _ => mA1), (fun j hj => nA1 51 j (by omega)), rfl⟩
def ezt_m21_52Q (e : Bool × Bool) (F : Nat → Nat → Int) (A : Nat → Int → Int) (a1 : Int) (a2 : Int) : Option ezq_V → (Nat → ezq_C) → Prop := fun v g' => ∃ (A' : Nat → Int → Int), ezu_g e F A' = g' ∧ ezs_T F A' ∧ (∀ p, ¬ (p = 52) → A' p = A p) ∧ (0 ≤ a1 → a1 < 4 → A' 52 a1 = a2) ∧ (∀ j, j ≠ a1 → A' 52 j = A 52 j) ∧ none = v
theorem ezt_m21_52 {a1 a2 : Int} {F : Nat → Nat → Int} {A : Nat → Int → Int} (hS : ezs_T F A) (hd : 0 ≤ d) (ha1 : ezw_in a1) (ha2 : ezw_in a2) : ezw_C l ρ B xa Hb D cA 21 d [ezw_p 52, ezw_i a1, ezw_i a2] (ezu_g e F A) (ezt_m21_52Q e F A a1 a2) := by
  refine ezw_met (k := 0) rfl rfl ?_
  refine ezw_aload_n rfl rfl ?_
  refine ezw_ifnull rfl ?_
  refine ezw_iload_n rfl rfl ?_
  refine ezw_if_lt rfl rfl ha1 (fun h5_0 => ?_) (fun h5_0 => ?_)
  · exact ezw_return rfl rfl ⟨A, rfl, hS, (fun _ _ => rfl), (by omega), (fun _ _ => rfl), rfl⟩
  · refine ezw_iload_n rfl rfl ?_
    refine ezw_aload_n rfl rfl ?_
    refine ezs_alen (k := 4) rfl rfl rfl rfl (by decide) (by decide) ?_
    refine ezw_icmp_ge rfl rfl ha1 ⟨by decide, by decide⟩ (fun h11_0 => ?_) (fun h11_0 => ?_)
    · exact ezw_return rfl rfl ⟨A, rfl, hS, (fun _ _ => rfl), (by omega), (fun _ _ => rfl), rfl⟩
    · refine ezw_aload_n rfl rfl ?_
      refine ezw_iload_n rfl rfl ?_
      refine ezw_iload_n rfl rfl ?_
      refine ezy_iastore hS rfl rfl rfl (by omega) (by omega) (by decide) ha2 (fun A1 hS mA1 nA1 => ?_)
      exact ezw_return rfl rfl ⟨A1, rfl, hS, (fun p h => by
            funext j
            rw [nA1 p j (by omega)]), (fun _ _ => mA1), (fun j hj => nA1 52 j (by omega)), rfl⟩
def ezt_m21_53Q (e : Bool × Bool) (F : Nat → Nat → Int) (A : Nat → Int → Int) (a1 : Int) (a2 : Int) : Option ezq_V → (Nat → ezq_C) → Prop := fun v g' => ∃ (A' : Nat → Int → Int), ezu_g e F A' = g' ∧ ezs_T F A' ∧ (∀ p, ¬ (p = 53) → A' p = A p) ∧ (0 ≤ a1 → a1 < 4 → A' 53 a1 = a2) ∧ (∀ j, j ≠ a1 → A' 53 j = A 53 j) ∧ none = v
theorem ezt_m21_53 {a1 a2 : Int} {F : Nat → Nat → Int} {A : Nat → Int → Int} (hS : ezs_T F A) (hd : 0 ≤ d) (ha1 : ezw_in a1) (ha2 : ezw_in a2) : ezw_C l ρ B xa Hb D cA 21 d [ezw_p 53, ezw_i a1, ezw_i a2] (ezu_g e F A) (ezt_m21_53Q e F A a1 a2) := by
  refine ezw_met (k := 0) rfl rfl ?_
  refine ezw_aload_n rfl rfl ?_
  refine ezw_ifnull rfl ?_
  refine ezw_iload_n rfl rfl ?_
  refine ezw_if_lt rfl rfl ha1 (fun h5_0 => ?_) (fun h5_0 => ?_)
  · exact ezw_return rfl rfl ⟨A, rfl, hS, (fun _ _ => rfl), (by omega), (fun _ _ => rfl), rfl⟩
  · refine ezw_iload_n rfl rfl ?_
    refine ezw_aload_n rfl rfl ?_
    refine ezs_alen (k := 4) rfl rfl rfl rfl (by decide) (by decide) ?_
    refine ezw_icmp_ge rfl rfl ha1 ⟨by decide, by decide⟩ (fun h11_0 => ?_) (fun h11_0 => ?_)
    · exact ezw_return rfl rfl ⟨A, rfl, hS, (fun _ _ => rfl), (by omega), (fun _ _ => rfl), rfl⟩
    · refine ezw_aload_n rfl rfl ?_
      refine ezw_iload_n rfl rfl ?_
      refine ezw_iload_n rfl rfl ?_
      refine ezy_iastore hS rfl rfl rfl (by omega) (by omega) (by decide) ha2 (fun A1 hS mA1 nA1 => ?_)
      exact ezw_return rfl rfl ⟨A1, rfl, hS, (fun p h => by
            funext j
            rw [nA1 p j (by omega)]), (fun _ _ => mA1), (fun j hj => nA1 53 j (by omega)), rfl⟩
def ezt_m21_54Q (e : Bool × Bool) (F : Nat → Nat → Int) (A : Nat → Int → Int) (a1 : Int) (a2 : Int) : Option ezq_V → (Nat → ezq_C) → Prop := fun v g' => ∃ (A' : Nat → Int → Int), ezu_g e F A' = g' ∧ ezs_T F A' ∧ (∀ p, ¬ (p = 54) → A' p = A p) ∧ (0 ≤ a1 → a1 < 4 → A' 54 a1 = a2) ∧ (∀ j, j ≠ a1 → A' 54 j = A 54 j) ∧ none = v
theorem ezt_m21_54 {a1 a2 : Int} {F : Nat → Nat → Int} {A : Nat → Int → Int} (hS : ezs_T F A) (hd : 0 ≤ d) (ha1 : ezw_in a1) (ha2 : ezw_in a2) : ezw_C l ρ B xa Hb D cA 21 d [ezw_p 54, ezw_i a1, ezw_i a2] (ezu_g e F A) (ezt_m21_54Q e F A a1 a2) := by
  refine ezw_met (k := 0) rfl rfl ?_
  refine ezw_aload_n rfl rfl ?_
  refine ezw_ifnull rfl ?_
  refine ezw_iload_n rfl rfl ?_
  refine ezw_if_lt rfl rfl ha1 (fun h5_0 => ?_) (fun h5_0 => ?_)
  · exact ezw_return rfl rfl ⟨A, rfl, hS, (fun _ _ => rfl), (by omega), (fun _ _ => rfl), rfl⟩
  · refine ezw_iload_n rfl rfl ?_
    refine ezw_aload_n rfl rfl ?_
    refine ezs_alen (k := 4) rfl rfl rfl rfl (by decide) (by decide) ?_
    refine ezw_icmp_ge rfl rfl ha1 ⟨by decide, by decide⟩ (fun h11_0 => ?_) (fun h11_0 => ?_)
    · exact ezw_return rfl rfl ⟨A, rfl, hS, (fun _ _ => rfl), (by omega), (fun _ _ => rfl), rfl⟩
    · refine ezw_aload_n rfl rfl ?_
      refine ezw_iload_n rfl rfl ?_
      refine ezw_iload_n rfl rfl ?_
      refine ezy_iastore hS rfl rfl rfl (by omega) (by omega) (by decide) ha2 (fun A1 hS mA1 nA1 => ?_)
      exact ezw_return rfl rfl ⟨A1, rfl, hS, (fun p h => by
            funext j
            rw [nA1 p j (by omega)]), (fun _ _ => mA1), (fun j hj => nA1 54 j (by omega)), rfl⟩
def ezt_m21_56Q (e : Bool × Bool) (F : Nat → Nat → Int) (A : Nat → Int → Int) (a1 : Int) (a2 : Int) : Option ezq_V → (Nat → ezq_C) → Prop := fun v g' => ∃ (A' : Nat → Int → Int), ezu_g e F A' = g' ∧ ezs_T F A' ∧ (∀ p, ¬ (p = 56) → A' p = A p) ∧ (0 ≤ a1 → a1 < 16 → A' 56 a1 = a2) ∧ (∀ j, j ≠ a1 → A' 56 j = A 56 j) ∧ none = v
theorem ezt_m21_56 {a1 a2 : Int} {F : Nat → Nat → Int} {A : Nat → Int → Int} (hS : ezs_T F A) (hd : 0 ≤ d) (ha1 : ezw_in a1) (ha2 : ezw_in a2) : ezw_C l ρ B xa Hb D cA 21 d [ezw_p 56, ezw_i a1, ezw_i a2] (ezu_g e F A) (ezt_m21_56Q e F A a1 a2) := by
  refine ezw_met (k := 0) rfl rfl ?_
  refine ezw_aload_n rfl rfl ?_
  refine ezw_ifnull rfl ?_
  refine ezw_iload_n rfl rfl ?_
  refine ezw_if_lt rfl rfl ha1 (fun h5_0 => ?_) (fun h5_0 => ?_)
  · exact ezw_return rfl rfl ⟨A, rfl, hS, (fun _ _ => rfl), (by omega), (fun _ _ => rfl), rfl⟩
  · refine ezw_iload_n rfl rfl ?_
    refine ezw_aload_n rfl rfl ?_
    refine ezs_alen (k := 16) rfl rfl rfl rfl (by decide) (by decide) ?_
    refine ezw_icmp_ge rfl rfl ha1 ⟨by decide, by decide⟩ (fun h11_0 => ?_) (fun h11_0 => ?_)
    · exact ezw_return rfl rfl ⟨A, rfl, hS, (fun _ _ => rfl), (by omega), (fun _ _ => rfl), rfl⟩
    · refine ezw_aload_n rfl rfl ?_
      refine ezw_iload_n rfl rfl ?_
      refine ezw_iload_n rfl rfl ?_
      refine ezy_iastore hS rfl rfl rfl (by omega) (by omega) (by decide) ha2 (fun A1 hS mA1 nA1 => ?_)
      exact ezw_return rfl rfl ⟨A1, rfl, hS, (fun p h => by
            funext j
            rw [nA1 p j (by omega)]), (fun _ _ => mA1), (fun j hj => nA1 56 j (by omega)), rfl⟩
def ezt_m21_59Q (e : Bool × Bool) (F : Nat → Nat → Int) (A : Nat → Int → Int) (a1 : Int) (a2 : Int) : Option ezq_V → (Nat → ezq_C) → Prop := fun v g' => ∃ (A' : Nat → Int → Int), ezu_g e F A' = g' ∧ ezs_T F A' ∧ (∀ p, ¬ (p = 59) → A' p = A p) ∧ (0 ≤ a1 → a1 < 4 → A' 59 a1 = a2) ∧ (∀ j, j ≠ a1 → A' 59 j = A 59 j) ∧ none = v
theorem ezt_m21_59 {a1 a2 : Int} {F : Nat → Nat → Int} {A : Nat → Int → Int} (hS : ezs_T F A) (hd : 0 ≤ d) (ha1 : ezw_in a1) (ha2 : ezw_in a2) : ezw_C l ρ B xa Hb D cA 21 d [ezw_p 59, ezw_i a1, ezw_i a2] (ezu_g e F A) (ezt_m21_59Q e F A a1 a2) := by
  refine ezw_met (k := 0) rfl rfl ?_
  refine ezw_aload_n rfl rfl ?_
  refine ezw_ifnull rfl ?_
  refine ezw_iload_n rfl rfl ?_
  refine ezw_if_lt rfl rfl ha1 (fun h5_0 => ?_) (fun h5_0 => ?_)
  · exact ezw_return rfl rfl ⟨A, rfl, hS, (fun _ _ => rfl), (by omega), (fun _ _ => rfl), rfl⟩
  · refine ezw_iload_n rfl rfl ?_
    refine ezw_aload_n rfl rfl ?_
    refine ezs_alen (k := 4) rfl rfl rfl rfl (by decide) (by decide) ?_
    refine ezw_icmp_ge rfl rfl ha1 ⟨by decide, by decide⟩ (fun h11_0 => ?_) (fun h11_0 => ?_)
    · exact ezw_return rfl rfl ⟨A, rfl, hS, (fun _ _ => rfl), (by omega), (fun _ _ => rfl), rfl⟩
    · refine ezw_aload_n rfl rfl ?_
      refine ezw_iload_n rfl rfl ?_
      refine ezw_iload_n rfl rfl ?_
      refine ezy_iastore hS rfl rfl rfl (by omega) (by omega) (by decide) ha2 (fun A1 hS mA1 nA1 => ?_)
      exact ezw_return rfl rfl ⟨A1, rfl, hS, (fun p h => by
            funext j
            rw [nA1 p j (by omega)]), (fun _ _ => mA1), (fun j hj => nA1 59 j (by omega)), rfl⟩
def ezt_m21_60Q (e : Bool × Bool) (F : Nat → Nat → Int) (A : Nat → Int → Int) (a1 : Int) (a2 : Int) : Option ezq_V → (Nat → ezq_C) → Prop := fun v g' => ∃ (A' : Nat → Int → Int), ezu_g e F A' = g' ∧ ezs_T F A' ∧ (∀ p, ¬ (p = 60) → A' p = A p) ∧ (0 ≤ a1 → a1 < 6 → A' 60 a1 = a2) ∧ (∀ j, j ≠ a1 → A' 60 j = A 60 j) ∧ none = v
theorem ezt_m21_60 {a1 a2 : Int} {F : Nat → Nat → Int} {A : Nat → Int → Int} (hS : ezs_T F A) (hd : 0 ≤ d) (ha1 : ezw_in a1) (ha2 : ezw_in a2) : ezw_C l ρ B xa Hb D cA 21 d [ezw_p 60, ezw_i a1, ezw_i a2] (ezu_g e F A) (ezt_m21_60Q e F A a1 a2) := by
  refine ezw_met (k := 0) rfl rfl ?_
  refine ezw_aload_n rfl rfl ?_
  refine ezw_ifnull rfl ?_
  refine ezw_iload_n rfl rfl ?_
  refine ezw_if_lt rfl rfl ha1 (fun h5_0 => ?_) (fun h5_0 => ?_)
  · exact ezw_return rfl rfl ⟨A, rfl, hS, (fun _ _ => rfl), (by omega), (fun _ _ => rfl), rfl⟩
  · refine ezw_iload_n rfl rfl ?_
    refine ezw_aload_n rfl rfl ?_
    refine ezs_alen (k := 6) rfl rfl rfl rfl (by decide) (by decide) ?_
    refine ezw_icmp_ge rfl rfl ha1 ⟨by decide, by decide⟩ (fun h11_0 => ?_) (fun h11_0 => ?_)
    · exact ezw_return rfl rfl ⟨A, rfl, hS, (fun _ _ => rfl), (by omega), (fun _ _ => rfl), rfl⟩
    · refine ezw_aload_n rfl rfl ?_
      refine ezw_iload_n rfl rfl ?_
      refine ezw_iload_n rfl rfl ?_
      refine ezy_iastore hS rfl rfl rfl (by omega) (by omega) (by decide) ha2 (fun A1 hS mA1 nA1 => ?_)
      exact ezw_return rfl rfl ⟨A1, rfl, hS, (fun p h => by
            funext j
            rw [nA1 p j (by omega)]), (fun _ _ => mA1), (fun j hj => nA1 60 j (by omega)), rfl⟩
def ezt_m21_61Q (e : Bool × Bool) (F : Nat → Nat → Int) (A : Nat → Int → Int) (a1 : Int) (a2 : Int) : Option ezq_V → (Nat → ezq_C) → Prop := fun v g' => ∃ (A' : Nat → Int → Int), ezu_g e F A' = g' ∧ ezs_T F A' ∧ (∀ p, ¬ (p = 61) → A' p = A p) ∧ (0 ≤ a1 → a1 < 11 → A' 61 a1 = a2) ∧ (∀ j, j ≠ a1 → A' 61 j = A 61 j) ∧ none = v
theorem ezt_m21_61 {a1 a2 : Int} {F : Nat → Nat → Int} {A : Nat → Int → Int} (hS : ezs_T F A) (hd : 0 ≤ d) (ha1 : ezw_in a1) (ha2 : ezw_in a2) (hv : -2147483648 ≤ a2 ∧ a2 ≤ 9999) : ezw_C l ρ B xa Hb D cA 21 d [ezw_p 61, ezw_i a1, ezw_i a2] (ezu_g e F A) (ezt_m21_61Q e F A a1 a2) := by
  refine ezw_met (k := 0) rfl rfl ?_
  refine ezw_aload_n rfl rfl ?_
  refine ezw_ifnull rfl ?_
  refine ezw_iload_n rfl rfl ?_
  refine ezw_if_lt rfl rfl ha1 (fun h5_0 => ?_) (fun h5_0 => ?_)
  · exact ezw_return rfl rfl ⟨A, rfl, hS, (fun _ _ => rfl), (by omega), (fun _ _ => rfl), rfl⟩
  · refine ezw_iload_n rfl rfl ?_
    refine ezw_aload_n rfl rfl ?_
    refine ezs_alen (k := 11) rfl rfl rfl rfl (by decide) (by decide) ?_
    refine ezw_icmp_ge rfl rfl ha1 ⟨by decide, by decide⟩ (fun h11_0 => ?_) (fun h11_0 => ?_)
    · exact ezw_return rfl rfl ⟨A, rfl, hS, (fun _ _ => rfl), (by omega), (fun _ _ => rfl), rfl⟩
    · refine ezw_aload_n rfl rfl ?_
      refine ezw_iload_n rfl rfl ?_
      refine ezw_iload_n rfl rfl ?_
      refine ezy_iastore hS rfl rfl rfl (by omega) (by omega) (by decide) (show ezs_ak 61 _ from ⟨by omega, by omega⟩) (fun A1 hS mA1 nA1 => ?_)
      exact ezw_return rfl rfl ⟨A1, rfl, hS, (fun p h => by
            funext j
            rw [nA1 p j (by omega)]), (fun _ _ => mA1), (fun j hj => nA1 61 j (by omega)), rfl⟩
def ezt_m64_57Q (e : Bool × Bool) (F : Nat → Nat → Int) (A : Nat → Int → Int) (a1 : Int) (a2 : Int) : Option ezq_V → (Nat → ezq_C) → Prop := fun v g' => ∃ (A' : Nat → Int → Int), ezu_g e F A' = g' ∧ ezs_T F A' ∧ (∀ p, ¬ (p = 57) → A' p = A p) ∧ (0 ≤ a1 → a1 < 8 → A' 57 a1 = a2) ∧ (∀ j, j ≠ a1 → A' 57 j = A 57 j) ∧ none = v
theorem ezt_m64_57 {a1 a2 : Int} {F : Nat → Nat → Int} {A : Nat → Int → Int} (hS : ezs_T F A) (hd : 0 ≤ d) (ha1 : ezw_in a1) (ha2 : ezw_il a2) : ezw_C l ρ B xa Hb D cA 64 d [ezw_p 57, ezw_i a1, ezw_l a2] (ezu_g e F A) (ezt_m64_57Q e F A a1 a2) := by
  refine ezw_met (k := 0) rfl rfl ?_
  refine ezw_aload_n rfl rfl ?_
  refine ezw_ifnull rfl ?_
  refine ezw_iload_n rfl rfl ?_
  refine ezw_if_lt rfl rfl ha1 (fun h5_0 => ?_) (fun h5_0 => ?_)
  · exact ezw_return rfl rfl ⟨A, rfl, hS, (fun _ _ => rfl), (by omega), (fun _ _ => rfl), rfl⟩
  · refine ezw_iload_n rfl rfl ?_
    refine ezw_aload_n rfl rfl ?_
    refine ezs_alen (k := 8) rfl rfl rfl rfl (by decide) (by decide) ?_
    refine ezw_icmp_ge rfl rfl ha1 ⟨by decide, by decide⟩ (fun h11_0 => ?_) (fun h11_0 => ?_)
    · exact ezw_return rfl rfl ⟨A, rfl, hS, (fun _ _ => rfl), (by omega), (fun _ _ => rfl), rfl⟩
    · refine ezw_aload_n rfl rfl ?_
      refine ezw_iload_n rfl rfl ?_
      refine ezw_lload_n rfl rfl ?_
      refine ezy_lastore hS rfl rfl rfl (by omega) (by omega) (by decide) ha2 (fun A1 hS mA1 nA1 => ?_)
      exact ezw_return rfl rfl ⟨A1, rfl, hS, (fun p h => by
            funext j
            rw [nA1 p j (by omega)]), (fun _ _ => mA1), (fun j hj => nA1 57 j (by omega)), rfl⟩
def ezt_m64_58Q (e : Bool × Bool) (F : Nat → Nat → Int) (A : Nat → Int → Int) (a1 : Int) (a2 : Int) : Option ezq_V → (Nat → ezq_C) → Prop := fun v g' => ∃ (A' : Nat → Int → Int), ezu_g e F A' = g' ∧ ezs_T F A' ∧ (∀ p, ¬ (p = 58) → A' p = A p) ∧ (0 ≤ a1 → a1 < 4 → A' 58 a1 = a2) ∧ (∀ j, j ≠ a1 → A' 58 j = A 58 j) ∧ none = v
theorem ezt_m64_58 {a1 a2 : Int} {F : Nat → Nat → Int} {A : Nat → Int → Int} (hS : ezs_T F A) (hd : 0 ≤ d) (ha1 : ezw_in a1) (ha2 : ezw_il a2) : ezw_C l ρ B xa Hb D cA 64 d [ezw_p 58, ezw_i a1, ezw_l a2] (ezu_g e F A) (ezt_m64_58Q e F A a1 a2) := by
  refine ezw_met (k := 0) rfl rfl ?_
  refine ezw_aload_n rfl rfl ?_
  refine ezw_ifnull rfl ?_
  refine ezw_iload_n rfl rfl ?_
  refine ezw_if_lt rfl rfl ha1 (fun h5_0 => ?_) (fun h5_0 => ?_)
  · exact ezw_return rfl rfl ⟨A, rfl, hS, (fun _ _ => rfl), (by omega), (fun _ _ => rfl), rfl⟩
  · refine ezw_iload_n rfl rfl ?_
    refine ezw_aload_n rfl rfl ?_
    refine ezs_alen (k := 4) rfl rfl rfl rfl (by decide) (by decide) ?_
    refine ezw_icmp_ge rfl rfl ha1 ⟨by decide, by decide⟩ (fun h11_0 => ?_) (fun h11_0 => ?_)
    · exact ezw_return rfl rfl ⟨A, rfl, hS, (fun _ _ => rfl), (by omega), (fun _ _ => rfl), rfl⟩
    · refine ezw_aload_n rfl rfl ?_
      refine ezw_iload_n rfl rfl ?_
      refine ezw_lload_n rfl rfl ?_
      refine ezy_lastore hS rfl rfl rfl (by omega) (by omega) (by decide) ha2 (fun A1 hS mA1 nA1 => ?_)
      exact ezw_return rfl rfl ⟨A1, rfl, hS, (fun p h => by
            funext j
            rw [nA1 p j (by omega)]), (fun _ _ => mA1), (fun j hj => nA1 58 j (by omega)), rfl⟩
def ezt_m69_47Q (e : Bool × Bool) (F : Nat → Nat → Int) (A : Nat → Int → Int) (a1 : Int) (a2 : Int) : Option ezq_V → (Nat → ezq_C) → Prop := fun v g' => ∃ (A' : Nat → Int → Int), ezu_g e F A' = g' ∧ ezs_T F A' ∧ (∀ p, ¬ (p = 61) → A' p = A p) ∧ (0 ≤ a1 → a1 < 11 → A' 61 a1 = a2) ∧ (∀ j, j ≠ a1 → A' 61 j = A 61 j) ∧ none = v
theorem ezt_m69_47 {a1 a2 : Int} {F : Nat → Nat → Int} {A : Nat → Int → Int} (hS : ezs_T F A) (hd : 1 ≤ d) (ha1 : ezw_in a1) (ha2 : ezw_in a2) (hv : -2147483648 ≤ a2 ∧ a2 ≤ 9999) : ezw_C l ρ B xa Hb D cA 69 d [ezw_p 47, ezw_i a1, ezw_i a2] (ezu_g e F A) (ezt_m69_47Q e F A a1 a2) := by
  refine ezw_met (k := 0) rfl rfl ?_
  refine ezw_aload_n rfl rfl ?_
  refine ezs_getp (p := 61) rfl rfl rfl rfl rfl ?_
  refine ezw_iload_n rfl rfl ?_
  refine ezw_iload_n rfl rfl ?_
  refine ezw_call3_3 rfl (by omega) rfl rfl (ezt_m21_61 hS (by omega) ha1 ha2 (by omega)) ?_
  rintro _ _ ⟨A1, rfl, hS, nA1, m_1, n_1, rfl⟩
  exact ezw_return rfl rfl ⟨A1, rfl, hS, (fun p h => by
        funext j
        rw [nA1 p (by omega)]), m_1, n_1, rfl⟩
def ezt_m63_47Q (e : Bool × Bool) (F : Nat → Nat → Int) (A : Nat → Int → Int) (t : ezp_D) (wl : List Int) (a1 : Int) (a2 : Int) (a3 : Int) (a4 : Int) (a5 : Int) : Option ezq_V → (Nat → ezq_C) → Prop := fun v g' => ∃ (F' : Nat → Nat → Int) (A' : Nat → Int → Int), ezu_g e F' A' = g' ∧ ezs_T F' A' ∧ (∀ p j, ¬ (p = 47 ∧ (j = 15)) → F' p j = F p j) ∧ (∀ p, ¬ (p = 48 ∨ p = 49 ∨ p = 50 ∨ p = 51 ∨ p = 57) → A' p = A p) ∧ (ezt_TR 47 (t.twig wl a2 a3 a4 a5) F' A') ∧ none = v
theorem ezt_m63_47 {t : ezp_D} {wl : List Int} {a1 a2 a3 a4 a5 : Int} {F : Nat → Nat → Int} {A : Nat → Int → Int} (hS : ezs_T F A) (hd : 1 ≤ d) (ha1 : ezw_il a1) (ha2 : ezw_in a2) (ha3 : ezw_in a3) (ha4 : ezw_in a4) (ha5 : ezw_in a5) (tr : ezt_TR 47 t F A) (hk : t.kT < 8) (hl : ezp_ok wl) (ha : a1 = ezp_v 32 wl) : ezw_C l ρ B xa Hb D cA 63 d [ezw_p 47, ezw_l a1, ezw_i a2, ezw_i a3, ezw_i a4, ezw_i a5] (ezu_g e F A) (ezt_m63_47Q e F A t wl a1 a2 a3 a4 a5) := by
  refine ezw_met (k := 0) rfl rfl ?_
  obtain ⟨⟨c1, c2, c3, c4⟩, ⟨d1, d2, d3, d4, d5, d6, d7, d8⟩, trr⟩ := id tr
  refine ezw_aload_n rfl rfl ?_
  refine ezs_getp (p := 57) rfl rfl rfl rfl rfl ?_
  refine ezw_aload_n rfl rfl ?_
  refine ezy_get_i hS rfl rfl rfl rfl rfl rfl (fun u1 hu1 ku1 eu1 => ?_)
  replace eu1 := eu1.symm
  subst eu1
  refine ezw_lload_n rfl rfl ?_
  refine ezw_call3_3 rfl (by omega) rfl rfl (ezt_m64_57 hS (by omega) hu1 ha1) ?_
  rintro _ _ ⟨A2, rfl, hS, nA2, m_2, n_2, rfl⟩
  refine ezw_aload_n rfl rfl ?_
  refine ezs_getp (p := 48) rfl rfl rfl rfl rfl ?_
  refine ezw_aload_n rfl rfl ?_
  refine ezy_get_i hS rfl rfl rfl rfl rfl rfl (fun u3 hu3 ku3 eu3 => ?_)
  replace eu3 := eu3.symm
  subst eu3
  refine ezw_iload_n rfl rfl ?_
  refine ezw_call3_3 rfl (by omega) rfl rfl (ezt_m21_48 hS (by omega) hu3 ha2) ?_
  rintro _ _ ⟨A4, rfl, hS, nA4, m_4, n_4, rfl⟩
  refine ezw_aload_n rfl rfl ?_
  refine ezs_getp (p := 49) rfl rfl rfl rfl rfl ?_
  refine ezw_aload_n rfl rfl ?_
  refine ezy_get_i hS rfl rfl rfl rfl rfl rfl (fun u5 hu5 ku5 eu5 => ?_)
  replace eu5 := eu5.symm
  subst eu5
  refine ezw_iload rfl rfl ?_
  refine ezw_call3_3 rfl (by omega) rfl rfl (ezt_m21_49 hS (by omega) hu5 ha3) ?_
  rintro _ _ ⟨A6, rfl, hS, nA6, m_6, n_6, rfl⟩
  refine ezw_aload_n rfl rfl ?_
  refine ezs_getp (p := 50) rfl rfl rfl rfl rfl ?_
  refine ezw_aload_n rfl rfl ?_
  refine ezy_get_i hS rfl rfl rfl rfl rfl rfl (fun u7 hu7 ku7 eu7 => ?_)
  replace eu7 := eu7.symm
  subst eu7
  refine ezw_iload rfl rfl ?_
  refine ezw_call3_3 rfl (by omega) rfl rfl (ezt_m21_50 hS (by omega) hu7 ha4) ?_
  rintro _ _ ⟨A8, rfl, hS, nA8, m_8, n_8, rfl⟩
  refine ezw_aload_n rfl rfl ?_
  refine ezs_getp (p := 51) rfl rfl rfl rfl rfl ?_
  refine ezw_aload_n rfl rfl ?_
  refine ezy_get_i hS rfl rfl rfl rfl rfl rfl (fun u9 hu9 ku9 eu9 => ?_)
  replace eu9 := eu9.symm
  subst eu9
  refine ezw_iload rfl rfl ?_
  refine ezw_call3_3 rfl (by omega) rfl rfl (ezt_m21_51 hS (by omega) hu9 ha5) ?_
  rintro _ _ ⟨A10, rfl, hS, nA10, m_10, n_10, rfl⟩
  refine ezw_aload_n rfl rfl ?_
  refine ezw_dup rfl rfl ?_
  refine ezy_get_i hS rfl rfl rfl rfl rfl rfl (fun u11 hu11 ku11 eu11 => ?_)
  replace eu11 := eu11.symm
  subst eu11
  refine ezw_iconst (1) rfl rfl ?_
  refine ezw_iadd (k := (F 47 15) + 1) rfl (by omega) ?_
  refine ezy_put_i hS rfl rfl rfl rfl rfl ⟨by omega, by omega⟩ (fun F12 hS mF12 nF12 => ?_)
  exact ezw_return rfl rfl ⟨F12, A10, rfl, hS, (fun p j h => by rw [nF12 p j (by omega)]), (fun p h => by
        funext j
        rw [nA10 p (by omega), nA8 p (by omega), nA6 p (by omega), nA4 p (by omega), nA2 p (by omega)]), (ezt_TR_twig (F' := F12) (A' := A10) tr hk hl (by rw [mF12]) (by rw [nF12 47 16 (by decide)]) (by rw [nF12 47 17 (by decide)]) (by rw [nF12 55 1 (by decide)]) (fun k k1 k2 => by rw [nA10 (47 + k) (by omega), nA8 (47 + k) (by omega), nA6 (47 + k) (by omega), nA4 (47 + k) (by omega), nA2 (47 + k) (by omega)]) (fun k k1 k2 => by rw [nA10 (47 + k) (by omega), nA8 (47 + k) (by omega), nA6 (47 + k) (by omega), nA4 (47 + k) (by omega), nA2 (47 + k) (by omega)]) ⟨(show A10 57 (F 47 15) = ezp_v 32 wl from ha ▸ (by rw [nA10 57 (by decide), nA8 57 (by decide), nA6 57 (by decide), nA4 57 (by decide)]; exact m_2 (by omega) (by omega))), (by rw [nA10 48 (by decide), nA8 48 (by decide), nA6 48 (by decide)]; exact m_4 (by omega) (by omega)), (by rw [nA10 49 (by decide), nA8 49 (by decide)]; exact m_6 (by omega) (by omega)), (by rw [nA10 50 (by decide)]; exact m_8 (by omega) (by omega)), (m_10 (by omega) (by omega))⟩ (fun j hj => ⟨(show A10 57 j = A 57 j from by rw [nA10 57 (by decide), nA8 57 (by decide), nA6 57 (by decide), nA4 57 (by decide), n_2 j hj]), (show A10 48 j = A 48 j from by rw [nA10 48 (by decide), nA8 48 (by decide), nA6 48 (by decide), n_4 j hj, nA2 48 (by decide)]), (show A10 49 j = A 49 j from by rw [nA10 49 (by decide), nA8 49 (by decide), n_6 j hj, nA4 49 (by decide), nA2 49 (by decide)]), (show A10 50 j = A 50 j from by rw [nA10 50 (by decide), n_8 j hj, nA6 50 (by decide), nA4 50 (by decide), nA2 50 (by decide)]), (show A10 51 j = A 51 j from by rw [n_10 j hj, nA8 51 (by decide), nA6 51 (by decide), nA4 51 (by decide), nA2 51 (by decide)])⟩)), rfl⟩
def ezt_m71_47Q (e : Bool × Bool) (F : Nat → Nat → Int) (A : Nat → Int → Int) (t : ezp_D) (wl : List Int) (a1 : Int) (a2 : Int) (a3 : Int) (a4 : Int) : Option ezq_V → (Nat → ezq_C) → Prop := fun v g' => ∃ (F' : Nat → Nat → Int) (A' : Nat → Int → Int), ezu_g e F' A' = g' ∧ ezs_T F' A' ∧ (∀ p j, ¬ (p = 47 ∧ (j = 16)) → F' p j = F p j) ∧ (∀ p, ¬ (p = 52 ∨ p = 53 ∨ p = 54 ∨ p = 58 ∨ p = 59) → A' p = A p) ∧ (ezt_TR 47 (t.thing wl a2 a3 a4) F' A') ∧ none = v
theorem ezt_m71_47 {t : ezp_D} {wl : List Int} {a1 a2 a3 a4 : Int} {F : Nat → Nat → Int} {A : Nat → Int → Int} (hS : ezs_T F A) (hd : 1 ≤ d) (ha1 : ezw_il a1) (ha2 : ezw_in a2) (ha3 : ezw_in a3) (ha4 : ezw_in a4) (tr : ezt_TR 47 t F A) (hk : t.kH < 4) (hl : ezp_ok wl) (ha : a1 = ezp_v 32 wl) : ezw_C l ρ B xa Hb D cA 71 d [ezw_p 47, ezw_l a1, ezw_i a2, ezw_i a3, ezw_i a4] (ezu_g e F A) (ezt_m71_47Q e F A t wl a1 a2 a3 a4) := by
  refine ezw_met (k := 0) rfl rfl ?_
  obtain ⟨⟨c1, c2, c3, c4⟩, ⟨d1, d2, d3, d4, d5, d6, d7, d8⟩, trr⟩ := id tr
  refine ezw_aload_n rfl rfl ?_
  refine ezs_getp (p := 58) rfl rfl rfl rfl rfl ?_
  refine ezw_aload_n rfl rfl ?_
  refine ezy_get_i hS rfl rfl rfl rfl rfl rfl (fun u1 hu1 ku1 eu1 => ?_)
  replace eu1 := eu1.symm
  subst eu1
  refine ezw_lload_n rfl rfl ?_
  refine ezw_call3_3 rfl (by omega) rfl rfl (ezt_m64_58 hS (by omega) hu1 ha1) ?_
  rintro _ _ ⟨A2, rfl, hS, nA2, m_2, n_2, rfl⟩
  refine ezw_aload_n rfl rfl ?_
  refine ezs_getp (p := 52) rfl rfl rfl rfl rfl ?_
  refine ezw_aload_n rfl rfl ?_
  refine ezy_get_i hS rfl rfl rfl rfl rfl rfl (fun u3 hu3 ku3 eu3 => ?_)
  replace eu3 := eu3.symm
  subst eu3
  refine ezw_iload_n rfl rfl ?_
  refine ezw_call3_3 rfl (by omega) rfl rfl (ezt_m21_52 hS (by omega) hu3 ha2) ?_
  rintro _ _ ⟨A4, rfl, hS, nA4, m_4, n_4, rfl⟩
  refine ezw_aload_n rfl rfl ?_
  refine ezs_getp (p := 53) rfl rfl rfl rfl rfl ?_
  refine ezw_aload_n rfl rfl ?_
  refine ezy_get_i hS rfl rfl rfl rfl rfl rfl (fun u5 hu5 ku5 eu5 => ?_)
  replace eu5 := eu5.symm
  subst eu5
  refine ezw_iload rfl rfl ?_
  refine ezw_call3_3 rfl (by omega) rfl rfl (ezt_m21_53 hS (by omega) hu5 ha3) ?_
  rintro _ _ ⟨A6, rfl, hS, nA6, m_6, n_6, rfl⟩
  refine ezw_aload_n rfl rfl ?_
  refine ezs_getp (p := 54) rfl rfl rfl rfl rfl ?_
  refine ezw_aload_n rfl rfl ?_
  refine ezy_get_i hS rfl rfl rfl rfl rfl rfl (fun u7 hu7 ku7 eu7 => ?_)
  replace eu7 := eu7.symm
  subst eu7
  refine ezw_iload rfl rfl ?_
  refine ezw_call3_3 rfl (by omega) rfl rfl (ezt_m21_54 hS (by omega) hu7 ha4) ?_
  rintro _ _ ⟨A8, rfl, hS, nA8, m_8, n_8, rfl⟩
  refine ezw_aload_n rfl rfl ?_
  refine ezs_getp (p := 59) rfl rfl rfl rfl rfl ?_
  refine ezw_aload_n rfl rfl ?_
  refine ezy_get_i hS rfl rfl rfl rfl rfl rfl (fun u9 hu9 ku9 eu9 => ?_)
  replace eu9 := eu9.symm
  subst eu9
  refine ezw_iconst (0) rfl rfl ?_
  refine ezw_call3_3 rfl (by omega) rfl rfl (ezt_m21_59 hS (by omega) hu9 ⟨by decide, by decide⟩) ?_
  rintro _ _ ⟨A10, rfl, hS, nA10, m_10, n_10, rfl⟩
  refine ezw_aload_n rfl rfl ?_
  refine ezw_dup rfl rfl ?_
  refine ezy_get_i hS rfl rfl rfl rfl rfl rfl (fun u11 hu11 ku11 eu11 => ?_)
  replace eu11 := eu11.symm
  subst eu11
  refine ezw_iconst (1) rfl rfl ?_
  refine ezw_iadd (k := (F 47 16) + 1) rfl (by omega) ?_
  refine ezy_put_i hS rfl rfl rfl rfl rfl ⟨by omega, by omega⟩ (fun F12 hS mF12 nF12 => ?_)
  exact ezw_return rfl rfl ⟨F12, A10, rfl, hS, (fun p j h => by rw [nF12 p j (by omega)]), (fun p h => by
        funext j
        rw [nA10 p (by omega), nA8 p (by omega), nA6 p (by omega), nA4 p (by omega), nA2 p (by omega)]), (ezt_TR_thing (F' := F12) (A' := A10) tr hk hl (by rw [nF12 47 15 (by decide)]) (by rw [mF12]) (by rw [nF12 47 17 (by decide)]) (by rw [nF12 55 1 (by decide)]) (fun k k1 k2 => by rw [nA10 (47 + k) (by omega), nA8 (47 + k) (by omega), nA6 (47 + k) (by omega), nA4 (47 + k) (by omega), nA2 (47 + k) (by omega)]) (fun k k1 k2 => by rw [nA10 (47 + k) (by omega), nA8 (47 + k) (by omega), nA6 (47 + k) (by omega), nA4 (47 + k) (by omega), nA2 (47 + k) (by omega)]) (by rw [nA10 60 (by decide), nA8 60 (by decide), nA6 60 (by decide), nA4 60 (by decide), nA2 60 (by decide)]) ⟨(show A10 58 (F 47 16) = ezp_v 32 wl from ha ▸ (by rw [nA10 58 (by decide), nA8 58 (by decide), nA6 58 (by decide), nA4 58 (by decide)]; exact m_2 (by omega) (by omega))), (by rw [nA10 52 (by decide), nA8 52 (by decide), nA6 52 (by decide)]; exact m_4 (by omega) (by omega)), (by rw [nA10 53 (by decide), nA8 53 (by decide)]; exact m_6 (by omega) (by omega)), (by rw [nA10 54 (by decide)]; exact m_8 (by omega) (by omega)), (m_10 (by omega) (by omega))⟩ (fun j hj => ⟨(show A10 58 j = A 58 j from by rw [nA10 58 (by decide), nA8 58 (by decide), nA6 58 (by decide), nA4 58 (by decide), n_2 j hj]), (show A10 52 j = A 52 j from by rw [nA10 52 (by decide), nA8 52 (by decide), nA6 52 (by decide), n_4 j hj, nA2 52 (by decide)]), (show A10 53 j = A 53 j from by rw [nA10 53 (by decide), nA8 53 (by decide), n_6 j hj, nA4 53 (by decide), nA2 53 (by decide)]), (show A10 54 j = A 54 j from by rw [nA10 54 (by decide), n_8 j hj, nA6 54 (by decide), nA4 54 (by decide), nA2 54 (by decide)]), (show A10 59 j = A 59 j from by rw [n_10 j hj, nA8 59 (by decide), nA6 59 (by decide), nA4 59 (by decide), nA2 59 (by decide)])⟩)), rfl⟩
def ezt_m67_47Q (e : Bool × Bool) (F : Nat → Nat → Int) (A : Nat → Int → Int) (t : ezp_D) (a1 : Int) : Option ezq_V → (Nat → ezq_C) → Prop := fun v g' => ∃ (F' : Nat → Nat → Int) (A' : Nat → Int → Int), ezu_g e F' A' = g' ∧ ezs_T F' A' ∧ (∀ p j, ¬ (p = 47 ∧ (j = 17)) → F' p j = F p j) ∧ (∀ p, ¬ (p = 60) → A' p = A p) ∧ (ezt_TR 47 (t.strg a1) F' A') ∧ none = v
theorem ezt_m67_47 {t : ezp_D} {a1 : Int} {F : Nat → Nat → Int} {A : Nat → Int → Int} (hS : ezs_T F A) (hd : 1 ≤ d) (ha1 : ezw_in a1) (tr : ezt_TR 47 t F A) (hk : t.kS < 6) : ezw_C l ρ B xa Hb D cA 67 d [ezw_p 47, ezw_i a1] (ezu_g e F A) (ezt_m67_47Q e F A t a1) := by
  refine ezw_met (k := 0) rfl rfl ?_
  obtain ⟨⟨c1, c2, c3, c4⟩, ⟨d1, d2, d3, d4, d5, d6, d7, d8⟩, e3, e4, e5, e6⟩ := id tr
  refine ezw_aload_n rfl rfl ?_
  refine ezs_getp (p := 60) rfl rfl rfl rfl rfl ?_
  refine ezw_aload_n rfl rfl ?_
  refine ezy_get_i hS rfl rfl rfl rfl rfl rfl (fun u1 hu1 ku1 eu1 => ?_)
  replace eu1 := eu1.symm
  subst eu1
  refine ezw_iload_n rfl rfl ?_
  refine ezw_call3_3 rfl (by omega) rfl rfl (ezt_m21_60 hS (by omega) hu1 ha1) ?_
  rintro _ _ ⟨A2, rfl, hS, nA2, m_2, n_2, rfl⟩
  refine ezw_aload_n rfl rfl ?_
  refine ezw_dup rfl rfl ?_
  refine ezy_get_i hS rfl rfl rfl rfl rfl rfl (fun u3 hu3 ku3 eu3 => ?_)
  replace eu3 := eu3.symm
  subst eu3
  refine ezw_iconst (1) rfl rfl ?_
  refine ezw_iadd (k := (F 47 17) + 1) rfl (by omega) ?_
  refine ezy_put_i hS rfl rfl rfl rfl rfl ⟨by omega, by omega⟩ (fun F4 hS mF4 nF4 => ?_)
  exact ezw_return rfl rfl ⟨F4, A2, rfl, hS, (fun p j h => by rw [nF4 p j (by omega)]), (fun p h => by
        funext j
        rw [nA2 p (by omega)]), (ezt_TR_strg (F' := F4) (A' := A2) tr hk (by rw [nF4 47 15 (by decide)]) (by rw [nF4 47 16 (by decide)]) (by rw [mF4]) (by rw [nF4 55 1 (by decide)]) (fun k k1 k2 => by rw [nA2 (47 + k) (by omega)]) (m_2 (by omega) (by omega)) (fun j hj => (show A2 60 j = A 60 j from by rw [n_2 j hj]))), rfl⟩
def ezt_m66_47Q (e : Bool × Bool) (F : Nat → Nat → Int) (A : Nat → Int → Int) (t : ezp_D) (a1 : Int) : Option ezq_V → (Nat → ezq_C) → Prop := fun v g' => ezu_g e F A = g' ∧ ∃ u : Int, (0 ≤ u ∧ u ≤ 1) ∧ (u = 1 → ezp_hs t.sg a1 t.kS.toNat = true) ∧ (u = 0 → ezp_hs t.sg a1 t.kS.toNat = false) ∧ some (ezw_i u) = v
theorem ezt_m66_47 {t : ezp_D} {a1 : Int} {F : Nat → Nat → Int} {A : Nat → Int → Int} (hS : ezs_T F A) (hd : 1 ≤ d) (ha1 : ezw_in a1) (tr : ezt_TR 47 t F A) : ezw_C l ρ B xa Hb D cA 66 d [ezw_p 47, ezw_i a1] (ezu_g e F A) (ezt_m66_47Q e F A t a1) := by
  refine ezw_met (k := 1) rfl rfl ?_
  obtain ⟨⟨c1, c2, c3, c4⟩, ⟨d1, d2, d3, d4, d5, d6, d7, d8⟩, e3, e4, e5, e6⟩ := id tr
  have e5 : ∀ i, 0 ≤ i → i < t.kS → A 60 i = t.sg i := e5
  refine ezw_iconst (0) rfl rfl ?_
  refine ezw_istore_n rfl rfl ?_
  have L2_2 : ∀ c1 : Int, ezw_in c1 → ((0) ≤ c1) → (∀ i, 0 ≤ i → i < c1 → t.sg i ≠ a1) → ezw_E l ρ B xa Hb D cA d ezq_re66 (ezt_m66_47Q e F A t a1) 2 [some (ezw_p 47), some (ezw_i a1), some (ezw_i c1)] [] (ezu_g e F A) := by
    refine ezs_up ?_
    intro c1 hc1 ihc1 g_2 no_2
    refine ezw_iload_n rfl rfl ?_
    refine ezw_aload_n rfl rfl ?_
    refine ezy_get_i hS rfl rfl rfl rfl rfl rfl (fun u3 hu3 ku3 eu3 => ?_)
    replace eu3 := eu3.symm
    subst eu3
    refine ezw_icmp_ge rfl rfl hc1 hu3 (fun h7_3 => ?_) (fun h7_3 => ?_)
    · refine ezw_iconst (0) rfl rfl ?_
      exact ezw_ireturn rfl (ezw_zret ⟨by omega, by omega⟩) ⟨rfl, (0), ⟨by omega, by omega⟩, (by omega), (fun _ => ezp_hsF (fun i i0 i1 => no_2 i i0 (by omega))), rfl⟩
    · refine ezw_aload_n rfl rfl ?_
      refine ezs_getp (p := 60) rfl rfl rfl rfl rfl ?_
      refine ezw_iload_n rfl rfl ?_
      refine ezw_call3_2 rfl (by omega) rfl rfl (ezt_m27_60 hS (by omega) hc1) ?_
      rintro _ _ ⟨rfl, u5, hu5, v_4, rfl⟩
      refine ezw_iload_n rfl rfl ?_
      refine ezw_icmp_ne rfl rfl hu5 ha1 (fun h19_5 => ?_) (fun h19_5 => ?_)
      · refine ezw_iinc (k := c1 + 1) (1) rfl rfl rfl (by omega) rfl ?_
        refine ezw_goto rfl rfl ?_
        exact ezw_keepE [true, true, true] (ihc1 (c1 + 1) (by omega) ⟨by omega, by omega⟩ (by omega) (fun i i0 i1 => by
              by_cases hi : i = c1
              · subst hi
                have h7 := e5 _ i0 (by omega)
                have h8 := v_4 i0 (by omega)
                omega
              · exact no_2 i i0 (by omega)))
      · refine ezw_iconst (1) rfl rfl ?_
        exact ezw_ireturn rfl (ezw_zret ⟨by omega, by omega⟩) ⟨rfl, (1), ⟨by omega, by omega⟩, (fun _ => ezp_hsT c1 (by omega) (by omega) (by
              have h7 := e5 c1 (by omega) (by omega)
              have h8 := v_4 (by omega) (by omega)
              omega)), (by omega), rfl⟩
  exact ezw_keepE [true, true, true] (L2_2 (0) ⟨by decide, by decide⟩ (by omega) (fun i i0 i1 => by omega))
def ezt_m73_47Q (e : Bool × Bool) (F : Nat → Nat → Int) (A : Nat → Int → Int) (t : ezp_D) (a1 : Int) (a2 : Int) : Option ezq_V → (Nat → ezq_C) → Prop := fun v g' => ezu_g e F A = g' ∧ ∃ u : Int, (0 ≤ u ∧ u ≤ 1) ∧ (u = 1 → t.ah a2 a1 = 1) ∧ (u = 0 → t.ah a2 a1 ≠ 1) ∧ some (ezw_i u) = v
theorem ezt_m73_47 {t : ezp_D} {a1 a2 : Int} {F : Nat → Nat → Int} {A : Nat → Int → Int} (hS : ezs_T F A) (hd : 1 ≤ d) (ha1 : ezw_in a1) (ha2 : ezw_in a2) (tr : ezt_TR 47 t F A) (g1 : 0 ≤ a1 ∧ a1 < 4 ∧ 0 ≤ a2 ∧ a2 < t.kH) : ezw_C l ρ B xa Hb D cA 73 d [ezw_p 47, ezw_i a1, ezw_i a2] (ezu_g e F A) (ezt_m73_47Q e F A t a1 a2) := by
  refine ezw_met (k := 0) rfl rfl ?_
  obtain ⟨⟨c1, c2, c3, c4⟩, ⟨d1, d2, d3, d4, d5, d6, d7, d8⟩, e3, e4, e5, e6⟩ := id tr
  refine ezw_aload_n rfl rfl ?_
  refine ezs_getp (p := 59) rfl rfl rfl rfl rfl ?_
  refine ezw_iload_n rfl rfl ?_
  refine ezw_call3_2 rfl (by omega) rfl rfl (ezt_m27_59 hS (by omega) ha2) ?_
  rintro _ _ ⟨rfl, u2, hu2, v_1, rfl⟩
  refine ezw_iload_n rfl rfl ?_
  refine ezw_call3_2 rfl (by omega) rfl rfl (ezt_m49 hS (by omega) hu2 ha1) ?_
  rintro _ _ ⟨rfl, u4, hu4, v_3, rfl⟩
  have h7 : ezt_b (A 59 a2) a1 = t.ah a2 a1 := (e4 a2 (by omega) (by omega)).2.2.2.2.2 a1 (by omega) (by omega)
  have h8 := v_1 (by omega) (by omega)
  have h9 := v_3 (by omega) (by omega)
  rw [h8, h7] at h9
  refine ezw_iconst (1) rfl rfl ?_
  refine ezw_icmp_ne rfl rfl hu4 ⟨by decide, by decide⟩ (fun h13_4 => ?_) (fun h13_4 => ?_)
  · refine ezw_iconst (0) rfl rfl ?_
    exact ezw_ireturn rfl (ezw_zret ⟨by omega, by omega⟩) ⟨rfl, (0), ⟨by omega, by omega⟩, by omega, by omega, rfl⟩
  · refine ezw_iconst (1) rfl rfl ?_
    refine ezw_goto rfl rfl ?_
    exact ezw_ireturn rfl (ezw_zret ⟨by omega, by omega⟩) ⟨rfl, (1), ⟨by omega, by omega⟩, by omega, by omega, rfl⟩
def ezt_m74_47Q (e : Bool × Bool) (F : Nat → Nat → Int) (A : Nat → Int → Int) (t : ezp_D) (a1 : Int) (a2 : Int) : Option ezq_V → (Nat → ezq_C) → Prop := fun v g' => ∃ (A' : Nat → Int → Int), ezu_g e F A' = g' ∧ ezs_T F A' ∧ (∀ p, ¬ (p = 59) → A' p = A p) ∧ (ezt_TR 47 (t.over a1 a2) F A') ∧ none = v
theorem ezt_m74_47 {t : ezp_D} {a1 a2 : Int} {F : Nat → Nat → Int} {A : Nat → Int → Int} (hS : ezs_T F A) (hd : 1 ≤ d) (ha1 : ezw_in a1) (ha2 : ezw_in a2) (tr : ezt_TR 47 t F A) (g1 : 0 ≤ a1 ∧ a1 < 4 ∧ 0 ≤ a2 ∧ a2 < t.kH) : ezw_C l ρ B xa Hb D cA 74 d [ezw_p 47, ezw_i a1, ezw_i a2] (ezu_g e F A) (ezt_m74_47Q e F A t a1 a2) := by
  refine ezw_met (k := 0) rfl rfl ?_
  obtain ⟨⟨c1, c2, c3, c4⟩, ⟨d1, d2, d3, d4, d5, d6, d7, d8⟩, e3, e4, e5, e6⟩ := id tr
  refine ezw_aload_n rfl rfl ?_
  refine ezs_getp (p := 59) rfl rfl rfl rfl rfl ?_
  refine ezw_iload_n rfl rfl ?_
  refine ezw_aload_n rfl rfl ?_
  refine ezs_getp (p := 59) rfl rfl rfl rfl rfl ?_
  refine ezw_iload_n rfl rfl ?_
  refine ezw_call3_2 rfl (by omega) rfl rfl (ezt_m27_59 hS (by omega) ha2) ?_
  rintro _ _ ⟨rfl, u2, hu2, v_1, rfl⟩
  have h7 : 0 ≤ A 59 a2 ∧ A 59 a2 < 16 := (e4 a2 (by omega) (by omega)).2.2.2.2.1
  have h8 := v_1 (by omega) (by omega)
  have hor := ezt_or1 (v := u2) (j := a1) 4 (by decide) (by omega) (by omega) (by omega) (by omega)
  refine ezw_iconst (1) rfl rfl ?_
  refine ezw_iload_n rfl rfl ?_
  refine ezw_ishl rfl (by omega) (by omega) (k := (1 * 2 ^ (a1).toNat)) (rfl) ?_
  refine ezw_ior rfl (k := ezw_or u2 (1 * 2 ^ (a1).toNat)) rfl ?_
  refine ezw_call3_3 rfl (by omega) rfl rfl (ezt_m21_59 hS (by omega) ha2 ⟨by omega, by omega⟩) ?_
  rintro _ _ ⟨A3, rfl, hS, nA3, m_3, n_3, rfl⟩
  exact ezw_return rfl rfl ⟨A3, rfl, hS, (fun p h => by
        funext j
        rw [nA3 p (by omega)]), (ezt_TR_over (F' := F) (A' := A3) tr (by omega) (by omega) (by omega) (by omega) rfl rfl rfl rfl (fun k k1 k2 => by rw [nA3 (47 + k) (by omega)]) (by rw [nA3 60 (by decide)]) (h8 ▸ (m_3 (by omega) (by omega))) (fun j hj => (show A3 59 j = A 59 j from by rw [n_3 j hj]))), rfl⟩
def ezt_m78_55Q (e : Bool × Bool) (F : Nat → Nat → Int) (A : Nat → Int → Int) (t : ezp_D) (a1 : Int) (a2 : Int) : Option ezq_V → (Nat → ezq_C) → Prop := fun v g' => ezu_g e F A = g' ∧ ∃ u : Int, (0 ≤ u ∧ u ≤ 1) ∧ (u = 1 → t.el a1 a2 = 1) ∧ (u = 0 → t.el a1 a2 ≠ 1) ∧ some (ezw_i u) = v
theorem ezt_m78_55 {t : ezp_D} {a1 a2 : Int} {F : Nat → Nat → Int} {A : Nat → Int → Int} (hS : ezs_T F A) (hd : 1 ≤ d) (ha1 : ezw_in a1) (ha2 : ezw_in a2) (tr : ezt_TR 47 t F A) (g1 : 0 ≤ a1 ∧ a1 < 16 ∧ 0 ≤ a2 ∧ a2 < 16) : ezw_C l ρ B xa Hb D cA 78 d [ezw_p 55, ezw_i a1, ezw_i a2] (ezu_g e F A) (ezt_m78_55Q e F A t a1 a2) := by
  refine ezw_met (k := 0) rfl rfl ?_
  obtain ⟨⟨c1, c2, c3, c4⟩, ⟨d1, d2, d3, d4, d5, d6, d7, d8⟩, e3, e4, e5, e6⟩ := id tr
  refine ezw_aload_n rfl rfl ?_
  refine ezs_getp (p := 56) rfl rfl rfl rfl rfl ?_
  refine ezw_iload_n rfl rfl ?_
  refine ezw_call3_2 rfl (by omega) rfl rfl (ezt_m27_56 hS (by omega) ha1) ?_
  rintro _ _ ⟨rfl, u2, hu2, v_1, rfl⟩
  refine ezw_iload_n rfl rfl ?_
  refine ezw_call3_2 rfl (by omega) rfl rfl (ezt_m49 hS (by omega) hu2 ha2) ?_
  rintro _ _ ⟨rfl, u4, hu4, v_3, rfl⟩
  have h7 : ezt_b (A 56 a1) a2 = t.el a1 a2 := (e6 a1 (by omega) (by omega)).2 a2 (by omega) (by omega)
  have h8 := v_1 (by omega) (by omega)
  have h9 := v_3 (by omega) (by omega)
  rw [h8, h7] at h9
  refine ezw_iconst (1) rfl rfl ?_
  refine ezw_icmp_ne rfl rfl hu4 ⟨by decide, by decide⟩ (fun h13_4 => ?_) (fun h13_4 => ?_)
  · refine ezw_iconst (0) rfl rfl ?_
    exact ezw_ireturn rfl (ezw_zret ⟨by omega, by omega⟩) ⟨rfl, (0), ⟨by omega, by omega⟩, by omega, by omega, rfl⟩
  · refine ezw_iconst (1) rfl rfl ?_
    refine ezw_goto rfl rfl ?_
    exact ezw_ireturn rfl (ezw_zret ⟨by omega, by omega⟩) ⟨rfl, (1), ⟨by omega, by omega⟩, by omega, by omega, rfl⟩
def ezt_m79_55Q (e : Bool × Bool) (F : Nat → Nat → Int) (A : Nat → Int → Int) (t : ezp_D) (a1 : Int) (a2 : Int) : Option ezq_V → (Nat → ezq_C) → Prop := fun v g' => ∃ (F' : Nat → Nat → Int) (A' : Nat → Int → Int), ezu_g e F' A' = g' ∧ ezs_T F' A' ∧ (∀ p j, ¬ (p = 55 ∧ (j = 1)) → F' p j = F p j) ∧ (∀ p, ¬ (p = 56) → A' p = A p) ∧ (ezt_TR 47 (t.elm a1 a2) F' A') ∧ none = v
theorem ezt_m79_55 {t : ezp_D} {a1 a2 : Int} {F : Nat → Nat → Int} {A : Nat → Int → Int} (hS : ezs_T F A) (hd : 1 ≤ d) (ha1 : ezw_in a1) (ha2 : ezw_in a2) (tr : ezt_TR 47 t F A) (hk : t.kE < 8) (g1 : 0 ≤ a1 ∧ a1 < 16 ∧ 0 ≤ a2 ∧ a2 < 16) : ezw_C l ρ B xa Hb D cA 79 d [ezw_p 55, ezw_i a1, ezw_i a2] (ezu_g e F A) (ezt_m79_55Q e F A t a1 a2) := by
  refine ezw_met (k := 0) rfl rfl ?_
  obtain ⟨⟨c1, c2, c3, c4⟩, ⟨d1, d2, d3, d4, d5, d6, d7, d8⟩, e3, e4, e5, e6⟩ := id tr
  have c4 : F 55 1 = t.kE := c4
  refine ezw_aload_n rfl rfl ?_
  refine ezs_getp (p := 56) rfl rfl rfl rfl rfl ?_
  refine ezw_iload_n rfl rfl ?_
  refine ezw_aload_n rfl rfl ?_
  refine ezs_getp (p := 56) rfl rfl rfl rfl rfl ?_
  refine ezw_iload_n rfl rfl ?_
  refine ezw_call3_2 rfl (by omega) rfl rfl (ezt_m27_56 hS (by omega) ha1) ?_
  rintro _ _ ⟨rfl, u2, hu2, v_1, rfl⟩
  have h7 : 0 ≤ A 56 a1 ∧ A 56 a1 < 65536 := (e6 a1 (by omega) (by omega)).1
  have h8 := v_1 (by omega) (by omega)
  have hor := ezt_or1 (v := u2) (j := a2) 16 (by decide) (by omega) (by omega) (by omega) (by omega)
  refine ezw_iconst (1) rfl rfl ?_
  refine ezw_iload_n rfl rfl ?_
  refine ezw_ishl rfl (by omega) (by omega) (k := (1 * 2 ^ (a2).toNat)) (rfl) ?_
  refine ezw_ior rfl (k := ezw_or u2 (1 * 2 ^ (a2).toNat)) rfl ?_
  refine ezw_call3_3 rfl (by omega) rfl rfl (ezt_m21_56 hS (by omega) ha1 ⟨by omega, by omega⟩) ?_
  rintro _ _ ⟨A3, rfl, hS, nA3, m_3, n_3, rfl⟩
  refine ezw_aload_n rfl rfl ?_
  refine ezw_dup rfl rfl ?_
  refine ezy_get_i hS rfl rfl rfl rfl rfl rfl (fun u4 hu4 ku4 eu4 => ?_)
  replace eu4 := eu4.symm
  subst eu4
  refine ezw_iconst (1) rfl rfl ?_
  refine ezw_iadd (k := (F 55 1) + 1) rfl (by omega) ?_
  refine ezy_put_i hS rfl rfl rfl rfl rfl ⟨by omega, by omega⟩ (fun F5 hS mF5 nF5 => ?_)
  exact ezw_return rfl rfl ⟨F5, A3, rfl, hS, (fun p j h => by rw [nF5 p j (by omega)]), (fun p h => by
        funext j
        rw [nA3 p (by omega)]), (ezt_TR_elm (F' := F5) (A' := A3) tr hk (by omega) (by omega) (by omega) (by omega) (by rw [nF5 47 15 (by decide)]) (by rw [nF5 47 16 (by decide)]) (by rw [nF5 47 17 (by decide)]) (by rw [mF5]) (fun k k1 k2 => by rw [nA3 (47 + k) (by omega)]) (fun k k1 k2 => by rw [nA3 (47 + k) (by omega)]) (h8 ▸ (m_3 (by omega) (by omega))) (fun j hj => (show A3 56 j = A 56 j from by rw [n_3 j hj]))), rfl⟩
end KT
