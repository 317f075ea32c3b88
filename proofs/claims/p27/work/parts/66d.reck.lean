/-! ===== the program: chances reckoned ===== -/
section KT
variable {l : Launch} {ρ : ezq_E} {B : Nat} {xa : Nat → Option Nat} {Hb : Heap} {D : va_G} {cA : Nat → ClassId} {d : Nat} {e : Bool × Bool}
def ezt_m27_32Q (e : Bool × Bool) (F : Nat → Nat → Int) (A : Nat → Int → Int) (a1 : Int) : Option ezq_V → (Nat → ezq_C) → Prop := fun v g' => ezu_g e F A = g' ∧ ∃ u : Int, (ezw_in u) ∧ (0 ≤ a1 → a1 < 8 → u = A 32 a1) ∧ some (ezw_i u) = v
theorem ezt_m27_32 {a1 : Int} {F : Nat → Nat → Int} {A : Nat → Int → Int} (hS : ezs_T F A) (hd : 0 ≤ d) (ha1 : ezw_in a1) : ezw_C l ρ B xa Hb D cA 27 d [ezw_p 32, ezw_i a1] (ezu_g e F A) (ezt_m27_32Q e F A a1) := by
  refine ezw_met (k := 0) rfl rfl ?_
  refine ezw_aload_n rfl rfl ?_
  refine ezw_ifnull rfl ?_
  refine ezw_iload_n rfl rfl ?_
  refine ezw_if_lt rfl rfl ha1 (fun h5_0 => ?_) (fun h5_0 => ?_)
  · refine ezw_iconst (0) rfl rfl ?_
    exact ezw_ireturn rfl rfl ⟨rfl, (0), ⟨by decide, by decide⟩, by omega, rfl⟩
  · refine ezw_iload_n rfl rfl ?_
    refine ezw_aload_n rfl rfl ?_
    refine ezs_alen (k := 8) rfl rfl rfl rfl (by decide) (by decide) ?_
    refine ezw_icmp_ge rfl rfl ha1 ⟨by decide, by decide⟩ (fun h11_0 => ?_) (fun h11_0 => ?_)
    · refine ezw_iconst (0) rfl rfl ?_
      exact ezw_ireturn rfl rfl ⟨rfl, (0), ⟨by decide, by decide⟩, by omega, rfl⟩
    · refine ezw_aload_n rfl rfl ?_
      refine ezw_iload_n rfl rfl ?_
      refine ezy_iaload hS rfl rfl rfl (by omega) (by omega) (by decide) (fun u1 hu1 ku1 eu1 => ?_)
      refine ezw_goto rfl rfl ?_
      exact ezw_ireturn rfl rfl ⟨rfl, u1, hu1, by omega, rfl⟩
def ezt_m92Q (e : Bool × Bool) (F : Nat → Nat → Int) (A : Nat → Int → Int) (a0 : Int) (a1 : Int) (a2 : Int) (a3 : Int) : Option ezq_V → (Nat → ezq_C) → Prop := fun v g' => ezu_g e F A = g' ∧ ∃ u : Int, (ezw_in u) ∧ some (ezw_i u) = v
theorem ezt_m92 {a0 a1 a2 a3 : Int} {F : Nat → Nat → Int} {A : Nat → Int → Int} (hS : ezs_T F A) (hd : 0 ≤ d) (ha0 : ezw_in a0) (ha1 : ezw_in a1) (ha2 : ezw_in a2) (ha3 : ezw_in a3) (ga : 0 ≤ a0 ∧ a0 ≤ 8 ∧ 0 ≤ a1 ∧ a1 ≤ 9 ∧ 0 ≤ a2 ∧ a2 ≤ 2 ∧ 0 ≤ a3 ∧ a3 ≤ 1) : ezw_C l ρ B xa Hb D cA 92 d [ezw_i a0, ezw_i a1, ezw_i a2, ezw_i a3] (ezu_g e F A) (ezt_m92Q e F A a0 a1 a2 a3) := by
  refine ezw_met (k := 0) rfl rfl ?_
  refine ezw_iload_n rfl rfl ?_
  refine ezw_bipush (10) rfl rfl ?_
  refine ezw_imul (k := 10 * a0) rfl (by omega) ?_
  refine ezw_iload_n rfl rfl ?_
  refine ezw_iadd (k := 10 * a0 + a1) rfl (by omega) ?_
  refine ezw_iconst (3) rfl rfl ?_
  refine ezw_imul (k := 30 * a0 + 3 * a1) rfl (by omega) ?_
  refine ezw_iload_n rfl rfl ?_
  refine ezw_iadd (k := 30 * a0 + 3 * a1 + a2) rfl (by omega) ?_
  refine ezw_iconst (2) rfl rfl ?_
  refine ezw_imul (k := 60 * a0 + 6 * a1 + 2 * a2) rfl (by omega) ?_
  refine ezw_iload_n rfl rfl ?_
  refine ezw_iadd (k := 60 * a0 + 6 * a1 + 2 * a2 + a3) rfl (by omega) ?_
  exact ezw_ireturn rfl rfl ⟨rfl, 60 * a0 + 6 * a1 + 2 * a2 + a3, ⟨by omega, by omega⟩, rfl⟩
def ezt_m21_45Q (e : Bool × Bool) (F : Nat → Nat → Int) (A : Nat → Int → Int) (a1 : Int) (a2 : Int) : Option ezq_V → (Nat → ezq_C) → Prop := fun v g' => ∃ (A' : Nat → Int → Int), ezu_g e F A' = g' ∧ ezs_T F A' ∧ (∀ p, ¬ (p = 45) → A' p = A p) ∧ (0 ≤ a1 → a1 < 480 → A' 45 a1 = a2) ∧ (∀ j, j ≠ a1 → A' 45 j = A 45 j) ∧ none = v
theorem ezt_m21_45 {a1 a2 : Int} {F : Nat → Nat → Int} {A : Nat → Int → Int} (hS : ezs_T F A) (hd : 0 ≤ d) (ha1 : ezw_in a1) (ha2 : ezw_in a2) : ezw_C l ρ B xa Hb D cA 21 d [ezw_p 45, ezw_i a1, ezw_i a2] (ezu_g e F A) (ezt_m21_45Q e F A a1 a2) := by
  refine ezw_met (k := 0) rfl rfl ?_
  refine ezw_aload_n rfl rfl ?_
  refine ezw_ifnull rfl ?_
  refine ezw_iload_n rfl rfl ?_
  refine ezw_if_lt rfl rfl ha1 (fun h5_0 => ?_) (fun h5_0 => ?_)
  · exact ezw_return rfl rfl ⟨A, rfl, hS, (fun _ _ => rfl), (by omega), (fun _ _ => rfl), rfl⟩
  · refine ezw_iload_n rfl rfl ?_
    refine ezw_aload_n rfl rfl ?_
    refine ezs_alen (k := 480) rfl rfl rfl rfl (by decide) (by decide) ?_
    refine ezw_icmp_ge rfl rfl ha1 ⟨by decide, by decide⟩ (fun h11_0 => ?_) (fun h11_0 => ?_)
    · exact ezw_return rfl rfl ⟨A, rfl, hS, (fun _ _ => rfl), (by omega), (fun _ _ => rfl), rfl⟩
    · refine ezw_aload_n rfl rfl ?_
      refine ezw_iload_n rfl rfl ?_
      refine ezw_iload_n rfl rfl ?_
      refine ezy_iastore hS rfl rfl rfl (by omega) (by omega) (by decide) ha2 (fun A1 hS mA1 nA1 => ?_)
      exact ezw_return rfl rfl ⟨A1, rfl, hS, (fun p h => by
            funext j
            rw [nA1 p j (fun z => h (z.1))]), (fun _ _ => mA1), (fun j hj => nA1 45 j (by omega)), rfl⟩
def ezt_m21_46Q (e : Bool × Bool) (F : Nat → Nat → Int) (A : Nat → Int → Int) (a1 : Int) (a2 : Int) : Option ezq_V → (Nat → ezq_C) → Prop := fun v g' => ∃ (A' : Nat → Int → Int), ezu_g e F A' = g' ∧ ezs_T F A' ∧ (∀ p, ¬ (p = 46) → A' p = A p) ∧ (0 ≤ a1 → a1 < 480 → A' 46 a1 = a2) ∧ (∀ j, j ≠ a1 → A' 46 j = A 46 j) ∧ none = v
theorem ezt_m21_46 {a1 a2 : Int} {F : Nat → Nat → Int} {A : Nat → Int → Int} (hS : ezs_T F A) (hd : 0 ≤ d) (ha1 : ezw_in a1) (ha2 : ezw_in a2) : ezw_C l ρ B xa Hb D cA 21 d [ezw_p 46, ezw_i a1, ezw_i a2] (ezu_g e F A) (ezt_m21_46Q e F A a1 a2) := by
  refine ezw_met (k := 0) rfl rfl ?_
  refine ezw_aload_n rfl rfl ?_
  refine ezw_ifnull rfl ?_
  refine ezw_iload_n rfl rfl ?_
  refine ezw_if_lt rfl rfl ha1 (fun h5_0 => ?_) (fun h5_0 => ?_)
  · exact ezw_return rfl rfl ⟨A, rfl, hS, (fun _ _ => rfl), (by omega), (fun _ _ => rfl), rfl⟩
  · refine ezw_iload_n rfl rfl ?_
    refine ezw_aload_n rfl rfl ?_
    refine ezs_alen (k := 480) rfl rfl rfl rfl (by decide) (by decide) ?_
    refine ezw_icmp_ge rfl rfl ha1 ⟨by decide, by decide⟩ (fun h11_0 => ?_) (fun h11_0 => ?_)
    · exact ezw_return rfl rfl ⟨A, rfl, hS, (fun _ _ => rfl), (by omega), (fun _ _ => rfl), rfl⟩
    · refine ezw_aload_n rfl rfl ?_
      refine ezw_iload_n rfl rfl ?_
      refine ezw_iload_n rfl rfl ?_
      refine ezy_iastore hS rfl rfl rfl (by omega) (by omega) (by decide) ha2 (fun A1 hS mA1 nA1 => ?_)
      exact ezw_return rfl rfl ⟨A1, rfl, hS, (fun p h => by
            funext j
            rw [nA1 p j (fun z => h (z.1))]), (fun _ _ => mA1), (fun j hj => nA1 46 j (by omega)), rfl⟩
def ezt_m21_12Q (e : Bool × Bool) (F : Nat → Nat → Int) (A : Nat → Int → Int) (a1 : Int) (a2 : Int) : Option ezq_V → (Nat → ezq_C) → Prop := fun v g' => ∃ (A' : Nat → Int → Int), ezu_g e F A' = g' ∧ ezs_T F A' ∧ (∀ p, ¬ (p = 12) → A' p = A p) ∧ (0 ≤ a1 → a1 < 4 → A' 12 a1 = a2) ∧ (∀ j, j ≠ a1 → A' 12 j = A 12 j) ∧ none = v
theorem ezt_m21_12 {a1 a2 : Int} {F : Nat → Nat → Int} {A : Nat → Int → Int} (hS : ezs_T F A) (hd : 0 ≤ d) (ha1 : ezw_in a1) (ha2 : ezw_in a2) : ezw_C l ρ B xa Hb D cA 21 d [ezw_p 12, ezw_i a1, ezw_i a2] (ezu_g e F A) (ezt_m21_12Q e F A a1 a2) := by
  refine ezw_met (k := 0) rfl rfl ?_
  refine ezw_aload_n rfl rfl ?_
  refine ezw_ifnull rfl ?_
  refine ezw_iload_n rfl rfl ?_
  refine ezw_if_lt rfl rfl ha1 (fun h5_0 => ?_) (fun h5_0 => ?_)
  · exact ezw_return rfl rfl ⟨A, rfl, hS, (fun _ _ => rfl), (by omega), (fun _ _ => rfl), rfl⟩
  · refine ezw_iload_n rfl rfl ?_
    refine ezw_aload_n rfl rfl ?_
    refine ezs_alen (k := 4) rfl rfl rfl rfl (by decide) (by decide) ?_
    refine ezw_icmp_ge rfl rfl ha1 ⟨by decide, by decide⟩ (fun h11_0 => ?_) (fun h11_0 => ?_)
    · exact ezw_return rfl rfl ⟨A, rfl, hS, (fun _ _ => rfl), (by omega), (fun _ _ => rfl), rfl⟩
    · refine ezw_aload_n rfl rfl ?_
      refine ezw_iload_n rfl rfl ?_
      refine ezw_iload_n rfl rfl ?_
      refine ezy_iastore hS rfl rfl rfl (by omega) (by omega) (by decide) ha2 (fun A1 hS mA1 nA1 => ?_)
      exact ezw_return rfl rfl ⟨A1, rfl, hS, (fun p h => by
            funext j
            rw [nA1 p j (fun z => h (z.1))]), (fun _ _ => mA1), (fun j hj => nA1 12 j (by omega)), rfl⟩
def ezt_m27_11Q (e : Bool × Bool) (F : Nat → Nat → Int) (A : Nat → Int → Int) (a1 : Int) : Option ezq_V → (Nat → ezq_C) → Prop := fun v g' => ezu_g e F A = g' ∧ ∃ u : Int, (ezw_in u) ∧ (0 ≤ a1 → a1 < 32 → u = A 11 a1) ∧ some (ezw_i u) = v
theorem ezt_m27_11 {a1 : Int} {F : Nat → Nat → Int} {A : Nat → Int → Int} (hS : ezs_T F A) (hd : 0 ≤ d) (ha1 : ezw_in a1) : ezw_C l ρ B xa Hb D cA 27 d [ezw_p 11, ezw_i a1] (ezu_g e F A) (ezt_m27_11Q e F A a1) := by
  refine ezw_met (k := 0) rfl rfl ?_
  refine ezw_aload_n rfl rfl ?_
  refine ezw_ifnull rfl ?_
  refine ezw_iload_n rfl rfl ?_
  refine ezw_if_lt rfl rfl ha1 (fun h5_0 => ?_) (fun h5_0 => ?_)
  · refine ezw_iconst (0) rfl rfl ?_
    exact ezw_ireturn rfl rfl ⟨rfl, (0), ⟨by decide, by decide⟩, by omega, rfl⟩
  · refine ezw_iload_n rfl rfl ?_
    refine ezw_aload_n rfl rfl ?_
    refine ezs_alen (k := 32) rfl rfl rfl rfl (by decide) (by decide) ?_
    refine ezw_icmp_ge rfl rfl ha1 ⟨by decide, by decide⟩ (fun h11_0 => ?_) (fun h11_0 => ?_)
    · refine ezw_iconst (0) rfl rfl ?_
      exact ezw_ireturn rfl rfl ⟨rfl, (0), ⟨by decide, by decide⟩, by omega, rfl⟩
    · refine ezw_aload_n rfl rfl ?_
      refine ezw_iload_n rfl rfl ?_
      refine ezy_iaload hS rfl rfl rfl (by omega) (by omega) (by decide) (fun u1 hu1 ku1 eu1 => ?_)
      refine ezw_goto rfl rfl ?_
      exact ezw_ireturn rfl rfl ⟨rfl, u1, hu1, by omega, rfl⟩
def ezt_m90_9Q (e : Bool × Bool) (F : Nat → Nat → Int) (A : Nat → Int → Int) : Option ezq_V → (Nat → ezq_C) → Prop := fun v g' => ∃ (F' : Nat → Nat → Int), ezu_g e F' A = g' ∧ ezs_T F' A ∧ (∀ p j, ¬ (p = 9 ∧ (j = 5)) → F' p j = F p j) ∧ ∃ u : Int, (ezw_in u) ∧ some (ezw_i u) = v
theorem ezt_m90_9 {F : Nat → Nat → Int} {A : Nat → Int → Int} (hS : ezs_T F A) (hd : 1 ≤ d) : ezw_C l ρ B xa Hb D cA 90 d [ezw_p 9] (ezu_g e F A) (ezt_m90_9Q e F A) := by
  refine ezw_met (k := 0) rfl rfl ?_
  refine ezw_aload_n rfl rfl ?_
  refine ezw_dup rfl rfl ?_
  refine ezy_get_i hS rfl rfl rfl rfl rfl rfl (fun u1 hu1 ku1 eu1 => ?_)
  replace eu1 := eu1.symm
  subst eu1
  refine ezw_iconst (1) rfl rfl ?_
  refine ezs_isub rfl (fun u2 hu2 => ?_)
  refine ezy_put_i hS rfl rfl rfl rfl rfl hu2 (fun F3 hS mF3 nF3 => ?_)
  refine ezw_aload_n rfl rfl ?_
  refine ezs_getp (p := 11) rfl rfl rfl rfl rfl ?_
  refine ezw_aload_n rfl rfl ?_
  refine ezy_get_i hS rfl rfl rfl rfl rfl rfl (fun u4 hu4 ku4 eu4 => ?_)
  rw [mF3] at eu4
  replace eu4 := eu4.symm
  subst eu4
  refine ezw_call3_2 rfl (by omega) rfl rfl (ezt_m27_11 hS (by omega) hu4) ?_
  rintro _ _ ⟨rfl, u6, hu6, v_5, rfl⟩
  exact ezw_ireturn rfl rfl ⟨F3, rfl, hS, (fun p j h => by rw [nF3 p j (fun z => h (⟨z.1, z.2⟩))]), u6, hu6, rfl⟩
def ezt_m91Q (e : Bool × Bool) (F : Nat → Nat → Int) (A : Nat → Int → Int) (a0 : Int) (a1 : Int) (a2 : Int) : Option ezq_V → (Nat → ezq_C) → Prop := fun v g' => ezu_g e F A = g' ∧ ∃ u : Int, (ezw_in u) ∧ some (ezw_i u) = v
theorem ezt_m91 {a0 a1 a2 : Int} {F : Nat → Nat → Int} {A : Nat → Int → Int} (hS : ezs_T F A) (hd : 0 ≤ d) (ha0 : ezw_in a0) (ha1 : ezw_in a1) (ha2 : ezw_in a2) : ezw_C l ρ B xa Hb D cA 91 d [ezw_i a0, ezw_i a1, ezw_i a2] (ezu_g e F A) (ezt_m91Q e F A a0 a1 a2) := by
  refine ezw_met (k := 0) rfl rfl ?_
  refine ezw_iload_n rfl rfl ?_
  by_cases q1 : a0 = (-12)
  · refine ezw_tableswitchE (v := -12) (p := 102) q1 rfl (by rfl) ?_
    refine ezw_iload_n rfl rfl ?_
    refine ezw_iload_n rfl rfl ?_
    refine ezs_imul rfl (fun u2 hu2 => ?_)
    exact ezw_ireturn rfl rfl ⟨rfl, u2, hu2, rfl⟩
  by_cases q3 : a0 = (-11)
  · refine ezw_tableswitchE (v := -11) (p := 98) q3 rfl (by rfl) ?_
    refine ezw_iload_n rfl rfl ?_
    refine ezw_iload_n rfl rfl ?_
    refine ezs_isub rfl (fun u4 hu4 => ?_)
    exact ezw_ireturn rfl rfl ⟨rfl, u4, hu4, rfl⟩
  by_cases q5 : a0 = (-10)
  · refine ezw_tableswitchE (v := -10) (p := 94) q5 rfl (by rfl) ?_
    refine ezw_iload_n rfl rfl ?_
    refine ezw_iload_n rfl rfl ?_
    refine ezs_iadd rfl (fun u6 hu6 => ?_)
    exact ezw_ireturn rfl rfl ⟨rfl, u6, hu6, rfl⟩
  by_cases q7 : a0 = (-9)
  · refine ezw_tableswitchE (v := -9) (p := 83) q7 rfl (by rfl) ?_
    refine ezw_iload_n rfl rfl ?_
    refine ezw_iload_n rfl rfl ?_
    refine ezw_icmp_ne rfl rfl ha1 ha2 (fun h85_7 => ?_) (fun h85_7 => ?_)
    · refine ezw_iconst (0) rfl rfl ?_
      exact ezw_ireturn rfl rfl ⟨rfl, (0), ⟨by decide, by decide⟩, rfl⟩
    · refine ezw_iconst (1) rfl rfl ?_
      refine ezw_goto rfl rfl ?_
      exact ezw_ireturn rfl rfl ⟨rfl, (1), ⟨by decide, by decide⟩, rfl⟩
  by_cases q8 : a0 = (-8)
  · refine ezw_tableswitchE (v := -8) (p := 72) q8 rfl (by rfl) ?_
    refine ezw_iload_n rfl rfl ?_
    refine ezw_iload_n rfl rfl ?_
    refine ezw_icmp_ge rfl rfl ha1 ha2 (fun h74_8 => ?_) (fun h74_8 => ?_)
    · refine ezw_iconst (0) rfl rfl ?_
      exact ezw_ireturn rfl rfl ⟨rfl, (0), ⟨by decide, by decide⟩, rfl⟩
    · refine ezw_iconst (1) rfl rfl ?_
      refine ezw_goto rfl rfl ?_
      exact ezw_ireturn rfl rfl ⟨rfl, (1), ⟨by decide, by decide⟩, rfl⟩
  by_cases q9 : a0 = (-7)
  · refine ezw_tableswitchE (v := -7) (p := 58) q9 rfl (by rfl) ?_
    refine ezw_iload_n rfl rfl ?_
    refine ezw_if_ne rfl rfl ha1 (fun h59_9 => ?_) (fun h59_9 => ?_)
    · refine ezw_iconst (1) rfl rfl ?_
      refine ezw_goto rfl rfl ?_
      exact ezw_ireturn rfl rfl ⟨rfl, (1), ⟨by decide, by decide⟩, rfl⟩
    · refine ezw_iload_n rfl rfl ?_
      refine ezw_if_eq rfl rfl ha2 (fun h63_9 => ?_) (fun h63_9 => ?_)
      · refine ezw_iconst (0) rfl rfl ?_
        exact ezw_ireturn rfl rfl ⟨rfl, (0), ⟨by decide, by decide⟩, rfl⟩
      · refine ezw_iconst (1) rfl rfl ?_
        refine ezw_goto rfl rfl ?_
        exact ezw_ireturn rfl rfl ⟨rfl, (1), ⟨by decide, by decide⟩, rfl⟩
  by_cases q10 : a0 = (-6)
  · refine ezw_tableswitchE (v := -6) (p := 44) q10 rfl (by rfl) ?_
    refine ezw_iload_n rfl rfl ?_
    refine ezw_if_eq rfl rfl ha1 (fun h45_10 => ?_) (fun h45_10 => ?_)
    · refine ezw_iconst (0) rfl rfl ?_
      exact ezw_ireturn rfl rfl ⟨rfl, (0), ⟨by decide, by decide⟩, rfl⟩
    · refine ezw_iload_n rfl rfl ?_
      refine ezw_if_eq rfl rfl ha2 (fun h49_10 => ?_) (fun h49_10 => ?_)
      · refine ezw_iconst (0) rfl rfl ?_
        exact ezw_ireturn rfl rfl ⟨rfl, (0), ⟨by decide, by decide⟩, rfl⟩
      · refine ezw_iconst (1) rfl rfl ?_
        refine ezw_goto rfl rfl ?_
        exact ezw_ireturn rfl rfl ⟨rfl, (1), ⟨by decide, by decide⟩, rfl⟩
  refine ezw_tableswitch (p := 106) rfl (ezs_swd ha0 (And.intro (And.intro ⟨by decide, by decide⟩ (fun z => q1 z.symm)) (And.intro (And.intro ⟨by decide, by decide⟩ (fun z => q3 z.symm)) (And.intro (And.intro ⟨by decide, by decide⟩ (fun z => q5 z.symm)) (And.intro (And.intro ⟨by decide, by decide⟩ (fun z => q7 z.symm)) (And.intro (And.intro ⟨by decide, by decide⟩ (fun z => q8 z.symm)) (And.intro (And.intro ⟨by decide, by decide⟩ (fun z => q9 z.symm)) (And.intro (And.intro ⟨by decide, by decide⟩ (fun z => q10 z.symm)) True.intro))))))) rfl) ?_
  refine ezw_iconst (0) rfl rfl ?_
  exact ezw_ireturn rfl rfl ⟨rfl, (0), ⟨by decide, by decide⟩, rfl⟩
def ezt_m21_11Q (e : Bool × Bool) (F : Nat → Nat → Int) (A : Nat → Int → Int) (a1 : Int) (a2 : Int) : Option ezq_V → (Nat → ezq_C) → Prop := fun v g' => ∃ (A' : Nat → Int → Int), ezu_g e F A' = g' ∧ ezs_T F A' ∧ (∀ p, ¬ (p = 11) → A' p = A p) ∧ (0 ≤ a1 → a1 < 32 → A' 11 a1 = a2) ∧ (∀ j, j ≠ a1 → A' 11 j = A 11 j) ∧ none = v
theorem ezt_m21_11 {a1 a2 : Int} {F : Nat → Nat → Int} {A : Nat → Int → Int} (hS : ezs_T F A) (hd : 0 ≤ d) (ha1 : ezw_in a1) (ha2 : ezw_in a2) : ezw_C l ρ B xa Hb D cA 21 d [ezw_p 11, ezw_i a1, ezw_i a2] (ezu_g e F A) (ezt_m21_11Q e F A a1 a2) := by
  refine ezw_met (k := 0) rfl rfl ?_
  refine ezw_aload_n rfl rfl ?_
  refine ezw_ifnull rfl ?_
  refine ezw_iload_n rfl rfl ?_
  refine ezw_if_lt rfl rfl ha1 (fun h5_0 => ?_) (fun h5_0 => ?_)
  · exact ezw_return rfl rfl ⟨A, rfl, hS, (fun _ _ => rfl), (by omega), (fun _ _ => rfl), rfl⟩
  · refine ezw_iload_n rfl rfl ?_
    refine ezw_aload_n rfl rfl ?_
    refine ezs_alen (k := 32) rfl rfl rfl rfl (by decide) (by decide) ?_
    refine ezw_icmp_ge rfl rfl ha1 ⟨by decide, by decide⟩ (fun h11_0 => ?_) (fun h11_0 => ?_)
    · exact ezw_return rfl rfl ⟨A, rfl, hS, (fun _ _ => rfl), (by omega), (fun _ _ => rfl), rfl⟩
    · refine ezw_aload_n rfl rfl ?_
      refine ezw_iload_n rfl rfl ?_
      refine ezw_iload_n rfl rfl ?_
      refine ezy_iastore hS rfl rfl rfl (by omega) (by omega) (by decide) ha2 (fun A1 hS mA1 nA1 => ?_)
      exact ezw_return rfl rfl ⟨A1, rfl, hS, (fun p h => by
            funext j
            rw [nA1 p j (fun z => h (z.1))]), (fun _ _ => mA1), (fun j hj => nA1 11 j (by omega)), rfl⟩
def ezt_m89_9Q (e : Bool × Bool) (F : Nat → Nat → Int) (A : Nat → Int → Int) (a1 : Int) : Option ezq_V → (Nat → ezq_C) → Prop := fun v g' => ∃ (F' : Nat → Nat → Int) (A' : Nat → Int → Int), ezu_g e F' A' = g' ∧ ezs_T F' A' ∧ (∀ p j, ¬ (p = 9 ∧ (j = 5)) → F' p j = F p j) ∧ (∀ p, ¬ (p = 11) → A' p = A p) ∧ none = v
theorem ezt_m89_9 {a1 : Int} {F : Nat → Nat → Int} {A : Nat → Int → Int} (hS : ezs_T F A) (hd : 1 ≤ d) (ha1 : ezw_in a1) : ezw_C l ρ B xa Hb D cA 89 d [ezw_p 9, ezw_i a1] (ezu_g e F A) (ezt_m89_9Q e F A a1) := by
  refine ezw_met (k := 0) rfl rfl ?_
  refine ezw_aload_n rfl rfl ?_
  refine ezs_getp (p := 11) rfl rfl rfl rfl rfl ?_
  refine ezw_aload_n rfl rfl ?_
  refine ezy_get_i hS rfl rfl rfl rfl rfl rfl (fun u1 hu1 ku1 eu1 => ?_)
  replace eu1 := eu1.symm
  subst eu1
  refine ezw_iload_n rfl rfl ?_
  refine ezw_call3_3 rfl (by omega) rfl rfl (ezt_m21_11 hS (by omega) hu1 ha1) ?_
  rintro _ _ ⟨A2, rfl, hS, nA2, m_2, n_2, rfl⟩
  refine ezw_aload_n rfl rfl ?_
  refine ezw_dup rfl rfl ?_
  refine ezy_get_i hS rfl rfl rfl rfl rfl rfl (fun u3 hu3 ku3 eu3 => ?_)
  replace eu3 := eu3.symm
  subst eu3
  refine ezw_iconst (1) rfl rfl ?_
  refine ezs_iadd rfl (fun u4 hu4 => ?_)
  refine ezy_put_i hS rfl rfl rfl rfl rfl hu4 (fun F5 hS mF5 nF5 => ?_)
  exact ezw_return rfl rfl ⟨F5, A2, rfl, hS, (fun p j h => by rw [nF5 p j (fun z => h (⟨z.1, z.2⟩))]), (fun p h => by
        funext j
        rw [nA2 p (fun z => h (z))]), rfl⟩
def ezt_m27_12Q (e : Bool × Bool) (F : Nat → Nat → Int) (A : Nat → Int → Int) (a1 : Int) : Option ezq_V → (Nat → ezq_C) → Prop := fun v g' => ezu_g e F A = g' ∧ ∃ u : Int, (ezw_in u) ∧ (0 ≤ a1 → a1 < 4 → u = A 12 a1) ∧ some (ezw_i u) = v
theorem ezt_m27_12 {a1 : Int} {F : Nat → Nat → Int} {A : Nat → Int → Int} (hS : ezs_T F A) (hd : 0 ≤ d) (ha1 : ezw_in a1) : ezw_C l ρ B xa Hb D cA 27 d [ezw_p 12, ezw_i a1] (ezu_g e F A) (ezt_m27_12Q e F A a1) := by
  refine ezw_met (k := 0) rfl rfl ?_
  refine ezw_aload_n rfl rfl ?_
  refine ezw_ifnull rfl ?_
  refine ezw_iload_n rfl rfl ?_
  refine ezw_if_lt rfl rfl ha1 (fun h5_0 => ?_) (fun h5_0 => ?_)
  · refine ezw_iconst (0) rfl rfl ?_
    exact ezw_ireturn rfl rfl ⟨rfl, (0), ⟨by decide, by decide⟩, by omega, rfl⟩
  · refine ezw_iload_n rfl rfl ?_
    refine ezw_aload_n rfl rfl ?_
    refine ezs_alen (k := 4) rfl rfl rfl rfl (by decide) (by decide) ?_
    refine ezw_icmp_ge rfl rfl ha1 ⟨by decide, by decide⟩ (fun h11_0 => ?_) (fun h11_0 => ?_)
    · refine ezw_iconst (0) rfl rfl ?_
      exact ezw_ireturn rfl rfl ⟨rfl, (0), ⟨by decide, by decide⟩, by omega, rfl⟩
    · refine ezw_aload_n rfl rfl ?_
      refine ezw_iload_n rfl rfl ?_
      refine ezy_iaload hS rfl rfl rfl (by omega) (by omega) (by decide) (fun u1 hu1 ku1 eu1 => ?_)
      refine ezw_goto rfl rfl ?_
      exact ezw_ireturn rfl rfl ⟨rfl, u1, hu1, by omega, rfl⟩
def ezt_m88_9Q (e : Bool × Bool) (F : Nat → Nat → Int) (A : Nat → Int → Int) (a1 : Int) : Option ezq_V → (Nat → ezq_C) → Prop := fun v g' => ∃ (F' : Nat → Nat → Int) (A' : Nat → Int → Int), ezu_g e F' A' = g' ∧ ezs_T F' A' ∧ (∀ p j, ¬ (p = 9 ∧ (j = 5)) → F' p j = F p j) ∧ (∀ p, ¬ (p = 11) → A' p = A p) ∧ none = v
theorem ezt_m88_9 {a1 : Int} {F : Nat → Nat → Int} {A : Nat → Int → Int} (hS : ezs_T F A) (hd : 2 ≤ d) (ha1 : ezw_in a1) : ezw_C l ρ B xa Hb D cA 88 d [ezw_p 9, ezw_i a1] (ezu_g e F A) (ezt_m88_9Q e F A a1) := by
  refine ezw_met (k := 2) rfl rfl ?_
  refine ezw_iload_n rfl rfl ?_
  refine ezw_if_lt rfl rfl ha1 (fun h1_0 => ?_) (fun h1_0 => ?_)
  · refine ezw_iload_n rfl rfl ?_
    refine ezw_bipush (-4) rfl rfl ?_
    refine ezw_icmp_lt rfl rfl ha1 ⟨by decide, by decide⟩ (fun h15_0 => ?_) (fun h15_0 => ?_)
    · refine ezw_iload_n rfl rfl ?_
      refine ezw_bipush (-5) rfl rfl ?_
      refine ezw_icmp_ne rfl rfl ha1 ⟨by decide, by decide⟩ (fun h38_0 => ?_) (fun h38_0 => ?_)
      · refine ezw_aload_n rfl rfl ?_
        refine ezw_call0_0 rfl (by omega) (ezu_at rfl) rfl rfl rfl rfl (ezt_m90_9 hS (by omega)) ?_
        rintro _ _ ⟨F1, rfl, hS, nF1, u2, hu2, rfl⟩
        refine ezw_istore_n rfl rfl ?_
        refine ezw_aload_n rfl rfl ?_
        refine ezw_call0_0 rfl (by omega) (ezu_at rfl) rfl rfl rfl rfl (ezt_m90_9 hS (by omega)) ?_
        rintro _ _ ⟨F3, rfl, hS, nF3, u4, hu4, rfl⟩
        refine ezw_istore_n rfl rfl ?_
        refine ezw_aload_n rfl rfl ?_
        refine ezw_iload_n rfl rfl ?_
        refine ezw_iload_n rfl rfl ?_
        refine ezw_iload_n rfl rfl ?_
        refine ezw_call2_3 rfl (by omega) rfl rfl (ezt_m91 hS (by omega) ha1 hu4 hu2) ?_
        rintro _ _ ⟨rfl, u6, hu6, rfl⟩
        refine ezw_call0_1 rfl (by omega) (ezu_at rfl) rfl rfl rfl rfl (ezt_m89_9 hS (by omega) hu6) ?_
        rintro _ _ ⟨F7, A7, rfl, hS, nF7, nA7, rfl⟩
        exact ezw_return rfl rfl ⟨F7, A7, rfl, hS, (fun p j h => by rw [nF7 p j (fun z => h (⟨z.1, z.2⟩)), nF3 p j (fun z => h (⟨z.1, z.2⟩)), nF1 p j (fun z => h (⟨z.1, z.2⟩))]), (fun p h => by
              funext j
              rw [nA7 p (fun z => h (z))]), rfl⟩
      · refine ezw_aload_n rfl rfl ?_
        refine ezw_aload_n rfl rfl ?_
        refine ezw_call0_0 rfl (by omega) (ezu_at rfl) rfl rfl rfl rfl (ezt_m90_9 hS (by omega)) ?_
        rintro _ _ ⟨F8, rfl, hS, nF8, u9, hu9, rfl⟩
        refine ezw_if_ne rfl rfl hu9 (fun h46_9 => ?_) (fun h46_9 => ?_)
        · refine ezw_iconst (0) rfl rfl ?_
          refine ezw_call0_1 rfl (by omega) (ezu_at rfl) rfl rfl rfl rfl (ezt_m89_9 hS (by omega) ⟨by decide, by decide⟩) ?_
          rintro _ _ ⟨F10, A10, rfl, hS, nF10, nA10, rfl⟩
          refine ezw_goto rfl rfl ?_
          exact ezw_return rfl rfl ⟨F10, A10, rfl, hS, (fun p j h => by rw [nF10 p j (fun z => h (⟨z.1, z.2⟩)), nF8 p j (fun z => h (⟨z.1, z.2⟩))]), (fun p h => by
                funext j
                rw [nA10 p (fun z => h (z))]), rfl⟩
        · refine ezw_iconst (1) rfl rfl ?_
          refine ezw_goto rfl rfl ?_
          refine ezw_call0_1 rfl (by omega) (ezu_at rfl) rfl rfl rfl rfl (ezt_m89_9 hS (by omega) ⟨by decide, by decide⟩) ?_
          rintro _ _ ⟨F11, A11, rfl, hS, nF11, nA11, rfl⟩
          refine ezw_goto rfl rfl ?_
          exact ezw_return rfl rfl ⟨F11, A11, rfl, hS, (fun p j h => by rw [nF11 p j (fun z => h (⟨z.1, z.2⟩)), nF8 p j (fun z => h (⟨z.1, z.2⟩))]), (fun p h => by
                funext j
                rw [nA11 p (fun z => h (z))]), rfl⟩
    · refine ezw_aload_n rfl rfl ?_
      refine ezw_aload_n rfl rfl ?_
      refine ezs_getp (p := 12) rfl rfl rfl rfl rfl ?_
      refine ezw_iconst (-1) rfl rfl ?_
      refine ezw_iload_n rfl rfl ?_
      refine ezw_isub (k := -a1 - 1) rfl (by omega) ?_
      refine ezw_call3_2 rfl (by omega) rfl rfl (ezt_m27_12 hS (by omega) ⟨by omega, by omega⟩) ?_
      rintro _ _ ⟨rfl, u13, hu13, v_12, rfl⟩
      refine ezw_call0_1 rfl (by omega) (ezu_at rfl) rfl rfl rfl rfl (ezt_m89_9 hS (by omega) hu13) ?_
      rintro _ _ ⟨F14, A14, rfl, hS, nF14, nA14, rfl⟩
      refine ezw_goto rfl rfl ?_
      exact ezw_return rfl rfl ⟨F14, A14, rfl, hS, (fun p j h => by rw [nF14 p j (fun z => h (⟨z.1, z.2⟩))]), (fun p h => by
            funext j
            rw [nA14 p (fun z => h (z))]), rfl⟩
  · refine ezw_aload_n rfl rfl ?_
    refine ezw_iload_n rfl rfl ?_
    refine ezw_call0_1 rfl (by omega) (ezu_at rfl) rfl rfl rfl rfl (ezt_m89_9 hS (by omega) ha1) ?_
    rintro _ _ ⟨F15, A15, rfl, hS, nF15, nA15, rfl⟩
    refine ezw_goto rfl rfl ?_
    exact ezw_return rfl rfl ⟨F15, A15, rfl, hS, (fun p j h => by rw [nF15 p j (fun z => h (⟨z.1, z.2⟩))]), (fun p h => by
          funext j
          rw [nA15 p (fun z => h (z))]), rfl⟩
def ezt_m87_9Q (e : Bool × Bool) (F : Nat → Nat → Int) (A : Nat → Int → Int) (a1 : Int) (a2 : Int) (a3 : Int) (a4 : Int) : Option ezq_V → (Nat → ezq_C) → Prop := fun v g' => ∃ (F' : Nat → Nat → Int) (A' : Nat → Int → Int), ezu_g e F' A' = g' ∧ ezs_T F' A' ∧ (∀ p j, ¬ (p = 9 ∧ (j = 5)) → F' p j = F p j) ∧ (∀ p, ¬ (p = 11 ∨ p = 12) → A' p = A p) ∧ ∃ u : Int, (ezw_in u) ∧ some (ezw_i u) = v
theorem ezt_m87_9 {a1 a2 a3 a4 : Int} {F : Nat → Nat → Int} {A : Nat → Int → Int} (hS : ezs_T F A) (hd : 3 ≤ d) (ha1 : ezw_in a1) (ha2 : ezw_in a2) (ha3 : ezw_in a3) (ha4 : ezw_in a4) : ezw_C l ρ B xa Hb D cA 87 d [ezw_p 9, ezw_i a1, ezw_i a2, ezw_i a3, ezw_i a4] (ezu_g e F A) (ezt_m87_9Q e F A a1 a2 a3 a4) := by
  refine ezw_met (k := 1) rfl rfl ?_
  refine ezw_aload_n rfl rfl ?_
  refine ezs_getp (p := 12) rfl rfl rfl rfl rfl ?_
  refine ezw_iconst (0) rfl rfl ?_
  refine ezw_iload_n rfl rfl ?_
  refine ezw_call3_3 rfl (by omega) rfl rfl (ezt_m21_12 hS (by omega) ⟨by decide, by decide⟩ ha1) ?_
  rintro _ _ ⟨A1, rfl, hS, nA1, m_1, n_1, rfl⟩
  refine ezw_aload_n rfl rfl ?_
  refine ezs_getp (p := 12) rfl rfl rfl rfl rfl ?_
  refine ezw_iconst (1) rfl rfl ?_
  refine ezw_iload_n rfl rfl ?_
  refine ezw_call3_3 rfl (by omega) rfl rfl (ezt_m21_12 hS (by omega) ⟨by decide, by decide⟩ ha2) ?_
  rintro _ _ ⟨A2, rfl, hS, nA2, m_2, n_2, rfl⟩
  refine ezw_aload_n rfl rfl ?_
  refine ezs_getp (p := 12) rfl rfl rfl rfl rfl ?_
  refine ezw_iconst (2) rfl rfl ?_
  refine ezw_iload_n rfl rfl ?_
  refine ezw_call3_3 rfl (by omega) rfl rfl (ezt_m21_12 hS (by omega) ⟨by decide, by decide⟩ ha3) ?_
  rintro _ _ ⟨A3, rfl, hS, nA3, m_3, n_3, rfl⟩
  refine ezw_aload_n rfl rfl ?_
  refine ezs_getp (p := 12) rfl rfl rfl rfl rfl ?_
  refine ezw_iconst (3) rfl rfl ?_
  refine ezw_iload rfl rfl ?_
  refine ezw_call3_3 rfl (by omega) rfl rfl (ezt_m21_12 hS (by omega) ⟨by decide, by decide⟩ ha4) ?_
  rintro _ _ ⟨A4, rfl, hS, nA4, m_4, n_4, rfl⟩
  refine ezw_aload_n rfl rfl ?_
  refine ezw_iconst (0) rfl rfl ?_
  refine ezy_put_i hS rfl rfl rfl rfl rfl ⟨by decide, by decide⟩ (fun F5 hS mF5 nF5 => ?_)
  refine ezw_iconst (0) rfl rfl ?_
  refine ezw_istore rfl rfl ?_
  have L45_7 : ∀ c6 : Int, ezw_in c6 → ∀ F_7 : Nat → Nat → Int, ∀ A_7 : Nat → Int → Int, ezs_T F_7 A_7 → (∀ p j, ¬ (p = 9 ∧ (j = 5)) → F_7 p j = F5 p j) → (∀ p, ¬ (p = 11) → A_7 p = A4 p) → ((0) ≤ c6) → ezw_E l ρ B xa Hb D cA d ezq_re87 (ezt_m87_9Q e F A a1 a2 a3 a4) 45 [some (ezw_p 9), some (ezw_i a1), some (ezw_i a2), some (ezw_i a3), some (ezw_i a4), some (ezw_i c6)] [] (ezu_g e F_7 A_7) := by
    refine ezs_up ?_
    intro c6 hc6 ihc6 F_7 A_7 hS nF_7 nA_7 g_7
    refine ezw_iload rfl rfl ?_
    refine ezw_aload_n rfl rfl ?_
    refine ezy_get_i hS rfl rfl rfl rfl rfl rfl (fun u8 hu8 ku8 eu8 => ?_)
    rw [nF_7 9 4 (by decide), nF5 9 4 (by decide)] at eu8
    replace eu8 := eu8.symm
    subst eu8
    refine ezw_icmp_ge rfl rfl hc6 hu8 (fun h51_8 => ?_) (fun h51_8 => ?_)
    · refine ezw_aload_n rfl rfl ?_
      refine ezw_call0_0 rfl (by omega) (ezu_at rfl) rfl rfl rfl rfl (ezt_m90_9 hS (by omega)) ?_
      rintro _ _ ⟨F9, rfl, hS, nF9, u10, hu10, rfl⟩
      exact ezw_ireturn rfl rfl ⟨F9, A_7, rfl, hS, (fun p j h => by rw [nF9 p j (fun z => h (⟨z.1, z.2⟩)), nF_7 p j (fun z => h (⟨z.1, z.2⟩)), nF5 p j (fun z => h (⟨z.1, z.2⟩))]), (fun p h => by
            funext j
            rw [nA_7 p (fun z => h (Or.inl z)), nA4 p (fun z => h (Or.inr z)), nA3 p (fun z => h (Or.inr z)), nA2 p (fun z => h (Or.inr z)), nA1 p (fun z => h (Or.inr z))]), u10, hu10, rfl⟩
    · refine ezw_iload rfl rfl ?_
      refine ezw_aload_n rfl rfl ?_
      refine ezs_getp (p := 10) rfl rfl rfl rfl rfl ?_
      refine ezs_alen (k := 1000) rfl rfl rfl rfl (by decide) (by decide) ?_
      refine ezw_icmp_ge rfl rfl hc6 ⟨by decide, by decide⟩ (fun h61_10 => ?_) (fun h61_10 => ?_)
      · refine ezw_aload_n rfl rfl ?_
        refine ezw_call0_0 rfl (by omega) (ezu_at rfl) rfl rfl rfl rfl (ezt_m90_9 hS (by omega)) ?_
        rintro _ _ ⟨F11, rfl, hS, nF11, u12, hu12, rfl⟩
        exact ezw_ireturn rfl rfl ⟨F11, A_7, rfl, hS, (fun p j h => by rw [nF11 p j (fun z => h (⟨z.1, z.2⟩)), nF_7 p j (fun z => h (⟨z.1, z.2⟩)), nF5 p j (fun z => h (⟨z.1, z.2⟩))]), (fun p h => by
              funext j
              rw [nA_7 p (fun z => h (Or.inl z)), nA4 p (fun z => h (Or.inr z)), nA3 p (fun z => h (Or.inr z)), nA2 p (fun z => h (Or.inr z)), nA1 p (fun z => h (Or.inr z))]), u12, hu12, rfl⟩
      · refine ezw_aload_n rfl rfl ?_
        refine ezw_aload_n rfl rfl ?_
        refine ezs_getp (p := 10) rfl rfl rfl rfl rfl ?_
        refine ezw_iload rfl rfl ?_
        refine ezy_iaload hS rfl rfl rfl (by omega) (by omega) (by decide) (fun u13 hu13 ku13 eu13 => ?_)
        rw [nA_7 10 (by decide), nA4 10 (by decide), nA3 10 (by decide), nA2 10 (by decide), nA1 10 (by decide)] at eu13
        refine ezw_call0_1 rfl (by omega) (ezu_at rfl) rfl rfl rfl rfl (ezt_m88_9 hS (by omega) hu13) ?_
        rintro _ _ ⟨F14, A14, rfl, hS, nF14, nA14, rfl⟩
        refine ezw_iinc (k := c6 + 1) (1) rfl rfl rfl (by omega) rfl ?_
        refine ezw_goto rfl rfl ?_
        exact ezw_keepE [true, true, true, true, true, true] (ihc6 (c6 + 1) (by omega) ⟨by omega, by omega⟩ F14 A14 hS (fun p j h => by rw [nF14 p j (fun z => h (⟨z.1, z.2⟩)), nF_7 p j (fun z => h (⟨z.1, z.2⟩))]) (fun p h => by
              funext j
              rw [nA14 p (fun z => h (z)), nA_7 p (fun z => h (z))]) (by omega))
  exact ezw_keepE [true, true, true, true, true, true] (L45_7 (0) ⟨by decide, by decide⟩ F5 A4 hS (fun _ _ _ => rfl) (fun _ _ => rfl) (by omega))
def ezt_m21_8Q (e : Bool × Bool) (F : Nat → Nat → Int) (A : Nat → Int → Int) (a1 : Int) (a2 : Int) : Option ezq_V → (Nat → ezq_C) → Prop := fun v g' => ∃ (A' : Nat → Int → Int), ezu_g e F A' = g' ∧ ezs_T F A' ∧ (∀ p, ¬ (p = 8) → A' p = A p) ∧ (0 ≤ a1 → a1 < 4 → A' 8 a1 = a2) ∧ (∀ j, j ≠ a1 → A' 8 j = A 8 j) ∧ none = v
theorem ezt_m21_8 {a1 a2 : Int} {F : Nat → Nat → Int} {A : Nat → Int → Int} (hS : ezs_T F A) (hd : 0 ≤ d) (ha1 : ezw_in a1) (ha2 : ezw_in a2) : ezw_C l ρ B xa Hb D cA 21 d [ezw_p 8, ezw_i a1, ezw_i a2] (ezu_g e F A) (ezt_m21_8Q e F A a1 a2) := by
  refine ezw_met (k := 0) rfl rfl ?_
  refine ezw_aload_n rfl rfl ?_
  refine ezw_ifnull rfl ?_
  refine ezw_iload_n rfl rfl ?_
  refine ezw_if_lt rfl rfl ha1 (fun h5_0 => ?_) (fun h5_0 => ?_)
  · exact ezw_return rfl rfl ⟨A, rfl, hS, (fun _ _ => rfl), (by omega), (fun _ _ => rfl), rfl⟩
  · refine ezw_iload_n rfl rfl ?_
    refine ezw_aload_n rfl rfl ?_
    refine ezs_alen (k := 4) rfl rfl rfl rfl (by decide) (by decide) ?_
    refine ezw_icmp_ge rfl rfl ha1 ⟨by decide, by decide⟩ (fun h11_0 => ?_) (fun h11_0 => ?_)
    · exact ezw_return rfl rfl ⟨A, rfl, hS, (fun _ _ => rfl), (by omega), (fun _ _ => rfl), rfl⟩
    · refine ezw_aload_n rfl rfl ?_
      refine ezw_iload_n rfl rfl ?_
      refine ezw_iload_n rfl rfl ?_
      refine ezy_iastore hS rfl rfl rfl (by omega) (by omega) (by decide) ha2 (fun A1 hS mA1 nA1 => ?_)
      exact ezw_return rfl rfl ⟨A1, rfl, hS, (fun p h => by
            funext j
            rw [nA1 p j (fun z => h (z.1))]), (fun _ _ => mA1), (fun j hj => nA1 8 j (by omega)), rfl⟩
def ezt_m27_7Q (e : Bool × Bool) (F : Nat → Nat → Int) (A : Nat → Int → Int) (a1 : Int) : Option ezq_V → (Nat → ezq_C) → Prop := fun v g' => ezu_g e F A = g' ∧ ∃ u : Int, (ezw_in u) ∧ (0 ≤ a1 → a1 < 32 → u = A 7 a1) ∧ some (ezw_i u) = v
theorem ezt_m27_7 {a1 : Int} {F : Nat → Nat → Int} {A : Nat → Int → Int} (hS : ezs_T F A) (hd : 0 ≤ d) (ha1 : ezw_in a1) : ezw_C l ρ B xa Hb D cA 27 d [ezw_p 7, ezw_i a1] (ezu_g e F A) (ezt_m27_7Q e F A a1) := by
  refine ezw_met (k := 0) rfl rfl ?_
  refine ezw_aload_n rfl rfl ?_
  refine ezw_ifnull rfl ?_
  refine ezw_iload_n rfl rfl ?_
  refine ezw_if_lt rfl rfl ha1 (fun h5_0 => ?_) (fun h5_0 => ?_)
  · refine ezw_iconst (0) rfl rfl ?_
    exact ezw_ireturn rfl rfl ⟨rfl, (0), ⟨by decide, by decide⟩, by omega, rfl⟩
  · refine ezw_iload_n rfl rfl ?_
    refine ezw_aload_n rfl rfl ?_
    refine ezs_alen (k := 32) rfl rfl rfl rfl (by decide) (by decide) ?_
    refine ezw_icmp_ge rfl rfl ha1 ⟨by decide, by decide⟩ (fun h11_0 => ?_) (fun h11_0 => ?_)
    · refine ezw_iconst (0) rfl rfl ?_
      exact ezw_ireturn rfl rfl ⟨rfl, (0), ⟨by decide, by decide⟩, by omega, rfl⟩
    · refine ezw_aload_n rfl rfl ?_
      refine ezw_iload_n rfl rfl ?_
      refine ezy_iaload hS rfl rfl rfl (by omega) (by omega) (by decide) (fun u1 hu1 ku1 eu1 => ?_)
      refine ezw_goto rfl rfl ?_
      exact ezw_ireturn rfl rfl ⟨rfl, u1, hu1, by omega, rfl⟩
def ezt_m90_5Q (e : Bool × Bool) (F : Nat → Nat → Int) (A : Nat → Int → Int) : Option ezq_V → (Nat → ezq_C) → Prop := fun v g' => ∃ (F' : Nat → Nat → Int), ezu_g e F' A = g' ∧ ezs_T F' A ∧ (∀ p j, ¬ (p = 5 ∧ (j = 5)) → F' p j = F p j) ∧ ∃ u : Int, (ezw_in u) ∧ some (ezw_i u) = v
theorem ezt_m90_5 {F : Nat → Nat → Int} {A : Nat → Int → Int} (hS : ezs_T F A) (hd : 1 ≤ d) : ezw_C l ρ B xa Hb D cA 90 d [ezw_p 5] (ezu_g e F A) (ezt_m90_5Q e F A) := by
  refine ezw_met (k := 0) rfl rfl ?_
  refine ezw_aload_n rfl rfl ?_
  refine ezw_dup rfl rfl ?_
  refine ezy_get_i hS rfl rfl rfl rfl rfl rfl (fun u1 hu1 ku1 eu1 => ?_)
  replace eu1 := eu1.symm
  subst eu1
  refine ezw_iconst (1) rfl rfl ?_
  refine ezs_isub rfl (fun u2 hu2 => ?_)
  refine ezy_put_i hS rfl rfl rfl rfl rfl hu2 (fun F3 hS mF3 nF3 => ?_)
  refine ezw_aload_n rfl rfl ?_
  refine ezs_getp (p := 7) rfl rfl rfl rfl rfl ?_
  refine ezw_aload_n rfl rfl ?_
  refine ezy_get_i hS rfl rfl rfl rfl rfl rfl (fun u4 hu4 ku4 eu4 => ?_)
  rw [mF3] at eu4
  replace eu4 := eu4.symm
  subst eu4
  refine ezw_call3_2 rfl (by omega) rfl rfl (ezt_m27_7 hS (by omega) hu4) ?_
  rintro _ _ ⟨rfl, u6, hu6, v_5, rfl⟩
  exact ezw_ireturn rfl rfl ⟨F3, rfl, hS, (fun p j h => by rw [nF3 p j (fun z => h (⟨z.1, z.2⟩))]), u6, hu6, rfl⟩
def ezt_m21_7Q (e : Bool × Bool) (F : Nat → Nat → Int) (A : Nat → Int → Int) (a1 : Int) (a2 : Int) : Option ezq_V → (Nat → ezq_C) → Prop := fun v g' => ∃ (A' : Nat → Int → Int), ezu_g e F A' = g' ∧ ezs_T F A' ∧ (∀ p, ¬ (p = 7) → A' p = A p) ∧ (0 ≤ a1 → a1 < 32 → A' 7 a1 = a2) ∧ (∀ j, j ≠ a1 → A' 7 j = A 7 j) ∧ none = v
theorem ezt_m21_7 {a1 a2 : Int} {F : Nat → Nat → Int} {A : Nat → Int → Int} (hS : ezs_T F A) (hd : 0 ≤ d) (ha1 : ezw_in a1) (ha2 : ezw_in a2) : ezw_C l ρ B xa Hb D cA 21 d [ezw_p 7, ezw_i a1, ezw_i a2] (ezu_g e F A) (ezt_m21_7Q e F A a1 a2) := by
  refine ezw_met (k := 0) rfl rfl ?_
  refine ezw_aload_n rfl rfl ?_
  refine ezw_ifnull rfl ?_
  refine ezw_iload_n rfl rfl ?_
  refine ezw_if_lt rfl rfl ha1 (fun h5_0 => ?_) (fun h5_0 => ?_)
  · exact ezw_return rfl rfl ⟨A, rfl, hS, (fun _ _ => rfl), (by omega), (fun _ _ => rfl), rfl⟩
  · refine ezw_iload_n rfl rfl ?_
    refine ezw_aload_n rfl rfl ?_
    refine ezs_alen (k := 32) rfl rfl rfl rfl (by decide) (by decide) ?_
    refine ezw_icmp_ge rfl rfl ha1 ⟨by decide, by decide⟩ (fun h11_0 => ?_) (fun h11_0 => ?_)
    · exact ezw_return rfl rfl ⟨A, rfl, hS, (fun _ _ => rfl), (by omega), (fun _ _ => rfl), rfl⟩
    · refine ezw_aload_n rfl rfl ?_
      refine ezw_iload_n rfl rfl ?_
      refine ezw_iload_n rfl rfl ?_
      refine ezy_iastore hS rfl rfl rfl (by omega) (by omega) (by decide) ha2 (fun A1 hS mA1 nA1 => ?_)
      exact ezw_return rfl rfl ⟨A1, rfl, hS, (fun p h => by
            funext j
            rw [nA1 p j (fun z => h (z.1))]), (fun _ _ => mA1), (fun j hj => nA1 7 j (by omega)), rfl⟩
def ezt_m89_5Q (e : Bool × Bool) (F : Nat → Nat → Int) (A : Nat → Int → Int) (a1 : Int) : Option ezq_V → (Nat → ezq_C) → Prop := fun v g' => ∃ (F' : Nat → Nat → Int) (A' : Nat → Int → Int), ezu_g e F' A' = g' ∧ ezs_T F' A' ∧ (∀ p j, ¬ (p = 5 ∧ (j = 5)) → F' p j = F p j) ∧ (∀ p, ¬ (p = 7) → A' p = A p) ∧ none = v
theorem ezt_m89_5 {a1 : Int} {F : Nat → Nat → Int} {A : Nat → Int → Int} (hS : ezs_T F A) (hd : 1 ≤ d) (ha1 : ezw_in a1) : ezw_C l ρ B xa Hb D cA 89 d [ezw_p 5, ezw_i a1] (ezu_g e F A) (ezt_m89_5Q e F A a1) := by
  refine ezw_met (k := 0) rfl rfl ?_
  refine ezw_aload_n rfl rfl ?_
  refine ezs_getp (p := 7) rfl rfl rfl rfl rfl ?_
  refine ezw_aload_n rfl rfl ?_
  refine ezy_get_i hS rfl rfl rfl rfl rfl rfl (fun u1 hu1 ku1 eu1 => ?_)
  replace eu1 := eu1.symm
  subst eu1
  refine ezw_iload_n rfl rfl ?_
  refine ezw_call3_3 rfl (by omega) rfl rfl (ezt_m21_7 hS (by omega) hu1 ha1) ?_
  rintro _ _ ⟨A2, rfl, hS, nA2, m_2, n_2, rfl⟩
  refine ezw_aload_n rfl rfl ?_
  refine ezw_dup rfl rfl ?_
  refine ezy_get_i hS rfl rfl rfl rfl rfl rfl (fun u3 hu3 ku3 eu3 => ?_)
  replace eu3 := eu3.symm
  subst eu3
  refine ezw_iconst (1) rfl rfl ?_
  refine ezs_iadd rfl (fun u4 hu4 => ?_)
  refine ezy_put_i hS rfl rfl rfl rfl rfl hu4 (fun F5 hS mF5 nF5 => ?_)
  exact ezw_return rfl rfl ⟨F5, A2, rfl, hS, (fun p j h => by rw [nF5 p j (fun z => h (⟨z.1, z.2⟩))]), (fun p h => by
        funext j
        rw [nA2 p (fun z => h (z))]), rfl⟩
def ezt_m27_8Q (e : Bool × Bool) (F : Nat → Nat → Int) (A : Nat → Int → Int) (a1 : Int) : Option ezq_V → (Nat → ezq_C) → Prop := fun v g' => ezu_g e F A = g' ∧ ∃ u : Int, (ezw_in u) ∧ (0 ≤ a1 → a1 < 4 → u = A 8 a1) ∧ some (ezw_i u) = v
theorem ezt_m27_8 {a1 : Int} {F : Nat → Nat → Int} {A : Nat → Int → Int} (hS : ezs_T F A) (hd : 0 ≤ d) (ha1 : ezw_in a1) : ezw_C l ρ B xa Hb D cA 27 d [ezw_p 8, ezw_i a1] (ezu_g e F A) (ezt_m27_8Q e F A a1) := by
  refine ezw_met (k := 0) rfl rfl ?_
  refine ezw_aload_n rfl rfl ?_
  refine ezw_ifnull rfl ?_
  refine ezw_iload_n rfl rfl ?_
  refine ezw_if_lt rfl rfl ha1 (fun h5_0 => ?_) (fun h5_0 => ?_)
  · refine ezw_iconst (0) rfl rfl ?_
    exact ezw_ireturn rfl rfl ⟨rfl, (0), ⟨by decide, by decide⟩, by omega, rfl⟩
  · refine ezw_iload_n rfl rfl ?_
    refine ezw_aload_n rfl rfl ?_
    refine ezs_alen (k := 4) rfl rfl rfl rfl (by decide) (by decide) ?_
    refine ezw_icmp_ge rfl rfl ha1 ⟨by decide, by decide⟩ (fun h11_0 => ?_) (fun h11_0 => ?_)
    · refine ezw_iconst (0) rfl rfl ?_
      exact ezw_ireturn rfl rfl ⟨rfl, (0), ⟨by decide, by decide⟩, by omega, rfl⟩
    · refine ezw_aload_n rfl rfl ?_
      refine ezw_iload_n rfl rfl ?_
      refine ezy_iaload hS rfl rfl rfl (by omega) (by omega) (by decide) (fun u1 hu1 ku1 eu1 => ?_)
      refine ezw_goto rfl rfl ?_
      exact ezw_ireturn rfl rfl ⟨rfl, u1, hu1, by omega, rfl⟩
def ezt_m88_5Q (e : Bool × Bool) (F : Nat → Nat → Int) (A : Nat → Int → Int) (a1 : Int) : Option ezq_V → (Nat → ezq_C) → Prop := fun v g' => ∃ (F' : Nat → Nat → Int) (A' : Nat → Int → Int), ezu_g e F' A' = g' ∧ ezs_T F' A' ∧ (∀ p j, ¬ (p = 5 ∧ (j = 5)) → F' p j = F p j) ∧ (∀ p, ¬ (p = 7) → A' p = A p) ∧ none = v
theorem ezt_m88_5 {a1 : Int} {F : Nat → Nat → Int} {A : Nat → Int → Int} (hS : ezs_T F A) (hd : 2 ≤ d) (ha1 : ezw_in a1) : ezw_C l ρ B xa Hb D cA 88 d [ezw_p 5, ezw_i a1] (ezu_g e F A) (ezt_m88_5Q e F A a1) := by
  refine ezw_met (k := 2) rfl rfl ?_
  refine ezw_iload_n rfl rfl ?_
  refine ezw_if_lt rfl rfl ha1 (fun h1_0 => ?_) (fun h1_0 => ?_)
  · refine ezw_iload_n rfl rfl ?_
    refine ezw_bipush (-4) rfl rfl ?_
    refine ezw_icmp_lt rfl rfl ha1 ⟨by decide, by decide⟩ (fun h15_0 => ?_) (fun h15_0 => ?_)
    · refine ezw_iload_n rfl rfl ?_
      refine ezw_bipush (-5) rfl rfl ?_
      refine ezw_icmp_ne rfl rfl ha1 ⟨by decide, by decide⟩ (fun h38_0 => ?_) (fun h38_0 => ?_)
      · refine ezw_aload_n rfl rfl ?_
        refine ezw_call0_0 rfl (by omega) (ezu_at rfl) rfl rfl rfl rfl (ezt_m90_5 hS (by omega)) ?_
        rintro _ _ ⟨F1, rfl, hS, nF1, u2, hu2, rfl⟩
        refine ezw_istore_n rfl rfl ?_
        refine ezw_aload_n rfl rfl ?_
        refine ezw_call0_0 rfl (by omega) (ezu_at rfl) rfl rfl rfl rfl (ezt_m90_5 hS (by omega)) ?_
        rintro _ _ ⟨F3, rfl, hS, nF3, u4, hu4, rfl⟩
        refine ezw_istore_n rfl rfl ?_
        refine ezw_aload_n rfl rfl ?_
        refine ezw_iload_n rfl rfl ?_
        refine ezw_iload_n rfl rfl ?_
        refine ezw_iload_n rfl rfl ?_
        refine ezw_call2_3 rfl (by omega) rfl rfl (ezt_m91 hS (by omega) ha1 hu4 hu2) ?_
        rintro _ _ ⟨rfl, u6, hu6, rfl⟩
        refine ezw_call0_1 rfl (by omega) (ezu_at rfl) rfl rfl rfl rfl (ezt_m89_5 hS (by omega) hu6) ?_
        rintro _ _ ⟨F7, A7, rfl, hS, nF7, nA7, rfl⟩
        exact ezw_return rfl rfl ⟨F7, A7, rfl, hS, (fun p j h => by rw [nF7 p j (fun z => h (⟨z.1, z.2⟩)), nF3 p j (fun z => h (⟨z.1, z.2⟩)), nF1 p j (fun z => h (⟨z.1, z.2⟩))]), (fun p h => by
              funext j
              rw [nA7 p (fun z => h (z))]), rfl⟩
      · refine ezw_aload_n rfl rfl ?_
        refine ezw_aload_n rfl rfl ?_
        refine ezw_call0_0 rfl (by omega) (ezu_at rfl) rfl rfl rfl rfl (ezt_m90_5 hS (by omega)) ?_
        rintro _ _ ⟨F8, rfl, hS, nF8, u9, hu9, rfl⟩
        refine ezw_if_ne rfl rfl hu9 (fun h46_9 => ?_) (fun h46_9 => ?_)
        · refine ezw_iconst (0) rfl rfl ?_
          refine ezw_call0_1 rfl (by omega) (ezu_at rfl) rfl rfl rfl rfl (ezt_m89_5 hS (by omega) ⟨by decide, by decide⟩) ?_
          rintro _ _ ⟨F10, A10, rfl, hS, nF10, nA10, rfl⟩
          refine ezw_goto rfl rfl ?_
          exact ezw_return rfl rfl ⟨F10, A10, rfl, hS, (fun p j h => by rw [nF10 p j (fun z => h (⟨z.1, z.2⟩)), nF8 p j (fun z => h (⟨z.1, z.2⟩))]), (fun p h => by
                funext j
                rw [nA10 p (fun z => h (z))]), rfl⟩
        · refine ezw_iconst (1) rfl rfl ?_
          refine ezw_goto rfl rfl ?_
          refine ezw_call0_1 rfl (by omega) (ezu_at rfl) rfl rfl rfl rfl (ezt_m89_5 hS (by omega) ⟨by decide, by decide⟩) ?_
          rintro _ _ ⟨F11, A11, rfl, hS, nF11, nA11, rfl⟩
          refine ezw_goto rfl rfl ?_
          exact ezw_return rfl rfl ⟨F11, A11, rfl, hS, (fun p j h => by rw [nF11 p j (fun z => h (⟨z.1, z.2⟩)), nF8 p j (fun z => h (⟨z.1, z.2⟩))]), (fun p h => by
                funext j
                rw [nA11 p (fun z => h (z))]), rfl⟩
    · refine ezw_aload_n rfl rfl ?_
      refine ezw_aload_n rfl rfl ?_
      refine ezs_getp (p := 8) rfl rfl rfl rfl rfl ?_
      refine ezw_iconst (-1) rfl rfl ?_
      refine ezw_iload_n rfl rfl ?_
      refine ezw_isub (k := -a1 - 1) rfl (by omega) ?_
      refine ezw_call3_2 rfl (by omega) rfl rfl (ezt_m27_8 hS (by omega) ⟨by omega, by omega⟩) ?_
      rintro _ _ ⟨rfl, u13, hu13, v_12, rfl⟩
      refine ezw_call0_1 rfl (by omega) (ezu_at rfl) rfl rfl rfl rfl (ezt_m89_5 hS (by omega) hu13) ?_
      rintro _ _ ⟨F14, A14, rfl, hS, nF14, nA14, rfl⟩
      refine ezw_goto rfl rfl ?_
      exact ezw_return rfl rfl ⟨F14, A14, rfl, hS, (fun p j h => by rw [nF14 p j (fun z => h (⟨z.1, z.2⟩))]), (fun p h => by
            funext j
            rw [nA14 p (fun z => h (z))]), rfl⟩
  · refine ezw_aload_n rfl rfl ?_
    refine ezw_iload_n rfl rfl ?_
    refine ezw_call0_1 rfl (by omega) (ezu_at rfl) rfl rfl rfl rfl (ezt_m89_5 hS (by omega) ha1) ?_
    rintro _ _ ⟨F15, A15, rfl, hS, nF15, nA15, rfl⟩
    refine ezw_goto rfl rfl ?_
    exact ezw_return rfl rfl ⟨F15, A15, rfl, hS, (fun p j h => by rw [nF15 p j (fun z => h (⟨z.1, z.2⟩))]), (fun p h => by
          funext j
          rw [nA15 p (fun z => h (z))]), rfl⟩
def ezt_m87_5Q (e : Bool × Bool) (F : Nat → Nat → Int) (A : Nat → Int → Int) (a1 : Int) (a2 : Int) (a3 : Int) (a4 : Int) : Option ezq_V → (Nat → ezq_C) → Prop := fun v g' => ∃ (F' : Nat → Nat → Int) (A' : Nat → Int → Int), ezu_g e F' A' = g' ∧ ezs_T F' A' ∧ (∀ p j, ¬ (p = 5 ∧ (j = 5)) → F' p j = F p j) ∧ (∀ p, ¬ (p = 7 ∨ p = 8) → A' p = A p) ∧ ∃ u : Int, (ezw_in u) ∧ some (ezw_i u) = v
theorem ezt_m87_5 {a1 a2 a3 a4 : Int} {F : Nat → Nat → Int} {A : Nat → Int → Int} (hS : ezs_T F A) (hd : 3 ≤ d) (ha1 : ezw_in a1) (ha2 : ezw_in a2) (ha3 : ezw_in a3) (ha4 : ezw_in a4) : ezw_C l ρ B xa Hb D cA 87 d [ezw_p 5, ezw_i a1, ezw_i a2, ezw_i a3, ezw_i a4] (ezu_g e F A) (ezt_m87_5Q e F A a1 a2 a3 a4) := by
  refine ezw_met (k := 1) rfl rfl ?_
  refine ezw_aload_n rfl rfl ?_
  refine ezs_getp (p := 8) rfl rfl rfl rfl rfl ?_
  refine ezw_iconst (0) rfl rfl ?_
  refine ezw_iload_n rfl rfl ?_
  refine ezw_call3_3 rfl (by omega) rfl rfl (ezt_m21_8 hS (by omega) ⟨by decide, by decide⟩ ha1) ?_
  rintro _ _ ⟨A1, rfl, hS, nA1, m_1, n_1, rfl⟩
  refine ezw_aload_n rfl rfl ?_
  refine ezs_getp (p := 8) rfl rfl rfl rfl rfl ?_
  refine ezw_iconst (1) rfl rfl ?_
  refine ezw_iload_n rfl rfl ?_
  refine ezw_call3_3 rfl (by omega) rfl rfl (ezt_m21_8 hS (by omega) ⟨by decide, by decide⟩ ha2) ?_
  rintro _ _ ⟨A2, rfl, hS, nA2, m_2, n_2, rfl⟩
  refine ezw_aload_n rfl rfl ?_
  refine ezs_getp (p := 8) rfl rfl rfl rfl rfl ?_
  refine ezw_iconst (2) rfl rfl ?_
  refine ezw_iload_n rfl rfl ?_
  refine ezw_call3_3 rfl (by omega) rfl rfl (ezt_m21_8 hS (by omega) ⟨by decide, by decide⟩ ha3) ?_
  rintro _ _ ⟨A3, rfl, hS, nA3, m_3, n_3, rfl⟩
  refine ezw_aload_n rfl rfl ?_
  refine ezs_getp (p := 8) rfl rfl rfl rfl rfl ?_
  refine ezw_iconst (3) rfl rfl ?_
  refine ezw_iload rfl rfl ?_
  refine ezw_call3_3 rfl (by omega) rfl rfl (ezt_m21_8 hS (by omega) ⟨by decide, by decide⟩ ha4) ?_
  rintro _ _ ⟨A4, rfl, hS, nA4, m_4, n_4, rfl⟩
  refine ezw_aload_n rfl rfl ?_
  refine ezw_iconst (0) rfl rfl ?_
  refine ezy_put_i hS rfl rfl rfl rfl rfl ⟨by decide, by decide⟩ (fun F5 hS mF5 nF5 => ?_)
  refine ezw_iconst (0) rfl rfl ?_
  refine ezw_istore rfl rfl ?_
  have L45_7 : ∀ c6 : Int, ezw_in c6 → ∀ F_7 : Nat → Nat → Int, ∀ A_7 : Nat → Int → Int, ezs_T F_7 A_7 → (∀ p j, ¬ (p = 5 ∧ (j = 5)) → F_7 p j = F5 p j) → (∀ p, ¬ (p = 7) → A_7 p = A4 p) → ((0) ≤ c6) → ezw_E l ρ B xa Hb D cA d ezq_re87 (ezt_m87_5Q e F A a1 a2 a3 a4) 45 [some (ezw_p 5), some (ezw_i a1), some (ezw_i a2), some (ezw_i a3), some (ezw_i a4), some (ezw_i c6)] [] (ezu_g e F_7 A_7) := by
    refine ezs_up ?_
    intro c6 hc6 ihc6 F_7 A_7 hS nF_7 nA_7 g_7
    refine ezw_iload rfl rfl ?_
    refine ezw_aload_n rfl rfl ?_
    refine ezy_get_i hS rfl rfl rfl rfl rfl rfl (fun u8 hu8 ku8 eu8 => ?_)
    rw [nF_7 5 4 (by decide), nF5 5 4 (by decide)] at eu8
    replace eu8 := eu8.symm
    subst eu8
    refine ezw_icmp_ge rfl rfl hc6 hu8 (fun h51_8 => ?_) (fun h51_8 => ?_)
    · refine ezw_aload_n rfl rfl ?_
      refine ezw_call0_0 rfl (by omega) (ezu_at rfl) rfl rfl rfl rfl (ezt_m90_5 hS (by omega)) ?_
      rintro _ _ ⟨F9, rfl, hS, nF9, u10, hu10, rfl⟩
      exact ezw_ireturn rfl rfl ⟨F9, A_7, rfl, hS, (fun p j h => by rw [nF9 p j (fun z => h (⟨z.1, z.2⟩)), nF_7 p j (fun z => h (⟨z.1, z.2⟩)), nF5 p j (fun z => h (⟨z.1, z.2⟩))]), (fun p h => by
            funext j
            rw [nA_7 p (fun z => h (Or.inl z)), nA4 p (fun z => h (Or.inr z)), nA3 p (fun z => h (Or.inr z)), nA2 p (fun z => h (Or.inr z)), nA1 p (fun z => h (Or.inr z))]), u10, hu10, rfl⟩
    · refine ezw_iload rfl rfl ?_
      refine ezw_aload_n rfl rfl ?_
      refine ezs_getp (p := 6) rfl rfl rfl rfl rfl ?_
      refine ezs_alen (k := 1000) rfl rfl rfl rfl (by decide) (by decide) ?_
      refine ezw_icmp_ge rfl rfl hc6 ⟨by decide, by decide⟩ (fun h61_10 => ?_) (fun h61_10 => ?_)
      · refine ezw_aload_n rfl rfl ?_
        refine ezw_call0_0 rfl (by omega) (ezu_at rfl) rfl rfl rfl rfl (ezt_m90_5 hS (by omega)) ?_
        rintro _ _ ⟨F11, rfl, hS, nF11, u12, hu12, rfl⟩
        exact ezw_ireturn rfl rfl ⟨F11, A_7, rfl, hS, (fun p j h => by rw [nF11 p j (fun z => h (⟨z.1, z.2⟩)), nF_7 p j (fun z => h (⟨z.1, z.2⟩)), nF5 p j (fun z => h (⟨z.1, z.2⟩))]), (fun p h => by
              funext j
              rw [nA_7 p (fun z => h (Or.inl z)), nA4 p (fun z => h (Or.inr z)), nA3 p (fun z => h (Or.inr z)), nA2 p (fun z => h (Or.inr z)), nA1 p (fun z => h (Or.inr z))]), u12, hu12, rfl⟩
      · refine ezw_aload_n rfl rfl ?_
        refine ezw_aload_n rfl rfl ?_
        refine ezs_getp (p := 6) rfl rfl rfl rfl rfl ?_
        refine ezw_iload rfl rfl ?_
        refine ezy_iaload hS rfl rfl rfl (by omega) (by omega) (by decide) (fun u13 hu13 ku13 eu13 => ?_)
        rw [nA_7 6 (by decide), nA4 6 (by decide), nA3 6 (by decide), nA2 6 (by decide), nA1 6 (by decide)] at eu13
        refine ezw_call0_1 rfl (by omega) (ezu_at rfl) rfl rfl rfl rfl (ezt_m88_5 hS (by omega) hu13) ?_
        rintro _ _ ⟨F14, A14, rfl, hS, nF14, nA14, rfl⟩
        refine ezw_iinc (k := c6 + 1) (1) rfl rfl rfl (by omega) rfl ?_
        refine ezw_goto rfl rfl ?_
        exact ezw_keepE [true, true, true, true, true, true] (ihc6 (c6 + 1) (by omega) ⟨by omega, by omega⟩ F14 A14 hS (fun p j h => by rw [nF14 p j (fun z => h (⟨z.1, z.2⟩)), nF_7 p j (fun z => h (⟨z.1, z.2⟩))]) (fun p h => by
              funext j
              rw [nA14 p (fun z => h (z)), nA_7 p (fun z => h (z))]) (by omega))
  exact ezw_keepE [true, true, true, true, true, true] (L45_7 (0) ⟨by decide, by decide⟩ F5 A4 hS (fun _ _ _ => rfl) (fun _ _ => rfl) (by omega))
def ezt_m86_30_5_9Q (e : Bool × Bool) (F : Nat → Nat → Int) (A : Nat → Int → Int) (a3 : Int) (a4 : Int) (a5 : Int) (a6 : Int) : Option ezq_V → (Nat → ezq_C) → Prop := fun v g' => ∃ (F' : Nat → Nat → Int) (A' : Nat → Int → Int), ezu_g e F' A' = g' ∧ ezs_T F' A' ∧ (∀ p j, ¬ (p = 5 ∧ (j = 5) ∨ p = 9 ∧ (j = 5)) → F' p j = F p j) ∧ (∀ p, ¬ (p = 7 ∨ p = 8 ∨ p = 11 ∨ p = 12 ∨ p = 45 ∨ p = 46) → A' p = A p) ∧ none = v
theorem ezt_m86_30_5_9 {a3 a4 a5 a6 : Int} {F : Nat → Nat → Int} {A : Nat → Int → Int} (hS : ezs_T F A) (hd : 4 ≤ d) (ha3 : ezw_in a3) (ha4 : ezw_in a4) (ha5 : ezw_in a5) (ha6 : ezw_in a6) (ga : 0 ≤ a3 ∧ a3 ≤ 8 ∧ 0 ≤ a4 ∧ a4 ≤ 9 ∧ 0 ≤ a5 ∧ a5 ≤ 2 ∧ 0 ≤ a6 ∧ a6 ≤ 1) : ezw_C l ρ B xa Hb D cA 86 d [ezw_p 30, ezw_p 5, ezw_p 9, ezw_i a3, ezw_i a4, ezw_i a5, ezw_i a6] (ezu_g e F A) (ezt_m86_30_5_9Q e F A a3 a4 a5 a6) := by
  refine ezw_met (k := 4) rfl rfl ?_
  refine ezw_aload_n rfl rfl ?_
  refine ezs_getp (p := 32) rfl rfl rfl rfl rfl ?_
  refine ezw_iload_n rfl rfl ?_
  refine ezw_call3_2 rfl (by omega) rfl rfl (ezt_m27_32 hS (by omega) ha3) ?_
  rintro _ _ ⟨rfl, u2, hu2, v_1, rfl⟩
  refine ezw_istore rfl rfl ?_
  refine ezw_iload rfl rfl ?_
  have J37_4 : ∀ y3 : Int, ezw_in y3 → ezw_E l ρ B xa Hb D cA d ezq_re86 (ezt_m86_30_5_9Q e F A a3 a4 a5 a6) 37 [some (ezw_p 30), some (ezw_p 5), some (ezw_p 9), some (ezw_i a3), some (ezw_i a4), some (ezw_i a5), some (ezw_i a6), some (ezw_i u2), none, none, none] [ezw_i y3] (ezu_g e F A) := by
    intro y3 hy3
    refine ezw_istore rfl rfl ?_
    refine ezw_iload rfl rfl ?_
    refine ezw_iconst (2) rfl rfl ?_
    refine ezw_iload rfl rfl ?_
    refine ezw_imul (k := 2 * a6) rfl (by omega) ?_
    refine ezw_iadd (k := a4 + 2 * a6) rfl (by omega) ?_
    refine ezw_istore rfl rfl ?_
    refine ezw_aload_n rfl rfl ?_
    refine ezy_get_i hS rfl rfl rfl rfl rfl rfl (fun u5 hu5 ku5 eu5 => ?_)
    replace eu5 := eu5.symm
    subst eu5
    have ru5 : 0 ≤ (F 5 3) ∧ (F 5 3) ≤ 1 := ku5
    have J69_7 : ∀ y6 : Int, ezw_in y6 → ∀ F_7 : Nat → Nat → Int, ∀ A_7 : Nat → Int → Int, ezs_T F_7 A_7 → (∀ p j, ¬ (p = 5 ∧ (j = 5)) → F_7 p j = F p j) → (∀ p, ¬ (p = 7 ∨ p = 8) → A_7 p = A p) → ezw_E l ρ B xa Hb D cA d ezq_re86 (ezt_m86_30_5_9Q e F A a3 a4 a5 a6) 69 [some (ezw_p 30), some (ezw_p 5), some (ezw_p 9), some (ezw_i a3), some (ezw_i a4), some (ezw_i a5), some (ezw_i a6), some (ezw_i u2), some (ezw_i y6), some (ezw_i (a4 + 2 * a6)), none] [] (ezu_g e F_7 A_7) := by
      intro y6 hy6 F_7 A_7 hS nF_7 nA_7
      refine ezw_aload_n rfl rfl ?_
      refine ezy_get_i hS rfl rfl rfl rfl rfl rfl (fun u8 hu8 ku8 eu8 => ?_)
      rw [nF_7 9 3 (by decide)] at eu8
      replace eu8 := eu8.symm
      subst eu8
      have ru8 : 0 ≤ (F 9 3) ∧ (F 9 3) ≤ 1 := ku8
      have J90_10 : ∀ y9 : Int, ezw_in y9 → ∀ F_10 : Nat → Nat → Int, ∀ A_10 : Nat → Int → Int, ezs_T F_10 A_10 → (∀ p j, ¬ (p = 9 ∧ (j = 5)) → F_10 p j = F_7 p j) → (∀ p, ¬ (p = 11 ∨ p = 12) → A_10 p = A_7 p) → ezw_E l ρ B xa Hb D cA d ezq_re86 (ezt_m86_30_5_9Q e F A a3 a4 a5 a6) 90 [some (ezw_p 30), some (ezw_p 5), some (ezw_p 9), some (ezw_i a3), some (ezw_i a4), some (ezw_i a5), some (ezw_i a6), some (ezw_i u2), some (ezw_i y6), some (ezw_i y9), none] [] (ezu_g e F_10 A_10) := by
        intro y9 hy9 F_10 A_10 hS nF_10 nA_10
        refine ezw_iload_n rfl rfl ?_
        refine ezw_iload rfl rfl ?_
        refine ezw_iload rfl rfl ?_
        refine ezw_iload rfl rfl ?_
        refine ezw_call2_4 rfl (by omega) rfl rfl (ezt_m92 hS (by omega) ha3 ha4 ha5 ha6 (by omega)) ?_
        rintro _ _ ⟨rfl, u12, hu12, rfl⟩
        refine ezw_istore rfl rfl ?_
        refine ezw_aload_n rfl rfl ?_
        refine ezs_getp (p := 45) rfl rfl rfl rfl rfl ?_
        refine ezw_iload rfl rfl ?_
        refine ezw_iconst (0) rfl rfl ?_
        refine ezw_bipush (10) rfl rfl ?_
        refine ezw_iload rfl rfl ?_
        refine ezw_mminE rfl ⟨by decide, by decide⟩ hy6 rfl (fun u13 hu13 => ?_)
        refine ezw_mmaxE rfl ⟨by decide, by decide⟩ ⟨by omega, by omega⟩ rfl (fun u14 hu14 => ?_)
        refine ezw_call3_3 rfl (by omega) rfl rfl (ezt_m21_45 hS (by omega) hu12 ⟨by omega, by omega⟩) ?_
        rintro _ _ ⟨A15, rfl, hS, nA15, m_15, n_15, rfl⟩
        refine ezw_aload_n rfl rfl ?_
        refine ezs_getp (p := 46) rfl rfl rfl rfl rfl ?_
        refine ezw_iload rfl rfl ?_
        refine ezw_iconst (0) rfl rfl ?_
        refine ezw_bipush (10) rfl rfl ?_
        refine ezw_iload rfl rfl ?_
        refine ezw_mminE rfl ⟨by decide, by decide⟩ hy9 rfl (fun u16 hu16 => ?_)
        refine ezw_mmaxE rfl ⟨by decide, by decide⟩ ⟨by omega, by omega⟩ rfl (fun u17 hu17 => ?_)
        refine ezw_call3_3 rfl (by omega) rfl rfl (ezt_m21_46 hS (by omega) hu12 ⟨by omega, by omega⟩) ?_
        rintro _ _ ⟨A18, rfl, hS, nA18, m_18, n_18, rfl⟩
        exact ezw_return rfl rfl ⟨F_10, A18, rfl, hS, (fun p j h => by rw [nF_10 p j (fun z => h (Or.inr ⟨z.1, z.2⟩)), nF_7 p j (fun z => h (Or.inl ⟨z.1, z.2⟩))]), (fun p h => by
              funext j
              rw [nA18 p (fun z => h (Or.inr (Or.inr (Or.inr (Or.inr (Or.inr z)))))), nA15 p (fun z => h (Or.inr (Or.inr (Or.inr (Or.inr (Or.inl z)))))), nA_10 p (fun z => h (z.elim (fun y => (Or.inr (Or.inr (Or.inl y)))) (fun y => (Or.inr (Or.inr (Or.inr (Or.inl y))))))), nA_7 p (fun z => h (z.elim (fun y => (Or.inl y)) (fun y => (Or.inr (Or.inl y)))))]), rfl⟩
      refine ezw_if_eq rfl rfl hu8 (fun h73_8 => ?_) (fun h73_8 => ?_)
      · exact ezw_keepE [true, true, true, true, true, true, true, true, true, true, false] (J90_10 (a4 + 2 * a6) ⟨by omega, by omega⟩ F_7 A_7 hS (fun _ _ _ => rfl) (fun _ _ => rfl))
      · refine ezw_aload_n rfl rfl ?_
        refine ezw_iload rfl rfl ?_
        refine ezw_iload rfl rfl ?_
        refine ezw_iload rfl rfl ?_
        refine ezw_iload rfl rfl ?_
        refine ezw_call0_4 rfl (by omega) (ezu_at rfl) rfl rfl rfl rfl (ezt_m87_9 hS (by omega) ha4 hu2 ha5 ha6) ?_
        rintro _ _ ⟨F19, A19, rfl, hS, nF19, nA19, u20, hu20, rfl⟩
        refine ezw_istore rfl rfl ?_
        exact ezw_keepE [true, true, true, true, true, true, true, true, true, true, false] (J90_10 u20 hu20 F19 A19 hS (fun p j h => by rw [nF19 p j (fun z => h (⟨z.1, z.2⟩))]) (fun p h => by
              funext j
              rw [nA19 p (fun z => h (z.elim (fun y => (Or.inl y)) (fun y => (Or.inr y))))]))
    refine ezw_if_eq rfl rfl hu5 (fun h52_5 => ?_) (fun h52_5 => ?_)
    · exact ezw_keepE [true, true, true, true, true, true, true, true, true, true, false] (J69_7 y3 hy3 F A hS (fun _ _ _ => rfl) (fun _ _ => rfl))
    · refine ezw_aload_n rfl rfl ?_
      refine ezw_iload rfl rfl ?_
      refine ezw_iload rfl rfl ?_
      refine ezw_iload rfl rfl ?_
      refine ezw_iload rfl rfl ?_
      refine ezw_call0_4 rfl (by omega) (ezu_at rfl) rfl rfl rfl rfl (ezt_m87_5 hS (by omega) ha4 hu2 ha5 ha6) ?_
      rintro _ _ ⟨F21, A21, rfl, hS, nF21, nA21, u22, hu22, rfl⟩
      refine ezw_istore rfl rfl ?_
      exact ezw_keepE [true, true, true, true, true, true, true, true, true, true, false] (J69_7 u22 hu22 F21 A21 hS (fun p j h => by rw [nF21 p j (fun z => h (⟨z.1, z.2⟩))]) (fun p h => by
            funext j
            rw [nA21 p (fun z => h (z.elim (fun y => (Or.inl y)) (fun y => (Or.inr y))))]))
  refine ezw_if_ne rfl rfl ha5 (fun h12_2 => ?_) (fun h12_2 => ?_)
  · refine ezw_iload rfl rfl ?_
    refine ezw_iconst (1) rfl rfl ?_
    refine ezw_icmp_ne rfl rfl ha5 ⟨by decide, by decide⟩ (fun h26_22 => ?_) (fun h26_22 => ?_)
    · refine ezw_iconst (0) rfl rfl ?_
      exact ezw_keepE [true, true, true, true, true, true, true, true, false, false, false] (J37_4 (0) ⟨by decide, by decide⟩)
    · refine ezw_iconst (3) rfl rfl ?_
      refine ezw_iload rfl rfl ?_
      refine ezw_isub (k := -a4 + 3) rfl (by omega) ?_
      refine ezw_goto rfl rfl ?_
      exact ezw_keepE [true, true, true, true, true, true, true, true, false, false, false] (J37_4 (-a4 + 3) ⟨by omega, by omega⟩)
  · refine ezw_bipush (10) rfl rfl ?_
    refine ezw_iload rfl rfl ?_
    refine ezw_isub (k := -a4 + 10) rfl (by omega) ?_
    refine ezw_goto rfl rfl ?_
    exact ezw_keepE [true, true, true, true, true, true, true, true, false, false, false] (J37_4 (-a4 + 10) ⟨by omega, by omega⟩)
def ezt_m85_30_5_9Q (e : Bool × Bool) (F : Nat → Nat → Int) (A : Nat → Int → Int) : Option ezq_V → (Nat → ezq_C) → Prop := fun v g' => ∃ (F' : Nat → Nat → Int) (A' : Nat → Int → Int), ezu_g e F' A' = g' ∧ ezs_T F' A' ∧ (∀ p j, ¬ (p = 5 ∧ (j = 5) ∨ p = 9 ∧ (j = 5)) → F' p j = F p j) ∧ (∀ p, ¬ (p = 7 ∨ p = 8 ∨ p = 11 ∨ p = 12 ∨ p = 45 ∨ p = 46) → A' p = A p) ∧ none = v
theorem ezt_m85_30_5_9 {F : Nat → Nat → Int} {A : Nat → Int → Int} (hS : ezs_T F A) (hd : 5 ≤ d) (tw : F 30 15 ≤ 8) : ezw_C l ρ B xa Hb D cA 85 d [ezw_p 30, ezw_p 5, ezw_p 9] (ezu_g e F A) (ezt_m85_30_5_9Q e F A) := by
  refine ezw_met (k := 3) rfl rfl ?_
  refine ezw_iconst (0) rfl rfl ?_
  refine ezw_istore_n rfl rfl ?_
  have L2_2 : ∀ c1 : Int, ezw_in c1 → ∀ F_2 : Nat → Nat → Int, ∀ A_2 : Nat → Int → Int, ezs_T F_2 A_2 → (∀ p j, ¬ (p = 5 ∧ (j = 5) ∨ p = 9 ∧ (j = 5)) → F_2 p j = F p j) → (∀ p, ¬ (p = 7 ∨ p = 8 ∨ p = 11 ∨ p = 12 ∨ p = 45 ∨ p = 46) → A_2 p = A p) → ((0) ≤ c1) → ezw_E l ρ B xa Hb D cA d ezq_re85 (ezt_m85_30_5_9Q e F A) 2 [some (ezw_p 30), some (ezw_p 5), some (ezw_p 9), some (ezw_i c1), none, none] [] (ezu_g e F_2 A_2) := by
    refine ezs_up ?_
    intro c1 hc1 ihc1 F_2 A_2 hS nF_2 nA_2 g_2
    refine ezw_iload_n rfl rfl ?_
    refine ezw_aload_n rfl rfl ?_
    refine ezy_get_i hS rfl rfl rfl rfl rfl rfl (fun u3 hu3 ku3 eu3 => ?_)
    rw [nF_2 30 15 (by decide)] at eu3
    replace eu3 := eu3.symm
    subst eu3
    refine ezw_icmp_ge rfl rfl hc1 hu3 (fun h7_3 => ?_) (fun h7_3 => ?_)
    · exact ezw_return rfl rfl ⟨F_2, A_2, rfl, hS, (fun p j h => by rw [nF_2 p j (fun z => h (z.elim (fun y => (Or.inl ⟨y.1, y.2⟩)) (fun y => (Or.inr ⟨y.1, y.2⟩))))]), (fun p h => by
            funext j
            rw [nA_2 p (fun z => h (z.elim (fun y => (Or.inl y)) (fun y => (y.elim (fun y => (Or.inr (Or.inl y))) (fun y => (y.elim (fun y => (Or.inr (Or.inr (Or.inl y)))) (fun y => (y.elim (fun y => (Or.inr (Or.inr (Or.inr (Or.inl y))))) (fun y => (y.elim (fun y => (Or.inr (Or.inr (Or.inr (Or.inr (Or.inl y)))))) (fun y => (Or.inr (Or.inr (Or.inr (Or.inr (Or.inr y))))))))))))))))]), rfl⟩
    · refine ezw_iconst (0) rfl rfl ?_
      refine ezw_istore rfl rfl ?_
      have L13_5 : ∀ c4 : Int, ezw_in c4 → ∀ F_5 : Nat → Nat → Int, ∀ A_5 : Nat → Int → Int, ezs_T F_5 A_5 → (∀ p j, ¬ (p = 5 ∧ (j = 5) ∨ p = 9 ∧ (j = 5)) → F_5 p j = F_2 p j) → (∀ p, ¬ (p = 7 ∨ p = 8 ∨ p = 11 ∨ p = 12 ∨ p = 45 ∨ p = 46) → A_5 p = A_2 p) → ((0) ≤ c4) → ezw_E l ρ B xa Hb D cA d ezq_re85 (ezt_m85_30_5_9Q e F A) 13 [some (ezw_p 30), some (ezw_p 5), some (ezw_p 9), some (ezw_i c1), some (ezw_i c4), none] [] (ezu_g e F_5 A_5) := by
        refine ezs_up ?_
        intro c4 hc4 ihc4 F_5 A_5 hS nF_5 nA_5 g_5
        refine ezw_iload rfl rfl ?_
        refine ezw_bipush (9) rfl rfl ?_
        refine ezw_icmp_gt rfl rfl hc4 ⟨by decide, by decide⟩ (fun h17_5 => ?_) (fun h17_5 => ?_)
        · refine ezw_iinc (k := c1 + 1) (1) rfl rfl rfl (by omega) rfl ?_
          refine ezw_goto rfl rfl ?_
          exact ezw_keepE [true, true, true, true, false, false] (ihc1 (c1 + 1) (by omega) ⟨by omega, by omega⟩ F_5 A_5 hS (fun p j h => by rw [nF_5 p j (fun z => h (z.elim (fun y => (Or.inl ⟨y.1, y.2⟩)) (fun y => (Or.inr ⟨y.1, y.2⟩)))), nF_2 p j (fun z => h (z.elim (fun y => (Or.inl ⟨y.1, y.2⟩)) (fun y => (Or.inr ⟨y.1, y.2⟩))))]) (fun p h => by
                funext j
                rw [nA_5 p (fun z => h (z.elim (fun y => (Or.inl y)) (fun y => (y.elim (fun y => (Or.inr (Or.inl y))) (fun y => (y.elim (fun y => (Or.inr (Or.inr (Or.inl y)))) (fun y => (y.elim (fun y => (Or.inr (Or.inr (Or.inr (Or.inl y))))) (fun y => (y.elim (fun y => (Or.inr (Or.inr (Or.inr (Or.inr (Or.inl y)))))) (fun y => (Or.inr (Or.inr (Or.inr (Or.inr (Or.inr y)))))))))))))))), nA_2 p (fun z => h (z.elim (fun y => (Or.inl y)) (fun y => (y.elim (fun y => (Or.inr (Or.inl y))) (fun y => (y.elim (fun y => (Or.inr (Or.inr (Or.inl y)))) (fun y => (y.elim (fun y => (Or.inr (Or.inr (Or.inr (Or.inl y))))) (fun y => (y.elim (fun y => (Or.inr (Or.inr (Or.inr (Or.inr (Or.inl y)))))) (fun y => (Or.inr (Or.inr (Or.inr (Or.inr (Or.inr y))))))))))))))))]) (by omega))
        · refine ezw_iconst (0) rfl rfl ?_
          refine ezw_istore rfl rfl ?_
          have L23_7 : ∀ c6 : Int, ezw_in c6 → ∀ F_7 : Nat → Nat → Int, ∀ A_7 : Nat → Int → Int, ezs_T F_7 A_7 → (∀ p j, ¬ (p = 5 ∧ (j = 5) ∨ p = 9 ∧ (j = 5)) → F_7 p j = F_5 p j) → (∀ p, ¬ (p = 7 ∨ p = 8 ∨ p = 11 ∨ p = 12 ∨ p = 45 ∨ p = 46) → A_7 p = A_5 p) → ((0) ≤ c6) → ezw_E l ρ B xa Hb D cA d ezq_re85 (ezt_m85_30_5_9Q e F A) 23 [some (ezw_p 30), some (ezw_p 5), some (ezw_p 9), some (ezw_i c1), some (ezw_i c4), some (ezw_i c6)] [] (ezu_g e F_7 A_7) := by
            refine ezs_up ?_
            intro c6 hc6 ihc6 F_7 A_7 hS nF_7 nA_7 g_7
            refine ezw_iload rfl rfl ?_
            refine ezw_iconst (3) rfl rfl ?_
            refine ezw_icmp_ge rfl rfl hc6 ⟨by decide, by decide⟩ (fun h26_7 => ?_) (fun h26_7 => ?_)
            · refine ezw_iinc (k := c4 + 1) (1) rfl rfl rfl (by omega) rfl ?_
              refine ezw_goto rfl rfl ?_
              exact ezw_keepE [true, true, true, true, true, false] (ihc4 (c4 + 1) (by omega) ⟨by omega, by omega⟩ F_7 A_7 hS (fun p j h => by rw [nF_7 p j (fun z => h (z.elim (fun y => (Or.inl ⟨y.1, y.2⟩)) (fun y => (Or.inr ⟨y.1, y.2⟩)))), nF_5 p j (fun z => h (z.elim (fun y => (Or.inl ⟨y.1, y.2⟩)) (fun y => (Or.inr ⟨y.1, y.2⟩))))]) (fun p h => by
                    funext j
                    rw [nA_7 p (fun z => h (z.elim (fun y => (Or.inl y)) (fun y => (y.elim (fun y => (Or.inr (Or.inl y))) (fun y => (y.elim (fun y => (Or.inr (Or.inr (Or.inl y)))) (fun y => (y.elim (fun y => (Or.inr (Or.inr (Or.inr (Or.inl y))))) (fun y => (y.elim (fun y => (Or.inr (Or.inr (Or.inr (Or.inr (Or.inl y)))))) (fun y => (Or.inr (Or.inr (Or.inr (Or.inr (Or.inr y)))))))))))))))), nA_5 p (fun z => h (z.elim (fun y => (Or.inl y)) (fun y => (y.elim (fun y => (Or.inr (Or.inl y))) (fun y => (y.elim (fun y => (Or.inr (Or.inr (Or.inl y)))) (fun y => (y.elim (fun y => (Or.inr (Or.inr (Or.inr (Or.inl y))))) (fun y => (y.elim (fun y => (Or.inr (Or.inr (Or.inr (Or.inr (Or.inl y)))))) (fun y => (Or.inr (Or.inr (Or.inr (Or.inr (Or.inr y))))))))))))))))]) (by omega))
            · refine ezw_aload_n rfl rfl ?_
              refine ezw_aload_n rfl rfl ?_
              refine ezw_aload_n rfl rfl ?_
              refine ezw_iload_n rfl rfl ?_
              refine ezw_iload rfl rfl ?_
              refine ezw_iload rfl rfl ?_
              refine ezw_iconst (0) rfl rfl ?_
              refine ezw_call0_6 rfl (by omega) (ezu_at rfl) rfl rfl rfl rfl (ezt_m86_30_5_9 hS (by omega) hc1 hc4 hc6 ⟨by decide, by decide⟩ (by omega)) ?_
              rintro _ _ ⟨F8, A8, rfl, hS, nF8, nA8, rfl⟩
              refine ezw_aload_n rfl rfl ?_
              refine ezw_aload_n rfl rfl ?_
              refine ezw_aload_n rfl rfl ?_
              refine ezw_iload_n rfl rfl ?_
              refine ezw_iload rfl rfl ?_
              refine ezw_iload rfl rfl ?_
              refine ezw_iconst (1) rfl rfl ?_
              refine ezw_call0_6 rfl (by omega) (ezu_at rfl) rfl rfl rfl rfl (ezt_m86_30_5_9 hS (by omega) hc1 hc4 hc6 ⟨by decide, by decide⟩ (by omega)) ?_
              rintro _ _ ⟨F9, A9, rfl, hS, nF9, nA9, rfl⟩
              refine ezw_iinc (k := c6 + 1) (1) rfl rfl rfl (by omega) rfl ?_
              refine ezw_goto rfl rfl ?_
              exact ezw_keepE [true, true, true, true, true, true] (ihc6 (c6 + 1) (by omega) ⟨by omega, by omega⟩ F9 A9 hS (fun p j h => by rw [nF9 p j (fun z => h (z.elim (fun y => (Or.inl ⟨y.1, y.2⟩)) (fun y => (Or.inr ⟨y.1, y.2⟩)))), nF8 p j (fun z => h (z.elim (fun y => (Or.inl ⟨y.1, y.2⟩)) (fun y => (Or.inr ⟨y.1, y.2⟩)))), nF_7 p j (fun z => h (z.elim (fun y => (Or.inl ⟨y.1, y.2⟩)) (fun y => (Or.inr ⟨y.1, y.2⟩))))]) (fun p h => by
                    funext j
                    rw [nA9 p (fun z => h (z.elim (fun y => (Or.inl y)) (fun y => (y.elim (fun y => (Or.inr (Or.inl y))) (fun y => (y.elim (fun y => (Or.inr (Or.inr (Or.inl y)))) (fun y => (y.elim (fun y => (Or.inr (Or.inr (Or.inr (Or.inl y))))) (fun y => (y.elim (fun y => (Or.inr (Or.inr (Or.inr (Or.inr (Or.inl y)))))) (fun y => (Or.inr (Or.inr (Or.inr (Or.inr (Or.inr y)))))))))))))))), nA8 p (fun z => h (z.elim (fun y => (Or.inl y)) (fun y => (y.elim (fun y => (Or.inr (Or.inl y))) (fun y => (y.elim (fun y => (Or.inr (Or.inr (Or.inl y)))) (fun y => (y.elim (fun y => (Or.inr (Or.inr (Or.inr (Or.inl y))))) (fun y => (y.elim (fun y => (Or.inr (Or.inr (Or.inr (Or.inr (Or.inl y)))))) (fun y => (Or.inr (Or.inr (Or.inr (Or.inr (Or.inr y)))))))))))))))), nA_7 p (fun z => h (z.elim (fun y => (Or.inl y)) (fun y => (y.elim (fun y => (Or.inr (Or.inl y))) (fun y => (y.elim (fun y => (Or.inr (Or.inr (Or.inl y)))) (fun y => (y.elim (fun y => (Or.inr (Or.inr (Or.inr (Or.inl y))))) (fun y => (y.elim (fun y => (Or.inr (Or.inr (Or.inr (Or.inr (Or.inl y)))))) (fun y => (Or.inr (Or.inr (Or.inr (Or.inr (Or.inr y))))))))))))))))]) (by omega))
          exact ezw_keepE [true, true, true, true, true, true] (L23_7 (0) ⟨by decide, by decide⟩ F_5 A_5 hS (fun _ _ _ => rfl) (fun _ _ => rfl) (by omega))
      exact ezw_keepE [true, true, true, true, true, false] (L13_5 (0) ⟨by decide, by decide⟩ F_2 A_2 hS (fun _ _ _ => rfl) (fun _ _ => rfl) (by omega))
  exact ezw_keepE [true, true, true, true, false, false] (L2_2 (0) ⟨by decide, by decide⟩ F A hS (fun _ _ _ => rfl) (fun _ _ => rfl) (by omega))
def ezt_m27_49Q (e : Bool × Bool) (F : Nat → Nat → Int) (A : Nat → Int → Int) (a1 : Int) : Option ezq_V → (Nat → ezq_C) → Prop := fun v g' => ezu_g e F A = g' ∧ ∃ u : Int, (ezw_in u) ∧ (0 ≤ a1 → a1 < 8 → u = A 49 a1) ∧ some (ezw_i u) = v
theorem ezt_m27_49 {a1 : Int} {F : Nat → Nat → Int} {A : Nat → Int → Int} (hS : ezs_T F A) (hd : 0 ≤ d) (ha1 : ezw_in a1) : ezw_C l ρ B xa Hb D cA 27 d [ezw_p 49, ezw_i a1] (ezu_g e F A) (ezt_m27_49Q e F A a1) := by
  refine ezw_met (k := 0) rfl rfl ?_
  refine ezw_aload_n rfl rfl ?_
  refine ezw_ifnull rfl ?_
  refine ezw_iload_n rfl rfl ?_
  refine ezw_if_lt rfl rfl ha1 (fun h5_0 => ?_) (fun h5_0 => ?_)
  · refine ezw_iconst (0) rfl rfl ?_
    exact ezw_ireturn rfl rfl ⟨rfl, (0), ⟨by decide, by decide⟩, by omega, rfl⟩
  · refine ezw_iload_n rfl rfl ?_
    refine ezw_aload_n rfl rfl ?_
    refine ezs_alen (k := 8) rfl rfl rfl rfl (by decide) (by decide) ?_
    refine ezw_icmp_ge rfl rfl ha1 ⟨by decide, by decide⟩ (fun h11_0 => ?_) (fun h11_0 => ?_)
    · refine ezw_iconst (0) rfl rfl ?_
      exact ezw_ireturn rfl rfl ⟨rfl, (0), ⟨by decide, by decide⟩, by omega, rfl⟩
    · refine ezw_aload_n rfl rfl ?_
      refine ezw_iload_n rfl rfl ?_
      refine ezy_iaload hS rfl rfl rfl (by omega) (by omega) (by decide) (fun u1 hu1 ku1 eu1 => ?_)
      refine ezw_goto rfl rfl ?_
      exact ezw_ireturn rfl rfl ⟨rfl, u1, hu1, by omega, rfl⟩
def ezt_m21_62Q (e : Bool × Bool) (F : Nat → Nat → Int) (A : Nat → Int → Int) (a1 : Int) (a2 : Int) : Option ezq_V → (Nat → ezq_C) → Prop := fun v g' => ∃ (A' : Nat → Int → Int), ezu_g e F A' = g' ∧ ezs_T F A' ∧ (∀ p, ¬ (p = 62) → A' p = A p) ∧ (0 ≤ a1 → a1 < 480 → A' 62 a1 = a2) ∧ (∀ j, j ≠ a1 → A' 62 j = A 62 j) ∧ none = v
theorem ezt_m21_62 {a1 a2 : Int} {F : Nat → Nat → Int} {A : Nat → Int → Int} (hS : ezs_T F A) (hd : 0 ≤ d) (ha1 : ezw_in a1) (ha2 : ezw_in a2) : ezw_C l ρ B xa Hb D cA 21 d [ezw_p 62, ezw_i a1, ezw_i a2] (ezu_g e F A) (ezt_m21_62Q e F A a1 a2) := by
  refine ezw_met (k := 0) rfl rfl ?_
  refine ezw_aload_n rfl rfl ?_
  refine ezw_ifnull rfl ?_
  refine ezw_iload_n rfl rfl ?_
  refine ezw_if_lt rfl rfl ha1 (fun h5_0 => ?_) (fun h5_0 => ?_)
  · exact ezw_return rfl rfl ⟨A, rfl, hS, (fun _ _ => rfl), (by omega), (fun _ _ => rfl), rfl⟩
  · refine ezw_iload_n rfl rfl ?_
    refine ezw_aload_n rfl rfl ?_
    refine ezs_alen (k := 480) rfl rfl rfl rfl (by decide) (by decide) ?_
    refine ezw_icmp_ge rfl rfl ha1 ⟨by decide, by decide⟩ (fun h11_0 => ?_) (fun h11_0 => ?_)
    · exact ezw_return rfl rfl ⟨A, rfl, hS, (fun _ _ => rfl), (by omega), (fun _ _ => rfl), rfl⟩
    · refine ezw_aload_n rfl rfl ?_
      refine ezw_iload_n rfl rfl ?_
      refine ezw_iload_n rfl rfl ?_
      refine ezy_iastore hS rfl rfl rfl (by omega) (by omega) (by decide) ha2 (fun A1 hS mA1 nA1 => ?_)
      exact ezw_return rfl rfl ⟨A1, rfl, hS, (fun p h => by
            funext j
            rw [nA1 p j (fun z => h (z.1))]), (fun _ _ => mA1), (fun j hj => nA1 62 j (by omega)), rfl⟩
def ezt_m21_63Q (e : Bool × Bool) (F : Nat → Nat → Int) (A : Nat → Int → Int) (a1 : Int) (a2 : Int) : Option ezq_V → (Nat → ezq_C) → Prop := fun v g' => ∃ (A' : Nat → Int → Int), ezu_g e F A' = g' ∧ ezs_T F A' ∧ (∀ p, ¬ (p = 63) → A' p = A p) ∧ (0 ≤ a1 → a1 < 480 → A' 63 a1 = a2) ∧ (∀ j, j ≠ a1 → A' 63 j = A 63 j) ∧ none = v
theorem ezt_m21_63 {a1 a2 : Int} {F : Nat → Nat → Int} {A : Nat → Int → Int} (hS : ezs_T F A) (hd : 0 ≤ d) (ha1 : ezw_in a1) (ha2 : ezw_in a2) : ezw_C l ρ B xa Hb D cA 21 d [ezw_p 63, ezw_i a1, ezw_i a2] (ezu_g e F A) (ezt_m21_63Q e F A a1 a2) := by
  refine ezw_met (k := 0) rfl rfl ?_
  refine ezw_aload_n rfl rfl ?_
  refine ezw_ifnull rfl ?_
  refine ezw_iload_n rfl rfl ?_
  refine ezw_if_lt rfl rfl ha1 (fun h5_0 => ?_) (fun h5_0 => ?_)
  · exact ezw_return rfl rfl ⟨A, rfl, hS, (fun _ _ => rfl), (by omega), (fun _ _ => rfl), rfl⟩
  · refine ezw_iload_n rfl rfl ?_
    refine ezw_aload_n rfl rfl ?_
    refine ezs_alen (k := 480) rfl rfl rfl rfl (by decide) (by decide) ?_
    refine ezw_icmp_ge rfl rfl ha1 ⟨by decide, by decide⟩ (fun h11_0 => ?_) (fun h11_0 => ?_)
    · exact ezw_return rfl rfl ⟨A, rfl, hS, (fun _ _ => rfl), (by omega), (fun _ _ => rfl), rfl⟩
    · refine ezw_aload_n rfl rfl ?_
      refine ezw_iload_n rfl rfl ?_
      refine ezw_iload_n rfl rfl ?_
      refine ezy_iastore hS rfl rfl rfl (by omega) (by omega) (by decide) ha2 (fun A1 hS mA1 nA1 => ?_)
      exact ezw_return rfl rfl ⟨A1, rfl, hS, (fun p h => by
            funext j
            rw [nA1 p j (fun z => h (z.1))]), (fun _ _ => mA1), (fun j hj => nA1 63 j (by omega)), rfl⟩
def ezt_m86_47_5_9Q (e : Bool × Bool) (F : Nat → Nat → Int) (A : Nat → Int → Int) (a3 : Int) (a4 : Int) (a5 : Int) (a6 : Int) : Option ezq_V → (Nat → ezq_C) → Prop := fun v g' => ∃ (F' : Nat → Nat → Int) (A' : Nat → Int → Int), ezu_g e F' A' = g' ∧ ezs_T F' A' ∧ (∀ p j, ¬ (p = 5 ∧ (j = 5) ∨ p = 9 ∧ (j = 5)) → F' p j = F p j) ∧ (∀ p, ¬ (p = 7 ∨ p = 8 ∨ p = 11 ∨ p = 12 ∨ p = 62 ∨ p = 63) → A' p = A p) ∧ none = v
theorem ezt_m86_47_5_9 {a3 a4 a5 a6 : Int} {F : Nat → Nat → Int} {A : Nat → Int → Int} (hS : ezs_T F A) (hd : 4 ≤ d) (ha3 : ezw_in a3) (ha4 : ezw_in a4) (ha5 : ezw_in a5) (ha6 : ezw_in a6) (ga : 0 ≤ a3 ∧ a3 ≤ 8 ∧ 0 ≤ a4 ∧ a4 ≤ 9 ∧ 0 ≤ a5 ∧ a5 ≤ 2 ∧ 0 ≤ a6 ∧ a6 ≤ 1) : ezw_C l ρ B xa Hb D cA 86 d [ezw_p 47, ezw_p 5, ezw_p 9, ezw_i a3, ezw_i a4, ezw_i a5, ezw_i a6] (ezu_g e F A) (ezt_m86_47_5_9Q e F A a3 a4 a5 a6) := by
  refine ezw_met (k := 4) rfl rfl ?_
  refine ezw_aload_n rfl rfl ?_
  refine ezs_getp (p := 49) rfl rfl rfl rfl rfl ?_
  refine ezw_iload_n rfl rfl ?_
  refine ezw_call3_2 rfl (by omega) rfl rfl (ezt_m27_49 hS (by omega) ha3) ?_
  rintro _ _ ⟨rfl, u2, hu2, v_1, rfl⟩
  refine ezw_istore rfl rfl ?_
  refine ezw_iload rfl rfl ?_
  have J37_4 : ∀ y3 : Int, ezw_in y3 → ezw_E l ρ B xa Hb D cA d ezq_re86 (ezt_m86_47_5_9Q e F A a3 a4 a5 a6) 37 [some (ezw_p 47), some (ezw_p 5), some (ezw_p 9), some (ezw_i a3), some (ezw_i a4), some (ezw_i a5), some (ezw_i a6), some (ezw_i u2), none, none, none] [ezw_i y3] (ezu_g e F A) := by
    intro y3 hy3
    refine ezw_istore rfl rfl ?_
    refine ezw_iload rfl rfl ?_
    refine ezw_iconst (2) rfl rfl ?_
    refine ezw_iload rfl rfl ?_
    refine ezw_imul (k := 2 * a6) rfl (by omega) ?_
    refine ezw_iadd (k := a4 + 2 * a6) rfl (by omega) ?_
    refine ezw_istore rfl rfl ?_
    refine ezw_aload_n rfl rfl ?_
    refine ezy_get_i hS rfl rfl rfl rfl rfl rfl (fun u5 hu5 ku5 eu5 => ?_)
    replace eu5 := eu5.symm
    subst eu5
    have ru5 : 0 ≤ (F 5 3) ∧ (F 5 3) ≤ 1 := ku5
    have J69_7 : ∀ y6 : Int, ezw_in y6 → ∀ F_7 : Nat → Nat → Int, ∀ A_7 : Nat → Int → Int, ezs_T F_7 A_7 → (∀ p j, ¬ (p = 5 ∧ (j = 5)) → F_7 p j = F p j) → (∀ p, ¬ (p = 7 ∨ p = 8) → A_7 p = A p) → ezw_E l ρ B xa Hb D cA d ezq_re86 (ezt_m86_47_5_9Q e F A a3 a4 a5 a6) 69 [some (ezw_p 47), some (ezw_p 5), some (ezw_p 9), some (ezw_i a3), some (ezw_i a4), some (ezw_i a5), some (ezw_i a6), some (ezw_i u2), some (ezw_i y6), some (ezw_i (a4 + 2 * a6)), none] [] (ezu_g e F_7 A_7) := by
      intro y6 hy6 F_7 A_7 hS nF_7 nA_7
      refine ezw_aload_n rfl rfl ?_
      refine ezy_get_i hS rfl rfl rfl rfl rfl rfl (fun u8 hu8 ku8 eu8 => ?_)
      rw [nF_7 9 3 (by decide)] at eu8
      replace eu8 := eu8.symm
      subst eu8
      have ru8 : 0 ≤ (F 9 3) ∧ (F 9 3) ≤ 1 := ku8
      have J90_10 : ∀ y9 : Int, ezw_in y9 → ∀ F_10 : Nat → Nat → Int, ∀ A_10 : Nat → Int → Int, ezs_T F_10 A_10 → (∀ p j, ¬ (p = 9 ∧ (j = 5)) → F_10 p j = F_7 p j) → (∀ p, ¬ (p = 11 ∨ p = 12) → A_10 p = A_7 p) → ezw_E l ρ B xa Hb D cA d ezq_re86 (ezt_m86_47_5_9Q e F A a3 a4 a5 a6) 90 [some (ezw_p 47), some (ezw_p 5), some (ezw_p 9), some (ezw_i a3), some (ezw_i a4), some (ezw_i a5), some (ezw_i a6), some (ezw_i u2), some (ezw_i y6), some (ezw_i y9), none] [] (ezu_g e F_10 A_10) := by
        intro y9 hy9 F_10 A_10 hS nF_10 nA_10
        refine ezw_iload_n rfl rfl ?_
        refine ezw_iload rfl rfl ?_
        refine ezw_iload rfl rfl ?_
        refine ezw_iload rfl rfl ?_
        refine ezw_call2_4 rfl (by omega) rfl rfl (ezt_m92 hS (by omega) ha3 ha4 ha5 ha6 (by omega)) ?_
        rintro _ _ ⟨rfl, u12, hu12, rfl⟩
        refine ezw_istore rfl rfl ?_
        refine ezw_aload_n rfl rfl ?_
        refine ezs_getp (p := 62) rfl rfl rfl rfl rfl ?_
        refine ezw_iload rfl rfl ?_
        refine ezw_iconst (0) rfl rfl ?_
        refine ezw_bipush (10) rfl rfl ?_
        refine ezw_iload rfl rfl ?_
        refine ezw_mminE rfl ⟨by decide, by decide⟩ hy6 rfl (fun u13 hu13 => ?_)
        refine ezw_mmaxE rfl ⟨by decide, by decide⟩ ⟨by omega, by omega⟩ rfl (fun u14 hu14 => ?_)
        refine ezw_call3_3 rfl (by omega) rfl rfl (ezt_m21_62 hS (by omega) hu12 ⟨by omega, by omega⟩) ?_
        rintro _ _ ⟨A15, rfl, hS, nA15, m_15, n_15, rfl⟩
        refine ezw_aload_n rfl rfl ?_
        refine ezs_getp (p := 63) rfl rfl rfl rfl rfl ?_
        refine ezw_iload rfl rfl ?_
        refine ezw_iconst (0) rfl rfl ?_
        refine ezw_bipush (10) rfl rfl ?_
        refine ezw_iload rfl rfl ?_
        refine ezw_mminE rfl ⟨by decide, by decide⟩ hy9 rfl (fun u16 hu16 => ?_)
        refine ezw_mmaxE rfl ⟨by decide, by decide⟩ ⟨by omega, by omega⟩ rfl (fun u17 hu17 => ?_)
        refine ezw_call3_3 rfl (by omega) rfl rfl (ezt_m21_63 hS (by omega) hu12 ⟨by omega, by omega⟩) ?_
        rintro _ _ ⟨A18, rfl, hS, nA18, m_18, n_18, rfl⟩
        exact ezw_return rfl rfl ⟨F_10, A18, rfl, hS, (fun p j h => by rw [nF_10 p j (fun z => h (Or.inr ⟨z.1, z.2⟩)), nF_7 p j (fun z => h (Or.inl ⟨z.1, z.2⟩))]), (fun p h => by
              funext j
              rw [nA18 p (fun z => h (Or.inr (Or.inr (Or.inr (Or.inr (Or.inr z)))))), nA15 p (fun z => h (Or.inr (Or.inr (Or.inr (Or.inr (Or.inl z)))))), nA_10 p (fun z => h (z.elim (fun y => (Or.inr (Or.inr (Or.inl y)))) (fun y => (Or.inr (Or.inr (Or.inr (Or.inl y))))))), nA_7 p (fun z => h (z.elim (fun y => (Or.inl y)) (fun y => (Or.inr (Or.inl y)))))]), rfl⟩
      refine ezw_if_eq rfl rfl hu8 (fun h73_8 => ?_) (fun h73_8 => ?_)
      · exact ezw_keepE [true, true, true, true, true, true, true, true, true, true, false] (J90_10 (a4 + 2 * a6) ⟨by omega, by omega⟩ F_7 A_7 hS (fun _ _ _ => rfl) (fun _ _ => rfl))
      · refine ezw_aload_n rfl rfl ?_
        refine ezw_iload rfl rfl ?_
        refine ezw_iload rfl rfl ?_
        refine ezw_iload rfl rfl ?_
        refine ezw_iload rfl rfl ?_
        refine ezw_call0_4 rfl (by omega) (ezu_at rfl) rfl rfl rfl rfl (ezt_m87_9 hS (by omega) ha4 hu2 ha5 ha6) ?_
        rintro _ _ ⟨F19, A19, rfl, hS, nF19, nA19, u20, hu20, rfl⟩
        refine ezw_istore rfl rfl ?_
        exact ezw_keepE [true, true, true, true, true, true, true, true, true, true, false] (J90_10 u20 hu20 F19 A19 hS (fun p j h => by rw [nF19 p j (fun z => h (⟨z.1, z.2⟩))]) (fun p h => by
              funext j
              rw [nA19 p (fun z => h (z.elim (fun y => (Or.inl y)) (fun y => (Or.inr y))))]))
    refine ezw_if_eq rfl rfl hu5 (fun h52_5 => ?_) (fun h52_5 => ?_)
    · exact ezw_keepE [true, true, true, true, true, true, true, true, true, true, false] (J69_7 y3 hy3 F A hS (fun _ _ _ => rfl) (fun _ _ => rfl))
    · refine ezw_aload_n rfl rfl ?_
      refine ezw_iload rfl rfl ?_
      refine ezw_iload rfl rfl ?_
      refine ezw_iload rfl rfl ?_
      refine ezw_iload rfl rfl ?_
      refine ezw_call0_4 rfl (by omega) (ezu_at rfl) rfl rfl rfl rfl (ezt_m87_5 hS (by omega) ha4 hu2 ha5 ha6) ?_
      rintro _ _ ⟨F21, A21, rfl, hS, nF21, nA21, u22, hu22, rfl⟩
      refine ezw_istore rfl rfl ?_
      exact ezw_keepE [true, true, true, true, true, true, true, true, true, true, false] (J69_7 u22 hu22 F21 A21 hS (fun p j h => by rw [nF21 p j (fun z => h (⟨z.1, z.2⟩))]) (fun p h => by
            funext j
            rw [nA21 p (fun z => h (z.elim (fun y => (Or.inl y)) (fun y => (Or.inr y))))]))
  refine ezw_if_ne rfl rfl ha5 (fun h12_2 => ?_) (fun h12_2 => ?_)
  · refine ezw_iload rfl rfl ?_
    refine ezw_iconst (1) rfl rfl ?_
    refine ezw_icmp_ne rfl rfl ha5 ⟨by decide, by decide⟩ (fun h26_22 => ?_) (fun h26_22 => ?_)
    · refine ezw_iconst (0) rfl rfl ?_
      exact ezw_keepE [true, true, true, true, true, true, true, true, false, false, false] (J37_4 (0) ⟨by decide, by decide⟩)
    · refine ezw_iconst (3) rfl rfl ?_
      refine ezw_iload rfl rfl ?_
      refine ezw_isub (k := -a4 + 3) rfl (by omega) ?_
      refine ezw_goto rfl rfl ?_
      exact ezw_keepE [true, true, true, true, true, true, true, true, false, false, false] (J37_4 (-a4 + 3) ⟨by omega, by omega⟩)
  · refine ezw_bipush (10) rfl rfl ?_
    refine ezw_iload rfl rfl ?_
    refine ezw_isub (k := -a4 + 10) rfl (by omega) ?_
    refine ezw_goto rfl rfl ?_
    exact ezw_keepE [true, true, true, true, true, true, true, true, false, false, false] (J37_4 (-a4 + 10) ⟨by omega, by omega⟩)
def ezt_m85_47_5_9Q (e : Bool × Bool) (F : Nat → Nat → Int) (A : Nat → Int → Int) : Option ezq_V → (Nat → ezq_C) → Prop := fun v g' => ∃ (F' : Nat → Nat → Int) (A' : Nat → Int → Int), ezu_g e F' A' = g' ∧ ezs_T F' A' ∧ (∀ p j, ¬ (p = 5 ∧ (j = 5) ∨ p = 9 ∧ (j = 5)) → F' p j = F p j) ∧ (∀ p, ¬ (p = 7 ∨ p = 8 ∨ p = 11 ∨ p = 12 ∨ p = 62 ∨ p = 63) → A' p = A p) ∧ none = v
theorem ezt_m85_47_5_9 {F : Nat → Nat → Int} {A : Nat → Int → Int} (hS : ezs_T F A) (hd : 5 ≤ d) (tw : F 47 15 ≤ 8) : ezw_C l ρ B xa Hb D cA 85 d [ezw_p 47, ezw_p 5, ezw_p 9] (ezu_g e F A) (ezt_m85_47_5_9Q e F A) := by
  refine ezw_met (k := 3) rfl rfl ?_
  refine ezw_iconst (0) rfl rfl ?_
  refine ezw_istore_n rfl rfl ?_
  have L2_2 : ∀ c1 : Int, ezw_in c1 → ∀ F_2 : Nat → Nat → Int, ∀ A_2 : Nat → Int → Int, ezs_T F_2 A_2 → (∀ p j, ¬ (p = 5 ∧ (j = 5) ∨ p = 9 ∧ (j = 5)) → F_2 p j = F p j) → (∀ p, ¬ (p = 7 ∨ p = 8 ∨ p = 11 ∨ p = 12 ∨ p = 62 ∨ p = 63) → A_2 p = A p) → ((0) ≤ c1) → ezw_E l ρ B xa Hb D cA d ezq_re85 (ezt_m85_47_5_9Q e F A) 2 [some (ezw_p 47), some (ezw_p 5), some (ezw_p 9), some (ezw_i c1), none, none] [] (ezu_g e F_2 A_2) := by
    refine ezs_up ?_
    intro c1 hc1 ihc1 F_2 A_2 hS nF_2 nA_2 g_2
    refine ezw_iload_n rfl rfl ?_
    refine ezw_aload_n rfl rfl ?_
    refine ezy_get_i hS rfl rfl rfl rfl rfl rfl (fun u3 hu3 ku3 eu3 => ?_)
    rw [nF_2 47 15 (by decide)] at eu3
    replace eu3 := eu3.symm
    subst eu3
    refine ezw_icmp_ge rfl rfl hc1 hu3 (fun h7_3 => ?_) (fun h7_3 => ?_)
    · exact ezw_return rfl rfl ⟨F_2, A_2, rfl, hS, (fun p j h => by rw [nF_2 p j (fun z => h (z.elim (fun y => (Or.inl ⟨y.1, y.2⟩)) (fun y => (Or.inr ⟨y.1, y.2⟩))))]), (fun p h => by
            funext j
            rw [nA_2 p (fun z => h (z.elim (fun y => (Or.inl y)) (fun y => (y.elim (fun y => (Or.inr (Or.inl y))) (fun y => (y.elim (fun y => (Or.inr (Or.inr (Or.inl y)))) (fun y => (y.elim (fun y => (Or.inr (Or.inr (Or.inr (Or.inl y))))) (fun y => (y.elim (fun y => (Or.inr (Or.inr (Or.inr (Or.inr (Or.inl y)))))) (fun y => (Or.inr (Or.inr (Or.inr (Or.inr (Or.inr y))))))))))))))))]), rfl⟩
    · refine ezw_iconst (0) rfl rfl ?_
      refine ezw_istore rfl rfl ?_
      have L13_5 : ∀ c4 : Int, ezw_in c4 → ∀ F_5 : Nat → Nat → Int, ∀ A_5 : Nat → Int → Int, ezs_T F_5 A_5 → (∀ p j, ¬ (p = 5 ∧ (j = 5) ∨ p = 9 ∧ (j = 5)) → F_5 p j = F_2 p j) → (∀ p, ¬ (p = 7 ∨ p = 8 ∨ p = 11 ∨ p = 12 ∨ p = 62 ∨ p = 63) → A_5 p = A_2 p) → ((0) ≤ c4) → ezw_E l ρ B xa Hb D cA d ezq_re85 (ezt_m85_47_5_9Q e F A) 13 [some (ezw_p 47), some (ezw_p 5), some (ezw_p 9), some (ezw_i c1), some (ezw_i c4), none] [] (ezu_g e F_5 A_5) := by
        refine ezs_up ?_
        intro c4 hc4 ihc4 F_5 A_5 hS nF_5 nA_5 g_5
        refine ezw_iload rfl rfl ?_
        refine ezw_bipush (9) rfl rfl ?_
        refine ezw_icmp_gt rfl rfl hc4 ⟨by decide, by decide⟩ (fun h17_5 => ?_) (fun h17_5 => ?_)
        · refine ezw_iinc (k := c1 + 1) (1) rfl rfl rfl (by omega) rfl ?_
          refine ezw_goto rfl rfl ?_
          exact ezw_keepE [true, true, true, true, false, false] (ihc1 (c1 + 1) (by omega) ⟨by omega, by omega⟩ F_5 A_5 hS (fun p j h => by rw [nF_5 p j (fun z => h (z.elim (fun y => (Or.inl ⟨y.1, y.2⟩)) (fun y => (Or.inr ⟨y.1, y.2⟩)))), nF_2 p j (fun z => h (z.elim (fun y => (Or.inl ⟨y.1, y.2⟩)) (fun y => (Or.inr ⟨y.1, y.2⟩))))]) (fun p h => by
                funext j
                rw [nA_5 p (fun z => h (z.elim (fun y => (Or.inl y)) (fun y => (y.elim (fun y => (Or.inr (Or.inl y))) (fun y => (y.elim (fun y => (Or.inr (Or.inr (Or.inl y)))) (fun y => (y.elim (fun y => (Or.inr (Or.inr (Or.inr (Or.inl y))))) (fun y => (y.elim (fun y => (Or.inr (Or.inr (Or.inr (Or.inr (Or.inl y)))))) (fun y => (Or.inr (Or.inr (Or.inr (Or.inr (Or.inr y)))))))))))))))), nA_2 p (fun z => h (z.elim (fun y => (Or.inl y)) (fun y => (y.elim (fun y => (Or.inr (Or.inl y))) (fun y => (y.elim (fun y => (Or.inr (Or.inr (Or.inl y)))) (fun y => (y.elim (fun y => (Or.inr (Or.inr (Or.inr (Or.inl y))))) (fun y => (y.elim (fun y => (Or.inr (Or.inr (Or.inr (Or.inr (Or.inl y)))))) (fun y => (Or.inr (Or.inr (Or.inr (Or.inr (Or.inr y))))))))))))))))]) (by omega))
        · refine ezw_iconst (0) rfl rfl ?_
          refine ezw_istore rfl rfl ?_
          have L23_7 : ∀ c6 : Int, ezw_in c6 → ∀ F_7 : Nat → Nat → Int, ∀ A_7 : Nat → Int → Int, ezs_T F_7 A_7 → (∀ p j, ¬ (p = 5 ∧ (j = 5) ∨ p = 9 ∧ (j = 5)) → F_7 p j = F_5 p j) → (∀ p, ¬ (p = 7 ∨ p = 8 ∨ p = 11 ∨ p = 12 ∨ p = 62 ∨ p = 63) → A_7 p = A_5 p) → ((0) ≤ c6) → ezw_E l ρ B xa Hb D cA d ezq_re85 (ezt_m85_47_5_9Q e F A) 23 [some (ezw_p 47), some (ezw_p 5), some (ezw_p 9), some (ezw_i c1), some (ezw_i c4), some (ezw_i c6)] [] (ezu_g e F_7 A_7) := by
            refine ezs_up ?_
            intro c6 hc6 ihc6 F_7 A_7 hS nF_7 nA_7 g_7
            refine ezw_iload rfl rfl ?_
            refine ezw_iconst (3) rfl rfl ?_
            refine ezw_icmp_ge rfl rfl hc6 ⟨by decide, by decide⟩ (fun h26_7 => ?_) (fun h26_7 => ?_)
            · refine ezw_iinc (k := c4 + 1) (1) rfl rfl rfl (by omega) rfl ?_
              refine ezw_goto rfl rfl ?_
              exact ezw_keepE [true, true, true, true, true, false] (ihc4 (c4 + 1) (by omega) ⟨by omega, by omega⟩ F_7 A_7 hS (fun p j h => by rw [nF_7 p j (fun z => h (z.elim (fun y => (Or.inl ⟨y.1, y.2⟩)) (fun y => (Or.inr ⟨y.1, y.2⟩)))), nF_5 p j (fun z => h (z.elim (fun y => (Or.inl ⟨y.1, y.2⟩)) (fun y => (Or.inr ⟨y.1, y.2⟩))))]) (fun p h => by
                    funext j
                    rw [nA_7 p (fun z => h (z.elim (fun y => (Or.inl y)) (fun y => (y.elim (fun y => (Or.inr (Or.inl y))) (fun y => (y.elim (fun y => (Or.inr (Or.inr (Or.inl y)))) (fun y => (y.elim (fun y => (Or.inr (Or.inr (Or.inr (Or.inl y))))) (fun y => (y.elim (fun y => (Or.inr (Or.inr (Or.inr (Or.inr (Or.inl y)))))) (fun y => (Or.inr (Or.inr (Or.inr (Or.inr (Or.inr y)))))))))))))))), nA_5 p (fun z => h (z.elim (fun y => (Or.inl y)) (fun y => (y.elim (fun y => (Or.inr (Or.inl y))) (fun y => (y.elim (fun y => (Or.inr (Or.inr (Or.inl y)))) (fun y => (y.elim (fun y => (Or.inr (Or.inr (Or.inr (Or.inl y))))) (fun y => (y.elim (fun y => (Or.inr (Or.inr (Or.inr (Or.inr (Or.inl y)))))) (fun y => (Or.inr (Or.inr (Or.inr (Or.inr (Or.inr y))))))))))))))))]) (by omega))
            · refine ezw_aload_n rfl rfl ?_
              refine ezw_aload_n rfl rfl ?_
              refine ezw_aload_n rfl rfl ?_
              refine ezw_iload_n rfl rfl ?_
              refine ezw_iload rfl rfl ?_
              refine ezw_iload rfl rfl ?_
              refine ezw_iconst (0) rfl rfl ?_
              refine ezw_call0_6 rfl (by omega) (ezu_at rfl) rfl rfl rfl rfl (ezt_m86_47_5_9 hS (by omega) hc1 hc4 hc6 ⟨by decide, by decide⟩ (by omega)) ?_
              rintro _ _ ⟨F8, A8, rfl, hS, nF8, nA8, rfl⟩
              refine ezw_aload_n rfl rfl ?_
              refine ezw_aload_n rfl rfl ?_
              refine ezw_aload_n rfl rfl ?_
              refine ezw_iload_n rfl rfl ?_
              refine ezw_iload rfl rfl ?_
              refine ezw_iload rfl rfl ?_
              refine ezw_iconst (1) rfl rfl ?_
              refine ezw_call0_6 rfl (by omega) (ezu_at rfl) rfl rfl rfl rfl (ezt_m86_47_5_9 hS (by omega) hc1 hc4 hc6 ⟨by decide, by decide⟩ (by omega)) ?_
              rintro _ _ ⟨F9, A9, rfl, hS, nF9, nA9, rfl⟩
              refine ezw_iinc (k := c6 + 1) (1) rfl rfl rfl (by omega) rfl ?_
              refine ezw_goto rfl rfl ?_
              exact ezw_keepE [true, true, true, true, true, true] (ihc6 (c6 + 1) (by omega) ⟨by omega, by omega⟩ F9 A9 hS (fun p j h => by rw [nF9 p j (fun z => h (z.elim (fun y => (Or.inl ⟨y.1, y.2⟩)) (fun y => (Or.inr ⟨y.1, y.2⟩)))), nF8 p j (fun z => h (z.elim (fun y => (Or.inl ⟨y.1, y.2⟩)) (fun y => (Or.inr ⟨y.1, y.2⟩)))), nF_7 p j (fun z => h (z.elim (fun y => (Or.inl ⟨y.1, y.2⟩)) (fun y => (Or.inr ⟨y.1, y.2⟩))))]) (fun p h => by
                    funext j
                    rw [nA9 p (fun z => h (z.elim (fun y => (Or.inl y)) (fun y => (y.elim (fun y => (Or.inr (Or.inl y))) (fun y => (y.elim (fun y => (Or.inr (Or.inr (Or.inl y)))) (fun y => (y.elim (fun y => (Or.inr (Or.inr (Or.inr (Or.inl y))))) (fun y => (y.elim (fun y => (Or.inr (Or.inr (Or.inr (Or.inr (Or.inl y)))))) (fun y => (Or.inr (Or.inr (Or.inr (Or.inr (Or.inr y)))))))))))))))), nA8 p (fun z => h (z.elim (fun y => (Or.inl y)) (fun y => (y.elim (fun y => (Or.inr (Or.inl y))) (fun y => (y.elim (fun y => (Or.inr (Or.inr (Or.inl y)))) (fun y => (y.elim (fun y => (Or.inr (Or.inr (Or.inr (Or.inl y))))) (fun y => (y.elim (fun y => (Or.inr (Or.inr (Or.inr (Or.inr (Or.inl y)))))) (fun y => (Or.inr (Or.inr (Or.inr (Or.inr (Or.inr y)))))))))))))))), nA_7 p (fun z => h (z.elim (fun y => (Or.inl y)) (fun y => (y.elim (fun y => (Or.inr (Or.inl y))) (fun y => (y.elim (fun y => (Or.inr (Or.inr (Or.inl y)))) (fun y => (y.elim (fun y => (Or.inr (Or.inr (Or.inr (Or.inl y))))) (fun y => (y.elim (fun y => (Or.inr (Or.inr (Or.inr (Or.inr (Or.inl y)))))) (fun y => (Or.inr (Or.inr (Or.inr (Or.inr (Or.inr y))))))))))))))))]) (by omega))
          exact ezw_keepE [true, true, true, true, true, true] (L23_7 (0) ⟨by decide, by decide⟩ F_5 A_5 hS (fun _ _ _ => rfl) (fun _ _ => rfl) (by omega))
      exact ezw_keepE [true, true, true, true, true, false] (L13_5 (0) ⟨by decide, by decide⟩ F_2 A_2 hS (fun _ _ _ => rfl) (fun _ _ => rfl) (by omega))
  exact ezw_keepE [true, true, true, true, false, false] (L2_2 (0) ⟨by decide, by decide⟩ F A hS (fun _ _ _ => rfl) (fun _ _ => rfl) (by omega))
end KT
