/-! ===== the program: chances reckoned, by what they come to ===== -/
section KT
variable {l : Launch} {ρ : ezq_E} {B : Nat} {xa : Nat → Option Nat} {Hb : Heap} {D : va_G} {cA : Nat → ClassId} {d : Nat} {e : Bool × Bool}
def ezt_m27_32Q (e : Bool × Bool) (F : Nat → Nat → Int) (A : Nat → Int → Int) (a1 : Int) : Option ezq_V → (Nat → ezq_C) → Prop := fun v g' => ezu_g e F A = g' ∧ ∃ u : Int, (ezw_in u) ∧ (0 ≤ a1 → a1 < 8 → u = A 32 a1) ∧ some (ezw_i u) = v
theorem ezt_m27_32 {a1 : Int} {F : Nat → Nat → Int} {A : Nat → Int → Int} (hS : ezs_T F A) (hd : 0 ≤ d) (ha1 : ezw_in a1) : ezw_C l ρ B xa Hb D cA 27 d [ezw_p 32, ezw_i a1] (ezu_g e F A) (ezt_m27_32Q e F A a1) := by
  refine ezw_met (k := 0) rfl rfl ?_
  refine ezw_aload_n rfl rfl ?_
  refine ezw_ifnull rfl ?_
  refine ezw_iload_n rfl rfl ?_
  refine ezw_if_lt rfl rfl ha1 (fun h5_0 => ?_) (fun h5_0 => ?_)
  · refine ezw_iconst (0) rfl rfl ?_
    exact ezw_ireturn rfl rfl ⟨rfl, (0), ⟨by decide, by decide⟩, by omega, rfl⟩
  · refine ezw_iload_n rfl rfl ?_
    refine ezw_aload_n rfl rfl ?_
    refine ezs_alen (k := 8) rfl rfl rfl rfl (by decide) (by decide) ?_
    refine ezw_icmp_ge rfl rfl ha1 ⟨by decide, by decide⟩ (fun h11_0 => ?_) (fun h11_0 => ?_)
    · refine ezw_iconst (0) rfl rfl ?_
      exact ezw_ireturn rfl rfl ⟨rfl, (0), ⟨by decide, by decide⟩, by omega, rfl⟩
    · refine ezw_aload_n rfl rfl ?_
      refine ezw_iload_n rfl rfl ?_
      refine ezy_iaload hS rfl rfl rfl (by omega) (by omega) (by decide) (fun u1 hu1 ku1 eu1 => ?_)
      refine ezw_goto rfl rfl ?_
      exact ezw_ireturn rfl rfl ⟨rfl, u1, hu1, by omega, rfl⟩
def ezt_m92vQ (e : Bool × Bool) (F : Nat → Nat → Int) (A : Nat → Int → Int) (a0 : Int) (a1 : Int) (a2 : Int) (a3 : Int) : Option ezq_V → (Nat → ezq_C) → Prop := fun v g' => ezu_g e F A = g' ∧ ∃ u : Int, (ezw_in u) ∧ (u = 60 * a0 + 6 * a1 + 2 * a2 + a3) ∧ some (ezw_i u) = v
theorem ezt_m92v {a0 a1 a2 a3 : Int} {F : Nat → Nat → Int} {A : Nat → Int → Int} (hS : ezs_T F A) (hd : 0 ≤ d) (ha0 : ezw_in a0) (ha1 : ezw_in a1) (ha2 : ezw_in a2) (ha3 : ezw_in a3) (ga : 0 ≤ a0 ∧ a0 ≤ 8 ∧ 0 ≤ a1 ∧ a1 ≤ 9 ∧ 0 ≤ a2 ∧ a2 ≤ 2 ∧ 0 ≤ a3 ∧ a3 ≤ 1) : ezw_C l ρ B xa Hb D cA 92 d [ezw_i a0, ezw_i a1, ezw_i a2, ezw_i a3] (ezu_g e F A) (ezt_m92vQ e F A a0 a1 a2 a3) := by
  refine ezw_met (k := 0) rfl rfl ?_
  refine ezw_iload_n rfl rfl ?_
  refine ezw_bipush (10) rfl rfl ?_
  refine ezw_imul (k := 10 * a0) rfl (by omega) ?_
  refine ezw_iload_n rfl rfl ?_
  refine ezw_iadd (k := 10 * a0 + a1) rfl (by omega) ?_
  refine ezw_iconst (3) rfl rfl ?_
  refine ezw_imul (k := 30 * a0 + 3 * a1) rfl (by omega) ?_
  refine ezw_iload_n rfl rfl ?_
  refine ezw_iadd (k := 30 * a0 + 3 * a1 + a2) rfl (by omega) ?_
  refine ezw_iconst (2) rfl rfl ?_
  refine ezw_imul (k := 60 * a0 + 6 * a1 + 2 * a2) rfl (by omega) ?_
  refine ezw_iload_n rfl rfl ?_
  refine ezw_iadd (k := 60 * a0 + 6 * a1 + 2 * a2 + a3) rfl (by omega) ?_
  exact ezw_ireturn rfl rfl ⟨rfl, 60 * a0 + 6 * a1 + 2 * a2 + a3, ⟨by omega, by omega⟩, by omega, rfl⟩
def ezt_m21_45Q (e : Bool × Bool) (F : Nat → Nat → Int) (A : Nat → Int → Int) (a1 : Int) (a2 : Int) : Option ezq_V → (Nat → ezq_C) → Prop := fun v g' => ∃ (A' : Nat → Int → Int), ezu_g e F A' = g' ∧ ezs_T F A' ∧ (∀ p, ¬ (p = 45) → A' p = A p) ∧ (0 ≤ a1 → a1 < 480 → A' 45 a1 = a2) ∧ (∀ j, j ≠ a1 → A' 45 j = A 45 j) ∧ none = v
theorem ezt_m21_45 {a1 a2 : Int} {F : Nat → Nat → Int} {A : Nat → Int → Int} (hS : ezs_T F A) (hd : 0 ≤ d) (ha1 : ezw_in a1) (ha2 : ezw_in a2) : ezw_C l ρ B xa Hb D cA 21 d [ezw_p 45, ezw_i a1, ezw_i a2] (ezu_g e F A) (ezt_m21_45Q e F A a1 a2) := by
  refine ezw_met (k := 0) rfl rfl ?_
  refine ezw_aload_n rfl rfl ?_
  refine ezw_ifnull rfl ?_
  refine ezw_iload_n rfl rfl ?_
  refine ezw_if_lt rfl rfl ha1 (fun h5_0 => ?_) (fun h5_0 => ?_)
  · exact ezw_return rfl rfl ⟨A, rfl, hS, (fun _ _ => rfl), (by omega), (fun _ _ => rfl), rfl⟩
  · refine ezw_iload_n rfl rfl ?_
    refine ezw_aload_n rfl rfl ?_
    refine ezs_alen (k := 480) rfl rfl rfl rfl (by decide) (by decide) ?_
    refine ezw_icmp_ge rfl rfl ha1 ⟨by decide, by decide⟩ (fun h11_0 => ?_) (fun h11_0 => ?_)
    · exact ezw_return rfl rfl ⟨A, rfl, hS, (fun _ _ => rfl), (by omega), (fun _ _ => rfl), rfl⟩
    · refine ezw_aload_n rfl rfl ?_
      refine ezw_iload_n rfl rfl ?_
      refine ezw_iload_n rfl rfl ?_
      refine ezy_iastore hS rfl rfl rfl (by omega) (by omega) (by decide) ha2 (fun A1 hS mA1 nA1 => ?_)
      exact ezw_return rfl rfl ⟨A1, rfl, hS, (fun p h => by
            funext j
            rw [nA1 p j (fun z => h (z.1))]), (fun _ _ => mA1), (fun j hj => nA1 45 j (by omega)), rfl⟩
def ezt_m21_46Q (e : Bool × Bool) (F : Nat → Nat → Int) (A : Nat → Int → Int) (a1 : Int) (a2 : Int) : Option ezq_V → (Nat → ezq_C) → Prop := fun v g' => ∃ (A' : Nat → Int → Int), ezu_g e F A' = g' ∧ ezs_T F A' ∧ (∀ p, ¬ (p = 46) → A' p = A p) ∧ (0 ≤ a1 → a1 < 480 → A' 46 a1 = a2) ∧ (∀ j, j ≠ a1 → A' 46 j = A 46 j) ∧ none = v
theorem ezt_m21_46 {a1 a2 : Int} {F : Nat → Nat → Int} {A : Nat → Int → Int} (hS : ezs_T F A) (hd : 0 ≤ d) (ha1 : ezw_in a1) (ha2 : ezw_in a2) : ezw_C l ρ B xa Hb D cA 21 d [ezw_p 46, ezw_i a1, ezw_i a2] (ezu_g e F A) (ezt_m21_46Q e F A a1 a2) := by
  refine ezw_met (k := 0) rfl rfl ?_
  refine ezw_aload_n rfl rfl ?_
  refine ezw_ifnull rfl ?_
  refine ezw_iload_n rfl rfl ?_
  refine ezw_if_lt rfl rfl ha1 (fun h5_0 => ?_) (fun h5_0 => ?_)
  · exact ezw_return rfl rfl ⟨A, rfl, hS, (fun _ _ => rfl), (by omega), (fun _ _ => rfl), rfl⟩
  · refine ezw_iload_n rfl rfl ?_
    refine ezw_aload_n rfl rfl ?_
    refine ezs_alen (k := 480) rfl rfl rfl rfl (by decide) (by decide) ?_
    refine ezw_icmp_ge rfl rfl ha1 ⟨by decide, by decide⟩ (fun h11_0 => ?_) (fun h11_0 => ?_)
    · exact ezw_return rfl rfl ⟨A, rfl, hS, (fun _ _ => rfl), (by omega), (fun _ _ => rfl), rfl⟩
    · refine ezw_aload_n rfl rfl ?_
      refine ezw_iload_n rfl rfl ?_
      refine ezw_iload_n rfl rfl ?_
      refine ezy_iastore hS rfl rfl rfl (by omega) (by omega) (by decide) ha2 (fun A1 hS mA1 nA1 => ?_)
      exact ezw_return rfl rfl ⟨A1, rfl, hS, (fun p h => by
            funext j
            rw [nA1 p j (fun z => h (z.1))]), (fun _ _ => mA1), (fun j hj => nA1 46 j (by omega)), rfl⟩
def ezt_m21_12Q (e : Bool × Bool) (F : Nat → Nat → Int) (A : Nat → Int → Int) (a1 : Int) (a2 : Int) : Option ezq_V → (Nat → ezq_C) → Prop := fun v g' => ∃ (A' : Nat → Int → Int), ezu_g e F A' = g' ∧ ezs_T F A' ∧ (∀ p, ¬ (p = 12) → A' p = A p) ∧ (0 ≤ a1 → a1 < 4 → A' 12 a1 = a2) ∧ (∀ j, j ≠ a1 → A' 12 j = A 12 j) ∧ none = v
theorem ezt_m21_12 {a1 a2 : Int} {F : Nat → Nat → Int} {A : Nat → Int → Int} (hS : ezs_T F A) (hd : 0 ≤ d) (ha1 : ezw_in a1) (ha2 : ezw_in a2) : ezw_C l ρ B xa Hb D cA 21 d [ezw_p 12, ezw_i a1, ezw_i a2] (ezu_g e F A) (ezt_m21_12Q e F A a1 a2) := by
  refine ezw_met (k := 0) rfl rfl ?_
  refine ezw_aload_n rfl rfl ?_
  refine ezw_ifnull rfl ?_
  refine ezw_iload_n rfl rfl ?_
  refine ezw_if_lt rfl rfl ha1 (fun h5_0 => ?_) (fun h5_0 => ?_)
  · exact ezw_return rfl rfl ⟨A, rfl, hS, (fun _ _ => rfl), (by omega), (fun _ _ => rfl), rfl⟩
  · refine ezw_iload_n rfl rfl ?_
    refine ezw_aload_n rfl rfl ?_
    refine ezs_alen (k := 4) rfl rfl rfl rfl (by decide) (by decide) ?_
    refine ezw_icmp_ge rfl rfl ha1 ⟨by decide, by decide⟩ (fun h11_0 => ?_) (fun h11_0 => ?_)
    · exact ezw_return rfl rfl ⟨A, rfl, hS, (fun _ _ => rfl), (by omega), (fun _ _ => rfl), rfl⟩
    · refine ezw_aload_n rfl rfl ?_
      refine ezw_iload_n rfl rfl ?_
      refine ezw_iload_n rfl rfl ?_
      refine ezy_iastore hS rfl rfl rfl (by omega) (by omega) (by decide) ha2 (fun A1 hS mA1 nA1 => ?_)
      exact ezw_return rfl rfl ⟨A1, rfl, hS, (fun p h => by
            funext j
            rw [nA1 p j (fun z => h (z.1))]), (fun _ _ => mA1), (fun j hj => nA1 12 j (by omega)), rfl⟩
def ezt_m27_11Q (e : Bool × Bool) (F : Nat → Nat → Int) (A : Nat → Int → Int) (a1 : Int) : Option ezq_V → (Nat → ezq_C) → Prop := fun v g' => ezu_g e F A = g' ∧ ∃ u : Int, (ezw_in u) ∧ (0 ≤ a1 → a1 < 32 → u = A 11 a1) ∧ some (ezw_i u) = v
theorem ezt_m27_11 {a1 : Int} {F : Nat → Nat → Int} {A : Nat → Int → Int} (hS : ezs_T F A) (hd : 0 ≤ d) (ha1 : ezw_in a1) : ezw_C l ρ B xa Hb D cA 27 d [ezw_p 11, ezw_i a1] (ezu_g e F A) (ezt_m27_11Q e F A a1) := by
  refine ezw_met (k := 0) rfl rfl ?_
  refine ezw_aload_n rfl rfl ?_
  refine ezw_ifnull rfl ?_
  refine ezw_iload_n rfl rfl ?_
  refine ezw_if_lt rfl rfl ha1 (fun h5_0 => ?_) (fun h5_0 => ?_)
  · refine ezw_iconst (0) rfl rfl ?_
    exact ezw_ireturn rfl rfl ⟨rfl, (0), ⟨by decide, by decide⟩, by omega, rfl⟩
  · refine ezw_iload_n rfl rfl ?_
    refine ezw_aload_n rfl rfl ?_
    refine ezs_alen (k := 32) rfl rfl rfl rfl (by decide) (by decide) ?_
    refine ezw_icmp_ge rfl rfl ha1 ⟨by decide, by decide⟩ (fun h11_0 => ?_) (fun h11_0 => ?_)
    · refine ezw_iconst (0) rfl rfl ?_
      exact ezw_ireturn rfl rfl ⟨rfl, (0), ⟨by decide, by decide⟩, by omega, rfl⟩
    · refine ezw_aload_n rfl rfl ?_
      refine ezw_iload_n rfl rfl ?_
      refine ezy_iaload hS rfl rfl rfl (by omega) (by omega) (by decide) (fun u1 hu1 ku1 eu1 => ?_)
      refine ezw_goto rfl rfl ?_
      exact ezw_ireturn rfl rfl ⟨rfl, u1, hu1, by omega, rfl⟩
def ezt_m90_9vQ (e : Bool × Bool) (F : Nat → Nat → Int) (A : Nat → Int → Int) (pl : List Int) (w : Int) : Option ezq_V → (Nat → ezq_C) → Prop := fun v g' => ∃ (F' : Nat → Nat → Int), ezu_g e F' A = g' ∧ ezs_T F' A ∧ (∀ p j, ¬ (p = 9 ∧ (j = 5)) → F' p j = F p j) ∧ ∃ u : Int, (ezw_in u) ∧ (F' 9 5 = (pl.length : Int)) ∧ (u = w) ∧ some (ezw_i u) = v
theorem ezt_m90_9v {pl : List Int} {w : Int} {F : Nat → Nat → Int} {A : Nat → Int → Int} (hS : ezs_T F A) (hd : 1 ≤ d) (hp : F 9 5 = (pl.length : Int) + 1) (hP : ezv_P (w :: pl) (A 11)) (hl : pl.length < 32) : ezw_C l ρ B xa Hb D cA 90 d [ezw_p 9] (ezu_g e F A) (ezt_m90_9vQ e F A pl w) := by
  refine ezw_met (k := 0) rfl rfl ?_
  refine ezw_aload_n rfl rfl ?_
  refine ezw_dup rfl rfl ?_
  refine ezy_get_i hS rfl rfl rfl rfl rfl rfl (fun u1 hu1 ku1 eu1 => ?_)
  replace eu1 := eu1.symm
  subst eu1
  refine ezw_iconst (1) rfl rfl ?_
  refine ezw_isub (k := (F 9 5) - 1) rfl (by omega) ?_
  refine ezy_put_i hS rfl rfl rfl rfl rfl ⟨by omega, by omega⟩ (fun F2 hS mF2 nF2 => ?_)
  refine ezw_aload_n rfl rfl ?_
  refine ezs_getp (p := 11) rfl rfl rfl rfl rfl ?_
  refine ezw_aload_n rfl rfl ?_
  refine ezy_get_i hS rfl rfl rfl rfl rfl rfl (fun u3 hu3 ku3 eu3 => ?_)
  rw [mF2] at eu3
  replace eu3 := eu3.symm
  subst eu3
  have hw : A 11 (pl.length : Int) = w := hP.1
  refine ezw_call3_2 rfl (by omega) rfl rfl (ezt_m27_11 hS (by omega) hu3) ?_
  rintro _ _ ⟨rfl, u5, hu5, v_4, rfl⟩
  have w9_5 : F2 9 5 = (F 9 5) - 1 := by rw [mF2]
  exact ezw_ireturn rfl rfl ⟨F2, rfl, hS, (fun p j h => by rw [nF2 p j (fun z => h (⟨z.1, z.2⟩))]), u5, hu5, by omega, (by
        have h9 := v_4 (by omega) (by omega)
        rw [h9, show F 9 5 - 1 = (pl.length : Int) by omega]
        exact hw), rfl⟩
def ezt_m91vQ (e : Bool × Bool) (F : Nat → Nat → Int) (A : Nat → Int → Int) (a0 : Int) (a1 : Int) (a2 : Int) : Option ezq_V → (Nat → ezq_C) → Prop := fun v g' => ezu_g e F A = g' ∧ ∃ u : Int, (ezw_in u) ∧ (-12 ≤ a0 ∧ a0 ≤ -6 → u = ezv_bin a0 a1 a2) ∧ some (ezw_i u) = v
theorem ezt_m91v {a0 a1 a2 : Int} {F : Nat → Nat → Int} {A : Nat → Int → Int} (hS : ezs_T F A) (hd : 0 ≤ d) (ha0 : ezw_in a0) (ha1 : ezw_in a1) (ha2 : ezw_in a2) : ezw_C l ρ B xa Hb D cA 91 d [ezw_i a0, ezw_i a1, ezw_i a2] (ezu_g e F A) (ezt_m91vQ e F A a0 a1 a2) := by
  refine ezw_met (k := 0) rfl rfl ?_
  refine ezw_iload_n rfl rfl ?_
  by_cases q1 : a0 = (-12)
  · refine ezw_tableswitchE (v := -12) (p := 102) q1 rfl (by rfl) ?_
    refine ezw_iload_n rfl rfl ?_
    refine ezw_iload_n rfl rfl ?_
    refine ezv_imul rfl ?_
    exact ezw_ireturn rfl rfl ⟨rfl, (ezv_w (a1 * a2)), (ezv_w_in _), (fun z => by
          unfold ezv_bin
          first
            | (exfalso; omega)
            | (repeat (first | rw [if_pos (by omega)] | rw [if_neg (by omega)]))
          done), rfl⟩
  by_cases q2 : a0 = (-11)
  · refine ezw_tableswitchE (v := -11) (p := 98) q2 rfl (by rfl) ?_
    refine ezw_iload_n rfl rfl ?_
    refine ezw_iload_n rfl rfl ?_
    refine ezv_isub rfl ?_
    exact ezw_ireturn rfl rfl ⟨rfl, (ezv_w (a1 - a2)), (ezv_w_in _), (fun z => by
          unfold ezv_bin
          first
            | (exfalso; omega)
            | (repeat (first | rw [if_pos (by omega)] | rw [if_neg (by omega)]))
          done), rfl⟩
  by_cases q3 : a0 = (-10)
  · refine ezw_tableswitchE (v := -10) (p := 94) q3 rfl (by rfl) ?_
    refine ezw_iload_n rfl rfl ?_
    refine ezw_iload_n rfl rfl ?_
    refine ezv_iadd rfl ?_
    exact ezw_ireturn rfl rfl ⟨rfl, (ezv_w (a1 + a2)), (ezv_w_in _), (fun z => by
          unfold ezv_bin
          first
            | (exfalso; omega)
            | (repeat (first | rw [if_pos (by omega)] | rw [if_neg (by omega)]))
          done), rfl⟩
  by_cases q4 : a0 = (-9)
  · refine ezw_tableswitchE (v := -9) (p := 83) q4 rfl (by rfl) ?_
    refine ezw_iload_n rfl rfl ?_
    refine ezw_iload_n rfl rfl ?_
    refine ezw_icmp_ne rfl rfl ha1 ha2 (fun h85_4 => ?_) (fun h85_4 => ?_)
    · refine ezw_iconst (0) rfl rfl ?_
      exact ezw_ireturn rfl rfl ⟨rfl, (0), ⟨by decide, by decide⟩, (fun z => by
            unfold ezv_bin
            first
              | (exfalso; omega)
              | (repeat (first | rw [if_pos (by omega)] | rw [if_neg (by omega)]))
            done), rfl⟩
    · refine ezw_iconst (1) rfl rfl ?_
      refine ezw_goto rfl rfl ?_
      exact ezw_ireturn rfl rfl ⟨rfl, (1), ⟨by decide, by decide⟩, (fun z => by
            unfold ezv_bin
            first
              | (exfalso; omega)
              | (repeat (first | rw [if_pos (by omega)] | rw [if_neg (by omega)]))
            done), rfl⟩
  by_cases q5 : a0 = (-8)
  · refine ezw_tableswitchE (v := -8) (p := 72) q5 rfl (by rfl) ?_
    refine ezw_iload_n rfl rfl ?_
    refine ezw_iload_n rfl rfl ?_
    refine ezw_icmp_ge rfl rfl ha1 ha2 (fun h74_5 => ?_) (fun h74_5 => ?_)
    · refine ezw_iconst (0) rfl rfl ?_
      exact ezw_ireturn rfl rfl ⟨rfl, (0), ⟨by decide, by decide⟩, (fun z => by
            unfold ezv_bin
            first
              | (exfalso; omega)
              | (repeat (first | rw [if_pos (by omega)] | rw [if_neg (by omega)]))
            done), rfl⟩
    · refine ezw_iconst (1) rfl rfl ?_
      refine ezw_goto rfl rfl ?_
      exact ezw_ireturn rfl rfl ⟨rfl, (1), ⟨by decide, by decide⟩, (fun z => by
            unfold ezv_bin
            first
              | (exfalso; omega)
              | (repeat (first | rw [if_pos (by omega)] | rw [if_neg (by omega)]))
            done), rfl⟩
  by_cases q6 : a0 = (-7)
  · refine ezw_tableswitchE (v := -7) (p := 58) q6 rfl (by rfl) ?_
    refine ezw_iload_n rfl rfl ?_
    refine ezw_if_ne rfl rfl ha1 (fun h59_6 => ?_) (fun h59_6 => ?_)
    · refine ezw_iconst (1) rfl rfl ?_
      refine ezw_goto rfl rfl ?_
      exact ezw_ireturn rfl rfl ⟨rfl, (1), ⟨by decide, by decide⟩, (fun z => by
            unfold ezv_bin
            first
              | (exfalso; omega)
              | (repeat (first | rw [if_pos (by omega)] | rw [if_neg (by omega)]))
            done), rfl⟩
    · refine ezw_iload_n rfl rfl ?_
      refine ezw_if_eq rfl rfl ha2 (fun h63_6 => ?_) (fun h63_6 => ?_)
      · refine ezw_iconst (0) rfl rfl ?_
        exact ezw_ireturn rfl rfl ⟨rfl, (0), ⟨by decide, by decide⟩, (fun z => by
              unfold ezv_bin
              first
                | (exfalso; omega)
                | (repeat (first | rw [if_pos (by omega)] | rw [if_neg (by omega)]))
              done), rfl⟩
      · refine ezw_iconst (1) rfl rfl ?_
        refine ezw_goto rfl rfl ?_
        exact ezw_ireturn rfl rfl ⟨rfl, (1), ⟨by decide, by decide⟩, (fun z => by
              unfold ezv_bin
              first
                | (exfalso; omega)
                | (repeat (first | rw [if_pos (by omega)] | rw [if_neg (by omega)]))
              done), rfl⟩
  by_cases q7 : a0 = (-6)
  · refine ezw_tableswitchE (v := -6) (p := 44) q7 rfl (by rfl) ?_
    refine ezw_iload_n rfl rfl ?_
    refine ezw_if_eq rfl rfl ha1 (fun h45_7 => ?_) (fun h45_7 => ?_)
    · refine ezw_iconst (0) rfl rfl ?_
      exact ezw_ireturn rfl rfl ⟨rfl, (0), ⟨by decide, by decide⟩, (fun z => by
            unfold ezv_bin
            first
              | (exfalso; omega)
              | (repeat (first | rw [if_pos (by omega)] | rw [if_neg (by omega)]))
            done), rfl⟩
    · refine ezw_iload_n rfl rfl ?_
      refine ezw_if_eq rfl rfl ha2 (fun h49_7 => ?_) (fun h49_7 => ?_)
      · refine ezw_iconst (0) rfl rfl ?_
        exact ezw_ireturn rfl rfl ⟨rfl, (0), ⟨by decide, by decide⟩, (fun z => by
              unfold ezv_bin
              first
                | (exfalso; omega)
                | (repeat (first | rw [if_pos (by omega)] | rw [if_neg (by omega)]))
              done), rfl⟩
      · refine ezw_iconst (1) rfl rfl ?_
        refine ezw_goto rfl rfl ?_
        exact ezw_ireturn rfl rfl ⟨rfl, (1), ⟨by decide, by decide⟩, (fun z => by
              unfold ezv_bin
              first
                | (exfalso; omega)
                | (repeat (first | rw [if_pos (by omega)] | rw [if_neg (by omega)]))
              done), rfl⟩
  refine ezw_tableswitch (p := 106) rfl (ezs_swd ha0 (And.intro (And.intro ⟨by decide, by decide⟩ (fun z => q1 z.symm)) (And.intro (And.intro ⟨by decide, by decide⟩ (fun z => q2 z.symm)) (And.intro (And.intro ⟨by decide, by decide⟩ (fun z => q3 z.symm)) (And.intro (And.intro ⟨by decide, by decide⟩ (fun z => q4 z.symm)) (And.intro (And.intro ⟨by decide, by decide⟩ (fun z => q5 z.symm)) (And.intro (And.intro ⟨by decide, by decide⟩ (fun z => q6 z.symm)) (And.intro (And.intro ⟨by decide, by decide⟩ (fun z => q7 z.symm)) True.intro))))))) rfl) ?_
  refine ezw_iconst (0) rfl rfl ?_
  exact ezw_ireturn rfl rfl ⟨rfl, (0), ⟨by decide, by decide⟩, (fun z => by
        unfold ezv_bin
        first
          | (exfalso; omega)
          | (repeat (first | rw [if_pos (by omega)] | rw [if_neg (by omega)]))
        done), rfl⟩
def ezt_m21_11Q (e : Bool × Bool) (F : Nat → Nat → Int) (A : Nat → Int → Int) (a1 : Int) (a2 : Int) : Option ezq_V → (Nat → ezq_C) → Prop := fun v g' => ∃ (A' : Nat → Int → Int), ezu_g e F A' = g' ∧ ezs_T F A' ∧ (∀ p, ¬ (p = 11) → A' p = A p) ∧ (0 ≤ a1 → a1 < 32 → A' 11 a1 = a2) ∧ (∀ j, j ≠ a1 → A' 11 j = A 11 j) ∧ none = v
theorem ezt_m21_11 {a1 a2 : Int} {F : Nat → Nat → Int} {A : Nat → Int → Int} (hS : ezs_T F A) (hd : 0 ≤ d) (ha1 : ezw_in a1) (ha2 : ezw_in a2) : ezw_C l ρ B xa Hb D cA 21 d [ezw_p 11, ezw_i a1, ezw_i a2] (ezu_g e F A) (ezt_m21_11Q e F A a1 a2) := by
  refine ezw_met (k := 0) rfl rfl ?_
  refine ezw_aload_n rfl rfl ?_
  refine ezw_ifnull rfl ?_
  refine ezw_iload_n rfl rfl ?_
  refine ezw_if_lt rfl rfl ha1 (fun h5_0 => ?_) (fun h5_0 => ?_)
  · exact ezw_return rfl rfl ⟨A, rfl, hS, (fun _ _ => rfl), (by omega), (fun _ _ => rfl), rfl⟩
  · refine ezw_iload_n rfl rfl ?_
    refine ezw_aload_n rfl rfl ?_
    refine ezs_alen (k := 32) rfl rfl rfl rfl (by decide) (by decide) ?_
    refine ezw_icmp_ge rfl rfl ha1 ⟨by decide, by decide⟩ (fun h11_0 => ?_) (fun h11_0 => ?_)
    · exact ezw_return rfl rfl ⟨A, rfl, hS, (fun _ _ => rfl), (by omega), (fun _ _ => rfl), rfl⟩
    · refine ezw_aload_n rfl rfl ?_
      refine ezw_iload_n rfl rfl ?_
      refine ezw_iload_n rfl rfl ?_
      refine ezy_iastore hS rfl rfl rfl (by omega) (by omega) (by decide) ha2 (fun A1 hS mA1 nA1 => ?_)
      exact ezw_return rfl rfl ⟨A1, rfl, hS, (fun p h => by
            funext j
            rw [nA1 p j (fun z => h (z.1))]), (fun _ _ => mA1), (fun j hj => nA1 11 j (by omega)), rfl⟩
def ezt_m89_9vQ (e : Bool × Bool) (F : Nat → Nat → Int) (A : Nat → Int → Int) (pl : List Int) (a1 : Int) : Option ezq_V → (Nat → ezq_C) → Prop := fun v g' => ∃ (F' : Nat → Nat → Int) (A' : Nat → Int → Int), ezu_g e F' A' = g' ∧ ezs_T F' A' ∧ (∀ p j, ¬ (p = 9 ∧ (j = 5)) → F' p j = F p j) ∧ (∀ p, ¬ (p = 11) → A' p = A p) ∧ (F' 9 5 = (pl.length : Int) + 1) ∧ (ezv_P (a1 :: pl) (A' 11)) ∧ none = v
theorem ezt_m89_9v {pl : List Int} {a1 : Int} {F : Nat → Nat → Int} {A : Nat → Int → Int} (hS : ezs_T F A) (hd : 1 ≤ d) (ha1 : ezw_in a1) (hp : F 9 5 = (pl.length : Int)) (hP : ezv_P pl (A 11)) (hl : pl.length < 32) : ezw_C l ρ B xa Hb D cA 89 d [ezw_p 9, ezw_i a1] (ezu_g e F A) (ezt_m89_9vQ e F A pl a1) := by
  refine ezw_met (k := 0) rfl rfl ?_
  refine ezw_aload_n rfl rfl ?_
  refine ezs_getp (p := 11) rfl rfl rfl rfl rfl ?_
  refine ezw_aload_n rfl rfl ?_
  refine ezy_get_i hS rfl rfl rfl rfl rfl rfl (fun u1 hu1 ku1 eu1 => ?_)
  replace eu1 := eu1.symm
  subst eu1
  refine ezw_iload_n rfl rfl ?_
  refine ezw_call3_3 rfl (by omega) rfl rfl (ezt_m21_11 hS (by omega) hu1 ha1) ?_
  rintro _ _ ⟨A2, rfl, hS, nA2, m_2, n_2, rfl⟩
  refine ezw_aload_n rfl rfl ?_
  refine ezw_dup rfl rfl ?_
  refine ezy_get_i hS rfl rfl rfl rfl rfl rfl (fun u3 hu3 ku3 eu3 => ?_)
  replace eu3 := eu3.symm
  subst eu3
  refine ezw_iconst (1) rfl rfl ?_
  refine ezw_iadd (k := (F 9 5) + 1) rfl (by omega) ?_
  refine ezy_put_i hS rfl rfl rfl rfl rfl ⟨by omega, by omega⟩ (fun F4 hS mF4 nF4 => ?_)
  have w9_5 : F4 9 5 = (F 9 5) + 1 := by rw [mF4]
  exact ezw_return rfl rfl ⟨F4, A2, rfl, hS, (fun p j h => by rw [nF4 p j (fun z => h (⟨z.1, z.2⟩))]), (fun p h => by
        funext j
        rw [nA2 p (fun z => h (z))]), by omega, ⟨(by
        show A2 11 (pl.length : Int) = a1
        rw [← hp]
        exact m_2 (by omega) (by omega)), ezv_P_fr hP (fun j j0 j1 => by
        exact n_2 j (by omega))⟩, rfl⟩
def ezt_m27_12Q (e : Bool × Bool) (F : Nat → Nat → Int) (A : Nat → Int → Int) (a1 : Int) : Option ezq_V → (Nat → ezq_C) → Prop := fun v g' => ezu_g e F A = g' ∧ ∃ u : Int, (ezw_in u) ∧ (0 ≤ a1 → a1 < 4 → u = A 12 a1) ∧ some (ezw_i u) = v
theorem ezt_m27_12 {a1 : Int} {F : Nat → Nat → Int} {A : Nat → Int → Int} (hS : ezs_T F A) (hd : 0 ≤ d) (ha1 : ezw_in a1) : ezw_C l ρ B xa Hb D cA 27 d [ezw_p 12, ezw_i a1] (ezu_g e F A) (ezt_m27_12Q e F A a1) := by
  refine ezw_met (k := 0) rfl rfl ?_
  refine ezw_aload_n rfl rfl ?_
  refine ezw_ifnull rfl ?_
  refine ezw_iload_n rfl rfl ?_
  refine ezw_if_lt rfl rfl ha1 (fun h5_0 => ?_) (fun h5_0 => ?_)
  · refine ezw_iconst (0) rfl rfl ?_
    exact ezw_ireturn rfl rfl ⟨rfl, (0), ⟨by decide, by decide⟩, by omega, rfl⟩
  · refine ezw_iload_n rfl rfl ?_
    refine ezw_aload_n rfl rfl ?_
    refine ezs_alen (k := 4) rfl rfl rfl rfl (by decide) (by decide) ?_
    refine ezw_icmp_ge rfl rfl ha1 ⟨by decide, by decide⟩ (fun h11_0 => ?_) (fun h11_0 => ?_)
    · refine ezw_iconst (0) rfl rfl ?_
      exact ezw_ireturn rfl rfl ⟨rfl, (0), ⟨by decide, by decide⟩, by omega, rfl⟩
    · refine ezw_aload_n rfl rfl ?_
      refine ezw_iload_n rfl rfl ?_
      refine ezy_iaload hS rfl rfl rfl (by omega) (by omega) (by decide) (fun u1 hu1 ku1 eu1 => ?_)
      refine ezw_goto rfl rfl ?_
      exact ezw_ireturn rfl rfl ⟨rfl, u1, hu1, by omega, rfl⟩
def ezt_m88_9vQ (e : Bool × Bool) (F : Nat → Nat → Int) (A : Nat → Int → Int) (pl : List Int) (pm : List Int) (fc : Int → Int) (a1 : Int) : Option ezq_V → (Nat → ezq_C) → Prop := fun v g' => ∃ (F' : Nat → Nat → Int) (A' : Nat → Int → Int), ezu_g e F' A' = g' ∧ ezs_T F' A' ∧ (∀ p j, ¬ (p = 9 ∧ (j = 5)) → F' p j = F p j) ∧ (∀ p, ¬ (p = 11) → A' p = A p) ∧ (F' 9 5 = (pm.length : Int)) ∧ (ezv_P pm (A' 11)) ∧ none = v
theorem ezt_m88_9v {pl : List Int} {pm : List Int} {fc : Int → Int} {a1 : Int} {F : Nat → Nat → Int} {A : Nat → Int → Int} (hS : ezs_T F A) (hd : 2 ≤ d) (ha1 : ezw_in a1) (hp : F 9 5 = (pl.length : Int)) (hP : ezv_P pl (A 11)) (hL : pl.length ≤ 32) (hs : ezv_st fc a1 pl = some pm) (hf : ∀ k, 0 ≤ k → k < 4 → A 12 k = fc k) (he : -12 ≤ a1) : ezw_C l ρ B xa Hb D cA 88 d [ezw_p 9, ezw_i a1] (ezu_g e F A) (ezt_m88_9vQ e F A pl pm fc a1) := by
  refine ezw_met (k := 2) rfl rfl ?_
  refine ezw_iload_n rfl rfl ?_
  refine ezw_if_lt rfl rfl ha1 (fun h1_0 => ?_) (fun h1_0 => ?_)
  · refine ezw_iload_n rfl rfl ?_
    refine ezw_bipush (-4) rfl rfl ?_
    refine ezw_icmp_lt rfl rfl ha1 ⟨by decide, by decide⟩ (fun h15_0 => ?_) (fun h15_0 => ?_)
    · refine ezw_iload_n rfl rfl ?_
      refine ezw_bipush (-5) rfl rfl ?_
      refine ezw_icmp_ne rfl rfl ha1 ⟨by decide, by decide⟩ (fun h38_0 => ?_) (fun h38_0 => ?_)
      · obtain ⟨sb, sa, sq, se1, se2⟩ := ezv_st_b hs (by omega)
        subst se1
        have hl1 : sq.length + 1 + 1 ≤ 32 := hL
        have hp1 : F 9 5 = (sq.length : Int) + 1 + 1 := by
          rw [hp]
          simp <;> omega
        refine ezw_aload_n rfl rfl ?_
        refine ezw_call0_0 rfl (by omega) (ezu_at rfl) rfl rfl rfl rfl (ezt_m90_9v (pl := (sa :: sq)) (w := sb) hS (by omega) (by rw [hp1]; simp) hP (by show sq.length + 1 < 32; omega)) ?_
        rintro _ _ ⟨F1, rfl, hS, nF1, u2, hu2, tp_1, an_1, rfl⟩
        refine ezw_istore_n rfl rfl ?_
        refine ezw_aload_n rfl rfl ?_
        refine ezw_call0_0 rfl (by omega) (ezu_at rfl) rfl rfl rfl rfl (ezt_m90_9v (pl := sq) (w := sa) hS (by omega) (by rw [tp_1]; simp) hP.2 (by omega)) ?_
        rintro _ _ ⟨F3, rfl, hS, nF3, u4, hu4, tp_3, an_3, rfl⟩
        refine ezw_istore_n rfl rfl ?_
        refine ezw_aload_n rfl rfl ?_
        refine ezw_iload_n rfl rfl ?_
        refine ezw_iload_n rfl rfl ?_
        refine ezw_iload_n rfl rfl ?_
        refine ezw_call2_3 rfl (by omega) rfl rfl (ezt_m91v hS (by omega) ha1 hu4 hu2) ?_
        rintro _ _ ⟨rfl, u6, hu6, an_5, rfl⟩
        refine ezw_call0_1 rfl (by omega) (ezu_at rfl) rfl rfl rfl rfl (ezt_m89_9v (pl := sq) hS (by omega) hu6 tp_3 hP.2.2 (by omega)) ?_
        rintro _ _ ⟨F7, A7, rfl, hS, nF7, nA7, tp_7, P_7, rfl⟩
        exact ezw_return rfl rfl ⟨F7, A7, rfl, hS, (fun p j h => by rw [nF7 p j (fun z => h (⟨z.1, z.2⟩)), nF3 p j (fun z => h (⟨z.1, z.2⟩)), nF1 p j (fun z => h (⟨z.1, z.2⟩))]), (fun p h => by
              funext j
              rw [nA7 p (fun z => h (z))]), (by
              rw [se2, tp_7]
              simp), (by
              rw [se2]
              have h9 := P_7
              rw [an_5 ⟨by omega, by omega⟩, an_3, an_1] at h9
              exact h9), rfl⟩
      · obtain ⟨sa, sq, se1, se2⟩ := ezv_st_n hs (by omega)
        subst se1
        have hl1 : sq.length + 1 ≤ 32 := hL
        have hp1 : F 9 5 = (sq.length : Int) + 1 := by
          rw [hp]
          simp
        refine ezw_aload_n rfl rfl ?_
        refine ezw_aload_n rfl rfl ?_
        refine ezw_call0_0 rfl (by omega) (ezu_at rfl) rfl rfl rfl rfl (ezt_m90_9v (pl := sq) (w := sa) hS (by omega) hp1 hP (by omega)) ?_
        rintro _ _ ⟨F8, rfl, hS, nF8, u9, hu9, tp_8, an_8, rfl⟩
        refine ezw_if_ne rfl rfl hu9 (fun h46_9 => ?_) (fun h46_9 => ?_)
        · refine ezw_iconst (0) rfl rfl ?_
          refine ezw_call0_1 rfl (by omega) (ezu_at rfl) rfl rfl rfl rfl (ezt_m89_9v (pl := sq) hS (by omega) ⟨by decide, by decide⟩ tp_8 hP.2 (by omega)) ?_
          rintro _ _ ⟨F10, A10, rfl, hS, nF10, nA10, tp_10, P_10, rfl⟩
          refine ezw_goto rfl rfl ?_
          exact ezw_return rfl rfl ⟨F10, A10, rfl, hS, (fun p j h => by rw [nF10 p j (fun z => h (⟨z.1, z.2⟩)), nF8 p j (fun z => h (⟨z.1, z.2⟩))]), (fun p h => by
                funext j
                rw [nA10 p (fun z => h (z))]), (by
                rw [se2, tp_10]
                simp), (by
                rw [se2]
                have h9 := P_10
                first
                  | (rw [if_pos (by omega)]; exact h9)
                  | (rw [if_neg (by omega)]; exact h9)), rfl⟩
        · refine ezw_iconst (1) rfl rfl ?_
          refine ezw_goto rfl rfl ?_
          refine ezw_call0_1 rfl (by omega) (ezu_at rfl) rfl rfl rfl rfl (ezt_m89_9v (pl := sq) hS (by omega) ⟨by decide, by decide⟩ tp_8 hP.2 (by omega)) ?_
          rintro _ _ ⟨F11, A11, rfl, hS, nF11, nA11, tp_11, P_11, rfl⟩
          refine ezw_goto rfl rfl ?_
          exact ezw_return rfl rfl ⟨F11, A11, rfl, hS, (fun p j h => by rw [nF11 p j (fun z => h (⟨z.1, z.2⟩)), nF8 p j (fun z => h (⟨z.1, z.2⟩))]), (fun p h => by
                funext j
                rw [nA11 p (fun z => h (z))]), (by
                rw [se2, tp_11]
                simp), (by
                rw [se2]
                have h9 := P_11
                first
                  | (rw [if_pos (by omega)]; exact h9)
                  | (rw [if_neg (by omega)]; exact h9)), rfl⟩
    · have hs2 := ezv_st_f hs (by omega) (by omega)
      refine ezw_aload_n rfl rfl ?_
      refine ezw_aload_n rfl rfl ?_
      refine ezs_getp (p := 12) rfl rfl rfl rfl rfl ?_
      refine ezw_iconst (-1) rfl rfl ?_
      refine ezw_iload_n rfl rfl ?_
      refine ezw_isub (k := -a1 - 1) rfl (by omega) ?_
      refine ezw_call3_2 rfl (by omega) rfl rfl (ezt_m27_12 hS (by omega) ⟨by omega, by omega⟩) ?_
      rintro _ _ ⟨rfl, u13, hu13, v_12, rfl⟩
      refine ezw_call0_1 rfl (by omega) (ezu_at rfl) rfl rfl rfl rfl (ezt_m89_9v (pl := pl) hS (by omega) hu13 hp hP hs2.2) ?_
      rintro _ _ ⟨F14, A14, rfl, hS, nF14, nA14, tp_14, P_14, rfl⟩
      refine ezw_goto rfl rfl ?_
      exact ezw_return rfl rfl ⟨F14, A14, rfl, hS, (fun p j h => by rw [nF14 p j (fun z => h (⟨z.1, z.2⟩))]), (fun p h => by
            funext j
            rw [nA14 p (fun z => h (z))]), (by
            rw [hs2.1, tp_14]
            simp), (by
            have h8 := v_12 (by omega) (by omega)
            rw [show -a1 - 1 = -1 - a1 by omega] at h8
            rw [hs2.1, ← hf (-1 - a1) (by omega) (by omega), ← h8]
            exact P_14), rfl⟩
  · have hs2 := ezv_st_p hs (by omega)
    refine ezw_aload_n rfl rfl ?_
    refine ezw_iload_n rfl rfl ?_
    refine ezw_call0_1 rfl (by omega) (ezu_at rfl) rfl rfl rfl rfl (ezt_m89_9v (pl := pl) hS (by omega) ha1 hp hP hs2.2) ?_
    rintro _ _ ⟨F15, A15, rfl, hS, nF15, nA15, tp_15, P_15, rfl⟩
    refine ezw_goto rfl rfl ?_
    exact ezw_return rfl rfl ⟨F15, A15, rfl, hS, (fun p j h => by rw [nF15 p j (fun z => h (⟨z.1, z.2⟩))]), (fun p h => by
          funext j
          rw [nA15 p (fun z => h (z))]), (by
          rw [hs2.1, tp_15]
          simp), (by
          rw [hs2.1]
          exact P_15), rfl⟩
def ezt_m87_9vQ (e : Bool × Bool) (F : Nat → Nat → Int) (A : Nat → Int → Int) (y : Int × (Int → Int)) (a1 : Int) (a2 : Int) (a3 : Int) (a4 : Int) : Option ezq_V → (Nat → ezq_C) → Prop := fun v g' => ∃ (F' : Nat → Nat → Int) (A' : Nat → Int → Int), ezu_g e F' A' = g' ∧ ezs_T F' A' ∧ (∀ p j, ¬ (p = 9 ∧ (j = 5)) → F' p j = F p j) ∧ (∀ p, ¬ (p = 11 ∨ p = 12) → A' p = A p) ∧ ∃ u : Int, (ezw_in u) ∧ (u = ezv_val (ezv_fc a1 a2 a3 a4) y) ∧ some (ezw_i u) = v
theorem ezt_m87_9v {y : Int × (Int → Int)} {a1 a2 a3 a4 : Int} {F : Nat → Nat → Int} {A : Nat → Int → Int} (hS : ezs_T F A) (hd : 3 ≤ d) (ha1 : ezw_in a1) (ha2 : ezw_in a2) (ha3 : ezw_in a3) (ha4 : ezw_in a4) (lw : ezt_LW 9 y F A) (hy : ezv_L y) : ezw_C l ρ B xa Hb D cA 87 d [ezw_p 9, ezw_i a1, ezw_i a2, ezw_i a3, ezw_i a4] (ezu_g e F A) (ezt_m87_9vQ e F A y a1 a2 a3 a4) := by
  refine ezw_met (k := 1) rfl rfl ?_
  have hy0 := hy.1
  have hy1000 := hy.2.1
  have hsz : F 9 4 = y.1 := (lw.2 (by omega)).1
  refine ezw_aload_n rfl rfl ?_
  refine ezs_getp (p := 12) rfl rfl rfl rfl rfl ?_
  refine ezw_iconst (0) rfl rfl ?_
  refine ezw_iload_n rfl rfl ?_
  refine ezw_call3_3 rfl (by omega) rfl rfl (ezt_m21_12 hS (by omega) ⟨by decide, by decide⟩ ha1) ?_
  rintro _ _ ⟨A1, rfl, hS, nA1, m_1, n_1, rfl⟩
  refine ezw_aload_n rfl rfl ?_
  refine ezs_getp (p := 12) rfl rfl rfl rfl rfl ?_
  refine ezw_iconst (1) rfl rfl ?_
  refine ezw_iload_n rfl rfl ?_
  refine ezw_call3_3 rfl (by omega) rfl rfl (ezt_m21_12 hS (by omega) ⟨by decide, by decide⟩ ha2) ?_
  rintro _ _ ⟨A2, rfl, hS, nA2, m_2, n_2, rfl⟩
  refine ezw_aload_n rfl rfl ?_
  refine ezs_getp (p := 12) rfl rfl rfl rfl rfl ?_
  refine ezw_iconst (2) rfl rfl ?_
  refine ezw_iload_n rfl rfl ?_
  refine ezw_call3_3 rfl (by omega) rfl rfl (ezt_m21_12 hS (by omega) ⟨by decide, by decide⟩ ha3) ?_
  rintro _ _ ⟨A3, rfl, hS, nA3, m_3, n_3, rfl⟩
  refine ezw_aload_n rfl rfl ?_
  refine ezs_getp (p := 12) rfl rfl rfl rfl rfl ?_
  refine ezw_iconst (3) rfl rfl ?_
  refine ezw_iload rfl rfl ?_
  refine ezw_call3_3 rfl (by omega) rfl rfl (ezt_m21_12 hS (by omega) ⟨by decide, by decide⟩ ha4) ?_
  rintro _ _ ⟨A4, rfl, hS, nA4, m_4, n_4, rfl⟩
  have hf : ∀ k, 0 ≤ k → k < 4 → A4 12 k = (ezv_fc a1 a2 a3 a4) k := by
    intro k g0 g1
    rcases (show k = 0 ∨ k = 1 ∨ k = 2 ∨ k = 3 by omega) with rfl | rfl | rfl | rfl
    · exact (by rw [n_4 0 (by decide), n_3 0 (by decide), n_2 0 (by decide), m_1 (by decide) (by decide)]; rfl)
    · exact (by rw [n_4 1 (by decide), n_3 1 (by decide), m_2 (by decide) (by decide)]; rfl)
    · exact (by rw [n_4 2 (by decide), m_3 (by decide) (by decide)]; rfl)
    · exact (by rw [m_4 (by decide) (by decide)]; rfl)
  refine ezw_aload_n rfl rfl ?_
  refine ezw_iconst (0) rfl rfl ?_
  refine ezy_put_i hS rfl rfl rfl rfl rfl ⟨by decide, by decide⟩ (fun F5 hS mF5 nF5 => ?_)
  refine ezw_iconst (0) rfl rfl ?_
  refine ezw_istore rfl rfl ?_
  have L45_7 : ∀ c6 : Int, ezw_in c6 → ∀ F_7 : Nat → Nat → Int, ∀ A_7 : Nat → Int → Int, ezs_T F_7 A_7 → (∀ p j, ¬ (p = 9 ∧ (j = 5)) → F_7 p j = F5 p j) → (∀ p, ¬ (p = 11) → A_7 p = A4 p) → ((0) ≤ c6) → (∃ pl : List Int, F_7 9 5 = (pl.length : Int) ∧ ezv_P pl (A_7 11) ∧ pl.length ≤ 32 ∧ ezv_rn (ezv_fc a1 a2 a3 a4) y.2 (y.1 - c6).toNat c6 pl = some [ezv_val (ezv_fc a1 a2 a3 a4) y]) → ezw_E l ρ B xa Hb D cA d ezq_re87 (ezt_m87_9vQ e F A y a1 a2 a3 a4) 45 [some (ezw_p 9), some (ezw_i a1), some (ezw_i a2), some (ezw_i a3), some (ezw_i a4), some (ezw_i c6)] [] (ezu_g e F_7 A_7) := by
    refine ezs_up ?_
    intro c6 hc6 ihc6 F_7 A_7 hS nF_7 nA_7 g_7 iv_7
    obtain ⟨pl, hp, hP, hL, hrn⟩ := iv_7
    refine ezw_iload rfl rfl ?_
    refine ezw_aload_n rfl rfl ?_
    refine ezy_get_i hS rfl rfl rfl rfl rfl rfl (fun u8 hu8 ku8 eu8 => ?_)
    rw [nF_7 9 4 (by decide), nF5 9 4 (by decide)] at eu8
    replace eu8 := eu8.symm
    subst eu8
    refine ezw_icmp_ge rfl rfl hc6 hu8 (fun h51_8 => ?_) (fun h51_8 => ?_)
    · refine ezw_aload_n rfl rfl ?_
      have hy2 : (y.1 - c6).toNat = 0 := by omega
      rw [hy2] at hrn
      have hpl : pl = [ezv_val (ezv_fc a1 a2 a3 a4) y] := by
        have h9 : some pl = some [ezv_val (ezv_fc a1 a2 a3 a4) y] := hrn
        injection h9
      subst hpl
      refine ezw_call0_0 rfl (by omega) (ezu_at rfl) rfl rfl rfl rfl (ezt_m90_9v (pl := []) (w := (ezv_val (ezv_fc a1 a2 a3 a4) y)) hS (by omega) hp hP (by decide)) ?_
      rintro _ _ ⟨F9, rfl, hS, nF9, u10, hu10, tp_9, an_9, rfl⟩
      exact ezw_ireturn rfl rfl ⟨F9, A_7, rfl, hS, (fun p j h => by rw [nF9 p j (fun z => h (⟨z.1, z.2⟩)), nF_7 p j (fun z => h (⟨z.1, z.2⟩)), nF5 p j (fun z => h (⟨z.1, z.2⟩))]), (fun p h => by
            funext j
            rw [nA_7 p (fun z => h (Or.inl z)), nA4 p (fun z => h (Or.inr z)), nA3 p (fun z => h (Or.inr z)), nA2 p (fun z => h (Or.inr z)), nA1 p (fun z => h (Or.inr z))]), u10, hu10, an_9, rfl⟩
    · refine ezw_iload rfl rfl ?_
      refine ezw_aload_n rfl rfl ?_
      refine ezs_getp (p := 10) rfl rfl rfl rfl rfl ?_
      refine ezs_alen (k := 1000) rfl rfl rfl rfl (by decide) (by decide) ?_
      refine ezw_icmp_ge rfl rfl hc6 ⟨by decide, by decide⟩ (fun h61_10 => ?_) (fun h61_10 => ?_)
      · refine ezw_aload_n rfl rfl ?_
        have hy2 : (y.1 - c6).toNat = 0 := by omega
        rw [hy2] at hrn
        have hpl : pl = [ezv_val (ezv_fc a1 a2 a3 a4) y] := by
          have h9 : some pl = some [ezv_val (ezv_fc a1 a2 a3 a4) y] := hrn
          injection h9
        subst hpl
        refine ezw_call0_0 rfl (by omega) (ezu_at rfl) rfl rfl rfl rfl (ezt_m90_9v (pl := []) (w := (ezv_val (ezv_fc a1 a2 a3 a4) y)) hS (by omega) hp hP (by decide)) ?_
        rintro _ _ ⟨F11, rfl, hS, nF11, u12, hu12, tp_11, an_11, rfl⟩
        exact ezw_ireturn rfl rfl ⟨F11, A_7, rfl, hS, (fun p j h => by rw [nF11 p j (fun z => h (⟨z.1, z.2⟩)), nF_7 p j (fun z => h (⟨z.1, z.2⟩)), nF5 p j (fun z => h (⟨z.1, z.2⟩))]), (fun p h => by
              funext j
              rw [nA_7 p (fun z => h (Or.inl z)), nA4 p (fun z => h (Or.inr z)), nA3 p (fun z => h (Or.inr z)), nA2 p (fun z => h (Or.inr z)), nA1 p (fun z => h (Or.inr z))]), u12, hu12, an_11, rfl⟩
      · refine ezw_aload_n rfl rfl ?_
        refine ezw_aload_n rfl rfl ?_
        refine ezs_getp (p := 10) rfl rfl rfl rfl rfl ?_
        refine ezw_iload rfl rfl ?_
        refine ezy_iaload hS rfl rfl rfl (by omega) (by omega) (by decide) (fun u13 hu13 ku13 eu13 => ?_)
        rw [nA_7 10 (by decide), nA4 10 (by decide), nA3 10 (by decide), nA2 10 (by decide), nA1 10 (by decide)] at eu13
        have hy1 : c6 < y.1 := by omega
        have hcode : u13 = y.2 c6 := by
          rw [eu13]
          exact (lw.2 (by omega)).2 _ (by omega) hy1 (by omega)
        have hb := hy.2.2.2 _ (show 0 ≤ c6 by omega) hy1
        obtain ⟨pm, hpm, hrn2⟩ := ezv_rn_i (y.1 - (c6 + 1)).toNat c6 pl _ (by rw [show (y.1 - (c6 + 1)).toNat + 1 = (y.1 - c6).toNat by omega]; exact hrn)
        rw [← hcode] at hpm
        refine ezw_call0_1 rfl (by omega) (ezu_at rfl) rfl rfl rfl rfl (ezt_m88_9v (pl := pl) (pm := pm) (fc := (ezv_fc a1 a2 a3 a4)) hS (by omega) hu13 hp hP hL hpm (by rw [nA_7 12 (by decide)]; exact hf) (by omega)) ?_
        rintro _ _ ⟨F14, A14, rfl, hS, nF14, nA14, tp_14, P_14, rfl⟩
        refine ezw_iinc (k := c6 + 1) (1) rfl rfl rfl (by omega) rfl ?_
        refine ezw_goto rfl rfl ?_
        exact ezw_keepE [true, true, true, true, true, true] (ihc6 (c6 + 1) (by omega) ⟨by omega, by omega⟩ F14 A14 hS (fun p j h => by rw [nF14 p j (fun z => h (⟨z.1, z.2⟩)), nF_7 p j (fun z => h (⟨z.1, z.2⟩))]) (fun p h => by
              funext j
              rw [nA14 p (fun z => h (z)), nA_7 p (fun z => h (z))]) (by omega) (⟨pm, tp_14, P_14, ezv_st_len hpm hL, hrn2⟩))
  have w9_5 : F5 9 5 = (0) := by rw [mF5]
  exact ezw_keepE [true, true, true, true, true, true] (L45_7 (0) ⟨by decide, by decide⟩ F5 A4 hS (fun _ _ _ => rfl) (fun _ _ => rfl) (by omega) (⟨[], (by rw [mF5]; rfl), True.intro, by decide, (by rw [Int.sub_zero]; exact ezv_val_v hy)⟩))
def ezt_m21_8Q (e : Bool × Bool) (F : Nat → Nat → Int) (A : Nat → Int → Int) (a1 : Int) (a2 : Int) : Option ezq_V → (Nat → ezq_C) → Prop := fun v g' => ∃ (A' : Nat → Int → Int), ezu_g e F A' = g' ∧ ezs_T F A' ∧ (∀ p, ¬ (p = 8) → A' p = A p) ∧ (0 ≤ a1 → a1 < 4 → A' 8 a1 = a2) ∧ (∀ j, j ≠ a1 → A' 8 j = A 8 j) ∧ none = v
theorem ezt_m21_8 {a1 a2 : Int} {F : Nat → Nat → Int} {A : Nat → Int → Int} (hS : ezs_T F A) (hd : 0 ≤ d) (ha1 : ezw_in a1) (ha2 : ezw_in a2) : ezw_C l ρ B xa Hb D cA 21 d [ezw_p 8, ezw_i a1, ezw_i a2] (ezu_g e F A) (ezt_m21_8Q e F A a1 a2) := by
  refine ezw_met (k := 0) rfl rfl ?_
  refine ezw_aload_n rfl rfl ?_
  refine ezw_ifnull rfl ?_
  refine ezw_iload_n rfl rfl ?_
  refine ezw_if_lt rfl rfl ha1 (fun h5_0 => ?_) (fun h5_0 => ?_)
  · exact ezw_return rfl rfl ⟨A, rfl, hS, (fun _ _ => rfl), (by omega), (fun _ _ => rfl), rfl⟩
  · refine ezw_iload_n rfl rfl ?_
    refine ezw_aload_n rfl rfl ?_
    refine ezs_alen (k := 4) rfl rfl rfl rfl (by decide) (by decide) ?_
    refine ezw_icmp_ge rfl rfl ha1 ⟨by decide, by decide⟩ (fun h11_0 => ?_) (fun h11_0 => ?_)
    · exact ezw_return rfl rfl ⟨A, rfl, hS, (fun _ _ => rfl), (by omega), (fun _ _ => rfl), rfl⟩
    · refine ezw_aload_n rfl rfl ?_
      refine ezw_iload_n rfl rfl ?_
      refine ezw_iload_n rfl rfl ?_
      refine ezy_iastore hS rfl rfl rfl (by omega) (by omega) (by decide) ha2 (fun A1 hS mA1 nA1 => ?_)
      exact ezw_return rfl rfl ⟨A1, rfl, hS, (fun p h => by
            funext j
            rw [nA1 p j (fun z => h (z.1))]), (fun _ _ => mA1), (fun j hj => nA1 8 j (by omega)), rfl⟩
def ezt_m27_7Q (e : Bool × Bool) (F : Nat → Nat → Int) (A : Nat → Int → Int) (a1 : Int) : Option ezq_V → (Nat → ezq_C) → Prop := fun v g' => ezu_g e F A = g' ∧ ∃ u : Int, (ezw_in u) ∧ (0 ≤ a1 → a1 < 32 → u = A 7 a1) ∧ some (ezw_i u) = v
theorem ezt_m27_7 {a1 : Int} {F : Nat → Nat → Int} {A : Nat → Int → Int} (hS : ezs_T F A) (hd : 0 ≤ d) (ha1 : ezw_in a1) : ezw_C l ρ B xa Hb D cA 27 d [ezw_p 7, ezw_i a1] (ezu_g e F A) (ezt_m27_7Q e F A a1) := by
  refine ezw_met (k := 0) rfl rfl ?_
  refine ezw_aload_n rfl rfl ?_
  refine ezw_ifnull rfl ?_
  refine ezw_iload_n rfl rfl ?_
  refine ezw_if_lt rfl rfl ha1 (fun h5_0 => ?_) (fun h5_0 => ?_)
  · refine ezw_iconst (0) rfl rfl ?_
    exact ezw_ireturn rfl rfl ⟨rfl, (0), ⟨by decide, by decide⟩, by omega, rfl⟩
  · refine ezw_iload_n rfl rfl ?_
    refine ezw_aload_n rfl rfl ?_
    refine ezs_alen (k := 32) rfl rfl rfl rfl (by decide) (by decide) ?_
    refine ezw_icmp_ge rfl rfl ha1 ⟨by decide, by decide⟩ (fun h11_0 => ?_) (fun h11_0 => ?_)
    · refine ezw_iconst (0) rfl rfl ?_
      exact ezw_ireturn rfl rfl ⟨rfl, (0), ⟨by decide, by decide⟩, by omega, rfl⟩
    · refine ezw_aload_n rfl rfl ?_
      refine ezw_iload_n rfl rfl ?_
      refine ezy_iaload hS rfl rfl rfl (by omega) (by omega) (by decide) (fun u1 hu1 ku1 eu1 => ?_)
      refine ezw_goto rfl rfl ?_
      exact ezw_ireturn rfl rfl ⟨rfl, u1, hu1, by omega, rfl⟩
def ezt_m90_5vQ (e : Bool × Bool) (F : Nat → Nat → Int) (A : Nat → Int → Int) (pl : List Int) (w : Int) : Option ezq_V → (Nat → ezq_C) → Prop := fun v g' => ∃ (F' : Nat → Nat → Int), ezu_g e F' A = g' ∧ ezs_T F' A ∧ (∀ p j, ¬ (p = 5 ∧ (j = 5)) → F' p j = F p j) ∧ ∃ u : Int, (ezw_in u) ∧ (F' 5 5 = (pl.length : Int)) ∧ (u = w) ∧ some (ezw_i u) = v
theorem ezt_m90_5v {pl : List Int} {w : Int} {F : Nat → Nat → Int} {A : Nat → Int → Int} (hS : ezs_T F A) (hd : 1 ≤ d) (hp : F 5 5 = (pl.length : Int) + 1) (hP : ezv_P (w :: pl) (A 7)) (hl : pl.length < 32) : ezw_C l ρ B xa Hb D cA 90 d [ezw_p 5] (ezu_g e F A) (ezt_m90_5vQ e F A pl w) := by
  refine ezw_met (k := 0) rfl rfl ?_
  refine ezw_aload_n rfl rfl ?_
  refine ezw_dup rfl rfl ?_
  refine ezy_get_i hS rfl rfl rfl rfl rfl rfl (fun u1 hu1 ku1 eu1 => ?_)
  replace eu1 := eu1.symm
  subst eu1
  refine ezw_iconst (1) rfl rfl ?_
  refine ezw_isub (k := (F 5 5) - 1) rfl (by omega) ?_
  refine ezy_put_i hS rfl rfl rfl rfl rfl ⟨by omega, by omega⟩ (fun F2 hS mF2 nF2 => ?_)
  refine ezw_aload_n rfl rfl ?_
  refine ezs_getp (p := 7) rfl rfl rfl rfl rfl ?_
  refine ezw_aload_n rfl rfl ?_
  refine ezy_get_i hS rfl rfl rfl rfl rfl rfl (fun u3 hu3 ku3 eu3 => ?_)
  rw [mF2] at eu3
  replace eu3 := eu3.symm
  subst eu3
  have hw : A 7 (pl.length : Int) = w := hP.1
  refine ezw_call3_2 rfl (by omega) rfl rfl (ezt_m27_7 hS (by omega) hu3) ?_
  rintro _ _ ⟨rfl, u5, hu5, v_4, rfl⟩
  have w5_5 : F2 5 5 = (F 5 5) - 1 := by rw [mF2]
  exact ezw_ireturn rfl rfl ⟨F2, rfl, hS, (fun p j h => by rw [nF2 p j (fun z => h (⟨z.1, z.2⟩))]), u5, hu5, by omega, (by
        have h9 := v_4 (by omega) (by omega)
        rw [h9, show F 5 5 - 1 = (pl.length : Int) by omega]
        exact hw), rfl⟩
def ezt_m21_7Q (e : Bool × Bool) (F : Nat → Nat → Int) (A : Nat → Int → Int) (a1 : Int) (a2 : Int) : Option ezq_V → (Nat → ezq_C) → Prop := fun v g' => ∃ (A' : Nat → Int → Int), ezu_g e F A' = g' ∧ ezs_T F A' ∧ (∀ p, ¬ (p = 7) → A' p = A p) ∧ (0 ≤ a1 → a1 < 32 → A' 7 a1 = a2) ∧ (∀ j, j ≠ a1 → A' 7 j = A 7 j) ∧ none = v
theorem ezt_m21_7 {a1 a2 : Int} {F : Nat → Nat → Int} {A : Nat → Int → Int} (hS : ezs_T F A) (hd : 0 ≤ d) (ha1 : ezw_in a1) (ha2 : ezw_in a2) : ezw_C l ρ B xa Hb D cA 21 d [ezw_p 7, ezw_i a1, ezw_i a2] (ezu_g e F A) (ezt_m21_7Q e F A a1 a2) := by
  refine ezw_met (k := 0) rfl rfl ?_
  refine ezw_aload_n rfl rfl ?_
  refine ezw_ifnull rfl ?_
  refine ezw_iload_n rfl rfl ?_
  refine ezw_if_lt rfl rfl ha1 (fun h5_0 => ?_) (fun h5_0 => ?_)
  · exact ezw_return rfl rfl ⟨A, rfl, hS, (fun _ _ => rfl), (by omega), (fun _ _ => rfl), rfl⟩
  · refine ezw_iload_n rfl rfl ?_
    refine ezw_aload_n rfl rfl ?_
    refine ezs_alen (k := 32) rfl rfl rfl rfl (by decide) (by decide) ?_
    refine ezw_icmp_ge rfl rfl ha1 ⟨by decide, by decide⟩ (fun h11_0 => ?_) (fun h11_0 => ?_)
    · exact ezw_return rfl rfl ⟨A, rfl, hS, (fun _ _ => rfl), (by omega), (fun _ _ => rfl), rfl⟩
    · refine ezw_aload_n rfl rfl ?_
      refine ezw_iload_n rfl rfl ?_
      refine ezw_iload_n rfl rfl ?_
      refine ezy_iastore hS rfl rfl rfl (by omega) (by omega) (by decide) ha2 (fun A1 hS mA1 nA1 => ?_)
      exact ezw_return rfl rfl ⟨A1, rfl, hS, (fun p h => by
            funext j
            rw [nA1 p j (fun z => h (z.1))]), (fun _ _ => mA1), (fun j hj => nA1 7 j (by omega)), rfl⟩
def ezt_m89_5vQ (e : Bool × Bool) (F : Nat → Nat → Int) (A : Nat → Int → Int) (pl : List Int) (a1 : Int) : Option ezq_V → (Nat → ezq_C) → Prop := fun v g' => ∃ (F' : Nat → Nat → Int) (A' : Nat → Int → Int), ezu_g e F' A' = g' ∧ ezs_T F' A' ∧ (∀ p j, ¬ (p = 5 ∧ (j = 5)) → F' p j = F p j) ∧ (∀ p, ¬ (p = 7) → A' p = A p) ∧ (F' 5 5 = (pl.length : Int) + 1) ∧ (ezv_P (a1 :: pl) (A' 7)) ∧ none = v
theorem ezt_m89_5v {pl : List Int} {a1 : Int} {F : Nat → Nat → Int} {A : Nat → Int → Int} (hS : ezs_T F A) (hd : 1 ≤ d) (ha1 : ezw_in a1) (hp : F 5 5 = (pl.length : Int)) (hP : ezv_P pl (A 7)) (hl : pl.length < 32) : ezw_C l ρ B xa Hb D cA 89 d [ezw_p 5, ezw_i a1] (ezu_g e F A) (ezt_m89_5vQ e F A pl a1) := by
  refine ezw_met (k := 0) rfl rfl ?_
  refine ezw_aload_n rfl rfl ?_
  refine ezs_getp (p := 7) rfl rfl rfl rfl rfl ?_
  refine ezw_aload_n rfl rfl ?_
  refine ezy_get_i hS rfl rfl rfl rfl rfl rfl (fun u1 hu1 ku1 eu1 => ?_)
  replace eu1 := eu1.symm
  subst eu1
  refine ezw_iload_n rfl rfl ?_
  refine ezw_call3_3 rfl (by omega) rfl rfl (ezt_m21_7 hS (by omega) hu1 ha1) ?_
  rintro _ _ ⟨A2, rfl, hS, nA2, m_2, n_2, rfl⟩
  refine ezw_aload_n rfl rfl ?_
  refine ezw_dup rfl rfl ?_
  refine ezy_get_i hS rfl rfl rfl rfl rfl rfl (fun u3 hu3 ku3 eu3 => ?_)
  replace eu3 := eu3.symm
  subst eu3
  refine ezw_iconst (1) rfl rfl ?_
  refine ezw_iadd (k := (F 5 5) + 1) rfl (by omega) ?_
  refine ezy_put_i hS rfl rfl rfl rfl rfl ⟨by omega, by omega⟩ (fun F4 hS mF4 nF4 => ?_)
  have w5_5 : F4 5 5 = (F 5 5) + 1 := by rw [mF4]
  exact ezw_return rfl rfl ⟨F4, A2, rfl, hS, (fun p j h => by rw [nF4 p j (fun z => h (⟨z.1, z.2⟩))]), (fun p h => by
        funext j
        rw [nA2 p (fun z => h (z))]), by omega, ⟨(by
        show A2 7 (pl.length : Int) = a1
        rw [← hp]
        exact m_2 (by omega) (by omega)), ezv_P_fr hP (fun j j0 j1 => by
        exact n_2 j (by omega))⟩, rfl⟩
def ezt_m27_8Q (e : Bool × Bool) (F : Nat → Nat → Int) (A : Nat → Int → Int) (a1 : Int) : Option ezq_V → (Nat → ezq_C) → Prop := fun v g' => ezu_g e F A = g' ∧ ∃ u : Int, (ezw_in u) ∧ (0 ≤ a1 → a1 < 4 → u = A 8 a1) ∧ some (ezw_i u) = v
theorem ezt_m27_8 {a1 : Int} {F : Nat → Nat → Int} {A : Nat → Int → Int} (hS : ezs_T F A) (hd : 0 ≤ d) (ha1 : ezw_in a1) : ezw_C l ρ B xa Hb D cA 27 d [ezw_p 8, ezw_i a1] (ezu_g e F A) (ezt_m27_8Q e F A a1) := by
  refine ezw_met (k := 0) rfl rfl ?_
  refine ezw_aload_n rfl rfl ?_
  refine ezw_ifnull rfl ?_
  refine ezw_iload_n rfl rfl ?_
  refine ezw_if_lt rfl rfl ha1 (fun h5_0 => ?_) (fun h5_0 => ?_)
  · refine ezw_iconst (0) rfl rfl ?_
    exact ezw_ireturn rfl rfl ⟨rfl, (0), ⟨by decide, by decide⟩, by omega, rfl⟩
  · refine ezw_iload_n rfl rfl ?_
    refine ezw_aload_n rfl rfl ?_
    refine ezs_alen (k := 4) rfl rfl rfl rfl (by decide) (by decide) ?_
    refine ezw_icmp_ge rfl rfl ha1 ⟨by decide, by decide⟩ (fun h11_0 => ?_) (fun h11_0 => ?_)
    · refine ezw_iconst (0) rfl rfl ?_
      exact ezw_ireturn rfl rfl ⟨rfl, (0), ⟨by decide, by decide⟩, by omega, rfl⟩
    · refine ezw_aload_n rfl rfl ?_
      refine ezw_iload_n rfl rfl ?_
      refine ezy_iaload hS rfl rfl rfl (by omega) (by omega) (by decide) (fun u1 hu1 ku1 eu1 => ?_)
      refine ezw_goto rfl rfl ?_
      exact ezw_ireturn rfl rfl ⟨rfl, u1, hu1, by omega, rfl⟩
def ezt_m88_5vQ (e : Bool × Bool) (F : Nat → Nat → Int) (A : Nat → Int → Int) (pl : List Int) (pm : List Int) (fc : Int → Int) (a1 : Int) : Option ezq_V → (Nat → ezq_C) → Prop := fun v g' => ∃ (F' : Nat → Nat → Int) (A' : Nat → Int → Int), ezu_g e F' A' = g' ∧ ezs_T F' A' ∧ (∀ p j, ¬ (p = 5 ∧ (j = 5)) → F' p j = F p j) ∧ (∀ p, ¬ (p = 7) → A' p = A p) ∧ (F' 5 5 = (pm.length : Int)) ∧ (ezv_P pm (A' 7)) ∧ none = v
theorem ezt_m88_5v {pl : List Int} {pm : List Int} {fc : Int → Int} {a1 : Int} {F : Nat → Nat → Int} {A : Nat → Int → Int} (hS : ezs_T F A) (hd : 2 ≤ d) (ha1 : ezw_in a1) (hp : F 5 5 = (pl.length : Int)) (hP : ezv_P pl (A 7)) (hL : pl.length ≤ 32) (hs : ezv_st fc a1 pl = some pm) (hf : ∀ k, 0 ≤ k → k < 4 → A 8 k = fc k) (he : -12 ≤ a1) : ezw_C l ρ B xa Hb D cA 88 d [ezw_p 5, ezw_i a1] (ezu_g e F A) (ezt_m88_5vQ e F A pl pm fc a1) := by
  refine ezw_met (k := 2) rfl rfl ?_
  refine ezw_iload_n rfl rfl ?_
  refine ezw_if_lt rfl rfl ha1 (fun h1_0 => ?_) (fun h1_0 => ?_)
  · refine ezw_iload_n rfl rfl ?_
    refine ezw_bipush (-4) rfl rfl ?_
    refine ezw_icmp_lt rfl rfl ha1 ⟨by decide, by decide⟩ (fun h15_0 => ?_) (fun h15_0 => ?_)
    · refine ezw_iload_n rfl rfl ?_
      refine ezw_bipush (-5) rfl rfl ?_
      refine ezw_icmp_ne rfl rfl ha1 ⟨by decide, by decide⟩ (fun h38_0 => ?_) (fun h38_0 => ?_)
      · obtain ⟨sb, sa, sq, se1, se2⟩ := ezv_st_b hs (by omega)
        subst se1
        have hl1 : sq.length + 1 + 1 ≤ 32 := hL
        have hp1 : F 5 5 = (sq.length : Int) + 1 + 1 := by
          rw [hp]
          simp <;> omega
        refine ezw_aload_n rfl rfl ?_
        refine ezw_call0_0 rfl (by omega) (ezu_at rfl) rfl rfl rfl rfl (ezt_m90_5v (pl := (sa :: sq)) (w := sb) hS (by omega) (by rw [hp1]; simp) hP (by show sq.length + 1 < 32; omega)) ?_
        rintro _ _ ⟨F1, rfl, hS, nF1, u2, hu2, tp_1, an_1, rfl⟩
        refine ezw_istore_n rfl rfl ?_
        refine ezw_aload_n rfl rfl ?_
        refine ezw_call0_0 rfl (by omega) (ezu_at rfl) rfl rfl rfl rfl (ezt_m90_5v (pl := sq) (w := sa) hS (by omega) (by rw [tp_1]; simp) hP.2 (by omega)) ?_
        rintro _ _ ⟨F3, rfl, hS, nF3, u4, hu4, tp_3, an_3, rfl⟩
        refine ezw_istore_n rfl rfl ?_
        refine ezw_aload_n rfl rfl ?_
        refine ezw_iload_n rfl rfl ?_
        refine ezw_iload_n rfl rfl ?_
        refine ezw_iload_n rfl rfl ?_
        refine ezw_call2_3 rfl (by omega) rfl rfl (ezt_m91v hS (by omega) ha1 hu4 hu2) ?_
        rintro _ _ ⟨rfl, u6, hu6, an_5, rfl⟩
        refine ezw_call0_1 rfl (by omega) (ezu_at rfl) rfl rfl rfl rfl (ezt_m89_5v (pl := sq) hS (by omega) hu6 tp_3 hP.2.2 (by omega)) ?_
        rintro _ _ ⟨F7, A7, rfl, hS, nF7, nA7, tp_7, P_7, rfl⟩
        exact ezw_return rfl rfl ⟨F7, A7, rfl, hS, (fun p j h => by rw [nF7 p j (fun z => h (⟨z.1, z.2⟩)), nF3 p j (fun z => h (⟨z.1, z.2⟩)), nF1 p j (fun z => h (⟨z.1, z.2⟩))]), (fun p h => by
              funext j
              rw [nA7 p (fun z => h (z))]), (by
              rw [se2, tp_7]
              simp), (by
              rw [se2]
              have h9 := P_7
              rw [an_5 ⟨by omega, by omega⟩, an_3, an_1] at h9
              exact h9), rfl⟩
      · obtain ⟨sa, sq, se1, se2⟩ := ezv_st_n hs (by omega)
        subst se1
        have hl1 : sq.length + 1 ≤ 32 := hL
        have hp1 : F 5 5 = (sq.length : Int) + 1 := by
          rw [hp]
          simp
        refine ezw_aload_n rfl rfl ?_
        refine ezw_aload_n rfl rfl ?_
        refine ezw_call0_0 rfl (by omega) (ezu_at rfl) rfl rfl rfl rfl (ezt_m90_5v (pl := sq) (w := sa) hS (by omega) hp1 hP (by omega)) ?_
        rintro _ _ ⟨F8, rfl, hS, nF8, u9, hu9, tp_8, an_8, rfl⟩
        refine ezw_if_ne rfl rfl hu9 (fun h46_9 => ?_) (fun h46_9 => ?_)
        · refine ezw_iconst (0) rfl rfl ?_
          refine ezw_call0_1 rfl (by omega) (ezu_at rfl) rfl rfl rfl rfl (ezt_m89_5v (pl := sq) hS (by omega) ⟨by decide, by decide⟩ tp_8 hP.2 (by omega)) ?_
          rintro _ _ ⟨F10, A10, rfl, hS, nF10, nA10, tp_10, P_10, rfl⟩
          refine ezw_goto rfl rfl ?_
          exact ezw_return rfl rfl ⟨F10, A10, rfl, hS, (fun p j h => by rw [nF10 p j (fun z => h (⟨z.1, z.2⟩)), nF8 p j (fun z => h (⟨z.1, z.2⟩))]), (fun p h => by
                funext j
                rw [nA10 p (fun z => h (z))]), (by
                rw [se2, tp_10]
                simp), (by
                rw [se2]
                have h9 := P_10
                first
                  | (rw [if_pos (by omega)]; exact h9)
                  | (rw [if_neg (by omega)]; exact h9)), rfl⟩
        · refine ezw_iconst (1) rfl rfl ?_
          refine ezw_goto rfl rfl ?_
          refine ezw_call0_1 rfl (by omega) (ezu_at rfl) rfl rfl rfl rfl (ezt_m89_5v (pl := sq) hS (by omega) ⟨by decide, by decide⟩ tp_8 hP.2 (by omega)) ?_
          rintro _ _ ⟨F11, A11, rfl, hS, nF11, nA11, tp_11, P_11, rfl⟩
          refine ezw_goto rfl rfl ?_
          exact ezw_return rfl rfl ⟨F11, A11, rfl, hS, (fun p j h => by rw [nF11 p j (fun z => h (⟨z.1, z.2⟩)), nF8 p j (fun z => h (⟨z.1, z.2⟩))]), (fun p h => by
                funext j
                rw [nA11 p (fun z => h (z))]), (by
                rw [se2, tp_11]
                simp), (by
                rw [se2]
                have h9 := P_11
                first
                  | (rw [if_pos (by omega)]; exact h9)
                  | (rw [if_neg (by omega)]; exact h9)), rfl⟩
    · have hs2 := ezv_st_f hs (by omega) (by omega)
      refine ezw_aload_n rfl rfl ?_
      refine ezw_aload_n rfl rfl ?_
      refine ezs_getp (p := 8) rfl rfl rfl rfl rfl ?_
      refine ezw_iconst (-1) rfl rfl ?_
      refine ezw_iload_n rfl rfl ?_
      refine ezw_isub (k := -a1 - 1) rfl (by omega) ?_
      refine ezw_call3_2 rfl (by omega) rfl rfl (ezt_m27_8 hS (by omega) ⟨by omega, by omega⟩) ?_
      rintro _ _ ⟨rfl, u13, hu13, v_12, rfl⟩
      refine ezw_call0_1 rfl (by omega) (ezu_at rfl) rfl rfl rfl rfl (ezt_m89_5v (pl := pl) hS (by omega) hu13 hp hP hs2.2) ?_
      rintro _ _ ⟨F14, A14, rfl, hS, nF14, nA14, tp_14, P_14, rfl⟩
      refine ezw_goto rfl rfl ?_
      exact ezw_return rfl rfl ⟨F14, A14, rfl, hS, (fun p j h => by rw [nF14 p j (fun z => h (⟨z.1, z.2⟩))]), (fun p h => by
            funext j
            rw [nA14 p (fun z => h (z))]), (by
            rw [hs2.1, tp_14]
            simp), (by
            have h8 := v_12 (by omega) (by omega)
            rw [show -a1 - 1 = -1 - a1 by omega] at h8
            rw [hs2.1, ← hf (-1 - a1) (by omega) (by omega), ← h8]
            exact P_14), rfl⟩
  · have hs2 := ezv_st_p hs (by omega)
    refine ezw_aload_n rfl rfl ?_
    refine ezw_iload_n rfl rfl ?_
    refine ezw_call0_1 rfl (by omega) (ezu_at rfl) rfl rfl rfl rfl (ezt_m89_5v (pl := pl) hS (by omega) ha1 hp hP hs2.2) ?_
    rintro _ _ ⟨F15, A15, rfl, hS, nF15, nA15, tp_15, P_15, rfl⟩
    refine ezw_goto rfl rfl ?_
    exact ezw_return rfl rfl ⟨F15, A15, rfl, hS, (fun p j h => by rw [nF15 p j (fun z => h (⟨z.1, z.2⟩))]), (fun p h => by
          funext j
          rw [nA15 p (fun z => h (z))]), (by
          rw [hs2.1, tp_15]
          simp), (by
          rw [hs2.1]
          exact P_15), rfl⟩
def ezt_m87_5vQ (e : Bool × Bool) (F : Nat → Nat → Int) (A : Nat → Int → Int) (y : Int × (Int → Int)) (a1 : Int) (a2 : Int) (a3 : Int) (a4 : Int) : Option ezq_V → (Nat → ezq_C) → Prop := fun v g' => ∃ (F' : Nat → Nat → Int) (A' : Nat → Int → Int), ezu_g e F' A' = g' ∧ ezs_T F' A' ∧ (∀ p j, ¬ (p = 5 ∧ (j = 5)) → F' p j = F p j) ∧ (∀ p, ¬ (p = 7 ∨ p = 8) → A' p = A p) ∧ ∃ u : Int, (ezw_in u) ∧ (u = ezv_val (ezv_fc a1 a2 a3 a4) y) ∧ some (ezw_i u) = v
theorem ezt_m87_5v {y : Int × (Int → Int)} {a1 a2 a3 a4 : Int} {F : Nat → Nat → Int} {A : Nat → Int → Int} (hS : ezs_T F A) (hd : 3 ≤ d) (ha1 : ezw_in a1) (ha2 : ezw_in a2) (ha3 : ezw_in a3) (ha4 : ezw_in a4) (lw : ezt_LW 5 y F A) (hy : ezv_L y) : ezw_C l ρ B xa Hb D cA 87 d [ezw_p 5, ezw_i a1, ezw_i a2, ezw_i a3, ezw_i a4] (ezu_g e F A) (ezt_m87_5vQ e F A y a1 a2 a3 a4) := by
  refine ezw_met (k := 1) rfl rfl ?_
  have hy0 := hy.1
  have hy1000 := hy.2.1
  have hsz : F 5 4 = y.1 := (lw.2 (by omega)).1
  refine ezw_aload_n rfl rfl ?_
  refine ezs_getp (p := 8) rfl rfl rfl rfl rfl ?_
  refine ezw_iconst (0) rfl rfl ?_
  refine ezw_iload_n rfl rfl ?_
  refine ezw_call3_3 rfl (by omega) rfl rfl (ezt_m21_8 hS (by omega) ⟨by decide, by decide⟩ ha1) ?_
  rintro _ _ ⟨A1, rfl, hS, nA1, m_1, n_1, rfl⟩
  refine ezw_aload_n rfl rfl ?_
  refine ezs_getp (p := 8) rfl rfl rfl rfl rfl ?_
  refine ezw_iconst (1) rfl rfl ?_
  refine ezw_iload_n rfl rfl ?_
  refine ezw_call3_3 rfl (by omega) rfl rfl (ezt_m21_8 hS (by omega) ⟨by decide, by decide⟩ ha2) ?_
  rintro _ _ ⟨A2, rfl, hS, nA2, m_2, n_2, rfl⟩
  refine ezw_aload_n rfl rfl ?_
  refine ezs_getp (p := 8) rfl rfl rfl rfl rfl ?_
  refine ezw_iconst (2) rfl rfl ?_
  refine ezw_iload_n rfl rfl ?_
  refine ezw_call3_3 rfl (by omega) rfl rfl (ezt_m21_8 hS (by omega) ⟨by decide, by decide⟩ ha3) ?_
  rintro _ _ ⟨A3, rfl, hS, nA3, m_3, n_3, rfl⟩
  refine ezw_aload_n rfl rfl ?_
  refine ezs_getp (p := 8) rfl rfl rfl rfl rfl ?_
  refine ezw_iconst (3) rfl rfl ?_
  refine ezw_iload rfl rfl ?_
  refine ezw_call3_3 rfl (by omega) rfl rfl (ezt_m21_8 hS (by omega) ⟨by decide, by decide⟩ ha4) ?_
  rintro _ _ ⟨A4, rfl, hS, nA4, m_4, n_4, rfl⟩
  have hf : ∀ k, 0 ≤ k → k < 4 → A4 8 k = (ezv_fc a1 a2 a3 a4) k := by
    intro k g0 g1
    rcases (show k = 0 ∨ k = 1 ∨ k = 2 ∨ k = 3 by omega) with rfl | rfl | rfl | rfl
    · exact (by rw [n_4 0 (by decide), n_3 0 (by decide), n_2 0 (by decide), m_1 (by decide) (by decide)]; rfl)
    · exact (by rw [n_4 1 (by decide), n_3 1 (by decide), m_2 (by decide) (by decide)]; rfl)
    · exact (by rw [n_4 2 (by decide), m_3 (by decide) (by decide)]; rfl)
    · exact (by rw [m_4 (by decide) (by decide)]; rfl)
  refine ezw_aload_n rfl rfl ?_
  refine ezw_iconst (0) rfl rfl ?_
  refine ezy_put_i hS rfl rfl rfl rfl rfl ⟨by decide, by decide⟩ (fun F5 hS mF5 nF5 => ?_)
  refine ezw_iconst (0) rfl rfl ?_
  refine ezw_istore rfl rfl ?_
  have L45_7 : ∀ c6 : Int, ezw_in c6 → ∀ F_7 : Nat → Nat → Int, ∀ A_7 : Nat → Int → Int, ezs_T F_7 A_7 → (∀ p j, ¬ (p = 5 ∧ (j = 5)) → F_7 p j = F5 p j) → (∀ p, ¬ (p = 7) → A_7 p = A4 p) → ((0) ≤ c6) → (∃ pl : List Int, F_7 5 5 = (pl.length : Int) ∧ ezv_P pl (A_7 7) ∧ pl.length ≤ 32 ∧ ezv_rn (ezv_fc a1 a2 a3 a4) y.2 (y.1 - c6).toNat c6 pl = some [ezv_val (ezv_fc a1 a2 a3 a4) y]) → ezw_E l ρ B xa Hb D cA d ezq_re87 (ezt_m87_5vQ e F A y a1 a2 a3 a4) 45 [some (ezw_p 5), some (ezw_i a1), some (ezw_i a2), some (ezw_i a3), some (ezw_i a4), some (ezw_i c6)] [] (ezu_g e F_7 A_7) := by
    refine ezs_up ?_
    intro c6 hc6 ihc6 F_7 A_7 hS nF_7 nA_7 g_7 iv_7
    obtain ⟨pl, hp, hP, hL, hrn⟩ := iv_7
    refine ezw_iload rfl rfl ?_
    refine ezw_aload_n rfl rfl ?_
    refine ezy_get_i hS rfl rfl rfl rfl rfl rfl (fun u8 hu8 ku8 eu8 => ?_)
    rw [nF_7 5 4 (by decide), nF5 5 4 (by decide)] at eu8
    replace eu8 := eu8.symm
    subst eu8
    refine ezw_icmp_ge rfl rfl hc6 hu8 (fun h51_8 => ?_) (fun h51_8 => ?_)
    · refine ezw_aload_n rfl rfl ?_
      have hy2 : (y.1 - c6).toNat = 0 := by omega
      rw [hy2] at hrn
      have hpl : pl = [ezv_val (ezv_fc a1 a2 a3 a4) y] := by
        have h9 : some pl = some [ezv_val (ezv_fc a1 a2 a3 a4) y] := hrn
        injection h9
      subst hpl
      refine ezw_call0_0 rfl (by omega) (ezu_at rfl) rfl rfl rfl rfl (ezt_m90_5v (pl := []) (w := (ezv_val (ezv_fc a1 a2 a3 a4) y)) hS (by omega) hp hP (by decide)) ?_
      rintro _ _ ⟨F9, rfl, hS, nF9, u10, hu10, tp_9, an_9, rfl⟩
      exact ezw_ireturn rfl rfl ⟨F9, A_7, rfl, hS, (fun p j h => by rw [nF9 p j (fun z => h (⟨z.1, z.2⟩)), nF_7 p j (fun z => h (⟨z.1, z.2⟩)), nF5 p j (fun z => h (⟨z.1, z.2⟩))]), (fun p h => by
            funext j
            rw [nA_7 p (fun z => h (Or.inl z)), nA4 p (fun z => h (Or.inr z)), nA3 p (fun z => h (Or.inr z)), nA2 p (fun z => h (Or.inr z)), nA1 p (fun z => h (Or.inr z))]), u10, hu10, an_9, rfl⟩
    · refine ezw_iload rfl rfl ?_
      refine ezw_aload_n rfl rfl ?_
      refine ezs_getp (p := 6) rfl rfl rfl rfl rfl ?_
      refine ezs_alen (k := 1000) rfl rfl rfl rfl (by decide) (by decide) ?_
      refine ezw_icmp_ge rfl rfl hc6 ⟨by decide, by decide⟩ (fun h61_10 => ?_) (fun h61_10 => ?_)
      · refine ezw_aload_n rfl rfl ?_
        have hy2 : (y.1 - c6).toNat = 0 := by omega
        rw [hy2] at hrn
        have hpl : pl = [ezv_val (ezv_fc a1 a2 a3 a4) y] := by
          have h9 : some pl = some [ezv_val (ezv_fc a1 a2 a3 a4) y] := hrn
          injection h9
        subst hpl
        refine ezw_call0_0 rfl (by omega) (ezu_at rfl) rfl rfl rfl rfl (ezt_m90_5v (pl := []) (w := (ezv_val (ezv_fc a1 a2 a3 a4) y)) hS (by omega) hp hP (by decide)) ?_
        rintro _ _ ⟨F11, rfl, hS, nF11, u12, hu12, tp_11, an_11, rfl⟩
        exact ezw_ireturn rfl rfl ⟨F11, A_7, rfl, hS, (fun p j h => by rw [nF11 p j (fun z => h (⟨z.1, z.2⟩)), nF_7 p j (fun z => h (⟨z.1, z.2⟩)), nF5 p j (fun z => h (⟨z.1, z.2⟩))]), (fun p h => by
              funext j
              rw [nA_7 p (fun z => h (Or.inl z)), nA4 p (fun z => h (Or.inr z)), nA3 p (fun z => h (Or.inr z)), nA2 p (fun z => h (Or.inr z)), nA1 p (fun z => h (Or.inr z))]), u12, hu12, an_11, rfl⟩
      · refine ezw_aload_n rfl rfl ?_
        refine ezw_aload_n rfl rfl ?_
        refine ezs_getp (p := 6) rfl rfl rfl rfl rfl ?_
        refine ezw_iload rfl rfl ?_
        refine ezy_iaload hS rfl rfl rfl (by omega) (by omega) (by decide) (fun u13 hu13 ku13 eu13 => ?_)
        rw [nA_7 6 (by decide), nA4 6 (by decide), nA3 6 (by decide), nA2 6 (by decide), nA1 6 (by decide)] at eu13
        have hy1 : c6 < y.1 := by omega
        have hcode : u13 = y.2 c6 := by
          rw [eu13]
          exact (lw.2 (by omega)).2 _ (by omega) hy1 (by omega)
        have hb := hy.2.2.2 _ (show 0 ≤ c6 by omega) hy1
        obtain ⟨pm, hpm, hrn2⟩ := ezv_rn_i (y.1 - (c6 + 1)).toNat c6 pl _ (by rw [show (y.1 - (c6 + 1)).toNat + 1 = (y.1 - c6).toNat by omega]; exact hrn)
        rw [← hcode] at hpm
        refine ezw_call0_1 rfl (by omega) (ezu_at rfl) rfl rfl rfl rfl (ezt_m88_5v (pl := pl) (pm := pm) (fc := (ezv_fc a1 a2 a3 a4)) hS (by omega) hu13 hp hP hL hpm (by rw [nA_7 8 (by decide)]; exact hf) (by omega)) ?_
        rintro _ _ ⟨F14, A14, rfl, hS, nF14, nA14, tp_14, P_14, rfl⟩
        refine ezw_iinc (k := c6 + 1) (1) rfl rfl rfl (by omega) rfl ?_
        refine ezw_goto rfl rfl ?_
        exact ezw_keepE [true, true, true, true, true, true] (ihc6 (c6 + 1) (by omega) ⟨by omega, by omega⟩ F14 A14 hS (fun p j h => by rw [nF14 p j (fun z => h (⟨z.1, z.2⟩)), nF_7 p j (fun z => h (⟨z.1, z.2⟩))]) (fun p h => by
              funext j
              rw [nA14 p (fun z => h (z)), nA_7 p (fun z => h (z))]) (by omega) (⟨pm, tp_14, P_14, ezv_st_len hpm hL, hrn2⟩))
  have w5_5 : F5 5 5 = (0) := by rw [mF5]
  exact ezw_keepE [true, true, true, true, true, true] (L45_7 (0) ⟨by decide, by decide⟩ F5 A4 hS (fun _ _ _ => rfl) (fun _ _ => rfl) (by omega) (⟨[], (by rw [mF5]; rfl), True.intro, by decide, (by rw [Int.sub_zero]; exact ezv_val_v hy)⟩))
def ezt_m86_30_5_9vQ (e : Bool × Bool) (F : Nat → Nat → Int) (A : Nat → Int → Int) (t : ezp_D) (R : Int × (Int × (Int → Int))) (S : Int × (Int × (Int → Int))) (a3 : Int) (a4 : Int) (a5 : Int) (a6 : Int) : Option ezq_V → (Nat → ezq_C) → Prop := fun v g' => ∃ (F' : Nat → Nat → Int) (A' : Nat → Int → Int), ezu_g e F' A' = g' ∧ ezs_T F' A' ∧ (∀ p j, ¬ (p = 5 ∧ (j = 5) ∨ p = 9 ∧ (j = 5)) → F' p j = F p j) ∧ (∀ p, ¬ (p = 7 ∨ p = 8 ∨ p = 11 ∨ p = 12 ∨ p = 45 ∨ p = 46) → A' p = A p) ∧ (A' 45 (60 * a3 + 6 * a4 + 2 * a5 + a6) = ezv_run R a4 (t.th a3) a5 a6) ∧ (A' 46 (60 * a3 + 6 * a4 + 2 * a5 + a6) = ezv_tear S a4 (t.th a3) a5 a6) ∧ (∀ j, j ≠ 60 * a3 + 6 * a4 + 2 * a5 + a6 → A' 45 j = A 45 j) ∧ (∀ j, j ≠ 60 * a3 + 6 * a4 + 2 * a5 + a6 → A' 46 j = A 46 j) ∧ none = v
theorem ezt_m86_30_5_9v {t : ezp_D} {R : Int × (Int × (Int → Int))} {S : Int × (Int × (Int → Int))} {a3 a4 a5 a6 : Int} {F : Nat → Nat → Int} {A : Nat → Int → Int} (hS : ezs_T F A) (hd : 4 ≤ d) (ha3 : ezw_in a3) (ha4 : ezw_in a4) (ha5 : ezw_in a5) (ha6 : ezw_in a6) (tr : ezt_TR 30 t F A) (hB : ∀ i, 0 ≤ i → i < t.kT → 1 ≤ t.th i ∧ t.th i ≤ 20) (ga : 0 ≤ a3 ∧ a3 < t.kT ∧ 0 ≤ a4 ∧ a4 ≤ 9 ∧ 0 ≤ a5 ∧ a5 ≤ 2 ∧ 0 ≤ a6 ∧ a6 ≤ 1) (lR : (R.1 = 0 ∨ R.1 = 1) ∧ F 5 3 = R.1 ∧ (R.1 = 1 → ezt_LW 5 R.2 F A ∧ ezv_L R.2)) (lS : (S.1 = 0 ∨ S.1 = 1) ∧ F 9 3 = S.1 ∧ (S.1 = 1 → ezt_LW 9 S.2 F A ∧ ezv_L S.2)) : ezw_C l ρ B xa Hb D cA 86 d [ezw_p 30, ezw_p 5, ezw_p 9, ezw_i a3, ezw_i a4, ezw_i a5, ezw_i a6] (ezu_g e F A) (ezt_m86_30_5_9vQ e F A t R S a3 a4 a5 a6) := by
  refine ezw_met (k := 4) rfl rfl ?_
  obtain ⟨⟨c1, c2, c3, c4⟩, ⟨d1, d2, d3, d4, d5, d6, d7, d8⟩, e3, e4, e5, e6⟩ := id tr
  have hBa := hB a3 (by omega) (by omega)
  have lR1 := lR.1
  have lR2 := lR.2.1
  have lS1 := lS.1
  have lS2 := lS.2.1
  refine ezw_aload_n rfl rfl ?_
  refine ezs_getp (p := 32) rfl rfl rfl rfl rfl ?_
  refine ezw_iload_n rfl rfl ?_
  refine ezw_call3_2 rfl (by omega) rfl rfl (ezt_m27_32 hS (by omega) ha3) ?_
  rintro _ _ ⟨rfl, u2, hu2, v_1, rfl⟩
  have hth0 := v_1 (by omega) (by omega)
  have hth : u2 = t.th a3 := by
    rw [hth0]
    exact (e3 a3 (by omega) (by omega)).2.2.1
  refine ezw_istore rfl rfl ?_
  refine ezw_iload rfl rfl ?_
  refine ezw_if_ne rfl rfl ha5 (fun h12_2 => ?_) (fun h12_2 => ?_)
  · refine ezw_iload rfl rfl ?_
    refine ezw_iconst (1) rfl rfl ?_
    refine ezw_icmp_ne rfl rfl ha5 ⟨by decide, by decide⟩ (fun h26_2 => ?_) (fun h26_2 => ?_)
    · refine ezw_iconst (0) rfl rfl ?_
      refine ezw_istore rfl rfl ?_
      refine ezw_iload rfl rfl ?_
      refine ezw_iconst (2) rfl rfl ?_
      refine ezw_iload rfl rfl ?_
      refine ezw_imul (k := 2 * a6) rfl (by omega) ?_
      refine ezw_iadd (k := a4 + 2 * a6) rfl (by omega) ?_
      refine ezw_istore rfl rfl ?_
      refine ezw_aload_n rfl rfl ?_
      refine ezy_get_i hS rfl rfl rfl rfl rfl rfl (fun u3 hu3 ku3 eu3 => ?_)
      replace eu3 := eu3.symm
      subst eu3
      have ru3 : 0 ≤ (F 5 3) ∧ (F 5 3) ≤ 1 := ku3
      refine ezw_if_eq rfl rfl hu3 (fun h52_3 => ?_) (fun h52_3 => ?_)
      · refine ezw_aload_n rfl rfl ?_
        refine ezy_get_i hS rfl rfl rfl rfl rfl rfl (fun u4 hu4 ku4 eu4 => ?_)
        replace eu4 := eu4.symm
        subst eu4
        have ru4 : 0 ≤ (F 9 3) ∧ (F 9 3) ≤ 1 := ku4
        refine ezw_if_eq rfl rfl hu4 (fun h73_4 => ?_) (fun h73_4 => ?_)
        · refine ezw_iload_n rfl rfl ?_
          refine ezw_iload rfl rfl ?_
          refine ezw_iload rfl rfl ?_
          refine ezw_iload rfl rfl ?_
          refine ezw_call2_4 rfl (by omega) rfl rfl (ezt_m92v hS (by omega) ha3 ha4 ha5 ha6 (by omega)) ?_
          rintro _ _ ⟨rfl, u6, hu6, p5_0, rfl⟩
          refine ezw_istore rfl rfl ?_
          refine ezw_aload_n rfl rfl ?_
          refine ezs_getp (p := 45) rfl rfl rfl rfl rfl ?_
          refine ezw_iload rfl rfl ?_
          refine ezw_iconst (0) rfl rfl ?_
          refine ezw_bipush (10) rfl rfl ?_
          refine ezw_iload rfl rfl ?_
          refine ezw_mminE rfl ⟨by decide, by decide⟩ ⟨by decide, by decide⟩ rfl (fun u7 hu7 => ?_)
          refine ezw_mmaxE rfl ⟨by decide, by decide⟩ ⟨by omega, by omega⟩ rfl (fun u8 hu8 => ?_)
          refine ezw_call3_3 rfl (by omega) rfl rfl (ezt_m21_45 hS (by omega) hu6 ⟨by omega, by omega⟩) ?_
          rintro _ _ ⟨A9, rfl, hS, nA9, m_9, n_9, rfl⟩
          refine ezw_aload_n rfl rfl ?_
          refine ezs_getp (p := 46) rfl rfl rfl rfl rfl ?_
          refine ezw_iload rfl rfl ?_
          refine ezw_iconst (0) rfl rfl ?_
          refine ezw_bipush (10) rfl rfl ?_
          refine ezw_iload rfl rfl ?_
          refine ezw_mminE rfl ⟨by decide, by decide⟩ ⟨by omega, by omega⟩ rfl (fun u10 hu10 => ?_)
          refine ezw_mmaxE rfl ⟨by decide, by decide⟩ ⟨by omega, by omega⟩ rfl (fun u11 hu11 => ?_)
          refine ezw_call3_3 rfl (by omega) rfl rfl (ezt_m21_46 hS (by omega) hu6 ⟨by omega, by omega⟩) ?_
          rintro _ _ ⟨A12, rfl, hS, nA12, m_12, n_12, rfl⟩
          exact ezw_return rfl rfl ⟨F, A12, rfl, hS, (fun _ _ _ => rfl), (fun p h => by
                funext j
                rw [nA12 p (fun z => h (Or.inr (Or.inr (Or.inr (Or.inr (Or.inr z)))))), nA9 p (fun z => h (Or.inr (Or.inr (Or.inr (Or.inr (Or.inl z))))))]), (by
                rw [nA12 45 (by decide), ← p5_0, m_9 (by omega) (by omega)]
                unfold ezv_run ezv_cl ezv_run0
                rw [if_neg (show ¬ R.1 = 1 by omega)]
                (repeat' split) <;> omega), (by
                rw [← p5_0, m_12 (by omega) (by omega)]
                unfold ezv_tear ezv_cl ezv_tear0
                rw [if_neg (show ¬ S.1 = 1 by omega)]
                (repeat' split) <;> omega), (fun j hj => by rw [nA12 45 (by decide), n_9 j (by omega)]), (fun j hj => by rw [n_12 j (by omega), nA9 46 (by decide)]), rfl⟩
        · refine ezw_aload_n rfl rfl ?_
          refine ezw_iload rfl rfl ?_
          refine ezw_iload rfl rfl ?_
          refine ezw_iload rfl rfl ?_
          refine ezw_iload rfl rfl ?_
          refine ezw_call0_4 rfl (by omega) (ezu_at rfl) rfl rfl rfl rfl (ezt_m87_9v (y := S.2) hS (by omega) ha4 hu2 ha5 ha6 (ezt_LW_fr (lS.2.2 (by omega)).1 rfl rfl) (lS.2.2 (by omega)).2) ?_
          rintro _ _ ⟨F13, A13, rfl, hS, nF13, nA13, u14, hu14, an_13, rfl⟩
          refine ezw_istore rfl rfl ?_
          refine ezw_iload_n rfl rfl ?_
          refine ezw_iload rfl rfl ?_
          refine ezw_iload rfl rfl ?_
          refine ezw_iload rfl rfl ?_
          refine ezw_call2_4 rfl (by omega) rfl rfl (ezt_m92v hS (by omega) ha3 ha4 ha5 ha6 (by omega)) ?_
          rintro _ _ ⟨rfl, u16, hu16, p15_0, rfl⟩
          refine ezw_istore rfl rfl ?_
          refine ezw_aload_n rfl rfl ?_
          refine ezs_getp (p := 45) rfl rfl rfl rfl rfl ?_
          refine ezw_iload rfl rfl ?_
          refine ezw_iconst (0) rfl rfl ?_
          refine ezw_bipush (10) rfl rfl ?_
          refine ezw_iload rfl rfl ?_
          refine ezw_mminE rfl ⟨by decide, by decide⟩ ⟨by decide, by decide⟩ rfl (fun u17 hu17 => ?_)
          refine ezw_mmaxE rfl ⟨by decide, by decide⟩ ⟨by omega, by omega⟩ rfl (fun u18 hu18 => ?_)
          refine ezw_call3_3 rfl (by omega) rfl rfl (ezt_m21_45 hS (by omega) hu16 ⟨by omega, by omega⟩) ?_
          rintro _ _ ⟨A19, rfl, hS, nA19, m_19, n_19, rfl⟩
          refine ezw_aload_n rfl rfl ?_
          refine ezs_getp (p := 46) rfl rfl rfl rfl rfl ?_
          refine ezw_iload rfl rfl ?_
          refine ezw_iconst (0) rfl rfl ?_
          refine ezw_bipush (10) rfl rfl ?_
          refine ezw_iload rfl rfl ?_
          refine ezw_mminE rfl ⟨by decide, by decide⟩ hu14 rfl (fun u20 hu20 => ?_)
          refine ezw_mmaxE rfl ⟨by decide, by decide⟩ ⟨by omega, by omega⟩ rfl (fun u21 hu21 => ?_)
          refine ezw_call3_3 rfl (by omega) rfl rfl (ezt_m21_46 hS (by omega) hu16 ⟨by omega, by omega⟩) ?_
          rintro _ _ ⟨A22, rfl, hS, nA22, m_22, n_22, rfl⟩
          exact ezw_return rfl rfl ⟨F13, A22, rfl, hS, (fun p j h => by rw [nF13 p j (fun z => h (Or.inr ⟨z.1, z.2⟩))]), (fun p h => by
                funext j
                rw [nA22 p (fun z => h (Or.inr (Or.inr (Or.inr (Or.inr (Or.inr z)))))), nA19 p (fun z => h (Or.inr (Or.inr (Or.inr (Or.inr (Or.inl z)))))), nA13 p (fun z => h (z.elim (fun y => (Or.inr (Or.inr (Or.inl y)))) (fun y => (Or.inr (Or.inr (Or.inr (Or.inl y)))))))]), (by
                rw [nA22 45 (by decide), ← p15_0, m_19 (by omega) (by omega)]
                unfold ezv_run ezv_cl ezv_run0
                rw [if_neg (show ¬ R.1 = 1 by omega)]
                (repeat' split) <;> omega), (by
                rw [← p15_0, m_22 (by omega) (by omega)]
                unfold ezv_tear ezv_cl ezv_tear0
                rw [if_pos (show S.1 = 1 by omega), ← hth, ← an_13]
                (repeat' split) <;> omega), (fun j hj => by rw [nA22 45 (by decide), n_19 j (by omega), nA13 45 (by decide)]), (fun j hj => by rw [n_22 j (by omega), nA19 46 (by decide), nA13 46 (by decide)]), rfl⟩
      · refine ezw_aload_n rfl rfl ?_
        refine ezw_iload rfl rfl ?_
        refine ezw_iload rfl rfl ?_
        refine ezw_iload rfl rfl ?_
        refine ezw_iload rfl rfl ?_
        refine ezw_call0_4 rfl (by omega) (ezu_at rfl) rfl rfl rfl rfl (ezt_m87_5v (y := R.2) hS (by omega) ha4 hu2 ha5 ha6 (ezt_LW_fr (lR.2.2 (by omega)).1 rfl rfl) (lR.2.2 (by omega)).2) ?_
        rintro _ _ ⟨F23, A23, rfl, hS, nF23, nA23, u24, hu24, an_23, rfl⟩
        refine ezw_istore rfl rfl ?_
        refine ezw_aload_n rfl rfl ?_
        refine ezy_get_i hS rfl rfl rfl rfl rfl rfl (fun u25 hu25 ku25 eu25 => ?_)
        rw [nF23 9 3 (by decide)] at eu25
        replace eu25 := eu25.symm
        subst eu25
        have ru25 : 0 ≤ (F 9 3) ∧ (F 9 3) ≤ 1 := ku25
        refine ezw_if_eq rfl rfl hu25 (fun h73_25 => ?_) (fun h73_25 => ?_)
        · refine ezw_iload_n rfl rfl ?_
          refine ezw_iload rfl rfl ?_
          refine ezw_iload rfl rfl ?_
          refine ezw_iload rfl rfl ?_
          refine ezw_call2_4 rfl (by omega) rfl rfl (ezt_m92v hS (by omega) ha3 ha4 ha5 ha6 (by omega)) ?_
          rintro _ _ ⟨rfl, u27, hu27, p26_0, rfl⟩
          refine ezw_istore rfl rfl ?_
          refine ezw_aload_n rfl rfl ?_
          refine ezs_getp (p := 45) rfl rfl rfl rfl rfl ?_
          refine ezw_iload rfl rfl ?_
          refine ezw_iconst (0) rfl rfl ?_
          refine ezw_bipush (10) rfl rfl ?_
          refine ezw_iload rfl rfl ?_
          refine ezw_mminE rfl ⟨by decide, by decide⟩ hu24 rfl (fun u28 hu28 => ?_)
          refine ezw_mmaxE rfl ⟨by decide, by decide⟩ ⟨by omega, by omega⟩ rfl (fun u29 hu29 => ?_)
          refine ezw_call3_3 rfl (by omega) rfl rfl (ezt_m21_45 hS (by omega) hu27 ⟨by omega, by omega⟩) ?_
          rintro _ _ ⟨A30, rfl, hS, nA30, m_30, n_30, rfl⟩
          refine ezw_aload_n rfl rfl ?_
          refine ezs_getp (p := 46) rfl rfl rfl rfl rfl ?_
          refine ezw_iload rfl rfl ?_
          refine ezw_iconst (0) rfl rfl ?_
          refine ezw_bipush (10) rfl rfl ?_
          refine ezw_iload rfl rfl ?_
          refine ezw_mminE rfl ⟨by decide, by decide⟩ ⟨by omega, by omega⟩ rfl (fun u31 hu31 => ?_)
          refine ezw_mmaxE rfl ⟨by decide, by decide⟩ ⟨by omega, by omega⟩ rfl (fun u32 hu32 => ?_)
          refine ezw_call3_3 rfl (by omega) rfl rfl (ezt_m21_46 hS (by omega) hu27 ⟨by omega, by omega⟩) ?_
          rintro _ _ ⟨A33, rfl, hS, nA33, m_33, n_33, rfl⟩
          exact ezw_return rfl rfl ⟨F23, A33, rfl, hS, (fun p j h => by rw [nF23 p j (fun z => h (Or.inl ⟨z.1, z.2⟩))]), (fun p h => by
                funext j
                rw [nA33 p (fun z => h (Or.inr (Or.inr (Or.inr (Or.inr (Or.inr z)))))), nA30 p (fun z => h (Or.inr (Or.inr (Or.inr (Or.inr (Or.inl z)))))), nA23 p (fun z => h (z.elim (fun y => (Or.inl y)) (fun y => (Or.inr (Or.inl y)))))]), (by
                rw [nA33 45 (by decide), ← p26_0, m_30 (by omega) (by omega)]
                unfold ezv_run ezv_cl ezv_run0
                rw [if_pos (show R.1 = 1 by omega), ← hth, ← an_23]
                (repeat' split) <;> omega), (by
                rw [← p26_0, m_33 (by omega) (by omega)]
                unfold ezv_tear ezv_cl ezv_tear0
                rw [if_neg (show ¬ S.1 = 1 by omega)]
                (repeat' split) <;> omega), (fun j hj => by rw [nA33 45 (by decide), n_30 j (by omega), nA23 45 (by decide)]), (fun j hj => by rw [n_33 j (by omega), nA30 46 (by decide), nA23 46 (by decide)]), rfl⟩
        · refine ezw_aload_n rfl rfl ?_
          refine ezw_iload rfl rfl ?_
          refine ezw_iload rfl rfl ?_
          refine ezw_iload rfl rfl ?_
          refine ezw_iload rfl rfl ?_
          refine ezw_call0_4 rfl (by omega) (ezu_at rfl) rfl rfl rfl rfl (ezt_m87_9v (y := S.2) hS (by omega) ha4 hu2 ha5 ha6 (ezt_LW_fr (lS.2.2 (by omega)).1 (by rw [nF23 9 4 (by decide)]) (by rw [nA23 10 (by decide)])) (lS.2.2 (by omega)).2) ?_
          rintro _ _ ⟨F34, A34, rfl, hS, nF34, nA34, u35, hu35, an_34, rfl⟩
          refine ezw_istore rfl rfl ?_
          refine ezw_iload_n rfl rfl ?_
          refine ezw_iload rfl rfl ?_
          refine ezw_iload rfl rfl ?_
          refine ezw_iload rfl rfl ?_
          refine ezw_call2_4 rfl (by omega) rfl rfl (ezt_m92v hS (by omega) ha3 ha4 ha5 ha6 (by omega)) ?_
          rintro _ _ ⟨rfl, u37, hu37, p36_0, rfl⟩
          refine ezw_istore rfl rfl ?_
          refine ezw_aload_n rfl rfl ?_
          refine ezs_getp (p := 45) rfl rfl rfl rfl rfl ?_
          refine ezw_iload rfl rfl ?_
          refine ezw_iconst (0) rfl rfl ?_
          refine ezw_bipush (10) rfl rfl ?_
          refine ezw_iload rfl rfl ?_
          refine ezw_mminE rfl ⟨by decide, by decide⟩ hu24 rfl (fun u38 hu38 => ?_)
          refine ezw_mmaxE rfl ⟨by decide, by decide⟩ ⟨by omega, by omega⟩ rfl (fun u39 hu39 => ?_)
          refine ezw_call3_3 rfl (by omega) rfl rfl (ezt_m21_45 hS (by omega) hu37 ⟨by omega, by omega⟩) ?_
          rintro _ _ ⟨A40, rfl, hS, nA40, m_40, n_40, rfl⟩
          refine ezw_aload_n rfl rfl ?_
          refine ezs_getp (p := 46) rfl rfl rfl rfl rfl ?_
          refine ezw_iload rfl rfl ?_
          refine ezw_iconst (0) rfl rfl ?_
          refine ezw_bipush (10) rfl rfl ?_
          refine ezw_iload rfl rfl ?_
          refine ezw_mminE rfl ⟨by decide, by decide⟩ hu35 rfl (fun u41 hu41 => ?_)
          refine ezw_mmaxE rfl ⟨by decide, by decide⟩ ⟨by omega, by omega⟩ rfl (fun u42 hu42 => ?_)
          refine ezw_call3_3 rfl (by omega) rfl rfl (ezt_m21_46 hS (by omega) hu37 ⟨by omega, by omega⟩) ?_
          rintro _ _ ⟨A43, rfl, hS, nA43, m_43, n_43, rfl⟩
          exact ezw_return rfl rfl ⟨F34, A43, rfl, hS, (fun p j h => by rw [nF34 p j (fun z => h (Or.inr ⟨z.1, z.2⟩)), nF23 p j (fun z => h (Or.inl ⟨z.1, z.2⟩))]), (fun p h => by
                funext j
                rw [nA43 p (fun z => h (Or.inr (Or.inr (Or.inr (Or.inr (Or.inr z)))))), nA40 p (fun z => h (Or.inr (Or.inr (Or.inr (Or.inr (Or.inl z)))))), nA34 p (fun z => h (z.elim (fun y => (Or.inr (Or.inr (Or.inl y)))) (fun y => (Or.inr (Or.inr (Or.inr (Or.inl y))))))), nA23 p (fun z => h (z.elim (fun y => (Or.inl y)) (fun y => (Or.inr (Or.inl y)))))]), (by
                rw [nA43 45 (by decide), ← p36_0, m_40 (by omega) (by omega)]
                unfold ezv_run ezv_cl ezv_run0
                rw [if_pos (show R.1 = 1 by omega), ← hth, ← an_23]
                (repeat' split) <;> omega), (by
                rw [← p36_0, m_43 (by omega) (by omega)]
                unfold ezv_tear ezv_cl ezv_tear0
                rw [if_pos (show S.1 = 1 by omega), ← hth, ← an_34]
                (repeat' split) <;> omega), (fun j hj => by rw [nA43 45 (by decide), n_40 j (by omega), nA34 45 (by decide), nA23 45 (by decide)]), (fun j hj => by rw [n_43 j (by omega), nA40 46 (by decide), nA34 46 (by decide), nA23 46 (by decide)]), rfl⟩
    · refine ezw_iconst (3) rfl rfl ?_
      refine ezw_iload rfl rfl ?_
      refine ezw_isub (k := -a4 + 3) rfl (by omega) ?_
      refine ezw_goto rfl rfl ?_
      refine ezw_istore rfl rfl ?_
      refine ezw_iload rfl rfl ?_
      refine ezw_iconst (2) rfl rfl ?_
      refine ezw_iload rfl rfl ?_
      refine ezw_imul (k := 2 * a6) rfl (by omega) ?_
      refine ezw_iadd (k := a4 + 2 * a6) rfl (by omega) ?_
      refine ezw_istore rfl rfl ?_
      refine ezw_aload_n rfl rfl ?_
      refine ezy_get_i hS rfl rfl rfl rfl rfl rfl (fun u44 hu44 ku44 eu44 => ?_)
      replace eu44 := eu44.symm
      subst eu44
      have ru44 : 0 ≤ (F 5 3) ∧ (F 5 3) ≤ 1 := ku44
      refine ezw_if_eq rfl rfl hu44 (fun h52_44 => ?_) (fun h52_44 => ?_)
      · refine ezw_aload_n rfl rfl ?_
        refine ezy_get_i hS rfl rfl rfl rfl rfl rfl (fun u45 hu45 ku45 eu45 => ?_)
        replace eu45 := eu45.symm
        subst eu45
        have ru45 : 0 ≤ (F 9 3) ∧ (F 9 3) ≤ 1 := ku45
        refine ezw_if_eq rfl rfl hu45 (fun h73_45 => ?_) (fun h73_45 => ?_)
        · refine ezw_iload_n rfl rfl ?_
          refine ezw_iload rfl rfl ?_
          refine ezw_iload rfl rfl ?_
          refine ezw_iload rfl rfl ?_
          refine ezw_call2_4 rfl (by omega) rfl rfl (ezt_m92v hS (by omega) ha3 ha4 ha5 ha6 (by omega)) ?_
          rintro _ _ ⟨rfl, u47, hu47, p46_0, rfl⟩
          refine ezw_istore rfl rfl ?_
          refine ezw_aload_n rfl rfl ?_
          refine ezs_getp (p := 45) rfl rfl rfl rfl rfl ?_
          refine ezw_iload rfl rfl ?_
          refine ezw_iconst (0) rfl rfl ?_
          refine ezw_bipush (10) rfl rfl ?_
          refine ezw_iload rfl rfl ?_
          refine ezw_mminE rfl ⟨by decide, by decide⟩ ⟨by omega, by omega⟩ rfl (fun u48 hu48 => ?_)
          refine ezw_mmaxE rfl ⟨by decide, by decide⟩ ⟨by omega, by omega⟩ rfl (fun u49 hu49 => ?_)
          refine ezw_call3_3 rfl (by omega) rfl rfl (ezt_m21_45 hS (by omega) hu47 ⟨by omega, by omega⟩) ?_
          rintro _ _ ⟨A50, rfl, hS, nA50, m_50, n_50, rfl⟩
          refine ezw_aload_n rfl rfl ?_
          refine ezs_getp (p := 46) rfl rfl rfl rfl rfl ?_
          refine ezw_iload rfl rfl ?_
          refine ezw_iconst (0) rfl rfl ?_
          refine ezw_bipush (10) rfl rfl ?_
          refine ezw_iload rfl rfl ?_
          refine ezw_mminE rfl ⟨by decide, by decide⟩ ⟨by omega, by omega⟩ rfl (fun u51 hu51 => ?_)
          refine ezw_mmaxE rfl ⟨by decide, by decide⟩ ⟨by omega, by omega⟩ rfl (fun u52 hu52 => ?_)
          refine ezw_call3_3 rfl (by omega) rfl rfl (ezt_m21_46 hS (by omega) hu47 ⟨by omega, by omega⟩) ?_
          rintro _ _ ⟨A53, rfl, hS, nA53, m_53, n_53, rfl⟩
          exact ezw_return rfl rfl ⟨F, A53, rfl, hS, (fun _ _ _ => rfl), (fun p h => by
                funext j
                rw [nA53 p (fun z => h (Or.inr (Or.inr (Or.inr (Or.inr (Or.inr z)))))), nA50 p (fun z => h (Or.inr (Or.inr (Or.inr (Or.inr (Or.inl z))))))]), (by
                rw [nA53 45 (by decide), ← p46_0, m_50 (by omega) (by omega)]
                unfold ezv_run ezv_cl ezv_run0
                rw [if_neg (show ¬ R.1 = 1 by omega)]
                (repeat' split) <;> omega), (by
                rw [← p46_0, m_53 (by omega) (by omega)]
                unfold ezv_tear ezv_cl ezv_tear0
                rw [if_neg (show ¬ S.1 = 1 by omega)]
                (repeat' split) <;> omega), (fun j hj => by rw [nA53 45 (by decide), n_50 j (by omega)]), (fun j hj => by rw [n_53 j (by omega), nA50 46 (by decide)]), rfl⟩
        · refine ezw_aload_n rfl rfl ?_
          refine ezw_iload rfl rfl ?_
          refine ezw_iload rfl rfl ?_
          refine ezw_iload rfl rfl ?_
          refine ezw_iload rfl rfl ?_
          refine ezw_call0_4 rfl (by omega) (ezu_at rfl) rfl rfl rfl rfl (ezt_m87_9v (y := S.2) hS (by omega) ha4 hu2 ha5 ha6 (ezt_LW_fr (lS.2.2 (by omega)).1 rfl rfl) (lS.2.2 (by omega)).2) ?_
          rintro _ _ ⟨F54, A54, rfl, hS, nF54, nA54, u55, hu55, an_54, rfl⟩
          refine ezw_istore rfl rfl ?_
          refine ezw_iload_n rfl rfl ?_
          refine ezw_iload rfl rfl ?_
          refine ezw_iload rfl rfl ?_
          refine ezw_iload rfl rfl ?_
          refine ezw_call2_4 rfl (by omega) rfl rfl (ezt_m92v hS (by omega) ha3 ha4 ha5 ha6 (by omega)) ?_
          rintro _ _ ⟨rfl, u57, hu57, p56_0, rfl⟩
          refine ezw_istore rfl rfl ?_
          refine ezw_aload_n rfl rfl ?_
          refine ezs_getp (p := 45) rfl rfl rfl rfl rfl ?_
          refine ezw_iload rfl rfl ?_
          refine ezw_iconst (0) rfl rfl ?_
          refine ezw_bipush (10) rfl rfl ?_
          refine ezw_iload rfl rfl ?_
          refine ezw_mminE rfl ⟨by decide, by decide⟩ ⟨by omega, by omega⟩ rfl (fun u58 hu58 => ?_)
          refine ezw_mmaxE rfl ⟨by decide, by decide⟩ ⟨by omega, by omega⟩ rfl (fun u59 hu59 => ?_)
          refine ezw_call3_3 rfl (by omega) rfl rfl (ezt_m21_45 hS (by omega) hu57 ⟨by omega, by omega⟩) ?_
          rintro _ _ ⟨A60, rfl, hS, nA60, m_60, n_60, rfl⟩
          refine ezw_aload_n rfl rfl ?_
          refine ezs_getp (p := 46) rfl rfl rfl rfl rfl ?_
          refine ezw_iload rfl rfl ?_
          refine ezw_iconst (0) rfl rfl ?_
          refine ezw_bipush (10) rfl rfl ?_
          refine ezw_iload rfl rfl ?_
          refine ezw_mminE rfl ⟨by decide, by decide⟩ hu55 rfl (fun u61 hu61 => ?_)
          refine ezw_mmaxE rfl ⟨by decide, by decide⟩ ⟨by omega, by omega⟩ rfl (fun u62 hu62 => ?_)
          refine ezw_call3_3 rfl (by omega) rfl rfl (ezt_m21_46 hS (by omega) hu57 ⟨by omega, by omega⟩) ?_
          rintro _ _ ⟨A63, rfl, hS, nA63, m_63, n_63, rfl⟩
          exact ezw_return rfl rfl ⟨F54, A63, rfl, hS, (fun p j h => by rw [nF54 p j (fun z => h (Or.inr ⟨z.1, z.2⟩))]), (fun p h => by
                funext j
                rw [nA63 p (fun z => h (Or.inr (Or.inr (Or.inr (Or.inr (Or.inr z)))))), nA60 p (fun z => h (Or.inr (Or.inr (Or.inr (Or.inr (Or.inl z)))))), nA54 p (fun z => h (z.elim (fun y => (Or.inr (Or.inr (Or.inl y)))) (fun y => (Or.inr (Or.inr (Or.inr (Or.inl y)))))))]), (by
                rw [nA63 45 (by decide), ← p56_0, m_60 (by omega) (by omega)]
                unfold ezv_run ezv_cl ezv_run0
                rw [if_neg (show ¬ R.1 = 1 by omega)]
                (repeat' split) <;> omega), (by
                rw [← p56_0, m_63 (by omega) (by omega)]
                unfold ezv_tear ezv_cl ezv_tear0
                rw [if_pos (show S.1 = 1 by omega), ← hth, ← an_54]
                (repeat' split) <;> omega), (fun j hj => by rw [nA63 45 (by decide), n_60 j (by omega), nA54 45 (by decide)]), (fun j hj => by rw [n_63 j (by omega), nA60 46 (by decide), nA54 46 (by decide)]), rfl⟩
      · refine ezw_aload_n rfl rfl ?_
        refine ezw_iload rfl rfl ?_
        refine ezw_iload rfl rfl ?_
        refine ezw_iload rfl rfl ?_
        refine ezw_iload rfl rfl ?_
        refine ezw_call0_4 rfl (by omega) (ezu_at rfl) rfl rfl rfl rfl (ezt_m87_5v (y := R.2) hS (by omega) ha4 hu2 ha5 ha6 (ezt_LW_fr (lR.2.2 (by omega)).1 rfl rfl) (lR.2.2 (by omega)).2) ?_
        rintro _ _ ⟨F64, A64, rfl, hS, nF64, nA64, u65, hu65, an_64, rfl⟩
        refine ezw_istore rfl rfl ?_
        refine ezw_aload_n rfl rfl ?_
        refine ezy_get_i hS rfl rfl rfl rfl rfl rfl (fun u66 hu66 ku66 eu66 => ?_)
        rw [nF64 9 3 (by decide)] at eu66
        replace eu66 := eu66.symm
        subst eu66
        have ru66 : 0 ≤ (F 9 3) ∧ (F 9 3) ≤ 1 := ku66
        refine ezw_if_eq rfl rfl hu66 (fun h73_66 => ?_) (fun h73_66 => ?_)
        · refine ezw_iload_n rfl rfl ?_
          refine ezw_iload rfl rfl ?_
          refine ezw_iload rfl rfl ?_
          refine ezw_iload rfl rfl ?_
          refine ezw_call2_4 rfl (by omega) rfl rfl (ezt_m92v hS (by omega) ha3 ha4 ha5 ha6 (by omega)) ?_
          rintro _ _ ⟨rfl, u68, hu68, p67_0, rfl⟩
          refine ezw_istore rfl rfl ?_
          refine ezw_aload_n rfl rfl ?_
          refine ezs_getp (p := 45) rfl rfl rfl rfl rfl ?_
          refine ezw_iload rfl rfl ?_
          refine ezw_iconst (0) rfl rfl ?_
          refine ezw_bipush (10) rfl rfl ?_
          refine ezw_iload rfl rfl ?_
          refine ezw_mminE rfl ⟨by decide, by decide⟩ hu65 rfl (fun u69 hu69 => ?_)
          refine ezw_mmaxE rfl ⟨by decide, by decide⟩ ⟨by omega, by omega⟩ rfl (fun u70 hu70 => ?_)
          refine ezw_call3_3 rfl (by omega) rfl rfl (ezt_m21_45 hS (by omega) hu68 ⟨by omega, by omega⟩) ?_
          rintro _ _ ⟨A71, rfl, hS, nA71, m_71, n_71, rfl⟩
          refine ezw_aload_n rfl rfl ?_
          refine ezs_getp (p := 46) rfl rfl rfl rfl rfl ?_
          refine ezw_iload rfl rfl ?_
          refine ezw_iconst (0) rfl rfl ?_
          refine ezw_bipush (10) rfl rfl ?_
          refine ezw_iload rfl rfl ?_
          refine ezw_mminE rfl ⟨by decide, by decide⟩ ⟨by omega, by omega⟩ rfl (fun u72 hu72 => ?_)
          refine ezw_mmaxE rfl ⟨by decide, by decide⟩ ⟨by omega, by omega⟩ rfl (fun u73 hu73 => ?_)
          refine ezw_call3_3 rfl (by omega) rfl rfl (ezt_m21_46 hS (by omega) hu68 ⟨by omega, by omega⟩) ?_
          rintro _ _ ⟨A74, rfl, hS, nA74, m_74, n_74, rfl⟩
          exact ezw_return rfl rfl ⟨F64, A74, rfl, hS, (fun p j h => by rw [nF64 p j (fun z => h (Or.inl ⟨z.1, z.2⟩))]), (fun p h => by
                funext j
                rw [nA74 p (fun z => h (Or.inr (Or.inr (Or.inr (Or.inr (Or.inr z)))))), nA71 p (fun z => h (Or.inr (Or.inr (Or.inr (Or.inr (Or.inl z)))))), nA64 p (fun z => h (z.elim (fun y => (Or.inl y)) (fun y => (Or.inr (Or.inl y)))))]), (by
                rw [nA74 45 (by decide), ← p67_0, m_71 (by omega) (by omega)]
                unfold ezv_run ezv_cl ezv_run0
                rw [if_pos (show R.1 = 1 by omega), ← hth, ← an_64]
                (repeat' split) <;> omega), (by
                rw [← p67_0, m_74 (by omega) (by omega)]
                unfold ezv_tear ezv_cl ezv_tear0
                rw [if_neg (show ¬ S.1 = 1 by omega)]
                (repeat' split) <;> omega), (fun j hj => by rw [nA74 45 (by decide), n_71 j (by omega), nA64 45 (by decide)]), (fun j hj => by rw [n_74 j (by omega), nA71 46 (by decide), nA64 46 (by decide)]), rfl⟩
        · refine ezw_aload_n rfl rfl ?_
          refine ezw_iload rfl rfl ?_
          refine ezw_iload rfl rfl ?_
          refine ezw_iload rfl rfl ?_
          refine ezw_iload rfl rfl ?_
          refine ezw_call0_4 rfl (by omega) (ezu_at rfl) rfl rfl rfl rfl (ezt_m87_9v (y := S.2) hS (by omega) ha4 hu2 ha5 ha6 (ezt_LW_fr (lS.2.2 (by omega)).1 (by rw [nF64 9 4 (by decide)]) (by rw [nA64 10 (by decide)])) (lS.2.2 (by omega)).2) ?_
          rintro _ _ ⟨F75, A75, rfl, hS, nF75, nA75, u76, hu76, an_75, rfl⟩
          refine ezw_istore rfl rfl ?_
          refine ezw_iload_n rfl rfl ?_
          refine ezw_iload rfl rfl ?_
          refine ezw_iload rfl rfl ?_
          refine ezw_iload rfl rfl ?_
          refine ezw_call2_4 rfl (by omega) rfl rfl (ezt_m92v hS (by omega) ha3 ha4 ha5 ha6 (by omega)) ?_
          rintro _ _ ⟨rfl, u78, hu78, p77_0, rfl⟩
          refine ezw_istore rfl rfl ?_
          refine ezw_aload_n rfl rfl ?_
          refine ezs_getp (p := 45) rfl rfl rfl rfl rfl ?_
          refine ezw_iload rfl rfl ?_
          refine ezw_iconst (0) rfl rfl ?_
          refine ezw_bipush (10) rfl rfl ?_
          refine ezw_iload rfl rfl ?_
          refine ezw_mminE rfl ⟨by decide, by decide⟩ hu65 rfl (fun u79 hu79 => ?_)
          refine ezw_mmaxE rfl ⟨by decide, by decide⟩ ⟨by omega, by omega⟩ rfl (fun u80 hu80 => ?_)
          refine ezw_call3_3 rfl (by omega) rfl rfl (ezt_m21_45 hS (by omega) hu78 ⟨by omega, by omega⟩) ?_
          rintro _ _ ⟨A81, rfl, hS, nA81, m_81, n_81, rfl⟩
          refine ezw_aload_n rfl rfl ?_
          refine ezs_getp (p := 46) rfl rfl rfl rfl rfl ?_
          refine ezw_iload rfl rfl ?_
          refine ezw_iconst (0) rfl rfl ?_
          refine ezw_bipush (10) rfl rfl ?_
          refine ezw_iload rfl rfl ?_
          refine ezw_mminE rfl ⟨by decide, by decide⟩ hu76 rfl (fun u82 hu82 => ?_)
          refine ezw_mmaxE rfl ⟨by decide, by decide⟩ ⟨by omega, by omega⟩ rfl (fun u83 hu83 => ?_)
          refine ezw_call3_3 rfl (by omega) rfl rfl (ezt_m21_46 hS (by omega) hu78 ⟨by omega, by omega⟩) ?_
          rintro _ _ ⟨A84, rfl, hS, nA84, m_84, n_84, rfl⟩
          exact ezw_return rfl rfl ⟨F75, A84, rfl, hS, (fun p j h => by rw [nF75 p j (fun z => h (Or.inr ⟨z.1, z.2⟩)), nF64 p j (fun z => h (Or.inl ⟨z.1, z.2⟩))]), (fun p h => by
                funext j
                rw [nA84 p (fun z => h (Or.inr (Or.inr (Or.inr (Or.inr (Or.inr z)))))), nA81 p (fun z => h (Or.inr (Or.inr (Or.inr (Or.inr (Or.inl z)))))), nA75 p (fun z => h (z.elim (fun y => (Or.inr (Or.inr (Or.inl y)))) (fun y => (Or.inr (Or.inr (Or.inr (Or.inl y))))))), nA64 p (fun z => h (z.elim (fun y => (Or.inl y)) (fun y => (Or.inr (Or.inl y)))))]), (by
                rw [nA84 45 (by decide), ← p77_0, m_81 (by omega) (by omega)]
                unfold ezv_run ezv_cl ezv_run0
                rw [if_pos (show R.1 = 1 by omega), ← hth, ← an_64]
                (repeat' split) <;> omega), (by
                rw [← p77_0, m_84 (by omega) (by omega)]
                unfold ezv_tear ezv_cl ezv_tear0
                rw [if_pos (show S.1 = 1 by omega), ← hth, ← an_75]
                (repeat' split) <;> omega), (fun j hj => by rw [nA84 45 (by decide), n_81 j (by omega), nA75 45 (by decide), nA64 45 (by decide)]), (fun j hj => by rw [n_84 j (by omega), nA81 46 (by decide), nA75 46 (by decide), nA64 46 (by decide)]), rfl⟩
  · refine ezw_bipush (10) rfl rfl ?_
    refine ezw_iload rfl rfl ?_
    refine ezw_isub (k := -a4 + 10) rfl (by omega) ?_
    refine ezw_goto rfl rfl ?_
    refine ezw_istore rfl rfl ?_
    refine ezw_iload rfl rfl ?_
    refine ezw_iconst (2) rfl rfl ?_
    refine ezw_iload rfl rfl ?_
    refine ezw_imul (k := 2 * a6) rfl (by omega) ?_
    refine ezw_iadd (k := a4 + 2 * a6) rfl (by omega) ?_
    refine ezw_istore rfl rfl ?_
    refine ezw_aload_n rfl rfl ?_
    refine ezy_get_i hS rfl rfl rfl rfl rfl rfl (fun u85 hu85 ku85 eu85 => ?_)
    replace eu85 := eu85.symm
    subst eu85
    have ru85 : 0 ≤ (F 5 3) ∧ (F 5 3) ≤ 1 := ku85
    refine ezw_if_eq rfl rfl hu85 (fun h52_85 => ?_) (fun h52_85 => ?_)
    · refine ezw_aload_n rfl rfl ?_
      refine ezy_get_i hS rfl rfl rfl rfl rfl rfl (fun u86 hu86 ku86 eu86 => ?_)
      replace eu86 := eu86.symm
      subst eu86
      have ru86 : 0 ≤ (F 9 3) ∧ (F 9 3) ≤ 1 := ku86
      refine ezw_if_eq rfl rfl hu86 (fun h73_86 => ?_) (fun h73_86 => ?_)
      · refine ezw_iload_n rfl rfl ?_
        refine ezw_iload rfl rfl ?_
        refine ezw_iload rfl rfl ?_
        refine ezw_iload rfl rfl ?_
        refine ezw_call2_4 rfl (by omega) rfl rfl (ezt_m92v hS (by omega) ha3 ha4 ha5 ha6 (by omega)) ?_
        rintro _ _ ⟨rfl, u88, hu88, p87_0, rfl⟩
        refine ezw_istore rfl rfl ?_
        refine ezw_aload_n rfl rfl ?_
        refine ezs_getp (p := 45) rfl rfl rfl rfl rfl ?_
        refine ezw_iload rfl rfl ?_
        refine ezw_iconst (0) rfl rfl ?_
        refine ezw_bipush (10) rfl rfl ?_
        refine ezw_iload rfl rfl ?_
        refine ezw_mminE rfl ⟨by decide, by decide⟩ ⟨by omega, by omega⟩ rfl (fun u89 hu89 => ?_)
        refine ezw_mmaxE rfl ⟨by decide, by decide⟩ ⟨by omega, by omega⟩ rfl (fun u90 hu90 => ?_)
        refine ezw_call3_3 rfl (by omega) rfl rfl (ezt_m21_45 hS (by omega) hu88 ⟨by omega, by omega⟩) ?_
        rintro _ _ ⟨A91, rfl, hS, nA91, m_91, n_91, rfl⟩
        refine ezw_aload_n rfl rfl ?_
        refine ezs_getp (p := 46) rfl rfl rfl rfl rfl ?_
        refine ezw_iload rfl rfl ?_
        refine ezw_iconst (0) rfl rfl ?_
        refine ezw_bipush (10) rfl rfl ?_
        refine ezw_iload rfl rfl ?_
        refine ezw_mminE rfl ⟨by decide, by decide⟩ ⟨by omega, by omega⟩ rfl (fun u92 hu92 => ?_)
        refine ezw_mmaxE rfl ⟨by decide, by decide⟩ ⟨by omega, by omega⟩ rfl (fun u93 hu93 => ?_)
        refine ezw_call3_3 rfl (by omega) rfl rfl (ezt_m21_46 hS (by omega) hu88 ⟨by omega, by omega⟩) ?_
        rintro _ _ ⟨A94, rfl, hS, nA94, m_94, n_94, rfl⟩
        exact ezw_return rfl rfl ⟨F, A94, rfl, hS, (fun _ _ _ => rfl), (fun p h => by
              funext j
              rw [nA94 p (fun z => h (Or.inr (Or.inr (Or.inr (Or.inr (Or.inr z)))))), nA91 p (fun z => h (Or.inr (Or.inr (Or.inr (Or.inr (Or.inl z))))))]), (by
              rw [nA94 45 (by decide), ← p87_0, m_91 (by omega) (by omega)]
              unfold ezv_run ezv_cl ezv_run0
              rw [if_neg (show ¬ R.1 = 1 by omega)]
              (repeat' split) <;> omega), (by
              rw [← p87_0, m_94 (by omega) (by omega)]
              unfold ezv_tear ezv_cl ezv_tear0
              rw [if_neg (show ¬ S.1 = 1 by omega)]
              (repeat' split) <;> omega), (fun j hj => by rw [nA94 45 (by decide), n_91 j (by omega)]), (fun j hj => by rw [n_94 j (by omega), nA91 46 (by decide)]), rfl⟩
      · refine ezw_aload_n rfl rfl ?_
        refine ezw_iload rfl rfl ?_
        refine ezw_iload rfl rfl ?_
        refine ezw_iload rfl rfl ?_
        refine ezw_iload rfl rfl ?_
        refine ezw_call0_4 rfl (by omega) (ezu_at rfl) rfl rfl rfl rfl (ezt_m87_9v (y := S.2) hS (by omega) ha4 hu2 ha5 ha6 (ezt_LW_fr (lS.2.2 (by omega)).1 rfl rfl) (lS.2.2 (by omega)).2) ?_
        rintro _ _ ⟨F95, A95, rfl, hS, nF95, nA95, u96, hu96, an_95, rfl⟩
        refine ezw_istore rfl rfl ?_
        refine ezw_iload_n rfl rfl ?_
        refine ezw_iload rfl rfl ?_
        refine ezw_iload rfl rfl ?_
        refine ezw_iload rfl rfl ?_
        refine ezw_call2_4 rfl (by omega) rfl rfl (ezt_m92v hS (by omega) ha3 ha4 ha5 ha6 (by omega)) ?_
        rintro _ _ ⟨rfl, u98, hu98, p97_0, rfl⟩
        refine ezw_istore rfl rfl ?_
        refine ezw_aload_n rfl rfl ?_
        refine ezs_getp (p := 45) rfl rfl rfl rfl rfl ?_
        refine ezw_iload rfl rfl ?_
        refine ezw_iconst (0) rfl rfl ?_
        refine ezw_bipush (10) rfl rfl ?_
        refine ezw_iload rfl rfl ?_
        refine ezw_mminE rfl ⟨by decide, by decide⟩ ⟨by omega, by omega⟩ rfl (fun u99 hu99 => ?_)
        refine ezw_mmaxE rfl ⟨by decide, by decide⟩ ⟨by omega, by omega⟩ rfl (fun u100 hu100 => ?_)
        refine ezw_call3_3 rfl (by omega) rfl rfl (ezt_m21_45 hS (by omega) hu98 ⟨by omega, by omega⟩) ?_
        rintro _ _ ⟨A101, rfl, hS, nA101, m_101, n_101, rfl⟩
        refine ezw_aload_n rfl rfl ?_
        refine ezs_getp (p := 46) rfl rfl rfl rfl rfl ?_
        refine ezw_iload rfl rfl ?_
        refine ezw_iconst (0) rfl rfl ?_
        refine ezw_bipush (10) rfl rfl ?_
        refine ezw_iload rfl rfl ?_
        refine ezw_mminE rfl ⟨by decide, by decide⟩ hu96 rfl (fun u102 hu102 => ?_)
        refine ezw_mmaxE rfl ⟨by decide, by decide⟩ ⟨by omega, by omega⟩ rfl (fun u103 hu103 => ?_)
        refine ezw_call3_3 rfl (by omega) rfl rfl (ezt_m21_46 hS (by omega) hu98 ⟨by omega, by omega⟩) ?_
        rintro _ _ ⟨A104, rfl, hS, nA104, m_104, n_104, rfl⟩
        exact ezw_return rfl rfl ⟨F95, A104, rfl, hS, (fun p j h => by rw [nF95 p j (fun z => h (Or.inr ⟨z.1, z.2⟩))]), (fun p h => by
              funext j
              rw [nA104 p (fun z => h (Or.inr (Or.inr (Or.inr (Or.inr (Or.inr z)))))), nA101 p (fun z => h (Or.inr (Or.inr (Or.inr (Or.inr (Or.inl z)))))), nA95 p (fun z => h (z.elim (fun y => (Or.inr (Or.inr (Or.inl y)))) (fun y => (Or.inr (Or.inr (Or.inr (Or.inl y)))))))]), (by
              rw [nA104 45 (by decide), ← p97_0, m_101 (by omega) (by omega)]
              unfold ezv_run ezv_cl ezv_run0
              rw [if_neg (show ¬ R.1 = 1 by omega)]
              (repeat' split) <;> omega), (by
              rw [← p97_0, m_104 (by omega) (by omega)]
              unfold ezv_tear ezv_cl ezv_tear0
              rw [if_pos (show S.1 = 1 by omega), ← hth, ← an_95]
              (repeat' split) <;> omega), (fun j hj => by rw [nA104 45 (by decide), n_101 j (by omega), nA95 45 (by decide)]), (fun j hj => by rw [n_104 j (by omega), nA101 46 (by decide), nA95 46 (by decide)]), rfl⟩
    · refine ezw_aload_n rfl rfl ?_
      refine ezw_iload rfl rfl ?_
      refine ezw_iload rfl rfl ?_
      refine ezw_iload rfl rfl ?_
      refine ezw_iload rfl rfl ?_
      refine ezw_call0_4 rfl (by omega) (ezu_at rfl) rfl rfl rfl rfl (ezt_m87_5v (y := R.2) hS (by omega) ha4 hu2 ha5 ha6 (ezt_LW_fr (lR.2.2 (by omega)).1 rfl rfl) (lR.2.2 (by omega)).2) ?_
      rintro _ _ ⟨F105, A105, rfl, hS, nF105, nA105, u106, hu106, an_105, rfl⟩
      refine ezw_istore rfl rfl ?_
      refine ezw_aload_n rfl rfl ?_
      refine ezy_get_i hS rfl rfl rfl rfl rfl rfl (fun u107 hu107 ku107 eu107 => ?_)
      rw [nF105 9 3 (by decide)] at eu107
      replace eu107 := eu107.symm
      subst eu107
      have ru107 : 0 ≤ (F 9 3) ∧ (F 9 3) ≤ 1 := ku107
      refine ezw_if_eq rfl rfl hu107 (fun h73_107 => ?_) (fun h73_107 => ?_)
      · refine ezw_iload_n rfl rfl ?_
        refine ezw_iload rfl rfl ?_
        refine ezw_iload rfl rfl ?_
        refine ezw_iload rfl rfl ?_
        refine ezw_call2_4 rfl (by omega) rfl rfl (ezt_m92v hS (by omega) ha3 ha4 ha5 ha6 (by omega)) ?_
        rintro _ _ ⟨rfl, u109, hu109, p108_0, rfl⟩
        refine ezw_istore rfl rfl ?_
        refine ezw_aload_n rfl rfl ?_
        refine ezs_getp (p := 45) rfl rfl rfl rfl rfl ?_
        refine ezw_iload rfl rfl ?_
        refine ezw_iconst (0) rfl rfl ?_
        refine ezw_bipush (10) rfl rfl ?_
        refine ezw_iload rfl rfl ?_
        refine ezw_mminE rfl ⟨by decide, by decide⟩ hu106 rfl (fun u110 hu110 => ?_)
        refine ezw_mmaxE rfl ⟨by decide, by decide⟩ ⟨by omega, by omega⟩ rfl (fun u111 hu111 => ?_)
        refine ezw_call3_3 rfl (by omega) rfl rfl (ezt_m21_45 hS (by omega) hu109 ⟨by omega, by omega⟩) ?_
        rintro _ _ ⟨A112, rfl, hS, nA112, m_112, n_112, rfl⟩
        refine ezw_aload_n rfl rfl ?_
        refine ezs_getp (p := 46) rfl rfl rfl rfl rfl ?_
        refine ezw_iload rfl rfl ?_
        refine ezw_iconst (0) rfl rfl ?_
        refine ezw_bipush (10) rfl rfl ?_
        refine ezw_iload rfl rfl ?_
        refine ezw_mminE rfl ⟨by decide, by decide⟩ ⟨by omega, by omega⟩ rfl (fun u113 hu113 => ?_)
        refine ezw_mmaxE rfl ⟨by decide, by decide⟩ ⟨by omega, by omega⟩ rfl (fun u114 hu114 => ?_)
        refine ezw_call3_3 rfl (by omega) rfl rfl (ezt_m21_46 hS (by omega) hu109 ⟨by omega, by omega⟩) ?_
        rintro _ _ ⟨A115, rfl, hS, nA115, m_115, n_115, rfl⟩
        exact ezw_return rfl rfl ⟨F105, A115, rfl, hS, (fun p j h => by rw [nF105 p j (fun z => h (Or.inl ⟨z.1, z.2⟩))]), (fun p h => by
              funext j
              rw [nA115 p (fun z => h (Or.inr (Or.inr (Or.inr (Or.inr (Or.inr z)))))), nA112 p (fun z => h (Or.inr (Or.inr (Or.inr (Or.inr (Or.inl z)))))), nA105 p (fun z => h (z.elim (fun y => (Or.inl y)) (fun y => (Or.inr (Or.inl y)))))]), (by
              rw [nA115 45 (by decide), ← p108_0, m_112 (by omega) (by omega)]
              unfold ezv_run ezv_cl ezv_run0
              rw [if_pos (show R.1 = 1 by omega), ← hth, ← an_105]
              (repeat' split) <;> omega), (by
              rw [← p108_0, m_115 (by omega) (by omega)]
              unfold ezv_tear ezv_cl ezv_tear0
              rw [if_neg (show ¬ S.1 = 1 by omega)]
              (repeat' split) <;> omega), (fun j hj => by rw [nA115 45 (by decide), n_112 j (by omega), nA105 45 (by decide)]), (fun j hj => by rw [n_115 j (by omega), nA112 46 (by decide), nA105 46 (by decide)]), rfl⟩
      · refine ezw_aload_n rfl rfl ?_
        refine ezw_iload rfl rfl ?_
        refine ezw_iload rfl rfl ?_
        refine ezw_iload rfl rfl ?_
        refine ezw_iload rfl rfl ?_
        refine ezw_call0_4 rfl (by omega) (ezu_at rfl) rfl rfl rfl rfl (ezt_m87_9v (y := S.2) hS (by omega) ha4 hu2 ha5 ha6 (ezt_LW_fr (lS.2.2 (by omega)).1 (by rw [nF105 9 4 (by decide)]) (by rw [nA105 10 (by decide)])) (lS.2.2 (by omega)).2) ?_
        rintro _ _ ⟨F116, A116, rfl, hS, nF116, nA116, u117, hu117, an_116, rfl⟩
        refine ezw_istore rfl rfl ?_
        refine ezw_iload_n rfl rfl ?_
        refine ezw_iload rfl rfl ?_
        refine ezw_iload rfl rfl ?_
        refine ezw_iload rfl rfl ?_
        refine ezw_call2_4 rfl (by omega) rfl rfl (ezt_m92v hS (by omega) ha3 ha4 ha5 ha6 (by omega)) ?_
        rintro _ _ ⟨rfl, u119, hu119, p118_0, rfl⟩
        refine ezw_istore rfl rfl ?_
        refine ezw_aload_n rfl rfl ?_
        refine ezs_getp (p := 45) rfl rfl rfl rfl rfl ?_
        refine ezw_iload rfl rfl ?_
        refine ezw_iconst (0) rfl rfl ?_
        refine ezw_bipush (10) rfl rfl ?_
        refine ezw_iload rfl rfl ?_
        refine ezw_mminE rfl ⟨by decide, by decide⟩ hu106 rfl (fun u120 hu120 => ?_)
        refine ezw_mmaxE rfl ⟨by decide, by decide⟩ ⟨by omega, by omega⟩ rfl (fun u121 hu121 => ?_)
        refine ezw_call3_3 rfl (by omega) rfl rfl (ezt_m21_45 hS (by omega) hu119 ⟨by omega, by omega⟩) ?_
        rintro _ _ ⟨A122, rfl, hS, nA122, m_122, n_122, rfl⟩
        refine ezw_aload_n rfl rfl ?_
        refine ezs_getp (p := 46) rfl rfl rfl rfl rfl ?_
        refine ezw_iload rfl rfl ?_
        refine ezw_iconst (0) rfl rfl ?_
        refine ezw_bipush (10) rfl rfl ?_
        refine ezw_iload rfl rfl ?_
        refine ezw_mminE rfl ⟨by decide, by decide⟩ hu117 rfl (fun u123 hu123 => ?_)
        refine ezw_mmaxE rfl ⟨by decide, by decide⟩ ⟨by omega, by omega⟩ rfl (fun u124 hu124 => ?_)
        refine ezw_call3_3 rfl (by omega) rfl rfl (ezt_m21_46 hS (by omega) hu119 ⟨by omega, by omega⟩) ?_
        rintro _ _ ⟨A125, rfl, hS, nA125, m_125, n_125, rfl⟩
        exact ezw_return rfl rfl ⟨F116, A125, rfl, hS, (fun p j h => by rw [nF116 p j (fun z => h (Or.inr ⟨z.1, z.2⟩)), nF105 p j (fun z => h (Or.inl ⟨z.1, z.2⟩))]), (fun p h => by
              funext j
              rw [nA125 p (fun z => h (Or.inr (Or.inr (Or.inr (Or.inr (Or.inr z)))))), nA122 p (fun z => h (Or.inr (Or.inr (Or.inr (Or.inr (Or.inl z)))))), nA116 p (fun z => h (z.elim (fun y => (Or.inr (Or.inr (Or.inl y)))) (fun y => (Or.inr (Or.inr (Or.inr (Or.inl y))))))), nA105 p (fun z => h (z.elim (fun y => (Or.inl y)) (fun y => (Or.inr (Or.inl y)))))]), (by
              rw [nA125 45 (by decide), ← p118_0, m_122 (by omega) (by omega)]
              unfold ezv_run ezv_cl ezv_run0
              rw [if_pos (show R.1 = 1 by omega), ← hth, ← an_105]
              (repeat' split) <;> omega), (by
              rw [← p118_0, m_125 (by omega) (by omega)]
              unfold ezv_tear ezv_cl ezv_tear0
              rw [if_pos (show S.1 = 1 by omega), ← hth, ← an_116]
              (repeat' split) <;> omega), (fun j hj => by rw [nA125 45 (by decide), n_122 j (by omega), nA116 45 (by decide), nA105 45 (by decide)]), (fun j hj => by rw [n_125 j (by omega), nA122 46 (by decide), nA116 46 (by decide), nA105 46 (by decide)]), rfl⟩
def ezt_m85_30_5_9vQ (e : Bool × Bool) (F : Nat → Nat → Int) (A : Nat → Int → Int) (t : ezp_D) (R : Int × (Int × (Int → Int))) (S : Int × (Int × (Int → Int))) : Option ezq_V → (Nat → ezq_C) → Prop := fun v g' => ∃ (F' : Nat → Nat → Int) (A' : Nat → Int → Int), ezu_g e F' A' = g' ∧ ezs_T F' A' ∧ (∀ p j, ¬ (p = 5 ∧ (j = 5) ∨ p = 9 ∧ (j = 5)) → F' p j = F p j) ∧ (∀ p, ¬ (p = 7 ∨ p = 8 ∨ p = 11 ∨ p = 12 ∨ p = 45 ∨ p = 46) → A' p = A p) ∧ (∀ p, 0 ≤ p → p < 60 * t.kT → A' 45 p = ezv_run R (p % 60 / 6) (t.th (p / 60)) (p % 6 / 2) (p % 2)) ∧ (∀ p, 0 ≤ p → p < 60 * t.kT → A' 46 p = ezv_tear S (p % 60 / 6) (t.th (p / 60)) (p % 6 / 2) (p % 2)) ∧ none = v
theorem ezt_m85_30_5_9v {t : ezp_D} {R : Int × (Int × (Int → Int))} {S : Int × (Int × (Int → Int))} {F : Nat → Nat → Int} {A : Nat → Int → Int} (hS : ezs_T F A) (hd : 5 ≤ d) (tr : ezt_TR 30 t F A) (hB : ∀ i, 0 ≤ i → i < t.kT → 1 ≤ t.th i ∧ t.th i ≤ 20) (lR : (R.1 = 0 ∨ R.1 = 1) ∧ F 5 3 = R.1 ∧ (R.1 = 1 → ezt_LW 5 R.2 F A ∧ ezv_L R.2)) (lS : (S.1 = 0 ∨ S.1 = 1) ∧ F 9 3 = S.1 ∧ (S.1 = 1 → ezt_LW 9 S.2 F A ∧ ezv_L S.2)) : ezw_C l ρ B xa Hb D cA 85 d [ezw_p 30, ezw_p 5, ezw_p 9] (ezu_g e F A) (ezt_m85_30_5_9vQ e F A t R S) := by
  refine ezw_met (k := 3) rfl rfl ?_
  have c1 : F 30 15 = t.kT := tr.1.1
  have d1 := tr.2.1.1
  have d2 := tr.2.1.2.1
  refine ezw_iconst (0) rfl rfl ?_
  refine ezw_istore_n rfl rfl ?_
  have L2_2 : ∀ c1 : Int, ezw_in c1 → ∀ F_2 : Nat → Nat → Int, ∀ A_2 : Nat → Int → Int, ezs_T F_2 A_2 → (∀ p j, ¬ (p = 5 ∧ (j = 5) ∨ p = 9 ∧ (j = 5)) → F_2 p j = F p j) → (∀ p, ¬ (p = 7 ∨ p = 8 ∨ p = 11 ∨ p = 12 ∨ p = 45 ∨ p = 46) → A_2 p = A p) → ((0) ≤ c1) → (∀ p, 0 ≤ p → p < 60 * c1 → A_2 45 p = ezv_run R (p % 60 / 6) (t.th (p / 60)) (p % 6 / 2) (p % 2)) → (∀ p, 0 ≤ p → p < 60 * c1 → A_2 46 p = ezv_tear S (p % 60 / 6) (t.th (p / 60)) (p % 6 / 2) (p % 2)) → (c1 ≤ t.kT) → ezw_E l ρ B xa Hb D cA d ezq_re85 (ezt_m85_30_5_9vQ e F A t R S) 2 [some (ezw_p 30), some (ezw_p 5), some (ezw_p 9), some (ezw_i c1), none, none] [] (ezu_g e F_2 A_2) := by
    refine ezs_up ?_
    intro c1 hc1 ihc1 F_2 A_2 hS nF_2 nA_2 g_2 ru_2 te_2 cb_2
    refine ezw_iload_n rfl rfl ?_
    refine ezw_aload_n rfl rfl ?_
    refine ezy_get_i hS rfl rfl rfl rfl rfl rfl (fun u3 hu3 ku3 eu3 => ?_)
    rw [nF_2 30 15 (by decide)] at eu3
    replace eu3 := eu3.symm
    subst eu3
    refine ezw_icmp_ge rfl rfl hc1 hu3 (fun h7_3 => ?_) (fun h7_3 => ?_)
    · exact ezw_return rfl rfl ⟨F_2, A_2, rfl, hS, (fun p j h => by rw [nF_2 p j (fun z => h (z.elim (fun y => (Or.inl ⟨y.1, y.2⟩)) (fun y => (Or.inr ⟨y.1, y.2⟩))))]), (fun p h => by
            funext j
            rw [nA_2 p (fun z => h (z.elim (fun y => (Or.inl y)) (fun y => (y.elim (fun y => (Or.inr (Or.inl y))) (fun y => (y.elim (fun y => (Or.inr (Or.inr (Or.inl y)))) (fun y => (y.elim (fun y => (Or.inr (Or.inr (Or.inr (Or.inl y))))) (fun y => (y.elim (fun y => (Or.inr (Or.inr (Or.inr (Or.inr (Or.inl y)))))) (fun y => (Or.inr (Or.inr (Or.inr (Or.inr (Or.inr y))))))))))))))))]), (fun p g0 g1 => ru_2 p g0 (by omega)), (fun p g0 g1 => te_2 p g0 (by omega)), rfl⟩
    · refine ezw_iconst (0) rfl rfl ?_
      refine ezw_istore rfl rfl ?_
      have L13_5 : ∀ c4 : Int, ezw_in c4 → ∀ F_5 : Nat → Nat → Int, ∀ A_5 : Nat → Int → Int, ezs_T F_5 A_5 → (∀ p j, ¬ (p = 5 ∧ (j = 5) ∨ p = 9 ∧ (j = 5)) → F_5 p j = F_2 p j) → (∀ p, ¬ (p = 7 ∨ p = 8 ∨ p = 11 ∨ p = 12 ∨ p = 45 ∨ p = 46) → A_5 p = A_2 p) → ((0) ≤ c4) → (∀ p, 0 ≤ p → p < 60 * c1 + 6 * c4 → A_5 45 p = ezv_run R (p % 60 / 6) (t.th (p / 60)) (p % 6 / 2) (p % 2)) → (∀ p, 0 ≤ p → p < 60 * c1 + 6 * c4 → A_5 46 p = ezv_tear S (p % 60 / 6) (t.th (p / 60)) (p % 6 / 2) (p % 2)) → (c4 ≤ 10) → ezw_E l ρ B xa Hb D cA d ezq_re85 (ezt_m85_30_5_9vQ e F A t R S) 13 [some (ezw_p 30), some (ezw_p 5), some (ezw_p 9), some (ezw_i c1), some (ezw_i c4), none] [] (ezu_g e F_5 A_5) := by
        refine ezs_up ?_
        intro c4 hc4 ihc4 F_5 A_5 hS nF_5 nA_5 g_5 ru_5 te_5 cb_5
        refine ezw_iload rfl rfl ?_
        refine ezw_bipush (9) rfl rfl ?_
        refine ezw_icmp_gt rfl rfl hc4 ⟨by decide, by decide⟩ (fun h17_5 => ?_) (fun h17_5 => ?_)
        · refine ezw_iinc (k := c1 + 1) (1) rfl rfl rfl (by omega) rfl ?_
          refine ezw_goto rfl rfl ?_
          exact ezw_keepE [true, true, true, true, false, false] (ihc1 (c1 + 1) (by omega) ⟨by omega, by omega⟩ F_5 A_5 hS (fun p j h => by rw [nF_5 p j (fun z => h (z.elim (fun y => (Or.inl ⟨y.1, y.2⟩)) (fun y => (Or.inr ⟨y.1, y.2⟩)))), nF_2 p j (fun z => h (z.elim (fun y => (Or.inl ⟨y.1, y.2⟩)) (fun y => (Or.inr ⟨y.1, y.2⟩))))]) (fun p h => by
                funext j
                rw [nA_5 p (fun z => h (z.elim (fun y => (Or.inl y)) (fun y => (y.elim (fun y => (Or.inr (Or.inl y))) (fun y => (y.elim (fun y => (Or.inr (Or.inr (Or.inl y)))) (fun y => (y.elim (fun y => (Or.inr (Or.inr (Or.inr (Or.inl y))))) (fun y => (y.elim (fun y => (Or.inr (Or.inr (Or.inr (Or.inr (Or.inl y)))))) (fun y => (Or.inr (Or.inr (Or.inr (Or.inr (Or.inr y)))))))))))))))), nA_2 p (fun z => h (z.elim (fun y => (Or.inl y)) (fun y => (y.elim (fun y => (Or.inr (Or.inl y))) (fun y => (y.elim (fun y => (Or.inr (Or.inr (Or.inl y)))) (fun y => (y.elim (fun y => (Or.inr (Or.inr (Or.inr (Or.inl y))))) (fun y => (y.elim (fun y => (Or.inr (Or.inr (Or.inr (Or.inr (Or.inl y)))))) (fun y => (Or.inr (Or.inr (Or.inr (Or.inr (Or.inr y))))))))))))))))]) (by omega) (fun p g0 g1 => ru_5 p g0 (by omega)) (fun p g0 g1 => te_5 p g0 (by omega)) (by omega))
        · refine ezw_iconst (0) rfl rfl ?_
          refine ezw_istore rfl rfl ?_
          have L23_7 : ∀ c6 : Int, ezw_in c6 → ∀ F_7 : Nat → Nat → Int, ∀ A_7 : Nat → Int → Int, ezs_T F_7 A_7 → (∀ p j, ¬ (p = 5 ∧ (j = 5) ∨ p = 9 ∧ (j = 5)) → F_7 p j = F_5 p j) → (∀ p, ¬ (p = 7 ∨ p = 8 ∨ p = 11 ∨ p = 12 ∨ p = 45 ∨ p = 46) → A_7 p = A_5 p) → ((0) ≤ c6) → (∀ p, 0 ≤ p → p < 60 * c1 + 6 * c4 + 2 * c6 → A_7 45 p = ezv_run R (p % 60 / 6) (t.th (p / 60)) (p % 6 / 2) (p % 2)) → (∀ p, 0 ≤ p → p < 60 * c1 + 6 * c4 + 2 * c6 → A_7 46 p = ezv_tear S (p % 60 / 6) (t.th (p / 60)) (p % 6 / 2) (p % 2)) → (c6 ≤ 3) → ezw_E l ρ B xa Hb D cA d ezq_re85 (ezt_m85_30_5_9vQ e F A t R S) 23 [some (ezw_p 30), some (ezw_p 5), some (ezw_p 9), some (ezw_i c1), some (ezw_i c4), some (ezw_i c6)] [] (ezu_g e F_7 A_7) := by
            refine ezs_up ?_
            intro c6 hc6 ihc6 F_7 A_7 hS nF_7 nA_7 g_7 ru_7 te_7 cb_7
            refine ezw_iload rfl rfl ?_
            refine ezw_iconst (3) rfl rfl ?_
            refine ezw_icmp_ge rfl rfl hc6 ⟨by decide, by decide⟩ (fun h26_7 => ?_) (fun h26_7 => ?_)
            · refine ezw_iinc (k := c4 + 1) (1) rfl rfl rfl (by omega) rfl ?_
              refine ezw_goto rfl rfl ?_
              exact ezw_keepE [true, true, true, true, true, false] (ihc4 (c4 + 1) (by omega) ⟨by omega, by omega⟩ F_7 A_7 hS (fun p j h => by rw [nF_7 p j (fun z => h (z.elim (fun y => (Or.inl ⟨y.1, y.2⟩)) (fun y => (Or.inr ⟨y.1, y.2⟩)))), nF_5 p j (fun z => h (z.elim (fun y => (Or.inl ⟨y.1, y.2⟩)) (fun y => (Or.inr ⟨y.1, y.2⟩))))]) (fun p h => by
                    funext j
                    rw [nA_7 p (fun z => h (z.elim (fun y => (Or.inl y)) (fun y => (y.elim (fun y => (Or.inr (Or.inl y))) (fun y => (y.elim (fun y => (Or.inr (Or.inr (Or.inl y)))) (fun y => (y.elim (fun y => (Or.inr (Or.inr (Or.inr (Or.inl y))))) (fun y => (y.elim (fun y => (Or.inr (Or.inr (Or.inr (Or.inr (Or.inl y)))))) (fun y => (Or.inr (Or.inr (Or.inr (Or.inr (Or.inr y)))))))))))))))), nA_5 p (fun z => h (z.elim (fun y => (Or.inl y)) (fun y => (y.elim (fun y => (Or.inr (Or.inl y))) (fun y => (y.elim (fun y => (Or.inr (Or.inr (Or.inl y)))) (fun y => (y.elim (fun y => (Or.inr (Or.inr (Or.inr (Or.inl y))))) (fun y => (y.elim (fun y => (Or.inr (Or.inr (Or.inr (Or.inr (Or.inl y)))))) (fun y => (Or.inr (Or.inr (Or.inr (Or.inr (Or.inr y))))))))))))))))]) (by omega) (fun p g0 g1 => ru_7 p g0 (by omega)) (fun p g0 g1 => te_7 p g0 (by omega)) (by omega))
            · refine ezw_aload_n rfl rfl ?_
              refine ezw_aload_n rfl rfl ?_
              refine ezw_aload_n rfl rfl ?_
              refine ezw_iload_n rfl rfl ?_
              refine ezw_iload rfl rfl ?_
              refine ezw_iload rfl rfl ?_
              refine ezw_iconst (0) rfl rfl ?_
              refine ezw_call0_6 rfl (by omega) (ezu_at rfl) rfl rfl rfl rfl (ezt_m86_30_5_9v (t := t) (R := R) (S := S) hS (by omega) hc1 hc4 hc6 ⟨by decide, by decide⟩ (ezt_TR_fr tr (by rw [nF_7 30 15 (by decide), nF_5 30 15 (by decide), nF_2 30 15 (by decide)]) (by rw [nF_7 30 16 (by decide), nF_5 30 16 (by decide), nF_2 30 16 (by decide)]) (by rw [nF_7 30 17 (by decide), nF_5 30 17 (by decide), nF_2 30 17 (by decide)]) (by rw [nF_7 38 1 (by decide), nF_5 38 1 (by decide), nF_2 38 1 (by decide)]) (fun k k1 k2 => by rw [nA_7 (30 + k) (by omega), nA_5 (30 + k) (by omega), nA_2 (30 + k) (by omega)])) (by omega) (by omega) ⟨lR.1, Eq.trans (by rw [nF_7 5 3 (by decide), nF_5 5 3 (by decide), nF_2 5 3 (by decide)]) lR.2.1, fun z => ⟨ezt_LW_fr (lR.2.2 z).1 (by rw [nF_7 5 4 (by decide), nF_5 5 4 (by decide), nF_2 5 4 (by decide)]) (by rw [nA_7 6 (by decide), nA_5 6 (by decide), nA_2 6 (by decide)]), (lR.2.2 z).2⟩⟩ ⟨lS.1, Eq.trans (by rw [nF_7 9 3 (by decide), nF_5 9 3 (by decide), nF_2 9 3 (by decide)]) lS.2.1, fun z => ⟨ezt_LW_fr (lS.2.2 z).1 (by rw [nF_7 9 4 (by decide), nF_5 9 4 (by decide), nF_2 9 4 (by decide)]) (by rw [nA_7 10 (by decide), nA_5 10 (by decide), nA_2 10 (by decide)]), (lS.2.2 z).2⟩⟩) ?_
              rintro _ _ ⟨F8, A8, rfl, hS, nF8, nA8, ru_8, te_8, ro_8, to_8, rfl⟩
              refine ezw_aload_n rfl rfl ?_
              refine ezw_aload_n rfl rfl ?_
              refine ezw_aload_n rfl rfl ?_
              refine ezw_iload_n rfl rfl ?_
              refine ezw_iload rfl rfl ?_
              refine ezw_iload rfl rfl ?_
              refine ezw_iconst (1) rfl rfl ?_
              refine ezw_call0_6 rfl (by omega) (ezu_at rfl) rfl rfl rfl rfl (ezt_m86_30_5_9v (t := t) (R := R) (S := S) hS (by omega) hc1 hc4 hc6 ⟨by decide, by decide⟩ (ezt_TR_fr tr (by rw [nF8 30 15 (by decide), nF_7 30 15 (by decide), nF_5 30 15 (by decide), nF_2 30 15 (by decide)]) (by rw [nF8 30 16 (by decide), nF_7 30 16 (by decide), nF_5 30 16 (by decide), nF_2 30 16 (by decide)]) (by rw [nF8 30 17 (by decide), nF_7 30 17 (by decide), nF_5 30 17 (by decide), nF_2 30 17 (by decide)]) (by rw [nF8 38 1 (by decide), nF_7 38 1 (by decide), nF_5 38 1 (by decide), nF_2 38 1 (by decide)]) (fun k k1 k2 => by rw [nA8 (30 + k) (by omega), nA_7 (30 + k) (by omega), nA_5 (30 + k) (by omega), nA_2 (30 + k) (by omega)])) (by omega) (by omega) ⟨lR.1, Eq.trans (by rw [nF8 5 3 (by decide), nF_7 5 3 (by decide), nF_5 5 3 (by decide), nF_2 5 3 (by decide)]) lR.2.1, fun z => ⟨ezt_LW_fr (lR.2.2 z).1 (by rw [nF8 5 4 (by decide), nF_7 5 4 (by decide), nF_5 5 4 (by decide), nF_2 5 4 (by decide)]) (by rw [nA8 6 (by decide), nA_7 6 (by decide), nA_5 6 (by decide), nA_2 6 (by decide)]), (lR.2.2 z).2⟩⟩ ⟨lS.1, Eq.trans (by rw [nF8 9 3 (by decide), nF_7 9 3 (by decide), nF_5 9 3 (by decide), nF_2 9 3 (by decide)]) lS.2.1, fun z => ⟨ezt_LW_fr (lS.2.2 z).1 (by rw [nF8 9 4 (by decide), nF_7 9 4 (by decide), nF_5 9 4 (by decide), nF_2 9 4 (by decide)]) (by rw [nA8 10 (by decide), nA_7 10 (by decide), nA_5 10 (by decide), nA_2 10 (by decide)]), (lS.2.2 z).2⟩⟩) ?_
              rintro _ _ ⟨F9, A9, rfl, hS, nF9, nA9, ru_9, te_9, ro_9, to_9, rfl⟩
              refine ezw_iinc (k := c6 + 1) (1) rfl rfl rfl (by omega) rfl ?_
              refine ezw_goto rfl rfl ?_
              exact ezw_keepE [true, true, true, true, true, true] (ihc6 (c6 + 1) (by omega) ⟨by omega, by omega⟩ F9 A9 hS (fun p j h => by rw [nF9 p j (fun z => h (z.elim (fun y => (Or.inl ⟨y.1, y.2⟩)) (fun y => (Or.inr ⟨y.1, y.2⟩)))), nF8 p j (fun z => h (z.elim (fun y => (Or.inl ⟨y.1, y.2⟩)) (fun y => (Or.inr ⟨y.1, y.2⟩)))), nF_7 p j (fun z => h (z.elim (fun y => (Or.inl ⟨y.1, y.2⟩)) (fun y => (Or.inr ⟨y.1, y.2⟩))))]) (fun p h => by
                    funext j
                    rw [nA9 p (fun z => h (z.elim (fun y => (Or.inl y)) (fun y => (y.elim (fun y => (Or.inr (Or.inl y))) (fun y => (y.elim (fun y => (Or.inr (Or.inr (Or.inl y)))) (fun y => (y.elim (fun y => (Or.inr (Or.inr (Or.inr (Or.inl y))))) (fun y => (y.elim (fun y => (Or.inr (Or.inr (Or.inr (Or.inr (Or.inl y)))))) (fun y => (Or.inr (Or.inr (Or.inr (Or.inr (Or.inr y)))))))))))))))), nA8 p (fun z => h (z.elim (fun y => (Or.inl y)) (fun y => (y.elim (fun y => (Or.inr (Or.inl y))) (fun y => (y.elim (fun y => (Or.inr (Or.inr (Or.inl y)))) (fun y => (y.elim (fun y => (Or.inr (Or.inr (Or.inr (Or.inl y))))) (fun y => (y.elim (fun y => (Or.inr (Or.inr (Or.inr (Or.inr (Or.inl y)))))) (fun y => (Or.inr (Or.inr (Or.inr (Or.inr (Or.inr y)))))))))))))))), nA_7 p (fun z => h (z.elim (fun y => (Or.inl y)) (fun y => (y.elim (fun y => (Or.inr (Or.inl y))) (fun y => (y.elim (fun y => (Or.inr (Or.inr (Or.inl y)))) (fun y => (y.elim (fun y => (Or.inr (Or.inr (Or.inr (Or.inl y))))) (fun y => (y.elim (fun y => (Or.inr (Or.inr (Or.inr (Or.inr (Or.inl y)))))) (fun y => (Or.inr (Or.inr (Or.inr (Or.inr (Or.inr y))))))))))))))))]) (by omega) (fun p g0 g1 => by
                    by_cases h1 : p = 60 * c1 + 6 * c4 + 2 * c6 + 1
                    · have h9 := ru_9
                      rw [h1]
                      rw [show (60 * c1 + 6 * c4 + 2 * c6 + 1) % 60 / 6 = c4 by omega, show (60 * c1 + 6 * c4 + 2 * c6 + 1) / 60 = c1 by omega, show (60 * c1 + 6 * c4 + 2 * c6 + 1) % 6 / 2 = c6 by omega, show (60 * c1 + 6 * c4 + 2 * c6 + 1) % 2 = 1 by omega]
                      exact h9
                    · by_cases h0 : p = 60 * c1 + 6 * c4 + 2 * c6
                      · have h9 := ru_8
                        rw [ro_9 p (by omega), h0]
                        rw [show (60 * c1 + 6 * c4 + 2 * c6) % 60 / 6 = c4 by omega, show (60 * c1 + 6 * c4 + 2 * c6) / 60 = c1 by omega, show (60 * c1 + 6 * c4 + 2 * c6) % 6 / 2 = c6 by omega, show (60 * c1 + 6 * c4 + 2 * c6) % 2 = 0 by omega]
                        rw [show 60 * c1 + 6 * c4 + 2 * c6 + 0 = 60 * c1 + 6 * c4 + 2 * c6 by omega] at h9
                        exact h9
                      · rw [ro_9 p (by omega), ro_8 p (by omega)]
                        exact ru_7 p g0 (by omega)) (fun p g0 g1 => by
                    by_cases h1 : p = 60 * c1 + 6 * c4 + 2 * c6 + 1
                    · have h9 := te_9
                      rw [h1]
                      rw [show (60 * c1 + 6 * c4 + 2 * c6 + 1) % 60 / 6 = c4 by omega, show (60 * c1 + 6 * c4 + 2 * c6 + 1) / 60 = c1 by omega, show (60 * c1 + 6 * c4 + 2 * c6 + 1) % 6 / 2 = c6 by omega, show (60 * c1 + 6 * c4 + 2 * c6 + 1) % 2 = 1 by omega]
                      exact h9
                    · by_cases h0 : p = 60 * c1 + 6 * c4 + 2 * c6
                      · have h9 := te_8
                        rw [to_9 p (by omega), h0]
                        rw [show (60 * c1 + 6 * c4 + 2 * c6) % 60 / 6 = c4 by omega, show (60 * c1 + 6 * c4 + 2 * c6) / 60 = c1 by omega, show (60 * c1 + 6 * c4 + 2 * c6) % 6 / 2 = c6 by omega, show (60 * c1 + 6 * c4 + 2 * c6) % 2 = 0 by omega]
                        rw [show 60 * c1 + 6 * c4 + 2 * c6 + 0 = 60 * c1 + 6 * c4 + 2 * c6 by omega] at h9
                        exact h9
                      · rw [to_9 p (by omega), to_8 p (by omega)]
                        exact te_7 p g0 (by omega)) (by omega))
          exact ezw_keepE [true, true, true, true, true, true] (L23_7 (0) ⟨by decide, by decide⟩ F_5 A_5 hS (fun _ _ _ => rfl) (fun _ _ => rfl) (by omega) (fun p g0 g1 => ru_5 p g0 (by omega)) (fun p g0 g1 => te_5 p g0 (by omega)) (by omega))
      exact ezw_keepE [true, true, true, true, true, false] (L13_5 (0) ⟨by decide, by decide⟩ F_2 A_2 hS (fun _ _ _ => rfl) (fun _ _ => rfl) (by omega) (fun p g0 g1 => ru_2 p g0 (by omega)) (fun p g0 g1 => te_2 p g0 (by omega)) (by omega))
  exact ezw_keepE [true, true, true, true, false, false] (L2_2 (0) ⟨by decide, by decide⟩ F A hS (fun _ _ _ => rfl) (fun _ _ => rfl) (by omega) (fun p g0 g1 => by omega) (fun p g0 g1 => by omega) (by omega))
def ezt_m27_49Q (e : Bool × Bool) (F : Nat → Nat → Int) (A : Nat → Int → Int) (a1 : Int) : Option ezq_V → (Nat → ezq_C) → Prop := fun v g' => ezu_g e F A = g' ∧ ∃ u : Int, (ezw_in u) ∧ (0 ≤ a1 → a1 < 8 → u = A 49 a1) ∧ some (ezw_i u) = v
theorem ezt_m27_49 {a1 : Int} {F : Nat → Nat → Int} {A : Nat → Int → Int} (hS : ezs_T F A) (hd : 0 ≤ d) (ha1 : ezw_in a1) : ezw_C l ρ B xa Hb D cA 27 d [ezw_p 49, ezw_i a1] (ezu_g e F A) (ezt_m27_49Q e F A a1) := by
  refine ezw_met (k := 0) rfl rfl ?_
  refine ezw_aload_n rfl rfl ?_
  refine ezw_ifnull rfl ?_
  refine ezw_iload_n rfl rfl ?_
  refine ezw_if_lt rfl rfl ha1 (fun h5_0 => ?_) (fun h5_0 => ?_)
  · refine ezw_iconst (0) rfl rfl ?_
    exact ezw_ireturn rfl rfl ⟨rfl, (0), ⟨by decide, by decide⟩, by omega, rfl⟩
  · refine ezw_iload_n rfl rfl ?_
    refine ezw_aload_n rfl rfl ?_
    refine ezs_alen (k := 8) rfl rfl rfl rfl (by decide) (by decide) ?_
    refine ezw_icmp_ge rfl rfl ha1 ⟨by decide, by decide⟩ (fun h11_0 => ?_) (fun h11_0 => ?_)
    · refine ezw_iconst (0) rfl rfl ?_
      exact ezw_ireturn rfl rfl ⟨rfl, (0), ⟨by decide, by decide⟩, by omega, rfl⟩
    · refine ezw_aload_n rfl rfl ?_
      refine ezw_iload_n rfl rfl ?_
      refine ezy_iaload hS rfl rfl rfl (by omega) (by omega) (by decide) (fun u1 hu1 ku1 eu1 => ?_)
      refine ezw_goto rfl rfl ?_
      exact ezw_ireturn rfl rfl ⟨rfl, u1, hu1, by omega, rfl⟩
def ezt_m21_62Q (e : Bool × Bool) (F : Nat → Nat → Int) (A : Nat → Int → Int) (a1 : Int) (a2 : Int) : Option ezq_V → (Nat → ezq_C) → Prop := fun v g' => ∃ (A' : Nat → Int → Int), ezu_g e F A' = g' ∧ ezs_T F A' ∧ (∀ p, ¬ (p = 62) → A' p = A p) ∧ (0 ≤ a1 → a1 < 480 → A' 62 a1 = a2) ∧ (∀ j, j ≠ a1 → A' 62 j = A 62 j) ∧ none = v
theorem ezt_m21_62 {a1 a2 : Int} {F : Nat → Nat → Int} {A : Nat → Int → Int} (hS : ezs_T F A) (hd : 0 ≤ d) (ha1 : ezw_in a1) (ha2 : ezw_in a2) : ezw_C l ρ B xa Hb D cA 21 d [ezw_p 62, ezw_i a1, ezw_i a2] (ezu_g e F A) (ezt_m21_62Q e F A a1 a2) := by
  refine ezw_met (k := 0) rfl rfl ?_
  refine ezw_aload_n rfl rfl ?_
  refine ezw_ifnull rfl ?_
  refine ezw_iload_n rfl rfl ?_
  refine ezw_if_lt rfl rfl ha1 (fun h5_0 => ?_) (fun h5_0 => ?_)
  · exact ezw_return rfl rfl ⟨A, rfl, hS, (fun _ _ => rfl), (by omega), (fun _ _ => rfl), rfl⟩
  · refine ezw_iload_n rfl rfl ?_
    refine ezw_aload_n rfl rfl ?_
    refine ezs_alen (k := 480) rfl rfl rfl rfl (by decide) (by decide) ?_
    refine ezw_icmp_ge rfl rfl ha1 ⟨by decide, by decide⟩ (fun h11_0 => ?_) (fun h11_0 => ?_)
    · exact ezw_return rfl rfl ⟨A, rfl, hS, (fun _ _ => rfl), (by omega), (fun _ _ => rfl), rfl⟩
    · refine ezw_aload_n rfl rfl ?_
      refine ezw_iload_n rfl rfl ?_
      refine ezw_iload_n rfl rfl ?_
      refine ezy_iastore hS rfl rfl rfl (by omega) (by omega) (by decide) ha2 (fun A1 hS mA1 nA1 => ?_)
      exact ezw_return rfl rfl ⟨A1, rfl, hS, (fun p h => by
            funext j
            rw [nA1 p j (fun z => h (z.1))]), (fun _ _ => mA1), (fun j hj => nA1 62 j (by omega)), rfl⟩
def ezt_m21_63Q (e : Bool × Bool) (F : Nat → Nat → Int) (A : Nat → Int → Int) (a1 : Int) (a2 : Int) : Option ezq_V → (Nat → ezq_C) → Prop := fun v g' => ∃ (A' : Nat → Int → Int), ezu_g e F A' = g' ∧ ezs_T F A' ∧ (∀ p, ¬ (p = 63) → A' p = A p) ∧ (0 ≤ a1 → a1 < 480 → A' 63 a1 = a2) ∧ (∀ j, j ≠ a1 → A' 63 j = A 63 j) ∧ none = v
theorem ezt_m21_63 {a1 a2 : Int} {F : Nat → Nat → Int} {A : Nat → Int → Int} (hS : ezs_T F A) (hd : 0 ≤ d) (ha1 : ezw_in a1) (ha2 : ezw_in a2) : ezw_C l ρ B xa Hb D cA 21 d [ezw_p 63, ezw_i a1, ezw_i a2] (ezu_g e F A) (ezt_m21_63Q e F A a1 a2) := by
  refine ezw_met (k := 0) rfl rfl ?_
  refine ezw_aload_n rfl rfl ?_
  refine ezw_ifnull rfl ?_
  refine ezw_iload_n rfl rfl ?_
  refine ezw_if_lt rfl rfl ha1 (fun h5_0 => ?_) (fun h5_0 => ?_)
  · exact ezw_return rfl rfl ⟨A, rfl, hS, (fun _ _ => rfl), (by omega), (fun _ _ => rfl), rfl⟩
  · refine ezw_iload_n rfl rfl ?_
    refine ezw_aload_n rfl rfl ?_
    refine ezs_alen (k := 480) rfl rfl rfl rfl (by decide) (by decide) ?_
    refine ezw_icmp_ge rfl rfl ha1 ⟨by decide, by decide⟩ (fun h11_0 => ?_) (fun h11_0 => ?_)
    · exact ezw_return rfl rfl ⟨A, rfl, hS, (fun _ _ => rfl), (by omega), (fun _ _ => rfl), rfl⟩
    · refine ezw_aload_n rfl rfl ?_
      refine ezw_iload_n rfl rfl ?_
      refine ezw_iload_n rfl rfl ?_
      refine ezy_iastore hS rfl rfl rfl (by omega) (by omega) (by decide) ha2 (fun A1 hS mA1 nA1 => ?_)
      exact ezw_return rfl rfl ⟨A1, rfl, hS, (fun p h => by
            funext j
            rw [nA1 p j (fun z => h (z.1))]), (fun _ _ => mA1), (fun j hj => nA1 63 j (by omega)), rfl⟩
def ezt_m86_47_5_9vQ (e : Bool × Bool) (F : Nat → Nat → Int) (A : Nat → Int → Int) (t : ezp_D) (R : Int × (Int × (Int → Int))) (S : Int × (Int × (Int → Int))) (a3 : Int) (a4 : Int) (a5 : Int) (a6 : Int) : Option ezq_V → (Nat → ezq_C) → Prop := fun v g' => ∃ (F' : Nat → Nat → Int) (A' : Nat → Int → Int), ezu_g e F' A' = g' ∧ ezs_T F' A' ∧ (∀ p j, ¬ (p = 5 ∧ (j = 5) ∨ p = 9 ∧ (j = 5)) → F' p j = F p j) ∧ (∀ p, ¬ (p = 7 ∨ p = 8 ∨ p = 11 ∨ p = 12 ∨ p = 62 ∨ p = 63) → A' p = A p) ∧ (A' 62 (60 * a3 + 6 * a4 + 2 * a5 + a6) = ezv_run R a4 (t.th a3) a5 a6) ∧ (A' 63 (60 * a3 + 6 * a4 + 2 * a5 + a6) = ezv_tear S a4 (t.th a3) a5 a6) ∧ (∀ j, j ≠ 60 * a3 + 6 * a4 + 2 * a5 + a6 → A' 62 j = A 62 j) ∧ (∀ j, j ≠ 60 * a3 + 6 * a4 + 2 * a5 + a6 → A' 63 j = A 63 j) ∧ none = v
theorem ezt_m86_47_5_9v {t : ezp_D} {R : Int × (Int × (Int → Int))} {S : Int × (Int × (Int → Int))} {a3 a4 a5 a6 : Int} {F : Nat → Nat → Int} {A : Nat → Int → Int} (hS : ezs_T F A) (hd : 4 ≤ d) (ha3 : ezw_in a3) (ha4 : ezw_in a4) (ha5 : ezw_in a5) (ha6 : ezw_in a6) (tr : ezt_TR 47 t F A) (hB : ∀ i, 0 ≤ i → i < t.kT → 1 ≤ t.th i ∧ t.th i ≤ 20) (ga : 0 ≤ a3 ∧ a3 < t.kT ∧ 0 ≤ a4 ∧ a4 ≤ 9 ∧ 0 ≤ a5 ∧ a5 ≤ 2 ∧ 0 ≤ a6 ∧ a6 ≤ 1) (lR : (R.1 = 0 ∨ R.1 = 1) ∧ F 5 3 = R.1 ∧ (R.1 = 1 → ezt_LW 5 R.2 F A ∧ ezv_L R.2)) (lS : (S.1 = 0 ∨ S.1 = 1) ∧ F 9 3 = S.1 ∧ (S.1 = 1 → ezt_LW 9 S.2 F A ∧ ezv_L S.2)) : ezw_C l ρ B xa Hb D cA 86 d [ezw_p 47, ezw_p 5, ezw_p 9, ezw_i a3, ezw_i a4, ezw_i a5, ezw_i a6] (ezu_g e F A) (ezt_m86_47_5_9vQ e F A t R S a3 a4 a5 a6) := by
  refine ezw_met (k := 4) rfl rfl ?_
  obtain ⟨⟨c1, c2, c3, c4⟩, ⟨d1, d2, d3, d4, d5, d6, d7, d8⟩, e3, e4, e5, e6⟩ := id tr
  have hBa := hB a3 (by omega) (by omega)
  have lR1 := lR.1
  have lR2 := lR.2.1
  have lS1 := lS.1
  have lS2 := lS.2.1
  refine ezw_aload_n rfl rfl ?_
  refine ezs_getp (p := 49) rfl rfl rfl rfl rfl ?_
  refine ezw_iload_n rfl rfl ?_
  refine ezw_call3_2 rfl (by omega) rfl rfl (ezt_m27_49 hS (by omega) ha3) ?_
  rintro _ _ ⟨rfl, u2, hu2, v_1, rfl⟩
  have hth0 := v_1 (by omega) (by omega)
  have hth : u2 = t.th a3 := by
    rw [hth0]
    exact (e3 a3 (by omega) (by omega)).2.2.1
  refine ezw_istore rfl rfl ?_
  refine ezw_iload rfl rfl ?_
  refine ezw_if_ne rfl rfl ha5 (fun h12_2 => ?_) (fun h12_2 => ?_)
  · refine ezw_iload rfl rfl ?_
    refine ezw_iconst (1) rfl rfl ?_
    refine ezw_icmp_ne rfl rfl ha5 ⟨by decide, by decide⟩ (fun h26_2 => ?_) (fun h26_2 => ?_)
    · refine ezw_iconst (0) rfl rfl ?_
      refine ezw_istore rfl rfl ?_
      refine ezw_iload rfl rfl ?_
      refine ezw_iconst (2) rfl rfl ?_
      refine ezw_iload rfl rfl ?_
      refine ezw_imul (k := 2 * a6) rfl (by omega) ?_
      refine ezw_iadd (k := a4 + 2 * a6) rfl (by omega) ?_
      refine ezw_istore rfl rfl ?_
      refine ezw_aload_n rfl rfl ?_
      refine ezy_get_i hS rfl rfl rfl rfl rfl rfl (fun u3 hu3 ku3 eu3 => ?_)
      replace eu3 := eu3.symm
      subst eu3
      have ru3 : 0 ≤ (F 5 3) ∧ (F 5 3) ≤ 1 := ku3
      refine ezw_if_eq rfl rfl hu3 (fun h52_3 => ?_) (fun h52_3 => ?_)
      · refine ezw_aload_n rfl rfl ?_
        refine ezy_get_i hS rfl rfl rfl rfl rfl rfl (fun u4 hu4 ku4 eu4 => ?_)
        replace eu4 := eu4.symm
        subst eu4
        have ru4 : 0 ≤ (F 9 3) ∧ (F 9 3) ≤ 1 := ku4
        refine ezw_if_eq rfl rfl hu4 (fun h73_4 => ?_) (fun h73_4 => ?_)
        · refine ezw_iload_n rfl rfl ?_
          refine ezw_iload rfl rfl ?_
          refine ezw_iload rfl rfl ?_
          refine ezw_iload rfl rfl ?_
          refine ezw_call2_4 rfl (by omega) rfl rfl (ezt_m92v hS (by omega) ha3 ha4 ha5 ha6 (by omega)) ?_
          rintro _ _ ⟨rfl, u6, hu6, p5_0, rfl⟩
          refine ezw_istore rfl rfl ?_
          refine ezw_aload_n rfl rfl ?_
          refine ezs_getp (p := 62) rfl rfl rfl rfl rfl ?_
          refine ezw_iload rfl rfl ?_
          refine ezw_iconst (0) rfl rfl ?_
          refine ezw_bipush (10) rfl rfl ?_
          refine ezw_iload rfl rfl ?_
          refine ezw_mminE rfl ⟨by decide, by decide⟩ ⟨by decide, by decide⟩ rfl (fun u7 hu7 => ?_)
          refine ezw_mmaxE rfl ⟨by decide, by decide⟩ ⟨by omega, by omega⟩ rfl (fun u8 hu8 => ?_)
          refine ezw_call3_3 rfl (by omega) rfl rfl (ezt_m21_62 hS (by omega) hu6 ⟨by omega, by omega⟩) ?_
          rintro _ _ ⟨A9, rfl, hS, nA9, m_9, n_9, rfl⟩
          refine ezw_aload_n rfl rfl ?_
          refine ezs_getp (p := 63) rfl rfl rfl rfl rfl ?_
          refine ezw_iload rfl rfl ?_
          refine ezw_iconst (0) rfl rfl ?_
          refine ezw_bipush (10) rfl rfl ?_
          refine ezw_iload rfl rfl ?_
          refine ezw_mminE rfl ⟨by decide, by decide⟩ ⟨by omega, by omega⟩ rfl (fun u10 hu10 => ?_)
          refine ezw_mmaxE rfl ⟨by decide, by decide⟩ ⟨by omega, by omega⟩ rfl (fun u11 hu11 => ?_)
          refine ezw_call3_3 rfl (by omega) rfl rfl (ezt_m21_63 hS (by omega) hu6 ⟨by omega, by omega⟩) ?_
          rintro _ _ ⟨A12, rfl, hS, nA12, m_12, n_12, rfl⟩
          exact ezw_return rfl rfl ⟨F, A12, rfl, hS, (fun _ _ _ => rfl), (fun p h => by
                funext j
                rw [nA12 p (fun z => h (Or.inr (Or.inr (Or.inr (Or.inr (Or.inr z)))))), nA9 p (fun z => h (Or.inr (Or.inr (Or.inr (Or.inr (Or.inl z))))))]), (by
                rw [nA12 62 (by decide), ← p5_0, m_9 (by omega) (by omega)]
                unfold ezv_run ezv_cl ezv_run0
                rw [if_neg (show ¬ R.1 = 1 by omega)]
                (repeat' split) <;> omega), (by
                rw [← p5_0, m_12 (by omega) (by omega)]
                unfold ezv_tear ezv_cl ezv_tear0
                rw [if_neg (show ¬ S.1 = 1 by omega)]
                (repeat' split) <;> omega), (fun j hj => by rw [nA12 62 (by decide), n_9 j (by omega)]), (fun j hj => by rw [n_12 j (by omega), nA9 63 (by decide)]), rfl⟩
        · refine ezw_aload_n rfl rfl ?_
          refine ezw_iload rfl rfl ?_
          refine ezw_iload rfl rfl ?_
          refine ezw_iload rfl rfl ?_
          refine ezw_iload rfl rfl ?_
          refine ezw_call0_4 rfl (by omega) (ezu_at rfl) rfl rfl rfl rfl (ezt_m87_9v (y := S.2) hS (by omega) ha4 hu2 ha5 ha6 (ezt_LW_fr (lS.2.2 (by omega)).1 rfl rfl) (lS.2.2 (by omega)).2) ?_
          rintro _ _ ⟨F13, A13, rfl, hS, nF13, nA13, u14, hu14, an_13, rfl⟩
          refine ezw_istore rfl rfl ?_
          refine ezw_iload_n rfl rfl ?_
          refine ezw_iload rfl rfl ?_
          refine ezw_iload rfl rfl ?_
          refine ezw_iload rfl rfl ?_
          refine ezw_call2_4 rfl (by omega) rfl rfl (ezt_m92v hS (by omega) ha3 ha4 ha5 ha6 (by omega)) ?_
          rintro _ _ ⟨rfl, u16, hu16, p15_0, rfl⟩
          refine ezw_istore rfl rfl ?_
          refine ezw_aload_n rfl rfl ?_
          refine ezs_getp (p := 62) rfl rfl rfl rfl rfl ?_
          refine ezw_iload rfl rfl ?_
          refine ezw_iconst (0) rfl rfl ?_
          refine ezw_bipush (10) rfl rfl ?_
          refine ezw_iload rfl rfl ?_
          refine ezw_mminE rfl ⟨by decide, by decide⟩ ⟨by decide, by decide⟩ rfl (fun u17 hu17 => ?_)
          refine ezw_mmaxE rfl ⟨by decide, by decide⟩ ⟨by omega, by omega⟩ rfl (fun u18 hu18 => ?_)
          refine ezw_call3_3 rfl (by omega) rfl rfl (ezt_m21_62 hS (by omega) hu16 ⟨by omega, by omega⟩) ?_
          rintro _ _ ⟨A19, rfl, hS, nA19, m_19, n_19, rfl⟩
          refine ezw_aload_n rfl rfl ?_
          refine ezs_getp (p := 63) rfl rfl rfl rfl rfl ?_
          refine ezw_iload rfl rfl ?_
          refine ezw_iconst (0) rfl rfl ?_
          refine ezw_bipush (10) rfl rfl ?_
          refine ezw_iload rfl rfl ?_
          refine ezw_mminE rfl ⟨by decide, by decide⟩ hu14 rfl (fun u20 hu20 => ?_)
          refine ezw_mmaxE rfl ⟨by decide, by decide⟩ ⟨by omega, by omega⟩ rfl (fun u21 hu21 => ?_)
          refine ezw_call3_3 rfl (by omega) rfl rfl (ezt_m21_63 hS (by omega) hu16 ⟨by omega, by omega⟩) ?_
          rintro _ _ ⟨A22, rfl, hS, nA22, m_22, n_22, rfl⟩
          exact ezw_return rfl rfl ⟨F13, A22, rfl, hS, (fun p j h => by rw [nF13 p j (fun z => h (Or.inr ⟨z.1, z.2⟩))]), (fun p h => by
                funext j
                rw [nA22 p (fun z => h (Or.inr (Or.inr (Or.inr (Or.inr (Or.inr z)))))), nA19 p (fun z => h (Or.inr (Or.inr (Or.inr (Or.inr (Or.inl z)))))), nA13 p (fun z => h (z.elim (fun y => (Or.inr (Or.inr (Or.inl y)))) (fun y => (Or.inr (Or.inr (Or.inr (Or.inl y)))))))]), (by
                rw [nA22 62 (by decide), ← p15_0, m_19 (by omega) (by omega)]
                unfold ezv_run ezv_cl ezv_run0
                rw [if_neg (show ¬ R.1 = 1 by omega)]
                (repeat' split) <;> omega), (by
                rw [← p15_0, m_22 (by omega) (by omega)]
                unfold ezv_tear ezv_cl ezv_tear0
                rw [if_pos (show S.1 = 1 by omega), ← hth, ← an_13]
                (repeat' split) <;> omega), (fun j hj => by rw [nA22 62 (by decide), n_19 j (by omega), nA13 62 (by decide)]), (fun j hj => by rw [n_22 j (by omega), nA19 63 (by decide), nA13 63 (by decide)]), rfl⟩
      · refine ezw_aload_n rfl rfl ?_
        refine ezw_iload rfl rfl ?_
        refine ezw_iload rfl rfl ?_
        refine ezw_iload rfl rfl ?_
        refine ezw_iload rfl rfl ?_
        refine ezw_call0_4 rfl (by omega) (ezu_at rfl) rfl rfl rfl rfl (ezt_m87_5v (y := R.2) hS (by omega) ha4 hu2 ha5 ha6 (ezt_LW_fr (lR.2.2 (by omega)).1 rfl rfl) (lR.2.2 (by omega)).2) ?_
        rintro _ _ ⟨F23, A23, rfl, hS, nF23, nA23, u24, hu24, an_23, rfl⟩
        refine ezw_istore rfl rfl ?_
        refine ezw_aload_n rfl rfl ?_
        refine ezy_get_i hS rfl rfl rfl rfl rfl rfl (fun u25 hu25 ku25 eu25 => ?_)
        rw [nF23 9 3 (by decide)] at eu25
        replace eu25 := eu25.symm
        subst eu25
        have ru25 : 0 ≤ (F 9 3) ∧ (F 9 3) ≤ 1 := ku25
        refine ezw_if_eq rfl rfl hu25 (fun h73_25 => ?_) (fun h73_25 => ?_)
        · refine ezw_iload_n rfl rfl ?_
          refine ezw_iload rfl rfl ?_
          refine ezw_iload rfl rfl ?_
          refine ezw_iload rfl rfl ?_
          refine ezw_call2_4 rfl (by omega) rfl rfl (ezt_m92v hS (by omega) ha3 ha4 ha5 ha6 (by omega)) ?_
          rintro _ _ ⟨rfl, u27, hu27, p26_0, rfl⟩
          refine ezw_istore rfl rfl ?_
          refine ezw_aload_n rfl rfl ?_
          refine ezs_getp (p := 62) rfl rfl rfl rfl rfl ?_
          refine ezw_iload rfl rfl ?_
          refine ezw_iconst (0) rfl rfl ?_
          refine ezw_bipush (10) rfl rfl ?_
          refine ezw_iload rfl rfl ?_
          refine ezw_mminE rfl ⟨by decide, by decide⟩ hu24 rfl (fun u28 hu28 => ?_)
          refine ezw_mmaxE rfl ⟨by decide, by decide⟩ ⟨by omega, by omega⟩ rfl (fun u29 hu29 => ?_)
          refine ezw_call3_3 rfl (by omega) rfl rfl (ezt_m21_62 hS (by omega) hu27 ⟨by omega, by omega⟩) ?_
          rintro _ _ ⟨A30, rfl, hS, nA30, m_30, n_30, rfl⟩
          refine ezw_aload_n rfl rfl ?_
          refine ezs_getp (p := 63) rfl rfl rfl rfl rfl ?_
          refine ezw_iload rfl rfl ?_
          refine ezw_iconst (0) rfl rfl ?_
          refine ezw_bipush (10) rfl rfl ?_
          refine ezw_iload rfl rfl ?_
          refine ezw_mminE rfl ⟨by decide, by decide⟩ ⟨by omega, by omega⟩ rfl (fun u31 hu31 => ?_)
          refine ezw_mmaxE rfl ⟨by decide, by decide⟩ ⟨by omega, by omega⟩ rfl (fun u32 hu32 => ?_)
          refine ezw_call3_3 rfl (by omega) rfl rfl (ezt_m21_63 hS (by omega) hu27 ⟨by omega, by omega⟩) ?_
          rintro _ _ ⟨A33, rfl, hS, nA33, m_33, n_33, rfl⟩
          exact ezw_return rfl rfl ⟨F23, A33, rfl, hS, (fun p j h => by rw [nF23 p j (fun z => h (Or.inl ⟨z.1, z.2⟩))]), (fun p h => by
                funext j
                rw [nA33 p (fun z => h (Or.inr (Or.inr (Or.inr (Or.inr (Or.inr z)))))), nA30 p (fun z => h (Or.inr (Or.inr (Or.inr (Or.inr (Or.inl z)))))), nA23 p (fun z => h (z.elim (fun y => (Or.inl y)) (fun y => (Or.inr (Or.inl y)))))]), (by
                rw [nA33 62 (by decide), ← p26_0, m_30 (by omega) (by omega)]
                unfold ezv_run ezv_cl ezv_run0
                rw [if_pos (show R.1 = 1 by omega), ← hth, ← an_23]
                (repeat' split) <;> omega), (by
                rw [← p26_0, m_33 (by omega) (by omega)]
                unfold ezv_tear ezv_cl ezv_tear0
                rw [if_neg (show ¬ S.1 = 1 by omega)]
                (repeat' split) <;> omega), (fun j hj => by rw [nA33 62 (by decide), n_30 j (by omega), nA23 62 (by decide)]), (fun j hj => by rw [n_33 j (by omega), nA30 63 (by decide), nA23 63 (by decide)]), rfl⟩
        · refine ezw_aload_n rfl rfl ?_
          refine ezw_iload rfl rfl ?_
          refine ezw_iload rfl rfl ?_
          refine ezw_iload rfl rfl ?_
          refine ezw_iload rfl rfl ?_
          refine ezw_call0_4 rfl (by omega) (ezu_at rfl) rfl rfl rfl rfl (ezt_m87_9v (y := S.2) hS (by omega) ha4 hu2 ha5 ha6 (ezt_LW_fr (lS.2.2 (by omega)).1 (by rw [nF23 9 4 (by decide)]) (by rw [nA23 10 (by decide)])) (lS.2.2 (by omega)).2) ?_
          rintro _ _ ⟨F34, A34, rfl, hS, nF34, nA34, u35, hu35, an_34, rfl⟩
          refine ezw_istore rfl rfl ?_
          refine ezw_iload_n rfl rfl ?_
          refine ezw_iload rfl rfl ?_
          refine ezw_iload rfl rfl ?_
          refine ezw_iload rfl rfl ?_
          refine ezw_call2_4 rfl (by omega) rfl rfl (ezt_m92v hS (by omega) ha3 ha4 ha5 ha6 (by omega)) ?_
          rintro _ _ ⟨rfl, u37, hu37, p36_0, rfl⟩
          refine ezw_istore rfl rfl ?_
          refine ezw_aload_n rfl rfl ?_
          refine ezs_getp (p := 62) rfl rfl rfl rfl rfl ?_
          refine ezw_iload rfl rfl ?_
          refine ezw_iconst (0) rfl rfl ?_
          refine ezw_bipush (10) rfl rfl ?_
          refine ezw_iload rfl rfl ?_
          refine ezw_mminE rfl ⟨by decide, by decide⟩ hu24 rfl (fun u38 hu38 => ?_)
          refine ezw_mmaxE rfl ⟨by decide, by decide⟩ ⟨by omega, by omega⟩ rfl (fun u39 hu39 => ?_)
          refine ezw_call3_3 rfl (by omega) rfl rfl (ezt_m21_62 hS (by omega) hu37 ⟨by omega, by omega⟩) ?_
          rintro _ _ ⟨A40, rfl, hS, nA40, m_40, n_40, rfl⟩
          refine ezw_aload_n rfl rfl ?_
          refine ezs_getp (p := 63) rfl rfl rfl rfl rfl ?_
          refine ezw_iload rfl rfl ?_
          refine ezw_iconst (0) rfl rfl ?_
          refine ezw_bipush (10) rfl rfl ?_
          refine ezw_iload rfl rfl ?_
          refine ezw_mminE rfl ⟨by decide, by decide⟩ hu35 rfl (fun u41 hu41 => ?_)
          refine ezw_mmaxE rfl ⟨by decide, by decide⟩ ⟨by omega, by omega⟩ rfl (fun u42 hu42 => ?_)
          refine ezw_call3_3 rfl (by omega) rfl rfl (ezt_m21_63 hS (by omega) hu37 ⟨by omega, by omega⟩) ?_
          rintro _ _ ⟨A43, rfl, hS, nA43, m_43, n_43, rfl⟩
          exact ezw_return rfl rfl ⟨F34, A43, rfl, hS, (fun p j h => by rw [nF34 p j (fun z => h (Or.inr ⟨z.1, z.2⟩)), nF23 p j (fun z => h (Or.inl ⟨z.1, z.2⟩))]), (fun p h => by
                funext j
                rw [nA43 p (fun z => h (Or.inr (Or.inr (Or.inr (Or.inr (Or.inr z)))))), nA40 p (fun z => h (Or.inr (Or.inr (Or.inr (Or.inr (Or.inl z)))))), nA34 p (fun z => h (z.elim (fun y => (Or.inr (Or.inr (Or.inl y)))) (fun y => (Or.inr (Or.inr (Or.inr (Or.inl y))))))), nA23 p (fun z => h (z.elim (fun y => (Or.inl y)) (fun y => (Or.inr (Or.inl y)))))]), (by
                rw [nA43 62 (by decide), ← p36_0, m_40 (by omega) (by omega)]
                unfold ezv_run ezv_cl ezv_run0
                rw [if_pos (show R.1 = 1 by omega), ← hth, ← an_23]
                (repeat' split) <;> omega), (by
                rw [← p36_0, m_43 (by omega) (by omega)]
                unfold ezv_tear ezv_cl ezv_tear0
                rw [if_pos (show S.1 = 1 by omega), ← hth, ← an_34]
                (repeat' split) <;> omega), (fun j hj => by rw [nA43 62 (by decide), n_40 j (by omega), nA34 62 (by decide), nA23 62 (by decide)]), (fun j hj => by rw [n_43 j (by omega), nA40 63 (by decide), nA34 63 (by decide), nA23 63 (by decide)]), rfl⟩
    · refine ezw_iconst (3) rfl rfl ?_
      refine ezw_iload rfl rfl ?_
      refine ezw_isub (k := -a4 + 3) rfl (by omega) ?_
      refine ezw_goto rfl rfl ?_
      refine ezw_istore rfl rfl ?_
      refine ezw_iload rfl rfl ?_
      refine ezw_iconst (2) rfl rfl ?_
      refine ezw_iload rfl rfl ?_
      refine ezw_imul (k := 2 * a6) rfl (by omega) ?_
      refine ezw_iadd (k := a4 + 2 * a6) rfl (by omega) ?_
      refine ezw_istore rfl rfl ?_
      refine ezw_aload_n rfl rfl ?_
      refine ezy_get_i hS rfl rfl rfl rfl rfl rfl (fun u44 hu44 ku44 eu44 => ?_)
      replace eu44 := eu44.symm
      subst eu44
      have ru44 : 0 ≤ (F 5 3) ∧ (F 5 3) ≤ 1 := ku44
      refine ezw_if_eq rfl rfl hu44 (fun h52_44 => ?_) (fun h52_44 => ?_)
      · refine ezw_aload_n rfl rfl ?_
        refine ezy_get_i hS rfl rfl rfl rfl rfl rfl (fun u45 hu45 ku45 eu45 => ?_)
        replace eu45 := eu45.symm
        subst eu45
        have ru45 : 0 ≤ (F 9 3) ∧ (F 9 3) ≤ 1 := ku45
        refine ezw_if_eq rfl rfl hu45 (fun h73_45 => ?_) (fun h73_45 => ?_)
        · refine ezw_iload_n rfl rfl ?_
          refine ezw_iload rfl rfl ?_
          refine ezw_iload rfl rfl ?_
          refine ezw_iload rfl rfl ?_
          refine ezw_call2_4 rfl (by omega) rfl rfl (ezt_m92v hS (by omega) ha3 ha4 ha5 ha6 (by omega)) ?_
          rintro _ _ ⟨rfl, u47, hu47, p46_0, rfl⟩
          refine ezw_istore rfl rfl ?_
          refine ezw_aload_n rfl rfl ?_
          refine ezs_getp (p := 62) rfl rfl rfl rfl rfl ?_
          refine ezw_iload rfl rfl ?_
          refine ezw_iconst (0) rfl rfl ?_
          refine ezw_bipush (10) rfl rfl ?_
          refine ezw_iload rfl rfl ?_
          refine ezw_mminE rfl ⟨by decide, by decide⟩ ⟨by omega, by omega⟩ rfl (fun u48 hu48 => ?_)
          refine ezw_mmaxE rfl ⟨by decide, by decide⟩ ⟨by omega, by omega⟩ rfl (fun u49 hu49 => ?_)
          refine ezw_call3_3 rfl (by omega) rfl rfl (ezt_m21_62 hS (by omega) hu47 ⟨by omega, by omega⟩) ?_
          rintro _ _ ⟨A50, rfl, hS, nA50, m_50, n_50, rfl⟩
          refine ezw_aload_n rfl rfl ?_
          refine ezs_getp (p := 63) rfl rfl rfl rfl rfl ?_
          refine ezw_iload rfl rfl ?_
          refine ezw_iconst (0) rfl rfl ?_
          refine ezw_bipush (10) rfl rfl ?_
          refine ezw_iload rfl rfl ?_
          refine ezw_mminE rfl ⟨by decide, by decide⟩ ⟨by omega, by omega⟩ rfl (fun u51 hu51 => ?_)
          refine ezw_mmaxE rfl ⟨by decide, by decide⟩ ⟨by omega, by omega⟩ rfl (fun u52 hu52 => ?_)
          refine ezw_call3_3 rfl (by omega) rfl rfl (ezt_m21_63 hS (by omega) hu47 ⟨by omega, by omega⟩) ?_
          rintro _ _ ⟨A53, rfl, hS, nA53, m_53, n_53, rfl⟩
          exact ezw_return rfl rfl ⟨F, A53, rfl, hS, (fun _ _ _ => rfl), (fun p h => by
                funext j
                rw [nA53 p (fun z => h (Or.inr (Or.inr (Or.inr (Or.inr (Or.inr z)))))), nA50 p (fun z => h (Or.inr (Or.inr (Or.inr (Or.inr (Or.inl z))))))]), (by
                rw [nA53 62 (by decide), ← p46_0, m_50 (by omega) (by omega)]
                unfold ezv_run ezv_cl ezv_run0
                rw [if_neg (show ¬ R.1 = 1 by omega)]
                (repeat' split) <;> omega), (by
                rw [← p46_0, m_53 (by omega) (by omega)]
                unfold ezv_tear ezv_cl ezv_tear0
                rw [if_neg (show ¬ S.1 = 1 by omega)]
                (repeat' split) <;> omega), (fun j hj => by rw [nA53 62 (by decide), n_50 j (by omega)]), (fun j hj => by rw [n_53 j (by omega), nA50 63 (by decide)]), rfl⟩
        · refine ezw_aload_n rfl rfl ?_
          refine ezw_iload rfl rfl ?_
          refine ezw_iload rfl rfl ?_
          refine ezw_iload rfl rfl ?_
          refine ezw_iload rfl rfl ?_
          refine ezw_call0_4 rfl (by omega) (ezu_at rfl) rfl rfl rfl rfl (ezt_m87_9v (y := S.2) hS (by omega) ha4 hu2 ha5 ha6 (ezt_LW_fr (lS.2.2 (by omega)).1 rfl rfl) (lS.2.2 (by omega)).2) ?_
          rintro _ _ ⟨F54, A54, rfl, hS, nF54, nA54, u55, hu55, an_54, rfl⟩
          refine ezw_istore rfl rfl ?_
          refine ezw_iload_n rfl rfl ?_
          refine ezw_iload rfl rfl ?_
          refine ezw_iload rfl rfl ?_
          refine ezw_iload rfl rfl ?_
          refine ezw_call2_4 rfl (by omega) rfl rfl (ezt_m92v hS (by omega) ha3 ha4 ha5 ha6 (by omega)) ?_
          rintro _ _ ⟨rfl, u57, hu57, p56_0, rfl⟩
          refine ezw_istore rfl rfl ?_
          refine ezw_aload_n rfl rfl ?_
          refine ezs_getp (p := 62) rfl rfl rfl rfl rfl ?_
          refine ezw_iload rfl rfl ?_
          refine ezw_iconst (0) rfl rfl ?_
          refine ezw_bipush (10) rfl rfl ?_
          refine ezw_iload rfl rfl ?_
          refine ezw_mminE rfl ⟨by decide, by decide⟩ ⟨by omega, by omega⟩ rfl (fun u58 hu58 => ?_)
          refine ezw_mmaxE rfl ⟨by decide, by decide⟩ ⟨by omega, by omega⟩ rfl (fun u59 hu59 => ?_)
          refine ezw_call3_3 rfl (by omega) rfl rfl (ezt_m21_62 hS (by omega) hu57 ⟨by omega, by omega⟩) ?_
          rintro _ _ ⟨A60, rfl, hS, nA60, m_60, n_60, rfl⟩
          refine ezw_aload_n rfl rfl ?_
          refine ezs_getp (p := 63) rfl rfl rfl rfl rfl ?_
          refine ezw_iload rfl rfl ?_
          refine ezw_iconst (0) rfl rfl ?_
          refine ezw_bipush (10) rfl rfl ?_
          refine ezw_iload rfl rfl ?_
          refine ezw_mminE rfl ⟨by decide, by decide⟩ hu55 rfl (fun u61 hu61 => ?_)
          refine ezw_mmaxE rfl ⟨by decide, by decide⟩ ⟨by omega, by omega⟩ rfl (fun u62 hu62 => ?_)
          refine ezw_call3_3 rfl (by omega) rfl rfl (ezt_m21_63 hS (by omega) hu57 ⟨by omega, by omega⟩) ?_
          rintro _ _ ⟨A63, rfl, hS, nA63, m_63, n_63, rfl⟩
          exact ezw_return rfl rfl ⟨F54, A63, rfl, hS, (fun p j h => by rw [nF54 p j (fun z => h (Or.inr ⟨z.1, z.2⟩))]), (fun p h => by
                funext j
                rw [nA63 p (fun z => h (Or.inr (Or.inr (Or.inr (Or.inr (Or.inr z)))))), nA60 p (fun z => h (Or.inr (Or.inr (Or.inr (Or.inr (Or.inl z)))))), nA54 p (fun z => h (z.elim (fun y => (Or.inr (Or.inr (Or.inl y)))) (fun y => (Or.inr (Or.inr (Or.inr (Or.inl y)))))))]), (by
                rw [nA63 62 (by decide), ← p56_0, m_60 (by omega) (by omega)]
                unfold ezv_run ezv_cl ezv_run0
                rw [if_neg (show ¬ R.1 = 1 by omega)]
                (repeat' split) <;> omega), (by
                rw [← p56_0, m_63 (by omega) (by omega)]
                unfold ezv_tear ezv_cl ezv_tear0
                rw [if_pos (show S.1 = 1 by omega), ← hth, ← an_54]
                (repeat' split) <;> omega), (fun j hj => by rw [nA63 62 (by decide), n_60 j (by omega), nA54 62 (by decide)]), (fun j hj => by rw [n_63 j (by omega), nA60 63 (by decide), nA54 63 (by decide)]), rfl⟩
      · refine ezw_aload_n rfl rfl ?_
        refine ezw_iload rfl rfl ?_
        refine ezw_iload rfl rfl ?_
        refine ezw_iload rfl rfl ?_
        refine ezw_iload rfl rfl ?_
        refine ezw_call0_4 rfl (by omega) (ezu_at rfl) rfl rfl rfl rfl (ezt_m87_5v (y := R.2) hS (by omega) ha4 hu2 ha5 ha6 (ezt_LW_fr (lR.2.2 (by omega)).1 rfl rfl) (lR.2.2 (by omega)).2) ?_
        rintro _ _ ⟨F64, A64, rfl, hS, nF64, nA64, u65, hu65, an_64, rfl⟩
        refine ezw_istore rfl rfl ?_
        refine ezw_aload_n rfl rfl ?_
        refine ezy_get_i hS rfl rfl rfl rfl rfl rfl (fun u66 hu66 ku66 eu66 => ?_)
        rw [nF64 9 3 (by decide)] at eu66
        replace eu66 := eu66.symm
        subst eu66
        have ru66 : 0 ≤ (F 9 3) ∧ (F 9 3) ≤ 1 := ku66
        refine ezw_if_eq rfl rfl hu66 (fun h73_66 => ?_) (fun h73_66 => ?_)
        · refine ezw_iload_n rfl rfl ?_
          refine ezw_iload rfl rfl ?_
          refine ezw_iload rfl rfl ?_
          refine ezw_iload rfl rfl ?_
          refine ezw_call2_4 rfl (by omega) rfl rfl (ezt_m92v hS (by omega) ha3 ha4 ha5 ha6 (by omega)) ?_
          rintro _ _ ⟨rfl, u68, hu68, p67_0, rfl⟩
          refine ezw_istore rfl rfl ?_
          refine ezw_aload_n rfl rfl ?_
          refine ezs_getp (p := 62) rfl rfl rfl rfl rfl ?_
          refine ezw_iload rfl rfl ?_
          refine ezw_iconst (0) rfl rfl ?_
          refine ezw_bipush (10) rfl rfl ?_
          refine ezw_iload rfl rfl ?_
          refine ezw_mminE rfl ⟨by decide, by decide⟩ hu65 rfl (fun u69 hu69 => ?_)
          refine ezw_mmaxE rfl ⟨by decide, by decide⟩ ⟨by omega, by omega⟩ rfl (fun u70 hu70 => ?_)
          refine ezw_call3_3 rfl (by omega) rfl rfl (ezt_m21_62 hS (by omega) hu68 ⟨by omega, by omega⟩) ?_
          rintro _ _ ⟨A71, rfl, hS, nA71, m_71, n_71, rfl⟩
          refine ezw_aload_n rfl rfl ?_
          refine ezs_getp (p := 63) rfl rfl rfl rfl rfl ?_
          refine ezw_iload rfl rfl ?_
          refine ezw_iconst (0) rfl rfl ?_
          refine ezw_bipush (10) rfl rfl ?_
          refine ezw_iload rfl rfl ?_
          refine ezw_mminE rfl ⟨by decide, by decide⟩ ⟨by omega, by omega⟩ rfl (fun u72 hu72 => ?_)
          refine ezw_mmaxE rfl ⟨by decide, by decide⟩ ⟨by omega, by omega⟩ rfl (fun u73 hu73 => ?_)
          refine ezw_call3_3 rfl (by omega) rfl rfl (ezt_m21_63 hS (by omega) hu68 ⟨by omega, by omega⟩) ?_
          rintro _ _ ⟨A74, rfl, hS, nA74, m_74, n_74, rfl⟩
          exact ezw_return rfl rfl ⟨F64, A74, rfl, hS, (fun p j h => by rw [nF64 p j (fun z => h (Or.inl ⟨z.1, z.2⟩))]), (fun p h => by
                funext j
                rw [nA74 p (fun z => h (Or.inr (Or.inr (Or.inr (Or.inr (Or.inr z)))))), nA71 p (fun z => h (Or.inr (Or.inr (Or.inr (Or.inr (Or.inl z)))))), nA64 p (fun z => h (z.elim (fun y => (Or.inl y)) (fun y => (Or.inr (Or.inl y)))))]), (by
                rw [nA74 62 (by decide), ← p67_0, m_71 (by omega) (by omega)]
                unfold ezv_run ezv_cl ezv_run0
                rw [if_pos (show R.1 = 1 by omega), ← hth, ← an_64]
                (repeat' split) <;> omega), (by
                rw [← p67_0, m_74 (by omega) (by omega)]
                unfold ezv_tear ezv_cl ezv_tear0
                rw [if_neg (show ¬ S.1 = 1 by omega)]
                (repeat' split) <;> omega), (fun j hj => by rw [nA74 62 (by decide), n_71 j (by omega), nA64 62 (by decide)]), (fun j hj => by rw [n_74 j (by omega), nA71 63 (by decide), nA64 63 (by decide)]), rfl⟩
        · refine ezw_aload_n rfl rfl ?_
          refine ezw_iload rfl rfl ?_
          refine ezw_iload rfl rfl ?_
          refine ezw_iload rfl rfl ?_
          refine ezw_iload rfl rfl ?_
          refine ezw_call0_4 rfl (by omega) (ezu_at rfl) rfl rfl rfl rfl (ezt_m87_9v (y := S.2) hS (by omega) ha4 hu2 ha5 ha6 (ezt_LW_fr (lS.2.2 (by omega)).1 (by rw [nF64 9 4 (by decide)]) (by rw [nA64 10 (by decide)])) (lS.2.2 (by omega)).2) ?_
          rintro _ _ ⟨F75, A75, rfl, hS, nF75, nA75, u76, hu76, an_75, rfl⟩
          refine ezw_istore rfl rfl ?_
          refine ezw_iload_n rfl rfl ?_
          refine ezw_iload rfl rfl ?_
          refine ezw_iload rfl rfl ?_
          refine ezw_iload rfl rfl ?_
          refine ezw_call2_4 rfl (by omega) rfl rfl (ezt_m92v hS (by omega) ha3 ha4 ha5 ha6 (by omega)) ?_
          rintro _ _ ⟨rfl, u78, hu78, p77_0, rfl⟩
          refine ezw_istore rfl rfl ?_
          refine ezw_aload_n rfl rfl ?_
          refine ezs_getp (p := 62) rfl rfl rfl rfl rfl ?_
          refine ezw_iload rfl rfl ?_
          refine ezw_iconst (0) rfl rfl ?_
          refine ezw_bipush (10) rfl rfl ?_
          refine ezw_iload rfl rfl ?_
          refine ezw_mminE rfl ⟨by decide, by decide⟩ hu65 rfl (fun u79 hu79 => ?_)
          refine ezw_mmaxE rfl ⟨by decide, by decide⟩ ⟨by omega, by omega⟩ rfl (fun u80 hu80 => ?_)
          refine ezw_call3_3 rfl (by omega) rfl rfl (ezt_m21_62 hS (by omega) hu78 ⟨by omega, by omega⟩) ?_
          rintro _ _ ⟨A81, rfl, hS, nA81, m_81, n_81, rfl⟩
          refine ezw_aload_n rfl rfl ?_
          refine ezs_getp (p := 63) rfl rfl rfl rfl rfl ?_
          refine ezw_iload rfl rfl ?_
          refine ezw_iconst (0) rfl rfl ?_
          refine ezw_bipush (10) rfl rfl ?_
          refine ezw_iload rfl rfl ?_
          refine ezw_mminE rfl ⟨by decide, by decide⟩ hu76 rfl (fun u82 hu82 => ?_)
          refine ezw_mmaxE rfl ⟨by decide, by decide⟩ ⟨by omega, by omega⟩ rfl (fun u83 hu83 => ?_)
          refine ezw_call3_3 rfl (by omega) rfl rfl (ezt_m21_63 hS (by omega) hu78 ⟨by omega, by omega⟩) ?_
          rintro _ _ ⟨A84, rfl, hS, nA84, m_84, n_84, rfl⟩
          exact ezw_return rfl rfl ⟨F75, A84, rfl, hS, (fun p j h => by rw [nF75 p j (fun z => h (Or.inr ⟨z.1, z.2⟩)), nF64 p j (fun z => h (Or.inl ⟨z.1, z.2⟩))]), (fun p h => by
                funext j
                rw [nA84 p (fun z => h (Or.inr (Or.inr (Or.inr (Or.inr (Or.inr z)))))), nA81 p (fun z => h (Or.inr (Or.inr (Or.inr (Or.inr (Or.inl z)))))), nA75 p (fun z => h (z.elim (fun y => (Or.inr (Or.inr (Or.inl y)))) (fun y => (Or.inr (Or.inr (Or.inr (Or.inl y))))))), nA64 p (fun z => h (z.elim (fun y => (Or.inl y)) (fun y => (Or.inr (Or.inl y)))))]), (by
                rw [nA84 62 (by decide), ← p77_0, m_81 (by omega) (by omega)]
                unfold ezv_run ezv_cl ezv_run0
                rw [if_pos (show R.1 = 1 by omega), ← hth, ← an_64]
                (repeat' split) <;> omega), (by
                rw [← p77_0, m_84 (by omega) (by omega)]
                unfold ezv_tear ezv_cl ezv_tear0
                rw [if_pos (show S.1 = 1 by omega), ← hth, ← an_75]
                (repeat' split) <;> omega), (fun j hj => by rw [nA84 62 (by decide), n_81 j (by omega), nA75 62 (by decide), nA64 62 (by decide)]), (fun j hj => by rw [n_84 j (by omega), nA81 63 (by decide), nA75 63 (by decide), nA64 63 (by decide)]), rfl⟩
  · refine ezw_bipush (10) rfl rfl ?_
    refine ezw_iload rfl rfl ?_
    refine ezw_isub (k := -a4 + 10) rfl (by omega) ?_
    refine ezw_goto rfl rfl ?_
    refine ezw_istore rfl rfl ?_
    refine ezw_iload rfl rfl ?_
    refine ezw_iconst (2) rfl rfl ?_
    refine ezw_iload rfl rfl ?_
    refine ezw_imul (k := 2 * a6) rfl (by omega) ?_
    refine ezw_iadd (k := a4 + 2 * a6) rfl (by omega) ?_
    refine ezw_istore rfl rfl ?_
    refine ezw_aload_n rfl rfl ?_
    refine ezy_get_i hS rfl rfl rfl rfl rfl rfl (fun u85 hu85 ku85 eu85 => ?_)
    replace eu85 := eu85.symm
    subst eu85
    have ru85 : 0 ≤ (F 5 3) ∧ (F 5 3) ≤ 1 := ku85
    refine ezw_if_eq rfl rfl hu85 (fun h52_85 => ?_) (fun h52_85 => ?_)
    · refine ezw_aload_n rfl rfl ?_
      refine ezy_get_i hS rfl rfl rfl rfl rfl rfl (fun u86 hu86 ku86 eu86 => ?_)
      replace eu86 := eu86.symm
      subst eu86
      have ru86 : 0 ≤ (F 9 3) ∧ (F 9 3) ≤ 1 := ku86
      refine ezw_if_eq rfl rfl hu86 (fun h73_86 => ?_) (fun h73_86 => ?_)
      · refine ezw_iload_n rfl rfl ?_
        refine ezw_iload rfl rfl ?_
        refine ezw_iload rfl rfl ?_
        refine ezw_iload rfl rfl ?_
        refine ezw_call2_4 rfl (by omega) rfl rfl (ezt_m92v hS (by omega) ha3 ha4 ha5 ha6 (by omega)) ?_
        rintro _ _ ⟨rfl, u88, hu88, p87_0, rfl⟩
        refine ezw_istore rfl rfl ?_
        refine ezw_aload_n rfl rfl ?_
        refine ezs_getp (p := 62) rfl rfl rfl rfl rfl ?_
        refine ezw_iload rfl rfl ?_
        refine ezw_iconst (0) rfl rfl ?_
        refine ezw_bipush (10) rfl rfl ?_
        refine ezw_iload rfl rfl ?_
        refine ezw_mminE rfl ⟨by decide, by decide⟩ ⟨by omega, by omega⟩ rfl (fun u89 hu89 => ?_)
        refine ezw_mmaxE rfl ⟨by decide, by decide⟩ ⟨by omega, by omega⟩ rfl (fun u90 hu90 => ?_)
        refine ezw_call3_3 rfl (by omega) rfl rfl (ezt_m21_62 hS (by omega) hu88 ⟨by omega, by omega⟩) ?_
        rintro _ _ ⟨A91, rfl, hS, nA91, m_91, n_91, rfl⟩
        refine ezw_aload_n rfl rfl ?_
        refine ezs_getp (p := 63) rfl rfl rfl rfl rfl ?_
        refine ezw_iload rfl rfl ?_
        refine ezw_iconst (0) rfl rfl ?_
        refine ezw_bipush (10) rfl rfl ?_
        refine ezw_iload rfl rfl ?_
        refine ezw_mminE rfl ⟨by decide, by decide⟩ ⟨by omega, by omega⟩ rfl (fun u92 hu92 => ?_)
        refine ezw_mmaxE rfl ⟨by decide, by decide⟩ ⟨by omega, by omega⟩ rfl (fun u93 hu93 => ?_)
        refine ezw_call3_3 rfl (by omega) rfl rfl (ezt_m21_63 hS (by omega) hu88 ⟨by omega, by omega⟩) ?_
        rintro _ _ ⟨A94, rfl, hS, nA94, m_94, n_94, rfl⟩
        exact ezw_return rfl rfl ⟨F, A94, rfl, hS, (fun _ _ _ => rfl), (fun p h => by
              funext j
              rw [nA94 p (fun z => h (Or.inr (Or.inr (Or.inr (Or.inr (Or.inr z)))))), nA91 p (fun z => h (Or.inr (Or.inr (Or.inr (Or.inr (Or.inl z))))))]), (by
              rw [nA94 62 (by decide), ← p87_0, m_91 (by omega) (by omega)]
              unfold ezv_run ezv_cl ezv_run0
              rw [if_neg (show ¬ R.1 = 1 by omega)]
              (repeat' split) <;> omega), (by
              rw [← p87_0, m_94 (by omega) (by omega)]
              unfold ezv_tear ezv_cl ezv_tear0
              rw [if_neg (show ¬ S.1 = 1 by omega)]
              (repeat' split) <;> omega), (fun j hj => by rw [nA94 62 (by decide), n_91 j (by omega)]), (fun j hj => by rw [n_94 j (by omega), nA91 63 (by decide)]), rfl⟩
      · refine ezw_aload_n rfl rfl ?_
        refine ezw_iload rfl rfl ?_
        refine ezw_iload rfl rfl ?_
        refine ezw_iload rfl rfl ?_
        refine ezw_iload rfl rfl ?_
        refine ezw_call0_4 rfl (by omega) (ezu_at rfl) rfl rfl rfl rfl (ezt_m87_9v (y := S.2) hS (by omega) ha4 hu2 ha5 ha6 (ezt_LW_fr (lS.2.2 (by omega)).1 rfl rfl) (lS.2.2 (by omega)).2) ?_
        rintro _ _ ⟨F95, A95, rfl, hS, nF95, nA95, u96, hu96, an_95, rfl⟩
        refine ezw_istore rfl rfl ?_
        refine ezw_iload_n rfl rfl ?_
        refine ezw_iload rfl rfl ?_
        refine ezw_iload rfl rfl ?_
        refine ezw_iload rfl rfl ?_
        refine ezw_call2_4 rfl (by omega) rfl rfl (ezt_m92v hS (by omega) ha3 ha4 ha5 ha6 (by omega)) ?_
        rintro _ _ ⟨rfl, u98, hu98, p97_0, rfl⟩
        refine ezw_istore rfl rfl ?_
        refine ezw_aload_n rfl rfl ?_
        refine ezs_getp (p := 62) rfl rfl rfl rfl rfl ?_
        refine ezw_iload rfl rfl ?_
        refine ezw_iconst (0) rfl rfl ?_
        refine ezw_bipush (10) rfl rfl ?_
        refine ezw_iload rfl rfl ?_
        refine ezw_mminE rfl ⟨by decide, by decide⟩ ⟨by omega, by omega⟩ rfl (fun u99 hu99 => ?_)
        refine ezw_mmaxE rfl ⟨by decide, by decide⟩ ⟨by omega, by omega⟩ rfl (fun u100 hu100 => ?_)
        refine ezw_call3_3 rfl (by omega) rfl rfl (ezt_m21_62 hS (by omega) hu98 ⟨by omega, by omega⟩) ?_
        rintro _ _ ⟨A101, rfl, hS, nA101, m_101, n_101, rfl⟩
        refine ezw_aload_n rfl rfl ?_
        refine ezs_getp (p := 63) rfl rfl rfl rfl rfl ?_
        refine ezw_iload rfl rfl ?_
        refine ezw_iconst (0) rfl rfl ?_
        refine ezw_bipush (10) rfl rfl ?_
        refine ezw_iload rfl rfl ?_
        refine ezw_mminE rfl ⟨by decide, by decide⟩ hu96 rfl (fun u102 hu102 => ?_)
        refine ezw_mmaxE rfl ⟨by decide, by decide⟩ ⟨by omega, by omega⟩ rfl (fun u103 hu103 => ?_)
        refine ezw_call3_3 rfl (by omega) rfl rfl (ezt_m21_63 hS (by omega) hu98 ⟨by omega, by omega⟩) ?_
        rintro _ _ ⟨A104, rfl, hS, nA104, m_104, n_104, rfl⟩
        exact ezw_return rfl rfl ⟨F95, A104, rfl, hS, (fun p j h => by rw [nF95 p j (fun z => h (Or.inr ⟨z.1, z.2⟩))]), (fun p h => by
              funext j
              rw [nA104 p (fun z => h (Or.inr (Or.inr (Or.inr (Or.inr (Or.inr z)))))), nA101 p (fun z => h (Or.inr (Or.inr (Or.inr (Or.inr (Or.inl z)))))), nA95 p (fun z => h (z.elim (fun y => (Or.inr (Or.inr (Or.inl y)))) (fun y => (Or.inr (Or.inr (Or.inr (Or.inl y)))))))]), (by
              rw [nA104 62 (by decide), ← p97_0, m_101 (by omega) (by omega)]
              unfold ezv_run ezv_cl ezv_run0
              rw [if_neg (show ¬ R.1 = 1 by omega)]
              (repeat' split) <;> omega), (by
              rw [← p97_0, m_104 (by omega) (by omega)]
              unfold ezv_tear ezv_cl ezv_tear0
              rw [if_pos (show S.1 = 1 by omega), ← hth, ← an_95]
              (repeat' split) <;> omega), (fun j hj => by rw [nA104 62 (by decide), n_101 j (by omega), nA95 62 (by decide)]), (fun j hj => by rw [n_104 j (by omega), nA101 63 (by decide), nA95 63 (by decide)]), rfl⟩
    · refine ezw_aload_n rfl rfl ?_
      refine ezw_iload rfl rfl ?_
      refine ezw_iload rfl rfl ?_
      refine ezw_iload rfl rfl ?_
      refine ezw_iload rfl rfl ?_
      refine ezw_call0_4 rfl (by omega) (ezu_at rfl) rfl rfl rfl rfl (ezt_m87_5v (y := R.2) hS (by omega) ha4 hu2 ha5 ha6 (ezt_LW_fr (lR.2.2 (by omega)).1 rfl rfl) (lR.2.2 (by omega)).2) ?_
      rintro _ _ ⟨F105, A105, rfl, hS, nF105, nA105, u106, hu106, an_105, rfl⟩
      refine ezw_istore rfl rfl ?_
      refine ezw_aload_n rfl rfl ?_
      refine ezy_get_i hS rfl rfl rfl rfl rfl rfl (fun u107 hu107 ku107 eu107 => ?_)
      rw [nF105 9 3 (by decide)] at eu107
      replace eu107 := eu107.symm
      subst eu107
      have ru107 : 0 ≤ (F 9 3) ∧ (F 9 3) ≤ 1 := ku107
      refine ezw_if_eq rfl rfl hu107 (fun h73_107 => ?_) (fun h73_107 => ?_)
      · refine ezw_iload_n rfl rfl ?_
        refine ezw_iload rfl rfl ?_
        refine ezw_iload rfl rfl ?_
        refine ezw_iload rfl rfl ?_
        refine ezw_call2_4 rfl (by omega) rfl rfl (ezt_m92v hS (by omega) ha3 ha4 ha5 ha6 (by omega)) ?_
        rintro _ _ ⟨rfl, u109, hu109, p108_0, rfl⟩
        refine ezw_istore rfl rfl ?_
        refine ezw_aload_n rfl rfl ?_
        refine ezs_getp (p := 62) rfl rfl rfl rfl rfl ?_
        refine ezw_iload rfl rfl ?_
        refine ezw_iconst (0) rfl rfl ?_
        refine ezw_bipush (10) rfl rfl ?_
        refine ezw_iload rfl rfl ?_
        refine ezw_mminE rfl ⟨by decide, by decide⟩ hu106 rfl (fun u110 hu110 => ?_)
        refine ezw_mmaxE rfl ⟨by decide, by decide⟩ ⟨by omega, by omega⟩ rfl (fun u111 hu111 => ?_)
        refine ezw_call3_3 rfl (by omega) rfl rfl (ezt_m21_62 hS (by omega) hu109 ⟨by omega, by omega⟩) ?_
        rintro _ _ ⟨A112, rfl, hS, nA112, m_112, n_112, rfl⟩
        refine ezw_aload_n rfl rfl ?_
        refine ezs_getp (p := 63) rfl rfl rfl rfl rfl ?_
        refine ezw_iload rfl rfl ?_
        refine ezw_iconst (0) rfl rfl ?_
        refine ezw_bipush (10) rfl rfl ?_
        refine ezw_iload rfl rfl ?_
        refine ezw_mminE rfl ⟨by decide, by decide⟩ ⟨by omega, by omega⟩ rfl (fun u113 hu113 => ?_)
        refine ezw_mmaxE rfl ⟨by decide, by decide⟩ ⟨by omega, by omega⟩ rfl (fun u114 hu114 => ?_)
        refine ezw_call3_3 rfl (by omega) rfl rfl (ezt_m21_63 hS (by omega) hu109 ⟨by omega, by omega⟩) ?_
        rintro _ _ ⟨A115, rfl, hS, nA115, m_115, n_115, rfl⟩
        exact ezw_return rfl rfl ⟨F105, A115, rfl, hS, (fun p j h => by rw [nF105 p j (fun z => h (Or.inl ⟨z.1, z.2⟩))]), (fun p h => by
              funext j
              rw [nA115 p (fun z => h (Or.inr (Or.inr (Or.inr (Or.inr (Or.inr z)))))), nA112 p (fun z => h (Or.inr (Or.inr (Or.inr (Or.inr (Or.inl z)))))), nA105 p (fun z => h (z.elim (fun y => (Or.inl y)) (fun y => (Or.inr (Or.inl y)))))]), (by
              rw [nA115 62 (by decide), ← p108_0, m_112 (by omega) (by omega)]
              unfold ezv_run ezv_cl ezv_run0
              rw [if_pos (show R.1 = 1 by omega), ← hth, ← an_105]
              (repeat' split) <;> omega), (by
              rw [← p108_0, m_115 (by omega) (by omega)]
              unfold ezv_tear ezv_cl ezv_tear0
              rw [if_neg (show ¬ S.1 = 1 by omega)]
              (repeat' split) <;> omega), (fun j hj => by rw [nA115 62 (by decide), n_112 j (by omega), nA105 62 (by decide)]), (fun j hj => by rw [n_115 j (by omega), nA112 63 (by decide), nA105 63 (by decide)]), rfl⟩
      · refine ezw_aload_n rfl rfl ?_
        refine ezw_iload rfl rfl ?_
        refine ezw_iload rfl rfl ?_
        refine ezw_iload rfl rfl ?_
        refine ezw_iload rfl rfl ?_
        refine ezw_call0_4 rfl (by omega) (ezu_at rfl) rfl rfl rfl rfl (ezt_m87_9v (y := S.2) hS (by omega) ha4 hu2 ha5 ha6 (ezt_LW_fr (lS.2.2 (by omega)).1 (by rw [nF105 9 4 (by decide)]) (by rw [nA105 10 (by decide)])) (lS.2.2 (by omega)).2) ?_
        rintro _ _ ⟨F116, A116, rfl, hS, nF116, nA116, u117, hu117, an_116, rfl⟩
        refine ezw_istore rfl rfl ?_
        refine ezw_iload_n rfl rfl ?_
        refine ezw_iload rfl rfl ?_
        refine ezw_iload rfl rfl ?_
        refine ezw_iload rfl rfl ?_
        refine ezw_call2_4 rfl (by omega) rfl rfl (ezt_m92v hS (by omega) ha3 ha4 ha5 ha6 (by omega)) ?_
        rintro _ _ ⟨rfl, u119, hu119, p118_0, rfl⟩
        refine ezw_istore rfl rfl ?_
        refine ezw_aload_n rfl rfl ?_
        refine ezs_getp (p := 62) rfl rfl rfl rfl rfl ?_
        refine ezw_iload rfl rfl ?_
        refine ezw_iconst (0) rfl rfl ?_
        refine ezw_bipush (10) rfl rfl ?_
        refine ezw_iload rfl rfl ?_
        refine ezw_mminE rfl ⟨by decide, by decide⟩ hu106 rfl (fun u120 hu120 => ?_)
        refine ezw_mmaxE rfl ⟨by decide, by decide⟩ ⟨by omega, by omega⟩ rfl (fun u121 hu121 => ?_)
        refine ezw_call3_3 rfl (by omega) rfl rfl (ezt_m21_62 hS (by omega) hu119 ⟨by omega, by omega⟩) ?_
        rintro _ _ ⟨A122, rfl, hS, nA122, m_122, n_122, rfl⟩
        refine ezw_aload_n rfl rfl ?_
        refine ezs_getp (p := 63) rfl rfl rfl rfl rfl ?_
        refine ezw_iload rfl rfl ?_
        refine ezw_iconst (0) rfl rfl ?_
        refine ezw_bipush (10) rfl rfl ?_
        refine ezw_iload rfl rfl ?_
        refine ezw_mminE rfl ⟨by decide, by decide⟩ hu117 rfl (fun u123 hu123 => ?_)
        refine ezw_mmaxE rfl ⟨by decide, by decide⟩ ⟨by omega, by omega⟩ rfl (fun u124 hu124 => ?_)
        refine ezw_call3_3 rfl (by omega) rfl rfl (ezt_m21_63 hS (by omega) hu119 ⟨by omega, by omega⟩) ?_
        rintro _ _ ⟨A125, rfl, hS, nA125, m_125, n_125, rfl⟩
        exact ezw_return rfl rfl ⟨F116, A125, rfl, hS, (fun p j h => by rw [nF116 p j (fun z => h (Or.inr ⟨z.1, z.2⟩)), nF105 p j (fun z => h (Or.inl ⟨z.1, z.2⟩))]), (fun p h => by
              funext j
              rw [nA125 p (fun z => h (Or.inr (Or.inr (Or.inr (Or.inr (Or.inr z)))))), nA122 p (fun z => h (Or.inr (Or.inr (Or.inr (Or.inr (Or.inl z)))))), nA116 p (fun z => h (z.elim (fun y => (Or.inr (Or.inr (Or.inl y)))) (fun y => (Or.inr (Or.inr (Or.inr (Or.inl y))))))), nA105 p (fun z => h (z.elim (fun y => (Or.inl y)) (fun y => (Or.inr (Or.inl y)))))]), (by
              rw [nA125 62 (by decide), ← p118_0, m_122 (by omega) (by omega)]
              unfold ezv_run ezv_cl ezv_run0
              rw [if_pos (show R.1 = 1 by omega), ← hth, ← an_105]
              (repeat' split) <;> omega), (by
              rw [← p118_0, m_125 (by omega) (by omega)]
              unfold ezv_tear ezv_cl ezv_tear0
              rw [if_pos (show S.1 = 1 by omega), ← hth, ← an_116]
              (repeat' split) <;> omega), (fun j hj => by rw [nA125 62 (by decide), n_122 j (by omega), nA116 62 (by decide), nA105 62 (by decide)]), (fun j hj => by rw [n_125 j (by omega), nA122 63 (by decide), nA116 63 (by decide), nA105 63 (by decide)]), rfl⟩
def ezt_m85_47_5_9vQ (e : Bool × Bool) (F : Nat → Nat → Int) (A : Nat → Int → Int) (t : ezp_D) (R : Int × (Int × (Int → Int))) (S : Int × (Int × (Int → Int))) : Option ezq_V → (Nat → ezq_C) → Prop := fun v g' => ∃ (F' : Nat → Nat → Int) (A' : Nat → Int → Int), ezu_g e F' A' = g' ∧ ezs_T F' A' ∧ (∀ p j, ¬ (p = 5 ∧ (j = 5) ∨ p = 9 ∧ (j = 5)) → F' p j = F p j) ∧ (∀ p, ¬ (p = 7 ∨ p = 8 ∨ p = 11 ∨ p = 12 ∨ p = 62 ∨ p = 63) → A' p = A p) ∧ (∀ p, 0 ≤ p → p < 60 * t.kT → A' 62 p = ezv_run R (p % 60 / 6) (t.th (p / 60)) (p % 6 / 2) (p % 2)) ∧ (∀ p, 0 ≤ p → p < 60 * t.kT → A' 63 p = ezv_tear S (p % 60 / 6) (t.th (p / 60)) (p % 6 / 2) (p % 2)) ∧ none = v
theorem ezt_m85_47_5_9v {t : ezp_D} {R : Int × (Int × (Int → Int))} {S : Int × (Int × (Int → Int))} {F : Nat → Nat → Int} {A : Nat → Int → Int} (hS : ezs_T F A) (hd : 5 ≤ d) (tr : ezt_TR 47 t F A) (hB : ∀ i, 0 ≤ i → i < t.kT → 1 ≤ t.th i ∧ t.th i ≤ 20) (lR : (R.1 = 0 ∨ R.1 = 1) ∧ F 5 3 = R.1 ∧ (R.1 = 1 → ezt_LW 5 R.2 F A ∧ ezv_L R.2)) (lS : (S.1 = 0 ∨ S.1 = 1) ∧ F 9 3 = S.1 ∧ (S.1 = 1 → ezt_LW 9 S.2 F A ∧ ezv_L S.2)) : ezw_C l ρ B xa Hb D cA 85 d [ezw_p 47, ezw_p 5, ezw_p 9] (ezu_g e F A) (ezt_m85_47_5_9vQ e F A t R S) := by
  refine ezw_met (k := 3) rfl rfl ?_
  have c1 : F 47 15 = t.kT := tr.1.1
  have d1 := tr.2.1.1
  have d2 := tr.2.1.2.1
  refine ezw_iconst (0) rfl rfl ?_
  refine ezw_istore_n rfl rfl ?_
  have L2_2 : ∀ c1 : Int, ezw_in c1 → ∀ F_2 : Nat → Nat → Int, ∀ A_2 : Nat → Int → Int, ezs_T F_2 A_2 → (∀ p j, ¬ (p = 5 ∧ (j = 5) ∨ p = 9 ∧ (j = 5)) → F_2 p j = F p j) → (∀ p, ¬ (p = 7 ∨ p = 8 ∨ p = 11 ∨ p = 12 ∨ p = 62 ∨ p = 63) → A_2 p = A p) → ((0) ≤ c1) → (∀ p, 0 ≤ p → p < 60 * c1 → A_2 62 p = ezv_run R (p % 60 / 6) (t.th (p / 60)) (p % 6 / 2) (p % 2)) → (∀ p, 0 ≤ p → p < 60 * c1 → A_2 63 p = ezv_tear S (p % 60 / 6) (t.th (p / 60)) (p % 6 / 2) (p % 2)) → (c1 ≤ t.kT) → ezw_E l ρ B xa Hb D cA d ezq_re85 (ezt_m85_47_5_9vQ e F A t R S) 2 [some (ezw_p 47), some (ezw_p 5), some (ezw_p 9), some (ezw_i c1), none, none] [] (ezu_g e F_2 A_2) := by
    refine ezs_up ?_
    intro c1 hc1 ihc1 F_2 A_2 hS nF_2 nA_2 g_2 ru_2 te_2 cb_2
    refine ezw_iload_n rfl rfl ?_
    refine ezw_aload_n rfl rfl ?_
    refine ezy_get_i hS rfl rfl rfl rfl rfl rfl (fun u3 hu3 ku3 eu3 => ?_)
    rw [nF_2 47 15 (by decide)] at eu3
    replace eu3 := eu3.symm
    subst eu3
    refine ezw_icmp_ge rfl rfl hc1 hu3 (fun h7_3 => ?_) (fun h7_3 => ?_)
    · exact ezw_return rfl rfl ⟨F_2, A_2, rfl, hS, (fun p j h => by rw [nF_2 p j (fun z => h (z.elim (fun y => (Or.inl ⟨y.1, y.2⟩)) (fun y => (Or.inr ⟨y.1, y.2⟩))))]), (fun p h => by
            funext j
            rw [nA_2 p (fun z => h (z.elim (fun y => (Or.inl y)) (fun y => (y.elim (fun y => (Or.inr (Or.inl y))) (fun y => (y.elim (fun y => (Or.inr (Or.inr (Or.inl y)))) (fun y => (y.elim (fun y => (Or.inr (Or.inr (Or.inr (Or.inl y))))) (fun y => (y.elim (fun y => (Or.inr (Or.inr (Or.inr (Or.inr (Or.inl y)))))) (fun y => (Or.inr (Or.inr (Or.inr (Or.inr (Or.inr y))))))))))))))))]), (fun p g0 g1 => ru_2 p g0 (by omega)), (fun p g0 g1 => te_2 p g0 (by omega)), rfl⟩
    · refine ezw_iconst (0) rfl rfl ?_
      refine ezw_istore rfl rfl ?_
      have L13_5 : ∀ c4 : Int, ezw_in c4 → ∀ F_5 : Nat → Nat → Int, ∀ A_5 : Nat → Int → Int, ezs_T F_5 A_5 → (∀ p j, ¬ (p = 5 ∧ (j = 5) ∨ p = 9 ∧ (j = 5)) → F_5 p j = F_2 p j) → (∀ p, ¬ (p = 7 ∨ p = 8 ∨ p = 11 ∨ p = 12 ∨ p = 62 ∨ p = 63) → A_5 p = A_2 p) → ((0) ≤ c4) → (∀ p, 0 ≤ p → p < 60 * c1 + 6 * c4 → A_5 62 p = ezv_run R (p % 60 / 6) (t.th (p / 60)) (p % 6 / 2) (p % 2)) → (∀ p, 0 ≤ p → p < 60 * c1 + 6 * c4 → A_5 63 p = ezv_tear S (p % 60 / 6) (t.th (p / 60)) (p % 6 / 2) (p % 2)) → (c4 ≤ 10) → ezw_E l ρ B xa Hb D cA d ezq_re85 (ezt_m85_47_5_9vQ e F A t R S) 13 [some (ezw_p 47), some (ezw_p 5), some (ezw_p 9), some (ezw_i c1), some (ezw_i c4), none] [] (ezu_g e F_5 A_5) := by
        refine ezs_up ?_
        intro c4 hc4 ihc4 F_5 A_5 hS nF_5 nA_5 g_5 ru_5 te_5 cb_5
        refine ezw_iload rfl rfl ?_
        refine ezw_bipush (9) rfl rfl ?_
        refine ezw_icmp_gt rfl rfl hc4 ⟨by decide, by decide⟩ (fun h17_5 => ?_) (fun h17_5 => ?_)
        · refine ezw_iinc (k := c1 + 1) (1) rfl rfl rfl (by omega) rfl ?_
          refine ezw_goto rfl rfl ?_
          exact ezw_keepE [true, true, true, true, false, false] (ihc1 (c1 + 1) (by omega) ⟨by omega, by omega⟩ F_5 A_5 hS (fun p j h => by rw [nF_5 p j (fun z => h (z.elim (fun y => (Or.inl ⟨y.1, y.2⟩)) (fun y => (Or.inr ⟨y.1, y.2⟩)))), nF_2 p j (fun z => h (z.elim (fun y => (Or.inl ⟨y.1, y.2⟩)) (fun y => (Or.inr ⟨y.1, y.2⟩))))]) (fun p h => by
                funext j
                rw [nA_5 p (fun z => h (z.elim (fun y => (Or.inl y)) (fun y => (y.elim (fun y => (Or.inr (Or.inl y))) (fun y => (y.elim (fun y => (Or.inr (Or.inr (Or.inl y)))) (fun y => (y.elim (fun y => (Or.inr (Or.inr (Or.inr (Or.inl y))))) (fun y => (y.elim (fun y => (Or.inr (Or.inr (Or.inr (Or.inr (Or.inl y)))))) (fun y => (Or.inr (Or.inr (Or.inr (Or.inr (Or.inr y)))))))))))))))), nA_2 p (fun z => h (z.elim (fun y => (Or.inl y)) (fun y => (y.elim (fun y => (Or.inr (Or.inl y))) (fun y => (y.elim (fun y => (Or.inr (Or.inr (Or.inl y)))) (fun y => (y.elim (fun y => (Or.inr (Or.inr (Or.inr (Or.inl y))))) (fun y => (y.elim (fun y => (Or.inr (Or.inr (Or.inr (Or.inr (Or.inl y)))))) (fun y => (Or.inr (Or.inr (Or.inr (Or.inr (Or.inr y))))))))))))))))]) (by omega) (fun p g0 g1 => ru_5 p g0 (by omega)) (fun p g0 g1 => te_5 p g0 (by omega)) (by omega))
        · refine ezw_iconst (0) rfl rfl ?_
          refine ezw_istore rfl rfl ?_
          have L23_7 : ∀ c6 : Int, ezw_in c6 → ∀ F_7 : Nat → Nat → Int, ∀ A_7 : Nat → Int → Int, ezs_T F_7 A_7 → (∀ p j, ¬ (p = 5 ∧ (j = 5) ∨ p = 9 ∧ (j = 5)) → F_7 p j = F_5 p j) → (∀ p, ¬ (p = 7 ∨ p = 8 ∨ p = 11 ∨ p = 12 ∨ p = 62 ∨ p = 63) → A_7 p = A_5 p) → ((0) ≤ c6) → (∀ p, 0 ≤ p → p < 60 * c1 + 6 * c4 + 2 * c6 → A_7 62 p = ezv_run R (p % 60 / 6) (t.th (p / 60)) (p % 6 / 2) (p % 2)) → (∀ p, 0 ≤ p → p < 60 * c1 + 6 * c4 + 2 * c6 → A_7 63 p = ezv_tear S (p % 60 / 6) (t.th (p / 60)) (p % 6 / 2) (p % 2)) → (c6 ≤ 3) → ezw_E l ρ B xa Hb D cA d ezq_re85 (ezt_m85_47_5_9vQ e F A t R S) 23 [some (ezw_p 47), some (ezw_p 5), some (ezw_p 9), some (ezw_i c1), some (ezw_i c4), some (ezw_i c6)] [] (ezu_g e F_7 A_7) := by
            refine ezs_up ?_
            intro c6 hc6 ihc6 F_7 A_7 hS nF_7 nA_7 g_7 ru_7 te_7 cb_7
            refine ezw_iload rfl rfl ?_
            refine ezw_iconst (3) rfl rfl ?_
            refine ezw_icmp_ge rfl rfl hc6 ⟨by decide, by decide⟩ (fun h26_7 => ?_) (fun h26_7 => ?_)
            · refine ezw_iinc (k := c4 + 1) (1) rfl rfl rfl (by omega) rfl ?_
              refine ezw_goto rfl rfl ?_
              exact ezw_keepE [true, true, true, true, true, false] (ihc4 (c4 + 1) (by omega) ⟨by omega, by omega⟩ F_7 A_7 hS (fun p j h => by rw [nF_7 p j (fun z => h (z.elim (fun y => (Or.inl ⟨y.1, y.2⟩)) (fun y => (Or.inr ⟨y.1, y.2⟩)))), nF_5 p j (fun z => h (z.elim (fun y => (Or.inl ⟨y.1, y.2⟩)) (fun y => (Or.inr ⟨y.1, y.2⟩))))]) (fun p h => by
                    funext j
                    rw [nA_7 p (fun z => h (z.elim (fun y => (Or.inl y)) (fun y => (y.elim (fun y => (Or.inr (Or.inl y))) (fun y => (y.elim (fun y => (Or.inr (Or.inr (Or.inl y)))) (fun y => (y.elim (fun y => (Or.inr (Or.inr (Or.inr (Or.inl y))))) (fun y => (y.elim (fun y => (Or.inr (Or.inr (Or.inr (Or.inr (Or.inl y)))))) (fun y => (Or.inr (Or.inr (Or.inr (Or.inr (Or.inr y)))))))))))))))), nA_5 p (fun z => h (z.elim (fun y => (Or.inl y)) (fun y => (y.elim (fun y => (Or.inr (Or.inl y))) (fun y => (y.elim (fun y => (Or.inr (Or.inr (Or.inl y)))) (fun y => (y.elim (fun y => (Or.inr (Or.inr (Or.inr (Or.inl y))))) (fun y => (y.elim (fun y => (Or.inr (Or.inr (Or.inr (Or.inr (Or.inl y)))))) (fun y => (Or.inr (Or.inr (Or.inr (Or.inr (Or.inr y))))))))))))))))]) (by omega) (fun p g0 g1 => ru_7 p g0 (by omega)) (fun p g0 g1 => te_7 p g0 (by omega)) (by omega))
            · refine ezw_aload_n rfl rfl ?_
              refine ezw_aload_n rfl rfl ?_
              refine ezw_aload_n rfl rfl ?_
              refine ezw_iload_n rfl rfl ?_
              refine ezw_iload rfl rfl ?_
              refine ezw_iload rfl rfl ?_
              refine ezw_iconst (0) rfl rfl ?_
              refine ezw_call0_6 rfl (by omega) (ezu_at rfl) rfl rfl rfl rfl (ezt_m86_47_5_9v (t := t) (R := R) (S := S) hS (by omega) hc1 hc4 hc6 ⟨by decide, by decide⟩ (ezt_TR_fr tr (by rw [nF_7 47 15 (by decide), nF_5 47 15 (by decide), nF_2 47 15 (by decide)]) (by rw [nF_7 47 16 (by decide), nF_5 47 16 (by decide), nF_2 47 16 (by decide)]) (by rw [nF_7 47 17 (by decide), nF_5 47 17 (by decide), nF_2 47 17 (by decide)]) (by rw [nF_7 55 1 (by decide), nF_5 55 1 (by decide), nF_2 55 1 (by decide)]) (fun k k1 k2 => by rw [nA_7 (47 + k) (by omega), nA_5 (47 + k) (by omega), nA_2 (47 + k) (by omega)])) (by omega) (by omega) ⟨lR.1, Eq.trans (by rw [nF_7 5 3 (by decide), nF_5 5 3 (by decide), nF_2 5 3 (by decide)]) lR.2.1, fun z => ⟨ezt_LW_fr (lR.2.2 z).1 (by rw [nF_7 5 4 (by decide), nF_5 5 4 (by decide), nF_2 5 4 (by decide)]) (by rw [nA_7 6 (by decide), nA_5 6 (by decide), nA_2 6 (by decide)]), (lR.2.2 z).2⟩⟩ ⟨lS.1, Eq.trans (by rw [nF_7 9 3 (by decide), nF_5 9 3 (by decide), nF_2 9 3 (by decide)]) lS.2.1, fun z => ⟨ezt_LW_fr (lS.2.2 z).1 (by rw [nF_7 9 4 (by decide), nF_5 9 4 (by decide), nF_2 9 4 (by decide)]) (by rw [nA_7 10 (by decide), nA_5 10 (by decide), nA_2 10 (by decide)]), (lS.2.2 z).2⟩⟩) ?_
              rintro _ _ ⟨F8, A8, rfl, hS, nF8, nA8, ru_8, te_8, ro_8, to_8, rfl⟩
              refine ezw_aload_n rfl rfl ?_
              refine ezw_aload_n rfl rfl ?_
              refine ezw_aload_n rfl rfl ?_
              refine ezw_iload_n rfl rfl ?_
              refine ezw_iload rfl rfl ?_
              refine ezw_iload rfl rfl ?_
              refine ezw_iconst (1) rfl rfl ?_
              refine ezw_call0_6 rfl (by omega) (ezu_at rfl) rfl rfl rfl rfl (ezt_m86_47_5_9v (t := t) (R := R) (S := S) hS (by omega) hc1 hc4 hc6 ⟨by decide, by decide⟩ (ezt_TR_fr tr (by rw [nF8 47 15 (by decide), nF_7 47 15 (by decide), nF_5 47 15 (by decide), nF_2 47 15 (by decide)]) (by rw [nF8 47 16 (by decide), nF_7 47 16 (by decide), nF_5 47 16 (by decide), nF_2 47 16 (by decide)]) (by rw [nF8 47 17 (by decide), nF_7 47 17 (by decide), nF_5 47 17 (by decide), nF_2 47 17 (by decide)]) (by rw [nF8 55 1 (by decide), nF_7 55 1 (by decide), nF_5 55 1 (by decide), nF_2 55 1 (by decide)]) (fun k k1 k2 => by rw [nA8 (47 + k) (by omega), nA_7 (47 + k) (by omega), nA_5 (47 + k) (by omega), nA_2 (47 + k) (by omega)])) (by omega) (by omega) ⟨lR.1, Eq.trans (by rw [nF8 5 3 (by decide), nF_7 5 3 (by decide), nF_5 5 3 (by decide), nF_2 5 3 (by decide)]) lR.2.1, fun z => ⟨ezt_LW_fr (lR.2.2 z).1 (by rw [nF8 5 4 (by decide), nF_7 5 4 (by decide), nF_5 5 4 (by decide), nF_2 5 4 (by decide)]) (by rw [nA8 6 (by decide), nA_7 6 (by decide), nA_5 6 (by decide), nA_2 6 (by decide)]), (lR.2.2 z).2⟩⟩ ⟨lS.1, Eq.trans (by rw [nF8 9 3 (by decide), nF_7 9 3 (by decide), nF_5 9 3 (by decide), nF_2 9 3 (by decide)]) lS.2.1, fun z => ⟨ezt_LW_fr (lS.2.2 z).1 (by rw [nF8 9 4 (by decide), nF_7 9 4 (by decide), nF_5 9 4 (by decide), nF_2 9 4 (by decide)]) (by rw [nA8 10 (by decide), nA_7 10 (by decide), nA_5 10 (by decide), nA_2 10 (by decide)]), (lS.2.2 z).2⟩⟩) ?_
              rintro _ _ ⟨F9, A9, rfl, hS, nF9, nA9, ru_9, te_9, ro_9, to_9, rfl⟩
              refine ezw_iinc (k := c6 + 1) (1) rfl rfl rfl (by omega) rfl ?_
              refine ezw_goto rfl rfl ?_
              exact ezw_keepE [true, true, true, true, true, true] (ihc6 (c6 + 1) (by omega) ⟨by omega, by omega⟩ F9 A9 hS (fun p j h => by rw [nF9 p j (fun z => h (z.elim (fun y => (Or.inl ⟨y.1, y.2⟩)) (fun y => (Or.inr ⟨y.1, y.2⟩)))), nF8 p j (fun z => h (z.elim (fun y => (Or.inl ⟨y.1, y.2⟩)) (fun y => (Or.inr ⟨y.1, y.2⟩)))), nF_7 p j (fun z => h (z.elim (fun y => (Or.inl ⟨y.1, y.2⟩)) (fun y => (Or.inr ⟨y.1, y.2⟩))))]) (fun p h => by
                    funext j
                    rw [nA9 p (fun z => h (z.elim (fun y => (Or.inl y)) (fun y => (y.elim (fun y => (Or.inr (Or.inl y))) (fun y => (y.elim (fun y => (Or.inr (Or.inr (Or.inl y)))) (fun y => (y.elim (fun y => (Or.inr (Or.inr (Or.inr (Or.inl y))))) (fun y => (y.elim (fun y => (Or.inr (Or.inr (Or.inr (Or.inr (Or.inl y)))))) (fun y => (Or.inr (Or.inr (Or.inr (Or.inr (Or.inr y)))))))))))))))), nA8 p (fun z => h (z.elim (fun y => (Or.inl y)) (fun y => (y.elim (fun y => (Or.inr (Or.inl y))) (fun y => (y.elim (fun y => (Or.inr (Or.inr (Or.inl y)))) (fun y => (y.elim (fun y => (Or.inr (Or.inr (Or.inr (Or.inl y))))) (fun y => (y.elim (fun y => (Or.inr (Or.inr (Or.inr (Or.inr (Or.inl y)))))) (fun y => (Or.inr (Or.inr (Or.inr (Or.inr (Or.inr y)))))))))))))))), nA_7 p (fun z => h (z.elim (fun y => (Or.inl y)) (fun y => (y.elim (fun y => (Or.inr (Or.inl y))) (fun y => (y.elim (fun y => (Or.inr (Or.inr (Or.inl y)))) (fun y => (y.elim (fun y => (Or.inr (Or.inr (Or.inr (Or.inl y))))) (fun y => (y.elim (fun y => (Or.inr (Or.inr (Or.inr (Or.inr (Or.inl y)))))) (fun y => (Or.inr (Or.inr (Or.inr (Or.inr (Or.inr y))))))))))))))))]) (by omega) (fun p g0 g1 => by
                    by_cases h1 : p = 60 * c1 + 6 * c4 + 2 * c6 + 1
                    · have h9 := ru_9
                      rw [h1]
                      rw [show (60 * c1 + 6 * c4 + 2 * c6 + 1) % 60 / 6 = c4 by omega, show (60 * c1 + 6 * c4 + 2 * c6 + 1) / 60 = c1 by omega, show (60 * c1 + 6 * c4 + 2 * c6 + 1) % 6 / 2 = c6 by omega, show (60 * c1 + 6 * c4 + 2 * c6 + 1) % 2 = 1 by omega]
                      exact h9
                    · by_cases h0 : p = 60 * c1 + 6 * c4 + 2 * c6
                      · have h9 := ru_8
                        rw [ro_9 p (by omega), h0]
                        rw [show (60 * c1 + 6 * c4 + 2 * c6) % 60 / 6 = c4 by omega, show (60 * c1 + 6 * c4 + 2 * c6) / 60 = c1 by omega, show (60 * c1 + 6 * c4 + 2 * c6) % 6 / 2 = c6 by omega, show (60 * c1 + 6 * c4 + 2 * c6) % 2 = 0 by omega]
                        rw [show 60 * c1 + 6 * c4 + 2 * c6 + 0 = 60 * c1 + 6 * c4 + 2 * c6 by omega] at h9
                        exact h9
                      · rw [ro_9 p (by omega), ro_8 p (by omega)]
                        exact ru_7 p g0 (by omega)) (fun p g0 g1 => by
                    by_cases h1 : p = 60 * c1 + 6 * c4 + 2 * c6 + 1
                    · have h9 := te_9
                      rw [h1]
                      rw [show (60 * c1 + 6 * c4 + 2 * c6 + 1) % 60 / 6 = c4 by omega, show (60 * c1 + 6 * c4 + 2 * c6 + 1) / 60 = c1 by omega, show (60 * c1 + 6 * c4 + 2 * c6 + 1) % 6 / 2 = c6 by omega, show (60 * c1 + 6 * c4 + 2 * c6 + 1) % 2 = 1 by omega]
                      exact h9
                    · by_cases h0 : p = 60 * c1 + 6 * c4 + 2 * c6
                      · have h9 := te_8
                        rw [to_9 p (by omega), h0]
                        rw [show (60 * c1 + 6 * c4 + 2 * c6) % 60 / 6 = c4 by omega, show (60 * c1 + 6 * c4 + 2 * c6) / 60 = c1 by omega, show (60 * c1 + 6 * c4 + 2 * c6) % 6 / 2 = c6 by omega, show (60 * c1 + 6 * c4 + 2 * c6) % 2 = 0 by omega]
                        rw [show 60 * c1 + 6 * c4 + 2 * c6 + 0 = 60 * c1 + 6 * c4 + 2 * c6 by omega] at h9
                        exact h9
                      · rw [to_9 p (by omega), to_8 p (by omega)]
                        exact te_7 p g0 (by omega)) (by omega))
          exact ezw_keepE [true, true, true, true, true, true] (L23_7 (0) ⟨by decide, by decide⟩ F_5 A_5 hS (fun _ _ _ => rfl) (fun _ _ => rfl) (by omega) (fun p g0 g1 => ru_5 p g0 (by omega)) (fun p g0 g1 => te_5 p g0 (by omega)) (by omega))
      exact ezw_keepE [true, true, true, true, true, false] (L13_5 (0) ⟨by decide, by decide⟩ F_2 A_2 hS (fun _ _ _ => rfl) (fun _ _ => rfl) (by omega) (fun p g0 g1 => ru_2 p g0 (by omega)) (fun p g0 g1 => te_2 p g0 (by omega)) (by omega))
  exact ezw_keepE [true, true, true, true, false, false] (L2_2 (0) ⟨by decide, by decide⟩ F A hS (fun _ _ _ => rfl) (fun _ _ => rfl) (by omega) (fun p g0 g1 => by omega) (fun p g0 g1 => by omega) (by omega))
end KT
