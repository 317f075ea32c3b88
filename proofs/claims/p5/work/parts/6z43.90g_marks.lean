/-! ===== the class: marks ===== -/
section KT
variable {l : Launch} {ρ : ezq_E} {B : Nat} {xa : Nat → Option Nat} {Hb : Heap} {D : va_G} {cA : Nat → ClassId} {d : Nat} {e : Bool × Bool}
def ezt_m204_18nQ (e : Bool × Bool) (F : Nat → Nat → Int) (A : Nat → Int → Int) (a1 : Int) : Option ezq_V → (Nat → ezq_C) → Prop := fun v g' => ezu_g e F A = g' ∧ ∃ u : Int, (0 ≤ u ∧ u ≤ 1) ∧ (u = 1 → ezt_b (F 18 3) a1 = 1) ∧ (u = 0 → ezt_b (F 18 3) a1 = 0) ∧ some (ezw_i u) = v
theorem ezt_m204_18n {a1 : Int} {F : Nat → Nat → Int} {A : Nat → Int → Int} (hS : ezs_T F A) (hd : 1 ≤ d) (ha1 : ezw_in a1) (la : 0 ≤ F 18 3 ∧ F 18 3 < 16) (ga : 0 ≤ a1 ∧ a1 < 4) : ezw_C l ρ B xa Hb D cA 204 d [ezw_p 18, ezw_i a1] (ezu_g e F A) (ezt_m204_18nQ e F A a1) := by
  refine ezw_met (k := 0) rfl rfl ?_
  refine ezw_aload_n rfl rfl ?_
  refine ezy_get_i hS rfl rfl rfl rfl rfl rfl (fun u1 hu1 ku1 eu1 => ?_)
  replace eu1 := eu1.symm
  subst eu1
  refine ezw_iload_n rfl rfl ?_
  refine ezw_call3_2 rfl (by omega) rfl rfl (ezt_m49o hS (by omega) hu1 ha1) ?_
  rintro _ _ ⟨rfl, u3, hu3, v_2, o_2, rfl⟩
  have h9 := v_2 (by omega) (by omega)
  have h8 := ezn_b01 (F 18 3) a1
  refine ezw_iconst (1) rfl rfl ?_
  refine ezw_icmp_ne rfl rfl hu3 ⟨by decide, by decide⟩ (fun h9_3 => ?_) (fun h9_3 => ?_)
  · refine ezw_iconst (0) rfl rfl ?_
    exact ezw_ireturn rfl (ezw_zret ⟨by omega, by omega⟩) ⟨rfl, (0), ⟨by omega, by omega⟩, by omega, by omega, rfl⟩
  · refine ezw_iconst (1) rfl rfl ?_
    refine ezw_goto rfl rfl ?_
    exact ezw_ireturn rfl (ezw_zret ⟨by omega, by omega⟩) ⟨rfl, (1), ⟨by omega, by omega⟩, by omega, by omega, rfl⟩
def ezt_m54_20nQ (e : Bool × Bool) (F : Nat → Nat → Int) (A : Nat → Int → Int) (a1 : Int) : Option ezq_V → (Nat → ezq_C) → Prop := fun v g' => ezu_g e F A = g' ∧ ∃ u : Int, (ezw_il u) ∧ (0 ≤ a1 → a1 < 4 → u = A 20 a1) ∧ some (ezw_l u) = v
theorem ezt_m54_20n {a1 : Int} {F : Nat → Nat → Int} {A : Nat → Int → Int} (hS : ezs_T F A) (hd : 0 ≤ d) (ha1 : ezw_in a1) : ezw_C l ρ B xa Hb D cA 54 d [ezw_p 20, ezw_i a1] (ezu_g e F A) (ezt_m54_20nQ e F A a1) := by
  refine ezw_met (k := 0) rfl rfl ?_
  refine ezw_aload_n rfl rfl ?_
  refine ezw_ifnull rfl ?_
  refine ezw_iload_n rfl rfl ?_
  refine ezw_if_lt rfl rfl ha1 (fun h5_0 => ?_) (fun h5_0 => ?_)
  · refine ezw_lconst (0) rfl rfl ?_
    exact ezw_lreturn rfl rfl ⟨rfl, (0), ⟨by decide, by decide⟩, (by omega), rfl⟩
  · refine ezw_iload_n rfl rfl ?_
    refine ezw_aload_n rfl rfl ?_
    refine ezs_alen (k := 4) rfl rfl rfl rfl (by decide) (by decide) ?_
    refine ezw_icmp_ge rfl rfl ha1 ⟨by decide, by decide⟩ (fun h11_0 => ?_) (fun h11_0 => ?_)
    · refine ezw_lconst (0) rfl rfl ?_
      exact ezw_lreturn rfl rfl ⟨rfl, (0), ⟨by decide, by decide⟩, (by omega), rfl⟩
    · refine ezw_aload_n rfl rfl ?_
      refine ezw_iload_n rfl rfl ?_
      refine ezy_laload hS rfl rfl rfl (by omega) (by omega) (by decide) (fun u1 hu1 eu1 => ?_)
      refine ezw_goto rfl rfl ?_
      exact ezw_lreturn rfl rfl ⟨rfl, u1, hu1, (fun _ _ => eu1), rfl⟩
def ezt_m205_18nQ (e : Bool × Bool) (F : Nat → Nat → Int) (A : Nat → Int → Int) (a1 : Int) : Option ezq_V → (Nat → ezq_C) → Prop := fun v g' => ezu_g e F A = g' ∧ ∃ u : Int, (ezw_il u) ∧ (u = A 20 a1) ∧ some (ezw_l u) = v
theorem ezt_m205_18n {a1 : Int} {F : Nat → Nat → Int} {A : Nat → Int → Int} (hS : ezs_T F A) (hd : 1 ≤ d) (ha1 : ezw_in a1) (ga : 0 ≤ a1 ∧ a1 < 4) : ezw_C l ρ B xa Hb D cA 205 d [ezw_p 18, ezw_i a1] (ezu_g e F A) (ezt_m205_18nQ e F A a1) := by
  refine ezw_met (k := 0) rfl rfl ?_
  refine ezw_aload_n rfl rfl ?_
  refine ezs_getp (p := 20) rfl rfl rfl rfl rfl ?_
  refine ezw_iload_n rfl rfl ?_
  refine ezw_call3_2 rfl (by omega) rfl rfl (ezt_m54_20n hS (by omega) ha1) ?_
  rintro _ _ ⟨rfl, u2, hu2, v_1, rfl⟩
  exact ezw_lreturn rfl rfl ⟨rfl, u2, hu2, (v_1 (by omega) (by omega)), rfl⟩
def ezt_m54_21nQ (e : Bool × Bool) (F : Nat → Nat → Int) (A : Nat → Int → Int) (a1 : Int) : Option ezq_V → (Nat → ezq_C) → Prop := fun v g' => ezu_g e F A = g' ∧ ∃ u : Int, (ezw_il u) ∧ (0 ≤ a1 → a1 < 4 → u = A 21 a1) ∧ some (ezw_l u) = v
theorem ezt_m54_21n {a1 : Int} {F : Nat → Nat → Int} {A : Nat → Int → Int} (hS : ezs_T F A) (hd : 0 ≤ d) (ha1 : ezw_in a1) : ezw_C l ρ B xa Hb D cA 54 d [ezw_p 21, ezw_i a1] (ezu_g e F A) (ezt_m54_21nQ e F A a1) := by
  refine ezw_met (k := 0) rfl rfl ?_
  refine ezw_aload_n rfl rfl ?_
  refine ezw_ifnull rfl ?_
  refine ezw_iload_n rfl rfl ?_
  refine ezw_if_lt rfl rfl ha1 (fun h5_0 => ?_) (fun h5_0 => ?_)
  · refine ezw_lconst (0) rfl rfl ?_
    exact ezw_lreturn rfl rfl ⟨rfl, (0), ⟨by decide, by decide⟩, (by omega), rfl⟩
  · refine ezw_iload_n rfl rfl ?_
    refine ezw_aload_n rfl rfl ?_
    refine ezs_alen (k := 4) rfl rfl rfl rfl (by decide) (by decide) ?_
    refine ezw_icmp_ge rfl rfl ha1 ⟨by decide, by decide⟩ (fun h11_0 => ?_) (fun h11_0 => ?_)
    · refine ezw_lconst (0) rfl rfl ?_
      exact ezw_lreturn rfl rfl ⟨rfl, (0), ⟨by decide, by decide⟩, (by omega), rfl⟩
    · refine ezw_aload_n rfl rfl ?_
      refine ezw_iload_n rfl rfl ?_
      refine ezy_laload hS rfl rfl rfl (by omega) (by omega) (by decide) (fun u1 hu1 eu1 => ?_)
      refine ezw_goto rfl rfl ?_
      exact ezw_lreturn rfl rfl ⟨rfl, u1, hu1, (fun _ _ => eu1), rfl⟩
def ezt_m206_18nQ (e : Bool × Bool) (F : Nat → Nat → Int) (A : Nat → Int → Int) (a1 : Int) : Option ezq_V → (Nat → ezq_C) → Prop := fun v g' => ezu_g e F A = g' ∧ ∃ u : Int, (ezw_il u) ∧ (u = A 21 a1) ∧ some (ezw_l u) = v
theorem ezt_m206_18n {a1 : Int} {F : Nat → Nat → Int} {A : Nat → Int → Int} (hS : ezs_T F A) (hd : 1 ≤ d) (ha1 : ezw_in a1) (ga : 0 ≤ a1 ∧ a1 < 4) : ezw_C l ρ B xa Hb D cA 206 d [ezw_p 18, ezw_i a1] (ezu_g e F A) (ezt_m206_18nQ e F A a1) := by
  refine ezw_met (k := 0) rfl rfl ?_
  refine ezw_aload_n rfl rfl ?_
  refine ezs_getp (p := 21) rfl rfl rfl rfl rfl ?_
  refine ezw_iload_n rfl rfl ?_
  refine ezw_call3_2 rfl (by omega) rfl rfl (ezt_m54_21n hS (by omega) ha1) ?_
  rintro _ _ ⟨rfl, u2, hu2, v_1, rfl⟩
  exact ezw_lreturn rfl rfl ⟨rfl, u2, hu2, (v_1 (by omega) (by omega)), rfl⟩
def ezt_m208_18nQ (e : Bool × Bool) (F : Nat → Nat → Int) (A : Nat → Int → Int) : Option ezq_V → (Nat → ezq_C) → Prop := fun v g' => ∃ (F' : Nat → Nat → Int), ezu_g e F' A = g' ∧ ezs_T F' A ∧ (∀ p j, ¬ (p = 18 ∧ (j = 4)) → F' p j = F p j) ∧ (F' 18 4 = 0) ∧ none = v
theorem ezt_m208_18n {F : Nat → Nat → Int} {A : Nat → Int → Int} (hS : ezs_T F A) (hd : 0 ≤ d) : ezw_C l ρ B xa Hb D cA 208 d [ezw_p 18] (ezu_g e F A) (ezt_m208_18nQ e F A) := by
  refine ezw_met (k := 0) rfl rfl ?_
  refine ezw_aload_n rfl rfl ?_
  refine ezw_iconst (0) rfl rfl ?_
  refine ezy_put_i hS rfl rfl rfl rfl rfl ⟨by decide, by decide⟩ (fun F1 hS mF1 nF1 => ?_)
  have w18_4 : F1 18 4 = (0) := by rw [mF1]
  exact ezw_return rfl rfl ⟨F1, rfl, hS, (fun p j h => by rw [nF1 p j (fun z => h (⟨z.1, z.2⟩))]), by omega, rfl⟩
def ezt_m64_20nQ (e : Bool × Bool) (F : Nat → Nat → Int) (A : Nat → Int → Int) (a1 : Int) (a2 : Int) : Option ezq_V → (Nat → ezq_C) → Prop := fun v g' => ∃ (A' : Nat → Int → Int), ezu_g e F A' = g' ∧ ezs_T F A' ∧ (∀ p, ¬ (p = 20) → A' p = A p) ∧ (0 ≤ a1 → a1 < 4 → A' 20 a1 = a2) ∧ (∀ j, j ≠ a1 → A' 20 j = A 20 j) ∧ none = v
theorem ezt_m64_20n {a1 a2 : Int} {F : Nat → Nat → Int} {A : Nat → Int → Int} (hS : ezs_T F A) (hd : 0 ≤ d) (ha1 : ezw_in a1) (ha2 : ezw_il a2) : ezw_C l ρ B xa Hb D cA 64 d [ezw_p 20, ezw_i a1, ezw_l a2] (ezu_g e F A) (ezt_m64_20nQ e F A a1 a2) := by
  refine ezw_met (k := 0) rfl rfl ?_
  refine ezw_aload_n rfl rfl ?_
  refine ezw_ifnull rfl ?_
  refine ezw_iload_n rfl rfl ?_
  refine ezw_if_lt rfl rfl ha1 (fun h5_0 => ?_) (fun h5_0 => ?_)
  · exact ezw_return rfl rfl ⟨A, rfl, hS, (fun _ _ => rfl), (by omega), (fun _ _ => rfl), rfl⟩
  · refine ezw_iload_n rfl rfl ?_
    refine ezw_aload_n rfl rfl ?_
    refine ezs_alen (k := 4) rfl rfl rfl rfl (by decide) (by decide) ?_
    refine ezw_icmp_ge rfl rfl ha1 ⟨by decide, by decide⟩ (fun h11_0 => ?_) (fun h11_0 => ?_)
    · exact ezw_return rfl rfl ⟨A, rfl, hS, (fun _ _ => rfl), (by omega), (fun _ _ => rfl), rfl⟩
    · refine ezw_aload_n rfl rfl ?_
      refine ezw_iload_n rfl rfl ?_
      refine ezw_lload_n rfl rfl ?_
      refine ezy_lastore hS rfl rfl rfl (by omega) (by omega) (by decide) ha2 (fun A1 hS mA1 nA1 => ?_)
      exact ezw_return rfl rfl ⟨A1, rfl, hS, (fun p h => by
            funext j
            rw [nA1 p j (fun z => h (z.1))]), (fun _ _ => mA1), (fun j hj => nA1 20 j (by omega)), rfl⟩
def ezt_m64_21nQ (e : Bool × Bool) (F : Nat → Nat → Int) (A : Nat → Int → Int) (a1 : Int) (a2 : Int) : Option ezq_V → (Nat → ezq_C) → Prop := fun v g' => ∃ (A' : Nat → Int → Int), ezu_g e F A' = g' ∧ ezs_T F A' ∧ (∀ p, ¬ (p = 21) → A' p = A p) ∧ (0 ≤ a1 → a1 < 4 → A' 21 a1 = a2) ∧ (∀ j, j ≠ a1 → A' 21 j = A 21 j) ∧ none = v
theorem ezt_m64_21n {a1 a2 : Int} {F : Nat → Nat → Int} {A : Nat → Int → Int} (hS : ezs_T F A) (hd : 0 ≤ d) (ha1 : ezw_in a1) (ha2 : ezw_il a2) : ezw_C l ρ B xa Hb D cA 64 d [ezw_p 21, ezw_i a1, ezw_l a2] (ezu_g e F A) (ezt_m64_21nQ e F A a1 a2) := by
  refine ezw_met (k := 0) rfl rfl ?_
  refine ezw_aload_n rfl rfl ?_
  refine ezw_ifnull rfl ?_
  refine ezw_iload_n rfl rfl ?_
  refine ezw_if_lt rfl rfl ha1 (fun h5_0 => ?_) (fun h5_0 => ?_)
  · exact ezw_return rfl rfl ⟨A, rfl, hS, (fun _ _ => rfl), (by omega), (fun _ _ => rfl), rfl⟩
  · refine ezw_iload_n rfl rfl ?_
    refine ezw_aload_n rfl rfl ?_
    refine ezs_alen (k := 4) rfl rfl rfl rfl (by decide) (by decide) ?_
    refine ezw_icmp_ge rfl rfl ha1 ⟨by decide, by decide⟩ (fun h11_0 => ?_) (fun h11_0 => ?_)
    · exact ezw_return rfl rfl ⟨A, rfl, hS, (fun _ _ => rfl), (by omega), (fun _ _ => rfl), rfl⟩
    · refine ezw_aload_n rfl rfl ?_
      refine ezw_iload_n rfl rfl ?_
      refine ezw_lload_n rfl rfl ?_
      refine ezy_lastore hS rfl rfl rfl (by omega) (by omega) (by decide) ha2 (fun A1 hS mA1 nA1 => ?_)
      exact ezw_return rfl rfl ⟨A1, rfl, hS, (fun p h => by
            funext j
            rw [nA1 p j (fun z => h (z.1))]), (fun _ _ => mA1), (fun j hj => nA1 21 j (by omega)), rfl⟩
def ezt_m203_18nQ (e : Bool × Bool) (F : Nat → Nat → Int) (A : Nat → Int → Int) (a1 : Int) (a2 : Int) (a3 : Int) : Option ezq_V → (Nat → ezq_C) → Prop := fun v g' => ∃ (F' : Nat → Nat → Int) (A' : Nat → Int → Int), ezu_g e F' A' = g' ∧ ezs_T F' A' ∧ (∀ p j, ¬ (p = 18 ∧ (j = 3)) → F' p j = F p j) ∧ (∀ p, ¬ (p = 20 ∨ p = 21) → A' p = A p) ∧ (0 ≤ F' 18 3 ∧ F' 18 3 < 16) ∧ (∀ m, 0 ≤ m → ezt_b (F' 18 3) m = if m = a1 then 1 else ezt_b (F 18 3) m) ∧ (F' 18 4 = F 18 4) ∧ (∀ m, 0 ≤ m → m < 4 → A' 20 m = if m = a1 then a2 else A 20 m) ∧ (∀ m, 0 ≤ m → m < 4 → A' 21 m = if m = a1 then a3 else A 21 m) ∧ none = v
theorem ezt_m203_18n {a1 a2 a3 : Int} {F : Nat → Nat → Int} {A : Nat → Int → Int} (hS : ezs_T F A) (hd : 1 ≤ d) (ha1 : ezw_in a1) (ha2 : ezw_il a2) (ha3 : ezw_il a3) (la : 0 ≤ F 18 3 ∧ F 18 3 < 16) (ga : 0 ≤ a1 ∧ a1 < 4) : ezw_C l ρ B xa Hb D cA 203 d [ezw_p 18, ezw_i a1, ezw_l a2, ezw_l a3] (ezu_g e F A) (ezt_m203_18nQ e F A a1 a2 a3) := by
  refine ezw_met (k := 0) rfl rfl ?_
  obtain ⟨o1, o2, o3⟩ := ezt_or1 (v := F 18 3) (j := a1) 4 (by decide) la.1 (by omega) ga.1 (by omega)
  refine ezw_aload_n rfl rfl ?_
  refine ezs_getp (p := 20) rfl rfl rfl rfl rfl ?_
  refine ezw_iload_n rfl rfl ?_
  refine ezw_lload_n rfl rfl ?_
  refine ezw_call3_3 rfl (by omega) rfl rfl (ezt_m64_20n hS (by omega) ha1 ha2) ?_
  rintro _ _ ⟨A1, rfl, hS, nA1, m_1, n_1, rfl⟩
  refine ezw_aload_n rfl rfl ?_
  refine ezs_getp (p := 21) rfl rfl rfl rfl rfl ?_
  refine ezw_iload_n rfl rfl ?_
  refine ezw_lload rfl rfl ?_
  refine ezw_call3_3 rfl (by omega) rfl rfl (ezt_m64_21n hS (by omega) ha1 ha3) ?_
  rintro _ _ ⟨A2, rfl, hS, nA2, m_2, n_2, rfl⟩
  refine ezw_aload_n rfl rfl ?_
  refine ezw_dup rfl rfl ?_
  refine ezy_get_i hS rfl rfl rfl rfl rfl rfl (fun u3 hu3 ku3 eu3 => ?_)
  replace eu3 := eu3.symm
  subst eu3
  refine ezw_iconst (1) rfl rfl ?_
  refine ezw_iload_n rfl rfl ?_
  refine ezw_ishl rfl (by omega) (by omega) (k := (1 * 2 ^ (a1).toNat)) (rfl) ?_
  refine ezw_ior rfl (k := ezw_or (F 18 3) (1 * 2 ^ (a1).toNat)) rfl ?_
  refine ezy_put_i hS rfl rfl rfl rfl rfl ⟨by omega, by omega⟩ (fun F4 hS mF4 nF4 => ?_)
  have w18_3 : F4 18 3 = (ezw_or (F 18 3) (1 * 2 ^ (a1).toNat)) := by rw [mF4]
  have w18_4 : F4 18 4 = (F 18 4) := by rw [nF4 18 4 (by decide)]
  exact ezw_return rfl rfl ⟨F4, A2, rfl, hS, (fun p j h => by rw [nF4 p j (fun z => h (⟨z.1, z.2⟩))]), (fun p h => by
        funext j
        rw [nA2 p (fun z => h (Or.inr z)), nA1 p (fun z => h (Or.inl z))]), (by rw [w18_3]; exact ⟨o1, o2⟩), (fun m m0 => by rw [w18_3]; exact o3 m m0), by omega, (fun m m0 m1 => by
        rw [nA2 20 (by decide)]
        by_cases hm : m = a1
        · rw [if_pos hm, hm]
          exact m_1 (by omega) (by omega)
        · rw [if_neg hm, n_1 m hm]), (fun m m0 m1 => by
        by_cases hm : m = a1
        · rw [if_pos hm, hm]
          exact m_2 (by omega) (by omega)
        · rw [if_neg hm, n_2 m hm, nA1 21 (by decide)]), rfl⟩
def ezt_m201_0n_fQ (b2 : Bool) (F : Nat → Nat → Int) (A : Nat → Int → Int) (y : ezp_D) (w : ezn_N) (c : Int → Int) (kU : Int) (ml : Int → Int) (mN : Int → ezn_N) (mT : Int → Int → Int) (a1 : Int) (a2 : Int) : Option ezq_V → (Nat → ezq_C) → Prop := fun v g' => ∃ (F' : Nat → Nat → Int) (A' : Nat → Int → Int), ezu_g (false, b2) F' A' = g' ∧ ezs_T F' A' ∧ (∀ p j, ¬ (p = 13 ∧ (j = 0 ∨ j = 1 ∨ j = 2 ∨ j = 3 ∨ j = 4 ∨ j = 5 ∨ j = 6) ∨ p = 18 ∧ (j = 3 ∨ j = 4)) → F' p j = F p j) ∧ (∀ p, ¬ (p = 17 ∨ p = 20 ∨ p = 21) → A' p = A p) ∧ ∃ u : Int, (0 ≤ u ∧ u ≤ 1) ∧ (0 ≤ a1 ∧ a1 < 4 ∧ (a2 = 0 ∨ ml a1 = 1) → u = 1) ∧ (¬ (0 ≤ a1 ∧ a1 < 4 ∧ (a2 = 0 ∨ ml a1 = 1)) → u = 0 ∧ F' = F ∧ A' = A) ∧ (0 ≤ a1 ∧ a1 < 4 ∧ a2 = 0 → ezn_C 13 w F' ∧ F' 18 4 = kU ∧ A' 17 = A 17 ∧ A' 19 = A 19 ∧ (0 ≤ F' 18 3 ∧ F' 18 3 < 16) ∧ ∀ m, 0 ≤ m → m < 4 → ezt_b (F' 18 3) m = (if m = a1 then 1 else ml m) ∧ A' 20 m = (if m = a1 then ezn_pk w else A 20 m) ∧ A' 21 m = (if m = a1 then ezn_pt c else A 21 m)) ∧ (0 ≤ a1 ∧ a1 < 4 ∧ a2 = 1 ∧ ml a1 = 1 → ezn_C 13 (mN a1) F' ∧ F' 18 4 = 0 ∧ (∀ j, 0 ≤ j → j < 8 → A' 17 j = mT a1 j) ∧ F' 18 3 = F 18 3 ∧ A' 19 = A 19 ∧ A' 20 = A 20 ∧ A' 21 = A 21) ∧ some (ezw_i u) = v
theorem ezt_m201_0n_f {b2 : Bool} {y : ezp_D} {w : ezn_N} {c : Int → Int} {kU : Int} {ml : Int → Int} {mN : Int → ezn_N} {mT : Int → Int → Int} {a1 a2 : Int} {F : Nat → Nat → Int} {A : Nat → Int → Int} (hS : ezs_T F A) (hd : 2 ≤ d) (ha1 : ezw_in a1) (ha2 : ezw_in a2) (cw : ezn_C 13 w F) (wb : ezn_B y w) (ct : ∀ j, 0 ≤ j → j < 8 → A 17 j = c j) (tb : ezn_TB c) (uc : F 18 4 = kU ∧ 0 ≤ kU ∧ kU ≤ 16) (la : 0 ≤ F 18 3 ∧ F 18 3 < 16) (lb : ∀ m, 0 ≤ m → m < 4 → ezt_b (F 18 3) m = ml m) (mk : ∀ m, 0 ≤ m → m < 4 → ml m = 1 → (A 20 m = ezn_pk (mN m) ∧ A 21 m = ezn_pt (mT m)) ∧ ezn_B y (mN m) ∧ ezn_TB (mT m)) (gb : 0 ≤ a2 ∧ a2 ≤ 1) : ezw_C l ρ B xa Hb D cA 201 d [ezw_p 0, ezw_i a1, ezw_i a2] (ezu_g (false, b2) F A) (ezt_m201_0n_fQ b2 F A y w c kU ml mN mT a1 a2) := by
  refine ezw_met (k := 0) rfl rfl ?_
  refine ezw_iload_n rfl rfl ?_
  refine ezw_if_lt rfl rfl ha1 (fun h1_0 => ?_) (fun h1_0 => ?_)
  · refine ezw_iconst (0) rfl rfl ?_
    exact ezw_ireturn rfl (ezw_zret ⟨by omega, by omega⟩) ⟨F, A, rfl, hS, (fun _ _ _ => rfl), (fun _ _ => rfl), (0), ⟨by omega, by omega⟩, (fun h => by
          omega), (fun _ => ⟨rfl, rfl, rfl⟩), (fun h => by omega), (fun h => by
          exfalso
          omega), rfl⟩
  · refine ezw_iload_n rfl rfl ?_
    refine ezw_iconst (4) rfl rfl ?_
    refine ezw_icmp_lt rfl rfl ha1 ⟨by decide, by decide⟩ (fun h6_0 => ?_) (fun h6_0 => ?_)
    · refine ezw_iload_n rfl rfl ?_
      refine ezw_if_ne rfl rfl ha2 (fun h12_0 => ?_) (fun h12_0 => ?_)
      · refine ezw_aload_n rfl rfl ?_
        refine ezs_getp (p := 18) rfl rfl rfl rfl rfl ?_
        refine ezw_iload_n rfl rfl ?_
        refine ezw_call0_1 rfl (by omega) (ezu_at rfl) rfl rfl rfl rfl (ezt_m204_18n hS (by omega) ha1 la (by omega)) ?_
        rintro _ _ ⟨rfl, u2, hu2, l1_1, l0_1, rfl⟩
        refine ezw_if_ne rfl rfl ⟨by omega, by omega⟩ (fun h47_2 => ?_) (fun h47_2 => ?_)
        · have hl1 : ml a1 = 1 := by
            have h9 := l1_1 (by omega)
            have h8 := lb a1 (by omega) (by omega)
            omega
          obtain ⟨⟨k1, k2⟩, k3, k4⟩ := mk a1 (by omega) (by omega) hl1
          refine ezw_aload_n rfl rfl ?_
          refine ezs_getp (p := 13) rfl rfl rfl rfl rfl ?_
          refine ezw_aload_n rfl rfl ?_
          refine ezs_getp (p := 18) rfl rfl rfl rfl rfl ?_
          refine ezw_iload_n rfl rfl ?_
          refine ezw_call0_1 rfl (by omega) (ezu_at rfl) rfl rfl rfl rfl (ezt_m205_18n hS (by omega) ha1 (by omega)) ?_
          rintro _ _ ⟨rfl, u4, hu4, an_3, rfl⟩
          refine ezw_call0_1 rfl (by omega) (ezu_at rfl) rfl rfl rfl rfl (ezt_m140_13n (w := (mN a1)) hS (by omega) hu4 (by rw [an_3]; exact k1) k3) ?_
          rintro _ _ ⟨F5, rfl, hS, nF5, rs_5, rfl⟩
          refine ezw_aload_n rfl rfl ?_
          refine ezs_getp (p := 16) rfl rfl rfl rfl rfl ?_
          refine ezw_aload_n rfl rfl ?_
          refine ezs_getp (p := 18) rfl rfl rfl rfl rfl ?_
          refine ezw_iload_n rfl rfl ?_
          refine ezw_call0_1 rfl (by omega) (ezu_at rfl) rfl rfl rfl rfl (ezt_m206_18n hS (by omega) ha1 (by omega)) ?_
          rintro _ _ ⟨rfl, u7, hu7, an_6, rfl⟩
          refine ezw_call0_1 rfl (by omega) (ezu_at rfl) rfl rfl rfl rfl (ezt_m207_16n (c := (mT a1)) hS (by omega) hu7 (by rw [an_6]; exact k2) k4) ?_
          rintro _ _ ⟨A8, rfl, hS, nA8, rt_8, rfl⟩
          refine ezw_aload_n rfl rfl ?_
          refine ezs_getp (p := 18) rfl rfl rfl rfl rfl ?_
          refine ezw_call0_0 rfl (by omega) (ezu_at rfl) rfl rfl rfl rfl (ezt_m208_18n hS (by omega)) ?_
          rintro _ _ ⟨F9, rfl, hS, nF9, p9_0, rfl⟩
          refine ezw_iconst (1) rfl rfl ?_
          have w18_3 : F9 18 3 = (F 18 3) := by rw [nF9 18 3 (by decide), nF5 18 3 (by decide)]
          exact ezw_ireturn rfl (ezw_zret ⟨by omega, by omega⟩) ⟨F9, A8, rfl, hS, (fun p j h => by rw [nF9 p j (fun z => h (Or.inr ⟨z.1, (Or.inr z.2)⟩)), nF5 p j (fun z => h (Or.inl ⟨z.1, z.2⟩))]), (fun p h => by
                funext j
                rw [nA8 p (fun z => h (Or.inl z))]), (1), ⟨by omega, by omega⟩, (fun _ => rfl), (fun h => absurd ⟨by omega, by omega, Or.inr hl1⟩ h), (fun h => by omega), (fun _ => ⟨ezn_C_f rs_5 (fun k hk => nF9 13 k (fun z => absurd z.1 (by decide))), p9_0, rt_8, by rw [nF9 18 3 (by decide), nF5 18 3 (by decide)], nA8 19 (by decide), nA8 20 (by decide), nA8 21 (by decide)⟩), rfl⟩
        · refine ezw_iconst (0) rfl rfl ?_
          exact ezw_ireturn rfl (ezw_zret ⟨by omega, by omega⟩) ⟨F, A, rfl, hS, (fun _ _ _ => rfl), (fun _ _ => rfl), (0), ⟨by omega, by omega⟩, (fun h => by
                have h9 := l0_1 (by omega)
                have h8 := lb a1 (by omega) (by omega)
                omega), (fun _ => ⟨rfl, rfl, rfl⟩), (fun h => by omega), (fun h => by
                exfalso
                have h9 := l0_1 (by omega)
                have h8 := lb a1 (by omega) (by omega)
                omega), rfl⟩
      · refine ezw_aload_n rfl rfl ?_
        refine ezs_getp (p := 18) rfl rfl rfl rfl rfl ?_
        refine ezw_iload_n rfl rfl ?_
        refine ezw_aload_n rfl rfl ?_
        refine ezs_getp (p := 13) rfl rfl rfl rfl rfl ?_
        refine ezw_call0_0 rfl (by omega) (ezu_at rfl) rfl rfl rfl rfl (ezt_m119_13n hS (by omega) cw wb) ?_
        rintro _ _ ⟨rfl, u11, hu11, an_10, rfl⟩
        refine ezw_aload_n rfl rfl ?_
        refine ezs_getp (p := 16) rfl rfl rfl rfl rfl ?_
        refine ezw_call0_0 rfl (by omega) (ezu_at rfl) rfl rfl rfl rfl (ezt_m202_16n hS (by omega) ct tb) ?_
        rintro _ _ ⟨rfl, u13, hu13, an_12, rfl⟩
        refine ezw_call0_3 rfl (by omega) (ezu_at rfl) rfl rfl rfl rfl (ezt_m203_18n hS (by omega) ha1 hu11 hu13 la (by omega)) ?_
        rintro _ _ ⟨F14, A14, rfl, hS, nF14, nA14, lr_14, lb_14, n_14, r1_14, r2_14, rfl⟩
        refine ezw_iconst (1) rfl rfl ?_
        have w18_4 : F14 18 4 = (F 18 4) := by rw [nF14 18 4 (by decide)]
        exact ezw_ireturn rfl (ezw_zret ⟨by omega, by omega⟩) ⟨F14, A14, rfl, hS, (fun p j h => by rw [nF14 p j (fun z => h (Or.inr ⟨z.1, (Or.inl z.2)⟩))]), (fun p h => by
              funext j
              rw [nA14 p (fun z => h (z.elim (fun y => (Or.inr (Or.inl y))) (fun y => (Or.inr (Or.inr y)))))]), (1), ⟨by omega, by omega⟩, (fun _ => rfl), (fun h => absurd ⟨by omega, by omega, Or.inl (by omega)⟩ h), (fun _ => ⟨ezn_C_f cw (fun k hk => nF14 13 k (fun z => absurd z.1 (by decide))), n_14.trans uc.1, nA14 17 (by decide), nA14 19 (by decide), lr_14, fun m m0 m1 => ⟨by rw [lb_14 m m0, lb m m0 m1], by rw [← an_10]; exact r1_14 m m0 m1, by rw [← an_12]; exact r2_14 m m0 m1⟩⟩), (fun h => by omega), rfl⟩
    · refine ezw_iconst (0) rfl rfl ?_
      exact ezw_ireturn rfl (ezw_zret ⟨by omega, by omega⟩) ⟨F, A, rfl, hS, (fun _ _ _ => rfl), (fun _ _ => rfl), (0), ⟨by omega, by omega⟩, (fun h => by
            omega), (fun _ => ⟨rfl, rfl, rfl⟩), (fun h => by omega), (fun h => by
            exfalso
            omega), rfl⟩
end KT
