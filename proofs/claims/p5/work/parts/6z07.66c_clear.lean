/-! ===== the program: a tree cleared ===== -/
section KT
variable {l : Launch} {ρ : ezq_E} {B : Nat} {xa : Nat → Option Nat} {Hb : Heap} {D : va_G} {cA : Nat → ClassId} {d : Nat} {e : Bool × Bool}
def ezt_m26_39Q (e : Bool × Bool) (F : Nat → Nat → Int) (A : Nat → Int → Int) (a1 : Int) : Option ezq_V → (Nat → ezq_C) → Prop := fun v g' => ∃ (A' : Nat → Int → Int), ezu_g e F A' = g' ∧ ezs_T F A' ∧ (∀ p, ¬ (p = 39) → A' p = A p) ∧ (∀ j, 0 ≤ j → j < 16 → A' 39 j = a1) ∧ none = v
theorem ezt_m26_39 {a1 : Int} {F : Nat → Nat → Int} {A : Nat → Int → Int} (hS : ezs_T F A) (hd : 0 ≤ d) (ha1 : ezw_in a1) : ezw_C l ρ B xa Hb D cA 26 d [ezw_p 39, ezw_i a1] (ezu_g e F A) (ezt_m26_39Q e F A a1) := by
  refine ezw_met (k := 2) rfl rfl ?_
  refine ezw_iconst (0) rfl rfl ?_
  refine ezw_istore_n rfl rfl ?_
  refine ezw_aload_n rfl rfl ?_
  refine ezs_alen (k := 16) rfl rfl rfl rfl (by decide) (by decide) ?_
  refine ezw_istore_n rfl rfl ?_
  have L5_2 : ∀ c1 : Int, ezw_in c1 → ∀ A_2 : Nat → Int → Int, ezs_T F A_2 → (∀ p, ¬ (p = 39) → A_2 p = A p) → ((0) ≤ c1) → (∀ j, 0 ≤ j → j < c1 → A_2 39 j = a1) → ezw_E l ρ B xa Hb D cA d ezq_re26 (ezt_m26_39Q e F A a1) 5 [some (ezw_p 39), some (ezw_i a1), some (ezw_i c1), some (ezw_i (16))] [] (ezu_g e F A_2) := by
    refine ezs_up ?_
    intro c1 hc1 ihc1 A_2 hS nA_2 g_2 fl_2
    refine ezw_iload_n rfl rfl ?_
    refine ezw_iload_n rfl rfl ?_
    refine ezw_icmp_ge rfl rfl hc1 ⟨by decide, by decide⟩ (fun h7_2 => ?_) (fun h7_2 => ?_)
    · exact ezw_return rfl rfl ⟨A_2, rfl, hS, (fun p h => by
            funext j
            rw [nA_2 p (fun z => h (z))]), (fun j j0 j1 => fl_2 j j0 (by omega)), rfl⟩
    · refine ezw_aload_n rfl rfl ?_
      refine ezw_iload_n rfl rfl ?_
      refine ezw_iload_n rfl rfl ?_
      refine ezy_iastore hS rfl rfl rfl (by omega) (by omega) (by decide) ha1 (fun A3 hS mA3 nA3 => ?_)
      refine ezw_iinc (k := c1 + 1) (1) rfl rfl rfl (by omega) rfl ?_
      refine ezw_goto rfl rfl ?_
      exact ezw_keepE [true, true, true, true] (ihc1 (c1 + 1) (by omega) ⟨by omega, by omega⟩ A3 hS (fun p h => by
            funext j
            rw [nA3 p j (fun z => h (z.1)), nA_2 p (fun z => h (z))]) (by omega) (fun j j0 j1 => by
            by_cases hj : j = c1
            · rw [hj, mA3]
            · rw [nA3 39 j (by omega)]
              exact fl_2 j j0 (by omega)))
  exact ezw_keepE [true, true, true, true] (L5_2 (0) ⟨by decide, by decide⟩ A hS (fun _ _ => rfl) (by omega) (fun j j0 j1 => by omega))
def ezt_m25_38Q (e : Bool × Bool) (F : Nat → Nat → Int) (A : Nat → Int → Int) : Option ezq_V → (Nat → ezq_C) → Prop := fun v g' => ∃ (F' : Nat → Nat → Int) (A' : Nat → Int → Int), ezu_g e F' A' = g' ∧ ezs_T F' A' ∧ (∀ p j, ¬ (p = 38 ∧ (j = 1)) → F' p j = F p j) ∧ (∀ p, ¬ (p = 39) → A' p = A p) ∧ (F' 38 1 = 0) ∧ (∀ j, 0 ≤ j → j < 16 → A' 39 j = 0) ∧ none = v
theorem ezt_m25_38 {F : Nat → Nat → Int} {A : Nat → Int → Int} (hS : ezs_T F A) (hd : 1 ≤ d) : ezw_C l ρ B xa Hb D cA 25 d [ezw_p 38] (ezu_g e F A) (ezt_m25_38Q e F A) := by
  refine ezw_met (k := 0) rfl rfl ?_
  refine ezw_aload_n rfl rfl ?_
  refine ezw_iconst (0) rfl rfl ?_
  refine ezy_put_i hS rfl rfl rfl rfl rfl ⟨by decide, by decide⟩ (fun F1 hS mF1 nF1 => ?_)
  refine ezw_aload_n rfl rfl ?_
  refine ezs_getp (p := 39) rfl rfl rfl rfl rfl ?_
  refine ezw_iconst (0) rfl rfl ?_
  refine ezw_call2_2 rfl (by omega) rfl rfl (ezt_m26_39 hS (by omega) ⟨by decide, by decide⟩) ?_
  rintro _ _ ⟨A2, rfl, hS, nA2, fl_2, rfl⟩
  have w38_1 : F1 38 1 = (0) := by rw [mF1]
  exact ezw_return rfl rfl ⟨F1, A2, rfl, hS, (fun p j h => by rw [nF1 p j (fun z => h (⟨z.1, z.2⟩))]), (fun p h => by
        funext j
        rw [nA2 p (fun z => h (z))]), by omega, fl_2, rfl⟩
def ezt_m27_x1Q (e : Bool × Bool) (F : Nat → Nat → Int) (A : Nat → Int → Int) (a1 : Int) : Option ezq_V → (Nat → ezq_C) → Prop := fun v g' => ezu_g e F A = g' ∧ ∃ u : Int, (ezw_in u) ∧ (0 ≤ a1 → a1 < 11 → u = ezp_fn a1) ∧ (-2147483648 ≤ u ∧ u ≤ 9999) ∧ some (ezw_i u) = v
theorem ezt_m27_x1 {a1 : Int} {F : Nat → Nat → Int} {A : Nat → Int → Int} (hS : ezs_T F A) (hd : 0 ≤ d) (ha1 : ezw_in a1) : ezw_C l ρ B xa Hb D cA 27 d [ezq_xt 1, ezw_i a1] (ezu_g e F A) (ezt_m27_x1Q e F A a1) := by
  refine ezw_met (k := 0) rfl rfl ?_
  refine ezw_aloadx rfl rfl ?_
  refine ezw_ifnullx rfl ?_
  refine ezw_iload_n rfl rfl ?_
  refine ezw_if_lt rfl rfl ha1 (fun h5_0 => ?_) (fun h5_0 => ?_)
  · refine ezw_iconst (0) rfl rfl ?_
    exact ezw_ireturn rfl rfl ⟨rfl, (0), ⟨by decide, by decide⟩, (fun z0 z1 => absurd z1 (by omega)), by omega, rfl⟩
  · refine ezw_iload_n rfl rfl ?_
    refine ezw_aloadx rfl rfl ?_
    refine ezw_xlen1 rfl ?_
    refine ezw_icmp_ge rfl rfl ha1 ⟨by decide, by decide⟩ (fun h11_0 => ?_) (fun h11_0 => ?_)
    · refine ezw_iconst (0) rfl rfl ?_
      exact ezw_ireturn rfl rfl ⟨rfl, (0), ⟨by decide, by decide⟩, (fun z0 z1 => absurd z1 (by omega)), by omega, rfl⟩
    · refine ezw_aloadx rfl rfl ?_
      refine ezw_iload_n rfl rfl ?_
      refine ezt_xial1 rfl (by omega) (by omega) (fun u1 hu1 ku1 eu1 => ?_)
      refine ezw_goto rfl rfl ?_
      exact ezw_ireturn rfl rfl ⟨rfl, u1, hu1, (fun _ _ => eu1), by omega, rfl⟩
def ezt_m24_30Q (e : Bool × Bool) (F : Nat → Nat → Int) (A : Nat → Int → Int) : Option ezq_V → (Nat → ezq_C) → Prop := fun v g' => ∃ (F' : Nat → Nat → Int) (A' : Nat → Int → Int), ezu_g e F' A' = g' ∧ ezs_T F' A' ∧ (∀ p j, ¬ (p = 30 ∧ (j = 15 ∨ j = 16 ∨ j = 17) ∨ p = 38 ∧ (j = 1)) → F' p j = F p j) ∧ (∀ p, ¬ (p = 39 ∨ p = 44) → A' p = A p) ∧ (ezt_TR 30 (ezp_D0) F' A') ∧ (ezt_NU 30 ezp_D0 A') ∧ none = v
theorem ezt_m24_30 {F : Nat → Nat → Int} {A : Nat → Int → Int} (hS : ezs_T F A) (hd : 2 ≤ d) : ezw_C l ρ B xa Hb D cA 24 d [ezw_p 30] (ezu_g e F A) (ezt_m24_30Q e F A) := by
  refine ezw_met (k := 1) rfl rfl ?_
  refine ezw_aload_n rfl rfl ?_
  refine ezw_iconst (0) rfl rfl ?_
  refine ezy_put_i hS rfl rfl rfl rfl rfl ⟨by decide, by decide⟩ (fun F1 hS mF1 nF1 => ?_)
  refine ezw_aload_n rfl rfl ?_
  refine ezw_iconst (0) rfl rfl ?_
  refine ezy_put_i hS rfl rfl rfl rfl rfl ⟨by decide, by decide⟩ (fun F2 hS mF2 nF2 => ?_)
  refine ezw_aload_n rfl rfl ?_
  refine ezw_iconst (0) rfl rfl ?_
  refine ezy_put_i hS rfl rfl rfl rfl rfl ⟨by decide, by decide⟩ (fun F3 hS mF3 nF3 => ?_)
  refine ezw_aload_n rfl rfl ?_
  refine ezs_getp (p := 38) rfl rfl rfl rfl rfl ?_
  refine ezw_call0_0 rfl (by omega) (ezu_at rfl) rfl rfl rfl rfl (ezt_m25_38 hS (by omega)) ?_
  rintro _ _ ⟨F4, A4, rfl, hS, nF4, nA4, p4_0, fl_4, rfl⟩
  refine ezw_iconst (0) rfl rfl ?_
  refine ezw_istore_n rfl rfl ?_
  have L24_6 : ∀ c5 : Int, ezw_in c5 → ∀ A_6 : Nat → Int → Int, ezs_T F4 A_6 → (∀ p, ¬ (p = 44) → A_6 p = A4 p) → ((0) ≤ c5) → (∀ j, 0 ≤ j → j < c5 → A_6 44 j = ezp_fn j) → ezw_E l ρ B xa Hb D cA d ezq_re24 (ezt_m24_30Q e F A) 24 [some (ezw_p 30), some (ezw_i c5)] [] (ezu_g e F4 A_6) := by
    refine ezs_up ?_
    intro c5 hc5 ihc5 A_6 hS nA_6 g_6 nu_6
    refine ezw_iload_n rfl rfl ?_
    refine ezw_aload_n rfl rfl ?_
    refine ezs_getp (p := 44) rfl rfl rfl rfl rfl ?_
    refine ezs_alen (k := 11) rfl rfl rfl rfl (by decide) (by decide) ?_
    refine ezw_icmp_ge rfl rfl hc5 ⟨by decide, by decide⟩ (fun h30_6 => ?_) (fun h30_6 => ?_)
    · exact ezw_return rfl rfl ⟨F4, A_6, rfl, hS, (fun p j h => by rw [nF4 p j (fun z => h (Or.inr ⟨z.1, z.2⟩)), nF3 p j (fun z => h (Or.inl ⟨z.1, (Or.inr (Or.inr z.2))⟩)), nF2 p j (fun z => h (Or.inl ⟨z.1, (Or.inr (Or.inl z.2))⟩)), nF1 p j (fun z => h (Or.inl ⟨z.1, (Or.inl z.2)⟩))]), (fun p h => by
            funext j
            rw [nA_6 p (fun z => h (Or.inr z)), nA4 p (fun z => h (Or.inl z))]), (ezt_TR_0 ⟨(by rw [nF4 30 15 (by decide), nF3 30 15 (by decide), nF2 30 15 (by decide), mF1]), (by rw [nF4 30 16 (by decide), nF3 30 16 (by decide), mF2]), (by rw [nF4 30 17 (by decide), mF3]), p4_0⟩ (fun j j0 j1 => by rw [nA_6 39 (by decide)]; exact fl_4 j j0 j1)), (fun j j0 j1 => nu_6 j j0 (by omega)), rfl⟩
    · refine ezw_aload_n rfl rfl ?_
      refine ezs_getp (p := 44) rfl rfl rfl rfl rfl ?_
      refine ezw_iload_n rfl rfl ?_
      refine ezw_getst0 rfl ?_
      refine ezw_iload_n rfl rfl ?_
      refine ezw_call3_2 rfl (by omega) rfl rfl (ezt_m27_x1 hS (by omega) hc5) ?_
      rintro _ _ ⟨rfl, u8, hu8, v_7, p7_1, rfl⟩
      refine ezy_iastore hS rfl rfl rfl (by omega) (by omega) (by decide) (show ezs_ak 44 _ from ⟨by omega, by omega⟩) (fun A9 hS mA9 nA9 => ?_)
      refine ezw_iinc (k := c5 + 1) (1) rfl rfl rfl (by omega) rfl ?_
      refine ezw_goto rfl rfl ?_
      exact ezw_keepE [true, true] (ihc5 (c5 + 1) (by omega) ⟨by omega, by omega⟩ A9 hS (fun p h => by
            funext j
            rw [nA9 p j (fun z => h (z.1)), nA_6 p (fun z => h (z))]) (by omega) (fun j j0 j1 => by
            by_cases hj : j = c5
            · rw [hj, mA9]
              exact v_7 (by omega) (by omega)
            · rw [nA9 44 j (by omega)]
              exact nu_6 j j0 (by omega)))
  exact ezw_keepE [true, true] (L24_6 (0) ⟨by decide, by decide⟩ A4 hS (fun _ _ => rfl) (by omega) (fun j j0 j1 => by omega))
def ezt_m26_56Q (e : Bool × Bool) (F : Nat → Nat → Int) (A : Nat → Int → Int) (a1 : Int) : Option ezq_V → (Nat → ezq_C) → Prop := fun v g' => ∃ (A' : Nat → Int → Int), ezu_g e F A' = g' ∧ ezs_T F A' ∧ (∀ p, ¬ (p = 56) → A' p = A p) ∧ (∀ j, 0 ≤ j → j < 16 → A' 56 j = a1) ∧ none = v
theorem ezt_m26_56 {a1 : Int} {F : Nat → Nat → Int} {A : Nat → Int → Int} (hS : ezs_T F A) (hd : 0 ≤ d) (ha1 : ezw_in a1) : ezw_C l ρ B xa Hb D cA 26 d [ezw_p 56, ezw_i a1] (ezu_g e F A) (ezt_m26_56Q e F A a1) := by
  refine ezw_met (k := 2) rfl rfl ?_
  refine ezw_iconst (0) rfl rfl ?_
  refine ezw_istore_n rfl rfl ?_
  refine ezw_aload_n rfl rfl ?_
  refine ezs_alen (k := 16) rfl rfl rfl rfl (by decide) (by decide) ?_
  refine ezw_istore_n rfl rfl ?_
  have L5_2 : ∀ c1 : Int, ezw_in c1 → ∀ A_2 : Nat → Int → Int, ezs_T F A_2 → (∀ p, ¬ (p = 56) → A_2 p = A p) → ((0) ≤ c1) → (∀ j, 0 ≤ j → j < c1 → A_2 56 j = a1) → ezw_E l ρ B xa Hb D cA d ezq_re26 (ezt_m26_56Q e F A a1) 5 [some (ezw_p 56), some (ezw_i a1), some (ezw_i c1), some (ezw_i (16))] [] (ezu_g e F A_2) := by
    refine ezs_up ?_
    intro c1 hc1 ihc1 A_2 hS nA_2 g_2 fl_2
    refine ezw_iload_n rfl rfl ?_
    refine ezw_iload_n rfl rfl ?_
    refine ezw_icmp_ge rfl rfl hc1 ⟨by decide, by decide⟩ (fun h7_2 => ?_) (fun h7_2 => ?_)
    · exact ezw_return rfl rfl ⟨A_2, rfl, hS, (fun p h => by
            funext j
            rw [nA_2 p (fun z => h (z))]), (fun j j0 j1 => fl_2 j j0 (by omega)), rfl⟩
    · refine ezw_aload_n rfl rfl ?_
      refine ezw_iload_n rfl rfl ?_
      refine ezw_iload_n rfl rfl ?_
      refine ezy_iastore hS rfl rfl rfl (by omega) (by omega) (by decide) ha1 (fun A3 hS mA3 nA3 => ?_)
      refine ezw_iinc (k := c1 + 1) (1) rfl rfl rfl (by omega) rfl ?_
      refine ezw_goto rfl rfl ?_
      exact ezw_keepE [true, true, true, true] (ihc1 (c1 + 1) (by omega) ⟨by omega, by omega⟩ A3 hS (fun p h => by
            funext j
            rw [nA3 p j (fun z => h (z.1)), nA_2 p (fun z => h (z))]) (by omega) (fun j j0 j1 => by
            by_cases hj : j = c1
            · rw [hj, mA3]
            · rw [nA3 56 j (by omega)]
              exact fl_2 j j0 (by omega)))
  exact ezw_keepE [true, true, true, true] (L5_2 (0) ⟨by decide, by decide⟩ A hS (fun _ _ => rfl) (by omega) (fun j j0 j1 => by omega))
def ezt_m25_55Q (e : Bool × Bool) (F : Nat → Nat → Int) (A : Nat → Int → Int) : Option ezq_V → (Nat → ezq_C) → Prop := fun v g' => ∃ (F' : Nat → Nat → Int) (A' : Nat → Int → Int), ezu_g e F' A' = g' ∧ ezs_T F' A' ∧ (∀ p j, ¬ (p = 55 ∧ (j = 1)) → F' p j = F p j) ∧ (∀ p, ¬ (p = 56) → A' p = A p) ∧ (F' 55 1 = 0) ∧ (∀ j, 0 ≤ j → j < 16 → A' 56 j = 0) ∧ none = v
theorem ezt_m25_55 {F : Nat → Nat → Int} {A : Nat → Int → Int} (hS : ezs_T F A) (hd : 1 ≤ d) : ezw_C l ρ B xa Hb D cA 25 d [ezw_p 55] (ezu_g e F A) (ezt_m25_55Q e F A) := by
  refine ezw_met (k := 0) rfl rfl ?_
  refine ezw_aload_n rfl rfl ?_
  refine ezw_iconst (0) rfl rfl ?_
  refine ezy_put_i hS rfl rfl rfl rfl rfl ⟨by decide, by decide⟩ (fun F1 hS mF1 nF1 => ?_)
  refine ezw_aload_n rfl rfl ?_
  refine ezs_getp (p := 56) rfl rfl rfl rfl rfl ?_
  refine ezw_iconst (0) rfl rfl ?_
  refine ezw_call2_2 rfl (by omega) rfl rfl (ezt_m26_56 hS (by omega) ⟨by decide, by decide⟩) ?_
  rintro _ _ ⟨A2, rfl, hS, nA2, fl_2, rfl⟩
  have w55_1 : F1 55 1 = (0) := by rw [mF1]
  exact ezw_return rfl rfl ⟨F1, A2, rfl, hS, (fun p j h => by rw [nF1 p j (fun z => h (⟨z.1, z.2⟩))]), (fun p h => by
        funext j
        rw [nA2 p (fun z => h (z))]), by omega, fl_2, rfl⟩
def ezt_m24_47Q (e : Bool × Bool) (F : Nat → Nat → Int) (A : Nat → Int → Int) : Option ezq_V → (Nat → ezq_C) → Prop := fun v g' => ∃ (F' : Nat → Nat → Int) (A' : Nat → Int → Int), ezu_g e F' A' = g' ∧ ezs_T F' A' ∧ (∀ p j, ¬ (p = 47 ∧ (j = 15 ∨ j = 16 ∨ j = 17) ∨ p = 55 ∧ (j = 1)) → F' p j = F p j) ∧ (∀ p, ¬ (p = 56 ∨ p = 61) → A' p = A p) ∧ (ezt_TR 47 (ezp_D0) F' A') ∧ (ezt_NU 47 ezp_D0 A') ∧ none = v
theorem ezt_m24_47 {F : Nat → Nat → Int} {A : Nat → Int → Int} (hS : ezs_T F A) (hd : 2 ≤ d) : ezw_C l ρ B xa Hb D cA 24 d [ezw_p 47] (ezu_g e F A) (ezt_m24_47Q e F A) := by
  refine ezw_met (k := 1) rfl rfl ?_
  refine ezw_aload_n rfl rfl ?_
  refine ezw_iconst (0) rfl rfl ?_
  refine ezy_put_i hS rfl rfl rfl rfl rfl ⟨by decide, by decide⟩ (fun F1 hS mF1 nF1 => ?_)
  refine ezw_aload_n rfl rfl ?_
  refine ezw_iconst (0) rfl rfl ?_
  refine ezy_put_i hS rfl rfl rfl rfl rfl ⟨by decide, by decide⟩ (fun F2 hS mF2 nF2 => ?_)
  refine ezw_aload_n rfl rfl ?_
  refine ezw_iconst (0) rfl rfl ?_
  refine ezy_put_i hS rfl rfl rfl rfl rfl ⟨by decide, by decide⟩ (fun F3 hS mF3 nF3 => ?_)
  refine ezw_aload_n rfl rfl ?_
  refine ezs_getp (p := 55) rfl rfl rfl rfl rfl ?_
  refine ezw_call0_0 rfl (by omega) (ezu_at rfl) rfl rfl rfl rfl (ezt_m25_55 hS (by omega)) ?_
  rintro _ _ ⟨F4, A4, rfl, hS, nF4, nA4, p4_0, fl_4, rfl⟩
  refine ezw_iconst (0) rfl rfl ?_
  refine ezw_istore_n rfl rfl ?_
  have L24_6 : ∀ c5 : Int, ezw_in c5 → ∀ A_6 : Nat → Int → Int, ezs_T F4 A_6 → (∀ p, ¬ (p = 61) → A_6 p = A4 p) → ((0) ≤ c5) → (∀ j, 0 ≤ j → j < c5 → A_6 61 j = ezp_fn j) → ezw_E l ρ B xa Hb D cA d ezq_re24 (ezt_m24_47Q e F A) 24 [some (ezw_p 47), some (ezw_i c5)] [] (ezu_g e F4 A_6) := by
    refine ezs_up ?_
    intro c5 hc5 ihc5 A_6 hS nA_6 g_6 nu_6
    refine ezw_iload_n rfl rfl ?_
    refine ezw_aload_n rfl rfl ?_
    refine ezs_getp (p := 61) rfl rfl rfl rfl rfl ?_
    refine ezs_alen (k := 11) rfl rfl rfl rfl (by decide) (by decide) ?_
    refine ezw_icmp_ge rfl rfl hc5 ⟨by decide, by decide⟩ (fun h30_6 => ?_) (fun h30_6 => ?_)
    · exact ezw_return rfl rfl ⟨F4, A_6, rfl, hS, (fun p j h => by rw [nF4 p j (fun z => h (Or.inr ⟨z.1, z.2⟩)), nF3 p j (fun z => h (Or.inl ⟨z.1, (Or.inr (Or.inr z.2))⟩)), nF2 p j (fun z => h (Or.inl ⟨z.1, (Or.inr (Or.inl z.2))⟩)), nF1 p j (fun z => h (Or.inl ⟨z.1, (Or.inl z.2)⟩))]), (fun p h => by
            funext j
            rw [nA_6 p (fun z => h (Or.inr z)), nA4 p (fun z => h (Or.inl z))]), (ezt_TR_0 ⟨(by rw [nF4 47 15 (by decide), nF3 47 15 (by decide), nF2 47 15 (by decide), mF1]), (by rw [nF4 47 16 (by decide), nF3 47 16 (by decide), mF2]), (by rw [nF4 47 17 (by decide), mF3]), p4_0⟩ (fun j j0 j1 => by rw [nA_6 56 (by decide)]; exact fl_4 j j0 j1)), (fun j j0 j1 => nu_6 j j0 (by omega)), rfl⟩
    · refine ezw_aload_n rfl rfl ?_
      refine ezs_getp (p := 61) rfl rfl rfl rfl rfl ?_
      refine ezw_iload_n rfl rfl ?_
      refine ezw_getst0 rfl ?_
      refine ezw_iload_n rfl rfl ?_
      refine ezw_call3_2 rfl (by omega) rfl rfl (ezt_m27_x1 hS (by omega) hc5) ?_
      rintro _ _ ⟨rfl, u8, hu8, v_7, p7_1, rfl⟩
      refine ezy_iastore hS rfl rfl rfl (by omega) (by omega) (by decide) (show ezs_ak 61 _ from ⟨by omega, by omega⟩) (fun A9 hS mA9 nA9 => ?_)
      refine ezw_iinc (k := c5 + 1) (1) rfl rfl rfl (by omega) rfl ?_
      refine ezw_goto rfl rfl ?_
      exact ezw_keepE [true, true] (ihc5 (c5 + 1) (by omega) ⟨by omega, by omega⟩ A9 hS (fun p h => by
            funext j
            rw [nA9 p j (fun z => h (z.1)), nA_6 p (fun z => h (z))]) (by omega) (fun j j0 j1 => by
            by_cases hj : j = c5
            · rw [hj, mA9]
              exact v_7 (by omega) (by omega)
            · rw [nA9 61 j (by omega)]
              exact nu_6 j j0 (by omega)))
  exact ezw_keepE [true, true] (L24_6 (0) ⟨by decide, by decide⟩ A4 hS (fun _ _ => rfl) (by omega) (fun j j0 j1 => by omega))
def ezt_m28_5Q (e : Bool × Bool) (F : Nat → Nat → Int) (A : Nat → Int → Int) : Option ezq_V → (Nat → ezq_C) → Prop := fun v g' => ∃ (F' : Nat → Nat → Int), ezu_g e F' A = g' ∧ ezs_T F' A ∧ (∀ p j, ¬ (p = 5 ∧ (j = 3 ∨ j = 4)) → F' p j = F p j) ∧ (F' 5 3 = 0) ∧ (F' 5 4 = 0) ∧ none = v
theorem ezt_m28_5 {F : Nat → Nat → Int} {A : Nat → Int → Int} (hS : ezs_T F A) (hd : 0 ≤ d) : ezw_C l ρ B xa Hb D cA 28 d [ezw_p 5] (ezu_g e F A) (ezt_m28_5Q e F A) := by
  refine ezw_met (k := 0) rfl rfl ?_
  refine ezw_aload_n rfl rfl ?_
  refine ezw_iconst (0) rfl rfl ?_
  refine ezy_put_z hS rfl rfl rfl rfl ⟨by omega, by omega⟩ rfl (show ezs_fk 5 3 _ from ⟨by omega, by omega⟩) (fun F1 hS mF1 nF1 => ?_)
  refine ezw_aload_n rfl rfl ?_
  refine ezw_iconst (0) rfl rfl ?_
  refine ezy_put_i hS rfl rfl rfl rfl rfl ⟨by decide, by decide⟩ (fun F2 hS mF2 nF2 => ?_)
  have w5_3 : F2 5 3 = (0) := by rw [nF2 5 3 (by decide), mF1]
  have w5_4 : F2 5 4 = (0) := by rw [mF2]
  exact ezw_return rfl rfl ⟨F2, rfl, hS, (fun p j h => by rw [nF2 p j (fun z => h (⟨z.1, (Or.inr z.2)⟩)), nF1 p j (fun z => h (⟨z.1, (Or.inl z.2)⟩))]), by omega, by omega, rfl⟩
def ezt_m28_9Q (e : Bool × Bool) (F : Nat → Nat → Int) (A : Nat → Int → Int) : Option ezq_V → (Nat → ezq_C) → Prop := fun v g' => ∃ (F' : Nat → Nat → Int), ezu_g e F' A = g' ∧ ezs_T F' A ∧ (∀ p j, ¬ (p = 9 ∧ (j = 3 ∨ j = 4)) → F' p j = F p j) ∧ (F' 9 3 = 0) ∧ (F' 9 4 = 0) ∧ none = v
theorem ezt_m28_9 {F : Nat → Nat → Int} {A : Nat → Int → Int} (hS : ezs_T F A) (hd : 0 ≤ d) : ezw_C l ρ B xa Hb D cA 28 d [ezw_p 9] (ezu_g e F A) (ezt_m28_9Q e F A) := by
  refine ezw_met (k := 0) rfl rfl ?_
  refine ezw_aload_n rfl rfl ?_
  refine ezw_iconst (0) rfl rfl ?_
  refine ezy_put_z hS rfl rfl rfl rfl ⟨by omega, by omega⟩ rfl (show ezs_fk 9 3 _ from ⟨by omega, by omega⟩) (fun F1 hS mF1 nF1 => ?_)
  refine ezw_aload_n rfl rfl ?_
  refine ezw_iconst (0) rfl rfl ?_
  refine ezy_put_i hS rfl rfl rfl rfl rfl ⟨by decide, by decide⟩ (fun F2 hS mF2 nF2 => ?_)
  have w9_3 : F2 9 3 = (0) := by rw [nF2 9 3 (by decide), mF1]
  have w9_4 : F2 9 4 = (0) := by rw [mF2]
  exact ezw_return rfl rfl ⟨F2, rfl, hS, (fun p j h => by rw [nF2 p j (fun z => h (⟨z.1, (Or.inr z.2)⟩)), nF1 p j (fun z => h (⟨z.1, (Or.inl z.2)⟩))]), by omega, by omega, rfl⟩
end KT
