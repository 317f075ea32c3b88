/-! ===== the class: all begins anew ===== -/
section KT
variable {l : Launch} {ρ : ezq_E} {B : Nat} {xa : Nat → Option Nat} {Hb : Heap} {D : va_G} {cA : Nat → ClassId} {d : Nat} {e : Bool × Bool}
def ezt_m26_17nQ (e : Bool × Bool) (F : Nat → Nat → Int) (A : Nat → Int → Int) (a1 : Int) : Option ezq_V → (Nat → ezq_C) → Prop := fun v g' => ∃ (A' : Nat → Int → Int), ezu_g e F A' = g' ∧ ezs_T F A' ∧ (∀ p, ¬ (p = 17) → A' p = A p) ∧ (∀ j, 0 ≤ j → j < 8 → A' 17 j = a1) ∧ none = v
theorem ezt_m26_17n {a1 : Int} {F : Nat → Nat → Int} {A : Nat → Int → Int} (hS : ezs_T F A) (hd : 0 ≤ d) (ha1 : ezw_in a1) : ezw_C l ρ B xa Hb D cA 26 d [ezw_p 17, ezw_i a1] (ezu_g e F A) (ezt_m26_17nQ e F A a1) := by
  refine ezw_met (k := 2) rfl rfl ?_
  refine ezw_iconst (0) rfl rfl ?_
  refine ezw_istore_n rfl rfl ?_
  refine ezw_aload_n rfl rfl ?_
  refine ezs_alen (k := 8) rfl rfl rfl rfl (by decide) (by decide) ?_
  refine ezw_istore_n rfl rfl ?_
  have L5_2 : ∀ c1 : Int, ezw_in c1 → ∀ A_2 : Nat → Int → Int, ezs_T F A_2 → (∀ p, ¬ (p = 17) → A_2 p = A p) → ((0) ≤ c1) → (∀ j, 0 ≤ j → j < c1 → A_2 17 j = a1) → ezw_E l ρ B xa Hb D cA d ezq_re26 (ezt_m26_17nQ e F A a1) 5 [some (ezw_p 17), some (ezw_i a1), some (ezw_i c1), some (ezw_i (8))] [] (ezu_g e F A_2) := by
    refine ezs_up ?_
    intro c1 hc1 ihc1 A_2 hS nA_2 g_2 fl_2
    refine ezw_iload_n rfl rfl ?_
    refine ezw_iload_n rfl rfl ?_
    refine ezw_icmp_ge rfl rfl hc1 ⟨by decide, by decide⟩ (fun h7_2 => ?_) (fun h7_2 => ?_)
    · exact ezw_return rfl rfl ⟨A_2, rfl, hS, (fun p h => by
            funext j
            rw [nA_2 p (fun z => h (z))]), (fun j j0 j1 => fl_2 j j0 (by omega)), rfl⟩
    · refine ezw_aload_n rfl rfl ?_
      refine ezw_iload_n rfl rfl ?_
      refine ezw_iload_n rfl rfl ?_
      refine ezy_iastore hS rfl rfl rfl (by omega) (by omega) (by decide) ha1 (fun A3 hS mA3 nA3 => ?_)
      refine ezw_iinc (k := c1 + 1) (1) rfl rfl rfl (by omega) rfl ?_
      refine ezw_goto rfl rfl ?_
      exact ezw_keepE [true, true, true, true] (ihc1 (c1 + 1) (by omega) ⟨by omega, by omega⟩ A3 hS (fun p h => by
            funext j
            rw [nA3 p j (fun z => h (z.1)), nA_2 p (fun z => h (z))]) (by omega) (fun j j0 j1 => by
            by_cases hj : j = c1
            · rw [hj, mA3]
            · rw [nA3 17 j (by omega)]
              exact fl_2 j j0 (by omega)))
  exact ezw_keepE [true, true, true, true] (L5_2 (0) ⟨by decide, by decide⟩ A hS (fun _ _ => rfl) (by omega) (fun j j0 j1 => by omega))
def ezt_m96_16nQ (e : Bool × Bool) (F : Nat → Nat → Int) (A : Nat → Int → Int) : Option ezq_V → (Nat → ezq_C) → Prop := fun v g' => ∃ (A' : Nat → Int → Int), ezu_g e F A' = g' ∧ ezs_T F A' ∧ (∀ p, ¬ (p = 17) → A' p = A p) ∧ (∀ j, 0 ≤ j → j < 8 → A' 17 j = 0) ∧ none = v
theorem ezt_m96_16n {F : Nat → Nat → Int} {A : Nat → Int → Int} (hS : ezs_T F A) (hd : 1 ≤ d) : ezw_C l ρ B xa Hb D cA 96 d [ezw_p 16] (ezu_g e F A) (ezt_m96_16nQ e F A) := by
  refine ezw_met (k := 0) rfl rfl ?_
  refine ezw_aload_n rfl rfl ?_
  refine ezs_getp (p := 17) rfl rfl rfl rfl rfl ?_
  refine ezw_iconst (0) rfl rfl ?_
  refine ezw_call2_2 rfl (by omega) rfl rfl (ezt_m26_17n hS (by omega) ⟨by decide, by decide⟩) ?_
  rintro _ _ ⟨A1, rfl, hS, nA1, fl_1, rfl⟩
  exact ezw_return rfl rfl ⟨A1, rfl, hS, (fun p h => by
        funext j
        rw [nA1 p (fun z => h (z))]), fl_1, rfl⟩
def ezt_m97_18nQ (e : Bool × Bool) (F : Nat → Nat → Int) (A : Nat → Int → Int) : Option ezq_V → (Nat → ezq_C) → Prop := fun v g' => ∃ (F' : Nat → Nat → Int), ezu_g e F' A = g' ∧ ezs_T F' A ∧ (∀ p j, ¬ (p = 18 ∧ (j = 3 ∨ j = 4)) → F' p j = F p j) ∧ (F' 18 4 = 0) ∧ (F' 18 3 = 0) ∧ none = v
theorem ezt_m97_18n {F : Nat → Nat → Int} {A : Nat → Int → Int} (hS : ezs_T F A) (hd : 0 ≤ d) : ezw_C l ρ B xa Hb D cA 97 d [ezw_p 18] (ezu_g e F A) (ezt_m97_18nQ e F A) := by
  refine ezw_met (k := 0) rfl rfl ?_
  refine ezw_aload_n rfl rfl ?_
  refine ezw_iconst (0) rfl rfl ?_
  refine ezy_put_i hS rfl rfl rfl rfl rfl ⟨by decide, by decide⟩ (fun F1 hS mF1 nF1 => ?_)
  refine ezw_aload_n rfl rfl ?_
  refine ezw_iconst (0) rfl rfl ?_
  refine ezy_put_i hS rfl rfl rfl rfl rfl ⟨by decide, by decide⟩ (fun F2 hS mF2 nF2 => ?_)
  have w18_4 : F2 18 4 = (0) := by rw [nF2 18 4 (by decide), mF1]
  have w18_3 : F2 18 3 = (0) := by rw [mF2]
  exact ezw_return rfl rfl ⟨F2, rfl, hS, (fun p j h => by rw [nF2 p j (fun z => h (⟨z.1, (Or.inl z.2)⟩)), nF1 p j (fun z => h (⟨z.1, (Or.inr z.2)⟩))]), by omega, by omega, rfl⟩
def ezt_m98_64nQ (e : Bool × Bool) (F : Nat → Nat → Int) (A : Nat → Int → Int) : Option ezq_V → (Nat → ezq_C) → Prop := fun v g' => ∃ (F' : Nat → Nat → Int), ezu_g e F' A = g' ∧ ezs_T F' A ∧ (∀ p j, ¬ (p = 64 ∧ (j = 3)) → F' p j = F p j) ∧ (F' 64 3 = 0) ∧ none = v
theorem ezt_m98_64n {F : Nat → Nat → Int} {A : Nat → Int → Int} (hS : ezs_T F A) (hd : 0 ≤ d) : ezw_C l ρ B xa Hb D cA 98 d [ezw_p 64] (ezu_g e F A) (ezt_m98_64nQ e F A) := by
  refine ezw_met (k := 0) rfl rfl ?_
  refine ezw_aload_n rfl rfl ?_
  refine ezw_iconst (0) rfl rfl ?_
  refine ezy_put_i hS rfl rfl rfl rfl rfl ⟨by decide, by decide⟩ (fun F1 hS mF1 nF1 => ?_)
  have w64_3 : F1 64 3 = (0) := by rw [mF1]
  exact ezw_return rfl rfl ⟨F1, rfl, hS, (fun p j h => by rw [nF1 p j (fun z => h (⟨z.1, z.2⟩))]), by omega, rfl⟩
def ezt_m98_68nQ (e : Bool × Bool) (F : Nat → Nat → Int) (A : Nat → Int → Int) : Option ezq_V → (Nat → ezq_C) → Prop := fun v g' => ∃ (F' : Nat → Nat → Int), ezu_g e F' A = g' ∧ ezs_T F' A ∧ (∀ p j, ¬ (p = 68 ∧ (j = 3)) → F' p j = F p j) ∧ (F' 68 3 = 0) ∧ none = v
theorem ezt_m98_68n {F : Nat → Nat → Int} {A : Nat → Int → Int} (hS : ezs_T F A) (hd : 0 ≤ d) : ezw_C l ρ B xa Hb D cA 98 d [ezw_p 68] (ezu_g e F A) (ezt_m98_68nQ e F A) := by
  refine ezw_met (k := 0) rfl rfl ?_
  refine ezw_aload_n rfl rfl ?_
  refine ezw_iconst (0) rfl rfl ?_
  refine ezy_put_i hS rfl rfl rfl rfl rfl ⟨by decide, by decide⟩ (fun F1 hS mF1 nF1 => ?_)
  have w68_3 : F1 68 3 = (0) := by rw [mF1]
  exact ezw_return rfl rfl ⟨F1, rfl, hS, (fun p j h => by rw [nF1 p j (fun z => h (⟨z.1, z.2⟩))]), by omega, rfl⟩
def ezt_m138_0n_tQ (b2 : Bool) (F : Nat → Nat → Int) (A : Nat → Int → Int) (y : ezp_D) (w : ezn_N) (kU : Int) (U : Int → ezn_N) : Option ezq_V → (Nat → ezq_C) → Prop := fun v g' => ∃ (F' : Nat → Nat → Int), ezu_g (true, b2) F' A = g' ∧ ezs_T F' A ∧ (∀ p j, ¬ (p = 13 ∧ (j = 0 ∨ j = 1 ∨ j = 2 ∨ j = 3 ∨ j = 4 ∨ j = 5 ∨ j = 6) ∨ p = 18 ∧ (j = 4)) → F' p j = F p j) ∧ ∃ u : Int, (0 ≤ u ∧ u ≤ 1) ∧ (0 < kU → u = 1 ∧ ezn_C 13 (U (kU - 1)) F' ∧ F' 18 4 = kU - 1) ∧ (kU = 0 → u = 0 ∧ ezn_C 13 w F' ∧ F' 18 4 = kU) ∧ some (ezw_i u) = v
theorem ezt_m138_0n_t {b2 : Bool} {y : ezp_D} {w : ezn_N} {kU : Int} {U : Int → ezn_N} {F : Nat → Nat → Int} {A : Nat → Int → Int} (hS : ezs_T F A) (hd : 2 ≤ d) (cw : ezn_C 13 w F) (wb : ezn_B y w) (uc : F 18 4 = kU ∧ 0 ≤ kU ∧ kU ≤ 16) (us : ∀ k, 0 ≤ k → k < kU → A 19 k = ezn_pk (U k)) (ub : ∀ k, 0 ≤ k → k < kU → ezn_B y (U k)) : ezw_C l ρ B xa Hb D cA 138 d [ezw_p 0] (ezu_g (true, b2) F A) (ezt_m138_0n_tQ b2 F A y w kU U) := by
  refine ezw_met (k := 0) rfl rfl ?_
  refine ezw_aload_n rfl rfl ?_
  refine ezs_getp (p := 18) rfl rfl rfl rfl rfl ?_
  refine ezy_get_i hS rfl rfl rfl rfl rfl rfl (fun u1 hu1 ku1 eu1 => ?_)
  replace eu1 := eu1.symm
  subst eu1
  refine ezw_if_gt rfl rfl hu1 (fun h7_1 => ?_) (fun h7_1 => ?_)
  · refine ezw_aload_n rfl rfl ?_
    refine ezs_getp (p := 13) rfl rfl rfl rfl rfl ?_
    refine ezw_aload_n rfl rfl ?_
    refine ezs_getp (p := 18) rfl rfl rfl rfl rfl ?_
    refine ezw_call0_0 rfl (by omega) (ezu_at rfl) rfl rfl rfl rfl (ezt_m139_18n hS (by omega) ⟨uc.1, by omega, by omega⟩) ?_
    rintro _ _ ⟨F2, rfl, hS, nF2, u3, hu3, n_2, an_2, rfl⟩
    refine ezw_call0_1 rfl (by omega) (ezu_at rfl) rfl rfl rfl rfl (ezt_m140_13n (w := (U (kU - 1))) hS (by omega) hu3 (by rw [an_2]; exact us _ (by omega) (by omega)) (ub _ (by omega) (by omega))) ?_
    rintro _ _ ⟨F4, rfl, hS, nF4, rs_4, rfl⟩
    refine ezw_iconst (1) rfl rfl ?_
    have w18_4 : F4 18 4 = (F2 18 4) := by rw [nF4 18 4 (by decide)]
    exact ezw_ireturn rfl (ezw_zret ⟨by omega, by omega⟩) ⟨F4, rfl, hS, (fun p j h => by rw [nF4 p j (fun z => h (Or.inl ⟨z.1, z.2⟩)), nF2 p j (fun z => h (Or.inr ⟨z.1, z.2⟩))]), (1), ⟨by omega, by omega⟩, (fun _ => ⟨rfl, rs_4, by rw [nF4 18 4 (fun z => absurd z.1 (by decide))]; exact n_2⟩), (fun h => by omega), rfl⟩
  · refine ezw_iconst (0) rfl rfl ?_
    exact ezw_ireturn rfl (ezw_zret ⟨by omega, by omega⟩) ⟨F, rfl, hS, (fun _ _ _ => rfl), (0), ⟨by omega, by omega⟩, (fun h => by omega), (fun h => ⟨rfl, cw, uc.1⟩), rfl⟩
def ezt_m156_0n_tQ (b2 : Bool) (F : Nat → Nat → Int) (A : Nat → Int → Int) (c : Int → Int) (a1 : Int) (a2 : Int) : Option ezq_V → (Nat → ezq_C) → Prop := fun v g' => ∃ (A' : Nat → Int → Int), ezu_g (true, b2) F A' = g' ∧ ezs_T F A' ∧ (∀ p, ¬ (p = 17) → A' p = A p) ∧ ∃ u : Int, (0 ≤ u ∧ u ≤ 1) ∧ (0 ≤ a1 ∧ a1 < 4 ∧ ezn_tm c < 12 → u = 1 ∧ ∀ j, 0 ≤ j → j < 8 → A' 17 j = ezn_ad c a1 a2 j) ∧ (¬ (0 ≤ a1 ∧ a1 < 4 ∧ ezn_tm c < 12) → u = 0 ∧ ∀ j, 0 ≤ j → j < 8 → A' 17 j = c j) ∧ some (ezw_i u) = v
theorem ezt_m156_0n_t {b2 : Bool} {c : Int → Int} {a1 a2 : Int} {F : Nat → Nat → Int} {A : Nat → Int → Int} (hS : ezs_T F A) (hd : 2 ≤ d) (ha1 : ezw_in a1) (ha2 : ezw_in a2) (ct : ∀ j, 0 ≤ j → j < 8 → A 17 j = c j) (tb : ezn_TB c) (gb : 0 ≤ a2 ∧ a2 ≤ 1) : ezw_C l ρ B xa Hb D cA 156 d [ezw_p 0, ezw_i a1, ezw_i a2] (ezu_g (true, b2) F A) (ezt_m156_0n_tQ b2 F A c a1 a2) := by
  refine ezw_met (k := 0) rfl rfl ?_
  refine ezw_iload_n rfl rfl ?_
  refine ezw_call2_1 rfl (by omega) rfl rfl (ezt_m112o hS (by omega) ha1) ?_
  rintro _ _ ⟨rfl, u2, hu2, p1_0, p1_1, rfl⟩
  refine ezw_if_eq rfl rfl ⟨by omega, by omega⟩ (fun h4_2 => ?_) (fun h4_2 => ?_)
  · refine ezw_iconst (0) rfl rfl ?_
    exact ezw_ireturn rfl (ezw_zret ⟨by omega, by omega⟩) ⟨A, rfl, hS, (fun _ _ => rfl), (0), ⟨by omega, by omega⟩, (fun h => by omega), (fun _ => ⟨rfl, ct⟩), rfl⟩
  · refine ezw_aload_n rfl rfl ?_
    refine ezs_getp (p := 16) rfl rfl rfl rfl rfl ?_
    refine ezw_call0_0 rfl (by omega) (ezu_at rfl) rfl rfl rfl rfl (ezt_m157_16n hS (by omega) ct tb) ?_
    rintro _ _ ⟨rfl, u4, hu4, an_3, rfl⟩
    have htm := an_3
    refine ezw_bipush (12) rfl rfl ?_
    refine ezw_icmp_lt rfl rfl hu4 ⟨by decide, by decide⟩ (fun h16_4 => ?_) (fun h16_4 => ?_)
    · refine ezw_aload_n rfl rfl ?_
      refine ezs_getp (p := 16) rfl rfl rfl rfl rfl ?_
      refine ezw_iload_n rfl rfl ?_
      refine ezw_iload_n rfl rfl ?_
      refine ezw_call0_2 rfl (by omega) (ezu_at rfl) rfl rfl rfl rfl (ezt_m158_16n hS (by omega) ha1 ha2 ct tb (by omega)) ?_
      rintro _ _ ⟨A5, rfl, hS, nA5, ad_5, rfl⟩
      refine ezw_iconst (1) rfl rfl ?_
      exact ezw_ireturn rfl (ezw_zret ⟨by omega, by omega⟩) ⟨A5, rfl, hS, (fun p h => by
            funext j
            rw [nA5 p (fun z => h (z))]), (1), ⟨by omega, by omega⟩, (fun _ => ⟨rfl, ad_5⟩), (fun h => by omega), rfl⟩
    · refine ezw_iconst (0) rfl rfl ?_
      exact ezw_ireturn rfl (ezw_zret ⟨by omega, by omega⟩) ⟨A, rfl, hS, (fun _ _ => rfl), (0), ⟨by omega, by omega⟩, (fun h => by omega), (fun _ => ⟨rfl, ct⟩), rfl⟩
def ezt_m201_0n_tQ (b2 : Bool) (F : Nat → Nat → Int) (A : Nat → Int → Int) (y : ezp_D) (w : ezn_N) (c : Int → Int) (kU : Int) (ml : Int → Int) (mN : Int → ezn_N) (mT : Int → Int → Int) (a1 : Int) (a2 : Int) : Option ezq_V → (Nat → ezq_C) → Prop := fun v g' => ∃ (F' : Nat → Nat → Int) (A' : Nat → Int → Int), ezu_g (true, b2) F' A' = g' ∧ ezs_T F' A' ∧ (∀ p j, ¬ (p = 13 ∧ (j = 0 ∨ j = 1 ∨ j = 2 ∨ j = 3 ∨ j = 4 ∨ j = 5 ∨ j = 6) ∨ p = 18 ∧ (j = 3 ∨ j = 4)) → F' p j = F p j) ∧ (∀ p, ¬ (p = 17 ∨ p = 20 ∨ p = 21) → A' p = A p) ∧ ∃ u : Int, (0 ≤ u ∧ u ≤ 1) ∧ (0 ≤ a1 ∧ a1 < 4 ∧ (a2 = 0 ∨ ml a1 = 1) → u = 1) ∧ (¬ (0 ≤ a1 ∧ a1 < 4 ∧ (a2 = 0 ∨ ml a1 = 1)) → u = 0 ∧ F' = F ∧ A' = A) ∧ (0 ≤ a1 ∧ a1 < 4 ∧ a2 = 0 → ezn_C 13 w F' ∧ F' 18 4 = kU ∧ A' 17 = A 17 ∧ A' 19 = A 19 ∧ (0 ≤ F' 18 3 ∧ F' 18 3 < 16) ∧ ∀ m, 0 ≤ m → m < 4 → ezt_b (F' 18 3) m = (if m = a1 then 1 else ml m) ∧ A' 20 m = (if m = a1 then ezn_pk w else A 20 m) ∧ A' 21 m = (if m = a1 then ezn_pt c else A 21 m)) ∧ (0 ≤ a1 ∧ a1 < 4 ∧ a2 = 1 ∧ ml a1 = 1 → ezn_C 13 (mN a1) F' ∧ F' 18 4 = 0 ∧ (∀ j, 0 ≤ j → j < 8 → A' 17 j = mT a1 j) ∧ F' 18 3 = F 18 3 ∧ A' 19 = A 19 ∧ A' 20 = A 20 ∧ A' 21 = A 21) ∧ some (ezw_i u) = v
theorem ezt_m201_0n_t {b2 : Bool} {y : ezp_D} {w : ezn_N} {c : Int → Int} {kU : Int} {ml : Int → Int} {mN : Int → ezn_N} {mT : Int → Int → Int} {a1 a2 : Int} {F : Nat → Nat → Int} {A : Nat → Int → Int} (hS : ezs_T F A) (hd : 2 ≤ d) (ha1 : ezw_in a1) (ha2 : ezw_in a2) (cw : ezn_C 13 w F) (wb : ezn_B y w) (ct : ∀ j, 0 ≤ j → j < 8 → A 17 j = c j) (tb : ezn_TB c) (uc : F 18 4 = kU ∧ 0 ≤ kU ∧ kU ≤ 16) (la : 0 ≤ F 18 3 ∧ F 18 3 < 16) (lb : ∀ m, 0 ≤ m → m < 4 → ezt_b (F 18 3) m = ml m) (mk : ∀ m, 0 ≤ m → m < 4 → ml m = 1 → (A 20 m = ezn_pk (mN m) ∧ A 21 m = ezn_pt (mT m)) ∧ ezn_B y (mN m) ∧ ezn_TB (mT m)) (gb : 0 ≤ a2 ∧ a2 ≤ 1) : ezw_C l ρ B xa Hb D cA 201 d [ezw_p 0, ezw_i a1, ezw_i a2] (ezu_g (true, b2) F A) (ezt_m201_0n_tQ b2 F A y w c kU ml mN mT a1 a2) := by
  refine ezw_met (k := 0) rfl rfl ?_
  refine ezw_iload_n rfl rfl ?_
  refine ezw_if_lt rfl rfl ha1 (fun h1_0 => ?_) (fun h1_0 => ?_)
  · refine ezw_iconst (0) rfl rfl ?_
    exact ezw_ireturn rfl (ezw_zret ⟨by omega, by omega⟩) ⟨F, A, rfl, hS, (fun _ _ _ => rfl), (fun _ _ => rfl), (0), ⟨by omega, by omega⟩, (fun h => by
          omega), (fun _ => ⟨rfl, rfl, rfl⟩), (fun h => by omega), (fun h => by
          exfalso
          omega), rfl⟩
  · refine ezw_iload_n rfl rfl ?_
    refine ezw_iconst (4) rfl rfl ?_
    refine ezw_icmp_lt rfl rfl ha1 ⟨by decide, by decide⟩ (fun h6_0 => ?_) (fun h6_0 => ?_)
    · refine ezw_iload_n rfl rfl ?_
      refine ezw_if_ne rfl rfl ha2 (fun h12_0 => ?_) (fun h12_0 => ?_)
      · refine ezw_aload_n rfl rfl ?_
        refine ezs_getp (p := 18) rfl rfl rfl rfl rfl ?_
        refine ezw_iload_n rfl rfl ?_
        refine ezw_call0_1 rfl (by omega) (ezu_at rfl) rfl rfl rfl rfl (ezt_m204_18n hS (by omega) ha1 la (by omega)) ?_
        rintro _ _ ⟨rfl, u2, hu2, l1_1, l0_1, rfl⟩
        refine ezw_if_ne rfl rfl ⟨by omega, by omega⟩ (fun h47_2 => ?_) (fun h47_2 => ?_)
        · have hl1 : ml a1 = 1 := by
            have h9 := l1_1 (by omega)
            have h8 := lb a1 (by omega) (by omega)
            omega
          obtain ⟨⟨k1, k2⟩, k3, k4⟩ := mk a1 (by omega) (by omega) hl1
          refine ezw_aload_n rfl rfl ?_
          refine ezs_getp (p := 13) rfl rfl rfl rfl rfl ?_
          refine ezw_aload_n rfl rfl ?_
          refine ezs_getp (p := 18) rfl rfl rfl rfl rfl ?_
          refine ezw_iload_n rfl rfl ?_
          refine ezw_call0_1 rfl (by omega) (ezu_at rfl) rfl rfl rfl rfl (ezt_m205_18n hS (by omega) ha1 (by omega)) ?_
          rintro _ _ ⟨rfl, u4, hu4, an_3, rfl⟩
          refine ezw_call0_1 rfl (by omega) (ezu_at rfl) rfl rfl rfl rfl (ezt_m140_13n (w := (mN a1)) hS (by omega) hu4 (by rw [an_3]; exact k1) k3) ?_
          rintro _ _ ⟨F5, rfl, hS, nF5, rs_5, rfl⟩
          refine ezw_aload_n rfl rfl ?_
          refine ezs_getp (p := 16) rfl rfl rfl rfl rfl ?_
          refine ezw_aload_n rfl rfl ?_
          refine ezs_getp (p := 18) rfl rfl rfl rfl rfl ?_
          refine ezw_iload_n rfl rfl ?_
          refine ezw_call0_1 rfl (by omega) (ezu_at rfl) rfl rfl rfl rfl (ezt_m206_18n hS (by omega) ha1 (by omega)) ?_
          rintro _ _ ⟨rfl, u7, hu7, an_6, rfl⟩
          refine ezw_call0_1 rfl (by omega) (ezu_at rfl) rfl rfl rfl rfl (ezt_m207_16n (c := (mT a1)) hS (by omega) hu7 (by rw [an_6]; exact k2) k4) ?_
          rintro _ _ ⟨A8, rfl, hS, nA8, rt_8, rfl⟩
          refine ezw_aload_n rfl rfl ?_
          refine ezs_getp (p := 18) rfl rfl rfl rfl rfl ?_
          refine ezw_call0_0 rfl (by omega) (ezu_at rfl) rfl rfl rfl rfl (ezt_m208_18n hS (by omega)) ?_
          rintro _ _ ⟨F9, rfl, hS, nF9, p9_0, rfl⟩
          refine ezw_iconst (1) rfl rfl ?_
          have w18_3 : F9 18 3 = (F 18 3) := by rw [nF9 18 3 (by decide), nF5 18 3 (by decide)]
          exact ezw_ireturn rfl (ezw_zret ⟨by omega, by omega⟩) ⟨F9, A8, rfl, hS, (fun p j h => by rw [nF9 p j (fun z => h (Or.inr ⟨z.1, (Or.inr z.2)⟩)), nF5 p j (fun z => h (Or.inl ⟨z.1, z.2⟩))]), (fun p h => by
                funext j
                rw [nA8 p (fun z => h (Or.inl z))]), (1), ⟨by omega, by omega⟩, (fun _ => rfl), (fun h => absurd ⟨by omega, by omega, Or.inr hl1⟩ h), (fun h => by omega), (fun _ => ⟨ezn_C_f rs_5 (fun k hk => nF9 13 k (fun z => absurd z.1 (by decide))), p9_0, rt_8, by rw [nF9 18 3 (by decide), nF5 18 3 (by decide)], nA8 19 (by decide), nA8 20 (by decide), nA8 21 (by decide)⟩), rfl⟩
        · refine ezw_iconst (0) rfl rfl ?_
          exact ezw_ireturn rfl (ezw_zret ⟨by omega, by omega⟩) ⟨F, A, rfl, hS, (fun _ _ _ => rfl), (fun _ _ => rfl), (0), ⟨by omega, by omega⟩, (fun h => by
                have h9 := l0_1 (by omega)
                have h8 := lb a1 (by omega) (by omega)
                omega), (fun _ => ⟨rfl, rfl, rfl⟩), (fun h => by omega), (fun h => by
                exfalso
                have h9 := l0_1 (by omega)
                have h8 := lb a1 (by omega) (by omega)
                omega), rfl⟩
      · refine ezw_aload_n rfl rfl ?_
        refine ezs_getp (p := 18) rfl rfl rfl rfl rfl ?_
        refine ezw_iload_n rfl rfl ?_
        refine ezw_aload_n rfl rfl ?_
        refine ezs_getp (p := 13) rfl rfl rfl rfl rfl ?_
        refine ezw_call0_0 rfl (by omega) (ezu_at rfl) rfl rfl rfl rfl (ezt_m119_13n hS (by omega) cw wb) ?_
        rintro _ _ ⟨rfl, u11, hu11, an_10, rfl⟩
        refine ezw_aload_n rfl rfl ?_
        refine ezs_getp (p := 16) rfl rfl rfl rfl rfl ?_
        refine ezw_call0_0 rfl (by omega) (ezu_at rfl) rfl rfl rfl rfl (ezt_m202_16n hS (by omega) ct tb) ?_
        rintro _ _ ⟨rfl, u13, hu13, an_12, rfl⟩
        refine ezw_call0_3 rfl (by omega) (ezu_at rfl) rfl rfl rfl rfl (ezt_m203_18n hS (by omega) ha1 hu11 hu13 la (by omega)) ?_
        rintro _ _ ⟨F14, A14, rfl, hS, nF14, nA14, lr_14, lb_14, n_14, r1_14, r2_14, rfl⟩
        refine ezw_iconst (1) rfl rfl ?_
        have w18_4 : F14 18 4 = (F 18 4) := by rw [nF14 18 4 (by decide)]
        exact ezw_ireturn rfl (ezw_zret ⟨by omega, by omega⟩) ⟨F14, A14, rfl, hS, (fun p j h => by rw [nF14 p j (fun z => h (Or.inr ⟨z.1, (Or.inl z.2)⟩))]), (fun p h => by
              funext j
              rw [nA14 p (fun z => h (z.elim (fun y => (Or.inr (Or.inl y))) (fun y => (Or.inr (Or.inr y)))))]), (1), ⟨by omega, by omega⟩, (fun _ => rfl), (fun h => absurd ⟨by omega, by omega, Or.inl (by omega)⟩ h), (fun _ => ⟨ezn_C_f cw (fun k hk => nF14 13 k (fun z => absurd z.1 (by decide))), n_14.trans uc.1, nA14 17 (by decide), nA14 19 (by decide), lr_14, fun m m0 m1 => ⟨by rw [lb_14 m m0, lb m m0 m1], by rw [← an_10]; exact r1_14 m m0 m1, by rw [← an_12]; exact r2_14 m m0 m1⟩⟩), (fun h => by omega), rfl⟩
    · refine ezw_iconst (0) rfl rfl ?_
      exact ezw_ireturn rfl (ezw_zret ⟨by omega, by omega⟩) ⟨F, A, rfl, hS, (fun _ _ _ => rfl), (fun _ _ => rfl), (0), ⟨by omega, by omega⟩, (fun h => by
            omega), (fun _ => ⟨rfl, rfl, rfl⟩), (fun h => by omega), (fun h => by
            exfalso
            omega), rfl⟩
end KT
