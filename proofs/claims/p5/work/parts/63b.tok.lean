/-! ===== the program: the next token ===== -/
section KT
variable {l : Launch} {ρ : ezq_E} {B : Nat} {xa : Nat → Option Nat} {Hb : Heap} {D : va_G} {cA : Nat → ClassId} {d : Nat} {e : Bool × Bool}
def ezt_m30_1Q (e : Bool × Bool) (F : Nat → Nat → Int) (A : Nat → Int → Int) (c : Int → Int) (n : Int) : Option ezq_V → (Nat → ezq_C) → Prop := fun v g' => ∃ (F' : Nat → Nat → Int), ezu_g e F' A = g' ∧ ezs_T F' A ∧ (∀ p j, ¬ (p = 1 ∧ (j = 3 ∨ j = 4 ∨ j = 5 ∨ j = 7 ∨ j = 8 ∨ j = 9)) → F' p j = F p j) ∧ (F' 1 8 = ezp_run ezp_bl c 2000 (F 1 9)) ∧ (F' 1 9 = ezp_nx c (ezp_run ezp_bl c 2000 (F 1 9))) ∧ (F' 1 3 = ezp_kd c (ezp_run ezp_bl c 2000 (F 1 9))) ∧ (ezp_kd c (ezp_run ezp_bl c 2000 (F 1 9)) = 101 → F' 1 4 = ezp_N c (ezp_run ezp_bl c 2000 (F 1 9))) ∧ (ezp_kd c (ezp_run ezp_bl c 2000 (F 1 9)) = 100 → F' 1 7 = ezp_v 32 (ezp_L c (ezp_run ezp_bl c 2000 (F 1 9))) ∧ F' 1 5 = ezp_ix (ezp_L c (ezp_run ezp_bl c 2000 (F 1 9))) - 44) ∧ (0 ≤ F' 1 9 ∧ F' 1 9 ≤ n) ∧ none = v
theorem ezt_m30_1 {c : Int → Int} {n : Int} {F : Nat → Nat → Int} {A : Nat → Int → Int} (hS : ezs_T F A) (hd : 4 ≤ d) (hn : F 1 2 = n) (hc : c = ezp_ch (A 2) n) (tp : ezp_tp c n) (hw : ∀ j, 0 ≤ j → j < 48 → A 3 j = ezl_cw.getD j.toNat 0) (hb : 0 ≤ F 1 9 ∧ F 1 9 ≤ n) : ezw_C l ρ B xa Hb D cA 30 d [ezw_p 1] (ezu_g e F A) (ezt_m30_1Q e F A c n) := by
  refine ezw_met (k := 3) rfl rfl ?_
  have hn0 := tp.1
  have hn1 := tp.2.1
  refine ezw_iconst (0) rfl rfl ?_
  refine ezw_istore_n rfl rfl ?_
  have L2_2 : ∀ c1 : Int, ezw_in c1 → ∀ F_2 : Nat → Nat → Int, ezs_T F_2 A → (∀ p j, ¬ (p = 1 ∧ (j = 9)) → F_2 p j = F p j) → ((0) ≤ c1) → (F_2 1 9 = F 1 9 + c1 ∧ F_2 1 9 ≤ n) → (∀ j, F 1 9 ≤ j → j < F_2 1 9 → ezp_bl (c j) = true) → ezw_E l ρ B xa Hb D cA d ezq_re30 (ezt_m30_1Q e F A c n) 2 [some (ezw_p 1), some (ezw_i c1), none, none] [] (ezu_g e F_2 A) := by
    refine ezs_up ?_
    intro c1 hc1 ihc1 F_2 hS nF_2 g_2 v1_2 bl_2
    refine ezw_iload_n rfl rfl ?_
    refine ezw_sipush (1000) rfl rfl ?_
    have J39_4 : ∀ y3 : Int, ezw_in y3 → ∀ F_4 : Nat → Nat → Int, ezs_T F_4 A → (∀ p j, ¬ (p = 1 ∧ (j = 9)) → F_4 p j = F_2 p j) → (ezp_run ezp_bl c 2000 (F 1 9) = F_4 1 9) → (F 1 9 ≤ F_4 1 9 ∧ F_4 1 9 ≤ n) → ezw_E l ρ B xa Hb D cA d ezq_re30 (ezt_m30_1Q e F A c n) 39 [some (ezw_p 1), some (ezw_i y3), none, none] [] (ezu_g e F_4 A) := by
      intro y3 hy3 F_4 hS nF_4 hq_4 q1_4
      obtain ⟨q, hqe⟩ : ∃ q, q = F_4 1 9 := ⟨_, rfl⟩
      rw [← hqe] at hq_4
      have hb0 : ezp_bl (c q) = false := by
        have h := (ezp_skip tp (q := F 1 9) (by omega) (by omega)).2.2
        rw [hq_4] at h
        exact h
      refine ezw_aload_n rfl rfl ?_
      refine ezw_aload_n rfl rfl ?_
      refine ezy_get_i hS rfl rfl rfl rfl rfl rfl (fun u5 hu5 ku5 eu5 => ?_)
      replace eu5 := eu5.symm
      subst eu5
      refine ezy_put_i hS rfl rfl rfl rfl rfl hu5 (fun F6 hS mF6 nF6 => ?_)
      refine ezw_aload_n rfl rfl ?_
      refine ezw_aload_n rfl rfl ?_
      refine ezy_get_i hS rfl rfl rfl rfl rfl rfl (fun u7 hu7 ku7 eu7 => ?_)
      rw [nF6 1 9 (by decide)] at eu7
      replace eu7 := eu7.symm
      subst eu7
      refine ezw_call0_1 rfl (by omega) (ezu_at rfl) rfl rfl rfl rfl (ezt_m31_1 hS (by omega) hu7 (by rw [nF6 1 2 (by decide), nF_4 1 2 (by decide), nF_2 1 2 (by decide)]; exact hn) hc tp) ?_
      rintro _ _ ⟨rfl, u9, hu9, ch_8, rfl⟩
      have hcq : u9 = c q := by rw [ch_8, hqe]
      refine ezw_istore_n rfl rfl ?_
      refine ezw_iconst (0) rfl rfl ?_
      refine ezw_istore_n rfl rfl ?_
      refine ezw_iload_n rfl rfl ?_
      refine ezw_call2_1 rfl (by omega) rfl rfl (ezt_m33 hS (by omega) hu9) ?_
      rintro _ _ ⟨rfl, u11, hu11, p10_0, p10_1, rfl⟩
      refine ezw_if_eq rfl rfl ⟨by omega, by omega⟩ (fun h62_11 => ?_) (fun h62_11 => ?_)
      · have hlf : ezp_le (c q) = false := ezp_leF (by omega)
        refine ezw_iload_n rfl rfl ?_
        refine ezw_call2_1 rfl (by omega) rfl rfl (ezt_m35 hS (by omega) hu9) ?_
        rintro _ _ ⟨rfl, u13, hu13, p12_0, p12_1, rfl⟩
        refine ezw_if_eq rfl rfl ⟨by omega, by omega⟩ (fun h207_13 => ?_) (fun h207_13 => ?_)
        · have hdf : ezp_di (c q) = false := ezp_diF (by omega)
          refine ezw_iload_n rfl rfl ?_
          refine ezw_if_ne rfl rfl hu9 (fun h304_13 => ?_) (fun h304_13 => ?_)
          · have hne : c q ≠ 0 := by omega
            have hi := ezp_at_i tp (by omega) hne
            have hbl := ezp_blI hb0
            have hkd := ezp_kdS hlf hdf hne
            have hnx := ezp_nx1 hlf hdf hne
            refine ezw_aload_n rfl rfl ?_
            refine ezw_ldcS rfl rfl ?_
            refine ezw_iload_n rfl rfl ?_
            refine ezy_i2c rfl (by omega) (by omega) ?_
            refine ezw_call0x_1 rfl (by omega) rfl rfl rfl (ezt_m36_x4 hS (by omega) hu9 (by omega)) ?_
            rintro _ _ ⟨rfl, u15, hu15, sT_14, sF_14, rfl⟩
            refine ezw_if_lt rfl rfl hu15 (fun h324_15 => ?_) (fun h324_15 => ?_)
            · refine ezw_bipush (103) rfl rfl ?_
              refine ezy_put_i hS rfl rfl rfl rfl rfl ⟨by decide, by decide⟩ (fun F16 hS mF16 nF16 => ?_)
              refine ezw_aload_n rfl rfl ?_
              refine ezw_dup rfl rfl ?_
              refine ezy_get_i hS rfl rfl rfl rfl rfl rfl (fun u17 hu17 ku17 eu17 => ?_)
              rw [nF16 1 9 (by decide), nF6 1 9 (by decide)] at eu17
              replace eu17 := eu17.symm
              subst eu17
              refine ezw_iconst (1) rfl rfl ?_
              refine ezw_iadd (k := (F_4 1 9) + 1) rfl (by omega) ?_
              refine ezy_put_i hS rfl rfl rfl rfl rfl ⟨by omega, by omega⟩ (fun F18 hS mF18 nF18 => ?_)
              have w1_8 : F18 1 8 = (F_4 1 9) := by rw [nF18 1 8 (by decide), nF16 1 8 (by decide), mF6]
              have w1_9 : F18 1 9 = (F_4 1 9) + 1 := by rw [mF18]
              have w1_3 : F18 1 3 = (103) := by rw [nF18 1 3 (by decide), mF16]
              have w1_4 : F18 1 4 = (F 1 4) := by rw [nF18 1 4 (by decide), nF16 1 4 (by decide), nF6 1 4 (by decide), nF_4 1 4 (by decide), nF_2 1 4 (by decide)]
              have w1_7 : F18 1 7 = (F 1 7) := by rw [nF18 1 7 (by decide), nF16 1 7 (by decide), nF6 1 7 (by decide), nF_4 1 7 (by decide), nF_2 1 7 (by decide)]
              have w1_5 : F18 1 5 = (F 1 5) := by rw [nF18 1 5 (by decide), nF16 1 5 (by decide), nF6 1 5 (by decide), nF_4 1 5 (by decide), nF_2 1 5 (by decide)]
              exact ezw_return rfl rfl ⟨F18, rfl, hS, (fun p j h => by rw [nF18 p j (by omega), nF16 p j (by omega), nF6 p j (by omega), nF_4 p j (by omega), nF_2 p j (by omega)]), by rw [hq_4]; omega, by rw [hq_4]; omega, by
                    rw [hq_4]
                    first
                      | (have h1 := hkd.1 (by rw [← hcq]; exact sT_14 (by omega)); omega)
                      | (have h1 := hkd.2 (by rw [← hcq]; exact sF_14 (by omega)); omega), fun z => by
                    rw [hq_4] at z
                    cases hs : ezp_sg (c q)
                    · have := hkd.2 hs
                      omega
                    · have := hkd.1 hs
                      omega, fun z => by
                    rw [hq_4] at z
                    cases hs : ezp_sg (c q)
                    · have := hkd.2 hs
                      omega
                    · have := hkd.1 hs
                      omega, by omega, rfl⟩
            · refine ezw_sipush (200) rfl rfl ?_
              refine ezw_iload_n rfl rfl ?_
              refine ezw_iadd (k := u9 + 200) rfl (by omega) ?_
              refine ezw_goto rfl rfl ?_
              refine ezy_put_i hS rfl rfl rfl rfl rfl ⟨by omega, by omega⟩ (fun F19 hS mF19 nF19 => ?_)
              refine ezw_aload_n rfl rfl ?_
              refine ezw_dup rfl rfl ?_
              refine ezy_get_i hS rfl rfl rfl rfl rfl rfl (fun u20 hu20 ku20 eu20 => ?_)
              rw [nF19 1 9 (by decide), nF6 1 9 (by decide)] at eu20
              replace eu20 := eu20.symm
              subst eu20
              refine ezw_iconst (1) rfl rfl ?_
              refine ezw_iadd (k := (F_4 1 9) + 1) rfl (by omega) ?_
              refine ezy_put_i hS rfl rfl rfl rfl rfl ⟨by omega, by omega⟩ (fun F21 hS mF21 nF21 => ?_)
              have w1_8 : F21 1 8 = (F_4 1 9) := by rw [nF21 1 8 (by decide), nF19 1 8 (by decide), mF6]
              have w1_9 : F21 1 9 = (F_4 1 9) + 1 := by rw [mF21]
              have w1_3 : F21 1 3 = u9 + 200 := by rw [nF21 1 3 (by decide), mF19]
              have w1_4 : F21 1 4 = (F 1 4) := by rw [nF21 1 4 (by decide), nF19 1 4 (by decide), nF6 1 4 (by decide), nF_4 1 4 (by decide), nF_2 1 4 (by decide)]
              have w1_7 : F21 1 7 = (F 1 7) := by rw [nF21 1 7 (by decide), nF19 1 7 (by decide), nF6 1 7 (by decide), nF_4 1 7 (by decide), nF_2 1 7 (by decide)]
              have w1_5 : F21 1 5 = (F 1 5) := by rw [nF21 1 5 (by decide), nF19 1 5 (by decide), nF6 1 5 (by decide), nF_4 1 5 (by decide), nF_2 1 5 (by decide)]
              exact ezw_return rfl rfl ⟨F21, rfl, hS, (fun p j h => by rw [nF21 p j (by omega), nF19 p j (by omega), nF6 p j (by omega), nF_4 p j (by omega), nF_2 p j (by omega)]), by rw [hq_4]; omega, by rw [hq_4]; omega, by
                    rw [hq_4]
                    first
                      | (have h1 := hkd.1 (by rw [← hcq]; exact sT_14 (by omega)); omega)
                      | (have h1 := hkd.2 (by rw [← hcq]; exact sF_14 (by omega)); omega), fun z => by
                    rw [hq_4] at z
                    cases hs : ezp_sg (c q)
                    · have := hkd.2 hs
                      omega
                    · have := hkd.1 hs
                      omega, fun z => by
                    rw [hq_4] at z
                    cases hs : ezp_sg (c q)
                    · have := hkd.2 hs
                      omega
                    · have := hkd.1 hs
                      omega, by omega, rfl⟩
          · have hz : c q = 0 := by omega
            have hkd := ezp_kd0 hz
            have hnx := ezp_nx0 hz
            refine ezw_aload_n rfl rfl ?_
            refine ezw_bipush (102) rfl rfl ?_
            refine ezy_put_i hS rfl rfl rfl rfl rfl ⟨by decide, by decide⟩ (fun F22 hS mF22 nF22 => ?_)
            refine ezw_goto rfl rfl ?_
            have w1_8 : F22 1 8 = (F_4 1 9) := by rw [nF22 1 8 (by decide), mF6]
            have w1_9 : F22 1 9 = (F_4 1 9) := by rw [nF22 1 9 (by decide), nF6 1 9 (by decide)]
            have w1_3 : F22 1 3 = (102) := by rw [mF22]
            have w1_4 : F22 1 4 = (F 1 4) := by rw [nF22 1 4 (by decide), nF6 1 4 (by decide), nF_4 1 4 (by decide), nF_2 1 4 (by decide)]
            have w1_7 : F22 1 7 = (F 1 7) := by rw [nF22 1 7 (by decide), nF6 1 7 (by decide), nF_4 1 7 (by decide), nF_2 1 7 (by decide)]
            have w1_5 : F22 1 5 = (F 1 5) := by rw [nF22 1 5 (by decide), nF6 1 5 (by decide), nF_4 1 5 (by decide), nF_2 1 5 (by decide)]
            exact ezw_return rfl rfl ⟨F22, rfl, hS, (fun p j h => by rw [nF22 p j (by omega), nF6 p j (by omega), nF_4 p j (by omega), nF_2 p j (by omega)]), by rw [hq_4]; omega, by rw [hq_4]; omega, by rw [hq_4]; omega, fun z => by
                  rw [hq_4] at z
                  omega, fun z => by
                  rw [hq_4] at z
                  omega, by omega, rfl⟩
        · have hdi : ezp_di (c q) = true := ezp_diT (by omega)
          refine ezw_aload_n rfl rfl ?_
          refine ezw_iconst (0) rfl rfl ?_
          refine ezy_put_i hS rfl rfl rfl rfl rfl (show ezs_fk 1 4 _ from ⟨by omega, by omega⟩) (fun F23 hS mF23 nF23 => ?_)
          have L215_25 : ∀ c24 : Int, ezw_in c24 → ∀ F_25 : Nat → Nat → Int, ezs_T F_25 A → (∀ p j, ¬ (p = 1 ∧ (j = 4 ∨ j = 9)) → F_25 p j = F23 p j) → ((0) ≤ c24) → (F_25 1 9 = q + c24 ∧ F_25 1 9 ≤ n) → (∀ j, q ≤ j → j < F_25 1 9 → ezp_di (c j) = true) → (c24 ≤ 4 → F_25 1 4 = ezp_nu c q (c24).toNat) → ezw_E l ρ B xa Hb D cA d ezq_re30 (ezt_m30_1Q e F A c n) 215 [some (ezw_p 1), some (ezw_i u9), some (ezw_i c24), none] [] (ezu_g e F_25 A) := by
            refine ezs_up ?_
            intro c24 hc24 ihc24 F_25 hS nF_25 g_25 v1_25 di_25 nd_25
            refine ezw_iload_n rfl rfl ?_
            refine ezw_sipush (1000) rfl rfl ?_
            have J284_27 : ∀ y26 : Int, ezw_in y26 → ∀ F_27 : Nat → Nat → Int, ezs_T F_27 A → (∀ p j, ¬ (p = 1 ∧ (j = 4 ∨ j = 9)) → F_27 p j = F_25 p j) → (F_27 1 9 = ezp_nx c q) → (0 ≤ y26 ∧ y26 = F_27 1 9 - q ∧ F_27 1 9 ≤ n) → (y26 ≤ 4 → F_27 1 4 = ezp_N c q) → ezw_E l ρ B xa Hb D cA d ezq_re30 (ezt_m30_1Q e F A c n) 284 [some (ezw_p 1), some (ezw_i u9), some (ezw_i y26), none] [] (ezu_g e F_27 A) := by
              intro y26 hy26 F_27 hS nF_27 e9_27 e2_27 pn_27
              have hln := ezp_lnE e9_27.symm
              have hkd := ezp_kdD hlf hdi
              refine ezw_aload_n rfl rfl ?_
              refine ezw_iload_n rfl rfl ?_
              refine ezw_iconst (4) rfl rfl ?_
              refine ezw_icmp_le rfl rfl hy26 ⟨by decide, by decide⟩ (fun h287_27 => ?_) (fun h287_27 => ?_)
              · refine ezw_bipush (101) rfl rfl ?_
                refine ezy_put_i hS rfl rfl rfl rfl rfl ⟨by decide, by decide⟩ (fun F28 hS mF28 nF28 => ?_)
                refine ezw_goto rfl rfl ?_
                have w1_8 : F28 1 8 = (F_4 1 9) := by rw [nF28 1 8 (by decide), nF_27 1 8 (by decide), nF_25 1 8 (by decide), nF23 1 8 (by decide), mF6]
                have w1_9 : F28 1 9 = (F_27 1 9) := by rw [nF28 1 9 (by decide)]
                have w1_3 : F28 1 3 = (101) := by rw [mF28]
                have w1_4 : F28 1 4 = (F_27 1 4) := by rw [nF28 1 4 (by decide)]
                have w1_7 : F28 1 7 = (F 1 7) := by rw [nF28 1 7 (by decide), nF_27 1 7 (by decide), nF_25 1 7 (by decide), nF23 1 7 (by decide), nF6 1 7 (by decide), nF_4 1 7 (by decide), nF_2 1 7 (by decide)]
                have w1_5 : F28 1 5 = (F 1 5) := by rw [nF28 1 5 (by decide), nF_27 1 5 (by decide), nF_25 1 5 (by decide), nF23 1 5 (by decide), nF6 1 5 (by decide), nF_4 1 5 (by decide), nF_2 1 5 (by decide)]
                exact ezw_return rfl rfl ⟨F28, rfl, hS, (fun p j h => by rw [nF28 p j (by omega), nF_27 p j (by omega), nF_25 p j (by omega), nF23 p j (by omega), nF6 p j (by omega), nF_4 p j (by omega), nF_2 p j (by omega)]), by rw [hq_4]; omega, by rw [hq_4]; omega, by
                      rw [hq_4]
                      by_cases h4 : 4 < ezp_ln c q
                      · have := hkd.1 h4
                        omega
                      · have := hkd.2 h4
                        omega, fun z => by
                      rw [hq_4] at z ⊢
                      by_cases h4 : 4 < ezp_ln c q
                      · have := hkd.1 h4
                        omega
                      · have := pn_27 (by omega)
                        omega, fun z => by
                      rw [hq_4] at z
                      by_cases h4 : 4 < ezp_ln c q
                      · have := hkd.1 h4
                        omega
                      · have := hkd.2 h4
                        omega, by omega, rfl⟩
              · refine ezw_bipush (103) rfl rfl ?_
                refine ezw_goto rfl rfl ?_
                refine ezy_put_i hS rfl rfl rfl rfl rfl ⟨by decide, by decide⟩ (fun F29 hS mF29 nF29 => ?_)
                refine ezw_goto rfl rfl ?_
                have w1_8 : F29 1 8 = (F_4 1 9) := by rw [nF29 1 8 (by decide), nF_27 1 8 (by decide), nF_25 1 8 (by decide), nF23 1 8 (by decide), mF6]
                have w1_9 : F29 1 9 = (F_27 1 9) := by rw [nF29 1 9 (by decide)]
                have w1_3 : F29 1 3 = (103) := by rw [mF29]
                have w1_4 : F29 1 4 = (F_27 1 4) := by rw [nF29 1 4 (by decide)]
                have w1_7 : F29 1 7 = (F 1 7) := by rw [nF29 1 7 (by decide), nF_27 1 7 (by decide), nF_25 1 7 (by decide), nF23 1 7 (by decide), nF6 1 7 (by decide), nF_4 1 7 (by decide), nF_2 1 7 (by decide)]
                have w1_5 : F29 1 5 = (F 1 5) := by rw [nF29 1 5 (by decide), nF_27 1 5 (by decide), nF_25 1 5 (by decide), nF23 1 5 (by decide), nF6 1 5 (by decide), nF_4 1 5 (by decide), nF_2 1 5 (by decide)]
                exact ezw_return rfl rfl ⟨F29, rfl, hS, (fun p j h => by rw [nF29 p j (by omega), nF_27 p j (by omega), nF_25 p j (by omega), nF23 p j (by omega), nF6 p j (by omega), nF_4 p j (by omega), nF_2 p j (by omega)]), by rw [hq_4]; omega, by rw [hq_4]; omega, by
                      rw [hq_4]
                      by_cases h4 : 4 < ezp_ln c q
                      · have := hkd.1 h4
                        omega
                      · have := hkd.2 h4
                        omega, fun z => by
                      rw [hq_4] at z ⊢
                      by_cases h4 : 4 < ezp_ln c q
                      · have := hkd.1 h4
                        omega
                      · have := pn_27 (by omega)
                        omega, fun z => by
                      rw [hq_4] at z
                      by_cases h4 : 4 < ezp_ln c q
                      · have := hkd.1 h4
                        omega
                      · have := hkd.2 h4
                        omega, by omega, rfl⟩
            refine ezw_icmp_ge rfl rfl hc24 ⟨by decide, by decide⟩ (fun h219_25 => ?_) (fun h219_25 => ?_)
            · exact ezw_keepE [true, true, true, false] (J284_27 c24 hc24 F_25 hS (fun _ _ _ => rfl) (ezp_nxD hlf hdi (by omega) (by omega) di_25 (by rw [ezp_at_n tp (by omega)]; rfl)).symm (by omega) (fun h4 => by
                    have h9 := ezp_lnE (ezp_nxD hlf hdi (by omega) (by omega) di_25 (by rw [ezp_at_n tp (by omega)]; rfl))
                    unfold ezp_N
                    rw [h9, show (F_25 1 9 - q).toNat = (c24).toNat by omega]
                    exact nd_25 (by omega)))
            · refine ezw_aload_n rfl rfl ?_
              refine ezw_aload_n rfl rfl ?_
              refine ezy_get_i hS rfl rfl rfl rfl rfl rfl (fun u30 hu30 ku30 eu30 => ?_)
              replace eu30 := eu30.symm
              subst eu30
              refine ezw_call0_1 rfl (by omega) (ezu_at rfl) rfl rfl rfl rfl (ezt_m31_1 hS (by omega) hu30 (by rw [nF_25 1 2 (by decide), nF23 1 2 (by decide), nF6 1 2 (by decide), nF_4 1 2 (by decide), nF_2 1 2 (by decide)]; exact hn) hc tp) ?_
              rintro _ _ ⟨rfl, u32, hu32, ch_31, rfl⟩
              refine ezw_call2_1 rfl (by omega) rfl rfl (ezt_m35 hS (by omega) hu32) ?_
              rintro _ _ ⟨rfl, u34, hu34, p33_0, p33_1, rfl⟩
              refine ezw_if_eq rfl rfl ⟨by omega, by omega⟩ (fun h233_34 => ?_) (fun h233_34 => ?_)
              · exact ezw_keepE [true, true, true, false] (J284_27 c24 hc24 F_25 hS (fun _ _ _ => rfl) (ezp_nxD hlf hdi (by omega) (by omega) di_25 (by rw [← ch_31]; exact ezp_diF (by omega))).symm (by omega) (fun h4 => by
                      have h9 := ezp_lnE (ezp_nxD hlf hdi (by omega) (by omega) di_25 (by rw [← ch_31]; exact ezp_diF (by omega)))
                      unfold ezp_N
                      rw [h9, show (F_25 1 9 - q).toNat = (c24).toNat by omega]
                      exact nd_25 (by omega)))
              · have hlt := (ezp_at_i tp (q := F_25 1 9) (by omega) (by omega)).1
                refine ezw_aload_n rfl rfl ?_
                refine ezw_iload_n rfl rfl ?_
                refine ezw_iconst (4) rfl rfl ?_
                refine ezw_icmp_ge rfl rfl hc24 ⟨by decide, by decide⟩ (fun h239_34 => ?_) (fun h239_34 => ?_)
                · refine ezw_iconst (0) rfl rfl ?_
                  refine ezy_put_i hS rfl rfl rfl rfl rfl (show ezs_fk 1 4 _ from ⟨by omega, by omega⟩) (fun F35 hS mF35 nF35 => ?_)
                  refine ezw_aload_n rfl rfl ?_
                  refine ezw_dup rfl rfl ?_
                  refine ezy_get_i hS rfl rfl rfl rfl rfl rfl (fun u36 hu36 ku36 eu36 => ?_)
                  rw [nF35 1 9 (by decide)] at eu36
                  replace eu36 := eu36.symm
                  subst eu36
                  refine ezw_iconst (1) rfl rfl ?_
                  refine ezw_iadd (k := (F_25 1 9) + 1) rfl (by omega) ?_
                  refine ezy_put_i hS rfl rfl rfl rfl rfl ⟨by omega, by omega⟩ (fun F37 hS mF37 nF37 => ?_)
                  refine ezw_iinc (k := c24 + 1) (1) rfl rfl rfl (by omega) rfl ?_
                  refine ezw_goto rfl rfl ?_
                  have w1_9 : F37 1 9 = (F_25 1 9) + 1 := by rw [mF37]
                  have w1_4 : F37 1 4 = (0) := by rw [nF37 1 4 (by decide), mF35]
                  exact ezw_keepE [true, true, true, false] (ihc24 (c24 + 1) (by omega) ⟨by omega, by omega⟩ F37 hS (fun p j h => by rw [nF37 p j (by omega), nF35 p j (by omega), nF_25 p j (by omega)]) (by omega) (by omega) (fun j j0 j1 => by
                        by_cases hj : j = (F_25 1 9)
                        · rw [hj, ← ch_31]
                          exact ezp_diT (by omega)
                        · exact di_25 j j0 (by omega)) (fun h8 => by
                        rw [ezp_nu_s (by omega), ← nd_25 (by omega), show q + c24 = (F_25 1 9) by omega, ← ch_31]
                        omega))
                · have hnb := ezp_nu_r (c := c) (q := q) (c24).toNat (fun j j0 j1 => di_25 j j0 (by omega))
                  have hnd := nd_25 (by omega)
                  refine ezw_aload_n rfl rfl ?_
                  refine ezy_get_i hS rfl rfl rfl rfl rfl rfl (fun u38 hu38 ku38 eu38 => ?_)
                  replace eu38 := eu38.symm
                  subst eu38
                  have ru38 : 0 ≤ (F_25 1 4) ∧ (F_25 1 4) ≤ 9999 := ku38
                  refine ezw_bipush (10) rfl rfl ?_
                  refine ezw_imul (k := 10 * (F_25 1 4)) rfl (by omega) ?_
                  refine ezw_aload_n rfl rfl ?_
                  refine ezw_aload_n rfl rfl ?_
                  refine ezy_get_i hS rfl rfl rfl rfl rfl rfl (fun u39 hu39 ku39 eu39 => ?_)
                  replace eu39 := eu39.symm
                  subst eu39
                  refine ezw_call0_1 rfl (by omega) (ezu_at rfl) rfl rfl rfl rfl (ezt_m31_1 hS (by omega) hu39 (by rw [nF_25 1 2 (by decide), nF23 1 2 (by decide), nF6 1 2 (by decide), nF_4 1 2 (by decide), nF_2 1 2 (by decide)]; exact hn) hc tp) ?_
                  rintro _ _ ⟨rfl, u41, hu41, ch_40, rfl⟩
                  refine ezw_bipush (48) rfl rfl ?_
                  refine ezw_isub (k := u41 - 48) rfl (by omega) ?_
                  refine ezw_iadd (k := 10 * (F_25 1 4) + u41 - 48) rfl (by omega) ?_
                  refine ezw_goto rfl rfl ?_
                  refine ezy_put_i hS rfl rfl rfl rfl rfl (show ezs_fk 1 4 _ from ⟨by omega, by omega⟩) (fun F42 hS mF42 nF42 => ?_)
                  refine ezw_aload_n rfl rfl ?_
                  refine ezw_dup rfl rfl ?_
                  refine ezy_get_i hS rfl rfl rfl rfl rfl rfl (fun u43 hu43 ku43 eu43 => ?_)
                  rw [nF42 1 9 (by decide)] at eu43
                  replace eu43 := eu43.symm
                  subst eu43
                  refine ezw_iconst (1) rfl rfl ?_
                  refine ezw_iadd (k := (F_25 1 9) + 1) rfl (by omega) ?_
                  refine ezy_put_i hS rfl rfl rfl rfl rfl ⟨by omega, by omega⟩ (fun F44 hS mF44 nF44 => ?_)
                  refine ezw_iinc (k := c24 + 1) (1) rfl rfl rfl (by omega) rfl ?_
                  refine ezw_goto rfl rfl ?_
                  have w1_9 : F44 1 9 = (F_25 1 9) + 1 := by rw [mF44]
                  have w1_4 : F44 1 4 = 10 * (F_25 1 4) + u41 - 48 := by rw [nF44 1 4 (by decide), mF42]
                  exact ezw_keepE [true, true, true, false] (ihc24 (c24 + 1) (by omega) ⟨by omega, by omega⟩ F44 hS (fun p j h => by rw [nF44 p j (by omega), nF42 p j (by omega), nF_25 p j (by omega)]) (by omega) (by omega) (fun j j0 j1 => by
                        by_cases hj : j = (F_25 1 9)
                        · rw [hj, ← ch_31]
                          exact ezp_diT (by omega)
                        · exact di_25 j j0 (by omega)) (fun h8 => by
                        rw [ezp_nu_s (by omega), ← nd_25 (by omega), show q + c24 = (F_25 1 9) by omega, ← ch_40]
                        omega))
          have w1_9 : F23 1 9 = (F_4 1 9) := by rw [nF23 1 9 (by decide), nF6 1 9 (by decide)]
          have w1_4 : F23 1 4 = (0) := by rw [mF23]
          exact ezw_keepE [true, true, true, false] (L215_25 (0) ⟨by decide, by decide⟩ F23 hS (fun _ _ _ => rfl) (by omega) (by omega) (fun j j0 j1 => by omega) (fun _ => by rw [w1_4]; rfl))
      · have hle : ezp_le (c q) = true := ezp_leT (by omega)
        refine ezw_aload_n rfl rfl ?_
        refine ezw_lconst (0) rfl rfl ?_
        refine ezy_put_l hS rfl rfl rfl rfl rfl ⟨by decide, by decide⟩ (fun F45 hS mF45 nF45 => ?_)
        have L70_47 : ∀ c46 : Int, ezw_in c46 → ∀ F_47 : Nat → Nat → Int, ezs_T F_47 A → (∀ p j, ¬ (p = 1 ∧ (j = 7 ∨ j = 9)) → F_47 p j = F45 p j) → ((0) ≤ c46) → (F_47 1 9 = q + c46 ∧ F_47 1 9 ≤ n) → (∀ j, q ≤ j → j < F_47 1 9 → ezp_le (c j) = true) → (c46 ≤ 8 → F_47 1 7 = ezp_v 32 (ezp_lt c q (c46).toNat)) → (8 < c46 → F_47 1 7 = 0) → (0 ≤ F_47 1 7 ∧ F_47 1 7 < ezp_p32 (c46)) → ezw_E l ρ B xa Hb D cA d ezq_re30 (ezt_m30_1Q e F A c n) 70 [some (ezw_p 1), some (ezw_i u9), some (ezw_i c46), none] [] (ezu_g e F_47 A) := by
          refine ezs_up ?_
          intro c46 hc46 ihc46 F_47 hS nF_47 g_47 v1_47 le_47 wd_47 wz_47 wb_47
          refine ezw_iload_n rfl rfl ?_
          refine ezw_sipush (1000) rfl rfl ?_
          have J144_49 : ∀ y48 : Int, ezw_in y48 → ∀ F_49 : Nat → Nat → Int, ezs_T F_49 A → (∀ p j, ¬ (p = 1 ∧ (j = 7 ∨ j = 9)) → F_49 p j = F_47 p j) → (F_49 1 9 = ezp_nx c q) → (0 ≤ y48 ∧ y48 = F_49 1 9 - q ∧ F_49 1 9 ≤ n) → (F_49 1 7 = ezp_v 32 (ezp_pl c q)) → ezw_E l ρ B xa Hb D cA d ezq_re30 (ezt_m30_1Q e F A c n) 144 [some (ezw_p 1), some (ezw_i u9), some (ezw_i y48), none] [] (ezu_g e F_49 A) := by
            intro y48 hy48 F_49 hS nF_49 e9_49 e2_49 pa_49
            have hln := ezp_lnE e9_49.symm
            have hkd := ezp_kdL hle
            have hpl : ezp_ok (ezp_pl c q) := by
              unfold ezp_pl
              split
              · intro x hx
                cases hx
              · exact ezp_L_ok tp (by omega) (by omega) hle
            have hix := ezp_ix_r (ezp_pl c q)
            refine ezw_aload_n rfl rfl ?_
            refine ezw_aload_n rfl rfl ?_
            refine ezy_get_l hS rfl rfl rfl rfl rfl (fun u50 hu50 eu50 => ?_)
            replace eu50 := eu50.symm
            subst eu50
            refine ezw_call0_1 rfl (by omega) (ezu_at rfl) rfl rfl rfl rfl (ezt_m34_1 (wl := ezp_pl c q) hS (by omega) hu50 hpl (pa_49) hw) ?_
            rintro _ _ ⟨rfl, u52, hu52, ix_51, rfl⟩
            refine ezw_istore_n rfl rfl ?_
            refine ezw_aload_n rfl rfl ?_
            refine ezw_iload_n rfl rfl ?_
            refine ezw_bipush (44) rfl rfl ?_
            refine ezw_isub (k := u52 - 44) rfl (by omega) ?_
            refine ezy_put_i hS rfl rfl rfl rfl rfl ⟨by omega, by omega⟩ (fun F53 hS mF53 nF53 => ?_)
            refine ezw_aload_n rfl rfl ?_
            refine ezw_iload_n rfl rfl ?_
            refine ezw_if_lt rfl rfl hu52 (fun h163_53 => ?_) (fun h163_53 => ?_)
            · refine ezw_bipush (100) rfl rfl ?_
              refine ezy_put_i hS rfl rfl rfl rfl rfl ⟨by decide, by decide⟩ (fun F54 hS mF54 nF54 => ?_)
              refine ezw_aload_n rfl rfl ?_
              refine ezw_iload_n rfl rfl ?_
              refine ezw_bipush (8) rfl rfl ?_
              refine ezw_icmp_le rfl rfl hy48 ⟨by decide, by decide⟩ (fun h185_54 => ?_) (fun h185_54 => ?_)
              · refine ezw_aload_n rfl rfl ?_
                refine ezy_get_i hS rfl rfl rfl rfl rfl rfl (fun u55 hu55 ku55 eu55 => ?_)
                rw [mF54] at eu55
                replace eu55 := eu55.symm
                subst eu55
                refine ezy_put_i hS rfl rfl rfl rfl rfl ⟨by decide, by decide⟩ (fun F56 hS mF56 nF56 => ?_)
                refine ezw_goto rfl rfl ?_
                have w1_8 : F56 1 8 = (F_4 1 9) := by rw [nF56 1 8 (by decide), nF54 1 8 (by decide), nF53 1 8 (by decide), nF_49 1 8 (by decide), nF_47 1 8 (by decide), nF45 1 8 (by decide), mF6]
                have w1_9 : F56 1 9 = (F_49 1 9) := by rw [nF56 1 9 (by decide), nF54 1 9 (by decide), nF53 1 9 (by decide)]
                have w1_3 : F56 1 3 = (100) := by rw [mF56]
                have w1_4 : F56 1 4 = (F 1 4) := by rw [nF56 1 4 (by decide), nF54 1 4 (by decide), nF53 1 4 (by decide), nF_49 1 4 (by decide), nF_47 1 4 (by decide), nF45 1 4 (by decide), nF6 1 4 (by decide), nF_4 1 4 (by decide), nF_2 1 4 (by decide)]
                have w1_7 : F56 1 7 = (F_49 1 7) := by rw [nF56 1 7 (by decide), nF54 1 7 (by decide), nF53 1 7 (by decide)]
                have w1_5 : F56 1 5 = u52 - 44 := by rw [nF56 1 5 (by decide), nF54 1 5 (by decide), mF53]
                exact ezw_return rfl rfl ⟨F56, rfl, hS, (fun p j h => by rw [nF56 p j (by omega), nF54 p j (by omega), nF53 p j (by omega), nF_49 p j (by omega), nF_47 p j (by omega), nF45 p j (by omega), nF6 p j (by omega), nF_4 p j (by omega), nF_2 p j (by omega)]), by rw [hq_4]; omega, by rw [hq_4]; omega, by
                      rw [hq_4]
                      by_cases h8 : 8 < ezp_ln c q
                      · have := hkd.1 h8
                        omega
                      · have h2 := hkd.2 h8
                        have h3 : ezp_pl c q = ezp_L c q := if_neg h8
                        rw [h3] at ix_51
                        by_cases h44 : 0 ≤ ezp_ix (ezp_L c q) ∧ ezp_ix (ezp_L c q) < 44
                        · have := h2.1 h44
                          omega
                        · have := h2.2 h44
                          omega, fun z => by
                      rw [hq_4] at z
                      exact absurd z (ezp_kdL_ne hle), fun z => by
                      rw [hq_4] at z ⊢
                      by_cases h8 : 8 < ezp_ln c q
                      · have := hkd.1 h8
                        omega
                      · have h3 : ezp_pl c q = ezp_L c q := if_neg h8
                        rw [h3] at pa_49 ix_51
                        exact ⟨by omega, by omega⟩, by omega, rfl⟩
              · refine ezw_bipush (103) rfl rfl ?_
                refine ezw_goto rfl rfl ?_
                refine ezy_put_i hS rfl rfl rfl rfl rfl ⟨by decide, by decide⟩ (fun F57 hS mF57 nF57 => ?_)
                refine ezw_goto rfl rfl ?_
                have w1_8 : F57 1 8 = (F_4 1 9) := by rw [nF57 1 8 (by decide), nF54 1 8 (by decide), nF53 1 8 (by decide), nF_49 1 8 (by decide), nF_47 1 8 (by decide), nF45 1 8 (by decide), mF6]
                have w1_9 : F57 1 9 = (F_49 1 9) := by rw [nF57 1 9 (by decide), nF54 1 9 (by decide), nF53 1 9 (by decide)]
                have w1_3 : F57 1 3 = (103) := by rw [mF57]
                have w1_4 : F57 1 4 = (F 1 4) := by rw [nF57 1 4 (by decide), nF54 1 4 (by decide), nF53 1 4 (by decide), nF_49 1 4 (by decide), nF_47 1 4 (by decide), nF45 1 4 (by decide), nF6 1 4 (by decide), nF_4 1 4 (by decide), nF_2 1 4 (by decide)]
                have w1_7 : F57 1 7 = (F_49 1 7) := by rw [nF57 1 7 (by decide), nF54 1 7 (by decide), nF53 1 7 (by decide)]
                have w1_5 : F57 1 5 = u52 - 44 := by rw [nF57 1 5 (by decide), nF54 1 5 (by decide), mF53]
                exact ezw_return rfl rfl ⟨F57, rfl, hS, (fun p j h => by rw [nF57 p j (by omega), nF54 p j (by omega), nF53 p j (by omega), nF_49 p j (by omega), nF_47 p j (by omega), nF45 p j (by omega), nF6 p j (by omega), nF_4 p j (by omega), nF_2 p j (by omega)]), by rw [hq_4]; omega, by rw [hq_4]; omega, by
                      rw [hq_4]
                      by_cases h8 : 8 < ezp_ln c q
                      · have := hkd.1 h8
                        omega
                      · have h2 := hkd.2 h8
                        have h3 : ezp_pl c q = ezp_L c q := if_neg h8
                        rw [h3] at ix_51
                        by_cases h44 : 0 ≤ ezp_ix (ezp_L c q) ∧ ezp_ix (ezp_L c q) < 44
                        · have := h2.1 h44
                          omega
                        · have := h2.2 h44
                          omega, fun z => by
                      rw [hq_4] at z
                      exact absurd z (ezp_kdL_ne hle), fun z => by
                      rw [hq_4] at z ⊢
                      by_cases h8 : 8 < ezp_ln c q
                      · have := hkd.1 h8
                        omega
                      · have h3 : ezp_pl c q = ezp_L c q := if_neg h8
                        rw [h3] at pa_49 ix_51
                        exact ⟨by omega, by omega⟩, by omega, rfl⟩
            · refine ezw_iload_n rfl rfl ?_
              refine ezw_bipush (44) rfl rfl ?_
              refine ezw_icmp_ge rfl rfl hu52 ⟨by decide, by decide⟩ (fun h169_57 => ?_) (fun h169_57 => ?_)
              · refine ezw_bipush (100) rfl rfl ?_
                refine ezy_put_i hS rfl rfl rfl rfl rfl ⟨by decide, by decide⟩ (fun F58 hS mF58 nF58 => ?_)
                refine ezw_aload_n rfl rfl ?_
                refine ezw_iload_n rfl rfl ?_
                refine ezw_bipush (8) rfl rfl ?_
                refine ezw_icmp_le rfl rfl hy48 ⟨by decide, by decide⟩ (fun h185_58 => ?_) (fun h185_58 => ?_)
                · refine ezw_aload_n rfl rfl ?_
                  refine ezy_get_i hS rfl rfl rfl rfl rfl rfl (fun u59 hu59 ku59 eu59 => ?_)
                  rw [mF58] at eu59
                  replace eu59 := eu59.symm
                  subst eu59
                  refine ezy_put_i hS rfl rfl rfl rfl rfl ⟨by decide, by decide⟩ (fun F60 hS mF60 nF60 => ?_)
                  refine ezw_goto rfl rfl ?_
                  have w1_8 : F60 1 8 = (F_4 1 9) := by rw [nF60 1 8 (by decide), nF58 1 8 (by decide), nF53 1 8 (by decide), nF_49 1 8 (by decide), nF_47 1 8 (by decide), nF45 1 8 (by decide), mF6]
                  have w1_9 : F60 1 9 = (F_49 1 9) := by rw [nF60 1 9 (by decide), nF58 1 9 (by decide), nF53 1 9 (by decide)]
                  have w1_3 : F60 1 3 = (100) := by rw [mF60]
                  have w1_4 : F60 1 4 = (F 1 4) := by rw [nF60 1 4 (by decide), nF58 1 4 (by decide), nF53 1 4 (by decide), nF_49 1 4 (by decide), nF_47 1 4 (by decide), nF45 1 4 (by decide), nF6 1 4 (by decide), nF_4 1 4 (by decide), nF_2 1 4 (by decide)]
                  have w1_7 : F60 1 7 = (F_49 1 7) := by rw [nF60 1 7 (by decide), nF58 1 7 (by decide), nF53 1 7 (by decide)]
                  have w1_5 : F60 1 5 = u52 - 44 := by rw [nF60 1 5 (by decide), nF58 1 5 (by decide), mF53]
                  exact ezw_return rfl rfl ⟨F60, rfl, hS, (fun p j h => by rw [nF60 p j (by omega), nF58 p j (by omega), nF53 p j (by omega), nF_49 p j (by omega), nF_47 p j (by omega), nF45 p j (by omega), nF6 p j (by omega), nF_4 p j (by omega), nF_2 p j (by omega)]), by rw [hq_4]; omega, by rw [hq_4]; omega, by
                        rw [hq_4]
                        by_cases h8 : 8 < ezp_ln c q
                        · have := hkd.1 h8
                          omega
                        · have h2 := hkd.2 h8
                          have h3 : ezp_pl c q = ezp_L c q := if_neg h8
                          rw [h3] at ix_51
                          by_cases h44 : 0 ≤ ezp_ix (ezp_L c q) ∧ ezp_ix (ezp_L c q) < 44
                          · have := h2.1 h44
                            omega
                          · have := h2.2 h44
                            omega, fun z => by
                        rw [hq_4] at z
                        exact absurd z (ezp_kdL_ne hle), fun z => by
                        rw [hq_4] at z ⊢
                        by_cases h8 : 8 < ezp_ln c q
                        · have := hkd.1 h8
                          omega
                        · have h3 : ezp_pl c q = ezp_L c q := if_neg h8
                          rw [h3] at pa_49 ix_51
                          exact ⟨by omega, by omega⟩, by omega, rfl⟩
                · refine ezw_bipush (103) rfl rfl ?_
                  refine ezw_goto rfl rfl ?_
                  refine ezy_put_i hS rfl rfl rfl rfl rfl ⟨by decide, by decide⟩ (fun F61 hS mF61 nF61 => ?_)
                  refine ezw_goto rfl rfl ?_
                  have w1_8 : F61 1 8 = (F_4 1 9) := by rw [nF61 1 8 (by decide), nF58 1 8 (by decide), nF53 1 8 (by decide), nF_49 1 8 (by decide), nF_47 1 8 (by decide), nF45 1 8 (by decide), mF6]
                  have w1_9 : F61 1 9 = (F_49 1 9) := by rw [nF61 1 9 (by decide), nF58 1 9 (by decide), nF53 1 9 (by decide)]
                  have w1_3 : F61 1 3 = (103) := by rw [mF61]
                  have w1_4 : F61 1 4 = (F 1 4) := by rw [nF61 1 4 (by decide), nF58 1 4 (by decide), nF53 1 4 (by decide), nF_49 1 4 (by decide), nF_47 1 4 (by decide), nF45 1 4 (by decide), nF6 1 4 (by decide), nF_4 1 4 (by decide), nF_2 1 4 (by decide)]
                  have w1_7 : F61 1 7 = (F_49 1 7) := by rw [nF61 1 7 (by decide), nF58 1 7 (by decide), nF53 1 7 (by decide)]
                  have w1_5 : F61 1 5 = u52 - 44 := by rw [nF61 1 5 (by decide), nF58 1 5 (by decide), mF53]
                  exact ezw_return rfl rfl ⟨F61, rfl, hS, (fun p j h => by rw [nF61 p j (by omega), nF58 p j (by omega), nF53 p j (by omega), nF_49 p j (by omega), nF_47 p j (by omega), nF45 p j (by omega), nF6 p j (by omega), nF_4 p j (by omega), nF_2 p j (by omega)]), by rw [hq_4]; omega, by rw [hq_4]; omega, by
                        rw [hq_4]
                        by_cases h8 : 8 < ezp_ln c q
                        · have := hkd.1 h8
                          omega
                        · have h2 := hkd.2 h8
                          have h3 : ezp_pl c q = ezp_L c q := if_neg h8
                          rw [h3] at ix_51
                          by_cases h44 : 0 ≤ ezp_ix (ezp_L c q) ∧ ezp_ix (ezp_L c q) < 44
                          · have := h2.1 h44
                            omega
                          · have := h2.2 h44
                            omega, fun z => by
                        rw [hq_4] at z
                        exact absurd z (ezp_kdL_ne hle), fun z => by
                        rw [hq_4] at z ⊢
                        by_cases h8 : 8 < ezp_ln c q
                        · have := hkd.1 h8
                          omega
                        · have h3 : ezp_pl c q = ezp_L c q := if_neg h8
                          rw [h3] at pa_49 ix_51
                          exact ⟨by omega, by omega⟩, by omega, rfl⟩
              · refine ezw_iload_n rfl rfl ?_
                refine ezw_goto rfl rfl ?_
                refine ezy_put_i hS rfl rfl rfl rfl rfl hu52 (fun F62 hS mF62 nF62 => ?_)
                refine ezw_aload_n rfl rfl ?_
                refine ezw_iload_n rfl rfl ?_
                refine ezw_bipush (8) rfl rfl ?_
                refine ezw_icmp_le rfl rfl hy48 ⟨by decide, by decide⟩ (fun h185_62 => ?_) (fun h185_62 => ?_)
                · refine ezw_aload_n rfl rfl ?_
                  refine ezy_get_i hS rfl rfl rfl rfl rfl rfl (fun u63 hu63 ku63 eu63 => ?_)
                  rw [mF62] at eu63
                  replace eu63 := eu63.symm
                  subst eu63
                  refine ezy_put_i hS rfl rfl rfl rfl rfl hu63 (fun F64 hS mF64 nF64 => ?_)
                  refine ezw_goto rfl rfl ?_
                  have w1_8 : F64 1 8 = (F_4 1 9) := by rw [nF64 1 8 (by decide), nF62 1 8 (by decide), nF53 1 8 (by decide), nF_49 1 8 (by decide), nF_47 1 8 (by decide), nF45 1 8 (by decide), mF6]
                  have w1_9 : F64 1 9 = (F_49 1 9) := by rw [nF64 1 9 (by decide), nF62 1 9 (by decide), nF53 1 9 (by decide)]
                  have w1_3 : F64 1 3 = u52 := by rw [mF64]
                  have w1_4 : F64 1 4 = (F 1 4) := by rw [nF64 1 4 (by decide), nF62 1 4 (by decide), nF53 1 4 (by decide), nF_49 1 4 (by decide), nF_47 1 4 (by decide), nF45 1 4 (by decide), nF6 1 4 (by decide), nF_4 1 4 (by decide), nF_2 1 4 (by decide)]
                  have w1_7 : F64 1 7 = (F_49 1 7) := by rw [nF64 1 7 (by decide), nF62 1 7 (by decide), nF53 1 7 (by decide)]
                  have w1_5 : F64 1 5 = u52 - 44 := by rw [nF64 1 5 (by decide), nF62 1 5 (by decide), mF53]
                  exact ezw_return rfl rfl ⟨F64, rfl, hS, (fun p j h => by rw [nF64 p j (by omega), nF62 p j (by omega), nF53 p j (by omega), nF_49 p j (by omega), nF_47 p j (by omega), nF45 p j (by omega), nF6 p j (by omega), nF_4 p j (by omega), nF_2 p j (by omega)]), by rw [hq_4]; omega, by rw [hq_4]; omega, by
                        rw [hq_4]
                        by_cases h8 : 8 < ezp_ln c q
                        · have := hkd.1 h8
                          omega
                        · have h2 := hkd.2 h8
                          have h3 : ezp_pl c q = ezp_L c q := if_neg h8
                          rw [h3] at ix_51
                          by_cases h44 : 0 ≤ ezp_ix (ezp_L c q) ∧ ezp_ix (ezp_L c q) < 44
                          · have := h2.1 h44
                            omega
                          · have := h2.2 h44
                            omega, fun z => by
                        rw [hq_4] at z
                        exact absurd z (ezp_kdL_ne hle), fun z => by
                        rw [hq_4] at z ⊢
                        by_cases h8 : 8 < ezp_ln c q
                        · have := hkd.1 h8
                          omega
                        · have h3 : ezp_pl c q = ezp_L c q := if_neg h8
                          rw [h3] at pa_49 ix_51
                          exact ⟨by omega, by omega⟩, by omega, rfl⟩
                · refine ezw_bipush (103) rfl rfl ?_
                  refine ezw_goto rfl rfl ?_
                  refine ezy_put_i hS rfl rfl rfl rfl rfl ⟨by decide, by decide⟩ (fun F65 hS mF65 nF65 => ?_)
                  refine ezw_goto rfl rfl ?_
                  have w1_8 : F65 1 8 = (F_4 1 9) := by rw [nF65 1 8 (by decide), nF62 1 8 (by decide), nF53 1 8 (by decide), nF_49 1 8 (by decide), nF_47 1 8 (by decide), nF45 1 8 (by decide), mF6]
                  have w1_9 : F65 1 9 = (F_49 1 9) := by rw [nF65 1 9 (by decide), nF62 1 9 (by decide), nF53 1 9 (by decide)]
                  have w1_3 : F65 1 3 = (103) := by rw [mF65]
                  have w1_4 : F65 1 4 = (F 1 4) := by rw [nF65 1 4 (by decide), nF62 1 4 (by decide), nF53 1 4 (by decide), nF_49 1 4 (by decide), nF_47 1 4 (by decide), nF45 1 4 (by decide), nF6 1 4 (by decide), nF_4 1 4 (by decide), nF_2 1 4 (by decide)]
                  have w1_7 : F65 1 7 = (F_49 1 7) := by rw [nF65 1 7 (by decide), nF62 1 7 (by decide), nF53 1 7 (by decide)]
                  have w1_5 : F65 1 5 = u52 - 44 := by rw [nF65 1 5 (by decide), nF62 1 5 (by decide), mF53]
                  exact ezw_return rfl rfl ⟨F65, rfl, hS, (fun p j h => by rw [nF65 p j (by omega), nF62 p j (by omega), nF53 p j (by omega), nF_49 p j (by omega), nF_47 p j (by omega), nF45 p j (by omega), nF6 p j (by omega), nF_4 p j (by omega), nF_2 p j (by omega)]), by rw [hq_4]; omega, by rw [hq_4]; omega, by
                        rw [hq_4]
                        by_cases h8 : 8 < ezp_ln c q
                        · have := hkd.1 h8
                          omega
                        · have h2 := hkd.2 h8
                          have h3 : ezp_pl c q = ezp_L c q := if_neg h8
                          rw [h3] at ix_51
                          by_cases h44 : 0 ≤ ezp_ix (ezp_L c q) ∧ ezp_ix (ezp_L c q) < 44
                          · have := h2.1 h44
                            omega
                          · have := h2.2 h44
                            omega, fun z => by
                        rw [hq_4] at z
                        exact absurd z (ezp_kdL_ne hle), fun z => by
                        rw [hq_4] at z ⊢
                        by_cases h8 : 8 < ezp_ln c q
                        · have := hkd.1 h8
                          omega
                        · have h3 : ezp_pl c q = ezp_L c q := if_neg h8
                          rw [h3] at pa_49 ix_51
                          exact ⟨by omega, by omega⟩, by omega, rfl⟩
          refine ezw_icmp_ge rfl rfl hc46 ⟨by decide, by decide⟩ (fun h74_47 => ?_) (fun h74_47 => ?_)
          · exact ezw_keepE [true, true, true, false] (J144_49 c46 hc46 F_47 hS (fun _ _ _ => rfl) (ezp_nxL hle (by omega) (by omega) le_47 (by rw [ezp_at_n tp (by omega)]; rfl)).symm (by omega) (by
                  have h9 := ezp_lnE (ezp_nxL hle (by omega) (by omega) le_47 (by rw [ezp_at_n tp (by omega)]; rfl))
                  unfold ezp_pl ezp_L
                  by_cases h8 : 8 < ezp_ln c q
                  · rw [if_pos h8]
                    exact wz_47 (by omega)
                  · rw [if_neg h8, h9, show (F_47 1 9 - q).toNat = (c46).toNat by omega]
                    exact wd_47 (by omega)))
          · refine ezw_aload_n rfl rfl ?_
            refine ezw_aload_n rfl rfl ?_
            refine ezy_get_i hS rfl rfl rfl rfl rfl rfl (fun u66 hu66 ku66 eu66 => ?_)
            replace eu66 := eu66.symm
            subst eu66
            refine ezw_call0_1 rfl (by omega) (ezu_at rfl) rfl rfl rfl rfl (ezt_m31_1 hS (by omega) hu66 (by rw [nF_47 1 2 (by decide), nF45 1 2 (by decide), nF6 1 2 (by decide), nF_4 1 2 (by decide), nF_2 1 2 (by decide)]; exact hn) hc tp) ?_
            rintro _ _ ⟨rfl, u68, hu68, ch_67, rfl⟩
            refine ezw_call2_1 rfl (by omega) rfl rfl (ezt_m33 hS (by omega) hu68) ?_
            rintro _ _ ⟨rfl, u70, hu70, p69_0, p69_1, rfl⟩
            refine ezw_if_eq rfl rfl ⟨by omega, by omega⟩ (fun h88_70 => ?_) (fun h88_70 => ?_)
            · exact ezw_keepE [true, true, true, false] (J144_49 c46 hc46 F_47 hS (fun _ _ _ => rfl) (ezp_nxL hle (by omega) (by omega) le_47 (by rw [← ch_67]; exact ezp_leF (by omega))).symm (by omega) (by
                    have h9 := ezp_lnE (ezp_nxL hle (by omega) (by omega) le_47 (by rw [← ch_67]; exact ezp_leF (by omega)))
                    unfold ezp_pl ezp_L
                    by_cases h8 : 8 < ezp_ln c q
                    · rw [if_pos h8]
                      exact wz_47 (by omega)
                    · rw [if_neg h8, h9, show (F_47 1 9 - q).toNat = (c46).toNat by omega]
                      exact wd_47 (by omega)))
            · have hlt := (ezp_at_i tp (q := F_47 1 9) (by omega) (by omega)).1
              refine ezw_aload_n rfl rfl ?_
              refine ezw_iload_n rfl rfl ?_
              refine ezw_bipush (8) rfl rfl ?_
              refine ezw_icmp_ge rfl rfl hc46 ⟨by decide, by decide⟩ (fun h95_70 => ?_) (fun h95_70 => ?_)
              · have hp7 := ezp_p32_p (c46 + 1)
                refine ezw_lconst (0) rfl rfl ?_
                refine ezy_put_l hS rfl rfl rfl rfl rfl ⟨by decide, by decide⟩ (fun F71 hS mF71 nF71 => ?_)
                refine ezw_aload_n rfl rfl ?_
                refine ezw_dup rfl rfl ?_
                refine ezy_get_i hS rfl rfl rfl rfl rfl rfl (fun u72 hu72 ku72 eu72 => ?_)
                rw [nF71 1 9 (by decide)] at eu72
                replace eu72 := eu72.symm
                subst eu72
                refine ezw_iconst (1) rfl rfl ?_
                refine ezw_iadd (k := (F_47 1 9) + 1) rfl (by omega) ?_
                refine ezy_put_i hS rfl rfl rfl rfl rfl ⟨by omega, by omega⟩ (fun F73 hS mF73 nF73 => ?_)
                refine ezw_iinc (k := c46 + 1) (1) rfl rfl rfl (by omega) rfl ?_
                refine ezw_goto rfl rfl ?_
                have w1_9 : F73 1 9 = (F_47 1 9) + 1 := by rw [mF73]
                have w1_7 : F73 1 7 = (0) := by rw [nF73 1 7 (by decide), mF71]
                exact ezw_keepE [true, true, true, false] (ihc46 (c46 + 1) (by omega) ⟨by omega, by omega⟩ F73 hS (fun p j h => by rw [nF73 p j (by omega), nF71 p j (by omega), nF_47 p j (by omega)]) (by omega) (by omega) (fun j j0 j1 => by
                      by_cases hj : j = (F_47 1 9)
                      · rw [hj, ← ch_67]
                        exact ezp_leT (by omega)
                      · exact le_47 j j0 (by omega)) (fun h8 => by
                      rw [ezp_lt_s (by omega), ← wd_47 (by omega), show q + c46 = (F_47 1 9) by omega, ← ch_67]
                      omega) (by omega) (by omega))
              · have hp8 := ezp_p32_s (k := c46) (by omega)
                have hp9 := ezp_p32_le (k := c46) (by omega)
                have hwd := wd_47 (by omega)
                refine ezw_aload_n rfl rfl ?_
                refine ezy_get_l hS rfl rfl rfl rfl rfl (fun u74 hu74 eu74 => ?_)
                replace eu74 := eu74.symm
                subst eu74
                refine ezw_ldc2_w (32) rfl rfl ?_
                refine ezw_lmul (k := 32 * (F_47 1 7)) rfl (by omega) ?_
                refine ezw_aload_n rfl rfl ?_
                refine ezw_aload_n rfl rfl ?_
                refine ezy_get_i hS rfl rfl rfl rfl rfl rfl (fun u75 hu75 ku75 eu75 => ?_)
                replace eu75 := eu75.symm
                subst eu75
                refine ezw_call0_1 rfl (by omega) (ezu_at rfl) rfl rfl rfl rfl (ezt_m31_1 hS (by omega) hu75 (by rw [nF_47 1 2 (by decide), nF45 1 2 (by decide), nF6 1 2 (by decide), nF_4 1 2 (by decide), nF_2 1 2 (by decide)]; exact hn) hc tp) ?_
                rintro _ _ ⟨rfl, u77, hu77, ch_76, rfl⟩
                refine ezw_bipush (97) rfl rfl ?_
                refine ezw_isub (k := u77 - 97) rfl (by omega) ?_
                refine ezw_iconst (1) rfl rfl ?_
                refine ezw_iadd (k := u77 - 96) rfl (by omega) ?_
                refine ezw_i2l rfl ⟨by omega, by omega⟩ rfl ?_
                refine ezw_ladd (k := 32 * (F_47 1 7) + u77 - 96) rfl (by omega) ?_
                refine ezw_goto rfl rfl ?_
                refine ezy_put_l hS rfl rfl rfl rfl rfl ⟨by omega, by omega⟩ (fun F78 hS mF78 nF78 => ?_)
                refine ezw_aload_n rfl rfl ?_
                refine ezw_dup rfl rfl ?_
                refine ezy_get_i hS rfl rfl rfl rfl rfl rfl (fun u79 hu79 ku79 eu79 => ?_)
                rw [nF78 1 9 (by decide)] at eu79
                replace eu79 := eu79.symm
                subst eu79
                refine ezw_iconst (1) rfl rfl ?_
                refine ezw_iadd (k := (F_47 1 9) + 1) rfl (by omega) ?_
                refine ezy_put_i hS rfl rfl rfl rfl rfl ⟨by omega, by omega⟩ (fun F80 hS mF80 nF80 => ?_)
                refine ezw_iinc (k := c46 + 1) (1) rfl rfl rfl (by omega) rfl ?_
                refine ezw_goto rfl rfl ?_
                have w1_9 : F80 1 9 = (F_47 1 9) + 1 := by rw [mF80]
                have w1_7 : F80 1 7 = 32 * (F_47 1 7) + u77 - 96 := by rw [nF80 1 7 (by decide), mF78]
                exact ezw_keepE [true, true, true, false] (ihc46 (c46 + 1) (by omega) ⟨by omega, by omega⟩ F80 hS (fun p j h => by rw [nF80 p j (by omega), nF78 p j (by omega), nF_47 p j (by omega)]) (by omega) (by omega) (fun j j0 j1 => by
                      by_cases hj : j = (F_47 1 9)
                      · rw [hj, ← ch_67]
                        exact ezp_leT (by omega)
                      · exact le_47 j j0 (by omega)) (fun h8 => by
                      rw [ezp_lt_s (by omega), ← wd_47 (by omega), show q + c46 = (F_47 1 9) by omega, ← ch_76]
                      omega) (by omega) (by omega))
        have w1_9 : F45 1 9 = (F_4 1 9) := by rw [nF45 1 9 (by decide), nF6 1 9 (by decide)]
        have w1_7 : F45 1 7 = (0) := by rw [mF45]
        exact ezw_keepE [true, true, true, false] (L70_47 (0) ⟨by decide, by decide⟩ F45 hS (fun _ _ _ => rfl) (by omega) (by omega) (fun j j0 j1 => by omega) (fun _ => by rw [w1_7]; rfl) (by omega) (by rw [ezp_p32_0]; omega))
    refine ezw_icmp_ge rfl rfl hc1 ⟨by decide, by decide⟩ (fun h6_2 => ?_) (fun h6_2 => ?_)
    · exact ezw_keepE [true, true, false, false] (J39_4 c1 hc1 F_2 hS (fun _ _ _ => rfl) (ezp_run_uq 2000 (by omega) (by omega) bl_2 (by rw [ezp_at_n tp (by omega)]; rfl)) (by omega))
    · refine ezw_aload_n rfl rfl ?_
      refine ezw_aload_n rfl rfl ?_
      refine ezy_get_i hS rfl rfl rfl rfl rfl rfl (fun u81 hu81 ku81 eu81 => ?_)
      replace eu81 := eu81.symm
      subst eu81
      refine ezw_call0_1 rfl (by omega) (ezu_at rfl) rfl rfl rfl rfl (ezt_m31_1 hS (by omega) hu81 (by rw [nF_2 1 2 (by decide)]; exact hn) hc tp) ?_
      rintro _ _ ⟨rfl, u83, hu83, ch_82, rfl⟩
      refine ezw_call2_1 rfl (by omega) rfl rfl (ezt_m32 hS (by omega) hu83) ?_
      rintro _ _ ⟨rfl, u85, hu85, p84_0, p84_1, rfl⟩
      refine ezw_if_eq rfl rfl ⟨by omega, by omega⟩ (fun h20_85 => ?_) (fun h20_85 => ?_)
      · exact ezw_keepE [true, true, false, false] (J39_4 c1 hc1 F_2 hS (fun _ _ _ => rfl) (ezp_run_uq 2000 (by omega) (by omega) bl_2 (by rw [← ch_82]; exact ezp_blF (by omega))) (by omega))
      · have hlt := (ezp_at_i tp (q := F_2 1 9) (by omega) (by omega)).1
        refine ezw_aload_n rfl rfl ?_
        refine ezw_dup rfl rfl ?_
        refine ezy_get_i hS rfl rfl rfl rfl rfl rfl (fun u86 hu86 ku86 eu86 => ?_)
        replace eu86 := eu86.symm
        subst eu86
        refine ezw_iconst (1) rfl rfl ?_
        refine ezw_iadd (k := (F_2 1 9) + 1) rfl (by omega) ?_
        refine ezy_put_i hS rfl rfl rfl rfl rfl ⟨by omega, by omega⟩ (fun F87 hS mF87 nF87 => ?_)
        refine ezw_iinc (k := c1 + 1) (1) rfl rfl rfl (by omega) rfl ?_
        refine ezw_goto rfl rfl ?_
        have w1_9 : F87 1 9 = (F_2 1 9) + 1 := by rw [mF87]
        exact ezw_keepE [true, true, false, false] (ihc1 (c1 + 1) (by omega) ⟨by omega, by omega⟩ F87 hS (fun p j h => by rw [nF87 p j (by omega), nF_2 p j (by omega)]) (by omega) (by omega) (fun j j0 j1 => by
              by_cases hj : j = (F_2 1 9)
              · rw [hj, ← ch_82]
                exact ezp_blT (by omega)
              · exact bl_2 j j0 (by omega)))
  exact ezw_keepE [true, true, false, false] (L2_2 (0) ⟨by decide, by decide⟩ F hS (fun _ _ _ => rfl) (by omega) (by omega) (fun j j0 j1 => by omega))
end KT
