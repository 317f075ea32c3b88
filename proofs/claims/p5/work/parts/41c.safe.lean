/-! ===== the program, roughly: tokens ===== -/
section KM
variable {l : Launch} {ρ : ezq_E} {B : Nat} {xa : Nat → Option Nat} {Hb : Heap} {D : va_G} {cA : Nat → ClassId} {d : Nat} {e : Bool × Bool} {fz : Nat → Bool} {F0 : Nat → Nat → Int} {A0 : Nat → Int → Int}
theorem ezs_m32 {a0 : Int} {F : Nat → Nat → Int} {A : Nat → Int → Int} (hI : ezs_I fz F0 A0 F A) (hd : 0 ≤ d) (ha0 : ezw_in a0) : ezw_C l ρ B xa Hb D cA 32 d [ezw_i a0] (ezu_g e F A) (ezs_Pp e F A ezs_rz) := by
  refine ezw_met (k := 0) rfl rfl ?_
  refine ezw_iload_n rfl rfl ?_
  refine ezw_bipush (10) rfl rfl ?_
  refine ezw_icmp_eq rfl rfl ha0 ⟨by decide, by decide⟩ (fun h3_0 => ?_) (fun h3_0 => ?_)
  · refine ezw_iconst (1) rfl rfl ?_
    refine ezw_goto rfl rfl ?_
    exact ezw_ireturn rfl (ezw_zret ⟨by omega, by omega⟩) ⟨rfl, _, ⟨by omega, by omega⟩, rfl⟩
  · refine ezw_iload_n rfl rfl ?_
    refine ezw_bipush (32) rfl rfl ?_
    refine ezw_icmp_ne rfl rfl ha0 ⟨by decide, by decide⟩ (fun h9_0 => ?_) (fun h9_0 => ?_)
    · refine ezw_iconst (0) rfl rfl ?_
      exact ezw_ireturn rfl (ezw_zret ⟨by omega, by omega⟩) ⟨rfl, _, ⟨by omega, by omega⟩, rfl⟩
    · refine ezw_iconst (1) rfl rfl ?_
      refine ezw_goto rfl rfl ?_
      exact ezw_ireturn rfl (ezw_zret ⟨by omega, by omega⟩) ⟨rfl, _, ⟨by omega, by omega⟩, rfl⟩
theorem ezs_m33 {a0 : Int} {F : Nat → Nat → Int} {A : Nat → Int → Int} (hI : ezs_I fz F0 A0 F A) (hd : 0 ≤ d) (ha0 : ezw_in a0) : ezw_C l ρ B xa Hb D cA 33 d [ezw_i a0] (ezu_g e F A) (ezs_Pp e F A ezs_rz) := by
  refine ezw_met (k := 0) rfl rfl ?_
  refine ezw_iload_n rfl rfl ?_
  refine ezw_bipush (97) rfl rfl ?_
  refine ezw_icmp_lt rfl rfl ha0 ⟨by decide, by decide⟩ (fun h3_0 => ?_) (fun h3_0 => ?_)
  · refine ezw_iconst (0) rfl rfl ?_
    exact ezw_ireturn rfl (ezw_zret ⟨by omega, by omega⟩) ⟨rfl, _, ⟨by omega, by omega⟩, rfl⟩
  · refine ezw_iload_n rfl rfl ?_
    refine ezw_bipush (122) rfl rfl ?_
    refine ezw_icmp_gt rfl rfl ha0 ⟨by decide, by decide⟩ (fun h9_0 => ?_) (fun h9_0 => ?_)
    · refine ezw_iconst (0) rfl rfl ?_
      exact ezw_ireturn rfl (ezw_zret ⟨by omega, by omega⟩) ⟨rfl, _, ⟨by omega, by omega⟩, rfl⟩
    · refine ezw_iconst (1) rfl rfl ?_
      refine ezw_goto rfl rfl ?_
      exact ezw_ireturn rfl (ezw_zret ⟨by omega, by omega⟩) ⟨rfl, _, ⟨by omega, by omega⟩, rfl⟩
theorem ezs_m35 {a0 : Int} {F : Nat → Nat → Int} {A : Nat → Int → Int} (hI : ezs_I fz F0 A0 F A) (hd : 0 ≤ d) (ha0 : ezw_in a0) : ezw_C l ρ B xa Hb D cA 35 d [ezw_i a0] (ezu_g e F A) (ezs_Pp e F A (ezs_rdg a0)) := by
  refine ezw_met (k := 0) rfl rfl ?_
  refine ezw_iload_n rfl rfl ?_
  refine ezw_bipush (48) rfl rfl ?_
  refine ezw_icmp_lt rfl rfl ha0 ⟨by decide, by decide⟩ (fun h3_0 => ?_) (fun h3_0 => ?_)
  · refine ezw_iconst (0) rfl rfl ?_
    exact ezw_ireturn rfl (ezw_zret ⟨by omega, by omega⟩) ⟨rfl, _, by omega, rfl⟩
  · refine ezw_iload_n rfl rfl ?_
    refine ezw_bipush (57) rfl rfl ?_
    refine ezw_icmp_gt rfl rfl ha0 ⟨by decide, by decide⟩ (fun h9_0 => ?_) (fun h9_0 => ?_)
    · refine ezw_iconst (0) rfl rfl ?_
      exact ezw_ireturn rfl (ezw_zret ⟨by omega, by omega⟩) ⟨rfl, _, by omega, rfl⟩
    · refine ezw_iconst (1) rfl rfl ?_
      refine ezw_goto rfl rfl ?_
      exact ezw_ireturn rfl (ezw_zret ⟨by omega, by omega⟩) ⟨rfl, _, by omega, rfl⟩
theorem ezs_m31_1 {a1 : Int} {F : Nat → Nat → Int} {A : Nat → Int → Int} (hI : ezs_I fz F0 A0 F A) (hd : 0 ≤ d) (ha1 : ezw_in a1) : ezw_C l ρ B xa Hb D cA 31 d [ezw_p 1, ezw_i a1] (ezu_g e F A) (ezs_Pp e F A (ezs_rsg F A a1)) := by
  refine ezw_met (k := 0) rfl rfl ?_
  refine ezw_iload_n rfl rfl ?_
  refine ezw_if_lt rfl rfl ha1 (fun h1_0 => ?_) (fun h1_0 => ?_)
  · refine ezw_iconst (0) rfl rfl ?_
    exact ezw_ireturn rfl rfl ⟨rfl, _, ⟨⟨by decide, by decide⟩, by omega⟩, rfl⟩
  · refine ezw_iload_n rfl rfl ?_
    refine ezw_aload_n rfl rfl ?_
    refine ezw_getfield rfl (ezu_at rfl) rfl rfl rfl ?_
    refine ezw_icmp_ge rfl rfl ha1 (ezs_fk_in rfl ((hI.1 1 (by decide)).1 2)) (fun h9_0 => ?_) (fun h9_0 => ?_)
    · refine ezw_iconst (0) rfl rfl ?_
      exact ezw_ireturn rfl rfl ⟨rfl, _, ⟨⟨by decide, by decide⟩, by omega⟩, rfl⟩
    · refine ezw_iload_n rfl rfl ?_
      refine ezw_aload_n rfl rfl ?_
      refine ezs_getp (p := 2) rfl rfl rfl rfl rfl ?_
      refine ezs_alen (k := 1000) rfl rfl rfl rfl (by decide) (by decide) ?_
      refine ezw_icmp_ge rfl rfl ha1 ⟨by decide, by decide⟩ (fun h18_0 => ?_) (fun h18_0 => ?_)
      · refine ezw_iconst (0) rfl rfl ?_
        exact ezw_ireturn rfl rfl ⟨rfl, _, ⟨⟨by decide, by decide⟩, by omega⟩, rfl⟩
      · refine ezw_aload_n rfl rfl ?_
        refine ezs_getp (p := 2) rfl rfl rfl rfl rfl ?_
        refine ezw_iload_n rfl rfl ?_
        refine ezs_ialoadX hI rfl rfl rfl (by omega) (by omega) (by decide) (fun u1 hu1 eu1 => ?_)
        refine ezw_goto rfl rfl ?_
        exact ezw_ireturn rfl rfl ⟨rfl, _, ⟨hu1, by omega⟩, rfl⟩
theorem ezs_m30_1 {F : Nat → Nat → Int} {A : Nat → Int → Int} (hI : ezs_I fz F0 A0 F A) (hd : 4 ≤ d) (hzT : fz 1 = false) : ezw_C l ρ B xa Hb D cA 30 d [ezw_p 1] (ezu_g e F A) (ezs_P e fz F0 A0 ezs_rn) := by
  refine ezw_met (k := 3) rfl rfl ?_
  refine ezw_iconst (0) rfl rfl ?_
  refine ezw_istore_n rfl rfl ?_
  have L2_1 : ∀ c1 : Int, ezw_in c1 → (0) ≤ c1 → ∀ F A, ezs_I fz F0 A0 F A → ezw_E l ρ B xa Hb D cA d ezq_re30 (ezs_P e fz F0 A0 ezs_rn) 2 [some (ezw_p 1), some (ezw_i c1), none, none] [] (ezu_g e F A) := by
    refine ezs_up ?_
    intro c1 hc1 ihc1 gc1 F A hI
    refine ezw_iload_n rfl rfl ?_
    refine ezw_sipush (1000) rfl rfl ?_
    have J39_3 : ∀ y3 : Int, ezw_in y3 → ∀ F A, ezs_I fz F0 A0 F A → ezw_E l ρ B xa Hb D cA d ezq_re30 (ezs_P e fz F0 A0 ezs_rn) 39 [some (ezw_p 1), some (ezw_i y3), none, none] [] (ezu_g e F A) := by
      intro y3 hy3 F A hI
      refine ezw_aload_n rfl rfl ?_
      refine ezw_aload_n rfl rfl ?_
      refine ezs_get_i hI rfl rfl rfl rfl rfl rfl (fun u5 hu5 ku5 => ?_)
      refine ezs_put_i hI rfl rfl rfl rfl rfl hzT hu5 (fun F A hI => ?_)
      refine ezw_aload_n rfl rfl ?_
      refine ezw_aload_n rfl rfl ?_
      refine ezs_get_i hI rfl rfl rfl rfl rfl rfl (fun u6 hu6 ku6 => ?_)
      refine ezw_call0_1 rfl (by omega) (ezu_at rfl) rfl rfl rfl rfl (ezs_m31_1 hI (by omega) hu6) ?_
      rintro _ _ ⟨rfl, u7, hu7, rfl⟩
      refine ezw_istore_n rfl rfl ?_
      refine ezw_iconst (0) rfl rfl ?_
      refine ezw_istore_n rfl rfl ?_
      refine ezw_iload_n rfl rfl ?_
      refine ezw_call2_1 rfl (by omega) rfl rfl (ezs_m33 hI (by omega) hu7.1) ?_
      rintro _ _ ⟨rfl, u8, hu8, rfl⟩
      refine ezw_if_eq rfl rfl ⟨by omega, by omega⟩ (fun h62_8 => ?_) (fun h62_8 => ?_)
      · refine ezw_iload_n rfl rfl ?_
        refine ezw_call2_1 rfl (by omega) rfl rfl (ezs_m35 hI (by omega) hu7.1) ?_
        rintro _ _ ⟨rfl, u9, hu9, rfl⟩
        refine ezw_if_eq rfl rfl ⟨by omega, by omega⟩ (fun h207_9 => ?_) (fun h207_9 => ?_)
        · refine ezw_iload_n rfl rfl ?_
          refine ezw_if_ne rfl rfl hu7.1 (fun h304_9 => ?_) (fun h304_9 => ?_)
          · refine ezw_aload_n rfl rfl ?_
            refine ezw_ldcS rfl rfl ?_
            refine ezw_iload_n rfl rfl ?_
            refine ezw_i2cO rfl (fun u10 hu10 => ?_)
            refine ezw_call0x_1 rfl (by omega) rfl rfl rfl (ezs_m36_x4 hI (by omega) hu10) ?_
            rintro _ _ ⟨rfl, u11, hu11, rfl⟩
            have J337_12 : ∀ y12 : Int, ezw_in y12 → ∀ F A, ezs_I fz F0 A0 F A → ezw_E l ρ B xa Hb D cA d ezq_re30 (ezs_P e fz F0 A0 ezs_rn) 337 [some (ezw_p 1), some (ezw_i u7), some (ezw_i (0)), none] [(ezw_i y12), (ezw_p 1)] (ezu_g e F A) := by
              intro y12 hy12 F A hI
              refine ezs_put_i hI rfl rfl rfl rfl rfl hzT hy12 (fun F A hI => ?_)
              refine ezw_aload_n rfl rfl ?_
              refine ezw_dup rfl rfl ?_
              refine ezs_get_i hI rfl rfl rfl rfl rfl rfl (fun u14 hu14 ku14 => ?_)
              refine ezw_iconst (1) rfl rfl ?_
              refine ezs_iadd rfl (fun u15 hu15 => ?_)
              refine ezs_put_i hI rfl rfl rfl rfl rfl hzT hu15 (fun F A hI => ?_)
              exact ezw_return rfl rfl ⟨⟨F, A, rfl, hI⟩, rfl⟩
            refine ezw_if_lt rfl rfl hu11 (fun h324_11 => ?_) (fun h324_11 => ?_)
            · refine ezw_bipush (103) rfl rfl ?_
              exact ezw_keepE [true, true, true, false] (J337_12 (103) ⟨by decide, by decide⟩ F A hI)
            · refine ezw_sipush (200) rfl rfl ?_
              refine ezw_iload_n rfl rfl ?_
              refine ezs_iadd rfl (fun u16 hu16 => ?_)
              refine ezw_goto rfl rfl ?_
              exact ezw_keepE [true, true, true, false] (J337_12 u16 hu16 F A hI)
          · refine ezw_aload_n rfl rfl ?_
            refine ezw_bipush (102) rfl rfl ?_
            refine ezs_put_i hI rfl rfl rfl rfl rfl hzT ⟨by decide, by decide⟩ (fun F A hI => ?_)
            refine ezw_goto rfl rfl ?_
            exact ezw_return rfl rfl ⟨⟨F, A, rfl, hI⟩, rfl⟩
        · refine ezw_aload_n rfl rfl ?_
          refine ezw_iconst (0) rfl rfl ?_
          refine ezs_putX hI rfl rfl rfl rfl rfl hzT (show ezs_fk 1 4 _ from ⟨by omega, by omega⟩) (fun F hI m212 n212 => ?_)
          have L215_17 : ∀ c17 : Int, ezw_in c17 → (0) ≤ c17 → ∀ F A, ezs_I fz F0 A0 F A → ((c17 ≤ 0 → F 1 4 ≤ 0) ∧ (c17 ≤ 1 → F 1 4 ≤ 9) ∧ (c17 ≤ 2 → F 1 4 ≤ 99) ∧ (c17 ≤ 3 → F 1 4 ≤ 999)) → ezw_E l ρ B xa Hb D cA d ezq_re30 (ezs_P e fz F0 A0 ezs_rn) 215 [some (ezw_p 1), some (ezw_i u7), some (ezw_i c17), none] [] (ezu_g e F A) := by
            refine ezs_up ?_
            intro c17 hc17 ihc17 gc17 F A hI hinv
            refine ezw_iload_n rfl rfl ?_
            refine ezw_sipush (1000) rfl rfl ?_
            have J284_19 : ∀ y19 : Int, ezw_in y19 → ∀ F A, ezs_I fz F0 A0 F A → ezw_E l ρ B xa Hb D cA d ezq_re30 (ezs_P e fz F0 A0 ezs_rn) 284 [some (ezw_p 1), some (ezw_i u7), some (ezw_i y19), none] [] (ezu_g e F A) := by
              intro y19 hy19 F A hI
              refine ezw_aload_n rfl rfl ?_
              refine ezw_iload_n rfl rfl ?_
              refine ezw_iconst (4) rfl rfl ?_
              refine ezw_icmp_le rfl rfl hy19 ⟨by decide, by decide⟩ (fun h287_20 => ?_) (fun h287_20 => ?_)
              · refine ezw_bipush (101) rfl rfl ?_
                refine ezs_put_i hI rfl rfl rfl rfl rfl hzT ⟨by decide, by decide⟩ (fun F A hI => ?_)
                refine ezw_goto rfl rfl ?_
                exact ezw_return rfl rfl ⟨⟨F, A, rfl, hI⟩, rfl⟩
              · refine ezw_bipush (103) rfl rfl ?_
                refine ezw_goto rfl rfl ?_
                refine ezs_put_i hI rfl rfl rfl rfl rfl hzT ⟨by decide, by decide⟩ (fun F A hI => ?_)
                refine ezw_goto rfl rfl ?_
                exact ezw_return rfl rfl ⟨⟨F, A, rfl, hI⟩, rfl⟩
            refine ezw_icmp_ge rfl rfl hc17 ⟨by decide, by decide⟩ (fun h219_18 => ?_) (fun h219_18 => ?_)
            · exact ezw_keepE [true, true, true, false] (J284_19 c17 hc17 F A hI)
            · refine ezw_aload_n rfl rfl ?_
              refine ezw_aload_n rfl rfl ?_
              refine ezw_getfield rfl (ezu_at rfl) rfl rfl rfl ?_
              refine ezw_call0_1 rfl (by omega) (ezu_at rfl) rfl rfl rfl rfl (ezs_m31_1 hI (by omega) (ezs_fk_in rfl ((hI.1 1 (by decide)).1 9))) ?_
              rintro _ _ ⟨rfl, u21, hu21, rfl⟩
              refine ezw_call2_1 rfl (by omega) rfl rfl (ezs_m35 hI (by omega) hu21.1) ?_
              rintro _ _ ⟨rfl, u22, hu22, rfl⟩
              refine ezw_if_eq rfl rfl ⟨by omega, by omega⟩ (fun h233_22 => ?_) (fun h233_22 => ?_)
              · exact ezw_keepE [true, true, true, false] (J284_19 c17 hc17 F A hI)
              · refine ezw_aload_n rfl rfl ?_
                refine ezw_iload_n rfl rfl ?_
                refine ezw_iconst (4) rfl rfl ?_
                refine ezw_icmp_ge rfl rfl hc17 ⟨by decide, by decide⟩ (fun h239_22 => ?_) (fun h239_22 => ?_)
                · refine ezw_iconst (0) rfl rfl ?_
                  refine ezs_putX hI rfl rfl rfl rfl rfl hzT (show ezs_fk 1 4 _ from ⟨by omega, by omega⟩) (fun F hI m265 n265 => ?_)
                  refine ezw_aload_n rfl rfl ?_
                  refine ezw_dup rfl rfl ?_
                  refine ezs_get_i hI rfl rfl rfl rfl rfl rfl (fun u23 hu23 ku23 => ?_)
                  refine ezw_iconst (1) rfl rfl ?_
                  refine ezs_iadd rfl (fun u24 hu24 => ?_)
                  refine ezs_putX hI rfl rfl rfl rfl rfl hzT hu24 (fun F hI m275 n275 => ?_)
                  have g5 := n275 4 (by decide)
                  refine ezw_iinc (1) rfl rfl rfl rfl rfl ?_
                  refine ezw_goto rfl rfl ?_
                  exact ezw_keepE [true, true, true, false] (ihc17 (c17 + (1)) (by omega) ⟨by omega, by omega⟩ (by omega)  F A hI (by omega))
                · refine ezw_aload_n rfl rfl ?_
                  have g4 : 0 ≤ F 1 4 ∧ F 1 4 ≤ 9999 := (hI.1 1 (by decide)).1 4
                  refine ezw_getfield rfl (ezu_at rfl) rfl rfl rfl ?_
                  refine ezw_bipush (10) rfl rfl ?_
                  refine ezw_imul rfl rfl ?_
                  refine ezw_aload_n rfl rfl ?_
                  refine ezw_aload_n rfl rfl ?_
                  refine ezw_getfield rfl (ezu_at rfl) rfl rfl rfl ?_
                  refine ezw_call0_1 rfl (by omega) (ezu_at rfl) rfl rfl rfl rfl (ezs_m31_1 hI (by omega) (ezs_fk_in rfl ((hI.1 1 (by decide)).1 9))) ?_
                  rintro _ _ ⟨rfl, u25, hu25, rfl⟩
                  refine ezw_bipush (48) rfl rfl ?_
                  refine ezw_isub rfl rfl ?_
                  refine ezw_iadd rfl rfl ?_
                  refine ezw_goto rfl rfl ?_
                  refine ezs_putX hI rfl rfl rfl rfl rfl hzT (show ezs_fk 1 4 _ from ⟨by omega, by omega⟩) (fun F hI m265 n265 => ?_)
                  refine ezw_aload_n rfl rfl ?_
                  refine ezw_dup rfl rfl ?_
                  refine ezs_get_i hI rfl rfl rfl rfl rfl rfl (fun u26 hu26 ku26 => ?_)
                  refine ezw_iconst (1) rfl rfl ?_
                  refine ezs_iadd rfl (fun u27 hu27 => ?_)
                  refine ezs_putX hI rfl rfl rfl rfl rfl hzT hu27 (fun F hI m275 n275 => ?_)
                  have g5 := n275 4 (by decide)
                  refine ezw_iinc (1) rfl rfl rfl rfl rfl ?_
                  refine ezw_goto rfl rfl ?_
                  exact ezw_keepE [true, true, true, false] (ihc17 (c17 + (1)) (by omega) ⟨by omega, by omega⟩ (by omega)  F A hI (by omega))
          exact ezw_keepE [true, true, true, false] (L215_17 (0) ⟨by decide, by decide⟩ (by omega)  F A hI (by omega))
      · refine ezw_aload_n rfl rfl ?_
        refine ezw_lconst (0) rfl rfl ?_
        refine ezs_put_l hI rfl rfl rfl rfl rfl hzT ⟨by decide, by decide⟩ (fun F A hI => ?_)
        have L70_28 : ∀ c28 : Int, ezw_in c28 → (0) ≤ c28 → ∀ F A, ezs_I fz F0 A0 F A → ezw_E l ρ B xa Hb D cA d ezq_re30 (ezs_P e fz F0 A0 ezs_rn) 70 [some (ezw_p 1), some (ezw_i u7), some (ezw_i c28), none] [] (ezu_g e F A) := by
          refine ezs_up ?_
          intro c28 hc28 ihc28 gc28 F A hI
          refine ezw_iload_n rfl rfl ?_
          refine ezw_sipush (1000) rfl rfl ?_
          have J144_30 : ∀ y30 : Int, ezw_in y30 → ∀ F A, ezs_I fz F0 A0 F A → ezw_E l ρ B xa Hb D cA d ezq_re30 (ezs_P e fz F0 A0 ezs_rn) 144 [some (ezw_p 1), some (ezw_i u7), some (ezw_i y30), none] [] (ezu_g e F A) := by
            intro y30 hy30 F A hI
            refine ezw_aload_n rfl rfl ?_
            refine ezw_aload_n rfl rfl ?_
            refine ezs_get_l hI rfl rfl rfl rfl rfl (fun u32 hu32 => ?_)
            refine ezw_call0_1 rfl (by omega) (ezu_at rfl) rfl rfl rfl rfl (ezs_m34_1 hI (by omega) hu32) ?_
            rintro _ _ ⟨rfl, u33, hu33, rfl⟩
            refine ezw_istore_n rfl rfl ?_
            refine ezw_aload_n rfl rfl ?_
            refine ezw_iload_n rfl rfl ?_
            refine ezw_bipush (44) rfl rfl ?_
            refine ezs_isub rfl (fun u34 hu34 => ?_)
            refine ezs_put_i hI rfl rfl rfl rfl rfl hzT hu34 (fun F A hI => ?_)
            refine ezw_aload_n rfl rfl ?_
            refine ezw_iload_n rfl rfl ?_
            have J178_35 : ∀ y35 : Int, ezw_in y35 → ∀ F A, ezs_I fz F0 A0 F A → ezw_E l ρ B xa Hb D cA d ezq_re30 (ezs_P e fz F0 A0 ezs_rn) 178 [some (ezw_p 1), some (ezw_i u7), some (ezw_i y30), some (ezw_i u33)] [(ezw_i y35), (ezw_p 1)] (ezu_g e F A) := by
              intro y35 hy35 F A hI
              refine ezs_put_i hI rfl rfl rfl rfl rfl hzT hy35 (fun F A hI => ?_)
              refine ezw_aload_n rfl rfl ?_
              refine ezw_iload_n rfl rfl ?_
              refine ezw_bipush (8) rfl rfl ?_
              refine ezw_icmp_le rfl rfl hy30 ⟨by decide, by decide⟩ (fun h185_36 => ?_) (fun h185_36 => ?_)
              · refine ezw_aload_n rfl rfl ?_
                refine ezs_get_i hI rfl rfl rfl rfl rfl rfl (fun u37 hu37 ku37 => ?_)
                refine ezs_put_i hI rfl rfl rfl rfl rfl hzT hu37 (fun F A hI => ?_)
                refine ezw_goto rfl rfl ?_
                exact ezw_return rfl rfl ⟨⟨F, A, rfl, hI⟩, rfl⟩
              · refine ezw_bipush (103) rfl rfl ?_
                refine ezw_goto rfl rfl ?_
                refine ezs_put_i hI rfl rfl rfl rfl rfl hzT ⟨by decide, by decide⟩ (fun F A hI => ?_)
                refine ezw_goto rfl rfl ?_
                exact ezw_return rfl rfl ⟨⟨F, A, rfl, hI⟩, rfl⟩
            refine ezw_if_lt rfl rfl hu33 (fun h163_34 => ?_) (fun h163_34 => ?_)
            · refine ezw_bipush (100) rfl rfl ?_
              exact ezw_keepE [true, true, true, true] (J178_35 (100) ⟨by decide, by decide⟩ F A hI)
            · refine ezw_iload_n rfl rfl ?_
              refine ezw_bipush (44) rfl rfl ?_
              refine ezw_icmp_ge rfl rfl hu33 ⟨by decide, by decide⟩ (fun h169_37 => ?_) (fun h169_37 => ?_)
              · refine ezw_bipush (100) rfl rfl ?_
                exact ezw_keepE [true, true, true, true] (J178_35 (100) ⟨by decide, by decide⟩ F A hI)
              · refine ezw_iload_n rfl rfl ?_
                refine ezw_goto rfl rfl ?_
                exact ezw_keepE [true, true, true, true] (J178_35 u33 hu33 F A hI)
          refine ezw_icmp_ge rfl rfl hc28 ⟨by decide, by decide⟩ (fun h74_29 => ?_) (fun h74_29 => ?_)
          · exact ezw_keepE [true, true, true, false] (J144_30 c28 hc28 F A hI)
          · refine ezw_aload_n rfl rfl ?_
            refine ezw_aload_n rfl rfl ?_
            refine ezs_get_i hI rfl rfl rfl rfl rfl rfl (fun u38 hu38 ku38 => ?_)
            refine ezw_call0_1 rfl (by omega) (ezu_at rfl) rfl rfl rfl rfl (ezs_m31_1 hI (by omega) hu38) ?_
            rintro _ _ ⟨rfl, u39, hu39, rfl⟩
            refine ezw_call2_1 rfl (by omega) rfl rfl (ezs_m33 hI (by omega) hu39.1) ?_
            rintro _ _ ⟨rfl, u40, hu40, rfl⟩
            refine ezw_if_eq rfl rfl ⟨by omega, by omega⟩ (fun h88_40 => ?_) (fun h88_40 => ?_)
            · exact ezw_keepE [true, true, true, false] (J144_30 c28 hc28 F A hI)
            · refine ezw_aload_n rfl rfl ?_
              refine ezw_iload_n rfl rfl ?_
              refine ezw_bipush (8) rfl rfl ?_
              have J125_41 : ∀ y41 : Int, ezw_il y41 → ∀ F A, ezs_I fz F0 A0 F A → ezw_E l ρ B xa Hb D cA d ezq_re30 (ezs_P e fz F0 A0 ezs_rn) 125 [some (ezw_p 1), some (ezw_i u7), some (ezw_i c28), none] [(ezw_l y41), (ezw_p 1)] (ezu_g e F A) := by
                intro y41 hy41 F A hI
                refine ezs_put_l hI rfl rfl rfl rfl rfl hzT hy41 (fun F A hI => ?_)
                refine ezw_aload_n rfl rfl ?_
                refine ezw_dup rfl rfl ?_
                refine ezs_get_i hI rfl rfl rfl rfl rfl rfl (fun u43 hu43 ku43 => ?_)
                refine ezw_iconst (1) rfl rfl ?_
                refine ezs_iadd rfl (fun u44 hu44 => ?_)
                refine ezs_put_i hI rfl rfl rfl rfl rfl hzT hu44 (fun F A hI => ?_)
                refine ezw_iinc (1) rfl rfl rfl rfl rfl ?_
                refine ezw_goto rfl rfl ?_
                exact ezw_keepE [true, true, true, false] (ihc28 (c28 + (1)) (by omega) ⟨by omega, by omega⟩ (by omega)  F A hI)
              refine ezw_icmp_ge rfl rfl hc28 ⟨by decide, by decide⟩ (fun h95_40 => ?_) (fun h95_40 => ?_)
              · refine ezw_lconst (0) rfl rfl ?_
                exact ezw_keepE [true, true, true, false] (J125_41 (0) ⟨by decide, by decide⟩ F A hI)
              · refine ezw_aload_n rfl rfl ?_
                refine ezs_get_l hI rfl rfl rfl rfl rfl (fun u45 hu45 => ?_)
                refine ezw_ldc2_w (32) rfl rfl ?_
                refine ezs_lmul rfl (fun u46 hu46 => ?_)
                refine ezw_aload_n rfl rfl ?_
                refine ezw_aload_n rfl rfl ?_
                refine ezs_get_i hI rfl rfl rfl rfl rfl rfl (fun u47 hu47 ku47 => ?_)
                refine ezw_call0_1 rfl (by omega) (ezu_at rfl) rfl rfl rfl rfl (ezs_m31_1 hI (by omega) hu47) ?_
                rintro _ _ ⟨rfl, u48, hu48, rfl⟩
                refine ezw_bipush (97) rfl rfl ?_
                refine ezs_isub rfl (fun u49 hu49 => ?_)
                refine ezw_iconst (1) rfl rfl ?_
                refine ezs_iadd rfl (fun u50 hu50 => ?_)
                refine ezw_i2l rfl hu50 rfl ?_
                refine ezs_ladd rfl (fun u51 hu51 => ?_)
                refine ezw_goto rfl rfl ?_
                exact ezw_keepE [true, true, true, false] (J125_41 u51 hu51 F A hI)
        exact ezw_keepE [true, true, true, false] (L70_28 (0) ⟨by decide, by decide⟩ (by omega)  F A hI)
    refine ezw_icmp_ge rfl rfl hc1 ⟨by decide, by decide⟩ (fun h6_2 => ?_) (fun h6_2 => ?_)
    · exact ezw_keepE [true, true, false, false] (J39_3 c1 hc1 F A hI)
    · refine ezw_aload_n rfl rfl ?_
      refine ezw_aload_n rfl rfl ?_
      refine ezs_get_i hI rfl rfl rfl rfl rfl rfl (fun u52 hu52 ku52 => ?_)
      refine ezw_call0_1 rfl (by omega) (ezu_at rfl) rfl rfl rfl rfl (ezs_m31_1 hI (by omega) hu52) ?_
      rintro _ _ ⟨rfl, u53, hu53, rfl⟩
      refine ezw_call2_1 rfl (by omega) rfl rfl (ezs_m32 hI (by omega) hu53.1) ?_
      rintro _ _ ⟨rfl, u54, hu54, rfl⟩
      refine ezw_if_eq rfl rfl ⟨by omega, by omega⟩ (fun h20_54 => ?_) (fun h20_54 => ?_)
      · exact ezw_keepE [true, true, false, false] (J39_3 c1 hc1 F A hI)
      · refine ezw_aload_n rfl rfl ?_
        refine ezw_dup rfl rfl ?_
        refine ezs_get_i hI rfl rfl rfl rfl rfl rfl (fun u55 hu55 ku55 => ?_)
        refine ezw_iconst (1) rfl rfl ?_
        refine ezs_iadd rfl (fun u56 hu56 => ?_)
        refine ezs_put_i hI rfl rfl rfl rfl rfl hzT hu56 (fun F A hI => ?_)
        refine ezw_iinc (1) rfl rfl rfl rfl rfl ?_
        refine ezw_goto rfl rfl ?_
        exact ezw_keepE [true, true, false, false] (ihc1 (c1 + (1)) (by omega) ⟨by omega, by omega⟩ (by omega)  F A hI)
  exact ezw_keepE [true, true, false, false] (L2_1 (0) ⟨by decide, by decide⟩ (by omega)  F A hI)
theorem ezs_m29_1 {F : Nat → Nat → Int} {A : Nat → Int → Int} (hI : ezs_I fz F0 A0 F A) (hd : 5 ≤ d) (hzT : fz 1 = false) : ezw_C l ρ B xa Hb D cA 29 d [ezw_p 1] (ezu_g e F A) (ezs_P e fz F0 A0 ezs_rn) := by
  refine ezw_met (k := 0) rfl rfl ?_
  refine ezw_aload_n rfl rfl ?_
  refine ezw_iconst (0) rfl rfl ?_
  refine ezs_put_i hI rfl rfl rfl rfl rfl hzT ⟨by decide, by decide⟩ (fun F A hI => ?_)
  refine ezw_aload_n rfl rfl ?_
  refine ezw_iconst (0) rfl rfl ?_
  refine ezs_put_i hI rfl rfl rfl rfl rfl hzT ⟨by decide, by decide⟩ (fun F A hI => ?_)
  refine ezw_aload_n rfl rfl ?_
  refine ezw_call0_0 rfl (by omega) (ezu_at rfl) rfl rfl rfl rfl (ezs_m30_1 hI (by omega) hzT) ?_
  rintro _ _ ⟨⟨F, A, rfl, hI⟩, rfl⟩
  exact ezw_return rfl rfl ⟨⟨F, A, rfl, hI⟩, rfl⟩
theorem ezs_m45_1 {F : Nat → Nat → Int} {A : Nat → Int → Int} (hI : ezs_I fz F0 A0 F A) (hd : 0 ≤ d) : ezw_C l ρ B xa Hb D cA 45 d [ezw_p 1] (ezu_g e F A) (ezs_Pp e F A ezs_rz) := by
  refine ezw_met (k := 0) rfl rfl ?_
  refine ezw_aload_n rfl rfl ?_
  refine ezs_get_i hI rfl rfl rfl rfl rfl rfl (fun u1 hu1 ku1 => ?_)
  refine ezw_if_ne rfl rfl hu1 (fun h4_1 => ?_) (fun h4_1 => ?_)
  · refine ezw_iconst (0) rfl rfl ?_
    exact ezw_ireturn rfl (ezw_zret ⟨by omega, by omega⟩) ⟨rfl, _, ⟨by omega, by omega⟩, rfl⟩
  · refine ezw_iconst (1) rfl rfl ?_
    refine ezw_goto rfl rfl ?_
    exact ezw_ireturn rfl (ezw_zret ⟨by omega, by omega⟩) ⟨rfl, _, ⟨by omega, by omega⟩, rfl⟩
theorem ezs_m46_1 {a1 : Int} {F : Nat → Nat → Int} {A : Nat → Int → Int} (hI : ezs_I fz F0 A0 F A) (hd : 0 ≤ d) (ha1 : ezw_in a1) : ezw_C l ρ B xa Hb D cA 46 d [ezw_p 1, ezw_i a1] (ezu_g e F A) (ezs_Pp e F A ezs_rz) := by
  refine ezw_met (k := 0) rfl rfl ?_
  refine ezw_aload_n rfl rfl ?_
  refine ezs_get_i hI rfl rfl rfl rfl rfl rfl (fun u1 hu1 ku1 => ?_)
  refine ezw_if_ne rfl rfl hu1 (fun h4_1 => ?_) (fun h4_1 => ?_)
  · refine ezw_iconst (0) rfl rfl ?_
    exact ezw_ireturn rfl (ezw_zret ⟨by omega, by omega⟩) ⟨rfl, _, ⟨by omega, by omega⟩, rfl⟩
  · refine ezw_aload_n rfl rfl ?_
    refine ezs_get_i hI rfl rfl rfl rfl rfl rfl (fun u2 hu2 ku2 => ?_)
    refine ezw_iload_n rfl rfl ?_
    refine ezw_icmp_ne rfl rfl hu2 ha1 (fun h12_2 => ?_) (fun h12_2 => ?_)
    · refine ezw_iconst (0) rfl rfl ?_
      exact ezw_ireturn rfl (ezw_zret ⟨by omega, by omega⟩) ⟨rfl, _, ⟨by omega, by omega⟩, rfl⟩
    · refine ezw_iconst (1) rfl rfl ?_
      refine ezw_goto rfl rfl ?_
      exact ezw_ireturn rfl (ezw_zret ⟨by omega, by omega⟩) ⟨rfl, _, ⟨by omega, by omega⟩, rfl⟩
theorem ezs_m50_1 {a1 : Int} {F : Nat → Nat → Int} {A : Nat → Int → Int} (hI : ezs_I fz F0 A0 F A) (hd : 0 ≤ d) (hzT : fz 1 = false) (ha1 : ezw_in a1) : ezw_C l ρ B xa Hb D cA 50 d [ezw_p 1, ezw_i a1] (ezu_g e F A) (ezs_P e fz F0 A0 ezs_rn) := by
  refine ezw_met (k := 0) rfl rfl ?_
  refine ezw_aload_n rfl rfl ?_
  refine ezs_get_i hI rfl rfl rfl rfl rfl rfl (fun u1 hu1 ku1 => ?_)
  refine ezw_if_ne rfl rfl hu1 (fun h4_1 => ?_) (fun h4_1 => ?_)
  · exact ezw_return rfl rfl ⟨⟨F, A, rfl, hI⟩, rfl⟩
  · refine ezw_aload_n rfl rfl ?_
    refine ezw_iload_n rfl rfl ?_
    refine ezw_bipush (16) rfl rfl ?_
    refine ezw_aload_n rfl rfl ?_
    refine ezs_get_i hI rfl rfl rfl rfl rfl rfl (fun u2 hu2 ku2 => ?_)
    refine ezs_imul rfl (fun u3 hu3 => ?_)
    refine ezs_iadd rfl (fun u4 hu4 => ?_)
    refine ezs_put_i hI rfl rfl rfl rfl rfl hzT hu4 (fun F A hI => ?_)
    exact ezw_return rfl rfl ⟨⟨F, A, rfl, hI⟩, rfl⟩
theorem ezs_m56_1 {a1 : Int} {F : Nat → Nat → Int} {A : Nat → Int → Int} (hI : ezs_I fz F0 A0 F A) (hd : 5 ≤ d) (hzT : fz 1 = false) (ha1 : ezw_in a1) : ezw_C l ρ B xa Hb D cA 56 d [ezw_p 1, ezw_i a1] (ezu_g e F A) (ezs_P e fz F0 A0 ezs_rn) := by
  refine ezw_met (k := 0) rfl rfl ?_
  refine ezw_aload_n rfl rfl ?_
  refine ezw_iload_n rfl rfl ?_
  refine ezw_call0_1 rfl (by omega) (ezu_at rfl) rfl rfl rfl rfl (ezs_m46_1 hI (by omega) ha1) ?_
  rintro _ _ ⟨rfl, u1, hu1, rfl⟩
  refine ezw_if_eq rfl rfl ⟨by omega, by omega⟩ (fun h5_1 => ?_) (fun h5_1 => ?_)
  · refine ezw_aload_n rfl rfl ?_
    refine ezw_iconst (1) rfl rfl ?_
    refine ezw_call0_1 rfl (by omega) (ezu_at rfl) rfl rfl rfl rfl (ezs_m50_1 hI (by omega) hzT ⟨by decide, by decide⟩) ?_
    rintro _ _ ⟨⟨F, A, rfl, hI⟩, rfl⟩
    exact ezw_return rfl rfl ⟨⟨F, A, rfl, hI⟩, rfl⟩
  · refine ezw_aload_n rfl rfl ?_
    refine ezw_call0_0 rfl (by omega) (ezu_at rfl) rfl rfl rfl rfl (ezs_m30_1 hI (by omega) hzT) ?_
    rintro _ _ ⟨⟨F, A, rfl, hI⟩, rfl⟩
    refine ezw_goto rfl rfl ?_
    exact ezw_return rfl rfl ⟨⟨F, A, rfl, hI⟩, rfl⟩
theorem ezs_m59_1 {a1 a2 : Int} {F : Nat → Nat → Int} {A : Nat → Int → Int} (hI : ezs_I fz F0 A0 F A) (hd : 5 ≤ d) (hzT : fz 1 = false) (ha1 : ezw_in a1) (ga1 : 0 ≤ a1 ∧ a1 ≤ 300) (ha2 : ezw_in a2) (ga2 : 0 ≤ a2 ∧ a2 ≤ 100) : ezw_C l ρ B xa Hb D cA 59 d [ezw_p 1, ezw_i a1, ezw_i a2] (ezu_g e F A) (ezs_P e fz F0 A0 ezs_rd) := by
  refine ezw_met (k := 1) rfl rfl ?_
  refine ezw_aload_n rfl rfl ?_
  refine ezw_getfield rfl (ezu_at rfl) rfl rfl rfl ?_
  refine ezw_iload_n rfl rfl ?_
  refine ezw_icmp_lt rfl rfl (ezs_fk_in rfl ((hI.1 1 (by decide)).1 3)) ha1 (fun h5_0 => ?_) (fun h5_0 => ?_)
  · refine ezw_aload_n rfl rfl ?_
    refine ezw_iconst (1) rfl rfl ?_
    refine ezw_call0_1 rfl (by omega) (ezu_at rfl) rfl rfl rfl rfl (ezs_m50_1 hI (by omega) hzT ⟨by decide, by decide⟩) ?_
    rintro _ _ ⟨⟨F, A, rfl, hI⟩, rfl⟩
    refine ezw_iconst (0) rfl rfl ?_
    exact ezw_ireturn rfl rfl ⟨⟨F, A, rfl, hI⟩, _, ⟨by omega, by omega⟩, rfl⟩
  · refine ezw_aload_n rfl rfl ?_
    refine ezw_getfield rfl (ezu_at rfl) rfl rfl rfl ?_
    refine ezw_iload_n rfl rfl ?_
    refine ezw_iload_n rfl rfl ?_
    refine ezw_iadd rfl rfl ?_
    refine ezw_icmp_lt rfl rfl (ezs_fk_in rfl ((hI.1 1 (by decide)).1 3)) ⟨by omega, by omega⟩ (fun h15_0 => ?_) (fun h15_0 => ?_)
    · refine ezw_aload_n rfl rfl ?_
      refine ezw_getfield rfl (ezu_at rfl) rfl rfl rfl ?_
      refine ezw_iload_n rfl rfl ?_
      refine ezw_isub rfl rfl ?_
      refine ezw_istore_n rfl rfl ?_
      refine ezw_aload_n rfl rfl ?_
      refine ezw_call0_0 rfl (by omega) (ezu_at rfl) rfl rfl rfl rfl (ezs_m30_1 hI (by omega) hzT) ?_
      rintro _ _ ⟨⟨F, A, rfl, hI⟩, rfl⟩
      refine ezw_iload_n rfl rfl ?_
      exact ezw_ireturn rfl rfl ⟨⟨F, A, rfl, hI⟩, _, ⟨by omega, by omega⟩, rfl⟩
    · refine ezw_aload_n rfl rfl ?_
      refine ezw_iconst (1) rfl rfl ?_
      refine ezw_call0_1 rfl (by omega) (ezu_at rfl) rfl rfl rfl rfl (ezs_m50_1 hI (by omega) hzT ⟨by decide, by decide⟩) ?_
      rintro _ _ ⟨⟨F, A, rfl, hI⟩, rfl⟩
      refine ezw_iconst (0) rfl rfl ?_
      exact ezw_ireturn rfl rfl ⟨⟨F, A, rfl, hI⟩, _, ⟨by omega, by omega⟩, rfl⟩
theorem ezs_m60_1 {a1 : Int} {F : Nat → Nat → Int} {A : Nat → Int → Int} (hI : ezs_I fz F0 A0 F A) (hd : 5 ≤ d) (hzT : fz 1 = false) (ha1 : ezw_in a1) : ezw_C l ρ B xa Hb D cA 60 d [ezw_p 1, ezw_i a1] (ezu_g e F A) (ezs_P e fz F0 A0 ezs_rz) := by
  refine ezw_met (k := 0) rfl rfl ?_
  refine ezw_aload_n rfl rfl ?_
  refine ezw_iload_n rfl rfl ?_
  refine ezw_call0_1 rfl (by omega) (ezu_at rfl) rfl rfl rfl rfl (ezs_m46_1 hI (by omega) ha1) ?_
  rintro _ _ ⟨rfl, u1, hu1, rfl⟩
  refine ezw_if_ne rfl rfl ⟨by omega, by omega⟩ (fun h5_1 => ?_) (fun h5_1 => ?_)
  · refine ezw_aload_n rfl rfl ?_
    refine ezw_call0_0 rfl (by omega) (ezu_at rfl) rfl rfl rfl rfl (ezs_m30_1 hI (by omega) hzT) ?_
    rintro _ _ ⟨⟨F, A, rfl, hI⟩, rfl⟩
    refine ezw_iconst (1) rfl rfl ?_
    exact ezw_ireturn rfl (ezw_zret ⟨by omega, by omega⟩) ⟨⟨F, A, rfl, hI⟩, _, ⟨by omega, by omega⟩, rfl⟩
  · refine ezw_iconst (0) rfl rfl ?_
    exact ezw_ireturn rfl (ezw_zret ⟨by omega, by omega⟩) ⟨⟨F, A, rfl, hI⟩, _, ⟨by omega, by omega⟩, rfl⟩
theorem ezs_m62_1_30 {a2 : Int} {F : Nat → Nat → Int} {A : Nat → Int → Int} (hI : ezs_I fz F0 A0 F A) (hd : 2 ≤ d) (hzT : fz 1 = false) (ha2 : ezw_in a2) : ezw_C l ρ B xa Hb D cA 62 d [ezw_p 1, ezw_p 30, ezw_i a2] (ezu_g e F A) (ezs_P e fz F0 A0 ezs_ri) := by
  refine ezw_met (k := 1) rfl rfl ?_
  refine ezw_aload_n rfl rfl ?_
  refine ezs_get_i hI rfl rfl rfl rfl rfl rfl (fun u1 hu1 ku1 => ?_)
  refine ezw_bipush (100) rfl rfl ?_
  refine ezw_icmp_eq rfl rfl hu1 ⟨by decide, by decide⟩ (fun h6_1 => ?_) (fun h6_1 => ?_)
  · refine ezw_iload_n rfl rfl ?_
    have J39_2 : ∀ y2 : Int, ezw_in y2 → ∀ F A, ezs_I fz F0 A0 F A → ezw_E l ρ B xa Hb D cA d ezq_re62 (ezs_P e fz F0 A0 ezs_ri) 39 [some (ezw_p 1), some (ezw_p 30), some (ezw_i a2), none] [(ezw_i y2)] (ezu_g e F A) := by
      intro y2 hy2 F A hI
      refine ezw_istore_n rfl rfl ?_
      refine ezw_iload_n rfl rfl ?_
      refine ezw_iconst (-1) rfl rfl ?_
      refine ezw_icmp_ne rfl rfl hy2 ⟨by decide, by decide⟩ (fun h42_3 => ?_) (fun h42_3 => ?_)
      · refine ezw_iload_n rfl rfl ?_
        exact ezw_ireturn rfl rfl ⟨⟨F, A, rfl, hI⟩, _, hy2, rfl⟩
      · refine ezw_aload_n rfl rfl ?_
        refine ezw_iconst (2) rfl rfl ?_
        refine ezw_call0_1 rfl (by omega) (ezu_at rfl) rfl rfl rfl rfl (ezs_m50_1 hI (by omega) hzT ⟨by decide, by decide⟩) ?_
        rintro _ _ ⟨⟨F, A, rfl, hI⟩, rfl⟩
        refine ezw_iload_n rfl rfl ?_
        exact ezw_ireturn rfl rfl ⟨⟨F, A, rfl, hI⟩, _, hy2, rfl⟩
    refine ezw_if_eq rfl rfl ha2 (fun h17_1 => ?_) (fun h17_1 => ?_)
    · refine ezw_aload_n rfl rfl ?_
      refine ezw_aload_n rfl rfl ?_
      refine ezs_get_l hI rfl rfl rfl rfl rfl (fun u4 hu4 => ?_)
      refine ezw_call0_1 rfl (by omega) (ezu_at rfl) rfl rfl rfl rfl (ezs_m53_30 hI (by omega) hu4) ?_
      rintro _ _ ⟨rfl, u5, hu5, rfl⟩
      exact ezw_keepE [true, true, true, false] (J39_2 u5 hu5 F A hI)
    · refine ezw_aload_n rfl rfl ?_
      refine ezw_aload_n rfl rfl ?_
      refine ezs_get_l hI rfl rfl rfl rfl rfl (fun u6 hu6 => ?_)
      refine ezw_call0_1 rfl (by omega) (ezu_at rfl) rfl rfl rfl rfl (ezs_m55_30 hI (by omega) hu6) ?_
      rintro _ _ ⟨rfl, u7, hu7, rfl⟩
      refine ezw_goto rfl rfl ?_
      exact ezw_keepE [true, true, true, false] (J39_2 u7 hu7 F A hI)
  · refine ezw_aload_n rfl rfl ?_
    refine ezw_iconst (1) rfl rfl ?_
    refine ezw_call0_1 rfl (by omega) (ezu_at rfl) rfl rfl rfl rfl (ezs_m50_1 hI (by omega) hzT ⟨by decide, by decide⟩) ?_
    rintro _ _ ⟨⟨F, A, rfl, hI⟩, rfl⟩
    refine ezw_iconst (-1) rfl rfl ?_
    exact ezw_ireturn rfl rfl ⟨⟨F, A, rfl, hI⟩, _, ⟨by decide, by decide⟩, rfl⟩
theorem ezs_m61_1_30 {a2 : Int} {F : Nat → Nat → Int} {A : Nat → Int → Int} (hI : ezs_I fz F0 A0 F A) (hd : 5 ≤ d) (hzT : fz 1 = false) (ha2 : ezw_in a2) : ezw_C l ρ B xa Hb D cA 61 d [ezw_p 1, ezw_p 30, ezw_i a2] (ezu_g e F A) (ezs_P e fz F0 A0 ezs_ri) := by
  refine ezw_met (k := 1) rfl rfl ?_
  refine ezw_aload_n rfl rfl ?_
  refine ezw_aload_n rfl rfl ?_
  refine ezw_iload_n rfl rfl ?_
  refine ezw_call0_2 rfl (by omega) (ezu_at rfl) rfl rfl rfl rfl (ezs_m62_1_30 hI (by omega) hzT ha2) ?_
  rintro _ _ ⟨⟨F, A, rfl, hI⟩, u1, hu1, rfl⟩
  refine ezw_istore_n rfl rfl ?_
  refine ezw_aload_n rfl rfl ?_
  refine ezw_call0_0 rfl (by omega) (ezu_at rfl) rfl rfl rfl rfl (ezs_m45_1 hI (by omega)) ?_
  rintro _ _ ⟨rfl, u2, hu2, rfl⟩
  refine ezw_if_eq rfl rfl ⟨by omega, by omega⟩ (fun h11_2 => ?_) (fun h11_2 => ?_)
  · refine ezw_iload_n rfl rfl ?_
    exact ezw_ireturn rfl rfl ⟨⟨F, A, rfl, hI⟩, _, hu1, rfl⟩
  · refine ezw_aload_n rfl rfl ?_
    refine ezw_call0_0 rfl (by omega) (ezu_at rfl) rfl rfl rfl rfl (ezs_m30_1 hI (by omega) hzT) ?_
    rintro _ _ ⟨⟨F, A, rfl, hI⟩, rfl⟩
    refine ezw_iload_n rfl rfl ?_
    exact ezw_ireturn rfl rfl ⟨⟨F, A, rfl, hI⟩, _, hu1, rfl⟩
theorem ezs_m62_1_47 {a2 : Int} {F : Nat → Nat → Int} {A : Nat → Int → Int} (hI : ezs_I fz F0 A0 F A) (hd : 2 ≤ d) (hzT : fz 1 = false) (ha2 : ezw_in a2) : ezw_C l ρ B xa Hb D cA 62 d [ezw_p 1, ezw_p 47, ezw_i a2] (ezu_g e F A) (ezs_P e fz F0 A0 ezs_ri) := by
  refine ezw_met (k := 1) rfl rfl ?_
  refine ezw_aload_n rfl rfl ?_
  refine ezs_get_i hI rfl rfl rfl rfl rfl rfl (fun u1 hu1 ku1 => ?_)
  refine ezw_bipush (100) rfl rfl ?_
  refine ezw_icmp_eq rfl rfl hu1 ⟨by decide, by decide⟩ (fun h6_1 => ?_) (fun h6_1 => ?_)
  · refine ezw_iload_n rfl rfl ?_
    have J39_2 : ∀ y2 : Int, ezw_in y2 → ∀ F A, ezs_I fz F0 A0 F A → ezw_E l ρ B xa Hb D cA d ezq_re62 (ezs_P e fz F0 A0 ezs_ri) 39 [some (ezw_p 1), some (ezw_p 47), some (ezw_i a2), none] [(ezw_i y2)] (ezu_g e F A) := by
      intro y2 hy2 F A hI
      refine ezw_istore_n rfl rfl ?_
      refine ezw_iload_n rfl rfl ?_
      refine ezw_iconst (-1) rfl rfl ?_
      refine ezw_icmp_ne rfl rfl hy2 ⟨by decide, by decide⟩ (fun h42_3 => ?_) (fun h42_3 => ?_)
      · refine ezw_iload_n rfl rfl ?_
        exact ezw_ireturn rfl rfl ⟨⟨F, A, rfl, hI⟩, _, hy2, rfl⟩
      · refine ezw_aload_n rfl rfl ?_
        refine ezw_iconst (2) rfl rfl ?_
        refine ezw_call0_1 rfl (by omega) (ezu_at rfl) rfl rfl rfl rfl (ezs_m50_1 hI (by omega) hzT ⟨by decide, by decide⟩) ?_
        rintro _ _ ⟨⟨F, A, rfl, hI⟩, rfl⟩
        refine ezw_iload_n rfl rfl ?_
        exact ezw_ireturn rfl rfl ⟨⟨F, A, rfl, hI⟩, _, hy2, rfl⟩
    refine ezw_if_eq rfl rfl ha2 (fun h17_1 => ?_) (fun h17_1 => ?_)
    · refine ezw_aload_n rfl rfl ?_
      refine ezw_aload_n rfl rfl ?_
      refine ezs_get_l hI rfl rfl rfl rfl rfl (fun u4 hu4 => ?_)
      refine ezw_call0_1 rfl (by omega) (ezu_at rfl) rfl rfl rfl rfl (ezs_m53_47 hI (by omega) hu4) ?_
      rintro _ _ ⟨rfl, u5, hu5, rfl⟩
      exact ezw_keepE [true, true, true, false] (J39_2 u5 hu5 F A hI)
    · refine ezw_aload_n rfl rfl ?_
      refine ezw_aload_n rfl rfl ?_
      refine ezs_get_l hI rfl rfl rfl rfl rfl (fun u6 hu6 => ?_)
      refine ezw_call0_1 rfl (by omega) (ezu_at rfl) rfl rfl rfl rfl (ezs_m55_47 hI (by omega) hu6) ?_
      rintro _ _ ⟨rfl, u7, hu7, rfl⟩
      refine ezw_goto rfl rfl ?_
      exact ezw_keepE [true, true, true, false] (J39_2 u7 hu7 F A hI)
  · refine ezw_aload_n rfl rfl ?_
    refine ezw_iconst (1) rfl rfl ?_
    refine ezw_call0_1 rfl (by omega) (ezu_at rfl) rfl rfl rfl rfl (ezs_m50_1 hI (by omega) hzT ⟨by decide, by decide⟩) ?_
    rintro _ _ ⟨⟨F, A, rfl, hI⟩, rfl⟩
    refine ezw_iconst (-1) rfl rfl ?_
    exact ezw_ireturn rfl rfl ⟨⟨F, A, rfl, hI⟩, _, ⟨by decide, by decide⟩, rfl⟩
theorem ezs_m61_1_47 {a2 : Int} {F : Nat → Nat → Int} {A : Nat → Int → Int} (hI : ezs_I fz F0 A0 F A) (hd : 5 ≤ d) (hzT : fz 1 = false) (ha2 : ezw_in a2) : ezw_C l ρ B xa Hb D cA 61 d [ezw_p 1, ezw_p 47, ezw_i a2] (ezu_g e F A) (ezs_P e fz F0 A0 ezs_ri) := by
  refine ezw_met (k := 1) rfl rfl ?_
  refine ezw_aload_n rfl rfl ?_
  refine ezw_aload_n rfl rfl ?_
  refine ezw_iload_n rfl rfl ?_
  refine ezw_call0_2 rfl (by omega) (ezu_at rfl) rfl rfl rfl rfl (ezs_m62_1_47 hI (by omega) hzT ha2) ?_
  rintro _ _ ⟨⟨F, A, rfl, hI⟩, u1, hu1, rfl⟩
  refine ezw_istore_n rfl rfl ?_
  refine ezw_aload_n rfl rfl ?_
  refine ezw_call0_0 rfl (by omega) (ezu_at rfl) rfl rfl rfl rfl (ezs_m45_1 hI (by omega)) ?_
  rintro _ _ ⟨rfl, u2, hu2, rfl⟩
  refine ezw_if_eq rfl rfl ⟨by omega, by omega⟩ (fun h11_2 => ?_) (fun h11_2 => ?_)
  · refine ezw_iload_n rfl rfl ?_
    exact ezw_ireturn rfl rfl ⟨⟨F, A, rfl, hI⟩, _, hu1, rfl⟩
  · refine ezw_aload_n rfl rfl ?_
    refine ezw_call0_0 rfl (by omega) (ezu_at rfl) rfl rfl rfl rfl (ezs_m30_1 hI (by omega) hzT) ?_
    rintro _ _ ⟨⟨F, A, rfl, hI⟩, rfl⟩
    refine ezw_iload_n rfl rfl ?_
    exact ezw_ireturn rfl rfl ⟨⟨F, A, rfl, hI⟩, _, hu1, rfl⟩
end KM
