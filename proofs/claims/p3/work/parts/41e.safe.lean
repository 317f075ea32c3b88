/-! ===== the program, roughly: trees read ===== -/
section KM
variable {l : Launch} {ρ : ezq_E} {B : Nat} {xa : Nat → Option Nat} {Hb : Heap} {D : va_G} {cA : Nat → ClassId} {d : Nat} {e : Bool × Bool} {fz : Nat → Bool} {F0 : Nat → Nat → Int} {A0 : Nat → Int → Int}
theorem ezs_m51_1_30 {F : Nat → Nat → Int} {A : Nat → Int → Int} (hI : ezs_I fz F0 A0 F A) (hd : 6 ≤ d) (hzA : ∀ q, 4 ≤ q → q < 72 → fz q = false) (hzT : fz 1 = false) : ezw_C l ρ B xa Hb D cA 51 d [ezw_p 1, ezw_p 30] (ezu_g e F A) (ezs_P e fz F0 A0 ezs_rn) := by
  refine ezw_met (k := 6) rfl rfl ?_
  refine ezw_aload_n rfl rfl ?_
  refine ezw_aload_n rfl rfl ?_
  refine ezw_call2_2 rfl (by omega) rfl rfl (ezs_m52_1_30 hI (by omega) hzT) ?_
  rintro _ _ ⟨⟨F, A, rfl, hI⟩, u1, hu1, rfl⟩
  refine ezw_lstore_n rfl rfl ?_
  refine ezw_aload_n rfl rfl ?_
  refine ezw_iconst (1) rfl rfl ?_
  refine ezw_call0_1 rfl (by omega) (ezu_at rfl) rfl rfl rfl rfl (ezs_m56_1 hI (by omega) hzT ⟨by decide, by decide⟩) ?_
  rintro _ _ ⟨⟨F, A, rfl, hI⟩, rfl⟩
  refine ezw_aload_n rfl rfl ?_
  refine ezw_iconst (1) rfl rfl ?_
  refine ezw_bipush (60) rfl rfl ?_
  refine ezw_call0_2 rfl (by omega) (ezu_at rfl) rfl rfl rfl rfl (ezs_m57_1 hI (by omega) hzT ⟨by decide, by decide⟩ ⟨by decide, by decide⟩) ?_
  rintro _ _ ⟨⟨F, A, rfl, hI⟩, u2, hu2, rfl⟩
  refine ezw_istore rfl rfl ?_
  refine ezw_aload_n rfl rfl ?_
  refine ezw_iconst (2) rfl rfl ?_
  refine ezw_call0_1 rfl (by omega) (ezu_at rfl) rfl rfl rfl rfl (ezs_m56_1 hI (by omega) hzT ⟨by decide, by decide⟩) ?_
  rintro _ _ ⟨⟨F, A, rfl, hI⟩, rfl⟩
  refine ezw_aload_n rfl rfl ?_
  refine ezw_iconst (1) rfl rfl ?_
  refine ezw_bipush (20) rfl rfl ?_
  refine ezw_call0_2 rfl (by omega) (ezu_at rfl) rfl rfl rfl rfl (ezs_m57_1 hI (by omega) hzT ⟨by decide, by decide⟩ ⟨by decide, by decide⟩) ?_
  rintro _ _ ⟨⟨F, A, rfl, hI⟩, u3, hu3, rfl⟩
  refine ezw_istore rfl rfl ?_
  refine ezw_aload_n rfl rfl ?_
  refine ezw_iconst (3) rfl rfl ?_
  refine ezw_call0_1 rfl (by omega) (ezu_at rfl) rfl rfl rfl rfl (ezs_m56_1 hI (by omega) hzT ⟨by decide, by decide⟩) ?_
  rintro _ _ ⟨⟨F, A, rfl, hI⟩, rfl⟩
  refine ezw_aload_n rfl rfl ?_
  refine ezw_bipush (30) rfl rfl ?_
  refine ezw_iconst (4) rfl rfl ?_
  refine ezw_call0_2 rfl (by omega) (ezu_at rfl) rfl rfl rfl rfl (ezs_m59_1 hI (by omega) hzT ⟨by decide, by decide⟩ (by omega) ⟨by decide, by decide⟩ (by omega)) ?_
  rintro _ _ ⟨⟨F, A, rfl, hI⟩, u4, hu4, rfl⟩
  refine ezw_istore rfl rfl ?_
  refine ezw_aload_n rfl rfl ?_
  refine ezw_iconst (4) rfl rfl ?_
  refine ezw_call0_1 rfl (by omega) (ezu_at rfl) rfl rfl rfl rfl (ezs_m60_1 hI (by omega) hzT ⟨by decide, by decide⟩) ?_
  rintro _ _ ⟨⟨F, A, rfl, hI⟩, u5, hu5, rfl⟩
  have J66_6 : ∀ y6 : Int, ezw_in y6 → ∀ F A, ezs_I fz F0 A0 F A → ezw_E l ρ B xa Hb D cA d ezq_re51 (ezs_P e fz F0 A0 ezs_rn) 66 [some (ezw_p 1), some (ezw_p 30), some (ezw_l u1), none, some (ezw_i u2), some (ezw_i u3), some (ezw_i u4), none] [(ezw_i y6)] (ezu_g e F A) := by
    intro y6 hy6 F A hI
    refine ezw_istore rfl rfl ?_
    refine ezw_aload_n rfl rfl ?_
    refine ezw_call0_0 rfl (by omega) (ezu_at rfl) rfl rfl rfl rfl (ezs_m45_1 hI (by omega)) ?_
    rintro _ _ ⟨rfl, u8, hu8, rfl⟩
    refine ezw_if_eq rfl rfl ⟨by omega, by omega⟩ (fun h72_8 => ?_) (fun h72_8 => ?_)
    · exact ezw_return rfl rfl ⟨⟨F, A, rfl, hI⟩, rfl⟩
    · refine ezw_aload_n rfl rfl ?_
      refine ezw_lload_n rfl rfl ?_
      refine ezw_iload rfl rfl ?_
      refine ezw_iload rfl rfl ?_
      refine ezw_iload rfl rfl ?_
      refine ezw_iload rfl rfl ?_
      refine ezw_call0_5 rfl (by omega) (ezu_at rfl) rfl rfl rfl rfl (ezs_m63_30 hI (by omega) hzA hu1 ⟨by omega, by omega⟩ ⟨by omega, by omega⟩ ⟨by omega, by omega⟩ hy6) ?_
      rintro _ _ ⟨⟨F, A, rfl, hI⟩, rfl⟩
      exact ezw_return rfl rfl ⟨⟨F, A, rfl, hI⟩, rfl⟩
  refine ezw_if_eq rfl rfl ⟨by omega, by omega⟩ (fun h53_5 => ?_) (fun h53_5 => ?_)
  · refine ezw_iconst (-1) rfl rfl ?_
    exact ezw_keepE [true, true, true, false, true, true, true, false] (J66_6 (-1) ⟨by decide, by decide⟩ F A hI)
  · refine ezw_aload_n rfl rfl ?_
    refine ezw_aload_n rfl rfl ?_
    refine ezw_iconst (0) rfl rfl ?_
    refine ezw_call0_2 rfl (by omega) (ezu_at rfl) rfl rfl rfl rfl (ezs_m61_1_30 hI (by omega) hzT ⟨by decide, by decide⟩) ?_
    rintro _ _ ⟨⟨F, A, rfl, hI⟩, u9, hu9, rfl⟩
    refine ezw_goto rfl rfl ?_
    exact ezw_keepE [true, true, true, false, true, true, true, false] (J66_6 u9 hu9 F A hI)
theorem ezs_m65_1_30 {F : Nat → Nat → Int} {A : Nat → Int → Int} (hI : ezs_I fz F0 A0 F A) (hd : 5 ≤ d) (hzA : ∀ q, 4 ≤ q → q < 72 → fz q = false) (hzT : fz 1 = false) : ezw_C l ρ B xa Hb D cA 65 d [ezw_p 1, ezw_p 30] (ezu_g e F A) (ezs_P e fz F0 A0 ezs_rn) := by
  refine ezw_met (k := 2) rfl rfl ?_
  refine ezw_iconst (0) rfl rfl ?_
  refine ezw_istore_n rfl rfl ?_
  have L2_1 : ∀ c1 : Int, ezw_in c1 → (0) ≤ c1 → ∀ F A, ezs_I fz F0 A0 F A → ezw_E l ρ B xa Hb D cA d ezq_re65 (ezs_P e fz F0 A0 ezs_rn) 2 [some (ezw_p 1), some (ezw_p 30), some (ezw_i c1), none] [] (ezu_g e F A) := by
    refine ezs_up ?_
    intro c1 hc1 ihc1 gc1 F A hI
    refine ezw_iload_n rfl rfl ?_
    refine ezw_bipush (6) rfl rfl ?_
    refine ezw_icmp_gt rfl rfl hc1 ⟨by decide, by decide⟩ (fun h5_2 => ?_) (fun h5_2 => ?_)
    · exact ezw_return rfl rfl ⟨⟨F, A, rfl, hI⟩, rfl⟩
    · refine ezw_aload_n rfl rfl ?_
      refine ezw_call0_0 rfl (by omega) (ezu_at rfl) rfl rfl rfl rfl (ezs_m45_1 hI (by omega)) ?_
      rintro _ _ ⟨rfl, u3, hu3, rfl⟩
      refine ezw_if_eq rfl rfl ⟨by omega, by omega⟩ (fun h12_3 => ?_) (fun h12_3 => ?_)
      · exact ezw_return rfl rfl ⟨⟨F, A, rfl, hI⟩, rfl⟩
      · refine ezw_iload_n rfl rfl ?_
        refine ezw_if_le rfl rfl hc1 (fun h16_3 => ?_) (fun h16_3 => ?_)
        · refine ezw_aload_n rfl rfl ?_
          refine ezw_aload_n rfl rfl ?_
          refine ezw_iconst (0) rfl rfl ?_
          refine ezw_call0_2 rfl (by omega) (ezu_at rfl) rfl rfl rfl rfl (ezs_m62_1_30 hI (by omega) hzT ⟨by decide, by decide⟩) ?_
          rintro _ _ ⟨⟨F, A, rfl, hI⟩, u4, hu4, rfl⟩
          refine ezw_istore_n rfl rfl ?_
          refine ezw_aload_n rfl rfl ?_
          refine ezw_call0_0 rfl (by omega) (ezu_at rfl) rfl rfl rfl rfl (ezs_m45_1 hI (by omega)) ?_
          rintro _ _ ⟨rfl, u5, hu5, rfl⟩
          refine ezw_if_ne rfl rfl ⟨by omega, by omega⟩ (fun h41_5 => ?_) (fun h41_5 => ?_)
          · refine ezw_aload_n rfl rfl ?_
            refine ezw_iload_n rfl rfl ?_
            refine ezw_call0_1 rfl (by omega) (ezu_at rfl) rfl rfl rfl rfl (ezs_m66_30 hI (by omega) hu4) ?_
            rintro _ _ ⟨rfl, u6, hu6, rfl⟩
            refine ezw_if_eq rfl rfl ⟨by omega, by omega⟩ (fun h50_6 => ?_) (fun h50_6 => ?_)
            · refine ezw_aload_n rfl rfl ?_
              refine ezs_get_i hI rfl rfl rfl rfl rfl rfl (fun u7 hu7 ku7 => ?_)
              refine ezw_bipush (6) rfl rfl ?_
              refine ezw_icmp_lt rfl rfl hu7 ⟨by decide, by decide⟩ (fun h67_7 => ?_) (fun h67_7 => ?_)
              · refine ezw_aload_n rfl rfl ?_
                refine ezw_iload_n rfl rfl ?_
                refine ezw_call0_1 rfl (by omega) (ezu_at rfl) rfl rfl rfl rfl (ezs_m67_30 hI (by omega) hzA hu4) ?_
                rintro _ _ ⟨⟨F, A, rfl, hI⟩, rfl⟩
                refine ezw_aload_n rfl rfl ?_
                refine ezw_call0_0 rfl (by omega) (ezu_at rfl) rfl rfl rfl rfl (ezs_m30_1 hI (by omega) hzT) ?_
                rintro _ _ ⟨⟨F, A, rfl, hI⟩, rfl⟩
                refine ezw_iinc (1) rfl rfl rfl rfl rfl ?_
                refine ezw_goto rfl rfl ?_
                exact ezw_keepE [true, true, true, false] (ihc1 (c1 + (1)) (by omega) ⟨by omega, by omega⟩ (by omega)  F A hI)
              · refine ezw_aload_n rfl rfl ?_
                refine ezw_iconst (5) rfl rfl ?_
                refine ezw_call0_1 rfl (by omega) (ezu_at rfl) rfl rfl rfl rfl (ezs_m50_1 hI (by omega) hzT ⟨by decide, by decide⟩) ?_
                rintro _ _ ⟨⟨F, A, rfl, hI⟩, rfl⟩
                refine ezw_goto rfl rfl ?_
                refine ezw_iinc (1) rfl rfl rfl rfl rfl ?_
                refine ezw_goto rfl rfl ?_
                exact ezw_keepE [true, true, true, false] (ihc1 (c1 + (1)) (by omega) ⟨by omega, by omega⟩ (by omega)  F A hI)
            · refine ezw_aload_n rfl rfl ?_
              refine ezw_iconst (3) rfl rfl ?_
              refine ezw_call0_1 rfl (by omega) (ezu_at rfl) rfl rfl rfl rfl (ezs_m50_1 hI (by omega) hzT ⟨by decide, by decide⟩) ?_
              rintro _ _ ⟨⟨F, A, rfl, hI⟩, rfl⟩
              refine ezw_goto rfl rfl ?_
              refine ezw_iinc (1) rfl rfl rfl rfl rfl ?_
              refine ezw_goto rfl rfl ?_
              exact ezw_keepE [true, true, true, false] (ihc1 (c1 + (1)) (by omega) ⟨by omega, by omega⟩ (by omega)  F A hI)
          · exact ezw_return rfl rfl ⟨⟨F, A, rfl, hI⟩, rfl⟩
        · refine ezw_aload_n rfl rfl ?_
          refine ezw_sipush (259) rfl rfl ?_
          refine ezw_call0_1 rfl (by omega) (ezu_at rfl) rfl rfl rfl rfl (ezs_m46_1 hI (by omega) ⟨by decide, by decide⟩) ?_
          rintro _ _ ⟨rfl, u8, hu8, rfl⟩
          refine ezw_if_eq rfl rfl ⟨by omega, by omega⟩ (fun h26_8 => ?_) (fun h26_8 => ?_)
          · refine ezw_aload_n rfl rfl ?_
            refine ezw_aload_n rfl rfl ?_
            refine ezw_iconst (0) rfl rfl ?_
            refine ezw_call0_2 rfl (by omega) (ezu_at rfl) rfl rfl rfl rfl (ezs_m62_1_30 hI (by omega) hzT ⟨by decide, by decide⟩) ?_
            rintro _ _ ⟨⟨F, A, rfl, hI⟩, u9, hu9, rfl⟩
            refine ezw_istore_n rfl rfl ?_
            refine ezw_aload_n rfl rfl ?_
            refine ezw_call0_0 rfl (by omega) (ezu_at rfl) rfl rfl rfl rfl (ezs_m45_1 hI (by omega)) ?_
            rintro _ _ ⟨rfl, u10, hu10, rfl⟩
            refine ezw_if_ne rfl rfl ⟨by omega, by omega⟩ (fun h41_10 => ?_) (fun h41_10 => ?_)
            · refine ezw_aload_n rfl rfl ?_
              refine ezw_iload_n rfl rfl ?_
              refine ezw_call0_1 rfl (by omega) (ezu_at rfl) rfl rfl rfl rfl (ezs_m66_30 hI (by omega) hu9) ?_
              rintro _ _ ⟨rfl, u11, hu11, rfl⟩
              refine ezw_if_eq rfl rfl ⟨by omega, by omega⟩ (fun h50_11 => ?_) (fun h50_11 => ?_)
              · refine ezw_aload_n rfl rfl ?_
                refine ezs_get_i hI rfl rfl rfl rfl rfl rfl (fun u12 hu12 ku12 => ?_)
                refine ezw_bipush (6) rfl rfl ?_
                refine ezw_icmp_lt rfl rfl hu12 ⟨by decide, by decide⟩ (fun h67_12 => ?_) (fun h67_12 => ?_)
                · refine ezw_aload_n rfl rfl ?_
                  refine ezw_iload_n rfl rfl ?_
                  refine ezw_call0_1 rfl (by omega) (ezu_at rfl) rfl rfl rfl rfl (ezs_m67_30 hI (by omega) hzA hu9) ?_
                  rintro _ _ ⟨⟨F, A, rfl, hI⟩, rfl⟩
                  refine ezw_aload_n rfl rfl ?_
                  refine ezw_call0_0 rfl (by omega) (ezu_at rfl) rfl rfl rfl rfl (ezs_m30_1 hI (by omega) hzT) ?_
                  rintro _ _ ⟨⟨F, A, rfl, hI⟩, rfl⟩
                  refine ezw_iinc (1) rfl rfl rfl rfl rfl ?_
                  refine ezw_goto rfl rfl ?_
                  exact ezw_keepE [true, true, true, false] (ihc1 (c1 + (1)) (by omega) ⟨by omega, by omega⟩ (by omega)  F A hI)
                · refine ezw_aload_n rfl rfl ?_
                  refine ezw_iconst (5) rfl rfl ?_
                  refine ezw_call0_1 rfl (by omega) (ezu_at rfl) rfl rfl rfl rfl (ezs_m50_1 hI (by omega) hzT ⟨by decide, by decide⟩) ?_
                  rintro _ _ ⟨⟨F, A, rfl, hI⟩, rfl⟩
                  refine ezw_goto rfl rfl ?_
                  refine ezw_iinc (1) rfl rfl rfl rfl rfl ?_
                  refine ezw_goto rfl rfl ?_
                  exact ezw_keepE [true, true, true, false] (ihc1 (c1 + (1)) (by omega) ⟨by omega, by omega⟩ (by omega)  F A hI)
              · refine ezw_aload_n rfl rfl ?_
                refine ezw_iconst (3) rfl rfl ?_
                refine ezw_call0_1 rfl (by omega) (ezu_at rfl) rfl rfl rfl rfl (ezs_m50_1 hI (by omega) hzT ⟨by decide, by decide⟩) ?_
                rintro _ _ ⟨⟨F, A, rfl, hI⟩, rfl⟩
                refine ezw_goto rfl rfl ?_
                refine ezw_iinc (1) rfl rfl rfl rfl rfl ?_
                refine ezw_goto rfl rfl ?_
                exact ezw_keepE [true, true, true, false] (ihc1 (c1 + (1)) (by omega) ⟨by omega, by omega⟩ (by omega)  F A hI)
            · exact ezw_return rfl rfl ⟨⟨F, A, rfl, hI⟩, rfl⟩
          · exact ezw_return rfl rfl ⟨⟨F, A, rfl, hI⟩, rfl⟩
  exact ezw_keepE [true, true, true, false] (L2_1 (0) ⟨by decide, by decide⟩ (by omega)  F A hI)
theorem ezs_m68_1_30 {F : Nat → Nat → Int} {A : Nat → Int → Int} (hI : ezs_I fz F0 A0 F A) (hd : 6 ≤ d) (hzA : ∀ q, 4 ≤ q → q < 72 → fz q = false) (hzT : fz 1 = false) : ezw_C l ρ B xa Hb D cA 68 d [ezw_p 1, ezw_p 30] (ezu_g e F A) (ezs_P e fz F0 A0 ezs_rn) := by
  refine ezw_met (k := 0) rfl rfl ?_
  refine ezw_aload_n rfl rfl ?_
  refine ezw_bipush (7) rfl rfl ?_
  refine ezw_call0_1 rfl (by omega) (ezu_at rfl) rfl rfl rfl rfl (ezs_m56_1 hI (by omega) hzT ⟨by decide, by decide⟩) ?_
  rintro _ _ ⟨⟨F, A, rfl, hI⟩, rfl⟩
  refine ezw_aload_n rfl rfl ?_
  refine ezw_iconst (0) rfl rfl ?_
  refine ezw_aload_n rfl rfl ?_
  refine ezw_iconst (0) rfl rfl ?_
  refine ezw_sipush (999) rfl rfl ?_
  refine ezw_call0_2 rfl (by omega) (ezu_at rfl) rfl rfl rfl rfl (ezs_m57_1 hI (by omega) hzT ⟨by decide, by decide⟩ ⟨by decide, by decide⟩) ?_
  rintro _ _ ⟨⟨F, A, rfl, hI⟩, u1, hu1, rfl⟩
  refine ezw_call0_2 rfl (by omega) (ezu_at rfl) rfl rfl rfl rfl (ezs_m69_30 hI (by omega) hzA ⟨by decide, by decide⟩ ⟨by omega, by omega⟩ (by omega)) ?_
  rintro _ _ ⟨⟨F, A, rfl, hI⟩, rfl⟩
  refine ezw_aload_n rfl rfl ?_
  refine ezw_bipush (8) rfl rfl ?_
  refine ezw_call0_1 rfl (by omega) (ezu_at rfl) rfl rfl rfl rfl (ezs_m56_1 hI (by omega) hzT ⟨by decide, by decide⟩) ?_
  rintro _ _ ⟨⟨F, A, rfl, hI⟩, rfl⟩
  refine ezw_aload_n rfl rfl ?_
  refine ezw_iconst (1) rfl rfl ?_
  refine ezw_aload_n rfl rfl ?_
  refine ezw_iconst (0) rfl rfl ?_
  refine ezw_bipush (99) rfl rfl ?_
  refine ezw_call0_2 rfl (by omega) (ezu_at rfl) rfl rfl rfl rfl (ezs_m57_1 hI (by omega) hzT ⟨by decide, by decide⟩ ⟨by decide, by decide⟩) ?_
  rintro _ _ ⟨⟨F, A, rfl, hI⟩, u2, hu2, rfl⟩
  refine ezw_call0_2 rfl (by omega) (ezu_at rfl) rfl rfl rfl rfl (ezs_m69_30 hI (by omega) hzA ⟨by decide, by decide⟩ ⟨by omega, by omega⟩ (by omega)) ?_
  rintro _ _ ⟨⟨F, A, rfl, hI⟩, rfl⟩
  exact ezw_return rfl rfl ⟨⟨F, A, rfl, hI⟩, rfl⟩
theorem ezs_m70_1_30 {F : Nat → Nat → Int} {A : Nat → Int → Int} (hI : ezs_I fz F0 A0 F A) (hd : 6 ≤ d) (hzA : ∀ q, 4 ≤ q → q < 72 → fz q = false) (hzT : fz 1 = false) : ezw_C l ρ B xa Hb D cA 70 d [ezw_p 1, ezw_p 30] (ezu_g e F A) (ezs_P e fz F0 A0 ezs_rn) := by
  refine ezw_met (k := 5) rfl rfl ?_
  refine ezw_aload_n rfl rfl ?_
  refine ezw_aload_n rfl rfl ?_
  refine ezw_call2_2 rfl (by omega) rfl rfl (ezs_m52_1_30 hI (by omega) hzT) ?_
  rintro _ _ ⟨⟨F, A, rfl, hI⟩, u1, hu1, rfl⟩
  refine ezw_lstore_n rfl rfl ?_
  refine ezw_aload_n rfl rfl ?_
  refine ezw_bipush (7) rfl rfl ?_
  refine ezw_call0_1 rfl (by omega) (ezu_at rfl) rfl rfl rfl rfl (ezs_m56_1 hI (by omega) hzT ⟨by decide, by decide⟩) ?_
  rintro _ _ ⟨⟨F, A, rfl, hI⟩, rfl⟩
  refine ezw_aload_n rfl rfl ?_
  refine ezw_iconst (0) rfl rfl ?_
  refine ezw_sipush (999) rfl rfl ?_
  refine ezw_call0_2 rfl (by omega) (ezu_at rfl) rfl rfl rfl rfl (ezs_m57_1 hI (by omega) hzT ⟨by decide, by decide⟩ ⟨by decide, by decide⟩) ?_
  rintro _ _ ⟨⟨F, A, rfl, hI⟩, u2, hu2, rfl⟩
  refine ezw_istore rfl rfl ?_
  refine ezw_aload_n rfl rfl ?_
  refine ezw_bipush (10) rfl rfl ?_
  refine ezw_call0_1 rfl (by omega) (ezu_at rfl) rfl rfl rfl rfl (ezs_m56_1 hI (by omega) hzT ⟨by decide, by decide⟩) ?_
  rintro _ _ ⟨⟨F, A, rfl, hI⟩, rfl⟩
  refine ezw_aload_n rfl rfl ?_
  refine ezw_iconst (0) rfl rfl ?_
  refine ezw_bipush (10) rfl rfl ?_
  refine ezw_call0_2 rfl (by omega) (ezu_at rfl) rfl rfl rfl rfl (ezs_m57_1 hI (by omega) hzT ⟨by decide, by decide⟩ ⟨by decide, by decide⟩) ?_
  rintro _ _ ⟨⟨F, A, rfl, hI⟩, u3, hu3, rfl⟩
  refine ezw_istore rfl rfl ?_
  refine ezw_aload_n rfl rfl ?_
  refine ezw_bipush (11) rfl rfl ?_
  refine ezw_call0_1 rfl (by omega) (ezu_at rfl) rfl rfl rfl rfl (ezs_m56_1 hI (by omega) hzT ⟨by decide, by decide⟩) ?_
  rintro _ _ ⟨⟨F, A, rfl, hI⟩, rfl⟩
  refine ezw_aload_n rfl rfl ?_
  refine ezw_iconst (0) rfl rfl ?_
  refine ezw_bipush (10) rfl rfl ?_
  refine ezw_iload rfl rfl ?_
  refine ezs_isub rfl (fun u4 hu4 => ?_)
  refine ezw_call0_2 rfl (by omega) (ezu_at rfl) rfl rfl rfl rfl (ezs_m57_1 hI (by omega) hzT ⟨by decide, by decide⟩ hu4) ?_
  rintro _ _ ⟨⟨F, A, rfl, hI⟩, u5, hu5, rfl⟩
  refine ezw_istore rfl rfl ?_
  refine ezw_aload_n rfl rfl ?_
  refine ezw_call0_0 rfl (by omega) (ezu_at rfl) rfl rfl rfl rfl (ezs_m45_1 hI (by omega)) ?_
  rintro _ _ ⟨rfl, u6, hu6, rfl⟩
  refine ezw_if_eq rfl rfl ⟨by omega, by omega⟩ (fun h59_6 => ?_) (fun h59_6 => ?_)
  · exact ezw_return rfl rfl ⟨⟨F, A, rfl, hI⟩, rfl⟩
  · refine ezw_aload_n rfl rfl ?_
    refine ezw_lload_n rfl rfl ?_
    refine ezw_iload rfl rfl ?_
    refine ezw_iload rfl rfl ?_
    refine ezw_iload rfl rfl ?_
    refine ezw_call0_4 rfl (by omega) (ezu_at rfl) rfl rfl rfl rfl (ezs_m71_30 hI (by omega) hzA hu1 ⟨by omega, by omega⟩ ⟨by omega, by omega⟩ ⟨by omega, by omega⟩) ?_
    rintro _ _ ⟨⟨F, A, rfl, hI⟩, rfl⟩
    exact ezw_return rfl rfl ⟨⟨F, A, rfl, hI⟩, rfl⟩
theorem ezs_m72_1_30 {F : Nat → Nat → Int} {A : Nat → Int → Int} (hI : ezs_I fz F0 A0 F A) (hd : 6 ≤ d) (hzA : ∀ q, 4 ≤ q → q < 72 → fz q = false) (hzT : fz 1 = false) : ezw_C l ρ B xa Hb D cA 72 d [ezw_p 1, ezw_p 30] (ezu_g e F A) (ezs_P e fz F0 A0 ezs_rn) := by
  refine ezw_met (k := 2) rfl rfl ?_
  refine ezw_aload_n rfl rfl ?_
  refine ezw_aload_n rfl rfl ?_
  refine ezw_iconst (1) rfl rfl ?_
  refine ezw_call0_2 rfl (by omega) (ezu_at rfl) rfl rfl rfl rfl (ezs_m61_1_30 hI (by omega) hzT ⟨by decide, by decide⟩) ?_
  rintro _ _ ⟨⟨F, A, rfl, hI⟩, u1, hu1, rfl⟩
  refine ezw_istore_n rfl rfl ?_
  refine ezw_aload_n rfl rfl ?_
  refine ezw_call0_0 rfl (by omega) (ezu_at rfl) rfl rfl rfl rfl (ezs_m45_1 hI (by omega)) ?_
  rintro _ _ ⟨rfl, u2, hu2, rfl⟩
  refine ezw_if_ne rfl rfl ⟨by omega, by omega⟩ (fun h11_2 => ?_) (fun h11_2 => ?_)
  · refine ezw_aload_n rfl rfl ?_
    refine ezw_aload_n rfl rfl ?_
    refine ezw_iconst (1) rfl rfl ?_
    refine ezw_call0_2 rfl (by omega) (ezu_at rfl) rfl rfl rfl rfl (ezs_m62_1_30 hI (by omega) hzT ⟨by decide, by decide⟩) ?_
    rintro _ _ ⟨⟨F, A, rfl, hI⟩, u3, hu3, rfl⟩
    refine ezw_istore_n rfl rfl ?_
    refine ezw_aload_n rfl rfl ?_
    refine ezw_call0_0 rfl (by omega) (ezu_at rfl) rfl rfl rfl rfl (ezs_m45_1 hI (by omega)) ?_
    rintro _ _ ⟨rfl, u4, hu4, rfl⟩
    refine ezw_if_ne rfl rfl ⟨by omega, by omega⟩ (fun h26_4 => ?_) (fun h26_4 => ?_)
    · refine ezw_iload_n rfl rfl ?_
      refine ezw_iload_n rfl rfl ?_
      refine ezw_icmp_eq rfl rfl hu1 hu3 (fun h32_4 => ?_) (fun h32_4 => ?_)
      · refine ezw_aload_n rfl rfl ?_
        refine ezw_iconst (3) rfl rfl ?_
        refine ezw_call0_1 rfl (by omega) (ezu_at rfl) rfl rfl rfl rfl (ezs_m50_1 hI (by omega) hzT ⟨by decide, by decide⟩) ?_
        rintro _ _ ⟨⟨F, A, rfl, hI⟩, rfl⟩
        refine ezw_goto rfl rfl ?_
        exact ezw_return rfl rfl ⟨⟨F, A, rfl, hI⟩, rfl⟩
      · refine ezw_aload_n rfl rfl ?_
        refine ezw_iload_n rfl rfl ?_
        refine ezw_iload_n rfl rfl ?_
        refine ezw_call0_2 rfl (by omega) (ezu_at rfl) rfl rfl rfl rfl (ezs_m73_30 hI (by omega) hu1 hu3) ?_
        rintro _ _ ⟨rfl, u5, hu5, rfl⟩
        refine ezw_if_eq rfl rfl ⟨by omega, by omega⟩ (fun h41_5 => ?_) (fun h41_5 => ?_)
        · refine ezw_aload_n rfl rfl ?_
          refine ezw_iload_n rfl rfl ?_
          refine ezw_iload_n rfl rfl ?_
          refine ezw_call0_2 rfl (by omega) (ezu_at rfl) rfl rfl rfl rfl (ezs_m74_30 hI (by omega) hzA hu1 hu3) ?_
          rintro _ _ ⟨⟨F, A, rfl, hI⟩, rfl⟩
          refine ezw_aload_n rfl rfl ?_
          refine ezw_call0_0 rfl (by omega) (ezu_at rfl) rfl rfl rfl rfl (ezs_m30_1 hI (by omega) hzT) ?_
          rintro _ _ ⟨⟨F, A, rfl, hI⟩, rfl⟩
          exact ezw_return rfl rfl ⟨⟨F, A, rfl, hI⟩, rfl⟩
        · refine ezw_aload_n rfl rfl ?_
          refine ezw_iconst (3) rfl rfl ?_
          refine ezw_call0_1 rfl (by omega) (ezu_at rfl) rfl rfl rfl rfl (ezs_m50_1 hI (by omega) hzT ⟨by decide, by decide⟩) ?_
          rintro _ _ ⟨⟨F, A, rfl, hI⟩, rfl⟩
          refine ezw_goto rfl rfl ?_
          exact ezw_return rfl rfl ⟨⟨F, A, rfl, hI⟩, rfl⟩
    · exact ezw_return rfl rfl ⟨⟨F, A, rfl, hI⟩, rfl⟩
  · exact ezw_return rfl rfl ⟨⟨F, A, rfl, hI⟩, rfl⟩
theorem ezs_m75_1_30 {F : Nat → Nat → Int} {A : Nat → Int → Int} (hI : ezs_I fz F0 A0 F A) (hd : 6 ≤ d) (hzA : ∀ q, 4 ≤ q → q < 72 → fz q = false) (hzT : fz 1 = false) : ezw_C l ρ B xa Hb D cA 75 d [ezw_p 1, ezw_p 30] (ezu_g e F A) (ezs_P e fz F0 A0 ezs_rn) := by
  refine ezw_met (k := 1) rfl rfl ?_
  refine ezw_aload_n rfl rfl ?_
  refine ezw_iconst (2) rfl rfl ?_
  refine ezw_aload_n rfl rfl ?_
  refine ezw_bipush (30) rfl rfl ?_
  refine ezw_iconst (4) rfl rfl ?_
  refine ezw_call0_2 rfl (by omega) (ezu_at rfl) rfl rfl rfl rfl (ezs_m59_1 hI (by omega) hzT ⟨by decide, by decide⟩ (by omega) ⟨by decide, by decide⟩ (by omega)) ?_
  rintro _ _ ⟨⟨F, A, rfl, hI⟩, u1, hu1, rfl⟩
  refine ezw_call0_2 rfl (by omega) (ezu_at rfl) rfl rfl rfl rfl (ezs_m69_30 hI (by omega) hzA ⟨by decide, by decide⟩ ⟨by omega, by omega⟩ (by omega)) ?_
  rintro _ _ ⟨⟨F, A, rfl, hI⟩, rfl⟩
  refine ezw_aload_n rfl rfl ?_
  refine ezw_iconst (0) rfl rfl ?_
  refine ezw_bipush (10) rfl rfl ?_
  refine ezw_call0_2 rfl (by omega) (ezu_at rfl) rfl rfl rfl rfl (ezs_m57_1 hI (by omega) hzT ⟨by decide, by decide⟩ ⟨by decide, by decide⟩) ?_
  rintro _ _ ⟨⟨F, A, rfl, hI⟩, u2, hu2, rfl⟩
  refine ezw_istore_n rfl rfl ?_
  refine ezw_aload_n rfl rfl ?_
  refine ezw_iconst (3) rfl rfl ?_
  refine ezw_iload_n rfl rfl ?_
  refine ezw_call0_2 rfl (by omega) (ezu_at rfl) rfl rfl rfl rfl (ezs_m69_30 hI (by omega) hzA ⟨by decide, by decide⟩ ⟨by omega, by omega⟩ (by omega)) ?_
  rintro _ _ ⟨⟨F, A, rfl, hI⟩, rfl⟩
  refine ezw_aload_n rfl rfl ?_
  refine ezw_iconst (4) rfl rfl ?_
  refine ezw_aload_n rfl rfl ?_
  refine ezw_iconst (0) rfl rfl ?_
  refine ezw_bipush (10) rfl rfl ?_
  refine ezw_iload_n rfl rfl ?_
  refine ezs_isub rfl (fun u3 hu3 => ?_)
  refine ezw_call0_2 rfl (by omega) (ezu_at rfl) rfl rfl rfl rfl (ezs_m57_1 hI (by omega) hzT ⟨by decide, by decide⟩ hu3) ?_
  rintro _ _ ⟨⟨F, A, rfl, hI⟩, u4, hu4, rfl⟩
  refine ezw_call0_2 rfl (by omega) (ezu_at rfl) rfl rfl rfl rfl (ezs_m69_30 hI (by omega) hzA ⟨by decide, by decide⟩ ⟨by omega, by omega⟩ (by omega)) ?_
  rintro _ _ ⟨⟨F, A, rfl, hI⟩, rfl⟩
  exact ezw_return rfl rfl ⟨⟨F, A, rfl, hI⟩, rfl⟩
theorem ezs_m76_1_30 {F : Nat → Nat → Int} {A : Nat → Int → Int} (hI : ezs_I fz F0 A0 F A) (hd : 6 ≤ d) (hzA : ∀ q, 4 ≤ q → q < 72 → fz q = false) (hzT : fz 1 = false) : ezw_C l ρ B xa Hb D cA 76 d [ezw_p 1, ezw_p 30] (ezu_g e F A) (ezs_P e fz F0 A0 ezs_rn) := by
  refine ezw_met (k := 0) rfl rfl ?_
  refine ezw_aload_n rfl rfl ?_
  refine ezw_bipush (7) rfl rfl ?_
  refine ezw_aload_n rfl rfl ?_
  refine ezw_iconst (0) rfl rfl ?_
  refine ezw_bipush (60) rfl rfl ?_
  refine ezw_call0_2 rfl (by omega) (ezu_at rfl) rfl rfl rfl rfl (ezs_m57_1 hI (by omega) hzT ⟨by decide, by decide⟩ ⟨by decide, by decide⟩) ?_
  rintro _ _ ⟨⟨F, A, rfl, hI⟩, u1, hu1, rfl⟩
  refine ezw_call0_2 rfl (by omega) (ezu_at rfl) rfl rfl rfl rfl (ezs_m69_30 hI (by omega) hzA ⟨by decide, by decide⟩ ⟨by omega, by omega⟩ (by omega)) ?_
  rintro _ _ ⟨⟨F, A, rfl, hI⟩, rfl⟩
  refine ezw_aload_n rfl rfl ?_
  refine ezw_bipush (17) rfl rfl ?_
  refine ezw_call0_1 rfl (by omega) (ezu_at rfl) rfl rfl rfl rfl (ezs_m56_1 hI (by omega) hzT ⟨by decide, by decide⟩) ?_
  rintro _ _ ⟨⟨F, A, rfl, hI⟩, rfl⟩
  refine ezw_aload_n rfl rfl ?_
  refine ezw_bipush (8) rfl rfl ?_
  refine ezw_aload_n rfl rfl ?_
  refine ezw_iconst (0) rfl rfl ?_
  refine ezw_bipush (60) rfl rfl ?_
  refine ezw_call0_2 rfl (by omega) (ezu_at rfl) rfl rfl rfl rfl (ezs_m57_1 hI (by omega) hzT ⟨by decide, by decide⟩ ⟨by decide, by decide⟩) ?_
  rintro _ _ ⟨⟨F, A, rfl, hI⟩, u2, hu2, rfl⟩
  refine ezw_call0_2 rfl (by omega) (ezu_at rfl) rfl rfl rfl rfl (ezs_m69_30 hI (by omega) hzA ⟨by decide, by decide⟩ ⟨by omega, by omega⟩ (by omega)) ?_
  rintro _ _ ⟨⟨F, A, rfl, hI⟩, rfl⟩
  exact ezw_return rfl rfl ⟨⟨F, A, rfl, hI⟩, rfl⟩
theorem ezs_m21_39 {a1 a2 : Int} {F : Nat → Nat → Int} {A : Nat → Int → Int} (hI : ezs_I fz F0 A0 F A) (hd : 0 ≤ d) (hzA : ∀ q, 4 ≤ q → q < 72 → fz q = false) (ha1 : ezw_in a1) (ha2 : ezw_in a2) : ezw_C l ρ B xa Hb D cA 21 d [ezw_p 39, ezw_i a1, ezw_i a2] (ezu_g e F A) (ezs_P e fz F0 A0 ezs_rn) := by
  refine ezw_met (k := 0) rfl rfl ?_
  refine ezw_aload_n rfl rfl ?_
  refine ezw_ifnull rfl ?_
  refine ezw_iload_n rfl rfl ?_
  refine ezw_if_lt rfl rfl ha1 (fun h5_0 => ?_) (fun h5_0 => ?_)
  · exact ezw_return rfl rfl ⟨⟨F, A, rfl, hI⟩, rfl⟩
  · refine ezw_iload_n rfl rfl ?_
    refine ezw_aload_n rfl rfl ?_
    refine ezs_alen (k := 16) rfl rfl rfl rfl (by decide) (by decide) ?_
    refine ezw_icmp_ge rfl rfl ha1 ⟨by decide, by decide⟩ (fun h11_0 => ?_) (fun h11_0 => ?_)
    · exact ezw_return rfl rfl ⟨⟨F, A, rfl, hI⟩, rfl⟩
    · refine ezw_aload_n rfl rfl ?_
      refine ezw_iload_n rfl rfl ?_
      refine ezw_iload_n rfl rfl ?_
      refine ezs_iastore hI rfl rfl rfl (by omega) (by omega) (by decide) (hzA 39 (by decide) (by decide)) ha2 (fun F A hI => ?_)
      exact ezw_return rfl rfl ⟨⟨F, A, rfl, hI⟩, rfl⟩
theorem ezs_m79_38 {a1 a2 : Int} {F : Nat → Nat → Int} {A : Nat → Int → Int} (hI : ezs_I fz F0 A0 F A) (hd : 1 ≤ d) (hzA : ∀ q, 4 ≤ q → q < 72 → fz q = false) (ha1 : ezw_in a1) (ha2 : ezw_in a2) : ezw_C l ρ B xa Hb D cA 79 d [ezw_p 38, ezw_i a1, ezw_i a2] (ezu_g e F A) (ezs_P e fz F0 A0 ezs_rn) := by
  refine ezw_met (k := 0) rfl rfl ?_
  refine ezw_aload_n rfl rfl ?_
  refine ezs_getp (p := 39) rfl rfl rfl rfl rfl ?_
  refine ezw_iload_n rfl rfl ?_
  refine ezw_aload_n rfl rfl ?_
  refine ezs_getp (p := 39) rfl rfl rfl rfl rfl ?_
  refine ezw_iload_n rfl rfl ?_
  refine ezw_call3_2 rfl (by omega) rfl rfl (ezs_m27_39 hI (by omega) ha1) ?_
  rintro _ _ ⟨rfl, u1, hu1, rfl⟩
  refine ezw_iconst (1) rfl rfl ?_
  refine ezw_iload_n rfl rfl ?_
  refine ezw_ishlO rfl (fun u2 hu2 => ?_)
  refine ezs_ior rfl (fun u3 hu3 => ?_)
  refine ezw_call3_3 rfl (by omega) rfl rfl (ezs_m21_39 hI (by omega) hzA ha1 hu3) ?_
  rintro _ _ ⟨⟨F, A, rfl, hI⟩, rfl⟩
  refine ezw_aload_n rfl rfl ?_
  refine ezw_dup rfl rfl ?_
  refine ezs_get_i hI rfl rfl rfl rfl rfl rfl (fun u4 hu4 ku4 => ?_)
  refine ezw_iconst (1) rfl rfl ?_
  refine ezs_iadd rfl (fun u5 hu5 => ?_)
  refine ezs_put_i hI rfl rfl rfl rfl rfl (hzA 38 (by decide) (by decide)) hu5 (fun F A hI => ?_)
  exact ezw_return rfl rfl ⟨⟨F, A, rfl, hI⟩, rfl⟩
theorem ezs_m77_1_30 {F : Nat → Nat → Int} {A : Nat → Int → Int} (hI : ezs_I fz F0 A0 F A) (hd : 6 ≤ d) (hzA : ∀ q, 4 ≤ q → q < 72 → fz q = false) (hzT : fz 1 = false) : ezw_C l ρ B xa Hb D cA 77 d [ezw_p 1, ezw_p 30] (ezu_g e F A) (ezs_P e fz F0 A0 ezs_rn) := by
  refine ezw_met (k := 2) rfl rfl ?_
  refine ezw_aload_n rfl rfl ?_
  refine ezw_iconst (0) rfl rfl ?_
  refine ezw_bipush (15) rfl rfl ?_
  refine ezw_call0_2 rfl (by omega) (ezu_at rfl) rfl rfl rfl rfl (ezs_m57_1 hI (by omega) hzT ⟨by decide, by decide⟩ ⟨by decide, by decide⟩) ?_
  rintro _ _ ⟨⟨F, A, rfl, hI⟩, u1, hu1, rfl⟩
  refine ezw_istore_n rfl rfl ?_
  refine ezw_aload_n rfl rfl ?_
  refine ezw_iconst (0) rfl rfl ?_
  refine ezw_bipush (15) rfl rfl ?_
  refine ezw_call0_2 rfl (by omega) (ezu_at rfl) rfl rfl rfl rfl (ezs_m58_1 hI (by omega) hzT ⟨by decide, by decide⟩ ⟨by decide, by decide⟩) ?_
  rintro _ _ ⟨⟨F, A, rfl, hI⟩, u2, hu2, rfl⟩
  refine ezw_istore_n rfl rfl ?_
  refine ezw_aload_n rfl rfl ?_
  refine ezw_call0_0 rfl (by omega) (ezu_at rfl) rfl rfl rfl rfl (ezs_m45_1 hI (by omega)) ?_
  rintro _ _ ⟨rfl, u3, hu3, rfl⟩
  refine ezw_if_ne rfl rfl ⟨by omega, by omega⟩ (fun h20_3 => ?_) (fun h20_3 => ?_)
  · refine ezw_aload_n rfl rfl ?_
    refine ezs_getp (p := 38) rfl rfl rfl rfl rfl ?_
    refine ezw_iload_n rfl rfl ?_
    refine ezw_iload_n rfl rfl ?_
    refine ezw_call0_2 rfl (by omega) (ezu_at rfl) rfl rfl rfl rfl (ezs_m78_38 hI (by omega) ⟨by omega, by omega⟩ ⟨by omega, by omega⟩) ?_
    rintro _ _ ⟨rfl, u4, hu4, rfl⟩
    refine ezw_if_eq rfl rfl ⟨by omega, by omega⟩ (fun h33_4 => ?_) (fun h33_4 => ?_)
    · refine ezw_aload_n rfl rfl ?_
      refine ezs_getp (p := 38) rfl rfl rfl rfl rfl ?_
      refine ezw_iload_n rfl rfl ?_
      refine ezw_iload_n rfl rfl ?_
      refine ezw_call0_2 rfl (by omega) (ezu_at rfl) rfl rfl rfl rfl (ezs_m79_38 hI (by omega) hzA ⟨by omega, by omega⟩ ⟨by omega, by omega⟩) ?_
      rintro _ _ ⟨⟨F, A, rfl, hI⟩, rfl⟩
      refine ezw_aload_n rfl rfl ?_
      refine ezw_call0_0 rfl (by omega) (ezu_at rfl) rfl rfl rfl rfl (ezs_m30_1 hI (by omega) hzT) ?_
      rintro _ _ ⟨⟨F, A, rfl, hI⟩, rfl⟩
      exact ezw_return rfl rfl ⟨⟨F, A, rfl, hI⟩, rfl⟩
    · refine ezw_aload_n rfl rfl ?_
      refine ezw_iconst (3) rfl rfl ?_
      refine ezw_call0_1 rfl (by omega) (ezu_at rfl) rfl rfl rfl rfl (ezs_m50_1 hI (by omega) hzT ⟨by decide, by decide⟩) ?_
      rintro _ _ ⟨⟨F, A, rfl, hI⟩, rfl⟩
      refine ezw_goto rfl rfl ?_
      exact ezw_return rfl rfl ⟨⟨F, A, rfl, hI⟩, rfl⟩
  · exact ezw_return rfl rfl ⟨⟨F, A, rfl, hI⟩, rfl⟩
theorem ezs_m21_45 {a1 a2 : Int} {F : Nat → Nat → Int} {A : Nat → Int → Int} (hI : ezs_I fz F0 A0 F A) (hd : 0 ≤ d) (hzA : ∀ q, 4 ≤ q → q < 72 → fz q = false) (ha1 : ezw_in a1) (ha2 : ezw_in a2) : ezw_C l ρ B xa Hb D cA 21 d [ezw_p 45, ezw_i a1, ezw_i a2] (ezu_g e F A) (ezs_P e fz F0 A0 ezs_rn) := by
  refine ezw_met (k := 0) rfl rfl ?_
  refine ezw_aload_n rfl rfl ?_
  refine ezw_ifnull rfl ?_
  refine ezw_iload_n rfl rfl ?_
  refine ezw_if_lt rfl rfl ha1 (fun h5_0 => ?_) (fun h5_0 => ?_)
  · exact ezw_return rfl rfl ⟨⟨F, A, rfl, hI⟩, rfl⟩
  · refine ezw_iload_n rfl rfl ?_
    refine ezw_aload_n rfl rfl ?_
    refine ezs_alen (k := 480) rfl rfl rfl rfl (by decide) (by decide) ?_
    refine ezw_icmp_ge rfl rfl ha1 ⟨by decide, by decide⟩ (fun h11_0 => ?_) (fun h11_0 => ?_)
    · exact ezw_return rfl rfl ⟨⟨F, A, rfl, hI⟩, rfl⟩
    · refine ezw_aload_n rfl rfl ?_
      refine ezw_iload_n rfl rfl ?_
      refine ezw_iload_n rfl rfl ?_
      refine ezs_iastore hI rfl rfl rfl (by omega) (by omega) (by decide) (hzA 45 (by decide) (by decide)) ha2 (fun F A hI => ?_)
      exact ezw_return rfl rfl ⟨⟨F, A, rfl, hI⟩, rfl⟩
theorem ezs_m21_46 {a1 a2 : Int} {F : Nat → Nat → Int} {A : Nat → Int → Int} (hI : ezs_I fz F0 A0 F A) (hd : 0 ≤ d) (hzA : ∀ q, 4 ≤ q → q < 72 → fz q = false) (ha1 : ezw_in a1) (ha2 : ezw_in a2) : ezw_C l ρ B xa Hb D cA 21 d [ezw_p 46, ezw_i a1, ezw_i a2] (ezu_g e F A) (ezs_P e fz F0 A0 ezs_rn) := by
  refine ezw_met (k := 0) rfl rfl ?_
  refine ezw_aload_n rfl rfl ?_
  refine ezw_ifnull rfl ?_
  refine ezw_iload_n rfl rfl ?_
  refine ezw_if_lt rfl rfl ha1 (fun h5_0 => ?_) (fun h5_0 => ?_)
  · exact ezw_return rfl rfl ⟨⟨F, A, rfl, hI⟩, rfl⟩
  · refine ezw_iload_n rfl rfl ?_
    refine ezw_aload_n rfl rfl ?_
    refine ezs_alen (k := 480) rfl rfl rfl rfl (by decide) (by decide) ?_
    refine ezw_icmp_ge rfl rfl ha1 ⟨by decide, by decide⟩ (fun h11_0 => ?_) (fun h11_0 => ?_)
    · exact ezw_return rfl rfl ⟨⟨F, A, rfl, hI⟩, rfl⟩
    · refine ezw_aload_n rfl rfl ?_
      refine ezw_iload_n rfl rfl ?_
      refine ezw_iload_n rfl rfl ?_
      refine ezs_iastore hI rfl rfl rfl (by omega) (by omega) (by decide) (hzA 46 (by decide) (by decide)) ha2 (fun F A hI => ?_)
      exact ezw_return rfl rfl ⟨⟨F, A, rfl, hI⟩, rfl⟩
theorem ezs_m86_30_5_9 {a3 a4 a5 a6 : Int} {F : Nat → Nat → Int} {A : Nat → Int → Int} (hI : ezs_I fz F0 A0 F A) (hd : 4 ≤ d) (hzA : ∀ q, 4 ≤ q → q < 72 → fz q = false) (ha3 : ezw_in a3) (ha4 : ezw_in a4) (ha5 : ezw_in a5) (ha6 : ezw_in a6) : ezw_C l ρ B xa Hb D cA 86 d [ezw_p 30, ezw_p 5, ezw_p 9, ezw_i a3, ezw_i a4, ezw_i a5, ezw_i a6] (ezu_g e F A) (ezs_P e fz F0 A0 ezs_rn) := by
  refine ezw_met (k := 4) rfl rfl ?_
  refine ezw_aload_n rfl rfl ?_
  refine ezs_getp (p := 32) rfl rfl rfl rfl rfl ?_
  refine ezw_iload_n rfl rfl ?_
  refine ezw_call3_2 rfl (by omega) rfl rfl (ezs_m27_32 hI (by omega) ha3) ?_
  rintro _ _ ⟨rfl, u1, hu1, rfl⟩
  refine ezw_istore rfl rfl ?_
  refine ezw_iload rfl rfl ?_
  have J37_2 : ∀ y2 : Int, ezw_in y2 → ∀ F A, ezs_I fz F0 A0 F A → ezw_E l ρ B xa Hb D cA d ezq_re86 (ezs_P e fz F0 A0 ezs_rn) 37 [some (ezw_p 30), some (ezw_p 5), some (ezw_p 9), some (ezw_i a3), some (ezw_i a4), some (ezw_i a5), some (ezw_i a6), some (ezw_i u1), none, none, none] [(ezw_i y2)] (ezu_g e F A) := by
    intro y2 hy2 F A hI
    refine ezw_istore rfl rfl ?_
    refine ezw_iload rfl rfl ?_
    refine ezw_iconst (2) rfl rfl ?_
    refine ezw_iload rfl rfl ?_
    refine ezs_imul rfl (fun u4 hu4 => ?_)
    refine ezs_iadd rfl (fun u5 hu5 => ?_)
    refine ezw_istore rfl rfl ?_
    refine ezw_aload_n rfl rfl ?_
    refine ezs_get_z hI rfl rfl rfl rfl rfl rfl (fun u6 hu6 ku6 => ?_)
    have J69_7 : ∀ y7 : Int, ezw_in y7 → ∀ F A, ezs_I fz F0 A0 F A → ezw_E l ρ B xa Hb D cA d ezq_re86 (ezs_P e fz F0 A0 ezs_rn) 69 [some (ezw_p 30), some (ezw_p 5), some (ezw_p 9), some (ezw_i a3), some (ezw_i a4), some (ezw_i a5), some (ezw_i a6), some (ezw_i u1), some (ezw_i y7), some (ezw_i u5), none] [] (ezu_g e F A) := by
      intro y7 hy7 F A hI
      refine ezw_aload_n rfl rfl ?_
      refine ezs_get_z hI rfl rfl rfl rfl rfl rfl (fun u9 hu9 ku9 => ?_)
      have J90_10 : ∀ y10 : Int, ezw_in y10 → ∀ F A, ezs_I fz F0 A0 F A → ezw_E l ρ B xa Hb D cA d ezq_re86 (ezs_P e fz F0 A0 ezs_rn) 90 [some (ezw_p 30), some (ezw_p 5), some (ezw_p 9), some (ezw_i a3), some (ezw_i a4), some (ezw_i a5), some (ezw_i a6), some (ezw_i u1), some (ezw_i y7), some (ezw_i y10), none] [] (ezu_g e F A) := by
        intro y10 hy10 F A hI
        refine ezw_iload_n rfl rfl ?_
        refine ezw_iload rfl rfl ?_
        refine ezw_iload rfl rfl ?_
        refine ezw_iload rfl rfl ?_
        refine ezw_call2_4 rfl (by omega) rfl rfl (ezs_m92 hI (by omega) ha3 ha4 ha5 ha6) ?_
        rintro _ _ ⟨rfl, u12, hu12, rfl⟩
        refine ezw_istore rfl rfl ?_
        refine ezw_aload_n rfl rfl ?_
        refine ezs_getp (p := 45) rfl rfl rfl rfl rfl ?_
        refine ezw_iload rfl rfl ?_
        refine ezw_iconst (0) rfl rfl ?_
        refine ezw_bipush (10) rfl rfl ?_
        refine ezw_iload rfl rfl ?_
        refine ezw_mminE rfl ⟨by decide, by decide⟩ hy7 rfl (fun u13 hu13 => ?_)
        refine ezw_mmaxE rfl ⟨by decide, by decide⟩ ⟨by omega, by omega⟩ rfl (fun u14 hu14 => ?_)
        refine ezw_call3_3 rfl (by omega) rfl rfl (ezs_m21_45 hI (by omega) hzA hu12 ⟨by omega, by omega⟩) ?_
        rintro _ _ ⟨⟨F, A, rfl, hI⟩, rfl⟩
        refine ezw_aload_n rfl rfl ?_
        refine ezs_getp (p := 46) rfl rfl rfl rfl rfl ?_
        refine ezw_iload rfl rfl ?_
        refine ezw_iconst (0) rfl rfl ?_
        refine ezw_bipush (10) rfl rfl ?_
        refine ezw_iload rfl rfl ?_
        refine ezw_mminE rfl ⟨by decide, by decide⟩ hy10 rfl (fun u15 hu15 => ?_)
        refine ezw_mmaxE rfl ⟨by decide, by decide⟩ ⟨by omega, by omega⟩ rfl (fun u16 hu16 => ?_)
        refine ezw_call3_3 rfl (by omega) rfl rfl (ezs_m21_46 hI (by omega) hzA hu12 ⟨by omega, by omega⟩) ?_
        rintro _ _ ⟨⟨F, A, rfl, hI⟩, rfl⟩
        exact ezw_return rfl rfl ⟨⟨F, A, rfl, hI⟩, rfl⟩
      refine ezw_if_eq rfl rfl hu9 (fun h73_9 => ?_) (fun h73_9 => ?_)
      · exact ezw_keepE [true, true, true, true, true, true, true, true, true, true, false] (J90_10 u5 hu5 F A hI)
      · refine ezw_aload_n rfl rfl ?_
        refine ezw_iload rfl rfl ?_
        refine ezw_iload rfl rfl ?_
        refine ezw_iload rfl rfl ?_
        refine ezw_iload rfl rfl ?_
        refine ezw_call0_4 rfl (by omega) (ezu_at rfl) rfl rfl rfl rfl (ezs_m87_9 hI (by omega) hzA ha4 hu1 ha5 ha6) ?_
        rintro _ _ ⟨⟨F, A, rfl, hI⟩, u17, hu17, rfl⟩
        refine ezw_istore rfl rfl ?_
        exact ezw_keepE [true, true, true, true, true, true, true, true, true, true, false] (J90_10 u17 hu17 F A hI)
    refine ezw_if_eq rfl rfl hu6 (fun h52_6 => ?_) (fun h52_6 => ?_)
    · exact ezw_keepE [true, true, true, true, true, true, true, true, true, true, false] (J69_7 y2 hy2 F A hI)
    · refine ezw_aload_n rfl rfl ?_
      refine ezw_iload rfl rfl ?_
      refine ezw_iload rfl rfl ?_
      refine ezw_iload rfl rfl ?_
      refine ezw_iload rfl rfl ?_
      refine ezw_call0_4 rfl (by omega) (ezu_at rfl) rfl rfl rfl rfl (ezs_m87_5 hI (by omega) hzA ha4 hu1 ha5 ha6) ?_
      rintro _ _ ⟨⟨F, A, rfl, hI⟩, u18, hu18, rfl⟩
      refine ezw_istore rfl rfl ?_
      exact ezw_keepE [true, true, true, true, true, true, true, true, true, true, false] (J69_7 u18 hu18 F A hI)
  refine ezw_if_ne rfl rfl ha5 (fun h12_1 => ?_) (fun h12_1 => ?_)
  · refine ezw_iload rfl rfl ?_
    refine ezw_iconst (1) rfl rfl ?_
    refine ezw_icmp_ne rfl rfl ha5 ⟨by decide, by decide⟩ (fun h26_18 => ?_) (fun h26_18 => ?_)
    · refine ezw_iconst (0) rfl rfl ?_
      exact ezw_keepE [true, true, true, true, true, true, true, true, false, false, false] (J37_2 (0) ⟨by decide, by decide⟩ F A hI)
    · refine ezw_iconst (3) rfl rfl ?_
      refine ezw_iload rfl rfl ?_
      refine ezs_isub rfl (fun u19 hu19 => ?_)
      refine ezw_goto rfl rfl ?_
      exact ezw_keepE [true, true, true, true, true, true, true, true, false, false, false] (J37_2 u19 hu19 F A hI)
  · refine ezw_bipush (10) rfl rfl ?_
    refine ezw_iload rfl rfl ?_
    refine ezs_isub rfl (fun u20 hu20 => ?_)
    refine ezw_goto rfl rfl ?_
    exact ezw_keepE [true, true, true, true, true, true, true, true, false, false, false] (J37_2 u20 hu20 F A hI)
theorem ezs_m85_30_5_9 {F : Nat → Nat → Int} {A : Nat → Int → Int} (hI : ezs_I fz F0 A0 F A) (hd : 5 ≤ d) (hzA : ∀ q, 4 ≤ q → q < 72 → fz q = false) : ezw_C l ρ B xa Hb D cA 85 d [ezw_p 30, ezw_p 5, ezw_p 9] (ezu_g e F A) (ezs_P e fz F0 A0 ezs_rn) := by
  refine ezw_met (k := 3) rfl rfl ?_
  refine ezw_iconst (0) rfl rfl ?_
  refine ezw_istore_n rfl rfl ?_
  have L2_1 : ∀ c1 : Int, ezw_in c1 → (0) ≤ c1 → ∀ F A, ezs_I fz F0 A0 F A → ezw_E l ρ B xa Hb D cA d ezq_re85 (ezs_P e fz F0 A0 ezs_rn) 2 [some (ezw_p 30), some (ezw_p 5), some (ezw_p 9), some (ezw_i c1), none, none] [] (ezu_g e F A) := by
    refine ezs_up ?_
    intro c1 hc1 ihc1 gc1 F A hI
    refine ezw_iload_n rfl rfl ?_
    refine ezw_aload_n rfl rfl ?_
    refine ezs_get_i hI rfl rfl rfl rfl rfl rfl (fun u3 hu3 ku3 => ?_)
    refine ezw_icmp_ge rfl rfl hc1 hu3 (fun h7_3 => ?_) (fun h7_3 => ?_)
    · exact ezw_return rfl rfl ⟨⟨F, A, rfl, hI⟩, rfl⟩
    · refine ezw_iconst (0) rfl rfl ?_
      refine ezw_istore rfl rfl ?_
      have L13_4 : ∀ c4 : Int, ezw_in c4 → (0) ≤ c4 → ∀ F A, ezs_I fz F0 A0 F A → ezw_E l ρ B xa Hb D cA d ezq_re85 (ezs_P e fz F0 A0 ezs_rn) 13 [some (ezw_p 30), some (ezw_p 5), some (ezw_p 9), some (ezw_i c1), some (ezw_i c4), none] [] (ezu_g e F A) := by
        refine ezs_up ?_
        intro c4 hc4 ihc4 gc4 F A hI
        refine ezw_iload rfl rfl ?_
        refine ezw_bipush (9) rfl rfl ?_
        refine ezw_icmp_gt rfl rfl hc4 ⟨by decide, by decide⟩ (fun h17_5 => ?_) (fun h17_5 => ?_)
        · refine ezw_iinc (1) rfl rfl rfl rfl rfl ?_
          refine ezw_goto rfl rfl ?_
          exact ezw_keepE [true, true, true, true, false, false] (ihc1 (c1 + (1)) (by omega) ⟨by omega, by omega⟩ (by omega)  F A hI)
        · refine ezw_iconst (0) rfl rfl ?_
          refine ezw_istore rfl rfl ?_
          have L23_6 : ∀ c6 : Int, ezw_in c6 → (0) ≤ c6 → ∀ F A, ezs_I fz F0 A0 F A → ezw_E l ρ B xa Hb D cA d ezq_re85 (ezs_P e fz F0 A0 ezs_rn) 23 [some (ezw_p 30), some (ezw_p 5), some (ezw_p 9), some (ezw_i c1), some (ezw_i c4), some (ezw_i c6)] [] (ezu_g e F A) := by
            refine ezs_up ?_
            intro c6 hc6 ihc6 gc6 F A hI
            refine ezw_iload rfl rfl ?_
            refine ezw_iconst (3) rfl rfl ?_
            refine ezw_icmp_ge rfl rfl hc6 ⟨by decide, by decide⟩ (fun h26_7 => ?_) (fun h26_7 => ?_)
            · refine ezw_iinc (1) rfl rfl rfl rfl rfl ?_
              refine ezw_goto rfl rfl ?_
              exact ezw_keepE [true, true, true, true, true, false] (ihc4 (c4 + (1)) (by omega) ⟨by omega, by omega⟩ (by omega)  F A hI)
            · refine ezw_aload_n rfl rfl ?_
              refine ezw_aload_n rfl rfl ?_
              refine ezw_aload_n rfl rfl ?_
              refine ezw_iload_n rfl rfl ?_
              refine ezw_iload rfl rfl ?_
              refine ezw_iload rfl rfl ?_
              refine ezw_iconst (0) rfl rfl ?_
              refine ezw_call0_6 rfl (by omega) (ezu_at rfl) rfl rfl rfl rfl (ezs_m86_30_5_9 hI (by omega) hzA hc1 hc4 hc6 ⟨by decide, by decide⟩) ?_
              rintro _ _ ⟨⟨F, A, rfl, hI⟩, rfl⟩
              refine ezw_aload_n rfl rfl ?_
              refine ezw_aload_n rfl rfl ?_
              refine ezw_aload_n rfl rfl ?_
              refine ezw_iload_n rfl rfl ?_
              refine ezw_iload rfl rfl ?_
              refine ezw_iload rfl rfl ?_
              refine ezw_iconst (1) rfl rfl ?_
              refine ezw_call0_6 rfl (by omega) (ezu_at rfl) rfl rfl rfl rfl (ezs_m86_30_5_9 hI (by omega) hzA hc1 hc4 hc6 ⟨by decide, by decide⟩) ?_
              rintro _ _ ⟨⟨F, A, rfl, hI⟩, rfl⟩
              refine ezw_iinc (1) rfl rfl rfl rfl rfl ?_
              refine ezw_goto rfl rfl ?_
              exact ezw_keepE [true, true, true, true, true, true] (ihc6 (c6 + (1)) (by omega) ⟨by omega, by omega⟩ (by omega)  F A hI)
          exact ezw_keepE [true, true, true, true, true, true] (L23_6 (0) ⟨by decide, by decide⟩ (by omega)  F A hI)
      exact ezw_keepE [true, true, true, true, true, false] (L13_4 (0) ⟨by decide, by decide⟩ (by omega)  F A hI)
  exact ezw_keepE [true, true, true, true, false, false] (L2_1 (0) ⟨by decide, by decide⟩ (by omega)  F A hI)
theorem ezs_m48_4_1_30 {a3 : Int} {F : Nat → Nat → Int} {A : Nat → Int → Int} (hI : ezs_I fz F0 A0 F A) (hd : 1 ≤ d) (hzT : fz 1 = false) (ha3 : ezw_in a3) : ezw_C l ρ B xa Hb D cA 48 d [ezw_p 4, ezw_p 1, ezw_p 30, ezw_i a3] (ezu_g e F A) (ezs_P e fz F0 A0 ezs_rn) := by
  refine ezw_met (k := 2) rfl rfl ?_
  refine ezw_iconst (0) rfl rfl ?_
  refine ezw_istore rfl rfl ?_
  refine ezw_iconst (0) rfl rfl ?_
  refine ezw_istore rfl rfl ?_
  refine ezw_iload_n rfl rfl ?_
  have J201_2 : ∀ y1 : Int, ezs_b y1 → ∀ y2 : Int, ezs_b y2 → ∀ F A, ezs_I fz F0 A0 F A → ezw_E l ρ B xa Hb D cA d ezq_re48 (ezs_P e fz F0 A0 ezs_rn) 201 [some (ezw_p 4), some (ezw_p 1), some (ezw_p 30), some (ezw_i a3), some (ezw_i y1), some (ezw_i y2)] [] (ezu_g e F A) := by
    intro y1 hy1 y2 hy2 F A hI
    refine ezw_iload rfl rfl ?_
    have J211_3 : ∀ F A, ezs_I fz F0 A0 F A → ezw_E l ρ B xa Hb D cA d ezq_re48 (ezs_P e fz F0 A0 ezs_rn) 211 [some (ezw_p 4), some (ezw_p 1), some (ezw_p 30), some (ezw_i a3), some (ezw_i y1), some (ezw_i y2)] [] (ezu_g e F A) := by
      intro F A hI
      refine ezw_iload rfl rfl ?_
      refine ezw_if_eq rfl rfl ⟨by omega, by omega⟩ (fun h213_4 => ?_) (fun h213_4 => ?_)
      · exact ezw_return rfl rfl ⟨⟨F, A, rfl, hI⟩, rfl⟩
      · refine ezw_aload_n rfl rfl ?_
        refine ezw_iconst (5) rfl rfl ?_
        refine ezw_call0_1 rfl (by omega) (ezu_at rfl) rfl rfl rfl rfl (ezs_m50_1 hI (by omega) hzT ⟨by decide, by decide⟩) ?_
        rintro _ _ ⟨⟨F, A, rfl, hI⟩, rfl⟩
        exact ezw_return rfl rfl ⟨⟨F, A, rfl, hI⟩, rfl⟩
    refine ezw_if_eq rfl rfl ⟨by omega, by omega⟩ (fun h203_3 => ?_) (fun h203_3 => ?_)
    · exact ezw_keepE [true, true, true, true, true, true] (J211_3  F A hI)
    · refine ezw_aload_n rfl rfl ?_
      refine ezw_iconst (3) rfl rfl ?_
      refine ezw_call0_1 rfl (by omega) (ezu_at rfl) rfl rfl rfl rfl (ezs_m50_1 hI (by omega) hzT ⟨by decide, by decide⟩) ?_
      rintro _ _ ⟨⟨F, A, rfl, hI⟩, rfl⟩
      exact ezw_keepE [true, true, true, true, true, true] (J211_3  F A hI)
  by_cases q5 : a3 = (0)
  · refine ezw_tableswitchE (v := 0) (p := 112) q5 rfl (by rfl) ?_
    refine ezw_aload_n rfl rfl ?_
    refine ezs_get_i hI rfl rfl rfl rfl rfl rfl (fun u6 hu6 ku6 => ?_)
    refine ezw_bipush (8) rfl rfl ?_
    refine ezw_icmp_lt rfl rfl hu6 ⟨by decide, by decide⟩ (fun h118_6 => ?_) (fun h118_6 => ?_)
    · refine ezw_iconst (0) rfl rfl ?_
      refine ezw_istore rfl rfl ?_
      refine ezw_goto rfl rfl ?_
      exact ezw_keepE [true, true, true, true, true, true] (J201_2 (0) ⟨by omega, by omega⟩ (0) ⟨by omega, by omega⟩ F A hI)
    · refine ezw_iconst (1) rfl rfl ?_
      refine ezw_goto rfl rfl ?_
      refine ezw_istore rfl rfl ?_
      refine ezw_goto rfl rfl ?_
      exact ezw_keepE [true, true, true, true, true, true] (J201_2 (1) ⟨by omega, by omega⟩ (0) ⟨by omega, by omega⟩ F A hI)
  by_cases q7 : a3 = (1)
  · refine ezw_tableswitchE (v := 1) (p := 196) q7 rfl (by rfl) ?_
    refine ezw_aload_n rfl rfl ?_
    refine ezw_iconst (1) rfl rfl ?_
    refine ezw_call0_1 rfl (by omega) (ezu_at rfl) rfl rfl rfl rfl (ezs_m50_1 hI (by omega) hzT ⟨by decide, by decide⟩) ?_
    rintro _ _ ⟨⟨F, A, rfl, hI⟩, rfl⟩
    exact ezw_keepE [true, true, true, true, true, true] (J201_2 (0) ⟨by omega, by omega⟩ (0) ⟨by omega, by omega⟩ F A hI)
  by_cases q8 : a3 = (2)
  · refine ezw_tableswitchE (v := 2) (p := 196) q8 rfl (by rfl) ?_
    refine ezw_aload_n rfl rfl ?_
    refine ezw_iconst (1) rfl rfl ?_
    refine ezw_call0_1 rfl (by omega) (ezu_at rfl) rfl rfl rfl rfl (ezs_m50_1 hI (by omega) hzT ⟨by decide, by decide⟩) ?_
    rintro _ _ ⟨⟨F, A, rfl, hI⟩, rfl⟩
    exact ezw_keepE [true, true, true, true, true, true] (J201_2 (0) ⟨by omega, by omega⟩ (0) ⟨by omega, by omega⟩ F A hI)
  by_cases q9 : a3 = (3)
  · refine ezw_tableswitchE (v := 3) (p := 196) q9 rfl (by rfl) ?_
    refine ezw_aload_n rfl rfl ?_
    refine ezw_iconst (1) rfl rfl ?_
    refine ezw_call0_1 rfl (by omega) (ezu_at rfl) rfl rfl rfl rfl (ezs_m50_1 hI (by omega) hzT ⟨by decide, by decide⟩) ?_
    rintro _ _ ⟨⟨F, A, rfl, hI⟩, rfl⟩
    exact ezw_keepE [true, true, true, true, true, true] (J201_2 (0) ⟨by omega, by omega⟩ (0) ⟨by omega, by omega⟩ F A hI)
  by_cases q10 : a3 = (4)
  · refine ezw_tableswitchE (v := 4) (p := 196) q10 rfl (by rfl) ?_
    refine ezw_aload_n rfl rfl ?_
    refine ezw_iconst (1) rfl rfl ?_
    refine ezw_call0_1 rfl (by omega) (ezu_at rfl) rfl rfl rfl rfl (ezs_m50_1 hI (by omega) hzT ⟨by decide, by decide⟩) ?_
    rintro _ _ ⟨⟨F, A, rfl, hI⟩, rfl⟩
    exact ezw_keepE [true, true, true, true, true, true] (J201_2 (0) ⟨by omega, by omega⟩ (0) ⟨by omega, by omega⟩ F A hI)
  by_cases q11 : a3 = (5)
  · refine ezw_tableswitchE (v := 5) (p := 174) q11 rfl (by rfl) ?_
    refine ezw_aload_n rfl rfl ?_
    refine ezs_get_i hI rfl rfl rfl rfl rfl rfl (fun u12 hu12 ku12 => ?_)
    refine ezw_iload_n rfl rfl ?_
    refine ezw_call3_2 rfl (by omega) rfl rfl (ezs_m49 hI (by omega) hu12 ha3) ?_
    rintro _ _ ⟨rfl, u13, hu13, rfl⟩
    refine ezw_iconst (1) rfl rfl ?_
    refine ezw_icmp_ne rfl rfl hu13 ⟨by decide, by decide⟩ (fun h183_13 => ?_) (fun h183_13 => ?_)
    · refine ezw_iconst (0) rfl rfl ?_
      refine ezw_istore rfl rfl ?_
      refine ezw_goto rfl rfl ?_
      exact ezw_keepE [true, true, true, true, true, true] (J201_2 (0) ⟨by omega, by omega⟩ (0) ⟨by omega, by omega⟩ F A hI)
    · refine ezw_iconst (1) rfl rfl ?_
      refine ezw_goto rfl rfl ?_
      refine ezw_istore rfl rfl ?_
      refine ezw_goto rfl rfl ?_
      exact ezw_keepE [true, true, true, true, true, true] (J201_2 (0) ⟨by omega, by omega⟩ (1) ⟨by omega, by omega⟩ F A hI)
  by_cases q14 : a3 = (6)
  · refine ezw_tableswitchE (v := 6) (p := 174) q14 rfl (by rfl) ?_
    refine ezw_aload_n rfl rfl ?_
    refine ezs_get_i hI rfl rfl rfl rfl rfl rfl (fun u15 hu15 ku15 => ?_)
    refine ezw_iload_n rfl rfl ?_
    refine ezw_call3_2 rfl (by omega) rfl rfl (ezs_m49 hI (by omega) hu15 ha3) ?_
    rintro _ _ ⟨rfl, u16, hu16, rfl⟩
    refine ezw_iconst (1) rfl rfl ?_
    refine ezw_icmp_ne rfl rfl hu16 ⟨by decide, by decide⟩ (fun h183_16 => ?_) (fun h183_16 => ?_)
    · refine ezw_iconst (0) rfl rfl ?_
      refine ezw_istore rfl rfl ?_
      refine ezw_goto rfl rfl ?_
      exact ezw_keepE [true, true, true, true, true, true] (J201_2 (0) ⟨by omega, by omega⟩ (0) ⟨by omega, by omega⟩ F A hI)
    · refine ezw_iconst (1) rfl rfl ?_
      refine ezw_goto rfl rfl ?_
      refine ezw_istore rfl rfl ?_
      refine ezw_goto rfl rfl ?_
      exact ezw_keepE [true, true, true, true, true, true] (J201_2 (0) ⟨by omega, by omega⟩ (1) ⟨by omega, by omega⟩ F A hI)
  by_cases q17 : a3 = (7)
  · refine ezw_tableswitchE (v := 7) (p := 196) q17 rfl (by rfl) ?_
    refine ezw_aload_n rfl rfl ?_
    refine ezw_iconst (1) rfl rfl ?_
    refine ezw_call0_1 rfl (by omega) (ezu_at rfl) rfl rfl rfl rfl (ezs_m50_1 hI (by omega) hzT ⟨by decide, by decide⟩) ?_
    rintro _ _ ⟨⟨F, A, rfl, hI⟩, rfl⟩
    exact ezw_keepE [true, true, true, true, true, true] (J201_2 (0) ⟨by omega, by omega⟩ (0) ⟨by omega, by omega⟩ F A hI)
  by_cases q18 : a3 = (8)
  · refine ezw_tableswitchE (v := 8) (p := 196) q18 rfl (by rfl) ?_
    refine ezw_aload_n rfl rfl ?_
    refine ezw_iconst (1) rfl rfl ?_
    refine ezw_call0_1 rfl (by omega) (ezu_at rfl) rfl rfl rfl rfl (ezs_m50_1 hI (by omega) hzT ⟨by decide, by decide⟩) ?_
    rintro _ _ ⟨⟨F, A, rfl, hI⟩, rfl⟩
    exact ezw_keepE [true, true, true, true, true, true] (J201_2 (0) ⟨by omega, by omega⟩ (0) ⟨by omega, by omega⟩ F A hI)
  by_cases q19 : a3 = (9)
  · refine ezw_tableswitchE (v := 9) (p := 131) q19 rfl (by rfl) ?_
    refine ezw_aload_n rfl rfl ?_
    refine ezs_get_i hI rfl rfl rfl rfl rfl rfl (fun u20 hu20 ku20 => ?_)
    refine ezw_iconst (4) rfl rfl ?_
    refine ezw_icmp_lt rfl rfl hu20 ⟨by decide, by decide⟩ (fun h136_20 => ?_) (fun h136_20 => ?_)
    · refine ezw_iconst (0) rfl rfl ?_
      refine ezw_istore rfl rfl ?_
      refine ezw_goto rfl rfl ?_
      exact ezw_keepE [true, true, true, true, true, true] (J201_2 (0) ⟨by omega, by omega⟩ (0) ⟨by omega, by omega⟩ F A hI)
    · refine ezw_iconst (1) rfl rfl ?_
      refine ezw_goto rfl rfl ?_
      refine ezw_istore rfl rfl ?_
      refine ezw_goto rfl rfl ?_
      exact ezw_keepE [true, true, true, true, true, true] (J201_2 (1) ⟨by omega, by omega⟩ (0) ⟨by omega, by omega⟩ F A hI)
  by_cases q21 : a3 = (10)
  · refine ezw_tableswitchE (v := 10) (p := 196) q21 rfl (by rfl) ?_
    refine ezw_aload_n rfl rfl ?_
    refine ezw_iconst (1) rfl rfl ?_
    refine ezw_call0_1 rfl (by omega) (ezu_at rfl) rfl rfl rfl rfl (ezs_m50_1 hI (by omega) hzT ⟨by decide, by decide⟩) ?_
    rintro _ _ ⟨⟨F, A, rfl, hI⟩, rfl⟩
    exact ezw_keepE [true, true, true, true, true, true] (J201_2 (0) ⟨by omega, by omega⟩ (0) ⟨by omega, by omega⟩ F A hI)
  by_cases q22 : a3 = (11)
  · refine ezw_tableswitchE (v := 11) (p := 196) q22 rfl (by rfl) ?_
    refine ezw_aload_n rfl rfl ?_
    refine ezw_iconst (1) rfl rfl ?_
    refine ezw_call0_1 rfl (by omega) (ezu_at rfl) rfl rfl rfl rfl (ezs_m50_1 hI (by omega) hzT ⟨by decide, by decide⟩) ?_
    rintro _ _ ⟨⟨F, A, rfl, hI⟩, rfl⟩
    exact ezw_keepE [true, true, true, true, true, true] (J201_2 (0) ⟨by omega, by omega⟩ (0) ⟨by omega, by omega⟩ F A hI)
  by_cases q23 : a3 = (12)
  · refine ezw_tableswitchE (v := 12) (p := 171) q23 rfl (by rfl) ?_
    refine ezw_goto rfl rfl ?_
    exact ezw_keepE [true, true, true, true, true, true] (J201_2 (0) ⟨by omega, by omega⟩ (0) ⟨by omega, by omega⟩ F A hI)
  by_cases q24 : a3 = (13)
  · refine ezw_tableswitchE (v := 13) (p := 174) q24 rfl (by rfl) ?_
    refine ezw_aload_n rfl rfl ?_
    refine ezs_get_i hI rfl rfl rfl rfl rfl rfl (fun u25 hu25 ku25 => ?_)
    refine ezw_iload_n rfl rfl ?_
    refine ezw_call3_2 rfl (by omega) rfl rfl (ezs_m49 hI (by omega) hu25 ha3) ?_
    rintro _ _ ⟨rfl, u26, hu26, rfl⟩
    refine ezw_iconst (1) rfl rfl ?_
    refine ezw_icmp_ne rfl rfl hu26 ⟨by decide, by decide⟩ (fun h183_26 => ?_) (fun h183_26 => ?_)
    · refine ezw_iconst (0) rfl rfl ?_
      refine ezw_istore rfl rfl ?_
      refine ezw_goto rfl rfl ?_
      exact ezw_keepE [true, true, true, true, true, true] (J201_2 (0) ⟨by omega, by omega⟩ (0) ⟨by omega, by omega⟩ F A hI)
    · refine ezw_iconst (1) rfl rfl ?_
      refine ezw_goto rfl rfl ?_
      refine ezw_istore rfl rfl ?_
      refine ezw_goto rfl rfl ?_
      exact ezw_keepE [true, true, true, true, true, true] (J201_2 (0) ⟨by omega, by omega⟩ (1) ⟨by omega, by omega⟩ F A hI)
  by_cases q27 : a3 = (14)
  · refine ezw_tableswitchE (v := 14) (p := 174) q27 rfl (by rfl) ?_
    refine ezw_aload_n rfl rfl ?_
    refine ezs_get_i hI rfl rfl rfl rfl rfl rfl (fun u28 hu28 ku28 => ?_)
    refine ezw_iload_n rfl rfl ?_
    refine ezw_call3_2 rfl (by omega) rfl rfl (ezs_m49 hI (by omega) hu28 ha3) ?_
    rintro _ _ ⟨rfl, u29, hu29, rfl⟩
    refine ezw_iconst (1) rfl rfl ?_
    refine ezw_icmp_ne rfl rfl hu29 ⟨by decide, by decide⟩ (fun h183_29 => ?_) (fun h183_29 => ?_)
    · refine ezw_iconst (0) rfl rfl ?_
      refine ezw_istore rfl rfl ?_
      refine ezw_goto rfl rfl ?_
      exact ezw_keepE [true, true, true, true, true, true] (J201_2 (0) ⟨by omega, by omega⟩ (0) ⟨by omega, by omega⟩ F A hI)
    · refine ezw_iconst (1) rfl rfl ?_
      refine ezw_goto rfl rfl ?_
      refine ezw_istore rfl rfl ?_
      refine ezw_goto rfl rfl ?_
      exact ezw_keepE [true, true, true, true, true, true] (J201_2 (0) ⟨by omega, by omega⟩ (1) ⟨by omega, by omega⟩ F A hI)
  by_cases q30 : a3 = (15)
  · refine ezw_tableswitchE (v := 15) (p := 174) q30 rfl (by rfl) ?_
    refine ezw_aload_n rfl rfl ?_
    refine ezs_get_i hI rfl rfl rfl rfl rfl rfl (fun u31 hu31 ku31 => ?_)
    refine ezw_iload_n rfl rfl ?_
    refine ezw_call3_2 rfl (by omega) rfl rfl (ezs_m49 hI (by omega) hu31 ha3) ?_
    rintro _ _ ⟨rfl, u32, hu32, rfl⟩
    refine ezw_iconst (1) rfl rfl ?_
    refine ezw_icmp_ne rfl rfl hu32 ⟨by decide, by decide⟩ (fun h183_32 => ?_) (fun h183_32 => ?_)
    · refine ezw_iconst (0) rfl rfl ?_
      refine ezw_istore rfl rfl ?_
      refine ezw_goto rfl rfl ?_
      exact ezw_keepE [true, true, true, true, true, true] (J201_2 (0) ⟨by omega, by omega⟩ (0) ⟨by omega, by omega⟩ F A hI)
    · refine ezw_iconst (1) rfl rfl ?_
      refine ezw_goto rfl rfl ?_
      refine ezw_istore rfl rfl ?_
      refine ezw_goto rfl rfl ?_
      exact ezw_keepE [true, true, true, true, true, true] (J201_2 (0) ⟨by omega, by omega⟩ (1) ⟨by omega, by omega⟩ F A hI)
  by_cases q33 : a3 = (16)
  · refine ezw_tableswitchE (v := 16) (p := 174) q33 rfl (by rfl) ?_
    refine ezw_aload_n rfl rfl ?_
    refine ezs_get_i hI rfl rfl rfl rfl rfl rfl (fun u34 hu34 ku34 => ?_)
    refine ezw_iload_n rfl rfl ?_
    refine ezw_call3_2 rfl (by omega) rfl rfl (ezs_m49 hI (by omega) hu34 ha3) ?_
    rintro _ _ ⟨rfl, u35, hu35, rfl⟩
    refine ezw_iconst (1) rfl rfl ?_
    refine ezw_icmp_ne rfl rfl hu35 ⟨by decide, by decide⟩ (fun h183_35 => ?_) (fun h183_35 => ?_)
    · refine ezw_iconst (0) rfl rfl ?_
      refine ezw_istore rfl rfl ?_
      refine ezw_goto rfl rfl ?_
      exact ezw_keepE [true, true, true, true, true, true] (J201_2 (0) ⟨by omega, by omega⟩ (0) ⟨by omega, by omega⟩ F A hI)
    · refine ezw_iconst (1) rfl rfl ?_
      refine ezw_goto rfl rfl ?_
      refine ezw_istore rfl rfl ?_
      refine ezw_goto rfl rfl ?_
      exact ezw_keepE [true, true, true, true, true, true] (J201_2 (0) ⟨by omega, by omega⟩ (1) ⟨by omega, by omega⟩ F A hI)
  by_cases q36 : a3 = (17)
  · refine ezw_tableswitchE (v := 17) (p := 196) q36 rfl (by rfl) ?_
    refine ezw_aload_n rfl rfl ?_
    refine ezw_iconst (1) rfl rfl ?_
    refine ezw_call0_1 rfl (by omega) (ezu_at rfl) rfl rfl rfl rfl (ezs_m50_1 hI (by omega) hzT ⟨by decide, by decide⟩) ?_
    rintro _ _ ⟨⟨F, A, rfl, hI⟩, rfl⟩
    exact ezw_keepE [true, true, true, true, true, true] (J201_2 (0) ⟨by omega, by omega⟩ (0) ⟨by omega, by omega⟩ F A hI)
  by_cases q37 : a3 = (18)
  · refine ezw_tableswitchE (v := 18) (p := 174) q37 rfl (by rfl) ?_
    refine ezw_aload_n rfl rfl ?_
    refine ezs_get_i hI rfl rfl rfl rfl rfl rfl (fun u38 hu38 ku38 => ?_)
    refine ezw_iload_n rfl rfl ?_
    refine ezw_call3_2 rfl (by omega) rfl rfl (ezs_m49 hI (by omega) hu38 ha3) ?_
    rintro _ _ ⟨rfl, u39, hu39, rfl⟩
    refine ezw_iconst (1) rfl rfl ?_
    refine ezw_icmp_ne rfl rfl hu39 ⟨by decide, by decide⟩ (fun h183_39 => ?_) (fun h183_39 => ?_)
    · refine ezw_iconst (0) rfl rfl ?_
      refine ezw_istore rfl rfl ?_
      refine ezw_goto rfl rfl ?_
      exact ezw_keepE [true, true, true, true, true, true] (J201_2 (0) ⟨by omega, by omega⟩ (0) ⟨by omega, by omega⟩ F A hI)
    · refine ezw_iconst (1) rfl rfl ?_
      refine ezw_goto rfl rfl ?_
      refine ezw_istore rfl rfl ?_
      refine ezw_goto rfl rfl ?_
      exact ezw_keepE [true, true, true, true, true, true] (J201_2 (0) ⟨by omega, by omega⟩ (1) ⟨by omega, by omega⟩ F A hI)
  by_cases q40 : a3 = (19)
  · refine ezw_tableswitchE (v := 19) (p := 174) q40 rfl (by rfl) ?_
    refine ezw_aload_n rfl rfl ?_
    refine ezs_get_i hI rfl rfl rfl rfl rfl rfl (fun u41 hu41 ku41 => ?_)
    refine ezw_iload_n rfl rfl ?_
    refine ezw_call3_2 rfl (by omega) rfl rfl (ezs_m49 hI (by omega) hu41 ha3) ?_
    rintro _ _ ⟨rfl, u42, hu42, rfl⟩
    refine ezw_iconst (1) rfl rfl ?_
    refine ezw_icmp_ne rfl rfl hu42 ⟨by decide, by decide⟩ (fun h183_42 => ?_) (fun h183_42 => ?_)
    · refine ezw_iconst (0) rfl rfl ?_
      refine ezw_istore rfl rfl ?_
      refine ezw_goto rfl rfl ?_
      exact ezw_keepE [true, true, true, true, true, true] (J201_2 (0) ⟨by omega, by omega⟩ (0) ⟨by omega, by omega⟩ F A hI)
    · refine ezw_iconst (1) rfl rfl ?_
      refine ezw_goto rfl rfl ?_
      refine ezw_istore rfl rfl ?_
      refine ezw_goto rfl rfl ?_
      exact ezw_keepE [true, true, true, true, true, true] (J201_2 (0) ⟨by omega, by omega⟩ (1) ⟨by omega, by omega⟩ F A hI)
  by_cases q43 : a3 = (20)
  · refine ezw_tableswitchE (v := 20) (p := 149) q43 rfl (by rfl) ?_
    refine ezw_aload_n rfl rfl ?_
    refine ezs_getp (p := 38) rfl rfl rfl rfl rfl ?_
    refine ezs_get_i hI rfl rfl rfl rfl rfl rfl (fun u44 hu44 ku44 => ?_)
    refine ezw_bipush (8) rfl rfl ?_
    refine ezw_icmp_lt rfl rfl hu44 ⟨by decide, by decide⟩ (fun h158_44 => ?_) (fun h158_44 => ?_)
    · refine ezw_iconst (0) rfl rfl ?_
      refine ezw_istore rfl rfl ?_
      refine ezw_goto rfl rfl ?_
      exact ezw_keepE [true, true, true, true, true, true] (J201_2 (0) ⟨by omega, by omega⟩ (0) ⟨by omega, by omega⟩ F A hI)
    · refine ezw_iconst (1) rfl rfl ?_
      refine ezw_goto rfl rfl ?_
      refine ezw_istore rfl rfl ?_
      refine ezw_goto rfl rfl ?_
      exact ezw_keepE [true, true, true, true, true, true] (J201_2 (1) ⟨by omega, by omega⟩ (0) ⟨by omega, by omega⟩ F A hI)
  by_cases q45 : a3 = (21)
  · refine ezw_tableswitchE (v := 21) (p := 174) q45 rfl (by rfl) ?_
    refine ezw_aload_n rfl rfl ?_
    refine ezs_get_i hI rfl rfl rfl rfl rfl rfl (fun u46 hu46 ku46 => ?_)
    refine ezw_iload_n rfl rfl ?_
    refine ezw_call3_2 rfl (by omega) rfl rfl (ezs_m49 hI (by omega) hu46 ha3) ?_
    rintro _ _ ⟨rfl, u47, hu47, rfl⟩
    refine ezw_iconst (1) rfl rfl ?_
    refine ezw_icmp_ne rfl rfl hu47 ⟨by decide, by decide⟩ (fun h183_47 => ?_) (fun h183_47 => ?_)
    · refine ezw_iconst (0) rfl rfl ?_
      refine ezw_istore rfl rfl ?_
      refine ezw_goto rfl rfl ?_
      exact ezw_keepE [true, true, true, true, true, true] (J201_2 (0) ⟨by omega, by omega⟩ (0) ⟨by omega, by omega⟩ F A hI)
    · refine ezw_iconst (1) rfl rfl ?_
      refine ezw_goto rfl rfl ?_
      refine ezw_istore rfl rfl ?_
      refine ezw_goto rfl rfl ?_
      exact ezw_keepE [true, true, true, true, true, true] (J201_2 (0) ⟨by omega, by omega⟩ (1) ⟨by omega, by omega⟩ F A hI)
  by_cases q48 : a3 = (22)
  · refine ezw_tableswitchE (v := 22) (p := 174) q48 rfl (by rfl) ?_
    refine ezw_aload_n rfl rfl ?_
    refine ezs_get_i hI rfl rfl rfl rfl rfl rfl (fun u49 hu49 ku49 => ?_)
    refine ezw_iload_n rfl rfl ?_
    refine ezw_call3_2 rfl (by omega) rfl rfl (ezs_m49 hI (by omega) hu49 ha3) ?_
    rintro _ _ ⟨rfl, u50, hu50, rfl⟩
    refine ezw_iconst (1) rfl rfl ?_
    refine ezw_icmp_ne rfl rfl hu50 ⟨by decide, by decide⟩ (fun h183_50 => ?_) (fun h183_50 => ?_)
    · refine ezw_iconst (0) rfl rfl ?_
      refine ezw_istore rfl rfl ?_
      refine ezw_goto rfl rfl ?_
      exact ezw_keepE [true, true, true, true, true, true] (J201_2 (0) ⟨by omega, by omega⟩ (0) ⟨by omega, by omega⟩ F A hI)
    · refine ezw_iconst (1) rfl rfl ?_
      refine ezw_goto rfl rfl ?_
      refine ezw_istore rfl rfl ?_
      refine ezw_goto rfl rfl ?_
      exact ezw_keepE [true, true, true, true, true, true] (J201_2 (0) ⟨by omega, by omega⟩ (1) ⟨by omega, by omega⟩ F A hI)
  refine ezw_tableswitch (p := 196) rfl (ezs_swd ha3 (And.intro (And.intro ⟨by decide, by decide⟩ (fun z => q5 z.symm)) (And.intro (And.intro ⟨by decide, by decide⟩ (fun z => q7 z.symm)) (And.intro (And.intro ⟨by decide, by decide⟩ (fun z => q8 z.symm)) (And.intro (And.intro ⟨by decide, by decide⟩ (fun z => q9 z.symm)) (And.intro (And.intro ⟨by decide, by decide⟩ (fun z => q10 z.symm)) (And.intro (And.intro ⟨by decide, by decide⟩ (fun z => q11 z.symm)) (And.intro (And.intro ⟨by decide, by decide⟩ (fun z => q14 z.symm)) (And.intro (And.intro ⟨by decide, by decide⟩ (fun z => q17 z.symm)) (And.intro (And.intro ⟨by decide, by decide⟩ (fun z => q18 z.symm)) (And.intro (And.intro ⟨by decide, by decide⟩ (fun z => q19 z.symm)) (And.intro (And.intro ⟨by decide, by decide⟩ (fun z => q21 z.symm)) (And.intro (And.intro ⟨by decide, by decide⟩ (fun z => q22 z.symm)) (And.intro (And.intro ⟨by decide, by decide⟩ (fun z => q23 z.symm)) (And.intro (And.intro ⟨by decide, by decide⟩ (fun z => q24 z.symm)) (And.intro (And.intro ⟨by decide, by decide⟩ (fun z => q27 z.symm)) (And.intro (And.intro ⟨by decide, by decide⟩ (fun z => q30 z.symm)) (And.intro (And.intro ⟨by decide, by decide⟩ (fun z => q33 z.symm)) (And.intro (And.intro ⟨by decide, by decide⟩ (fun z => q36 z.symm)) (And.intro (And.intro ⟨by decide, by decide⟩ (fun z => q37 z.symm)) (And.intro (And.intro ⟨by decide, by decide⟩ (fun z => q40 z.symm)) (And.intro (And.intro ⟨by decide, by decide⟩ (fun z => q43 z.symm)) (And.intro (And.intro ⟨by decide, by decide⟩ (fun z => q45 z.symm)) (And.intro (And.intro ⟨by decide, by decide⟩ (fun z => q48 z.symm)) True.intro))))))))))))))))))))))) rfl) ?_
  refine ezw_aload_n rfl rfl ?_
  refine ezw_iconst (1) rfl rfl ?_
  refine ezw_call0_1 rfl (by omega) (ezu_at rfl) rfl rfl rfl rfl (ezs_m50_1 hI (by omega) hzT ⟨by decide, by decide⟩) ?_
  rintro _ _ ⟨⟨F, A, rfl, hI⟩, rfl⟩
  refine ezw_iload rfl rfl ?_
  refine ezw_if_eq rfl rfl ⟨by decide, by decide⟩ (fun h203_50 => ?_) (fun h203_50 => absurd h203_50 (by omega))
  refine ezw_iload rfl rfl ?_
  refine ezw_if_eq rfl rfl ⟨by decide, by decide⟩ (fun h213_50 => ?_) (fun h213_50 => absurd h213_50 (by omega))
  exact ezw_return rfl rfl ⟨⟨F, A, rfl, hI⟩, rfl⟩
theorem ezs_m47_4_1_30 {F : Nat → Nat → Int} {A : Nat → Int → Int} (hI : ezs_I fz F0 A0 F A) (hd : 40 ≤ d) (hzA : ∀ q, 4 ≤ q → q < 72 → fz q = false) (hzT : fz 1 = false) : ezw_C l ρ B xa Hb D cA 47 d [ezw_p 4, ezw_p 1, ezw_p 30] (ezu_g e F A) (ezs_P e fz F0 A0 ezs_rn) := by
  refine ezw_met (k := 1) rfl rfl ?_
  refine ezw_aload_n rfl rfl ?_
  refine ezs_get_i hI rfl rfl rfl rfl rfl rfl (fun u1 hu1 ku1 => ?_)
  refine ezw_istore_n rfl rfl ?_
  refine ezw_aload_n rfl rfl ?_
  refine ezw_aload_n rfl rfl ?_
  refine ezw_aload_n rfl rfl ?_
  refine ezw_iload_n rfl rfl ?_
  refine ezw_call0_3 rfl (by omega) (ezu_at rfl) rfl rfl rfl rfl (ezs_m48_4_1_30 hI (by omega) hzT hu1) ?_
  rintro _ _ ⟨⟨F, A, rfl, hI⟩, rfl⟩
  refine ezw_aload_n rfl rfl ?_
  refine ezw_call0_0 rfl (by omega) (ezu_at rfl) rfl rfl rfl rfl (ezs_m45_1 hI (by omega)) ?_
  rintro _ _ ⟨rfl, u2, hu2, rfl⟩
  refine ezw_if_ne rfl rfl ⟨by omega, by omega⟩ (fun h16_2 => ?_) (fun h16_2 => ?_)
  · refine ezw_aload_n rfl rfl ?_
    refine ezw_dup rfl rfl ?_
    refine ezs_get_i hI rfl rfl rfl rfl rfl rfl (fun u3 hu3 ku3 => ?_)
    refine ezw_iconst (1) rfl rfl ?_
    refine ezw_iload_n rfl rfl ?_
    refine ezw_ishlO rfl (fun u4 hu4 => ?_)
    refine ezs_ior rfl (fun u5 hu5 => ?_)
    refine ezs_put_i hI rfl rfl rfl rfl rfl (hzA 4 (by decide) (by decide)) hu5 (fun F A hI => ?_)
    refine ezw_aload_n rfl rfl ?_
    refine ezw_call0_0 rfl (by omega) (ezu_at rfl) rfl rfl rfl rfl (ezs_m30_1 hI (by omega) hzT) ?_
    rintro _ _ ⟨⟨F, A, rfl, hI⟩, rfl⟩
    refine ezw_iload_n rfl rfl ?_
    by_cases q6 : u1 = (0)
    · refine ezw_tableswitchE (v := 0) (p := 144) q6 rfl (by rfl) ?_
      refine ezw_aload_n rfl rfl ?_
      refine ezw_aload_n rfl rfl ?_
      refine ezw_call2_2 rfl (by omega) rfl rfl (ezs_m51_1_30 hI (by omega) hzA hzT) ?_
      rintro _ _ ⟨⟨F, A, rfl, hI⟩, rfl⟩
      refine ezw_goto rfl rfl ?_
      refine ezw_aload_n rfl rfl ?_
      refine ezw_sipush (259) rfl rfl ?_
      refine ezw_call0_1 rfl (by omega) (ezu_at rfl) rfl rfl rfl rfl (ezs_m56_1 hI (by omega) hzT ⟨by decide, by decide⟩) ?_
      rintro _ _ ⟨⟨F, A, rfl, hI⟩, rfl⟩
      exact ezw_return rfl rfl ⟨⟨F, A, rfl, hI⟩, rfl⟩
    by_cases q7 : u1 = (1)
    · refine ezw_tableswitchE (v := 1) (p := 277) q7 rfl (by rfl) ?_
      refine ezw_aload_n rfl rfl ?_
      refine ezw_bipush (10) rfl rfl ?_
      refine ezw_aload_n rfl rfl ?_
      refine ezw_iconst (1) rfl rfl ?_
      refine ezw_bipush (15) rfl rfl ?_
      refine ezw_call0_2 rfl (by omega) (ezu_at rfl) rfl rfl rfl rfl (ezs_m57_1 hI (by omega) hzT ⟨by decide, by decide⟩ ⟨by decide, by decide⟩) ?_
      rintro _ _ ⟨⟨F, A, rfl, hI⟩, u8, hu8, rfl⟩
      refine ezw_call0_2 rfl (by omega) (ezu_at rfl) rfl rfl rfl rfl (ezs_m69_30 hI (by omega) hzA ⟨by decide, by decide⟩ ⟨by omega, by omega⟩ (by omega)) ?_
      rintro _ _ ⟨⟨F, A, rfl, hI⟩, rfl⟩
      refine ezw_aload_n rfl rfl ?_
      refine ezw_sipush (259) rfl rfl ?_
      refine ezw_call0_1 rfl (by omega) (ezu_at rfl) rfl rfl rfl rfl (ezs_m56_1 hI (by omega) hzT ⟨by decide, by decide⟩) ?_
      rintro _ _ ⟨⟨F, A, rfl, hI⟩, rfl⟩
      exact ezw_return rfl rfl ⟨⟨F, A, rfl, hI⟩, rfl⟩
    by_cases q9 : u1 = (2)
    · refine ezw_tableswitchE (v := 2) (p := 277) q9 rfl (by rfl) ?_
      refine ezw_aload_n rfl rfl ?_
      refine ezw_bipush (10) rfl rfl ?_
      refine ezw_aload_n rfl rfl ?_
      refine ezw_iconst (1) rfl rfl ?_
      refine ezw_bipush (15) rfl rfl ?_
      refine ezw_call0_2 rfl (by omega) (ezu_at rfl) rfl rfl rfl rfl (ezs_m57_1 hI (by omega) hzT ⟨by decide, by decide⟩ ⟨by decide, by decide⟩) ?_
      rintro _ _ ⟨⟨F, A, rfl, hI⟩, u10, hu10, rfl⟩
      refine ezw_call0_2 rfl (by omega) (ezu_at rfl) rfl rfl rfl rfl (ezs_m69_30 hI (by omega) hzA ⟨by decide, by decide⟩ ⟨by omega, by omega⟩ (by omega)) ?_
      rintro _ _ ⟨⟨F, A, rfl, hI⟩, rfl⟩
      refine ezw_aload_n rfl rfl ?_
      refine ezw_sipush (259) rfl rfl ?_
      refine ezw_call0_1 rfl (by omega) (ezu_at rfl) rfl rfl rfl rfl (ezs_m56_1 hI (by omega) hzT ⟨by decide, by decide⟩) ?_
      rintro _ _ ⟨⟨F, A, rfl, hI⟩, rfl⟩
      exact ezw_return rfl rfl ⟨⟨F, A, rfl, hI⟩, rfl⟩
    by_cases q11 : u1 = (3)
    · refine ezw_tableswitchE (v := 3) (p := 277) q11 rfl (by rfl) ?_
      refine ezw_aload_n rfl rfl ?_
      refine ezw_bipush (10) rfl rfl ?_
      refine ezw_aload_n rfl rfl ?_
      refine ezw_iconst (1) rfl rfl ?_
      refine ezw_bipush (15) rfl rfl ?_
      refine ezw_call0_2 rfl (by omega) (ezu_at rfl) rfl rfl rfl rfl (ezs_m57_1 hI (by omega) hzT ⟨by decide, by decide⟩ ⟨by decide, by decide⟩) ?_
      rintro _ _ ⟨⟨F, A, rfl, hI⟩, u12, hu12, rfl⟩
      refine ezw_call0_2 rfl (by omega) (ezu_at rfl) rfl rfl rfl rfl (ezs_m69_30 hI (by omega) hzA ⟨by decide, by decide⟩ ⟨by omega, by omega⟩ (by omega)) ?_
      rintro _ _ ⟨⟨F, A, rfl, hI⟩, rfl⟩
      refine ezw_aload_n rfl rfl ?_
      refine ezw_sipush (259) rfl rfl ?_
      refine ezw_call0_1 rfl (by omega) (ezu_at rfl) rfl rfl rfl rfl (ezs_m56_1 hI (by omega) hzT ⟨by decide, by decide⟩) ?_
      rintro _ _ ⟨⟨F, A, rfl, hI⟩, rfl⟩
      exact ezw_return rfl rfl ⟨⟨F, A, rfl, hI⟩, rfl⟩
    by_cases q13 : u1 = (4)
    · refine ezw_tableswitchE (v := 4) (p := 277) q13 rfl (by rfl) ?_
      refine ezw_aload_n rfl rfl ?_
      refine ezw_bipush (10) rfl rfl ?_
      refine ezw_aload_n rfl rfl ?_
      refine ezw_iconst (1) rfl rfl ?_
      refine ezw_bipush (15) rfl rfl ?_
      refine ezw_call0_2 rfl (by omega) (ezu_at rfl) rfl rfl rfl rfl (ezs_m57_1 hI (by omega) hzT ⟨by decide, by decide⟩ ⟨by decide, by decide⟩) ?_
      rintro _ _ ⟨⟨F, A, rfl, hI⟩, u14, hu14, rfl⟩
      refine ezw_call0_2 rfl (by omega) (ezu_at rfl) rfl rfl rfl rfl (ezs_m69_30 hI (by omega) hzA ⟨by decide, by decide⟩ ⟨by omega, by omega⟩ (by omega)) ?_
      rintro _ _ ⟨⟨F, A, rfl, hI⟩, rfl⟩
      refine ezw_aload_n rfl rfl ?_
      refine ezw_sipush (259) rfl rfl ?_
      refine ezw_call0_1 rfl (by omega) (ezu_at rfl) rfl rfl rfl rfl (ezs_m56_1 hI (by omega) hzT ⟨by decide, by decide⟩) ?_
      rintro _ _ ⟨⟨F, A, rfl, hI⟩, rfl⟩
      exact ezw_return rfl rfl ⟨⟨F, A, rfl, hI⟩, rfl⟩
    by_cases q15 : u1 = (5)
    · refine ezw_tableswitchE (v := 5) (p := 152) q15 rfl (by rfl) ?_
      refine ezw_aload_n rfl rfl ?_
      refine ezw_aload_n rfl rfl ?_
      refine ezw_call2_2 rfl (by omega) rfl rfl (ezs_m65_1_30 hI (by omega) hzA hzT) ?_
      rintro _ _ ⟨⟨F, A, rfl, hI⟩, rfl⟩
      refine ezw_goto rfl rfl ?_
      refine ezw_aload_n rfl rfl ?_
      refine ezw_sipush (259) rfl rfl ?_
      refine ezw_call0_1 rfl (by omega) (ezu_at rfl) rfl rfl rfl rfl (ezs_m56_1 hI (by omega) hzT ⟨by decide, by decide⟩) ?_
      rintro _ _ ⟨⟨F, A, rfl, hI⟩, rfl⟩
      exact ezw_return rfl rfl ⟨⟨F, A, rfl, hI⟩, rfl⟩
    by_cases q16 : u1 = (6)
    · refine ezw_tableswitchE (v := 6) (p := 160) q16 rfl (by rfl) ?_
      refine ezw_aload_n rfl rfl ?_
      refine ezw_aload_n rfl rfl ?_
      refine ezw_call2_2 rfl (by omega) rfl rfl (ezs_m68_1_30 hI (by omega) hzA hzT) ?_
      rintro _ _ ⟨⟨F, A, rfl, hI⟩, rfl⟩
      refine ezw_goto rfl rfl ?_
      refine ezw_aload_n rfl rfl ?_
      refine ezw_sipush (259) rfl rfl ?_
      refine ezw_call0_1 rfl (by omega) (ezu_at rfl) rfl rfl rfl rfl (ezs_m56_1 hI (by omega) hzT ⟨by decide, by decide⟩) ?_
      rintro _ _ ⟨⟨F, A, rfl, hI⟩, rfl⟩
      exact ezw_return rfl rfl ⟨⟨F, A, rfl, hI⟩, rfl⟩
    by_cases q17 : u1 = (7)
    · refine ezw_tableswitchE (v := 7) (p := 277) q17 rfl (by rfl) ?_
      refine ezw_aload_n rfl rfl ?_
      refine ezw_bipush (10) rfl rfl ?_
      refine ezw_aload_n rfl rfl ?_
      refine ezw_iconst (1) rfl rfl ?_
      refine ezw_bipush (15) rfl rfl ?_
      refine ezw_call0_2 rfl (by omega) (ezu_at rfl) rfl rfl rfl rfl (ezs_m57_1 hI (by omega) hzT ⟨by decide, by decide⟩ ⟨by decide, by decide⟩) ?_
      rintro _ _ ⟨⟨F, A, rfl, hI⟩, u18, hu18, rfl⟩
      refine ezw_call0_2 rfl (by omega) (ezu_at rfl) rfl rfl rfl rfl (ezs_m69_30 hI (by omega) hzA ⟨by decide, by decide⟩ ⟨by omega, by omega⟩ (by omega)) ?_
      rintro _ _ ⟨⟨F, A, rfl, hI⟩, rfl⟩
      refine ezw_aload_n rfl rfl ?_
      refine ezw_sipush (259) rfl rfl ?_
      refine ezw_call0_1 rfl (by omega) (ezu_at rfl) rfl rfl rfl rfl (ezs_m56_1 hI (by omega) hzT ⟨by decide, by decide⟩) ?_
      rintro _ _ ⟨⟨F, A, rfl, hI⟩, rfl⟩
      exact ezw_return rfl rfl ⟨⟨F, A, rfl, hI⟩, rfl⟩
    by_cases q19 : u1 = (8)
    · refine ezw_tableswitchE (v := 8) (p := 277) q19 rfl (by rfl) ?_
      refine ezw_aload_n rfl rfl ?_
      refine ezw_bipush (10) rfl rfl ?_
      refine ezw_aload_n rfl rfl ?_
      refine ezw_iconst (1) rfl rfl ?_
      refine ezw_bipush (15) rfl rfl ?_
      refine ezw_call0_2 rfl (by omega) (ezu_at rfl) rfl rfl rfl rfl (ezs_m57_1 hI (by omega) hzT ⟨by decide, by decide⟩ ⟨by decide, by decide⟩) ?_
      rintro _ _ ⟨⟨F, A, rfl, hI⟩, u20, hu20, rfl⟩
      refine ezw_call0_2 rfl (by omega) (ezu_at rfl) rfl rfl rfl rfl (ezs_m69_30 hI (by omega) hzA ⟨by decide, by decide⟩ ⟨by omega, by omega⟩ (by omega)) ?_
      rintro _ _ ⟨⟨F, A, rfl, hI⟩, rfl⟩
      refine ezw_aload_n rfl rfl ?_
      refine ezw_sipush (259) rfl rfl ?_
      refine ezw_call0_1 rfl (by omega) (ezu_at rfl) rfl rfl rfl rfl (ezs_m56_1 hI (by omega) hzT ⟨by decide, by decide⟩) ?_
      rintro _ _ ⟨⟨F, A, rfl, hI⟩, rfl⟩
      exact ezw_return rfl rfl ⟨⟨F, A, rfl, hI⟩, rfl⟩
    by_cases q21 : u1 = (9)
    · refine ezw_tableswitchE (v := 9) (p := 168) q21 rfl (by rfl) ?_
      refine ezw_aload_n rfl rfl ?_
      refine ezw_aload_n rfl rfl ?_
      refine ezw_call2_2 rfl (by omega) rfl rfl (ezs_m70_1_30 hI (by omega) hzA hzT) ?_
      rintro _ _ ⟨⟨F, A, rfl, hI⟩, rfl⟩
      refine ezw_goto rfl rfl ?_
      refine ezw_aload_n rfl rfl ?_
      refine ezw_sipush (259) rfl rfl ?_
      refine ezw_call0_1 rfl (by omega) (ezu_at rfl) rfl rfl rfl rfl (ezs_m56_1 hI (by omega) hzT ⟨by decide, by decide⟩) ?_
      rintro _ _ ⟨⟨F, A, rfl, hI⟩, rfl⟩
      exact ezw_return rfl rfl ⟨⟨F, A, rfl, hI⟩, rfl⟩
    by_cases q22 : u1 = (10)
    · refine ezw_tableswitchE (v := 10) (p := 277) q22 rfl (by rfl) ?_
      refine ezw_aload_n rfl rfl ?_
      refine ezw_bipush (10) rfl rfl ?_
      refine ezw_aload_n rfl rfl ?_
      refine ezw_iconst (1) rfl rfl ?_
      refine ezw_bipush (15) rfl rfl ?_
      refine ezw_call0_2 rfl (by omega) (ezu_at rfl) rfl rfl rfl rfl (ezs_m57_1 hI (by omega) hzT ⟨by decide, by decide⟩ ⟨by decide, by decide⟩) ?_
      rintro _ _ ⟨⟨F, A, rfl, hI⟩, u23, hu23, rfl⟩
      refine ezw_call0_2 rfl (by omega) (ezu_at rfl) rfl rfl rfl rfl (ezs_m69_30 hI (by omega) hzA ⟨by decide, by decide⟩ ⟨by omega, by omega⟩ (by omega)) ?_
      rintro _ _ ⟨⟨F, A, rfl, hI⟩, rfl⟩
      refine ezw_aload_n rfl rfl ?_
      refine ezw_sipush (259) rfl rfl ?_
      refine ezw_call0_1 rfl (by omega) (ezu_at rfl) rfl rfl rfl rfl (ezs_m56_1 hI (by omega) hzT ⟨by decide, by decide⟩) ?_
      rintro _ _ ⟨⟨F, A, rfl, hI⟩, rfl⟩
      exact ezw_return rfl rfl ⟨⟨F, A, rfl, hI⟩, rfl⟩
    by_cases q24 : u1 = (11)
    · refine ezw_tableswitchE (v := 11) (p := 277) q24 rfl (by rfl) ?_
      refine ezw_aload_n rfl rfl ?_
      refine ezw_bipush (10) rfl rfl ?_
      refine ezw_aload_n rfl rfl ?_
      refine ezw_iconst (1) rfl rfl ?_
      refine ezw_bipush (15) rfl rfl ?_
      refine ezw_call0_2 rfl (by omega) (ezu_at rfl) rfl rfl rfl rfl (ezs_m57_1 hI (by omega) hzT ⟨by decide, by decide⟩ ⟨by decide, by decide⟩) ?_
      rintro _ _ ⟨⟨F, A, rfl, hI⟩, u25, hu25, rfl⟩
      refine ezw_call0_2 rfl (by omega) (ezu_at rfl) rfl rfl rfl rfl (ezs_m69_30 hI (by omega) hzA ⟨by decide, by decide⟩ ⟨by omega, by omega⟩ (by omega)) ?_
      rintro _ _ ⟨⟨F, A, rfl, hI⟩, rfl⟩
      refine ezw_aload_n rfl rfl ?_
      refine ezw_sipush (259) rfl rfl ?_
      refine ezw_call0_1 rfl (by omega) (ezu_at rfl) rfl rfl rfl rfl (ezs_m56_1 hI (by omega) hzT ⟨by decide, by decide⟩) ?_
      rintro _ _ ⟨⟨F, A, rfl, hI⟩, rfl⟩
      exact ezw_return rfl rfl ⟨⟨F, A, rfl, hI⟩, rfl⟩
    by_cases q26 : u1 = (12)
    · refine ezw_tableswitchE (v := 12) (p := 176) q26 rfl (by rfl) ?_
      refine ezw_aload_n rfl rfl ?_
      refine ezw_aload_n rfl rfl ?_
      refine ezw_call2_2 rfl (by omega) rfl rfl (ezs_m72_1_30 hI (by omega) hzA hzT) ?_
      rintro _ _ ⟨⟨F, A, rfl, hI⟩, rfl⟩
      refine ezw_goto rfl rfl ?_
      refine ezw_aload_n rfl rfl ?_
      refine ezw_sipush (259) rfl rfl ?_
      refine ezw_call0_1 rfl (by omega) (ezu_at rfl) rfl rfl rfl rfl (ezs_m56_1 hI (by omega) hzT ⟨by decide, by decide⟩) ?_
      rintro _ _ ⟨⟨F, A, rfl, hI⟩, rfl⟩
      exact ezw_return rfl rfl ⟨⟨F, A, rfl, hI⟩, rfl⟩
    by_cases q27 : u1 = (13)
    · refine ezw_tableswitchE (v := 13) (p := 184) q27 rfl (by rfl) ?_
      refine ezw_aload_n rfl rfl ?_
      refine ezw_aload_n rfl rfl ?_
      refine ezw_call2_2 rfl (by omega) rfl rfl (ezs_m75_1_30 hI (by omega) hzA hzT) ?_
      rintro _ _ ⟨⟨F, A, rfl, hI⟩, rfl⟩
      refine ezw_goto rfl rfl ?_
      refine ezw_aload_n rfl rfl ?_
      refine ezw_sipush (259) rfl rfl ?_
      refine ezw_call0_1 rfl (by omega) (ezu_at rfl) rfl rfl rfl rfl (ezs_m56_1 hI (by omega) hzT ⟨by decide, by decide⟩) ?_
      rintro _ _ ⟨⟨F, A, rfl, hI⟩, rfl⟩
      exact ezw_return rfl rfl ⟨⟨F, A, rfl, hI⟩, rfl⟩
    by_cases q28 : u1 = (14)
    · refine ezw_tableswitchE (v := 14) (p := 230) q28 rfl (by rfl) ?_
      refine ezw_aload_n rfl rfl ?_
      refine ezw_iconst (5) rfl rfl ?_
      refine ezw_aload_n rfl rfl ?_
      refine ezw_iconst (0) rfl rfl ?_
      refine ezw_bipush (10) rfl rfl ?_
      refine ezw_call0_2 rfl (by omega) (ezu_at rfl) rfl rfl rfl rfl (ezs_m57_1 hI (by omega) hzT ⟨by decide, by decide⟩ ⟨by decide, by decide⟩) ?_
      rintro _ _ ⟨⟨F, A, rfl, hI⟩, u29, hu29, rfl⟩
      refine ezw_call0_2 rfl (by omega) (ezu_at rfl) rfl rfl rfl rfl (ezs_m69_30 hI (by omega) hzA ⟨by decide, by decide⟩ ⟨by omega, by omega⟩ (by omega)) ?_
      rintro _ _ ⟨⟨F, A, rfl, hI⟩, rfl⟩
      refine ezw_goto rfl rfl ?_
      refine ezw_aload_n rfl rfl ?_
      refine ezw_sipush (259) rfl rfl ?_
      refine ezw_call0_1 rfl (by omega) (ezu_at rfl) rfl rfl rfl rfl (ezs_m56_1 hI (by omega) hzT ⟨by decide, by decide⟩) ?_
      rintro _ _ ⟨⟨F, A, rfl, hI⟩, rfl⟩
      exact ezw_return rfl rfl ⟨⟨F, A, rfl, hI⟩, rfl⟩
    by_cases q30 : u1 = (15)
    · refine ezw_tableswitchE (v := 15) (p := 245) q30 rfl (by rfl) ?_
      refine ezw_aload_n rfl rfl ?_
      refine ezw_bipush (6) rfl rfl ?_
      refine ezw_aload_n rfl rfl ?_
      refine ezw_iconst (0) rfl rfl ?_
      refine ezw_bipush (9) rfl rfl ?_
      refine ezw_call0_2 rfl (by omega) (ezu_at rfl) rfl rfl rfl rfl (ezs_m57_1 hI (by omega) hzT ⟨by decide, by decide⟩ ⟨by decide, by decide⟩) ?_
      rintro _ _ ⟨⟨F, A, rfl, hI⟩, u31, hu31, rfl⟩
      refine ezw_call0_2 rfl (by omega) (ezu_at rfl) rfl rfl rfl rfl (ezs_m69_30 hI (by omega) hzA ⟨by decide, by decide⟩ ⟨by omega, by omega⟩ (by omega)) ?_
      rintro _ _ ⟨⟨F, A, rfl, hI⟩, rfl⟩
      refine ezw_goto rfl rfl ?_
      refine ezw_aload_n rfl rfl ?_
      refine ezw_sipush (259) rfl rfl ?_
      refine ezw_call0_1 rfl (by omega) (ezu_at rfl) rfl rfl rfl rfl (ezs_m56_1 hI (by omega) hzT ⟨by decide, by decide⟩) ?_
      rintro _ _ ⟨⟨F, A, rfl, hI⟩, rfl⟩
      exact ezw_return rfl rfl ⟨⟨F, A, rfl, hI⟩, rfl⟩
    by_cases q32 : u1 = (16)
    · refine ezw_tableswitchE (v := 16) (p := 192) q32 rfl (by rfl) ?_
      refine ezw_aload_n rfl rfl ?_
      refine ezw_aload_n rfl rfl ?_
      refine ezw_call2_2 rfl (by omega) rfl rfl (ezs_m76_1_30 hI (by omega) hzA hzT) ?_
      rintro _ _ ⟨⟨F, A, rfl, hI⟩, rfl⟩
      refine ezw_goto rfl rfl ?_
      refine ezw_aload_n rfl rfl ?_
      refine ezw_sipush (259) rfl rfl ?_
      refine ezw_call0_1 rfl (by omega) (ezu_at rfl) rfl rfl rfl rfl (ezs_m56_1 hI (by omega) hzT ⟨by decide, by decide⟩) ?_
      rintro _ _ ⟨⟨F, A, rfl, hI⟩, rfl⟩
      exact ezw_return rfl rfl ⟨⟨F, A, rfl, hI⟩, rfl⟩
    by_cases q33 : u1 = (17)
    · refine ezw_tableswitchE (v := 17) (p := 277) q33 rfl (by rfl) ?_
      refine ezw_aload_n rfl rfl ?_
      refine ezw_bipush (10) rfl rfl ?_
      refine ezw_aload_n rfl rfl ?_
      refine ezw_iconst (1) rfl rfl ?_
      refine ezw_bipush (15) rfl rfl ?_
      refine ezw_call0_2 rfl (by omega) (ezu_at rfl) rfl rfl rfl rfl (ezs_m57_1 hI (by omega) hzT ⟨by decide, by decide⟩ ⟨by decide, by decide⟩) ?_
      rintro _ _ ⟨⟨F, A, rfl, hI⟩, u34, hu34, rfl⟩
      refine ezw_call0_2 rfl (by omega) (ezu_at rfl) rfl rfl rfl rfl (ezs_m69_30 hI (by omega) hzA ⟨by decide, by decide⟩ ⟨by omega, by omega⟩ (by omega)) ?_
      rintro _ _ ⟨⟨F, A, rfl, hI⟩, rfl⟩
      refine ezw_aload_n rfl rfl ?_
      refine ezw_sipush (259) rfl rfl ?_
      refine ezw_call0_1 rfl (by omega) (ezu_at rfl) rfl rfl rfl rfl (ezs_m56_1 hI (by omega) hzT ⟨by decide, by decide⟩) ?_
      rintro _ _ ⟨⟨F, A, rfl, hI⟩, rfl⟩
      exact ezw_return rfl rfl ⟨⟨F, A, rfl, hI⟩, rfl⟩
    by_cases q35 : u1 = (18)
    · refine ezw_tableswitchE (v := 18) (p := 261) q35 rfl (by rfl) ?_
      refine ezw_aload_n rfl rfl ?_
      refine ezw_bipush (9) rfl rfl ?_
      refine ezw_aload_n rfl rfl ?_
      refine ezw_iconst (1) rfl rfl ?_
      refine ezw_bipush (99) rfl rfl ?_
      refine ezw_call0_2 rfl (by omega) (ezu_at rfl) rfl rfl rfl rfl (ezs_m57_1 hI (by omega) hzT ⟨by decide, by decide⟩ ⟨by decide, by decide⟩) ?_
      rintro _ _ ⟨⟨F, A, rfl, hI⟩, u36, hu36, rfl⟩
      refine ezw_call0_2 rfl (by omega) (ezu_at rfl) rfl rfl rfl rfl (ezs_m69_30 hI (by omega) hzA ⟨by decide, by decide⟩ ⟨by omega, by omega⟩ (by omega)) ?_
      rintro _ _ ⟨⟨F, A, rfl, hI⟩, rfl⟩
      refine ezw_goto rfl rfl ?_
      refine ezw_aload_n rfl rfl ?_
      refine ezw_sipush (259) rfl rfl ?_
      refine ezw_call0_1 rfl (by omega) (ezu_at rfl) rfl rfl rfl rfl (ezs_m56_1 hI (by omega) hzT ⟨by decide, by decide⟩) ?_
      rintro _ _ ⟨⟨F, A, rfl, hI⟩, rfl⟩
      exact ezw_return rfl rfl ⟨⟨F, A, rfl, hI⟩, rfl⟩
    by_cases q37 : u1 = (19)
    · refine ezw_tableswitchE (v := 19) (p := 277) q37 rfl (by rfl) ?_
      refine ezw_aload_n rfl rfl ?_
      refine ezw_bipush (10) rfl rfl ?_
      refine ezw_aload_n rfl rfl ?_
      refine ezw_iconst (1) rfl rfl ?_
      refine ezw_bipush (15) rfl rfl ?_
      refine ezw_call0_2 rfl (by omega) (ezu_at rfl) rfl rfl rfl rfl (ezs_m57_1 hI (by omega) hzT ⟨by decide, by decide⟩ ⟨by decide, by decide⟩) ?_
      rintro _ _ ⟨⟨F, A, rfl, hI⟩, u38, hu38, rfl⟩
      refine ezw_call0_2 rfl (by omega) (ezu_at rfl) rfl rfl rfl rfl (ezs_m69_30 hI (by omega) hzA ⟨by decide, by decide⟩ ⟨by omega, by omega⟩ (by omega)) ?_
      rintro _ _ ⟨⟨F, A, rfl, hI⟩, rfl⟩
      refine ezw_aload_n rfl rfl ?_
      refine ezw_sipush (259) rfl rfl ?_
      refine ezw_call0_1 rfl (by omega) (ezu_at rfl) rfl rfl rfl rfl (ezs_m56_1 hI (by omega) hzT ⟨by decide, by decide⟩) ?_
      rintro _ _ ⟨⟨F, A, rfl, hI⟩, rfl⟩
      exact ezw_return rfl rfl ⟨⟨F, A, rfl, hI⟩, rfl⟩
    by_cases q39 : u1 = (20)
    · refine ezw_tableswitchE (v := 20) (p := 200) q39 rfl (by rfl) ?_
      refine ezw_aload_n rfl rfl ?_
      refine ezw_aload_n rfl rfl ?_
      refine ezw_call2_2 rfl (by omega) rfl rfl (ezs_m77_1_30 hI (by omega) hzA hzT) ?_
      rintro _ _ ⟨⟨F, A, rfl, hI⟩, rfl⟩
      refine ezw_goto rfl rfl ?_
      refine ezw_aload_n rfl rfl ?_
      refine ezw_sipush (259) rfl rfl ?_
      refine ezw_call0_1 rfl (by omega) (ezu_at rfl) rfl rfl rfl rfl (ezs_m56_1 hI (by omega) hzT ⟨by decide, by decide⟩) ?_
      rintro _ _ ⟨⟨F, A, rfl, hI⟩, rfl⟩
      exact ezw_return rfl rfl ⟨⟨F, A, rfl, hI⟩, rfl⟩
    by_cases q40 : u1 = (21)
    · refine ezw_tableswitchE (v := 21) (p := 208) q40 rfl (by rfl) ?_
      refine ezw_aload_n rfl rfl ?_
      refine ezs_getp (p := 5) rfl rfl rfl rfl rfl ?_
      refine ezw_aload_n rfl rfl ?_
      refine ezw_call0_1 rfl (by omega) (ezu_at rfl) rfl rfl rfl rfl (ezs_m80_5_1 hI (by omega) hzA hzT) ?_
      rintro _ _ ⟨⟨F, A, rfl, hI⟩, rfl⟩
      refine ezw_goto rfl rfl ?_
      refine ezw_aload_n rfl rfl ?_
      refine ezw_sipush (259) rfl rfl ?_
      refine ezw_call0_1 rfl (by omega) (ezu_at rfl) rfl rfl rfl rfl (ezs_m56_1 hI (by omega) hzT ⟨by decide, by decide⟩) ?_
      rintro _ _ ⟨⟨F, A, rfl, hI⟩, rfl⟩
      exact ezw_return rfl rfl ⟨⟨F, A, rfl, hI⟩, rfl⟩
    by_cases q41 : u1 = (22)
    · refine ezw_tableswitchE (v := 22) (p := 219) q41 rfl (by rfl) ?_
      refine ezw_aload_n rfl rfl ?_
      refine ezs_getp (p := 9) rfl rfl rfl rfl rfl ?_
      refine ezw_aload_n rfl rfl ?_
      refine ezw_call0_1 rfl (by omega) (ezu_at rfl) rfl rfl rfl rfl (ezs_m80_9_1 hI (by omega) hzA hzT) ?_
      rintro _ _ ⟨⟨F, A, rfl, hI⟩, rfl⟩
      refine ezw_goto rfl rfl ?_
      refine ezw_aload_n rfl rfl ?_
      refine ezw_sipush (259) rfl rfl ?_
      refine ezw_call0_1 rfl (by omega) (ezu_at rfl) rfl rfl rfl rfl (ezs_m56_1 hI (by omega) hzT ⟨by decide, by decide⟩) ?_
      rintro _ _ ⟨⟨F, A, rfl, hI⟩, rfl⟩
      exact ezw_return rfl rfl ⟨⟨F, A, rfl, hI⟩, rfl⟩
    refine ezw_tableswitch (p := 277) rfl (ezs_swd hu1 (And.intro (And.intro ⟨by decide, by decide⟩ (fun z => q6 z.symm)) (And.intro (And.intro ⟨by decide, by decide⟩ (fun z => q7 z.symm)) (And.intro (And.intro ⟨by decide, by decide⟩ (fun z => q9 z.symm)) (And.intro (And.intro ⟨by decide, by decide⟩ (fun z => q11 z.symm)) (And.intro (And.intro ⟨by decide, by decide⟩ (fun z => q13 z.symm)) (And.intro (And.intro ⟨by decide, by decide⟩ (fun z => q15 z.symm)) (And.intro (And.intro ⟨by decide, by decide⟩ (fun z => q16 z.symm)) (And.intro (And.intro ⟨by decide, by decide⟩ (fun z => q17 z.symm)) (And.intro (And.intro ⟨by decide, by decide⟩ (fun z => q19 z.symm)) (And.intro (And.intro ⟨by decide, by decide⟩ (fun z => q21 z.symm)) (And.intro (And.intro ⟨by decide, by decide⟩ (fun z => q22 z.symm)) (And.intro (And.intro ⟨by decide, by decide⟩ (fun z => q24 z.symm)) (And.intro (And.intro ⟨by decide, by decide⟩ (fun z => q26 z.symm)) (And.intro (And.intro ⟨by decide, by decide⟩ (fun z => q27 z.symm)) (And.intro (And.intro ⟨by decide, by decide⟩ (fun z => q28 z.symm)) (And.intro (And.intro ⟨by decide, by decide⟩ (fun z => q30 z.symm)) (And.intro (And.intro ⟨by decide, by decide⟩ (fun z => q32 z.symm)) (And.intro (And.intro ⟨by decide, by decide⟩ (fun z => q33 z.symm)) (And.intro (And.intro ⟨by decide, by decide⟩ (fun z => q35 z.symm)) (And.intro (And.intro ⟨by decide, by decide⟩ (fun z => q37 z.symm)) (And.intro (And.intro ⟨by decide, by decide⟩ (fun z => q39 z.symm)) (And.intro (And.intro ⟨by decide, by decide⟩ (fun z => q40 z.symm)) (And.intro (And.intro ⟨by decide, by decide⟩ (fun z => q41 z.symm)) True.intro))))))))))))))))))))))) rfl) ?_
    refine ezw_aload_n rfl rfl ?_
    refine ezw_bipush (10) rfl rfl ?_
    refine ezw_aload_n rfl rfl ?_
    refine ezw_iconst (1) rfl rfl ?_
    refine ezw_bipush (15) rfl rfl ?_
    refine ezw_call0_2 rfl (by omega) (ezu_at rfl) rfl rfl rfl rfl (ezs_m57_1 hI (by omega) hzT ⟨by decide, by decide⟩ ⟨by decide, by decide⟩) ?_
    rintro _ _ ⟨⟨F, A, rfl, hI⟩, u42, hu42, rfl⟩
    refine ezw_call0_2 rfl (by omega) (ezu_at rfl) rfl rfl rfl rfl (ezs_m69_30 hI (by omega) hzA ⟨by decide, by decide⟩ ⟨by omega, by omega⟩ (by omega)) ?_
    rintro _ _ ⟨⟨F, A, rfl, hI⟩, rfl⟩
    refine ezw_aload_n rfl rfl ?_
    refine ezw_sipush (259) rfl rfl ?_
    refine ezw_call0_1 rfl (by omega) (ezu_at rfl) rfl rfl rfl rfl (ezs_m56_1 hI (by omega) hzT ⟨by decide, by decide⟩) ?_
    rintro _ _ ⟨⟨F, A, rfl, hI⟩, rfl⟩
    exact ezw_return rfl rfl ⟨⟨F, A, rfl, hI⟩, rfl⟩
  · exact ezw_return rfl rfl ⟨⟨F, A, rfl, hI⟩, rfl⟩
theorem ezs_m93_1 {F : Nat → Nat → Int} {A : Nat → Int → Int} (hI : ezs_I fz F0 A0 F A) (hd : 0 ≤ d) (hzT : fz 1 = false) : ezw_C l ρ B xa Hb D cA 93 d [ezw_p 1] (ezu_g e F A) (ezs_P0 e fz F0 A0 ezs_ri) := by
  refine ezw_met (k := 0) rfl rfl ?_
  refine ezw_aload_n rfl rfl ?_
  refine ezw_iconst (0) rfl rfl ?_
  refine ezs_putX hI rfl rfl rfl rfl rfl hzT (show ezs_fk 1 2 _ from ⟨by omega, by omega⟩) (fun F hI m2 n2 => ?_)
  have hz0 := m2
  refine ezw_aload_n rfl rfl ?_
  refine ezs_get_i hI rfl rfl rfl rfl rfl rfl (fun u1 hu1 ku1 => ?_)
  exact ezw_ireturn rfl rfl ⟨⟨F, A, rfl, hI, hz0⟩, _, hu1, rfl⟩
theorem ezs_m23_4_1_30 {F : Nat → Nat → Int} {A : Nat → Int → Int} (hI : ezs_I fz F0 A0 F A) (hd : 41 ≤ d) (hzA : ∀ q, 4 ≤ q → q < 72 → fz q = false) (hzT : fz 1 = false) : ezw_C l ρ B xa Hb D cA 23 d [ezw_p 4, ezw_p 1, ezw_p 30] (ezu_g e F A) (ezs_P0 e fz F0 A0 ezs_ri) := by
  refine ezw_met (k := 1) rfl rfl ?_
  refine ezw_aload_n rfl rfl ?_
  refine ezw_call0_0 rfl (by omega) (ezu_at rfl) rfl rfl rfl rfl (ezs_m24_30 hI (by omega) hzA) ?_
  rintro _ _ ⟨⟨F, A, rfl, hI⟩, rfl⟩
  refine ezw_aload_n rfl rfl ?_
  refine ezs_getp (p := 5) rfl rfl rfl rfl rfl ?_
  refine ezw_call0_0 rfl (by omega) (ezu_at rfl) rfl rfl rfl rfl (ezs_m28_5 hI (by omega) hzA) ?_
  rintro _ _ ⟨⟨F, A, rfl, hI⟩, rfl⟩
  refine ezw_aload_n rfl rfl ?_
  refine ezs_getp (p := 9) rfl rfl rfl rfl rfl ?_
  refine ezw_call0_0 rfl (by omega) (ezu_at rfl) rfl rfl rfl rfl (ezs_m28_9 hI (by omega) hzA) ?_
  rintro _ _ ⟨⟨F, A, rfl, hI⟩, rfl⟩
  refine ezw_aload_n rfl rfl ?_
  refine ezw_iconst (0) rfl rfl ?_
  refine ezs_put_i hI rfl rfl rfl rfl rfl (hzA 4 (by decide) (by decide)) ⟨by decide, by decide⟩ (fun F A hI => ?_)
  refine ezw_aload_n rfl rfl ?_
  refine ezw_call0_0 rfl (by omega) (ezu_at rfl) rfl rfl rfl rfl (ezs_m29_1 hI (by omega) hzT) ?_
  rintro _ _ ⟨⟨F, A, rfl, hI⟩, rfl⟩
  refine ezw_iconst (0) rfl rfl ?_
  refine ezw_istore_n rfl rfl ?_
  have L29_1 : ∀ c1 : Int, ezw_in c1 → (0) ≤ c1 → ∀ F A, ezs_I fz F0 A0 F A → ezw_E l ρ B xa Hb D cA d ezq_re23 (ezs_P0 e fz F0 A0 ezs_ri) 29 [some (ezw_p 4), some (ezw_p 1), some (ezw_p 30), some (ezw_i c1)] [] (ezu_g e F A) := by
    refine ezs_up ?_
    intro c1 hc1 ihc1 gc1 F A hI
    refine ezw_iload_n rfl rfl ?_
    refine ezw_sipush (1000) rfl rfl ?_
    have J64_3 : ∀ y3 : Int, ezw_in y3 → ∀ F A, ezs_I fz F0 A0 F A → ezw_E l ρ B xa Hb D cA d ezq_re23 (ezs_P0 e fz F0 A0 ezs_ri) 64 [some (ezw_p 4), some (ezw_p 1), some (ezw_p 30), some (ezw_i y3)] [] (ezu_g e F A) := by
      intro y3 hy3 F A hI
      refine ezw_aload_n rfl rfl ?_
      refine ezw_call0_0 rfl (by omega) (ezu_at rfl) rfl rfl rfl rfl (ezs_m45_1 hI (by omega)) ?_
      rintro _ _ ⟨rfl, u5, hu5, rfl⟩
      refine ezw_if_eq rfl rfl ⟨by omega, by omega⟩ (fun h68_5 => ?_) (fun h68_5 => ?_)
      · refine ezw_aload_n rfl rfl ?_
        refine ezw_call0_0 rfl (by omega) (ezu_at rfl) rfl rfl rfl rfl (ezs_m93_1 hI (by omega) hzT) ?_
        rintro _ _ ⟨⟨F, A, rfl, hI, hz0⟩, u6, hu6, rfl⟩
        exact ezw_ireturn rfl rfl ⟨⟨F, A, rfl, hI, hz0⟩, _, hu6, rfl⟩
      · refine ezw_aload_n rfl rfl ?_
        refine ezw_aload_n rfl rfl ?_
        refine ezs_getp (p := 5) rfl rfl rfl rfl rfl ?_
        refine ezw_aload_n rfl rfl ?_
        refine ezs_getp (p := 9) rfl rfl rfl rfl rfl ?_
        refine ezw_call0_2 rfl (by omega) (ezu_at rfl) rfl rfl rfl rfl (ezs_m85_30_5_9 hI (by omega) hzA) ?_
        rintro _ _ ⟨⟨F, A, rfl, hI⟩, rfl⟩
        refine ezw_aload_n rfl rfl ?_
        refine ezw_call0_0 rfl (by omega) (ezu_at rfl) rfl rfl rfl rfl (ezs_m93_1 hI (by omega) hzT) ?_
        rintro _ _ ⟨⟨F, A, rfl, hI, hz0⟩, u7, hu7, rfl⟩
        exact ezw_ireturn rfl rfl ⟨⟨F, A, rfl, hI, hz0⟩, _, hu7, rfl⟩
    refine ezw_icmp_ge rfl rfl hc1 ⟨by decide, by decide⟩ (fun h33_2 => ?_) (fun h33_2 => ?_)
    · exact ezw_keepE [true, true, true, true] (J64_3 c1 hc1 F A hI)
    · refine ezw_aload_n rfl rfl ?_
      refine ezw_call0_0 rfl (by omega) (ezu_at rfl) rfl rfl rfl rfl (ezs_m45_1 hI (by omega)) ?_
      rintro _ _ ⟨rfl, u8, hu8, rfl⟩
      refine ezw_if_eq rfl rfl ⟨by omega, by omega⟩ (fun h40_8 => ?_) (fun h40_8 => ?_)
      · exact ezw_keepE [true, true, true, true] (J64_3 c1 hc1 F A hI)
      · refine ezw_aload_n rfl rfl ?_
        refine ezw_bipush (102) rfl rfl ?_
        refine ezw_call0_1 rfl (by omega) (ezu_at rfl) rfl rfl rfl rfl (ezs_m46_1 hI (by omega) ⟨by decide, by decide⟩) ?_
        rintro _ _ ⟨rfl, u9, hu9, rfl⟩
        refine ezw_if_ne rfl rfl ⟨by omega, by omega⟩ (fun h49_9 => ?_) (fun h49_9 => ?_)
        · exact ezw_keepE [true, true, true, true] (J64_3 c1 hc1 F A hI)
        · refine ezw_aload_n rfl rfl ?_
          refine ezw_aload_n rfl rfl ?_
          refine ezw_aload_n rfl rfl ?_
          refine ezw_call0_2 rfl (by omega) (ezu_at rfl) rfl rfl rfl rfl (ezs_m47_4_1_30 hI (by omega) hzA hzT) ?_
          rintro _ _ ⟨⟨F, A, rfl, hI⟩, rfl⟩
          refine ezw_iinc (1) rfl rfl rfl rfl rfl ?_
          refine ezw_goto rfl rfl ?_
          exact ezw_keepE [true, true, true, true] (ihc1 (c1 + (1)) (by omega) ⟨by omega, by omega⟩ (by omega)  F A hI)
  exact ezw_keepE [true, true, true, true] (L29_1 (0) ⟨by decide, by decide⟩ (by omega)  F A hI)
theorem ezs_m51_1_47 {F : Nat → Nat → Int} {A : Nat → Int → Int} (hI : ezs_I fz F0 A0 F A) (hd : 6 ≤ d) (hzA : ∀ q, 4 ≤ q → q < 72 → fz q = false) (hzT : fz 1 = false) : ezw_C l ρ B xa Hb D cA 51 d [ezw_p 1, ezw_p 47] (ezu_g e F A) (ezs_P e fz F0 A0 ezs_rn) := by
  refine ezw_met (k := 6) rfl rfl ?_
  refine ezw_aload_n rfl rfl ?_
  refine ezw_aload_n rfl rfl ?_
  refine ezw_call2_2 rfl (by omega) rfl rfl (ezs_m52_1_47 hI (by omega) hzT) ?_
  rintro _ _ ⟨⟨F, A, rfl, hI⟩, u1, hu1, rfl⟩
  refine ezw_lstore_n rfl rfl ?_
  refine ezw_aload_n rfl rfl ?_
  refine ezw_iconst (1) rfl rfl ?_
  refine ezw_call0_1 rfl (by omega) (ezu_at rfl) rfl rfl rfl rfl (ezs_m56_1 hI (by omega) hzT ⟨by decide, by decide⟩) ?_
  rintro _ _ ⟨⟨F, A, rfl, hI⟩, rfl⟩
  refine ezw_aload_n rfl rfl ?_
  refine ezw_iconst (1) rfl rfl ?_
  refine ezw_bipush (60) rfl rfl ?_
  refine ezw_call0_2 rfl (by omega) (ezu_at rfl) rfl rfl rfl rfl (ezs_m57_1 hI (by omega) hzT ⟨by decide, by decide⟩ ⟨by decide, by decide⟩) ?_
  rintro _ _ ⟨⟨F, A, rfl, hI⟩, u2, hu2, rfl⟩
  refine ezw_istore rfl rfl ?_
  refine ezw_aload_n rfl rfl ?_
  refine ezw_iconst (2) rfl rfl ?_
  refine ezw_call0_1 rfl (by omega) (ezu_at rfl) rfl rfl rfl rfl (ezs_m56_1 hI (by omega) hzT ⟨by decide, by decide⟩) ?_
  rintro _ _ ⟨⟨F, A, rfl, hI⟩, rfl⟩
  refine ezw_aload_n rfl rfl ?_
  refine ezw_iconst (1) rfl rfl ?_
  refine ezw_bipush (20) rfl rfl ?_
  refine ezw_call0_2 rfl (by omega) (ezu_at rfl) rfl rfl rfl rfl (ezs_m57_1 hI (by omega) hzT ⟨by decide, by decide⟩ ⟨by decide, by decide⟩) ?_
  rintro _ _ ⟨⟨F, A, rfl, hI⟩, u3, hu3, rfl⟩
  refine ezw_istore rfl rfl ?_
  refine ezw_aload_n rfl rfl ?_
  refine ezw_iconst (3) rfl rfl ?_
  refine ezw_call0_1 rfl (by omega) (ezu_at rfl) rfl rfl rfl rfl (ezs_m56_1 hI (by omega) hzT ⟨by decide, by decide⟩) ?_
  rintro _ _ ⟨⟨F, A, rfl, hI⟩, rfl⟩
  refine ezw_aload_n rfl rfl ?_
  refine ezw_bipush (30) rfl rfl ?_
  refine ezw_iconst (4) rfl rfl ?_
  refine ezw_call0_2 rfl (by omega) (ezu_at rfl) rfl rfl rfl rfl (ezs_m59_1 hI (by omega) hzT ⟨by decide, by decide⟩ (by omega) ⟨by decide, by decide⟩ (by omega)) ?_
  rintro _ _ ⟨⟨F, A, rfl, hI⟩, u4, hu4, rfl⟩
  refine ezw_istore rfl rfl ?_
  refine ezw_aload_n rfl rfl ?_
  refine ezw_iconst (4) rfl rfl ?_
  refine ezw_call0_1 rfl (by omega) (ezu_at rfl) rfl rfl rfl rfl (ezs_m60_1 hI (by omega) hzT ⟨by decide, by decide⟩) ?_
  rintro _ _ ⟨⟨F, A, rfl, hI⟩, u5, hu5, rfl⟩
  have J66_6 : ∀ y6 : Int, ezw_in y6 → ∀ F A, ezs_I fz F0 A0 F A → ezw_E l ρ B xa Hb D cA d ezq_re51 (ezs_P e fz F0 A0 ezs_rn) 66 [some (ezw_p 1), some (ezw_p 47), some (ezw_l u1), none, some (ezw_i u2), some (ezw_i u3), some (ezw_i u4), none] [(ezw_i y6)] (ezu_g e F A) := by
    intro y6 hy6 F A hI
    refine ezw_istore rfl rfl ?_
    refine ezw_aload_n rfl rfl ?_
    refine ezw_call0_0 rfl (by omega) (ezu_at rfl) rfl rfl rfl rfl (ezs_m45_1 hI (by omega)) ?_
    rintro _ _ ⟨rfl, u8, hu8, rfl⟩
    refine ezw_if_eq rfl rfl ⟨by omega, by omega⟩ (fun h72_8 => ?_) (fun h72_8 => ?_)
    · exact ezw_return rfl rfl ⟨⟨F, A, rfl, hI⟩, rfl⟩
    · refine ezw_aload_n rfl rfl ?_
      refine ezw_lload_n rfl rfl ?_
      refine ezw_iload rfl rfl ?_
      refine ezw_iload rfl rfl ?_
      refine ezw_iload rfl rfl ?_
      refine ezw_iload rfl rfl ?_
      refine ezw_call0_5 rfl (by omega) (ezu_at rfl) rfl rfl rfl rfl (ezs_m63_47 hI (by omega) hzA hu1 ⟨by omega, by omega⟩ ⟨by omega, by omega⟩ ⟨by omega, by omega⟩ hy6) ?_
      rintro _ _ ⟨⟨F, A, rfl, hI⟩, rfl⟩
      exact ezw_return rfl rfl ⟨⟨F, A, rfl, hI⟩, rfl⟩
  refine ezw_if_eq rfl rfl ⟨by omega, by omega⟩ (fun h53_5 => ?_) (fun h53_5 => ?_)
  · refine ezw_iconst (-1) rfl rfl ?_
    exact ezw_keepE [true, true, true, false, true, true, true, false] (J66_6 (-1) ⟨by decide, by decide⟩ F A hI)
  · refine ezw_aload_n rfl rfl ?_
    refine ezw_aload_n rfl rfl ?_
    refine ezw_iconst (0) rfl rfl ?_
    refine ezw_call0_2 rfl (by omega) (ezu_at rfl) rfl rfl rfl rfl (ezs_m61_1_47 hI (by omega) hzT ⟨by decide, by decide⟩) ?_
    rintro _ _ ⟨⟨F, A, rfl, hI⟩, u9, hu9, rfl⟩
    refine ezw_goto rfl rfl ?_
    exact ezw_keepE [true, true, true, false, true, true, true, false] (J66_6 u9 hu9 F A hI)
theorem ezs_m65_1_47 {F : Nat → Nat → Int} {A : Nat → Int → Int} (hI : ezs_I fz F0 A0 F A) (hd : 5 ≤ d) (hzA : ∀ q, 4 ≤ q → q < 72 → fz q = false) (hzT : fz 1 = false) : ezw_C l ρ B xa Hb D cA 65 d [ezw_p 1, ezw_p 47] (ezu_g e F A) (ezs_P e fz F0 A0 ezs_rn) := by
  refine ezw_met (k := 2) rfl rfl ?_
  refine ezw_iconst (0) rfl rfl ?_
  refine ezw_istore_n rfl rfl ?_
  have L2_1 : ∀ c1 : Int, ezw_in c1 → (0) ≤ c1 → ∀ F A, ezs_I fz F0 A0 F A → ezw_E l ρ B xa Hb D cA d ezq_re65 (ezs_P e fz F0 A0 ezs_rn) 2 [some (ezw_p 1), some (ezw_p 47), some (ezw_i c1), none] [] (ezu_g e F A) := by
    refine ezs_up ?_
    intro c1 hc1 ihc1 gc1 F A hI
    refine ezw_iload_n rfl rfl ?_
    refine ezw_bipush (6) rfl rfl ?_
    refine ezw_icmp_gt rfl rfl hc1 ⟨by decide, by decide⟩ (fun h5_2 => ?_) (fun h5_2 => ?_)
    · exact ezw_return rfl rfl ⟨⟨F, A, rfl, hI⟩, rfl⟩
    · refine ezw_aload_n rfl rfl ?_
      refine ezw_call0_0 rfl (by omega) (ezu_at rfl) rfl rfl rfl rfl (ezs_m45_1 hI (by omega)) ?_
      rintro _ _ ⟨rfl, u3, hu3, rfl⟩
      refine ezw_if_eq rfl rfl ⟨by omega, by omega⟩ (fun h12_3 => ?_) (fun h12_3 => ?_)
      · exact ezw_return rfl rfl ⟨⟨F, A, rfl, hI⟩, rfl⟩
      · refine ezw_iload_n rfl rfl ?_
        refine ezw_if_le rfl rfl hc1 (fun h16_3 => ?_) (fun h16_3 => ?_)
        · refine ezw_aload_n rfl rfl ?_
          refine ezw_aload_n rfl rfl ?_
          refine ezw_iconst (0) rfl rfl ?_
          refine ezw_call0_2 rfl (by omega) (ezu_at rfl) rfl rfl rfl rfl (ezs_m62_1_47 hI (by omega) hzT ⟨by decide, by decide⟩) ?_
          rintro _ _ ⟨⟨F, A, rfl, hI⟩, u4, hu4, rfl⟩
          refine ezw_istore_n rfl rfl ?_
          refine ezw_aload_n rfl rfl ?_
          refine ezw_call0_0 rfl (by omega) (ezu_at rfl) rfl rfl rfl rfl (ezs_m45_1 hI (by omega)) ?_
          rintro _ _ ⟨rfl, u5, hu5, rfl⟩
          refine ezw_if_ne rfl rfl ⟨by omega, by omega⟩ (fun h41_5 => ?_) (fun h41_5 => ?_)
          · refine ezw_aload_n rfl rfl ?_
            refine ezw_iload_n rfl rfl ?_
            refine ezw_call0_1 rfl (by omega) (ezu_at rfl) rfl rfl rfl rfl (ezs_m66_47 hI (by omega) hu4) ?_
            rintro _ _ ⟨rfl, u6, hu6, rfl⟩
            refine ezw_if_eq rfl rfl ⟨by omega, by omega⟩ (fun h50_6 => ?_) (fun h50_6 => ?_)
            · refine ezw_aload_n rfl rfl ?_
              refine ezs_get_i hI rfl rfl rfl rfl rfl rfl (fun u7 hu7 ku7 => ?_)
              refine ezw_bipush (6) rfl rfl ?_
              refine ezw_icmp_lt rfl rfl hu7 ⟨by decide, by decide⟩ (fun h67_7 => ?_) (fun h67_7 => ?_)
              · refine ezw_aload_n rfl rfl ?_
                refine ezw_iload_n rfl rfl ?_
                refine ezw_call0_1 rfl (by omega) (ezu_at rfl) rfl rfl rfl rfl (ezs_m67_47 hI (by omega) hzA hu4) ?_
                rintro _ _ ⟨⟨F, A, rfl, hI⟩, rfl⟩
                refine ezw_aload_n rfl rfl ?_
                refine ezw_call0_0 rfl (by omega) (ezu_at rfl) rfl rfl rfl rfl (ezs_m30_1 hI (by omega) hzT) ?_
                rintro _ _ ⟨⟨F, A, rfl, hI⟩, rfl⟩
                refine ezw_iinc (1) rfl rfl rfl rfl rfl ?_
                refine ezw_goto rfl rfl ?_
                exact ezw_keepE [true, true, true, false] (ihc1 (c1 + (1)) (by omega) ⟨by omega, by omega⟩ (by omega)  F A hI)
              · refine ezw_aload_n rfl rfl ?_
                refine ezw_iconst (5) rfl rfl ?_
                refine ezw_call0_1 rfl (by omega) (ezu_at rfl) rfl rfl rfl rfl (ezs_m50_1 hI (by omega) hzT ⟨by decide, by decide⟩) ?_
                rintro _ _ ⟨⟨F, A, rfl, hI⟩, rfl⟩
                refine ezw_goto rfl rfl ?_
                refine ezw_iinc (1) rfl rfl rfl rfl rfl ?_
                refine ezw_goto rfl rfl ?_
                exact ezw_keepE [true, true, true, false] (ihc1 (c1 + (1)) (by omega) ⟨by omega, by omega⟩ (by omega)  F A hI)
            · refine ezw_aload_n rfl rfl ?_
              refine ezw_iconst (3) rfl rfl ?_
              refine ezw_call0_1 rfl (by omega) (ezu_at rfl) rfl rfl rfl rfl (ezs_m50_1 hI (by omega) hzT ⟨by decide, by decide⟩) ?_
              rintro _ _ ⟨⟨F, A, rfl, hI⟩, rfl⟩
              refine ezw_goto rfl rfl ?_
              refine ezw_iinc (1) rfl rfl rfl rfl rfl ?_
              refine ezw_goto rfl rfl ?_
              exact ezw_keepE [true, true, true, false] (ihc1 (c1 + (1)) (by omega) ⟨by omega, by omega⟩ (by omega)  F A hI)
          · exact ezw_return rfl rfl ⟨⟨F, A, rfl, hI⟩, rfl⟩
        · refine ezw_aload_n rfl rfl ?_
          refine ezw_sipush (259) rfl rfl ?_
          refine ezw_call0_1 rfl (by omega) (ezu_at rfl) rfl rfl rfl rfl (ezs_m46_1 hI (by omega) ⟨by decide, by decide⟩) ?_
          rintro _ _ ⟨rfl, u8, hu8, rfl⟩
          refine ezw_if_eq rfl rfl ⟨by omega, by omega⟩ (fun h26_8 => ?_) (fun h26_8 => ?_)
          · refine ezw_aload_n rfl rfl ?_
            refine ezw_aload_n rfl rfl ?_
            refine ezw_iconst (0) rfl rfl ?_
            refine ezw_call0_2 rfl (by omega) (ezu_at rfl) rfl rfl rfl rfl (ezs_m62_1_47 hI (by omega) hzT ⟨by decide, by decide⟩) ?_
            rintro _ _ ⟨⟨F, A, rfl, hI⟩, u9, hu9, rfl⟩
            refine ezw_istore_n rfl rfl ?_
            refine ezw_aload_n rfl rfl ?_
            refine ezw_call0_0 rfl (by omega) (ezu_at rfl) rfl rfl rfl rfl (ezs_m45_1 hI (by omega)) ?_
            rintro _ _ ⟨rfl, u10, hu10, rfl⟩
            refine ezw_if_ne rfl rfl ⟨by omega, by omega⟩ (fun h41_10 => ?_) (fun h41_10 => ?_)
            · refine ezw_aload_n rfl rfl ?_
              refine ezw_iload_n rfl rfl ?_
              refine ezw_call0_1 rfl (by omega) (ezu_at rfl) rfl rfl rfl rfl (ezs_m66_47 hI (by omega) hu9) ?_
              rintro _ _ ⟨rfl, u11, hu11, rfl⟩
              refine ezw_if_eq rfl rfl ⟨by omega, by omega⟩ (fun h50_11 => ?_) (fun h50_11 => ?_)
              · refine ezw_aload_n rfl rfl ?_
                refine ezs_get_i hI rfl rfl rfl rfl rfl rfl (fun u12 hu12 ku12 => ?_)
                refine ezw_bipush (6) rfl rfl ?_
                refine ezw_icmp_lt rfl rfl hu12 ⟨by decide, by decide⟩ (fun h67_12 => ?_) (fun h67_12 => ?_)
                · refine ezw_aload_n rfl rfl ?_
                  refine ezw_iload_n rfl rfl ?_
                  refine ezw_call0_1 rfl (by omega) (ezu_at rfl) rfl rfl rfl rfl (ezs_m67_47 hI (by omega) hzA hu9) ?_
                  rintro _ _ ⟨⟨F, A, rfl, hI⟩, rfl⟩
                  refine ezw_aload_n rfl rfl ?_
                  refine ezw_call0_0 rfl (by omega) (ezu_at rfl) rfl rfl rfl rfl (ezs_m30_1 hI (by omega) hzT) ?_
                  rintro _ _ ⟨⟨F, A, rfl, hI⟩, rfl⟩
                  refine ezw_iinc (1) rfl rfl rfl rfl rfl ?_
                  refine ezw_goto rfl rfl ?_
                  exact ezw_keepE [true, true, true, false] (ihc1 (c1 + (1)) (by omega) ⟨by omega, by omega⟩ (by omega)  F A hI)
                · refine ezw_aload_n rfl rfl ?_
                  refine ezw_iconst (5) rfl rfl ?_
                  refine ezw_call0_1 rfl (by omega) (ezu_at rfl) rfl rfl rfl rfl (ezs_m50_1 hI (by omega) hzT ⟨by decide, by decide⟩) ?_
                  rintro _ _ ⟨⟨F, A, rfl, hI⟩, rfl⟩
                  refine ezw_goto rfl rfl ?_
                  refine ezw_iinc (1) rfl rfl rfl rfl rfl ?_
                  refine ezw_goto rfl rfl ?_
                  exact ezw_keepE [true, true, true, false] (ihc1 (c1 + (1)) (by omega) ⟨by omega, by omega⟩ (by omega)  F A hI)
              · refine ezw_aload_n rfl rfl ?_
                refine ezw_iconst (3) rfl rfl ?_
                refine ezw_call0_1 rfl (by omega) (ezu_at rfl) rfl rfl rfl rfl (ezs_m50_1 hI (by omega) hzT ⟨by decide, by decide⟩) ?_
                rintro _ _ ⟨⟨F, A, rfl, hI⟩, rfl⟩
                refine ezw_goto rfl rfl ?_
                refine ezw_iinc (1) rfl rfl rfl rfl rfl ?_
                refine ezw_goto rfl rfl ?_
                exact ezw_keepE [true, true, true, false] (ihc1 (c1 + (1)) (by omega) ⟨by omega, by omega⟩ (by omega)  F A hI)
            · exact ezw_return rfl rfl ⟨⟨F, A, rfl, hI⟩, rfl⟩
          · exact ezw_return rfl rfl ⟨⟨F, A, rfl, hI⟩, rfl⟩
  exact ezw_keepE [true, true, true, false] (L2_1 (0) ⟨by decide, by decide⟩ (by omega)  F A hI)
theorem ezs_m68_1_47 {F : Nat → Nat → Int} {A : Nat → Int → Int} (hI : ezs_I fz F0 A0 F A) (hd : 6 ≤ d) (hzA : ∀ q, 4 ≤ q → q < 72 → fz q = false) (hzT : fz 1 = false) : ezw_C l ρ B xa Hb D cA 68 d [ezw_p 1, ezw_p 47] (ezu_g e F A) (ezs_P e fz F0 A0 ezs_rn) := by
  refine ezw_met (k := 0) rfl rfl ?_
  refine ezw_aload_n rfl rfl ?_
  refine ezw_bipush (7) rfl rfl ?_
  refine ezw_call0_1 rfl (by omega) (ezu_at rfl) rfl rfl rfl rfl (ezs_m56_1 hI (by omega) hzT ⟨by decide, by decide⟩) ?_
  rintro _ _ ⟨⟨F, A, rfl, hI⟩, rfl⟩
  refine ezw_aload_n rfl rfl ?_
  refine ezw_iconst (0) rfl rfl ?_
  refine ezw_aload_n rfl rfl ?_
  refine ezw_iconst (0) rfl rfl ?_
  refine ezw_sipush (999) rfl rfl ?_
  refine ezw_call0_2 rfl (by omega) (ezu_at rfl) rfl rfl rfl rfl (ezs_m57_1 hI (by omega) hzT ⟨by decide, by decide⟩ ⟨by decide, by decide⟩) ?_
  rintro _ _ ⟨⟨F, A, rfl, hI⟩, u1, hu1, rfl⟩
  refine ezw_call0_2 rfl (by omega) (ezu_at rfl) rfl rfl rfl rfl (ezs_m69_47 hI (by omega) hzA ⟨by decide, by decide⟩ ⟨by omega, by omega⟩ (by omega)) ?_
  rintro _ _ ⟨⟨F, A, rfl, hI⟩, rfl⟩
  refine ezw_aload_n rfl rfl ?_
  refine ezw_bipush (8) rfl rfl ?_
  refine ezw_call0_1 rfl (by omega) (ezu_at rfl) rfl rfl rfl rfl (ezs_m56_1 hI (by omega) hzT ⟨by decide, by decide⟩) ?_
  rintro _ _ ⟨⟨F, A, rfl, hI⟩, rfl⟩
  refine ezw_aload_n rfl rfl ?_
  refine ezw_iconst (1) rfl rfl ?_
  refine ezw_aload_n rfl rfl ?_
  refine ezw_iconst (0) rfl rfl ?_
  refine ezw_bipush (99) rfl rfl ?_
  refine ezw_call0_2 rfl (by omega) (ezu_at rfl) rfl rfl rfl rfl (ezs_m57_1 hI (by omega) hzT ⟨by decide, by decide⟩ ⟨by decide, by decide⟩) ?_
  rintro _ _ ⟨⟨F, A, rfl, hI⟩, u2, hu2, rfl⟩
  refine ezw_call0_2 rfl (by omega) (ezu_at rfl) rfl rfl rfl rfl (ezs_m69_47 hI (by omega) hzA ⟨by decide, by decide⟩ ⟨by omega, by omega⟩ (by omega)) ?_
  rintro _ _ ⟨⟨F, A, rfl, hI⟩, rfl⟩
  exact ezw_return rfl rfl ⟨⟨F, A, rfl, hI⟩, rfl⟩
theorem ezs_m70_1_47 {F : Nat → Nat → Int} {A : Nat → Int → Int} (hI : ezs_I fz F0 A0 F A) (hd : 6 ≤ d) (hzA : ∀ q, 4 ≤ q → q < 72 → fz q = false) (hzT : fz 1 = false) : ezw_C l ρ B xa Hb D cA 70 d [ezw_p 1, ezw_p 47] (ezu_g e F A) (ezs_P e fz F0 A0 ezs_rn) := by
  refine ezw_met (k := 5) rfl rfl ?_
  refine ezw_aload_n rfl rfl ?_
  refine ezw_aload_n rfl rfl ?_
  refine ezw_call2_2 rfl (by omega) rfl rfl (ezs_m52_1_47 hI (by omega) hzT) ?_
  rintro _ _ ⟨⟨F, A, rfl, hI⟩, u1, hu1, rfl⟩
  refine ezw_lstore_n rfl rfl ?_
  refine ezw_aload_n rfl rfl ?_
  refine ezw_bipush (7) rfl rfl ?_
  refine ezw_call0_1 rfl (by omega) (ezu_at rfl) rfl rfl rfl rfl (ezs_m56_1 hI (by omega) hzT ⟨by decide, by decide⟩) ?_
  rintro _ _ ⟨⟨F, A, rfl, hI⟩, rfl⟩
  refine ezw_aload_n rfl rfl ?_
  refine ezw_iconst (0) rfl rfl ?_
  refine ezw_sipush (999) rfl rfl ?_
  refine ezw_call0_2 rfl (by omega) (ezu_at rfl) rfl rfl rfl rfl (ezs_m57_1 hI (by omega) hzT ⟨by decide, by decide⟩ ⟨by decide, by decide⟩) ?_
  rintro _ _ ⟨⟨F, A, rfl, hI⟩, u2, hu2, rfl⟩
  refine ezw_istore rfl rfl ?_
  refine ezw_aload_n rfl rfl ?_
  refine ezw_bipush (10) rfl rfl ?_
  refine ezw_call0_1 rfl (by omega) (ezu_at rfl) rfl rfl rfl rfl (ezs_m56_1 hI (by omega) hzT ⟨by decide, by decide⟩) ?_
  rintro _ _ ⟨⟨F, A, rfl, hI⟩, rfl⟩
  refine ezw_aload_n rfl rfl ?_
  refine ezw_iconst (0) rfl rfl ?_
  refine ezw_bipush (10) rfl rfl ?_
  refine ezw_call0_2 rfl (by omega) (ezu_at rfl) rfl rfl rfl rfl (ezs_m57_1 hI (by omega) hzT ⟨by decide, by decide⟩ ⟨by decide, by decide⟩) ?_
  rintro _ _ ⟨⟨F, A, rfl, hI⟩, u3, hu3, rfl⟩
  refine ezw_istore rfl rfl ?_
  refine ezw_aload_n rfl rfl ?_
  refine ezw_bipush (11) rfl rfl ?_
  refine ezw_call0_1 rfl (by omega) (ezu_at rfl) rfl rfl rfl rfl (ezs_m56_1 hI (by omega) hzT ⟨by decide, by decide⟩) ?_
  rintro _ _ ⟨⟨F, A, rfl, hI⟩, rfl⟩
  refine ezw_aload_n rfl rfl ?_
  refine ezw_iconst (0) rfl rfl ?_
  refine ezw_bipush (10) rfl rfl ?_
  refine ezw_iload rfl rfl ?_
  refine ezs_isub rfl (fun u4 hu4 => ?_)
  refine ezw_call0_2 rfl (by omega) (ezu_at rfl) rfl rfl rfl rfl (ezs_m57_1 hI (by omega) hzT ⟨by decide, by decide⟩ hu4) ?_
  rintro _ _ ⟨⟨F, A, rfl, hI⟩, u5, hu5, rfl⟩
  refine ezw_istore rfl rfl ?_
  refine ezw_aload_n rfl rfl ?_
  refine ezw_call0_0 rfl (by omega) (ezu_at rfl) rfl rfl rfl rfl (ezs_m45_1 hI (by omega)) ?_
  rintro _ _ ⟨rfl, u6, hu6, rfl⟩
  refine ezw_if_eq rfl rfl ⟨by omega, by omega⟩ (fun h59_6 => ?_) (fun h59_6 => ?_)
  · exact ezw_return rfl rfl ⟨⟨F, A, rfl, hI⟩, rfl⟩
  · refine ezw_aload_n rfl rfl ?_
    refine ezw_lload_n rfl rfl ?_
    refine ezw_iload rfl rfl ?_
    refine ezw_iload rfl rfl ?_
    refine ezw_iload rfl rfl ?_
    refine ezw_call0_4 rfl (by omega) (ezu_at rfl) rfl rfl rfl rfl (ezs_m71_47 hI (by omega) hzA hu1 ⟨by omega, by omega⟩ ⟨by omega, by omega⟩ ⟨by omega, by omega⟩) ?_
    rintro _ _ ⟨⟨F, A, rfl, hI⟩, rfl⟩
    exact ezw_return rfl rfl ⟨⟨F, A, rfl, hI⟩, rfl⟩
theorem ezs_m72_1_47 {F : Nat → Nat → Int} {A : Nat → Int → Int} (hI : ezs_I fz F0 A0 F A) (hd : 6 ≤ d) (hzA : ∀ q, 4 ≤ q → q < 72 → fz q = false) (hzT : fz 1 = false) : ezw_C l ρ B xa Hb D cA 72 d [ezw_p 1, ezw_p 47] (ezu_g e F A) (ezs_P e fz F0 A0 ezs_rn) := by
  refine ezw_met (k := 2) rfl rfl ?_
  refine ezw_aload_n rfl rfl ?_
  refine ezw_aload_n rfl rfl ?_
  refine ezw_iconst (1) rfl rfl ?_
  refine ezw_call0_2 rfl (by omega) (ezu_at rfl) rfl rfl rfl rfl (ezs_m61_1_47 hI (by omega) hzT ⟨by decide, by decide⟩) ?_
  rintro _ _ ⟨⟨F, A, rfl, hI⟩, u1, hu1, rfl⟩
  refine ezw_istore_n rfl rfl ?_
  refine ezw_aload_n rfl rfl ?_
  refine ezw_call0_0 rfl (by omega) (ezu_at rfl) rfl rfl rfl rfl (ezs_m45_1 hI (by omega)) ?_
  rintro _ _ ⟨rfl, u2, hu2, rfl⟩
  refine ezw_if_ne rfl rfl ⟨by omega, by omega⟩ (fun h11_2 => ?_) (fun h11_2 => ?_)
  · refine ezw_aload_n rfl rfl ?_
    refine ezw_aload_n rfl rfl ?_
    refine ezw_iconst (1) rfl rfl ?_
    refine ezw_call0_2 rfl (by omega) (ezu_at rfl) rfl rfl rfl rfl (ezs_m62_1_47 hI (by omega) hzT ⟨by decide, by decide⟩) ?_
    rintro _ _ ⟨⟨F, A, rfl, hI⟩, u3, hu3, rfl⟩
    refine ezw_istore_n rfl rfl ?_
    refine ezw_aload_n rfl rfl ?_
    refine ezw_call0_0 rfl (by omega) (ezu_at rfl) rfl rfl rfl rfl (ezs_m45_1 hI (by omega)) ?_
    rintro _ _ ⟨rfl, u4, hu4, rfl⟩
    refine ezw_if_ne rfl rfl ⟨by omega, by omega⟩ (fun h26_4 => ?_) (fun h26_4 => ?_)
    · refine ezw_iload_n rfl rfl ?_
      refine ezw_iload_n rfl rfl ?_
      refine ezw_icmp_eq rfl rfl hu1 hu3 (fun h32_4 => ?_) (fun h32_4 => ?_)
      · refine ezw_aload_n rfl rfl ?_
        refine ezw_iconst (3) rfl rfl ?_
        refine ezw_call0_1 rfl (by omega) (ezu_at rfl) rfl rfl rfl rfl (ezs_m50_1 hI (by omega) hzT ⟨by decide, by decide⟩) ?_
        rintro _ _ ⟨⟨F, A, rfl, hI⟩, rfl⟩
        refine ezw_goto rfl rfl ?_
        exact ezw_return rfl rfl ⟨⟨F, A, rfl, hI⟩, rfl⟩
      · refine ezw_aload_n rfl rfl ?_
        refine ezw_iload_n rfl rfl ?_
        refine ezw_iload_n rfl rfl ?_
        refine ezw_call0_2 rfl (by omega) (ezu_at rfl) rfl rfl rfl rfl (ezs_m73_47 hI (by omega) hu1 hu3) ?_
        rintro _ _ ⟨rfl, u5, hu5, rfl⟩
        refine ezw_if_eq rfl rfl ⟨by omega, by omega⟩ (fun h41_5 => ?_) (fun h41_5 => ?_)
        · refine ezw_aload_n rfl rfl ?_
          refine ezw_iload_n rfl rfl ?_
          refine ezw_iload_n rfl rfl ?_
          refine ezw_call0_2 rfl (by omega) (ezu_at rfl) rfl rfl rfl rfl (ezs_m74_47 hI (by omega) hzA hu1 hu3) ?_
          rintro _ _ ⟨⟨F, A, rfl, hI⟩, rfl⟩
          refine ezw_aload_n rfl rfl ?_
          refine ezw_call0_0 rfl (by omega) (ezu_at rfl) rfl rfl rfl rfl (ezs_m30_1 hI (by omega) hzT) ?_
          rintro _ _ ⟨⟨F, A, rfl, hI⟩, rfl⟩
          exact ezw_return rfl rfl ⟨⟨F, A, rfl, hI⟩, rfl⟩
        · refine ezw_aload_n rfl rfl ?_
          refine ezw_iconst (3) rfl rfl ?_
          refine ezw_call0_1 rfl (by omega) (ezu_at rfl) rfl rfl rfl rfl (ezs_m50_1 hI (by omega) hzT ⟨by decide, by decide⟩) ?_
          rintro _ _ ⟨⟨F, A, rfl, hI⟩, rfl⟩
          refine ezw_goto rfl rfl ?_
          exact ezw_return rfl rfl ⟨⟨F, A, rfl, hI⟩, rfl⟩
    · exact ezw_return rfl rfl ⟨⟨F, A, rfl, hI⟩, rfl⟩
  · exact ezw_return rfl rfl ⟨⟨F, A, rfl, hI⟩, rfl⟩
theorem ezs_m75_1_47 {F : Nat → Nat → Int} {A : Nat → Int → Int} (hI : ezs_I fz F0 A0 F A) (hd : 6 ≤ d) (hzA : ∀ q, 4 ≤ q → q < 72 → fz q = false) (hzT : fz 1 = false) : ezw_C l ρ B xa Hb D cA 75 d [ezw_p 1, ezw_p 47] (ezu_g e F A) (ezs_P e fz F0 A0 ezs_rn) := by
  refine ezw_met (k := 1) rfl rfl ?_
  refine ezw_aload_n rfl rfl ?_
  refine ezw_iconst (2) rfl rfl ?_
  refine ezw_aload_n rfl rfl ?_
  refine ezw_bipush (30) rfl rfl ?_
  refine ezw_iconst (4) rfl rfl ?_
  refine ezw_call0_2 rfl (by omega) (ezu_at rfl) rfl rfl rfl rfl (ezs_m59_1 hI (by omega) hzT ⟨by decide, by decide⟩ (by omega) ⟨by decide, by decide⟩ (by omega)) ?_
  rintro _ _ ⟨⟨F, A, rfl, hI⟩, u1, hu1, rfl⟩
  refine ezw_call0_2 rfl (by omega) (ezu_at rfl) rfl rfl rfl rfl (ezs_m69_47 hI (by omega) hzA ⟨by decide, by decide⟩ ⟨by omega, by omega⟩ (by omega)) ?_
  rintro _ _ ⟨⟨F, A, rfl, hI⟩, rfl⟩
  refine ezw_aload_n rfl rfl ?_
  refine ezw_iconst (0) rfl rfl ?_
  refine ezw_bipush (10) rfl rfl ?_
  refine ezw_call0_2 rfl (by omega) (ezu_at rfl) rfl rfl rfl rfl (ezs_m57_1 hI (by omega) hzT ⟨by decide, by decide⟩ ⟨by decide, by decide⟩) ?_
  rintro _ _ ⟨⟨F, A, rfl, hI⟩, u2, hu2, rfl⟩
  refine ezw_istore_n rfl rfl ?_
  refine ezw_aload_n rfl rfl ?_
  refine ezw_iconst (3) rfl rfl ?_
  refine ezw_iload_n rfl rfl ?_
  refine ezw_call0_2 rfl (by omega) (ezu_at rfl) rfl rfl rfl rfl (ezs_m69_47 hI (by omega) hzA ⟨by decide, by decide⟩ ⟨by omega, by omega⟩ (by omega)) ?_
  rintro _ _ ⟨⟨F, A, rfl, hI⟩, rfl⟩
  refine ezw_aload_n rfl rfl ?_
  refine ezw_iconst (4) rfl rfl ?_
  refine ezw_aload_n rfl rfl ?_
  refine ezw_iconst (0) rfl rfl ?_
  refine ezw_bipush (10) rfl rfl ?_
  refine ezw_iload_n rfl rfl ?_
  refine ezs_isub rfl (fun u3 hu3 => ?_)
  refine ezw_call0_2 rfl (by omega) (ezu_at rfl) rfl rfl rfl rfl (ezs_m57_1 hI (by omega) hzT ⟨by decide, by decide⟩ hu3) ?_
  rintro _ _ ⟨⟨F, A, rfl, hI⟩, u4, hu4, rfl⟩
  refine ezw_call0_2 rfl (by omega) (ezu_at rfl) rfl rfl rfl rfl (ezs_m69_47 hI (by omega) hzA ⟨by decide, by decide⟩ ⟨by omega, by omega⟩ (by omega)) ?_
  rintro _ _ ⟨⟨F, A, rfl, hI⟩, rfl⟩
  exact ezw_return rfl rfl ⟨⟨F, A, rfl, hI⟩, rfl⟩
theorem ezs_m76_1_47 {F : Nat → Nat → Int} {A : Nat → Int → Int} (hI : ezs_I fz F0 A0 F A) (hd : 6 ≤ d) (hzA : ∀ q, 4 ≤ q → q < 72 → fz q = false) (hzT : fz 1 = false) : ezw_C l ρ B xa Hb D cA 76 d [ezw_p 1, ezw_p 47] (ezu_g e F A) (ezs_P e fz F0 A0 ezs_rn) := by
  refine ezw_met (k := 0) rfl rfl ?_
  refine ezw_aload_n rfl rfl ?_
  refine ezw_bipush (7) rfl rfl ?_
  refine ezw_aload_n rfl rfl ?_
  refine ezw_iconst (0) rfl rfl ?_
  refine ezw_bipush (60) rfl rfl ?_
  refine ezw_call0_2 rfl (by omega) (ezu_at rfl) rfl rfl rfl rfl (ezs_m57_1 hI (by omega) hzT ⟨by decide, by decide⟩ ⟨by decide, by decide⟩) ?_
  rintro _ _ ⟨⟨F, A, rfl, hI⟩, u1, hu1, rfl⟩
  refine ezw_call0_2 rfl (by omega) (ezu_at rfl) rfl rfl rfl rfl (ezs_m69_47 hI (by omega) hzA ⟨by decide, by decide⟩ ⟨by omega, by omega⟩ (by omega)) ?_
  rintro _ _ ⟨⟨F, A, rfl, hI⟩, rfl⟩
  refine ezw_aload_n rfl rfl ?_
  refine ezw_bipush (17) rfl rfl ?_
  refine ezw_call0_1 rfl (by omega) (ezu_at rfl) rfl rfl rfl rfl (ezs_m56_1 hI (by omega) hzT ⟨by decide, by decide⟩) ?_
  rintro _ _ ⟨⟨F, A, rfl, hI⟩, rfl⟩
  refine ezw_aload_n rfl rfl ?_
  refine ezw_bipush (8) rfl rfl ?_
  refine ezw_aload_n rfl rfl ?_
  refine ezw_iconst (0) rfl rfl ?_
  refine ezw_bipush (60) rfl rfl ?_
  refine ezw_call0_2 rfl (by omega) (ezu_at rfl) rfl rfl rfl rfl (ezs_m57_1 hI (by omega) hzT ⟨by decide, by decide⟩ ⟨by decide, by decide⟩) ?_
  rintro _ _ ⟨⟨F, A, rfl, hI⟩, u2, hu2, rfl⟩
  refine ezw_call0_2 rfl (by omega) (ezu_at rfl) rfl rfl rfl rfl (ezs_m69_47 hI (by omega) hzA ⟨by decide, by decide⟩ ⟨by omega, by omega⟩ (by omega)) ?_
  rintro _ _ ⟨⟨F, A, rfl, hI⟩, rfl⟩
  exact ezw_return rfl rfl ⟨⟨F, A, rfl, hI⟩, rfl⟩
theorem ezs_m27_56 {a1 : Int} {F : Nat → Nat → Int} {A : Nat → Int → Int} (hI : ezs_I fz F0 A0 F A) (hd : 0 ≤ d) (ha1 : ezw_in a1) : ezw_C l ρ B xa Hb D cA 27 d [ezw_p 56, ezw_i a1] (ezu_g e F A) (ezs_Pp e F A ezs_ri) := by
  refine ezw_met (k := 0) rfl rfl ?_
  refine ezw_aload_n rfl rfl ?_
  refine ezw_ifnull rfl ?_
  refine ezw_iload_n rfl rfl ?_
  refine ezw_if_lt rfl rfl ha1 (fun h5_0 => ?_) (fun h5_0 => ?_)
  · refine ezw_iconst (0) rfl rfl ?_
    exact ezw_ireturn rfl rfl ⟨rfl, _, ⟨by decide, by decide⟩, rfl⟩
  · refine ezw_iload_n rfl rfl ?_
    refine ezw_aload_n rfl rfl ?_
    refine ezs_alen (k := 16) rfl rfl rfl rfl (by decide) (by decide) ?_
    refine ezw_icmp_ge rfl rfl ha1 ⟨by decide, by decide⟩ (fun h11_0 => ?_) (fun h11_0 => ?_)
    · refine ezw_iconst (0) rfl rfl ?_
      exact ezw_ireturn rfl rfl ⟨rfl, _, ⟨by decide, by decide⟩, rfl⟩
    · refine ezw_aload_n rfl rfl ?_
      refine ezw_iload_n rfl rfl ?_
      refine ezs_iaload hI rfl rfl rfl (by omega) (by omega) (by decide) (fun u1 hu1 ku1 => ?_)
      refine ezw_goto rfl rfl ?_
      exact ezw_ireturn rfl rfl ⟨rfl, _, hu1, rfl⟩
theorem ezs_m78_55 {a1 a2 : Int} {F : Nat → Nat → Int} {A : Nat → Int → Int} (hI : ezs_I fz F0 A0 F A) (hd : 1 ≤ d) (ha1 : ezw_in a1) (ha2 : ezw_in a2) : ezw_C l ρ B xa Hb D cA 78 d [ezw_p 55, ezw_i a1, ezw_i a2] (ezu_g e F A) (ezs_Pp e F A ezs_rz) := by
  refine ezw_met (k := 0) rfl rfl ?_
  refine ezw_aload_n rfl rfl ?_
  refine ezs_getp (p := 56) rfl rfl rfl rfl rfl ?_
  refine ezw_iload_n rfl rfl ?_
  refine ezw_call3_2 rfl (by omega) rfl rfl (ezs_m27_56 hI (by omega) ha1) ?_
  rintro _ _ ⟨rfl, u1, hu1, rfl⟩
  refine ezw_iload_n rfl rfl ?_
  refine ezw_call3_2 rfl (by omega) rfl rfl (ezs_m49 hI (by omega) hu1 ha2) ?_
  rintro _ _ ⟨rfl, u2, hu2, rfl⟩
  refine ezw_iconst (1) rfl rfl ?_
  refine ezw_icmp_ne rfl rfl hu2 ⟨by decide, by decide⟩ (fun h13_2 => ?_) (fun h13_2 => ?_)
  · refine ezw_iconst (0) rfl rfl ?_
    exact ezw_ireturn rfl (ezw_zret ⟨by omega, by omega⟩) ⟨rfl, _, ⟨by omega, by omega⟩, rfl⟩
  · refine ezw_iconst (1) rfl rfl ?_
    refine ezw_goto rfl rfl ?_
    exact ezw_ireturn rfl (ezw_zret ⟨by omega, by omega⟩) ⟨rfl, _, ⟨by omega, by omega⟩, rfl⟩
theorem ezs_m21_56 {a1 a2 : Int} {F : Nat → Nat → Int} {A : Nat → Int → Int} (hI : ezs_I fz F0 A0 F A) (hd : 0 ≤ d) (hzA : ∀ q, 4 ≤ q → q < 72 → fz q = false) (ha1 : ezw_in a1) (ha2 : ezw_in a2) : ezw_C l ρ B xa Hb D cA 21 d [ezw_p 56, ezw_i a1, ezw_i a2] (ezu_g e F A) (ezs_P e fz F0 A0 ezs_rn) := by
  refine ezw_met (k := 0) rfl rfl ?_
  refine ezw_aload_n rfl rfl ?_
  refine ezw_ifnull rfl ?_
  refine ezw_iload_n rfl rfl ?_
  refine ezw_if_lt rfl rfl ha1 (fun h5_0 => ?_) (fun h5_0 => ?_)
  · exact ezw_return rfl rfl ⟨⟨F, A, rfl, hI⟩, rfl⟩
  · refine ezw_iload_n rfl rfl ?_
    refine ezw_aload_n rfl rfl ?_
    refine ezs_alen (k := 16) rfl rfl rfl rfl (by decide) (by decide) ?_
    refine ezw_icmp_ge rfl rfl ha1 ⟨by decide, by decide⟩ (fun h11_0 => ?_) (fun h11_0 => ?_)
    · exact ezw_return rfl rfl ⟨⟨F, A, rfl, hI⟩, rfl⟩
    · refine ezw_aload_n rfl rfl ?_
      refine ezw_iload_n rfl rfl ?_
      refine ezw_iload_n rfl rfl ?_
      refine ezs_iastore hI rfl rfl rfl (by omega) (by omega) (by decide) (hzA 56 (by decide) (by decide)) ha2 (fun F A hI => ?_)
      exact ezw_return rfl rfl ⟨⟨F, A, rfl, hI⟩, rfl⟩
theorem ezs_m79_55 {a1 a2 : Int} {F : Nat → Nat → Int} {A : Nat → Int → Int} (hI : ezs_I fz F0 A0 F A) (hd : 1 ≤ d) (hzA : ∀ q, 4 ≤ q → q < 72 → fz q = false) (ha1 : ezw_in a1) (ha2 : ezw_in a2) : ezw_C l ρ B xa Hb D cA 79 d [ezw_p 55, ezw_i a1, ezw_i a2] (ezu_g e F A) (ezs_P e fz F0 A0 ezs_rn) := by
  refine ezw_met (k := 0) rfl rfl ?_
  refine ezw_aload_n rfl rfl ?_
  refine ezs_getp (p := 56) rfl rfl rfl rfl rfl ?_
  refine ezw_iload_n rfl rfl ?_
  refine ezw_aload_n rfl rfl ?_
  refine ezs_getp (p := 56) rfl rfl rfl rfl rfl ?_
  refine ezw_iload_n rfl rfl ?_
  refine ezw_call3_2 rfl (by omega) rfl rfl (ezs_m27_56 hI (by omega) ha1) ?_
  rintro _ _ ⟨rfl, u1, hu1, rfl⟩
  refine ezw_iconst (1) rfl rfl ?_
  refine ezw_iload_n rfl rfl ?_
  refine ezw_ishlO rfl (fun u2 hu2 => ?_)
  refine ezs_ior rfl (fun u3 hu3 => ?_)
  refine ezw_call3_3 rfl (by omega) rfl rfl (ezs_m21_56 hI (by omega) hzA ha1 hu3) ?_
  rintro _ _ ⟨⟨F, A, rfl, hI⟩, rfl⟩
  refine ezw_aload_n rfl rfl ?_
  refine ezw_dup rfl rfl ?_
  refine ezs_get_i hI rfl rfl rfl rfl rfl rfl (fun u4 hu4 ku4 => ?_)
  refine ezw_iconst (1) rfl rfl ?_
  refine ezs_iadd rfl (fun u5 hu5 => ?_)
  refine ezs_put_i hI rfl rfl rfl rfl rfl (hzA 55 (by decide) (by decide)) hu5 (fun F A hI => ?_)
  exact ezw_return rfl rfl ⟨⟨F, A, rfl, hI⟩, rfl⟩
theorem ezs_m77_1_47 {F : Nat → Nat → Int} {A : Nat → Int → Int} (hI : ezs_I fz F0 A0 F A) (hd : 6 ≤ d) (hzA : ∀ q, 4 ≤ q → q < 72 → fz q = false) (hzT : fz 1 = false) : ezw_C l ρ B xa Hb D cA 77 d [ezw_p 1, ezw_p 47] (ezu_g e F A) (ezs_P e fz F0 A0 ezs_rn) := by
  refine ezw_met (k := 2) rfl rfl ?_
  refine ezw_aload_n rfl rfl ?_
  refine ezw_iconst (0) rfl rfl ?_
  refine ezw_bipush (15) rfl rfl ?_
  refine ezw_call0_2 rfl (by omega) (ezu_at rfl) rfl rfl rfl rfl (ezs_m57_1 hI (by omega) hzT ⟨by decide, by decide⟩ ⟨by decide, by decide⟩) ?_
  rintro _ _ ⟨⟨F, A, rfl, hI⟩, u1, hu1, rfl⟩
  refine ezw_istore_n rfl rfl ?_
  refine ezw_aload_n rfl rfl ?_
  refine ezw_iconst (0) rfl rfl ?_
  refine ezw_bipush (15) rfl rfl ?_
  refine ezw_call0_2 rfl (by omega) (ezu_at rfl) rfl rfl rfl rfl (ezs_m58_1 hI (by omega) hzT ⟨by decide, by decide⟩ ⟨by decide, by decide⟩) ?_
  rintro _ _ ⟨⟨F, A, rfl, hI⟩, u2, hu2, rfl⟩
  refine ezw_istore_n rfl rfl ?_
  refine ezw_aload_n rfl rfl ?_
  refine ezw_call0_0 rfl (by omega) (ezu_at rfl) rfl rfl rfl rfl (ezs_m45_1 hI (by omega)) ?_
  rintro _ _ ⟨rfl, u3, hu3, rfl⟩
  refine ezw_if_ne rfl rfl ⟨by omega, by omega⟩ (fun h20_3 => ?_) (fun h20_3 => ?_)
  · refine ezw_aload_n rfl rfl ?_
    refine ezs_getp (p := 55) rfl rfl rfl rfl rfl ?_
    refine ezw_iload_n rfl rfl ?_
    refine ezw_iload_n rfl rfl ?_
    refine ezw_call0_2 rfl (by omega) (ezu_at rfl) rfl rfl rfl rfl (ezs_m78_55 hI (by omega) ⟨by omega, by omega⟩ ⟨by omega, by omega⟩) ?_
    rintro _ _ ⟨rfl, u4, hu4, rfl⟩
    refine ezw_if_eq rfl rfl ⟨by omega, by omega⟩ (fun h33_4 => ?_) (fun h33_4 => ?_)
    · refine ezw_aload_n rfl rfl ?_
      refine ezs_getp (p := 55) rfl rfl rfl rfl rfl ?_
      refine ezw_iload_n rfl rfl ?_
      refine ezw_iload_n rfl rfl ?_
      refine ezw_call0_2 rfl (by omega) (ezu_at rfl) rfl rfl rfl rfl (ezs_m79_55 hI (by omega) hzA ⟨by omega, by omega⟩ ⟨by omega, by omega⟩) ?_
      rintro _ _ ⟨⟨F, A, rfl, hI⟩, rfl⟩
      refine ezw_aload_n rfl rfl ?_
      refine ezw_call0_0 rfl (by omega) (ezu_at rfl) rfl rfl rfl rfl (ezs_m30_1 hI (by omega) hzT) ?_
      rintro _ _ ⟨⟨F, A, rfl, hI⟩, rfl⟩
      exact ezw_return rfl rfl ⟨⟨F, A, rfl, hI⟩, rfl⟩
    · refine ezw_aload_n rfl rfl ?_
      refine ezw_iconst (3) rfl rfl ?_
      refine ezw_call0_1 rfl (by omega) (ezu_at rfl) rfl rfl rfl rfl (ezs_m50_1 hI (by omega) hzT ⟨by decide, by decide⟩) ?_
      rintro _ _ ⟨⟨F, A, rfl, hI⟩, rfl⟩
      refine ezw_goto rfl rfl ?_
      exact ezw_return rfl rfl ⟨⟨F, A, rfl, hI⟩, rfl⟩
  · exact ezw_return rfl rfl ⟨⟨F, A, rfl, hI⟩, rfl⟩
theorem ezs_m21_62 {a1 a2 : Int} {F : Nat → Nat → Int} {A : Nat → Int → Int} (hI : ezs_I fz F0 A0 F A) (hd : 0 ≤ d) (hzA : ∀ q, 4 ≤ q → q < 72 → fz q = false) (ha1 : ezw_in a1) (ha2 : ezw_in a2) : ezw_C l ρ B xa Hb D cA 21 d [ezw_p 62, ezw_i a1, ezw_i a2] (ezu_g e F A) (ezs_P e fz F0 A0 ezs_rn) := by
  refine ezw_met (k := 0) rfl rfl ?_
  refine ezw_aload_n rfl rfl ?_
  refine ezw_ifnull rfl ?_
  refine ezw_iload_n rfl rfl ?_
  refine ezw_if_lt rfl rfl ha1 (fun h5_0 => ?_) (fun h5_0 => ?_)
  · exact ezw_return rfl rfl ⟨⟨F, A, rfl, hI⟩, rfl⟩
  · refine ezw_iload_n rfl rfl ?_
    refine ezw_aload_n rfl rfl ?_
    refine ezs_alen (k := 480) rfl rfl rfl rfl (by decide) (by decide) ?_
    refine ezw_icmp_ge rfl rfl ha1 ⟨by decide, by decide⟩ (fun h11_0 => ?_) (fun h11_0 => ?_)
    · exact ezw_return rfl rfl ⟨⟨F, A, rfl, hI⟩, rfl⟩
    · refine ezw_aload_n rfl rfl ?_
      refine ezw_iload_n rfl rfl ?_
      refine ezw_iload_n rfl rfl ?_
      refine ezs_iastore hI rfl rfl rfl (by omega) (by omega) (by decide) (hzA 62 (by decide) (by decide)) ha2 (fun F A hI => ?_)
      exact ezw_return rfl rfl ⟨⟨F, A, rfl, hI⟩, rfl⟩
theorem ezs_m21_63 {a1 a2 : Int} {F : Nat → Nat → Int} {A : Nat → Int → Int} (hI : ezs_I fz F0 A0 F A) (hd : 0 ≤ d) (hzA : ∀ q, 4 ≤ q → q < 72 → fz q = false) (ha1 : ezw_in a1) (ha2 : ezw_in a2) : ezw_C l ρ B xa Hb D cA 21 d [ezw_p 63, ezw_i a1, ezw_i a2] (ezu_g e F A) (ezs_P e fz F0 A0 ezs_rn) := by
  refine ezw_met (k := 0) rfl rfl ?_
  refine ezw_aload_n rfl rfl ?_
  refine ezw_ifnull rfl ?_
  refine ezw_iload_n rfl rfl ?_
  refine ezw_if_lt rfl rfl ha1 (fun h5_0 => ?_) (fun h5_0 => ?_)
  · exact ezw_return rfl rfl ⟨⟨F, A, rfl, hI⟩, rfl⟩
  · refine ezw_iload_n rfl rfl ?_
    refine ezw_aload_n rfl rfl ?_
    refine ezs_alen (k := 480) rfl rfl rfl rfl (by decide) (by decide) ?_
    refine ezw_icmp_ge rfl rfl ha1 ⟨by decide, by decide⟩ (fun h11_0 => ?_) (fun h11_0 => ?_)
    · exact ezw_return rfl rfl ⟨⟨F, A, rfl, hI⟩, rfl⟩
    · refine ezw_aload_n rfl rfl ?_
      refine ezw_iload_n rfl rfl ?_
      refine ezw_iload_n rfl rfl ?_
      refine ezs_iastore hI rfl rfl rfl (by omega) (by omega) (by decide) (hzA 63 (by decide) (by decide)) ha2 (fun F A hI => ?_)
      exact ezw_return rfl rfl ⟨⟨F, A, rfl, hI⟩, rfl⟩
theorem ezs_m86_47_5_9 {a3 a4 a5 a6 : Int} {F : Nat → Nat → Int} {A : Nat → Int → Int} (hI : ezs_I fz F0 A0 F A) (hd : 4 ≤ d) (hzA : ∀ q, 4 ≤ q → q < 72 → fz q = false) (ha3 : ezw_in a3) (ha4 : ezw_in a4) (ha5 : ezw_in a5) (ha6 : ezw_in a6) : ezw_C l ρ B xa Hb D cA 86 d [ezw_p 47, ezw_p 5, ezw_p 9, ezw_i a3, ezw_i a4, ezw_i a5, ezw_i a6] (ezu_g e F A) (ezs_P e fz F0 A0 ezs_rn) := by
  refine ezw_met (k := 4) rfl rfl ?_
  refine ezw_aload_n rfl rfl ?_
  refine ezs_getp (p := 49) rfl rfl rfl rfl rfl ?_
  refine ezw_iload_n rfl rfl ?_
  refine ezw_call3_2 rfl (by omega) rfl rfl (ezs_m27_49 hI (by omega) ha3) ?_
  rintro _ _ ⟨rfl, u1, hu1, rfl⟩
  refine ezw_istore rfl rfl ?_
  refine ezw_iload rfl rfl ?_
  have J37_2 : ∀ y2 : Int, ezw_in y2 → ∀ F A, ezs_I fz F0 A0 F A → ezw_E l ρ B xa Hb D cA d ezq_re86 (ezs_P e fz F0 A0 ezs_rn) 37 [some (ezw_p 47), some (ezw_p 5), some (ezw_p 9), some (ezw_i a3), some (ezw_i a4), some (ezw_i a5), some (ezw_i a6), some (ezw_i u1), none, none, none] [(ezw_i y2)] (ezu_g e F A) := by
    intro y2 hy2 F A hI
    refine ezw_istore rfl rfl ?_
    refine ezw_iload rfl rfl ?_
    refine ezw_iconst (2) rfl rfl ?_
    refine ezw_iload rfl rfl ?_
    refine ezs_imul rfl (fun u4 hu4 => ?_)
    refine ezs_iadd rfl (fun u5 hu5 => ?_)
    refine ezw_istore rfl rfl ?_
    refine ezw_aload_n rfl rfl ?_
    refine ezs_get_z hI rfl rfl rfl rfl rfl rfl (fun u6 hu6 ku6 => ?_)
    have J69_7 : ∀ y7 : Int, ezw_in y7 → ∀ F A, ezs_I fz F0 A0 F A → ezw_E l ρ B xa Hb D cA d ezq_re86 (ezs_P e fz F0 A0 ezs_rn) 69 [some (ezw_p 47), some (ezw_p 5), some (ezw_p 9), some (ezw_i a3), some (ezw_i a4), some (ezw_i a5), some (ezw_i a6), some (ezw_i u1), some (ezw_i y7), some (ezw_i u5), none] [] (ezu_g e F A) := by
      intro y7 hy7 F A hI
      refine ezw_aload_n rfl rfl ?_
      refine ezs_get_z hI rfl rfl rfl rfl rfl rfl (fun u9 hu9 ku9 => ?_)
      have J90_10 : ∀ y10 : Int, ezw_in y10 → ∀ F A, ezs_I fz F0 A0 F A → ezw_E l ρ B xa Hb D cA d ezq_re86 (ezs_P e fz F0 A0 ezs_rn) 90 [some (ezw_p 47), some (ezw_p 5), some (ezw_p 9), some (ezw_i a3), some (ezw_i a4), some (ezw_i a5), some (ezw_i a6), some (ezw_i u1), some (ezw_i y7), some (ezw_i y10), none] [] (ezu_g e F A) := by
        intro y10 hy10 F A hI
        refine ezw_iload_n rfl rfl ?_
        refine ezw_iload rfl rfl ?_
        refine ezw_iload rfl rfl ?_
        refine ezw_iload rfl rfl ?_
        refine ezw_call2_4 rfl (by omega) rfl rfl (ezs_m92 hI (by omega) ha3 ha4 ha5 ha6) ?_
        rintro _ _ ⟨rfl, u12, hu12, rfl⟩
        refine ezw_istore rfl rfl ?_
        refine ezw_aload_n rfl rfl ?_
        refine ezs_getp (p := 62) rfl rfl rfl rfl rfl ?_
        refine ezw_iload rfl rfl ?_
        refine ezw_iconst (0) rfl rfl ?_
        refine ezw_bipush (10) rfl rfl ?_
        refine ezw_iload rfl rfl ?_
        refine ezw_mminE rfl ⟨by decide, by decide⟩ hy7 rfl (fun u13 hu13 => ?_)
        refine ezw_mmaxE rfl ⟨by decide, by decide⟩ ⟨by omega, by omega⟩ rfl (fun u14 hu14 => ?_)
        refine ezw_call3_3 rfl (by omega) rfl rfl (ezs_m21_62 hI (by omega) hzA hu12 ⟨by omega, by omega⟩) ?_
        rintro _ _ ⟨⟨F, A, rfl, hI⟩, rfl⟩
        refine ezw_aload_n rfl rfl ?_
        refine ezs_getp (p := 63) rfl rfl rfl rfl rfl ?_
        refine ezw_iload rfl rfl ?_
        refine ezw_iconst (0) rfl rfl ?_
        refine ezw_bipush (10) rfl rfl ?_
        refine ezw_iload rfl rfl ?_
        refine ezw_mminE rfl ⟨by decide, by decide⟩ hy10 rfl (fun u15 hu15 => ?_)
        refine ezw_mmaxE rfl ⟨by decide, by decide⟩ ⟨by omega, by omega⟩ rfl (fun u16 hu16 => ?_)
        refine ezw_call3_3 rfl (by omega) rfl rfl (ezs_m21_63 hI (by omega) hzA hu12 ⟨by omega, by omega⟩) ?_
        rintro _ _ ⟨⟨F, A, rfl, hI⟩, rfl⟩
        exact ezw_return rfl rfl ⟨⟨F, A, rfl, hI⟩, rfl⟩
      refine ezw_if_eq rfl rfl hu9 (fun h73_9 => ?_) (fun h73_9 => ?_)
      · exact ezw_keepE [true, true, true, true, true, true, true, true, true, true, false] (J90_10 u5 hu5 F A hI)
      · refine ezw_aload_n rfl rfl ?_
        refine ezw_iload rfl rfl ?_
        refine ezw_iload rfl rfl ?_
        refine ezw_iload rfl rfl ?_
        refine ezw_iload rfl rfl ?_
        refine ezw_call0_4 rfl (by omega) (ezu_at rfl) rfl rfl rfl rfl (ezs_m87_9 hI (by omega) hzA ha4 hu1 ha5 ha6) ?_
        rintro _ _ ⟨⟨F, A, rfl, hI⟩, u17, hu17, rfl⟩
        refine ezw_istore rfl rfl ?_
        exact ezw_keepE [true, true, true, true, true, true, true, true, true, true, false] (J90_10 u17 hu17 F A hI)
    refine ezw_if_eq rfl rfl hu6 (fun h52_6 => ?_) (fun h52_6 => ?_)
    · exact ezw_keepE [true, true, true, true, true, true, true, true, true, true, false] (J69_7 y2 hy2 F A hI)
    · refine ezw_aload_n rfl rfl ?_
      refine ezw_iload rfl rfl ?_
      refine ezw_iload rfl rfl ?_
      refine ezw_iload rfl rfl ?_
      refine ezw_iload rfl rfl ?_
      refine ezw_call0_4 rfl (by omega) (ezu_at rfl) rfl rfl rfl rfl (ezs_m87_5 hI (by omega) hzA ha4 hu1 ha5 ha6) ?_
      rintro _ _ ⟨⟨F, A, rfl, hI⟩, u18, hu18, rfl⟩
      refine ezw_istore rfl rfl ?_
      exact ezw_keepE [true, true, true, true, true, true, true, true, true, true, false] (J69_7 u18 hu18 F A hI)
  refine ezw_if_ne rfl rfl ha5 (fun h12_1 => ?_) (fun h12_1 => ?_)
  · refine ezw_iload rfl rfl ?_
    refine ezw_iconst (1) rfl rfl ?_
    refine ezw_icmp_ne rfl rfl ha5 ⟨by decide, by decide⟩ (fun h26_18 => ?_) (fun h26_18 => ?_)
    · refine ezw_iconst (0) rfl rfl ?_
      exact ezw_keepE [true, true, true, true, true, true, true, true, false, false, false] (J37_2 (0) ⟨by decide, by decide⟩ F A hI)
    · refine ezw_iconst (3) rfl rfl ?_
      refine ezw_iload rfl rfl ?_
      refine ezs_isub rfl (fun u19 hu19 => ?_)
      refine ezw_goto rfl rfl ?_
      exact ezw_keepE [true, true, true, true, true, true, true, true, false, false, false] (J37_2 u19 hu19 F A hI)
  · refine ezw_bipush (10) rfl rfl ?_
    refine ezw_iload rfl rfl ?_
    refine ezs_isub rfl (fun u20 hu20 => ?_)
    refine ezw_goto rfl rfl ?_
    exact ezw_keepE [true, true, true, true, true, true, true, true, false, false, false] (J37_2 u20 hu20 F A hI)
theorem ezs_m85_47_5_9 {F : Nat → Nat → Int} {A : Nat → Int → Int} (hI : ezs_I fz F0 A0 F A) (hd : 5 ≤ d) (hzA : ∀ q, 4 ≤ q → q < 72 → fz q = false) : ezw_C l ρ B xa Hb D cA 85 d [ezw_p 47, ezw_p 5, ezw_p 9] (ezu_g e F A) (ezs_P e fz F0 A0 ezs_rn) := by
  refine ezw_met (k := 3) rfl rfl ?_
  refine ezw_iconst (0) rfl rfl ?_
  refine ezw_istore_n rfl rfl ?_
  have L2_1 : ∀ c1 : Int, ezw_in c1 → (0) ≤ c1 → ∀ F A, ezs_I fz F0 A0 F A → ezw_E l ρ B xa Hb D cA d ezq_re85 (ezs_P e fz F0 A0 ezs_rn) 2 [some (ezw_p 47), some (ezw_p 5), some (ezw_p 9), some (ezw_i c1), none, none] [] (ezu_g e F A) := by
    refine ezs_up ?_
    intro c1 hc1 ihc1 gc1 F A hI
    refine ezw_iload_n rfl rfl ?_
    refine ezw_aload_n rfl rfl ?_
    refine ezs_get_i hI rfl rfl rfl rfl rfl rfl (fun u3 hu3 ku3 => ?_)
    refine ezw_icmp_ge rfl rfl hc1 hu3 (fun h7_3 => ?_) (fun h7_3 => ?_)
    · exact ezw_return rfl rfl ⟨⟨F, A, rfl, hI⟩, rfl⟩
    · refine ezw_iconst (0) rfl rfl ?_
      refine ezw_istore rfl rfl ?_
      have L13_4 : ∀ c4 : Int, ezw_in c4 → (0) ≤ c4 → ∀ F A, ezs_I fz F0 A0 F A → ezw_E l ρ B xa Hb D cA d ezq_re85 (ezs_P e fz F0 A0 ezs_rn) 13 [some (ezw_p 47), some (ezw_p 5), some (ezw_p 9), some (ezw_i c1), some (ezw_i c4), none] [] (ezu_g e F A) := by
        refine ezs_up ?_
        intro c4 hc4 ihc4 gc4 F A hI
        refine ezw_iload rfl rfl ?_
        refine ezw_bipush (9) rfl rfl ?_
        refine ezw_icmp_gt rfl rfl hc4 ⟨by decide, by decide⟩ (fun h17_5 => ?_) (fun h17_5 => ?_)
        · refine ezw_iinc (1) rfl rfl rfl rfl rfl ?_
          refine ezw_goto rfl rfl ?_
          exact ezw_keepE [true, true, true, true, false, false] (ihc1 (c1 + (1)) (by omega) ⟨by omega, by omega⟩ (by omega)  F A hI)
        · refine ezw_iconst (0) rfl rfl ?_
          refine ezw_istore rfl rfl ?_
          have L23_6 : ∀ c6 : Int, ezw_in c6 → (0) ≤ c6 → ∀ F A, ezs_I fz F0 A0 F A → ezw_E l ρ B xa Hb D cA d ezq_re85 (ezs_P e fz F0 A0 ezs_rn) 23 [some (ezw_p 47), some (ezw_p 5), some (ezw_p 9), some (ezw_i c1), some (ezw_i c4), some (ezw_i c6)] [] (ezu_g e F A) := by
            refine ezs_up ?_
            intro c6 hc6 ihc6 gc6 F A hI
            refine ezw_iload rfl rfl ?_
            refine ezw_iconst (3) rfl rfl ?_
            refine ezw_icmp_ge rfl rfl hc6 ⟨by decide, by decide⟩ (fun h26_7 => ?_) (fun h26_7 => ?_)
            · refine ezw_iinc (1) rfl rfl rfl rfl rfl ?_
              refine ezw_goto rfl rfl ?_
              exact ezw_keepE [true, true, true, true, true, false] (ihc4 (c4 + (1)) (by omega) ⟨by omega, by omega⟩ (by omega)  F A hI)
            · refine ezw_aload_n rfl rfl ?_
              refine ezw_aload_n rfl rfl ?_
              refine ezw_aload_n rfl rfl ?_
              refine ezw_iload_n rfl rfl ?_
              refine ezw_iload rfl rfl ?_
              refine ezw_iload rfl rfl ?_
              refine ezw_iconst (0) rfl rfl ?_
              refine ezw_call0_6 rfl (by omega) (ezu_at rfl) rfl rfl rfl rfl (ezs_m86_47_5_9 hI (by omega) hzA hc1 hc4 hc6 ⟨by decide, by decide⟩) ?_
              rintro _ _ ⟨⟨F, A, rfl, hI⟩, rfl⟩
              refine ezw_aload_n rfl rfl ?_
              refine ezw_aload_n rfl rfl ?_
              refine ezw_aload_n rfl rfl ?_
              refine ezw_iload_n rfl rfl ?_
              refine ezw_iload rfl rfl ?_
              refine ezw_iload rfl rfl ?_
              refine ezw_iconst (1) rfl rfl ?_
              refine ezw_call0_6 rfl (by omega) (ezu_at rfl) rfl rfl rfl rfl (ezs_m86_47_5_9 hI (by omega) hzA hc1 hc4 hc6 ⟨by decide, by decide⟩) ?_
              rintro _ _ ⟨⟨F, A, rfl, hI⟩, rfl⟩
              refine ezw_iinc (1) rfl rfl rfl rfl rfl ?_
              refine ezw_goto rfl rfl ?_
              exact ezw_keepE [true, true, true, true, true, true] (ihc6 (c6 + (1)) (by omega) ⟨by omega, by omega⟩ (by omega)  F A hI)
          exact ezw_keepE [true, true, true, true, true, true] (L23_6 (0) ⟨by decide, by decide⟩ (by omega)  F A hI)
      exact ezw_keepE [true, true, true, true, true, false] (L13_4 (0) ⟨by decide, by decide⟩ (by omega)  F A hI)
  exact ezw_keepE [true, true, true, true, false, false] (L2_1 (0) ⟨by decide, by decide⟩ (by omega)  F A hI)
theorem ezs_m48_4_1_47 {a3 : Int} {F : Nat → Nat → Int} {A : Nat → Int → Int} (hI : ezs_I fz F0 A0 F A) (hd : 1 ≤ d) (hzT : fz 1 = false) (ha3 : ezw_in a3) : ezw_C l ρ B xa Hb D cA 48 d [ezw_p 4, ezw_p 1, ezw_p 47, ezw_i a3] (ezu_g e F A) (ezs_P e fz F0 A0 ezs_rn) := by
  refine ezw_met (k := 2) rfl rfl ?_
  refine ezw_iconst (0) rfl rfl ?_
  refine ezw_istore rfl rfl ?_
  refine ezw_iconst (0) rfl rfl ?_
  refine ezw_istore rfl rfl ?_
  refine ezw_iload_n rfl rfl ?_
  have J201_2 : ∀ y1 : Int, ezs_b y1 → ∀ y2 : Int, ezs_b y2 → ∀ F A, ezs_I fz F0 A0 F A → ezw_E l ρ B xa Hb D cA d ezq_re48 (ezs_P e fz F0 A0 ezs_rn) 201 [some (ezw_p 4), some (ezw_p 1), some (ezw_p 47), some (ezw_i a3), some (ezw_i y1), some (ezw_i y2)] [] (ezu_g e F A) := by
    intro y1 hy1 y2 hy2 F A hI
    refine ezw_iload rfl rfl ?_
    have J211_3 : ∀ F A, ezs_I fz F0 A0 F A → ezw_E l ρ B xa Hb D cA d ezq_re48 (ezs_P e fz F0 A0 ezs_rn) 211 [some (ezw_p 4), some (ezw_p 1), some (ezw_p 47), some (ezw_i a3), some (ezw_i y1), some (ezw_i y2)] [] (ezu_g e F A) := by
      intro F A hI
      refine ezw_iload rfl rfl ?_
      refine ezw_if_eq rfl rfl ⟨by omega, by omega⟩ (fun h213_4 => ?_) (fun h213_4 => ?_)
      · exact ezw_return rfl rfl ⟨⟨F, A, rfl, hI⟩, rfl⟩
      · refine ezw_aload_n rfl rfl ?_
        refine ezw_iconst (5) rfl rfl ?_
        refine ezw_call0_1 rfl (by omega) (ezu_at rfl) rfl rfl rfl rfl (ezs_m50_1 hI (by omega) hzT ⟨by decide, by decide⟩) ?_
        rintro _ _ ⟨⟨F, A, rfl, hI⟩, rfl⟩
        exact ezw_return rfl rfl ⟨⟨F, A, rfl, hI⟩, rfl⟩
    refine ezw_if_eq rfl rfl ⟨by omega, by omega⟩ (fun h203_3 => ?_) (fun h203_3 => ?_)
    · exact ezw_keepE [true, true, true, true, true, true] (J211_3  F A hI)
    · refine ezw_aload_n rfl rfl ?_
      refine ezw_iconst (3) rfl rfl ?_
      refine ezw_call0_1 rfl (by omega) (ezu_at rfl) rfl rfl rfl rfl (ezs_m50_1 hI (by omega) hzT ⟨by decide, by decide⟩) ?_
      rintro _ _ ⟨⟨F, A, rfl, hI⟩, rfl⟩
      exact ezw_keepE [true, true, true, true, true, true] (J211_3  F A hI)
  by_cases q5 : a3 = (0)
  · refine ezw_tableswitchE (v := 0) (p := 112) q5 rfl (by rfl) ?_
    refine ezw_aload_n rfl rfl ?_
    refine ezs_get_i hI rfl rfl rfl rfl rfl rfl (fun u6 hu6 ku6 => ?_)
    refine ezw_bipush (8) rfl rfl ?_
    refine ezw_icmp_lt rfl rfl hu6 ⟨by decide, by decide⟩ (fun h118_6 => ?_) (fun h118_6 => ?_)
    · refine ezw_iconst (0) rfl rfl ?_
      refine ezw_istore rfl rfl ?_
      refine ezw_goto rfl rfl ?_
      exact ezw_keepE [true, true, true, true, true, true] (J201_2 (0) ⟨by omega, by omega⟩ (0) ⟨by omega, by omega⟩ F A hI)
    · refine ezw_iconst (1) rfl rfl ?_
      refine ezw_goto rfl rfl ?_
      refine ezw_istore rfl rfl ?_
      refine ezw_goto rfl rfl ?_
      exact ezw_keepE [true, true, true, true, true, true] (J201_2 (1) ⟨by omega, by omega⟩ (0) ⟨by omega, by omega⟩ F A hI)
  by_cases q7 : a3 = (1)
  · refine ezw_tableswitchE (v := 1) (p := 196) q7 rfl (by rfl) ?_
    refine ezw_aload_n rfl rfl ?_
    refine ezw_iconst (1) rfl rfl ?_
    refine ezw_call0_1 rfl (by omega) (ezu_at rfl) rfl rfl rfl rfl (ezs_m50_1 hI (by omega) hzT ⟨by decide, by decide⟩) ?_
    rintro _ _ ⟨⟨F, A, rfl, hI⟩, rfl⟩
    exact ezw_keepE [true, true, true, true, true, true] (J201_2 (0) ⟨by omega, by omega⟩ (0) ⟨by omega, by omega⟩ F A hI)
  by_cases q8 : a3 = (2)
  · refine ezw_tableswitchE (v := 2) (p := 196) q8 rfl (by rfl) ?_
    refine ezw_aload_n rfl rfl ?_
    refine ezw_iconst (1) rfl rfl ?_
    refine ezw_call0_1 rfl (by omega) (ezu_at rfl) rfl rfl rfl rfl (ezs_m50_1 hI (by omega) hzT ⟨by decide, by decide⟩) ?_
    rintro _ _ ⟨⟨F, A, rfl, hI⟩, rfl⟩
    exact ezw_keepE [true, true, true, true, true, true] (J201_2 (0) ⟨by omega, by omega⟩ (0) ⟨by omega, by omega⟩ F A hI)
  by_cases q9 : a3 = (3)
  · refine ezw_tableswitchE (v := 3) (p := 196) q9 rfl (by rfl) ?_
    refine ezw_aload_n rfl rfl ?_
    refine ezw_iconst (1) rfl rfl ?_
    refine ezw_call0_1 rfl (by omega) (ezu_at rfl) rfl rfl rfl rfl (ezs_m50_1 hI (by omega) hzT ⟨by decide, by decide⟩) ?_
    rintro _ _ ⟨⟨F, A, rfl, hI⟩, rfl⟩
    exact ezw_keepE [true, true, true, true, true, true] (J201_2 (0) ⟨by omega, by omega⟩ (0) ⟨by omega, by omega⟩ F A hI)
  by_cases q10 : a3 = (4)
  · refine ezw_tableswitchE (v := 4) (p := 196) q10 rfl (by rfl) ?_
    refine ezw_aload_n rfl rfl ?_
    refine ezw_iconst (1) rfl rfl ?_
    refine ezw_call0_1 rfl (by omega) (ezu_at rfl) rfl rfl rfl rfl (ezs_m50_1 hI (by omega) hzT ⟨by decide, by decide⟩) ?_
    rintro _ _ ⟨⟨F, A, rfl, hI⟩, rfl⟩
    exact ezw_keepE [true, true, true, true, true, true] (J201_2 (0) ⟨by omega, by omega⟩ (0) ⟨by omega, by omega⟩ F A hI)
  by_cases q11 : a3 = (5)
  · refine ezw_tableswitchE (v := 5) (p := 174) q11 rfl (by rfl) ?_
    refine ezw_aload_n rfl rfl ?_
    refine ezs_get_i hI rfl rfl rfl rfl rfl rfl (fun u12 hu12 ku12 => ?_)
    refine ezw_iload_n rfl rfl ?_
    refine ezw_call3_2 rfl (by omega) rfl rfl (ezs_m49 hI (by omega) hu12 ha3) ?_
    rintro _ _ ⟨rfl, u13, hu13, rfl⟩
    refine ezw_iconst (1) rfl rfl ?_
    refine ezw_icmp_ne rfl rfl hu13 ⟨by decide, by decide⟩ (fun h183_13 => ?_) (fun h183_13 => ?_)
    · refine ezw_iconst (0) rfl rfl ?_
      refine ezw_istore rfl rfl ?_
      refine ezw_goto rfl rfl ?_
      exact ezw_keepE [true, true, true, true, true, true] (J201_2 (0) ⟨by omega, by omega⟩ (0) ⟨by omega, by omega⟩ F A hI)
    · refine ezw_iconst (1) rfl rfl ?_
      refine ezw_goto rfl rfl ?_
      refine ezw_istore rfl rfl ?_
      refine ezw_goto rfl rfl ?_
      exact ezw_keepE [true, true, true, true, true, true] (J201_2 (0) ⟨by omega, by omega⟩ (1) ⟨by omega, by omega⟩ F A hI)
  by_cases q14 : a3 = (6)
  · refine ezw_tableswitchE (v := 6) (p := 174) q14 rfl (by rfl) ?_
    refine ezw_aload_n rfl rfl ?_
    refine ezs_get_i hI rfl rfl rfl rfl rfl rfl (fun u15 hu15 ku15 => ?_)
    refine ezw_iload_n rfl rfl ?_
    refine ezw_call3_2 rfl (by omega) rfl rfl (ezs_m49 hI (by omega) hu15 ha3) ?_
    rintro _ _ ⟨rfl, u16, hu16, rfl⟩
    refine ezw_iconst (1) rfl rfl ?_
    refine ezw_icmp_ne rfl rfl hu16 ⟨by decide, by decide⟩ (fun h183_16 => ?_) (fun h183_16 => ?_)
    · refine ezw_iconst (0) rfl rfl ?_
      refine ezw_istore rfl rfl ?_
      refine ezw_goto rfl rfl ?_
      exact ezw_keepE [true, true, true, true, true, true] (J201_2 (0) ⟨by omega, by omega⟩ (0) ⟨by omega, by omega⟩ F A hI)
    · refine ezw_iconst (1) rfl rfl ?_
      refine ezw_goto rfl rfl ?_
      refine ezw_istore rfl rfl ?_
      refine ezw_goto rfl rfl ?_
      exact ezw_keepE [true, true, true, true, true, true] (J201_2 (0) ⟨by omega, by omega⟩ (1) ⟨by omega, by omega⟩ F A hI)
  by_cases q17 : a3 = (7)
  · refine ezw_tableswitchE (v := 7) (p := 196) q17 rfl (by rfl) ?_
    refine ezw_aload_n rfl rfl ?_
    refine ezw_iconst (1) rfl rfl ?_
    refine ezw_call0_1 rfl (by omega) (ezu_at rfl) rfl rfl rfl rfl (ezs_m50_1 hI (by omega) hzT ⟨by decide, by decide⟩) ?_
    rintro _ _ ⟨⟨F, A, rfl, hI⟩, rfl⟩
    exact ezw_keepE [true, true, true, true, true, true] (J201_2 (0) ⟨by omega, by omega⟩ (0) ⟨by omega, by omega⟩ F A hI)
  by_cases q18 : a3 = (8)
  · refine ezw_tableswitchE (v := 8) (p := 196) q18 rfl (by rfl) ?_
    refine ezw_aload_n rfl rfl ?_
    refine ezw_iconst (1) rfl rfl ?_
    refine ezw_call0_1 rfl (by omega) (ezu_at rfl) rfl rfl rfl rfl (ezs_m50_1 hI (by omega) hzT ⟨by decide, by decide⟩) ?_
    rintro _ _ ⟨⟨F, A, rfl, hI⟩, rfl⟩
    exact ezw_keepE [true, true, true, true, true, true] (J201_2 (0) ⟨by omega, by omega⟩ (0) ⟨by omega, by omega⟩ F A hI)
  by_cases q19 : a3 = (9)
  · refine ezw_tableswitchE (v := 9) (p := 131) q19 rfl (by rfl) ?_
    refine ezw_aload_n rfl rfl ?_
    refine ezs_get_i hI rfl rfl rfl rfl rfl rfl (fun u20 hu20 ku20 => ?_)
    refine ezw_iconst (4) rfl rfl ?_
    refine ezw_icmp_lt rfl rfl hu20 ⟨by decide, by decide⟩ (fun h136_20 => ?_) (fun h136_20 => ?_)
    · refine ezw_iconst (0) rfl rfl ?_
      refine ezw_istore rfl rfl ?_
      refine ezw_goto rfl rfl ?_
      exact ezw_keepE [true, true, true, true, true, true] (J201_2 (0) ⟨by omega, by omega⟩ (0) ⟨by omega, by omega⟩ F A hI)
    · refine ezw_iconst (1) rfl rfl ?_
      refine ezw_goto rfl rfl ?_
      refine ezw_istore rfl rfl ?_
      refine ezw_goto rfl rfl ?_
      exact ezw_keepE [true, true, true, true, true, true] (J201_2 (1) ⟨by omega, by omega⟩ (0) ⟨by omega, by omega⟩ F A hI)
  by_cases q21 : a3 = (10)
  · refine ezw_tableswitchE (v := 10) (p := 196) q21 rfl (by rfl) ?_
    refine ezw_aload_n rfl rfl ?_
    refine ezw_iconst (1) rfl rfl ?_
    refine ezw_call0_1 rfl (by omega) (ezu_at rfl) rfl rfl rfl rfl (ezs_m50_1 hI (by omega) hzT ⟨by decide, by decide⟩) ?_
    rintro _ _ ⟨⟨F, A, rfl, hI⟩, rfl⟩
    exact ezw_keepE [true, true, true, true, true, true] (J201_2 (0) ⟨by omega, by omega⟩ (0) ⟨by omega, by omega⟩ F A hI)
  by_cases q22 : a3 = (11)
  · refine ezw_tableswitchE (v := 11) (p := 196) q22 rfl (by rfl) ?_
    refine ezw_aload_n rfl rfl ?_
    refine ezw_iconst (1) rfl rfl ?_
    refine ezw_call0_1 rfl (by omega) (ezu_at rfl) rfl rfl rfl rfl (ezs_m50_1 hI (by omega) hzT ⟨by decide, by decide⟩) ?_
    rintro _ _ ⟨⟨F, A, rfl, hI⟩, rfl⟩
    exact ezw_keepE [true, true, true, true, true, true] (J201_2 (0) ⟨by omega, by omega⟩ (0) ⟨by omega, by omega⟩ F A hI)
  by_cases q23 : a3 = (12)
  · refine ezw_tableswitchE (v := 12) (p := 171) q23 rfl (by rfl) ?_
    refine ezw_goto rfl rfl ?_
    exact ezw_keepE [true, true, true, true, true, true] (J201_2 (0) ⟨by omega, by omega⟩ (0) ⟨by omega, by omega⟩ F A hI)
  by_cases q24 : a3 = (13)
  · refine ezw_tableswitchE (v := 13) (p := 174) q24 rfl (by rfl) ?_
    refine ezw_aload_n rfl rfl ?_
    refine ezs_get_i hI rfl rfl rfl rfl rfl rfl (fun u25 hu25 ku25 => ?_)
    refine ezw_iload_n rfl rfl ?_
    refine ezw_call3_2 rfl (by omega) rfl rfl (ezs_m49 hI (by omega) hu25 ha3) ?_
    rintro _ _ ⟨rfl, u26, hu26, rfl⟩
    refine ezw_iconst (1) rfl rfl ?_
    refine ezw_icmp_ne rfl rfl hu26 ⟨by decide, by decide⟩ (fun h183_26 => ?_) (fun h183_26 => ?_)
    · refine ezw_iconst (0) rfl rfl ?_
      refine ezw_istore rfl rfl ?_
      refine ezw_goto rfl rfl ?_
      exact ezw_keepE [true, true, true, true, true, true] (J201_2 (0) ⟨by omega, by omega⟩ (0) ⟨by omega, by omega⟩ F A hI)
    · refine ezw_iconst (1) rfl rfl ?_
      refine ezw_goto rfl rfl ?_
      refine ezw_istore rfl rfl ?_
      refine ezw_goto rfl rfl ?_
      exact ezw_keepE [true, true, true, true, true, true] (J201_2 (0) ⟨by omega, by omega⟩ (1) ⟨by omega, by omega⟩ F A hI)
  by_cases q27 : a3 = (14)
  · refine ezw_tableswitchE (v := 14) (p := 174) q27 rfl (by rfl) ?_
    refine ezw_aload_n rfl rfl ?_
    refine ezs_get_i hI rfl rfl rfl rfl rfl rfl (fun u28 hu28 ku28 => ?_)
    refine ezw_iload_n rfl rfl ?_
    refine ezw_call3_2 rfl (by omega) rfl rfl (ezs_m49 hI (by omega) hu28 ha3) ?_
    rintro _ _ ⟨rfl, u29, hu29, rfl⟩
    refine ezw_iconst (1) rfl rfl ?_
    refine ezw_icmp_ne rfl rfl hu29 ⟨by decide, by decide⟩ (fun h183_29 => ?_) (fun h183_29 => ?_)
    · refine ezw_iconst (0) rfl rfl ?_
      refine ezw_istore rfl rfl ?_
      refine ezw_goto rfl rfl ?_
      exact ezw_keepE [true, true, true, true, true, true] (J201_2 (0) ⟨by omega, by omega⟩ (0) ⟨by omega, by omega⟩ F A hI)
    · refine ezw_iconst (1) rfl rfl ?_
      refine ezw_goto rfl rfl ?_
      refine ezw_istore rfl rfl ?_
      refine ezw_goto rfl rfl ?_
      exact ezw_keepE [true, true, true, true, true, true] (J201_2 (0) ⟨by omega, by omega⟩ (1) ⟨by omega, by omega⟩ F A hI)
  by_cases q30 : a3 = (15)
  · refine ezw_tableswitchE (v := 15) (p := 174) q30 rfl (by rfl) ?_
    refine ezw_aload_n rfl rfl ?_
    refine ezs_get_i hI rfl rfl rfl rfl rfl rfl (fun u31 hu31 ku31 => ?_)
    refine ezw_iload_n rfl rfl ?_
    refine ezw_call3_2 rfl (by omega) rfl rfl (ezs_m49 hI (by omega) hu31 ha3) ?_
    rintro _ _ ⟨rfl, u32, hu32, rfl⟩
    refine ezw_iconst (1) rfl rfl ?_
    refine ezw_icmp_ne rfl rfl hu32 ⟨by decide, by decide⟩ (fun h183_32 => ?_) (fun h183_32 => ?_)
    · refine ezw_iconst (0) rfl rfl ?_
      refine ezw_istore rfl rfl ?_
      refine ezw_goto rfl rfl ?_
      exact ezw_keepE [true, true, true, true, true, true] (J201_2 (0) ⟨by omega, by omega⟩ (0) ⟨by omega, by omega⟩ F A hI)
    · refine ezw_iconst (1) rfl rfl ?_
      refine ezw_goto rfl rfl ?_
      refine ezw_istore rfl rfl ?_
      refine ezw_goto rfl rfl ?_
      exact ezw_keepE [true, true, true, true, true, true] (J201_2 (0) ⟨by omega, by omega⟩ (1) ⟨by omega, by omega⟩ F A hI)
  by_cases q33 : a3 = (16)
  · refine ezw_tableswitchE (v := 16) (p := 174) q33 rfl (by rfl) ?_
    refine ezw_aload_n rfl rfl ?_
    refine ezs_get_i hI rfl rfl rfl rfl rfl rfl (fun u34 hu34 ku34 => ?_)
    refine ezw_iload_n rfl rfl ?_
    refine ezw_call3_2 rfl (by omega) rfl rfl (ezs_m49 hI (by omega) hu34 ha3) ?_
    rintro _ _ ⟨rfl, u35, hu35, rfl⟩
    refine ezw_iconst (1) rfl rfl ?_
    refine ezw_icmp_ne rfl rfl hu35 ⟨by decide, by decide⟩ (fun h183_35 => ?_) (fun h183_35 => ?_)
    · refine ezw_iconst (0) rfl rfl ?_
      refine ezw_istore rfl rfl ?_
      refine ezw_goto rfl rfl ?_
      exact ezw_keepE [true, true, true, true, true, true] (J201_2 (0) ⟨by omega, by omega⟩ (0) ⟨by omega, by omega⟩ F A hI)
    · refine ezw_iconst (1) rfl rfl ?_
      refine ezw_goto rfl rfl ?_
      refine ezw_istore rfl rfl ?_
      refine ezw_goto rfl rfl ?_
      exact ezw_keepE [true, true, true, true, true, true] (J201_2 (0) ⟨by omega, by omega⟩ (1) ⟨by omega, by omega⟩ F A hI)
  by_cases q36 : a3 = (17)
  · refine ezw_tableswitchE (v := 17) (p := 196) q36 rfl (by rfl) ?_
    refine ezw_aload_n rfl rfl ?_
    refine ezw_iconst (1) rfl rfl ?_
    refine ezw_call0_1 rfl (by omega) (ezu_at rfl) rfl rfl rfl rfl (ezs_m50_1 hI (by omega) hzT ⟨by decide, by decide⟩) ?_
    rintro _ _ ⟨⟨F, A, rfl, hI⟩, rfl⟩
    exact ezw_keepE [true, true, true, true, true, true] (J201_2 (0) ⟨by omega, by omega⟩ (0) ⟨by omega, by omega⟩ F A hI)
  by_cases q37 : a3 = (18)
  · refine ezw_tableswitchE (v := 18) (p := 174) q37 rfl (by rfl) ?_
    refine ezw_aload_n rfl rfl ?_
    refine ezs_get_i hI rfl rfl rfl rfl rfl rfl (fun u38 hu38 ku38 => ?_)
    refine ezw_iload_n rfl rfl ?_
    refine ezw_call3_2 rfl (by omega) rfl rfl (ezs_m49 hI (by omega) hu38 ha3) ?_
    rintro _ _ ⟨rfl, u39, hu39, rfl⟩
    refine ezw_iconst (1) rfl rfl ?_
    refine ezw_icmp_ne rfl rfl hu39 ⟨by decide, by decide⟩ (fun h183_39 => ?_) (fun h183_39 => ?_)
    · refine ezw_iconst (0) rfl rfl ?_
      refine ezw_istore rfl rfl ?_
      refine ezw_goto rfl rfl ?_
      exact ezw_keepE [true, true, true, true, true, true] (J201_2 (0) ⟨by omega, by omega⟩ (0) ⟨by omega, by omega⟩ F A hI)
    · refine ezw_iconst (1) rfl rfl ?_
      refine ezw_goto rfl rfl ?_
      refine ezw_istore rfl rfl ?_
      refine ezw_goto rfl rfl ?_
      exact ezw_keepE [true, true, true, true, true, true] (J201_2 (0) ⟨by omega, by omega⟩ (1) ⟨by omega, by omega⟩ F A hI)
  by_cases q40 : a3 = (19)
  · refine ezw_tableswitchE (v := 19) (p := 174) q40 rfl (by rfl) ?_
    refine ezw_aload_n rfl rfl ?_
    refine ezs_get_i hI rfl rfl rfl rfl rfl rfl (fun u41 hu41 ku41 => ?_)
    refine ezw_iload_n rfl rfl ?_
    refine ezw_call3_2 rfl (by omega) rfl rfl (ezs_m49 hI (by omega) hu41 ha3) ?_
    rintro _ _ ⟨rfl, u42, hu42, rfl⟩
    refine ezw_iconst (1) rfl rfl ?_
    refine ezw_icmp_ne rfl rfl hu42 ⟨by decide, by decide⟩ (fun h183_42 => ?_) (fun h183_42 => ?_)
    · refine ezw_iconst (0) rfl rfl ?_
      refine ezw_istore rfl rfl ?_
      refine ezw_goto rfl rfl ?_
      exact ezw_keepE [true, true, true, true, true, true] (J201_2 (0) ⟨by omega, by omega⟩ (0) ⟨by omega, by omega⟩ F A hI)
    · refine ezw_iconst (1) rfl rfl ?_
      refine ezw_goto rfl rfl ?_
      refine ezw_istore rfl rfl ?_
      refine ezw_goto rfl rfl ?_
      exact ezw_keepE [true, true, true, true, true, true] (J201_2 (0) ⟨by omega, by omega⟩ (1) ⟨by omega, by omega⟩ F A hI)
  by_cases q43 : a3 = (20)
  · refine ezw_tableswitchE (v := 20) (p := 149) q43 rfl (by rfl) ?_
    refine ezw_aload_n rfl rfl ?_
    refine ezs_getp (p := 55) rfl rfl rfl rfl rfl ?_
    refine ezs_get_i hI rfl rfl rfl rfl rfl rfl (fun u44 hu44 ku44 => ?_)
    refine ezw_bipush (8) rfl rfl ?_
    refine ezw_icmp_lt rfl rfl hu44 ⟨by decide, by decide⟩ (fun h158_44 => ?_) (fun h158_44 => ?_)
    · refine ezw_iconst (0) rfl rfl ?_
      refine ezw_istore rfl rfl ?_
      refine ezw_goto rfl rfl ?_
      exact ezw_keepE [true, true, true, true, true, true] (J201_2 (0) ⟨by omega, by omega⟩ (0) ⟨by omega, by omega⟩ F A hI)
    · refine ezw_iconst (1) rfl rfl ?_
      refine ezw_goto rfl rfl ?_
      refine ezw_istore rfl rfl ?_
      refine ezw_goto rfl rfl ?_
      exact ezw_keepE [true, true, true, true, true, true] (J201_2 (1) ⟨by omega, by omega⟩ (0) ⟨by omega, by omega⟩ F A hI)
  by_cases q45 : a3 = (21)
  · refine ezw_tableswitchE (v := 21) (p := 174) q45 rfl (by rfl) ?_
    refine ezw_aload_n rfl rfl ?_
    refine ezs_get_i hI rfl rfl rfl rfl rfl rfl (fun u46 hu46 ku46 => ?_)
    refine ezw_iload_n rfl rfl ?_
    refine ezw_call3_2 rfl (by omega) rfl rfl (ezs_m49 hI (by omega) hu46 ha3) ?_
    rintro _ _ ⟨rfl, u47, hu47, rfl⟩
    refine ezw_iconst (1) rfl rfl ?_
    refine ezw_icmp_ne rfl rfl hu47 ⟨by decide, by decide⟩ (fun h183_47 => ?_) (fun h183_47 => ?_)
    · refine ezw_iconst (0) rfl rfl ?_
      refine ezw_istore rfl rfl ?_
      refine ezw_goto rfl rfl ?_
      exact ezw_keepE [true, true, true, true, true, true] (J201_2 (0) ⟨by omega, by omega⟩ (0) ⟨by omega, by omega⟩ F A hI)
    · refine ezw_iconst (1) rfl rfl ?_
      refine ezw_goto rfl rfl ?_
      refine ezw_istore rfl rfl ?_
      refine ezw_goto rfl rfl ?_
      exact ezw_keepE [true, true, true, true, true, true] (J201_2 (0) ⟨by omega, by omega⟩ (1) ⟨by omega, by omega⟩ F A hI)
  by_cases q48 : a3 = (22)
  · refine ezw_tableswitchE (v := 22) (p := 174) q48 rfl (by rfl) ?_
    refine ezw_aload_n rfl rfl ?_
    refine ezs_get_i hI rfl rfl rfl rfl rfl rfl (fun u49 hu49 ku49 => ?_)
    refine ezw_iload_n rfl rfl ?_
    refine ezw_call3_2 rfl (by omega) rfl rfl (ezs_m49 hI (by omega) hu49 ha3) ?_
    rintro _ _ ⟨rfl, u50, hu50, rfl⟩
    refine ezw_iconst (1) rfl rfl ?_
    refine ezw_icmp_ne rfl rfl hu50 ⟨by decide, by decide⟩ (fun h183_50 => ?_) (fun h183_50 => ?_)
    · refine ezw_iconst (0) rfl rfl ?_
      refine ezw_istore rfl rfl ?_
      refine ezw_goto rfl rfl ?_
      exact ezw_keepE [true, true, true, true, true, true] (J201_2 (0) ⟨by omega, by omega⟩ (0) ⟨by omega, by omega⟩ F A hI)
    · refine ezw_iconst (1) rfl rfl ?_
      refine ezw_goto rfl rfl ?_
      refine ezw_istore rfl rfl ?_
      refine ezw_goto rfl rfl ?_
      exact ezw_keepE [true, true, true, true, true, true] (J201_2 (0) ⟨by omega, by omega⟩ (1) ⟨by omega, by omega⟩ F A hI)
  refine ezw_tableswitch (p := 196) rfl (ezs_swd ha3 (And.intro (And.intro ⟨by decide, by decide⟩ (fun z => q5 z.symm)) (And.intro (And.intro ⟨by decide, by decide⟩ (fun z => q7 z.symm)) (And.intro (And.intro ⟨by decide, by decide⟩ (fun z => q8 z.symm)) (And.intro (And.intro ⟨by decide, by decide⟩ (fun z => q9 z.symm)) (And.intro (And.intro ⟨by decide, by decide⟩ (fun z => q10 z.symm)) (And.intro (And.intro ⟨by decide, by decide⟩ (fun z => q11 z.symm)) (And.intro (And.intro ⟨by decide, by decide⟩ (fun z => q14 z.symm)) (And.intro (And.intro ⟨by decide, by decide⟩ (fun z => q17 z.symm)) (And.intro (And.intro ⟨by decide, by decide⟩ (fun z => q18 z.symm)) (And.intro (And.intro ⟨by decide, by decide⟩ (fun z => q19 z.symm)) (And.intro (And.intro ⟨by decide, by decide⟩ (fun z => q21 z.symm)) (And.intro (And.intro ⟨by decide, by decide⟩ (fun z => q22 z.symm)) (And.intro (And.intro ⟨by decide, by decide⟩ (fun z => q23 z.symm)) (And.intro (And.intro ⟨by decide, by decide⟩ (fun z => q24 z.symm)) (And.intro (And.intro ⟨by decide, by decide⟩ (fun z => q27 z.symm)) (And.intro (And.intro ⟨by decide, by decide⟩ (fun z => q30 z.symm)) (And.intro (And.intro ⟨by decide, by decide⟩ (fun z => q33 z.symm)) (And.intro (And.intro ⟨by decide, by decide⟩ (fun z => q36 z.symm)) (And.intro (And.intro ⟨by decide, by decide⟩ (fun z => q37 z.symm)) (And.intro (And.intro ⟨by decide, by decide⟩ (fun z => q40 z.symm)) (And.intro (And.intro ⟨by decide, by decide⟩ (fun z => q43 z.symm)) (And.intro (And.intro ⟨by decide, by decide⟩ (fun z => q45 z.symm)) (And.intro (And.intro ⟨by decide, by decide⟩ (fun z => q48 z.symm)) True.intro))))))))))))))))))))))) rfl) ?_
  refine ezw_aload_n rfl rfl ?_
  refine ezw_iconst (1) rfl rfl ?_
  refine ezw_call0_1 rfl (by omega) (ezu_at rfl) rfl rfl rfl rfl (ezs_m50_1 hI (by omega) hzT ⟨by decide, by decide⟩) ?_
  rintro _ _ ⟨⟨F, A, rfl, hI⟩, rfl⟩
  refine ezw_iload rfl rfl ?_
  refine ezw_if_eq rfl rfl ⟨by decide, by decide⟩ (fun h203_50 => ?_) (fun h203_50 => absurd h203_50 (by omega))
  refine ezw_iload rfl rfl ?_
  refine ezw_if_eq rfl rfl ⟨by decide, by decide⟩ (fun h213_50 => ?_) (fun h213_50 => absurd h213_50 (by omega))
  exact ezw_return rfl rfl ⟨⟨F, A, rfl, hI⟩, rfl⟩
theorem ezs_m47_4_1_47 {F : Nat → Nat → Int} {A : Nat → Int → Int} (hI : ezs_I fz F0 A0 F A) (hd : 40 ≤ d) (hzA : ∀ q, 4 ≤ q → q < 72 → fz q = false) (hzT : fz 1 = false) : ezw_C l ρ B xa Hb D cA 47 d [ezw_p 4, ezw_p 1, ezw_p 47] (ezu_g e F A) (ezs_P e fz F0 A0 ezs_rn) := by
  refine ezw_met (k := 1) rfl rfl ?_
  refine ezw_aload_n rfl rfl ?_
  refine ezs_get_i hI rfl rfl rfl rfl rfl rfl (fun u1 hu1 ku1 => ?_)
  refine ezw_istore_n rfl rfl ?_
  refine ezw_aload_n rfl rfl ?_
  refine ezw_aload_n rfl rfl ?_
  refine ezw_aload_n rfl rfl ?_
  refine ezw_iload_n rfl rfl ?_
  refine ezw_call0_3 rfl (by omega) (ezu_at rfl) rfl rfl rfl rfl (ezs_m48_4_1_47 hI (by omega) hzT hu1) ?_
  rintro _ _ ⟨⟨F, A, rfl, hI⟩, rfl⟩
  refine ezw_aload_n rfl rfl ?_
  refine ezw_call0_0 rfl (by omega) (ezu_at rfl) rfl rfl rfl rfl (ezs_m45_1 hI (by omega)) ?_
  rintro _ _ ⟨rfl, u2, hu2, rfl⟩
  refine ezw_if_ne rfl rfl ⟨by omega, by omega⟩ (fun h16_2 => ?_) (fun h16_2 => ?_)
  · refine ezw_aload_n rfl rfl ?_
    refine ezw_dup rfl rfl ?_
    refine ezs_get_i hI rfl rfl rfl rfl rfl rfl (fun u3 hu3 ku3 => ?_)
    refine ezw_iconst (1) rfl rfl ?_
    refine ezw_iload_n rfl rfl ?_
    refine ezw_ishlO rfl (fun u4 hu4 => ?_)
    refine ezs_ior rfl (fun u5 hu5 => ?_)
    refine ezs_put_i hI rfl rfl rfl rfl rfl (hzA 4 (by decide) (by decide)) hu5 (fun F A hI => ?_)
    refine ezw_aload_n rfl rfl ?_
    refine ezw_call0_0 rfl (by omega) (ezu_at rfl) rfl rfl rfl rfl (ezs_m30_1 hI (by omega) hzT) ?_
    rintro _ _ ⟨⟨F, A, rfl, hI⟩, rfl⟩
    refine ezw_iload_n rfl rfl ?_
    by_cases q6 : u1 = (0)
    · refine ezw_tableswitchE (v := 0) (p := 144) q6 rfl (by rfl) ?_
      refine ezw_aload_n rfl rfl ?_
      refine ezw_aload_n rfl rfl ?_
      refine ezw_call2_2 rfl (by omega) rfl rfl (ezs_m51_1_47 hI (by omega) hzA hzT) ?_
      rintro _ _ ⟨⟨F, A, rfl, hI⟩, rfl⟩
      refine ezw_goto rfl rfl ?_
      refine ezw_aload_n rfl rfl ?_
      refine ezw_sipush (259) rfl rfl ?_
      refine ezw_call0_1 rfl (by omega) (ezu_at rfl) rfl rfl rfl rfl (ezs_m56_1 hI (by omega) hzT ⟨by decide, by decide⟩) ?_
      rintro _ _ ⟨⟨F, A, rfl, hI⟩, rfl⟩
      exact ezw_return rfl rfl ⟨⟨F, A, rfl, hI⟩, rfl⟩
    by_cases q7 : u1 = (1)
    · refine ezw_tableswitchE (v := 1) (p := 277) q7 rfl (by rfl) ?_
      refine ezw_aload_n rfl rfl ?_
      refine ezw_bipush (10) rfl rfl ?_
      refine ezw_aload_n rfl rfl ?_
      refine ezw_iconst (1) rfl rfl ?_
      refine ezw_bipush (15) rfl rfl ?_
      refine ezw_call0_2 rfl (by omega) (ezu_at rfl) rfl rfl rfl rfl (ezs_m57_1 hI (by omega) hzT ⟨by decide, by decide⟩ ⟨by decide, by decide⟩) ?_
      rintro _ _ ⟨⟨F, A, rfl, hI⟩, u8, hu8, rfl⟩
      refine ezw_call0_2 rfl (by omega) (ezu_at rfl) rfl rfl rfl rfl (ezs_m69_47 hI (by omega) hzA ⟨by decide, by decide⟩ ⟨by omega, by omega⟩ (by omega)) ?_
      rintro _ _ ⟨⟨F, A, rfl, hI⟩, rfl⟩
      refine ezw_aload_n rfl rfl ?_
      refine ezw_sipush (259) rfl rfl ?_
      refine ezw_call0_1 rfl (by omega) (ezu_at rfl) rfl rfl rfl rfl (ezs_m56_1 hI (by omega) hzT ⟨by decide, by decide⟩) ?_
      rintro _ _ ⟨⟨F, A, rfl, hI⟩, rfl⟩
      exact ezw_return rfl rfl ⟨⟨F, A, rfl, hI⟩, rfl⟩
    by_cases q9 : u1 = (2)
    · refine ezw_tableswitchE (v := 2) (p := 277) q9 rfl (by rfl) ?_
      refine ezw_aload_n rfl rfl ?_
      refine ezw_bipush (10) rfl rfl ?_
      refine ezw_aload_n rfl rfl ?_
      refine ezw_iconst (1) rfl rfl ?_
      refine ezw_bipush (15) rfl rfl ?_
      refine ezw_call0_2 rfl (by omega) (ezu_at rfl) rfl rfl rfl rfl (ezs_m57_1 hI (by omega) hzT ⟨by decide, by decide⟩ ⟨by decide, by decide⟩) ?_
      rintro _ _ ⟨⟨F, A, rfl, hI⟩, u10, hu10, rfl⟩
      refine ezw_call0_2 rfl (by omega) (ezu_at rfl) rfl rfl rfl rfl (ezs_m69_47 hI (by omega) hzA ⟨by decide, by decide⟩ ⟨by omega, by omega⟩ (by omega)) ?_
      rintro _ _ ⟨⟨F, A, rfl, hI⟩, rfl⟩
      refine ezw_aload_n rfl rfl ?_
      refine ezw_sipush (259) rfl rfl ?_
      refine ezw_call0_1 rfl (by omega) (ezu_at rfl) rfl rfl rfl rfl (ezs_m56_1 hI (by omega) hzT ⟨by decide, by decide⟩) ?_
      rintro _ _ ⟨⟨F, A, rfl, hI⟩, rfl⟩
      exact ezw_return rfl rfl ⟨⟨F, A, rfl, hI⟩, rfl⟩
    by_cases q11 : u1 = (3)
    · refine ezw_tableswitchE (v := 3) (p := 277) q11 rfl (by rfl) ?_
      refine ezw_aload_n rfl rfl ?_
      refine ezw_bipush (10) rfl rfl ?_
      refine ezw_aload_n rfl rfl ?_
      refine ezw_iconst (1) rfl rfl ?_
      refine ezw_bipush (15) rfl rfl ?_
      refine ezw_call0_2 rfl (by omega) (ezu_at rfl) rfl rfl rfl rfl (ezs_m57_1 hI (by omega) hzT ⟨by decide, by decide⟩ ⟨by decide, by decide⟩) ?_
      rintro _ _ ⟨⟨F, A, rfl, hI⟩, u12, hu12, rfl⟩
      refine ezw_call0_2 rfl (by omega) (ezu_at rfl) rfl rfl rfl rfl (ezs_m69_47 hI (by omega) hzA ⟨by decide, by decide⟩ ⟨by omega, by omega⟩ (by omega)) ?_
      rintro _ _ ⟨⟨F, A, rfl, hI⟩, rfl⟩
      refine ezw_aload_n rfl rfl ?_
      refine ezw_sipush (259) rfl rfl ?_
      refine ezw_call0_1 rfl (by omega) (ezu_at rfl) rfl rfl rfl rfl (ezs_m56_1 hI (by omega) hzT ⟨by decide, by decide⟩) ?_
      rintro _ _ ⟨⟨F, A, rfl, hI⟩, rfl⟩
      exact ezw_return rfl rfl ⟨⟨F, A, rfl, hI⟩, rfl⟩
    by_cases q13 : u1 = (4)
    · refine ezw_tableswitchE (v := 4) (p := 277) q13 rfl (by rfl) ?_
      refine ezw_aload_n rfl rfl ?_
      refine ezw_bipush (10) rfl rfl ?_
      refine ezw_aload_n rfl rfl ?_
      refine ezw_iconst (1) rfl rfl ?_
      refine ezw_bipush (15) rfl rfl ?_
      refine ezw_call0_2 rfl (by omega) (ezu_at rfl) rfl rfl rfl rfl (ezs_m57_1 hI (by omega) hzT ⟨by decide, by decide⟩ ⟨by decide, by decide⟩) ?_
      rintro _ _ ⟨⟨F, A, rfl, hI⟩, u14, hu14, rfl⟩
      refine ezw_call0_2 rfl (by omega) (ezu_at rfl) rfl rfl rfl rfl (ezs_m69_47 hI (by omega) hzA ⟨by decide, by decide⟩ ⟨by omega, by omega⟩ (by omega)) ?_
      rintro _ _ ⟨⟨F, A, rfl, hI⟩, rfl⟩
      refine ezw_aload_n rfl rfl ?_
      refine ezw_sipush (259) rfl rfl ?_
      refine ezw_call0_1 rfl (by omega) (ezu_at rfl) rfl rfl rfl rfl (ezs_m56_1 hI (by omega) hzT ⟨by decide, by decide⟩) ?_
      rintro _ _ ⟨⟨F, A, rfl, hI⟩, rfl⟩
      exact ezw_return rfl rfl ⟨⟨F, A, rfl, hI⟩, rfl⟩
    by_cases q15 : u1 = (5)
    · refine ezw_tableswitchE (v := 5) (p := 152) q15 rfl (by rfl) ?_
      refine ezw_aload_n rfl rfl ?_
      refine ezw_aload_n rfl rfl ?_
      refine ezw_call2_2 rfl (by omega) rfl rfl (ezs_m65_1_47 hI (by omega) hzA hzT) ?_
      rintro _ _ ⟨⟨F, A, rfl, hI⟩, rfl⟩
      refine ezw_goto rfl rfl ?_
      refine ezw_aload_n rfl rfl ?_
      refine ezw_sipush (259) rfl rfl ?_
      refine ezw_call0_1 rfl (by omega) (ezu_at rfl) rfl rfl rfl rfl (ezs_m56_1 hI (by omega) hzT ⟨by decide, by decide⟩) ?_
      rintro _ _ ⟨⟨F, A, rfl, hI⟩, rfl⟩
      exact ezw_return rfl rfl ⟨⟨F, A, rfl, hI⟩, rfl⟩
    by_cases q16 : u1 = (6)
    · refine ezw_tableswitchE (v := 6) (p := 160) q16 rfl (by rfl) ?_
      refine ezw_aload_n rfl rfl ?_
      refine ezw_aload_n rfl rfl ?_
      refine ezw_call2_2 rfl (by omega) rfl rfl (ezs_m68_1_47 hI (by omega) hzA hzT) ?_
      rintro _ _ ⟨⟨F, A, rfl, hI⟩, rfl⟩
      refine ezw_goto rfl rfl ?_
      refine ezw_aload_n rfl rfl ?_
      refine ezw_sipush (259) rfl rfl ?_
      refine ezw_call0_1 rfl (by omega) (ezu_at rfl) rfl rfl rfl rfl (ezs_m56_1 hI (by omega) hzT ⟨by decide, by decide⟩) ?_
      rintro _ _ ⟨⟨F, A, rfl, hI⟩, rfl⟩
      exact ezw_return rfl rfl ⟨⟨F, A, rfl, hI⟩, rfl⟩
    by_cases q17 : u1 = (7)
    · refine ezw_tableswitchE (v := 7) (p := 277) q17 rfl (by rfl) ?_
      refine ezw_aload_n rfl rfl ?_
      refine ezw_bipush (10) rfl rfl ?_
      refine ezw_aload_n rfl rfl ?_
      refine ezw_iconst (1) rfl rfl ?_
      refine ezw_bipush (15) rfl rfl ?_
      refine ezw_call0_2 rfl (by omega) (ezu_at rfl) rfl rfl rfl rfl (ezs_m57_1 hI (by omega) hzT ⟨by decide, by decide⟩ ⟨by decide, by decide⟩) ?_
      rintro _ _ ⟨⟨F, A, rfl, hI⟩, u18, hu18, rfl⟩
      refine ezw_call0_2 rfl (by omega) (ezu_at rfl) rfl rfl rfl rfl (ezs_m69_47 hI (by omega) hzA ⟨by decide, by decide⟩ ⟨by omega, by omega⟩ (by omega)) ?_
      rintro _ _ ⟨⟨F, A, rfl, hI⟩, rfl⟩
      refine ezw_aload_n rfl rfl ?_
      refine ezw_sipush (259) rfl rfl ?_
      refine ezw_call0_1 rfl (by omega) (ezu_at rfl) rfl rfl rfl rfl (ezs_m56_1 hI (by omega) hzT ⟨by decide, by decide⟩) ?_
      rintro _ _ ⟨⟨F, A, rfl, hI⟩, rfl⟩
      exact ezw_return rfl rfl ⟨⟨F, A, rfl, hI⟩, rfl⟩
    by_cases q19 : u1 = (8)
    · refine ezw_tableswitchE (v := 8) (p := 277) q19 rfl (by rfl) ?_
      refine ezw_aload_n rfl rfl ?_
      refine ezw_bipush (10) rfl rfl ?_
      refine ezw_aload_n rfl rfl ?_
      refine ezw_iconst (1) rfl rfl ?_
      refine ezw_bipush (15) rfl rfl ?_
      refine ezw_call0_2 rfl (by omega) (ezu_at rfl) rfl rfl rfl rfl (ezs_m57_1 hI (by omega) hzT ⟨by decide, by decide⟩ ⟨by decide, by decide⟩) ?_
      rintro _ _ ⟨⟨F, A, rfl, hI⟩, u20, hu20, rfl⟩
      refine ezw_call0_2 rfl (by omega) (ezu_at rfl) rfl rfl rfl rfl (ezs_m69_47 hI (by omega) hzA ⟨by decide, by decide⟩ ⟨by omega, by omega⟩ (by omega)) ?_
      rintro _ _ ⟨⟨F, A, rfl, hI⟩, rfl⟩
      refine ezw_aload_n rfl rfl ?_
      refine ezw_sipush (259) rfl rfl ?_
      refine ezw_call0_1 rfl (by omega) (ezu_at rfl) rfl rfl rfl rfl (ezs_m56_1 hI (by omega) hzT ⟨by decide, by decide⟩) ?_
      rintro _ _ ⟨⟨F, A, rfl, hI⟩, rfl⟩
      exact ezw_return rfl rfl ⟨⟨F, A, rfl, hI⟩, rfl⟩
    by_cases q21 : u1 = (9)
    · refine ezw_tableswitchE (v := 9) (p := 168) q21 rfl (by rfl) ?_
      refine ezw_aload_n rfl rfl ?_
      refine ezw_aload_n rfl rfl ?_
      refine ezw_call2_2 rfl (by omega) rfl rfl (ezs_m70_1_47 hI (by omega) hzA hzT) ?_
      rintro _ _ ⟨⟨F, A, rfl, hI⟩, rfl⟩
      refine ezw_goto rfl rfl ?_
      refine ezw_aload_n rfl rfl ?_
      refine ezw_sipush (259) rfl rfl ?_
      refine ezw_call0_1 rfl (by omega) (ezu_at rfl) rfl rfl rfl rfl (ezs_m56_1 hI (by omega) hzT ⟨by decide, by decide⟩) ?_
      rintro _ _ ⟨⟨F, A, rfl, hI⟩, rfl⟩
      exact ezw_return rfl rfl ⟨⟨F, A, rfl, hI⟩, rfl⟩
    by_cases q22 : u1 = (10)
    · refine ezw_tableswitchE (v := 10) (p := 277) q22 rfl (by rfl) ?_
      refine ezw_aload_n rfl rfl ?_
      refine ezw_bipush (10) rfl rfl ?_
      refine ezw_aload_n rfl rfl ?_
      refine ezw_iconst (1) rfl rfl ?_
      refine ezw_bipush (15) rfl rfl ?_
      refine ezw_call0_2 rfl (by omega) (ezu_at rfl) rfl rfl rfl rfl (ezs_m57_1 hI (by omega) hzT ⟨by decide, by decide⟩ ⟨by decide, by decide⟩) ?_
      rintro _ _ ⟨⟨F, A, rfl, hI⟩, u23, hu23, rfl⟩
      refine ezw_call0_2 rfl (by omega) (ezu_at rfl) rfl rfl rfl rfl (ezs_m69_47 hI (by omega) hzA ⟨by decide, by decide⟩ ⟨by omega, by omega⟩ (by omega)) ?_
      rintro _ _ ⟨⟨F, A, rfl, hI⟩, rfl⟩
      refine ezw_aload_n rfl rfl ?_
      refine ezw_sipush (259) rfl rfl ?_
      refine ezw_call0_1 rfl (by omega) (ezu_at rfl) rfl rfl rfl rfl (ezs_m56_1 hI (by omega) hzT ⟨by decide, by decide⟩) ?_
      rintro _ _ ⟨⟨F, A, rfl, hI⟩, rfl⟩
      exact ezw_return rfl rfl ⟨⟨F, A, rfl, hI⟩, rfl⟩
    by_cases q24 : u1 = (11)
    · refine ezw_tableswitchE (v := 11) (p := 277) q24 rfl (by rfl) ?_
      refine ezw_aload_n rfl rfl ?_
      refine ezw_bipush (10) rfl rfl ?_
      refine ezw_aload_n rfl rfl ?_
      refine ezw_iconst (1) rfl rfl ?_
      refine ezw_bipush (15) rfl rfl ?_
      refine ezw_call0_2 rfl (by omega) (ezu_at rfl) rfl rfl rfl rfl (ezs_m57_1 hI (by omega) hzT ⟨by decide, by decide⟩ ⟨by decide, by decide⟩) ?_
      rintro _ _ ⟨⟨F, A, rfl, hI⟩, u25, hu25, rfl⟩
      refine ezw_call0_2 rfl (by omega) (ezu_at rfl) rfl rfl rfl rfl (ezs_m69_47 hI (by omega) hzA ⟨by decide, by decide⟩ ⟨by omega, by omega⟩ (by omega)) ?_
      rintro _ _ ⟨⟨F, A, rfl, hI⟩, rfl⟩
      refine ezw_aload_n rfl rfl ?_
      refine ezw_sipush (259) rfl rfl ?_
      refine ezw_call0_1 rfl (by omega) (ezu_at rfl) rfl rfl rfl rfl (ezs_m56_1 hI (by omega) hzT ⟨by decide, by decide⟩) ?_
      rintro _ _ ⟨⟨F, A, rfl, hI⟩, rfl⟩
      exact ezw_return rfl rfl ⟨⟨F, A, rfl, hI⟩, rfl⟩
    by_cases q26 : u1 = (12)
    · refine ezw_tableswitchE (v := 12) (p := 176) q26 rfl (by rfl) ?_
      refine ezw_aload_n rfl rfl ?_
      refine ezw_aload_n rfl rfl ?_
      refine ezw_call2_2 rfl (by omega) rfl rfl (ezs_m72_1_47 hI (by omega) hzA hzT) ?_
      rintro _ _ ⟨⟨F, A, rfl, hI⟩, rfl⟩
      refine ezw_goto rfl rfl ?_
      refine ezw_aload_n rfl rfl ?_
      refine ezw_sipush (259) rfl rfl ?_
      refine ezw_call0_1 rfl (by omega) (ezu_at rfl) rfl rfl rfl rfl (ezs_m56_1 hI (by omega) hzT ⟨by decide, by decide⟩) ?_
      rintro _ _ ⟨⟨F, A, rfl, hI⟩, rfl⟩
      exact ezw_return rfl rfl ⟨⟨F, A, rfl, hI⟩, rfl⟩
    by_cases q27 : u1 = (13)
    · refine ezw_tableswitchE (v := 13) (p := 184) q27 rfl (by rfl) ?_
      refine ezw_aload_n rfl rfl ?_
      refine ezw_aload_n rfl rfl ?_
      refine ezw_call2_2 rfl (by omega) rfl rfl (ezs_m75_1_47 hI (by omega) hzA hzT) ?_
      rintro _ _ ⟨⟨F, A, rfl, hI⟩, rfl⟩
      refine ezw_goto rfl rfl ?_
      refine ezw_aload_n rfl rfl ?_
      refine ezw_sipush (259) rfl rfl ?_
      refine ezw_call0_1 rfl (by omega) (ezu_at rfl) rfl rfl rfl rfl (ezs_m56_1 hI (by omega) hzT ⟨by decide, by decide⟩) ?_
      rintro _ _ ⟨⟨F, A, rfl, hI⟩, rfl⟩
      exact ezw_return rfl rfl ⟨⟨F, A, rfl, hI⟩, rfl⟩
    by_cases q28 : u1 = (14)
    · refine ezw_tableswitchE (v := 14) (p := 230) q28 rfl (by rfl) ?_
      refine ezw_aload_n rfl rfl ?_
      refine ezw_iconst (5) rfl rfl ?_
      refine ezw_aload_n rfl rfl ?_
      refine ezw_iconst (0) rfl rfl ?_
      refine ezw_bipush (10) rfl rfl ?_
      refine ezw_call0_2 rfl (by omega) (ezu_at rfl) rfl rfl rfl rfl (ezs_m57_1 hI (by omega) hzT ⟨by decide, by decide⟩ ⟨by decide, by decide⟩) ?_
      rintro _ _ ⟨⟨F, A, rfl, hI⟩, u29, hu29, rfl⟩
      refine ezw_call0_2 rfl (by omega) (ezu_at rfl) rfl rfl rfl rfl (ezs_m69_47 hI (by omega) hzA ⟨by decide, by decide⟩ ⟨by omega, by omega⟩ (by omega)) ?_
      rintro _ _ ⟨⟨F, A, rfl, hI⟩, rfl⟩
      refine ezw_goto rfl rfl ?_
      refine ezw_aload_n rfl rfl ?_
      refine ezw_sipush (259) rfl rfl ?_
      refine ezw_call0_1 rfl (by omega) (ezu_at rfl) rfl rfl rfl rfl (ezs_m56_1 hI (by omega) hzT ⟨by decide, by decide⟩) ?_
      rintro _ _ ⟨⟨F, A, rfl, hI⟩, rfl⟩
      exact ezw_return rfl rfl ⟨⟨F, A, rfl, hI⟩, rfl⟩
    by_cases q30 : u1 = (15)
    · refine ezw_tableswitchE (v := 15) (p := 245) q30 rfl (by rfl) ?_
      refine ezw_aload_n rfl rfl ?_
      refine ezw_bipush (6) rfl rfl ?_
      refine ezw_aload_n rfl rfl ?_
      refine ezw_iconst (0) rfl rfl ?_
      refine ezw_bipush (9) rfl rfl ?_
      refine ezw_call0_2 rfl (by omega) (ezu_at rfl) rfl rfl rfl rfl (ezs_m57_1 hI (by omega) hzT ⟨by decide, by decide⟩ ⟨by decide, by decide⟩) ?_
      rintro _ _ ⟨⟨F, A, rfl, hI⟩, u31, hu31, rfl⟩
      refine ezw_call0_2 rfl (by omega) (ezu_at rfl) rfl rfl rfl rfl (ezs_m69_47 hI (by omega) hzA ⟨by decide, by decide⟩ ⟨by omega, by omega⟩ (by omega)) ?_
      rintro _ _ ⟨⟨F, A, rfl, hI⟩, rfl⟩
      refine ezw_goto rfl rfl ?_
      refine ezw_aload_n rfl rfl ?_
      refine ezw_sipush (259) rfl rfl ?_
      refine ezw_call0_1 rfl (by omega) (ezu_at rfl) rfl rfl rfl rfl (ezs_m56_1 hI (by omega) hzT ⟨by decide, by decide⟩) ?_
      rintro _ _ ⟨⟨F, A, rfl, hI⟩, rfl⟩
      exact ezw_return rfl rfl ⟨⟨F, A, rfl, hI⟩, rfl⟩
    by_cases q32 : u1 = (16)
    · refine ezw_tableswitchE (v := 16) (p := 192) q32 rfl (by rfl) ?_
      refine ezw_aload_n rfl rfl ?_
      refine ezw_aload_n rfl rfl ?_
      refine ezw_call2_2 rfl (by omega) rfl rfl (ezs_m76_1_47 hI (by omega) hzA hzT) ?_
      rintro _ _ ⟨⟨F, A, rfl, hI⟩, rfl⟩
      refine ezw_goto rfl rfl ?_
      refine ezw_aload_n rfl rfl ?_
      refine ezw_sipush (259) rfl rfl ?_
      refine ezw_call0_1 rfl (by omega) (ezu_at rfl) rfl rfl rfl rfl (ezs_m56_1 hI (by omega) hzT ⟨by decide, by decide⟩) ?_
      rintro _ _ ⟨⟨F, A, rfl, hI⟩, rfl⟩
      exact ezw_return rfl rfl ⟨⟨F, A, rfl, hI⟩, rfl⟩
    by_cases q33 : u1 = (17)
    · refine ezw_tableswitchE (v := 17) (p := 277) q33 rfl (by rfl) ?_
      refine ezw_aload_n rfl rfl ?_
      refine ezw_bipush (10) rfl rfl ?_
      refine ezw_aload_n rfl rfl ?_
      refine ezw_iconst (1) rfl rfl ?_
      refine ezw_bipush (15) rfl rfl ?_
      refine ezw_call0_2 rfl (by omega) (ezu_at rfl) rfl rfl rfl rfl (ezs_m57_1 hI (by omega) hzT ⟨by decide, by decide⟩ ⟨by decide, by decide⟩) ?_
      rintro _ _ ⟨⟨F, A, rfl, hI⟩, u34, hu34, rfl⟩
      refine ezw_call0_2 rfl (by omega) (ezu_at rfl) rfl rfl rfl rfl (ezs_m69_47 hI (by omega) hzA ⟨by decide, by decide⟩ ⟨by omega, by omega⟩ (by omega)) ?_
      rintro _ _ ⟨⟨F, A, rfl, hI⟩, rfl⟩
      refine ezw_aload_n rfl rfl ?_
      refine ezw_sipush (259) rfl rfl ?_
      refine ezw_call0_1 rfl (by omega) (ezu_at rfl) rfl rfl rfl rfl (ezs_m56_1 hI (by omega) hzT ⟨by decide, by decide⟩) ?_
      rintro _ _ ⟨⟨F, A, rfl, hI⟩, rfl⟩
      exact ezw_return rfl rfl ⟨⟨F, A, rfl, hI⟩, rfl⟩
    by_cases q35 : u1 = (18)
    · refine ezw_tableswitchE (v := 18) (p := 261) q35 rfl (by rfl) ?_
      refine ezw_aload_n rfl rfl ?_
      refine ezw_bipush (9) rfl rfl ?_
      refine ezw_aload_n rfl rfl ?_
      refine ezw_iconst (1) rfl rfl ?_
      refine ezw_bipush (99) rfl rfl ?_
      refine ezw_call0_2 rfl (by omega) (ezu_at rfl) rfl rfl rfl rfl (ezs_m57_1 hI (by omega) hzT ⟨by decide, by decide⟩ ⟨by decide, by decide⟩) ?_
      rintro _ _ ⟨⟨F, A, rfl, hI⟩, u36, hu36, rfl⟩
      refine ezw_call0_2 rfl (by omega) (ezu_at rfl) rfl rfl rfl rfl (ezs_m69_47 hI (by omega) hzA ⟨by decide, by decide⟩ ⟨by omega, by omega⟩ (by omega)) ?_
      rintro _ _ ⟨⟨F, A, rfl, hI⟩, rfl⟩
      refine ezw_goto rfl rfl ?_
      refine ezw_aload_n rfl rfl ?_
      refine ezw_sipush (259) rfl rfl ?_
      refine ezw_call0_1 rfl (by omega) (ezu_at rfl) rfl rfl rfl rfl (ezs_m56_1 hI (by omega) hzT ⟨by decide, by decide⟩) ?_
      rintro _ _ ⟨⟨F, A, rfl, hI⟩, rfl⟩
      exact ezw_return rfl rfl ⟨⟨F, A, rfl, hI⟩, rfl⟩
    by_cases q37 : u1 = (19)
    · refine ezw_tableswitchE (v := 19) (p := 277) q37 rfl (by rfl) ?_
      refine ezw_aload_n rfl rfl ?_
      refine ezw_bipush (10) rfl rfl ?_
      refine ezw_aload_n rfl rfl ?_
      refine ezw_iconst (1) rfl rfl ?_
      refine ezw_bipush (15) rfl rfl ?_
      refine ezw_call0_2 rfl (by omega) (ezu_at rfl) rfl rfl rfl rfl (ezs_m57_1 hI (by omega) hzT ⟨by decide, by decide⟩ ⟨by decide, by decide⟩) ?_
      rintro _ _ ⟨⟨F, A, rfl, hI⟩, u38, hu38, rfl⟩
      refine ezw_call0_2 rfl (by omega) (ezu_at rfl) rfl rfl rfl rfl (ezs_m69_47 hI (by omega) hzA ⟨by decide, by decide⟩ ⟨by omega, by omega⟩ (by omega)) ?_
      rintro _ _ ⟨⟨F, A, rfl, hI⟩, rfl⟩
      refine ezw_aload_n rfl rfl ?_
      refine ezw_sipush (259) rfl rfl ?_
      refine ezw_call0_1 rfl (by omega) (ezu_at rfl) rfl rfl rfl rfl (ezs_m56_1 hI (by omega) hzT ⟨by decide, by decide⟩) ?_
      rintro _ _ ⟨⟨F, A, rfl, hI⟩, rfl⟩
      exact ezw_return rfl rfl ⟨⟨F, A, rfl, hI⟩, rfl⟩
    by_cases q39 : u1 = (20)
    · refine ezw_tableswitchE (v := 20) (p := 200) q39 rfl (by rfl) ?_
      refine ezw_aload_n rfl rfl ?_
      refine ezw_aload_n rfl rfl ?_
      refine ezw_call2_2 rfl (by omega) rfl rfl (ezs_m77_1_47 hI (by omega) hzA hzT) ?_
      rintro _ _ ⟨⟨F, A, rfl, hI⟩, rfl⟩
      refine ezw_goto rfl rfl ?_
      refine ezw_aload_n rfl rfl ?_
      refine ezw_sipush (259) rfl rfl ?_
      refine ezw_call0_1 rfl (by omega) (ezu_at rfl) rfl rfl rfl rfl (ezs_m56_1 hI (by omega) hzT ⟨by decide, by decide⟩) ?_
      rintro _ _ ⟨⟨F, A, rfl, hI⟩, rfl⟩
      exact ezw_return rfl rfl ⟨⟨F, A, rfl, hI⟩, rfl⟩
    by_cases q40 : u1 = (21)
    · refine ezw_tableswitchE (v := 21) (p := 208) q40 rfl (by rfl) ?_
      refine ezw_aload_n rfl rfl ?_
      refine ezs_getp (p := 5) rfl rfl rfl rfl rfl ?_
      refine ezw_aload_n rfl rfl ?_
      refine ezw_call0_1 rfl (by omega) (ezu_at rfl) rfl rfl rfl rfl (ezs_m80_5_1 hI (by omega) hzA hzT) ?_
      rintro _ _ ⟨⟨F, A, rfl, hI⟩, rfl⟩
      refine ezw_goto rfl rfl ?_
      refine ezw_aload_n rfl rfl ?_
      refine ezw_sipush (259) rfl rfl ?_
      refine ezw_call0_1 rfl (by omega) (ezu_at rfl) rfl rfl rfl rfl (ezs_m56_1 hI (by omega) hzT ⟨by decide, by decide⟩) ?_
      rintro _ _ ⟨⟨F, A, rfl, hI⟩, rfl⟩
      exact ezw_return rfl rfl ⟨⟨F, A, rfl, hI⟩, rfl⟩
    by_cases q41 : u1 = (22)
    · refine ezw_tableswitchE (v := 22) (p := 219) q41 rfl (by rfl) ?_
      refine ezw_aload_n rfl rfl ?_
      refine ezs_getp (p := 9) rfl rfl rfl rfl rfl ?_
      refine ezw_aload_n rfl rfl ?_
      refine ezw_call0_1 rfl (by omega) (ezu_at rfl) rfl rfl rfl rfl (ezs_m80_9_1 hI (by omega) hzA hzT) ?_
      rintro _ _ ⟨⟨F, A, rfl, hI⟩, rfl⟩
      refine ezw_goto rfl rfl ?_
      refine ezw_aload_n rfl rfl ?_
      refine ezw_sipush (259) rfl rfl ?_
      refine ezw_call0_1 rfl (by omega) (ezu_at rfl) rfl rfl rfl rfl (ezs_m56_1 hI (by omega) hzT ⟨by decide, by decide⟩) ?_
      rintro _ _ ⟨⟨F, A, rfl, hI⟩, rfl⟩
      exact ezw_return rfl rfl ⟨⟨F, A, rfl, hI⟩, rfl⟩
    refine ezw_tableswitch (p := 277) rfl (ezs_swd hu1 (And.intro (And.intro ⟨by decide, by decide⟩ (fun z => q6 z.symm)) (And.intro (And.intro ⟨by decide, by decide⟩ (fun z => q7 z.symm)) (And.intro (And.intro ⟨by decide, by decide⟩ (fun z => q9 z.symm)) (And.intro (And.intro ⟨by decide, by decide⟩ (fun z => q11 z.symm)) (And.intro (And.intro ⟨by decide, by decide⟩ (fun z => q13 z.symm)) (And.intro (And.intro ⟨by decide, by decide⟩ (fun z => q15 z.symm)) (And.intro (And.intro ⟨by decide, by decide⟩ (fun z => q16 z.symm)) (And.intro (And.intro ⟨by decide, by decide⟩ (fun z => q17 z.symm)) (And.intro (And.intro ⟨by decide, by decide⟩ (fun z => q19 z.symm)) (And.intro (And.intro ⟨by decide, by decide⟩ (fun z => q21 z.symm)) (And.intro (And.intro ⟨by decide, by decide⟩ (fun z => q22 z.symm)) (And.intro (And.intro ⟨by decide, by decide⟩ (fun z => q24 z.symm)) (And.intro (And.intro ⟨by decide, by decide⟩ (fun z => q26 z.symm)) (And.intro (And.intro ⟨by decide, by decide⟩ (fun z => q27 z.symm)) (And.intro (And.intro ⟨by decide, by decide⟩ (fun z => q28 z.symm)) (And.intro (And.intro ⟨by decide, by decide⟩ (fun z => q30 z.symm)) (And.intro (And.intro ⟨by decide, by decide⟩ (fun z => q32 z.symm)) (And.intro (And.intro ⟨by decide, by decide⟩ (fun z => q33 z.symm)) (And.intro (And.intro ⟨by decide, by decide⟩ (fun z => q35 z.symm)) (And.intro (And.intro ⟨by decide, by decide⟩ (fun z => q37 z.symm)) (And.intro (And.intro ⟨by decide, by decide⟩ (fun z => q39 z.symm)) (And.intro (And.intro ⟨by decide, by decide⟩ (fun z => q40 z.symm)) (And.intro (And.intro ⟨by decide, by decide⟩ (fun z => q41 z.symm)) True.intro))))))))))))))))))))))) rfl) ?_
    refine ezw_aload_n rfl rfl ?_
    refine ezw_bipush (10) rfl rfl ?_
    refine ezw_aload_n rfl rfl ?_
    refine ezw_iconst (1) rfl rfl ?_
    refine ezw_bipush (15) rfl rfl ?_
    refine ezw_call0_2 rfl (by omega) (ezu_at rfl) rfl rfl rfl rfl (ezs_m57_1 hI (by omega) hzT ⟨by decide, by decide⟩ ⟨by decide, by decide⟩) ?_
    rintro _ _ ⟨⟨F, A, rfl, hI⟩, u42, hu42, rfl⟩
    refine ezw_call0_2 rfl (by omega) (ezu_at rfl) rfl rfl rfl rfl (ezs_m69_47 hI (by omega) hzA ⟨by decide, by decide⟩ ⟨by omega, by omega⟩ (by omega)) ?_
    rintro _ _ ⟨⟨F, A, rfl, hI⟩, rfl⟩
    refine ezw_aload_n rfl rfl ?_
    refine ezw_sipush (259) rfl rfl ?_
    refine ezw_call0_1 rfl (by omega) (ezu_at rfl) rfl rfl rfl rfl (ezs_m56_1 hI (by omega) hzT ⟨by decide, by decide⟩) ?_
    rintro _ _ ⟨⟨F, A, rfl, hI⟩, rfl⟩
    exact ezw_return rfl rfl ⟨⟨F, A, rfl, hI⟩, rfl⟩
  · exact ezw_return rfl rfl ⟨⟨F, A, rfl, hI⟩, rfl⟩
theorem ezs_m23_4_1_47 {F : Nat → Nat → Int} {A : Nat → Int → Int} (hI : ezs_I fz F0 A0 F A) (hd : 41 ≤ d) (hzA : ∀ q, 4 ≤ q → q < 72 → fz q = false) (hzT : fz 1 = false) : ezw_C l ρ B xa Hb D cA 23 d [ezw_p 4, ezw_p 1, ezw_p 47] (ezu_g e F A) (ezs_P0 e fz F0 A0 ezs_ri) := by
  refine ezw_met (k := 1) rfl rfl ?_
  refine ezw_aload_n rfl rfl ?_
  refine ezw_call0_0 rfl (by omega) (ezu_at rfl) rfl rfl rfl rfl (ezs_m24_47 hI (by omega) hzA) ?_
  rintro _ _ ⟨⟨F, A, rfl, hI⟩, rfl⟩
  refine ezw_aload_n rfl rfl ?_
  refine ezs_getp (p := 5) rfl rfl rfl rfl rfl ?_
  refine ezw_call0_0 rfl (by omega) (ezu_at rfl) rfl rfl rfl rfl (ezs_m28_5 hI (by omega) hzA) ?_
  rintro _ _ ⟨⟨F, A, rfl, hI⟩, rfl⟩
  refine ezw_aload_n rfl rfl ?_
  refine ezs_getp (p := 9) rfl rfl rfl rfl rfl ?_
  refine ezw_call0_0 rfl (by omega) (ezu_at rfl) rfl rfl rfl rfl (ezs_m28_9 hI (by omega) hzA) ?_
  rintro _ _ ⟨⟨F, A, rfl, hI⟩, rfl⟩
  refine ezw_aload_n rfl rfl ?_
  refine ezw_iconst (0) rfl rfl ?_
  refine ezs_put_i hI rfl rfl rfl rfl rfl (hzA 4 (by decide) (by decide)) ⟨by decide, by decide⟩ (fun F A hI => ?_)
  refine ezw_aload_n rfl rfl ?_
  refine ezw_call0_0 rfl (by omega) (ezu_at rfl) rfl rfl rfl rfl (ezs_m29_1 hI (by omega) hzT) ?_
  rintro _ _ ⟨⟨F, A, rfl, hI⟩, rfl⟩
  refine ezw_iconst (0) rfl rfl ?_
  refine ezw_istore_n rfl rfl ?_
  have L29_1 : ∀ c1 : Int, ezw_in c1 → (0) ≤ c1 → ∀ F A, ezs_I fz F0 A0 F A → ezw_E l ρ B xa Hb D cA d ezq_re23 (ezs_P0 e fz F0 A0 ezs_ri) 29 [some (ezw_p 4), some (ezw_p 1), some (ezw_p 47), some (ezw_i c1)] [] (ezu_g e F A) := by
    refine ezs_up ?_
    intro c1 hc1 ihc1 gc1 F A hI
    refine ezw_iload_n rfl rfl ?_
    refine ezw_sipush (1000) rfl rfl ?_
    have J64_3 : ∀ y3 : Int, ezw_in y3 → ∀ F A, ezs_I fz F0 A0 F A → ezw_E l ρ B xa Hb D cA d ezq_re23 (ezs_P0 e fz F0 A0 ezs_ri) 64 [some (ezw_p 4), some (ezw_p 1), some (ezw_p 47), some (ezw_i y3)] [] (ezu_g e F A) := by
      intro y3 hy3 F A hI
      refine ezw_aload_n rfl rfl ?_
      refine ezw_call0_0 rfl (by omega) (ezu_at rfl) rfl rfl rfl rfl (ezs_m45_1 hI (by omega)) ?_
      rintro _ _ ⟨rfl, u5, hu5, rfl⟩
      refine ezw_if_eq rfl rfl ⟨by omega, by omega⟩ (fun h68_5 => ?_) (fun h68_5 => ?_)
      · refine ezw_aload_n rfl rfl ?_
        refine ezw_call0_0 rfl (by omega) (ezu_at rfl) rfl rfl rfl rfl (ezs_m93_1 hI (by omega) hzT) ?_
        rintro _ _ ⟨⟨F, A, rfl, hI, hz0⟩, u6, hu6, rfl⟩
        exact ezw_ireturn rfl rfl ⟨⟨F, A, rfl, hI, hz0⟩, _, hu6, rfl⟩
      · refine ezw_aload_n rfl rfl ?_
        refine ezw_aload_n rfl rfl ?_
        refine ezs_getp (p := 5) rfl rfl rfl rfl rfl ?_
        refine ezw_aload_n rfl rfl ?_
        refine ezs_getp (p := 9) rfl rfl rfl rfl rfl ?_
        refine ezw_call0_2 rfl (by omega) (ezu_at rfl) rfl rfl rfl rfl (ezs_m85_47_5_9 hI (by omega) hzA) ?_
        rintro _ _ ⟨⟨F, A, rfl, hI⟩, rfl⟩
        refine ezw_aload_n rfl rfl ?_
        refine ezw_call0_0 rfl (by omega) (ezu_at rfl) rfl rfl rfl rfl (ezs_m93_1 hI (by omega) hzT) ?_
        rintro _ _ ⟨⟨F, A, rfl, hI, hz0⟩, u7, hu7, rfl⟩
        exact ezw_ireturn rfl rfl ⟨⟨F, A, rfl, hI, hz0⟩, _, hu7, rfl⟩
    refine ezw_icmp_ge rfl rfl hc1 ⟨by decide, by decide⟩ (fun h33_2 => ?_) (fun h33_2 => ?_)
    · exact ezw_keepE [true, true, true, true] (J64_3 c1 hc1 F A hI)
    · refine ezw_aload_n rfl rfl ?_
      refine ezw_call0_0 rfl (by omega) (ezu_at rfl) rfl rfl rfl rfl (ezs_m45_1 hI (by omega)) ?_
      rintro _ _ ⟨rfl, u8, hu8, rfl⟩
      refine ezw_if_eq rfl rfl ⟨by omega, by omega⟩ (fun h40_8 => ?_) (fun h40_8 => ?_)
      · exact ezw_keepE [true, true, true, true] (J64_3 c1 hc1 F A hI)
      · refine ezw_aload_n rfl rfl ?_
        refine ezw_bipush (102) rfl rfl ?_
        refine ezw_call0_1 rfl (by omega) (ezu_at rfl) rfl rfl rfl rfl (ezs_m46_1 hI (by omega) ⟨by decide, by decide⟩) ?_
        rintro _ _ ⟨rfl, u9, hu9, rfl⟩
        refine ezw_if_ne rfl rfl ⟨by omega, by omega⟩ (fun h49_9 => ?_) (fun h49_9 => ?_)
        · exact ezw_keepE [true, true, true, true] (J64_3 c1 hc1 F A hI)
        · refine ezw_aload_n rfl rfl ?_
          refine ezw_aload_n rfl rfl ?_
          refine ezw_aload_n rfl rfl ?_
          refine ezw_call0_2 rfl (by omega) (ezu_at rfl) rfl rfl rfl rfl (ezs_m47_4_1_47 hI (by omega) hzA hzT) ?_
          rintro _ _ ⟨⟨F, A, rfl, hI⟩, rfl⟩
          refine ezw_iinc (1) rfl rfl rfl rfl rfl ?_
          refine ezw_goto rfl rfl ?_
          exact ezw_keepE [true, true, true, true] (ihc1 (c1 + (1)) (by omega) ⟨by omega, by omega⟩ (by omega)  F A hI)
  exact ezw_keepE [true, true, true, true] (L29_1 (0) ⟨by decide, by decide⟩ (by omega)  F A hI)
end KM
