/-! ===== the program, roughly: plans ===== -/
section KM
variable {l : Launch} {ρ : ezq_E} {B : Nat} {xa : Nat → Option Nat} {Hb : Heap} {D : va_G} {cA : Nat → ClassId} {d : Nat} {e : Bool × Bool} {fz : Nat → Bool} {F0 : Nat → Nat → Int} {A0 : Nat → Int → Int}
theorem ezs_m199_22_30 {a2 : Int} {F : Nat → Nat → Int} {A : Nat → Int → Int} (hI : ezs_I fz F0 A0 F A) (hd : 4 ≤ d) (hzA : ∀ q, 22 ≤ q → q < 27 → fz q = false) (ha2 : ezw_in a2) : ezw_C l ρ B xa Hb D cA 199 d [ezw_p 22, ezw_p 30, ezw_i a2] (ezu_g e F A) (ezs_P e fz F0 A0 ezs_rn) := by
  refine ezw_met (k := 3) rfl rfl ?_
  refine ezw_aload_n rfl rfl ?_
  refine ezw_call0_0 rfl (by omega) (ezu_at rfl) rfl rfl rfl rfl (ezs_m198_22 hI (by omega) (fun q h0 h1 => hzA q (by omega) (by omega))) ?_
  rintro _ _ ⟨⟨F, A, rfl, hI⟩, u1, hu1, rfl⟩
  refine ezw_istore_n rfl rfl ?_
  refine ezw_aload_n rfl rfl ?_
  refine ezs_getp (p := 36) rfl rfl rfl rfl rfl ?_
  refine ezw_iload_n rfl rfl ?_
  refine ezw_call3_2 rfl (by omega) rfl rfl (ezs_m27_36 hI (by omega) ha2) ?_
  rintro _ _ ⟨rfl, u2, hu2, rfl⟩
  refine ezw_istore rfl rfl ?_
  refine ezw_iconst (0) rfl rfl ?_
  refine ezw_istore rfl rfl ?_
  refine ezw_iload_n rfl rfl ?_
  refine ezw_iload rfl rfl ?_
  have J58_3 : ∀ y3 : Int, ezw_in y3 → ∀ F A, ezs_I fz F0 A0 F A → ezw_E l ρ B xa Hb D cA d ezq_re199 (ezs_P e fz F0 A0 ezs_rn) 58 [some (ezw_p 22), some (ezw_p 30), some (ezw_i a2), some (ezw_i u1), some (ezw_i u2), some (ezw_i y3)] [] (ezu_g e F A) := by
    intro y3 hy3 F A hI
    refine ezw_aload_n rfl rfl ?_
    refine ezs_getp (p := 26) rfl rfl rfl rfl rfl ?_
    refine ezw_aload_n rfl rfl ?_
    refine ezw_iload_n rfl rfl ?_
    refine ezw_iload rfl rfl ?_
    refine ezw_call0_3 rfl (by omega) (ezu_at rfl) rfl rfl rfl rfl (ezs_m125_26_30 hI (by omega) (fun q h0 h1 => hzA q (by omega) (by omega)) ha2 hy3) ?_
    rintro _ _ ⟨⟨F, A, rfl, hI⟩, u5, hu5, rfl⟩
    refine ezw_pop rfl rfl ?_
    exact ezw_return rfl rfl ⟨⟨F, A, rfl, hI⟩, rfl⟩
  refine ezw_icmp_ge rfl rfl hu1 hu2 (fun h21_2 => ?_) (fun h21_2 => ?_)
  · refine ezw_iload_n rfl rfl ?_
    refine ezw_iload rfl rfl ?_
    refine ezw_aload_n rfl rfl ?_
    refine ezs_getp (p := 37) rfl rfl rfl rfl rfl ?_
    refine ezw_iload_n rfl rfl ?_
    refine ezw_call3_2 rfl (by omega) rfl rfl (ezs_m27_37 hI (by omega) ha2) ?_
    rintro _ _ ⟨rfl, u6, hu6, rfl⟩
    refine ezs_iadd rfl (fun u7 hu7 => ?_)
    refine ezw_icmp_ge rfl rfl hu1 hu7 (fun h52_7 => ?_) (fun h52_7 => ?_)
    · exact ezw_keepE [true, true, true, true, true, true] (J58_3 (0) ⟨by decide, by decide⟩ F A hI)
    · refine ezw_iconst (2) rfl rfl ?_
      refine ezw_istore rfl rfl ?_
      exact ezw_keepE [true, true, true, true, true, true] (J58_3 (2) ⟨by decide, by decide⟩ F A hI)
  · refine ezw_iconst (1) rfl rfl ?_
    refine ezw_istore rfl rfl ?_
    refine ezw_aload_n rfl rfl ?_
    refine ezw_dup rfl rfl ?_
    refine ezs_get_i hI rfl rfl rfl rfl rfl rfl (fun u8 hu8 ku8 => ?_)
    refine ezw_iconst (1) rfl rfl ?_
    refine ezs_iadd rfl (fun u9 hu9 => ?_)
    refine ezs_put_i hI rfl rfl rfl rfl rfl (hzA 22 (by decide) (by decide)) hu9 (fun F A hI => ?_)
    refine ezw_goto rfl rfl ?_
    exact ezw_keepE [true, true, true, true, true, true] (J58_3 (1) ⟨by decide, by decide⟩ F A hI)
theorem ezs_m200_22_30 {a2 a3 : Int} {F : Nat → Nat → Int} {A : Nat → Int → Int} (hI : ezs_I fz F0 A0 F A) (hd : 4 ≤ d) (hzA : ∀ q, 22 ≤ q → q < 27 → fz q = false) (ha2 : ezw_in a2) (ha3 : ezw_in a3) : ezw_C l ρ B xa Hb D cA 200 d [ezw_p 22, ezw_p 30, ezw_i a2, ezw_i a3] (ezu_g e F A) (ezs_P e fz F0 A0 ezs_rn) := by
  refine ezw_met (k := 3) rfl rfl ?_
  refine ezw_aload_n rfl rfl ?_
  refine ezs_getp (p := 26) rfl rfl rfl rfl rfl ?_
  refine ezw_aload_n rfl rfl ?_
  refine ezw_call0_1 rfl (by omega) (ezu_at rfl) rfl rfl rfl rfl (ezs_m106_26_30 hI (by omega)) ?_
  rintro _ _ ⟨rfl, u1, hu1, rfl⟩
  refine ezw_istore rfl rfl ?_
  refine ezw_aload_n rfl rfl ?_
  refine ezw_iload rfl rfl ?_
  refine ezw_aload_n rfl rfl ?_
  refine ezs_getp (p := 26) rfl rfl rfl rfl rfl ?_
  refine ezs_get_i hI rfl rfl rfl rfl rfl rfl (fun u2 hu2 ku2 => ?_)
  refine ezw_iload_n rfl rfl ?_
  refine ezw_iload_n rfl rfl ?_
  refine ezw_call0_4 rfl (by omega) (ezu_at rfl) rfl rfl rfl rfl (ezs_m116_30 hI (by omega) hu1 hu2 ha2 ha3) ?_
  rintro _ _ ⟨rfl, u3, hu3, rfl⟩
  refine ezw_istore rfl rfl ?_
  refine ezw_iconst (1) rfl rfl ?_
  refine ezw_istore rfl rfl ?_
  refine ezw_aload_n rfl rfl ?_
  refine ezw_call0_0 rfl (by omega) (ezu_at rfl) rfl rfl rfl rfl (ezs_m198_22 hI (by omega) (fun q h0 h1 => hzA q (by omega) (by omega))) ?_
  rintro _ _ ⟨⟨F, A, rfl, hI⟩, u4, hu4, rfl⟩
  refine ezw_aload_n rfl rfl ?_
  refine ezw_iload rfl rfl ?_
  refine ezw_aload_n rfl rfl ?_
  refine ezs_getp (p := 26) rfl rfl rfl rfl rfl ?_
  refine ezs_get_i hI rfl rfl rfl rfl rfl rfl (fun u5 hu5 ku5 => ?_)
  refine ezw_iload_n rfl rfl ?_
  refine ezw_iload_n rfl rfl ?_
  refine ezw_call0_4 rfl (by omega) (ezu_at rfl) rfl rfl rfl rfl (ezs_m113_30 hI (by omega) hu1 hu5 ha2 ha3) ?_
  rintro _ _ ⟨rfl, u6, hu6, rfl⟩
  have J80_7 : ∀ y7 : Int, ezw_in y7 → ∀ F A, ezs_I fz F0 A0 F A → ezw_E l ρ B xa Hb D cA d ezq_re200 (ezs_P e fz F0 A0 ezs_rn) 80 [some (ezw_p 22), some (ezw_p 30), some (ezw_i a2), some (ezw_i a3), some (ezw_i u1), some (ezw_i u3), some (ezw_i y7)] [] (ezu_g e F A) := by
    intro y7 hy7 F A hI
    refine ezw_aload_n rfl rfl ?_
    refine ezs_getp (p := 26) rfl rfl rfl rfl rfl ?_
    refine ezw_aload_n rfl rfl ?_
    refine ezw_iload_n rfl rfl ?_
    refine ezw_iload_n rfl rfl ?_
    refine ezw_iload rfl rfl ?_
    refine ezw_call0_4 rfl (by omega) (ezu_at rfl) rfl rfl rfl rfl (ezs_m121_26_30 hI (by omega) (fun q h0 h1 => hzA q (by omega) (by omega)) ha2 ha3 hy7) ?_
    rintro _ _ ⟨⟨F, A, rfl, hI⟩, u9, hu9, rfl⟩
    refine ezw_pop rfl rfl ?_
    exact ezw_return rfl rfl ⟨⟨F, A, rfl, hI⟩, rfl⟩
  refine ezw_icmp_ge rfl rfl hu4 hu6 (fun h49_6 => ?_) (fun h49_6 => ?_)
  · refine ezw_aload_n rfl rfl ?_
    refine ezw_call0_0 rfl (by omega) (ezu_at rfl) rfl rfl rfl rfl (ezs_m198_22 hI (by omega) (fun q h0 h1 => hzA q (by omega) (by omega))) ?_
    rintro _ _ ⟨⟨F, A, rfl, hI⟩, u10, hu10, rfl⟩
    refine ezw_iload rfl rfl ?_
    refine ezw_icmp_ge rfl rfl hu10 hu3 (fun h64_10 => ?_) (fun h64_10 => ?_)
    · exact ezw_keepE [true, true, true, true, true, true, true] (J80_7 (1) ⟨by decide, by decide⟩ F A hI)
    · refine ezw_iconst (2) rfl rfl ?_
      refine ezw_istore rfl rfl ?_
      refine ezw_aload_n rfl rfl ?_
      refine ezw_dup rfl rfl ?_
      refine ezs_get_i hI rfl rfl rfl rfl rfl rfl (fun u11 hu11 ku11 => ?_)
      refine ezw_iconst (1) rfl rfl ?_
      refine ezs_iadd rfl (fun u12 hu12 => ?_)
      refine ezs_put_i hI rfl rfl rfl rfl rfl (hzA 22 (by decide) (by decide)) hu12 (fun F A hI => ?_)
      exact ezw_keepE [true, true, true, true, true, true, true] (J80_7 (2) ⟨by decide, by decide⟩ F A hI)
  · refine ezw_iconst (0) rfl rfl ?_
    refine ezw_istore rfl rfl ?_
    refine ezw_goto rfl rfl ?_
    exact ezw_keepE [true, true, true, true, true, true, true] (J80_7 (0) ⟨by decide, by decide⟩ F A hI)
theorem ezs_m197_22_30 {a2 : Int} {F : Nat → Nat → Int} {A : Nat → Int → Int} (hI : ezs_I fz F0 A0 F A) (hd : 5 ≤ d) (hzA : ∀ q, 22 ≤ q → q < 27 → fz q = false) (ha2 : ezw_in a2) : ezw_C l ρ B xa Hb D cA 197 d [ezw_p 22, ezw_p 30, ezw_i a2] (ezu_g e F A) (ezs_P e fz F0 A0 ezs_rn) := by
  refine ezw_met (k := 0) rfl rfl ?_
  refine ezw_iload_n rfl rfl ?_
  refine ezw_bipush (9) rfl rfl ?_
  refine ezw_icmp_ne rfl rfl ha2 ⟨by decide, by decide⟩ (fun h3_0 => ?_) (fun h3_0 => ?_)
  · refine ezw_iload_n rfl rfl ?_
    refine ezw_bipush (10) rfl rfl ?_
    refine ezw_icmp_ne rfl rfl ha2 ⟨by decide, by decide⟩ (fun h24_0 => ?_) (fun h24_0 => ?_)
    · refine ezw_iload_n rfl rfl ?_
      refine ezw_bipush (11) rfl rfl ?_
      refine ezw_icmp_lt rfl rfl ha2 ⟨by decide, by decide⟩ (fun h57_0 => ?_) (fun h57_0 => ?_)
      · refine ezw_iload_n rfl rfl ?_
        refine ezw_if_eq rfl rfl ha2 (fun h73_0 => ?_) (fun h73_0 => ?_)
        · exact ezw_return rfl rfl ⟨⟨F, A, rfl, hI⟩, rfl⟩
        · refine ezw_aload_n rfl rfl ?_
          refine ezw_aload_n rfl rfl ?_
          refine ezw_iload_n rfl rfl ?_
          refine ezw_iconst (1) rfl rfl ?_
          refine ezs_isub rfl (fun u1 hu1 => ?_)
          refine ezw_iconst (4) rfl rfl ?_
          refine ezs_irem rfl hu1 ⟨by decide, by decide⟩ (by omega) (fun u2 hu2 => ?_)
          refine ezw_iload_n rfl rfl ?_
          refine ezw_iconst (5) rfl rfl ?_
          refine ezw_icmp_lt rfl rfl ha2 ⟨by decide, by decide⟩ (fun h85_2 => ?_) (fun h85_2 => ?_)
          · refine ezw_iconst (0) rfl rfl ?_
            refine ezw_call0_3 rfl (by omega) (ezu_at rfl) rfl rfl rfl rfl (ezs_m200_22_30 hI (by omega) (fun q h0 h1 => hzA q (by omega) (by omega)) hu2 ⟨by decide, by decide⟩) ?_
            rintro _ _ ⟨⟨F, A, rfl, hI⟩, rfl⟩
            exact ezw_return rfl rfl ⟨⟨F, A, rfl, hI⟩, rfl⟩
          · refine ezw_iconst (1) rfl rfl ?_
            refine ezw_goto rfl rfl ?_
            refine ezw_call0_3 rfl (by omega) (ezu_at rfl) rfl rfl rfl rfl (ezs_m200_22_30 hI (by omega) (fun q h0 h1 => hzA q (by omega) (by omega)) hu2 ⟨by decide, by decide⟩) ?_
            rintro _ _ ⟨⟨F, A, rfl, hI⟩, rfl⟩
            exact ezw_return rfl rfl ⟨⟨F, A, rfl, hI⟩, rfl⟩
      · refine ezw_aload_n rfl rfl ?_
        refine ezw_aload_n rfl rfl ?_
        refine ezw_iload_n rfl rfl ?_
        refine ezw_bipush (11) rfl rfl ?_
        refine ezs_isub rfl (fun u3 hu3 => ?_)
        refine ezw_call0_2 rfl (by omega) (ezu_at rfl) rfl rfl rfl rfl (ezs_m199_22_30 hI (by omega) (fun q h0 h1 => hzA q (by omega) (by omega)) hu3) ?_
        rintro _ _ ⟨⟨F, A, rfl, hI⟩, rfl⟩
        refine ezw_goto rfl rfl ?_
        exact ezw_return rfl rfl ⟨⟨F, A, rfl, hI⟩, rfl⟩
    · refine ezw_aload_n rfl rfl ?_
      refine ezw_call0_0 rfl (by omega) (ezu_at rfl) rfl rfl rfl rfl (ezs_m198_22 hI (by omega) (fun q h0 h1 => hzA q (by omega) (by omega))) ?_
      rintro _ _ ⟨⟨F, A, rfl, hI⟩, u4, hu4, rfl⟩
      refine ezw_aload_n rfl rfl ?_
      refine ezw_iconst (5) rfl rfl ?_
      refine ezw_call0_1 rfl (by omega) (ezu_at rfl) rfl rfl rfl rfl (ezs_m95_30 hI (by omega) ⟨by decide, by decide⟩) ?_
      rintro _ _ ⟨rfl, u5, hu5, rfl⟩
      refine ezw_icmp_ge rfl rfl hu4 ⟨by omega, by omega⟩ (fun h36_5 => ?_) (fun h36_5 => ?_)
      · exact ezw_return rfl rfl ⟨⟨F, A, rfl, hI⟩, rfl⟩
      · refine ezw_aload_n rfl rfl ?_
        refine ezs_getp (p := 26) rfl rfl rfl rfl rfl ?_
        refine ezw_aload_n rfl rfl ?_
        refine ezw_iconst (3) rfl rfl ?_
        refine ezw_iconst (0) rfl rfl ?_
        refine ezw_iconst (0) rfl rfl ?_
        refine ezw_call0_4 rfl (by omega) (ezu_at rfl) rfl rfl rfl rfl (ezs_m120_26_30 hI (by omega) (fun q h0 h1 => hzA q (by omega) (by omega)) ⟨by decide, by decide⟩ ⟨by decide, by decide⟩ ⟨by decide, by decide⟩) ?_
        rintro _ _ ⟨⟨F, A, rfl, hI⟩, u6, hu6, rfl⟩
        refine ezw_pop rfl rfl ?_
        refine ezw_goto rfl rfl ?_
        exact ezw_return rfl rfl ⟨⟨F, A, rfl, hI⟩, rfl⟩
  · refine ezw_aload_n rfl rfl ?_
    refine ezs_getp (p := 26) rfl rfl rfl rfl rfl ?_
    refine ezw_aload_n rfl rfl ?_
    refine ezw_iconst (2) rfl rfl ?_
    refine ezw_iconst (0) rfl rfl ?_
    refine ezw_iconst (0) rfl rfl ?_
    refine ezw_call0_4 rfl (by omega) (ezu_at rfl) rfl rfl rfl rfl (ezs_m120_26_30 hI (by omega) (fun q h0 h1 => hzA q (by omega) (by omega)) ⟨by decide, by decide⟩ ⟨by decide, by decide⟩ ⟨by decide, by decide⟩) ?_
    rintro _ _ ⟨⟨F, A, rfl, hI⟩, u7, hu7, rfl⟩
    refine ezw_pop rfl rfl ?_
    refine ezw_goto rfl rfl ?_
    exact ezw_return rfl rfl ⟨⟨F, A, rfl, hI⟩, rfl⟩
theorem ezs_m199_22_47 {a2 : Int} {F : Nat → Nat → Int} {A : Nat → Int → Int} (hI : ezs_I fz F0 A0 F A) (hd : 4 ≤ d) (hzA : ∀ q, 22 ≤ q → q < 27 → fz q = false) (ha2 : ezw_in a2) : ezw_C l ρ B xa Hb D cA 199 d [ezw_p 22, ezw_p 47, ezw_i a2] (ezu_g e F A) (ezs_P e fz F0 A0 ezs_rn) := by
  refine ezw_met (k := 3) rfl rfl ?_
  refine ezw_aload_n rfl rfl ?_
  refine ezw_call0_0 rfl (by omega) (ezu_at rfl) rfl rfl rfl rfl (ezs_m198_22 hI (by omega) (fun q h0 h1 => hzA q (by omega) (by omega))) ?_
  rintro _ _ ⟨⟨F, A, rfl, hI⟩, u1, hu1, rfl⟩
  refine ezw_istore_n rfl rfl ?_
  refine ezw_aload_n rfl rfl ?_
  refine ezs_getp (p := 53) rfl rfl rfl rfl rfl ?_
  refine ezw_iload_n rfl rfl ?_
  refine ezw_call3_2 rfl (by omega) rfl rfl (ezs_m27_53 hI (by omega) ha2) ?_
  rintro _ _ ⟨rfl, u2, hu2, rfl⟩
  refine ezw_istore rfl rfl ?_
  refine ezw_iconst (0) rfl rfl ?_
  refine ezw_istore rfl rfl ?_
  refine ezw_iload_n rfl rfl ?_
  refine ezw_iload rfl rfl ?_
  have J58_3 : ∀ y3 : Int, ezw_in y3 → ∀ F A, ezs_I fz F0 A0 F A → ezw_E l ρ B xa Hb D cA d ezq_re199 (ezs_P e fz F0 A0 ezs_rn) 58 [some (ezw_p 22), some (ezw_p 47), some (ezw_i a2), some (ezw_i u1), some (ezw_i u2), some (ezw_i y3)] [] (ezu_g e F A) := by
    intro y3 hy3 F A hI
    refine ezw_aload_n rfl rfl ?_
    refine ezs_getp (p := 26) rfl rfl rfl rfl rfl ?_
    refine ezw_aload_n rfl rfl ?_
    refine ezw_iload_n rfl rfl ?_
    refine ezw_iload rfl rfl ?_
    refine ezw_call0_3 rfl (by omega) (ezu_at rfl) rfl rfl rfl rfl (ezs_m125_26_47 hI (by omega) (fun q h0 h1 => hzA q (by omega) (by omega)) ha2 hy3) ?_
    rintro _ _ ⟨⟨F, A, rfl, hI⟩, u5, hu5, rfl⟩
    refine ezw_pop rfl rfl ?_
    exact ezw_return rfl rfl ⟨⟨F, A, rfl, hI⟩, rfl⟩
  refine ezw_icmp_ge rfl rfl hu1 hu2 (fun h21_2 => ?_) (fun h21_2 => ?_)
  · refine ezw_iload_n rfl rfl ?_
    refine ezw_iload rfl rfl ?_
    refine ezw_aload_n rfl rfl ?_
    refine ezs_getp (p := 54) rfl rfl rfl rfl rfl ?_
    refine ezw_iload_n rfl rfl ?_
    refine ezw_call3_2 rfl (by omega) rfl rfl (ezs_m27_54 hI (by omega) ha2) ?_
    rintro _ _ ⟨rfl, u6, hu6, rfl⟩
    refine ezs_iadd rfl (fun u7 hu7 => ?_)
    refine ezw_icmp_ge rfl rfl hu1 hu7 (fun h52_7 => ?_) (fun h52_7 => ?_)
    · exact ezw_keepE [true, true, true, true, true, true] (J58_3 (0) ⟨by decide, by decide⟩ F A hI)
    · refine ezw_iconst (2) rfl rfl ?_
      refine ezw_istore rfl rfl ?_
      exact ezw_keepE [true, true, true, true, true, true] (J58_3 (2) ⟨by decide, by decide⟩ F A hI)
  · refine ezw_iconst (1) rfl rfl ?_
    refine ezw_istore rfl rfl ?_
    refine ezw_aload_n rfl rfl ?_
    refine ezw_dup rfl rfl ?_
    refine ezs_get_i hI rfl rfl rfl rfl rfl rfl (fun u8 hu8 ku8 => ?_)
    refine ezw_iconst (1) rfl rfl ?_
    refine ezs_iadd rfl (fun u9 hu9 => ?_)
    refine ezs_put_i hI rfl rfl rfl rfl rfl (hzA 22 (by decide) (by decide)) hu9 (fun F A hI => ?_)
    refine ezw_goto rfl rfl ?_
    exact ezw_keepE [true, true, true, true, true, true] (J58_3 (1) ⟨by decide, by decide⟩ F A hI)
theorem ezs_m200_22_47 {a2 a3 : Int} {F : Nat → Nat → Int} {A : Nat → Int → Int} (hI : ezs_I fz F0 A0 F A) (hd : 4 ≤ d) (hzA : ∀ q, 22 ≤ q → q < 27 → fz q = false) (ha2 : ezw_in a2) (ha3 : ezw_in a3) : ezw_C l ρ B xa Hb D cA 200 d [ezw_p 22, ezw_p 47, ezw_i a2, ezw_i a3] (ezu_g e F A) (ezs_P e fz F0 A0 ezs_rn) := by
  refine ezw_met (k := 3) rfl rfl ?_
  refine ezw_aload_n rfl rfl ?_
  refine ezs_getp (p := 26) rfl rfl rfl rfl rfl ?_
  refine ezw_aload_n rfl rfl ?_
  refine ezw_call0_1 rfl (by omega) (ezu_at rfl) rfl rfl rfl rfl (ezs_m106_26_47 hI (by omega)) ?_
  rintro _ _ ⟨rfl, u1, hu1, rfl⟩
  refine ezw_istore rfl rfl ?_
  refine ezw_aload_n rfl rfl ?_
  refine ezw_iload rfl rfl ?_
  refine ezw_aload_n rfl rfl ?_
  refine ezs_getp (p := 26) rfl rfl rfl rfl rfl ?_
  refine ezs_get_i hI rfl rfl rfl rfl rfl rfl (fun u2 hu2 ku2 => ?_)
  refine ezw_iload_n rfl rfl ?_
  refine ezw_iload_n rfl rfl ?_
  refine ezw_call0_4 rfl (by omega) (ezu_at rfl) rfl rfl rfl rfl (ezs_m116_47 hI (by omega) hu1 hu2 ha2 ha3) ?_
  rintro _ _ ⟨rfl, u3, hu3, rfl⟩
  refine ezw_istore rfl rfl ?_
  refine ezw_iconst (1) rfl rfl ?_
  refine ezw_istore rfl rfl ?_
  refine ezw_aload_n rfl rfl ?_
  refine ezw_call0_0 rfl (by omega) (ezu_at rfl) rfl rfl rfl rfl (ezs_m198_22 hI (by omega) (fun q h0 h1 => hzA q (by omega) (by omega))) ?_
  rintro _ _ ⟨⟨F, A, rfl, hI⟩, u4, hu4, rfl⟩
  refine ezw_aload_n rfl rfl ?_
  refine ezw_iload rfl rfl ?_
  refine ezw_aload_n rfl rfl ?_
  refine ezs_getp (p := 26) rfl rfl rfl rfl rfl ?_
  refine ezs_get_i hI rfl rfl rfl rfl rfl rfl (fun u5 hu5 ku5 => ?_)
  refine ezw_iload_n rfl rfl ?_
  refine ezw_iload_n rfl rfl ?_
  refine ezw_call0_4 rfl (by omega) (ezu_at rfl) rfl rfl rfl rfl (ezs_m113_47 hI (by omega) hu1 hu5 ha2 ha3) ?_
  rintro _ _ ⟨rfl, u6, hu6, rfl⟩
  have J80_7 : ∀ y7 : Int, ezw_in y7 → ∀ F A, ezs_I fz F0 A0 F A → ezw_E l ρ B xa Hb D cA d ezq_re200 (ezs_P e fz F0 A0 ezs_rn) 80 [some (ezw_p 22), some (ezw_p 47), some (ezw_i a2), some (ezw_i a3), some (ezw_i u1), some (ezw_i u3), some (ezw_i y7)] [] (ezu_g e F A) := by
    intro y7 hy7 F A hI
    refine ezw_aload_n rfl rfl ?_
    refine ezs_getp (p := 26) rfl rfl rfl rfl rfl ?_
    refine ezw_aload_n rfl rfl ?_
    refine ezw_iload_n rfl rfl ?_
    refine ezw_iload_n rfl rfl ?_
    refine ezw_iload rfl rfl ?_
    refine ezw_call0_4 rfl (by omega) (ezu_at rfl) rfl rfl rfl rfl (ezs_m121_26_47 hI (by omega) (fun q h0 h1 => hzA q (by omega) (by omega)) ha2 ha3 hy7) ?_
    rintro _ _ ⟨⟨F, A, rfl, hI⟩, u9, hu9, rfl⟩
    refine ezw_pop rfl rfl ?_
    exact ezw_return rfl rfl ⟨⟨F, A, rfl, hI⟩, rfl⟩
  refine ezw_icmp_ge rfl rfl hu4 hu6 (fun h49_6 => ?_) (fun h49_6 => ?_)
  · refine ezw_aload_n rfl rfl ?_
    refine ezw_call0_0 rfl (by omega) (ezu_at rfl) rfl rfl rfl rfl (ezs_m198_22 hI (by omega) (fun q h0 h1 => hzA q (by omega) (by omega))) ?_
    rintro _ _ ⟨⟨F, A, rfl, hI⟩, u10, hu10, rfl⟩
    refine ezw_iload rfl rfl ?_
    refine ezw_icmp_ge rfl rfl hu10 hu3 (fun h64_10 => ?_) (fun h64_10 => ?_)
    · exact ezw_keepE [true, true, true, true, true, true, true] (J80_7 (1) ⟨by decide, by decide⟩ F A hI)
    · refine ezw_iconst (2) rfl rfl ?_
      refine ezw_istore rfl rfl ?_
      refine ezw_aload_n rfl rfl ?_
      refine ezw_dup rfl rfl ?_
      refine ezs_get_i hI rfl rfl rfl rfl rfl rfl (fun u11 hu11 ku11 => ?_)
      refine ezw_iconst (1) rfl rfl ?_
      refine ezs_iadd rfl (fun u12 hu12 => ?_)
      refine ezs_put_i hI rfl rfl rfl rfl rfl (hzA 22 (by decide) (by decide)) hu12 (fun F A hI => ?_)
      exact ezw_keepE [true, true, true, true, true, true, true] (J80_7 (2) ⟨by decide, by decide⟩ F A hI)
  · refine ezw_iconst (0) rfl rfl ?_
    refine ezw_istore rfl rfl ?_
    refine ezw_goto rfl rfl ?_
    exact ezw_keepE [true, true, true, true, true, true, true] (J80_7 (0) ⟨by decide, by decide⟩ F A hI)
theorem ezs_m197_22_47 {a2 : Int} {F : Nat → Nat → Int} {A : Nat → Int → Int} (hI : ezs_I fz F0 A0 F A) (hd : 5 ≤ d) (hzA : ∀ q, 22 ≤ q → q < 27 → fz q = false) (ha2 : ezw_in a2) : ezw_C l ρ B xa Hb D cA 197 d [ezw_p 22, ezw_p 47, ezw_i a2] (ezu_g e F A) (ezs_P e fz F0 A0 ezs_rn) := by
  refine ezw_met (k := 0) rfl rfl ?_
  refine ezw_iload_n rfl rfl ?_
  refine ezw_bipush (9) rfl rfl ?_
  refine ezw_icmp_ne rfl rfl ha2 ⟨by decide, by decide⟩ (fun h3_0 => ?_) (fun h3_0 => ?_)
  · refine ezw_iload_n rfl rfl ?_
    refine ezw_bipush (10) rfl rfl ?_
    refine ezw_icmp_ne rfl rfl ha2 ⟨by decide, by decide⟩ (fun h24_0 => ?_) (fun h24_0 => ?_)
    · refine ezw_iload_n rfl rfl ?_
      refine ezw_bipush (11) rfl rfl ?_
      refine ezw_icmp_lt rfl rfl ha2 ⟨by decide, by decide⟩ (fun h57_0 => ?_) (fun h57_0 => ?_)
      · refine ezw_iload_n rfl rfl ?_
        refine ezw_if_eq rfl rfl ha2 (fun h73_0 => ?_) (fun h73_0 => ?_)
        · exact ezw_return rfl rfl ⟨⟨F, A, rfl, hI⟩, rfl⟩
        · refine ezw_aload_n rfl rfl ?_
          refine ezw_aload_n rfl rfl ?_
          refine ezw_iload_n rfl rfl ?_
          refine ezw_iconst (1) rfl rfl ?_
          refine ezs_isub rfl (fun u1 hu1 => ?_)
          refine ezw_iconst (4) rfl rfl ?_
          refine ezs_irem rfl hu1 ⟨by decide, by decide⟩ (by omega) (fun u2 hu2 => ?_)
          refine ezw_iload_n rfl rfl ?_
          refine ezw_iconst (5) rfl rfl ?_
          refine ezw_icmp_lt rfl rfl ha2 ⟨by decide, by decide⟩ (fun h85_2 => ?_) (fun h85_2 => ?_)
          · refine ezw_iconst (0) rfl rfl ?_
            refine ezw_call0_3 rfl (by omega) (ezu_at rfl) rfl rfl rfl rfl (ezs_m200_22_47 hI (by omega) (fun q h0 h1 => hzA q (by omega) (by omega)) hu2 ⟨by decide, by decide⟩) ?_
            rintro _ _ ⟨⟨F, A, rfl, hI⟩, rfl⟩
            exact ezw_return rfl rfl ⟨⟨F, A, rfl, hI⟩, rfl⟩
          · refine ezw_iconst (1) rfl rfl ?_
            refine ezw_goto rfl rfl ?_
            refine ezw_call0_3 rfl (by omega) (ezu_at rfl) rfl rfl rfl rfl (ezs_m200_22_47 hI (by omega) (fun q h0 h1 => hzA q (by omega) (by omega)) hu2 ⟨by decide, by decide⟩) ?_
            rintro _ _ ⟨⟨F, A, rfl, hI⟩, rfl⟩
            exact ezw_return rfl rfl ⟨⟨F, A, rfl, hI⟩, rfl⟩
      · refine ezw_aload_n rfl rfl ?_
        refine ezw_aload_n rfl rfl ?_
        refine ezw_iload_n rfl rfl ?_
        refine ezw_bipush (11) rfl rfl ?_
        refine ezs_isub rfl (fun u3 hu3 => ?_)
        refine ezw_call0_2 rfl (by omega) (ezu_at rfl) rfl rfl rfl rfl (ezs_m199_22_47 hI (by omega) (fun q h0 h1 => hzA q (by omega) (by omega)) hu3) ?_
        rintro _ _ ⟨⟨F, A, rfl, hI⟩, rfl⟩
        refine ezw_goto rfl rfl ?_
        exact ezw_return rfl rfl ⟨⟨F, A, rfl, hI⟩, rfl⟩
    · refine ezw_aload_n rfl rfl ?_
      refine ezw_call0_0 rfl (by omega) (ezu_at rfl) rfl rfl rfl rfl (ezs_m198_22 hI (by omega) (fun q h0 h1 => hzA q (by omega) (by omega))) ?_
      rintro _ _ ⟨⟨F, A, rfl, hI⟩, u4, hu4, rfl⟩
      refine ezw_aload_n rfl rfl ?_
      refine ezw_iconst (5) rfl rfl ?_
      refine ezw_call0_1 rfl (by omega) (ezu_at rfl) rfl rfl rfl rfl (ezs_m95_47 hI (by omega) ⟨by decide, by decide⟩) ?_
      rintro _ _ ⟨rfl, u5, hu5, rfl⟩
      refine ezw_icmp_ge rfl rfl hu4 ⟨by omega, by omega⟩ (fun h36_5 => ?_) (fun h36_5 => ?_)
      · exact ezw_return rfl rfl ⟨⟨F, A, rfl, hI⟩, rfl⟩
      · refine ezw_aload_n rfl rfl ?_
        refine ezs_getp (p := 26) rfl rfl rfl rfl rfl ?_
        refine ezw_aload_n rfl rfl ?_
        refine ezw_iconst (3) rfl rfl ?_
        refine ezw_iconst (0) rfl rfl ?_
        refine ezw_iconst (0) rfl rfl ?_
        refine ezw_call0_4 rfl (by omega) (ezu_at rfl) rfl rfl rfl rfl (ezs_m120_26_47 hI (by omega) (fun q h0 h1 => hzA q (by omega) (by omega)) ⟨by decide, by decide⟩ ⟨by decide, by decide⟩ ⟨by decide, by decide⟩) ?_
        rintro _ _ ⟨⟨F, A, rfl, hI⟩, u6, hu6, rfl⟩
        refine ezw_pop rfl rfl ?_
        refine ezw_goto rfl rfl ?_
        exact ezw_return rfl rfl ⟨⟨F, A, rfl, hI⟩, rfl⟩
  · refine ezw_aload_n rfl rfl ?_
    refine ezs_getp (p := 26) rfl rfl rfl rfl rfl ?_
    refine ezw_aload_n rfl rfl ?_
    refine ezw_iconst (2) rfl rfl ?_
    refine ezw_iconst (0) rfl rfl ?_
    refine ezw_iconst (0) rfl rfl ?_
    refine ezw_call0_4 rfl (by omega) (ezu_at rfl) rfl rfl rfl rfl (ezs_m120_26_47 hI (by omega) (fun q h0 h1 => hzA q (by omega) (by omega)) ⟨by decide, by decide⟩ ⟨by decide, by decide⟩ ⟨by decide, by decide⟩) ?_
    rintro _ _ ⟨⟨F, A, rfl, hI⟩, u7, hu7, rfl⟩
    refine ezw_pop rfl rfl ?_
    refine ezw_goto rfl rfl ?_
    exact ezw_return rfl rfl ⟨⟨F, A, rfl, hI⟩, rfl⟩
theorem ezs_m131_13 {F : Nat → Nat → Int} {A : Nat → Int → Int} (hI : ezs_I fz F0 A0 F A) (hd : 1 ≤ d) : ezw_C l ρ B xa Hb D cA 131 d [ezw_p 13] (ezu_g e F A) (ezs_Pp e F A ezs_ri) := by
  refine ezw_met (k := 0) rfl rfl ?_
  refine ezw_aload_n rfl rfl ?_
  refine ezs_get_i hI rfl rfl rfl rfl rfl rfl (fun u1 hu1 ku1 => ?_)
  refine ezw_call2_1 rfl (by omega) rfl rfl (ezs_m132 hI (by omega) hu1) ?_
  rintro _ _ ⟨rfl, u2, hu2, rfl⟩
  exact ezw_ireturn rfl rfl ⟨rfl, _, hu2, rfl⟩
theorem ezs_m27_24 {a1 : Int} {F : Nat → Nat → Int} {A : Nat → Int → Int} (hI : ezs_I fz F0 A0 F A) (hd : 0 ≤ d) (ha1 : ezw_in a1) : ezw_C l ρ B xa Hb D cA 27 d [ezw_p 24, ezw_i a1] (ezu_g e F A) (ezs_Pp e F A ezs_ri) := by
  refine ezw_met (k := 0) rfl rfl ?_
  refine ezw_aload_n rfl rfl ?_
  refine ezw_ifnull rfl ?_
  refine ezw_iload_n rfl rfl ?_
  refine ezw_if_lt rfl rfl ha1 (fun h5_0 => ?_) (fun h5_0 => ?_)
  · refine ezw_iconst (0) rfl rfl ?_
    exact ezw_ireturn rfl rfl ⟨rfl, _, ⟨by decide, by decide⟩, rfl⟩
  · refine ezw_iload_n rfl rfl ?_
    refine ezw_aload_n rfl rfl ?_
    refine ezs_alen (k := 5760) rfl rfl rfl rfl (by decide) (by decide) ?_
    refine ezw_icmp_ge rfl rfl ha1 ⟨by decide, by decide⟩ (fun h11_0 => ?_) (fun h11_0 => ?_)
    · refine ezw_iconst (0) rfl rfl ?_
      exact ezw_ireturn rfl rfl ⟨rfl, _, ⟨by decide, by decide⟩, rfl⟩
    · refine ezw_aload_n rfl rfl ?_
      refine ezw_iload_n rfl rfl ?_
      refine ezs_iaload hI rfl rfl rfl (by omega) (by omega) (by decide) (fun u1 hu1 ku1 => ?_)
      refine ezw_goto rfl rfl ?_
      exact ezw_ireturn rfl rfl ⟨rfl, _, hu1, rfl⟩
theorem ezs_m21_24 {a1 a2 : Int} {F : Nat → Nat → Int} {A : Nat → Int → Int} (hI : ezs_I fz F0 A0 F A) (hd : 0 ≤ d) (hzA : ∀ q, 24 ≤ q → q < 25 → fz q = false) (ha1 : ezw_in a1) (ha2 : ezw_in a2) : ezw_C l ρ B xa Hb D cA 21 d [ezw_p 24, ezw_i a1, ezw_i a2] (ezu_g e F A) (ezs_P e fz F0 A0 ezs_rn) := by
  refine ezw_met (k := 0) rfl rfl ?_
  refine ezw_aload_n rfl rfl ?_
  refine ezw_ifnull rfl ?_
  refine ezw_iload_n rfl rfl ?_
  refine ezw_if_lt rfl rfl ha1 (fun h5_0 => ?_) (fun h5_0 => ?_)
  · exact ezw_return rfl rfl ⟨⟨F, A, rfl, hI⟩, rfl⟩
  · refine ezw_iload_n rfl rfl ?_
    refine ezw_aload_n rfl rfl ?_
    refine ezs_alen (k := 5760) rfl rfl rfl rfl (by decide) (by decide) ?_
    refine ezw_icmp_ge rfl rfl ha1 ⟨by decide, by decide⟩ (fun h11_0 => ?_) (fun h11_0 => ?_)
    · exact ezw_return rfl rfl ⟨⟨F, A, rfl, hI⟩, rfl⟩
    · refine ezw_aload_n rfl rfl ?_
      refine ezw_iload_n rfl rfl ?_
      refine ezw_iload_n rfl rfl ?_
      refine ezs_iastore hI rfl rfl rfl (by omega) (by omega) (by decide) (hzA 24 (by decide) (by decide)) ha2 (fun F A hI => ?_)
      exact ezw_return rfl rfl ⟨⟨F, A, rfl, hI⟩, rfl⟩
theorem ezs_m149_23_30_l0 {a2 a3 a4 a5 : Int} {F : Nat → Nat → Int} {A : Nat → Int → Int} (hI : ezs_I fz F0 A0 F A) (hd : 2 ≤ d) (ha2 : ezw_in a2) (ga2 : a2 ≤ 0) (ha3 : ezw_in a3) (ha4 : ezw_in a4) (ha5 : ezw_in a5) : ezw_C l ρ B xa Hb D cA 149 d [ezw_p 23, ezw_p 30, ezw_i a2, ezw_i a3, ezw_i a4, ezw_i a5] (ezu_g e F A) (ezs_P e fz F0 A0 ezs_ri) := by
  refine ezw_met (k := 5) rfl rfl ?_
  refine ezw_sipush (1000) rfl rfl ?_
  refine ezw_aload_n rfl rfl ?_
  refine ezw_iload rfl rfl ?_
  refine ezw_call0_1 rfl (by omega) (ezu_at rfl) rfl rfl rfl rfl (ezs_m144_30 hI (by omega) ha5) ?_
  rintro _ _ ⟨rfl, u1, hu1, rfl⟩
  refine ezw_iload_n rfl rfl ?_
  have J21_2 : ∀ y2 : Int, ezw_in y2 → ∀ F A, ezs_I fz F0 A0 F A → ezw_E l ρ B xa Hb D cA d ezq_re149 (ezs_P e fz F0 A0 ezs_ri) 21 [some (ezw_p 23), some (ezw_p 30), some (ezw_i a2), some (ezw_i a3), some (ezw_i a4), some (ezw_i a5), none, none, none, none, none] [(ezw_i y2), (ezw_i u1), (ezw_i (1000))] (ezu_g e F A) := by
    intro y2 hy2 F A hI
    refine ezs_iadd rfl (fun u4 hu4 => ?_)
    refine ezs_imul rfl (fun u5 hu5 => ?_)
    refine ezw_istore rfl rfl ?_
    refine ezw_iconst (0) rfl rfl ?_
    refine ezw_istore rfl rfl ?_
    refine ezw_iload_n rfl rfl ?_
    refine ezw_if_le rfl rfl ha2 (fun h29_5 => ?_) (fun h29_5 => absurd h29_5 (by omega))
    refine ezw_iload rfl rfl ?_
    refine ezw_bipush (16) rfl rfl ?_
    refine ezs_imul rfl (fun u6 hu6 => ?_)
    refine ezw_iload rfl rfl ?_
    refine ezs_iadd rfl (fun u7 hu7 => ?_)
    exact ezw_ireturn rfl rfl ⟨⟨F, A, rfl, hI⟩, _, hu7, rfl⟩
  refine ezw_if_le rfl rfl ha3 (fun h10_1 => ?_) (fun h10_1 => ?_)
  · refine ezw_aload_n rfl rfl ?_
    refine ezs_get_i hI rfl rfl rfl rfl rfl rfl (fun u8 hu8 ku8 => ?_)
    exact ezw_keepE [true, true, true, true, true, true, false, false, false, false, false] (J21_2 u8 hu8 F A hI)
  · refine ezw_iconst (0) rfl rfl ?_
    refine ezw_goto rfl rfl ?_
    exact ezw_keepE [true, true, true, true, true, true, false, false, false, false, false] (J21_2 (0) ⟨by decide, by decide⟩ F A hI)
theorem ezs_m152 {a0 : Int} {F : Nat → Nat → Int} {A : Nat → Int → Int} (hI : ezs_I fz F0 A0 F A) (hd : 0 ≤ d) (ha0 : ezw_in a0) : ezw_C l ρ B xa Hb D cA 152 d [ezw_i a0] (ezu_g e F A) (ezs_Pp e F A ezs_ri) := by
  refine ezw_met (k := 0) rfl rfl ?_
  refine ezw_iload_n rfl rfl ?_
  refine ezw_bipush (16) rfl rfl ?_
  refine ezs_idiv rfl ha0 ⟨by decide, by decide⟩ (by omega) (fun u1 hu1 => ?_)
  exact ezw_ireturn rfl rfl ⟨rfl, _, hu1, rfl⟩
theorem ezs_m154_23_30_l1 {a2 a3 a4 a5 a6 : Int} {F : Nat → Nat → Int} {A : Nat → Int → Int} (hI : ezs_I fz F0 A0 F A) (hd : 3 ≤ d) (ha2 : ezw_in a2) (ha3 : ezw_in a3) (ga3 : a3 ≤ 0) (ha4 : ezw_in a4) (ha5 : ezw_in a5) (ha6 : ezw_in a6) : ezw_C l ρ B xa Hb D cA 154 d [ezw_p 23, ezw_p 30, ezw_i a2, ezw_i a3, ezw_i a4, ezw_i a5, ezw_i a6] (ezu_g e F A) (ezs_P e fz F0 A0 ezs_ri) := by
  refine ezw_met (k := 3) rfl rfl ?_
  refine ezw_iload rfl rfl ?_
  refine ezw_iload_n rfl rfl ?_
  refine ezw_call3_2 rfl (by omega) rfl rfl (ezs_m49 hI (by omega) ha6 ha2) ?_
  rintro _ _ ⟨rfl, u1, hu1, rfl⟩
  refine ezw_if_ne rfl rfl hu1 (fun h6_1 => ?_) (fun h6_1 => ?_)
  · refine ezw_aload_n rfl rfl ?_
    refine ezs_getp (p := 36) rfl rfl rfl rfl rfl ?_
    refine ezw_iload_n rfl rfl ?_
    refine ezw_call3_2 rfl (by omega) rfl rfl (ezs_m27_36 hI (by omega) ha2) ?_
    rintro _ _ ⟨rfl, u2, hu2, rfl⟩
    refine ezw_istore rfl rfl ?_
    refine ezw_aload_n rfl rfl ?_
    refine ezs_getp (p := 37) rfl rfl rfl rfl rfl ?_
    refine ezw_iload_n rfl rfl ?_
    refine ezw_call3_2 rfl (by omega) rfl rfl (ezs_m27_37 hI (by omega) ha2) ?_
    rintro _ _ ⟨rfl, u3, hu3, rfl⟩
    refine ezw_istore rfl rfl ?_
    refine ezw_iconst (0) rfl rfl ?_
    refine ezw_istore rfl rfl ?_
    refine ezw_iload rfl rfl ?_
    have J68_4 : ∀ y4 : Int, ezw_in y4 → ∀ F A, ezs_I fz F0 A0 F A → ezw_E l ρ B xa Hb D cA d ezq_re154 (ezs_P e fz F0 A0 ezs_ri) 68 [some (ezw_p 23), some (ezw_p 30), some (ezw_i a2), some (ezw_i a3), some (ezw_i a4), some (ezw_i a5), some (ezw_i a6), some (ezw_i u2), some (ezw_i u3), some (ezw_i y4)] [] (ezu_g e F A) := by
      intro y4 hy4 F A hI
      refine ezw_iload rfl rfl ?_
      have J97_6 : ∀ y6 : Int, ezw_in y6 → ∀ F A, ezs_I fz F0 A0 F A → ezw_E l ρ B xa Hb D cA d ezq_re154 (ezs_P e fz F0 A0 ezs_ri) 97 [some (ezw_p 23), some (ezw_p 30), some (ezw_i a2), some (ezw_i a3), some (ezw_i a4), some (ezw_i a5), some (ezw_i a6), some (ezw_i u2), some (ezw_i u3), some (ezw_i y6)] [] (ezu_g e F A) := by
        intro y6 hy6 F A hI
        refine ezw_iload rfl rfl ?_
        refine ezw_iload rfl rfl ?_
        refine ezs_iadd rfl (fun u8 hu8 => ?_)
        refine ezw_bipush (10) rfl rfl ?_
        refine ezw_icmp_ge rfl rfl hu8 ⟨by decide, by decide⟩ (fun h104_8 => ?_) (fun h104_8 => ?_)
        · refine ezw_iload rfl rfl ?_
          refine ezw_bipush (10) rfl rfl ?_
          refine ezs_idiv rfl hy6 ⟨by decide, by decide⟩ (by omega) (fun u9 hu9 => ?_)
          exact ezw_ireturn rfl rfl ⟨⟨F, A, rfl, hI⟩, _, hu9, rfl⟩
        · refine ezw_iload rfl rfl ?_
          refine ezw_bipush (10) rfl rfl ?_
          refine ezw_iload rfl rfl ?_
          refine ezs_isub rfl (fun u10 hu10 => ?_)
          refine ezw_iload rfl rfl ?_
          refine ezs_isub rfl (fun u11 hu11 => ?_)
          refine ezw_aload_n rfl rfl ?_
          refine ezw_aload_n rfl rfl ?_
          refine ezw_iload_n rfl rfl ?_
          refine ezw_iload rfl rfl ?_
          refine ezw_iload rfl rfl ?_
          refine ezw_iload rfl rfl ?_
          refine ezw_call0_5 rfl (by omega) (ezu_at rfl) rfl rfl rfl rfl (ezs_m149_23_30_l0 hI (by omega) ha3 (by omega) ha4 ha5 ha6) ?_
          rintro _ _ ⟨⟨F, A, rfl, hI⟩, u12, hu12, rfl⟩
          refine ezw_call2_1 rfl (by omega) rfl rfl (ezs_m152 hI (by omega) hu12) ?_
          rintro _ _ ⟨rfl, u13, hu13, rfl⟩
          refine ezs_imul rfl (fun u14 hu14 => ?_)
          refine ezs_iadd rfl (fun u15 hu15 => ?_)
          refine ezw_istore rfl rfl ?_
          refine ezw_iload rfl rfl ?_
          refine ezw_bipush (10) rfl rfl ?_
          refine ezs_idiv rfl hu15 ⟨by decide, by decide⟩ (by omega) (fun u16 hu16 => ?_)
          exact ezw_ireturn rfl rfl ⟨⟨F, A, rfl, hI⟩, _, hu16, rfl⟩
      refine ezw_if_le rfl rfl hu3 (fun h70_5 => ?_) (fun h70_5 => ?_)
      · exact ezw_keepE [true, true, true, true, true, true, true, true, true, true] (J97_6 y4 hy4 F A hI)
      · refine ezw_iload rfl rfl ?_
        refine ezw_iload rfl rfl ?_
        refine ezw_aload_n rfl rfl ?_
        refine ezw_aload_n rfl rfl ?_
        refine ezw_iload_n rfl rfl ?_
        refine ezw_iload rfl rfl ?_
        refine ezw_iconst (1) rfl rfl ?_
        refine ezs_isub rfl (fun u17 hu17 => ?_)
        refine ezw_iconst (0) rfl rfl ?_
        refine ezw_iload rfl rfl ?_
        refine ezw_call0_5 rfl (by omega) (ezu_at rfl) rfl rfl rfl rfl (ezs_m149_23_30_l0 hI (by omega) ha3 (by omega) hu17 ⟨by decide, by decide⟩ ha6) ?_
        rintro _ _ ⟨⟨F, A, rfl, hI⟩, u18, hu18, rfl⟩
        refine ezw_call2_1 rfl (by omega) rfl rfl (ezs_m152 hI (by omega) hu18) ?_
        rintro _ _ ⟨rfl, u19, hu19, rfl⟩
        refine ezs_imul rfl (fun u20 hu20 => ?_)
        refine ezs_iadd rfl (fun u21 hu21 => ?_)
        refine ezw_istore rfl rfl ?_
        exact ezw_keepE [true, true, true, true, true, true, true, true, true, true] (J97_6 u21 hu21 F A hI)
    refine ezw_if_le rfl rfl hu2 (fun h36_3 => ?_) (fun h36_3 => ?_)
    · exact ezw_keepE [true, true, true, true, true, true, true, true, true, true] (J68_4 (0) ⟨by decide, by decide⟩ F A hI)
    · refine ezw_iload rfl rfl ?_
      refine ezw_iload rfl rfl ?_
      refine ezw_aload_n rfl rfl ?_
      refine ezw_aload_n rfl rfl ?_
      refine ezw_iload_n rfl rfl ?_
      refine ezw_iload rfl rfl ?_
      refine ezw_iload rfl rfl ?_
      refine ezw_iload rfl rfl ?_
      refine ezw_iconst (1) rfl rfl ?_
      refine ezw_iload_n rfl rfl ?_
      refine ezw_ishlO rfl (fun u22 hu22 => ?_)
      refine ezw_iconst (-1) rfl rfl ?_
      refine ezs_ixor rfl (fun u23 hu23 => ?_)
      refine ezs_iand rfl (fun u24 hu24 => ?_)
      refine ezw_call0_5 rfl (by omega) (ezu_at rfl) rfl rfl rfl rfl (ezs_m149_23_30_l0 hI (by omega) ha3 (by omega) ha4 ha5 hu24) ?_
      rintro _ _ ⟨⟨F, A, rfl, hI⟩, u25, hu25, rfl⟩
      refine ezw_call2_1 rfl (by omega) rfl rfl (ezs_m152 hI (by omega) hu25) ?_
      rintro _ _ ⟨rfl, u26, hu26, rfl⟩
      refine ezs_imul rfl (fun u27 hu27 => ?_)
      refine ezs_iadd rfl (fun u28 hu28 => ?_)
      refine ezw_istore rfl rfl ?_
      exact ezw_keepE [true, true, true, true, true, true, true, true, true, true] (J68_4 u28 hu28 F A hI)
  · refine ezw_iconst (-1) rfl rfl ?_
    exact ezw_ireturn rfl rfl ⟨⟨F, A, rfl, hI⟩, _, ⟨by decide, by decide⟩, rfl⟩
theorem ezs_m27_25 {a1 : Int} {F : Nat → Nat → Int} {A : Nat → Int → Int} (hI : ezs_I fz F0 A0 F A) (hd : 0 ≤ d) (ha1 : ezw_in a1) : ezw_C l ρ B xa Hb D cA 27 d [ezw_p 25, ezw_i a1] (ezu_g e F A) (ezs_Pp e F A ezs_ri) := by
  refine ezw_met (k := 0) rfl rfl ?_
  refine ezw_aload_n rfl rfl ?_
  refine ezw_ifnull rfl ?_
  refine ezw_iload_n rfl rfl ?_
  refine ezw_if_lt rfl rfl ha1 (fun h5_0 => ?_) (fun h5_0 => ?_)
  · refine ezw_iconst (0) rfl rfl ?_
    exact ezw_ireturn rfl rfl ⟨rfl, _, ⟨by decide, by decide⟩, rfl⟩
  · refine ezw_iload_n rfl rfl ?_
    refine ezw_aload_n rfl rfl ?_
    refine ezs_alen (k := 6) rfl rfl rfl rfl (by decide) (by decide) ?_
    refine ezw_icmp_ge rfl rfl ha1 ⟨by decide, by decide⟩ (fun h11_0 => ?_) (fun h11_0 => ?_)
    · refine ezw_iconst (0) rfl rfl ?_
      exact ezw_ireturn rfl rfl ⟨rfl, _, ⟨by decide, by decide⟩, rfl⟩
    · refine ezw_aload_n rfl rfl ?_
      refine ezw_iload_n rfl rfl ?_
      refine ezs_iaload hI rfl rfl rfl (by omega) (by omega) (by decide) (fun u1 hu1 ku1 => ?_)
      refine ezw_goto rfl rfl ?_
      exact ezw_ireturn rfl rfl ⟨rfl, _, hu1, rfl⟩
theorem ezs_m153_23_30_l1 {a2 a3 a4 a5 : Int} {F : Nat → Nat → Int} {A : Nat → Int → Int} (hI : ezs_I fz F0 A0 F A) (hd : 3 ≤ d) (ha2 : ezw_in a2) (ga2 : a2 ≤ 0) (ha3 : ezw_in a3) (ha4 : ezw_in a4) (ha5 : ezw_in a5) : ezw_C l ρ B xa Hb D cA 153 d [ezw_p 23, ezw_p 30, ezw_i a2, ezw_i a3, ezw_i a4, ezw_i a5] (ezu_g e F A) (ezs_P e fz F0 A0 ezs_ri) := by
  refine ezw_met (k := 2) rfl rfl ?_
  refine ezw_aload_n rfl rfl ?_
  refine ezw_iconst (5) rfl rfl ?_
  refine ezw_call0_1 rfl (by omega) (ezu_at rfl) rfl rfl rfl rfl (ezs_m95_30 hI (by omega) ⟨by decide, by decide⟩) ?_
  rintro _ _ ⟨rfl, u1, hu1, rfl⟩
  refine ezw_istore rfl rfl ?_
  refine ezw_iload rfl rfl ?_
  refine ezw_if_gt rfl rfl ha4 (fun h9_1 => ?_) (fun h9_1 => ?_)
  · refine ezw_iconst (-1) rfl rfl ?_
    exact ezw_ireturn rfl rfl ⟨⟨F, A, rfl, hI⟩, _, ⟨by decide, by decide⟩, rfl⟩
  · refine ezw_iload rfl rfl ?_
    refine ezw_if_le rfl rfl ⟨by omega, by omega⟩ (fun h14_1 => ?_) (fun h14_1 => ?_)
    · refine ezw_iconst (-1) rfl rfl ?_
      exact ezw_ireturn rfl rfl ⟨⟨F, A, rfl, hI⟩, _, ⟨by decide, by decide⟩, rfl⟩
    · refine ezw_aload_n rfl rfl ?_
      refine ezs_get_i hI rfl rfl rfl rfl rfl rfl (fun u2 hu2 ku2 => ?_)
      refine ezw_aload_n rfl rfl ?_
      refine ezs_getp (p := 33) rfl rfl rfl rfl rfl ?_
      refine ezw_aload_n rfl rfl ?_
      refine ezs_getp (p := 25) rfl rfl rfl rfl rfl ?_
      refine ezw_iload_n rfl rfl ?_
      refine ezw_iconst (1) rfl rfl ?_
      refine ezs_isub rfl (fun u3 hu3 => ?_)
      refine ezw_call3_2 rfl (by omega) rfl rfl (ezs_m27_25 hI (by omega) hu3) ?_
      rintro _ _ ⟨rfl, u4, hu4, rfl⟩
      refine ezw_call3_2 rfl (by omega) rfl rfl (ezs_m27_33 hI (by omega) hu4) ?_
      rintro _ _ ⟨rfl, u5, hu5, rfl⟩
      refine ezw_icmp_eq rfl rfl hu2 hu5 (fun h38_5 => ?_) (fun h38_5 => ?_)
      · refine ezw_iload rfl rfl ?_
        refine ezw_aload_n rfl rfl ?_
        refine ezw_aload_n rfl rfl ?_
        refine ezw_iload_n rfl rfl ?_
        refine ezw_iload_n rfl rfl ?_
        refine ezw_iconst (1) rfl rfl ?_
        refine ezs_isub rfl (fun u6 hu6 => ?_)
        refine ezw_iconst (0) rfl rfl ?_
        refine ezw_iload rfl rfl ?_
        refine ezw_call0_5 rfl (by omega) (ezu_at rfl) rfl rfl rfl rfl (ezs_m149_23_30_l0 hI (by omega) ha2 (by omega) hu6 ⟨by decide, by decide⟩ ha5) ?_
        rintro _ _ ⟨⟨F, A, rfl, hI⟩, u7, hu7, rfl⟩
        refine ezw_call2_1 rfl (by omega) rfl rfl (ezs_m152 hI (by omega) hu7) ?_
        rintro _ _ ⟨rfl, u8, hu8, rfl⟩
        refine ezs_imul rfl (fun u9 hu9 => ?_)
        refine ezw_istore rfl rfl ?_
        refine ezw_iload rfl rfl ?_
        refine ezw_bipush (10) rfl rfl ?_
        refine ezw_icmp_ge rfl rfl ⟨by omega, by omega⟩ ⟨by decide, by decide⟩ (fun h67_9 => ?_) (fun h67_9 => ?_)
        · refine ezw_iload rfl rfl ?_
          refine ezw_bipush (10) rfl rfl ?_
          refine ezs_idiv rfl hu9 ⟨by decide, by decide⟩ (by omega) (fun u10 hu10 => ?_)
          exact ezw_ireturn rfl rfl ⟨⟨F, A, rfl, hI⟩, _, hu10, rfl⟩
        · refine ezw_iload rfl rfl ?_
          refine ezw_bipush (10) rfl rfl ?_
          refine ezw_iload rfl rfl ?_
          refine ezs_isub rfl (fun u11 hu11 => ?_)
          refine ezw_aload_n rfl rfl ?_
          refine ezw_aload_n rfl rfl ?_
          refine ezw_iload_n rfl rfl ?_
          refine ezw_iload_n rfl rfl ?_
          refine ezw_iload rfl rfl ?_
          refine ezw_iload rfl rfl ?_
          refine ezw_call0_5 rfl (by omega) (ezu_at rfl) rfl rfl rfl rfl (ezs_m149_23_30_l0 hI (by omega) ha2 (by omega) ha3 ha4 ha5) ?_
          rintro _ _ ⟨⟨F, A, rfl, hI⟩, u12, hu12, rfl⟩
          refine ezw_call2_1 rfl (by omega) rfl rfl (ezs_m152 hI (by omega) hu12) ?_
          rintro _ _ ⟨rfl, u13, hu13, rfl⟩
          refine ezs_imul rfl (fun u14 hu14 => ?_)
          refine ezs_iadd rfl (fun u15 hu15 => ?_)
          refine ezw_istore rfl rfl ?_
          refine ezw_iload rfl rfl ?_
          refine ezw_bipush (10) rfl rfl ?_
          refine ezs_idiv rfl hu15 ⟨by decide, by decide⟩ (by omega) (fun u16 hu16 => ?_)
          exact ezw_ireturn rfl rfl ⟨⟨F, A, rfl, hI⟩, _, hu16, rfl⟩
      · refine ezw_iconst (-1) rfl rfl ?_
        exact ezw_ireturn rfl rfl ⟨⟨F, A, rfl, hI⟩, _, ⟨by decide, by decide⟩, rfl⟩
theorem ezs_m151_23_30_l1 {a2 a3 a4 a5 a6 : Int} {F : Nat → Nat → Int} {A : Nat → Int → Int} (hI : ezs_I fz F0 A0 F A) (hd : 3 ≤ d) (ha2 : ezw_in a2) (ha3 : ezw_in a3) (ga3 : a3 ≤ 0) (ha4 : ezw_in a4) (ha5 : ezw_in a5) (ha6 : ezw_in a6) : ezw_C l ρ B xa Hb D cA 151 d [ezw_p 23, ezw_p 30, ezw_i a2, ezw_i a3, ezw_i a4, ezw_i a5, ezw_i a6] (ezu_g e F A) (ezs_P e fz F0 A0 ezs_ri) := by
  refine ezw_met (k := 7) rfl rfl ?_
  refine ezw_iload_n rfl rfl ?_
  refine ezw_iconst (1) rfl rfl ?_
  refine ezs_isub rfl (fun u1 hu1 => ?_)
  refine ezw_iconst (4) rfl rfl ?_
  refine ezs_irem rfl hu1 ⟨by decide, by decide⟩ (by omega) (fun u2 hu2 => ?_)
  refine ezw_istore rfl rfl ?_
  refine ezw_iload_n rfl rfl ?_
  refine ezw_iconst (5) rfl rfl ?_
  have J17_3 : ∀ y3 : Int, ezs_b y3 → ∀ F A, ezs_I fz F0 A0 F A → ezw_E l ρ B xa Hb D cA d ezq_re151 (ezs_P e fz F0 A0 ezs_ri) 17 [some (ezw_p 23), some (ezw_p 30), some (ezw_i a2), some (ezw_i a3), some (ezw_i a4), some (ezw_i a5), some (ezw_i a6), some (ezw_i u2), none, none, none, none, none, none] [(ezw_i y3)] (ezu_g e F A) := by
    intro y3 hy3 F A hI
    refine ezw_istore rfl rfl ?_
    refine ezw_aload_n rfl rfl ?_
    refine ezs_getp (p := 25) rfl rfl rfl rfl rfl ?_
    refine ezw_iload rfl rfl ?_
    refine ezw_iconst (1) rfl rfl ?_
    refine ezs_isub rfl (fun u5 hu5 => ?_)
    refine ezw_call3_2 rfl (by omega) rfl rfl (ezs_m27_25 hI (by omega) hu5) ?_
    rintro _ _ ⟨rfl, u6, hu6, rfl⟩
    refine ezw_istore rfl rfl ?_
    refine ezw_aload_n rfl rfl ?_
    refine ezw_iload rfl rfl ?_
    refine ezw_iload rfl rfl ?_
    refine ezw_iload rfl rfl ?_
    refine ezw_iload rfl rfl ?_
    refine ezw_call0_4 rfl (by omega) (ezu_at rfl) rfl rfl rfl rfl (ezs_m113_30 hI (by omega) hu6 ha5 hu2 ⟨by omega, by omega⟩) ?_
    rintro _ _ ⟨rfl, u7, hu7, rfl⟩
    refine ezw_istore rfl rfl ?_
    refine ezw_aload_n rfl rfl ?_
    refine ezw_iload rfl rfl ?_
    refine ezw_iload rfl rfl ?_
    refine ezw_iload rfl rfl ?_
    refine ezw_iload rfl rfl ?_
    refine ezw_call0_4 rfl (by omega) (ezu_at rfl) rfl rfl rfl rfl (ezs_m116_30 hI (by omega) hu6 ha5 hu2 ⟨by omega, by omega⟩) ?_
    rintro _ _ ⟨rfl, u8, hu8, rfl⟩
    refine ezw_istore rfl rfl ?_
    refine ezw_iconst (0) rfl rfl ?_
    refine ezw_istore rfl rfl ?_
    refine ezw_iload rfl rfl ?_
    have J95_9 : ∀ y9 : Int, ezw_in y9 → ∀ F A, ezs_I fz F0 A0 F A → ezw_E l ρ B xa Hb D cA d ezq_re151 (ezs_P e fz F0 A0 ezs_ri) 95 [some (ezw_p 23), some (ezw_p 30), some (ezw_i a2), some (ezw_i a3), some (ezw_i a4), some (ezw_i a5), some (ezw_i a6), some (ezw_i u2), some (ezw_i y3), some (ezw_i u6), some (ezw_i u7), some (ezw_i u8), some (ezw_i y9), none] [] (ezu_g e F A) := by
      intro y9 hy9 F A hI
      refine ezw_iload rfl rfl ?_
      refine ezw_bipush (10) rfl rfl ?_
      have J131_11 : ∀ y11 : Int, ezw_in y11 → ∀ F A, ezs_I fz F0 A0 F A → ezw_E l ρ B xa Hb D cA d ezq_re151 (ezs_P e fz F0 A0 ezs_ri) 131 [some (ezw_p 23), some (ezw_p 30), some (ezw_i a2), some (ezw_i a3), some (ezw_i a4), some (ezw_i a5), some (ezw_i a6), some (ezw_i u2), some (ezw_i y3), some (ezw_i u6), some (ezw_i u7), some (ezw_i u8), some (ezw_i y11), none] [] (ezu_g e F A) := by
        intro y11 hy11 F A hI
        refine ezw_iload rfl rfl ?_
        refine ezw_bipush (10) rfl rfl ?_
        refine ezw_icmp_ge rfl rfl hu7 ⟨by decide, by decide⟩ (fun h135_12 => ?_) (fun h135_12 => ?_)
        · refine ezw_iload rfl rfl ?_
          refine ezw_bipush (100) rfl rfl ?_
          refine ezs_idiv rfl hy11 ⟨by decide, by decide⟩ (by omega) (fun u13 hu13 => ?_)
          exact ezw_ireturn rfl rfl ⟨⟨F, A, rfl, hI⟩, _, hu13, rfl⟩
        · refine ezw_iload rfl rfl ?_
          refine ezw_bipush (10) rfl rfl ?_
          refine ezw_icmp_ge rfl rfl hu8 ⟨by decide, by decide⟩ (fun h142_13 => ?_) (fun h142_13 => ?_)
          · refine ezw_iload rfl rfl ?_
            refine ezw_bipush (100) rfl rfl ?_
            refine ezs_idiv rfl hy11 ⟨by decide, by decide⟩ (by omega) (fun u14 hu14 => ?_)
            exact ezw_ireturn rfl rfl ⟨⟨F, A, rfl, hI⟩, _, hu14, rfl⟩
          · refine ezw_bipush (9) rfl rfl ?_
            refine ezw_iload rfl rfl ?_
            refine ezw_iload rfl rfl ?_
            have J159_15 : ∀ y15 : Int, ezw_in y15 → ∀ F A, ezs_I fz F0 A0 F A → ezw_E l ρ B xa Hb D cA d ezq_re151 (ezs_P e fz F0 A0 ezs_ri) 159 [some (ezw_p 23), some (ezw_p 30), some (ezw_i a2), some (ezw_i a3), some (ezw_i a4), some (ezw_i a5), some (ezw_i a6), some (ezw_i u2), some (ezw_i y3), some (ezw_i u6), some (ezw_i u7), some (ezw_i u8), some (ezw_i y11), none] [(ezw_i y15), (ezw_i a5), (ezw_i (9))] (ezu_g e F A) := by
              intro y15 hy15 F A hI
              refine ezs_iadd rfl (fun u17 hu17 => ?_)
              refine ezw_mminE rfl ⟨by decide, by decide⟩ hu17 rfl (fun u18 hu18 => ?_)
              refine ezw_istore rfl rfl ?_
              refine ezw_iload rfl rfl ?_
              refine ezw_bipush (10) rfl rfl ?_
              refine ezw_iload rfl rfl ?_
              refine ezs_isub rfl (fun u19 hu19 => ?_)
              refine ezw_bipush (10) rfl rfl ?_
              refine ezw_iload rfl rfl ?_
              refine ezs_isub rfl (fun u20 hu20 => ?_)
              refine ezs_imul rfl (fun u21 hu21 => ?_)
              refine ezw_aload_n rfl rfl ?_
              refine ezw_aload_n rfl rfl ?_
              refine ezw_iload_n rfl rfl ?_
              refine ezw_iload rfl rfl ?_
              refine ezw_iload rfl rfl ?_
              refine ezw_iload rfl rfl ?_
              refine ezw_call0_5 rfl (by omega) (ezu_at rfl) rfl rfl rfl rfl (ezs_m149_23_30_l0 hI (by omega) ha3 (by omega) ha4 ⟨by omega, by omega⟩ ha6) ?_
              rintro _ _ ⟨⟨F, A, rfl, hI⟩, u22, hu22, rfl⟩
              refine ezw_call2_1 rfl (by omega) rfl rfl (ezs_m152 hI (by omega) hu22) ?_
              rintro _ _ ⟨rfl, u23, hu23, rfl⟩
              refine ezs_imul rfl (fun u24 hu24 => ?_)
              refine ezs_iadd rfl (fun u25 hu25 => ?_)
              refine ezw_istore rfl rfl ?_
              refine ezw_iload rfl rfl ?_
              refine ezw_bipush (100) rfl rfl ?_
              refine ezs_idiv rfl hu25 ⟨by decide, by decide⟩ (by omega) (fun u26 hu26 => ?_)
              exact ezw_ireturn rfl rfl ⟨⟨F, A, rfl, hI⟩, _, hu26, rfl⟩
            refine ezw_if_eq rfl rfl ⟨by omega, by omega⟩ (fun h151_14 => ?_) (fun h151_14 => ?_)
            · refine ezw_iconst (1) rfl rfl ?_
              exact ezw_keepE [true, true, true, true, true, true, true, true, true, true, true, true, true, false] (J159_15 (1) ⟨by decide, by decide⟩ F A hI)
            · refine ezw_iconst (2) rfl rfl ?_
              refine ezw_goto rfl rfl ?_
              exact ezw_keepE [true, true, true, true, true, true, true, true, true, true, true, true, true, false] (J159_15 (2) ⟨by decide, by decide⟩ F A hI)
      refine ezw_icmp_ge rfl rfl hu7 ⟨by decide, by decide⟩ (fun h99_10 => ?_) (fun h99_10 => ?_)
      · exact ezw_keepE [true, true, true, true, true, true, true, true, true, true, true, true, true, false] (J131_11 y9 hy9 F A hI)
      · refine ezw_iload rfl rfl ?_
        refine ezw_if_le rfl rfl hu8 (fun h104_26 => ?_) (fun h104_26 => ?_)
        · exact ezw_keepE [true, true, true, true, true, true, true, true, true, true, true, true, true, false] (J131_11 y9 hy9 F A hI)
        · refine ezw_iload rfl rfl ?_
          refine ezw_bipush (10) rfl rfl ?_
          refine ezw_iload rfl rfl ?_
          refine ezs_isub rfl (fun u27 hu27 => ?_)
          refine ezw_iload rfl rfl ?_
          refine ezs_imul rfl (fun u28 hu28 => ?_)
          refine ezw_sipush (1000) rfl rfl ?_
          refine ezs_imul rfl (fun u29 hu29 => ?_)
          refine ezw_aload_n rfl rfl ?_
          refine ezw_iload rfl rfl ?_
          refine ezw_call0_1 rfl (by omega) (ezu_at rfl) rfl rfl rfl rfl (ezs_m144_30 hI (by omega) ha6) ?_
          rintro _ _ ⟨rfl, u30, hu30, rfl⟩
          refine ezs_imul rfl (fun u31 hu31 => ?_)
          refine ezs_iadd rfl (fun u32 hu32 => ?_)
          refine ezw_istore rfl rfl ?_
          exact ezw_keepE [true, true, true, true, true, true, true, true, true, true, true, true, true, false] (J131_11 u32 hu32 F A hI)
    refine ezw_if_le rfl rfl hu7 (fun h65_8 => ?_) (fun h65_8 => ?_)
    · exact ezw_keepE [true, true, true, true, true, true, true, true, true, true, true, true, true, false] (J95_9 (0) ⟨by decide, by decide⟩ F A hI)
    · refine ezw_iload rfl rfl ?_
      refine ezw_bipush (10) rfl rfl ?_
      refine ezw_iload rfl rfl ?_
      refine ezs_imul rfl (fun u33 hu33 => ?_)
      refine ezw_aload_n rfl rfl ?_
      refine ezw_aload_n rfl rfl ?_
      refine ezw_iload_n rfl rfl ?_
      refine ezw_iload rfl rfl ?_
      refine ezw_iconst (1) rfl rfl ?_
      refine ezs_isub rfl (fun u34 hu34 => ?_)
      refine ezw_iconst (0) rfl rfl ?_
      refine ezw_iload rfl rfl ?_
      refine ezw_call0_5 rfl (by omega) (ezu_at rfl) rfl rfl rfl rfl (ezs_m149_23_30_l0 hI (by omega) ha3 (by omega) hu34 ⟨by decide, by decide⟩ ha6) ?_
      rintro _ _ ⟨⟨F, A, rfl, hI⟩, u35, hu35, rfl⟩
      refine ezw_call2_1 rfl (by omega) rfl rfl (ezs_m152 hI (by omega) hu35) ?_
      rintro _ _ ⟨rfl, u36, hu36, rfl⟩
      refine ezs_imul rfl (fun u37 hu37 => ?_)
      refine ezs_iadd rfl (fun u38 hu38 => ?_)
      refine ezw_istore rfl rfl ?_
      exact ezw_keepE [true, true, true, true, true, true, true, true, true, true, true, true, true, false] (J95_9 u38 hu38 F A hI)
  refine ezw_icmp_lt rfl rfl ha2 ⟨by decide, by decide⟩ (fun h9_2 => ?_) (fun h9_2 => ?_)
  · refine ezw_iconst (0) rfl rfl ?_
    exact ezw_keepE [true, true, true, true, true, true, true, true, false, false, false, false, false, false] (J17_3 (0) ⟨by omega, by omega⟩ F A hI)
  · refine ezw_iconst (1) rfl rfl ?_
    refine ezw_goto rfl rfl ?_
    exact ezw_keepE [true, true, true, true, true, true, true, true, false, false, false, false, false, false] (J17_3 (1) ⟨by omega, by omega⟩ F A hI)
theorem ezs_m150_23_30_l1 {a2 a3 a4 a5 a6 : Int} {F : Nat → Nat → Int} {A : Nat → Int → Int} (hI : ezs_I fz F0 A0 F A) (hd : 4 ≤ d) (ha2 : ezw_in a2) (ha3 : ezw_in a3) (ga3 : a3 ≤ 0) (ha4 : ezw_in a4) (ha5 : ezw_in a5) (ha6 : ezw_in a6) : ezw_C l ρ B xa Hb D cA 150 d [ezw_p 23, ezw_p 30, ezw_i a2, ezw_i a3, ezw_i a4, ezw_i a5, ezw_i a6] (ezu_g e F A) (ezs_P e fz F0 A0 ezs_ri) := by
  refine ezw_met (k := 0) rfl rfl ?_
  refine ezw_iload_n rfl rfl ?_
  refine ezw_bipush (9) rfl rfl ?_
  refine ezw_icmp_ge rfl rfl ha2 ⟨by decide, by decide⟩ (fun h3_0 => ?_) (fun h3_0 => ?_)
  · refine ezw_iload_n rfl rfl ?_
    refine ezw_bipush (9) rfl rfl ?_
    refine ezw_icmp_ne rfl rfl ha2 ⟨by decide, by decide⟩ (fun h23_0 => ?_) (fun h23_0 => ?_)
    · refine ezw_iload_n rfl rfl ?_
      refine ezw_bipush (10) rfl rfl ?_
      refine ezw_icmp_ne rfl rfl ha2 ⟨by decide, by decide⟩ (fun h56_0 => ?_) (fun h56_0 => ?_)
      · refine ezw_aload_n rfl rfl ?_
        refine ezw_aload_n rfl rfl ?_
        refine ezw_iload_n rfl rfl ?_
        refine ezw_bipush (11) rfl rfl ?_
        refine ezs_isub rfl (fun u1 hu1 => ?_)
        refine ezw_iload_n rfl rfl ?_
        refine ezw_iload rfl rfl ?_
        refine ezw_iload rfl rfl ?_
        refine ezw_iload rfl rfl ?_
        refine ezw_call0_6 rfl (by omega) (ezu_at rfl) rfl rfl rfl rfl (ezs_m154_23_30_l1 hI (by omega) hu1 ha3 (by omega) ha4 ha5 ha6) ?_
        rintro _ _ ⟨⟨F, A, rfl, hI⟩, u2, hu2, rfl⟩
        exact ezw_ireturn rfl rfl ⟨⟨F, A, rfl, hI⟩, _, hu2, rfl⟩
      · refine ezw_aload_n rfl rfl ?_
        refine ezw_aload_n rfl rfl ?_
        refine ezw_iload_n rfl rfl ?_
        refine ezw_iload rfl rfl ?_
        refine ezw_iload rfl rfl ?_
        refine ezw_iload rfl rfl ?_
        refine ezw_call0_5 rfl (by omega) (ezu_at rfl) rfl rfl rfl rfl (ezs_m153_23_30_l1 hI (by omega) ha3 (by omega) ha4 ha5 ha6) ?_
        rintro _ _ ⟨⟨F, A, rfl, hI⟩, u3, hu3, rfl⟩
        exact ezw_ireturn rfl rfl ⟨⟨F, A, rfl, hI⟩, _, hu3, rfl⟩
    · refine ezw_iload rfl rfl ?_
      refine ezw_if_le rfl rfl ha5 (fun h28_3 => ?_) (fun h28_3 => ?_)
      · refine ezw_iconst (-1) rfl rfl ?_
        exact ezw_ireturn rfl rfl ⟨⟨F, A, rfl, hI⟩, _, ⟨by decide, by decide⟩, rfl⟩
      · refine ezw_aload_n rfl rfl ?_
        refine ezw_aload_n rfl rfl ?_
        refine ezw_iload_n rfl rfl ?_
        refine ezw_iload rfl rfl ?_
        refine ezw_iload rfl rfl ?_
        refine ezw_iconst (1) rfl rfl ?_
        refine ezs_isub rfl (fun u4 hu4 => ?_)
        refine ezw_iload rfl rfl ?_
        refine ezw_call0_5 rfl (by omega) (ezu_at rfl) rfl rfl rfl rfl (ezs_m149_23_30_l0 hI (by omega) ha3 (by omega) ha4 hu4 ha6) ?_
        rintro _ _ ⟨⟨F, A, rfl, hI⟩, u5, hu5, rfl⟩
        refine ezw_call2_1 rfl (by omega) rfl rfl (ezs_m152 hI (by omega) hu5) ?_
        rintro _ _ ⟨rfl, u6, hu6, rfl⟩
        refine ezw_goto rfl rfl ?_
        exact ezw_ireturn rfl rfl ⟨⟨F, A, rfl, hI⟩, _, hu6, rfl⟩
  · refine ezw_aload_n rfl rfl ?_
    refine ezw_aload_n rfl rfl ?_
    refine ezw_iload_n rfl rfl ?_
    refine ezw_iload_n rfl rfl ?_
    refine ezw_iload rfl rfl ?_
    refine ezw_iload rfl rfl ?_
    refine ezw_iload rfl rfl ?_
    refine ezw_call0_6 rfl (by omega) (ezu_at rfl) rfl rfl rfl rfl (ezs_m151_23_30_l1 hI (by omega) ha2 ha3 (by omega) ha4 ha5 ha6) ?_
    rintro _ _ ⟨⟨F, A, rfl, hI⟩, u7, hu7, rfl⟩
    exact ezw_ireturn rfl rfl ⟨⟨F, A, rfl, hI⟩, _, hu7, rfl⟩
theorem ezs_m149_23_30_l1 {a2 a3 a4 a5 : Int} {F : Nat → Nat → Int} {A : Nat → Int → Int} (hI : ezs_I fz F0 A0 F A) (hd : 5 ≤ d) (hzA : ∀ q, 24 ≤ q → q < 25 → fz q = false) (ha2 : ezw_in a2) (ga2 : a2 ≤ 1) (ha3 : ezw_in a3) (ha4 : ezw_in a4) (ha5 : ezw_in a5) : ezw_C l ρ B xa Hb D cA 149 d [ezw_p 23, ezw_p 30, ezw_i a2, ezw_i a3, ezw_i a4, ezw_i a5] (ezu_g e F A) (ezs_P e fz F0 A0 ezs_ri) := by
  refine ezw_met (k := 5) rfl rfl ?_
  refine ezw_sipush (1000) rfl rfl ?_
  refine ezw_aload_n rfl rfl ?_
  refine ezw_iload rfl rfl ?_
  refine ezw_call0_1 rfl (by omega) (ezu_at rfl) rfl rfl rfl rfl (ezs_m144_30 hI (by omega) ha5) ?_
  rintro _ _ ⟨rfl, u1, hu1, rfl⟩
  refine ezw_iload_n rfl rfl ?_
  have J21_2 : ∀ y2 : Int, ezw_in y2 → ∀ F A, ezs_I fz F0 A0 F A → ezw_E l ρ B xa Hb D cA d ezq_re149 (ezs_P e fz F0 A0 ezs_ri) 21 [some (ezw_p 23), some (ezw_p 30), some (ezw_i a2), some (ezw_i a3), some (ezw_i a4), some (ezw_i a5), none, none, none, none, none] [(ezw_i y2), (ezw_i u1), (ezw_i (1000))] (ezu_g e F A) := by
    intro y2 hy2 F A hI
    refine ezs_iadd rfl (fun u4 hu4 => ?_)
    refine ezs_imul rfl (fun u5 hu5 => ?_)
    refine ezw_istore rfl rfl ?_
    refine ezw_iconst (0) rfl rfl ?_
    refine ezw_istore rfl rfl ?_
    refine ezw_iload_n rfl rfl ?_
    refine ezw_if_le rfl rfl ha2 (fun h29_5 => ?_) (fun h29_5 => ?_)
    · refine ezw_iload rfl rfl ?_
      refine ezw_bipush (16) rfl rfl ?_
      refine ezs_imul rfl (fun u6 hu6 => ?_)
      refine ezw_iload rfl rfl ?_
      refine ezs_iadd rfl (fun u7 hu7 => ?_)
      exact ezw_ireturn rfl rfl ⟨⟨F, A, rfl, hI⟩, _, hu7, rfl⟩
    · refine ezw_iload_n rfl rfl ?_
      refine ezw_if_gt rfl rfl ha3 (fun h33_7 => ?_) (fun h33_7 => ?_)
      · refine ezw_iload_n rfl rfl ?_
        refine ezw_iconst (1) rfl rfl ?_
        refine ezs_isub rfl (fun u8 hu8 => ?_)
        refine ezw_bipush (6) rfl rfl ?_
        refine ezs_imul rfl (fun u9 hu9 => ?_)
        refine ezw_iload_n rfl rfl ?_
        refine ezs_iadd rfl (fun u10 hu10 => ?_)
        refine ezw_iconst (1) rfl rfl ?_
        refine ezs_isub rfl (fun u11 hu11 => ?_)
        refine ezw_bipush (10) rfl rfl ?_
        refine ezs_imul rfl (fun u12 hu12 => ?_)
        refine ezw_iload rfl rfl ?_
        refine ezs_iadd rfl (fun u13 hu13 => ?_)
        refine ezw_bipush (16) rfl rfl ?_
        refine ezs_imul rfl (fun u14 hu14 => ?_)
        refine ezw_iload rfl rfl ?_
        refine ezs_iadd rfl (fun u15 hu15 => ?_)
        refine ezw_istore rfl rfl ?_
        refine ezw_aload_n rfl rfl ?_
        refine ezs_getp (p := 24) rfl rfl rfl rfl rfl ?_
        refine ezw_iload rfl rfl ?_
        refine ezw_call3_2 rfl (by omega) rfl rfl (ezs_m27_24 hI (by omega) hu15) ?_
        rintro _ _ ⟨rfl, u16, hu16, rfl⟩
        refine ezw_iconst (-1) rfl rfl ?_
        refine ezw_icmp_eq rfl rfl hu16 ⟨by decide, by decide⟩ (fun h79_16 => ?_) (fun h79_16 => ?_)
        · refine ezw_iconst (1) rfl rfl ?_
          refine ezw_istore rfl rfl ?_
          have L95_19 : ∀ c19 : Int, ezw_in c19 → (1) ≤ c19 → ∀ y17 : Int, ezw_in y17 → ∀ y18 : Int, ezw_in y18 → ∀ F A, ezs_I fz F0 A0 F A → ezw_E l ρ B xa Hb D cA d ezq_re149 (ezs_P e fz F0 A0 ezs_ri) 95 [some (ezw_p 23), some (ezw_p 30), some (ezw_i a2), some (ezw_i a3), some (ezw_i a4), some (ezw_i a5), some (ezw_i y17), some (ezw_i y18), some (ezw_i u15), some (ezw_i c19), none] [] (ezu_g e F A) := by
            refine ezs_up ?_
            intro c19 hc19 ihc19 gc19 y17 hy17 y18 hy18 F A hI
            refine ezw_iload rfl rfl ?_
            refine ezw_bipush (15) rfl rfl ?_
            have J140_23 : ∀ y21 : Int, ezw_in y21 → ∀ y22 : Int, ezw_in y22 → ∀ y23 : Int, ezw_in y23 → ∀ F A, ezs_I fz F0 A0 F A → ezw_E l ρ B xa Hb D cA d ezq_re149 (ezs_P e fz F0 A0 ezs_ri) 140 [some (ezw_p 23), some (ezw_p 30), some (ezw_i a2), some (ezw_i a3), some (ezw_i a4), some (ezw_i a5), some (ezw_i y21), some (ezw_i y22), some (ezw_i u15), some (ezw_i y23), none] [] (ezu_g e F A) := by
              intro y21 hy21 y22 hy22 y23 hy23 F A hI
              refine ezw_aload_n rfl rfl ?_
              refine ezs_getp (p := 24) rfl rfl rfl rfl rfl ?_
              refine ezw_iload rfl rfl ?_
              refine ezw_iload rfl rfl ?_
              refine ezw_bipush (16) rfl rfl ?_
              refine ezs_imul rfl (fun u25 hu25 => ?_)
              refine ezw_iload rfl rfl ?_
              refine ezs_iadd rfl (fun u26 hu26 => ?_)
              refine ezw_call3_3 rfl (by omega) rfl rfl (ezs_m21_24 hI (by omega) (fun q h0 h1 => hzA q (by omega) (by omega)) hu15 hu26) ?_
              rintro _ _ ⟨⟨F, A, rfl, hI⟩, rfl⟩
              refine ezw_iload rfl rfl ?_
              refine ezw_bipush (16) rfl rfl ?_
              refine ezs_imul rfl (fun u27 hu27 => ?_)
              refine ezw_iload rfl rfl ?_
              refine ezs_iadd rfl (fun u28 hu28 => ?_)
              exact ezw_ireturn rfl rfl ⟨⟨F, A, rfl, hI⟩, _, hu28, rfl⟩
            refine ezw_icmp_ge rfl rfl hc19 ⟨by decide, by decide⟩ (fun h99_20 => ?_) (fun h99_20 => ?_)
            · exact ezw_keepE [true, true, true, true, true, true, true, true, true, true, false] (J140_23 y17 hy17 y18 hy18 c19 hc19 F A hI)
            · refine ezw_aload_n rfl rfl ?_
              refine ezw_aload_n rfl rfl ?_
              refine ezw_iload rfl rfl ?_
              refine ezw_iload_n rfl rfl ?_
              refine ezw_iconst (1) rfl rfl ?_
              refine ezw_isub rfl rfl ?_
              refine ezw_iload_n rfl rfl ?_
              refine ezw_iload rfl rfl ?_
              refine ezw_iload rfl rfl ?_
              refine ezw_call0_6 rfl (by omega) (ezu_at rfl) rfl rfl rfl rfl (ezs_m150_23_30_l1 hI (by omega) hc19 ⟨by omega, by omega⟩ (by omega) ha3 ha4 ha5) ?_
              rintro _ _ ⟨⟨F, A, rfl, hI⟩, u29, hu29, rfl⟩
              refine ezw_istore rfl rfl ?_
              refine ezw_iload rfl rfl ?_
              refine ezw_iload rfl rfl ?_
              refine ezw_icmp_le rfl rfl hu29 hy17 (fun h123_29 => ?_) (fun h123_29 => ?_)
              · refine ezw_iinc (1) rfl rfl rfl rfl rfl ?_
                refine ezw_goto rfl rfl ?_
                exact ezw_keepE [true, true, true, true, true, true, true, true, true, true, false] (ihc19 (c19 + (1)) (by omega) ⟨by omega, by omega⟩ (by omega) y17 hy17 y18 hy18 F A hI)
              · refine ezw_iload rfl rfl ?_
                refine ezw_istore rfl rfl ?_
                refine ezw_iload rfl rfl ?_
                refine ezw_istore rfl rfl ?_
                refine ezw_iinc (1) rfl rfl rfl rfl rfl ?_
                refine ezw_goto rfl rfl ?_
                exact ezw_keepE [true, true, true, true, true, true, true, true, true, true, false] (ihc19 (c19 + (1)) (by omega) ⟨by omega, by omega⟩ (by omega) u29 hu29 c19 hc19 F A hI)
          exact ezw_keepE [true, true, true, true, true, true, true, true, true, true, false] (L95_19 (1) ⟨by decide, by decide⟩ (by omega) u5 hu5 (0) ⟨by decide, by decide⟩ F A hI)
        · refine ezw_aload_n rfl rfl ?_
          refine ezs_getp (p := 24) rfl rfl rfl rfl rfl ?_
          refine ezw_iload rfl rfl ?_
          refine ezw_call3_2 rfl (by omega) rfl rfl (ezs_m27_24 hI (by omega) hu15) ?_
          rintro _ _ ⟨rfl, u30, hu30, rfl⟩
          exact ezw_ireturn rfl rfl ⟨⟨F, A, rfl, hI⟩, _, hu30, rfl⟩
      · refine ezw_iload rfl rfl ?_
        refine ezw_bipush (16) rfl rfl ?_
        refine ezs_imul rfl (fun u31 hu31 => ?_)
        refine ezw_iload rfl rfl ?_
        refine ezs_iadd rfl (fun u32 hu32 => ?_)
        exact ezw_ireturn rfl rfl ⟨⟨F, A, rfl, hI⟩, _, hu32, rfl⟩
  refine ezw_if_le rfl rfl ha3 (fun h10_1 => ?_) (fun h10_1 => ?_)
  · refine ezw_aload_n rfl rfl ?_
    refine ezs_get_i hI rfl rfl rfl rfl rfl rfl (fun u33 hu33 ku33 => ?_)
    exact ezw_keepE [true, true, true, true, true, true, false, false, false, false, false] (J21_2 u33 hu33 F A hI)
  · refine ezw_iconst (0) rfl rfl ?_
    refine ezw_goto rfl rfl ?_
    exact ezw_keepE [true, true, true, true, true, true, false, false, false, false, false] (J21_2 (0) ⟨by decide, by decide⟩ F A hI)
theorem ezs_m154_23_30_l2 {a2 a3 a4 a5 a6 : Int} {F : Nat → Nat → Int} {A : Nat → Int → Int} (hI : ezs_I fz F0 A0 F A) (hd : 6 ≤ d) (hzA : ∀ q, 24 ≤ q → q < 25 → fz q = false) (ha2 : ezw_in a2) (ha3 : ezw_in a3) (ga3 : a3 ≤ 1) (ha4 : ezw_in a4) (ha5 : ezw_in a5) (ha6 : ezw_in a6) : ezw_C l ρ B xa Hb D cA 154 d [ezw_p 23, ezw_p 30, ezw_i a2, ezw_i a3, ezw_i a4, ezw_i a5, ezw_i a6] (ezu_g e F A) (ezs_P e fz F0 A0 ezs_ri) := by
  refine ezw_met (k := 3) rfl rfl ?_
  refine ezw_iload rfl rfl ?_
  refine ezw_iload_n rfl rfl ?_
  refine ezw_call3_2 rfl (by omega) rfl rfl (ezs_m49 hI (by omega) ha6 ha2) ?_
  rintro _ _ ⟨rfl, u1, hu1, rfl⟩
  refine ezw_if_ne rfl rfl hu1 (fun h6_1 => ?_) (fun h6_1 => ?_)
  · refine ezw_aload_n rfl rfl ?_
    refine ezs_getp (p := 36) rfl rfl rfl rfl rfl ?_
    refine ezw_iload_n rfl rfl ?_
    refine ezw_call3_2 rfl (by omega) rfl rfl (ezs_m27_36 hI (by omega) ha2) ?_
    rintro _ _ ⟨rfl, u2, hu2, rfl⟩
    refine ezw_istore rfl rfl ?_
    refine ezw_aload_n rfl rfl ?_
    refine ezs_getp (p := 37) rfl rfl rfl rfl rfl ?_
    refine ezw_iload_n rfl rfl ?_
    refine ezw_call3_2 rfl (by omega) rfl rfl (ezs_m27_37 hI (by omega) ha2) ?_
    rintro _ _ ⟨rfl, u3, hu3, rfl⟩
    refine ezw_istore rfl rfl ?_
    refine ezw_iconst (0) rfl rfl ?_
    refine ezw_istore rfl rfl ?_
    refine ezw_iload rfl rfl ?_
    have J68_4 : ∀ y4 : Int, ezw_in y4 → ∀ F A, ezs_I fz F0 A0 F A → ezw_E l ρ B xa Hb D cA d ezq_re154 (ezs_P e fz F0 A0 ezs_ri) 68 [some (ezw_p 23), some (ezw_p 30), some (ezw_i a2), some (ezw_i a3), some (ezw_i a4), some (ezw_i a5), some (ezw_i a6), some (ezw_i u2), some (ezw_i u3), some (ezw_i y4)] [] (ezu_g e F A) := by
      intro y4 hy4 F A hI
      refine ezw_iload rfl rfl ?_
      have J97_6 : ∀ y6 : Int, ezw_in y6 → ∀ F A, ezs_I fz F0 A0 F A → ezw_E l ρ B xa Hb D cA d ezq_re154 (ezs_P e fz F0 A0 ezs_ri) 97 [some (ezw_p 23), some (ezw_p 30), some (ezw_i a2), some (ezw_i a3), some (ezw_i a4), some (ezw_i a5), some (ezw_i a6), some (ezw_i u2), some (ezw_i u3), some (ezw_i y6)] [] (ezu_g e F A) := by
        intro y6 hy6 F A hI
        refine ezw_iload rfl rfl ?_
        refine ezw_iload rfl rfl ?_
        refine ezs_iadd rfl (fun u8 hu8 => ?_)
        refine ezw_bipush (10) rfl rfl ?_
        refine ezw_icmp_ge rfl rfl hu8 ⟨by decide, by decide⟩ (fun h104_8 => ?_) (fun h104_8 => ?_)
        · refine ezw_iload rfl rfl ?_
          refine ezw_bipush (10) rfl rfl ?_
          refine ezs_idiv rfl hy6 ⟨by decide, by decide⟩ (by omega) (fun u9 hu9 => ?_)
          exact ezw_ireturn rfl rfl ⟨⟨F, A, rfl, hI⟩, _, hu9, rfl⟩
        · refine ezw_iload rfl rfl ?_
          refine ezw_bipush (10) rfl rfl ?_
          refine ezw_iload rfl rfl ?_
          refine ezs_isub rfl (fun u10 hu10 => ?_)
          refine ezw_iload rfl rfl ?_
          refine ezs_isub rfl (fun u11 hu11 => ?_)
          refine ezw_aload_n rfl rfl ?_
          refine ezw_aload_n rfl rfl ?_
          refine ezw_iload_n rfl rfl ?_
          refine ezw_iload rfl rfl ?_
          refine ezw_iload rfl rfl ?_
          refine ezw_iload rfl rfl ?_
          refine ezw_call0_5 rfl (by omega) (ezu_at rfl) rfl rfl rfl rfl (ezs_m149_23_30_l1 hI (by omega) (fun q h0 h1 => hzA q (by omega) (by omega)) ha3 (by omega) ha4 ha5 ha6) ?_
          rintro _ _ ⟨⟨F, A, rfl, hI⟩, u12, hu12, rfl⟩
          refine ezw_call2_1 rfl (by omega) rfl rfl (ezs_m152 hI (by omega) hu12) ?_
          rintro _ _ ⟨rfl, u13, hu13, rfl⟩
          refine ezs_imul rfl (fun u14 hu14 => ?_)
          refine ezs_iadd rfl (fun u15 hu15 => ?_)
          refine ezw_istore rfl rfl ?_
          refine ezw_iload rfl rfl ?_
          refine ezw_bipush (10) rfl rfl ?_
          refine ezs_idiv rfl hu15 ⟨by decide, by decide⟩ (by omega) (fun u16 hu16 => ?_)
          exact ezw_ireturn rfl rfl ⟨⟨F, A, rfl, hI⟩, _, hu16, rfl⟩
      refine ezw_if_le rfl rfl hu3 (fun h70_5 => ?_) (fun h70_5 => ?_)
      · exact ezw_keepE [true, true, true, true, true, true, true, true, true, true] (J97_6 y4 hy4 F A hI)
      · refine ezw_iload rfl rfl ?_
        refine ezw_iload rfl rfl ?_
        refine ezw_aload_n rfl rfl ?_
        refine ezw_aload_n rfl rfl ?_
        refine ezw_iload_n rfl rfl ?_
        refine ezw_iload rfl rfl ?_
        refine ezw_iconst (1) rfl rfl ?_
        refine ezs_isub rfl (fun u17 hu17 => ?_)
        refine ezw_iconst (0) rfl rfl ?_
        refine ezw_iload rfl rfl ?_
        refine ezw_call0_5 rfl (by omega) (ezu_at rfl) rfl rfl rfl rfl (ezs_m149_23_30_l1 hI (by omega) (fun q h0 h1 => hzA q (by omega) (by omega)) ha3 (by omega) hu17 ⟨by decide, by decide⟩ ha6) ?_
        rintro _ _ ⟨⟨F, A, rfl, hI⟩, u18, hu18, rfl⟩
        refine ezw_call2_1 rfl (by omega) rfl rfl (ezs_m152 hI (by omega) hu18) ?_
        rintro _ _ ⟨rfl, u19, hu19, rfl⟩
        refine ezs_imul rfl (fun u20 hu20 => ?_)
        refine ezs_iadd rfl (fun u21 hu21 => ?_)
        refine ezw_istore rfl rfl ?_
        exact ezw_keepE [true, true, true, true, true, true, true, true, true, true] (J97_6 u21 hu21 F A hI)
    refine ezw_if_le rfl rfl hu2 (fun h36_3 => ?_) (fun h36_3 => ?_)
    · exact ezw_keepE [true, true, true, true, true, true, true, true, true, true] (J68_4 (0) ⟨by decide, by decide⟩ F A hI)
    · refine ezw_iload rfl rfl ?_
      refine ezw_iload rfl rfl ?_
      refine ezw_aload_n rfl rfl ?_
      refine ezw_aload_n rfl rfl ?_
      refine ezw_iload_n rfl rfl ?_
      refine ezw_iload rfl rfl ?_
      refine ezw_iload rfl rfl ?_
      refine ezw_iload rfl rfl ?_
      refine ezw_iconst (1) rfl rfl ?_
      refine ezw_iload_n rfl rfl ?_
      refine ezw_ishlO rfl (fun u22 hu22 => ?_)
      refine ezw_iconst (-1) rfl rfl ?_
      refine ezs_ixor rfl (fun u23 hu23 => ?_)
      refine ezs_iand rfl (fun u24 hu24 => ?_)
      refine ezw_call0_5 rfl (by omega) (ezu_at rfl) rfl rfl rfl rfl (ezs_m149_23_30_l1 hI (by omega) (fun q h0 h1 => hzA q (by omega) (by omega)) ha3 (by omega) ha4 ha5 hu24) ?_
      rintro _ _ ⟨⟨F, A, rfl, hI⟩, u25, hu25, rfl⟩
      refine ezw_call2_1 rfl (by omega) rfl rfl (ezs_m152 hI (by omega) hu25) ?_
      rintro _ _ ⟨rfl, u26, hu26, rfl⟩
      refine ezs_imul rfl (fun u27 hu27 => ?_)
      refine ezs_iadd rfl (fun u28 hu28 => ?_)
      refine ezw_istore rfl rfl ?_
      exact ezw_keepE [true, true, true, true, true, true, true, true, true, true] (J68_4 u28 hu28 F A hI)
  · refine ezw_iconst (-1) rfl rfl ?_
    exact ezw_ireturn rfl rfl ⟨⟨F, A, rfl, hI⟩, _, ⟨by decide, by decide⟩, rfl⟩
theorem ezs_m153_23_30_l2 {a2 a3 a4 a5 : Int} {F : Nat → Nat → Int} {A : Nat → Int → Int} (hI : ezs_I fz F0 A0 F A) (hd : 6 ≤ d) (hzA : ∀ q, 24 ≤ q → q < 25 → fz q = false) (ha2 : ezw_in a2) (ga2 : a2 ≤ 1) (ha3 : ezw_in a3) (ha4 : ezw_in a4) (ha5 : ezw_in a5) : ezw_C l ρ B xa Hb D cA 153 d [ezw_p 23, ezw_p 30, ezw_i a2, ezw_i a3, ezw_i a4, ezw_i a5] (ezu_g e F A) (ezs_P e fz F0 A0 ezs_ri) := by
  refine ezw_met (k := 2) rfl rfl ?_
  refine ezw_aload_n rfl rfl ?_
  refine ezw_iconst (5) rfl rfl ?_
  refine ezw_call0_1 rfl (by omega) (ezu_at rfl) rfl rfl rfl rfl (ezs_m95_30 hI (by omega) ⟨by decide, by decide⟩) ?_
  rintro _ _ ⟨rfl, u1, hu1, rfl⟩
  refine ezw_istore rfl rfl ?_
  refine ezw_iload rfl rfl ?_
  refine ezw_if_gt rfl rfl ha4 (fun h9_1 => ?_) (fun h9_1 => ?_)
  · refine ezw_iconst (-1) rfl rfl ?_
    exact ezw_ireturn rfl rfl ⟨⟨F, A, rfl, hI⟩, _, ⟨by decide, by decide⟩, rfl⟩
  · refine ezw_iload rfl rfl ?_
    refine ezw_if_le rfl rfl ⟨by omega, by omega⟩ (fun h14_1 => ?_) (fun h14_1 => ?_)
    · refine ezw_iconst (-1) rfl rfl ?_
      exact ezw_ireturn rfl rfl ⟨⟨F, A, rfl, hI⟩, _, ⟨by decide, by decide⟩, rfl⟩
    · refine ezw_aload_n rfl rfl ?_
      refine ezs_get_i hI rfl rfl rfl rfl rfl rfl (fun u2 hu2 ku2 => ?_)
      refine ezw_aload_n rfl rfl ?_
      refine ezs_getp (p := 33) rfl rfl rfl rfl rfl ?_
      refine ezw_aload_n rfl rfl ?_
      refine ezs_getp (p := 25) rfl rfl rfl rfl rfl ?_
      refine ezw_iload_n rfl rfl ?_
      refine ezw_iconst (1) rfl rfl ?_
      refine ezs_isub rfl (fun u3 hu3 => ?_)
      refine ezw_call3_2 rfl (by omega) rfl rfl (ezs_m27_25 hI (by omega) hu3) ?_
      rintro _ _ ⟨rfl, u4, hu4, rfl⟩
      refine ezw_call3_2 rfl (by omega) rfl rfl (ezs_m27_33 hI (by omega) hu4) ?_
      rintro _ _ ⟨rfl, u5, hu5, rfl⟩
      refine ezw_icmp_eq rfl rfl hu2 hu5 (fun h38_5 => ?_) (fun h38_5 => ?_)
      · refine ezw_iload rfl rfl ?_
        refine ezw_aload_n rfl rfl ?_
        refine ezw_aload_n rfl rfl ?_
        refine ezw_iload_n rfl rfl ?_
        refine ezw_iload_n rfl rfl ?_
        refine ezw_iconst (1) rfl rfl ?_
        refine ezs_isub rfl (fun u6 hu6 => ?_)
        refine ezw_iconst (0) rfl rfl ?_
        refine ezw_iload rfl rfl ?_
        refine ezw_call0_5 rfl (by omega) (ezu_at rfl) rfl rfl rfl rfl (ezs_m149_23_30_l1 hI (by omega) (fun q h0 h1 => hzA q (by omega) (by omega)) ha2 (by omega) hu6 ⟨by decide, by decide⟩ ha5) ?_
        rintro _ _ ⟨⟨F, A, rfl, hI⟩, u7, hu7, rfl⟩
        refine ezw_call2_1 rfl (by omega) rfl rfl (ezs_m152 hI (by omega) hu7) ?_
        rintro _ _ ⟨rfl, u8, hu8, rfl⟩
        refine ezs_imul rfl (fun u9 hu9 => ?_)
        refine ezw_istore rfl rfl ?_
        refine ezw_iload rfl rfl ?_
        refine ezw_bipush (10) rfl rfl ?_
        refine ezw_icmp_ge rfl rfl ⟨by omega, by omega⟩ ⟨by decide, by decide⟩ (fun h67_9 => ?_) (fun h67_9 => ?_)
        · refine ezw_iload rfl rfl ?_
          refine ezw_bipush (10) rfl rfl ?_
          refine ezs_idiv rfl hu9 ⟨by decide, by decide⟩ (by omega) (fun u10 hu10 => ?_)
          exact ezw_ireturn rfl rfl ⟨⟨F, A, rfl, hI⟩, _, hu10, rfl⟩
        · refine ezw_iload rfl rfl ?_
          refine ezw_bipush (10) rfl rfl ?_
          refine ezw_iload rfl rfl ?_
          refine ezs_isub rfl (fun u11 hu11 => ?_)
          refine ezw_aload_n rfl rfl ?_
          refine ezw_aload_n rfl rfl ?_
          refine ezw_iload_n rfl rfl ?_
          refine ezw_iload_n rfl rfl ?_
          refine ezw_iload rfl rfl ?_
          refine ezw_iload rfl rfl ?_
          refine ezw_call0_5 rfl (by omega) (ezu_at rfl) rfl rfl rfl rfl (ezs_m149_23_30_l1 hI (by omega) (fun q h0 h1 => hzA q (by omega) (by omega)) ha2 (by omega) ha3 ha4 ha5) ?_
          rintro _ _ ⟨⟨F, A, rfl, hI⟩, u12, hu12, rfl⟩
          refine ezw_call2_1 rfl (by omega) rfl rfl (ezs_m152 hI (by omega) hu12) ?_
          rintro _ _ ⟨rfl, u13, hu13, rfl⟩
          refine ezs_imul rfl (fun u14 hu14 => ?_)
          refine ezs_iadd rfl (fun u15 hu15 => ?_)
          refine ezw_istore rfl rfl ?_
          refine ezw_iload rfl rfl ?_
          refine ezw_bipush (10) rfl rfl ?_
          refine ezs_idiv rfl hu15 ⟨by decide, by decide⟩ (by omega) (fun u16 hu16 => ?_)
          exact ezw_ireturn rfl rfl ⟨⟨F, A, rfl, hI⟩, _, hu16, rfl⟩
      · refine ezw_iconst (-1) rfl rfl ?_
        exact ezw_ireturn rfl rfl ⟨⟨F, A, rfl, hI⟩, _, ⟨by decide, by decide⟩, rfl⟩
theorem ezs_m151_23_30_l2 {a2 a3 a4 a5 a6 : Int} {F : Nat → Nat → Int} {A : Nat → Int → Int} (hI : ezs_I fz F0 A0 F A) (hd : 6 ≤ d) (hzA : ∀ q, 24 ≤ q → q < 25 → fz q = false) (ha2 : ezw_in a2) (ha3 : ezw_in a3) (ga3 : a3 ≤ 1) (ha4 : ezw_in a4) (ha5 : ezw_in a5) (ha6 : ezw_in a6) : ezw_C l ρ B xa Hb D cA 151 d [ezw_p 23, ezw_p 30, ezw_i a2, ezw_i a3, ezw_i a4, ezw_i a5, ezw_i a6] (ezu_g e F A) (ezs_P e fz F0 A0 ezs_ri) := by
  refine ezw_met (k := 7) rfl rfl ?_
  refine ezw_iload_n rfl rfl ?_
  refine ezw_iconst (1) rfl rfl ?_
  refine ezs_isub rfl (fun u1 hu1 => ?_)
  refine ezw_iconst (4) rfl rfl ?_
  refine ezs_irem rfl hu1 ⟨by decide, by decide⟩ (by omega) (fun u2 hu2 => ?_)
  refine ezw_istore rfl rfl ?_
  refine ezw_iload_n rfl rfl ?_
  refine ezw_iconst (5) rfl rfl ?_
  have J17_3 : ∀ y3 : Int, ezs_b y3 → ∀ F A, ezs_I fz F0 A0 F A → ezw_E l ρ B xa Hb D cA d ezq_re151 (ezs_P e fz F0 A0 ezs_ri) 17 [some (ezw_p 23), some (ezw_p 30), some (ezw_i a2), some (ezw_i a3), some (ezw_i a4), some (ezw_i a5), some (ezw_i a6), some (ezw_i u2), none, none, none, none, none, none] [(ezw_i y3)] (ezu_g e F A) := by
    intro y3 hy3 F A hI
    refine ezw_istore rfl rfl ?_
    refine ezw_aload_n rfl rfl ?_
    refine ezs_getp (p := 25) rfl rfl rfl rfl rfl ?_
    refine ezw_iload rfl rfl ?_
    refine ezw_iconst (1) rfl rfl ?_
    refine ezs_isub rfl (fun u5 hu5 => ?_)
    refine ezw_call3_2 rfl (by omega) rfl rfl (ezs_m27_25 hI (by omega) hu5) ?_
    rintro _ _ ⟨rfl, u6, hu6, rfl⟩
    refine ezw_istore rfl rfl ?_
    refine ezw_aload_n rfl rfl ?_
    refine ezw_iload rfl rfl ?_
    refine ezw_iload rfl rfl ?_
    refine ezw_iload rfl rfl ?_
    refine ezw_iload rfl rfl ?_
    refine ezw_call0_4 rfl (by omega) (ezu_at rfl) rfl rfl rfl rfl (ezs_m113_30 hI (by omega) hu6 ha5 hu2 ⟨by omega, by omega⟩) ?_
    rintro _ _ ⟨rfl, u7, hu7, rfl⟩
    refine ezw_istore rfl rfl ?_
    refine ezw_aload_n rfl rfl ?_
    refine ezw_iload rfl rfl ?_
    refine ezw_iload rfl rfl ?_
    refine ezw_iload rfl rfl ?_
    refine ezw_iload rfl rfl ?_
    refine ezw_call0_4 rfl (by omega) (ezu_at rfl) rfl rfl rfl rfl (ezs_m116_30 hI (by omega) hu6 ha5 hu2 ⟨by omega, by omega⟩) ?_
    rintro _ _ ⟨rfl, u8, hu8, rfl⟩
    refine ezw_istore rfl rfl ?_
    refine ezw_iconst (0) rfl rfl ?_
    refine ezw_istore rfl rfl ?_
    refine ezw_iload rfl rfl ?_
    have J95_9 : ∀ y9 : Int, ezw_in y9 → ∀ F A, ezs_I fz F0 A0 F A → ezw_E l ρ B xa Hb D cA d ezq_re151 (ezs_P e fz F0 A0 ezs_ri) 95 [some (ezw_p 23), some (ezw_p 30), some (ezw_i a2), some (ezw_i a3), some (ezw_i a4), some (ezw_i a5), some (ezw_i a6), some (ezw_i u2), some (ezw_i y3), some (ezw_i u6), some (ezw_i u7), some (ezw_i u8), some (ezw_i y9), none] [] (ezu_g e F A) := by
      intro y9 hy9 F A hI
      refine ezw_iload rfl rfl ?_
      refine ezw_bipush (10) rfl rfl ?_
      have J131_11 : ∀ y11 : Int, ezw_in y11 → ∀ F A, ezs_I fz F0 A0 F A → ezw_E l ρ B xa Hb D cA d ezq_re151 (ezs_P e fz F0 A0 ezs_ri) 131 [some (ezw_p 23), some (ezw_p 30), some (ezw_i a2), some (ezw_i a3), some (ezw_i a4), some (ezw_i a5), some (ezw_i a6), some (ezw_i u2), some (ezw_i y3), some (ezw_i u6), some (ezw_i u7), some (ezw_i u8), some (ezw_i y11), none] [] (ezu_g e F A) := by
        intro y11 hy11 F A hI
        refine ezw_iload rfl rfl ?_
        refine ezw_bipush (10) rfl rfl ?_
        refine ezw_icmp_ge rfl rfl hu7 ⟨by decide, by decide⟩ (fun h135_12 => ?_) (fun h135_12 => ?_)
        · refine ezw_iload rfl rfl ?_
          refine ezw_bipush (100) rfl rfl ?_
          refine ezs_idiv rfl hy11 ⟨by decide, by decide⟩ (by omega) (fun u13 hu13 => ?_)
          exact ezw_ireturn rfl rfl ⟨⟨F, A, rfl, hI⟩, _, hu13, rfl⟩
        · refine ezw_iload rfl rfl ?_
          refine ezw_bipush (10) rfl rfl ?_
          refine ezw_icmp_ge rfl rfl hu8 ⟨by decide, by decide⟩ (fun h142_13 => ?_) (fun h142_13 => ?_)
          · refine ezw_iload rfl rfl ?_
            refine ezw_bipush (100) rfl rfl ?_
            refine ezs_idiv rfl hy11 ⟨by decide, by decide⟩ (by omega) (fun u14 hu14 => ?_)
            exact ezw_ireturn rfl rfl ⟨⟨F, A, rfl, hI⟩, _, hu14, rfl⟩
          · refine ezw_bipush (9) rfl rfl ?_
            refine ezw_iload rfl rfl ?_
            refine ezw_iload rfl rfl ?_
            have J159_15 : ∀ y15 : Int, ezw_in y15 → ∀ F A, ezs_I fz F0 A0 F A → ezw_E l ρ B xa Hb D cA d ezq_re151 (ezs_P e fz F0 A0 ezs_ri) 159 [some (ezw_p 23), some (ezw_p 30), some (ezw_i a2), some (ezw_i a3), some (ezw_i a4), some (ezw_i a5), some (ezw_i a6), some (ezw_i u2), some (ezw_i y3), some (ezw_i u6), some (ezw_i u7), some (ezw_i u8), some (ezw_i y11), none] [(ezw_i y15), (ezw_i a5), (ezw_i (9))] (ezu_g e F A) := by
              intro y15 hy15 F A hI
              refine ezs_iadd rfl (fun u17 hu17 => ?_)
              refine ezw_mminE rfl ⟨by decide, by decide⟩ hu17 rfl (fun u18 hu18 => ?_)
              refine ezw_istore rfl rfl ?_
              refine ezw_iload rfl rfl ?_
              refine ezw_bipush (10) rfl rfl ?_
              refine ezw_iload rfl rfl ?_
              refine ezs_isub rfl (fun u19 hu19 => ?_)
              refine ezw_bipush (10) rfl rfl ?_
              refine ezw_iload rfl rfl ?_
              refine ezs_isub rfl (fun u20 hu20 => ?_)
              refine ezs_imul rfl (fun u21 hu21 => ?_)
              refine ezw_aload_n rfl rfl ?_
              refine ezw_aload_n rfl rfl ?_
              refine ezw_iload_n rfl rfl ?_
              refine ezw_iload rfl rfl ?_
              refine ezw_iload rfl rfl ?_
              refine ezw_iload rfl rfl ?_
              refine ezw_call0_5 rfl (by omega) (ezu_at rfl) rfl rfl rfl rfl (ezs_m149_23_30_l1 hI (by omega) (fun q h0 h1 => hzA q (by omega) (by omega)) ha3 (by omega) ha4 ⟨by omega, by omega⟩ ha6) ?_
              rintro _ _ ⟨⟨F, A, rfl, hI⟩, u22, hu22, rfl⟩
              refine ezw_call2_1 rfl (by omega) rfl rfl (ezs_m152 hI (by omega) hu22) ?_
              rintro _ _ ⟨rfl, u23, hu23, rfl⟩
              refine ezs_imul rfl (fun u24 hu24 => ?_)
              refine ezs_iadd rfl (fun u25 hu25 => ?_)
              refine ezw_istore rfl rfl ?_
              refine ezw_iload rfl rfl ?_
              refine ezw_bipush (100) rfl rfl ?_
              refine ezs_idiv rfl hu25 ⟨by decide, by decide⟩ (by omega) (fun u26 hu26 => ?_)
              exact ezw_ireturn rfl rfl ⟨⟨F, A, rfl, hI⟩, _, hu26, rfl⟩
            refine ezw_if_eq rfl rfl ⟨by omega, by omega⟩ (fun h151_14 => ?_) (fun h151_14 => ?_)
            · refine ezw_iconst (1) rfl rfl ?_
              exact ezw_keepE [true, true, true, true, true, true, true, true, true, true, true, true, true, false] (J159_15 (1) ⟨by decide, by decide⟩ F A hI)
            · refine ezw_iconst (2) rfl rfl ?_
              refine ezw_goto rfl rfl ?_
              exact ezw_keepE [true, true, true, true, true, true, true, true, true, true, true, true, true, false] (J159_15 (2) ⟨by decide, by decide⟩ F A hI)
      refine ezw_icmp_ge rfl rfl hu7 ⟨by decide, by decide⟩ (fun h99_10 => ?_) (fun h99_10 => ?_)
      · exact ezw_keepE [true, true, true, true, true, true, true, true, true, true, true, true, true, false] (J131_11 y9 hy9 F A hI)
      · refine ezw_iload rfl rfl ?_
        refine ezw_if_le rfl rfl hu8 (fun h104_26 => ?_) (fun h104_26 => ?_)
        · exact ezw_keepE [true, true, true, true, true, true, true, true, true, true, true, true, true, false] (J131_11 y9 hy9 F A hI)
        · refine ezw_iload rfl rfl ?_
          refine ezw_bipush (10) rfl rfl ?_
          refine ezw_iload rfl rfl ?_
          refine ezs_isub rfl (fun u27 hu27 => ?_)
          refine ezw_iload rfl rfl ?_
          refine ezs_imul rfl (fun u28 hu28 => ?_)
          refine ezw_sipush (1000) rfl rfl ?_
          refine ezs_imul rfl (fun u29 hu29 => ?_)
          refine ezw_aload_n rfl rfl ?_
          refine ezw_iload rfl rfl ?_
          refine ezw_call0_1 rfl (by omega) (ezu_at rfl) rfl rfl rfl rfl (ezs_m144_30 hI (by omega) ha6) ?_
          rintro _ _ ⟨rfl, u30, hu30, rfl⟩
          refine ezs_imul rfl (fun u31 hu31 => ?_)
          refine ezs_iadd rfl (fun u32 hu32 => ?_)
          refine ezw_istore rfl rfl ?_
          exact ezw_keepE [true, true, true, true, true, true, true, true, true, true, true, true, true, false] (J131_11 u32 hu32 F A hI)
    refine ezw_if_le rfl rfl hu7 (fun h65_8 => ?_) (fun h65_8 => ?_)
    · exact ezw_keepE [true, true, true, true, true, true, true, true, true, true, true, true, true, false] (J95_9 (0) ⟨by decide, by decide⟩ F A hI)
    · refine ezw_iload rfl rfl ?_
      refine ezw_bipush (10) rfl rfl ?_
      refine ezw_iload rfl rfl ?_
      refine ezs_imul rfl (fun u33 hu33 => ?_)
      refine ezw_aload_n rfl rfl ?_
      refine ezw_aload_n rfl rfl ?_
      refine ezw_iload_n rfl rfl ?_
      refine ezw_iload rfl rfl ?_
      refine ezw_iconst (1) rfl rfl ?_
      refine ezs_isub rfl (fun u34 hu34 => ?_)
      refine ezw_iconst (0) rfl rfl ?_
      refine ezw_iload rfl rfl ?_
      refine ezw_call0_5 rfl (by omega) (ezu_at rfl) rfl rfl rfl rfl (ezs_m149_23_30_l1 hI (by omega) (fun q h0 h1 => hzA q (by omega) (by omega)) ha3 (by omega) hu34 ⟨by decide, by decide⟩ ha6) ?_
      rintro _ _ ⟨⟨F, A, rfl, hI⟩, u35, hu35, rfl⟩
      refine ezw_call2_1 rfl (by omega) rfl rfl (ezs_m152 hI (by omega) hu35) ?_
      rintro _ _ ⟨rfl, u36, hu36, rfl⟩
      refine ezs_imul rfl (fun u37 hu37 => ?_)
      refine ezs_iadd rfl (fun u38 hu38 => ?_)
      refine ezw_istore rfl rfl ?_
      exact ezw_keepE [true, true, true, true, true, true, true, true, true, true, true, true, true, false] (J95_9 u38 hu38 F A hI)
  refine ezw_icmp_lt rfl rfl ha2 ⟨by decide, by decide⟩ (fun h9_2 => ?_) (fun h9_2 => ?_)
  · refine ezw_iconst (0) rfl rfl ?_
    exact ezw_keepE [true, true, true, true, true, true, true, true, false, false, false, false, false, false] (J17_3 (0) ⟨by omega, by omega⟩ F A hI)
  · refine ezw_iconst (1) rfl rfl ?_
    refine ezw_goto rfl rfl ?_
    exact ezw_keepE [true, true, true, true, true, true, true, true, false, false, false, false, false, false] (J17_3 (1) ⟨by omega, by omega⟩ F A hI)
theorem ezs_m150_23_30_l2 {a2 a3 a4 a5 a6 : Int} {F : Nat → Nat → Int} {A : Nat → Int → Int} (hI : ezs_I fz F0 A0 F A) (hd : 7 ≤ d) (hzA : ∀ q, 24 ≤ q → q < 25 → fz q = false) (ha2 : ezw_in a2) (ha3 : ezw_in a3) (ga3 : a3 ≤ 1) (ha4 : ezw_in a4) (ha5 : ezw_in a5) (ha6 : ezw_in a6) : ezw_C l ρ B xa Hb D cA 150 d [ezw_p 23, ezw_p 30, ezw_i a2, ezw_i a3, ezw_i a4, ezw_i a5, ezw_i a6] (ezu_g e F A) (ezs_P e fz F0 A0 ezs_ri) := by
  refine ezw_met (k := 0) rfl rfl ?_
  refine ezw_iload_n rfl rfl ?_
  refine ezw_bipush (9) rfl rfl ?_
  refine ezw_icmp_ge rfl rfl ha2 ⟨by decide, by decide⟩ (fun h3_0 => ?_) (fun h3_0 => ?_)
  · refine ezw_iload_n rfl rfl ?_
    refine ezw_bipush (9) rfl rfl ?_
    refine ezw_icmp_ne rfl rfl ha2 ⟨by decide, by decide⟩ (fun h23_0 => ?_) (fun h23_0 => ?_)
    · refine ezw_iload_n rfl rfl ?_
      refine ezw_bipush (10) rfl rfl ?_
      refine ezw_icmp_ne rfl rfl ha2 ⟨by decide, by decide⟩ (fun h56_0 => ?_) (fun h56_0 => ?_)
      · refine ezw_aload_n rfl rfl ?_
        refine ezw_aload_n rfl rfl ?_
        refine ezw_iload_n rfl rfl ?_
        refine ezw_bipush (11) rfl rfl ?_
        refine ezs_isub rfl (fun u1 hu1 => ?_)
        refine ezw_iload_n rfl rfl ?_
        refine ezw_iload rfl rfl ?_
        refine ezw_iload rfl rfl ?_
        refine ezw_iload rfl rfl ?_
        refine ezw_call0_6 rfl (by omega) (ezu_at rfl) rfl rfl rfl rfl (ezs_m154_23_30_l2 hI (by omega) (fun q h0 h1 => hzA q (by omega) (by omega)) hu1 ha3 (by omega) ha4 ha5 ha6) ?_
        rintro _ _ ⟨⟨F, A, rfl, hI⟩, u2, hu2, rfl⟩
        exact ezw_ireturn rfl rfl ⟨⟨F, A, rfl, hI⟩, _, hu2, rfl⟩
      · refine ezw_aload_n rfl rfl ?_
        refine ezw_aload_n rfl rfl ?_
        refine ezw_iload_n rfl rfl ?_
        refine ezw_iload rfl rfl ?_
        refine ezw_iload rfl rfl ?_
        refine ezw_iload rfl rfl ?_
        refine ezw_call0_5 rfl (by omega) (ezu_at rfl) rfl rfl rfl rfl (ezs_m153_23_30_l2 hI (by omega) (fun q h0 h1 => hzA q (by omega) (by omega)) ha3 (by omega) ha4 ha5 ha6) ?_
        rintro _ _ ⟨⟨F, A, rfl, hI⟩, u3, hu3, rfl⟩
        exact ezw_ireturn rfl rfl ⟨⟨F, A, rfl, hI⟩, _, hu3, rfl⟩
    · refine ezw_iload rfl rfl ?_
      refine ezw_if_le rfl rfl ha5 (fun h28_3 => ?_) (fun h28_3 => ?_)
      · refine ezw_iconst (-1) rfl rfl ?_
        exact ezw_ireturn rfl rfl ⟨⟨F, A, rfl, hI⟩, _, ⟨by decide, by decide⟩, rfl⟩
      · refine ezw_aload_n rfl rfl ?_
        refine ezw_aload_n rfl rfl ?_
        refine ezw_iload_n rfl rfl ?_
        refine ezw_iload rfl rfl ?_
        refine ezw_iload rfl rfl ?_
        refine ezw_iconst (1) rfl rfl ?_
        refine ezs_isub rfl (fun u4 hu4 => ?_)
        refine ezw_iload rfl rfl ?_
        refine ezw_call0_5 rfl (by omega) (ezu_at rfl) rfl rfl rfl rfl (ezs_m149_23_30_l1 hI (by omega) (fun q h0 h1 => hzA q (by omega) (by omega)) ha3 (by omega) ha4 hu4 ha6) ?_
        rintro _ _ ⟨⟨F, A, rfl, hI⟩, u5, hu5, rfl⟩
        refine ezw_call2_1 rfl (by omega) rfl rfl (ezs_m152 hI (by omega) hu5) ?_
        rintro _ _ ⟨rfl, u6, hu6, rfl⟩
        refine ezw_goto rfl rfl ?_
        exact ezw_ireturn rfl rfl ⟨⟨F, A, rfl, hI⟩, _, hu6, rfl⟩
  · refine ezw_aload_n rfl rfl ?_
    refine ezw_aload_n rfl rfl ?_
    refine ezw_iload_n rfl rfl ?_
    refine ezw_iload_n rfl rfl ?_
    refine ezw_iload rfl rfl ?_
    refine ezw_iload rfl rfl ?_
    refine ezw_iload rfl rfl ?_
    refine ezw_call0_6 rfl (by omega) (ezu_at rfl) rfl rfl rfl rfl (ezs_m151_23_30_l2 hI (by omega) (fun q h0 h1 => hzA q (by omega) (by omega)) ha2 ha3 (by omega) ha4 ha5 ha6) ?_
    rintro _ _ ⟨⟨F, A, rfl, hI⟩, u7, hu7, rfl⟩
    exact ezw_ireturn rfl rfl ⟨⟨F, A, rfl, hI⟩, _, hu7, rfl⟩
theorem ezs_m149_23_30_l2 {a2 a3 a4 a5 : Int} {F : Nat → Nat → Int} {A : Nat → Int → Int} (hI : ezs_I fz F0 A0 F A) (hd : 8 ≤ d) (hzA : ∀ q, 24 ≤ q → q < 25 → fz q = false) (ha2 : ezw_in a2) (ga2 : a2 ≤ 2) (ha3 : ezw_in a3) (ha4 : ezw_in a4) (ha5 : ezw_in a5) : ezw_C l ρ B xa Hb D cA 149 d [ezw_p 23, ezw_p 30, ezw_i a2, ezw_i a3, ezw_i a4, ezw_i a5] (ezu_g e F A) (ezs_P e fz F0 A0 ezs_ri) := by
  refine ezw_met (k := 5) rfl rfl ?_
  refine ezw_sipush (1000) rfl rfl ?_
  refine ezw_aload_n rfl rfl ?_
  refine ezw_iload rfl rfl ?_
  refine ezw_call0_1 rfl (by omega) (ezu_at rfl) rfl rfl rfl rfl (ezs_m144_30 hI (by omega) ha5) ?_
  rintro _ _ ⟨rfl, u1, hu1, rfl⟩
  refine ezw_iload_n rfl rfl ?_
  have J21_2 : ∀ y2 : Int, ezw_in y2 → ∀ F A, ezs_I fz F0 A0 F A → ezw_E l ρ B xa Hb D cA d ezq_re149 (ezs_P e fz F0 A0 ezs_ri) 21 [some (ezw_p 23), some (ezw_p 30), some (ezw_i a2), some (ezw_i a3), some (ezw_i a4), some (ezw_i a5), none, none, none, none, none] [(ezw_i y2), (ezw_i u1), (ezw_i (1000))] (ezu_g e F A) := by
    intro y2 hy2 F A hI
    refine ezs_iadd rfl (fun u4 hu4 => ?_)
    refine ezs_imul rfl (fun u5 hu5 => ?_)
    refine ezw_istore rfl rfl ?_
    refine ezw_iconst (0) rfl rfl ?_
    refine ezw_istore rfl rfl ?_
    refine ezw_iload_n rfl rfl ?_
    refine ezw_if_le rfl rfl ha2 (fun h29_5 => ?_) (fun h29_5 => ?_)
    · refine ezw_iload rfl rfl ?_
      refine ezw_bipush (16) rfl rfl ?_
      refine ezs_imul rfl (fun u6 hu6 => ?_)
      refine ezw_iload rfl rfl ?_
      refine ezs_iadd rfl (fun u7 hu7 => ?_)
      exact ezw_ireturn rfl rfl ⟨⟨F, A, rfl, hI⟩, _, hu7, rfl⟩
    · refine ezw_iload_n rfl rfl ?_
      refine ezw_if_gt rfl rfl ha3 (fun h33_7 => ?_) (fun h33_7 => ?_)
      · refine ezw_iload_n rfl rfl ?_
        refine ezw_iconst (1) rfl rfl ?_
        refine ezs_isub rfl (fun u8 hu8 => ?_)
        refine ezw_bipush (6) rfl rfl ?_
        refine ezs_imul rfl (fun u9 hu9 => ?_)
        refine ezw_iload_n rfl rfl ?_
        refine ezs_iadd rfl (fun u10 hu10 => ?_)
        refine ezw_iconst (1) rfl rfl ?_
        refine ezs_isub rfl (fun u11 hu11 => ?_)
        refine ezw_bipush (10) rfl rfl ?_
        refine ezs_imul rfl (fun u12 hu12 => ?_)
        refine ezw_iload rfl rfl ?_
        refine ezs_iadd rfl (fun u13 hu13 => ?_)
        refine ezw_bipush (16) rfl rfl ?_
        refine ezs_imul rfl (fun u14 hu14 => ?_)
        refine ezw_iload rfl rfl ?_
        refine ezs_iadd rfl (fun u15 hu15 => ?_)
        refine ezw_istore rfl rfl ?_
        refine ezw_aload_n rfl rfl ?_
        refine ezs_getp (p := 24) rfl rfl rfl rfl rfl ?_
        refine ezw_iload rfl rfl ?_
        refine ezw_call3_2 rfl (by omega) rfl rfl (ezs_m27_24 hI (by omega) hu15) ?_
        rintro _ _ ⟨rfl, u16, hu16, rfl⟩
        refine ezw_iconst (-1) rfl rfl ?_
        refine ezw_icmp_eq rfl rfl hu16 ⟨by decide, by decide⟩ (fun h79_16 => ?_) (fun h79_16 => ?_)
        · refine ezw_iconst (1) rfl rfl ?_
          refine ezw_istore rfl rfl ?_
          have L95_19 : ∀ c19 : Int, ezw_in c19 → (1) ≤ c19 → ∀ y17 : Int, ezw_in y17 → ∀ y18 : Int, ezw_in y18 → ∀ F A, ezs_I fz F0 A0 F A → ezw_E l ρ B xa Hb D cA d ezq_re149 (ezs_P e fz F0 A0 ezs_ri) 95 [some (ezw_p 23), some (ezw_p 30), some (ezw_i a2), some (ezw_i a3), some (ezw_i a4), some (ezw_i a5), some (ezw_i y17), some (ezw_i y18), some (ezw_i u15), some (ezw_i c19), none] [] (ezu_g e F A) := by
            refine ezs_up ?_
            intro c19 hc19 ihc19 gc19 y17 hy17 y18 hy18 F A hI
            refine ezw_iload rfl rfl ?_
            refine ezw_bipush (15) rfl rfl ?_
            have J140_23 : ∀ y21 : Int, ezw_in y21 → ∀ y22 : Int, ezw_in y22 → ∀ y23 : Int, ezw_in y23 → ∀ F A, ezs_I fz F0 A0 F A → ezw_E l ρ B xa Hb D cA d ezq_re149 (ezs_P e fz F0 A0 ezs_ri) 140 [some (ezw_p 23), some (ezw_p 30), some (ezw_i a2), some (ezw_i a3), some (ezw_i a4), some (ezw_i a5), some (ezw_i y21), some (ezw_i y22), some (ezw_i u15), some (ezw_i y23), none] [] (ezu_g e F A) := by
              intro y21 hy21 y22 hy22 y23 hy23 F A hI
              refine ezw_aload_n rfl rfl ?_
              refine ezs_getp (p := 24) rfl rfl rfl rfl rfl ?_
              refine ezw_iload rfl rfl ?_
              refine ezw_iload rfl rfl ?_
              refine ezw_bipush (16) rfl rfl ?_
              refine ezs_imul rfl (fun u25 hu25 => ?_)
              refine ezw_iload rfl rfl ?_
              refine ezs_iadd rfl (fun u26 hu26 => ?_)
              refine ezw_call3_3 rfl (by omega) rfl rfl (ezs_m21_24 hI (by omega) (fun q h0 h1 => hzA q (by omega) (by omega)) hu15 hu26) ?_
              rintro _ _ ⟨⟨F, A, rfl, hI⟩, rfl⟩
              refine ezw_iload rfl rfl ?_
              refine ezw_bipush (16) rfl rfl ?_
              refine ezs_imul rfl (fun u27 hu27 => ?_)
              refine ezw_iload rfl rfl ?_
              refine ezs_iadd rfl (fun u28 hu28 => ?_)
              exact ezw_ireturn rfl rfl ⟨⟨F, A, rfl, hI⟩, _, hu28, rfl⟩
            refine ezw_icmp_ge rfl rfl hc19 ⟨by decide, by decide⟩ (fun h99_20 => ?_) (fun h99_20 => ?_)
            · exact ezw_keepE [true, true, true, true, true, true, true, true, true, true, false] (J140_23 y17 hy17 y18 hy18 c19 hc19 F A hI)
            · refine ezw_aload_n rfl rfl ?_
              refine ezw_aload_n rfl rfl ?_
              refine ezw_iload rfl rfl ?_
              refine ezw_iload_n rfl rfl ?_
              refine ezw_iconst (1) rfl rfl ?_
              refine ezw_isub rfl rfl ?_
              refine ezw_iload_n rfl rfl ?_
              refine ezw_iload rfl rfl ?_
              refine ezw_iload rfl rfl ?_
              refine ezw_call0_6 rfl (by omega) (ezu_at rfl) rfl rfl rfl rfl (ezs_m150_23_30_l2 hI (by omega) (fun q h0 h1 => hzA q (by omega) (by omega)) hc19 ⟨by omega, by omega⟩ (by omega) ha3 ha4 ha5) ?_
              rintro _ _ ⟨⟨F, A, rfl, hI⟩, u29, hu29, rfl⟩
              refine ezw_istore rfl rfl ?_
              refine ezw_iload rfl rfl ?_
              refine ezw_iload rfl rfl ?_
              refine ezw_icmp_le rfl rfl hu29 hy17 (fun h123_29 => ?_) (fun h123_29 => ?_)
              · refine ezw_iinc (1) rfl rfl rfl rfl rfl ?_
                refine ezw_goto rfl rfl ?_
                exact ezw_keepE [true, true, true, true, true, true, true, true, true, true, false] (ihc19 (c19 + (1)) (by omega) ⟨by omega, by omega⟩ (by omega) y17 hy17 y18 hy18 F A hI)
              · refine ezw_iload rfl rfl ?_
                refine ezw_istore rfl rfl ?_
                refine ezw_iload rfl rfl ?_
                refine ezw_istore rfl rfl ?_
                refine ezw_iinc (1) rfl rfl rfl rfl rfl ?_
                refine ezw_goto rfl rfl ?_
                exact ezw_keepE [true, true, true, true, true, true, true, true, true, true, false] (ihc19 (c19 + (1)) (by omega) ⟨by omega, by omega⟩ (by omega) u29 hu29 c19 hc19 F A hI)
          exact ezw_keepE [true, true, true, true, true, true, true, true, true, true, false] (L95_19 (1) ⟨by decide, by decide⟩ (by omega) u5 hu5 (0) ⟨by decide, by decide⟩ F A hI)
        · refine ezw_aload_n rfl rfl ?_
          refine ezs_getp (p := 24) rfl rfl rfl rfl rfl ?_
          refine ezw_iload rfl rfl ?_
          refine ezw_call3_2 rfl (by omega) rfl rfl (ezs_m27_24 hI (by omega) hu15) ?_
          rintro _ _ ⟨rfl, u30, hu30, rfl⟩
          exact ezw_ireturn rfl rfl ⟨⟨F, A, rfl, hI⟩, _, hu30, rfl⟩
      · refine ezw_iload rfl rfl ?_
        refine ezw_bipush (16) rfl rfl ?_
        refine ezs_imul rfl (fun u31 hu31 => ?_)
        refine ezw_iload rfl rfl ?_
        refine ezs_iadd rfl (fun u32 hu32 => ?_)
        exact ezw_ireturn rfl rfl ⟨⟨F, A, rfl, hI⟩, _, hu32, rfl⟩
  refine ezw_if_le rfl rfl ha3 (fun h10_1 => ?_) (fun h10_1 => ?_)
  · refine ezw_aload_n rfl rfl ?_
    refine ezs_get_i hI rfl rfl rfl rfl rfl rfl (fun u33 hu33 ku33 => ?_)
    exact ezw_keepE [true, true, true, true, true, true, false, false, false, false, false] (J21_2 u33 hu33 F A hI)
  · refine ezw_iconst (0) rfl rfl ?_
    refine ezw_goto rfl rfl ?_
    exact ezw_keepE [true, true, true, true, true, true, false, false, false, false, false] (J21_2 (0) ⟨by decide, by decide⟩ F A hI)
theorem ezs_m154_23_30_l3 {a2 a3 a4 a5 a6 : Int} {F : Nat → Nat → Int} {A : Nat → Int → Int} (hI : ezs_I fz F0 A0 F A) (hd : 9 ≤ d) (hzA : ∀ q, 24 ≤ q → q < 25 → fz q = false) (ha2 : ezw_in a2) (ha3 : ezw_in a3) (ga3 : a3 ≤ 2) (ha4 : ezw_in a4) (ha5 : ezw_in a5) (ha6 : ezw_in a6) : ezw_C l ρ B xa Hb D cA 154 d [ezw_p 23, ezw_p 30, ezw_i a2, ezw_i a3, ezw_i a4, ezw_i a5, ezw_i a6] (ezu_g e F A) (ezs_P e fz F0 A0 ezs_ri) := by
  refine ezw_met (k := 3) rfl rfl ?_
  refine ezw_iload rfl rfl ?_
  refine ezw_iload_n rfl rfl ?_
  refine ezw_call3_2 rfl (by omega) rfl rfl (ezs_m49 hI (by omega) ha6 ha2) ?_
  rintro _ _ ⟨rfl, u1, hu1, rfl⟩
  refine ezw_if_ne rfl rfl hu1 (fun h6_1 => ?_) (fun h6_1 => ?_)
  · refine ezw_aload_n rfl rfl ?_
    refine ezs_getp (p := 36) rfl rfl rfl rfl rfl ?_
    refine ezw_iload_n rfl rfl ?_
    refine ezw_call3_2 rfl (by omega) rfl rfl (ezs_m27_36 hI (by omega) ha2) ?_
    rintro _ _ ⟨rfl, u2, hu2, rfl⟩
    refine ezw_istore rfl rfl ?_
    refine ezw_aload_n rfl rfl ?_
    refine ezs_getp (p := 37) rfl rfl rfl rfl rfl ?_
    refine ezw_iload_n rfl rfl ?_
    refine ezw_call3_2 rfl (by omega) rfl rfl (ezs_m27_37 hI (by omega) ha2) ?_
    rintro _ _ ⟨rfl, u3, hu3, rfl⟩
    refine ezw_istore rfl rfl ?_
    refine ezw_iconst (0) rfl rfl ?_
    refine ezw_istore rfl rfl ?_
    refine ezw_iload rfl rfl ?_
    have J68_4 : ∀ y4 : Int, ezw_in y4 → ∀ F A, ezs_I fz F0 A0 F A → ezw_E l ρ B xa Hb D cA d ezq_re154 (ezs_P e fz F0 A0 ezs_ri) 68 [some (ezw_p 23), some (ezw_p 30), some (ezw_i a2), some (ezw_i a3), some (ezw_i a4), some (ezw_i a5), some (ezw_i a6), some (ezw_i u2), some (ezw_i u3), some (ezw_i y4)] [] (ezu_g e F A) := by
      intro y4 hy4 F A hI
      refine ezw_iload rfl rfl ?_
      have J97_6 : ∀ y6 : Int, ezw_in y6 → ∀ F A, ezs_I fz F0 A0 F A → ezw_E l ρ B xa Hb D cA d ezq_re154 (ezs_P e fz F0 A0 ezs_ri) 97 [some (ezw_p 23), some (ezw_p 30), some (ezw_i a2), some (ezw_i a3), some (ezw_i a4), some (ezw_i a5), some (ezw_i a6), some (ezw_i u2), some (ezw_i u3), some (ezw_i y6)] [] (ezu_g e F A) := by
        intro y6 hy6 F A hI
        refine ezw_iload rfl rfl ?_
        refine ezw_iload rfl rfl ?_
        refine ezs_iadd rfl (fun u8 hu8 => ?_)
        refine ezw_bipush (10) rfl rfl ?_
        refine ezw_icmp_ge rfl rfl hu8 ⟨by decide, by decide⟩ (fun h104_8 => ?_) (fun h104_8 => ?_)
        · refine ezw_iload rfl rfl ?_
          refine ezw_bipush (10) rfl rfl ?_
          refine ezs_idiv rfl hy6 ⟨by decide, by decide⟩ (by omega) (fun u9 hu9 => ?_)
          exact ezw_ireturn rfl rfl ⟨⟨F, A, rfl, hI⟩, _, hu9, rfl⟩
        · refine ezw_iload rfl rfl ?_
          refine ezw_bipush (10) rfl rfl ?_
          refine ezw_iload rfl rfl ?_
          refine ezs_isub rfl (fun u10 hu10 => ?_)
          refine ezw_iload rfl rfl ?_
          refine ezs_isub rfl (fun u11 hu11 => ?_)
          refine ezw_aload_n rfl rfl ?_
          refine ezw_aload_n rfl rfl ?_
          refine ezw_iload_n rfl rfl ?_
          refine ezw_iload rfl rfl ?_
          refine ezw_iload rfl rfl ?_
          refine ezw_iload rfl rfl ?_
          refine ezw_call0_5 rfl (by omega) (ezu_at rfl) rfl rfl rfl rfl (ezs_m149_23_30_l2 hI (by omega) (fun q h0 h1 => hzA q (by omega) (by omega)) ha3 (by omega) ha4 ha5 ha6) ?_
          rintro _ _ ⟨⟨F, A, rfl, hI⟩, u12, hu12, rfl⟩
          refine ezw_call2_1 rfl (by omega) rfl rfl (ezs_m152 hI (by omega) hu12) ?_
          rintro _ _ ⟨rfl, u13, hu13, rfl⟩
          refine ezs_imul rfl (fun u14 hu14 => ?_)
          refine ezs_iadd rfl (fun u15 hu15 => ?_)
          refine ezw_istore rfl rfl ?_
          refine ezw_iload rfl rfl ?_
          refine ezw_bipush (10) rfl rfl ?_
          refine ezs_idiv rfl hu15 ⟨by decide, by decide⟩ (by omega) (fun u16 hu16 => ?_)
          exact ezw_ireturn rfl rfl ⟨⟨F, A, rfl, hI⟩, _, hu16, rfl⟩
      refine ezw_if_le rfl rfl hu3 (fun h70_5 => ?_) (fun h70_5 => ?_)
      · exact ezw_keepE [true, true, true, true, true, true, true, true, true, true] (J97_6 y4 hy4 F A hI)
      · refine ezw_iload rfl rfl ?_
        refine ezw_iload rfl rfl ?_
        refine ezw_aload_n rfl rfl ?_
        refine ezw_aload_n rfl rfl ?_
        refine ezw_iload_n rfl rfl ?_
        refine ezw_iload rfl rfl ?_
        refine ezw_iconst (1) rfl rfl ?_
        refine ezs_isub rfl (fun u17 hu17 => ?_)
        refine ezw_iconst (0) rfl rfl ?_
        refine ezw_iload rfl rfl ?_
        refine ezw_call0_5 rfl (by omega) (ezu_at rfl) rfl rfl rfl rfl (ezs_m149_23_30_l2 hI (by omega) (fun q h0 h1 => hzA q (by omega) (by omega)) ha3 (by omega) hu17 ⟨by decide, by decide⟩ ha6) ?_
        rintro _ _ ⟨⟨F, A, rfl, hI⟩, u18, hu18, rfl⟩
        refine ezw_call2_1 rfl (by omega) rfl rfl (ezs_m152 hI (by omega) hu18) ?_
        rintro _ _ ⟨rfl, u19, hu19, rfl⟩
        refine ezs_imul rfl (fun u20 hu20 => ?_)
        refine ezs_iadd rfl (fun u21 hu21 => ?_)
        refine ezw_istore rfl rfl ?_
        exact ezw_keepE [true, true, true, true, true, true, true, true, true, true] (J97_6 u21 hu21 F A hI)
    refine ezw_if_le rfl rfl hu2 (fun h36_3 => ?_) (fun h36_3 => ?_)
    · exact ezw_keepE [true, true, true, true, true, true, true, true, true, true] (J68_4 (0) ⟨by decide, by decide⟩ F A hI)
    · refine ezw_iload rfl rfl ?_
      refine ezw_iload rfl rfl ?_
      refine ezw_aload_n rfl rfl ?_
      refine ezw_aload_n rfl rfl ?_
      refine ezw_iload_n rfl rfl ?_
      refine ezw_iload rfl rfl ?_
      refine ezw_iload rfl rfl ?_
      refine ezw_iload rfl rfl ?_
      refine ezw_iconst (1) rfl rfl ?_
      refine ezw_iload_n rfl rfl ?_
      refine ezw_ishlO rfl (fun u22 hu22 => ?_)
      refine ezw_iconst (-1) rfl rfl ?_
      refine ezs_ixor rfl (fun u23 hu23 => ?_)
      refine ezs_iand rfl (fun u24 hu24 => ?_)
      refine ezw_call0_5 rfl (by omega) (ezu_at rfl) rfl rfl rfl rfl (ezs_m149_23_30_l2 hI (by omega) (fun q h0 h1 => hzA q (by omega) (by omega)) ha3 (by omega) ha4 ha5 hu24) ?_
      rintro _ _ ⟨⟨F, A, rfl, hI⟩, u25, hu25, rfl⟩
      refine ezw_call2_1 rfl (by omega) rfl rfl (ezs_m152 hI (by omega) hu25) ?_
      rintro _ _ ⟨rfl, u26, hu26, rfl⟩
      refine ezs_imul rfl (fun u27 hu27 => ?_)
      refine ezs_iadd rfl (fun u28 hu28 => ?_)
      refine ezw_istore rfl rfl ?_
      exact ezw_keepE [true, true, true, true, true, true, true, true, true, true] (J68_4 u28 hu28 F A hI)
  · refine ezw_iconst (-1) rfl rfl ?_
    exact ezw_ireturn rfl rfl ⟨⟨F, A, rfl, hI⟩, _, ⟨by decide, by decide⟩, rfl⟩
theorem ezs_m153_23_30_l3 {a2 a3 a4 a5 : Int} {F : Nat → Nat → Int} {A : Nat → Int → Int} (hI : ezs_I fz F0 A0 F A) (hd : 9 ≤ d) (hzA : ∀ q, 24 ≤ q → q < 25 → fz q = false) (ha2 : ezw_in a2) (ga2 : a2 ≤ 2) (ha3 : ezw_in a3) (ha4 : ezw_in a4) (ha5 : ezw_in a5) : ezw_C l ρ B xa Hb D cA 153 d [ezw_p 23, ezw_p 30, ezw_i a2, ezw_i a3, ezw_i a4, ezw_i a5] (ezu_g e F A) (ezs_P e fz F0 A0 ezs_ri) := by
  refine ezw_met (k := 2) rfl rfl ?_
  refine ezw_aload_n rfl rfl ?_
  refine ezw_iconst (5) rfl rfl ?_
  refine ezw_call0_1 rfl (by omega) (ezu_at rfl) rfl rfl rfl rfl (ezs_m95_30 hI (by omega) ⟨by decide, by decide⟩) ?_
  rintro _ _ ⟨rfl, u1, hu1, rfl⟩
  refine ezw_istore rfl rfl ?_
  refine ezw_iload rfl rfl ?_
  refine ezw_if_gt rfl rfl ha4 (fun h9_1 => ?_) (fun h9_1 => ?_)
  · refine ezw_iconst (-1) rfl rfl ?_
    exact ezw_ireturn rfl rfl ⟨⟨F, A, rfl, hI⟩, _, ⟨by decide, by decide⟩, rfl⟩
  · refine ezw_iload rfl rfl ?_
    refine ezw_if_le rfl rfl ⟨by omega, by omega⟩ (fun h14_1 => ?_) (fun h14_1 => ?_)
    · refine ezw_iconst (-1) rfl rfl ?_
      exact ezw_ireturn rfl rfl ⟨⟨F, A, rfl, hI⟩, _, ⟨by decide, by decide⟩, rfl⟩
    · refine ezw_aload_n rfl rfl ?_
      refine ezs_get_i hI rfl rfl rfl rfl rfl rfl (fun u2 hu2 ku2 => ?_)
      refine ezw_aload_n rfl rfl ?_
      refine ezs_getp (p := 33) rfl rfl rfl rfl rfl ?_
      refine ezw_aload_n rfl rfl ?_
      refine ezs_getp (p := 25) rfl rfl rfl rfl rfl ?_
      refine ezw_iload_n rfl rfl ?_
      refine ezw_iconst (1) rfl rfl ?_
      refine ezs_isub rfl (fun u3 hu3 => ?_)
      refine ezw_call3_2 rfl (by omega) rfl rfl (ezs_m27_25 hI (by omega) hu3) ?_
      rintro _ _ ⟨rfl, u4, hu4, rfl⟩
      refine ezw_call3_2 rfl (by omega) rfl rfl (ezs_m27_33 hI (by omega) hu4) ?_
      rintro _ _ ⟨rfl, u5, hu5, rfl⟩
      refine ezw_icmp_eq rfl rfl hu2 hu5 (fun h38_5 => ?_) (fun h38_5 => ?_)
      · refine ezw_iload rfl rfl ?_
        refine ezw_aload_n rfl rfl ?_
        refine ezw_aload_n rfl rfl ?_
        refine ezw_iload_n rfl rfl ?_
        refine ezw_iload_n rfl rfl ?_
        refine ezw_iconst (1) rfl rfl ?_
        refine ezs_isub rfl (fun u6 hu6 => ?_)
        refine ezw_iconst (0) rfl rfl ?_
        refine ezw_iload rfl rfl ?_
        refine ezw_call0_5 rfl (by omega) (ezu_at rfl) rfl rfl rfl rfl (ezs_m149_23_30_l2 hI (by omega) (fun q h0 h1 => hzA q (by omega) (by omega)) ha2 (by omega) hu6 ⟨by decide, by decide⟩ ha5) ?_
        rintro _ _ ⟨⟨F, A, rfl, hI⟩, u7, hu7, rfl⟩
        refine ezw_call2_1 rfl (by omega) rfl rfl (ezs_m152 hI (by omega) hu7) ?_
        rintro _ _ ⟨rfl, u8, hu8, rfl⟩
        refine ezs_imul rfl (fun u9 hu9 => ?_)
        refine ezw_istore rfl rfl ?_
        refine ezw_iload rfl rfl ?_
        refine ezw_bipush (10) rfl rfl ?_
        refine ezw_icmp_ge rfl rfl ⟨by omega, by omega⟩ ⟨by decide, by decide⟩ (fun h67_9 => ?_) (fun h67_9 => ?_)
        · refine ezw_iload rfl rfl ?_
          refine ezw_bipush (10) rfl rfl ?_
          refine ezs_idiv rfl hu9 ⟨by decide, by decide⟩ (by omega) (fun u10 hu10 => ?_)
          exact ezw_ireturn rfl rfl ⟨⟨F, A, rfl, hI⟩, _, hu10, rfl⟩
        · refine ezw_iload rfl rfl ?_
          refine ezw_bipush (10) rfl rfl ?_
          refine ezw_iload rfl rfl ?_
          refine ezs_isub rfl (fun u11 hu11 => ?_)
          refine ezw_aload_n rfl rfl ?_
          refine ezw_aload_n rfl rfl ?_
          refine ezw_iload_n rfl rfl ?_
          refine ezw_iload_n rfl rfl ?_
          refine ezw_iload rfl rfl ?_
          refine ezw_iload rfl rfl ?_
          refine ezw_call0_5 rfl (by omega) (ezu_at rfl) rfl rfl rfl rfl (ezs_m149_23_30_l2 hI (by omega) (fun q h0 h1 => hzA q (by omega) (by omega)) ha2 (by omega) ha3 ha4 ha5) ?_
          rintro _ _ ⟨⟨F, A, rfl, hI⟩, u12, hu12, rfl⟩
          refine ezw_call2_1 rfl (by omega) rfl rfl (ezs_m152 hI (by omega) hu12) ?_
          rintro _ _ ⟨rfl, u13, hu13, rfl⟩
          refine ezs_imul rfl (fun u14 hu14 => ?_)
          refine ezs_iadd rfl (fun u15 hu15 => ?_)
          refine ezw_istore rfl rfl ?_
          refine ezw_iload rfl rfl ?_
          refine ezw_bipush (10) rfl rfl ?_
          refine ezs_idiv rfl hu15 ⟨by decide, by decide⟩ (by omega) (fun u16 hu16 => ?_)
          exact ezw_ireturn rfl rfl ⟨⟨F, A, rfl, hI⟩, _, hu16, rfl⟩
      · refine ezw_iconst (-1) rfl rfl ?_
        exact ezw_ireturn rfl rfl ⟨⟨F, A, rfl, hI⟩, _, ⟨by decide, by decide⟩, rfl⟩
theorem ezs_m151_23_30_l3 {a2 a3 a4 a5 a6 : Int} {F : Nat → Nat → Int} {A : Nat → Int → Int} (hI : ezs_I fz F0 A0 F A) (hd : 9 ≤ d) (hzA : ∀ q, 24 ≤ q → q < 25 → fz q = false) (ha2 : ezw_in a2) (ha3 : ezw_in a3) (ga3 : a3 ≤ 2) (ha4 : ezw_in a4) (ha5 : ezw_in a5) (ha6 : ezw_in a6) : ezw_C l ρ B xa Hb D cA 151 d [ezw_p 23, ezw_p 30, ezw_i a2, ezw_i a3, ezw_i a4, ezw_i a5, ezw_i a6] (ezu_g e F A) (ezs_P e fz F0 A0 ezs_ri) := by
  refine ezw_met (k := 7) rfl rfl ?_
  refine ezw_iload_n rfl rfl ?_
  refine ezw_iconst (1) rfl rfl ?_
  refine ezs_isub rfl (fun u1 hu1 => ?_)
  refine ezw_iconst (4) rfl rfl ?_
  refine ezs_irem rfl hu1 ⟨by decide, by decide⟩ (by omega) (fun u2 hu2 => ?_)
  refine ezw_istore rfl rfl ?_
  refine ezw_iload_n rfl rfl ?_
  refine ezw_iconst (5) rfl rfl ?_
  have J17_3 : ∀ y3 : Int, ezs_b y3 → ∀ F A, ezs_I fz F0 A0 F A → ezw_E l ρ B xa Hb D cA d ezq_re151 (ezs_P e fz F0 A0 ezs_ri) 17 [some (ezw_p 23), some (ezw_p 30), some (ezw_i a2), some (ezw_i a3), some (ezw_i a4), some (ezw_i a5), some (ezw_i a6), some (ezw_i u2), none, none, none, none, none, none] [(ezw_i y3)] (ezu_g e F A) := by
    intro y3 hy3 F A hI
    refine ezw_istore rfl rfl ?_
    refine ezw_aload_n rfl rfl ?_
    refine ezs_getp (p := 25) rfl rfl rfl rfl rfl ?_
    refine ezw_iload rfl rfl ?_
    refine ezw_iconst (1) rfl rfl ?_
    refine ezs_isub rfl (fun u5 hu5 => ?_)
    refine ezw_call3_2 rfl (by omega) rfl rfl (ezs_m27_25 hI (by omega) hu5) ?_
    rintro _ _ ⟨rfl, u6, hu6, rfl⟩
    refine ezw_istore rfl rfl ?_
    refine ezw_aload_n rfl rfl ?_
    refine ezw_iload rfl rfl ?_
    refine ezw_iload rfl rfl ?_
    refine ezw_iload rfl rfl ?_
    refine ezw_iload rfl rfl ?_
    refine ezw_call0_4 rfl (by omega) (ezu_at rfl) rfl rfl rfl rfl (ezs_m113_30 hI (by omega) hu6 ha5 hu2 ⟨by omega, by omega⟩) ?_
    rintro _ _ ⟨rfl, u7, hu7, rfl⟩
    refine ezw_istore rfl rfl ?_
    refine ezw_aload_n rfl rfl ?_
    refine ezw_iload rfl rfl ?_
    refine ezw_iload rfl rfl ?_
    refine ezw_iload rfl rfl ?_
    refine ezw_iload rfl rfl ?_
    refine ezw_call0_4 rfl (by omega) (ezu_at rfl) rfl rfl rfl rfl (ezs_m116_30 hI (by omega) hu6 ha5 hu2 ⟨by omega, by omega⟩) ?_
    rintro _ _ ⟨rfl, u8, hu8, rfl⟩
    refine ezw_istore rfl rfl ?_
    refine ezw_iconst (0) rfl rfl ?_
    refine ezw_istore rfl rfl ?_
    refine ezw_iload rfl rfl ?_
    have J95_9 : ∀ y9 : Int, ezw_in y9 → ∀ F A, ezs_I fz F0 A0 F A → ezw_E l ρ B xa Hb D cA d ezq_re151 (ezs_P e fz F0 A0 ezs_ri) 95 [some (ezw_p 23), some (ezw_p 30), some (ezw_i a2), some (ezw_i a3), some (ezw_i a4), some (ezw_i a5), some (ezw_i a6), some (ezw_i u2), some (ezw_i y3), some (ezw_i u6), some (ezw_i u7), some (ezw_i u8), some (ezw_i y9), none] [] (ezu_g e F A) := by
      intro y9 hy9 F A hI
      refine ezw_iload rfl rfl ?_
      refine ezw_bipush (10) rfl rfl ?_
      have J131_11 : ∀ y11 : Int, ezw_in y11 → ∀ F A, ezs_I fz F0 A0 F A → ezw_E l ρ B xa Hb D cA d ezq_re151 (ezs_P e fz F0 A0 ezs_ri) 131 [some (ezw_p 23), some (ezw_p 30), some (ezw_i a2), some (ezw_i a3), some (ezw_i a4), some (ezw_i a5), some (ezw_i a6), some (ezw_i u2), some (ezw_i y3), some (ezw_i u6), some (ezw_i u7), some (ezw_i u8), some (ezw_i y11), none] [] (ezu_g e F A) := by
        intro y11 hy11 F A hI
        refine ezw_iload rfl rfl ?_
        refine ezw_bipush (10) rfl rfl ?_
        refine ezw_icmp_ge rfl rfl hu7 ⟨by decide, by decide⟩ (fun h135_12 => ?_) (fun h135_12 => ?_)
        · refine ezw_iload rfl rfl ?_
          refine ezw_bipush (100) rfl rfl ?_
          refine ezs_idiv rfl hy11 ⟨by decide, by decide⟩ (by omega) (fun u13 hu13 => ?_)
          exact ezw_ireturn rfl rfl ⟨⟨F, A, rfl, hI⟩, _, hu13, rfl⟩
        · refine ezw_iload rfl rfl ?_
          refine ezw_bipush (10) rfl rfl ?_
          refine ezw_icmp_ge rfl rfl hu8 ⟨by decide, by decide⟩ (fun h142_13 => ?_) (fun h142_13 => ?_)
          · refine ezw_iload rfl rfl ?_
            refine ezw_bipush (100) rfl rfl ?_
            refine ezs_idiv rfl hy11 ⟨by decide, by decide⟩ (by omega) (fun u14 hu14 => ?_)
            exact ezw_ireturn rfl rfl ⟨⟨F, A, rfl, hI⟩, _, hu14, rfl⟩
          · refine ezw_bipush (9) rfl rfl ?_
            refine ezw_iload rfl rfl ?_
            refine ezw_iload rfl rfl ?_
            have J159_15 : ∀ y15 : Int, ezw_in y15 → ∀ F A, ezs_I fz F0 A0 F A → ezw_E l ρ B xa Hb D cA d ezq_re151 (ezs_P e fz F0 A0 ezs_ri) 159 [some (ezw_p 23), some (ezw_p 30), some (ezw_i a2), some (ezw_i a3), some (ezw_i a4), some (ezw_i a5), some (ezw_i a6), some (ezw_i u2), some (ezw_i y3), some (ezw_i u6), some (ezw_i u7), some (ezw_i u8), some (ezw_i y11), none] [(ezw_i y15), (ezw_i a5), (ezw_i (9))] (ezu_g e F A) := by
              intro y15 hy15 F A hI
              refine ezs_iadd rfl (fun u17 hu17 => ?_)
              refine ezw_mminE rfl ⟨by decide, by decide⟩ hu17 rfl (fun u18 hu18 => ?_)
              refine ezw_istore rfl rfl ?_
              refine ezw_iload rfl rfl ?_
              refine ezw_bipush (10) rfl rfl ?_
              refine ezw_iload rfl rfl ?_
              refine ezs_isub rfl (fun u19 hu19 => ?_)
              refine ezw_bipush (10) rfl rfl ?_
              refine ezw_iload rfl rfl ?_
              refine ezs_isub rfl (fun u20 hu20 => ?_)
              refine ezs_imul rfl (fun u21 hu21 => ?_)
              refine ezw_aload_n rfl rfl ?_
              refine ezw_aload_n rfl rfl ?_
              refine ezw_iload_n rfl rfl ?_
              refine ezw_iload rfl rfl ?_
              refine ezw_iload rfl rfl ?_
              refine ezw_iload rfl rfl ?_
              refine ezw_call0_5 rfl (by omega) (ezu_at rfl) rfl rfl rfl rfl (ezs_m149_23_30_l2 hI (by omega) (fun q h0 h1 => hzA q (by omega) (by omega)) ha3 (by omega) ha4 ⟨by omega, by omega⟩ ha6) ?_
              rintro _ _ ⟨⟨F, A, rfl, hI⟩, u22, hu22, rfl⟩
              refine ezw_call2_1 rfl (by omega) rfl rfl (ezs_m152 hI (by omega) hu22) ?_
              rintro _ _ ⟨rfl, u23, hu23, rfl⟩
              refine ezs_imul rfl (fun u24 hu24 => ?_)
              refine ezs_iadd rfl (fun u25 hu25 => ?_)
              refine ezw_istore rfl rfl ?_
              refine ezw_iload rfl rfl ?_
              refine ezw_bipush (100) rfl rfl ?_
              refine ezs_idiv rfl hu25 ⟨by decide, by decide⟩ (by omega) (fun u26 hu26 => ?_)
              exact ezw_ireturn rfl rfl ⟨⟨F, A, rfl, hI⟩, _, hu26, rfl⟩
            refine ezw_if_eq rfl rfl ⟨by omega, by omega⟩ (fun h151_14 => ?_) (fun h151_14 => ?_)
            · refine ezw_iconst (1) rfl rfl ?_
              exact ezw_keepE [true, true, true, true, true, true, true, true, true, true, true, true, true, false] (J159_15 (1) ⟨by decide, by decide⟩ F A hI)
            · refine ezw_iconst (2) rfl rfl ?_
              refine ezw_goto rfl rfl ?_
              exact ezw_keepE [true, true, true, true, true, true, true, true, true, true, true, true, true, false] (J159_15 (2) ⟨by decide, by decide⟩ F A hI)
      refine ezw_icmp_ge rfl rfl hu7 ⟨by decide, by decide⟩ (fun h99_10 => ?_) (fun h99_10 => ?_)
      · exact ezw_keepE [true, true, true, true, true, true, true, true, true, true, true, true, true, false] (J131_11 y9 hy9 F A hI)
      · refine ezw_iload rfl rfl ?_
        refine ezw_if_le rfl rfl hu8 (fun h104_26 => ?_) (fun h104_26 => ?_)
        · exact ezw_keepE [true, true, true, true, true, true, true, true, true, true, true, true, true, false] (J131_11 y9 hy9 F A hI)
        · refine ezw_iload rfl rfl ?_
          refine ezw_bipush (10) rfl rfl ?_
          refine ezw_iload rfl rfl ?_
          refine ezs_isub rfl (fun u27 hu27 => ?_)
          refine ezw_iload rfl rfl ?_
          refine ezs_imul rfl (fun u28 hu28 => ?_)
          refine ezw_sipush (1000) rfl rfl ?_
          refine ezs_imul rfl (fun u29 hu29 => ?_)
          refine ezw_aload_n rfl rfl ?_
          refine ezw_iload rfl rfl ?_
          refine ezw_call0_1 rfl (by omega) (ezu_at rfl) rfl rfl rfl rfl (ezs_m144_30 hI (by omega) ha6) ?_
          rintro _ _ ⟨rfl, u30, hu30, rfl⟩
          refine ezs_imul rfl (fun u31 hu31 => ?_)
          refine ezs_iadd rfl (fun u32 hu32 => ?_)
          refine ezw_istore rfl rfl ?_
          exact ezw_keepE [true, true, true, true, true, true, true, true, true, true, true, true, true, false] (J131_11 u32 hu32 F A hI)
    refine ezw_if_le rfl rfl hu7 (fun h65_8 => ?_) (fun h65_8 => ?_)
    · exact ezw_keepE [true, true, true, true, true, true, true, true, true, true, true, true, true, false] (J95_9 (0) ⟨by decide, by decide⟩ F A hI)
    · refine ezw_iload rfl rfl ?_
      refine ezw_bipush (10) rfl rfl ?_
      refine ezw_iload rfl rfl ?_
      refine ezs_imul rfl (fun u33 hu33 => ?_)
      refine ezw_aload_n rfl rfl ?_
      refine ezw_aload_n rfl rfl ?_
      refine ezw_iload_n rfl rfl ?_
      refine ezw_iload rfl rfl ?_
      refine ezw_iconst (1) rfl rfl ?_
      refine ezs_isub rfl (fun u34 hu34 => ?_)
      refine ezw_iconst (0) rfl rfl ?_
      refine ezw_iload rfl rfl ?_
      refine ezw_call0_5 rfl (by omega) (ezu_at rfl) rfl rfl rfl rfl (ezs_m149_23_30_l2 hI (by omega) (fun q h0 h1 => hzA q (by omega) (by omega)) ha3 (by omega) hu34 ⟨by decide, by decide⟩ ha6) ?_
      rintro _ _ ⟨⟨F, A, rfl, hI⟩, u35, hu35, rfl⟩
      refine ezw_call2_1 rfl (by omega) rfl rfl (ezs_m152 hI (by omega) hu35) ?_
      rintro _ _ ⟨rfl, u36, hu36, rfl⟩
      refine ezs_imul rfl (fun u37 hu37 => ?_)
      refine ezs_iadd rfl (fun u38 hu38 => ?_)
      refine ezw_istore rfl rfl ?_
      exact ezw_keepE [true, true, true, true, true, true, true, true, true, true, true, true, true, false] (J95_9 u38 hu38 F A hI)
  refine ezw_icmp_lt rfl rfl ha2 ⟨by decide, by decide⟩ (fun h9_2 => ?_) (fun h9_2 => ?_)
  · refine ezw_iconst (0) rfl rfl ?_
    exact ezw_keepE [true, true, true, true, true, true, true, true, false, false, false, false, false, false] (J17_3 (0) ⟨by omega, by omega⟩ F A hI)
  · refine ezw_iconst (1) rfl rfl ?_
    refine ezw_goto rfl rfl ?_
    exact ezw_keepE [true, true, true, true, true, true, true, true, false, false, false, false, false, false] (J17_3 (1) ⟨by omega, by omega⟩ F A hI)
theorem ezs_m150_23_30_l3 {a2 a3 a4 a5 a6 : Int} {F : Nat → Nat → Int} {A : Nat → Int → Int} (hI : ezs_I fz F0 A0 F A) (hd : 10 ≤ d) (hzA : ∀ q, 24 ≤ q → q < 25 → fz q = false) (ha2 : ezw_in a2) (ha3 : ezw_in a3) (ga3 : a3 ≤ 2) (ha4 : ezw_in a4) (ha5 : ezw_in a5) (ha6 : ezw_in a6) : ezw_C l ρ B xa Hb D cA 150 d [ezw_p 23, ezw_p 30, ezw_i a2, ezw_i a3, ezw_i a4, ezw_i a5, ezw_i a6] (ezu_g e F A) (ezs_P e fz F0 A0 ezs_ri) := by
  refine ezw_met (k := 0) rfl rfl ?_
  refine ezw_iload_n rfl rfl ?_
  refine ezw_bipush (9) rfl rfl ?_
  refine ezw_icmp_ge rfl rfl ha2 ⟨by decide, by decide⟩ (fun h3_0 => ?_) (fun h3_0 => ?_)
  · refine ezw_iload_n rfl rfl ?_
    refine ezw_bipush (9) rfl rfl ?_
    refine ezw_icmp_ne rfl rfl ha2 ⟨by decide, by decide⟩ (fun h23_0 => ?_) (fun h23_0 => ?_)
    · refine ezw_iload_n rfl rfl ?_
      refine ezw_bipush (10) rfl rfl ?_
      refine ezw_icmp_ne rfl rfl ha2 ⟨by decide, by decide⟩ (fun h56_0 => ?_) (fun h56_0 => ?_)
      · refine ezw_aload_n rfl rfl ?_
        refine ezw_aload_n rfl rfl ?_
        refine ezw_iload_n rfl rfl ?_
        refine ezw_bipush (11) rfl rfl ?_
        refine ezs_isub rfl (fun u1 hu1 => ?_)
        refine ezw_iload_n rfl rfl ?_
        refine ezw_iload rfl rfl ?_
        refine ezw_iload rfl rfl ?_
        refine ezw_iload rfl rfl ?_
        refine ezw_call0_6 rfl (by omega) (ezu_at rfl) rfl rfl rfl rfl (ezs_m154_23_30_l3 hI (by omega) (fun q h0 h1 => hzA q (by omega) (by omega)) hu1 ha3 (by omega) ha4 ha5 ha6) ?_
        rintro _ _ ⟨⟨F, A, rfl, hI⟩, u2, hu2, rfl⟩
        exact ezw_ireturn rfl rfl ⟨⟨F, A, rfl, hI⟩, _, hu2, rfl⟩
      · refine ezw_aload_n rfl rfl ?_
        refine ezw_aload_n rfl rfl ?_
        refine ezw_iload_n rfl rfl ?_
        refine ezw_iload rfl rfl ?_
        refine ezw_iload rfl rfl ?_
        refine ezw_iload rfl rfl ?_
        refine ezw_call0_5 rfl (by omega) (ezu_at rfl) rfl rfl rfl rfl (ezs_m153_23_30_l3 hI (by omega) (fun q h0 h1 => hzA q (by omega) (by omega)) ha3 (by omega) ha4 ha5 ha6) ?_
        rintro _ _ ⟨⟨F, A, rfl, hI⟩, u3, hu3, rfl⟩
        exact ezw_ireturn rfl rfl ⟨⟨F, A, rfl, hI⟩, _, hu3, rfl⟩
    · refine ezw_iload rfl rfl ?_
      refine ezw_if_le rfl rfl ha5 (fun h28_3 => ?_) (fun h28_3 => ?_)
      · refine ezw_iconst (-1) rfl rfl ?_
        exact ezw_ireturn rfl rfl ⟨⟨F, A, rfl, hI⟩, _, ⟨by decide, by decide⟩, rfl⟩
      · refine ezw_aload_n rfl rfl ?_
        refine ezw_aload_n rfl rfl ?_
        refine ezw_iload_n rfl rfl ?_
        refine ezw_iload rfl rfl ?_
        refine ezw_iload rfl rfl ?_
        refine ezw_iconst (1) rfl rfl ?_
        refine ezs_isub rfl (fun u4 hu4 => ?_)
        refine ezw_iload rfl rfl ?_
        refine ezw_call0_5 rfl (by omega) (ezu_at rfl) rfl rfl rfl rfl (ezs_m149_23_30_l2 hI (by omega) (fun q h0 h1 => hzA q (by omega) (by omega)) ha3 (by omega) ha4 hu4 ha6) ?_
        rintro _ _ ⟨⟨F, A, rfl, hI⟩, u5, hu5, rfl⟩
        refine ezw_call2_1 rfl (by omega) rfl rfl (ezs_m152 hI (by omega) hu5) ?_
        rintro _ _ ⟨rfl, u6, hu6, rfl⟩
        refine ezw_goto rfl rfl ?_
        exact ezw_ireturn rfl rfl ⟨⟨F, A, rfl, hI⟩, _, hu6, rfl⟩
  · refine ezw_aload_n rfl rfl ?_
    refine ezw_aload_n rfl rfl ?_
    refine ezw_iload_n rfl rfl ?_
    refine ezw_iload_n rfl rfl ?_
    refine ezw_iload rfl rfl ?_
    refine ezw_iload rfl rfl ?_
    refine ezw_iload rfl rfl ?_
    refine ezw_call0_6 rfl (by omega) (ezu_at rfl) rfl rfl rfl rfl (ezs_m151_23_30_l3 hI (by omega) (fun q h0 h1 => hzA q (by omega) (by omega)) ha2 ha3 (by omega) ha4 ha5 ha6) ?_
    rintro _ _ ⟨⟨F, A, rfl, hI⟩, u7, hu7, rfl⟩
    exact ezw_ireturn rfl rfl ⟨⟨F, A, rfl, hI⟩, _, hu7, rfl⟩
theorem ezs_m149_23_30_l3 {a2 a3 a4 a5 : Int} {F : Nat → Nat → Int} {A : Nat → Int → Int} (hI : ezs_I fz F0 A0 F A) (hd : 11 ≤ d) (hzA : ∀ q, 24 ≤ q → q < 25 → fz q = false) (ha2 : ezw_in a2) (ga2 : a2 ≤ 3) (ha3 : ezw_in a3) (ha4 : ezw_in a4) (ha5 : ezw_in a5) : ezw_C l ρ B xa Hb D cA 149 d [ezw_p 23, ezw_p 30, ezw_i a2, ezw_i a3, ezw_i a4, ezw_i a5] (ezu_g e F A) (ezs_P e fz F0 A0 ezs_ri) := by
  refine ezw_met (k := 5) rfl rfl ?_
  refine ezw_sipush (1000) rfl rfl ?_
  refine ezw_aload_n rfl rfl ?_
  refine ezw_iload rfl rfl ?_
  refine ezw_call0_1 rfl (by omega) (ezu_at rfl) rfl rfl rfl rfl (ezs_m144_30 hI (by omega) ha5) ?_
  rintro _ _ ⟨rfl, u1, hu1, rfl⟩
  refine ezw_iload_n rfl rfl ?_
  have J21_2 : ∀ y2 : Int, ezw_in y2 → ∀ F A, ezs_I fz F0 A0 F A → ezw_E l ρ B xa Hb D cA d ezq_re149 (ezs_P e fz F0 A0 ezs_ri) 21 [some (ezw_p 23), some (ezw_p 30), some (ezw_i a2), some (ezw_i a3), some (ezw_i a4), some (ezw_i a5), none, none, none, none, none] [(ezw_i y2), (ezw_i u1), (ezw_i (1000))] (ezu_g e F A) := by
    intro y2 hy2 F A hI
    refine ezs_iadd rfl (fun u4 hu4 => ?_)
    refine ezs_imul rfl (fun u5 hu5 => ?_)
    refine ezw_istore rfl rfl ?_
    refine ezw_iconst (0) rfl rfl ?_
    refine ezw_istore rfl rfl ?_
    refine ezw_iload_n rfl rfl ?_
    refine ezw_if_le rfl rfl ha2 (fun h29_5 => ?_) (fun h29_5 => ?_)
    · refine ezw_iload rfl rfl ?_
      refine ezw_bipush (16) rfl rfl ?_
      refine ezs_imul rfl (fun u6 hu6 => ?_)
      refine ezw_iload rfl rfl ?_
      refine ezs_iadd rfl (fun u7 hu7 => ?_)
      exact ezw_ireturn rfl rfl ⟨⟨F, A, rfl, hI⟩, _, hu7, rfl⟩
    · refine ezw_iload_n rfl rfl ?_
      refine ezw_if_gt rfl rfl ha3 (fun h33_7 => ?_) (fun h33_7 => ?_)
      · refine ezw_iload_n rfl rfl ?_
        refine ezw_iconst (1) rfl rfl ?_
        refine ezs_isub rfl (fun u8 hu8 => ?_)
        refine ezw_bipush (6) rfl rfl ?_
        refine ezs_imul rfl (fun u9 hu9 => ?_)
        refine ezw_iload_n rfl rfl ?_
        refine ezs_iadd rfl (fun u10 hu10 => ?_)
        refine ezw_iconst (1) rfl rfl ?_
        refine ezs_isub rfl (fun u11 hu11 => ?_)
        refine ezw_bipush (10) rfl rfl ?_
        refine ezs_imul rfl (fun u12 hu12 => ?_)
        refine ezw_iload rfl rfl ?_
        refine ezs_iadd rfl (fun u13 hu13 => ?_)
        refine ezw_bipush (16) rfl rfl ?_
        refine ezs_imul rfl (fun u14 hu14 => ?_)
        refine ezw_iload rfl rfl ?_
        refine ezs_iadd rfl (fun u15 hu15 => ?_)
        refine ezw_istore rfl rfl ?_
        refine ezw_aload_n rfl rfl ?_
        refine ezs_getp (p := 24) rfl rfl rfl rfl rfl ?_
        refine ezw_iload rfl rfl ?_
        refine ezw_call3_2 rfl (by omega) rfl rfl (ezs_m27_24 hI (by omega) hu15) ?_
        rintro _ _ ⟨rfl, u16, hu16, rfl⟩
        refine ezw_iconst (-1) rfl rfl ?_
        refine ezw_icmp_eq rfl rfl hu16 ⟨by decide, by decide⟩ (fun h79_16 => ?_) (fun h79_16 => ?_)
        · refine ezw_iconst (1) rfl rfl ?_
          refine ezw_istore rfl rfl ?_
          have L95_19 : ∀ c19 : Int, ezw_in c19 → (1) ≤ c19 → ∀ y17 : Int, ezw_in y17 → ∀ y18 : Int, ezw_in y18 → ∀ F A, ezs_I fz F0 A0 F A → ezw_E l ρ B xa Hb D cA d ezq_re149 (ezs_P e fz F0 A0 ezs_ri) 95 [some (ezw_p 23), some (ezw_p 30), some (ezw_i a2), some (ezw_i a3), some (ezw_i a4), some (ezw_i a5), some (ezw_i y17), some (ezw_i y18), some (ezw_i u15), some (ezw_i c19), none] [] (ezu_g e F A) := by
            refine ezs_up ?_
            intro c19 hc19 ihc19 gc19 y17 hy17 y18 hy18 F A hI
            refine ezw_iload rfl rfl ?_
            refine ezw_bipush (15) rfl rfl ?_
            have J140_23 : ∀ y21 : Int, ezw_in y21 → ∀ y22 : Int, ezw_in y22 → ∀ y23 : Int, ezw_in y23 → ∀ F A, ezs_I fz F0 A0 F A → ezw_E l ρ B xa Hb D cA d ezq_re149 (ezs_P e fz F0 A0 ezs_ri) 140 [some (ezw_p 23), some (ezw_p 30), some (ezw_i a2), some (ezw_i a3), some (ezw_i a4), some (ezw_i a5), some (ezw_i y21), some (ezw_i y22), some (ezw_i u15), some (ezw_i y23), none] [] (ezu_g e F A) := by
              intro y21 hy21 y22 hy22 y23 hy23 F A hI
              refine ezw_aload_n rfl rfl ?_
              refine ezs_getp (p := 24) rfl rfl rfl rfl rfl ?_
              refine ezw_iload rfl rfl ?_
              refine ezw_iload rfl rfl ?_
              refine ezw_bipush (16) rfl rfl ?_
              refine ezs_imul rfl (fun u25 hu25 => ?_)
              refine ezw_iload rfl rfl ?_
              refine ezs_iadd rfl (fun u26 hu26 => ?_)
              refine ezw_call3_3 rfl (by omega) rfl rfl (ezs_m21_24 hI (by omega) (fun q h0 h1 => hzA q (by omega) (by omega)) hu15 hu26) ?_
              rintro _ _ ⟨⟨F, A, rfl, hI⟩, rfl⟩
              refine ezw_iload rfl rfl ?_
              refine ezw_bipush (16) rfl rfl ?_
              refine ezs_imul rfl (fun u27 hu27 => ?_)
              refine ezw_iload rfl rfl ?_
              refine ezs_iadd rfl (fun u28 hu28 => ?_)
              exact ezw_ireturn rfl rfl ⟨⟨F, A, rfl, hI⟩, _, hu28, rfl⟩
            refine ezw_icmp_ge rfl rfl hc19 ⟨by decide, by decide⟩ (fun h99_20 => ?_) (fun h99_20 => ?_)
            · exact ezw_keepE [true, true, true, true, true, true, true, true, true, true, false] (J140_23 y17 hy17 y18 hy18 c19 hc19 F A hI)
            · refine ezw_aload_n rfl rfl ?_
              refine ezw_aload_n rfl rfl ?_
              refine ezw_iload rfl rfl ?_
              refine ezw_iload_n rfl rfl ?_
              refine ezw_iconst (1) rfl rfl ?_
              refine ezw_isub rfl rfl ?_
              refine ezw_iload_n rfl rfl ?_
              refine ezw_iload rfl rfl ?_
              refine ezw_iload rfl rfl ?_
              refine ezw_call0_6 rfl (by omega) (ezu_at rfl) rfl rfl rfl rfl (ezs_m150_23_30_l3 hI (by omega) (fun q h0 h1 => hzA q (by omega) (by omega)) hc19 ⟨by omega, by omega⟩ (by omega) ha3 ha4 ha5) ?_
              rintro _ _ ⟨⟨F, A, rfl, hI⟩, u29, hu29, rfl⟩
              refine ezw_istore rfl rfl ?_
              refine ezw_iload rfl rfl ?_
              refine ezw_iload rfl rfl ?_
              refine ezw_icmp_le rfl rfl hu29 hy17 (fun h123_29 => ?_) (fun h123_29 => ?_)
              · refine ezw_iinc (1) rfl rfl rfl rfl rfl ?_
                refine ezw_goto rfl rfl ?_
                exact ezw_keepE [true, true, true, true, true, true, true, true, true, true, false] (ihc19 (c19 + (1)) (by omega) ⟨by omega, by omega⟩ (by omega) y17 hy17 y18 hy18 F A hI)
              · refine ezw_iload rfl rfl ?_
                refine ezw_istore rfl rfl ?_
                refine ezw_iload rfl rfl ?_
                refine ezw_istore rfl rfl ?_
                refine ezw_iinc (1) rfl rfl rfl rfl rfl ?_
                refine ezw_goto rfl rfl ?_
                exact ezw_keepE [true, true, true, true, true, true, true, true, true, true, false] (ihc19 (c19 + (1)) (by omega) ⟨by omega, by omega⟩ (by omega) u29 hu29 c19 hc19 F A hI)
          exact ezw_keepE [true, true, true, true, true, true, true, true, true, true, false] (L95_19 (1) ⟨by decide, by decide⟩ (by omega) u5 hu5 (0) ⟨by decide, by decide⟩ F A hI)
        · refine ezw_aload_n rfl rfl ?_
          refine ezs_getp (p := 24) rfl rfl rfl rfl rfl ?_
          refine ezw_iload rfl rfl ?_
          refine ezw_call3_2 rfl (by omega) rfl rfl (ezs_m27_24 hI (by omega) hu15) ?_
          rintro _ _ ⟨rfl, u30, hu30, rfl⟩
          exact ezw_ireturn rfl rfl ⟨⟨F, A, rfl, hI⟩, _, hu30, rfl⟩
      · refine ezw_iload rfl rfl ?_
        refine ezw_bipush (16) rfl rfl ?_
        refine ezs_imul rfl (fun u31 hu31 => ?_)
        refine ezw_iload rfl rfl ?_
        refine ezs_iadd rfl (fun u32 hu32 => ?_)
        exact ezw_ireturn rfl rfl ⟨⟨F, A, rfl, hI⟩, _, hu32, rfl⟩
  refine ezw_if_le rfl rfl ha3 (fun h10_1 => ?_) (fun h10_1 => ?_)
  · refine ezw_aload_n rfl rfl ?_
    refine ezs_get_i hI rfl rfl rfl rfl rfl rfl (fun u33 hu33 ku33 => ?_)
    exact ezw_keepE [true, true, true, true, true, true, false, false, false, false, false] (J21_2 u33 hu33 F A hI)
  · refine ezw_iconst (0) rfl rfl ?_
    refine ezw_goto rfl rfl ?_
    exact ezw_keepE [true, true, true, true, true, true, false, false, false, false, false] (J21_2 (0) ⟨by decide, by decide⟩ F A hI)
theorem ezs_m154_23_30_l4 {a2 a3 a4 a5 a6 : Int} {F : Nat → Nat → Int} {A : Nat → Int → Int} (hI : ezs_I fz F0 A0 F A) (hd : 12 ≤ d) (hzA : ∀ q, 24 ≤ q → q < 25 → fz q = false) (ha2 : ezw_in a2) (ha3 : ezw_in a3) (ga3 : a3 ≤ 3) (ha4 : ezw_in a4) (ha5 : ezw_in a5) (ha6 : ezw_in a6) : ezw_C l ρ B xa Hb D cA 154 d [ezw_p 23, ezw_p 30, ezw_i a2, ezw_i a3, ezw_i a4, ezw_i a5, ezw_i a6] (ezu_g e F A) (ezs_P e fz F0 A0 ezs_ri) := by
  refine ezw_met (k := 3) rfl rfl ?_
  refine ezw_iload rfl rfl ?_
  refine ezw_iload_n rfl rfl ?_
  refine ezw_call3_2 rfl (by omega) rfl rfl (ezs_m49 hI (by omega) ha6 ha2) ?_
  rintro _ _ ⟨rfl, u1, hu1, rfl⟩
  refine ezw_if_ne rfl rfl hu1 (fun h6_1 => ?_) (fun h6_1 => ?_)
  · refine ezw_aload_n rfl rfl ?_
    refine ezs_getp (p := 36) rfl rfl rfl rfl rfl ?_
    refine ezw_iload_n rfl rfl ?_
    refine ezw_call3_2 rfl (by omega) rfl rfl (ezs_m27_36 hI (by omega) ha2) ?_
    rintro _ _ ⟨rfl, u2, hu2, rfl⟩
    refine ezw_istore rfl rfl ?_
    refine ezw_aload_n rfl rfl ?_
    refine ezs_getp (p := 37) rfl rfl rfl rfl rfl ?_
    refine ezw_iload_n rfl rfl ?_
    refine ezw_call3_2 rfl (by omega) rfl rfl (ezs_m27_37 hI (by omega) ha2) ?_
    rintro _ _ ⟨rfl, u3, hu3, rfl⟩
    refine ezw_istore rfl rfl ?_
    refine ezw_iconst (0) rfl rfl ?_
    refine ezw_istore rfl rfl ?_
    refine ezw_iload rfl rfl ?_
    have J68_4 : ∀ y4 : Int, ezw_in y4 → ∀ F A, ezs_I fz F0 A0 F A → ezw_E l ρ B xa Hb D cA d ezq_re154 (ezs_P e fz F0 A0 ezs_ri) 68 [some (ezw_p 23), some (ezw_p 30), some (ezw_i a2), some (ezw_i a3), some (ezw_i a4), some (ezw_i a5), some (ezw_i a6), some (ezw_i u2), some (ezw_i u3), some (ezw_i y4)] [] (ezu_g e F A) := by
      intro y4 hy4 F A hI
      refine ezw_iload rfl rfl ?_
      have J97_6 : ∀ y6 : Int, ezw_in y6 → ∀ F A, ezs_I fz F0 A0 F A → ezw_E l ρ B xa Hb D cA d ezq_re154 (ezs_P e fz F0 A0 ezs_ri) 97 [some (ezw_p 23), some (ezw_p 30), some (ezw_i a2), some (ezw_i a3), some (ezw_i a4), some (ezw_i a5), some (ezw_i a6), some (ezw_i u2), some (ezw_i u3), some (ezw_i y6)] [] (ezu_g e F A) := by
        intro y6 hy6 F A hI
        refine ezw_iload rfl rfl ?_
        refine ezw_iload rfl rfl ?_
        refine ezs_iadd rfl (fun u8 hu8 => ?_)
        refine ezw_bipush (10) rfl rfl ?_
        refine ezw_icmp_ge rfl rfl hu8 ⟨by decide, by decide⟩ (fun h104_8 => ?_) (fun h104_8 => ?_)
        · refine ezw_iload rfl rfl ?_
          refine ezw_bipush (10) rfl rfl ?_
          refine ezs_idiv rfl hy6 ⟨by decide, by decide⟩ (by omega) (fun u9 hu9 => ?_)
          exact ezw_ireturn rfl rfl ⟨⟨F, A, rfl, hI⟩, _, hu9, rfl⟩
        · refine ezw_iload rfl rfl ?_
          refine ezw_bipush (10) rfl rfl ?_
          refine ezw_iload rfl rfl ?_
          refine ezs_isub rfl (fun u10 hu10 => ?_)
          refine ezw_iload rfl rfl ?_
          refine ezs_isub rfl (fun u11 hu11 => ?_)
          refine ezw_aload_n rfl rfl ?_
          refine ezw_aload_n rfl rfl ?_
          refine ezw_iload_n rfl rfl ?_
          refine ezw_iload rfl rfl ?_
          refine ezw_iload rfl rfl ?_
          refine ezw_iload rfl rfl ?_
          refine ezw_call0_5 rfl (by omega) (ezu_at rfl) rfl rfl rfl rfl (ezs_m149_23_30_l3 hI (by omega) (fun q h0 h1 => hzA q (by omega) (by omega)) ha3 (by omega) ha4 ha5 ha6) ?_
          rintro _ _ ⟨⟨F, A, rfl, hI⟩, u12, hu12, rfl⟩
          refine ezw_call2_1 rfl (by omega) rfl rfl (ezs_m152 hI (by omega) hu12) ?_
          rintro _ _ ⟨rfl, u13, hu13, rfl⟩
          refine ezs_imul rfl (fun u14 hu14 => ?_)
          refine ezs_iadd rfl (fun u15 hu15 => ?_)
          refine ezw_istore rfl rfl ?_
          refine ezw_iload rfl rfl ?_
          refine ezw_bipush (10) rfl rfl ?_
          refine ezs_idiv rfl hu15 ⟨by decide, by decide⟩ (by omega) (fun u16 hu16 => ?_)
          exact ezw_ireturn rfl rfl ⟨⟨F, A, rfl, hI⟩, _, hu16, rfl⟩
      refine ezw_if_le rfl rfl hu3 (fun h70_5 => ?_) (fun h70_5 => ?_)
      · exact ezw_keepE [true, true, true, true, true, true, true, true, true, true] (J97_6 y4 hy4 F A hI)
      · refine ezw_iload rfl rfl ?_
        refine ezw_iload rfl rfl ?_
        refine ezw_aload_n rfl rfl ?_
        refine ezw_aload_n rfl rfl ?_
        refine ezw_iload_n rfl rfl ?_
        refine ezw_iload rfl rfl ?_
        refine ezw_iconst (1) rfl rfl ?_
        refine ezs_isub rfl (fun u17 hu17 => ?_)
        refine ezw_iconst (0) rfl rfl ?_
        refine ezw_iload rfl rfl ?_
        refine ezw_call0_5 rfl (by omega) (ezu_at rfl) rfl rfl rfl rfl (ezs_m149_23_30_l3 hI (by omega) (fun q h0 h1 => hzA q (by omega) (by omega)) ha3 (by omega) hu17 ⟨by decide, by decide⟩ ha6) ?_
        rintro _ _ ⟨⟨F, A, rfl, hI⟩, u18, hu18, rfl⟩
        refine ezw_call2_1 rfl (by omega) rfl rfl (ezs_m152 hI (by omega) hu18) ?_
        rintro _ _ ⟨rfl, u19, hu19, rfl⟩
        refine ezs_imul rfl (fun u20 hu20 => ?_)
        refine ezs_iadd rfl (fun u21 hu21 => ?_)
        refine ezw_istore rfl rfl ?_
        exact ezw_keepE [true, true, true, true, true, true, true, true, true, true] (J97_6 u21 hu21 F A hI)
    refine ezw_if_le rfl rfl hu2 (fun h36_3 => ?_) (fun h36_3 => ?_)
    · exact ezw_keepE [true, true, true, true, true, true, true, true, true, true] (J68_4 (0) ⟨by decide, by decide⟩ F A hI)
    · refine ezw_iload rfl rfl ?_
      refine ezw_iload rfl rfl ?_
      refine ezw_aload_n rfl rfl ?_
      refine ezw_aload_n rfl rfl ?_
      refine ezw_iload_n rfl rfl ?_
      refine ezw_iload rfl rfl ?_
      refine ezw_iload rfl rfl ?_
      refine ezw_iload rfl rfl ?_
      refine ezw_iconst (1) rfl rfl ?_
      refine ezw_iload_n rfl rfl ?_
      refine ezw_ishlO rfl (fun u22 hu22 => ?_)
      refine ezw_iconst (-1) rfl rfl ?_
      refine ezs_ixor rfl (fun u23 hu23 => ?_)
      refine ezs_iand rfl (fun u24 hu24 => ?_)
      refine ezw_call0_5 rfl (by omega) (ezu_at rfl) rfl rfl rfl rfl (ezs_m149_23_30_l3 hI (by omega) (fun q h0 h1 => hzA q (by omega) (by omega)) ha3 (by omega) ha4 ha5 hu24) ?_
      rintro _ _ ⟨⟨F, A, rfl, hI⟩, u25, hu25, rfl⟩
      refine ezw_call2_1 rfl (by omega) rfl rfl (ezs_m152 hI (by omega) hu25) ?_
      rintro _ _ ⟨rfl, u26, hu26, rfl⟩
      refine ezs_imul rfl (fun u27 hu27 => ?_)
      refine ezs_iadd rfl (fun u28 hu28 => ?_)
      refine ezw_istore rfl rfl ?_
      exact ezw_keepE [true, true, true, true, true, true, true, true, true, true] (J68_4 u28 hu28 F A hI)
  · refine ezw_iconst (-1) rfl rfl ?_
    exact ezw_ireturn rfl rfl ⟨⟨F, A, rfl, hI⟩, _, ⟨by decide, by decide⟩, rfl⟩
theorem ezs_m153_23_30_l4 {a2 a3 a4 a5 : Int} {F : Nat → Nat → Int} {A : Nat → Int → Int} (hI : ezs_I fz F0 A0 F A) (hd : 12 ≤ d) (hzA : ∀ q, 24 ≤ q → q < 25 → fz q = false) (ha2 : ezw_in a2) (ga2 : a2 ≤ 3) (ha3 : ezw_in a3) (ha4 : ezw_in a4) (ha5 : ezw_in a5) : ezw_C l ρ B xa Hb D cA 153 d [ezw_p 23, ezw_p 30, ezw_i a2, ezw_i a3, ezw_i a4, ezw_i a5] (ezu_g e F A) (ezs_P e fz F0 A0 ezs_ri) := by
  refine ezw_met (k := 2) rfl rfl ?_
  refine ezw_aload_n rfl rfl ?_
  refine ezw_iconst (5) rfl rfl ?_
  refine ezw_call0_1 rfl (by omega) (ezu_at rfl) rfl rfl rfl rfl (ezs_m95_30 hI (by omega) ⟨by decide, by decide⟩) ?_
  rintro _ _ ⟨rfl, u1, hu1, rfl⟩
  refine ezw_istore rfl rfl ?_
  refine ezw_iload rfl rfl ?_
  refine ezw_if_gt rfl rfl ha4 (fun h9_1 => ?_) (fun h9_1 => ?_)
  · refine ezw_iconst (-1) rfl rfl ?_
    exact ezw_ireturn rfl rfl ⟨⟨F, A, rfl, hI⟩, _, ⟨by decide, by decide⟩, rfl⟩
  · refine ezw_iload rfl rfl ?_
    refine ezw_if_le rfl rfl ⟨by omega, by omega⟩ (fun h14_1 => ?_) (fun h14_1 => ?_)
    · refine ezw_iconst (-1) rfl rfl ?_
      exact ezw_ireturn rfl rfl ⟨⟨F, A, rfl, hI⟩, _, ⟨by decide, by decide⟩, rfl⟩
    · refine ezw_aload_n rfl rfl ?_
      refine ezs_get_i hI rfl rfl rfl rfl rfl rfl (fun u2 hu2 ku2 => ?_)
      refine ezw_aload_n rfl rfl ?_
      refine ezs_getp (p := 33) rfl rfl rfl rfl rfl ?_
      refine ezw_aload_n rfl rfl ?_
      refine ezs_getp (p := 25) rfl rfl rfl rfl rfl ?_
      refine ezw_iload_n rfl rfl ?_
      refine ezw_iconst (1) rfl rfl ?_
      refine ezs_isub rfl (fun u3 hu3 => ?_)
      refine ezw_call3_2 rfl (by omega) rfl rfl (ezs_m27_25 hI (by omega) hu3) ?_
      rintro _ _ ⟨rfl, u4, hu4, rfl⟩
      refine ezw_call3_2 rfl (by omega) rfl rfl (ezs_m27_33 hI (by omega) hu4) ?_
      rintro _ _ ⟨rfl, u5, hu5, rfl⟩
      refine ezw_icmp_eq rfl rfl hu2 hu5 (fun h38_5 => ?_) (fun h38_5 => ?_)
      · refine ezw_iload rfl rfl ?_
        refine ezw_aload_n rfl rfl ?_
        refine ezw_aload_n rfl rfl ?_
        refine ezw_iload_n rfl rfl ?_
        refine ezw_iload_n rfl rfl ?_
        refine ezw_iconst (1) rfl rfl ?_
        refine ezs_isub rfl (fun u6 hu6 => ?_)
        refine ezw_iconst (0) rfl rfl ?_
        refine ezw_iload rfl rfl ?_
        refine ezw_call0_5 rfl (by omega) (ezu_at rfl) rfl rfl rfl rfl (ezs_m149_23_30_l3 hI (by omega) (fun q h0 h1 => hzA q (by omega) (by omega)) ha2 (by omega) hu6 ⟨by decide, by decide⟩ ha5) ?_
        rintro _ _ ⟨⟨F, A, rfl, hI⟩, u7, hu7, rfl⟩
        refine ezw_call2_1 rfl (by omega) rfl rfl (ezs_m152 hI (by omega) hu7) ?_
        rintro _ _ ⟨rfl, u8, hu8, rfl⟩
        refine ezs_imul rfl (fun u9 hu9 => ?_)
        refine ezw_istore rfl rfl ?_
        refine ezw_iload rfl rfl ?_
        refine ezw_bipush (10) rfl rfl ?_
        refine ezw_icmp_ge rfl rfl ⟨by omega, by omega⟩ ⟨by decide, by decide⟩ (fun h67_9 => ?_) (fun h67_9 => ?_)
        · refine ezw_iload rfl rfl ?_
          refine ezw_bipush (10) rfl rfl ?_
          refine ezs_idiv rfl hu9 ⟨by decide, by decide⟩ (by omega) (fun u10 hu10 => ?_)
          exact ezw_ireturn rfl rfl ⟨⟨F, A, rfl, hI⟩, _, hu10, rfl⟩
        · refine ezw_iload rfl rfl ?_
          refine ezw_bipush (10) rfl rfl ?_
          refine ezw_iload rfl rfl ?_
          refine ezs_isub rfl (fun u11 hu11 => ?_)
          refine ezw_aload_n rfl rfl ?_
          refine ezw_aload_n rfl rfl ?_
          refine ezw_iload_n rfl rfl ?_
          refine ezw_iload_n rfl rfl ?_
          refine ezw_iload rfl rfl ?_
          refine ezw_iload rfl rfl ?_
          refine ezw_call0_5 rfl (by omega) (ezu_at rfl) rfl rfl rfl rfl (ezs_m149_23_30_l3 hI (by omega) (fun q h0 h1 => hzA q (by omega) (by omega)) ha2 (by omega) ha3 ha4 ha5) ?_
          rintro _ _ ⟨⟨F, A, rfl, hI⟩, u12, hu12, rfl⟩
          refine ezw_call2_1 rfl (by omega) rfl rfl (ezs_m152 hI (by omega) hu12) ?_
          rintro _ _ ⟨rfl, u13, hu13, rfl⟩
          refine ezs_imul rfl (fun u14 hu14 => ?_)
          refine ezs_iadd rfl (fun u15 hu15 => ?_)
          refine ezw_istore rfl rfl ?_
          refine ezw_iload rfl rfl ?_
          refine ezw_bipush (10) rfl rfl ?_
          refine ezs_idiv rfl hu15 ⟨by decide, by decide⟩ (by omega) (fun u16 hu16 => ?_)
          exact ezw_ireturn rfl rfl ⟨⟨F, A, rfl, hI⟩, _, hu16, rfl⟩
      · refine ezw_iconst (-1) rfl rfl ?_
        exact ezw_ireturn rfl rfl ⟨⟨F, A, rfl, hI⟩, _, ⟨by decide, by decide⟩, rfl⟩
theorem ezs_m151_23_30_l4 {a2 a3 a4 a5 a6 : Int} {F : Nat → Nat → Int} {A : Nat → Int → Int} (hI : ezs_I fz F0 A0 F A) (hd : 12 ≤ d) (hzA : ∀ q, 24 ≤ q → q < 25 → fz q = false) (ha2 : ezw_in a2) (ha3 : ezw_in a3) (ga3 : a3 ≤ 3) (ha4 : ezw_in a4) (ha5 : ezw_in a5) (ha6 : ezw_in a6) : ezw_C l ρ B xa Hb D cA 151 d [ezw_p 23, ezw_p 30, ezw_i a2, ezw_i a3, ezw_i a4, ezw_i a5, ezw_i a6] (ezu_g e F A) (ezs_P e fz F0 A0 ezs_ri) := by
  refine ezw_met (k := 7) rfl rfl ?_
  refine ezw_iload_n rfl rfl ?_
  refine ezw_iconst (1) rfl rfl ?_
  refine ezs_isub rfl (fun u1 hu1 => ?_)
  refine ezw_iconst (4) rfl rfl ?_
  refine ezs_irem rfl hu1 ⟨by decide, by decide⟩ (by omega) (fun u2 hu2 => ?_)
  refine ezw_istore rfl rfl ?_
  refine ezw_iload_n rfl rfl ?_
  refine ezw_iconst (5) rfl rfl ?_
  have J17_3 : ∀ y3 : Int, ezs_b y3 → ∀ F A, ezs_I fz F0 A0 F A → ezw_E l ρ B xa Hb D cA d ezq_re151 (ezs_P e fz F0 A0 ezs_ri) 17 [some (ezw_p 23), some (ezw_p 30), some (ezw_i a2), some (ezw_i a3), some (ezw_i a4), some (ezw_i a5), some (ezw_i a6), some (ezw_i u2), none, none, none, none, none, none] [(ezw_i y3)] (ezu_g e F A) := by
    intro y3 hy3 F A hI
    refine ezw_istore rfl rfl ?_
    refine ezw_aload_n rfl rfl ?_
    refine ezs_getp (p := 25) rfl rfl rfl rfl rfl ?_
    refine ezw_iload rfl rfl ?_
    refine ezw_iconst (1) rfl rfl ?_
    refine ezs_isub rfl (fun u5 hu5 => ?_)
    refine ezw_call3_2 rfl (by omega) rfl rfl (ezs_m27_25 hI (by omega) hu5) ?_
    rintro _ _ ⟨rfl, u6, hu6, rfl⟩
    refine ezw_istore rfl rfl ?_
    refine ezw_aload_n rfl rfl ?_
    refine ezw_iload rfl rfl ?_
    refine ezw_iload rfl rfl ?_
    refine ezw_iload rfl rfl ?_
    refine ezw_iload rfl rfl ?_
    refine ezw_call0_4 rfl (by omega) (ezu_at rfl) rfl rfl rfl rfl (ezs_m113_30 hI (by omega) hu6 ha5 hu2 ⟨by omega, by omega⟩) ?_
    rintro _ _ ⟨rfl, u7, hu7, rfl⟩
    refine ezw_istore rfl rfl ?_
    refine ezw_aload_n rfl rfl ?_
    refine ezw_iload rfl rfl ?_
    refine ezw_iload rfl rfl ?_
    refine ezw_iload rfl rfl ?_
    refine ezw_iload rfl rfl ?_
    refine ezw_call0_4 rfl (by omega) (ezu_at rfl) rfl rfl rfl rfl (ezs_m116_30 hI (by omega) hu6 ha5 hu2 ⟨by omega, by omega⟩) ?_
    rintro _ _ ⟨rfl, u8, hu8, rfl⟩
    refine ezw_istore rfl rfl ?_
    refine ezw_iconst (0) rfl rfl ?_
    refine ezw_istore rfl rfl ?_
    refine ezw_iload rfl rfl ?_
    have J95_9 : ∀ y9 : Int, ezw_in y9 → ∀ F A, ezs_I fz F0 A0 F A → ezw_E l ρ B xa Hb D cA d ezq_re151 (ezs_P e fz F0 A0 ezs_ri) 95 [some (ezw_p 23), some (ezw_p 30), some (ezw_i a2), some (ezw_i a3), some (ezw_i a4), some (ezw_i a5), some (ezw_i a6), some (ezw_i u2), some (ezw_i y3), some (ezw_i u6), some (ezw_i u7), some (ezw_i u8), some (ezw_i y9), none] [] (ezu_g e F A) := by
      intro y9 hy9 F A hI
      refine ezw_iload rfl rfl ?_
      refine ezw_bipush (10) rfl rfl ?_
      have J131_11 : ∀ y11 : Int, ezw_in y11 → ∀ F A, ezs_I fz F0 A0 F A → ezw_E l ρ B xa Hb D cA d ezq_re151 (ezs_P e fz F0 A0 ezs_ri) 131 [some (ezw_p 23), some (ezw_p 30), some (ezw_i a2), some (ezw_i a3), some (ezw_i a4), some (ezw_i a5), some (ezw_i a6), some (ezw_i u2), some (ezw_i y3), some (ezw_i u6), some (ezw_i u7), some (ezw_i u8), some (ezw_i y11), none] [] (ezu_g e F A) := by
        intro y11 hy11 F A hI
        refine ezw_iload rfl rfl ?_
        refine ezw_bipush (10) rfl rfl ?_
        refine ezw_icmp_ge rfl rfl hu7 ⟨by decide, by decide⟩ (fun h135_12 => ?_) (fun h135_12 => ?_)
        · refine ezw_iload rfl rfl ?_
          refine ezw_bipush (100) rfl rfl ?_
          refine ezs_idiv rfl hy11 ⟨by decide, by decide⟩ (by omega) (fun u13 hu13 => ?_)
          exact ezw_ireturn rfl rfl ⟨⟨F, A, rfl, hI⟩, _, hu13, rfl⟩
        · refine ezw_iload rfl rfl ?_
          refine ezw_bipush (10) rfl rfl ?_
          refine ezw_icmp_ge rfl rfl hu8 ⟨by decide, by decide⟩ (fun h142_13 => ?_) (fun h142_13 => ?_)
          · refine ezw_iload rfl rfl ?_
            refine ezw_bipush (100) rfl rfl ?_
            refine ezs_idiv rfl hy11 ⟨by decide, by decide⟩ (by omega) (fun u14 hu14 => ?_)
            exact ezw_ireturn rfl rfl ⟨⟨F, A, rfl, hI⟩, _, hu14, rfl⟩
          · refine ezw_bipush (9) rfl rfl ?_
            refine ezw_iload rfl rfl ?_
            refine ezw_iload rfl rfl ?_
            have J159_15 : ∀ y15 : Int, ezw_in y15 → ∀ F A, ezs_I fz F0 A0 F A → ezw_E l ρ B xa Hb D cA d ezq_re151 (ezs_P e fz F0 A0 ezs_ri) 159 [some (ezw_p 23), some (ezw_p 30), some (ezw_i a2), some (ezw_i a3), some (ezw_i a4), some (ezw_i a5), some (ezw_i a6), some (ezw_i u2), some (ezw_i y3), some (ezw_i u6), some (ezw_i u7), some (ezw_i u8), some (ezw_i y11), none] [(ezw_i y15), (ezw_i a5), (ezw_i (9))] (ezu_g e F A) := by
              intro y15 hy15 F A hI
              refine ezs_iadd rfl (fun u17 hu17 => ?_)
              refine ezw_mminE rfl ⟨by decide, by decide⟩ hu17 rfl (fun u18 hu18 => ?_)
              refine ezw_istore rfl rfl ?_
              refine ezw_iload rfl rfl ?_
              refine ezw_bipush (10) rfl rfl ?_
              refine ezw_iload rfl rfl ?_
              refine ezs_isub rfl (fun u19 hu19 => ?_)
              refine ezw_bipush (10) rfl rfl ?_
              refine ezw_iload rfl rfl ?_
              refine ezs_isub rfl (fun u20 hu20 => ?_)
              refine ezs_imul rfl (fun u21 hu21 => ?_)
              refine ezw_aload_n rfl rfl ?_
              refine ezw_aload_n rfl rfl ?_
              refine ezw_iload_n rfl rfl ?_
              refine ezw_iload rfl rfl ?_
              refine ezw_iload rfl rfl ?_
              refine ezw_iload rfl rfl ?_
              refine ezw_call0_5 rfl (by omega) (ezu_at rfl) rfl rfl rfl rfl (ezs_m149_23_30_l3 hI (by omega) (fun q h0 h1 => hzA q (by omega) (by omega)) ha3 (by omega) ha4 ⟨by omega, by omega⟩ ha6) ?_
              rintro _ _ ⟨⟨F, A, rfl, hI⟩, u22, hu22, rfl⟩
              refine ezw_call2_1 rfl (by omega) rfl rfl (ezs_m152 hI (by omega) hu22) ?_
              rintro _ _ ⟨rfl, u23, hu23, rfl⟩
              refine ezs_imul rfl (fun u24 hu24 => ?_)
              refine ezs_iadd rfl (fun u25 hu25 => ?_)
              refine ezw_istore rfl rfl ?_
              refine ezw_iload rfl rfl ?_
              refine ezw_bipush (100) rfl rfl ?_
              refine ezs_idiv rfl hu25 ⟨by decide, by decide⟩ (by omega) (fun u26 hu26 => ?_)
              exact ezw_ireturn rfl rfl ⟨⟨F, A, rfl, hI⟩, _, hu26, rfl⟩
            refine ezw_if_eq rfl rfl ⟨by omega, by omega⟩ (fun h151_14 => ?_) (fun h151_14 => ?_)
            · refine ezw_iconst (1) rfl rfl ?_
              exact ezw_keepE [true, true, true, true, true, true, true, true, true, true, true, true, true, false] (J159_15 (1) ⟨by decide, by decide⟩ F A hI)
            · refine ezw_iconst (2) rfl rfl ?_
              refine ezw_goto rfl rfl ?_
              exact ezw_keepE [true, true, true, true, true, true, true, true, true, true, true, true, true, false] (J159_15 (2) ⟨by decide, by decide⟩ F A hI)
      refine ezw_icmp_ge rfl rfl hu7 ⟨by decide, by decide⟩ (fun h99_10 => ?_) (fun h99_10 => ?_)
      · exact ezw_keepE [true, true, true, true, true, true, true, true, true, true, true, true, true, false] (J131_11 y9 hy9 F A hI)
      · refine ezw_iload rfl rfl ?_
        refine ezw_if_le rfl rfl hu8 (fun h104_26 => ?_) (fun h104_26 => ?_)
        · exact ezw_keepE [true, true, true, true, true, true, true, true, true, true, true, true, true, false] (J131_11 y9 hy9 F A hI)
        · refine ezw_iload rfl rfl ?_
          refine ezw_bipush (10) rfl rfl ?_
          refine ezw_iload rfl rfl ?_
          refine ezs_isub rfl (fun u27 hu27 => ?_)
          refine ezw_iload rfl rfl ?_
          refine ezs_imul rfl (fun u28 hu28 => ?_)
          refine ezw_sipush (1000) rfl rfl ?_
          refine ezs_imul rfl (fun u29 hu29 => ?_)
          refine ezw_aload_n rfl rfl ?_
          refine ezw_iload rfl rfl ?_
          refine ezw_call0_1 rfl (by omega) (ezu_at rfl) rfl rfl rfl rfl (ezs_m144_30 hI (by omega) ha6) ?_
          rintro _ _ ⟨rfl, u30, hu30, rfl⟩
          refine ezs_imul rfl (fun u31 hu31 => ?_)
          refine ezs_iadd rfl (fun u32 hu32 => ?_)
          refine ezw_istore rfl rfl ?_
          exact ezw_keepE [true, true, true, true, true, true, true, true, true, true, true, true, true, false] (J131_11 u32 hu32 F A hI)
    refine ezw_if_le rfl rfl hu7 (fun h65_8 => ?_) (fun h65_8 => ?_)
    · exact ezw_keepE [true, true, true, true, true, true, true, true, true, true, true, true, true, false] (J95_9 (0) ⟨by decide, by decide⟩ F A hI)
    · refine ezw_iload rfl rfl ?_
      refine ezw_bipush (10) rfl rfl ?_
      refine ezw_iload rfl rfl ?_
      refine ezs_imul rfl (fun u33 hu33 => ?_)
      refine ezw_aload_n rfl rfl ?_
      refine ezw_aload_n rfl rfl ?_
      refine ezw_iload_n rfl rfl ?_
      refine ezw_iload rfl rfl ?_
      refine ezw_iconst (1) rfl rfl ?_
      refine ezs_isub rfl (fun u34 hu34 => ?_)
      refine ezw_iconst (0) rfl rfl ?_
      refine ezw_iload rfl rfl ?_
      refine ezw_call0_5 rfl (by omega) (ezu_at rfl) rfl rfl rfl rfl (ezs_m149_23_30_l3 hI (by omega) (fun q h0 h1 => hzA q (by omega) (by omega)) ha3 (by omega) hu34 ⟨by decide, by decide⟩ ha6) ?_
      rintro _ _ ⟨⟨F, A, rfl, hI⟩, u35, hu35, rfl⟩
      refine ezw_call2_1 rfl (by omega) rfl rfl (ezs_m152 hI (by omega) hu35) ?_
      rintro _ _ ⟨rfl, u36, hu36, rfl⟩
      refine ezs_imul rfl (fun u37 hu37 => ?_)
      refine ezs_iadd rfl (fun u38 hu38 => ?_)
      refine ezw_istore rfl rfl ?_
      exact ezw_keepE [true, true, true, true, true, true, true, true, true, true, true, true, true, false] (J95_9 u38 hu38 F A hI)
  refine ezw_icmp_lt rfl rfl ha2 ⟨by decide, by decide⟩ (fun h9_2 => ?_) (fun h9_2 => ?_)
  · refine ezw_iconst (0) rfl rfl ?_
    exact ezw_keepE [true, true, true, true, true, true, true, true, false, false, false, false, false, false] (J17_3 (0) ⟨by omega, by omega⟩ F A hI)
  · refine ezw_iconst (1) rfl rfl ?_
    refine ezw_goto rfl rfl ?_
    exact ezw_keepE [true, true, true, true, true, true, true, true, false, false, false, false, false, false] (J17_3 (1) ⟨by omega, by omega⟩ F A hI)
theorem ezs_m150_23_30_l4 {a2 a3 a4 a5 a6 : Int} {F : Nat → Nat → Int} {A : Nat → Int → Int} (hI : ezs_I fz F0 A0 F A) (hd : 13 ≤ d) (hzA : ∀ q, 24 ≤ q → q < 25 → fz q = false) (ha2 : ezw_in a2) (ha3 : ezw_in a3) (ga3 : a3 ≤ 3) (ha4 : ezw_in a4) (ha5 : ezw_in a5) (ha6 : ezw_in a6) : ezw_C l ρ B xa Hb D cA 150 d [ezw_p 23, ezw_p 30, ezw_i a2, ezw_i a3, ezw_i a4, ezw_i a5, ezw_i a6] (ezu_g e F A) (ezs_P e fz F0 A0 ezs_ri) := by
  refine ezw_met (k := 0) rfl rfl ?_
  refine ezw_iload_n rfl rfl ?_
  refine ezw_bipush (9) rfl rfl ?_
  refine ezw_icmp_ge rfl rfl ha2 ⟨by decide, by decide⟩ (fun h3_0 => ?_) (fun h3_0 => ?_)
  · refine ezw_iload_n rfl rfl ?_
    refine ezw_bipush (9) rfl rfl ?_
    refine ezw_icmp_ne rfl rfl ha2 ⟨by decide, by decide⟩ (fun h23_0 => ?_) (fun h23_0 => ?_)
    · refine ezw_iload_n rfl rfl ?_
      refine ezw_bipush (10) rfl rfl ?_
      refine ezw_icmp_ne rfl rfl ha2 ⟨by decide, by decide⟩ (fun h56_0 => ?_) (fun h56_0 => ?_)
      · refine ezw_aload_n rfl rfl ?_
        refine ezw_aload_n rfl rfl ?_
        refine ezw_iload_n rfl rfl ?_
        refine ezw_bipush (11) rfl rfl ?_
        refine ezs_isub rfl (fun u1 hu1 => ?_)
        refine ezw_iload_n rfl rfl ?_
        refine ezw_iload rfl rfl ?_
        refine ezw_iload rfl rfl ?_
        refine ezw_iload rfl rfl ?_
        refine ezw_call0_6 rfl (by omega) (ezu_at rfl) rfl rfl rfl rfl (ezs_m154_23_30_l4 hI (by omega) (fun q h0 h1 => hzA q (by omega) (by omega)) hu1 ha3 (by omega) ha4 ha5 ha6) ?_
        rintro _ _ ⟨⟨F, A, rfl, hI⟩, u2, hu2, rfl⟩
        exact ezw_ireturn rfl rfl ⟨⟨F, A, rfl, hI⟩, _, hu2, rfl⟩
      · refine ezw_aload_n rfl rfl ?_
        refine ezw_aload_n rfl rfl ?_
        refine ezw_iload_n rfl rfl ?_
        refine ezw_iload rfl rfl ?_
        refine ezw_iload rfl rfl ?_
        refine ezw_iload rfl rfl ?_
        refine ezw_call0_5 rfl (by omega) (ezu_at rfl) rfl rfl rfl rfl (ezs_m153_23_30_l4 hI (by omega) (fun q h0 h1 => hzA q (by omega) (by omega)) ha3 (by omega) ha4 ha5 ha6) ?_
        rintro _ _ ⟨⟨F, A, rfl, hI⟩, u3, hu3, rfl⟩
        exact ezw_ireturn rfl rfl ⟨⟨F, A, rfl, hI⟩, _, hu3, rfl⟩
    · refine ezw_iload rfl rfl ?_
      refine ezw_if_le rfl rfl ha5 (fun h28_3 => ?_) (fun h28_3 => ?_)
      · refine ezw_iconst (-1) rfl rfl ?_
        exact ezw_ireturn rfl rfl ⟨⟨F, A, rfl, hI⟩, _, ⟨by decide, by decide⟩, rfl⟩
      · refine ezw_aload_n rfl rfl ?_
        refine ezw_aload_n rfl rfl ?_
        refine ezw_iload_n rfl rfl ?_
        refine ezw_iload rfl rfl ?_
        refine ezw_iload rfl rfl ?_
        refine ezw_iconst (1) rfl rfl ?_
        refine ezs_isub rfl (fun u4 hu4 => ?_)
        refine ezw_iload rfl rfl ?_
        refine ezw_call0_5 rfl (by omega) (ezu_at rfl) rfl rfl rfl rfl (ezs_m149_23_30_l3 hI (by omega) (fun q h0 h1 => hzA q (by omega) (by omega)) ha3 (by omega) ha4 hu4 ha6) ?_
        rintro _ _ ⟨⟨F, A, rfl, hI⟩, u5, hu5, rfl⟩
        refine ezw_call2_1 rfl (by omega) rfl rfl (ezs_m152 hI (by omega) hu5) ?_
        rintro _ _ ⟨rfl, u6, hu6, rfl⟩
        refine ezw_goto rfl rfl ?_
        exact ezw_ireturn rfl rfl ⟨⟨F, A, rfl, hI⟩, _, hu6, rfl⟩
  · refine ezw_aload_n rfl rfl ?_
    refine ezw_aload_n rfl rfl ?_
    refine ezw_iload_n rfl rfl ?_
    refine ezw_iload_n rfl rfl ?_
    refine ezw_iload rfl rfl ?_
    refine ezw_iload rfl rfl ?_
    refine ezw_iload rfl rfl ?_
    refine ezw_call0_6 rfl (by omega) (ezu_at rfl) rfl rfl rfl rfl (ezs_m151_23_30_l4 hI (by omega) (fun q h0 h1 => hzA q (by omega) (by omega)) ha2 ha3 (by omega) ha4 ha5 ha6) ?_
    rintro _ _ ⟨⟨F, A, rfl, hI⟩, u7, hu7, rfl⟩
    exact ezw_ireturn rfl rfl ⟨⟨F, A, rfl, hI⟩, _, hu7, rfl⟩
theorem ezs_m149_23_30_l4 {a2 a3 a4 a5 : Int} {F : Nat → Nat → Int} {A : Nat → Int → Int} (hI : ezs_I fz F0 A0 F A) (hd : 14 ≤ d) (hzA : ∀ q, 24 ≤ q → q < 25 → fz q = false) (ha2 : ezw_in a2) (ga2 : a2 ≤ 4) (ha3 : ezw_in a3) (ha4 : ezw_in a4) (ha5 : ezw_in a5) : ezw_C l ρ B xa Hb D cA 149 d [ezw_p 23, ezw_p 30, ezw_i a2, ezw_i a3, ezw_i a4, ezw_i a5] (ezu_g e F A) (ezs_P e fz F0 A0 ezs_ri) := by
  refine ezw_met (k := 5) rfl rfl ?_
  refine ezw_sipush (1000) rfl rfl ?_
  refine ezw_aload_n rfl rfl ?_
  refine ezw_iload rfl rfl ?_
  refine ezw_call0_1 rfl (by omega) (ezu_at rfl) rfl rfl rfl rfl (ezs_m144_30 hI (by omega) ha5) ?_
  rintro _ _ ⟨rfl, u1, hu1, rfl⟩
  refine ezw_iload_n rfl rfl ?_
  have J21_2 : ∀ y2 : Int, ezw_in y2 → ∀ F A, ezs_I fz F0 A0 F A → ezw_E l ρ B xa Hb D cA d ezq_re149 (ezs_P e fz F0 A0 ezs_ri) 21 [some (ezw_p 23), some (ezw_p 30), some (ezw_i a2), some (ezw_i a3), some (ezw_i a4), some (ezw_i a5), none, none, none, none, none] [(ezw_i y2), (ezw_i u1), (ezw_i (1000))] (ezu_g e F A) := by
    intro y2 hy2 F A hI
    refine ezs_iadd rfl (fun u4 hu4 => ?_)
    refine ezs_imul rfl (fun u5 hu5 => ?_)
    refine ezw_istore rfl rfl ?_
    refine ezw_iconst (0) rfl rfl ?_
    refine ezw_istore rfl rfl ?_
    refine ezw_iload_n rfl rfl ?_
    refine ezw_if_le rfl rfl ha2 (fun h29_5 => ?_) (fun h29_5 => ?_)
    · refine ezw_iload rfl rfl ?_
      refine ezw_bipush (16) rfl rfl ?_
      refine ezs_imul rfl (fun u6 hu6 => ?_)
      refine ezw_iload rfl rfl ?_
      refine ezs_iadd rfl (fun u7 hu7 => ?_)
      exact ezw_ireturn rfl rfl ⟨⟨F, A, rfl, hI⟩, _, hu7, rfl⟩
    · refine ezw_iload_n rfl rfl ?_
      refine ezw_if_gt rfl rfl ha3 (fun h33_7 => ?_) (fun h33_7 => ?_)
      · refine ezw_iload_n rfl rfl ?_
        refine ezw_iconst (1) rfl rfl ?_
        refine ezs_isub rfl (fun u8 hu8 => ?_)
        refine ezw_bipush (6) rfl rfl ?_
        refine ezs_imul rfl (fun u9 hu9 => ?_)
        refine ezw_iload_n rfl rfl ?_
        refine ezs_iadd rfl (fun u10 hu10 => ?_)
        refine ezw_iconst (1) rfl rfl ?_
        refine ezs_isub rfl (fun u11 hu11 => ?_)
        refine ezw_bipush (10) rfl rfl ?_
        refine ezs_imul rfl (fun u12 hu12 => ?_)
        refine ezw_iload rfl rfl ?_
        refine ezs_iadd rfl (fun u13 hu13 => ?_)
        refine ezw_bipush (16) rfl rfl ?_
        refine ezs_imul rfl (fun u14 hu14 => ?_)
        refine ezw_iload rfl rfl ?_
        refine ezs_iadd rfl (fun u15 hu15 => ?_)
        refine ezw_istore rfl rfl ?_
        refine ezw_aload_n rfl rfl ?_
        refine ezs_getp (p := 24) rfl rfl rfl rfl rfl ?_
        refine ezw_iload rfl rfl ?_
        refine ezw_call3_2 rfl (by omega) rfl rfl (ezs_m27_24 hI (by omega) hu15) ?_
        rintro _ _ ⟨rfl, u16, hu16, rfl⟩
        refine ezw_iconst (-1) rfl rfl ?_
        refine ezw_icmp_eq rfl rfl hu16 ⟨by decide, by decide⟩ (fun h79_16 => ?_) (fun h79_16 => ?_)
        · refine ezw_iconst (1) rfl rfl ?_
          refine ezw_istore rfl rfl ?_
          have L95_19 : ∀ c19 : Int, ezw_in c19 → (1) ≤ c19 → ∀ y17 : Int, ezw_in y17 → ∀ y18 : Int, ezw_in y18 → ∀ F A, ezs_I fz F0 A0 F A → ezw_E l ρ B xa Hb D cA d ezq_re149 (ezs_P e fz F0 A0 ezs_ri) 95 [some (ezw_p 23), some (ezw_p 30), some (ezw_i a2), some (ezw_i a3), some (ezw_i a4), some (ezw_i a5), some (ezw_i y17), some (ezw_i y18), some (ezw_i u15), some (ezw_i c19), none] [] (ezu_g e F A) := by
            refine ezs_up ?_
            intro c19 hc19 ihc19 gc19 y17 hy17 y18 hy18 F A hI
            refine ezw_iload rfl rfl ?_
            refine ezw_bipush (15) rfl rfl ?_
            have J140_23 : ∀ y21 : Int, ezw_in y21 → ∀ y22 : Int, ezw_in y22 → ∀ y23 : Int, ezw_in y23 → ∀ F A, ezs_I fz F0 A0 F A → ezw_E l ρ B xa Hb D cA d ezq_re149 (ezs_P e fz F0 A0 ezs_ri) 140 [some (ezw_p 23), some (ezw_p 30), some (ezw_i a2), some (ezw_i a3), some (ezw_i a4), some (ezw_i a5), some (ezw_i y21), some (ezw_i y22), some (ezw_i u15), some (ezw_i y23), none] [] (ezu_g e F A) := by
              intro y21 hy21 y22 hy22 y23 hy23 F A hI
              refine ezw_aload_n rfl rfl ?_
              refine ezs_getp (p := 24) rfl rfl rfl rfl rfl ?_
              refine ezw_iload rfl rfl ?_
              refine ezw_iload rfl rfl ?_
              refine ezw_bipush (16) rfl rfl ?_
              refine ezs_imul rfl (fun u25 hu25 => ?_)
              refine ezw_iload rfl rfl ?_
              refine ezs_iadd rfl (fun u26 hu26 => ?_)
              refine ezw_call3_3 rfl (by omega) rfl rfl (ezs_m21_24 hI (by omega) (fun q h0 h1 => hzA q (by omega) (by omega)) hu15 hu26) ?_
              rintro _ _ ⟨⟨F, A, rfl, hI⟩, rfl⟩
              refine ezw_iload rfl rfl ?_
              refine ezw_bipush (16) rfl rfl ?_
              refine ezs_imul rfl (fun u27 hu27 => ?_)
              refine ezw_iload rfl rfl ?_
              refine ezs_iadd rfl (fun u28 hu28 => ?_)
              exact ezw_ireturn rfl rfl ⟨⟨F, A, rfl, hI⟩, _, hu28, rfl⟩
            refine ezw_icmp_ge rfl rfl hc19 ⟨by decide, by decide⟩ (fun h99_20 => ?_) (fun h99_20 => ?_)
            · exact ezw_keepE [true, true, true, true, true, true, true, true, true, true, false] (J140_23 y17 hy17 y18 hy18 c19 hc19 F A hI)
            · refine ezw_aload_n rfl rfl ?_
              refine ezw_aload_n rfl rfl ?_
              refine ezw_iload rfl rfl ?_
              refine ezw_iload_n rfl rfl ?_
              refine ezw_iconst (1) rfl rfl ?_
              refine ezw_isub rfl rfl ?_
              refine ezw_iload_n rfl rfl ?_
              refine ezw_iload rfl rfl ?_
              refine ezw_iload rfl rfl ?_
              refine ezw_call0_6 rfl (by omega) (ezu_at rfl) rfl rfl rfl rfl (ezs_m150_23_30_l4 hI (by omega) (fun q h0 h1 => hzA q (by omega) (by omega)) hc19 ⟨by omega, by omega⟩ (by omega) ha3 ha4 ha5) ?_
              rintro _ _ ⟨⟨F, A, rfl, hI⟩, u29, hu29, rfl⟩
              refine ezw_istore rfl rfl ?_
              refine ezw_iload rfl rfl ?_
              refine ezw_iload rfl rfl ?_
              refine ezw_icmp_le rfl rfl hu29 hy17 (fun h123_29 => ?_) (fun h123_29 => ?_)
              · refine ezw_iinc (1) rfl rfl rfl rfl rfl ?_
                refine ezw_goto rfl rfl ?_
                exact ezw_keepE [true, true, true, true, true, true, true, true, true, true, false] (ihc19 (c19 + (1)) (by omega) ⟨by omega, by omega⟩ (by omega) y17 hy17 y18 hy18 F A hI)
              · refine ezw_iload rfl rfl ?_
                refine ezw_istore rfl rfl ?_
                refine ezw_iload rfl rfl ?_
                refine ezw_istore rfl rfl ?_
                refine ezw_iinc (1) rfl rfl rfl rfl rfl ?_
                refine ezw_goto rfl rfl ?_
                exact ezw_keepE [true, true, true, true, true, true, true, true, true, true, false] (ihc19 (c19 + (1)) (by omega) ⟨by omega, by omega⟩ (by omega) u29 hu29 c19 hc19 F A hI)
          exact ezw_keepE [true, true, true, true, true, true, true, true, true, true, false] (L95_19 (1) ⟨by decide, by decide⟩ (by omega) u5 hu5 (0) ⟨by decide, by decide⟩ F A hI)
        · refine ezw_aload_n rfl rfl ?_
          refine ezs_getp (p := 24) rfl rfl rfl rfl rfl ?_
          refine ezw_iload rfl rfl ?_
          refine ezw_call3_2 rfl (by omega) rfl rfl (ezs_m27_24 hI (by omega) hu15) ?_
          rintro _ _ ⟨rfl, u30, hu30, rfl⟩
          exact ezw_ireturn rfl rfl ⟨⟨F, A, rfl, hI⟩, _, hu30, rfl⟩
      · refine ezw_iload rfl rfl ?_
        refine ezw_bipush (16) rfl rfl ?_
        refine ezs_imul rfl (fun u31 hu31 => ?_)
        refine ezw_iload rfl rfl ?_
        refine ezs_iadd rfl (fun u32 hu32 => ?_)
        exact ezw_ireturn rfl rfl ⟨⟨F, A, rfl, hI⟩, _, hu32, rfl⟩
  refine ezw_if_le rfl rfl ha3 (fun h10_1 => ?_) (fun h10_1 => ?_)
  · refine ezw_aload_n rfl rfl ?_
    refine ezs_get_i hI rfl rfl rfl rfl rfl rfl (fun u33 hu33 ku33 => ?_)
    exact ezw_keepE [true, true, true, true, true, true, false, false, false, false, false] (J21_2 u33 hu33 F A hI)
  · refine ezw_iconst (0) rfl rfl ?_
    refine ezw_goto rfl rfl ?_
    exact ezw_keepE [true, true, true, true, true, true, false, false, false, false, false] (J21_2 (0) ⟨by decide, by decide⟩ F A hI)
theorem ezs_m154_23_30_l5 {a2 a3 a4 a5 a6 : Int} {F : Nat → Nat → Int} {A : Nat → Int → Int} (hI : ezs_I fz F0 A0 F A) (hd : 15 ≤ d) (hzA : ∀ q, 24 ≤ q → q < 25 → fz q = false) (ha2 : ezw_in a2) (ha3 : ezw_in a3) (ga3 : a3 ≤ 4) (ha4 : ezw_in a4) (ha5 : ezw_in a5) (ha6 : ezw_in a6) : ezw_C l ρ B xa Hb D cA 154 d [ezw_p 23, ezw_p 30, ezw_i a2, ezw_i a3, ezw_i a4, ezw_i a5, ezw_i a6] (ezu_g e F A) (ezs_P e fz F0 A0 ezs_ri) := by
  refine ezw_met (k := 3) rfl rfl ?_
  refine ezw_iload rfl rfl ?_
  refine ezw_iload_n rfl rfl ?_
  refine ezw_call3_2 rfl (by omega) rfl rfl (ezs_m49 hI (by omega) ha6 ha2) ?_
  rintro _ _ ⟨rfl, u1, hu1, rfl⟩
  refine ezw_if_ne rfl rfl hu1 (fun h6_1 => ?_) (fun h6_1 => ?_)
  · refine ezw_aload_n rfl rfl ?_
    refine ezs_getp (p := 36) rfl rfl rfl rfl rfl ?_
    refine ezw_iload_n rfl rfl ?_
    refine ezw_call3_2 rfl (by omega) rfl rfl (ezs_m27_36 hI (by omega) ha2) ?_
    rintro _ _ ⟨rfl, u2, hu2, rfl⟩
    refine ezw_istore rfl rfl ?_
    refine ezw_aload_n rfl rfl ?_
    refine ezs_getp (p := 37) rfl rfl rfl rfl rfl ?_
    refine ezw_iload_n rfl rfl ?_
    refine ezw_call3_2 rfl (by omega) rfl rfl (ezs_m27_37 hI (by omega) ha2) ?_
    rintro _ _ ⟨rfl, u3, hu3, rfl⟩
    refine ezw_istore rfl rfl ?_
    refine ezw_iconst (0) rfl rfl ?_
    refine ezw_istore rfl rfl ?_
    refine ezw_iload rfl rfl ?_
    have J68_4 : ∀ y4 : Int, ezw_in y4 → ∀ F A, ezs_I fz F0 A0 F A → ezw_E l ρ B xa Hb D cA d ezq_re154 (ezs_P e fz F0 A0 ezs_ri) 68 [some (ezw_p 23), some (ezw_p 30), some (ezw_i a2), some (ezw_i a3), some (ezw_i a4), some (ezw_i a5), some (ezw_i a6), some (ezw_i u2), some (ezw_i u3), some (ezw_i y4)] [] (ezu_g e F A) := by
      intro y4 hy4 F A hI
      refine ezw_iload rfl rfl ?_
      have J97_6 : ∀ y6 : Int, ezw_in y6 → ∀ F A, ezs_I fz F0 A0 F A → ezw_E l ρ B xa Hb D cA d ezq_re154 (ezs_P e fz F0 A0 ezs_ri) 97 [some (ezw_p 23), some (ezw_p 30), some (ezw_i a2), some (ezw_i a3), some (ezw_i a4), some (ezw_i a5), some (ezw_i a6), some (ezw_i u2), some (ezw_i u3), some (ezw_i y6)] [] (ezu_g e F A) := by
        intro y6 hy6 F A hI
        refine ezw_iload rfl rfl ?_
        refine ezw_iload rfl rfl ?_
        refine ezs_iadd rfl (fun u8 hu8 => ?_)
        refine ezw_bipush (10) rfl rfl ?_
        refine ezw_icmp_ge rfl rfl hu8 ⟨by decide, by decide⟩ (fun h104_8 => ?_) (fun h104_8 => ?_)
        · refine ezw_iload rfl rfl ?_
          refine ezw_bipush (10) rfl rfl ?_
          refine ezs_idiv rfl hy6 ⟨by decide, by decide⟩ (by omega) (fun u9 hu9 => ?_)
          exact ezw_ireturn rfl rfl ⟨⟨F, A, rfl, hI⟩, _, hu9, rfl⟩
        · refine ezw_iload rfl rfl ?_
          refine ezw_bipush (10) rfl rfl ?_
          refine ezw_iload rfl rfl ?_
          refine ezs_isub rfl (fun u10 hu10 => ?_)
          refine ezw_iload rfl rfl ?_
          refine ezs_isub rfl (fun u11 hu11 => ?_)
          refine ezw_aload_n rfl rfl ?_
          refine ezw_aload_n rfl rfl ?_
          refine ezw_iload_n rfl rfl ?_
          refine ezw_iload rfl rfl ?_
          refine ezw_iload rfl rfl ?_
          refine ezw_iload rfl rfl ?_
          refine ezw_call0_5 rfl (by omega) (ezu_at rfl) rfl rfl rfl rfl (ezs_m149_23_30_l4 hI (by omega) (fun q h0 h1 => hzA q (by omega) (by omega)) ha3 (by omega) ha4 ha5 ha6) ?_
          rintro _ _ ⟨⟨F, A, rfl, hI⟩, u12, hu12, rfl⟩
          refine ezw_call2_1 rfl (by omega) rfl rfl (ezs_m152 hI (by omega) hu12) ?_
          rintro _ _ ⟨rfl, u13, hu13, rfl⟩
          refine ezs_imul rfl (fun u14 hu14 => ?_)
          refine ezs_iadd rfl (fun u15 hu15 => ?_)
          refine ezw_istore rfl rfl ?_
          refine ezw_iload rfl rfl ?_
          refine ezw_bipush (10) rfl rfl ?_
          refine ezs_idiv rfl hu15 ⟨by decide, by decide⟩ (by omega) (fun u16 hu16 => ?_)
          exact ezw_ireturn rfl rfl ⟨⟨F, A, rfl, hI⟩, _, hu16, rfl⟩
      refine ezw_if_le rfl rfl hu3 (fun h70_5 => ?_) (fun h70_5 => ?_)
      · exact ezw_keepE [true, true, true, true, true, true, true, true, true, true] (J97_6 y4 hy4 F A hI)
      · refine ezw_iload rfl rfl ?_
        refine ezw_iload rfl rfl ?_
        refine ezw_aload_n rfl rfl ?_
        refine ezw_aload_n rfl rfl ?_
        refine ezw_iload_n rfl rfl ?_
        refine ezw_iload rfl rfl ?_
        refine ezw_iconst (1) rfl rfl ?_
        refine ezs_isub rfl (fun u17 hu17 => ?_)
        refine ezw_iconst (0) rfl rfl ?_
        refine ezw_iload rfl rfl ?_
        refine ezw_call0_5 rfl (by omega) (ezu_at rfl) rfl rfl rfl rfl (ezs_m149_23_30_l4 hI (by omega) (fun q h0 h1 => hzA q (by omega) (by omega)) ha3 (by omega) hu17 ⟨by decide, by decide⟩ ha6) ?_
        rintro _ _ ⟨⟨F, A, rfl, hI⟩, u18, hu18, rfl⟩
        refine ezw_call2_1 rfl (by omega) rfl rfl (ezs_m152 hI (by omega) hu18) ?_
        rintro _ _ ⟨rfl, u19, hu19, rfl⟩
        refine ezs_imul rfl (fun u20 hu20 => ?_)
        refine ezs_iadd rfl (fun u21 hu21 => ?_)
        refine ezw_istore rfl rfl ?_
        exact ezw_keepE [true, true, true, true, true, true, true, true, true, true] (J97_6 u21 hu21 F A hI)
    refine ezw_if_le rfl rfl hu2 (fun h36_3 => ?_) (fun h36_3 => ?_)
    · exact ezw_keepE [true, true, true, true, true, true, true, true, true, true] (J68_4 (0) ⟨by decide, by decide⟩ F A hI)
    · refine ezw_iload rfl rfl ?_
      refine ezw_iload rfl rfl ?_
      refine ezw_aload_n rfl rfl ?_
      refine ezw_aload_n rfl rfl ?_
      refine ezw_iload_n rfl rfl ?_
      refine ezw_iload rfl rfl ?_
      refine ezw_iload rfl rfl ?_
      refine ezw_iload rfl rfl ?_
      refine ezw_iconst (1) rfl rfl ?_
      refine ezw_iload_n rfl rfl ?_
      refine ezw_ishlO rfl (fun u22 hu22 => ?_)
      refine ezw_iconst (-1) rfl rfl ?_
      refine ezs_ixor rfl (fun u23 hu23 => ?_)
      refine ezs_iand rfl (fun u24 hu24 => ?_)
      refine ezw_call0_5 rfl (by omega) (ezu_at rfl) rfl rfl rfl rfl (ezs_m149_23_30_l4 hI (by omega) (fun q h0 h1 => hzA q (by omega) (by omega)) ha3 (by omega) ha4 ha5 hu24) ?_
      rintro _ _ ⟨⟨F, A, rfl, hI⟩, u25, hu25, rfl⟩
      refine ezw_call2_1 rfl (by omega) rfl rfl (ezs_m152 hI (by omega) hu25) ?_
      rintro _ _ ⟨rfl, u26, hu26, rfl⟩
      refine ezs_imul rfl (fun u27 hu27 => ?_)
      refine ezs_iadd rfl (fun u28 hu28 => ?_)
      refine ezw_istore rfl rfl ?_
      exact ezw_keepE [true, true, true, true, true, true, true, true, true, true] (J68_4 u28 hu28 F A hI)
  · refine ezw_iconst (-1) rfl rfl ?_
    exact ezw_ireturn rfl rfl ⟨⟨F, A, rfl, hI⟩, _, ⟨by decide, by decide⟩, rfl⟩
theorem ezs_m153_23_30_l5 {a2 a3 a4 a5 : Int} {F : Nat → Nat → Int} {A : Nat → Int → Int} (hI : ezs_I fz F0 A0 F A) (hd : 15 ≤ d) (hzA : ∀ q, 24 ≤ q → q < 25 → fz q = false) (ha2 : ezw_in a2) (ga2 : a2 ≤ 4) (ha3 : ezw_in a3) (ha4 : ezw_in a4) (ha5 : ezw_in a5) : ezw_C l ρ B xa Hb D cA 153 d [ezw_p 23, ezw_p 30, ezw_i a2, ezw_i a3, ezw_i a4, ezw_i a5] (ezu_g e F A) (ezs_P e fz F0 A0 ezs_ri) := by
  refine ezw_met (k := 2) rfl rfl ?_
  refine ezw_aload_n rfl rfl ?_
  refine ezw_iconst (5) rfl rfl ?_
  refine ezw_call0_1 rfl (by omega) (ezu_at rfl) rfl rfl rfl rfl (ezs_m95_30 hI (by omega) ⟨by decide, by decide⟩) ?_
  rintro _ _ ⟨rfl, u1, hu1, rfl⟩
  refine ezw_istore rfl rfl ?_
  refine ezw_iload rfl rfl ?_
  refine ezw_if_gt rfl rfl ha4 (fun h9_1 => ?_) (fun h9_1 => ?_)
  · refine ezw_iconst (-1) rfl rfl ?_
    exact ezw_ireturn rfl rfl ⟨⟨F, A, rfl, hI⟩, _, ⟨by decide, by decide⟩, rfl⟩
  · refine ezw_iload rfl rfl ?_
    refine ezw_if_le rfl rfl ⟨by omega, by omega⟩ (fun h14_1 => ?_) (fun h14_1 => ?_)
    · refine ezw_iconst (-1) rfl rfl ?_
      exact ezw_ireturn rfl rfl ⟨⟨F, A, rfl, hI⟩, _, ⟨by decide, by decide⟩, rfl⟩
    · refine ezw_aload_n rfl rfl ?_
      refine ezs_get_i hI rfl rfl rfl rfl rfl rfl (fun u2 hu2 ku2 => ?_)
      refine ezw_aload_n rfl rfl ?_
      refine ezs_getp (p := 33) rfl rfl rfl rfl rfl ?_
      refine ezw_aload_n rfl rfl ?_
      refine ezs_getp (p := 25) rfl rfl rfl rfl rfl ?_
      refine ezw_iload_n rfl rfl ?_
      refine ezw_iconst (1) rfl rfl ?_
      refine ezs_isub rfl (fun u3 hu3 => ?_)
      refine ezw_call3_2 rfl (by omega) rfl rfl (ezs_m27_25 hI (by omega) hu3) ?_
      rintro _ _ ⟨rfl, u4, hu4, rfl⟩
      refine ezw_call3_2 rfl (by omega) rfl rfl (ezs_m27_33 hI (by omega) hu4) ?_
      rintro _ _ ⟨rfl, u5, hu5, rfl⟩
      refine ezw_icmp_eq rfl rfl hu2 hu5 (fun h38_5 => ?_) (fun h38_5 => ?_)
      · refine ezw_iload rfl rfl ?_
        refine ezw_aload_n rfl rfl ?_
        refine ezw_aload_n rfl rfl ?_
        refine ezw_iload_n rfl rfl ?_
        refine ezw_iload_n rfl rfl ?_
        refine ezw_iconst (1) rfl rfl ?_
        refine ezs_isub rfl (fun u6 hu6 => ?_)
        refine ezw_iconst (0) rfl rfl ?_
        refine ezw_iload rfl rfl ?_
        refine ezw_call0_5 rfl (by omega) (ezu_at rfl) rfl rfl rfl rfl (ezs_m149_23_30_l4 hI (by omega) (fun q h0 h1 => hzA q (by omega) (by omega)) ha2 (by omega) hu6 ⟨by decide, by decide⟩ ha5) ?_
        rintro _ _ ⟨⟨F, A, rfl, hI⟩, u7, hu7, rfl⟩
        refine ezw_call2_1 rfl (by omega) rfl rfl (ezs_m152 hI (by omega) hu7) ?_
        rintro _ _ ⟨rfl, u8, hu8, rfl⟩
        refine ezs_imul rfl (fun u9 hu9 => ?_)
        refine ezw_istore rfl rfl ?_
        refine ezw_iload rfl rfl ?_
        refine ezw_bipush (10) rfl rfl ?_
        refine ezw_icmp_ge rfl rfl ⟨by omega, by omega⟩ ⟨by decide, by decide⟩ (fun h67_9 => ?_) (fun h67_9 => ?_)
        · refine ezw_iload rfl rfl ?_
          refine ezw_bipush (10) rfl rfl ?_
          refine ezs_idiv rfl hu9 ⟨by decide, by decide⟩ (by omega) (fun u10 hu10 => ?_)
          exact ezw_ireturn rfl rfl ⟨⟨F, A, rfl, hI⟩, _, hu10, rfl⟩
        · refine ezw_iload rfl rfl ?_
          refine ezw_bipush (10) rfl rfl ?_
          refine ezw_iload rfl rfl ?_
          refine ezs_isub rfl (fun u11 hu11 => ?_)
          refine ezw_aload_n rfl rfl ?_
          refine ezw_aload_n rfl rfl ?_
          refine ezw_iload_n rfl rfl ?_
          refine ezw_iload_n rfl rfl ?_
          refine ezw_iload rfl rfl ?_
          refine ezw_iload rfl rfl ?_
          refine ezw_call0_5 rfl (by omega) (ezu_at rfl) rfl rfl rfl rfl (ezs_m149_23_30_l4 hI (by omega) (fun q h0 h1 => hzA q (by omega) (by omega)) ha2 (by omega) ha3 ha4 ha5) ?_
          rintro _ _ ⟨⟨F, A, rfl, hI⟩, u12, hu12, rfl⟩
          refine ezw_call2_1 rfl (by omega) rfl rfl (ezs_m152 hI (by omega) hu12) ?_
          rintro _ _ ⟨rfl, u13, hu13, rfl⟩
          refine ezs_imul rfl (fun u14 hu14 => ?_)
          refine ezs_iadd rfl (fun u15 hu15 => ?_)
          refine ezw_istore rfl rfl ?_
          refine ezw_iload rfl rfl ?_
          refine ezw_bipush (10) rfl rfl ?_
          refine ezs_idiv rfl hu15 ⟨by decide, by decide⟩ (by omega) (fun u16 hu16 => ?_)
          exact ezw_ireturn rfl rfl ⟨⟨F, A, rfl, hI⟩, _, hu16, rfl⟩
      · refine ezw_iconst (-1) rfl rfl ?_
        exact ezw_ireturn rfl rfl ⟨⟨F, A, rfl, hI⟩, _, ⟨by decide, by decide⟩, rfl⟩
theorem ezs_m151_23_30_l5 {a2 a3 a4 a5 a6 : Int} {F : Nat → Nat → Int} {A : Nat → Int → Int} (hI : ezs_I fz F0 A0 F A) (hd : 15 ≤ d) (hzA : ∀ q, 24 ≤ q → q < 25 → fz q = false) (ha2 : ezw_in a2) (ha3 : ezw_in a3) (ga3 : a3 ≤ 4) (ha4 : ezw_in a4) (ha5 : ezw_in a5) (ha6 : ezw_in a6) : ezw_C l ρ B xa Hb D cA 151 d [ezw_p 23, ezw_p 30, ezw_i a2, ezw_i a3, ezw_i a4, ezw_i a5, ezw_i a6] (ezu_g e F A) (ezs_P e fz F0 A0 ezs_ri) := by
  refine ezw_met (k := 7) rfl rfl ?_
  refine ezw_iload_n rfl rfl ?_
  refine ezw_iconst (1) rfl rfl ?_
  refine ezs_isub rfl (fun u1 hu1 => ?_)
  refine ezw_iconst (4) rfl rfl ?_
  refine ezs_irem rfl hu1 ⟨by decide, by decide⟩ (by omega) (fun u2 hu2 => ?_)
  refine ezw_istore rfl rfl ?_
  refine ezw_iload_n rfl rfl ?_
  refine ezw_iconst (5) rfl rfl ?_
  have J17_3 : ∀ y3 : Int, ezs_b y3 → ∀ F A, ezs_I fz F0 A0 F A → ezw_E l ρ B xa Hb D cA d ezq_re151 (ezs_P e fz F0 A0 ezs_ri) 17 [some (ezw_p 23), some (ezw_p 30), some (ezw_i a2), some (ezw_i a3), some (ezw_i a4), some (ezw_i a5), some (ezw_i a6), some (ezw_i u2), none, none, none, none, none, none] [(ezw_i y3)] (ezu_g e F A) := by
    intro y3 hy3 F A hI
    refine ezw_istore rfl rfl ?_
    refine ezw_aload_n rfl rfl ?_
    refine ezs_getp (p := 25) rfl rfl rfl rfl rfl ?_
    refine ezw_iload rfl rfl ?_
    refine ezw_iconst (1) rfl rfl ?_
    refine ezs_isub rfl (fun u5 hu5 => ?_)
    refine ezw_call3_2 rfl (by omega) rfl rfl (ezs_m27_25 hI (by omega) hu5) ?_
    rintro _ _ ⟨rfl, u6, hu6, rfl⟩
    refine ezw_istore rfl rfl ?_
    refine ezw_aload_n rfl rfl ?_
    refine ezw_iload rfl rfl ?_
    refine ezw_iload rfl rfl ?_
    refine ezw_iload rfl rfl ?_
    refine ezw_iload rfl rfl ?_
    refine ezw_call0_4 rfl (by omega) (ezu_at rfl) rfl rfl rfl rfl (ezs_m113_30 hI (by omega) hu6 ha5 hu2 ⟨by omega, by omega⟩) ?_
    rintro _ _ ⟨rfl, u7, hu7, rfl⟩
    refine ezw_istore rfl rfl ?_
    refine ezw_aload_n rfl rfl ?_
    refine ezw_iload rfl rfl ?_
    refine ezw_iload rfl rfl ?_
    refine ezw_iload rfl rfl ?_
    refine ezw_iload rfl rfl ?_
    refine ezw_call0_4 rfl (by omega) (ezu_at rfl) rfl rfl rfl rfl (ezs_m116_30 hI (by omega) hu6 ha5 hu2 ⟨by omega, by omega⟩) ?_
    rintro _ _ ⟨rfl, u8, hu8, rfl⟩
    refine ezw_istore rfl rfl ?_
    refine ezw_iconst (0) rfl rfl ?_
    refine ezw_istore rfl rfl ?_
    refine ezw_iload rfl rfl ?_
    have J95_9 : ∀ y9 : Int, ezw_in y9 → ∀ F A, ezs_I fz F0 A0 F A → ezw_E l ρ B xa Hb D cA d ezq_re151 (ezs_P e fz F0 A0 ezs_ri) 95 [some (ezw_p 23), some (ezw_p 30), some (ezw_i a2), some (ezw_i a3), some (ezw_i a4), some (ezw_i a5), some (ezw_i a6), some (ezw_i u2), some (ezw_i y3), some (ezw_i u6), some (ezw_i u7), some (ezw_i u8), some (ezw_i y9), none] [] (ezu_g e F A) := by
      intro y9 hy9 F A hI
      refine ezw_iload rfl rfl ?_
      refine ezw_bipush (10) rfl rfl ?_
      have J131_11 : ∀ y11 : Int, ezw_in y11 → ∀ F A, ezs_I fz F0 A0 F A → ezw_E l ρ B xa Hb D cA d ezq_re151 (ezs_P e fz F0 A0 ezs_ri) 131 [some (ezw_p 23), some (ezw_p 30), some (ezw_i a2), some (ezw_i a3), some (ezw_i a4), some (ezw_i a5), some (ezw_i a6), some (ezw_i u2), some (ezw_i y3), some (ezw_i u6), some (ezw_i u7), some (ezw_i u8), some (ezw_i y11), none] [] (ezu_g e F A) := by
        intro y11 hy11 F A hI
        refine ezw_iload rfl rfl ?_
        refine ezw_bipush (10) rfl rfl ?_
        refine ezw_icmp_ge rfl rfl hu7 ⟨by decide, by decide⟩ (fun h135_12 => ?_) (fun h135_12 => ?_)
        · refine ezw_iload rfl rfl ?_
          refine ezw_bipush (100) rfl rfl ?_
          refine ezs_idiv rfl hy11 ⟨by decide, by decide⟩ (by omega) (fun u13 hu13 => ?_)
          exact ezw_ireturn rfl rfl ⟨⟨F, A, rfl, hI⟩, _, hu13, rfl⟩
        · refine ezw_iload rfl rfl ?_
          refine ezw_bipush (10) rfl rfl ?_
          refine ezw_icmp_ge rfl rfl hu8 ⟨by decide, by decide⟩ (fun h142_13 => ?_) (fun h142_13 => ?_)
          · refine ezw_iload rfl rfl ?_
            refine ezw_bipush (100) rfl rfl ?_
            refine ezs_idiv rfl hy11 ⟨by decide, by decide⟩ (by omega) (fun u14 hu14 => ?_)
            exact ezw_ireturn rfl rfl ⟨⟨F, A, rfl, hI⟩, _, hu14, rfl⟩
          · refine ezw_bipush (9) rfl rfl ?_
            refine ezw_iload rfl rfl ?_
            refine ezw_iload rfl rfl ?_
            have J159_15 : ∀ y15 : Int, ezw_in y15 → ∀ F A, ezs_I fz F0 A0 F A → ezw_E l ρ B xa Hb D cA d ezq_re151 (ezs_P e fz F0 A0 ezs_ri) 159 [some (ezw_p 23), some (ezw_p 30), some (ezw_i a2), some (ezw_i a3), some (ezw_i a4), some (ezw_i a5), some (ezw_i a6), some (ezw_i u2), some (ezw_i y3), some (ezw_i u6), some (ezw_i u7), some (ezw_i u8), some (ezw_i y11), none] [(ezw_i y15), (ezw_i a5), (ezw_i (9))] (ezu_g e F A) := by
              intro y15 hy15 F A hI
              refine ezs_iadd rfl (fun u17 hu17 => ?_)
              refine ezw_mminE rfl ⟨by decide, by decide⟩ hu17 rfl (fun u18 hu18 => ?_)
              refine ezw_istore rfl rfl ?_
              refine ezw_iload rfl rfl ?_
              refine ezw_bipush (10) rfl rfl ?_
              refine ezw_iload rfl rfl ?_
              refine ezs_isub rfl (fun u19 hu19 => ?_)
              refine ezw_bipush (10) rfl rfl ?_
              refine ezw_iload rfl rfl ?_
              refine ezs_isub rfl (fun u20 hu20 => ?_)
              refine ezs_imul rfl (fun u21 hu21 => ?_)
              refine ezw_aload_n rfl rfl ?_
              refine ezw_aload_n rfl rfl ?_
              refine ezw_iload_n rfl rfl ?_
              refine ezw_iload rfl rfl ?_
              refine ezw_iload rfl rfl ?_
              refine ezw_iload rfl rfl ?_
              refine ezw_call0_5 rfl (by omega) (ezu_at rfl) rfl rfl rfl rfl (ezs_m149_23_30_l4 hI (by omega) (fun q h0 h1 => hzA q (by omega) (by omega)) ha3 (by omega) ha4 ⟨by omega, by omega⟩ ha6) ?_
              rintro _ _ ⟨⟨F, A, rfl, hI⟩, u22, hu22, rfl⟩
              refine ezw_call2_1 rfl (by omega) rfl rfl (ezs_m152 hI (by omega) hu22) ?_
              rintro _ _ ⟨rfl, u23, hu23, rfl⟩
              refine ezs_imul rfl (fun u24 hu24 => ?_)
              refine ezs_iadd rfl (fun u25 hu25 => ?_)
              refine ezw_istore rfl rfl ?_
              refine ezw_iload rfl rfl ?_
              refine ezw_bipush (100) rfl rfl ?_
              refine ezs_idiv rfl hu25 ⟨by decide, by decide⟩ (by omega) (fun u26 hu26 => ?_)
              exact ezw_ireturn rfl rfl ⟨⟨F, A, rfl, hI⟩, _, hu26, rfl⟩
            refine ezw_if_eq rfl rfl ⟨by omega, by omega⟩ (fun h151_14 => ?_) (fun h151_14 => ?_)
            · refine ezw_iconst (1) rfl rfl ?_
              exact ezw_keepE [true, true, true, true, true, true, true, true, true, true, true, true, true, false] (J159_15 (1) ⟨by decide, by decide⟩ F A hI)
            · refine ezw_iconst (2) rfl rfl ?_
              refine ezw_goto rfl rfl ?_
              exact ezw_keepE [true, true, true, true, true, true, true, true, true, true, true, true, true, false] (J159_15 (2) ⟨by decide, by decide⟩ F A hI)
      refine ezw_icmp_ge rfl rfl hu7 ⟨by decide, by decide⟩ (fun h99_10 => ?_) (fun h99_10 => ?_)
      · exact ezw_keepE [true, true, true, true, true, true, true, true, true, true, true, true, true, false] (J131_11 y9 hy9 F A hI)
      · refine ezw_iload rfl rfl ?_
        refine ezw_if_le rfl rfl hu8 (fun h104_26 => ?_) (fun h104_26 => ?_)
        · exact ezw_keepE [true, true, true, true, true, true, true, true, true, true, true, true, true, false] (J131_11 y9 hy9 F A hI)
        · refine ezw_iload rfl rfl ?_
          refine ezw_bipush (10) rfl rfl ?_
          refine ezw_iload rfl rfl ?_
          refine ezs_isub rfl (fun u27 hu27 => ?_)
          refine ezw_iload rfl rfl ?_
          refine ezs_imul rfl (fun u28 hu28 => ?_)
          refine ezw_sipush (1000) rfl rfl ?_
          refine ezs_imul rfl (fun u29 hu29 => ?_)
          refine ezw_aload_n rfl rfl ?_
          refine ezw_iload rfl rfl ?_
          refine ezw_call0_1 rfl (by omega) (ezu_at rfl) rfl rfl rfl rfl (ezs_m144_30 hI (by omega) ha6) ?_
          rintro _ _ ⟨rfl, u30, hu30, rfl⟩
          refine ezs_imul rfl (fun u31 hu31 => ?_)
          refine ezs_iadd rfl (fun u32 hu32 => ?_)
          refine ezw_istore rfl rfl ?_
          exact ezw_keepE [true, true, true, true, true, true, true, true, true, true, true, true, true, false] (J131_11 u32 hu32 F A hI)
    refine ezw_if_le rfl rfl hu7 (fun h65_8 => ?_) (fun h65_8 => ?_)
    · exact ezw_keepE [true, true, true, true, true, true, true, true, true, true, true, true, true, false] (J95_9 (0) ⟨by decide, by decide⟩ F A hI)
    · refine ezw_iload rfl rfl ?_
      refine ezw_bipush (10) rfl rfl ?_
      refine ezw_iload rfl rfl ?_
      refine ezs_imul rfl (fun u33 hu33 => ?_)
      refine ezw_aload_n rfl rfl ?_
      refine ezw_aload_n rfl rfl ?_
      refine ezw_iload_n rfl rfl ?_
      refine ezw_iload rfl rfl ?_
      refine ezw_iconst (1) rfl rfl ?_
      refine ezs_isub rfl (fun u34 hu34 => ?_)
      refine ezw_iconst (0) rfl rfl ?_
      refine ezw_iload rfl rfl ?_
      refine ezw_call0_5 rfl (by omega) (ezu_at rfl) rfl rfl rfl rfl (ezs_m149_23_30_l4 hI (by omega) (fun q h0 h1 => hzA q (by omega) (by omega)) ha3 (by omega) hu34 ⟨by decide, by decide⟩ ha6) ?_
      rintro _ _ ⟨⟨F, A, rfl, hI⟩, u35, hu35, rfl⟩
      refine ezw_call2_1 rfl (by omega) rfl rfl (ezs_m152 hI (by omega) hu35) ?_
      rintro _ _ ⟨rfl, u36, hu36, rfl⟩
      refine ezs_imul rfl (fun u37 hu37 => ?_)
      refine ezs_iadd rfl (fun u38 hu38 => ?_)
      refine ezw_istore rfl rfl ?_
      exact ezw_keepE [true, true, true, true, true, true, true, true, true, true, true, true, true, false] (J95_9 u38 hu38 F A hI)
  refine ezw_icmp_lt rfl rfl ha2 ⟨by decide, by decide⟩ (fun h9_2 => ?_) (fun h9_2 => ?_)
  · refine ezw_iconst (0) rfl rfl ?_
    exact ezw_keepE [true, true, true, true, true, true, true, true, false, false, false, false, false, false] (J17_3 (0) ⟨by omega, by omega⟩ F A hI)
  · refine ezw_iconst (1) rfl rfl ?_
    refine ezw_goto rfl rfl ?_
    exact ezw_keepE [true, true, true, true, true, true, true, true, false, false, false, false, false, false] (J17_3 (1) ⟨by omega, by omega⟩ F A hI)
theorem ezs_m150_23_30_l5 {a2 a3 a4 a5 a6 : Int} {F : Nat → Nat → Int} {A : Nat → Int → Int} (hI : ezs_I fz F0 A0 F A) (hd : 16 ≤ d) (hzA : ∀ q, 24 ≤ q → q < 25 → fz q = false) (ha2 : ezw_in a2) (ha3 : ezw_in a3) (ga3 : a3 ≤ 4) (ha4 : ezw_in a4) (ha5 : ezw_in a5) (ha6 : ezw_in a6) : ezw_C l ρ B xa Hb D cA 150 d [ezw_p 23, ezw_p 30, ezw_i a2, ezw_i a3, ezw_i a4, ezw_i a5, ezw_i a6] (ezu_g e F A) (ezs_P e fz F0 A0 ezs_ri) := by
  refine ezw_met (k := 0) rfl rfl ?_
  refine ezw_iload_n rfl rfl ?_
  refine ezw_bipush (9) rfl rfl ?_
  refine ezw_icmp_ge rfl rfl ha2 ⟨by decide, by decide⟩ (fun h3_0 => ?_) (fun h3_0 => ?_)
  · refine ezw_iload_n rfl rfl ?_
    refine ezw_bipush (9) rfl rfl ?_
    refine ezw_icmp_ne rfl rfl ha2 ⟨by decide, by decide⟩ (fun h23_0 => ?_) (fun h23_0 => ?_)
    · refine ezw_iload_n rfl rfl ?_
      refine ezw_bipush (10) rfl rfl ?_
      refine ezw_icmp_ne rfl rfl ha2 ⟨by decide, by decide⟩ (fun h56_0 => ?_) (fun h56_0 => ?_)
      · refine ezw_aload_n rfl rfl ?_
        refine ezw_aload_n rfl rfl ?_
        refine ezw_iload_n rfl rfl ?_
        refine ezw_bipush (11) rfl rfl ?_
        refine ezs_isub rfl (fun u1 hu1 => ?_)
        refine ezw_iload_n rfl rfl ?_
        refine ezw_iload rfl rfl ?_
        refine ezw_iload rfl rfl ?_
        refine ezw_iload rfl rfl ?_
        refine ezw_call0_6 rfl (by omega) (ezu_at rfl) rfl rfl rfl rfl (ezs_m154_23_30_l5 hI (by omega) (fun q h0 h1 => hzA q (by omega) (by omega)) hu1 ha3 (by omega) ha4 ha5 ha6) ?_
        rintro _ _ ⟨⟨F, A, rfl, hI⟩, u2, hu2, rfl⟩
        exact ezw_ireturn rfl rfl ⟨⟨F, A, rfl, hI⟩, _, hu2, rfl⟩
      · refine ezw_aload_n rfl rfl ?_
        refine ezw_aload_n rfl rfl ?_
        refine ezw_iload_n rfl rfl ?_
        refine ezw_iload rfl rfl ?_
        refine ezw_iload rfl rfl ?_
        refine ezw_iload rfl rfl ?_
        refine ezw_call0_5 rfl (by omega) (ezu_at rfl) rfl rfl rfl rfl (ezs_m153_23_30_l5 hI (by omega) (fun q h0 h1 => hzA q (by omega) (by omega)) ha3 (by omega) ha4 ha5 ha6) ?_
        rintro _ _ ⟨⟨F, A, rfl, hI⟩, u3, hu3, rfl⟩
        exact ezw_ireturn rfl rfl ⟨⟨F, A, rfl, hI⟩, _, hu3, rfl⟩
    · refine ezw_iload rfl rfl ?_
      refine ezw_if_le rfl rfl ha5 (fun h28_3 => ?_) (fun h28_3 => ?_)
      · refine ezw_iconst (-1) rfl rfl ?_
        exact ezw_ireturn rfl rfl ⟨⟨F, A, rfl, hI⟩, _, ⟨by decide, by decide⟩, rfl⟩
      · refine ezw_aload_n rfl rfl ?_
        refine ezw_aload_n rfl rfl ?_
        refine ezw_iload_n rfl rfl ?_
        refine ezw_iload rfl rfl ?_
        refine ezw_iload rfl rfl ?_
        refine ezw_iconst (1) rfl rfl ?_
        refine ezs_isub rfl (fun u4 hu4 => ?_)
        refine ezw_iload rfl rfl ?_
        refine ezw_call0_5 rfl (by omega) (ezu_at rfl) rfl rfl rfl rfl (ezs_m149_23_30_l4 hI (by omega) (fun q h0 h1 => hzA q (by omega) (by omega)) ha3 (by omega) ha4 hu4 ha6) ?_
        rintro _ _ ⟨⟨F, A, rfl, hI⟩, u5, hu5, rfl⟩
        refine ezw_call2_1 rfl (by omega) rfl rfl (ezs_m152 hI (by omega) hu5) ?_
        rintro _ _ ⟨rfl, u6, hu6, rfl⟩
        refine ezw_goto rfl rfl ?_
        exact ezw_ireturn rfl rfl ⟨⟨F, A, rfl, hI⟩, _, hu6, rfl⟩
  · refine ezw_aload_n rfl rfl ?_
    refine ezw_aload_n rfl rfl ?_
    refine ezw_iload_n rfl rfl ?_
    refine ezw_iload_n rfl rfl ?_
    refine ezw_iload rfl rfl ?_
    refine ezw_iload rfl rfl ?_
    refine ezw_iload rfl rfl ?_
    refine ezw_call0_6 rfl (by omega) (ezu_at rfl) rfl rfl rfl rfl (ezs_m151_23_30_l5 hI (by omega) (fun q h0 h1 => hzA q (by omega) (by omega)) ha2 ha3 (by omega) ha4 ha5 ha6) ?_
    rintro _ _ ⟨⟨F, A, rfl, hI⟩, u7, hu7, rfl⟩
    exact ezw_ireturn rfl rfl ⟨⟨F, A, rfl, hI⟩, _, hu7, rfl⟩
theorem ezs_m149_23_30_l5 {a2 a3 a4 a5 : Int} {F : Nat → Nat → Int} {A : Nat → Int → Int} (hI : ezs_I fz F0 A0 F A) (hd : 17 ≤ d) (hzA : ∀ q, 24 ≤ q → q < 25 → fz q = false) (ha2 : ezw_in a2) (ga2 : a2 ≤ 5) (ha3 : ezw_in a3) (ha4 : ezw_in a4) (ha5 : ezw_in a5) : ezw_C l ρ B xa Hb D cA 149 d [ezw_p 23, ezw_p 30, ezw_i a2, ezw_i a3, ezw_i a4, ezw_i a5] (ezu_g e F A) (ezs_P e fz F0 A0 ezs_ri) := by
  refine ezw_met (k := 5) rfl rfl ?_
  refine ezw_sipush (1000) rfl rfl ?_
  refine ezw_aload_n rfl rfl ?_
  refine ezw_iload rfl rfl ?_
  refine ezw_call0_1 rfl (by omega) (ezu_at rfl) rfl rfl rfl rfl (ezs_m144_30 hI (by omega) ha5) ?_
  rintro _ _ ⟨rfl, u1, hu1, rfl⟩
  refine ezw_iload_n rfl rfl ?_
  have J21_2 : ∀ y2 : Int, ezw_in y2 → ∀ F A, ezs_I fz F0 A0 F A → ezw_E l ρ B xa Hb D cA d ezq_re149 (ezs_P e fz F0 A0 ezs_ri) 21 [some (ezw_p 23), some (ezw_p 30), some (ezw_i a2), some (ezw_i a3), some (ezw_i a4), some (ezw_i a5), none, none, none, none, none] [(ezw_i y2), (ezw_i u1), (ezw_i (1000))] (ezu_g e F A) := by
    intro y2 hy2 F A hI
    refine ezs_iadd rfl (fun u4 hu4 => ?_)
    refine ezs_imul rfl (fun u5 hu5 => ?_)
    refine ezw_istore rfl rfl ?_
    refine ezw_iconst (0) rfl rfl ?_
    refine ezw_istore rfl rfl ?_
    refine ezw_iload_n rfl rfl ?_
    refine ezw_if_le rfl rfl ha2 (fun h29_5 => ?_) (fun h29_5 => ?_)
    · refine ezw_iload rfl rfl ?_
      refine ezw_bipush (16) rfl rfl ?_
      refine ezs_imul rfl (fun u6 hu6 => ?_)
      refine ezw_iload rfl rfl ?_
      refine ezs_iadd rfl (fun u7 hu7 => ?_)
      exact ezw_ireturn rfl rfl ⟨⟨F, A, rfl, hI⟩, _, hu7, rfl⟩
    · refine ezw_iload_n rfl rfl ?_
      refine ezw_if_gt rfl rfl ha3 (fun h33_7 => ?_) (fun h33_7 => ?_)
      · refine ezw_iload_n rfl rfl ?_
        refine ezw_iconst (1) rfl rfl ?_
        refine ezs_isub rfl (fun u8 hu8 => ?_)
        refine ezw_bipush (6) rfl rfl ?_
        refine ezs_imul rfl (fun u9 hu9 => ?_)
        refine ezw_iload_n rfl rfl ?_
        refine ezs_iadd rfl (fun u10 hu10 => ?_)
        refine ezw_iconst (1) rfl rfl ?_
        refine ezs_isub rfl (fun u11 hu11 => ?_)
        refine ezw_bipush (10) rfl rfl ?_
        refine ezs_imul rfl (fun u12 hu12 => ?_)
        refine ezw_iload rfl rfl ?_
        refine ezs_iadd rfl (fun u13 hu13 => ?_)
        refine ezw_bipush (16) rfl rfl ?_
        refine ezs_imul rfl (fun u14 hu14 => ?_)
        refine ezw_iload rfl rfl ?_
        refine ezs_iadd rfl (fun u15 hu15 => ?_)
        refine ezw_istore rfl rfl ?_
        refine ezw_aload_n rfl rfl ?_
        refine ezs_getp (p := 24) rfl rfl rfl rfl rfl ?_
        refine ezw_iload rfl rfl ?_
        refine ezw_call3_2 rfl (by omega) rfl rfl (ezs_m27_24 hI (by omega) hu15) ?_
        rintro _ _ ⟨rfl, u16, hu16, rfl⟩
        refine ezw_iconst (-1) rfl rfl ?_
        refine ezw_icmp_eq rfl rfl hu16 ⟨by decide, by decide⟩ (fun h79_16 => ?_) (fun h79_16 => ?_)
        · refine ezw_iconst (1) rfl rfl ?_
          refine ezw_istore rfl rfl ?_
          have L95_19 : ∀ c19 : Int, ezw_in c19 → (1) ≤ c19 → ∀ y17 : Int, ezw_in y17 → ∀ y18 : Int, ezw_in y18 → ∀ F A, ezs_I fz F0 A0 F A → ezw_E l ρ B xa Hb D cA d ezq_re149 (ezs_P e fz F0 A0 ezs_ri) 95 [some (ezw_p 23), some (ezw_p 30), some (ezw_i a2), some (ezw_i a3), some (ezw_i a4), some (ezw_i a5), some (ezw_i y17), some (ezw_i y18), some (ezw_i u15), some (ezw_i c19), none] [] (ezu_g e F A) := by
            refine ezs_up ?_
            intro c19 hc19 ihc19 gc19 y17 hy17 y18 hy18 F A hI
            refine ezw_iload rfl rfl ?_
            refine ezw_bipush (15) rfl rfl ?_
            have J140_23 : ∀ y21 : Int, ezw_in y21 → ∀ y22 : Int, ezw_in y22 → ∀ y23 : Int, ezw_in y23 → ∀ F A, ezs_I fz F0 A0 F A → ezw_E l ρ B xa Hb D cA d ezq_re149 (ezs_P e fz F0 A0 ezs_ri) 140 [some (ezw_p 23), some (ezw_p 30), some (ezw_i a2), some (ezw_i a3), some (ezw_i a4), some (ezw_i a5), some (ezw_i y21), some (ezw_i y22), some (ezw_i u15), some (ezw_i y23), none] [] (ezu_g e F A) := by
              intro y21 hy21 y22 hy22 y23 hy23 F A hI
              refine ezw_aload_n rfl rfl ?_
              refine ezs_getp (p := 24) rfl rfl rfl rfl rfl ?_
              refine ezw_iload rfl rfl ?_
              refine ezw_iload rfl rfl ?_
              refine ezw_bipush (16) rfl rfl ?_
              refine ezs_imul rfl (fun u25 hu25 => ?_)
              refine ezw_iload rfl rfl ?_
              refine ezs_iadd rfl (fun u26 hu26 => ?_)
              refine ezw_call3_3 rfl (by omega) rfl rfl (ezs_m21_24 hI (by omega) (fun q h0 h1 => hzA q (by omega) (by omega)) hu15 hu26) ?_
              rintro _ _ ⟨⟨F, A, rfl, hI⟩, rfl⟩
              refine ezw_iload rfl rfl ?_
              refine ezw_bipush (16) rfl rfl ?_
              refine ezs_imul rfl (fun u27 hu27 => ?_)
              refine ezw_iload rfl rfl ?_
              refine ezs_iadd rfl (fun u28 hu28 => ?_)
              exact ezw_ireturn rfl rfl ⟨⟨F, A, rfl, hI⟩, _, hu28, rfl⟩
            refine ezw_icmp_ge rfl rfl hc19 ⟨by decide, by decide⟩ (fun h99_20 => ?_) (fun h99_20 => ?_)
            · exact ezw_keepE [true, true, true, true, true, true, true, true, true, true, false] (J140_23 y17 hy17 y18 hy18 c19 hc19 F A hI)
            · refine ezw_aload_n rfl rfl ?_
              refine ezw_aload_n rfl rfl ?_
              refine ezw_iload rfl rfl ?_
              refine ezw_iload_n rfl rfl ?_
              refine ezw_iconst (1) rfl rfl ?_
              refine ezw_isub rfl rfl ?_
              refine ezw_iload_n rfl rfl ?_
              refine ezw_iload rfl rfl ?_
              refine ezw_iload rfl rfl ?_
              refine ezw_call0_6 rfl (by omega) (ezu_at rfl) rfl rfl rfl rfl (ezs_m150_23_30_l5 hI (by omega) (fun q h0 h1 => hzA q (by omega) (by omega)) hc19 ⟨by omega, by omega⟩ (by omega) ha3 ha4 ha5) ?_
              rintro _ _ ⟨⟨F, A, rfl, hI⟩, u29, hu29, rfl⟩
              refine ezw_istore rfl rfl ?_
              refine ezw_iload rfl rfl ?_
              refine ezw_iload rfl rfl ?_
              refine ezw_icmp_le rfl rfl hu29 hy17 (fun h123_29 => ?_) (fun h123_29 => ?_)
              · refine ezw_iinc (1) rfl rfl rfl rfl rfl ?_
                refine ezw_goto rfl rfl ?_
                exact ezw_keepE [true, true, true, true, true, true, true, true, true, true, false] (ihc19 (c19 + (1)) (by omega) ⟨by omega, by omega⟩ (by omega) y17 hy17 y18 hy18 F A hI)
              · refine ezw_iload rfl rfl ?_
                refine ezw_istore rfl rfl ?_
                refine ezw_iload rfl rfl ?_
                refine ezw_istore rfl rfl ?_
                refine ezw_iinc (1) rfl rfl rfl rfl rfl ?_
                refine ezw_goto rfl rfl ?_
                exact ezw_keepE [true, true, true, true, true, true, true, true, true, true, false] (ihc19 (c19 + (1)) (by omega) ⟨by omega, by omega⟩ (by omega) u29 hu29 c19 hc19 F A hI)
          exact ezw_keepE [true, true, true, true, true, true, true, true, true, true, false] (L95_19 (1) ⟨by decide, by decide⟩ (by omega) u5 hu5 (0) ⟨by decide, by decide⟩ F A hI)
        · refine ezw_aload_n rfl rfl ?_
          refine ezs_getp (p := 24) rfl rfl rfl rfl rfl ?_
          refine ezw_iload rfl rfl ?_
          refine ezw_call3_2 rfl (by omega) rfl rfl (ezs_m27_24 hI (by omega) hu15) ?_
          rintro _ _ ⟨rfl, u30, hu30, rfl⟩
          exact ezw_ireturn rfl rfl ⟨⟨F, A, rfl, hI⟩, _, hu30, rfl⟩
      · refine ezw_iload rfl rfl ?_
        refine ezw_bipush (16) rfl rfl ?_
        refine ezs_imul rfl (fun u31 hu31 => ?_)
        refine ezw_iload rfl rfl ?_
        refine ezs_iadd rfl (fun u32 hu32 => ?_)
        exact ezw_ireturn rfl rfl ⟨⟨F, A, rfl, hI⟩, _, hu32, rfl⟩
  refine ezw_if_le rfl rfl ha3 (fun h10_1 => ?_) (fun h10_1 => ?_)
  · refine ezw_aload_n rfl rfl ?_
    refine ezs_get_i hI rfl rfl rfl rfl rfl rfl (fun u33 hu33 ku33 => ?_)
    exact ezw_keepE [true, true, true, true, true, true, false, false, false, false, false] (J21_2 u33 hu33 F A hI)
  · refine ezw_iconst (0) rfl rfl ?_
    refine ezw_goto rfl rfl ?_
    exact ezw_keepE [true, true, true, true, true, true, false, false, false, false, false] (J21_2 (0) ⟨by decide, by decide⟩ F A hI)
theorem ezs_m154_23_30_l6 {a2 a3 a4 a5 a6 : Int} {F : Nat → Nat → Int} {A : Nat → Int → Int} (hI : ezs_I fz F0 A0 F A) (hd : 18 ≤ d) (hzA : ∀ q, 24 ≤ q → q < 25 → fz q = false) (ha2 : ezw_in a2) (ha3 : ezw_in a3) (ga3 : a3 ≤ 5) (ha4 : ezw_in a4) (ha5 : ezw_in a5) (ha6 : ezw_in a6) : ezw_C l ρ B xa Hb D cA 154 d [ezw_p 23, ezw_p 30, ezw_i a2, ezw_i a3, ezw_i a4, ezw_i a5, ezw_i a6] (ezu_g e F A) (ezs_P e fz F0 A0 ezs_ri) := by
  refine ezw_met (k := 3) rfl rfl ?_
  refine ezw_iload rfl rfl ?_
  refine ezw_iload_n rfl rfl ?_
  refine ezw_call3_2 rfl (by omega) rfl rfl (ezs_m49 hI (by omega) ha6 ha2) ?_
  rintro _ _ ⟨rfl, u1, hu1, rfl⟩
  refine ezw_if_ne rfl rfl hu1 (fun h6_1 => ?_) (fun h6_1 => ?_)
  · refine ezw_aload_n rfl rfl ?_
    refine ezs_getp (p := 36) rfl rfl rfl rfl rfl ?_
    refine ezw_iload_n rfl rfl ?_
    refine ezw_call3_2 rfl (by omega) rfl rfl (ezs_m27_36 hI (by omega) ha2) ?_
    rintro _ _ ⟨rfl, u2, hu2, rfl⟩
    refine ezw_istore rfl rfl ?_
    refine ezw_aload_n rfl rfl ?_
    refine ezs_getp (p := 37) rfl rfl rfl rfl rfl ?_
    refine ezw_iload_n rfl rfl ?_
    refine ezw_call3_2 rfl (by omega) rfl rfl (ezs_m27_37 hI (by omega) ha2) ?_
    rintro _ _ ⟨rfl, u3, hu3, rfl⟩
    refine ezw_istore rfl rfl ?_
    refine ezw_iconst (0) rfl rfl ?_
    refine ezw_istore rfl rfl ?_
    refine ezw_iload rfl rfl ?_
    have J68_4 : ∀ y4 : Int, ezw_in y4 → ∀ F A, ezs_I fz F0 A0 F A → ezw_E l ρ B xa Hb D cA d ezq_re154 (ezs_P e fz F0 A0 ezs_ri) 68 [some (ezw_p 23), some (ezw_p 30), some (ezw_i a2), some (ezw_i a3), some (ezw_i a4), some (ezw_i a5), some (ezw_i a6), some (ezw_i u2), some (ezw_i u3), some (ezw_i y4)] [] (ezu_g e F A) := by
      intro y4 hy4 F A hI
      refine ezw_iload rfl rfl ?_
      have J97_6 : ∀ y6 : Int, ezw_in y6 → ∀ F A, ezs_I fz F0 A0 F A → ezw_E l ρ B xa Hb D cA d ezq_re154 (ezs_P e fz F0 A0 ezs_ri) 97 [some (ezw_p 23), some (ezw_p 30), some (ezw_i a2), some (ezw_i a3), some (ezw_i a4), some (ezw_i a5), some (ezw_i a6), some (ezw_i u2), some (ezw_i u3), some (ezw_i y6)] [] (ezu_g e F A) := by
        intro y6 hy6 F A hI
        refine ezw_iload rfl rfl ?_
        refine ezw_iload rfl rfl ?_
        refine ezs_iadd rfl (fun u8 hu8 => ?_)
        refine ezw_bipush (10) rfl rfl ?_
        refine ezw_icmp_ge rfl rfl hu8 ⟨by decide, by decide⟩ (fun h104_8 => ?_) (fun h104_8 => ?_)
        · refine ezw_iload rfl rfl ?_
          refine ezw_bipush (10) rfl rfl ?_
          refine ezs_idiv rfl hy6 ⟨by decide, by decide⟩ (by omega) (fun u9 hu9 => ?_)
          exact ezw_ireturn rfl rfl ⟨⟨F, A, rfl, hI⟩, _, hu9, rfl⟩
        · refine ezw_iload rfl rfl ?_
          refine ezw_bipush (10) rfl rfl ?_
          refine ezw_iload rfl rfl ?_
          refine ezs_isub rfl (fun u10 hu10 => ?_)
          refine ezw_iload rfl rfl ?_
          refine ezs_isub rfl (fun u11 hu11 => ?_)
          refine ezw_aload_n rfl rfl ?_
          refine ezw_aload_n rfl rfl ?_
          refine ezw_iload_n rfl rfl ?_
          refine ezw_iload rfl rfl ?_
          refine ezw_iload rfl rfl ?_
          refine ezw_iload rfl rfl ?_
          refine ezw_call0_5 rfl (by omega) (ezu_at rfl) rfl rfl rfl rfl (ezs_m149_23_30_l5 hI (by omega) (fun q h0 h1 => hzA q (by omega) (by omega)) ha3 (by omega) ha4 ha5 ha6) ?_
          rintro _ _ ⟨⟨F, A, rfl, hI⟩, u12, hu12, rfl⟩
          refine ezw_call2_1 rfl (by omega) rfl rfl (ezs_m152 hI (by omega) hu12) ?_
          rintro _ _ ⟨rfl, u13, hu13, rfl⟩
          refine ezs_imul rfl (fun u14 hu14 => ?_)
          refine ezs_iadd rfl (fun u15 hu15 => ?_)
          refine ezw_istore rfl rfl ?_
          refine ezw_iload rfl rfl ?_
          refine ezw_bipush (10) rfl rfl ?_
          refine ezs_idiv rfl hu15 ⟨by decide, by decide⟩ (by omega) (fun u16 hu16 => ?_)
          exact ezw_ireturn rfl rfl ⟨⟨F, A, rfl, hI⟩, _, hu16, rfl⟩
      refine ezw_if_le rfl rfl hu3 (fun h70_5 => ?_) (fun h70_5 => ?_)
      · exact ezw_keepE [true, true, true, true, true, true, true, true, true, true] (J97_6 y4 hy4 F A hI)
      · refine ezw_iload rfl rfl ?_
        refine ezw_iload rfl rfl ?_
        refine ezw_aload_n rfl rfl ?_
        refine ezw_aload_n rfl rfl ?_
        refine ezw_iload_n rfl rfl ?_
        refine ezw_iload rfl rfl ?_
        refine ezw_iconst (1) rfl rfl ?_
        refine ezs_isub rfl (fun u17 hu17 => ?_)
        refine ezw_iconst (0) rfl rfl ?_
        refine ezw_iload rfl rfl ?_
        refine ezw_call0_5 rfl (by omega) (ezu_at rfl) rfl rfl rfl rfl (ezs_m149_23_30_l5 hI (by omega) (fun q h0 h1 => hzA q (by omega) (by omega)) ha3 (by omega) hu17 ⟨by decide, by decide⟩ ha6) ?_
        rintro _ _ ⟨⟨F, A, rfl, hI⟩, u18, hu18, rfl⟩
        refine ezw_call2_1 rfl (by omega) rfl rfl (ezs_m152 hI (by omega) hu18) ?_
        rintro _ _ ⟨rfl, u19, hu19, rfl⟩
        refine ezs_imul rfl (fun u20 hu20 => ?_)
        refine ezs_iadd rfl (fun u21 hu21 => ?_)
        refine ezw_istore rfl rfl ?_
        exact ezw_keepE [true, true, true, true, true, true, true, true, true, true] (J97_6 u21 hu21 F A hI)
    refine ezw_if_le rfl rfl hu2 (fun h36_3 => ?_) (fun h36_3 => ?_)
    · exact ezw_keepE [true, true, true, true, true, true, true, true, true, true] (J68_4 (0) ⟨by decide, by decide⟩ F A hI)
    · refine ezw_iload rfl rfl ?_
      refine ezw_iload rfl rfl ?_
      refine ezw_aload_n rfl rfl ?_
      refine ezw_aload_n rfl rfl ?_
      refine ezw_iload_n rfl rfl ?_
      refine ezw_iload rfl rfl ?_
      refine ezw_iload rfl rfl ?_
      refine ezw_iload rfl rfl ?_
      refine ezw_iconst (1) rfl rfl ?_
      refine ezw_iload_n rfl rfl ?_
      refine ezw_ishlO rfl (fun u22 hu22 => ?_)
      refine ezw_iconst (-1) rfl rfl ?_
      refine ezs_ixor rfl (fun u23 hu23 => ?_)
      refine ezs_iand rfl (fun u24 hu24 => ?_)
      refine ezw_call0_5 rfl (by omega) (ezu_at rfl) rfl rfl rfl rfl (ezs_m149_23_30_l5 hI (by omega) (fun q h0 h1 => hzA q (by omega) (by omega)) ha3 (by omega) ha4 ha5 hu24) ?_
      rintro _ _ ⟨⟨F, A, rfl, hI⟩, u25, hu25, rfl⟩
      refine ezw_call2_1 rfl (by omega) rfl rfl (ezs_m152 hI (by omega) hu25) ?_
      rintro _ _ ⟨rfl, u26, hu26, rfl⟩
      refine ezs_imul rfl (fun u27 hu27 => ?_)
      refine ezs_iadd rfl (fun u28 hu28 => ?_)
      refine ezw_istore rfl rfl ?_
      exact ezw_keepE [true, true, true, true, true, true, true, true, true, true] (J68_4 u28 hu28 F A hI)
  · refine ezw_iconst (-1) rfl rfl ?_
    exact ezw_ireturn rfl rfl ⟨⟨F, A, rfl, hI⟩, _, ⟨by decide, by decide⟩, rfl⟩
theorem ezs_m153_23_30_l6 {a2 a3 a4 a5 : Int} {F : Nat → Nat → Int} {A : Nat → Int → Int} (hI : ezs_I fz F0 A0 F A) (hd : 18 ≤ d) (hzA : ∀ q, 24 ≤ q → q < 25 → fz q = false) (ha2 : ezw_in a2) (ga2 : a2 ≤ 5) (ha3 : ezw_in a3) (ha4 : ezw_in a4) (ha5 : ezw_in a5) : ezw_C l ρ B xa Hb D cA 153 d [ezw_p 23, ezw_p 30, ezw_i a2, ezw_i a3, ezw_i a4, ezw_i a5] (ezu_g e F A) (ezs_P e fz F0 A0 ezs_ri) := by
  refine ezw_met (k := 2) rfl rfl ?_
  refine ezw_aload_n rfl rfl ?_
  refine ezw_iconst (5) rfl rfl ?_
  refine ezw_call0_1 rfl (by omega) (ezu_at rfl) rfl rfl rfl rfl (ezs_m95_30 hI (by omega) ⟨by decide, by decide⟩) ?_
  rintro _ _ ⟨rfl, u1, hu1, rfl⟩
  refine ezw_istore rfl rfl ?_
  refine ezw_iload rfl rfl ?_
  refine ezw_if_gt rfl rfl ha4 (fun h9_1 => ?_) (fun h9_1 => ?_)
  · refine ezw_iconst (-1) rfl rfl ?_
    exact ezw_ireturn rfl rfl ⟨⟨F, A, rfl, hI⟩, _, ⟨by decide, by decide⟩, rfl⟩
  · refine ezw_iload rfl rfl ?_
    refine ezw_if_le rfl rfl ⟨by omega, by omega⟩ (fun h14_1 => ?_) (fun h14_1 => ?_)
    · refine ezw_iconst (-1) rfl rfl ?_
      exact ezw_ireturn rfl rfl ⟨⟨F, A, rfl, hI⟩, _, ⟨by decide, by decide⟩, rfl⟩
    · refine ezw_aload_n rfl rfl ?_
      refine ezs_get_i hI rfl rfl rfl rfl rfl rfl (fun u2 hu2 ku2 => ?_)
      refine ezw_aload_n rfl rfl ?_
      refine ezs_getp (p := 33) rfl rfl rfl rfl rfl ?_
      refine ezw_aload_n rfl rfl ?_
      refine ezs_getp (p := 25) rfl rfl rfl rfl rfl ?_
      refine ezw_iload_n rfl rfl ?_
      refine ezw_iconst (1) rfl rfl ?_
      refine ezs_isub rfl (fun u3 hu3 => ?_)
      refine ezw_call3_2 rfl (by omega) rfl rfl (ezs_m27_25 hI (by omega) hu3) ?_
      rintro _ _ ⟨rfl, u4, hu4, rfl⟩
      refine ezw_call3_2 rfl (by omega) rfl rfl (ezs_m27_33 hI (by omega) hu4) ?_
      rintro _ _ ⟨rfl, u5, hu5, rfl⟩
      refine ezw_icmp_eq rfl rfl hu2 hu5 (fun h38_5 => ?_) (fun h38_5 => ?_)
      · refine ezw_iload rfl rfl ?_
        refine ezw_aload_n rfl rfl ?_
        refine ezw_aload_n rfl rfl ?_
        refine ezw_iload_n rfl rfl ?_
        refine ezw_iload_n rfl rfl ?_
        refine ezw_iconst (1) rfl rfl ?_
        refine ezs_isub rfl (fun u6 hu6 => ?_)
        refine ezw_iconst (0) rfl rfl ?_
        refine ezw_iload rfl rfl ?_
        refine ezw_call0_5 rfl (by omega) (ezu_at rfl) rfl rfl rfl rfl (ezs_m149_23_30_l5 hI (by omega) (fun q h0 h1 => hzA q (by omega) (by omega)) ha2 (by omega) hu6 ⟨by decide, by decide⟩ ha5) ?_
        rintro _ _ ⟨⟨F, A, rfl, hI⟩, u7, hu7, rfl⟩
        refine ezw_call2_1 rfl (by omega) rfl rfl (ezs_m152 hI (by omega) hu7) ?_
        rintro _ _ ⟨rfl, u8, hu8, rfl⟩
        refine ezs_imul rfl (fun u9 hu9 => ?_)
        refine ezw_istore rfl rfl ?_
        refine ezw_iload rfl rfl ?_
        refine ezw_bipush (10) rfl rfl ?_
        refine ezw_icmp_ge rfl rfl ⟨by omega, by omega⟩ ⟨by decide, by decide⟩ (fun h67_9 => ?_) (fun h67_9 => ?_)
        · refine ezw_iload rfl rfl ?_
          refine ezw_bipush (10) rfl rfl ?_
          refine ezs_idiv rfl hu9 ⟨by decide, by decide⟩ (by omega) (fun u10 hu10 => ?_)
          exact ezw_ireturn rfl rfl ⟨⟨F, A, rfl, hI⟩, _, hu10, rfl⟩
        · refine ezw_iload rfl rfl ?_
          refine ezw_bipush (10) rfl rfl ?_
          refine ezw_iload rfl rfl ?_
          refine ezs_isub rfl (fun u11 hu11 => ?_)
          refine ezw_aload_n rfl rfl ?_
          refine ezw_aload_n rfl rfl ?_
          refine ezw_iload_n rfl rfl ?_
          refine ezw_iload_n rfl rfl ?_
          refine ezw_iload rfl rfl ?_
          refine ezw_iload rfl rfl ?_
          refine ezw_call0_5 rfl (by omega) (ezu_at rfl) rfl rfl rfl rfl (ezs_m149_23_30_l5 hI (by omega) (fun q h0 h1 => hzA q (by omega) (by omega)) ha2 (by omega) ha3 ha4 ha5) ?_
          rintro _ _ ⟨⟨F, A, rfl, hI⟩, u12, hu12, rfl⟩
          refine ezw_call2_1 rfl (by omega) rfl rfl (ezs_m152 hI (by omega) hu12) ?_
          rintro _ _ ⟨rfl, u13, hu13, rfl⟩
          refine ezs_imul rfl (fun u14 hu14 => ?_)
          refine ezs_iadd rfl (fun u15 hu15 => ?_)
          refine ezw_istore rfl rfl ?_
          refine ezw_iload rfl rfl ?_
          refine ezw_bipush (10) rfl rfl ?_
          refine ezs_idiv rfl hu15 ⟨by decide, by decide⟩ (by omega) (fun u16 hu16 => ?_)
          exact ezw_ireturn rfl rfl ⟨⟨F, A, rfl, hI⟩, _, hu16, rfl⟩
      · refine ezw_iconst (-1) rfl rfl ?_
        exact ezw_ireturn rfl rfl ⟨⟨F, A, rfl, hI⟩, _, ⟨by decide, by decide⟩, rfl⟩
theorem ezs_m151_23_30_l6 {a2 a3 a4 a5 a6 : Int} {F : Nat → Nat → Int} {A : Nat → Int → Int} (hI : ezs_I fz F0 A0 F A) (hd : 18 ≤ d) (hzA : ∀ q, 24 ≤ q → q < 25 → fz q = false) (ha2 : ezw_in a2) (ha3 : ezw_in a3) (ga3 : a3 ≤ 5) (ha4 : ezw_in a4) (ha5 : ezw_in a5) (ha6 : ezw_in a6) : ezw_C l ρ B xa Hb D cA 151 d [ezw_p 23, ezw_p 30, ezw_i a2, ezw_i a3, ezw_i a4, ezw_i a5, ezw_i a6] (ezu_g e F A) (ezs_P e fz F0 A0 ezs_ri) := by
  refine ezw_met (k := 7) rfl rfl ?_
  refine ezw_iload_n rfl rfl ?_
  refine ezw_iconst (1) rfl rfl ?_
  refine ezs_isub rfl (fun u1 hu1 => ?_)
  refine ezw_iconst (4) rfl rfl ?_
  refine ezs_irem rfl hu1 ⟨by decide, by decide⟩ (by omega) (fun u2 hu2 => ?_)
  refine ezw_istore rfl rfl ?_
  refine ezw_iload_n rfl rfl ?_
  refine ezw_iconst (5) rfl rfl ?_
  have J17_3 : ∀ y3 : Int, ezs_b y3 → ∀ F A, ezs_I fz F0 A0 F A → ezw_E l ρ B xa Hb D cA d ezq_re151 (ezs_P e fz F0 A0 ezs_ri) 17 [some (ezw_p 23), some (ezw_p 30), some (ezw_i a2), some (ezw_i a3), some (ezw_i a4), some (ezw_i a5), some (ezw_i a6), some (ezw_i u2), none, none, none, none, none, none] [(ezw_i y3)] (ezu_g e F A) := by
    intro y3 hy3 F A hI
    refine ezw_istore rfl rfl ?_
    refine ezw_aload_n rfl rfl ?_
    refine ezs_getp (p := 25) rfl rfl rfl rfl rfl ?_
    refine ezw_iload rfl rfl ?_
    refine ezw_iconst (1) rfl rfl ?_
    refine ezs_isub rfl (fun u5 hu5 => ?_)
    refine ezw_call3_2 rfl (by omega) rfl rfl (ezs_m27_25 hI (by omega) hu5) ?_
    rintro _ _ ⟨rfl, u6, hu6, rfl⟩
    refine ezw_istore rfl rfl ?_
    refine ezw_aload_n rfl rfl ?_
    refine ezw_iload rfl rfl ?_
    refine ezw_iload rfl rfl ?_
    refine ezw_iload rfl rfl ?_
    refine ezw_iload rfl rfl ?_
    refine ezw_call0_4 rfl (by omega) (ezu_at rfl) rfl rfl rfl rfl (ezs_m113_30 hI (by omega) hu6 ha5 hu2 ⟨by omega, by omega⟩) ?_
    rintro _ _ ⟨rfl, u7, hu7, rfl⟩
    refine ezw_istore rfl rfl ?_
    refine ezw_aload_n rfl rfl ?_
    refine ezw_iload rfl rfl ?_
    refine ezw_iload rfl rfl ?_
    refine ezw_iload rfl rfl ?_
    refine ezw_iload rfl rfl ?_
    refine ezw_call0_4 rfl (by omega) (ezu_at rfl) rfl rfl rfl rfl (ezs_m116_30 hI (by omega) hu6 ha5 hu2 ⟨by omega, by omega⟩) ?_
    rintro _ _ ⟨rfl, u8, hu8, rfl⟩
    refine ezw_istore rfl rfl ?_
    refine ezw_iconst (0) rfl rfl ?_
    refine ezw_istore rfl rfl ?_
    refine ezw_iload rfl rfl ?_
    have J95_9 : ∀ y9 : Int, ezw_in y9 → ∀ F A, ezs_I fz F0 A0 F A → ezw_E l ρ B xa Hb D cA d ezq_re151 (ezs_P e fz F0 A0 ezs_ri) 95 [some (ezw_p 23), some (ezw_p 30), some (ezw_i a2), some (ezw_i a3), some (ezw_i a4), some (ezw_i a5), some (ezw_i a6), some (ezw_i u2), some (ezw_i y3), some (ezw_i u6), some (ezw_i u7), some (ezw_i u8), some (ezw_i y9), none] [] (ezu_g e F A) := by
      intro y9 hy9 F A hI
      refine ezw_iload rfl rfl ?_
      refine ezw_bipush (10) rfl rfl ?_
      have J131_11 : ∀ y11 : Int, ezw_in y11 → ∀ F A, ezs_I fz F0 A0 F A → ezw_E l ρ B xa Hb D cA d ezq_re151 (ezs_P e fz F0 A0 ezs_ri) 131 [some (ezw_p 23), some (ezw_p 30), some (ezw_i a2), some (ezw_i a3), some (ezw_i a4), some (ezw_i a5), some (ezw_i a6), some (ezw_i u2), some (ezw_i y3), some (ezw_i u6), some (ezw_i u7), some (ezw_i u8), some (ezw_i y11), none] [] (ezu_g e F A) := by
        intro y11 hy11 F A hI
        refine ezw_iload rfl rfl ?_
        refine ezw_bipush (10) rfl rfl ?_
        refine ezw_icmp_ge rfl rfl hu7 ⟨by decide, by decide⟩ (fun h135_12 => ?_) (fun h135_12 => ?_)
        · refine ezw_iload rfl rfl ?_
          refine ezw_bipush (100) rfl rfl ?_
          refine ezs_idiv rfl hy11 ⟨by decide, by decide⟩ (by omega) (fun u13 hu13 => ?_)
          exact ezw_ireturn rfl rfl ⟨⟨F, A, rfl, hI⟩, _, hu13, rfl⟩
        · refine ezw_iload rfl rfl ?_
          refine ezw_bipush (10) rfl rfl ?_
          refine ezw_icmp_ge rfl rfl hu8 ⟨by decide, by decide⟩ (fun h142_13 => ?_) (fun h142_13 => ?_)
          · refine ezw_iload rfl rfl ?_
            refine ezw_bipush (100) rfl rfl ?_
            refine ezs_idiv rfl hy11 ⟨by decide, by decide⟩ (by omega) (fun u14 hu14 => ?_)
            exact ezw_ireturn rfl rfl ⟨⟨F, A, rfl, hI⟩, _, hu14, rfl⟩
          · refine ezw_bipush (9) rfl rfl ?_
            refine ezw_iload rfl rfl ?_
            refine ezw_iload rfl rfl ?_
            have J159_15 : ∀ y15 : Int, ezw_in y15 → ∀ F A, ezs_I fz F0 A0 F A → ezw_E l ρ B xa Hb D cA d ezq_re151 (ezs_P e fz F0 A0 ezs_ri) 159 [some (ezw_p 23), some (ezw_p 30), some (ezw_i a2), some (ezw_i a3), some (ezw_i a4), some (ezw_i a5), some (ezw_i a6), some (ezw_i u2), some (ezw_i y3), some (ezw_i u6), some (ezw_i u7), some (ezw_i u8), some (ezw_i y11), none] [(ezw_i y15), (ezw_i a5), (ezw_i (9))] (ezu_g e F A) := by
              intro y15 hy15 F A hI
              refine ezs_iadd rfl (fun u17 hu17 => ?_)
              refine ezw_mminE rfl ⟨by decide, by decide⟩ hu17 rfl (fun u18 hu18 => ?_)
              refine ezw_istore rfl rfl ?_
              refine ezw_iload rfl rfl ?_
              refine ezw_bipush (10) rfl rfl ?_
              refine ezw_iload rfl rfl ?_
              refine ezs_isub rfl (fun u19 hu19 => ?_)
              refine ezw_bipush (10) rfl rfl ?_
              refine ezw_iload rfl rfl ?_
              refine ezs_isub rfl (fun u20 hu20 => ?_)
              refine ezs_imul rfl (fun u21 hu21 => ?_)
              refine ezw_aload_n rfl rfl ?_
              refine ezw_aload_n rfl rfl ?_
              refine ezw_iload_n rfl rfl ?_
              refine ezw_iload rfl rfl ?_
              refine ezw_iload rfl rfl ?_
              refine ezw_iload rfl rfl ?_
              refine ezw_call0_5 rfl (by omega) (ezu_at rfl) rfl rfl rfl rfl (ezs_m149_23_30_l5 hI (by omega) (fun q h0 h1 => hzA q (by omega) (by omega)) ha3 (by omega) ha4 ⟨by omega, by omega⟩ ha6) ?_
              rintro _ _ ⟨⟨F, A, rfl, hI⟩, u22, hu22, rfl⟩
              refine ezw_call2_1 rfl (by omega) rfl rfl (ezs_m152 hI (by omega) hu22) ?_
              rintro _ _ ⟨rfl, u23, hu23, rfl⟩
              refine ezs_imul rfl (fun u24 hu24 => ?_)
              refine ezs_iadd rfl (fun u25 hu25 => ?_)
              refine ezw_istore rfl rfl ?_
              refine ezw_iload rfl rfl ?_
              refine ezw_bipush (100) rfl rfl ?_
              refine ezs_idiv rfl hu25 ⟨by decide, by decide⟩ (by omega) (fun u26 hu26 => ?_)
              exact ezw_ireturn rfl rfl ⟨⟨F, A, rfl, hI⟩, _, hu26, rfl⟩
            refine ezw_if_eq rfl rfl ⟨by omega, by omega⟩ (fun h151_14 => ?_) (fun h151_14 => ?_)
            · refine ezw_iconst (1) rfl rfl ?_
              exact ezw_keepE [true, true, true, true, true, true, true, true, true, true, true, true, true, false] (J159_15 (1) ⟨by decide, by decide⟩ F A hI)
            · refine ezw_iconst (2) rfl rfl ?_
              refine ezw_goto rfl rfl ?_
              exact ezw_keepE [true, true, true, true, true, true, true, true, true, true, true, true, true, false] (J159_15 (2) ⟨by decide, by decide⟩ F A hI)
      refine ezw_icmp_ge rfl rfl hu7 ⟨by decide, by decide⟩ (fun h99_10 => ?_) (fun h99_10 => ?_)
      · exact ezw_keepE [true, true, true, true, true, true, true, true, true, true, true, true, true, false] (J131_11 y9 hy9 F A hI)
      · refine ezw_iload rfl rfl ?_
        refine ezw_if_le rfl rfl hu8 (fun h104_26 => ?_) (fun h104_26 => ?_)
        · exact ezw_keepE [true, true, true, true, true, true, true, true, true, true, true, true, true, false] (J131_11 y9 hy9 F A hI)
        · refine ezw_iload rfl rfl ?_
          refine ezw_bipush (10) rfl rfl ?_
          refine ezw_iload rfl rfl ?_
          refine ezs_isub rfl (fun u27 hu27 => ?_)
          refine ezw_iload rfl rfl ?_
          refine ezs_imul rfl (fun u28 hu28 => ?_)
          refine ezw_sipush (1000) rfl rfl ?_
          refine ezs_imul rfl (fun u29 hu29 => ?_)
          refine ezw_aload_n rfl rfl ?_
          refine ezw_iload rfl rfl ?_
          refine ezw_call0_1 rfl (by omega) (ezu_at rfl) rfl rfl rfl rfl (ezs_m144_30 hI (by omega) ha6) ?_
          rintro _ _ ⟨rfl, u30, hu30, rfl⟩
          refine ezs_imul rfl (fun u31 hu31 => ?_)
          refine ezs_iadd rfl (fun u32 hu32 => ?_)
          refine ezw_istore rfl rfl ?_
          exact ezw_keepE [true, true, true, true, true, true, true, true, true, true, true, true, true, false] (J131_11 u32 hu32 F A hI)
    refine ezw_if_le rfl rfl hu7 (fun h65_8 => ?_) (fun h65_8 => ?_)
    · exact ezw_keepE [true, true, true, true, true, true, true, true, true, true, true, true, true, false] (J95_9 (0) ⟨by decide, by decide⟩ F A hI)
    · refine ezw_iload rfl rfl ?_
      refine ezw_bipush (10) rfl rfl ?_
      refine ezw_iload rfl rfl ?_
      refine ezs_imul rfl (fun u33 hu33 => ?_)
      refine ezw_aload_n rfl rfl ?_
      refine ezw_aload_n rfl rfl ?_
      refine ezw_iload_n rfl rfl ?_
      refine ezw_iload rfl rfl ?_
      refine ezw_iconst (1) rfl rfl ?_
      refine ezs_isub rfl (fun u34 hu34 => ?_)
      refine ezw_iconst (0) rfl rfl ?_
      refine ezw_iload rfl rfl ?_
      refine ezw_call0_5 rfl (by omega) (ezu_at rfl) rfl rfl rfl rfl (ezs_m149_23_30_l5 hI (by omega) (fun q h0 h1 => hzA q (by omega) (by omega)) ha3 (by omega) hu34 ⟨by decide, by decide⟩ ha6) ?_
      rintro _ _ ⟨⟨F, A, rfl, hI⟩, u35, hu35, rfl⟩
      refine ezw_call2_1 rfl (by omega) rfl rfl (ezs_m152 hI (by omega) hu35) ?_
      rintro _ _ ⟨rfl, u36, hu36, rfl⟩
      refine ezs_imul rfl (fun u37 hu37 => ?_)
      refine ezs_iadd rfl (fun u38 hu38 => ?_)
      refine ezw_istore rfl rfl ?_
      exact ezw_keepE [true, true, true, true, true, true, true, true, true, true, true, true, true, false] (J95_9 u38 hu38 F A hI)
  refine ezw_icmp_lt rfl rfl ha2 ⟨by decide, by decide⟩ (fun h9_2 => ?_) (fun h9_2 => ?_)
  · refine ezw_iconst (0) rfl rfl ?_
    exact ezw_keepE [true, true, true, true, true, true, true, true, false, false, false, false, false, false] (J17_3 (0) ⟨by omega, by omega⟩ F A hI)
  · refine ezw_iconst (1) rfl rfl ?_
    refine ezw_goto rfl rfl ?_
    exact ezw_keepE [true, true, true, true, true, true, true, true, false, false, false, false, false, false] (J17_3 (1) ⟨by omega, by omega⟩ F A hI)
theorem ezs_m150_23_30_l6 {a2 a3 a4 a5 a6 : Int} {F : Nat → Nat → Int} {A : Nat → Int → Int} (hI : ezs_I fz F0 A0 F A) (hd : 19 ≤ d) (hzA : ∀ q, 24 ≤ q → q < 25 → fz q = false) (ha2 : ezw_in a2) (ha3 : ezw_in a3) (ga3 : a3 ≤ 5) (ha4 : ezw_in a4) (ha5 : ezw_in a5) (ha6 : ezw_in a6) : ezw_C l ρ B xa Hb D cA 150 d [ezw_p 23, ezw_p 30, ezw_i a2, ezw_i a3, ezw_i a4, ezw_i a5, ezw_i a6] (ezu_g e F A) (ezs_P e fz F0 A0 ezs_ri) := by
  refine ezw_met (k := 0) rfl rfl ?_
  refine ezw_iload_n rfl rfl ?_
  refine ezw_bipush (9) rfl rfl ?_
  refine ezw_icmp_ge rfl rfl ha2 ⟨by decide, by decide⟩ (fun h3_0 => ?_) (fun h3_0 => ?_)
  · refine ezw_iload_n rfl rfl ?_
    refine ezw_bipush (9) rfl rfl ?_
    refine ezw_icmp_ne rfl rfl ha2 ⟨by decide, by decide⟩ (fun h23_0 => ?_) (fun h23_0 => ?_)
    · refine ezw_iload_n rfl rfl ?_
      refine ezw_bipush (10) rfl rfl ?_
      refine ezw_icmp_ne rfl rfl ha2 ⟨by decide, by decide⟩ (fun h56_0 => ?_) (fun h56_0 => ?_)
      · refine ezw_aload_n rfl rfl ?_
        refine ezw_aload_n rfl rfl ?_
        refine ezw_iload_n rfl rfl ?_
        refine ezw_bipush (11) rfl rfl ?_
        refine ezs_isub rfl (fun u1 hu1 => ?_)
        refine ezw_iload_n rfl rfl ?_
        refine ezw_iload rfl rfl ?_
        refine ezw_iload rfl rfl ?_
        refine ezw_iload rfl rfl ?_
        refine ezw_call0_6 rfl (by omega) (ezu_at rfl) rfl rfl rfl rfl (ezs_m154_23_30_l6 hI (by omega) (fun q h0 h1 => hzA q (by omega) (by omega)) hu1 ha3 (by omega) ha4 ha5 ha6) ?_
        rintro _ _ ⟨⟨F, A, rfl, hI⟩, u2, hu2, rfl⟩
        exact ezw_ireturn rfl rfl ⟨⟨F, A, rfl, hI⟩, _, hu2, rfl⟩
      · refine ezw_aload_n rfl rfl ?_
        refine ezw_aload_n rfl rfl ?_
        refine ezw_iload_n rfl rfl ?_
        refine ezw_iload rfl rfl ?_
        refine ezw_iload rfl rfl ?_
        refine ezw_iload rfl rfl ?_
        refine ezw_call0_5 rfl (by omega) (ezu_at rfl) rfl rfl rfl rfl (ezs_m153_23_30_l6 hI (by omega) (fun q h0 h1 => hzA q (by omega) (by omega)) ha3 (by omega) ha4 ha5 ha6) ?_
        rintro _ _ ⟨⟨F, A, rfl, hI⟩, u3, hu3, rfl⟩
        exact ezw_ireturn rfl rfl ⟨⟨F, A, rfl, hI⟩, _, hu3, rfl⟩
    · refine ezw_iload rfl rfl ?_
      refine ezw_if_le rfl rfl ha5 (fun h28_3 => ?_) (fun h28_3 => ?_)
      · refine ezw_iconst (-1) rfl rfl ?_
        exact ezw_ireturn rfl rfl ⟨⟨F, A, rfl, hI⟩, _, ⟨by decide, by decide⟩, rfl⟩
      · refine ezw_aload_n rfl rfl ?_
        refine ezw_aload_n rfl rfl ?_
        refine ezw_iload_n rfl rfl ?_
        refine ezw_iload rfl rfl ?_
        refine ezw_iload rfl rfl ?_
        refine ezw_iconst (1) rfl rfl ?_
        refine ezs_isub rfl (fun u4 hu4 => ?_)
        refine ezw_iload rfl rfl ?_
        refine ezw_call0_5 rfl (by omega) (ezu_at rfl) rfl rfl rfl rfl (ezs_m149_23_30_l5 hI (by omega) (fun q h0 h1 => hzA q (by omega) (by omega)) ha3 (by omega) ha4 hu4 ha6) ?_
        rintro _ _ ⟨⟨F, A, rfl, hI⟩, u5, hu5, rfl⟩
        refine ezw_call2_1 rfl (by omega) rfl rfl (ezs_m152 hI (by omega) hu5) ?_
        rintro _ _ ⟨rfl, u6, hu6, rfl⟩
        refine ezw_goto rfl rfl ?_
        exact ezw_ireturn rfl rfl ⟨⟨F, A, rfl, hI⟩, _, hu6, rfl⟩
  · refine ezw_aload_n rfl rfl ?_
    refine ezw_aload_n rfl rfl ?_
    refine ezw_iload_n rfl rfl ?_
    refine ezw_iload_n rfl rfl ?_
    refine ezw_iload rfl rfl ?_
    refine ezw_iload rfl rfl ?_
    refine ezw_iload rfl rfl ?_
    refine ezw_call0_6 rfl (by omega) (ezu_at rfl) rfl rfl rfl rfl (ezs_m151_23_30_l6 hI (by omega) (fun q h0 h1 => hzA q (by omega) (by omega)) ha2 ha3 (by omega) ha4 ha5 ha6) ?_
    rintro _ _ ⟨⟨F, A, rfl, hI⟩, u7, hu7, rfl⟩
    exact ezw_ireturn rfl rfl ⟨⟨F, A, rfl, hI⟩, _, hu7, rfl⟩
theorem ezs_m149_23_30_l6 {a2 a3 a4 a5 : Int} {F : Nat → Nat → Int} {A : Nat → Int → Int} (hI : ezs_I fz F0 A0 F A) (hd : 20 ≤ d) (hzA : ∀ q, 24 ≤ q → q < 25 → fz q = false) (ha2 : ezw_in a2) (ga2 : a2 ≤ 6) (ha3 : ezw_in a3) (ha4 : ezw_in a4) (ha5 : ezw_in a5) : ezw_C l ρ B xa Hb D cA 149 d [ezw_p 23, ezw_p 30, ezw_i a2, ezw_i a3, ezw_i a4, ezw_i a5] (ezu_g e F A) (ezs_P e fz F0 A0 ezs_ri) := by
  refine ezw_met (k := 5) rfl rfl ?_
  refine ezw_sipush (1000) rfl rfl ?_
  refine ezw_aload_n rfl rfl ?_
  refine ezw_iload rfl rfl ?_
  refine ezw_call0_1 rfl (by omega) (ezu_at rfl) rfl rfl rfl rfl (ezs_m144_30 hI (by omega) ha5) ?_
  rintro _ _ ⟨rfl, u1, hu1, rfl⟩
  refine ezw_iload_n rfl rfl ?_
  have J21_2 : ∀ y2 : Int, ezw_in y2 → ∀ F A, ezs_I fz F0 A0 F A → ezw_E l ρ B xa Hb D cA d ezq_re149 (ezs_P e fz F0 A0 ezs_ri) 21 [some (ezw_p 23), some (ezw_p 30), some (ezw_i a2), some (ezw_i a3), some (ezw_i a4), some (ezw_i a5), none, none, none, none, none] [(ezw_i y2), (ezw_i u1), (ezw_i (1000))] (ezu_g e F A) := by
    intro y2 hy2 F A hI
    refine ezs_iadd rfl (fun u4 hu4 => ?_)
    refine ezs_imul rfl (fun u5 hu5 => ?_)
    refine ezw_istore rfl rfl ?_
    refine ezw_iconst (0) rfl rfl ?_
    refine ezw_istore rfl rfl ?_
    refine ezw_iload_n rfl rfl ?_
    refine ezw_if_le rfl rfl ha2 (fun h29_5 => ?_) (fun h29_5 => ?_)
    · refine ezw_iload rfl rfl ?_
      refine ezw_bipush (16) rfl rfl ?_
      refine ezs_imul rfl (fun u6 hu6 => ?_)
      refine ezw_iload rfl rfl ?_
      refine ezs_iadd rfl (fun u7 hu7 => ?_)
      exact ezw_ireturn rfl rfl ⟨⟨F, A, rfl, hI⟩, _, hu7, rfl⟩
    · refine ezw_iload_n rfl rfl ?_
      refine ezw_if_gt rfl rfl ha3 (fun h33_7 => ?_) (fun h33_7 => ?_)
      · refine ezw_iload_n rfl rfl ?_
        refine ezw_iconst (1) rfl rfl ?_
        refine ezs_isub rfl (fun u8 hu8 => ?_)
        refine ezw_bipush (6) rfl rfl ?_
        refine ezs_imul rfl (fun u9 hu9 => ?_)
        refine ezw_iload_n rfl rfl ?_
        refine ezs_iadd rfl (fun u10 hu10 => ?_)
        refine ezw_iconst (1) rfl rfl ?_
        refine ezs_isub rfl (fun u11 hu11 => ?_)
        refine ezw_bipush (10) rfl rfl ?_
        refine ezs_imul rfl (fun u12 hu12 => ?_)
        refine ezw_iload rfl rfl ?_
        refine ezs_iadd rfl (fun u13 hu13 => ?_)
        refine ezw_bipush (16) rfl rfl ?_
        refine ezs_imul rfl (fun u14 hu14 => ?_)
        refine ezw_iload rfl rfl ?_
        refine ezs_iadd rfl (fun u15 hu15 => ?_)
        refine ezw_istore rfl rfl ?_
        refine ezw_aload_n rfl rfl ?_
        refine ezs_getp (p := 24) rfl rfl rfl rfl rfl ?_
        refine ezw_iload rfl rfl ?_
        refine ezw_call3_2 rfl (by omega) rfl rfl (ezs_m27_24 hI (by omega) hu15) ?_
        rintro _ _ ⟨rfl, u16, hu16, rfl⟩
        refine ezw_iconst (-1) rfl rfl ?_
        refine ezw_icmp_eq rfl rfl hu16 ⟨by decide, by decide⟩ (fun h79_16 => ?_) (fun h79_16 => ?_)
        · refine ezw_iconst (1) rfl rfl ?_
          refine ezw_istore rfl rfl ?_
          have L95_19 : ∀ c19 : Int, ezw_in c19 → (1) ≤ c19 → ∀ y17 : Int, ezw_in y17 → ∀ y18 : Int, ezw_in y18 → ∀ F A, ezs_I fz F0 A0 F A → ezw_E l ρ B xa Hb D cA d ezq_re149 (ezs_P e fz F0 A0 ezs_ri) 95 [some (ezw_p 23), some (ezw_p 30), some (ezw_i a2), some (ezw_i a3), some (ezw_i a4), some (ezw_i a5), some (ezw_i y17), some (ezw_i y18), some (ezw_i u15), some (ezw_i c19), none] [] (ezu_g e F A) := by
            refine ezs_up ?_
            intro c19 hc19 ihc19 gc19 y17 hy17 y18 hy18 F A hI
            refine ezw_iload rfl rfl ?_
            refine ezw_bipush (15) rfl rfl ?_
            have J140_23 : ∀ y21 : Int, ezw_in y21 → ∀ y22 : Int, ezw_in y22 → ∀ y23 : Int, ezw_in y23 → ∀ F A, ezs_I fz F0 A0 F A → ezw_E l ρ B xa Hb D cA d ezq_re149 (ezs_P e fz F0 A0 ezs_ri) 140 [some (ezw_p 23), some (ezw_p 30), some (ezw_i a2), some (ezw_i a3), some (ezw_i a4), some (ezw_i a5), some (ezw_i y21), some (ezw_i y22), some (ezw_i u15), some (ezw_i y23), none] [] (ezu_g e F A) := by
              intro y21 hy21 y22 hy22 y23 hy23 F A hI
              refine ezw_aload_n rfl rfl ?_
              refine ezs_getp (p := 24) rfl rfl rfl rfl rfl ?_
              refine ezw_iload rfl rfl ?_
              refine ezw_iload rfl rfl ?_
              refine ezw_bipush (16) rfl rfl ?_
              refine ezs_imul rfl (fun u25 hu25 => ?_)
              refine ezw_iload rfl rfl ?_
              refine ezs_iadd rfl (fun u26 hu26 => ?_)
              refine ezw_call3_3 rfl (by omega) rfl rfl (ezs_m21_24 hI (by omega) (fun q h0 h1 => hzA q (by omega) (by omega)) hu15 hu26) ?_
              rintro _ _ ⟨⟨F, A, rfl, hI⟩, rfl⟩
              refine ezw_iload rfl rfl ?_
              refine ezw_bipush (16) rfl rfl ?_
              refine ezs_imul rfl (fun u27 hu27 => ?_)
              refine ezw_iload rfl rfl ?_
              refine ezs_iadd rfl (fun u28 hu28 => ?_)
              exact ezw_ireturn rfl rfl ⟨⟨F, A, rfl, hI⟩, _, hu28, rfl⟩
            refine ezw_icmp_ge rfl rfl hc19 ⟨by decide, by decide⟩ (fun h99_20 => ?_) (fun h99_20 => ?_)
            · exact ezw_keepE [true, true, true, true, true, true, true, true, true, true, false] (J140_23 y17 hy17 y18 hy18 c19 hc19 F A hI)
            · refine ezw_aload_n rfl rfl ?_
              refine ezw_aload_n rfl rfl ?_
              refine ezw_iload rfl rfl ?_
              refine ezw_iload_n rfl rfl ?_
              refine ezw_iconst (1) rfl rfl ?_
              refine ezw_isub rfl rfl ?_
              refine ezw_iload_n rfl rfl ?_
              refine ezw_iload rfl rfl ?_
              refine ezw_iload rfl rfl ?_
              refine ezw_call0_6 rfl (by omega) (ezu_at rfl) rfl rfl rfl rfl (ezs_m150_23_30_l6 hI (by omega) (fun q h0 h1 => hzA q (by omega) (by omega)) hc19 ⟨by omega, by omega⟩ (by omega) ha3 ha4 ha5) ?_
              rintro _ _ ⟨⟨F, A, rfl, hI⟩, u29, hu29, rfl⟩
              refine ezw_istore rfl rfl ?_
              refine ezw_iload rfl rfl ?_
              refine ezw_iload rfl rfl ?_
              refine ezw_icmp_le rfl rfl hu29 hy17 (fun h123_29 => ?_) (fun h123_29 => ?_)
              · refine ezw_iinc (1) rfl rfl rfl rfl rfl ?_
                refine ezw_goto rfl rfl ?_
                exact ezw_keepE [true, true, true, true, true, true, true, true, true, true, false] (ihc19 (c19 + (1)) (by omega) ⟨by omega, by omega⟩ (by omega) y17 hy17 y18 hy18 F A hI)
              · refine ezw_iload rfl rfl ?_
                refine ezw_istore rfl rfl ?_
                refine ezw_iload rfl rfl ?_
                refine ezw_istore rfl rfl ?_
                refine ezw_iinc (1) rfl rfl rfl rfl rfl ?_
                refine ezw_goto rfl rfl ?_
                exact ezw_keepE [true, true, true, true, true, true, true, true, true, true, false] (ihc19 (c19 + (1)) (by omega) ⟨by omega, by omega⟩ (by omega) u29 hu29 c19 hc19 F A hI)
          exact ezw_keepE [true, true, true, true, true, true, true, true, true, true, false] (L95_19 (1) ⟨by decide, by decide⟩ (by omega) u5 hu5 (0) ⟨by decide, by decide⟩ F A hI)
        · refine ezw_aload_n rfl rfl ?_
          refine ezs_getp (p := 24) rfl rfl rfl rfl rfl ?_
          refine ezw_iload rfl rfl ?_
          refine ezw_call3_2 rfl (by omega) rfl rfl (ezs_m27_24 hI (by omega) hu15) ?_
          rintro _ _ ⟨rfl, u30, hu30, rfl⟩
          exact ezw_ireturn rfl rfl ⟨⟨F, A, rfl, hI⟩, _, hu30, rfl⟩
      · refine ezw_iload rfl rfl ?_
        refine ezw_bipush (16) rfl rfl ?_
        refine ezs_imul rfl (fun u31 hu31 => ?_)
        refine ezw_iload rfl rfl ?_
        refine ezs_iadd rfl (fun u32 hu32 => ?_)
        exact ezw_ireturn rfl rfl ⟨⟨F, A, rfl, hI⟩, _, hu32, rfl⟩
  refine ezw_if_le rfl rfl ha3 (fun h10_1 => ?_) (fun h10_1 => ?_)
  · refine ezw_aload_n rfl rfl ?_
    refine ezs_get_i hI rfl rfl rfl rfl rfl rfl (fun u33 hu33 ku33 => ?_)
    exact ezw_keepE [true, true, true, true, true, true, false, false, false, false, false] (J21_2 u33 hu33 F A hI)
  · refine ezw_iconst (0) rfl rfl ?_
    refine ezw_goto rfl rfl ?_
    exact ezw_keepE [true, true, true, true, true, true, false, false, false, false, false] (J21_2 (0) ⟨by decide, by decide⟩ F A hI)
theorem ezs_m148_23_30_13 {a3 : Int} {F : Nat → Nat → Int} {A : Nat → Int → Int} (hI : ezs_I fz F0 A0 F A) (hd : 21 ≤ d) (hzA : ∀ q, 24 ≤ q → q < 25 → fz q = false) (ha3 : ezw_in a3) (ga3 : a3 ≤ 6) : ezw_C l ρ B xa Hb D cA 148 d [ezw_p 23, ezw_p 30, ezw_p 13, ezw_i a3] (ezu_g e F A) (ezs_P e fz F0 A0 ezs_ri) := by
  refine ezw_met (k := 0) rfl rfl ?_
  refine ezw_aload_n rfl rfl ?_
  refine ezw_aload_n rfl rfl ?_
  refine ezw_iload_n rfl rfl ?_
  refine ezw_aload_n rfl rfl ?_
  refine ezw_call0_0 rfl (by omega) (ezu_at rfl) rfl rfl rfl rfl (ezs_m131_13 hI (by omega)) ?_
  rintro _ _ ⟨rfl, u1, hu1, rfl⟩
  refine ezw_aload_n rfl rfl ?_
  refine ezs_get_i hI rfl rfl rfl rfl rfl rfl (fun u2 hu2 ku2 => ?_)
  refine ezw_aload_n rfl rfl ?_
  refine ezs_get_i hI rfl rfl rfl rfl rfl rfl (fun u3 hu3 ku3 => ?_)
  refine ezw_call0_5 rfl (by omega) (ezu_at rfl) rfl rfl rfl rfl (ezs_m149_23_30_l6 hI (by omega) (fun q h0 h1 => hzA q (by omega) (by omega)) ha3 (by omega) hu1 hu2 hu3) ?_
  rintro _ _ ⟨⟨F, A, rfl, hI⟩, u4, hu4, rfl⟩
  exact ezw_ireturn rfl rfl ⟨⟨F, A, rfl, hI⟩, _, hu4, rfl⟩
theorem ezs_m131_26 {F : Nat → Nat → Int} {A : Nat → Int → Int} (hI : ezs_I fz F0 A0 F A) (hd : 1 ≤ d) : ezw_C l ρ B xa Hb D cA 131 d [ezw_p 26] (ezu_g e F A) (ezs_Pp e F A ezs_ri) := by
  refine ezw_met (k := 0) rfl rfl ?_
  refine ezw_aload_n rfl rfl ?_
  refine ezs_get_i hI rfl rfl rfl rfl rfl rfl (fun u1 hu1 ku1 => ?_)
  refine ezw_call2_1 rfl (by omega) rfl rfl (ezs_m132 hI (by omega) hu1) ?_
  rintro _ _ ⟨rfl, u2, hu2, rfl⟩
  exact ezw_ireturn rfl rfl ⟨rfl, _, hu2, rfl⟩
theorem ezs_m148_23_30_26 {a3 : Int} {F : Nat → Nat → Int} {A : Nat → Int → Int} (hI : ezs_I fz F0 A0 F A) (hd : 21 ≤ d) (hzA : ∀ q, 24 ≤ q → q < 25 → fz q = false) (ha3 : ezw_in a3) (ga3 : a3 ≤ 6) : ezw_C l ρ B xa Hb D cA 148 d [ezw_p 23, ezw_p 30, ezw_p 26, ezw_i a3] (ezu_g e F A) (ezs_P e fz F0 A0 ezs_ri) := by
  refine ezw_met (k := 0) rfl rfl ?_
  refine ezw_aload_n rfl rfl ?_
  refine ezw_aload_n rfl rfl ?_
  refine ezw_iload_n rfl rfl ?_
  refine ezw_aload_n rfl rfl ?_
  refine ezw_call0_0 rfl (by omega) (ezu_at rfl) rfl rfl rfl rfl (ezs_m131_26 hI (by omega)) ?_
  rintro _ _ ⟨rfl, u1, hu1, rfl⟩
  refine ezw_aload_n rfl rfl ?_
  refine ezs_get_i hI rfl rfl rfl rfl rfl rfl (fun u2 hu2 ku2 => ?_)
  refine ezw_aload_n rfl rfl ?_
  refine ezs_get_i hI rfl rfl rfl rfl rfl rfl (fun u3 hu3 ku3 => ?_)
  refine ezw_call0_5 rfl (by omega) (ezu_at rfl) rfl rfl rfl rfl (ezs_m149_23_30_l6 hI (by omega) (fun q h0 h1 => hzA q (by omega) (by omega)) ha3 (by omega) hu1 hu2 hu3) ?_
  rintro _ _ ⟨⟨F, A, rfl, hI⟩, u4, hu4, rfl⟩
  exact ezw_ireturn rfl rfl ⟨⟨F, A, rfl, hI⟩, _, hu4, rfl⟩
theorem ezs_m155 {a0 : Int} {F : Nat → Nat → Int} {A : Nat → Int → Int} (hI : ezs_I fz F0 A0 F A) (hd : 0 ≤ d) (ha0 : ezw_in a0) : ezw_C l ρ B xa Hb D cA 155 d [ezw_i a0] (ezu_g e F A) (ezs_Pp e F A ezs_ri) := by
  refine ezw_met (k := 0) rfl rfl ?_
  refine ezw_iload_n rfl rfl ?_
  refine ezw_bipush (16) rfl rfl ?_
  refine ezs_irem rfl ha0 ⟨by decide, by decide⟩ (by omega) (fun u1 hu1 => ?_)
  exact ezw_ireturn rfl rfl ⟨rfl, _, hu1, rfl⟩
theorem ezs_m196_22_30_13 {a3 a4 a5 : Int} {F : Nat → Nat → Int} {A : Nat → Int → Int} (hI : ezs_I fz F0 A0 F A) (hd : 22 ≤ d) (hzA : ∀ q, 22 ≤ q → q < 27 → fz q = false) (ha3 : ezw_in a3) (ha4 : ezw_in a4) (ga4 : a4 ≤ 1000) (ha5 : ezw_in a5) (ga5 : a5 ≤ 6) : ezw_C l ρ B xa Hb D cA 196 d [ezw_p 22, ezw_p 30, ezw_p 13, ezw_i a3, ezw_i a4, ezw_i a5] (ezu_g e F A) (ezs_P e fz F0 A0 ezs_rn) := by
  refine ezw_met (k := 3) rfl rfl ?_
  refine ezw_aload_n rfl rfl ?_
  refine ezw_iload_n rfl rfl ?_
  refine ezw_i2l rfl ha3 rfl ?_
  refine ezs_put_l hI rfl rfl rfl rfl rfl (hzA 22 (by decide) (by decide)) (ezw_in_il ha3) (fun F A hI => ?_)
  refine ezw_aload_n rfl rfl ?_
  refine ezw_iconst (0) rfl rfl ?_
  refine ezs_put_i hI rfl rfl rfl rfl rfl (hzA 22 (by decide) (by decide)) ⟨by decide, by decide⟩ (fun F A hI => ?_)
  refine ezw_aload_n rfl rfl ?_
  refine ezw_iconst (0) rfl rfl ?_
  refine ezs_put_i hI rfl rfl rfl rfl rfl (hzA 22 (by decide) (by decide)) ⟨by decide, by decide⟩ (fun F A hI => ?_)
  refine ezw_aload_n rfl rfl ?_
  refine ezw_iconst (0) rfl rfl ?_
  refine ezs_put_i hI rfl rfl rfl rfl rfl (hzA 22 (by decide) (by decide)) ⟨by decide, by decide⟩ (fun F A hI => ?_)
  refine ezw_aload_n rfl rfl ?_
  refine ezs_getp (p := 23) rfl rfl rfl rfl rfl ?_
  refine ezw_aload_n rfl rfl ?_
  refine ezw_aload_n rfl rfl ?_
  refine ezw_call0_2 rfl (by omega) (ezu_at rfl) rfl rfl rfl rfl (ezs_m147_23_30_13 hI (by omega) (fun q h0 h1 => hzA q (by omega) (by omega))) ?_
  rintro _ _ ⟨⟨F, A, rfl, hI⟩, rfl⟩
  refine ezw_iconst (0) rfl rfl ?_
  refine ezw_istore rfl rfl ?_
  have L33_1 : ∀ c1 : Int, ezw_in c1 → (0) ≤ c1 → ∀ F A, ezs_I fz F0 A0 F A → ezw_E l ρ B xa Hb D cA d ezq_re196 (ezs_P e fz F0 A0 ezs_rn) 33 [some (ezw_p 22), some (ezw_p 30), some (ezw_p 13), some (ezw_i a3), some (ezw_i a4), some (ezw_i a5), some (ezw_i c1), none, none] [] (ezu_g e F A) := by
    refine ezs_up ?_
    intro c1 hc1 ihc1 gc1 F A hI
    refine ezw_iload rfl rfl ?_
    refine ezw_iload rfl rfl ?_
    refine ezw_icmp_ge rfl rfl hc1 ha4 (fun h37_2 => ?_) (fun h37_2 => ?_)
    · exact ezw_return rfl rfl ⟨⟨F, A, rfl, hI⟩, rfl⟩
    · refine ezw_aload_n rfl rfl ?_
      refine ezs_getp (p := 26) rfl rfl rfl rfl rfl ?_
      refine ezw_aload_n rfl rfl ?_
      refine ezw_call0_0 rfl (by omega) (ezu_at rfl) rfl rfl rfl rfl (ezs_m119_13 hI (by omega)) ?_
      rintro _ _ ⟨rfl, u3, hu3, rfl⟩
      refine ezw_call0_1 rfl (by omega) (ezu_at rfl) rfl rfl rfl rfl (ezs_m140_26 hI (by omega) (fun q h0 h1 => hzA q (by omega) (by omega)) hu3) ?_
      rintro _ _ ⟨⟨F, A, rfl, hI⟩, rfl⟩
      refine ezw_iconst (1) rfl rfl ?_
      refine ezw_istore rfl rfl ?_
      refine ezw_iload rfl rfl ?_
      refine ezw_istore rfl rfl ?_
      have L58_5 : ∀ c5 : Int, ezw_in c5 → c5 ≤ a5 → ∀ y4 : Int, ezw_in y4 → ∀ F A, ezs_I fz F0 A0 F A → ezw_E l ρ B xa Hb D cA d ezq_re196 (ezs_P e fz F0 A0 ezs_rn) 58 [some (ezw_p 22), some (ezw_p 30), some (ezw_p 13), some (ezw_i a3), some (ezw_i a4), some (ezw_i a5), some (ezw_i c1), some (ezw_i y4), some (ezw_i c5)] [] (ezu_g e F A) := by
        refine ezs_dn ?_
        intro c5 hc5 ihc5 gc5 y4 hy4 F A hI
        refine ezw_iload rfl rfl ?_
        have J110_8 : ∀ y7 : Int, ezw_in y7 → ∀ y8 : Int, ezw_in y8 → ∀ F A, ezs_I fz F0 A0 F A → ezw_E l ρ B xa Hb D cA d ezq_re196 (ezs_P e fz F0 A0 ezs_rn) 110 [some (ezw_p 22), some (ezw_p 30), some (ezw_p 13), some (ezw_i a3), some (ezw_i a4), some (ezw_i a5), some (ezw_i c1), some (ezw_i y7), some (ezw_i y8)] [] (ezu_g e F A) := by
          intro y7 hy7 y8 hy8 F A hI
          refine ezw_aload_n rfl rfl ?_
          refine ezw_dup rfl rfl ?_
          refine ezs_get_i hI rfl rfl rfl rfl rfl rfl (fun u10 hu10 ku10 => ?_)
          refine ezw_aload_n rfl rfl ?_
          refine ezs_getp (p := 26) rfl rfl rfl rfl rfl ?_
          refine ezw_aload_n rfl rfl ?_
          refine ezw_call0_1 rfl (by omega) (ezu_at rfl) rfl rfl rfl rfl (ezs_m143_26_30 hI (by omega)) ?_
          rintro _ _ ⟨rfl, u11, hu11, rfl⟩
          refine ezs_iadd rfl (fun u12 hu12 => ?_)
          refine ezs_put_i hI rfl rfl rfl rfl rfl (hzA 22 (by decide) (by decide)) hu12 (fun F A hI => ?_)
          refine ezw_iinc (1) rfl rfl rfl rfl rfl ?_
          refine ezw_goto rfl rfl ?_
          exact ezw_keepE [true, true, true, true, true, true, true, false, false] (ihc1 (c1 + (1)) (by omega) ⟨by omega, by omega⟩ (by omega)  F A hI)
        refine ezw_if_le rfl rfl hc5 (fun h60_6 => ?_) (fun h60_6 => ?_)
        · exact ezw_keepE [true, true, true, true, true, true, true, true, true] (J110_8 y4 hy4 c5 hc5 F A hI)
        · refine ezw_aload_n rfl rfl ?_
          refine ezs_getp (p := 26) rfl rfl rfl rfl rfl ?_
          refine ezs_get_i hI rfl rfl rfl rfl rfl rfl (fun u13 hu13 ku13 => ?_)
          refine ezw_if_ne rfl rfl hu13 (fun h70_13 => ?_) (fun h70_13 => ?_)
          · exact ezw_keepE [true, true, true, true, true, true, true, true, true] (J110_8 y4 hy4 c5 hc5 F A hI)
          · refine ezw_iload rfl rfl ?_
            refine ezw_if_eq rfl rfl hy4 (fun h75_13 => ?_) (fun h75_13 => ?_)
            · exact ezw_keepE [true, true, true, true, true, true, true, true, true] (J110_8 y4 hy4 c5 hc5 F A hI)
            · refine ezw_aload_n rfl rfl ?_
              refine ezs_getp (p := 23) rfl rfl rfl rfl rfl ?_
              refine ezw_aload_n rfl rfl ?_
              refine ezw_aload_n rfl rfl ?_
              refine ezs_getp (p := 26) rfl rfl rfl rfl rfl ?_
              refine ezw_iload rfl rfl ?_
              refine ezw_call0_3 rfl (by omega) (ezu_at rfl) rfl rfl rfl rfl (ezs_m148_23_30_26 hI (by omega) (fun q h0 h1 => hzA q (by omega) (by omega)) hc5 (by omega)) ?_
              rintro _ _ ⟨⟨F, A, rfl, hI⟩, u14, hu14, rfl⟩
              refine ezw_call2_1 rfl (by omega) rfl rfl (ezs_m155 hI (by omega) hu14) ?_
              rintro _ _ ⟨rfl, u15, hu15, rfl⟩
              refine ezw_istore rfl rfl ?_
              refine ezw_aload_n rfl rfl ?_
              refine ezw_aload_n rfl rfl ?_
              refine ezw_iload rfl rfl ?_
              refine ezw_call0_2 rfl (by omega) (ezu_at rfl) rfl rfl rfl rfl (ezs_m197_22_30 hI (by omega) (fun q h0 h1 => hzA q (by omega) (by omega)) hu15) ?_
              rintro _ _ ⟨⟨F, A, rfl, hI⟩, rfl⟩
              refine ezw_iinc (-1) rfl rfl rfl rfl rfl ?_
              refine ezw_goto rfl rfl ?_
              exact ezw_keepE [true, true, true, true, true, true, true, true, true] (ihc5 (c5 + (-1)) (by omega) ⟨by omega, by omega⟩ (by omega) u15 hu15 F A hI)
      exact ezw_keepE [true, true, true, true, true, true, true, true, true] (L58_5 a5 ha5 (by omega) (1) ⟨by decide, by decide⟩ F A hI)
  exact ezw_keepE [true, true, true, true, true, true, true, false, false] (L33_1 (0) ⟨by decide, by decide⟩ (by omega)  F A hI)
theorem ezs_m149_23_47_l0 {a2 a3 a4 a5 : Int} {F : Nat → Nat → Int} {A : Nat → Int → Int} (hI : ezs_I fz F0 A0 F A) (hd : 2 ≤ d) (ha2 : ezw_in a2) (ga2 : a2 ≤ 0) (ha3 : ezw_in a3) (ha4 : ezw_in a4) (ha5 : ezw_in a5) : ezw_C l ρ B xa Hb D cA 149 d [ezw_p 23, ezw_p 47, ezw_i a2, ezw_i a3, ezw_i a4, ezw_i a5] (ezu_g e F A) (ezs_P e fz F0 A0 ezs_ri) := by
  refine ezw_met (k := 5) rfl rfl ?_
  refine ezw_sipush (1000) rfl rfl ?_
  refine ezw_aload_n rfl rfl ?_
  refine ezw_iload rfl rfl ?_
  refine ezw_call0_1 rfl (by omega) (ezu_at rfl) rfl rfl rfl rfl (ezs_m144_47 hI (by omega) ha5) ?_
  rintro _ _ ⟨rfl, u1, hu1, rfl⟩
  refine ezw_iload_n rfl rfl ?_
  have J21_2 : ∀ y2 : Int, ezw_in y2 → ∀ F A, ezs_I fz F0 A0 F A → ezw_E l ρ B xa Hb D cA d ezq_re149 (ezs_P e fz F0 A0 ezs_ri) 21 [some (ezw_p 23), some (ezw_p 47), some (ezw_i a2), some (ezw_i a3), some (ezw_i a4), some (ezw_i a5), none, none, none, none, none] [(ezw_i y2), (ezw_i u1), (ezw_i (1000))] (ezu_g e F A) := by
    intro y2 hy2 F A hI
    refine ezs_iadd rfl (fun u4 hu4 => ?_)
    refine ezs_imul rfl (fun u5 hu5 => ?_)
    refine ezw_istore rfl rfl ?_
    refine ezw_iconst (0) rfl rfl ?_
    refine ezw_istore rfl rfl ?_
    refine ezw_iload_n rfl rfl ?_
    refine ezw_if_le rfl rfl ha2 (fun h29_5 => ?_) (fun h29_5 => absurd h29_5 (by omega))
    refine ezw_iload rfl rfl ?_
    refine ezw_bipush (16) rfl rfl ?_
    refine ezs_imul rfl (fun u6 hu6 => ?_)
    refine ezw_iload rfl rfl ?_
    refine ezs_iadd rfl (fun u7 hu7 => ?_)
    exact ezw_ireturn rfl rfl ⟨⟨F, A, rfl, hI⟩, _, hu7, rfl⟩
  refine ezw_if_le rfl rfl ha3 (fun h10_1 => ?_) (fun h10_1 => ?_)
  · refine ezw_aload_n rfl rfl ?_
    refine ezs_get_i hI rfl rfl rfl rfl rfl rfl (fun u8 hu8 ku8 => ?_)
    exact ezw_keepE [true, true, true, true, true, true, false, false, false, false, false] (J21_2 u8 hu8 F A hI)
  · refine ezw_iconst (0) rfl rfl ?_
    refine ezw_goto rfl rfl ?_
    exact ezw_keepE [true, true, true, true, true, true, false, false, false, false, false] (J21_2 (0) ⟨by decide, by decide⟩ F A hI)
theorem ezs_m154_23_47_l1 {a2 a3 a4 a5 a6 : Int} {F : Nat → Nat → Int} {A : Nat → Int → Int} (hI : ezs_I fz F0 A0 F A) (hd : 3 ≤ d) (ha2 : ezw_in a2) (ha3 : ezw_in a3) (ga3 : a3 ≤ 0) (ha4 : ezw_in a4) (ha5 : ezw_in a5) (ha6 : ezw_in a6) : ezw_C l ρ B xa Hb D cA 154 d [ezw_p 23, ezw_p 47, ezw_i a2, ezw_i a3, ezw_i a4, ezw_i a5, ezw_i a6] (ezu_g e F A) (ezs_P e fz F0 A0 ezs_ri) := by
  refine ezw_met (k := 3) rfl rfl ?_
  refine ezw_iload rfl rfl ?_
  refine ezw_iload_n rfl rfl ?_
  refine ezw_call3_2 rfl (by omega) rfl rfl (ezs_m49 hI (by omega) ha6 ha2) ?_
  rintro _ _ ⟨rfl, u1, hu1, rfl⟩
  refine ezw_if_ne rfl rfl hu1 (fun h6_1 => ?_) (fun h6_1 => ?_)
  · refine ezw_aload_n rfl rfl ?_
    refine ezs_getp (p := 53) rfl rfl rfl rfl rfl ?_
    refine ezw_iload_n rfl rfl ?_
    refine ezw_call3_2 rfl (by omega) rfl rfl (ezs_m27_53 hI (by omega) ha2) ?_
    rintro _ _ ⟨rfl, u2, hu2, rfl⟩
    refine ezw_istore rfl rfl ?_
    refine ezw_aload_n rfl rfl ?_
    refine ezs_getp (p := 54) rfl rfl rfl rfl rfl ?_
    refine ezw_iload_n rfl rfl ?_
    refine ezw_call3_2 rfl (by omega) rfl rfl (ezs_m27_54 hI (by omega) ha2) ?_
    rintro _ _ ⟨rfl, u3, hu3, rfl⟩
    refine ezw_istore rfl rfl ?_
    refine ezw_iconst (0) rfl rfl ?_
    refine ezw_istore rfl rfl ?_
    refine ezw_iload rfl rfl ?_
    have J68_4 : ∀ y4 : Int, ezw_in y4 → ∀ F A, ezs_I fz F0 A0 F A → ezw_E l ρ B xa Hb D cA d ezq_re154 (ezs_P e fz F0 A0 ezs_ri) 68 [some (ezw_p 23), some (ezw_p 47), some (ezw_i a2), some (ezw_i a3), some (ezw_i a4), some (ezw_i a5), some (ezw_i a6), some (ezw_i u2), some (ezw_i u3), some (ezw_i y4)] [] (ezu_g e F A) := by
      intro y4 hy4 F A hI
      refine ezw_iload rfl rfl ?_
      have J97_6 : ∀ y6 : Int, ezw_in y6 → ∀ F A, ezs_I fz F0 A0 F A → ezw_E l ρ B xa Hb D cA d ezq_re154 (ezs_P e fz F0 A0 ezs_ri) 97 [some (ezw_p 23), some (ezw_p 47), some (ezw_i a2), some (ezw_i a3), some (ezw_i a4), some (ezw_i a5), some (ezw_i a6), some (ezw_i u2), some (ezw_i u3), some (ezw_i y6)] [] (ezu_g e F A) := by
        intro y6 hy6 F A hI
        refine ezw_iload rfl rfl ?_
        refine ezw_iload rfl rfl ?_
        refine ezs_iadd rfl (fun u8 hu8 => ?_)
        refine ezw_bipush (10) rfl rfl ?_
        refine ezw_icmp_ge rfl rfl hu8 ⟨by decide, by decide⟩ (fun h104_8 => ?_) (fun h104_8 => ?_)
        · refine ezw_iload rfl rfl ?_
          refine ezw_bipush (10) rfl rfl ?_
          refine ezs_idiv rfl hy6 ⟨by decide, by decide⟩ (by omega) (fun u9 hu9 => ?_)
          exact ezw_ireturn rfl rfl ⟨⟨F, A, rfl, hI⟩, _, hu9, rfl⟩
        · refine ezw_iload rfl rfl ?_
          refine ezw_bipush (10) rfl rfl ?_
          refine ezw_iload rfl rfl ?_
          refine ezs_isub rfl (fun u10 hu10 => ?_)
          refine ezw_iload rfl rfl ?_
          refine ezs_isub rfl (fun u11 hu11 => ?_)
          refine ezw_aload_n rfl rfl ?_
          refine ezw_aload_n rfl rfl ?_
          refine ezw_iload_n rfl rfl ?_
          refine ezw_iload rfl rfl ?_
          refine ezw_iload rfl rfl ?_
          refine ezw_iload rfl rfl ?_
          refine ezw_call0_5 rfl (by omega) (ezu_at rfl) rfl rfl rfl rfl (ezs_m149_23_47_l0 hI (by omega) ha3 (by omega) ha4 ha5 ha6) ?_
          rintro _ _ ⟨⟨F, A, rfl, hI⟩, u12, hu12, rfl⟩
          refine ezw_call2_1 rfl (by omega) rfl rfl (ezs_m152 hI (by omega) hu12) ?_
          rintro _ _ ⟨rfl, u13, hu13, rfl⟩
          refine ezs_imul rfl (fun u14 hu14 => ?_)
          refine ezs_iadd rfl (fun u15 hu15 => ?_)
          refine ezw_istore rfl rfl ?_
          refine ezw_iload rfl rfl ?_
          refine ezw_bipush (10) rfl rfl ?_
          refine ezs_idiv rfl hu15 ⟨by decide, by decide⟩ (by omega) (fun u16 hu16 => ?_)
          exact ezw_ireturn rfl rfl ⟨⟨F, A, rfl, hI⟩, _, hu16, rfl⟩
      refine ezw_if_le rfl rfl hu3 (fun h70_5 => ?_) (fun h70_5 => ?_)
      · exact ezw_keepE [true, true, true, true, true, true, true, true, true, true] (J97_6 y4 hy4 F A hI)
      · refine ezw_iload rfl rfl ?_
        refine ezw_iload rfl rfl ?_
        refine ezw_aload_n rfl rfl ?_
        refine ezw_aload_n rfl rfl ?_
        refine ezw_iload_n rfl rfl ?_
        refine ezw_iload rfl rfl ?_
        refine ezw_iconst (1) rfl rfl ?_
        refine ezs_isub rfl (fun u17 hu17 => ?_)
        refine ezw_iconst (0) rfl rfl ?_
        refine ezw_iload rfl rfl ?_
        refine ezw_call0_5 rfl (by omega) (ezu_at rfl) rfl rfl rfl rfl (ezs_m149_23_47_l0 hI (by omega) ha3 (by omega) hu17 ⟨by decide, by decide⟩ ha6) ?_
        rintro _ _ ⟨⟨F, A, rfl, hI⟩, u18, hu18, rfl⟩
        refine ezw_call2_1 rfl (by omega) rfl rfl (ezs_m152 hI (by omega) hu18) ?_
        rintro _ _ ⟨rfl, u19, hu19, rfl⟩
        refine ezs_imul rfl (fun u20 hu20 => ?_)
        refine ezs_iadd rfl (fun u21 hu21 => ?_)
        refine ezw_istore rfl rfl ?_
        exact ezw_keepE [true, true, true, true, true, true, true, true, true, true] (J97_6 u21 hu21 F A hI)
    refine ezw_if_le rfl rfl hu2 (fun h36_3 => ?_) (fun h36_3 => ?_)
    · exact ezw_keepE [true, true, true, true, true, true, true, true, true, true] (J68_4 (0) ⟨by decide, by decide⟩ F A hI)
    · refine ezw_iload rfl rfl ?_
      refine ezw_iload rfl rfl ?_
      refine ezw_aload_n rfl rfl ?_
      refine ezw_aload_n rfl rfl ?_
      refine ezw_iload_n rfl rfl ?_
      refine ezw_iload rfl rfl ?_
      refine ezw_iload rfl rfl ?_
      refine ezw_iload rfl rfl ?_
      refine ezw_iconst (1) rfl rfl ?_
      refine ezw_iload_n rfl rfl ?_
      refine ezw_ishlO rfl (fun u22 hu22 => ?_)
      refine ezw_iconst (-1) rfl rfl ?_
      refine ezs_ixor rfl (fun u23 hu23 => ?_)
      refine ezs_iand rfl (fun u24 hu24 => ?_)
      refine ezw_call0_5 rfl (by omega) (ezu_at rfl) rfl rfl rfl rfl (ezs_m149_23_47_l0 hI (by omega) ha3 (by omega) ha4 ha5 hu24) ?_
      rintro _ _ ⟨⟨F, A, rfl, hI⟩, u25, hu25, rfl⟩
      refine ezw_call2_1 rfl (by omega) rfl rfl (ezs_m152 hI (by omega) hu25) ?_
      rintro _ _ ⟨rfl, u26, hu26, rfl⟩
      refine ezs_imul rfl (fun u27 hu27 => ?_)
      refine ezs_iadd rfl (fun u28 hu28 => ?_)
      refine ezw_istore rfl rfl ?_
      exact ezw_keepE [true, true, true, true, true, true, true, true, true, true] (J68_4 u28 hu28 F A hI)
  · refine ezw_iconst (-1) rfl rfl ?_
    exact ezw_ireturn rfl rfl ⟨⟨F, A, rfl, hI⟩, _, ⟨by decide, by decide⟩, rfl⟩
theorem ezs_m153_23_47_l1 {a2 a3 a4 a5 : Int} {F : Nat → Nat → Int} {A : Nat → Int → Int} (hI : ezs_I fz F0 A0 F A) (hd : 3 ≤ d) (ha2 : ezw_in a2) (ga2 : a2 ≤ 0) (ha3 : ezw_in a3) (ha4 : ezw_in a4) (ha5 : ezw_in a5) : ezw_C l ρ B xa Hb D cA 153 d [ezw_p 23, ezw_p 47, ezw_i a2, ezw_i a3, ezw_i a4, ezw_i a5] (ezu_g e F A) (ezs_P e fz F0 A0 ezs_ri) := by
  refine ezw_met (k := 2) rfl rfl ?_
  refine ezw_aload_n rfl rfl ?_
  refine ezw_iconst (5) rfl rfl ?_
  refine ezw_call0_1 rfl (by omega) (ezu_at rfl) rfl rfl rfl rfl (ezs_m95_47 hI (by omega) ⟨by decide, by decide⟩) ?_
  rintro _ _ ⟨rfl, u1, hu1, rfl⟩
  refine ezw_istore rfl rfl ?_
  refine ezw_iload rfl rfl ?_
  refine ezw_if_gt rfl rfl ha4 (fun h9_1 => ?_) (fun h9_1 => ?_)
  · refine ezw_iconst (-1) rfl rfl ?_
    exact ezw_ireturn rfl rfl ⟨⟨F, A, rfl, hI⟩, _, ⟨by decide, by decide⟩, rfl⟩
  · refine ezw_iload rfl rfl ?_
    refine ezw_if_le rfl rfl ⟨by omega, by omega⟩ (fun h14_1 => ?_) (fun h14_1 => ?_)
    · refine ezw_iconst (-1) rfl rfl ?_
      exact ezw_ireturn rfl rfl ⟨⟨F, A, rfl, hI⟩, _, ⟨by decide, by decide⟩, rfl⟩
    · refine ezw_aload_n rfl rfl ?_
      refine ezs_get_i hI rfl rfl rfl rfl rfl rfl (fun u2 hu2 ku2 => ?_)
      refine ezw_aload_n rfl rfl ?_
      refine ezs_getp (p := 50) rfl rfl rfl rfl rfl ?_
      refine ezw_aload_n rfl rfl ?_
      refine ezs_getp (p := 25) rfl rfl rfl rfl rfl ?_
      refine ezw_iload_n rfl rfl ?_
      refine ezw_iconst (1) rfl rfl ?_
      refine ezs_isub rfl (fun u3 hu3 => ?_)
      refine ezw_call3_2 rfl (by omega) rfl rfl (ezs_m27_25 hI (by omega) hu3) ?_
      rintro _ _ ⟨rfl, u4, hu4, rfl⟩
      refine ezw_call3_2 rfl (by omega) rfl rfl (ezs_m27_50 hI (by omega) hu4) ?_
      rintro _ _ ⟨rfl, u5, hu5, rfl⟩
      refine ezw_icmp_eq rfl rfl hu2 hu5 (fun h38_5 => ?_) (fun h38_5 => ?_)
      · refine ezw_iload rfl rfl ?_
        refine ezw_aload_n rfl rfl ?_
        refine ezw_aload_n rfl rfl ?_
        refine ezw_iload_n rfl rfl ?_
        refine ezw_iload_n rfl rfl ?_
        refine ezw_iconst (1) rfl rfl ?_
        refine ezs_isub rfl (fun u6 hu6 => ?_)
        refine ezw_iconst (0) rfl rfl ?_
        refine ezw_iload rfl rfl ?_
        refine ezw_call0_5 rfl (by omega) (ezu_at rfl) rfl rfl rfl rfl (ezs_m149_23_47_l0 hI (by omega) ha2 (by omega) hu6 ⟨by decide, by decide⟩ ha5) ?_
        rintro _ _ ⟨⟨F, A, rfl, hI⟩, u7, hu7, rfl⟩
        refine ezw_call2_1 rfl (by omega) rfl rfl (ezs_m152 hI (by omega) hu7) ?_
        rintro _ _ ⟨rfl, u8, hu8, rfl⟩
        refine ezs_imul rfl (fun u9 hu9 => ?_)
        refine ezw_istore rfl rfl ?_
        refine ezw_iload rfl rfl ?_
        refine ezw_bipush (10) rfl rfl ?_
        refine ezw_icmp_ge rfl rfl ⟨by omega, by omega⟩ ⟨by decide, by decide⟩ (fun h67_9 => ?_) (fun h67_9 => ?_)
        · refine ezw_iload rfl rfl ?_
          refine ezw_bipush (10) rfl rfl ?_
          refine ezs_idiv rfl hu9 ⟨by decide, by decide⟩ (by omega) (fun u10 hu10 => ?_)
          exact ezw_ireturn rfl rfl ⟨⟨F, A, rfl, hI⟩, _, hu10, rfl⟩
        · refine ezw_iload rfl rfl ?_
          refine ezw_bipush (10) rfl rfl ?_
          refine ezw_iload rfl rfl ?_
          refine ezs_isub rfl (fun u11 hu11 => ?_)
          refine ezw_aload_n rfl rfl ?_
          refine ezw_aload_n rfl rfl ?_
          refine ezw_iload_n rfl rfl ?_
          refine ezw_iload_n rfl rfl ?_
          refine ezw_iload rfl rfl ?_
          refine ezw_iload rfl rfl ?_
          refine ezw_call0_5 rfl (by omega) (ezu_at rfl) rfl rfl rfl rfl (ezs_m149_23_47_l0 hI (by omega) ha2 (by omega) ha3 ha4 ha5) ?_
          rintro _ _ ⟨⟨F, A, rfl, hI⟩, u12, hu12, rfl⟩
          refine ezw_call2_1 rfl (by omega) rfl rfl (ezs_m152 hI (by omega) hu12) ?_
          rintro _ _ ⟨rfl, u13, hu13, rfl⟩
          refine ezs_imul rfl (fun u14 hu14 => ?_)
          refine ezs_iadd rfl (fun u15 hu15 => ?_)
          refine ezw_istore rfl rfl ?_
          refine ezw_iload rfl rfl ?_
          refine ezw_bipush (10) rfl rfl ?_
          refine ezs_idiv rfl hu15 ⟨by decide, by decide⟩ (by omega) (fun u16 hu16 => ?_)
          exact ezw_ireturn rfl rfl ⟨⟨F, A, rfl, hI⟩, _, hu16, rfl⟩
      · refine ezw_iconst (-1) rfl rfl ?_
        exact ezw_ireturn rfl rfl ⟨⟨F, A, rfl, hI⟩, _, ⟨by decide, by decide⟩, rfl⟩
theorem ezs_m151_23_47_l1 {a2 a3 a4 a5 a6 : Int} {F : Nat → Nat → Int} {A : Nat → Int → Int} (hI : ezs_I fz F0 A0 F A) (hd : 3 ≤ d) (ha2 : ezw_in a2) (ha3 : ezw_in a3) (ga3 : a3 ≤ 0) (ha4 : ezw_in a4) (ha5 : ezw_in a5) (ha6 : ezw_in a6) : ezw_C l ρ B xa Hb D cA 151 d [ezw_p 23, ezw_p 47, ezw_i a2, ezw_i a3, ezw_i a4, ezw_i a5, ezw_i a6] (ezu_g e F A) (ezs_P e fz F0 A0 ezs_ri) := by
  refine ezw_met (k := 7) rfl rfl ?_
  refine ezw_iload_n rfl rfl ?_
  refine ezw_iconst (1) rfl rfl ?_
  refine ezs_isub rfl (fun u1 hu1 => ?_)
  refine ezw_iconst (4) rfl rfl ?_
  refine ezs_irem rfl hu1 ⟨by decide, by decide⟩ (by omega) (fun u2 hu2 => ?_)
  refine ezw_istore rfl rfl ?_
  refine ezw_iload_n rfl rfl ?_
  refine ezw_iconst (5) rfl rfl ?_
  have J17_3 : ∀ y3 : Int, ezs_b y3 → ∀ F A, ezs_I fz F0 A0 F A → ezw_E l ρ B xa Hb D cA d ezq_re151 (ezs_P e fz F0 A0 ezs_ri) 17 [some (ezw_p 23), some (ezw_p 47), some (ezw_i a2), some (ezw_i a3), some (ezw_i a4), some (ezw_i a5), some (ezw_i a6), some (ezw_i u2), none, none, none, none, none, none] [(ezw_i y3)] (ezu_g e F A) := by
    intro y3 hy3 F A hI
    refine ezw_istore rfl rfl ?_
    refine ezw_aload_n rfl rfl ?_
    refine ezs_getp (p := 25) rfl rfl rfl rfl rfl ?_
    refine ezw_iload rfl rfl ?_
    refine ezw_iconst (1) rfl rfl ?_
    refine ezs_isub rfl (fun u5 hu5 => ?_)
    refine ezw_call3_2 rfl (by omega) rfl rfl (ezs_m27_25 hI (by omega) hu5) ?_
    rintro _ _ ⟨rfl, u6, hu6, rfl⟩
    refine ezw_istore rfl rfl ?_
    refine ezw_aload_n rfl rfl ?_
    refine ezw_iload rfl rfl ?_
    refine ezw_iload rfl rfl ?_
    refine ezw_iload rfl rfl ?_
    refine ezw_iload rfl rfl ?_
    refine ezw_call0_4 rfl (by omega) (ezu_at rfl) rfl rfl rfl rfl (ezs_m113_47 hI (by omega) hu6 ha5 hu2 ⟨by omega, by omega⟩) ?_
    rintro _ _ ⟨rfl, u7, hu7, rfl⟩
    refine ezw_istore rfl rfl ?_
    refine ezw_aload_n rfl rfl ?_
    refine ezw_iload rfl rfl ?_
    refine ezw_iload rfl rfl ?_
    refine ezw_iload rfl rfl ?_
    refine ezw_iload rfl rfl ?_
    refine ezw_call0_4 rfl (by omega) (ezu_at rfl) rfl rfl rfl rfl (ezs_m116_47 hI (by omega) hu6 ha5 hu2 ⟨by omega, by omega⟩) ?_
    rintro _ _ ⟨rfl, u8, hu8, rfl⟩
    refine ezw_istore rfl rfl ?_
    refine ezw_iconst (0) rfl rfl ?_
    refine ezw_istore rfl rfl ?_
    refine ezw_iload rfl rfl ?_
    have J95_9 : ∀ y9 : Int, ezw_in y9 → ∀ F A, ezs_I fz F0 A0 F A → ezw_E l ρ B xa Hb D cA d ezq_re151 (ezs_P e fz F0 A0 ezs_ri) 95 [some (ezw_p 23), some (ezw_p 47), some (ezw_i a2), some (ezw_i a3), some (ezw_i a4), some (ezw_i a5), some (ezw_i a6), some (ezw_i u2), some (ezw_i y3), some (ezw_i u6), some (ezw_i u7), some (ezw_i u8), some (ezw_i y9), none] [] (ezu_g e F A) := by
      intro y9 hy9 F A hI
      refine ezw_iload rfl rfl ?_
      refine ezw_bipush (10) rfl rfl ?_
      have J131_11 : ∀ y11 : Int, ezw_in y11 → ∀ F A, ezs_I fz F0 A0 F A → ezw_E l ρ B xa Hb D cA d ezq_re151 (ezs_P e fz F0 A0 ezs_ri) 131 [some (ezw_p 23), some (ezw_p 47), some (ezw_i a2), some (ezw_i a3), some (ezw_i a4), some (ezw_i a5), some (ezw_i a6), some (ezw_i u2), some (ezw_i y3), some (ezw_i u6), some (ezw_i u7), some (ezw_i u8), some (ezw_i y11), none] [] (ezu_g e F A) := by
        intro y11 hy11 F A hI
        refine ezw_iload rfl rfl ?_
        refine ezw_bipush (10) rfl rfl ?_
        refine ezw_icmp_ge rfl rfl hu7 ⟨by decide, by decide⟩ (fun h135_12 => ?_) (fun h135_12 => ?_)
        · refine ezw_iload rfl rfl ?_
          refine ezw_bipush (100) rfl rfl ?_
          refine ezs_idiv rfl hy11 ⟨by decide, by decide⟩ (by omega) (fun u13 hu13 => ?_)
          exact ezw_ireturn rfl rfl ⟨⟨F, A, rfl, hI⟩, _, hu13, rfl⟩
        · refine ezw_iload rfl rfl ?_
          refine ezw_bipush (10) rfl rfl ?_
          refine ezw_icmp_ge rfl rfl hu8 ⟨by decide, by decide⟩ (fun h142_13 => ?_) (fun h142_13 => ?_)
          · refine ezw_iload rfl rfl ?_
            refine ezw_bipush (100) rfl rfl ?_
            refine ezs_idiv rfl hy11 ⟨by decide, by decide⟩ (by omega) (fun u14 hu14 => ?_)
            exact ezw_ireturn rfl rfl ⟨⟨F, A, rfl, hI⟩, _, hu14, rfl⟩
          · refine ezw_bipush (9) rfl rfl ?_
            refine ezw_iload rfl rfl ?_
            refine ezw_iload rfl rfl ?_
            have J159_15 : ∀ y15 : Int, ezw_in y15 → ∀ F A, ezs_I fz F0 A0 F A → ezw_E l ρ B xa Hb D cA d ezq_re151 (ezs_P e fz F0 A0 ezs_ri) 159 [some (ezw_p 23), some (ezw_p 47), some (ezw_i a2), some (ezw_i a3), some (ezw_i a4), some (ezw_i a5), some (ezw_i a6), some (ezw_i u2), some (ezw_i y3), some (ezw_i u6), some (ezw_i u7), some (ezw_i u8), some (ezw_i y11), none] [(ezw_i y15), (ezw_i a5), (ezw_i (9))] (ezu_g e F A) := by
              intro y15 hy15 F A hI
              refine ezs_iadd rfl (fun u17 hu17 => ?_)
              refine ezw_mminE rfl ⟨by decide, by decide⟩ hu17 rfl (fun u18 hu18 => ?_)
              refine ezw_istore rfl rfl ?_
              refine ezw_iload rfl rfl ?_
              refine ezw_bipush (10) rfl rfl ?_
              refine ezw_iload rfl rfl ?_
              refine ezs_isub rfl (fun u19 hu19 => ?_)
              refine ezw_bipush (10) rfl rfl ?_
              refine ezw_iload rfl rfl ?_
              refine ezs_isub rfl (fun u20 hu20 => ?_)
              refine ezs_imul rfl (fun u21 hu21 => ?_)
              refine ezw_aload_n rfl rfl ?_
              refine ezw_aload_n rfl rfl ?_
              refine ezw_iload_n rfl rfl ?_
              refine ezw_iload rfl rfl ?_
              refine ezw_iload rfl rfl ?_
              refine ezw_iload rfl rfl ?_
              refine ezw_call0_5 rfl (by omega) (ezu_at rfl) rfl rfl rfl rfl (ezs_m149_23_47_l0 hI (by omega) ha3 (by omega) ha4 ⟨by omega, by omega⟩ ha6) ?_
              rintro _ _ ⟨⟨F, A, rfl, hI⟩, u22, hu22, rfl⟩
              refine ezw_call2_1 rfl (by omega) rfl rfl (ezs_m152 hI (by omega) hu22) ?_
              rintro _ _ ⟨rfl, u23, hu23, rfl⟩
              refine ezs_imul rfl (fun u24 hu24 => ?_)
              refine ezs_iadd rfl (fun u25 hu25 => ?_)
              refine ezw_istore rfl rfl ?_
              refine ezw_iload rfl rfl ?_
              refine ezw_bipush (100) rfl rfl ?_
              refine ezs_idiv rfl hu25 ⟨by decide, by decide⟩ (by omega) (fun u26 hu26 => ?_)
              exact ezw_ireturn rfl rfl ⟨⟨F, A, rfl, hI⟩, _, hu26, rfl⟩
            refine ezw_if_eq rfl rfl ⟨by omega, by omega⟩ (fun h151_14 => ?_) (fun h151_14 => ?_)
            · refine ezw_iconst (1) rfl rfl ?_
              exact ezw_keepE [true, true, true, true, true, true, true, true, true, true, true, true, true, false] (J159_15 (1) ⟨by decide, by decide⟩ F A hI)
            · refine ezw_iconst (2) rfl rfl ?_
              refine ezw_goto rfl rfl ?_
              exact ezw_keepE [true, true, true, true, true, true, true, true, true, true, true, true, true, false] (J159_15 (2) ⟨by decide, by decide⟩ F A hI)
      refine ezw_icmp_ge rfl rfl hu7 ⟨by decide, by decide⟩ (fun h99_10 => ?_) (fun h99_10 => ?_)
      · exact ezw_keepE [true, true, true, true, true, true, true, true, true, true, true, true, true, false] (J131_11 y9 hy9 F A hI)
      · refine ezw_iload rfl rfl ?_
        refine ezw_if_le rfl rfl hu8 (fun h104_26 => ?_) (fun h104_26 => ?_)
        · exact ezw_keepE [true, true, true, true, true, true, true, true, true, true, true, true, true, false] (J131_11 y9 hy9 F A hI)
        · refine ezw_iload rfl rfl ?_
          refine ezw_bipush (10) rfl rfl ?_
          refine ezw_iload rfl rfl ?_
          refine ezs_isub rfl (fun u27 hu27 => ?_)
          refine ezw_iload rfl rfl ?_
          refine ezs_imul rfl (fun u28 hu28 => ?_)
          refine ezw_sipush (1000) rfl rfl ?_
          refine ezs_imul rfl (fun u29 hu29 => ?_)
          refine ezw_aload_n rfl rfl ?_
          refine ezw_iload rfl rfl ?_
          refine ezw_call0_1 rfl (by omega) (ezu_at rfl) rfl rfl rfl rfl (ezs_m144_47 hI (by omega) ha6) ?_
          rintro _ _ ⟨rfl, u30, hu30, rfl⟩
          refine ezs_imul rfl (fun u31 hu31 => ?_)
          refine ezs_iadd rfl (fun u32 hu32 => ?_)
          refine ezw_istore rfl rfl ?_
          exact ezw_keepE [true, true, true, true, true, true, true, true, true, true, true, true, true, false] (J131_11 u32 hu32 F A hI)
    refine ezw_if_le rfl rfl hu7 (fun h65_8 => ?_) (fun h65_8 => ?_)
    · exact ezw_keepE [true, true, true, true, true, true, true, true, true, true, true, true, true, false] (J95_9 (0) ⟨by decide, by decide⟩ F A hI)
    · refine ezw_iload rfl rfl ?_
      refine ezw_bipush (10) rfl rfl ?_
      refine ezw_iload rfl rfl ?_
      refine ezs_imul rfl (fun u33 hu33 => ?_)
      refine ezw_aload_n rfl rfl ?_
      refine ezw_aload_n rfl rfl ?_
      refine ezw_iload_n rfl rfl ?_
      refine ezw_iload rfl rfl ?_
      refine ezw_iconst (1) rfl rfl ?_
      refine ezs_isub rfl (fun u34 hu34 => ?_)
      refine ezw_iconst (0) rfl rfl ?_
      refine ezw_iload rfl rfl ?_
      refine ezw_call0_5 rfl (by omega) (ezu_at rfl) rfl rfl rfl rfl (ezs_m149_23_47_l0 hI (by omega) ha3 (by omega) hu34 ⟨by decide, by decide⟩ ha6) ?_
      rintro _ _ ⟨⟨F, A, rfl, hI⟩, u35, hu35, rfl⟩
      refine ezw_call2_1 rfl (by omega) rfl rfl (ezs_m152 hI (by omega) hu35) ?_
      rintro _ _ ⟨rfl, u36, hu36, rfl⟩
      refine ezs_imul rfl (fun u37 hu37 => ?_)
      refine ezs_iadd rfl (fun u38 hu38 => ?_)
      refine ezw_istore rfl rfl ?_
      exact ezw_keepE [true, true, true, true, true, true, true, true, true, true, true, true, true, false] (J95_9 u38 hu38 F A hI)
  refine ezw_icmp_lt rfl rfl ha2 ⟨by decide, by decide⟩ (fun h9_2 => ?_) (fun h9_2 => ?_)
  · refine ezw_iconst (0) rfl rfl ?_
    exact ezw_keepE [true, true, true, true, true, true, true, true, false, false, false, false, false, false] (J17_3 (0) ⟨by omega, by omega⟩ F A hI)
  · refine ezw_iconst (1) rfl rfl ?_
    refine ezw_goto rfl rfl ?_
    exact ezw_keepE [true, true, true, true, true, true, true, true, false, false, false, false, false, false] (J17_3 (1) ⟨by omega, by omega⟩ F A hI)
theorem ezs_m150_23_47_l1 {a2 a3 a4 a5 a6 : Int} {F : Nat → Nat → Int} {A : Nat → Int → Int} (hI : ezs_I fz F0 A0 F A) (hd : 4 ≤ d) (ha2 : ezw_in a2) (ha3 : ezw_in a3) (ga3 : a3 ≤ 0) (ha4 : ezw_in a4) (ha5 : ezw_in a5) (ha6 : ezw_in a6) : ezw_C l ρ B xa Hb D cA 150 d [ezw_p 23, ezw_p 47, ezw_i a2, ezw_i a3, ezw_i a4, ezw_i a5, ezw_i a6] (ezu_g e F A) (ezs_P e fz F0 A0 ezs_ri) := by
  refine ezw_met (k := 0) rfl rfl ?_
  refine ezw_iload_n rfl rfl ?_
  refine ezw_bipush (9) rfl rfl ?_
  refine ezw_icmp_ge rfl rfl ha2 ⟨by decide, by decide⟩ (fun h3_0 => ?_) (fun h3_0 => ?_)
  · refine ezw_iload_n rfl rfl ?_
    refine ezw_bipush (9) rfl rfl ?_
    refine ezw_icmp_ne rfl rfl ha2 ⟨by decide, by decide⟩ (fun h23_0 => ?_) (fun h23_0 => ?_)
    · refine ezw_iload_n rfl rfl ?_
      refine ezw_bipush (10) rfl rfl ?_
      refine ezw_icmp_ne rfl rfl ha2 ⟨by decide, by decide⟩ (fun h56_0 => ?_) (fun h56_0 => ?_)
      · refine ezw_aload_n rfl rfl ?_
        refine ezw_aload_n rfl rfl ?_
        refine ezw_iload_n rfl rfl ?_
        refine ezw_bipush (11) rfl rfl ?_
        refine ezs_isub rfl (fun u1 hu1 => ?_)
        refine ezw_iload_n rfl rfl ?_
        refine ezw_iload rfl rfl ?_
        refine ezw_iload rfl rfl ?_
        refine ezw_iload rfl rfl ?_
        refine ezw_call0_6 rfl (by omega) (ezu_at rfl) rfl rfl rfl rfl (ezs_m154_23_47_l1 hI (by omega) hu1 ha3 (by omega) ha4 ha5 ha6) ?_
        rintro _ _ ⟨⟨F, A, rfl, hI⟩, u2, hu2, rfl⟩
        exact ezw_ireturn rfl rfl ⟨⟨F, A, rfl, hI⟩, _, hu2, rfl⟩
      · refine ezw_aload_n rfl rfl ?_
        refine ezw_aload_n rfl rfl ?_
        refine ezw_iload_n rfl rfl ?_
        refine ezw_iload rfl rfl ?_
        refine ezw_iload rfl rfl ?_
        refine ezw_iload rfl rfl ?_
        refine ezw_call0_5 rfl (by omega) (ezu_at rfl) rfl rfl rfl rfl (ezs_m153_23_47_l1 hI (by omega) ha3 (by omega) ha4 ha5 ha6) ?_
        rintro _ _ ⟨⟨F, A, rfl, hI⟩, u3, hu3, rfl⟩
        exact ezw_ireturn rfl rfl ⟨⟨F, A, rfl, hI⟩, _, hu3, rfl⟩
    · refine ezw_iload rfl rfl ?_
      refine ezw_if_le rfl rfl ha5 (fun h28_3 => ?_) (fun h28_3 => ?_)
      · refine ezw_iconst (-1) rfl rfl ?_
        exact ezw_ireturn rfl rfl ⟨⟨F, A, rfl, hI⟩, _, ⟨by decide, by decide⟩, rfl⟩
      · refine ezw_aload_n rfl rfl ?_
        refine ezw_aload_n rfl rfl ?_
        refine ezw_iload_n rfl rfl ?_
        refine ezw_iload rfl rfl ?_
        refine ezw_iload rfl rfl ?_
        refine ezw_iconst (1) rfl rfl ?_
        refine ezs_isub rfl (fun u4 hu4 => ?_)
        refine ezw_iload rfl rfl ?_
        refine ezw_call0_5 rfl (by omega) (ezu_at rfl) rfl rfl rfl rfl (ezs_m149_23_47_l0 hI (by omega) ha3 (by omega) ha4 hu4 ha6) ?_
        rintro _ _ ⟨⟨F, A, rfl, hI⟩, u5, hu5, rfl⟩
        refine ezw_call2_1 rfl (by omega) rfl rfl (ezs_m152 hI (by omega) hu5) ?_
        rintro _ _ ⟨rfl, u6, hu6, rfl⟩
        refine ezw_goto rfl rfl ?_
        exact ezw_ireturn rfl rfl ⟨⟨F, A, rfl, hI⟩, _, hu6, rfl⟩
  · refine ezw_aload_n rfl rfl ?_
    refine ezw_aload_n rfl rfl ?_
    refine ezw_iload_n rfl rfl ?_
    refine ezw_iload_n rfl rfl ?_
    refine ezw_iload rfl rfl ?_
    refine ezw_iload rfl rfl ?_
    refine ezw_iload rfl rfl ?_
    refine ezw_call0_6 rfl (by omega) (ezu_at rfl) rfl rfl rfl rfl (ezs_m151_23_47_l1 hI (by omega) ha2 ha3 (by omega) ha4 ha5 ha6) ?_
    rintro _ _ ⟨⟨F, A, rfl, hI⟩, u7, hu7, rfl⟩
    exact ezw_ireturn rfl rfl ⟨⟨F, A, rfl, hI⟩, _, hu7, rfl⟩
theorem ezs_m149_23_47_l1 {a2 a3 a4 a5 : Int} {F : Nat → Nat → Int} {A : Nat → Int → Int} (hI : ezs_I fz F0 A0 F A) (hd : 5 ≤ d) (hzA : ∀ q, 24 ≤ q → q < 25 → fz q = false) (ha2 : ezw_in a2) (ga2 : a2 ≤ 1) (ha3 : ezw_in a3) (ha4 : ezw_in a4) (ha5 : ezw_in a5) : ezw_C l ρ B xa Hb D cA 149 d [ezw_p 23, ezw_p 47, ezw_i a2, ezw_i a3, ezw_i a4, ezw_i a5] (ezu_g e F A) (ezs_P e fz F0 A0 ezs_ri) := by
  refine ezw_met (k := 5) rfl rfl ?_
  refine ezw_sipush (1000) rfl rfl ?_
  refine ezw_aload_n rfl rfl ?_
  refine ezw_iload rfl rfl ?_
  refine ezw_call0_1 rfl (by omega) (ezu_at rfl) rfl rfl rfl rfl (ezs_m144_47 hI (by omega) ha5) ?_
  rintro _ _ ⟨rfl, u1, hu1, rfl⟩
  refine ezw_iload_n rfl rfl ?_
  have J21_2 : ∀ y2 : Int, ezw_in y2 → ∀ F A, ezs_I fz F0 A0 F A → ezw_E l ρ B xa Hb D cA d ezq_re149 (ezs_P e fz F0 A0 ezs_ri) 21 [some (ezw_p 23), some (ezw_p 47), some (ezw_i a2), some (ezw_i a3), some (ezw_i a4), some (ezw_i a5), none, none, none, none, none] [(ezw_i y2), (ezw_i u1), (ezw_i (1000))] (ezu_g e F A) := by
    intro y2 hy2 F A hI
    refine ezs_iadd rfl (fun u4 hu4 => ?_)
    refine ezs_imul rfl (fun u5 hu5 => ?_)
    refine ezw_istore rfl rfl ?_
    refine ezw_iconst (0) rfl rfl ?_
    refine ezw_istore rfl rfl ?_
    refine ezw_iload_n rfl rfl ?_
    refine ezw_if_le rfl rfl ha2 (fun h29_5 => ?_) (fun h29_5 => ?_)
    · refine ezw_iload rfl rfl ?_
      refine ezw_bipush (16) rfl rfl ?_
      refine ezs_imul rfl (fun u6 hu6 => ?_)
      refine ezw_iload rfl rfl ?_
      refine ezs_iadd rfl (fun u7 hu7 => ?_)
      exact ezw_ireturn rfl rfl ⟨⟨F, A, rfl, hI⟩, _, hu7, rfl⟩
    · refine ezw_iload_n rfl rfl ?_
      refine ezw_if_gt rfl rfl ha3 (fun h33_7 => ?_) (fun h33_7 => ?_)
      · refine ezw_iload_n rfl rfl ?_
        refine ezw_iconst (1) rfl rfl ?_
        refine ezs_isub rfl (fun u8 hu8 => ?_)
        refine ezw_bipush (6) rfl rfl ?_
        refine ezs_imul rfl (fun u9 hu9 => ?_)
        refine ezw_iload_n rfl rfl ?_
        refine ezs_iadd rfl (fun u10 hu10 => ?_)
        refine ezw_iconst (1) rfl rfl ?_
        refine ezs_isub rfl (fun u11 hu11 => ?_)
        refine ezw_bipush (10) rfl rfl ?_
        refine ezs_imul rfl (fun u12 hu12 => ?_)
        refine ezw_iload rfl rfl ?_
        refine ezs_iadd rfl (fun u13 hu13 => ?_)
        refine ezw_bipush (16) rfl rfl ?_
        refine ezs_imul rfl (fun u14 hu14 => ?_)
        refine ezw_iload rfl rfl ?_
        refine ezs_iadd rfl (fun u15 hu15 => ?_)
        refine ezw_istore rfl rfl ?_
        refine ezw_aload_n rfl rfl ?_
        refine ezs_getp (p := 24) rfl rfl rfl rfl rfl ?_
        refine ezw_iload rfl rfl ?_
        refine ezw_call3_2 rfl (by omega) rfl rfl (ezs_m27_24 hI (by omega) hu15) ?_
        rintro _ _ ⟨rfl, u16, hu16, rfl⟩
        refine ezw_iconst (-1) rfl rfl ?_
        refine ezw_icmp_eq rfl rfl hu16 ⟨by decide, by decide⟩ (fun h79_16 => ?_) (fun h79_16 => ?_)
        · refine ezw_iconst (1) rfl rfl ?_
          refine ezw_istore rfl rfl ?_
          have L95_19 : ∀ c19 : Int, ezw_in c19 → (1) ≤ c19 → ∀ y17 : Int, ezw_in y17 → ∀ y18 : Int, ezw_in y18 → ∀ F A, ezs_I fz F0 A0 F A → ezw_E l ρ B xa Hb D cA d ezq_re149 (ezs_P e fz F0 A0 ezs_ri) 95 [some (ezw_p 23), some (ezw_p 47), some (ezw_i a2), some (ezw_i a3), some (ezw_i a4), some (ezw_i a5), some (ezw_i y17), some (ezw_i y18), some (ezw_i u15), some (ezw_i c19), none] [] (ezu_g e F A) := by
            refine ezs_up ?_
            intro c19 hc19 ihc19 gc19 y17 hy17 y18 hy18 F A hI
            refine ezw_iload rfl rfl ?_
            refine ezw_bipush (15) rfl rfl ?_
            have J140_23 : ∀ y21 : Int, ezw_in y21 → ∀ y22 : Int, ezw_in y22 → ∀ y23 : Int, ezw_in y23 → ∀ F A, ezs_I fz F0 A0 F A → ezw_E l ρ B xa Hb D cA d ezq_re149 (ezs_P e fz F0 A0 ezs_ri) 140 [some (ezw_p 23), some (ezw_p 47), some (ezw_i a2), some (ezw_i a3), some (ezw_i a4), some (ezw_i a5), some (ezw_i y21), some (ezw_i y22), some (ezw_i u15), some (ezw_i y23), none] [] (ezu_g e F A) := by
              intro y21 hy21 y22 hy22 y23 hy23 F A hI
              refine ezw_aload_n rfl rfl ?_
              refine ezs_getp (p := 24) rfl rfl rfl rfl rfl ?_
              refine ezw_iload rfl rfl ?_
              refine ezw_iload rfl rfl ?_
              refine ezw_bipush (16) rfl rfl ?_
              refine ezs_imul rfl (fun u25 hu25 => ?_)
              refine ezw_iload rfl rfl ?_
              refine ezs_iadd rfl (fun u26 hu26 => ?_)
              refine ezw_call3_3 rfl (by omega) rfl rfl (ezs_m21_24 hI (by omega) (fun q h0 h1 => hzA q (by omega) (by omega)) hu15 hu26) ?_
              rintro _ _ ⟨⟨F, A, rfl, hI⟩, rfl⟩
              refine ezw_iload rfl rfl ?_
              refine ezw_bipush (16) rfl rfl ?_
              refine ezs_imul rfl (fun u27 hu27 => ?_)
              refine ezw_iload rfl rfl ?_
              refine ezs_iadd rfl (fun u28 hu28 => ?_)
              exact ezw_ireturn rfl rfl ⟨⟨F, A, rfl, hI⟩, _, hu28, rfl⟩
            refine ezw_icmp_ge rfl rfl hc19 ⟨by decide, by decide⟩ (fun h99_20 => ?_) (fun h99_20 => ?_)
            · exact ezw_keepE [true, true, true, true, true, true, true, true, true, true, false] (J140_23 y17 hy17 y18 hy18 c19 hc19 F A hI)
            · refine ezw_aload_n rfl rfl ?_
              refine ezw_aload_n rfl rfl ?_
              refine ezw_iload rfl rfl ?_
              refine ezw_iload_n rfl rfl ?_
              refine ezw_iconst (1) rfl rfl ?_
              refine ezw_isub rfl rfl ?_
              refine ezw_iload_n rfl rfl ?_
              refine ezw_iload rfl rfl ?_
              refine ezw_iload rfl rfl ?_
              refine ezw_call0_6 rfl (by omega) (ezu_at rfl) rfl rfl rfl rfl (ezs_m150_23_47_l1 hI (by omega) hc19 ⟨by omega, by omega⟩ (by omega) ha3 ha4 ha5) ?_
              rintro _ _ ⟨⟨F, A, rfl, hI⟩, u29, hu29, rfl⟩
              refine ezw_istore rfl rfl ?_
              refine ezw_iload rfl rfl ?_
              refine ezw_iload rfl rfl ?_
              refine ezw_icmp_le rfl rfl hu29 hy17 (fun h123_29 => ?_) (fun h123_29 => ?_)
              · refine ezw_iinc (1) rfl rfl rfl rfl rfl ?_
                refine ezw_goto rfl rfl ?_
                exact ezw_keepE [true, true, true, true, true, true, true, true, true, true, false] (ihc19 (c19 + (1)) (by omega) ⟨by omega, by omega⟩ (by omega) y17 hy17 y18 hy18 F A hI)
              · refine ezw_iload rfl rfl ?_
                refine ezw_istore rfl rfl ?_
                refine ezw_iload rfl rfl ?_
                refine ezw_istore rfl rfl ?_
                refine ezw_iinc (1) rfl rfl rfl rfl rfl ?_
                refine ezw_goto rfl rfl ?_
                exact ezw_keepE [true, true, true, true, true, true, true, true, true, true, false] (ihc19 (c19 + (1)) (by omega) ⟨by omega, by omega⟩ (by omega) u29 hu29 c19 hc19 F A hI)
          exact ezw_keepE [true, true, true, true, true, true, true, true, true, true, false] (L95_19 (1) ⟨by decide, by decide⟩ (by omega) u5 hu5 (0) ⟨by decide, by decide⟩ F A hI)
        · refine ezw_aload_n rfl rfl ?_
          refine ezs_getp (p := 24) rfl rfl rfl rfl rfl ?_
          refine ezw_iload rfl rfl ?_
          refine ezw_call3_2 rfl (by omega) rfl rfl (ezs_m27_24 hI (by omega) hu15) ?_
          rintro _ _ ⟨rfl, u30, hu30, rfl⟩
          exact ezw_ireturn rfl rfl ⟨⟨F, A, rfl, hI⟩, _, hu30, rfl⟩
      · refine ezw_iload rfl rfl ?_
        refine ezw_bipush (16) rfl rfl ?_
        refine ezs_imul rfl (fun u31 hu31 => ?_)
        refine ezw_iload rfl rfl ?_
        refine ezs_iadd rfl (fun u32 hu32 => ?_)
        exact ezw_ireturn rfl rfl ⟨⟨F, A, rfl, hI⟩, _, hu32, rfl⟩
  refine ezw_if_le rfl rfl ha3 (fun h10_1 => ?_) (fun h10_1 => ?_)
  · refine ezw_aload_n rfl rfl ?_
    refine ezs_get_i hI rfl rfl rfl rfl rfl rfl (fun u33 hu33 ku33 => ?_)
    exact ezw_keepE [true, true, true, true, true, true, false, false, false, false, false] (J21_2 u33 hu33 F A hI)
  · refine ezw_iconst (0) rfl rfl ?_
    refine ezw_goto rfl rfl ?_
    exact ezw_keepE [true, true, true, true, true, true, false, false, false, false, false] (J21_2 (0) ⟨by decide, by decide⟩ F A hI)
theorem ezs_m154_23_47_l2 {a2 a3 a4 a5 a6 : Int} {F : Nat → Nat → Int} {A : Nat → Int → Int} (hI : ezs_I fz F0 A0 F A) (hd : 6 ≤ d) (hzA : ∀ q, 24 ≤ q → q < 25 → fz q = false) (ha2 : ezw_in a2) (ha3 : ezw_in a3) (ga3 : a3 ≤ 1) (ha4 : ezw_in a4) (ha5 : ezw_in a5) (ha6 : ezw_in a6) : ezw_C l ρ B xa Hb D cA 154 d [ezw_p 23, ezw_p 47, ezw_i a2, ezw_i a3, ezw_i a4, ezw_i a5, ezw_i a6] (ezu_g e F A) (ezs_P e fz F0 A0 ezs_ri) := by
  refine ezw_met (k := 3) rfl rfl ?_
  refine ezw_iload rfl rfl ?_
  refine ezw_iload_n rfl rfl ?_
  refine ezw_call3_2 rfl (by omega) rfl rfl (ezs_m49 hI (by omega) ha6 ha2) ?_
  rintro _ _ ⟨rfl, u1, hu1, rfl⟩
  refine ezw_if_ne rfl rfl hu1 (fun h6_1 => ?_) (fun h6_1 => ?_)
  · refine ezw_aload_n rfl rfl ?_
    refine ezs_getp (p := 53) rfl rfl rfl rfl rfl ?_
    refine ezw_iload_n rfl rfl ?_
    refine ezw_call3_2 rfl (by omega) rfl rfl (ezs_m27_53 hI (by omega) ha2) ?_
    rintro _ _ ⟨rfl, u2, hu2, rfl⟩
    refine ezw_istore rfl rfl ?_
    refine ezw_aload_n rfl rfl ?_
    refine ezs_getp (p := 54) rfl rfl rfl rfl rfl ?_
    refine ezw_iload_n rfl rfl ?_
    refine ezw_call3_2 rfl (by omega) rfl rfl (ezs_m27_54 hI (by omega) ha2) ?_
    rintro _ _ ⟨rfl, u3, hu3, rfl⟩
    refine ezw_istore rfl rfl ?_
    refine ezw_iconst (0) rfl rfl ?_
    refine ezw_istore rfl rfl ?_
    refine ezw_iload rfl rfl ?_
    have J68_4 : ∀ y4 : Int, ezw_in y4 → ∀ F A, ezs_I fz F0 A0 F A → ezw_E l ρ B xa Hb D cA d ezq_re154 (ezs_P e fz F0 A0 ezs_ri) 68 [some (ezw_p 23), some (ezw_p 47), some (ezw_i a2), some (ezw_i a3), some (ezw_i a4), some (ezw_i a5), some (ezw_i a6), some (ezw_i u2), some (ezw_i u3), some (ezw_i y4)] [] (ezu_g e F A) := by
      intro y4 hy4 F A hI
      refine ezw_iload rfl rfl ?_
      have J97_6 : ∀ y6 : Int, ezw_in y6 → ∀ F A, ezs_I fz F0 A0 F A → ezw_E l ρ B xa Hb D cA d ezq_re154 (ezs_P e fz F0 A0 ezs_ri) 97 [some (ezw_p 23), some (ezw_p 47), some (ezw_i a2), some (ezw_i a3), some (ezw_i a4), some (ezw_i a5), some (ezw_i a6), some (ezw_i u2), some (ezw_i u3), some (ezw_i y6)] [] (ezu_g e F A) := by
        intro y6 hy6 F A hI
        refine ezw_iload rfl rfl ?_
        refine ezw_iload rfl rfl ?_
        refine ezs_iadd rfl (fun u8 hu8 => ?_)
        refine ezw_bipush (10) rfl rfl ?_
        refine ezw_icmp_ge rfl rfl hu8 ⟨by decide, by decide⟩ (fun h104_8 => ?_) (fun h104_8 => ?_)
        · refine ezw_iload rfl rfl ?_
          refine ezw_bipush (10) rfl rfl ?_
          refine ezs_idiv rfl hy6 ⟨by decide, by decide⟩ (by omega) (fun u9 hu9 => ?_)
          exact ezw_ireturn rfl rfl ⟨⟨F, A, rfl, hI⟩, _, hu9, rfl⟩
        · refine ezw_iload rfl rfl ?_
          refine ezw_bipush (10) rfl rfl ?_
          refine ezw_iload rfl rfl ?_
          refine ezs_isub rfl (fun u10 hu10 => ?_)
          refine ezw_iload rfl rfl ?_
          refine ezs_isub rfl (fun u11 hu11 => ?_)
          refine ezw_aload_n rfl rfl ?_
          refine ezw_aload_n rfl rfl ?_
          refine ezw_iload_n rfl rfl ?_
          refine ezw_iload rfl rfl ?_
          refine ezw_iload rfl rfl ?_
          refine ezw_iload rfl rfl ?_
          refine ezw_call0_5 rfl (by omega) (ezu_at rfl) rfl rfl rfl rfl (ezs_m149_23_47_l1 hI (by omega) (fun q h0 h1 => hzA q (by omega) (by omega)) ha3 (by omega) ha4 ha5 ha6) ?_
          rintro _ _ ⟨⟨F, A, rfl, hI⟩, u12, hu12, rfl⟩
          refine ezw_call2_1 rfl (by omega) rfl rfl (ezs_m152 hI (by omega) hu12) ?_
          rintro _ _ ⟨rfl, u13, hu13, rfl⟩
          refine ezs_imul rfl (fun u14 hu14 => ?_)
          refine ezs_iadd rfl (fun u15 hu15 => ?_)
          refine ezw_istore rfl rfl ?_
          refine ezw_iload rfl rfl ?_
          refine ezw_bipush (10) rfl rfl ?_
          refine ezs_idiv rfl hu15 ⟨by decide, by decide⟩ (by omega) (fun u16 hu16 => ?_)
          exact ezw_ireturn rfl rfl ⟨⟨F, A, rfl, hI⟩, _, hu16, rfl⟩
      refine ezw_if_le rfl rfl hu3 (fun h70_5 => ?_) (fun h70_5 => ?_)
      · exact ezw_keepE [true, true, true, true, true, true, true, true, true, true] (J97_6 y4 hy4 F A hI)
      · refine ezw_iload rfl rfl ?_
        refine ezw_iload rfl rfl ?_
        refine ezw_aload_n rfl rfl ?_
        refine ezw_aload_n rfl rfl ?_
        refine ezw_iload_n rfl rfl ?_
        refine ezw_iload rfl rfl ?_
        refine ezw_iconst (1) rfl rfl ?_
        refine ezs_isub rfl (fun u17 hu17 => ?_)
        refine ezw_iconst (0) rfl rfl ?_
        refine ezw_iload rfl rfl ?_
        refine ezw_call0_5 rfl (by omega) (ezu_at rfl) rfl rfl rfl rfl (ezs_m149_23_47_l1 hI (by omega) (fun q h0 h1 => hzA q (by omega) (by omega)) ha3 (by omega) hu17 ⟨by decide, by decide⟩ ha6) ?_
        rintro _ _ ⟨⟨F, A, rfl, hI⟩, u18, hu18, rfl⟩
        refine ezw_call2_1 rfl (by omega) rfl rfl (ezs_m152 hI (by omega) hu18) ?_
        rintro _ _ ⟨rfl, u19, hu19, rfl⟩
        refine ezs_imul rfl (fun u20 hu20 => ?_)
        refine ezs_iadd rfl (fun u21 hu21 => ?_)
        refine ezw_istore rfl rfl ?_
        exact ezw_keepE [true, true, true, true, true, true, true, true, true, true] (J97_6 u21 hu21 F A hI)
    refine ezw_if_le rfl rfl hu2 (fun h36_3 => ?_) (fun h36_3 => ?_)
    · exact ezw_keepE [true, true, true, true, true, true, true, true, true, true] (J68_4 (0) ⟨by decide, by decide⟩ F A hI)
    · refine ezw_iload rfl rfl ?_
      refine ezw_iload rfl rfl ?_
      refine ezw_aload_n rfl rfl ?_
      refine ezw_aload_n rfl rfl ?_
      refine ezw_iload_n rfl rfl ?_
      refine ezw_iload rfl rfl ?_
      refine ezw_iload rfl rfl ?_
      refine ezw_iload rfl rfl ?_
      refine ezw_iconst (1) rfl rfl ?_
      refine ezw_iload_n rfl rfl ?_
      refine ezw_ishlO rfl (fun u22 hu22 => ?_)
      refine ezw_iconst (-1) rfl rfl ?_
      refine ezs_ixor rfl (fun u23 hu23 => ?_)
      refine ezs_iand rfl (fun u24 hu24 => ?_)
      refine ezw_call0_5 rfl (by omega) (ezu_at rfl) rfl rfl rfl rfl (ezs_m149_23_47_l1 hI (by omega) (fun q h0 h1 => hzA q (by omega) (by omega)) ha3 (by omega) ha4 ha5 hu24) ?_
      rintro _ _ ⟨⟨F, A, rfl, hI⟩, u25, hu25, rfl⟩
      refine ezw_call2_1 rfl (by omega) rfl rfl (ezs_m152 hI (by omega) hu25) ?_
      rintro _ _ ⟨rfl, u26, hu26, rfl⟩
      refine ezs_imul rfl (fun u27 hu27 => ?_)
      refine ezs_iadd rfl (fun u28 hu28 => ?_)
      refine ezw_istore rfl rfl ?_
      exact ezw_keepE [true, true, true, true, true, true, true, true, true, true] (J68_4 u28 hu28 F A hI)
  · refine ezw_iconst (-1) rfl rfl ?_
    exact ezw_ireturn rfl rfl ⟨⟨F, A, rfl, hI⟩, _, ⟨by decide, by decide⟩, rfl⟩
theorem ezs_m153_23_47_l2 {a2 a3 a4 a5 : Int} {F : Nat → Nat → Int} {A : Nat → Int → Int} (hI : ezs_I fz F0 A0 F A) (hd : 6 ≤ d) (hzA : ∀ q, 24 ≤ q → q < 25 → fz q = false) (ha2 : ezw_in a2) (ga2 : a2 ≤ 1) (ha3 : ezw_in a3) (ha4 : ezw_in a4) (ha5 : ezw_in a5) : ezw_C l ρ B xa Hb D cA 153 d [ezw_p 23, ezw_p 47, ezw_i a2, ezw_i a3, ezw_i a4, ezw_i a5] (ezu_g e F A) (ezs_P e fz F0 A0 ezs_ri) := by
  refine ezw_met (k := 2) rfl rfl ?_
  refine ezw_aload_n rfl rfl ?_
  refine ezw_iconst (5) rfl rfl ?_
  refine ezw_call0_1 rfl (by omega) (ezu_at rfl) rfl rfl rfl rfl (ezs_m95_47 hI (by omega) ⟨by decide, by decide⟩) ?_
  rintro _ _ ⟨rfl, u1, hu1, rfl⟩
  refine ezw_istore rfl rfl ?_
  refine ezw_iload rfl rfl ?_
  refine ezw_if_gt rfl rfl ha4 (fun h9_1 => ?_) (fun h9_1 => ?_)
  · refine ezw_iconst (-1) rfl rfl ?_
    exact ezw_ireturn rfl rfl ⟨⟨F, A, rfl, hI⟩, _, ⟨by decide, by decide⟩, rfl⟩
  · refine ezw_iload rfl rfl ?_
    refine ezw_if_le rfl rfl ⟨by omega, by omega⟩ (fun h14_1 => ?_) (fun h14_1 => ?_)
    · refine ezw_iconst (-1) rfl rfl ?_
      exact ezw_ireturn rfl rfl ⟨⟨F, A, rfl, hI⟩, _, ⟨by decide, by decide⟩, rfl⟩
    · refine ezw_aload_n rfl rfl ?_
      refine ezs_get_i hI rfl rfl rfl rfl rfl rfl (fun u2 hu2 ku2 => ?_)
      refine ezw_aload_n rfl rfl ?_
      refine ezs_getp (p := 50) rfl rfl rfl rfl rfl ?_
      refine ezw_aload_n rfl rfl ?_
      refine ezs_getp (p := 25) rfl rfl rfl rfl rfl ?_
      refine ezw_iload_n rfl rfl ?_
      refine ezw_iconst (1) rfl rfl ?_
      refine ezs_isub rfl (fun u3 hu3 => ?_)
      refine ezw_call3_2 rfl (by omega) rfl rfl (ezs_m27_25 hI (by omega) hu3) ?_
      rintro _ _ ⟨rfl, u4, hu4, rfl⟩
      refine ezw_call3_2 rfl (by omega) rfl rfl (ezs_m27_50 hI (by omega) hu4) ?_
      rintro _ _ ⟨rfl, u5, hu5, rfl⟩
      refine ezw_icmp_eq rfl rfl hu2 hu5 (fun h38_5 => ?_) (fun h38_5 => ?_)
      · refine ezw_iload rfl rfl ?_
        refine ezw_aload_n rfl rfl ?_
        refine ezw_aload_n rfl rfl ?_
        refine ezw_iload_n rfl rfl ?_
        refine ezw_iload_n rfl rfl ?_
        refine ezw_iconst (1) rfl rfl ?_
        refine ezs_isub rfl (fun u6 hu6 => ?_)
        refine ezw_iconst (0) rfl rfl ?_
        refine ezw_iload rfl rfl ?_
        refine ezw_call0_5 rfl (by omega) (ezu_at rfl) rfl rfl rfl rfl (ezs_m149_23_47_l1 hI (by omega) (fun q h0 h1 => hzA q (by omega) (by omega)) ha2 (by omega) hu6 ⟨by decide, by decide⟩ ha5) ?_
        rintro _ _ ⟨⟨F, A, rfl, hI⟩, u7, hu7, rfl⟩
        refine ezw_call2_1 rfl (by omega) rfl rfl (ezs_m152 hI (by omega) hu7) ?_
        rintro _ _ ⟨rfl, u8, hu8, rfl⟩
        refine ezs_imul rfl (fun u9 hu9 => ?_)
        refine ezw_istore rfl rfl ?_
        refine ezw_iload rfl rfl ?_
        refine ezw_bipush (10) rfl rfl ?_
        refine ezw_icmp_ge rfl rfl ⟨by omega, by omega⟩ ⟨by decide, by decide⟩ (fun h67_9 => ?_) (fun h67_9 => ?_)
        · refine ezw_iload rfl rfl ?_
          refine ezw_bipush (10) rfl rfl ?_
          refine ezs_idiv rfl hu9 ⟨by decide, by decide⟩ (by omega) (fun u10 hu10 => ?_)
          exact ezw_ireturn rfl rfl ⟨⟨F, A, rfl, hI⟩, _, hu10, rfl⟩
        · refine ezw_iload rfl rfl ?_
          refine ezw_bipush (10) rfl rfl ?_
          refine ezw_iload rfl rfl ?_
          refine ezs_isub rfl (fun u11 hu11 => ?_)
          refine ezw_aload_n rfl rfl ?_
          refine ezw_aload_n rfl rfl ?_
          refine ezw_iload_n rfl rfl ?_
          refine ezw_iload_n rfl rfl ?_
          refine ezw_iload rfl rfl ?_
          refine ezw_iload rfl rfl ?_
          refine ezw_call0_5 rfl (by omega) (ezu_at rfl) rfl rfl rfl rfl (ezs_m149_23_47_l1 hI (by omega) (fun q h0 h1 => hzA q (by omega) (by omega)) ha2 (by omega) ha3 ha4 ha5) ?_
          rintro _ _ ⟨⟨F, A, rfl, hI⟩, u12, hu12, rfl⟩
          refine ezw_call2_1 rfl (by omega) rfl rfl (ezs_m152 hI (by omega) hu12) ?_
          rintro _ _ ⟨rfl, u13, hu13, rfl⟩
          refine ezs_imul rfl (fun u14 hu14 => ?_)
          refine ezs_iadd rfl (fun u15 hu15 => ?_)
          refine ezw_istore rfl rfl ?_
          refine ezw_iload rfl rfl ?_
          refine ezw_bipush (10) rfl rfl ?_
          refine ezs_idiv rfl hu15 ⟨by decide, by decide⟩ (by omega) (fun u16 hu16 => ?_)
          exact ezw_ireturn rfl rfl ⟨⟨F, A, rfl, hI⟩, _, hu16, rfl⟩
      · refine ezw_iconst (-1) rfl rfl ?_
        exact ezw_ireturn rfl rfl ⟨⟨F, A, rfl, hI⟩, _, ⟨by decide, by decide⟩, rfl⟩
theorem ezs_m151_23_47_l2 {a2 a3 a4 a5 a6 : Int} {F : Nat → Nat → Int} {A : Nat → Int → Int} (hI : ezs_I fz F0 A0 F A) (hd : 6 ≤ d) (hzA : ∀ q, 24 ≤ q → q < 25 → fz q = false) (ha2 : ezw_in a2) (ha3 : ezw_in a3) (ga3 : a3 ≤ 1) (ha4 : ezw_in a4) (ha5 : ezw_in a5) (ha6 : ezw_in a6) : ezw_C l ρ B xa Hb D cA 151 d [ezw_p 23, ezw_p 47, ezw_i a2, ezw_i a3, ezw_i a4, ezw_i a5, ezw_i a6] (ezu_g e F A) (ezs_P e fz F0 A0 ezs_ri) := by
  refine ezw_met (k := 7) rfl rfl ?_
  refine ezw_iload_n rfl rfl ?_
  refine ezw_iconst (1) rfl rfl ?_
  refine ezs_isub rfl (fun u1 hu1 => ?_)
  refine ezw_iconst (4) rfl rfl ?_
  refine ezs_irem rfl hu1 ⟨by decide, by decide⟩ (by omega) (fun u2 hu2 => ?_)
  refine ezw_istore rfl rfl ?_
  refine ezw_iload_n rfl rfl ?_
  refine ezw_iconst (5) rfl rfl ?_
  have J17_3 : ∀ y3 : Int, ezs_b y3 → ∀ F A, ezs_I fz F0 A0 F A → ezw_E l ρ B xa Hb D cA d ezq_re151 (ezs_P e fz F0 A0 ezs_ri) 17 [some (ezw_p 23), some (ezw_p 47), some (ezw_i a2), some (ezw_i a3), some (ezw_i a4), some (ezw_i a5), some (ezw_i a6), some (ezw_i u2), none, none, none, none, none, none] [(ezw_i y3)] (ezu_g e F A) := by
    intro y3 hy3 F A hI
    refine ezw_istore rfl rfl ?_
    refine ezw_aload_n rfl rfl ?_
    refine ezs_getp (p := 25) rfl rfl rfl rfl rfl ?_
    refine ezw_iload rfl rfl ?_
    refine ezw_iconst (1) rfl rfl ?_
    refine ezs_isub rfl (fun u5 hu5 => ?_)
    refine ezw_call3_2 rfl (by omega) rfl rfl (ezs_m27_25 hI (by omega) hu5) ?_
    rintro _ _ ⟨rfl, u6, hu6, rfl⟩
    refine ezw_istore rfl rfl ?_
    refine ezw_aload_n rfl rfl ?_
    refine ezw_iload rfl rfl ?_
    refine ezw_iload rfl rfl ?_
    refine ezw_iload rfl rfl ?_
    refine ezw_iload rfl rfl ?_
    refine ezw_call0_4 rfl (by omega) (ezu_at rfl) rfl rfl rfl rfl (ezs_m113_47 hI (by omega) hu6 ha5 hu2 ⟨by omega, by omega⟩) ?_
    rintro _ _ ⟨rfl, u7, hu7, rfl⟩
    refine ezw_istore rfl rfl ?_
    refine ezw_aload_n rfl rfl ?_
    refine ezw_iload rfl rfl ?_
    refine ezw_iload rfl rfl ?_
    refine ezw_iload rfl rfl ?_
    refine ezw_iload rfl rfl ?_
    refine ezw_call0_4 rfl (by omega) (ezu_at rfl) rfl rfl rfl rfl (ezs_m116_47 hI (by omega) hu6 ha5 hu2 ⟨by omega, by omega⟩) ?_
    rintro _ _ ⟨rfl, u8, hu8, rfl⟩
    refine ezw_istore rfl rfl ?_
    refine ezw_iconst (0) rfl rfl ?_
    refine ezw_istore rfl rfl ?_
    refine ezw_iload rfl rfl ?_
    have J95_9 : ∀ y9 : Int, ezw_in y9 → ∀ F A, ezs_I fz F0 A0 F A → ezw_E l ρ B xa Hb D cA d ezq_re151 (ezs_P e fz F0 A0 ezs_ri) 95 [some (ezw_p 23), some (ezw_p 47), some (ezw_i a2), some (ezw_i a3), some (ezw_i a4), some (ezw_i a5), some (ezw_i a6), some (ezw_i u2), some (ezw_i y3), some (ezw_i u6), some (ezw_i u7), some (ezw_i u8), some (ezw_i y9), none] [] (ezu_g e F A) := by
      intro y9 hy9 F A hI
      refine ezw_iload rfl rfl ?_
      refine ezw_bipush (10) rfl rfl ?_
      have J131_11 : ∀ y11 : Int, ezw_in y11 → ∀ F A, ezs_I fz F0 A0 F A → ezw_E l ρ B xa Hb D cA d ezq_re151 (ezs_P e fz F0 A0 ezs_ri) 131 [some (ezw_p 23), some (ezw_p 47), some (ezw_i a2), some (ezw_i a3), some (ezw_i a4), some (ezw_i a5), some (ezw_i a6), some (ezw_i u2), some (ezw_i y3), some (ezw_i u6), some (ezw_i u7), some (ezw_i u8), some (ezw_i y11), none] [] (ezu_g e F A) := by
        intro y11 hy11 F A hI
        refine ezw_iload rfl rfl ?_
        refine ezw_bipush (10) rfl rfl ?_
        refine ezw_icmp_ge rfl rfl hu7 ⟨by decide, by decide⟩ (fun h135_12 => ?_) (fun h135_12 => ?_)
        · refine ezw_iload rfl rfl ?_
          refine ezw_bipush (100) rfl rfl ?_
          refine ezs_idiv rfl hy11 ⟨by decide, by decide⟩ (by omega) (fun u13 hu13 => ?_)
          exact ezw_ireturn rfl rfl ⟨⟨F, A, rfl, hI⟩, _, hu13, rfl⟩
        · refine ezw_iload rfl rfl ?_
          refine ezw_bipush (10) rfl rfl ?_
          refine ezw_icmp_ge rfl rfl hu8 ⟨by decide, by decide⟩ (fun h142_13 => ?_) (fun h142_13 => ?_)
          · refine ezw_iload rfl rfl ?_
            refine ezw_bipush (100) rfl rfl ?_
            refine ezs_idiv rfl hy11 ⟨by decide, by decide⟩ (by omega) (fun u14 hu14 => ?_)
            exact ezw_ireturn rfl rfl ⟨⟨F, A, rfl, hI⟩, _, hu14, rfl⟩
          · refine ezw_bipush (9) rfl rfl ?_
            refine ezw_iload rfl rfl ?_
            refine ezw_iload rfl rfl ?_
            have J159_15 : ∀ y15 : Int, ezw_in y15 → ∀ F A, ezs_I fz F0 A0 F A → ezw_E l ρ B xa Hb D cA d ezq_re151 (ezs_P e fz F0 A0 ezs_ri) 159 [some (ezw_p 23), some (ezw_p 47), some (ezw_i a2), some (ezw_i a3), some (ezw_i a4), some (ezw_i a5), some (ezw_i a6), some (ezw_i u2), some (ezw_i y3), some (ezw_i u6), some (ezw_i u7), some (ezw_i u8), some (ezw_i y11), none] [(ezw_i y15), (ezw_i a5), (ezw_i (9))] (ezu_g e F A) := by
              intro y15 hy15 F A hI
              refine ezs_iadd rfl (fun u17 hu17 => ?_)
              refine ezw_mminE rfl ⟨by decide, by decide⟩ hu17 rfl (fun u18 hu18 => ?_)
              refine ezw_istore rfl rfl ?_
              refine ezw_iload rfl rfl ?_
              refine ezw_bipush (10) rfl rfl ?_
              refine ezw_iload rfl rfl ?_
              refine ezs_isub rfl (fun u19 hu19 => ?_)
              refine ezw_bipush (10) rfl rfl ?_
              refine ezw_iload rfl rfl ?_
              refine ezs_isub rfl (fun u20 hu20 => ?_)
              refine ezs_imul rfl (fun u21 hu21 => ?_)
              refine ezw_aload_n rfl rfl ?_
              refine ezw_aload_n rfl rfl ?_
              refine ezw_iload_n rfl rfl ?_
              refine ezw_iload rfl rfl ?_
              refine ezw_iload rfl rfl ?_
              refine ezw_iload rfl rfl ?_
              refine ezw_call0_5 rfl (by omega) (ezu_at rfl) rfl rfl rfl rfl (ezs_m149_23_47_l1 hI (by omega) (fun q h0 h1 => hzA q (by omega) (by omega)) ha3 (by omega) ha4 ⟨by omega, by omega⟩ ha6) ?_
              rintro _ _ ⟨⟨F, A, rfl, hI⟩, u22, hu22, rfl⟩
              refine ezw_call2_1 rfl (by omega) rfl rfl (ezs_m152 hI (by omega) hu22) ?_
              rintro _ _ ⟨rfl, u23, hu23, rfl⟩
              refine ezs_imul rfl (fun u24 hu24 => ?_)
              refine ezs_iadd rfl (fun u25 hu25 => ?_)
              refine ezw_istore rfl rfl ?_
              refine ezw_iload rfl rfl ?_
              refine ezw_bipush (100) rfl rfl ?_
              refine ezs_idiv rfl hu25 ⟨by decide, by decide⟩ (by omega) (fun u26 hu26 => ?_)
              exact ezw_ireturn rfl rfl ⟨⟨F, A, rfl, hI⟩, _, hu26, rfl⟩
            refine ezw_if_eq rfl rfl ⟨by omega, by omega⟩ (fun h151_14 => ?_) (fun h151_14 => ?_)
            · refine ezw_iconst (1) rfl rfl ?_
              exact ezw_keepE [true, true, true, true, true, true, true, true, true, true, true, true, true, false] (J159_15 (1) ⟨by decide, by decide⟩ F A hI)
            · refine ezw_iconst (2) rfl rfl ?_
              refine ezw_goto rfl rfl ?_
              exact ezw_keepE [true, true, true, true, true, true, true, true, true, true, true, true, true, false] (J159_15 (2) ⟨by decide, by decide⟩ F A hI)
      refine ezw_icmp_ge rfl rfl hu7 ⟨by decide, by decide⟩ (fun h99_10 => ?_) (fun h99_10 => ?_)
      · exact ezw_keepE [true, true, true, true, true, true, true, true, true, true, true, true, true, false] (J131_11 y9 hy9 F A hI)
      · refine ezw_iload rfl rfl ?_
        refine ezw_if_le rfl rfl hu8 (fun h104_26 => ?_) (fun h104_26 => ?_)
        · exact ezw_keepE [true, true, true, true, true, true, true, true, true, true, true, true, true, false] (J131_11 y9 hy9 F A hI)
        · refine ezw_iload rfl rfl ?_
          refine ezw_bipush (10) rfl rfl ?_
          refine ezw_iload rfl rfl ?_
          refine ezs_isub rfl (fun u27 hu27 => ?_)
          refine ezw_iload rfl rfl ?_
          refine ezs_imul rfl (fun u28 hu28 => ?_)
          refine ezw_sipush (1000) rfl rfl ?_
          refine ezs_imul rfl (fun u29 hu29 => ?_)
          refine ezw_aload_n rfl rfl ?_
          refine ezw_iload rfl rfl ?_
          refine ezw_call0_1 rfl (by omega) (ezu_at rfl) rfl rfl rfl rfl (ezs_m144_47 hI (by omega) ha6) ?_
          rintro _ _ ⟨rfl, u30, hu30, rfl⟩
          refine ezs_imul rfl (fun u31 hu31 => ?_)
          refine ezs_iadd rfl (fun u32 hu32 => ?_)
          refine ezw_istore rfl rfl ?_
          exact ezw_keepE [true, true, true, true, true, true, true, true, true, true, true, true, true, false] (J131_11 u32 hu32 F A hI)
    refine ezw_if_le rfl rfl hu7 (fun h65_8 => ?_) (fun h65_8 => ?_)
    · exact ezw_keepE [true, true, true, true, true, true, true, true, true, true, true, true, true, false] (J95_9 (0) ⟨by decide, by decide⟩ F A hI)
    · refine ezw_iload rfl rfl ?_
      refine ezw_bipush (10) rfl rfl ?_
      refine ezw_iload rfl rfl ?_
      refine ezs_imul rfl (fun u33 hu33 => ?_)
      refine ezw_aload_n rfl rfl ?_
      refine ezw_aload_n rfl rfl ?_
      refine ezw_iload_n rfl rfl ?_
      refine ezw_iload rfl rfl ?_
      refine ezw_iconst (1) rfl rfl ?_
      refine ezs_isub rfl (fun u34 hu34 => ?_)
      refine ezw_iconst (0) rfl rfl ?_
      refine ezw_iload rfl rfl ?_
      refine ezw_call0_5 rfl (by omega) (ezu_at rfl) rfl rfl rfl rfl (ezs_m149_23_47_l1 hI (by omega) (fun q h0 h1 => hzA q (by omega) (by omega)) ha3 (by omega) hu34 ⟨by decide, by decide⟩ ha6) ?_
      rintro _ _ ⟨⟨F, A, rfl, hI⟩, u35, hu35, rfl⟩
      refine ezw_call2_1 rfl (by omega) rfl rfl (ezs_m152 hI (by omega) hu35) ?_
      rintro _ _ ⟨rfl, u36, hu36, rfl⟩
      refine ezs_imul rfl (fun u37 hu37 => ?_)
      refine ezs_iadd rfl (fun u38 hu38 => ?_)
      refine ezw_istore rfl rfl ?_
      exact ezw_keepE [true, true, true, true, true, true, true, true, true, true, true, true, true, false] (J95_9 u38 hu38 F A hI)
  refine ezw_icmp_lt rfl rfl ha2 ⟨by decide, by decide⟩ (fun h9_2 => ?_) (fun h9_2 => ?_)
  · refine ezw_iconst (0) rfl rfl ?_
    exact ezw_keepE [true, true, true, true, true, true, true, true, false, false, false, false, false, false] (J17_3 (0) ⟨by omega, by omega⟩ F A hI)
  · refine ezw_iconst (1) rfl rfl ?_
    refine ezw_goto rfl rfl ?_
    exact ezw_keepE [true, true, true, true, true, true, true, true, false, false, false, false, false, false] (J17_3 (1) ⟨by omega, by omega⟩ F A hI)
theorem ezs_m150_23_47_l2 {a2 a3 a4 a5 a6 : Int} {F : Nat → Nat → Int} {A : Nat → Int → Int} (hI : ezs_I fz F0 A0 F A) (hd : 7 ≤ d) (hzA : ∀ q, 24 ≤ q → q < 25 → fz q = false) (ha2 : ezw_in a2) (ha3 : ezw_in a3) (ga3 : a3 ≤ 1) (ha4 : ezw_in a4) (ha5 : ezw_in a5) (ha6 : ezw_in a6) : ezw_C l ρ B xa Hb D cA 150 d [ezw_p 23, ezw_p 47, ezw_i a2, ezw_i a3, ezw_i a4, ezw_i a5, ezw_i a6] (ezu_g e F A) (ezs_P e fz F0 A0 ezs_ri) := by
  refine ezw_met (k := 0) rfl rfl ?_
  refine ezw_iload_n rfl rfl ?_
  refine ezw_bipush (9) rfl rfl ?_
  refine ezw_icmp_ge rfl rfl ha2 ⟨by decide, by decide⟩ (fun h3_0 => ?_) (fun h3_0 => ?_)
  · refine ezw_iload_n rfl rfl ?_
    refine ezw_bipush (9) rfl rfl ?_
    refine ezw_icmp_ne rfl rfl ha2 ⟨by decide, by decide⟩ (fun h23_0 => ?_) (fun h23_0 => ?_)
    · refine ezw_iload_n rfl rfl ?_
      refine ezw_bipush (10) rfl rfl ?_
      refine ezw_icmp_ne rfl rfl ha2 ⟨by decide, by decide⟩ (fun h56_0 => ?_) (fun h56_0 => ?_)
      · refine ezw_aload_n rfl rfl ?_
        refine ezw_aload_n rfl rfl ?_
        refine ezw_iload_n rfl rfl ?_
        refine ezw_bipush (11) rfl rfl ?_
        refine ezs_isub rfl (fun u1 hu1 => ?_)
        refine ezw_iload_n rfl rfl ?_
        refine ezw_iload rfl rfl ?_
        refine ezw_iload rfl rfl ?_
        refine ezw_iload rfl rfl ?_
        refine ezw_call0_6 rfl (by omega) (ezu_at rfl) rfl rfl rfl rfl (ezs_m154_23_47_l2 hI (by omega) (fun q h0 h1 => hzA q (by omega) (by omega)) hu1 ha3 (by omega) ha4 ha5 ha6) ?_
        rintro _ _ ⟨⟨F, A, rfl, hI⟩, u2, hu2, rfl⟩
        exact ezw_ireturn rfl rfl ⟨⟨F, A, rfl, hI⟩, _, hu2, rfl⟩
      · refine ezw_aload_n rfl rfl ?_
        refine ezw_aload_n rfl rfl ?_
        refine ezw_iload_n rfl rfl ?_
        refine ezw_iload rfl rfl ?_
        refine ezw_iload rfl rfl ?_
        refine ezw_iload rfl rfl ?_
        refine ezw_call0_5 rfl (by omega) (ezu_at rfl) rfl rfl rfl rfl (ezs_m153_23_47_l2 hI (by omega) (fun q h0 h1 => hzA q (by omega) (by omega)) ha3 (by omega) ha4 ha5 ha6) ?_
        rintro _ _ ⟨⟨F, A, rfl, hI⟩, u3, hu3, rfl⟩
        exact ezw_ireturn rfl rfl ⟨⟨F, A, rfl, hI⟩, _, hu3, rfl⟩
    · refine ezw_iload rfl rfl ?_
      refine ezw_if_le rfl rfl ha5 (fun h28_3 => ?_) (fun h28_3 => ?_)
      · refine ezw_iconst (-1) rfl rfl ?_
        exact ezw_ireturn rfl rfl ⟨⟨F, A, rfl, hI⟩, _, ⟨by decide, by decide⟩, rfl⟩
      · refine ezw_aload_n rfl rfl ?_
        refine ezw_aload_n rfl rfl ?_
        refine ezw_iload_n rfl rfl ?_
        refine ezw_iload rfl rfl ?_
        refine ezw_iload rfl rfl ?_
        refine ezw_iconst (1) rfl rfl ?_
        refine ezs_isub rfl (fun u4 hu4 => ?_)
        refine ezw_iload rfl rfl ?_
        refine ezw_call0_5 rfl (by omega) (ezu_at rfl) rfl rfl rfl rfl (ezs_m149_23_47_l1 hI (by omega) (fun q h0 h1 => hzA q (by omega) (by omega)) ha3 (by omega) ha4 hu4 ha6) ?_
        rintro _ _ ⟨⟨F, A, rfl, hI⟩, u5, hu5, rfl⟩
        refine ezw_call2_1 rfl (by omega) rfl rfl (ezs_m152 hI (by omega) hu5) ?_
        rintro _ _ ⟨rfl, u6, hu6, rfl⟩
        refine ezw_goto rfl rfl ?_
        exact ezw_ireturn rfl rfl ⟨⟨F, A, rfl, hI⟩, _, hu6, rfl⟩
  · refine ezw_aload_n rfl rfl ?_
    refine ezw_aload_n rfl rfl ?_
    refine ezw_iload_n rfl rfl ?_
    refine ezw_iload_n rfl rfl ?_
    refine ezw_iload rfl rfl ?_
    refine ezw_iload rfl rfl ?_
    refine ezw_iload rfl rfl ?_
    refine ezw_call0_6 rfl (by omega) (ezu_at rfl) rfl rfl rfl rfl (ezs_m151_23_47_l2 hI (by omega) (fun q h0 h1 => hzA q (by omega) (by omega)) ha2 ha3 (by omega) ha4 ha5 ha6) ?_
    rintro _ _ ⟨⟨F, A, rfl, hI⟩, u7, hu7, rfl⟩
    exact ezw_ireturn rfl rfl ⟨⟨F, A, rfl, hI⟩, _, hu7, rfl⟩
theorem ezs_m149_23_47_l2 {a2 a3 a4 a5 : Int} {F : Nat → Nat → Int} {A : Nat → Int → Int} (hI : ezs_I fz F0 A0 F A) (hd : 8 ≤ d) (hzA : ∀ q, 24 ≤ q → q < 25 → fz q = false) (ha2 : ezw_in a2) (ga2 : a2 ≤ 2) (ha3 : ezw_in a3) (ha4 : ezw_in a4) (ha5 : ezw_in a5) : ezw_C l ρ B xa Hb D cA 149 d [ezw_p 23, ezw_p 47, ezw_i a2, ezw_i a3, ezw_i a4, ezw_i a5] (ezu_g e F A) (ezs_P e fz F0 A0 ezs_ri) := by
  refine ezw_met (k := 5) rfl rfl ?_
  refine ezw_sipush (1000) rfl rfl ?_
  refine ezw_aload_n rfl rfl ?_
  refine ezw_iload rfl rfl ?_
  refine ezw_call0_1 rfl (by omega) (ezu_at rfl) rfl rfl rfl rfl (ezs_m144_47 hI (by omega) ha5) ?_
  rintro _ _ ⟨rfl, u1, hu1, rfl⟩
  refine ezw_iload_n rfl rfl ?_
  have J21_2 : ∀ y2 : Int, ezw_in y2 → ∀ F A, ezs_I fz F0 A0 F A → ezw_E l ρ B xa Hb D cA d ezq_re149 (ezs_P e fz F0 A0 ezs_ri) 21 [some (ezw_p 23), some (ezw_p 47), some (ezw_i a2), some (ezw_i a3), some (ezw_i a4), some (ezw_i a5), none, none, none, none, none] [(ezw_i y2), (ezw_i u1), (ezw_i (1000))] (ezu_g e F A) := by
    intro y2 hy2 F A hI
    refine ezs_iadd rfl (fun u4 hu4 => ?_)
    refine ezs_imul rfl (fun u5 hu5 => ?_)
    refine ezw_istore rfl rfl ?_
    refine ezw_iconst (0) rfl rfl ?_
    refine ezw_istore rfl rfl ?_
    refine ezw_iload_n rfl rfl ?_
    refine ezw_if_le rfl rfl ha2 (fun h29_5 => ?_) (fun h29_5 => ?_)
    · refine ezw_iload rfl rfl ?_
      refine ezw_bipush (16) rfl rfl ?_
      refine ezs_imul rfl (fun u6 hu6 => ?_)
      refine ezw_iload rfl rfl ?_
      refine ezs_iadd rfl (fun u7 hu7 => ?_)
      exact ezw_ireturn rfl rfl ⟨⟨F, A, rfl, hI⟩, _, hu7, rfl⟩
    · refine ezw_iload_n rfl rfl ?_
      refine ezw_if_gt rfl rfl ha3 (fun h33_7 => ?_) (fun h33_7 => ?_)
      · refine ezw_iload_n rfl rfl ?_
        refine ezw_iconst (1) rfl rfl ?_
        refine ezs_isub rfl (fun u8 hu8 => ?_)
        refine ezw_bipush (6) rfl rfl ?_
        refine ezs_imul rfl (fun u9 hu9 => ?_)
        refine ezw_iload_n rfl rfl ?_
        refine ezs_iadd rfl (fun u10 hu10 => ?_)
        refine ezw_iconst (1) rfl rfl ?_
        refine ezs_isub rfl (fun u11 hu11 => ?_)
        refine ezw_bipush (10) rfl rfl ?_
        refine ezs_imul rfl (fun u12 hu12 => ?_)
        refine ezw_iload rfl rfl ?_
        refine ezs_iadd rfl (fun u13 hu13 => ?_)
        refine ezw_bipush (16) rfl rfl ?_
        refine ezs_imul rfl (fun u14 hu14 => ?_)
        refine ezw_iload rfl rfl ?_
        refine ezs_iadd rfl (fun u15 hu15 => ?_)
        refine ezw_istore rfl rfl ?_
        refine ezw_aload_n rfl rfl ?_
        refine ezs_getp (p := 24) rfl rfl rfl rfl rfl ?_
        refine ezw_iload rfl rfl ?_
        refine ezw_call3_2 rfl (by omega) rfl rfl (ezs_m27_24 hI (by omega) hu15) ?_
        rintro _ _ ⟨rfl, u16, hu16, rfl⟩
        refine ezw_iconst (-1) rfl rfl ?_
        refine ezw_icmp_eq rfl rfl hu16 ⟨by decide, by decide⟩ (fun h79_16 => ?_) (fun h79_16 => ?_)
        · refine ezw_iconst (1) rfl rfl ?_
          refine ezw_istore rfl rfl ?_
          have L95_19 : ∀ c19 : Int, ezw_in c19 → (1) ≤ c19 → ∀ y17 : Int, ezw_in y17 → ∀ y18 : Int, ezw_in y18 → ∀ F A, ezs_I fz F0 A0 F A → ezw_E l ρ B xa Hb D cA d ezq_re149 (ezs_P e fz F0 A0 ezs_ri) 95 [some (ezw_p 23), some (ezw_p 47), some (ezw_i a2), some (ezw_i a3), some (ezw_i a4), some (ezw_i a5), some (ezw_i y17), some (ezw_i y18), some (ezw_i u15), some (ezw_i c19), none] [] (ezu_g e F A) := by
            refine ezs_up ?_
            intro c19 hc19 ihc19 gc19 y17 hy17 y18 hy18 F A hI
            refine ezw_iload rfl rfl ?_
            refine ezw_bipush (15) rfl rfl ?_
            have J140_23 : ∀ y21 : Int, ezw_in y21 → ∀ y22 : Int, ezw_in y22 → ∀ y23 : Int, ezw_in y23 → ∀ F A, ezs_I fz F0 A0 F A → ezw_E l ρ B xa Hb D cA d ezq_re149 (ezs_P e fz F0 A0 ezs_ri) 140 [some (ezw_p 23), some (ezw_p 47), some (ezw_i a2), some (ezw_i a3), some (ezw_i a4), some (ezw_i a5), some (ezw_i y21), some (ezw_i y22), some (ezw_i u15), some (ezw_i y23), none] [] (ezu_g e F A) := by
              intro y21 hy21 y22 hy22 y23 hy23 F A hI
              refine ezw_aload_n rfl rfl ?_
              refine ezs_getp (p := 24) rfl rfl rfl rfl rfl ?_
              refine ezw_iload rfl rfl ?_
              refine ezw_iload rfl rfl ?_
              refine ezw_bipush (16) rfl rfl ?_
              refine ezs_imul rfl (fun u25 hu25 => ?_)
              refine ezw_iload rfl rfl ?_
              refine ezs_iadd rfl (fun u26 hu26 => ?_)
              refine ezw_call3_3 rfl (by omega) rfl rfl (ezs_m21_24 hI (by omega) (fun q h0 h1 => hzA q (by omega) (by omega)) hu15 hu26) ?_
              rintro _ _ ⟨⟨F, A, rfl, hI⟩, rfl⟩
              refine ezw_iload rfl rfl ?_
              refine ezw_bipush (16) rfl rfl ?_
              refine ezs_imul rfl (fun u27 hu27 => ?_)
              refine ezw_iload rfl rfl ?_
              refine ezs_iadd rfl (fun u28 hu28 => ?_)
              exact ezw_ireturn rfl rfl ⟨⟨F, A, rfl, hI⟩, _, hu28, rfl⟩
            refine ezw_icmp_ge rfl rfl hc19 ⟨by decide, by decide⟩ (fun h99_20 => ?_) (fun h99_20 => ?_)
            · exact ezw_keepE [true, true, true, true, true, true, true, true, true, true, false] (J140_23 y17 hy17 y18 hy18 c19 hc19 F A hI)
            · refine ezw_aload_n rfl rfl ?_
              refine ezw_aload_n rfl rfl ?_
              refine ezw_iload rfl rfl ?_
              refine ezw_iload_n rfl rfl ?_
              refine ezw_iconst (1) rfl rfl ?_
              refine ezw_isub rfl rfl ?_
              refine ezw_iload_n rfl rfl ?_
              refine ezw_iload rfl rfl ?_
              refine ezw_iload rfl rfl ?_
              refine ezw_call0_6 rfl (by omega) (ezu_at rfl) rfl rfl rfl rfl (ezs_m150_23_47_l2 hI (by omega) (fun q h0 h1 => hzA q (by omega) (by omega)) hc19 ⟨by omega, by omega⟩ (by omega) ha3 ha4 ha5) ?_
              rintro _ _ ⟨⟨F, A, rfl, hI⟩, u29, hu29, rfl⟩
              refine ezw_istore rfl rfl ?_
              refine ezw_iload rfl rfl ?_
              refine ezw_iload rfl rfl ?_
              refine ezw_icmp_le rfl rfl hu29 hy17 (fun h123_29 => ?_) (fun h123_29 => ?_)
              · refine ezw_iinc (1) rfl rfl rfl rfl rfl ?_
                refine ezw_goto rfl rfl ?_
                exact ezw_keepE [true, true, true, true, true, true, true, true, true, true, false] (ihc19 (c19 + (1)) (by omega) ⟨by omega, by omega⟩ (by omega) y17 hy17 y18 hy18 F A hI)
              · refine ezw_iload rfl rfl ?_
                refine ezw_istore rfl rfl ?_
                refine ezw_iload rfl rfl ?_
                refine ezw_istore rfl rfl ?_
                refine ezw_iinc (1) rfl rfl rfl rfl rfl ?_
                refine ezw_goto rfl rfl ?_
                exact ezw_keepE [true, true, true, true, true, true, true, true, true, true, false] (ihc19 (c19 + (1)) (by omega) ⟨by omega, by omega⟩ (by omega) u29 hu29 c19 hc19 F A hI)
          exact ezw_keepE [true, true, true, true, true, true, true, true, true, true, false] (L95_19 (1) ⟨by decide, by decide⟩ (by omega) u5 hu5 (0) ⟨by decide, by decide⟩ F A hI)
        · refine ezw_aload_n rfl rfl ?_
          refine ezs_getp (p := 24) rfl rfl rfl rfl rfl ?_
          refine ezw_iload rfl rfl ?_
          refine ezw_call3_2 rfl (by omega) rfl rfl (ezs_m27_24 hI (by omega) hu15) ?_
          rintro _ _ ⟨rfl, u30, hu30, rfl⟩
          exact ezw_ireturn rfl rfl ⟨⟨F, A, rfl, hI⟩, _, hu30, rfl⟩
      · refine ezw_iload rfl rfl ?_
        refine ezw_bipush (16) rfl rfl ?_
        refine ezs_imul rfl (fun u31 hu31 => ?_)
        refine ezw_iload rfl rfl ?_
        refine ezs_iadd rfl (fun u32 hu32 => ?_)
        exact ezw_ireturn rfl rfl ⟨⟨F, A, rfl, hI⟩, _, hu32, rfl⟩
  refine ezw_if_le rfl rfl ha3 (fun h10_1 => ?_) (fun h10_1 => ?_)
  · refine ezw_aload_n rfl rfl ?_
    refine ezs_get_i hI rfl rfl rfl rfl rfl rfl (fun u33 hu33 ku33 => ?_)
    exact ezw_keepE [true, true, true, true, true, true, false, false, false, false, false] (J21_2 u33 hu33 F A hI)
  · refine ezw_iconst (0) rfl rfl ?_
    refine ezw_goto rfl rfl ?_
    exact ezw_keepE [true, true, true, true, true, true, false, false, false, false, false] (J21_2 (0) ⟨by decide, by decide⟩ F A hI)
theorem ezs_m154_23_47_l3 {a2 a3 a4 a5 a6 : Int} {F : Nat → Nat → Int} {A : Nat → Int → Int} (hI : ezs_I fz F0 A0 F A) (hd : 9 ≤ d) (hzA : ∀ q, 24 ≤ q → q < 25 → fz q = false) (ha2 : ezw_in a2) (ha3 : ezw_in a3) (ga3 : a3 ≤ 2) (ha4 : ezw_in a4) (ha5 : ezw_in a5) (ha6 : ezw_in a6) : ezw_C l ρ B xa Hb D cA 154 d [ezw_p 23, ezw_p 47, ezw_i a2, ezw_i a3, ezw_i a4, ezw_i a5, ezw_i a6] (ezu_g e F A) (ezs_P e fz F0 A0 ezs_ri) := by
  refine ezw_met (k := 3) rfl rfl ?_
  refine ezw_iload rfl rfl ?_
  refine ezw_iload_n rfl rfl ?_
  refine ezw_call3_2 rfl (by omega) rfl rfl (ezs_m49 hI (by omega) ha6 ha2) ?_
  rintro _ _ ⟨rfl, u1, hu1, rfl⟩
  refine ezw_if_ne rfl rfl hu1 (fun h6_1 => ?_) (fun h6_1 => ?_)
  · refine ezw_aload_n rfl rfl ?_
    refine ezs_getp (p := 53) rfl rfl rfl rfl rfl ?_
    refine ezw_iload_n rfl rfl ?_
    refine ezw_call3_2 rfl (by omega) rfl rfl (ezs_m27_53 hI (by omega) ha2) ?_
    rintro _ _ ⟨rfl, u2, hu2, rfl⟩
    refine ezw_istore rfl rfl ?_
    refine ezw_aload_n rfl rfl ?_
    refine ezs_getp (p := 54) rfl rfl rfl rfl rfl ?_
    refine ezw_iload_n rfl rfl ?_
    refine ezw_call3_2 rfl (by omega) rfl rfl (ezs_m27_54 hI (by omega) ha2) ?_
    rintro _ _ ⟨rfl, u3, hu3, rfl⟩
    refine ezw_istore rfl rfl ?_
    refine ezw_iconst (0) rfl rfl ?_
    refine ezw_istore rfl rfl ?_
    refine ezw_iload rfl rfl ?_
    have J68_4 : ∀ y4 : Int, ezw_in y4 → ∀ F A, ezs_I fz F0 A0 F A → ezw_E l ρ B xa Hb D cA d ezq_re154 (ezs_P e fz F0 A0 ezs_ri) 68 [some (ezw_p 23), some (ezw_p 47), some (ezw_i a2), some (ezw_i a3), some (ezw_i a4), some (ezw_i a5), some (ezw_i a6), some (ezw_i u2), some (ezw_i u3), some (ezw_i y4)] [] (ezu_g e F A) := by
      intro y4 hy4 F A hI
      refine ezw_iload rfl rfl ?_
      have J97_6 : ∀ y6 : Int, ezw_in y6 → ∀ F A, ezs_I fz F0 A0 F A → ezw_E l ρ B xa Hb D cA d ezq_re154 (ezs_P e fz F0 A0 ezs_ri) 97 [some (ezw_p 23), some (ezw_p 47), some (ezw_i a2), some (ezw_i a3), some (ezw_i a4), some (ezw_i a5), some (ezw_i a6), some (ezw_i u2), some (ezw_i u3), some (ezw_i y6)] [] (ezu_g e F A) := by
        intro y6 hy6 F A hI
        refine ezw_iload rfl rfl ?_
        refine ezw_iload rfl rfl ?_
        refine ezs_iadd rfl (fun u8 hu8 => ?_)
        refine ezw_bipush (10) rfl rfl ?_
        refine ezw_icmp_ge rfl rfl hu8 ⟨by decide, by decide⟩ (fun h104_8 => ?_) (fun h104_8 => ?_)
        · refine ezw_iload rfl rfl ?_
          refine ezw_bipush (10) rfl rfl ?_
          refine ezs_idiv rfl hy6 ⟨by decide, by decide⟩ (by omega) (fun u9 hu9 => ?_)
          exact ezw_ireturn rfl rfl ⟨⟨F, A, rfl, hI⟩, _, hu9, rfl⟩
        · refine ezw_iload rfl rfl ?_
          refine ezw_bipush (10) rfl rfl ?_
          refine ezw_iload rfl rfl ?_
          refine ezs_isub rfl (fun u10 hu10 => ?_)
          refine ezw_iload rfl rfl ?_
          refine ezs_isub rfl (fun u11 hu11 => ?_)
          refine ezw_aload_n rfl rfl ?_
          refine ezw_aload_n rfl rfl ?_
          refine ezw_iload_n rfl rfl ?_
          refine ezw_iload rfl rfl ?_
          refine ezw_iload rfl rfl ?_
          refine ezw_iload rfl rfl ?_
          refine ezw_call0_5 rfl (by omega) (ezu_at rfl) rfl rfl rfl rfl (ezs_m149_23_47_l2 hI (by omega) (fun q h0 h1 => hzA q (by omega) (by omega)) ha3 (by omega) ha4 ha5 ha6) ?_
          rintro _ _ ⟨⟨F, A, rfl, hI⟩, u12, hu12, rfl⟩
          refine ezw_call2_1 rfl (by omega) rfl rfl (ezs_m152 hI (by omega) hu12) ?_
          rintro _ _ ⟨rfl, u13, hu13, rfl⟩
          refine ezs_imul rfl (fun u14 hu14 => ?_)
          refine ezs_iadd rfl (fun u15 hu15 => ?_)
          refine ezw_istore rfl rfl ?_
          refine ezw_iload rfl rfl ?_
          refine ezw_bipush (10) rfl rfl ?_
          refine ezs_idiv rfl hu15 ⟨by decide, by decide⟩ (by omega) (fun u16 hu16 => ?_)
          exact ezw_ireturn rfl rfl ⟨⟨F, A, rfl, hI⟩, _, hu16, rfl⟩
      refine ezw_if_le rfl rfl hu3 (fun h70_5 => ?_) (fun h70_5 => ?_)
      · exact ezw_keepE [true, true, true, true, true, true, true, true, true, true] (J97_6 y4 hy4 F A hI)
      · refine ezw_iload rfl rfl ?_
        refine ezw_iload rfl rfl ?_
        refine ezw_aload_n rfl rfl ?_
        refine ezw_aload_n rfl rfl ?_
        refine ezw_iload_n rfl rfl ?_
        refine ezw_iload rfl rfl ?_
        refine ezw_iconst (1) rfl rfl ?_
        refine ezs_isub rfl (fun u17 hu17 => ?_)
        refine ezw_iconst (0) rfl rfl ?_
        refine ezw_iload rfl rfl ?_
        refine ezw_call0_5 rfl (by omega) (ezu_at rfl) rfl rfl rfl rfl (ezs_m149_23_47_l2 hI (by omega) (fun q h0 h1 => hzA q (by omega) (by omega)) ha3 (by omega) hu17 ⟨by decide, by decide⟩ ha6) ?_
        rintro _ _ ⟨⟨F, A, rfl, hI⟩, u18, hu18, rfl⟩
        refine ezw_call2_1 rfl (by omega) rfl rfl (ezs_m152 hI (by omega) hu18) ?_
        rintro _ _ ⟨rfl, u19, hu19, rfl⟩
        refine ezs_imul rfl (fun u20 hu20 => ?_)
        refine ezs_iadd rfl (fun u21 hu21 => ?_)
        refine ezw_istore rfl rfl ?_
        exact ezw_keepE [true, true, true, true, true, true, true, true, true, true] (J97_6 u21 hu21 F A hI)
    refine ezw_if_le rfl rfl hu2 (fun h36_3 => ?_) (fun h36_3 => ?_)
    · exact ezw_keepE [true, true, true, true, true, true, true, true, true, true] (J68_4 (0) ⟨by decide, by decide⟩ F A hI)
    · refine ezw_iload rfl rfl ?_
      refine ezw_iload rfl rfl ?_
      refine ezw_aload_n rfl rfl ?_
      refine ezw_aload_n rfl rfl ?_
      refine ezw_iload_n rfl rfl ?_
      refine ezw_iload rfl rfl ?_
      refine ezw_iload rfl rfl ?_
      refine ezw_iload rfl rfl ?_
      refine ezw_iconst (1) rfl rfl ?_
      refine ezw_iload_n rfl rfl ?_
      refine ezw_ishlO rfl (fun u22 hu22 => ?_)
      refine ezw_iconst (-1) rfl rfl ?_
      refine ezs_ixor rfl (fun u23 hu23 => ?_)
      refine ezs_iand rfl (fun u24 hu24 => ?_)
      refine ezw_call0_5 rfl (by omega) (ezu_at rfl) rfl rfl rfl rfl (ezs_m149_23_47_l2 hI (by omega) (fun q h0 h1 => hzA q (by omega) (by omega)) ha3 (by omega) ha4 ha5 hu24) ?_
      rintro _ _ ⟨⟨F, A, rfl, hI⟩, u25, hu25, rfl⟩
      refine ezw_call2_1 rfl (by omega) rfl rfl (ezs_m152 hI (by omega) hu25) ?_
      rintro _ _ ⟨rfl, u26, hu26, rfl⟩
      refine ezs_imul rfl (fun u27 hu27 => ?_)
      refine ezs_iadd rfl (fun u28 hu28 => ?_)
      refine ezw_istore rfl rfl ?_
      exact ezw_keepE [true, true, true, true, true, true, true, true, true, true] (J68_4 u28 hu28 F A hI)
  · refine ezw_iconst (-1) rfl rfl ?_
    exact ezw_ireturn rfl rfl ⟨⟨F, A, rfl, hI⟩, _, ⟨by decide, by decide⟩, rfl⟩
theorem ezs_m153_23_47_l3 {a2 a3 a4 a5 : Int} {F : Nat → Nat → Int} {A : Nat → Int → Int} (hI : ezs_I fz F0 A0 F A) (hd : 9 ≤ d) (hzA : ∀ q, 24 ≤ q → q < 25 → fz q = false) (ha2 : ezw_in a2) (ga2 : a2 ≤ 2) (ha3 : ezw_in a3) (ha4 : ezw_in a4) (ha5 : ezw_in a5) : ezw_C l ρ B xa Hb D cA 153 d [ezw_p 23, ezw_p 47, ezw_i a2, ezw_i a3, ezw_i a4, ezw_i a5] (ezu_g e F A) (ezs_P e fz F0 A0 ezs_ri) := by
  refine ezw_met (k := 2) rfl rfl ?_
  refine ezw_aload_n rfl rfl ?_
  refine ezw_iconst (5) rfl rfl ?_
  refine ezw_call0_1 rfl (by omega) (ezu_at rfl) rfl rfl rfl rfl (ezs_m95_47 hI (by omega) ⟨by decide, by decide⟩) ?_
  rintro _ _ ⟨rfl, u1, hu1, rfl⟩
  refine ezw_istore rfl rfl ?_
  refine ezw_iload rfl rfl ?_
  refine ezw_if_gt rfl rfl ha4 (fun h9_1 => ?_) (fun h9_1 => ?_)
  · refine ezw_iconst (-1) rfl rfl ?_
    exact ezw_ireturn rfl rfl ⟨⟨F, A, rfl, hI⟩, _, ⟨by decide, by decide⟩, rfl⟩
  · refine ezw_iload rfl rfl ?_
    refine ezw_if_le rfl rfl ⟨by omega, by omega⟩ (fun h14_1 => ?_) (fun h14_1 => ?_)
    · refine ezw_iconst (-1) rfl rfl ?_
      exact ezw_ireturn rfl rfl ⟨⟨F, A, rfl, hI⟩, _, ⟨by decide, by decide⟩, rfl⟩
    · refine ezw_aload_n rfl rfl ?_
      refine ezs_get_i hI rfl rfl rfl rfl rfl rfl (fun u2 hu2 ku2 => ?_)
      refine ezw_aload_n rfl rfl ?_
      refine ezs_getp (p := 50) rfl rfl rfl rfl rfl ?_
      refine ezw_aload_n rfl rfl ?_
      refine ezs_getp (p := 25) rfl rfl rfl rfl rfl ?_
      refine ezw_iload_n rfl rfl ?_
      refine ezw_iconst (1) rfl rfl ?_
      refine ezs_isub rfl (fun u3 hu3 => ?_)
      refine ezw_call3_2 rfl (by omega) rfl rfl (ezs_m27_25 hI (by omega) hu3) ?_
      rintro _ _ ⟨rfl, u4, hu4, rfl⟩
      refine ezw_call3_2 rfl (by omega) rfl rfl (ezs_m27_50 hI (by omega) hu4) ?_
      rintro _ _ ⟨rfl, u5, hu5, rfl⟩
      refine ezw_icmp_eq rfl rfl hu2 hu5 (fun h38_5 => ?_) (fun h38_5 => ?_)
      · refine ezw_iload rfl rfl ?_
        refine ezw_aload_n rfl rfl ?_
        refine ezw_aload_n rfl rfl ?_
        refine ezw_iload_n rfl rfl ?_
        refine ezw_iload_n rfl rfl ?_
        refine ezw_iconst (1) rfl rfl ?_
        refine ezs_isub rfl (fun u6 hu6 => ?_)
        refine ezw_iconst (0) rfl rfl ?_
        refine ezw_iload rfl rfl ?_
        refine ezw_call0_5 rfl (by omega) (ezu_at rfl) rfl rfl rfl rfl (ezs_m149_23_47_l2 hI (by omega) (fun q h0 h1 => hzA q (by omega) (by omega)) ha2 (by omega) hu6 ⟨by decide, by decide⟩ ha5) ?_
        rintro _ _ ⟨⟨F, A, rfl, hI⟩, u7, hu7, rfl⟩
        refine ezw_call2_1 rfl (by omega) rfl rfl (ezs_m152 hI (by omega) hu7) ?_
        rintro _ _ ⟨rfl, u8, hu8, rfl⟩
        refine ezs_imul rfl (fun u9 hu9 => ?_)
        refine ezw_istore rfl rfl ?_
        refine ezw_iload rfl rfl ?_
        refine ezw_bipush (10) rfl rfl ?_
        refine ezw_icmp_ge rfl rfl ⟨by omega, by omega⟩ ⟨by decide, by decide⟩ (fun h67_9 => ?_) (fun h67_9 => ?_)
        · refine ezw_iload rfl rfl ?_
          refine ezw_bipush (10) rfl rfl ?_
          refine ezs_idiv rfl hu9 ⟨by decide, by decide⟩ (by omega) (fun u10 hu10 => ?_)
          exact ezw_ireturn rfl rfl ⟨⟨F, A, rfl, hI⟩, _, hu10, rfl⟩
        · refine ezw_iload rfl rfl ?_
          refine ezw_bipush (10) rfl rfl ?_
          refine ezw_iload rfl rfl ?_
          refine ezs_isub rfl (fun u11 hu11 => ?_)
          refine ezw_aload_n rfl rfl ?_
          refine ezw_aload_n rfl rfl ?_
          refine ezw_iload_n rfl rfl ?_
          refine ezw_iload_n rfl rfl ?_
          refine ezw_iload rfl rfl ?_
          refine ezw_iload rfl rfl ?_
          refine ezw_call0_5 rfl (by omega) (ezu_at rfl) rfl rfl rfl rfl (ezs_m149_23_47_l2 hI (by omega) (fun q h0 h1 => hzA q (by omega) (by omega)) ha2 (by omega) ha3 ha4 ha5) ?_
          rintro _ _ ⟨⟨F, A, rfl, hI⟩, u12, hu12, rfl⟩
          refine ezw_call2_1 rfl (by omega) rfl rfl (ezs_m152 hI (by omega) hu12) ?_
          rintro _ _ ⟨rfl, u13, hu13, rfl⟩
          refine ezs_imul rfl (fun u14 hu14 => ?_)
          refine ezs_iadd rfl (fun u15 hu15 => ?_)
          refine ezw_istore rfl rfl ?_
          refine ezw_iload rfl rfl ?_
          refine ezw_bipush (10) rfl rfl ?_
          refine ezs_idiv rfl hu15 ⟨by decide, by decide⟩ (by omega) (fun u16 hu16 => ?_)
          exact ezw_ireturn rfl rfl ⟨⟨F, A, rfl, hI⟩, _, hu16, rfl⟩
      · refine ezw_iconst (-1) rfl rfl ?_
        exact ezw_ireturn rfl rfl ⟨⟨F, A, rfl, hI⟩, _, ⟨by decide, by decide⟩, rfl⟩
theorem ezs_m151_23_47_l3 {a2 a3 a4 a5 a6 : Int} {F : Nat → Nat → Int} {A : Nat → Int → Int} (hI : ezs_I fz F0 A0 F A) (hd : 9 ≤ d) (hzA : ∀ q, 24 ≤ q → q < 25 → fz q = false) (ha2 : ezw_in a2) (ha3 : ezw_in a3) (ga3 : a3 ≤ 2) (ha4 : ezw_in a4) (ha5 : ezw_in a5) (ha6 : ezw_in a6) : ezw_C l ρ B xa Hb D cA 151 d [ezw_p 23, ezw_p 47, ezw_i a2, ezw_i a3, ezw_i a4, ezw_i a5, ezw_i a6] (ezu_g e F A) (ezs_P e fz F0 A0 ezs_ri) := by
  refine ezw_met (k := 7) rfl rfl ?_
  refine ezw_iload_n rfl rfl ?_
  refine ezw_iconst (1) rfl rfl ?_
  refine ezs_isub rfl (fun u1 hu1 => ?_)
  refine ezw_iconst (4) rfl rfl ?_
  refine ezs_irem rfl hu1 ⟨by decide, by decide⟩ (by omega) (fun u2 hu2 => ?_)
  refine ezw_istore rfl rfl ?_
  refine ezw_iload_n rfl rfl ?_
  refine ezw_iconst (5) rfl rfl ?_
  have J17_3 : ∀ y3 : Int, ezs_b y3 → ∀ F A, ezs_I fz F0 A0 F A → ezw_E l ρ B xa Hb D cA d ezq_re151 (ezs_P e fz F0 A0 ezs_ri) 17 [some (ezw_p 23), some (ezw_p 47), some (ezw_i a2), some (ezw_i a3), some (ezw_i a4), some (ezw_i a5), some (ezw_i a6), some (ezw_i u2), none, none, none, none, none, none] [(ezw_i y3)] (ezu_g e F A) := by
    intro y3 hy3 F A hI
    refine ezw_istore rfl rfl ?_
    refine ezw_aload_n rfl rfl ?_
    refine ezs_getp (p := 25) rfl rfl rfl rfl rfl ?_
    refine ezw_iload rfl rfl ?_
    refine ezw_iconst (1) rfl rfl ?_
    refine ezs_isub rfl (fun u5 hu5 => ?_)
    refine ezw_call3_2 rfl (by omega) rfl rfl (ezs_m27_25 hI (by omega) hu5) ?_
    rintro _ _ ⟨rfl, u6, hu6, rfl⟩
    refine ezw_istore rfl rfl ?_
    refine ezw_aload_n rfl rfl ?_
    refine ezw_iload rfl rfl ?_
    refine ezw_iload rfl rfl ?_
    refine ezw_iload rfl rfl ?_
    refine ezw_iload rfl rfl ?_
    refine ezw_call0_4 rfl (by omega) (ezu_at rfl) rfl rfl rfl rfl (ezs_m113_47 hI (by omega) hu6 ha5 hu2 ⟨by omega, by omega⟩) ?_
    rintro _ _ ⟨rfl, u7, hu7, rfl⟩
    refine ezw_istore rfl rfl ?_
    refine ezw_aload_n rfl rfl ?_
    refine ezw_iload rfl rfl ?_
    refine ezw_iload rfl rfl ?_
    refine ezw_iload rfl rfl ?_
    refine ezw_iload rfl rfl ?_
    refine ezw_call0_4 rfl (by omega) (ezu_at rfl) rfl rfl rfl rfl (ezs_m116_47 hI (by omega) hu6 ha5 hu2 ⟨by omega, by omega⟩) ?_
    rintro _ _ ⟨rfl, u8, hu8, rfl⟩
    refine ezw_istore rfl rfl ?_
    refine ezw_iconst (0) rfl rfl ?_
    refine ezw_istore rfl rfl ?_
    refine ezw_iload rfl rfl ?_
    have J95_9 : ∀ y9 : Int, ezw_in y9 → ∀ F A, ezs_I fz F0 A0 F A → ezw_E l ρ B xa Hb D cA d ezq_re151 (ezs_P e fz F0 A0 ezs_ri) 95 [some (ezw_p 23), some (ezw_p 47), some (ezw_i a2), some (ezw_i a3), some (ezw_i a4), some (ezw_i a5), some (ezw_i a6), some (ezw_i u2), some (ezw_i y3), some (ezw_i u6), some (ezw_i u7), some (ezw_i u8), some (ezw_i y9), none] [] (ezu_g e F A) := by
      intro y9 hy9 F A hI
      refine ezw_iload rfl rfl ?_
      refine ezw_bipush (10) rfl rfl ?_
      have J131_11 : ∀ y11 : Int, ezw_in y11 → ∀ F A, ezs_I fz F0 A0 F A → ezw_E l ρ B xa Hb D cA d ezq_re151 (ezs_P e fz F0 A0 ezs_ri) 131 [some (ezw_p 23), some (ezw_p 47), some (ezw_i a2), some (ezw_i a3), some (ezw_i a4), some (ezw_i a5), some (ezw_i a6), some (ezw_i u2), some (ezw_i y3), some (ezw_i u6), some (ezw_i u7), some (ezw_i u8), some (ezw_i y11), none] [] (ezu_g e F A) := by
        intro y11 hy11 F A hI
        refine ezw_iload rfl rfl ?_
        refine ezw_bipush (10) rfl rfl ?_
        refine ezw_icmp_ge rfl rfl hu7 ⟨by decide, by decide⟩ (fun h135_12 => ?_) (fun h135_12 => ?_)
        · refine ezw_iload rfl rfl ?_
          refine ezw_bipush (100) rfl rfl ?_
          refine ezs_idiv rfl hy11 ⟨by decide, by decide⟩ (by omega) (fun u13 hu13 => ?_)
          exact ezw_ireturn rfl rfl ⟨⟨F, A, rfl, hI⟩, _, hu13, rfl⟩
        · refine ezw_iload rfl rfl ?_
          refine ezw_bipush (10) rfl rfl ?_
          refine ezw_icmp_ge rfl rfl hu8 ⟨by decide, by decide⟩ (fun h142_13 => ?_) (fun h142_13 => ?_)
          · refine ezw_iload rfl rfl ?_
            refine ezw_bipush (100) rfl rfl ?_
            refine ezs_idiv rfl hy11 ⟨by decide, by decide⟩ (by omega) (fun u14 hu14 => ?_)
            exact ezw_ireturn rfl rfl ⟨⟨F, A, rfl, hI⟩, _, hu14, rfl⟩
          · refine ezw_bipush (9) rfl rfl ?_
            refine ezw_iload rfl rfl ?_
            refine ezw_iload rfl rfl ?_
            have J159_15 : ∀ y15 : Int, ezw_in y15 → ∀ F A, ezs_I fz F0 A0 F A → ezw_E l ρ B xa Hb D cA d ezq_re151 (ezs_P e fz F0 A0 ezs_ri) 159 [some (ezw_p 23), some (ezw_p 47), some (ezw_i a2), some (ezw_i a3), some (ezw_i a4), some (ezw_i a5), some (ezw_i a6), some (ezw_i u2), some (ezw_i y3), some (ezw_i u6), some (ezw_i u7), some (ezw_i u8), some (ezw_i y11), none] [(ezw_i y15), (ezw_i a5), (ezw_i (9))] (ezu_g e F A) := by
              intro y15 hy15 F A hI
              refine ezs_iadd rfl (fun u17 hu17 => ?_)
              refine ezw_mminE rfl ⟨by decide, by decide⟩ hu17 rfl (fun u18 hu18 => ?_)
              refine ezw_istore rfl rfl ?_
              refine ezw_iload rfl rfl ?_
              refine ezw_bipush (10) rfl rfl ?_
              refine ezw_iload rfl rfl ?_
              refine ezs_isub rfl (fun u19 hu19 => ?_)
              refine ezw_bipush (10) rfl rfl ?_
              refine ezw_iload rfl rfl ?_
              refine ezs_isub rfl (fun u20 hu20 => ?_)
              refine ezs_imul rfl (fun u21 hu21 => ?_)
              refine ezw_aload_n rfl rfl ?_
              refine ezw_aload_n rfl rfl ?_
              refine ezw_iload_n rfl rfl ?_
              refine ezw_iload rfl rfl ?_
              refine ezw_iload rfl rfl ?_
              refine ezw_iload rfl rfl ?_
              refine ezw_call0_5 rfl (by omega) (ezu_at rfl) rfl rfl rfl rfl (ezs_m149_23_47_l2 hI (by omega) (fun q h0 h1 => hzA q (by omega) (by omega)) ha3 (by omega) ha4 ⟨by omega, by omega⟩ ha6) ?_
              rintro _ _ ⟨⟨F, A, rfl, hI⟩, u22, hu22, rfl⟩
              refine ezw_call2_1 rfl (by omega) rfl rfl (ezs_m152 hI (by omega) hu22) ?_
              rintro _ _ ⟨rfl, u23, hu23, rfl⟩
              refine ezs_imul rfl (fun u24 hu24 => ?_)
              refine ezs_iadd rfl (fun u25 hu25 => ?_)
              refine ezw_istore rfl rfl ?_
              refine ezw_iload rfl rfl ?_
              refine ezw_bipush (100) rfl rfl ?_
              refine ezs_idiv rfl hu25 ⟨by decide, by decide⟩ (by omega) (fun u26 hu26 => ?_)
              exact ezw_ireturn rfl rfl ⟨⟨F, A, rfl, hI⟩, _, hu26, rfl⟩
            refine ezw_if_eq rfl rfl ⟨by omega, by omega⟩ (fun h151_14 => ?_) (fun h151_14 => ?_)
            · refine ezw_iconst (1) rfl rfl ?_
              exact ezw_keepE [true, true, true, true, true, true, true, true, true, true, true, true, true, false] (J159_15 (1) ⟨by decide, by decide⟩ F A hI)
            · refine ezw_iconst (2) rfl rfl ?_
              refine ezw_goto rfl rfl ?_
              exact ezw_keepE [true, true, true, true, true, true, true, true, true, true, true, true, true, false] (J159_15 (2) ⟨by decide, by decide⟩ F A hI)
      refine ezw_icmp_ge rfl rfl hu7 ⟨by decide, by decide⟩ (fun h99_10 => ?_) (fun h99_10 => ?_)
      · exact ezw_keepE [true, true, true, true, true, true, true, true, true, true, true, true, true, false] (J131_11 y9 hy9 F A hI)
      · refine ezw_iload rfl rfl ?_
        refine ezw_if_le rfl rfl hu8 (fun h104_26 => ?_) (fun h104_26 => ?_)
        · exact ezw_keepE [true, true, true, true, true, true, true, true, true, true, true, true, true, false] (J131_11 y9 hy9 F A hI)
        · refine ezw_iload rfl rfl ?_
          refine ezw_bipush (10) rfl rfl ?_
          refine ezw_iload rfl rfl ?_
          refine ezs_isub rfl (fun u27 hu27 => ?_)
          refine ezw_iload rfl rfl ?_
          refine ezs_imul rfl (fun u28 hu28 => ?_)
          refine ezw_sipush (1000) rfl rfl ?_
          refine ezs_imul rfl (fun u29 hu29 => ?_)
          refine ezw_aload_n rfl rfl ?_
          refine ezw_iload rfl rfl ?_
          refine ezw_call0_1 rfl (by omega) (ezu_at rfl) rfl rfl rfl rfl (ezs_m144_47 hI (by omega) ha6) ?_
          rintro _ _ ⟨rfl, u30, hu30, rfl⟩
          refine ezs_imul rfl (fun u31 hu31 => ?_)
          refine ezs_iadd rfl (fun u32 hu32 => ?_)
          refine ezw_istore rfl rfl ?_
          exact ezw_keepE [true, true, true, true, true, true, true, true, true, true, true, true, true, false] (J131_11 u32 hu32 F A hI)
    refine ezw_if_le rfl rfl hu7 (fun h65_8 => ?_) (fun h65_8 => ?_)
    · exact ezw_keepE [true, true, true, true, true, true, true, true, true, true, true, true, true, false] (J95_9 (0) ⟨by decide, by decide⟩ F A hI)
    · refine ezw_iload rfl rfl ?_
      refine ezw_bipush (10) rfl rfl ?_
      refine ezw_iload rfl rfl ?_
      refine ezs_imul rfl (fun u33 hu33 => ?_)
      refine ezw_aload_n rfl rfl ?_
      refine ezw_aload_n rfl rfl ?_
      refine ezw_iload_n rfl rfl ?_
      refine ezw_iload rfl rfl ?_
      refine ezw_iconst (1) rfl rfl ?_
      refine ezs_isub rfl (fun u34 hu34 => ?_)
      refine ezw_iconst (0) rfl rfl ?_
      refine ezw_iload rfl rfl ?_
      refine ezw_call0_5 rfl (by omega) (ezu_at rfl) rfl rfl rfl rfl (ezs_m149_23_47_l2 hI (by omega) (fun q h0 h1 => hzA q (by omega) (by omega)) ha3 (by omega) hu34 ⟨by decide, by decide⟩ ha6) ?_
      rintro _ _ ⟨⟨F, A, rfl, hI⟩, u35, hu35, rfl⟩
      refine ezw_call2_1 rfl (by omega) rfl rfl (ezs_m152 hI (by omega) hu35) ?_
      rintro _ _ ⟨rfl, u36, hu36, rfl⟩
      refine ezs_imul rfl (fun u37 hu37 => ?_)
      refine ezs_iadd rfl (fun u38 hu38 => ?_)
      refine ezw_istore rfl rfl ?_
      exact ezw_keepE [true, true, true, true, true, true, true, true, true, true, true, true, true, false] (J95_9 u38 hu38 F A hI)
  refine ezw_icmp_lt rfl rfl ha2 ⟨by decide, by decide⟩ (fun h9_2 => ?_) (fun h9_2 => ?_)
  · refine ezw_iconst (0) rfl rfl ?_
    exact ezw_keepE [true, true, true, true, true, true, true, true, false, false, false, false, false, false] (J17_3 (0) ⟨by omega, by omega⟩ F A hI)
  · refine ezw_iconst (1) rfl rfl ?_
    refine ezw_goto rfl rfl ?_
    exact ezw_keepE [true, true, true, true, true, true, true, true, false, false, false, false, false, false] (J17_3 (1) ⟨by omega, by omega⟩ F A hI)
theorem ezs_m150_23_47_l3 {a2 a3 a4 a5 a6 : Int} {F : Nat → Nat → Int} {A : Nat → Int → Int} (hI : ezs_I fz F0 A0 F A) (hd : 10 ≤ d) (hzA : ∀ q, 24 ≤ q → q < 25 → fz q = false) (ha2 : ezw_in a2) (ha3 : ezw_in a3) (ga3 : a3 ≤ 2) (ha4 : ezw_in a4) (ha5 : ezw_in a5) (ha6 : ezw_in a6) : ezw_C l ρ B xa Hb D cA 150 d [ezw_p 23, ezw_p 47, ezw_i a2, ezw_i a3, ezw_i a4, ezw_i a5, ezw_i a6] (ezu_g e F A) (ezs_P e fz F0 A0 ezs_ri) := by
  refine ezw_met (k := 0) rfl rfl ?_
  refine ezw_iload_n rfl rfl ?_
  refine ezw_bipush (9) rfl rfl ?_
  refine ezw_icmp_ge rfl rfl ha2 ⟨by decide, by decide⟩ (fun h3_0 => ?_) (fun h3_0 => ?_)
  · refine ezw_iload_n rfl rfl ?_
    refine ezw_bipush (9) rfl rfl ?_
    refine ezw_icmp_ne rfl rfl ha2 ⟨by decide, by decide⟩ (fun h23_0 => ?_) (fun h23_0 => ?_)
    · refine ezw_iload_n rfl rfl ?_
      refine ezw_bipush (10) rfl rfl ?_
      refine ezw_icmp_ne rfl rfl ha2 ⟨by decide, by decide⟩ (fun h56_0 => ?_) (fun h56_0 => ?_)
      · refine ezw_aload_n rfl rfl ?_
        refine ezw_aload_n rfl rfl ?_
        refine ezw_iload_n rfl rfl ?_
        refine ezw_bipush (11) rfl rfl ?_
        refine ezs_isub rfl (fun u1 hu1 => ?_)
        refine ezw_iload_n rfl rfl ?_
        refine ezw_iload rfl rfl ?_
        refine ezw_iload rfl rfl ?_
        refine ezw_iload rfl rfl ?_
        refine ezw_call0_6 rfl (by omega) (ezu_at rfl) rfl rfl rfl rfl (ezs_m154_23_47_l3 hI (by omega) (fun q h0 h1 => hzA q (by omega) (by omega)) hu1 ha3 (by omega) ha4 ha5 ha6) ?_
        rintro _ _ ⟨⟨F, A, rfl, hI⟩, u2, hu2, rfl⟩
        exact ezw_ireturn rfl rfl ⟨⟨F, A, rfl, hI⟩, _, hu2, rfl⟩
      · refine ezw_aload_n rfl rfl ?_
        refine ezw_aload_n rfl rfl ?_
        refine ezw_iload_n rfl rfl ?_
        refine ezw_iload rfl rfl ?_
        refine ezw_iload rfl rfl ?_
        refine ezw_iload rfl rfl ?_
        refine ezw_call0_5 rfl (by omega) (ezu_at rfl) rfl rfl rfl rfl (ezs_m153_23_47_l3 hI (by omega) (fun q h0 h1 => hzA q (by omega) (by omega)) ha3 (by omega) ha4 ha5 ha6) ?_
        rintro _ _ ⟨⟨F, A, rfl, hI⟩, u3, hu3, rfl⟩
        exact ezw_ireturn rfl rfl ⟨⟨F, A, rfl, hI⟩, _, hu3, rfl⟩
    · refine ezw_iload rfl rfl ?_
      refine ezw_if_le rfl rfl ha5 (fun h28_3 => ?_) (fun h28_3 => ?_)
      · refine ezw_iconst (-1) rfl rfl ?_
        exact ezw_ireturn rfl rfl ⟨⟨F, A, rfl, hI⟩, _, ⟨by decide, by decide⟩, rfl⟩
      · refine ezw_aload_n rfl rfl ?_
        refine ezw_aload_n rfl rfl ?_
        refine ezw_iload_n rfl rfl ?_
        refine ezw_iload rfl rfl ?_
        refine ezw_iload rfl rfl ?_
        refine ezw_iconst (1) rfl rfl ?_
        refine ezs_isub rfl (fun u4 hu4 => ?_)
        refine ezw_iload rfl rfl ?_
        refine ezw_call0_5 rfl (by omega) (ezu_at rfl) rfl rfl rfl rfl (ezs_m149_23_47_l2 hI (by omega) (fun q h0 h1 => hzA q (by omega) (by omega)) ha3 (by omega) ha4 hu4 ha6) ?_
        rintro _ _ ⟨⟨F, A, rfl, hI⟩, u5, hu5, rfl⟩
        refine ezw_call2_1 rfl (by omega) rfl rfl (ezs_m152 hI (by omega) hu5) ?_
        rintro _ _ ⟨rfl, u6, hu6, rfl⟩
        refine ezw_goto rfl rfl ?_
        exact ezw_ireturn rfl rfl ⟨⟨F, A, rfl, hI⟩, _, hu6, rfl⟩
  · refine ezw_aload_n rfl rfl ?_
    refine ezw_aload_n rfl rfl ?_
    refine ezw_iload_n rfl rfl ?_
    refine ezw_iload_n rfl rfl ?_
    refine ezw_iload rfl rfl ?_
    refine ezw_iload rfl rfl ?_
    refine ezw_iload rfl rfl ?_
    refine ezw_call0_6 rfl (by omega) (ezu_at rfl) rfl rfl rfl rfl (ezs_m151_23_47_l3 hI (by omega) (fun q h0 h1 => hzA q (by omega) (by omega)) ha2 ha3 (by omega) ha4 ha5 ha6) ?_
    rintro _ _ ⟨⟨F, A, rfl, hI⟩, u7, hu7, rfl⟩
    exact ezw_ireturn rfl rfl ⟨⟨F, A, rfl, hI⟩, _, hu7, rfl⟩
theorem ezs_m149_23_47_l3 {a2 a3 a4 a5 : Int} {F : Nat → Nat → Int} {A : Nat → Int → Int} (hI : ezs_I fz F0 A0 F A) (hd : 11 ≤ d) (hzA : ∀ q, 24 ≤ q → q < 25 → fz q = false) (ha2 : ezw_in a2) (ga2 : a2 ≤ 3) (ha3 : ezw_in a3) (ha4 : ezw_in a4) (ha5 : ezw_in a5) : ezw_C l ρ B xa Hb D cA 149 d [ezw_p 23, ezw_p 47, ezw_i a2, ezw_i a3, ezw_i a4, ezw_i a5] (ezu_g e F A) (ezs_P e fz F0 A0 ezs_ri) := by
  refine ezw_met (k := 5) rfl rfl ?_
  refine ezw_sipush (1000) rfl rfl ?_
  refine ezw_aload_n rfl rfl ?_
  refine ezw_iload rfl rfl ?_
  refine ezw_call0_1 rfl (by omega) (ezu_at rfl) rfl rfl rfl rfl (ezs_m144_47 hI (by omega) ha5) ?_
  rintro _ _ ⟨rfl, u1, hu1, rfl⟩
  refine ezw_iload_n rfl rfl ?_
  have J21_2 : ∀ y2 : Int, ezw_in y2 → ∀ F A, ezs_I fz F0 A0 F A → ezw_E l ρ B xa Hb D cA d ezq_re149 (ezs_P e fz F0 A0 ezs_ri) 21 [some (ezw_p 23), some (ezw_p 47), some (ezw_i a2), some (ezw_i a3), some (ezw_i a4), some (ezw_i a5), none, none, none, none, none] [(ezw_i y2), (ezw_i u1), (ezw_i (1000))] (ezu_g e F A) := by
    intro y2 hy2 F A hI
    refine ezs_iadd rfl (fun u4 hu4 => ?_)
    refine ezs_imul rfl (fun u5 hu5 => ?_)
    refine ezw_istore rfl rfl ?_
    refine ezw_iconst (0) rfl rfl ?_
    refine ezw_istore rfl rfl ?_
    refine ezw_iload_n rfl rfl ?_
    refine ezw_if_le rfl rfl ha2 (fun h29_5 => ?_) (fun h29_5 => ?_)
    · refine ezw_iload rfl rfl ?_
      refine ezw_bipush (16) rfl rfl ?_
      refine ezs_imul rfl (fun u6 hu6 => ?_)
      refine ezw_iload rfl rfl ?_
      refine ezs_iadd rfl (fun u7 hu7 => ?_)
      exact ezw_ireturn rfl rfl ⟨⟨F, A, rfl, hI⟩, _, hu7, rfl⟩
    · refine ezw_iload_n rfl rfl ?_
      refine ezw_if_gt rfl rfl ha3 (fun h33_7 => ?_) (fun h33_7 => ?_)
      · refine ezw_iload_n rfl rfl ?_
        refine ezw_iconst (1) rfl rfl ?_
        refine ezs_isub rfl (fun u8 hu8 => ?_)
        refine ezw_bipush (6) rfl rfl ?_
        refine ezs_imul rfl (fun u9 hu9 => ?_)
        refine ezw_iload_n rfl rfl ?_
        refine ezs_iadd rfl (fun u10 hu10 => ?_)
        refine ezw_iconst (1) rfl rfl ?_
        refine ezs_isub rfl (fun u11 hu11 => ?_)
        refine ezw_bipush (10) rfl rfl ?_
        refine ezs_imul rfl (fun u12 hu12 => ?_)
        refine ezw_iload rfl rfl ?_
        refine ezs_iadd rfl (fun u13 hu13 => ?_)
        refine ezw_bipush (16) rfl rfl ?_
        refine ezs_imul rfl (fun u14 hu14 => ?_)
        refine ezw_iload rfl rfl ?_
        refine ezs_iadd rfl (fun u15 hu15 => ?_)
        refine ezw_istore rfl rfl ?_
        refine ezw_aload_n rfl rfl ?_
        refine ezs_getp (p := 24) rfl rfl rfl rfl rfl ?_
        refine ezw_iload rfl rfl ?_
        refine ezw_call3_2 rfl (by omega) rfl rfl (ezs_m27_24 hI (by omega) hu15) ?_
        rintro _ _ ⟨rfl, u16, hu16, rfl⟩
        refine ezw_iconst (-1) rfl rfl ?_
        refine ezw_icmp_eq rfl rfl hu16 ⟨by decide, by decide⟩ (fun h79_16 => ?_) (fun h79_16 => ?_)
        · refine ezw_iconst (1) rfl rfl ?_
          refine ezw_istore rfl rfl ?_
          have L95_19 : ∀ c19 : Int, ezw_in c19 → (1) ≤ c19 → ∀ y17 : Int, ezw_in y17 → ∀ y18 : Int, ezw_in y18 → ∀ F A, ezs_I fz F0 A0 F A → ezw_E l ρ B xa Hb D cA d ezq_re149 (ezs_P e fz F0 A0 ezs_ri) 95 [some (ezw_p 23), some (ezw_p 47), some (ezw_i a2), some (ezw_i a3), some (ezw_i a4), some (ezw_i a5), some (ezw_i y17), some (ezw_i y18), some (ezw_i u15), some (ezw_i c19), none] [] (ezu_g e F A) := by
            refine ezs_up ?_
            intro c19 hc19 ihc19 gc19 y17 hy17 y18 hy18 F A hI
            refine ezw_iload rfl rfl ?_
            refine ezw_bipush (15) rfl rfl ?_
            have J140_23 : ∀ y21 : Int, ezw_in y21 → ∀ y22 : Int, ezw_in y22 → ∀ y23 : Int, ezw_in y23 → ∀ F A, ezs_I fz F0 A0 F A → ezw_E l ρ B xa Hb D cA d ezq_re149 (ezs_P e fz F0 A0 ezs_ri) 140 [some (ezw_p 23), some (ezw_p 47), some (ezw_i a2), some (ezw_i a3), some (ezw_i a4), some (ezw_i a5), some (ezw_i y21), some (ezw_i y22), some (ezw_i u15), some (ezw_i y23), none] [] (ezu_g e F A) := by
              intro y21 hy21 y22 hy22 y23 hy23 F A hI
              refine ezw_aload_n rfl rfl ?_
              refine ezs_getp (p := 24) rfl rfl rfl rfl rfl ?_
              refine ezw_iload rfl rfl ?_
              refine ezw_iload rfl rfl ?_
              refine ezw_bipush (16) rfl rfl ?_
              refine ezs_imul rfl (fun u25 hu25 => ?_)
              refine ezw_iload rfl rfl ?_
              refine ezs_iadd rfl (fun u26 hu26 => ?_)
              refine ezw_call3_3 rfl (by omega) rfl rfl (ezs_m21_24 hI (by omega) (fun q h0 h1 => hzA q (by omega) (by omega)) hu15 hu26) ?_
              rintro _ _ ⟨⟨F, A, rfl, hI⟩, rfl⟩
              refine ezw_iload rfl rfl ?_
              refine ezw_bipush (16) rfl rfl ?_
              refine ezs_imul rfl (fun u27 hu27 => ?_)
              refine ezw_iload rfl rfl ?_
              refine ezs_iadd rfl (fun u28 hu28 => ?_)
              exact ezw_ireturn rfl rfl ⟨⟨F, A, rfl, hI⟩, _, hu28, rfl⟩
            refine ezw_icmp_ge rfl rfl hc19 ⟨by decide, by decide⟩ (fun h99_20 => ?_) (fun h99_20 => ?_)
            · exact ezw_keepE [true, true, true, true, true, true, true, true, true, true, false] (J140_23 y17 hy17 y18 hy18 c19 hc19 F A hI)
            · refine ezw_aload_n rfl rfl ?_
              refine ezw_aload_n rfl rfl ?_
              refine ezw_iload rfl rfl ?_
              refine ezw_iload_n rfl rfl ?_
              refine ezw_iconst (1) rfl rfl ?_
              refine ezw_isub rfl rfl ?_
              refine ezw_iload_n rfl rfl ?_
              refine ezw_iload rfl rfl ?_
              refine ezw_iload rfl rfl ?_
              refine ezw_call0_6 rfl (by omega) (ezu_at rfl) rfl rfl rfl rfl (ezs_m150_23_47_l3 hI (by omega) (fun q h0 h1 => hzA q (by omega) (by omega)) hc19 ⟨by omega, by omega⟩ (by omega) ha3 ha4 ha5) ?_
              rintro _ _ ⟨⟨F, A, rfl, hI⟩, u29, hu29, rfl⟩
              refine ezw_istore rfl rfl ?_
              refine ezw_iload rfl rfl ?_
              refine ezw_iload rfl rfl ?_
              refine ezw_icmp_le rfl rfl hu29 hy17 (fun h123_29 => ?_) (fun h123_29 => ?_)
              · refine ezw_iinc (1) rfl rfl rfl rfl rfl ?_
                refine ezw_goto rfl rfl ?_
                exact ezw_keepE [true, true, true, true, true, true, true, true, true, true, false] (ihc19 (c19 + (1)) (by omega) ⟨by omega, by omega⟩ (by omega) y17 hy17 y18 hy18 F A hI)
              · refine ezw_iload rfl rfl ?_
                refine ezw_istore rfl rfl ?_
                refine ezw_iload rfl rfl ?_
                refine ezw_istore rfl rfl ?_
                refine ezw_iinc (1) rfl rfl rfl rfl rfl ?_
                refine ezw_goto rfl rfl ?_
                exact ezw_keepE [true, true, true, true, true, true, true, true, true, true, false] (ihc19 (c19 + (1)) (by omega) ⟨by omega, by omega⟩ (by omega) u29 hu29 c19 hc19 F A hI)
          exact ezw_keepE [true, true, true, true, true, true, true, true, true, true, false] (L95_19 (1) ⟨by decide, by decide⟩ (by omega) u5 hu5 (0) ⟨by decide, by decide⟩ F A hI)
        · refine ezw_aload_n rfl rfl ?_
          refine ezs_getp (p := 24) rfl rfl rfl rfl rfl ?_
          refine ezw_iload rfl rfl ?_
          refine ezw_call3_2 rfl (by omega) rfl rfl (ezs_m27_24 hI (by omega) hu15) ?_
          rintro _ _ ⟨rfl, u30, hu30, rfl⟩
          exact ezw_ireturn rfl rfl ⟨⟨F, A, rfl, hI⟩, _, hu30, rfl⟩
      · refine ezw_iload rfl rfl ?_
        refine ezw_bipush (16) rfl rfl ?_
        refine ezs_imul rfl (fun u31 hu31 => ?_)
        refine ezw_iload rfl rfl ?_
        refine ezs_iadd rfl (fun u32 hu32 => ?_)
        exact ezw_ireturn rfl rfl ⟨⟨F, A, rfl, hI⟩, _, hu32, rfl⟩
  refine ezw_if_le rfl rfl ha3 (fun h10_1 => ?_) (fun h10_1 => ?_)
  · refine ezw_aload_n rfl rfl ?_
    refine ezs_get_i hI rfl rfl rfl rfl rfl rfl (fun u33 hu33 ku33 => ?_)
    exact ezw_keepE [true, true, true, true, true, true, false, false, false, false, false] (J21_2 u33 hu33 F A hI)
  · refine ezw_iconst (0) rfl rfl ?_
    refine ezw_goto rfl rfl ?_
    exact ezw_keepE [true, true, true, true, true, true, false, false, false, false, false] (J21_2 (0) ⟨by decide, by decide⟩ F A hI)
theorem ezs_m154_23_47_l4 {a2 a3 a4 a5 a6 : Int} {F : Nat → Nat → Int} {A : Nat → Int → Int} (hI : ezs_I fz F0 A0 F A) (hd : 12 ≤ d) (hzA : ∀ q, 24 ≤ q → q < 25 → fz q = false) (ha2 : ezw_in a2) (ha3 : ezw_in a3) (ga3 : a3 ≤ 3) (ha4 : ezw_in a4) (ha5 : ezw_in a5) (ha6 : ezw_in a6) : ezw_C l ρ B xa Hb D cA 154 d [ezw_p 23, ezw_p 47, ezw_i a2, ezw_i a3, ezw_i a4, ezw_i a5, ezw_i a6] (ezu_g e F A) (ezs_P e fz F0 A0 ezs_ri) := by
  refine ezw_met (k := 3) rfl rfl ?_
  refine ezw_iload rfl rfl ?_
  refine ezw_iload_n rfl rfl ?_
  refine ezw_call3_2 rfl (by omega) rfl rfl (ezs_m49 hI (by omega) ha6 ha2) ?_
  rintro _ _ ⟨rfl, u1, hu1, rfl⟩
  refine ezw_if_ne rfl rfl hu1 (fun h6_1 => ?_) (fun h6_1 => ?_)
  · refine ezw_aload_n rfl rfl ?_
    refine ezs_getp (p := 53) rfl rfl rfl rfl rfl ?_
    refine ezw_iload_n rfl rfl ?_
    refine ezw_call3_2 rfl (by omega) rfl rfl (ezs_m27_53 hI (by omega) ha2) ?_
    rintro _ _ ⟨rfl, u2, hu2, rfl⟩
    refine ezw_istore rfl rfl ?_
    refine ezw_aload_n rfl rfl ?_
    refine ezs_getp (p := 54) rfl rfl rfl rfl rfl ?_
    refine ezw_iload_n rfl rfl ?_
    refine ezw_call3_2 rfl (by omega) rfl rfl (ezs_m27_54 hI (by omega) ha2) ?_
    rintro _ _ ⟨rfl, u3, hu3, rfl⟩
    refine ezw_istore rfl rfl ?_
    refine ezw_iconst (0) rfl rfl ?_
    refine ezw_istore rfl rfl ?_
    refine ezw_iload rfl rfl ?_
    have J68_4 : ∀ y4 : Int, ezw_in y4 → ∀ F A, ezs_I fz F0 A0 F A → ezw_E l ρ B xa Hb D cA d ezq_re154 (ezs_P e fz F0 A0 ezs_ri) 68 [some (ezw_p 23), some (ezw_p 47), some (ezw_i a2), some (ezw_i a3), some (ezw_i a4), some (ezw_i a5), some (ezw_i a6), some (ezw_i u2), some (ezw_i u3), some (ezw_i y4)] [] (ezu_g e F A) := by
      intro y4 hy4 F A hI
      refine ezw_iload rfl rfl ?_
      have J97_6 : ∀ y6 : Int, ezw_in y6 → ∀ F A, ezs_I fz F0 A0 F A → ezw_E l ρ B xa Hb D cA d ezq_re154 (ezs_P e fz F0 A0 ezs_ri) 97 [some (ezw_p 23), some (ezw_p 47), some (ezw_i a2), some (ezw_i a3), some (ezw_i a4), some (ezw_i a5), some (ezw_i a6), some (ezw_i u2), some (ezw_i u3), some (ezw_i y6)] [] (ezu_g e F A) := by
        intro y6 hy6 F A hI
        refine ezw_iload rfl rfl ?_
        refine ezw_iload rfl rfl ?_
        refine ezs_iadd rfl (fun u8 hu8 => ?_)
        refine ezw_bipush (10) rfl rfl ?_
        refine ezw_icmp_ge rfl rfl hu8 ⟨by decide, by decide⟩ (fun h104_8 => ?_) (fun h104_8 => ?_)
        · refine ezw_iload rfl rfl ?_
          refine ezw_bipush (10) rfl rfl ?_
          refine ezs_idiv rfl hy6 ⟨by decide, by decide⟩ (by omega) (fun u9 hu9 => ?_)
          exact ezw_ireturn rfl rfl ⟨⟨F, A, rfl, hI⟩, _, hu9, rfl⟩
        · refine ezw_iload rfl rfl ?_
          refine ezw_bipush (10) rfl rfl ?_
          refine ezw_iload rfl rfl ?_
          refine ezs_isub rfl (fun u10 hu10 => ?_)
          refine ezw_iload rfl rfl ?_
          refine ezs_isub rfl (fun u11 hu11 => ?_)
          refine ezw_aload_n rfl rfl ?_
          refine ezw_aload_n rfl rfl ?_
          refine ezw_iload_n rfl rfl ?_
          refine ezw_iload rfl rfl ?_
          refine ezw_iload rfl rfl ?_
          refine ezw_iload rfl rfl ?_
          refine ezw_call0_5 rfl (by omega) (ezu_at rfl) rfl rfl rfl rfl (ezs_m149_23_47_l3 hI (by omega) (fun q h0 h1 => hzA q (by omega) (by omega)) ha3 (by omega) ha4 ha5 ha6) ?_
          rintro _ _ ⟨⟨F, A, rfl, hI⟩, u12, hu12, rfl⟩
          refine ezw_call2_1 rfl (by omega) rfl rfl (ezs_m152 hI (by omega) hu12) ?_
          rintro _ _ ⟨rfl, u13, hu13, rfl⟩
          refine ezs_imul rfl (fun u14 hu14 => ?_)
          refine ezs_iadd rfl (fun u15 hu15 => ?_)
          refine ezw_istore rfl rfl ?_
          refine ezw_iload rfl rfl ?_
          refine ezw_bipush (10) rfl rfl ?_
          refine ezs_idiv rfl hu15 ⟨by decide, by decide⟩ (by omega) (fun u16 hu16 => ?_)
          exact ezw_ireturn rfl rfl ⟨⟨F, A, rfl, hI⟩, _, hu16, rfl⟩
      refine ezw_if_le rfl rfl hu3 (fun h70_5 => ?_) (fun h70_5 => ?_)
      · exact ezw_keepE [true, true, true, true, true, true, true, true, true, true] (J97_6 y4 hy4 F A hI)
      · refine ezw_iload rfl rfl ?_
        refine ezw_iload rfl rfl ?_
        refine ezw_aload_n rfl rfl ?_
        refine ezw_aload_n rfl rfl ?_
        refine ezw_iload_n rfl rfl ?_
        refine ezw_iload rfl rfl ?_
        refine ezw_iconst (1) rfl rfl ?_
        refine ezs_isub rfl (fun u17 hu17 => ?_)
        refine ezw_iconst (0) rfl rfl ?_
        refine ezw_iload rfl rfl ?_
        refine ezw_call0_5 rfl (by omega) (ezu_at rfl) rfl rfl rfl rfl (ezs_m149_23_47_l3 hI (by omega) (fun q h0 h1 => hzA q (by omega) (by omega)) ha3 (by omega) hu17 ⟨by decide, by decide⟩ ha6) ?_
        rintro _ _ ⟨⟨F, A, rfl, hI⟩, u18, hu18, rfl⟩
        refine ezw_call2_1 rfl (by omega) rfl rfl (ezs_m152 hI (by omega) hu18) ?_
        rintro _ _ ⟨rfl, u19, hu19, rfl⟩
        refine ezs_imul rfl (fun u20 hu20 => ?_)
        refine ezs_iadd rfl (fun u21 hu21 => ?_)
        refine ezw_istore rfl rfl ?_
        exact ezw_keepE [true, true, true, true, true, true, true, true, true, true] (J97_6 u21 hu21 F A hI)
    refine ezw_if_le rfl rfl hu2 (fun h36_3 => ?_) (fun h36_3 => ?_)
    · exact ezw_keepE [true, true, true, true, true, true, true, true, true, true] (J68_4 (0) ⟨by decide, by decide⟩ F A hI)
    · refine ezw_iload rfl rfl ?_
      refine ezw_iload rfl rfl ?_
      refine ezw_aload_n rfl rfl ?_
      refine ezw_aload_n rfl rfl ?_
      refine ezw_iload_n rfl rfl ?_
      refine ezw_iload rfl rfl ?_
      refine ezw_iload rfl rfl ?_
      refine ezw_iload rfl rfl ?_
      refine ezw_iconst (1) rfl rfl ?_
      refine ezw_iload_n rfl rfl ?_
      refine ezw_ishlO rfl (fun u22 hu22 => ?_)
      refine ezw_iconst (-1) rfl rfl ?_
      refine ezs_ixor rfl (fun u23 hu23 => ?_)
      refine ezs_iand rfl (fun u24 hu24 => ?_)
      refine ezw_call0_5 rfl (by omega) (ezu_at rfl) rfl rfl rfl rfl (ezs_m149_23_47_l3 hI (by omega) (fun q h0 h1 => hzA q (by omega) (by omega)) ha3 (by omega) ha4 ha5 hu24) ?_
      rintro _ _ ⟨⟨F, A, rfl, hI⟩, u25, hu25, rfl⟩
      refine ezw_call2_1 rfl (by omega) rfl rfl (ezs_m152 hI (by omega) hu25) ?_
      rintro _ _ ⟨rfl, u26, hu26, rfl⟩
      refine ezs_imul rfl (fun u27 hu27 => ?_)
      refine ezs_iadd rfl (fun u28 hu28 => ?_)
      refine ezw_istore rfl rfl ?_
      exact ezw_keepE [true, true, true, true, true, true, true, true, true, true] (J68_4 u28 hu28 F A hI)
  · refine ezw_iconst (-1) rfl rfl ?_
    exact ezw_ireturn rfl rfl ⟨⟨F, A, rfl, hI⟩, _, ⟨by decide, by decide⟩, rfl⟩
theorem ezs_m153_23_47_l4 {a2 a3 a4 a5 : Int} {F : Nat → Nat → Int} {A : Nat → Int → Int} (hI : ezs_I fz F0 A0 F A) (hd : 12 ≤ d) (hzA : ∀ q, 24 ≤ q → q < 25 → fz q = false) (ha2 : ezw_in a2) (ga2 : a2 ≤ 3) (ha3 : ezw_in a3) (ha4 : ezw_in a4) (ha5 : ezw_in a5) : ezw_C l ρ B xa Hb D cA 153 d [ezw_p 23, ezw_p 47, ezw_i a2, ezw_i a3, ezw_i a4, ezw_i a5] (ezu_g e F A) (ezs_P e fz F0 A0 ezs_ri) := by
  refine ezw_met (k := 2) rfl rfl ?_
  refine ezw_aload_n rfl rfl ?_
  refine ezw_iconst (5) rfl rfl ?_
  refine ezw_call0_1 rfl (by omega) (ezu_at rfl) rfl rfl rfl rfl (ezs_m95_47 hI (by omega) ⟨by decide, by decide⟩) ?_
  rintro _ _ ⟨rfl, u1, hu1, rfl⟩
  refine ezw_istore rfl rfl ?_
  refine ezw_iload rfl rfl ?_
  refine ezw_if_gt rfl rfl ha4 (fun h9_1 => ?_) (fun h9_1 => ?_)
  · refine ezw_iconst (-1) rfl rfl ?_
    exact ezw_ireturn rfl rfl ⟨⟨F, A, rfl, hI⟩, _, ⟨by decide, by decide⟩, rfl⟩
  · refine ezw_iload rfl rfl ?_
    refine ezw_if_le rfl rfl ⟨by omega, by omega⟩ (fun h14_1 => ?_) (fun h14_1 => ?_)
    · refine ezw_iconst (-1) rfl rfl ?_
      exact ezw_ireturn rfl rfl ⟨⟨F, A, rfl, hI⟩, _, ⟨by decide, by decide⟩, rfl⟩
    · refine ezw_aload_n rfl rfl ?_
      refine ezs_get_i hI rfl rfl rfl rfl rfl rfl (fun u2 hu2 ku2 => ?_)
      refine ezw_aload_n rfl rfl ?_
      refine ezs_getp (p := 50) rfl rfl rfl rfl rfl ?_
      refine ezw_aload_n rfl rfl ?_
      refine ezs_getp (p := 25) rfl rfl rfl rfl rfl ?_
      refine ezw_iload_n rfl rfl ?_
      refine ezw_iconst (1) rfl rfl ?_
      refine ezs_isub rfl (fun u3 hu3 => ?_)
      refine ezw_call3_2 rfl (by omega) rfl rfl (ezs_m27_25 hI (by omega) hu3) ?_
      rintro _ _ ⟨rfl, u4, hu4, rfl⟩
      refine ezw_call3_2 rfl (by omega) rfl rfl (ezs_m27_50 hI (by omega) hu4) ?_
      rintro _ _ ⟨rfl, u5, hu5, rfl⟩
      refine ezw_icmp_eq rfl rfl hu2 hu5 (fun h38_5 => ?_) (fun h38_5 => ?_)
      · refine ezw_iload rfl rfl ?_
        refine ezw_aload_n rfl rfl ?_
        refine ezw_aload_n rfl rfl ?_
        refine ezw_iload_n rfl rfl ?_
        refine ezw_iload_n rfl rfl ?_
        refine ezw_iconst (1) rfl rfl ?_
        refine ezs_isub rfl (fun u6 hu6 => ?_)
        refine ezw_iconst (0) rfl rfl ?_
        refine ezw_iload rfl rfl ?_
        refine ezw_call0_5 rfl (by omega) (ezu_at rfl) rfl rfl rfl rfl (ezs_m149_23_47_l3 hI (by omega) (fun q h0 h1 => hzA q (by omega) (by omega)) ha2 (by omega) hu6 ⟨by decide, by decide⟩ ha5) ?_
        rintro _ _ ⟨⟨F, A, rfl, hI⟩, u7, hu7, rfl⟩
        refine ezw_call2_1 rfl (by omega) rfl rfl (ezs_m152 hI (by omega) hu7) ?_
        rintro _ _ ⟨rfl, u8, hu8, rfl⟩
        refine ezs_imul rfl (fun u9 hu9 => ?_)
        refine ezw_istore rfl rfl ?_
        refine ezw_iload rfl rfl ?_
        refine ezw_bipush (10) rfl rfl ?_
        refine ezw_icmp_ge rfl rfl ⟨by omega, by omega⟩ ⟨by decide, by decide⟩ (fun h67_9 => ?_) (fun h67_9 => ?_)
        · refine ezw_iload rfl rfl ?_
          refine ezw_bipush (10) rfl rfl ?_
          refine ezs_idiv rfl hu9 ⟨by decide, by decide⟩ (by omega) (fun u10 hu10 => ?_)
          exact ezw_ireturn rfl rfl ⟨⟨F, A, rfl, hI⟩, _, hu10, rfl⟩
        · refine ezw_iload rfl rfl ?_
          refine ezw_bipush (10) rfl rfl ?_
          refine ezw_iload rfl rfl ?_
          refine ezs_isub rfl (fun u11 hu11 => ?_)
          refine ezw_aload_n rfl rfl ?_
          refine ezw_aload_n rfl rfl ?_
          refine ezw_iload_n rfl rfl ?_
          refine ezw_iload_n rfl rfl ?_
          refine ezw_iload rfl rfl ?_
          refine ezw_iload rfl rfl ?_
          refine ezw_call0_5 rfl (by omega) (ezu_at rfl) rfl rfl rfl rfl (ezs_m149_23_47_l3 hI (by omega) (fun q h0 h1 => hzA q (by omega) (by omega)) ha2 (by omega) ha3 ha4 ha5) ?_
          rintro _ _ ⟨⟨F, A, rfl, hI⟩, u12, hu12, rfl⟩
          refine ezw_call2_1 rfl (by omega) rfl rfl (ezs_m152 hI (by omega) hu12) ?_
          rintro _ _ ⟨rfl, u13, hu13, rfl⟩
          refine ezs_imul rfl (fun u14 hu14 => ?_)
          refine ezs_iadd rfl (fun u15 hu15 => ?_)
          refine ezw_istore rfl rfl ?_
          refine ezw_iload rfl rfl ?_
          refine ezw_bipush (10) rfl rfl ?_
          refine ezs_idiv rfl hu15 ⟨by decide, by decide⟩ (by omega) (fun u16 hu16 => ?_)
          exact ezw_ireturn rfl rfl ⟨⟨F, A, rfl, hI⟩, _, hu16, rfl⟩
      · refine ezw_iconst (-1) rfl rfl ?_
        exact ezw_ireturn rfl rfl ⟨⟨F, A, rfl, hI⟩, _, ⟨by decide, by decide⟩, rfl⟩
theorem ezs_m151_23_47_l4 {a2 a3 a4 a5 a6 : Int} {F : Nat → Nat → Int} {A : Nat → Int → Int} (hI : ezs_I fz F0 A0 F A) (hd : 12 ≤ d) (hzA : ∀ q, 24 ≤ q → q < 25 → fz q = false) (ha2 : ezw_in a2) (ha3 : ezw_in a3) (ga3 : a3 ≤ 3) (ha4 : ezw_in a4) (ha5 : ezw_in a5) (ha6 : ezw_in a6) : ezw_C l ρ B xa Hb D cA 151 d [ezw_p 23, ezw_p 47, ezw_i a2, ezw_i a3, ezw_i a4, ezw_i a5, ezw_i a6] (ezu_g e F A) (ezs_P e fz F0 A0 ezs_ri) := by
  refine ezw_met (k := 7) rfl rfl ?_
  refine ezw_iload_n rfl rfl ?_
  refine ezw_iconst (1) rfl rfl ?_
  refine ezs_isub rfl (fun u1 hu1 => ?_)
  refine ezw_iconst (4) rfl rfl ?_
  refine ezs_irem rfl hu1 ⟨by decide, by decide⟩ (by omega) (fun u2 hu2 => ?_)
  refine ezw_istore rfl rfl ?_
  refine ezw_iload_n rfl rfl ?_
  refine ezw_iconst (5) rfl rfl ?_
  have J17_3 : ∀ y3 : Int, ezs_b y3 → ∀ F A, ezs_I fz F0 A0 F A → ezw_E l ρ B xa Hb D cA d ezq_re151 (ezs_P e fz F0 A0 ezs_ri) 17 [some (ezw_p 23), some (ezw_p 47), some (ezw_i a2), some (ezw_i a3), some (ezw_i a4), some (ezw_i a5), some (ezw_i a6), some (ezw_i u2), none, none, none, none, none, none] [(ezw_i y3)] (ezu_g e F A) := by
    intro y3 hy3 F A hI
    refine ezw_istore rfl rfl ?_
    refine ezw_aload_n rfl rfl ?_
    refine ezs_getp (p := 25) rfl rfl rfl rfl rfl ?_
    refine ezw_iload rfl rfl ?_
    refine ezw_iconst (1) rfl rfl ?_
    refine ezs_isub rfl (fun u5 hu5 => ?_)
    refine ezw_call3_2 rfl (by omega) rfl rfl (ezs_m27_25 hI (by omega) hu5) ?_
    rintro _ _ ⟨rfl, u6, hu6, rfl⟩
    refine ezw_istore rfl rfl ?_
    refine ezw_aload_n rfl rfl ?_
    refine ezw_iload rfl rfl ?_
    refine ezw_iload rfl rfl ?_
    refine ezw_iload rfl rfl ?_
    refine ezw_iload rfl rfl ?_
    refine ezw_call0_4 rfl (by omega) (ezu_at rfl) rfl rfl rfl rfl (ezs_m113_47 hI (by omega) hu6 ha5 hu2 ⟨by omega, by omega⟩) ?_
    rintro _ _ ⟨rfl, u7, hu7, rfl⟩
    refine ezw_istore rfl rfl ?_
    refine ezw_aload_n rfl rfl ?_
    refine ezw_iload rfl rfl ?_
    refine ezw_iload rfl rfl ?_
    refine ezw_iload rfl rfl ?_
    refine ezw_iload rfl rfl ?_
    refine ezw_call0_4 rfl (by omega) (ezu_at rfl) rfl rfl rfl rfl (ezs_m116_47 hI (by omega) hu6 ha5 hu2 ⟨by omega, by omega⟩) ?_
    rintro _ _ ⟨rfl, u8, hu8, rfl⟩
    refine ezw_istore rfl rfl ?_
    refine ezw_iconst (0) rfl rfl ?_
    refine ezw_istore rfl rfl ?_
    refine ezw_iload rfl rfl ?_
    have J95_9 : ∀ y9 : Int, ezw_in y9 → ∀ F A, ezs_I fz F0 A0 F A → ezw_E l ρ B xa Hb D cA d ezq_re151 (ezs_P e fz F0 A0 ezs_ri) 95 [some (ezw_p 23), some (ezw_p 47), some (ezw_i a2), some (ezw_i a3), some (ezw_i a4), some (ezw_i a5), some (ezw_i a6), some (ezw_i u2), some (ezw_i y3), some (ezw_i u6), some (ezw_i u7), some (ezw_i u8), some (ezw_i y9), none] [] (ezu_g e F A) := by
      intro y9 hy9 F A hI
      refine ezw_iload rfl rfl ?_
      refine ezw_bipush (10) rfl rfl ?_
      have J131_11 : ∀ y11 : Int, ezw_in y11 → ∀ F A, ezs_I fz F0 A0 F A → ezw_E l ρ B xa Hb D cA d ezq_re151 (ezs_P e fz F0 A0 ezs_ri) 131 [some (ezw_p 23), some (ezw_p 47), some (ezw_i a2), some (ezw_i a3), some (ezw_i a4), some (ezw_i a5), some (ezw_i a6), some (ezw_i u2), some (ezw_i y3), some (ezw_i u6), some (ezw_i u7), some (ezw_i u8), some (ezw_i y11), none] [] (ezu_g e F A) := by
        intro y11 hy11 F A hI
        refine ezw_iload rfl rfl ?_
        refine ezw_bipush (10) rfl rfl ?_
        refine ezw_icmp_ge rfl rfl hu7 ⟨by decide, by decide⟩ (fun h135_12 => ?_) (fun h135_12 => ?_)
        · refine ezw_iload rfl rfl ?_
          refine ezw_bipush (100) rfl rfl ?_
          refine ezs_idiv rfl hy11 ⟨by decide, by decide⟩ (by omega) (fun u13 hu13 => ?_)
          exact ezw_ireturn rfl rfl ⟨⟨F, A, rfl, hI⟩, _, hu13, rfl⟩
        · refine ezw_iload rfl rfl ?_
          refine ezw_bipush (10) rfl rfl ?_
          refine ezw_icmp_ge rfl rfl hu8 ⟨by decide, by decide⟩ (fun h142_13 => ?_) (fun h142_13 => ?_)
          · refine ezw_iload rfl rfl ?_
            refine ezw_bipush (100) rfl rfl ?_
            refine ezs_idiv rfl hy11 ⟨by decide, by decide⟩ (by omega) (fun u14 hu14 => ?_)
            exact ezw_ireturn rfl rfl ⟨⟨F, A, rfl, hI⟩, _, hu14, rfl⟩
          · refine ezw_bipush (9) rfl rfl ?_
            refine ezw_iload rfl rfl ?_
            refine ezw_iload rfl rfl ?_
            have J159_15 : ∀ y15 : Int, ezw_in y15 → ∀ F A, ezs_I fz F0 A0 F A → ezw_E l ρ B xa Hb D cA d ezq_re151 (ezs_P e fz F0 A0 ezs_ri) 159 [some (ezw_p 23), some (ezw_p 47), some (ezw_i a2), some (ezw_i a3), some (ezw_i a4), some (ezw_i a5), some (ezw_i a6), some (ezw_i u2), some (ezw_i y3), some (ezw_i u6), some (ezw_i u7), some (ezw_i u8), some (ezw_i y11), none] [(ezw_i y15), (ezw_i a5), (ezw_i (9))] (ezu_g e F A) := by
              intro y15 hy15 F A hI
              refine ezs_iadd rfl (fun u17 hu17 => ?_)
              refine ezw_mminE rfl ⟨by decide, by decide⟩ hu17 rfl (fun u18 hu18 => ?_)
              refine ezw_istore rfl rfl ?_
              refine ezw_iload rfl rfl ?_
              refine ezw_bipush (10) rfl rfl ?_
              refine ezw_iload rfl rfl ?_
              refine ezs_isub rfl (fun u19 hu19 => ?_)
              refine ezw_bipush (10) rfl rfl ?_
              refine ezw_iload rfl rfl ?_
              refine ezs_isub rfl (fun u20 hu20 => ?_)
              refine ezs_imul rfl (fun u21 hu21 => ?_)
              refine ezw_aload_n rfl rfl ?_
              refine ezw_aload_n rfl rfl ?_
              refine ezw_iload_n rfl rfl ?_
              refine ezw_iload rfl rfl ?_
              refine ezw_iload rfl rfl ?_
              refine ezw_iload rfl rfl ?_
              refine ezw_call0_5 rfl (by omega) (ezu_at rfl) rfl rfl rfl rfl (ezs_m149_23_47_l3 hI (by omega) (fun q h0 h1 => hzA q (by omega) (by omega)) ha3 (by omega) ha4 ⟨by omega, by omega⟩ ha6) ?_
              rintro _ _ ⟨⟨F, A, rfl, hI⟩, u22, hu22, rfl⟩
              refine ezw_call2_1 rfl (by omega) rfl rfl (ezs_m152 hI (by omega) hu22) ?_
              rintro _ _ ⟨rfl, u23, hu23, rfl⟩
              refine ezs_imul rfl (fun u24 hu24 => ?_)
              refine ezs_iadd rfl (fun u25 hu25 => ?_)
              refine ezw_istore rfl rfl ?_
              refine ezw_iload rfl rfl ?_
              refine ezw_bipush (100) rfl rfl ?_
              refine ezs_idiv rfl hu25 ⟨by decide, by decide⟩ (by omega) (fun u26 hu26 => ?_)
              exact ezw_ireturn rfl rfl ⟨⟨F, A, rfl, hI⟩, _, hu26, rfl⟩
            refine ezw_if_eq rfl rfl ⟨by omega, by omega⟩ (fun h151_14 => ?_) (fun h151_14 => ?_)
            · refine ezw_iconst (1) rfl rfl ?_
              exact ezw_keepE [true, true, true, true, true, true, true, true, true, true, true, true, true, false] (J159_15 (1) ⟨by decide, by decide⟩ F A hI)
            · refine ezw_iconst (2) rfl rfl ?_
              refine ezw_goto rfl rfl ?_
              exact ezw_keepE [true, true, true, true, true, true, true, true, true, true, true, true, true, false] (J159_15 (2) ⟨by decide, by decide⟩ F A hI)
      refine ezw_icmp_ge rfl rfl hu7 ⟨by decide, by decide⟩ (fun h99_10 => ?_) (fun h99_10 => ?_)
      · exact ezw_keepE [true, true, true, true, true, true, true, true, true, true, true, true, true, false] (J131_11 y9 hy9 F A hI)
      · refine ezw_iload rfl rfl ?_
        refine ezw_if_le rfl rfl hu8 (fun h104_26 => ?_) (fun h104_26 => ?_)
        · exact ezw_keepE [true, true, true, true, true, true, true, true, true, true, true, true, true, false] (J131_11 y9 hy9 F A hI)
        · refine ezw_iload rfl rfl ?_
          refine ezw_bipush (10) rfl rfl ?_
          refine ezw_iload rfl rfl ?_
          refine ezs_isub rfl (fun u27 hu27 => ?_)
          refine ezw_iload rfl rfl ?_
          refine ezs_imul rfl (fun u28 hu28 => ?_)
          refine ezw_sipush (1000) rfl rfl ?_
          refine ezs_imul rfl (fun u29 hu29 => ?_)
          refine ezw_aload_n rfl rfl ?_
          refine ezw_iload rfl rfl ?_
          refine ezw_call0_1 rfl (by omega) (ezu_at rfl) rfl rfl rfl rfl (ezs_m144_47 hI (by omega) ha6) ?_
          rintro _ _ ⟨rfl, u30, hu30, rfl⟩
          refine ezs_imul rfl (fun u31 hu31 => ?_)
          refine ezs_iadd rfl (fun u32 hu32 => ?_)
          refine ezw_istore rfl rfl ?_
          exact ezw_keepE [true, true, true, true, true, true, true, true, true, true, true, true, true, false] (J131_11 u32 hu32 F A hI)
    refine ezw_if_le rfl rfl hu7 (fun h65_8 => ?_) (fun h65_8 => ?_)
    · exact ezw_keepE [true, true, true, true, true, true, true, true, true, true, true, true, true, false] (J95_9 (0) ⟨by decide, by decide⟩ F A hI)
    · refine ezw_iload rfl rfl ?_
      refine ezw_bipush (10) rfl rfl ?_
      refine ezw_iload rfl rfl ?_
      refine ezs_imul rfl (fun u33 hu33 => ?_)
      refine ezw_aload_n rfl rfl ?_
      refine ezw_aload_n rfl rfl ?_
      refine ezw_iload_n rfl rfl ?_
      refine ezw_iload rfl rfl ?_
      refine ezw_iconst (1) rfl rfl ?_
      refine ezs_isub rfl (fun u34 hu34 => ?_)
      refine ezw_iconst (0) rfl rfl ?_
      refine ezw_iload rfl rfl ?_
      refine ezw_call0_5 rfl (by omega) (ezu_at rfl) rfl rfl rfl rfl (ezs_m149_23_47_l3 hI (by omega) (fun q h0 h1 => hzA q (by omega) (by omega)) ha3 (by omega) hu34 ⟨by decide, by decide⟩ ha6) ?_
      rintro _ _ ⟨⟨F, A, rfl, hI⟩, u35, hu35, rfl⟩
      refine ezw_call2_1 rfl (by omega) rfl rfl (ezs_m152 hI (by omega) hu35) ?_
      rintro _ _ ⟨rfl, u36, hu36, rfl⟩
      refine ezs_imul rfl (fun u37 hu37 => ?_)
      refine ezs_iadd rfl (fun u38 hu38 => ?_)
      refine ezw_istore rfl rfl ?_
      exact ezw_keepE [true, true, true, true, true, true, true, true, true, true, true, true, true, false] (J95_9 u38 hu38 F A hI)
  refine ezw_icmp_lt rfl rfl ha2 ⟨by decide, by decide⟩ (fun h9_2 => ?_) (fun h9_2 => ?_)
  · refine ezw_iconst (0) rfl rfl ?_
    exact ezw_keepE [true, true, true, true, true, true, true, true, false, false, false, false, false, false] (J17_3 (0) ⟨by omega, by omega⟩ F A hI)
  · refine ezw_iconst (1) rfl rfl ?_
    refine ezw_goto rfl rfl ?_
    exact ezw_keepE [true, true, true, true, true, true, true, true, false, false, false, false, false, false] (J17_3 (1) ⟨by omega, by omega⟩ F A hI)
theorem ezs_m150_23_47_l4 {a2 a3 a4 a5 a6 : Int} {F : Nat → Nat → Int} {A : Nat → Int → Int} (hI : ezs_I fz F0 A0 F A) (hd : 13 ≤ d) (hzA : ∀ q, 24 ≤ q → q < 25 → fz q = false) (ha2 : ezw_in a2) (ha3 : ezw_in a3) (ga3 : a3 ≤ 3) (ha4 : ezw_in a4) (ha5 : ezw_in a5) (ha6 : ezw_in a6) : ezw_C l ρ B xa Hb D cA 150 d [ezw_p 23, ezw_p 47, ezw_i a2, ezw_i a3, ezw_i a4, ezw_i a5, ezw_i a6] (ezu_g e F A) (ezs_P e fz F0 A0 ezs_ri) := by
  refine ezw_met (k := 0) rfl rfl ?_
  refine ezw_iload_n rfl rfl ?_
  refine ezw_bipush (9) rfl rfl ?_
  refine ezw_icmp_ge rfl rfl ha2 ⟨by decide, by decide⟩ (fun h3_0 => ?_) (fun h3_0 => ?_)
  · refine ezw_iload_n rfl rfl ?_
    refine ezw_bipush (9) rfl rfl ?_
    refine ezw_icmp_ne rfl rfl ha2 ⟨by decide, by decide⟩ (fun h23_0 => ?_) (fun h23_0 => ?_)
    · refine ezw_iload_n rfl rfl ?_
      refine ezw_bipush (10) rfl rfl ?_
      refine ezw_icmp_ne rfl rfl ha2 ⟨by decide, by decide⟩ (fun h56_0 => ?_) (fun h56_0 => ?_)
      · refine ezw_aload_n rfl rfl ?_
        refine ezw_aload_n rfl rfl ?_
        refine ezw_iload_n rfl rfl ?_
        refine ezw_bipush (11) rfl rfl ?_
        refine ezs_isub rfl (fun u1 hu1 => ?_)
        refine ezw_iload_n rfl rfl ?_
        refine ezw_iload rfl rfl ?_
        refine ezw_iload rfl rfl ?_
        refine ezw_iload rfl rfl ?_
        refine ezw_call0_6 rfl (by omega) (ezu_at rfl) rfl rfl rfl rfl (ezs_m154_23_47_l4 hI (by omega) (fun q h0 h1 => hzA q (by omega) (by omega)) hu1 ha3 (by omega) ha4 ha5 ha6) ?_
        rintro _ _ ⟨⟨F, A, rfl, hI⟩, u2, hu2, rfl⟩
        exact ezw_ireturn rfl rfl ⟨⟨F, A, rfl, hI⟩, _, hu2, rfl⟩
      · refine ezw_aload_n rfl rfl ?_
        refine ezw_aload_n rfl rfl ?_
        refine ezw_iload_n rfl rfl ?_
        refine ezw_iload rfl rfl ?_
        refine ezw_iload rfl rfl ?_
        refine ezw_iload rfl rfl ?_
        refine ezw_call0_5 rfl (by omega) (ezu_at rfl) rfl rfl rfl rfl (ezs_m153_23_47_l4 hI (by omega) (fun q h0 h1 => hzA q (by omega) (by omega)) ha3 (by omega) ha4 ha5 ha6) ?_
        rintro _ _ ⟨⟨F, A, rfl, hI⟩, u3, hu3, rfl⟩
        exact ezw_ireturn rfl rfl ⟨⟨F, A, rfl, hI⟩, _, hu3, rfl⟩
    · refine ezw_iload rfl rfl ?_
      refine ezw_if_le rfl rfl ha5 (fun h28_3 => ?_) (fun h28_3 => ?_)
      · refine ezw_iconst (-1) rfl rfl ?_
        exact ezw_ireturn rfl rfl ⟨⟨F, A, rfl, hI⟩, _, ⟨by decide, by decide⟩, rfl⟩
      · refine ezw_aload_n rfl rfl ?_
        refine ezw_aload_n rfl rfl ?_
        refine ezw_iload_n rfl rfl ?_
        refine ezw_iload rfl rfl ?_
        refine ezw_iload rfl rfl ?_
        refine ezw_iconst (1) rfl rfl ?_
        refine ezs_isub rfl (fun u4 hu4 => ?_)
        refine ezw_iload rfl rfl ?_
        refine ezw_call0_5 rfl (by omega) (ezu_at rfl) rfl rfl rfl rfl (ezs_m149_23_47_l3 hI (by omega) (fun q h0 h1 => hzA q (by omega) (by omega)) ha3 (by omega) ha4 hu4 ha6) ?_
        rintro _ _ ⟨⟨F, A, rfl, hI⟩, u5, hu5, rfl⟩
        refine ezw_call2_1 rfl (by omega) rfl rfl (ezs_m152 hI (by omega) hu5) ?_
        rintro _ _ ⟨rfl, u6, hu6, rfl⟩
        refine ezw_goto rfl rfl ?_
        exact ezw_ireturn rfl rfl ⟨⟨F, A, rfl, hI⟩, _, hu6, rfl⟩
  · refine ezw_aload_n rfl rfl ?_
    refine ezw_aload_n rfl rfl ?_
    refine ezw_iload_n rfl rfl ?_
    refine ezw_iload_n rfl rfl ?_
    refine ezw_iload rfl rfl ?_
    refine ezw_iload rfl rfl ?_
    refine ezw_iload rfl rfl ?_
    refine ezw_call0_6 rfl (by omega) (ezu_at rfl) rfl rfl rfl rfl (ezs_m151_23_47_l4 hI (by omega) (fun q h0 h1 => hzA q (by omega) (by omega)) ha2 ha3 (by omega) ha4 ha5 ha6) ?_
    rintro _ _ ⟨⟨F, A, rfl, hI⟩, u7, hu7, rfl⟩
    exact ezw_ireturn rfl rfl ⟨⟨F, A, rfl, hI⟩, _, hu7, rfl⟩
theorem ezs_m149_23_47_l4 {a2 a3 a4 a5 : Int} {F : Nat → Nat → Int} {A : Nat → Int → Int} (hI : ezs_I fz F0 A0 F A) (hd : 14 ≤ d) (hzA : ∀ q, 24 ≤ q → q < 25 → fz q = false) (ha2 : ezw_in a2) (ga2 : a2 ≤ 4) (ha3 : ezw_in a3) (ha4 : ezw_in a4) (ha5 : ezw_in a5) : ezw_C l ρ B xa Hb D cA 149 d [ezw_p 23, ezw_p 47, ezw_i a2, ezw_i a3, ezw_i a4, ezw_i a5] (ezu_g e F A) (ezs_P e fz F0 A0 ezs_ri) := by
  refine ezw_met (k := 5) rfl rfl ?_
  refine ezw_sipush (1000) rfl rfl ?_
  refine ezw_aload_n rfl rfl ?_
  refine ezw_iload rfl rfl ?_
  refine ezw_call0_1 rfl (by omega) (ezu_at rfl) rfl rfl rfl rfl (ezs_m144_47 hI (by omega) ha5) ?_
  rintro _ _ ⟨rfl, u1, hu1, rfl⟩
  refine ezw_iload_n rfl rfl ?_
  have J21_2 : ∀ y2 : Int, ezw_in y2 → ∀ F A, ezs_I fz F0 A0 F A → ezw_E l ρ B xa Hb D cA d ezq_re149 (ezs_P e fz F0 A0 ezs_ri) 21 [some (ezw_p 23), some (ezw_p 47), some (ezw_i a2), some (ezw_i a3), some (ezw_i a4), some (ezw_i a5), none, none, none, none, none] [(ezw_i y2), (ezw_i u1), (ezw_i (1000))] (ezu_g e F A) := by
    intro y2 hy2 F A hI
    refine ezs_iadd rfl (fun u4 hu4 => ?_)
    refine ezs_imul rfl (fun u5 hu5 => ?_)
    refine ezw_istore rfl rfl ?_
    refine ezw_iconst (0) rfl rfl ?_
    refine ezw_istore rfl rfl ?_
    refine ezw_iload_n rfl rfl ?_
    refine ezw_if_le rfl rfl ha2 (fun h29_5 => ?_) (fun h29_5 => ?_)
    · refine ezw_iload rfl rfl ?_
      refine ezw_bipush (16) rfl rfl ?_
      refine ezs_imul rfl (fun u6 hu6 => ?_)
      refine ezw_iload rfl rfl ?_
      refine ezs_iadd rfl (fun u7 hu7 => ?_)
      exact ezw_ireturn rfl rfl ⟨⟨F, A, rfl, hI⟩, _, hu7, rfl⟩
    · refine ezw_iload_n rfl rfl ?_
      refine ezw_if_gt rfl rfl ha3 (fun h33_7 => ?_) (fun h33_7 => ?_)
      · refine ezw_iload_n rfl rfl ?_
        refine ezw_iconst (1) rfl rfl ?_
        refine ezs_isub rfl (fun u8 hu8 => ?_)
        refine ezw_bipush (6) rfl rfl ?_
        refine ezs_imul rfl (fun u9 hu9 => ?_)
        refine ezw_iload_n rfl rfl ?_
        refine ezs_iadd rfl (fun u10 hu10 => ?_)
        refine ezw_iconst (1) rfl rfl ?_
        refine ezs_isub rfl (fun u11 hu11 => ?_)
        refine ezw_bipush (10) rfl rfl ?_
        refine ezs_imul rfl (fun u12 hu12 => ?_)
        refine ezw_iload rfl rfl ?_
        refine ezs_iadd rfl (fun u13 hu13 => ?_)
        refine ezw_bipush (16) rfl rfl ?_
        refine ezs_imul rfl (fun u14 hu14 => ?_)
        refine ezw_iload rfl rfl ?_
        refine ezs_iadd rfl (fun u15 hu15 => ?_)
        refine ezw_istore rfl rfl ?_
        refine ezw_aload_n rfl rfl ?_
        refine ezs_getp (p := 24) rfl rfl rfl rfl rfl ?_
        refine ezw_iload rfl rfl ?_
        refine ezw_call3_2 rfl (by omega) rfl rfl (ezs_m27_24 hI (by omega) hu15) ?_
        rintro _ _ ⟨rfl, u16, hu16, rfl⟩
        refine ezw_iconst (-1) rfl rfl ?_
        refine ezw_icmp_eq rfl rfl hu16 ⟨by decide, by decide⟩ (fun h79_16 => ?_) (fun h79_16 => ?_)
        · refine ezw_iconst (1) rfl rfl ?_
          refine ezw_istore rfl rfl ?_
          have L95_19 : ∀ c19 : Int, ezw_in c19 → (1) ≤ c19 → ∀ y17 : Int, ezw_in y17 → ∀ y18 : Int, ezw_in y18 → ∀ F A, ezs_I fz F0 A0 F A → ezw_E l ρ B xa Hb D cA d ezq_re149 (ezs_P e fz F0 A0 ezs_ri) 95 [some (ezw_p 23), some (ezw_p 47), some (ezw_i a2), some (ezw_i a3), some (ezw_i a4), some (ezw_i a5), some (ezw_i y17), some (ezw_i y18), some (ezw_i u15), some (ezw_i c19), none] [] (ezu_g e F A) := by
            refine ezs_up ?_
            intro c19 hc19 ihc19 gc19 y17 hy17 y18 hy18 F A hI
            refine ezw_iload rfl rfl ?_
            refine ezw_bipush (15) rfl rfl ?_
            have J140_23 : ∀ y21 : Int, ezw_in y21 → ∀ y22 : Int, ezw_in y22 → ∀ y23 : Int, ezw_in y23 → ∀ F A, ezs_I fz F0 A0 F A → ezw_E l ρ B xa Hb D cA d ezq_re149 (ezs_P e fz F0 A0 ezs_ri) 140 [some (ezw_p 23), some (ezw_p 47), some (ezw_i a2), some (ezw_i a3), some (ezw_i a4), some (ezw_i a5), some (ezw_i y21), some (ezw_i y22), some (ezw_i u15), some (ezw_i y23), none] [] (ezu_g e F A) := by
              intro y21 hy21 y22 hy22 y23 hy23 F A hI
              refine ezw_aload_n rfl rfl ?_
              refine ezs_getp (p := 24) rfl rfl rfl rfl rfl ?_
              refine ezw_iload rfl rfl ?_
              refine ezw_iload rfl rfl ?_
              refine ezw_bipush (16) rfl rfl ?_
              refine ezs_imul rfl (fun u25 hu25 => ?_)
              refine ezw_iload rfl rfl ?_
              refine ezs_iadd rfl (fun u26 hu26 => ?_)
              refine ezw_call3_3 rfl (by omega) rfl rfl (ezs_m21_24 hI (by omega) (fun q h0 h1 => hzA q (by omega) (by omega)) hu15 hu26) ?_
              rintro _ _ ⟨⟨F, A, rfl, hI⟩, rfl⟩
              refine ezw_iload rfl rfl ?_
              refine ezw_bipush (16) rfl rfl ?_
              refine ezs_imul rfl (fun u27 hu27 => ?_)
              refine ezw_iload rfl rfl ?_
              refine ezs_iadd rfl (fun u28 hu28 => ?_)
              exact ezw_ireturn rfl rfl ⟨⟨F, A, rfl, hI⟩, _, hu28, rfl⟩
            refine ezw_icmp_ge rfl rfl hc19 ⟨by decide, by decide⟩ (fun h99_20 => ?_) (fun h99_20 => ?_)
            · exact ezw_keepE [true, true, true, true, true, true, true, true, true, true, false] (J140_23 y17 hy17 y18 hy18 c19 hc19 F A hI)
            · refine ezw_aload_n rfl rfl ?_
              refine ezw_aload_n rfl rfl ?_
              refine ezw_iload rfl rfl ?_
              refine ezw_iload_n rfl rfl ?_
              refine ezw_iconst (1) rfl rfl ?_
              refine ezw_isub rfl rfl ?_
              refine ezw_iload_n rfl rfl ?_
              refine ezw_iload rfl rfl ?_
              refine ezw_iload rfl rfl ?_
              refine ezw_call0_6 rfl (by omega) (ezu_at rfl) rfl rfl rfl rfl (ezs_m150_23_47_l4 hI (by omega) (fun q h0 h1 => hzA q (by omega) (by omega)) hc19 ⟨by omega, by omega⟩ (by omega) ha3 ha4 ha5) ?_
              rintro _ _ ⟨⟨F, A, rfl, hI⟩, u29, hu29, rfl⟩
              refine ezw_istore rfl rfl ?_
              refine ezw_iload rfl rfl ?_
              refine ezw_iload rfl rfl ?_
              refine ezw_icmp_le rfl rfl hu29 hy17 (fun h123_29 => ?_) (fun h123_29 => ?_)
              · refine ezw_iinc (1) rfl rfl rfl rfl rfl ?_
                refine ezw_goto rfl rfl ?_
                exact ezw_keepE [true, true, true, true, true, true, true, true, true, true, false] (ihc19 (c19 + (1)) (by omega) ⟨by omega, by omega⟩ (by omega) y17 hy17 y18 hy18 F A hI)
              · refine ezw_iload rfl rfl ?_
                refine ezw_istore rfl rfl ?_
                refine ezw_iload rfl rfl ?_
                refine ezw_istore rfl rfl ?_
                refine ezw_iinc (1) rfl rfl rfl rfl rfl ?_
                refine ezw_goto rfl rfl ?_
                exact ezw_keepE [true, true, true, true, true, true, true, true, true, true, false] (ihc19 (c19 + (1)) (by omega) ⟨by omega, by omega⟩ (by omega) u29 hu29 c19 hc19 F A hI)
          exact ezw_keepE [true, true, true, true, true, true, true, true, true, true, false] (L95_19 (1) ⟨by decide, by decide⟩ (by omega) u5 hu5 (0) ⟨by decide, by decide⟩ F A hI)
        · refine ezw_aload_n rfl rfl ?_
          refine ezs_getp (p := 24) rfl rfl rfl rfl rfl ?_
          refine ezw_iload rfl rfl ?_
          refine ezw_call3_2 rfl (by omega) rfl rfl (ezs_m27_24 hI (by omega) hu15) ?_
          rintro _ _ ⟨rfl, u30, hu30, rfl⟩
          exact ezw_ireturn rfl rfl ⟨⟨F, A, rfl, hI⟩, _, hu30, rfl⟩
      · refine ezw_iload rfl rfl ?_
        refine ezw_bipush (16) rfl rfl ?_
        refine ezs_imul rfl (fun u31 hu31 => ?_)
        refine ezw_iload rfl rfl ?_
        refine ezs_iadd rfl (fun u32 hu32 => ?_)
        exact ezw_ireturn rfl rfl ⟨⟨F, A, rfl, hI⟩, _, hu32, rfl⟩
  refine ezw_if_le rfl rfl ha3 (fun h10_1 => ?_) (fun h10_1 => ?_)
  · refine ezw_aload_n rfl rfl ?_
    refine ezs_get_i hI rfl rfl rfl rfl rfl rfl (fun u33 hu33 ku33 => ?_)
    exact ezw_keepE [true, true, true, true, true, true, false, false, false, false, false] (J21_2 u33 hu33 F A hI)
  · refine ezw_iconst (0) rfl rfl ?_
    refine ezw_goto rfl rfl ?_
    exact ezw_keepE [true, true, true, true, true, true, false, false, false, false, false] (J21_2 (0) ⟨by decide, by decide⟩ F A hI)
theorem ezs_m154_23_47_l5 {a2 a3 a4 a5 a6 : Int} {F : Nat → Nat → Int} {A : Nat → Int → Int} (hI : ezs_I fz F0 A0 F A) (hd : 15 ≤ d) (hzA : ∀ q, 24 ≤ q → q < 25 → fz q = false) (ha2 : ezw_in a2) (ha3 : ezw_in a3) (ga3 : a3 ≤ 4) (ha4 : ezw_in a4) (ha5 : ezw_in a5) (ha6 : ezw_in a6) : ezw_C l ρ B xa Hb D cA 154 d [ezw_p 23, ezw_p 47, ezw_i a2, ezw_i a3, ezw_i a4, ezw_i a5, ezw_i a6] (ezu_g e F A) (ezs_P e fz F0 A0 ezs_ri) := by
  refine ezw_met (k := 3) rfl rfl ?_
  refine ezw_iload rfl rfl ?_
  refine ezw_iload_n rfl rfl ?_
  refine ezw_call3_2 rfl (by omega) rfl rfl (ezs_m49 hI (by omega) ha6 ha2) ?_
  rintro _ _ ⟨rfl, u1, hu1, rfl⟩
  refine ezw_if_ne rfl rfl hu1 (fun h6_1 => ?_) (fun h6_1 => ?_)
  · refine ezw_aload_n rfl rfl ?_
    refine ezs_getp (p := 53) rfl rfl rfl rfl rfl ?_
    refine ezw_iload_n rfl rfl ?_
    refine ezw_call3_2 rfl (by omega) rfl rfl (ezs_m27_53 hI (by omega) ha2) ?_
    rintro _ _ ⟨rfl, u2, hu2, rfl⟩
    refine ezw_istore rfl rfl ?_
    refine ezw_aload_n rfl rfl ?_
    refine ezs_getp (p := 54) rfl rfl rfl rfl rfl ?_
    refine ezw_iload_n rfl rfl ?_
    refine ezw_call3_2 rfl (by omega) rfl rfl (ezs_m27_54 hI (by omega) ha2) ?_
    rintro _ _ ⟨rfl, u3, hu3, rfl⟩
    refine ezw_istore rfl rfl ?_
    refine ezw_iconst (0) rfl rfl ?_
    refine ezw_istore rfl rfl ?_
    refine ezw_iload rfl rfl ?_
    have J68_4 : ∀ y4 : Int, ezw_in y4 → ∀ F A, ezs_I fz F0 A0 F A → ezw_E l ρ B xa Hb D cA d ezq_re154 (ezs_P e fz F0 A0 ezs_ri) 68 [some (ezw_p 23), some (ezw_p 47), some (ezw_i a2), some (ezw_i a3), some (ezw_i a4), some (ezw_i a5), some (ezw_i a6), some (ezw_i u2), some (ezw_i u3), some (ezw_i y4)] [] (ezu_g e F A) := by
      intro y4 hy4 F A hI
      refine ezw_iload rfl rfl ?_
      have J97_6 : ∀ y6 : Int, ezw_in y6 → ∀ F A, ezs_I fz F0 A0 F A → ezw_E l ρ B xa Hb D cA d ezq_re154 (ezs_P e fz F0 A0 ezs_ri) 97 [some (ezw_p 23), some (ezw_p 47), some (ezw_i a2), some (ezw_i a3), some (ezw_i a4), some (ezw_i a5), some (ezw_i a6), some (ezw_i u2), some (ezw_i u3), some (ezw_i y6)] [] (ezu_g e F A) := by
        intro y6 hy6 F A hI
        refine ezw_iload rfl rfl ?_
        refine ezw_iload rfl rfl ?_
        refine ezs_iadd rfl (fun u8 hu8 => ?_)
        refine ezw_bipush (10) rfl rfl ?_
        refine ezw_icmp_ge rfl rfl hu8 ⟨by decide, by decide⟩ (fun h104_8 => ?_) (fun h104_8 => ?_)
        · refine ezw_iload rfl rfl ?_
          refine ezw_bipush (10) rfl rfl ?_
          refine ezs_idiv rfl hy6 ⟨by decide, by decide⟩ (by omega) (fun u9 hu9 => ?_)
          exact ezw_ireturn rfl rfl ⟨⟨F, A, rfl, hI⟩, _, hu9, rfl⟩
        · refine ezw_iload rfl rfl ?_
          refine ezw_bipush (10) rfl rfl ?_
          refine ezw_iload rfl rfl ?_
          refine ezs_isub rfl (fun u10 hu10 => ?_)
          refine ezw_iload rfl rfl ?_
          refine ezs_isub rfl (fun u11 hu11 => ?_)
          refine ezw_aload_n rfl rfl ?_
          refine ezw_aload_n rfl rfl ?_
          refine ezw_iload_n rfl rfl ?_
          refine ezw_iload rfl rfl ?_
          refine ezw_iload rfl rfl ?_
          refine ezw_iload rfl rfl ?_
          refine ezw_call0_5 rfl (by omega) (ezu_at rfl) rfl rfl rfl rfl (ezs_m149_23_47_l4 hI (by omega) (fun q h0 h1 => hzA q (by omega) (by omega)) ha3 (by omega) ha4 ha5 ha6) ?_
          rintro _ _ ⟨⟨F, A, rfl, hI⟩, u12, hu12, rfl⟩
          refine ezw_call2_1 rfl (by omega) rfl rfl (ezs_m152 hI (by omega) hu12) ?_
          rintro _ _ ⟨rfl, u13, hu13, rfl⟩
          refine ezs_imul rfl (fun u14 hu14 => ?_)
          refine ezs_iadd rfl (fun u15 hu15 => ?_)
          refine ezw_istore rfl rfl ?_
          refine ezw_iload rfl rfl ?_
          refine ezw_bipush (10) rfl rfl ?_
          refine ezs_idiv rfl hu15 ⟨by decide, by decide⟩ (by omega) (fun u16 hu16 => ?_)
          exact ezw_ireturn rfl rfl ⟨⟨F, A, rfl, hI⟩, _, hu16, rfl⟩
      refine ezw_if_le rfl rfl hu3 (fun h70_5 => ?_) (fun h70_5 => ?_)
      · exact ezw_keepE [true, true, true, true, true, true, true, true, true, true] (J97_6 y4 hy4 F A hI)
      · refine ezw_iload rfl rfl ?_
        refine ezw_iload rfl rfl ?_
        refine ezw_aload_n rfl rfl ?_
        refine ezw_aload_n rfl rfl ?_
        refine ezw_iload_n rfl rfl ?_
        refine ezw_iload rfl rfl ?_
        refine ezw_iconst (1) rfl rfl ?_
        refine ezs_isub rfl (fun u17 hu17 => ?_)
        refine ezw_iconst (0) rfl rfl ?_
        refine ezw_iload rfl rfl ?_
        refine ezw_call0_5 rfl (by omega) (ezu_at rfl) rfl rfl rfl rfl (ezs_m149_23_47_l4 hI (by omega) (fun q h0 h1 => hzA q (by omega) (by omega)) ha3 (by omega) hu17 ⟨by decide, by decide⟩ ha6) ?_
        rintro _ _ ⟨⟨F, A, rfl, hI⟩, u18, hu18, rfl⟩
        refine ezw_call2_1 rfl (by omega) rfl rfl (ezs_m152 hI (by omega) hu18) ?_
        rintro _ _ ⟨rfl, u19, hu19, rfl⟩
        refine ezs_imul rfl (fun u20 hu20 => ?_)
        refine ezs_iadd rfl (fun u21 hu21 => ?_)
        refine ezw_istore rfl rfl ?_
        exact ezw_keepE [true, true, true, true, true, true, true, true, true, true] (J97_6 u21 hu21 F A hI)
    refine ezw_if_le rfl rfl hu2 (fun h36_3 => ?_) (fun h36_3 => ?_)
    · exact ezw_keepE [true, true, true, true, true, true, true, true, true, true] (J68_4 (0) ⟨by decide, by decide⟩ F A hI)
    · refine ezw_iload rfl rfl ?_
      refine ezw_iload rfl rfl ?_
      refine ezw_aload_n rfl rfl ?_
      refine ezw_aload_n rfl rfl ?_
      refine ezw_iload_n rfl rfl ?_
      refine ezw_iload rfl rfl ?_
      refine ezw_iload rfl rfl ?_
      refine ezw_iload rfl rfl ?_
      refine ezw_iconst (1) rfl rfl ?_
      refine ezw_iload_n rfl rfl ?_
      refine ezw_ishlO rfl (fun u22 hu22 => ?_)
      refine ezw_iconst (-1) rfl rfl ?_
      refine ezs_ixor rfl (fun u23 hu23 => ?_)
      refine ezs_iand rfl (fun u24 hu24 => ?_)
      refine ezw_call0_5 rfl (by omega) (ezu_at rfl) rfl rfl rfl rfl (ezs_m149_23_47_l4 hI (by omega) (fun q h0 h1 => hzA q (by omega) (by omega)) ha3 (by omega) ha4 ha5 hu24) ?_
      rintro _ _ ⟨⟨F, A, rfl, hI⟩, u25, hu25, rfl⟩
      refine ezw_call2_1 rfl (by omega) rfl rfl (ezs_m152 hI (by omega) hu25) ?_
      rintro _ _ ⟨rfl, u26, hu26, rfl⟩
      refine ezs_imul rfl (fun u27 hu27 => ?_)
      refine ezs_iadd rfl (fun u28 hu28 => ?_)
      refine ezw_istore rfl rfl ?_
      exact ezw_keepE [true, true, true, true, true, true, true, true, true, true] (J68_4 u28 hu28 F A hI)
  · refine ezw_iconst (-1) rfl rfl ?_
    exact ezw_ireturn rfl rfl ⟨⟨F, A, rfl, hI⟩, _, ⟨by decide, by decide⟩, rfl⟩
theorem ezs_m153_23_47_l5 {a2 a3 a4 a5 : Int} {F : Nat → Nat → Int} {A : Nat → Int → Int} (hI : ezs_I fz F0 A0 F A) (hd : 15 ≤ d) (hzA : ∀ q, 24 ≤ q → q < 25 → fz q = false) (ha2 : ezw_in a2) (ga2 : a2 ≤ 4) (ha3 : ezw_in a3) (ha4 : ezw_in a4) (ha5 : ezw_in a5) : ezw_C l ρ B xa Hb D cA 153 d [ezw_p 23, ezw_p 47, ezw_i a2, ezw_i a3, ezw_i a4, ezw_i a5] (ezu_g e F A) (ezs_P e fz F0 A0 ezs_ri) := by
  refine ezw_met (k := 2) rfl rfl ?_
  refine ezw_aload_n rfl rfl ?_
  refine ezw_iconst (5) rfl rfl ?_
  refine ezw_call0_1 rfl (by omega) (ezu_at rfl) rfl rfl rfl rfl (ezs_m95_47 hI (by omega) ⟨by decide, by decide⟩) ?_
  rintro _ _ ⟨rfl, u1, hu1, rfl⟩
  refine ezw_istore rfl rfl ?_
  refine ezw_iload rfl rfl ?_
  refine ezw_if_gt rfl rfl ha4 (fun h9_1 => ?_) (fun h9_1 => ?_)
  · refine ezw_iconst (-1) rfl rfl ?_
    exact ezw_ireturn rfl rfl ⟨⟨F, A, rfl, hI⟩, _, ⟨by decide, by decide⟩, rfl⟩
  · refine ezw_iload rfl rfl ?_
    refine ezw_if_le rfl rfl ⟨by omega, by omega⟩ (fun h14_1 => ?_) (fun h14_1 => ?_)
    · refine ezw_iconst (-1) rfl rfl ?_
      exact ezw_ireturn rfl rfl ⟨⟨F, A, rfl, hI⟩, _, ⟨by decide, by decide⟩, rfl⟩
    · refine ezw_aload_n rfl rfl ?_
      refine ezs_get_i hI rfl rfl rfl rfl rfl rfl (fun u2 hu2 ku2 => ?_)
      refine ezw_aload_n rfl rfl ?_
      refine ezs_getp (p := 50) rfl rfl rfl rfl rfl ?_
      refine ezw_aload_n rfl rfl ?_
      refine ezs_getp (p := 25) rfl rfl rfl rfl rfl ?_
      refine ezw_iload_n rfl rfl ?_
      refine ezw_iconst (1) rfl rfl ?_
      refine ezs_isub rfl (fun u3 hu3 => ?_)
      refine ezw_call3_2 rfl (by omega) rfl rfl (ezs_m27_25 hI (by omega) hu3) ?_
      rintro _ _ ⟨rfl, u4, hu4, rfl⟩
      refine ezw_call3_2 rfl (by omega) rfl rfl (ezs_m27_50 hI (by omega) hu4) ?_
      rintro _ _ ⟨rfl, u5, hu5, rfl⟩
      refine ezw_icmp_eq rfl rfl hu2 hu5 (fun h38_5 => ?_) (fun h38_5 => ?_)
      · refine ezw_iload rfl rfl ?_
        refine ezw_aload_n rfl rfl ?_
        refine ezw_aload_n rfl rfl ?_
        refine ezw_iload_n rfl rfl ?_
        refine ezw_iload_n rfl rfl ?_
        refine ezw_iconst (1) rfl rfl ?_
        refine ezs_isub rfl (fun u6 hu6 => ?_)
        refine ezw_iconst (0) rfl rfl ?_
        refine ezw_iload rfl rfl ?_
        refine ezw_call0_5 rfl (by omega) (ezu_at rfl) rfl rfl rfl rfl (ezs_m149_23_47_l4 hI (by omega) (fun q h0 h1 => hzA q (by omega) (by omega)) ha2 (by omega) hu6 ⟨by decide, by decide⟩ ha5) ?_
        rintro _ _ ⟨⟨F, A, rfl, hI⟩, u7, hu7, rfl⟩
        refine ezw_call2_1 rfl (by omega) rfl rfl (ezs_m152 hI (by omega) hu7) ?_
        rintro _ _ ⟨rfl, u8, hu8, rfl⟩
        refine ezs_imul rfl (fun u9 hu9 => ?_)
        refine ezw_istore rfl rfl ?_
        refine ezw_iload rfl rfl ?_
        refine ezw_bipush (10) rfl rfl ?_
        refine ezw_icmp_ge rfl rfl ⟨by omega, by omega⟩ ⟨by decide, by decide⟩ (fun h67_9 => ?_) (fun h67_9 => ?_)
        · refine ezw_iload rfl rfl ?_
          refine ezw_bipush (10) rfl rfl ?_
          refine ezs_idiv rfl hu9 ⟨by decide, by decide⟩ (by omega) (fun u10 hu10 => ?_)
          exact ezw_ireturn rfl rfl ⟨⟨F, A, rfl, hI⟩, _, hu10, rfl⟩
        · refine ezw_iload rfl rfl ?_
          refine ezw_bipush (10) rfl rfl ?_
          refine ezw_iload rfl rfl ?_
          refine ezs_isub rfl (fun u11 hu11 => ?_)
          refine ezw_aload_n rfl rfl ?_
          refine ezw_aload_n rfl rfl ?_
          refine ezw_iload_n rfl rfl ?_
          refine ezw_iload_n rfl rfl ?_
          refine ezw_iload rfl rfl ?_
          refine ezw_iload rfl rfl ?_
          refine ezw_call0_5 rfl (by omega) (ezu_at rfl) rfl rfl rfl rfl (ezs_m149_23_47_l4 hI (by omega) (fun q h0 h1 => hzA q (by omega) (by omega)) ha2 (by omega) ha3 ha4 ha5) ?_
          rintro _ _ ⟨⟨F, A, rfl, hI⟩, u12, hu12, rfl⟩
          refine ezw_call2_1 rfl (by omega) rfl rfl (ezs_m152 hI (by omega) hu12) ?_
          rintro _ _ ⟨rfl, u13, hu13, rfl⟩
          refine ezs_imul rfl (fun u14 hu14 => ?_)
          refine ezs_iadd rfl (fun u15 hu15 => ?_)
          refine ezw_istore rfl rfl ?_
          refine ezw_iload rfl rfl ?_
          refine ezw_bipush (10) rfl rfl ?_
          refine ezs_idiv rfl hu15 ⟨by decide, by decide⟩ (by omega) (fun u16 hu16 => ?_)
          exact ezw_ireturn rfl rfl ⟨⟨F, A, rfl, hI⟩, _, hu16, rfl⟩
      · refine ezw_iconst (-1) rfl rfl ?_
        exact ezw_ireturn rfl rfl ⟨⟨F, A, rfl, hI⟩, _, ⟨by decide, by decide⟩, rfl⟩
theorem ezs_m151_23_47_l5 {a2 a3 a4 a5 a6 : Int} {F : Nat → Nat → Int} {A : Nat → Int → Int} (hI : ezs_I fz F0 A0 F A) (hd : 15 ≤ d) (hzA : ∀ q, 24 ≤ q → q < 25 → fz q = false) (ha2 : ezw_in a2) (ha3 : ezw_in a3) (ga3 : a3 ≤ 4) (ha4 : ezw_in a4) (ha5 : ezw_in a5) (ha6 : ezw_in a6) : ezw_C l ρ B xa Hb D cA 151 d [ezw_p 23, ezw_p 47, ezw_i a2, ezw_i a3, ezw_i a4, ezw_i a5, ezw_i a6] (ezu_g e F A) (ezs_P e fz F0 A0 ezs_ri) := by
  refine ezw_met (k := 7) rfl rfl ?_
  refine ezw_iload_n rfl rfl ?_
  refine ezw_iconst (1) rfl rfl ?_
  refine ezs_isub rfl (fun u1 hu1 => ?_)
  refine ezw_iconst (4) rfl rfl ?_
  refine ezs_irem rfl hu1 ⟨by decide, by decide⟩ (by omega) (fun u2 hu2 => ?_)
  refine ezw_istore rfl rfl ?_
  refine ezw_iload_n rfl rfl ?_
  refine ezw_iconst (5) rfl rfl ?_
  have J17_3 : ∀ y3 : Int, ezs_b y3 → ∀ F A, ezs_I fz F0 A0 F A → ezw_E l ρ B xa Hb D cA d ezq_re151 (ezs_P e fz F0 A0 ezs_ri) 17 [some (ezw_p 23), some (ezw_p 47), some (ezw_i a2), some (ezw_i a3), some (ezw_i a4), some (ezw_i a5), some (ezw_i a6), some (ezw_i u2), none, none, none, none, none, none] [(ezw_i y3)] (ezu_g e F A) := by
    intro y3 hy3 F A hI
    refine ezw_istore rfl rfl ?_
    refine ezw_aload_n rfl rfl ?_
    refine ezs_getp (p := 25) rfl rfl rfl rfl rfl ?_
    refine ezw_iload rfl rfl ?_
    refine ezw_iconst (1) rfl rfl ?_
    refine ezs_isub rfl (fun u5 hu5 => ?_)
    refine ezw_call3_2 rfl (by omega) rfl rfl (ezs_m27_25 hI (by omega) hu5) ?_
    rintro _ _ ⟨rfl, u6, hu6, rfl⟩
    refine ezw_istore rfl rfl ?_
    refine ezw_aload_n rfl rfl ?_
    refine ezw_iload rfl rfl ?_
    refine ezw_iload rfl rfl ?_
    refine ezw_iload rfl rfl ?_
    refine ezw_iload rfl rfl ?_
    refine ezw_call0_4 rfl (by omega) (ezu_at rfl) rfl rfl rfl rfl (ezs_m113_47 hI (by omega) hu6 ha5 hu2 ⟨by omega, by omega⟩) ?_
    rintro _ _ ⟨rfl, u7, hu7, rfl⟩
    refine ezw_istore rfl rfl ?_
    refine ezw_aload_n rfl rfl ?_
    refine ezw_iload rfl rfl ?_
    refine ezw_iload rfl rfl ?_
    refine ezw_iload rfl rfl ?_
    refine ezw_iload rfl rfl ?_
    refine ezw_call0_4 rfl (by omega) (ezu_at rfl) rfl rfl rfl rfl (ezs_m116_47 hI (by omega) hu6 ha5 hu2 ⟨by omega, by omega⟩) ?_
    rintro _ _ ⟨rfl, u8, hu8, rfl⟩
    refine ezw_istore rfl rfl ?_
    refine ezw_iconst (0) rfl rfl ?_
    refine ezw_istore rfl rfl ?_
    refine ezw_iload rfl rfl ?_
    have J95_9 : ∀ y9 : Int, ezw_in y9 → ∀ F A, ezs_I fz F0 A0 F A → ezw_E l ρ B xa Hb D cA d ezq_re151 (ezs_P e fz F0 A0 ezs_ri) 95 [some (ezw_p 23), some (ezw_p 47), some (ezw_i a2), some (ezw_i a3), some (ezw_i a4), some (ezw_i a5), some (ezw_i a6), some (ezw_i u2), some (ezw_i y3), some (ezw_i u6), some (ezw_i u7), some (ezw_i u8), some (ezw_i y9), none] [] (ezu_g e F A) := by
      intro y9 hy9 F A hI
      refine ezw_iload rfl rfl ?_
      refine ezw_bipush (10) rfl rfl ?_
      have J131_11 : ∀ y11 : Int, ezw_in y11 → ∀ F A, ezs_I fz F0 A0 F A → ezw_E l ρ B xa Hb D cA d ezq_re151 (ezs_P e fz F0 A0 ezs_ri) 131 [some (ezw_p 23), some (ezw_p 47), some (ezw_i a2), some (ezw_i a3), some (ezw_i a4), some (ezw_i a5), some (ezw_i a6), some (ezw_i u2), some (ezw_i y3), some (ezw_i u6), some (ezw_i u7), some (ezw_i u8), some (ezw_i y11), none] [] (ezu_g e F A) := by
        intro y11 hy11 F A hI
        refine ezw_iload rfl rfl ?_
        refine ezw_bipush (10) rfl rfl ?_
        refine ezw_icmp_ge rfl rfl hu7 ⟨by decide, by decide⟩ (fun h135_12 => ?_) (fun h135_12 => ?_)
        · refine ezw_iload rfl rfl ?_
          refine ezw_bipush (100) rfl rfl ?_
          refine ezs_idiv rfl hy11 ⟨by decide, by decide⟩ (by omega) (fun u13 hu13 => ?_)
          exact ezw_ireturn rfl rfl ⟨⟨F, A, rfl, hI⟩, _, hu13, rfl⟩
        · refine ezw_iload rfl rfl ?_
          refine ezw_bipush (10) rfl rfl ?_
          refine ezw_icmp_ge rfl rfl hu8 ⟨by decide, by decide⟩ (fun h142_13 => ?_) (fun h142_13 => ?_)
          · refine ezw_iload rfl rfl ?_
            refine ezw_bipush (100) rfl rfl ?_
            refine ezs_idiv rfl hy11 ⟨by decide, by decide⟩ (by omega) (fun u14 hu14 => ?_)
            exact ezw_ireturn rfl rfl ⟨⟨F, A, rfl, hI⟩, _, hu14, rfl⟩
          · refine ezw_bipush (9) rfl rfl ?_
            refine ezw_iload rfl rfl ?_
            refine ezw_iload rfl rfl ?_
            have J159_15 : ∀ y15 : Int, ezw_in y15 → ∀ F A, ezs_I fz F0 A0 F A → ezw_E l ρ B xa Hb D cA d ezq_re151 (ezs_P e fz F0 A0 ezs_ri) 159 [some (ezw_p 23), some (ezw_p 47), some (ezw_i a2), some (ezw_i a3), some (ezw_i a4), some (ezw_i a5), some (ezw_i a6), some (ezw_i u2), some (ezw_i y3), some (ezw_i u6), some (ezw_i u7), some (ezw_i u8), some (ezw_i y11), none] [(ezw_i y15), (ezw_i a5), (ezw_i (9))] (ezu_g e F A) := by
              intro y15 hy15 F A hI
              refine ezs_iadd rfl (fun u17 hu17 => ?_)
              refine ezw_mminE rfl ⟨by decide, by decide⟩ hu17 rfl (fun u18 hu18 => ?_)
              refine ezw_istore rfl rfl ?_
              refine ezw_iload rfl rfl ?_
              refine ezw_bipush (10) rfl rfl ?_
              refine ezw_iload rfl rfl ?_
              refine ezs_isub rfl (fun u19 hu19 => ?_)
              refine ezw_bipush (10) rfl rfl ?_
              refine ezw_iload rfl rfl ?_
              refine ezs_isub rfl (fun u20 hu20 => ?_)
              refine ezs_imul rfl (fun u21 hu21 => ?_)
              refine ezw_aload_n rfl rfl ?_
              refine ezw_aload_n rfl rfl ?_
              refine ezw_iload_n rfl rfl ?_
              refine ezw_iload rfl rfl ?_
              refine ezw_iload rfl rfl ?_
              refine ezw_iload rfl rfl ?_
              refine ezw_call0_5 rfl (by omega) (ezu_at rfl) rfl rfl rfl rfl (ezs_m149_23_47_l4 hI (by omega) (fun q h0 h1 => hzA q (by omega) (by omega)) ha3 (by omega) ha4 ⟨by omega, by omega⟩ ha6) ?_
              rintro _ _ ⟨⟨F, A, rfl, hI⟩, u22, hu22, rfl⟩
              refine ezw_call2_1 rfl (by omega) rfl rfl (ezs_m152 hI (by omega) hu22) ?_
              rintro _ _ ⟨rfl, u23, hu23, rfl⟩
              refine ezs_imul rfl (fun u24 hu24 => ?_)
              refine ezs_iadd rfl (fun u25 hu25 => ?_)
              refine ezw_istore rfl rfl ?_
              refine ezw_iload rfl rfl ?_
              refine ezw_bipush (100) rfl rfl ?_
              refine ezs_idiv rfl hu25 ⟨by decide, by decide⟩ (by omega) (fun u26 hu26 => ?_)
              exact ezw_ireturn rfl rfl ⟨⟨F, A, rfl, hI⟩, _, hu26, rfl⟩
            refine ezw_if_eq rfl rfl ⟨by omega, by omega⟩ (fun h151_14 => ?_) (fun h151_14 => ?_)
            · refine ezw_iconst (1) rfl rfl ?_
              exact ezw_keepE [true, true, true, true, true, true, true, true, true, true, true, true, true, false] (J159_15 (1) ⟨by decide, by decide⟩ F A hI)
            · refine ezw_iconst (2) rfl rfl ?_
              refine ezw_goto rfl rfl ?_
              exact ezw_keepE [true, true, true, true, true, true, true, true, true, true, true, true, true, false] (J159_15 (2) ⟨by decide, by decide⟩ F A hI)
      refine ezw_icmp_ge rfl rfl hu7 ⟨by decide, by decide⟩ (fun h99_10 => ?_) (fun h99_10 => ?_)
      · exact ezw_keepE [true, true, true, true, true, true, true, true, true, true, true, true, true, false] (J131_11 y9 hy9 F A hI)
      · refine ezw_iload rfl rfl ?_
        refine ezw_if_le rfl rfl hu8 (fun h104_26 => ?_) (fun h104_26 => ?_)
        · exact ezw_keepE [true, true, true, true, true, true, true, true, true, true, true, true, true, false] (J131_11 y9 hy9 F A hI)
        · refine ezw_iload rfl rfl ?_
          refine ezw_bipush (10) rfl rfl ?_
          refine ezw_iload rfl rfl ?_
          refine ezs_isub rfl (fun u27 hu27 => ?_)
          refine ezw_iload rfl rfl ?_
          refine ezs_imul rfl (fun u28 hu28 => ?_)
          refine ezw_sipush (1000) rfl rfl ?_
          refine ezs_imul rfl (fun u29 hu29 => ?_)
          refine ezw_aload_n rfl rfl ?_
          refine ezw_iload rfl rfl ?_
          refine ezw_call0_1 rfl (by omega) (ezu_at rfl) rfl rfl rfl rfl (ezs_m144_47 hI (by omega) ha6) ?_
          rintro _ _ ⟨rfl, u30, hu30, rfl⟩
          refine ezs_imul rfl (fun u31 hu31 => ?_)
          refine ezs_iadd rfl (fun u32 hu32 => ?_)
          refine ezw_istore rfl rfl ?_
          exact ezw_keepE [true, true, true, true, true, true, true, true, true, true, true, true, true, false] (J131_11 u32 hu32 F A hI)
    refine ezw_if_le rfl rfl hu7 (fun h65_8 => ?_) (fun h65_8 => ?_)
    · exact ezw_keepE [true, true, true, true, true, true, true, true, true, true, true, true, true, false] (J95_9 (0) ⟨by decide, by decide⟩ F A hI)
    · refine ezw_iload rfl rfl ?_
      refine ezw_bipush (10) rfl rfl ?_
      refine ezw_iload rfl rfl ?_
      refine ezs_imul rfl (fun u33 hu33 => ?_)
      refine ezw_aload_n rfl rfl ?_
      refine ezw_aload_n rfl rfl ?_
      refine ezw_iload_n rfl rfl ?_
      refine ezw_iload rfl rfl ?_
      refine ezw_iconst (1) rfl rfl ?_
      refine ezs_isub rfl (fun u34 hu34 => ?_)
      refine ezw_iconst (0) rfl rfl ?_
      refine ezw_iload rfl rfl ?_
      refine ezw_call0_5 rfl (by omega) (ezu_at rfl) rfl rfl rfl rfl (ezs_m149_23_47_l4 hI (by omega) (fun q h0 h1 => hzA q (by omega) (by omega)) ha3 (by omega) hu34 ⟨by decide, by decide⟩ ha6) ?_
      rintro _ _ ⟨⟨F, A, rfl, hI⟩, u35, hu35, rfl⟩
      refine ezw_call2_1 rfl (by omega) rfl rfl (ezs_m152 hI (by omega) hu35) ?_
      rintro _ _ ⟨rfl, u36, hu36, rfl⟩
      refine ezs_imul rfl (fun u37 hu37 => ?_)
      refine ezs_iadd rfl (fun u38 hu38 => ?_)
      refine ezw_istore rfl rfl ?_
      exact ezw_keepE [true, true, true, true, true, true, true, true, true, true, true, true, true, false] (J95_9 u38 hu38 F A hI)
  refine ezw_icmp_lt rfl rfl ha2 ⟨by decide, by decide⟩ (fun h9_2 => ?_) (fun h9_2 => ?_)
  · refine ezw_iconst (0) rfl rfl ?_
    exact ezw_keepE [true, true, true, true, true, true, true, true, false, false, false, false, false, false] (J17_3 (0) ⟨by omega, by omega⟩ F A hI)
  · refine ezw_iconst (1) rfl rfl ?_
    refine ezw_goto rfl rfl ?_
    exact ezw_keepE [true, true, true, true, true, true, true, true, false, false, false, false, false, false] (J17_3 (1) ⟨by omega, by omega⟩ F A hI)
theorem ezs_m150_23_47_l5 {a2 a3 a4 a5 a6 : Int} {F : Nat → Nat → Int} {A : Nat → Int → Int} (hI : ezs_I fz F0 A0 F A) (hd : 16 ≤ d) (hzA : ∀ q, 24 ≤ q → q < 25 → fz q = false) (ha2 : ezw_in a2) (ha3 : ezw_in a3) (ga3 : a3 ≤ 4) (ha4 : ezw_in a4) (ha5 : ezw_in a5) (ha6 : ezw_in a6) : ezw_C l ρ B xa Hb D cA 150 d [ezw_p 23, ezw_p 47, ezw_i a2, ezw_i a3, ezw_i a4, ezw_i a5, ezw_i a6] (ezu_g e F A) (ezs_P e fz F0 A0 ezs_ri) := by
  refine ezw_met (k := 0) rfl rfl ?_
  refine ezw_iload_n rfl rfl ?_
  refine ezw_bipush (9) rfl rfl ?_
  refine ezw_icmp_ge rfl rfl ha2 ⟨by decide, by decide⟩ (fun h3_0 => ?_) (fun h3_0 => ?_)
  · refine ezw_iload_n rfl rfl ?_
    refine ezw_bipush (9) rfl rfl ?_
    refine ezw_icmp_ne rfl rfl ha2 ⟨by decide, by decide⟩ (fun h23_0 => ?_) (fun h23_0 => ?_)
    · refine ezw_iload_n rfl rfl ?_
      refine ezw_bipush (10) rfl rfl ?_
      refine ezw_icmp_ne rfl rfl ha2 ⟨by decide, by decide⟩ (fun h56_0 => ?_) (fun h56_0 => ?_)
      · refine ezw_aload_n rfl rfl ?_
        refine ezw_aload_n rfl rfl ?_
        refine ezw_iload_n rfl rfl ?_
        refine ezw_bipush (11) rfl rfl ?_
        refine ezs_isub rfl (fun u1 hu1 => ?_)
        refine ezw_iload_n rfl rfl ?_
        refine ezw_iload rfl rfl ?_
        refine ezw_iload rfl rfl ?_
        refine ezw_iload rfl rfl ?_
        refine ezw_call0_6 rfl (by omega) (ezu_at rfl) rfl rfl rfl rfl (ezs_m154_23_47_l5 hI (by omega) (fun q h0 h1 => hzA q (by omega) (by omega)) hu1 ha3 (by omega) ha4 ha5 ha6) ?_
        rintro _ _ ⟨⟨F, A, rfl, hI⟩, u2, hu2, rfl⟩
        exact ezw_ireturn rfl rfl ⟨⟨F, A, rfl, hI⟩, _, hu2, rfl⟩
      · refine ezw_aload_n rfl rfl ?_
        refine ezw_aload_n rfl rfl ?_
        refine ezw_iload_n rfl rfl ?_
        refine ezw_iload rfl rfl ?_
        refine ezw_iload rfl rfl ?_
        refine ezw_iload rfl rfl ?_
        refine ezw_call0_5 rfl (by omega) (ezu_at rfl) rfl rfl rfl rfl (ezs_m153_23_47_l5 hI (by omega) (fun q h0 h1 => hzA q (by omega) (by omega)) ha3 (by omega) ha4 ha5 ha6) ?_
        rintro _ _ ⟨⟨F, A, rfl, hI⟩, u3, hu3, rfl⟩
        exact ezw_ireturn rfl rfl ⟨⟨F, A, rfl, hI⟩, _, hu3, rfl⟩
    · refine ezw_iload rfl rfl ?_
      refine ezw_if_le rfl rfl ha5 (fun h28_3 => ?_) (fun h28_3 => ?_)
      · refine ezw_iconst (-1) rfl rfl ?_
        exact ezw_ireturn rfl rfl ⟨⟨F, A, rfl, hI⟩, _, ⟨by decide, by decide⟩, rfl⟩
      · refine ezw_aload_n rfl rfl ?_
        refine ezw_aload_n rfl rfl ?_
        refine ezw_iload_n rfl rfl ?_
        refine ezw_iload rfl rfl ?_
        refine ezw_iload rfl rfl ?_
        refine ezw_iconst (1) rfl rfl ?_
        refine ezs_isub rfl (fun u4 hu4 => ?_)
        refine ezw_iload rfl rfl ?_
        refine ezw_call0_5 rfl (by omega) (ezu_at rfl) rfl rfl rfl rfl (ezs_m149_23_47_l4 hI (by omega) (fun q h0 h1 => hzA q (by omega) (by omega)) ha3 (by omega) ha4 hu4 ha6) ?_
        rintro _ _ ⟨⟨F, A, rfl, hI⟩, u5, hu5, rfl⟩
        refine ezw_call2_1 rfl (by omega) rfl rfl (ezs_m152 hI (by omega) hu5) ?_
        rintro _ _ ⟨rfl, u6, hu6, rfl⟩
        refine ezw_goto rfl rfl ?_
        exact ezw_ireturn rfl rfl ⟨⟨F, A, rfl, hI⟩, _, hu6, rfl⟩
  · refine ezw_aload_n rfl rfl ?_
    refine ezw_aload_n rfl rfl ?_
    refine ezw_iload_n rfl rfl ?_
    refine ezw_iload_n rfl rfl ?_
    refine ezw_iload rfl rfl ?_
    refine ezw_iload rfl rfl ?_
    refine ezw_iload rfl rfl ?_
    refine ezw_call0_6 rfl (by omega) (ezu_at rfl) rfl rfl rfl rfl (ezs_m151_23_47_l5 hI (by omega) (fun q h0 h1 => hzA q (by omega) (by omega)) ha2 ha3 (by omega) ha4 ha5 ha6) ?_
    rintro _ _ ⟨⟨F, A, rfl, hI⟩, u7, hu7, rfl⟩
    exact ezw_ireturn rfl rfl ⟨⟨F, A, rfl, hI⟩, _, hu7, rfl⟩
theorem ezs_m149_23_47_l5 {a2 a3 a4 a5 : Int} {F : Nat → Nat → Int} {A : Nat → Int → Int} (hI : ezs_I fz F0 A0 F A) (hd : 17 ≤ d) (hzA : ∀ q, 24 ≤ q → q < 25 → fz q = false) (ha2 : ezw_in a2) (ga2 : a2 ≤ 5) (ha3 : ezw_in a3) (ha4 : ezw_in a4) (ha5 : ezw_in a5) : ezw_C l ρ B xa Hb D cA 149 d [ezw_p 23, ezw_p 47, ezw_i a2, ezw_i a3, ezw_i a4, ezw_i a5] (ezu_g e F A) (ezs_P e fz F0 A0 ezs_ri) := by
  refine ezw_met (k := 5) rfl rfl ?_
  refine ezw_sipush (1000) rfl rfl ?_
  refine ezw_aload_n rfl rfl ?_
  refine ezw_iload rfl rfl ?_
  refine ezw_call0_1 rfl (by omega) (ezu_at rfl) rfl rfl rfl rfl (ezs_m144_47 hI (by omega) ha5) ?_
  rintro _ _ ⟨rfl, u1, hu1, rfl⟩
  refine ezw_iload_n rfl rfl ?_
  have J21_2 : ∀ y2 : Int, ezw_in y2 → ∀ F A, ezs_I fz F0 A0 F A → ezw_E l ρ B xa Hb D cA d ezq_re149 (ezs_P e fz F0 A0 ezs_ri) 21 [some (ezw_p 23), some (ezw_p 47), some (ezw_i a2), some (ezw_i a3), some (ezw_i a4), some (ezw_i a5), none, none, none, none, none] [(ezw_i y2), (ezw_i u1), (ezw_i (1000))] (ezu_g e F A) := by
    intro y2 hy2 F A hI
    refine ezs_iadd rfl (fun u4 hu4 => ?_)
    refine ezs_imul rfl (fun u5 hu5 => ?_)
    refine ezw_istore rfl rfl ?_
    refine ezw_iconst (0) rfl rfl ?_
    refine ezw_istore rfl rfl ?_
    refine ezw_iload_n rfl rfl ?_
    refine ezw_if_le rfl rfl ha2 (fun h29_5 => ?_) (fun h29_5 => ?_)
    · refine ezw_iload rfl rfl ?_
      refine ezw_bipush (16) rfl rfl ?_
      refine ezs_imul rfl (fun u6 hu6 => ?_)
      refine ezw_iload rfl rfl ?_
      refine ezs_iadd rfl (fun u7 hu7 => ?_)
      exact ezw_ireturn rfl rfl ⟨⟨F, A, rfl, hI⟩, _, hu7, rfl⟩
    · refine ezw_iload_n rfl rfl ?_
      refine ezw_if_gt rfl rfl ha3 (fun h33_7 => ?_) (fun h33_7 => ?_)
      · refine ezw_iload_n rfl rfl ?_
        refine ezw_iconst (1) rfl rfl ?_
        refine ezs_isub rfl (fun u8 hu8 => ?_)
        refine ezw_bipush (6) rfl rfl ?_
        refine ezs_imul rfl (fun u9 hu9 => ?_)
        refine ezw_iload_n rfl rfl ?_
        refine ezs_iadd rfl (fun u10 hu10 => ?_)
        refine ezw_iconst (1) rfl rfl ?_
        refine ezs_isub rfl (fun u11 hu11 => ?_)
        refine ezw_bipush (10) rfl rfl ?_
        refine ezs_imul rfl (fun u12 hu12 => ?_)
        refine ezw_iload rfl rfl ?_
        refine ezs_iadd rfl (fun u13 hu13 => ?_)
        refine ezw_bipush (16) rfl rfl ?_
        refine ezs_imul rfl (fun u14 hu14 => ?_)
        refine ezw_iload rfl rfl ?_
        refine ezs_iadd rfl (fun u15 hu15 => ?_)
        refine ezw_istore rfl rfl ?_
        refine ezw_aload_n rfl rfl ?_
        refine ezs_getp (p := 24) rfl rfl rfl rfl rfl ?_
        refine ezw_iload rfl rfl ?_
        refine ezw_call3_2 rfl (by omega) rfl rfl (ezs_m27_24 hI (by omega) hu15) ?_
        rintro _ _ ⟨rfl, u16, hu16, rfl⟩
        refine ezw_iconst (-1) rfl rfl ?_
        refine ezw_icmp_eq rfl rfl hu16 ⟨by decide, by decide⟩ (fun h79_16 => ?_) (fun h79_16 => ?_)
        · refine ezw_iconst (1) rfl rfl ?_
          refine ezw_istore rfl rfl ?_
          have L95_19 : ∀ c19 : Int, ezw_in c19 → (1) ≤ c19 → ∀ y17 : Int, ezw_in y17 → ∀ y18 : Int, ezw_in y18 → ∀ F A, ezs_I fz F0 A0 F A → ezw_E l ρ B xa Hb D cA d ezq_re149 (ezs_P e fz F0 A0 ezs_ri) 95 [some (ezw_p 23), some (ezw_p 47), some (ezw_i a2), some (ezw_i a3), some (ezw_i a4), some (ezw_i a5), some (ezw_i y17), some (ezw_i y18), some (ezw_i u15), some (ezw_i c19), none] [] (ezu_g e F A) := by
            refine ezs_up ?_
            intro c19 hc19 ihc19 gc19 y17 hy17 y18 hy18 F A hI
            refine ezw_iload rfl rfl ?_
            refine ezw_bipush (15) rfl rfl ?_
            have J140_23 : ∀ y21 : Int, ezw_in y21 → ∀ y22 : Int, ezw_in y22 → ∀ y23 : Int, ezw_in y23 → ∀ F A, ezs_I fz F0 A0 F A → ezw_E l ρ B xa Hb D cA d ezq_re149 (ezs_P e fz F0 A0 ezs_ri) 140 [some (ezw_p 23), some (ezw_p 47), some (ezw_i a2), some (ezw_i a3), some (ezw_i a4), some (ezw_i a5), some (ezw_i y21), some (ezw_i y22), some (ezw_i u15), some (ezw_i y23), none] [] (ezu_g e F A) := by
              intro y21 hy21 y22 hy22 y23 hy23 F A hI
              refine ezw_aload_n rfl rfl ?_
              refine ezs_getp (p := 24) rfl rfl rfl rfl rfl ?_
              refine ezw_iload rfl rfl ?_
              refine ezw_iload rfl rfl ?_
              refine ezw_bipush (16) rfl rfl ?_
              refine ezs_imul rfl (fun u25 hu25 => ?_)
              refine ezw_iload rfl rfl ?_
              refine ezs_iadd rfl (fun u26 hu26 => ?_)
              refine ezw_call3_3 rfl (by omega) rfl rfl (ezs_m21_24 hI (by omega) (fun q h0 h1 => hzA q (by omega) (by omega)) hu15 hu26) ?_
              rintro _ _ ⟨⟨F, A, rfl, hI⟩, rfl⟩
              refine ezw_iload rfl rfl ?_
              refine ezw_bipush (16) rfl rfl ?_
              refine ezs_imul rfl (fun u27 hu27 => ?_)
              refine ezw_iload rfl rfl ?_
              refine ezs_iadd rfl (fun u28 hu28 => ?_)
              exact ezw_ireturn rfl rfl ⟨⟨F, A, rfl, hI⟩, _, hu28, rfl⟩
            refine ezw_icmp_ge rfl rfl hc19 ⟨by decide, by decide⟩ (fun h99_20 => ?_) (fun h99_20 => ?_)
            · exact ezw_keepE [true, true, true, true, true, true, true, true, true, true, false] (J140_23 y17 hy17 y18 hy18 c19 hc19 F A hI)
            · refine ezw_aload_n rfl rfl ?_
              refine ezw_aload_n rfl rfl ?_
              refine ezw_iload rfl rfl ?_
              refine ezw_iload_n rfl rfl ?_
              refine ezw_iconst (1) rfl rfl ?_
              refine ezw_isub rfl rfl ?_
              refine ezw_iload_n rfl rfl ?_
              refine ezw_iload rfl rfl ?_
              refine ezw_iload rfl rfl ?_
              refine ezw_call0_6 rfl (by omega) (ezu_at rfl) rfl rfl rfl rfl (ezs_m150_23_47_l5 hI (by omega) (fun q h0 h1 => hzA q (by omega) (by omega)) hc19 ⟨by omega, by omega⟩ (by omega) ha3 ha4 ha5) ?_
              rintro _ _ ⟨⟨F, A, rfl, hI⟩, u29, hu29, rfl⟩
              refine ezw_istore rfl rfl ?_
              refine ezw_iload rfl rfl ?_
              refine ezw_iload rfl rfl ?_
              refine ezw_icmp_le rfl rfl hu29 hy17 (fun h123_29 => ?_) (fun h123_29 => ?_)
              · refine ezw_iinc (1) rfl rfl rfl rfl rfl ?_
                refine ezw_goto rfl rfl ?_
                exact ezw_keepE [true, true, true, true, true, true, true, true, true, true, false] (ihc19 (c19 + (1)) (by omega) ⟨by omega, by omega⟩ (by omega) y17 hy17 y18 hy18 F A hI)
              · refine ezw_iload rfl rfl ?_
                refine ezw_istore rfl rfl ?_
                refine ezw_iload rfl rfl ?_
                refine ezw_istore rfl rfl ?_
                refine ezw_iinc (1) rfl rfl rfl rfl rfl ?_
                refine ezw_goto rfl rfl ?_
                exact ezw_keepE [true, true, true, true, true, true, true, true, true, true, false] (ihc19 (c19 + (1)) (by omega) ⟨by omega, by omega⟩ (by omega) u29 hu29 c19 hc19 F A hI)
          exact ezw_keepE [true, true, true, true, true, true, true, true, true, true, false] (L95_19 (1) ⟨by decide, by decide⟩ (by omega) u5 hu5 (0) ⟨by decide, by decide⟩ F A hI)
        · refine ezw_aload_n rfl rfl ?_
          refine ezs_getp (p := 24) rfl rfl rfl rfl rfl ?_
          refine ezw_iload rfl rfl ?_
          refine ezw_call3_2 rfl (by omega) rfl rfl (ezs_m27_24 hI (by omega) hu15) ?_
          rintro _ _ ⟨rfl, u30, hu30, rfl⟩
          exact ezw_ireturn rfl rfl ⟨⟨F, A, rfl, hI⟩, _, hu30, rfl⟩
      · refine ezw_iload rfl rfl ?_
        refine ezw_bipush (16) rfl rfl ?_
        refine ezs_imul rfl (fun u31 hu31 => ?_)
        refine ezw_iload rfl rfl ?_
        refine ezs_iadd rfl (fun u32 hu32 => ?_)
        exact ezw_ireturn rfl rfl ⟨⟨F, A, rfl, hI⟩, _, hu32, rfl⟩
  refine ezw_if_le rfl rfl ha3 (fun h10_1 => ?_) (fun h10_1 => ?_)
  · refine ezw_aload_n rfl rfl ?_
    refine ezs_get_i hI rfl rfl rfl rfl rfl rfl (fun u33 hu33 ku33 => ?_)
    exact ezw_keepE [true, true, true, true, true, true, false, false, false, false, false] (J21_2 u33 hu33 F A hI)
  · refine ezw_iconst (0) rfl rfl ?_
    refine ezw_goto rfl rfl ?_
    exact ezw_keepE [true, true, true, true, true, true, false, false, false, false, false] (J21_2 (0) ⟨by decide, by decide⟩ F A hI)
theorem ezs_m154_23_47_l6 {a2 a3 a4 a5 a6 : Int} {F : Nat → Nat → Int} {A : Nat → Int → Int} (hI : ezs_I fz F0 A0 F A) (hd : 18 ≤ d) (hzA : ∀ q, 24 ≤ q → q < 25 → fz q = false) (ha2 : ezw_in a2) (ha3 : ezw_in a3) (ga3 : a3 ≤ 5) (ha4 : ezw_in a4) (ha5 : ezw_in a5) (ha6 : ezw_in a6) : ezw_C l ρ B xa Hb D cA 154 d [ezw_p 23, ezw_p 47, ezw_i a2, ezw_i a3, ezw_i a4, ezw_i a5, ezw_i a6] (ezu_g e F A) (ezs_P e fz F0 A0 ezs_ri) := by
  refine ezw_met (k := 3) rfl rfl ?_
  refine ezw_iload rfl rfl ?_
  refine ezw_iload_n rfl rfl ?_
  refine ezw_call3_2 rfl (by omega) rfl rfl (ezs_m49 hI (by omega) ha6 ha2) ?_
  rintro _ _ ⟨rfl, u1, hu1, rfl⟩
  refine ezw_if_ne rfl rfl hu1 (fun h6_1 => ?_) (fun h6_1 => ?_)
  · refine ezw_aload_n rfl rfl ?_
    refine ezs_getp (p := 53) rfl rfl rfl rfl rfl ?_
    refine ezw_iload_n rfl rfl ?_
    refine ezw_call3_2 rfl (by omega) rfl rfl (ezs_m27_53 hI (by omega) ha2) ?_
    rintro _ _ ⟨rfl, u2, hu2, rfl⟩
    refine ezw_istore rfl rfl ?_
    refine ezw_aload_n rfl rfl ?_
    refine ezs_getp (p := 54) rfl rfl rfl rfl rfl ?_
    refine ezw_iload_n rfl rfl ?_
    refine ezw_call3_2 rfl (by omega) rfl rfl (ezs_m27_54 hI (by omega) ha2) ?_
    rintro _ _ ⟨rfl, u3, hu3, rfl⟩
    refine ezw_istore rfl rfl ?_
    refine ezw_iconst (0) rfl rfl ?_
    refine ezw_istore rfl rfl ?_
    refine ezw_iload rfl rfl ?_
    have J68_4 : ∀ y4 : Int, ezw_in y4 → ∀ F A, ezs_I fz F0 A0 F A → ezw_E l ρ B xa Hb D cA d ezq_re154 (ezs_P e fz F0 A0 ezs_ri) 68 [some (ezw_p 23), some (ezw_p 47), some (ezw_i a2), some (ezw_i a3), some (ezw_i a4), some (ezw_i a5), some (ezw_i a6), some (ezw_i u2), some (ezw_i u3), some (ezw_i y4)] [] (ezu_g e F A) := by
      intro y4 hy4 F A hI
      refine ezw_iload rfl rfl ?_
      have J97_6 : ∀ y6 : Int, ezw_in y6 → ∀ F A, ezs_I fz F0 A0 F A → ezw_E l ρ B xa Hb D cA d ezq_re154 (ezs_P e fz F0 A0 ezs_ri) 97 [some (ezw_p 23), some (ezw_p 47), some (ezw_i a2), some (ezw_i a3), some (ezw_i a4), some (ezw_i a5), some (ezw_i a6), some (ezw_i u2), some (ezw_i u3), some (ezw_i y6)] [] (ezu_g e F A) := by
        intro y6 hy6 F A hI
        refine ezw_iload rfl rfl ?_
        refine ezw_iload rfl rfl ?_
        refine ezs_iadd rfl (fun u8 hu8 => ?_)
        refine ezw_bipush (10) rfl rfl ?_
        refine ezw_icmp_ge rfl rfl hu8 ⟨by decide, by decide⟩ (fun h104_8 => ?_) (fun h104_8 => ?_)
        · refine ezw_iload rfl rfl ?_
          refine ezw_bipush (10) rfl rfl ?_
          refine ezs_idiv rfl hy6 ⟨by decide, by decide⟩ (by omega) (fun u9 hu9 => ?_)
          exact ezw_ireturn rfl rfl ⟨⟨F, A, rfl, hI⟩, _, hu9, rfl⟩
        · refine ezw_iload rfl rfl ?_
          refine ezw_bipush (10) rfl rfl ?_
          refine ezw_iload rfl rfl ?_
          refine ezs_isub rfl (fun u10 hu10 => ?_)
          refine ezw_iload rfl rfl ?_
          refine ezs_isub rfl (fun u11 hu11 => ?_)
          refine ezw_aload_n rfl rfl ?_
          refine ezw_aload_n rfl rfl ?_
          refine ezw_iload_n rfl rfl ?_
          refine ezw_iload rfl rfl ?_
          refine ezw_iload rfl rfl ?_
          refine ezw_iload rfl rfl ?_
          refine ezw_call0_5 rfl (by omega) (ezu_at rfl) rfl rfl rfl rfl (ezs_m149_23_47_l5 hI (by omega) (fun q h0 h1 => hzA q (by omega) (by omega)) ha3 (by omega) ha4 ha5 ha6) ?_
          rintro _ _ ⟨⟨F, A, rfl, hI⟩, u12, hu12, rfl⟩
          refine ezw_call2_1 rfl (by omega) rfl rfl (ezs_m152 hI (by omega) hu12) ?_
          rintro _ _ ⟨rfl, u13, hu13, rfl⟩
          refine ezs_imul rfl (fun u14 hu14 => ?_)
          refine ezs_iadd rfl (fun u15 hu15 => ?_)
          refine ezw_istore rfl rfl ?_
          refine ezw_iload rfl rfl ?_
          refine ezw_bipush (10) rfl rfl ?_
          refine ezs_idiv rfl hu15 ⟨by decide, by decide⟩ (by omega) (fun u16 hu16 => ?_)
          exact ezw_ireturn rfl rfl ⟨⟨F, A, rfl, hI⟩, _, hu16, rfl⟩
      refine ezw_if_le rfl rfl hu3 (fun h70_5 => ?_) (fun h70_5 => ?_)
      · exact ezw_keepE [true, true, true, true, true, true, true, true, true, true] (J97_6 y4 hy4 F A hI)
      · refine ezw_iload rfl rfl ?_
        refine ezw_iload rfl rfl ?_
        refine ezw_aload_n rfl rfl ?_
        refine ezw_aload_n rfl rfl ?_
        refine ezw_iload_n rfl rfl ?_
        refine ezw_iload rfl rfl ?_
        refine ezw_iconst (1) rfl rfl ?_
        refine ezs_isub rfl (fun u17 hu17 => ?_)
        refine ezw_iconst (0) rfl rfl ?_
        refine ezw_iload rfl rfl ?_
        refine ezw_call0_5 rfl (by omega) (ezu_at rfl) rfl rfl rfl rfl (ezs_m149_23_47_l5 hI (by omega) (fun q h0 h1 => hzA q (by omega) (by omega)) ha3 (by omega) hu17 ⟨by decide, by decide⟩ ha6) ?_
        rintro _ _ ⟨⟨F, A, rfl, hI⟩, u18, hu18, rfl⟩
        refine ezw_call2_1 rfl (by omega) rfl rfl (ezs_m152 hI (by omega) hu18) ?_
        rintro _ _ ⟨rfl, u19, hu19, rfl⟩
        refine ezs_imul rfl (fun u20 hu20 => ?_)
        refine ezs_iadd rfl (fun u21 hu21 => ?_)
        refine ezw_istore rfl rfl ?_
        exact ezw_keepE [true, true, true, true, true, true, true, true, true, true] (J97_6 u21 hu21 F A hI)
    refine ezw_if_le rfl rfl hu2 (fun h36_3 => ?_) (fun h36_3 => ?_)
    · exact ezw_keepE [true, true, true, true, true, true, true, true, true, true] (J68_4 (0) ⟨by decide, by decide⟩ F A hI)
    · refine ezw_iload rfl rfl ?_
      refine ezw_iload rfl rfl ?_
      refine ezw_aload_n rfl rfl ?_
      refine ezw_aload_n rfl rfl ?_
      refine ezw_iload_n rfl rfl ?_
      refine ezw_iload rfl rfl ?_
      refine ezw_iload rfl rfl ?_
      refine ezw_iload rfl rfl ?_
      refine ezw_iconst (1) rfl rfl ?_
      refine ezw_iload_n rfl rfl ?_
      refine ezw_ishlO rfl (fun u22 hu22 => ?_)
      refine ezw_iconst (-1) rfl rfl ?_
      refine ezs_ixor rfl (fun u23 hu23 => ?_)
      refine ezs_iand rfl (fun u24 hu24 => ?_)
      refine ezw_call0_5 rfl (by omega) (ezu_at rfl) rfl rfl rfl rfl (ezs_m149_23_47_l5 hI (by omega) (fun q h0 h1 => hzA q (by omega) (by omega)) ha3 (by omega) ha4 ha5 hu24) ?_
      rintro _ _ ⟨⟨F, A, rfl, hI⟩, u25, hu25, rfl⟩
      refine ezw_call2_1 rfl (by omega) rfl rfl (ezs_m152 hI (by omega) hu25) ?_
      rintro _ _ ⟨rfl, u26, hu26, rfl⟩
      refine ezs_imul rfl (fun u27 hu27 => ?_)
      refine ezs_iadd rfl (fun u28 hu28 => ?_)
      refine ezw_istore rfl rfl ?_
      exact ezw_keepE [true, true, true, true, true, true, true, true, true, true] (J68_4 u28 hu28 F A hI)
  · refine ezw_iconst (-1) rfl rfl ?_
    exact ezw_ireturn rfl rfl ⟨⟨F, A, rfl, hI⟩, _, ⟨by decide, by decide⟩, rfl⟩
theorem ezs_m153_23_47_l6 {a2 a3 a4 a5 : Int} {F : Nat → Nat → Int} {A : Nat → Int → Int} (hI : ezs_I fz F0 A0 F A) (hd : 18 ≤ d) (hzA : ∀ q, 24 ≤ q → q < 25 → fz q = false) (ha2 : ezw_in a2) (ga2 : a2 ≤ 5) (ha3 : ezw_in a3) (ha4 : ezw_in a4) (ha5 : ezw_in a5) : ezw_C l ρ B xa Hb D cA 153 d [ezw_p 23, ezw_p 47, ezw_i a2, ezw_i a3, ezw_i a4, ezw_i a5] (ezu_g e F A) (ezs_P e fz F0 A0 ezs_ri) := by
  refine ezw_met (k := 2) rfl rfl ?_
  refine ezw_aload_n rfl rfl ?_
  refine ezw_iconst (5) rfl rfl ?_
  refine ezw_call0_1 rfl (by omega) (ezu_at rfl) rfl rfl rfl rfl (ezs_m95_47 hI (by omega) ⟨by decide, by decide⟩) ?_
  rintro _ _ ⟨rfl, u1, hu1, rfl⟩
  refine ezw_istore rfl rfl ?_
  refine ezw_iload rfl rfl ?_
  refine ezw_if_gt rfl rfl ha4 (fun h9_1 => ?_) (fun h9_1 => ?_)
  · refine ezw_iconst (-1) rfl rfl ?_
    exact ezw_ireturn rfl rfl ⟨⟨F, A, rfl, hI⟩, _, ⟨by decide, by decide⟩, rfl⟩
  · refine ezw_iload rfl rfl ?_
    refine ezw_if_le rfl rfl ⟨by omega, by omega⟩ (fun h14_1 => ?_) (fun h14_1 => ?_)
    · refine ezw_iconst (-1) rfl rfl ?_
      exact ezw_ireturn rfl rfl ⟨⟨F, A, rfl, hI⟩, _, ⟨by decide, by decide⟩, rfl⟩
    · refine ezw_aload_n rfl rfl ?_
      refine ezs_get_i hI rfl rfl rfl rfl rfl rfl (fun u2 hu2 ku2 => ?_)
      refine ezw_aload_n rfl rfl ?_
      refine ezs_getp (p := 50) rfl rfl rfl rfl rfl ?_
      refine ezw_aload_n rfl rfl ?_
      refine ezs_getp (p := 25) rfl rfl rfl rfl rfl ?_
      refine ezw_iload_n rfl rfl ?_
      refine ezw_iconst (1) rfl rfl ?_
      refine ezs_isub rfl (fun u3 hu3 => ?_)
      refine ezw_call3_2 rfl (by omega) rfl rfl (ezs_m27_25 hI (by omega) hu3) ?_
      rintro _ _ ⟨rfl, u4, hu4, rfl⟩
      refine ezw_call3_2 rfl (by omega) rfl rfl (ezs_m27_50 hI (by omega) hu4) ?_
      rintro _ _ ⟨rfl, u5, hu5, rfl⟩
      refine ezw_icmp_eq rfl rfl hu2 hu5 (fun h38_5 => ?_) (fun h38_5 => ?_)
      · refine ezw_iload rfl rfl ?_
        refine ezw_aload_n rfl rfl ?_
        refine ezw_aload_n rfl rfl ?_
        refine ezw_iload_n rfl rfl ?_
        refine ezw_iload_n rfl rfl ?_
        refine ezw_iconst (1) rfl rfl ?_
        refine ezs_isub rfl (fun u6 hu6 => ?_)
        refine ezw_iconst (0) rfl rfl ?_
        refine ezw_iload rfl rfl ?_
        refine ezw_call0_5 rfl (by omega) (ezu_at rfl) rfl rfl rfl rfl (ezs_m149_23_47_l5 hI (by omega) (fun q h0 h1 => hzA q (by omega) (by omega)) ha2 (by omega) hu6 ⟨by decide, by decide⟩ ha5) ?_
        rintro _ _ ⟨⟨F, A, rfl, hI⟩, u7, hu7, rfl⟩
        refine ezw_call2_1 rfl (by omega) rfl rfl (ezs_m152 hI (by omega) hu7) ?_
        rintro _ _ ⟨rfl, u8, hu8, rfl⟩
        refine ezs_imul rfl (fun u9 hu9 => ?_)
        refine ezw_istore rfl rfl ?_
        refine ezw_iload rfl rfl ?_
        refine ezw_bipush (10) rfl rfl ?_
        refine ezw_icmp_ge rfl rfl ⟨by omega, by omega⟩ ⟨by decide, by decide⟩ (fun h67_9 => ?_) (fun h67_9 => ?_)
        · refine ezw_iload rfl rfl ?_
          refine ezw_bipush (10) rfl rfl ?_
          refine ezs_idiv rfl hu9 ⟨by decide, by decide⟩ (by omega) (fun u10 hu10 => ?_)
          exact ezw_ireturn rfl rfl ⟨⟨F, A, rfl, hI⟩, _, hu10, rfl⟩
        · refine ezw_iload rfl rfl ?_
          refine ezw_bipush (10) rfl rfl ?_
          refine ezw_iload rfl rfl ?_
          refine ezs_isub rfl (fun u11 hu11 => ?_)
          refine ezw_aload_n rfl rfl ?_
          refine ezw_aload_n rfl rfl ?_
          refine ezw_iload_n rfl rfl ?_
          refine ezw_iload_n rfl rfl ?_
          refine ezw_iload rfl rfl ?_
          refine ezw_iload rfl rfl ?_
          refine ezw_call0_5 rfl (by omega) (ezu_at rfl) rfl rfl rfl rfl (ezs_m149_23_47_l5 hI (by omega) (fun q h0 h1 => hzA q (by omega) (by omega)) ha2 (by omega) ha3 ha4 ha5) ?_
          rintro _ _ ⟨⟨F, A, rfl, hI⟩, u12, hu12, rfl⟩
          refine ezw_call2_1 rfl (by omega) rfl rfl (ezs_m152 hI (by omega) hu12) ?_
          rintro _ _ ⟨rfl, u13, hu13, rfl⟩
          refine ezs_imul rfl (fun u14 hu14 => ?_)
          refine ezs_iadd rfl (fun u15 hu15 => ?_)
          refine ezw_istore rfl rfl ?_
          refine ezw_iload rfl rfl ?_
          refine ezw_bipush (10) rfl rfl ?_
          refine ezs_idiv rfl hu15 ⟨by decide, by decide⟩ (by omega) (fun u16 hu16 => ?_)
          exact ezw_ireturn rfl rfl ⟨⟨F, A, rfl, hI⟩, _, hu16, rfl⟩
      · refine ezw_iconst (-1) rfl rfl ?_
        exact ezw_ireturn rfl rfl ⟨⟨F, A, rfl, hI⟩, _, ⟨by decide, by decide⟩, rfl⟩
theorem ezs_m151_23_47_l6 {a2 a3 a4 a5 a6 : Int} {F : Nat → Nat → Int} {A : Nat → Int → Int} (hI : ezs_I fz F0 A0 F A) (hd : 18 ≤ d) (hzA : ∀ q, 24 ≤ q → q < 25 → fz q = false) (ha2 : ezw_in a2) (ha3 : ezw_in a3) (ga3 : a3 ≤ 5) (ha4 : ezw_in a4) (ha5 : ezw_in a5) (ha6 : ezw_in a6) : ezw_C l ρ B xa Hb D cA 151 d [ezw_p 23, ezw_p 47, ezw_i a2, ezw_i a3, ezw_i a4, ezw_i a5, ezw_i a6] (ezu_g e F A) (ezs_P e fz F0 A0 ezs_ri) := by
  refine ezw_met (k := 7) rfl rfl ?_
  refine ezw_iload_n rfl rfl ?_
  refine ezw_iconst (1) rfl rfl ?_
  refine ezs_isub rfl (fun u1 hu1 => ?_)
  refine ezw_iconst (4) rfl rfl ?_
  refine ezs_irem rfl hu1 ⟨by decide, by decide⟩ (by omega) (fun u2 hu2 => ?_)
  refine ezw_istore rfl rfl ?_
  refine ezw_iload_n rfl rfl ?_
  refine ezw_iconst (5) rfl rfl ?_
  have J17_3 : ∀ y3 : Int, ezs_b y3 → ∀ F A, ezs_I fz F0 A0 F A → ezw_E l ρ B xa Hb D cA d ezq_re151 (ezs_P e fz F0 A0 ezs_ri) 17 [some (ezw_p 23), some (ezw_p 47), some (ezw_i a2), some (ezw_i a3), some (ezw_i a4), some (ezw_i a5), some (ezw_i a6), some (ezw_i u2), none, none, none, none, none, none] [(ezw_i y3)] (ezu_g e F A) := by
    intro y3 hy3 F A hI
    refine ezw_istore rfl rfl ?_
    refine ezw_aload_n rfl rfl ?_
    refine ezs_getp (p := 25) rfl rfl rfl rfl rfl ?_
    refine ezw_iload rfl rfl ?_
    refine ezw_iconst (1) rfl rfl ?_
    refine ezs_isub rfl (fun u5 hu5 => ?_)
    refine ezw_call3_2 rfl (by omega) rfl rfl (ezs_m27_25 hI (by omega) hu5) ?_
    rintro _ _ ⟨rfl, u6, hu6, rfl⟩
    refine ezw_istore rfl rfl ?_
    refine ezw_aload_n rfl rfl ?_
    refine ezw_iload rfl rfl ?_
    refine ezw_iload rfl rfl ?_
    refine ezw_iload rfl rfl ?_
    refine ezw_iload rfl rfl ?_
    refine ezw_call0_4 rfl (by omega) (ezu_at rfl) rfl rfl rfl rfl (ezs_m113_47 hI (by omega) hu6 ha5 hu2 ⟨by omega, by omega⟩) ?_
    rintro _ _ ⟨rfl, u7, hu7, rfl⟩
    refine ezw_istore rfl rfl ?_
    refine ezw_aload_n rfl rfl ?_
    refine ezw_iload rfl rfl ?_
    refine ezw_iload rfl rfl ?_
    refine ezw_iload rfl rfl ?_
    refine ezw_iload rfl rfl ?_
    refine ezw_call0_4 rfl (by omega) (ezu_at rfl) rfl rfl rfl rfl (ezs_m116_47 hI (by omega) hu6 ha5 hu2 ⟨by omega, by omega⟩) ?_
    rintro _ _ ⟨rfl, u8, hu8, rfl⟩
    refine ezw_istore rfl rfl ?_
    refine ezw_iconst (0) rfl rfl ?_
    refine ezw_istore rfl rfl ?_
    refine ezw_iload rfl rfl ?_
    have J95_9 : ∀ y9 : Int, ezw_in y9 → ∀ F A, ezs_I fz F0 A0 F A → ezw_E l ρ B xa Hb D cA d ezq_re151 (ezs_P e fz F0 A0 ezs_ri) 95 [some (ezw_p 23), some (ezw_p 47), some (ezw_i a2), some (ezw_i a3), some (ezw_i a4), some (ezw_i a5), some (ezw_i a6), some (ezw_i u2), some (ezw_i y3), some (ezw_i u6), some (ezw_i u7), some (ezw_i u8), some (ezw_i y9), none] [] (ezu_g e F A) := by
      intro y9 hy9 F A hI
      refine ezw_iload rfl rfl ?_
      refine ezw_bipush (10) rfl rfl ?_
      have J131_11 : ∀ y11 : Int, ezw_in y11 → ∀ F A, ezs_I fz F0 A0 F A → ezw_E l ρ B xa Hb D cA d ezq_re151 (ezs_P e fz F0 A0 ezs_ri) 131 [some (ezw_p 23), some (ezw_p 47), some (ezw_i a2), some (ezw_i a3), some (ezw_i a4), some (ezw_i a5), some (ezw_i a6), some (ezw_i u2), some (ezw_i y3), some (ezw_i u6), some (ezw_i u7), some (ezw_i u8), some (ezw_i y11), none] [] (ezu_g e F A) := by
        intro y11 hy11 F A hI
        refine ezw_iload rfl rfl ?_
        refine ezw_bipush (10) rfl rfl ?_
        refine ezw_icmp_ge rfl rfl hu7 ⟨by decide, by decide⟩ (fun h135_12 => ?_) (fun h135_12 => ?_)
        · refine ezw_iload rfl rfl ?_
          refine ezw_bipush (100) rfl rfl ?_
          refine ezs_idiv rfl hy11 ⟨by decide, by decide⟩ (by omega) (fun u13 hu13 => ?_)
          exact ezw_ireturn rfl rfl ⟨⟨F, A, rfl, hI⟩, _, hu13, rfl⟩
        · refine ezw_iload rfl rfl ?_
          refine ezw_bipush (10) rfl rfl ?_
          refine ezw_icmp_ge rfl rfl hu8 ⟨by decide, by decide⟩ (fun h142_13 => ?_) (fun h142_13 => ?_)
          · refine ezw_iload rfl rfl ?_
            refine ezw_bipush (100) rfl rfl ?_
            refine ezs_idiv rfl hy11 ⟨by decide, by decide⟩ (by omega) (fun u14 hu14 => ?_)
            exact ezw_ireturn rfl rfl ⟨⟨F, A, rfl, hI⟩, _, hu14, rfl⟩
          · refine ezw_bipush (9) rfl rfl ?_
            refine ezw_iload rfl rfl ?_
            refine ezw_iload rfl rfl ?_
            have J159_15 : ∀ y15 : Int, ezw_in y15 → ∀ F A, ezs_I fz F0 A0 F A → ezw_E l ρ B xa Hb D cA d ezq_re151 (ezs_P e fz F0 A0 ezs_ri) 159 [some (ezw_p 23), some (ezw_p 47), some (ezw_i a2), some (ezw_i a3), some (ezw_i a4), some (ezw_i a5), some (ezw_i a6), some (ezw_i u2), some (ezw_i y3), some (ezw_i u6), some (ezw_i u7), some (ezw_i u8), some (ezw_i y11), none] [(ezw_i y15), (ezw_i a5), (ezw_i (9))] (ezu_g e F A) := by
              intro y15 hy15 F A hI
              refine ezs_iadd rfl (fun u17 hu17 => ?_)
              refine ezw_mminE rfl ⟨by decide, by decide⟩ hu17 rfl (fun u18 hu18 => ?_)
              refine ezw_istore rfl rfl ?_
              refine ezw_iload rfl rfl ?_
              refine ezw_bipush (10) rfl rfl ?_
              refine ezw_iload rfl rfl ?_
              refine ezs_isub rfl (fun u19 hu19 => ?_)
              refine ezw_bipush (10) rfl rfl ?_
              refine ezw_iload rfl rfl ?_
              refine ezs_isub rfl (fun u20 hu20 => ?_)
              refine ezs_imul rfl (fun u21 hu21 => ?_)
              refine ezw_aload_n rfl rfl ?_
              refine ezw_aload_n rfl rfl ?_
              refine ezw_iload_n rfl rfl ?_
              refine ezw_iload rfl rfl ?_
              refine ezw_iload rfl rfl ?_
              refine ezw_iload rfl rfl ?_
              refine ezw_call0_5 rfl (by omega) (ezu_at rfl) rfl rfl rfl rfl (ezs_m149_23_47_l5 hI (by omega) (fun q h0 h1 => hzA q (by omega) (by omega)) ha3 (by omega) ha4 ⟨by omega, by omega⟩ ha6) ?_
              rintro _ _ ⟨⟨F, A, rfl, hI⟩, u22, hu22, rfl⟩
              refine ezw_call2_1 rfl (by omega) rfl rfl (ezs_m152 hI (by omega) hu22) ?_
              rintro _ _ ⟨rfl, u23, hu23, rfl⟩
              refine ezs_imul rfl (fun u24 hu24 => ?_)
              refine ezs_iadd rfl (fun u25 hu25 => ?_)
              refine ezw_istore rfl rfl ?_
              refine ezw_iload rfl rfl ?_
              refine ezw_bipush (100) rfl rfl ?_
              refine ezs_idiv rfl hu25 ⟨by decide, by decide⟩ (by omega) (fun u26 hu26 => ?_)
              exact ezw_ireturn rfl rfl ⟨⟨F, A, rfl, hI⟩, _, hu26, rfl⟩
            refine ezw_if_eq rfl rfl ⟨by omega, by omega⟩ (fun h151_14 => ?_) (fun h151_14 => ?_)
            · refine ezw_iconst (1) rfl rfl ?_
              exact ezw_keepE [true, true, true, true, true, true, true, true, true, true, true, true, true, false] (J159_15 (1) ⟨by decide, by decide⟩ F A hI)
            · refine ezw_iconst (2) rfl rfl ?_
              refine ezw_goto rfl rfl ?_
              exact ezw_keepE [true, true, true, true, true, true, true, true, true, true, true, true, true, false] (J159_15 (2) ⟨by decide, by decide⟩ F A hI)
      refine ezw_icmp_ge rfl rfl hu7 ⟨by decide, by decide⟩ (fun h99_10 => ?_) (fun h99_10 => ?_)
      · exact ezw_keepE [true, true, true, true, true, true, true, true, true, true, true, true, true, false] (J131_11 y9 hy9 F A hI)
      · refine ezw_iload rfl rfl ?_
        refine ezw_if_le rfl rfl hu8 (fun h104_26 => ?_) (fun h104_26 => ?_)
        · exact ezw_keepE [true, true, true, true, true, true, true, true, true, true, true, true, true, false] (J131_11 y9 hy9 F A hI)
        · refine ezw_iload rfl rfl ?_
          refine ezw_bipush (10) rfl rfl ?_
          refine ezw_iload rfl rfl ?_
          refine ezs_isub rfl (fun u27 hu27 => ?_)
          refine ezw_iload rfl rfl ?_
          refine ezs_imul rfl (fun u28 hu28 => ?_)
          refine ezw_sipush (1000) rfl rfl ?_
          refine ezs_imul rfl (fun u29 hu29 => ?_)
          refine ezw_aload_n rfl rfl ?_
          refine ezw_iload rfl rfl ?_
          refine ezw_call0_1 rfl (by omega) (ezu_at rfl) rfl rfl rfl rfl (ezs_m144_47 hI (by omega) ha6) ?_
          rintro _ _ ⟨rfl, u30, hu30, rfl⟩
          refine ezs_imul rfl (fun u31 hu31 => ?_)
          refine ezs_iadd rfl (fun u32 hu32 => ?_)
          refine ezw_istore rfl rfl ?_
          exact ezw_keepE [true, true, true, true, true, true, true, true, true, true, true, true, true, false] (J131_11 u32 hu32 F A hI)
    refine ezw_if_le rfl rfl hu7 (fun h65_8 => ?_) (fun h65_8 => ?_)
    · exact ezw_keepE [true, true, true, true, true, true, true, true, true, true, true, true, true, false] (J95_9 (0) ⟨by decide, by decide⟩ F A hI)
    · refine ezw_iload rfl rfl ?_
      refine ezw_bipush (10) rfl rfl ?_
      refine ezw_iload rfl rfl ?_
      refine ezs_imul rfl (fun u33 hu33 => ?_)
      refine ezw_aload_n rfl rfl ?_
      refine ezw_aload_n rfl rfl ?_
      refine ezw_iload_n rfl rfl ?_
      refine ezw_iload rfl rfl ?_
      refine ezw_iconst (1) rfl rfl ?_
      refine ezs_isub rfl (fun u34 hu34 => ?_)
      refine ezw_iconst (0) rfl rfl ?_
      refine ezw_iload rfl rfl ?_
      refine ezw_call0_5 rfl (by omega) (ezu_at rfl) rfl rfl rfl rfl (ezs_m149_23_47_l5 hI (by omega) (fun q h0 h1 => hzA q (by omega) (by omega)) ha3 (by omega) hu34 ⟨by decide, by decide⟩ ha6) ?_
      rintro _ _ ⟨⟨F, A, rfl, hI⟩, u35, hu35, rfl⟩
      refine ezw_call2_1 rfl (by omega) rfl rfl (ezs_m152 hI (by omega) hu35) ?_
      rintro _ _ ⟨rfl, u36, hu36, rfl⟩
      refine ezs_imul rfl (fun u37 hu37 => ?_)
      refine ezs_iadd rfl (fun u38 hu38 => ?_)
      refine ezw_istore rfl rfl ?_
      exact ezw_keepE [true, true, true, true, true, true, true, true, true, true, true, true, true, false] (J95_9 u38 hu38 F A hI)
  refine ezw_icmp_lt rfl rfl ha2 ⟨by decide, by decide⟩ (fun h9_2 => ?_) (fun h9_2 => ?_)
  · refine ezw_iconst (0) rfl rfl ?_
    exact ezw_keepE [true, true, true, true, true, true, true, true, false, false, false, false, false, false] (J17_3 (0) ⟨by omega, by omega⟩ F A hI)
  · refine ezw_iconst (1) rfl rfl ?_
    refine ezw_goto rfl rfl ?_
    exact ezw_keepE [true, true, true, true, true, true, true, true, false, false, false, false, false, false] (J17_3 (1) ⟨by omega, by omega⟩ F A hI)
theorem ezs_m150_23_47_l6 {a2 a3 a4 a5 a6 : Int} {F : Nat → Nat → Int} {A : Nat → Int → Int} (hI : ezs_I fz F0 A0 F A) (hd : 19 ≤ d) (hzA : ∀ q, 24 ≤ q → q < 25 → fz q = false) (ha2 : ezw_in a2) (ha3 : ezw_in a3) (ga3 : a3 ≤ 5) (ha4 : ezw_in a4) (ha5 : ezw_in a5) (ha6 : ezw_in a6) : ezw_C l ρ B xa Hb D cA 150 d [ezw_p 23, ezw_p 47, ezw_i a2, ezw_i a3, ezw_i a4, ezw_i a5, ezw_i a6] (ezu_g e F A) (ezs_P e fz F0 A0 ezs_ri) := by
  refine ezw_met (k := 0) rfl rfl ?_
  refine ezw_iload_n rfl rfl ?_
  refine ezw_bipush (9) rfl rfl ?_
  refine ezw_icmp_ge rfl rfl ha2 ⟨by decide, by decide⟩ (fun h3_0 => ?_) (fun h3_0 => ?_)
  · refine ezw_iload_n rfl rfl ?_
    refine ezw_bipush (9) rfl rfl ?_
    refine ezw_icmp_ne rfl rfl ha2 ⟨by decide, by decide⟩ (fun h23_0 => ?_) (fun h23_0 => ?_)
    · refine ezw_iload_n rfl rfl ?_
      refine ezw_bipush (10) rfl rfl ?_
      refine ezw_icmp_ne rfl rfl ha2 ⟨by decide, by decide⟩ (fun h56_0 => ?_) (fun h56_0 => ?_)
      · refine ezw_aload_n rfl rfl ?_
        refine ezw_aload_n rfl rfl ?_
        refine ezw_iload_n rfl rfl ?_
        refine ezw_bipush (11) rfl rfl ?_
        refine ezs_isub rfl (fun u1 hu1 => ?_)
        refine ezw_iload_n rfl rfl ?_
        refine ezw_iload rfl rfl ?_
        refine ezw_iload rfl rfl ?_
        refine ezw_iload rfl rfl ?_
        refine ezw_call0_6 rfl (by omega) (ezu_at rfl) rfl rfl rfl rfl (ezs_m154_23_47_l6 hI (by omega) (fun q h0 h1 => hzA q (by omega) (by omega)) hu1 ha3 (by omega) ha4 ha5 ha6) ?_
        rintro _ _ ⟨⟨F, A, rfl, hI⟩, u2, hu2, rfl⟩
        exact ezw_ireturn rfl rfl ⟨⟨F, A, rfl, hI⟩, _, hu2, rfl⟩
      · refine ezw_aload_n rfl rfl ?_
        refine ezw_aload_n rfl rfl ?_
        refine ezw_iload_n rfl rfl ?_
        refine ezw_iload rfl rfl ?_
        refine ezw_iload rfl rfl ?_
        refine ezw_iload rfl rfl ?_
        refine ezw_call0_5 rfl (by omega) (ezu_at rfl) rfl rfl rfl rfl (ezs_m153_23_47_l6 hI (by omega) (fun q h0 h1 => hzA q (by omega) (by omega)) ha3 (by omega) ha4 ha5 ha6) ?_
        rintro _ _ ⟨⟨F, A, rfl, hI⟩, u3, hu3, rfl⟩
        exact ezw_ireturn rfl rfl ⟨⟨F, A, rfl, hI⟩, _, hu3, rfl⟩
    · refine ezw_iload rfl rfl ?_
      refine ezw_if_le rfl rfl ha5 (fun h28_3 => ?_) (fun h28_3 => ?_)
      · refine ezw_iconst (-1) rfl rfl ?_
        exact ezw_ireturn rfl rfl ⟨⟨F, A, rfl, hI⟩, _, ⟨by decide, by decide⟩, rfl⟩
      · refine ezw_aload_n rfl rfl ?_
        refine ezw_aload_n rfl rfl ?_
        refine ezw_iload_n rfl rfl ?_
        refine ezw_iload rfl rfl ?_
        refine ezw_iload rfl rfl ?_
        refine ezw_iconst (1) rfl rfl ?_
        refine ezs_isub rfl (fun u4 hu4 => ?_)
        refine ezw_iload rfl rfl ?_
        refine ezw_call0_5 rfl (by omega) (ezu_at rfl) rfl rfl rfl rfl (ezs_m149_23_47_l5 hI (by omega) (fun q h0 h1 => hzA q (by omega) (by omega)) ha3 (by omega) ha4 hu4 ha6) ?_
        rintro _ _ ⟨⟨F, A, rfl, hI⟩, u5, hu5, rfl⟩
        refine ezw_call2_1 rfl (by omega) rfl rfl (ezs_m152 hI (by omega) hu5) ?_
        rintro _ _ ⟨rfl, u6, hu6, rfl⟩
        refine ezw_goto rfl rfl ?_
        exact ezw_ireturn rfl rfl ⟨⟨F, A, rfl, hI⟩, _, hu6, rfl⟩
  · refine ezw_aload_n rfl rfl ?_
    refine ezw_aload_n rfl rfl ?_
    refine ezw_iload_n rfl rfl ?_
    refine ezw_iload_n rfl rfl ?_
    refine ezw_iload rfl rfl ?_
    refine ezw_iload rfl rfl ?_
    refine ezw_iload rfl rfl ?_
    refine ezw_call0_6 rfl (by omega) (ezu_at rfl) rfl rfl rfl rfl (ezs_m151_23_47_l6 hI (by omega) (fun q h0 h1 => hzA q (by omega) (by omega)) ha2 ha3 (by omega) ha4 ha5 ha6) ?_
    rintro _ _ ⟨⟨F, A, rfl, hI⟩, u7, hu7, rfl⟩
    exact ezw_ireturn rfl rfl ⟨⟨F, A, rfl, hI⟩, _, hu7, rfl⟩
theorem ezs_m149_23_47_l6 {a2 a3 a4 a5 : Int} {F : Nat → Nat → Int} {A : Nat → Int → Int} (hI : ezs_I fz F0 A0 F A) (hd : 20 ≤ d) (hzA : ∀ q, 24 ≤ q → q < 25 → fz q = false) (ha2 : ezw_in a2) (ga2 : a2 ≤ 6) (ha3 : ezw_in a3) (ha4 : ezw_in a4) (ha5 : ezw_in a5) : ezw_C l ρ B xa Hb D cA 149 d [ezw_p 23, ezw_p 47, ezw_i a2, ezw_i a3, ezw_i a4, ezw_i a5] (ezu_g e F A) (ezs_P e fz F0 A0 ezs_ri) := by
  refine ezw_met (k := 5) rfl rfl ?_
  refine ezw_sipush (1000) rfl rfl ?_
  refine ezw_aload_n rfl rfl ?_
  refine ezw_iload rfl rfl ?_
  refine ezw_call0_1 rfl (by omega) (ezu_at rfl) rfl rfl rfl rfl (ezs_m144_47 hI (by omega) ha5) ?_
  rintro _ _ ⟨rfl, u1, hu1, rfl⟩
  refine ezw_iload_n rfl rfl ?_
  have J21_2 : ∀ y2 : Int, ezw_in y2 → ∀ F A, ezs_I fz F0 A0 F A → ezw_E l ρ B xa Hb D cA d ezq_re149 (ezs_P e fz F0 A0 ezs_ri) 21 [some (ezw_p 23), some (ezw_p 47), some (ezw_i a2), some (ezw_i a3), some (ezw_i a4), some (ezw_i a5), none, none, none, none, none] [(ezw_i y2), (ezw_i u1), (ezw_i (1000))] (ezu_g e F A) := by
    intro y2 hy2 F A hI
    refine ezs_iadd rfl (fun u4 hu4 => ?_)
    refine ezs_imul rfl (fun u5 hu5 => ?_)
    refine ezw_istore rfl rfl ?_
    refine ezw_iconst (0) rfl rfl ?_
    refine ezw_istore rfl rfl ?_
    refine ezw_iload_n rfl rfl ?_
    refine ezw_if_le rfl rfl ha2 (fun h29_5 => ?_) (fun h29_5 => ?_)
    · refine ezw_iload rfl rfl ?_
      refine ezw_bipush (16) rfl rfl ?_
      refine ezs_imul rfl (fun u6 hu6 => ?_)
      refine ezw_iload rfl rfl ?_
      refine ezs_iadd rfl (fun u7 hu7 => ?_)
      exact ezw_ireturn rfl rfl ⟨⟨F, A, rfl, hI⟩, _, hu7, rfl⟩
    · refine ezw_iload_n rfl rfl ?_
      refine ezw_if_gt rfl rfl ha3 (fun h33_7 => ?_) (fun h33_7 => ?_)
      · refine ezw_iload_n rfl rfl ?_
        refine ezw_iconst (1) rfl rfl ?_
        refine ezs_isub rfl (fun u8 hu8 => ?_)
        refine ezw_bipush (6) rfl rfl ?_
        refine ezs_imul rfl (fun u9 hu9 => ?_)
        refine ezw_iload_n rfl rfl ?_
        refine ezs_iadd rfl (fun u10 hu10 => ?_)
        refine ezw_iconst (1) rfl rfl ?_
        refine ezs_isub rfl (fun u11 hu11 => ?_)
        refine ezw_bipush (10) rfl rfl ?_
        refine ezs_imul rfl (fun u12 hu12 => ?_)
        refine ezw_iload rfl rfl ?_
        refine ezs_iadd rfl (fun u13 hu13 => ?_)
        refine ezw_bipush (16) rfl rfl ?_
        refine ezs_imul rfl (fun u14 hu14 => ?_)
        refine ezw_iload rfl rfl ?_
        refine ezs_iadd rfl (fun u15 hu15 => ?_)
        refine ezw_istore rfl rfl ?_
        refine ezw_aload_n rfl rfl ?_
        refine ezs_getp (p := 24) rfl rfl rfl rfl rfl ?_
        refine ezw_iload rfl rfl ?_
        refine ezw_call3_2 rfl (by omega) rfl rfl (ezs_m27_24 hI (by omega) hu15) ?_
        rintro _ _ ⟨rfl, u16, hu16, rfl⟩
        refine ezw_iconst (-1) rfl rfl ?_
        refine ezw_icmp_eq rfl rfl hu16 ⟨by decide, by decide⟩ (fun h79_16 => ?_) (fun h79_16 => ?_)
        · refine ezw_iconst (1) rfl rfl ?_
          refine ezw_istore rfl rfl ?_
          have L95_19 : ∀ c19 : Int, ezw_in c19 → (1) ≤ c19 → ∀ y17 : Int, ezw_in y17 → ∀ y18 : Int, ezw_in y18 → ∀ F A, ezs_I fz F0 A0 F A → ezw_E l ρ B xa Hb D cA d ezq_re149 (ezs_P e fz F0 A0 ezs_ri) 95 [some (ezw_p 23), some (ezw_p 47), some (ezw_i a2), some (ezw_i a3), some (ezw_i a4), some (ezw_i a5), some (ezw_i y17), some (ezw_i y18), some (ezw_i u15), some (ezw_i c19), none] [] (ezu_g e F A) := by
            refine ezs_up ?_
            intro c19 hc19 ihc19 gc19 y17 hy17 y18 hy18 F A hI
            refine ezw_iload rfl rfl ?_
            refine ezw_bipush (15) rfl rfl ?_
            have J140_23 : ∀ y21 : Int, ezw_in y21 → ∀ y22 : Int, ezw_in y22 → ∀ y23 : Int, ezw_in y23 → ∀ F A, ezs_I fz F0 A0 F A → ezw_E l ρ B xa Hb D cA d ezq_re149 (ezs_P e fz F0 A0 ezs_ri) 140 [some (ezw_p 23), some (ezw_p 47), some (ezw_i a2), some (ezw_i a3), some (ezw_i a4), some (ezw_i a5), some (ezw_i y21), some (ezw_i y22), some (ezw_i u15), some (ezw_i y23), none] [] (ezu_g e F A) := by
              intro y21 hy21 y22 hy22 y23 hy23 F A hI
              refine ezw_aload_n rfl rfl ?_
              refine ezs_getp (p := 24) rfl rfl rfl rfl rfl ?_
              refine ezw_iload rfl rfl ?_
              refine ezw_iload rfl rfl ?_
              refine ezw_bipush (16) rfl rfl ?_
              refine ezs_imul rfl (fun u25 hu25 => ?_)
              refine ezw_iload rfl rfl ?_
              refine ezs_iadd rfl (fun u26 hu26 => ?_)
              refine ezw_call3_3 rfl (by omega) rfl rfl (ezs_m21_24 hI (by omega) (fun q h0 h1 => hzA q (by omega) (by omega)) hu15 hu26) ?_
              rintro _ _ ⟨⟨F, A, rfl, hI⟩, rfl⟩
              refine ezw_iload rfl rfl ?_
              refine ezw_bipush (16) rfl rfl ?_
              refine ezs_imul rfl (fun u27 hu27 => ?_)
              refine ezw_iload rfl rfl ?_
              refine ezs_iadd rfl (fun u28 hu28 => ?_)
              exact ezw_ireturn rfl rfl ⟨⟨F, A, rfl, hI⟩, _, hu28, rfl⟩
            refine ezw_icmp_ge rfl rfl hc19 ⟨by decide, by decide⟩ (fun h99_20 => ?_) (fun h99_20 => ?_)
            · exact ezw_keepE [true, true, true, true, true, true, true, true, true, true, false] (J140_23 y17 hy17 y18 hy18 c19 hc19 F A hI)
            · refine ezw_aload_n rfl rfl ?_
              refine ezw_aload_n rfl rfl ?_
              refine ezw_iload rfl rfl ?_
              refine ezw_iload_n rfl rfl ?_
              refine ezw_iconst (1) rfl rfl ?_
              refine ezw_isub rfl rfl ?_
              refine ezw_iload_n rfl rfl ?_
              refine ezw_iload rfl rfl ?_
              refine ezw_iload rfl rfl ?_
              refine ezw_call0_6 rfl (by omega) (ezu_at rfl) rfl rfl rfl rfl (ezs_m150_23_47_l6 hI (by omega) (fun q h0 h1 => hzA q (by omega) (by omega)) hc19 ⟨by omega, by omega⟩ (by omega) ha3 ha4 ha5) ?_
              rintro _ _ ⟨⟨F, A, rfl, hI⟩, u29, hu29, rfl⟩
              refine ezw_istore rfl rfl ?_
              refine ezw_iload rfl rfl ?_
              refine ezw_iload rfl rfl ?_
              refine ezw_icmp_le rfl rfl hu29 hy17 (fun h123_29 => ?_) (fun h123_29 => ?_)
              · refine ezw_iinc (1) rfl rfl rfl rfl rfl ?_
                refine ezw_goto rfl rfl ?_
                exact ezw_keepE [true, true, true, true, true, true, true, true, true, true, false] (ihc19 (c19 + (1)) (by omega) ⟨by omega, by omega⟩ (by omega) y17 hy17 y18 hy18 F A hI)
              · refine ezw_iload rfl rfl ?_
                refine ezw_istore rfl rfl ?_
                refine ezw_iload rfl rfl ?_
                refine ezw_istore rfl rfl ?_
                refine ezw_iinc (1) rfl rfl rfl rfl rfl ?_
                refine ezw_goto rfl rfl ?_
                exact ezw_keepE [true, true, true, true, true, true, true, true, true, true, false] (ihc19 (c19 + (1)) (by omega) ⟨by omega, by omega⟩ (by omega) u29 hu29 c19 hc19 F A hI)
          exact ezw_keepE [true, true, true, true, true, true, true, true, true, true, false] (L95_19 (1) ⟨by decide, by decide⟩ (by omega) u5 hu5 (0) ⟨by decide, by decide⟩ F A hI)
        · refine ezw_aload_n rfl rfl ?_
          refine ezs_getp (p := 24) rfl rfl rfl rfl rfl ?_
          refine ezw_iload rfl rfl ?_
          refine ezw_call3_2 rfl (by omega) rfl rfl (ezs_m27_24 hI (by omega) hu15) ?_
          rintro _ _ ⟨rfl, u30, hu30, rfl⟩
          exact ezw_ireturn rfl rfl ⟨⟨F, A, rfl, hI⟩, _, hu30, rfl⟩
      · refine ezw_iload rfl rfl ?_
        refine ezw_bipush (16) rfl rfl ?_
        refine ezs_imul rfl (fun u31 hu31 => ?_)
        refine ezw_iload rfl rfl ?_
        refine ezs_iadd rfl (fun u32 hu32 => ?_)
        exact ezw_ireturn rfl rfl ⟨⟨F, A, rfl, hI⟩, _, hu32, rfl⟩
  refine ezw_if_le rfl rfl ha3 (fun h10_1 => ?_) (fun h10_1 => ?_)
  · refine ezw_aload_n rfl rfl ?_
    refine ezs_get_i hI rfl rfl rfl rfl rfl rfl (fun u33 hu33 ku33 => ?_)
    exact ezw_keepE [true, true, true, true, true, true, false, false, false, false, false] (J21_2 u33 hu33 F A hI)
  · refine ezw_iconst (0) rfl rfl ?_
    refine ezw_goto rfl rfl ?_
    exact ezw_keepE [true, true, true, true, true, true, false, false, false, false, false] (J21_2 (0) ⟨by decide, by decide⟩ F A hI)
theorem ezs_m148_23_47_13 {a3 : Int} {F : Nat → Nat → Int} {A : Nat → Int → Int} (hI : ezs_I fz F0 A0 F A) (hd : 21 ≤ d) (hzA : ∀ q, 24 ≤ q → q < 25 → fz q = false) (ha3 : ezw_in a3) (ga3 : a3 ≤ 6) : ezw_C l ρ B xa Hb D cA 148 d [ezw_p 23, ezw_p 47, ezw_p 13, ezw_i a3] (ezu_g e F A) (ezs_P e fz F0 A0 ezs_ri) := by
  refine ezw_met (k := 0) rfl rfl ?_
  refine ezw_aload_n rfl rfl ?_
  refine ezw_aload_n rfl rfl ?_
  refine ezw_iload_n rfl rfl ?_
  refine ezw_aload_n rfl rfl ?_
  refine ezw_call0_0 rfl (by omega) (ezu_at rfl) rfl rfl rfl rfl (ezs_m131_13 hI (by omega)) ?_
  rintro _ _ ⟨rfl, u1, hu1, rfl⟩
  refine ezw_aload_n rfl rfl ?_
  refine ezs_get_i hI rfl rfl rfl rfl rfl rfl (fun u2 hu2 ku2 => ?_)
  refine ezw_aload_n rfl rfl ?_
  refine ezs_get_i hI rfl rfl rfl rfl rfl rfl (fun u3 hu3 ku3 => ?_)
  refine ezw_call0_5 rfl (by omega) (ezu_at rfl) rfl rfl rfl rfl (ezs_m149_23_47_l6 hI (by omega) (fun q h0 h1 => hzA q (by omega) (by omega)) ha3 (by omega) hu1 hu2 hu3) ?_
  rintro _ _ ⟨⟨F, A, rfl, hI⟩, u4, hu4, rfl⟩
  exact ezw_ireturn rfl rfl ⟨⟨F, A, rfl, hI⟩, _, hu4, rfl⟩
theorem ezs_m148_23_47_26 {a3 : Int} {F : Nat → Nat → Int} {A : Nat → Int → Int} (hI : ezs_I fz F0 A0 F A) (hd : 21 ≤ d) (hzA : ∀ q, 24 ≤ q → q < 25 → fz q = false) (ha3 : ezw_in a3) (ga3 : a3 ≤ 6) : ezw_C l ρ B xa Hb D cA 148 d [ezw_p 23, ezw_p 47, ezw_p 26, ezw_i a3] (ezu_g e F A) (ezs_P e fz F0 A0 ezs_ri) := by
  refine ezw_met (k := 0) rfl rfl ?_
  refine ezw_aload_n rfl rfl ?_
  refine ezw_aload_n rfl rfl ?_
  refine ezw_iload_n rfl rfl ?_
  refine ezw_aload_n rfl rfl ?_
  refine ezw_call0_0 rfl (by omega) (ezu_at rfl) rfl rfl rfl rfl (ezs_m131_26 hI (by omega)) ?_
  rintro _ _ ⟨rfl, u1, hu1, rfl⟩
  refine ezw_aload_n rfl rfl ?_
  refine ezs_get_i hI rfl rfl rfl rfl rfl rfl (fun u2 hu2 ku2 => ?_)
  refine ezw_aload_n rfl rfl ?_
  refine ezs_get_i hI rfl rfl rfl rfl rfl rfl (fun u3 hu3 ku3 => ?_)
  refine ezw_call0_5 rfl (by omega) (ezu_at rfl) rfl rfl rfl rfl (ezs_m149_23_47_l6 hI (by omega) (fun q h0 h1 => hzA q (by omega) (by omega)) ha3 (by omega) hu1 hu2 hu3) ?_
  rintro _ _ ⟨⟨F, A, rfl, hI⟩, u4, hu4, rfl⟩
  exact ezw_ireturn rfl rfl ⟨⟨F, A, rfl, hI⟩, _, hu4, rfl⟩
theorem ezs_m196_22_47_13 {a3 a4 a5 : Int} {F : Nat → Nat → Int} {A : Nat → Int → Int} (hI : ezs_I fz F0 A0 F A) (hd : 22 ≤ d) (hzA : ∀ q, 22 ≤ q → q < 27 → fz q = false) (ha3 : ezw_in a3) (ha4 : ezw_in a4) (ga4 : a4 ≤ 1000) (ha5 : ezw_in a5) (ga5 : a5 ≤ 6) : ezw_C l ρ B xa Hb D cA 196 d [ezw_p 22, ezw_p 47, ezw_p 13, ezw_i a3, ezw_i a4, ezw_i a5] (ezu_g e F A) (ezs_P e fz F0 A0 ezs_rn) := by
  refine ezw_met (k := 3) rfl rfl ?_
  refine ezw_aload_n rfl rfl ?_
  refine ezw_iload_n rfl rfl ?_
  refine ezw_i2l rfl ha3 rfl ?_
  refine ezs_put_l hI rfl rfl rfl rfl rfl (hzA 22 (by decide) (by decide)) (ezw_in_il ha3) (fun F A hI => ?_)
  refine ezw_aload_n rfl rfl ?_
  refine ezw_iconst (0) rfl rfl ?_
  refine ezs_put_i hI rfl rfl rfl rfl rfl (hzA 22 (by decide) (by decide)) ⟨by decide, by decide⟩ (fun F A hI => ?_)
  refine ezw_aload_n rfl rfl ?_
  refine ezw_iconst (0) rfl rfl ?_
  refine ezs_put_i hI rfl rfl rfl rfl rfl (hzA 22 (by decide) (by decide)) ⟨by decide, by decide⟩ (fun F A hI => ?_)
  refine ezw_aload_n rfl rfl ?_
  refine ezw_iconst (0) rfl rfl ?_
  refine ezs_put_i hI rfl rfl rfl rfl rfl (hzA 22 (by decide) (by decide)) ⟨by decide, by decide⟩ (fun F A hI => ?_)
  refine ezw_aload_n rfl rfl ?_
  refine ezs_getp (p := 23) rfl rfl rfl rfl rfl ?_
  refine ezw_aload_n rfl rfl ?_
  refine ezw_aload_n rfl rfl ?_
  refine ezw_call0_2 rfl (by omega) (ezu_at rfl) rfl rfl rfl rfl (ezs_m147_23_47_13 hI (by omega) (fun q h0 h1 => hzA q (by omega) (by omega))) ?_
  rintro _ _ ⟨⟨F, A, rfl, hI⟩, rfl⟩
  refine ezw_iconst (0) rfl rfl ?_
  refine ezw_istore rfl rfl ?_
  have L33_1 : ∀ c1 : Int, ezw_in c1 → (0) ≤ c1 → ∀ F A, ezs_I fz F0 A0 F A → ezw_E l ρ B xa Hb D cA d ezq_re196 (ezs_P e fz F0 A0 ezs_rn) 33 [some (ezw_p 22), some (ezw_p 47), some (ezw_p 13), some (ezw_i a3), some (ezw_i a4), some (ezw_i a5), some (ezw_i c1), none, none] [] (ezu_g e F A) := by
    refine ezs_up ?_
    intro c1 hc1 ihc1 gc1 F A hI
    refine ezw_iload rfl rfl ?_
    refine ezw_iload rfl rfl ?_
    refine ezw_icmp_ge rfl rfl hc1 ha4 (fun h37_2 => ?_) (fun h37_2 => ?_)
    · exact ezw_return rfl rfl ⟨⟨F, A, rfl, hI⟩, rfl⟩
    · refine ezw_aload_n rfl rfl ?_
      refine ezs_getp (p := 26) rfl rfl rfl rfl rfl ?_
      refine ezw_aload_n rfl rfl ?_
      refine ezw_call0_0 rfl (by omega) (ezu_at rfl) rfl rfl rfl rfl (ezs_m119_13 hI (by omega)) ?_
      rintro _ _ ⟨rfl, u3, hu3, rfl⟩
      refine ezw_call0_1 rfl (by omega) (ezu_at rfl) rfl rfl rfl rfl (ezs_m140_26 hI (by omega) (fun q h0 h1 => hzA q (by omega) (by omega)) hu3) ?_
      rintro _ _ ⟨⟨F, A, rfl, hI⟩, rfl⟩
      refine ezw_iconst (1) rfl rfl ?_
      refine ezw_istore rfl rfl ?_
      refine ezw_iload rfl rfl ?_
      refine ezw_istore rfl rfl ?_
      have L58_5 : ∀ c5 : Int, ezw_in c5 → c5 ≤ a5 → ∀ y4 : Int, ezw_in y4 → ∀ F A, ezs_I fz F0 A0 F A → ezw_E l ρ B xa Hb D cA d ezq_re196 (ezs_P e fz F0 A0 ezs_rn) 58 [some (ezw_p 22), some (ezw_p 47), some (ezw_p 13), some (ezw_i a3), some (ezw_i a4), some (ezw_i a5), some (ezw_i c1), some (ezw_i y4), some (ezw_i c5)] [] (ezu_g e F A) := by
        refine ezs_dn ?_
        intro c5 hc5 ihc5 gc5 y4 hy4 F A hI
        refine ezw_iload rfl rfl ?_
        have J110_8 : ∀ y7 : Int, ezw_in y7 → ∀ y8 : Int, ezw_in y8 → ∀ F A, ezs_I fz F0 A0 F A → ezw_E l ρ B xa Hb D cA d ezq_re196 (ezs_P e fz F0 A0 ezs_rn) 110 [some (ezw_p 22), some (ezw_p 47), some (ezw_p 13), some (ezw_i a3), some (ezw_i a4), some (ezw_i a5), some (ezw_i c1), some (ezw_i y7), some (ezw_i y8)] [] (ezu_g e F A) := by
          intro y7 hy7 y8 hy8 F A hI
          refine ezw_aload_n rfl rfl ?_
          refine ezw_dup rfl rfl ?_
          refine ezs_get_i hI rfl rfl rfl rfl rfl rfl (fun u10 hu10 ku10 => ?_)
          refine ezw_aload_n rfl rfl ?_
          refine ezs_getp (p := 26) rfl rfl rfl rfl rfl ?_
          refine ezw_aload_n rfl rfl ?_
          refine ezw_call0_1 rfl (by omega) (ezu_at rfl) rfl rfl rfl rfl (ezs_m143_26_47 hI (by omega)) ?_
          rintro _ _ ⟨rfl, u11, hu11, rfl⟩
          refine ezs_iadd rfl (fun u12 hu12 => ?_)
          refine ezs_put_i hI rfl rfl rfl rfl rfl (hzA 22 (by decide) (by decide)) hu12 (fun F A hI => ?_)
          refine ezw_iinc (1) rfl rfl rfl rfl rfl ?_
          refine ezw_goto rfl rfl ?_
          exact ezw_keepE [true, true, true, true, true, true, true, false, false] (ihc1 (c1 + (1)) (by omega) ⟨by omega, by omega⟩ (by omega)  F A hI)
        refine ezw_if_le rfl rfl hc5 (fun h60_6 => ?_) (fun h60_6 => ?_)
        · exact ezw_keepE [true, true, true, true, true, true, true, true, true] (J110_8 y4 hy4 c5 hc5 F A hI)
        · refine ezw_aload_n rfl rfl ?_
          refine ezs_getp (p := 26) rfl rfl rfl rfl rfl ?_
          refine ezs_get_i hI rfl rfl rfl rfl rfl rfl (fun u13 hu13 ku13 => ?_)
          refine ezw_if_ne rfl rfl hu13 (fun h70_13 => ?_) (fun h70_13 => ?_)
          · exact ezw_keepE [true, true, true, true, true, true, true, true, true] (J110_8 y4 hy4 c5 hc5 F A hI)
          · refine ezw_iload rfl rfl ?_
            refine ezw_if_eq rfl rfl hy4 (fun h75_13 => ?_) (fun h75_13 => ?_)
            · exact ezw_keepE [true, true, true, true, true, true, true, true, true] (J110_8 y4 hy4 c5 hc5 F A hI)
            · refine ezw_aload_n rfl rfl ?_
              refine ezs_getp (p := 23) rfl rfl rfl rfl rfl ?_
              refine ezw_aload_n rfl rfl ?_
              refine ezw_aload_n rfl rfl ?_
              refine ezs_getp (p := 26) rfl rfl rfl rfl rfl ?_
              refine ezw_iload rfl rfl ?_
              refine ezw_call0_3 rfl (by omega) (ezu_at rfl) rfl rfl rfl rfl (ezs_m148_23_47_26 hI (by omega) (fun q h0 h1 => hzA q (by omega) (by omega)) hc5 (by omega)) ?_
              rintro _ _ ⟨⟨F, A, rfl, hI⟩, u14, hu14, rfl⟩
              refine ezw_call2_1 rfl (by omega) rfl rfl (ezs_m155 hI (by omega) hu14) ?_
              rintro _ _ ⟨rfl, u15, hu15, rfl⟩
              refine ezw_istore rfl rfl ?_
              refine ezw_aload_n rfl rfl ?_
              refine ezw_aload_n rfl rfl ?_
              refine ezw_iload rfl rfl ?_
              refine ezw_call0_2 rfl (by omega) (ezu_at rfl) rfl rfl rfl rfl (ezs_m197_22_47 hI (by omega) (fun q h0 h1 => hzA q (by omega) (by omega)) hu15) ?_
              rintro _ _ ⟨⟨F, A, rfl, hI⟩, rfl⟩
              refine ezw_iinc (-1) rfl rfl rfl rfl rfl ?_
              refine ezw_goto rfl rfl ?_
              exact ezw_keepE [true, true, true, true, true, true, true, true, true] (ihc5 (c5 + (-1)) (by omega) ⟨by omega, by omega⟩ (by omega) u15 hu15 F A hI)
      exact ezw_keepE [true, true, true, true, true, true, true, true, true] (L58_5 a5 ha5 (by omega) (1) ⟨by decide, by decide⟩ F A hI)
  exact ezw_keepE [true, true, true, true, true, true, true, false, false] (L33_1 (0) ⟨by decide, by decide⟩ (by omega)  F A hI)
end KM
