/-! ===== the program, roughly: days ===== -/
section KM
variable {l : Launch} {ρ : ezq_E} {B : Nat} {xa : Nat → Option Nat} {Hb : Heap} {D : va_G} {cA : Nat → ClassId} {d : Nat} {e : Bool × Bool} {fz : Nat → Bool} {F0 : Nat → Nat → Int} {A0 : Nat → Int → Int}
theorem ezs_m21_65 {a1 a2 : Int} {F : Nat → Nat → Int} {A : Nat → Int → Int} (hI : ezs_I fz F0 A0 F A) (hd : 0 ≤ d) (hzA : ∀ q, 65 ≤ q → q < 66 → fz q = false) (ha1 : ezw_in a1) (ha2 : ezw_in a2) : ezw_C l ρ B xa Hb D cA 21 d [ezw_p 65, ezw_i a1, ezw_i a2] (ezu_g e F A) (ezs_P e fz F0 A0 ezs_rn) := by
  refine ezw_met (k := 0) rfl rfl ?_
  refine ezw_aload_n rfl rfl ?_
  refine ezw_ifnull rfl ?_
  refine ezw_iload_n rfl rfl ?_
  refine ezw_if_lt rfl rfl ha1 (fun h5_0 => ?_) (fun h5_0 => ?_)
  · exact ezw_return rfl rfl ⟨⟨F, A, rfl, hI⟩, rfl⟩
  · refine ezw_iload_n rfl rfl ?_
    refine ezw_aload_n rfl rfl ?_
    refine ezs_alen (k := 24) rfl rfl rfl rfl (by decide) (by decide) ?_
    refine ezw_icmp_ge rfl rfl ha1 ⟨by decide, by decide⟩ (fun h11_0 => ?_) (fun h11_0 => ?_)
    · exact ezw_return rfl rfl ⟨⟨F, A, rfl, hI⟩, rfl⟩
    · refine ezw_aload_n rfl rfl ?_
      refine ezw_iload_n rfl rfl ?_
      refine ezw_iload_n rfl rfl ?_
      refine ezs_iastore hI rfl rfl rfl (by omega) (by omega) (by decide) (hzA 65 (by decide) (by decide)) ha2 (fun F A hI => ?_)
      exact ezw_return rfl rfl ⟨⟨F, A, rfl, hI⟩, rfl⟩
theorem ezs_m21_66 {a1 a2 : Int} {F : Nat → Nat → Int} {A : Nat → Int → Int} (hI : ezs_I fz F0 A0 F A) (hd : 0 ≤ d) (hzA : ∀ q, 66 ≤ q → q < 67 → fz q = false) (ha1 : ezw_in a1) (ha2 : ezw_in a2) : ezw_C l ρ B xa Hb D cA 21 d [ezw_p 66, ezw_i a1, ezw_i a2] (ezu_g e F A) (ezs_P e fz F0 A0 ezs_rn) := by
  refine ezw_met (k := 0) rfl rfl ?_
  refine ezw_aload_n rfl rfl ?_
  refine ezw_ifnull rfl ?_
  refine ezw_iload_n rfl rfl ?_
  refine ezw_if_lt rfl rfl ha1 (fun h5_0 => ?_) (fun h5_0 => ?_)
  · exact ezw_return rfl rfl ⟨⟨F, A, rfl, hI⟩, rfl⟩
  · refine ezw_iload_n rfl rfl ?_
    refine ezw_aload_n rfl rfl ?_
    refine ezs_alen (k := 24) rfl rfl rfl rfl (by decide) (by decide) ?_
    refine ezw_icmp_ge rfl rfl ha1 ⟨by decide, by decide⟩ (fun h11_0 => ?_) (fun h11_0 => ?_)
    · exact ezw_return rfl rfl ⟨⟨F, A, rfl, hI⟩, rfl⟩
    · refine ezw_aload_n rfl rfl ?_
      refine ezw_iload_n rfl rfl ?_
      refine ezw_iload_n rfl rfl ?_
      refine ezs_iastore hI rfl rfl rfl (by omega) (by omega) (by decide) (hzA 66 (by decide) (by decide)) ha2 (fun F A hI => ?_)
      exact ezw_return rfl rfl ⟨⟨F, A, rfl, hI⟩, rfl⟩
theorem ezs_m21_67 {a1 a2 : Int} {F : Nat → Nat → Int} {A : Nat → Int → Int} (hI : ezs_I fz F0 A0 F A) (hd : 0 ≤ d) (hzA : ∀ q, 67 ≤ q → q < 68 → fz q = false) (ha1 : ezw_in a1) (ha2 : ezw_in a2) : ezw_C l ρ B xa Hb D cA 21 d [ezw_p 67, ezw_i a1, ezw_i a2] (ezu_g e F A) (ezs_P e fz F0 A0 ezs_rn) := by
  refine ezw_met (k := 0) rfl rfl ?_
  refine ezw_aload_n rfl rfl ?_
  refine ezw_ifnull rfl ?_
  refine ezw_iload_n rfl rfl ?_
  refine ezw_if_lt rfl rfl ha1 (fun h5_0 => ?_) (fun h5_0 => ?_)
  · exact ezw_return rfl rfl ⟨⟨F, A, rfl, hI⟩, rfl⟩
  · refine ezw_iload_n rfl rfl ?_
    refine ezw_aload_n rfl rfl ?_
    refine ezs_alen (k := 24) rfl rfl rfl rfl (by decide) (by decide) ?_
    refine ezw_icmp_ge rfl rfl ha1 ⟨by decide, by decide⟩ (fun h11_0 => ?_) (fun h11_0 => ?_)
    · exact ezw_return rfl rfl ⟨⟨F, A, rfl, hI⟩, rfl⟩
    · refine ezw_aload_n rfl rfl ?_
      refine ezw_iload_n rfl rfl ?_
      refine ezw_iload_n rfl rfl ?_
      refine ezs_iastore hI rfl rfl rfl (by omega) (by omega) (by decide) (hzA 67 (by decide) (by decide)) ha2 (fun F A hI => ?_)
      exact ezw_return rfl rfl ⟨⟨F, A, rfl, hI⟩, rfl⟩
theorem ezs_m103_64 {a1 a2 a3 : Int} {F : Nat → Nat → Int} {A : Nat → Int → Int} (hI : ezs_I fz F0 A0 F A) (hd : 1 ≤ d) (hzA : ∀ q, 64 ≤ q → q < 68 → fz q = false) (ha1 : ezw_in a1) (ha2 : ezw_in a2) (ha3 : ezw_in a3) : ezw_C l ρ B xa Hb D cA 103 d [ezw_p 64, ezw_i a1, ezw_i a2, ezw_i a3] (ezu_g e F A) (ezs_P e fz F0 A0 ezs_rn) := by
  refine ezw_met (k := 0) rfl rfl ?_
  refine ezw_aload_n rfl rfl ?_
  refine ezs_getp (p := 65) rfl rfl rfl rfl rfl ?_
  refine ezw_aload_n rfl rfl ?_
  refine ezs_get_i hI rfl rfl rfl rfl rfl rfl (fun u1 hu1 ku1 => ?_)
  refine ezw_iload_n rfl rfl ?_
  refine ezw_call3_3 rfl (by omega) rfl rfl (ezs_m21_65 hI (by omega) (fun q h0 h1 => hzA q (by omega) (by omega)) hu1 ha1) ?_
  rintro _ _ ⟨⟨F, A, rfl, hI⟩, rfl⟩
  refine ezw_aload_n rfl rfl ?_
  refine ezs_getp (p := 66) rfl rfl rfl rfl rfl ?_
  refine ezw_aload_n rfl rfl ?_
  refine ezs_get_i hI rfl rfl rfl rfl rfl rfl (fun u2 hu2 ku2 => ?_)
  refine ezw_iload_n rfl rfl ?_
  refine ezw_call3_3 rfl (by omega) rfl rfl (ezs_m21_66 hI (by omega) (fun q h0 h1 => hzA q (by omega) (by omega)) hu2 ha2) ?_
  rintro _ _ ⟨⟨F, A, rfl, hI⟩, rfl⟩
  refine ezw_aload_n rfl rfl ?_
  refine ezs_getp (p := 67) rfl rfl rfl rfl rfl ?_
  refine ezw_aload_n rfl rfl ?_
  refine ezs_get_i hI rfl rfl rfl rfl rfl rfl (fun u3 hu3 ku3 => ?_)
  refine ezw_iload_n rfl rfl ?_
  refine ezw_call3_3 rfl (by omega) rfl rfl (ezs_m21_67 hI (by omega) (fun q h0 h1 => hzA q (by omega) (by omega)) hu3 ha3) ?_
  rintro _ _ ⟨⟨F, A, rfl, hI⟩, rfl⟩
  refine ezw_aload_n rfl rfl ?_
  refine ezw_dup rfl rfl ?_
  refine ezs_get_i hI rfl rfl rfl rfl rfl rfl (fun u4 hu4 ku4 => ?_)
  refine ezw_iconst (1) rfl rfl ?_
  refine ezs_iadd rfl (fun u5 hu5 => ?_)
  refine ezs_put_i hI rfl rfl rfl rfl rfl (hzA 64 (by decide) (by decide)) hu5 (fun F A hI => ?_)
  exact ezw_return rfl rfl ⟨⟨F, A, rfl, hI⟩, rfl⟩
theorem ezs_m102_64_1 {F : Nat → Nat → Int} {A : Nat → Int → Int} (hI : ezs_I fz F0 A0 F A) (hd : 6 ≤ d) (hzA : ∀ q, 64 ≤ q → q < 68 → fz q = false) (hzT : fz 1 = false) : ezw_C l ρ B xa Hb D cA 102 d [ezw_p 64, ezw_p 1] (ezu_g e F A) (ezs_P e fz F0 A0 ezs_rn) := by
  refine ezw_met (k := 3) rfl rfl ?_
  refine ezw_aload_n rfl rfl ?_
  refine ezw_bipush (30) rfl rfl ?_
  refine ezw_iconst (4) rfl rfl ?_
  refine ezw_call0_2 rfl (by omega) (ezu_at rfl) rfl rfl rfl rfl (ezs_m59_1 hI (by omega) hzT ⟨by decide, by decide⟩ (by omega) ⟨by decide, by decide⟩ (by omega)) ?_
  rintro _ _ ⟨⟨F, A, rfl, hI⟩, u1, hu1, rfl⟩
  refine ezw_istore_n rfl rfl ?_
  refine ezw_aload_n rfl rfl ?_
  refine ezw_bipush (34) rfl rfl ?_
  refine ezw_iconst (2) rfl rfl ?_
  refine ezw_call0_2 rfl (by omega) (ezu_at rfl) rfl rfl rfl rfl (ezs_m59_1 hI (by omega) hzT ⟨by decide, by decide⟩ (by omega) ⟨by decide, by decide⟩ (by omega)) ?_
  rintro _ _ ⟨⟨F, A, rfl, hI⟩, u2, hu2, rfl⟩
  refine ezw_istore_n rfl rfl ?_
  refine ezw_aload_n rfl rfl ?_
  refine ezw_bipush (36) rfl rfl ?_
  refine ezw_iconst (3) rfl rfl ?_
  refine ezw_call0_2 rfl (by omega) (ezu_at rfl) rfl rfl rfl rfl (ezs_m59_1 hI (by omega) hzT ⟨by decide, by decide⟩ (by omega) ⟨by decide, by decide⟩ (by omega)) ?_
  rintro _ _ ⟨⟨F, A, rfl, hI⟩, u3, hu3, rfl⟩
  refine ezw_istore rfl rfl ?_
  refine ezw_aload_n rfl rfl ?_
  refine ezw_iload_n rfl rfl ?_
  refine ezw_iconst (1) rfl rfl ?_
  refine ezw_icmp_ne rfl rfl ⟨by omega, by omega⟩ ⟨by decide, by decide⟩ (fun h28_3 => ?_) (fun h28_3 => ?_)
  · refine ezw_iconst (0) rfl rfl ?_
    refine ezw_iload_n rfl rfl ?_
    refine ezw_iload rfl rfl ?_
    refine ezw_call0_3 rfl (by omega) (ezu_at rfl) rfl rfl rfl rfl (ezs_m103_64 hI (by omega) (fun q h0 h1 => hzA q (by omega) (by omega)) ⟨by decide, by decide⟩ ⟨by omega, by omega⟩ ⟨by omega, by omega⟩) ?_
    rintro _ _ ⟨⟨F, A, rfl, hI⟩, rfl⟩
    exact ezw_return rfl rfl ⟨⟨F, A, rfl, hI⟩, rfl⟩
  · refine ezw_iconst (1) rfl rfl ?_
    refine ezw_goto rfl rfl ?_
    refine ezw_iload_n rfl rfl ?_
    refine ezw_iload rfl rfl ?_
    refine ezw_call0_3 rfl (by omega) (ezu_at rfl) rfl rfl rfl rfl (ezs_m103_64 hI (by omega) (fun q h0 h1 => hzA q (by omega) (by omega)) ⟨by decide, by decide⟩ ⟨by omega, by omega⟩ ⟨by omega, by omega⟩) ?_
    rintro _ _ ⟨⟨F, A, rfl, hI⟩, rfl⟩
    exact ezw_return rfl rfl ⟨⟨F, A, rfl, hI⟩, rfl⟩
theorem ezs_m104_64_1_30 {F : Nat → Nat → Int} {A : Nat → Int → Int} (hI : ezs_I fz F0 A0 F A) (hd : 6 ≤ d) (hzA : ∀ q, 64 ≤ q → q < 68 → fz q = false) (hzT : fz 1 = false) : ezw_C l ρ B xa Hb D cA 104 d [ezw_p 64, ezw_p 1, ezw_p 30] (ezu_g e F A) (ezs_P e fz F0 A0 ezs_rn) := by
  refine ezw_met (k := 2) rfl rfl ?_
  refine ezw_aload_n rfl rfl ?_
  refine ezw_aload_n rfl rfl ?_
  refine ezw_iconst (1) rfl rfl ?_
  refine ezw_call0_2 rfl (by omega) (ezu_at rfl) rfl rfl rfl rfl (ezs_m61_1_30 hI (by omega) hzT ⟨by decide, by decide⟩) ?_
  rintro _ _ ⟨⟨F, A, rfl, hI⟩, u1, hu1, rfl⟩
  refine ezw_istore_n rfl rfl ?_
  refine ezw_iconst (0) rfl rfl ?_
  refine ezw_istore rfl rfl ?_
  refine ezw_aload_n rfl rfl ?_
  refine ezw_bipush (40) rfl rfl ?_
  refine ezw_call0_1 rfl (by omega) (ezu_at rfl) rfl rfl rfl rfl (ezs_m60_1 hI (by omega) hzT ⟨by decide, by decide⟩) ?_
  rintro _ _ ⟨⟨F, A, rfl, hI⟩, u2, hu2, rfl⟩
  have J46_3 : ∀ y3 : Int, ezw_in y3 → ∀ F A, ezs_I fz F0 A0 F A → ezw_E l ρ B xa Hb D cA d ezq_re104 (ezs_P e fz F0 A0 ezs_rn) 46 [some (ezw_p 64), some (ezw_p 1), some (ezw_p 30), some (ezw_i u1), some (ezw_i y3)] [] (ezu_g e F A) := by
    intro y3 hy3 F A hI
    refine ezw_aload_n rfl rfl ?_
    refine ezw_iconst (4) rfl rfl ?_
    refine ezw_iload_n rfl rfl ?_
    refine ezw_iload rfl rfl ?_
    refine ezw_call0_3 rfl (by omega) (ezu_at rfl) rfl rfl rfl rfl (ezs_m103_64 hI (by omega) (fun q h0 h1 => hzA q (by omega) (by omega)) ⟨by decide, by decide⟩ hu1 hy3) ?_
    rintro _ _ ⟨⟨F, A, rfl, hI⟩, rfl⟩
    exact ezw_return rfl rfl ⟨⟨F, A, rfl, hI⟩, rfl⟩
  refine ezw_if_eq rfl rfl ⟨by omega, by omega⟩ (fun h16_2 => ?_) (fun h16_2 => ?_)
  · refine ezw_aload_n rfl rfl ?_
    refine ezw_bipush (11) rfl rfl ?_
    refine ezw_call0_1 rfl (by omega) (ezu_at rfl) rfl rfl rfl rfl (ezs_m60_1 hI (by omega) hzT ⟨by decide, by decide⟩) ?_
    rintro _ _ ⟨⟨F, A, rfl, hI⟩, u5, hu5, rfl⟩
    refine ezw_if_eq rfl rfl ⟨by omega, by omega⟩ (fun h31_5 => ?_) (fun h31_5 => ?_)
    · refine ezw_aload_n rfl rfl ?_
      refine ezw_bipush (39) rfl rfl ?_
      refine ezw_call0_1 rfl (by omega) (ezu_at rfl) rfl rfl rfl rfl (ezs_m56_1 hI (by omega) hzT ⟨by decide, by decide⟩) ?_
      rintro _ _ ⟨⟨F, A, rfl, hI⟩, rfl⟩
      exact ezw_keepE [true, true, true, true, true] (J46_3 (0) ⟨by decide, by decide⟩ F A hI)
    · refine ezw_iconst (2) rfl rfl ?_
      refine ezw_istore rfl rfl ?_
      refine ezw_goto rfl rfl ?_
      exact ezw_keepE [true, true, true, true, true] (J46_3 (2) ⟨by decide, by decide⟩ F A hI)
  · refine ezw_iconst (1) rfl rfl ?_
    refine ezw_istore rfl rfl ?_
    refine ezw_goto rfl rfl ?_
    exact ezw_keepE [true, true, true, true, true] (J46_3 (1) ⟨by decide, by decide⟩ F A hI)
theorem ezs_m101_64_1_30 {F : Nat → Nat → Int} {A : Nat → Int → Int} (hI : ezs_I fz F0 A0 F A) (hd : 7 ≤ d) (hzA : ∀ q, 64 ≤ q → q < 68 → fz q = false) (hzT : fz 1 = false) : ezw_C l ρ B xa Hb D cA 101 d [ezw_p 64, ezw_p 1, ezw_p 30] (ezu_g e F A) (ezs_P e fz F0 A0 ezs_rn) := by
  refine ezw_met (k := 1) rfl rfl ?_
  refine ezw_aload_n rfl rfl ?_
  refine ezs_get_i hI rfl rfl rfl rfl rfl rfl (fun u1 hu1 ku1 => ?_)
  refine ezw_istore_n rfl rfl ?_
  refine ezw_iload_n rfl rfl ?_
  refine ezw_bipush (23) rfl rfl ?_
  have J39_1 : ∀ F A, ezs_I fz F0 A0 F A → ezw_E l ρ B xa Hb D cA d ezq_re101 (ezs_P e fz F0 A0 ezs_rn) 39 [some (ezw_p 64), some (ezw_p 1), some (ezw_p 30), some (ezw_i u1)] [] (ezu_g e F A) := by
    intro F A hI
    refine ezw_aload_n rfl rfl ?_
    refine ezw_call0_0 rfl (by omega) (ezu_at rfl) rfl rfl rfl rfl (ezs_m45_1 hI (by omega)) ?_
    rintro _ _ ⟨rfl, u3, hu3, rfl⟩
    refine ezw_if_ne rfl rfl ⟨by omega, by omega⟩ (fun h43_3 => ?_) (fun h43_3 => ?_)
    · refine ezw_aload_n rfl rfl ?_
      refine ezw_call0_0 rfl (by omega) (ezu_at rfl) rfl rfl rfl rfl (ezs_m30_1 hI (by omega) hzT) ?_
      rintro _ _ ⟨⟨F, A, rfl, hI⟩, rfl⟩
      refine ezw_iload_n rfl rfl ?_
      by_cases q4 : u1 = (23)
      · refine ezw_tableswitchE (v := 23) (p := 92) q4 rfl (by rfl) ?_
        refine ezw_aload_n rfl rfl ?_
        refine ezw_aload_n rfl rfl ?_
        refine ezw_call0_1 rfl (by omega) (ezu_at rfl) rfl rfl rfl rfl (ezs_m102_64_1 hI (by omega) (fun q h0 h1 => hzA q (by omega) (by omega)) hzT) ?_
        rintro _ _ ⟨⟨F, A, rfl, hI⟩, rfl⟩
        refine ezw_goto rfl rfl ?_
        refine ezw_aload_n rfl rfl ?_
        refine ezw_sipush (259) rfl rfl ?_
        refine ezw_call0_1 rfl (by omega) (ezu_at rfl) rfl rfl rfl rfl (ezs_m56_1 hI (by omega) hzT ⟨by decide, by decide⟩) ?_
        rintro _ _ ⟨⟨F, A, rfl, hI⟩, rfl⟩
        exact ezw_return rfl rfl ⟨⟨F, A, rfl, hI⟩, rfl⟩
      by_cases q5 : u1 = (24)
      · refine ezw_tableswitchE (v := 24) (p := 100) q5 rfl (by rfl) ?_
        refine ezw_aload_n rfl rfl ?_
        refine ezw_iconst (2) rfl rfl ?_
        refine ezw_iconst (0) rfl rfl ?_
        refine ezw_iconst (0) rfl rfl ?_
        refine ezw_call0_3 rfl (by omega) (ezu_at rfl) rfl rfl rfl rfl (ezs_m103_64 hI (by omega) (fun q h0 h1 => hzA q (by omega) (by omega)) ⟨by decide, by decide⟩ ⟨by decide, by decide⟩ ⟨by decide, by decide⟩) ?_
        rintro _ _ ⟨⟨F, A, rfl, hI⟩, rfl⟩
        refine ezw_goto rfl rfl ?_
        refine ezw_aload_n rfl rfl ?_
        refine ezw_sipush (259) rfl rfl ?_
        refine ezw_call0_1 rfl (by omega) (ezu_at rfl) rfl rfl rfl rfl (ezs_m56_1 hI (by omega) hzT ⟨by decide, by decide⟩) ?_
        rintro _ _ ⟨⟨F, A, rfl, hI⟩, rfl⟩
        exact ezw_return rfl rfl ⟨⟨F, A, rfl, hI⟩, rfl⟩
      by_cases q6 : u1 = (25)
      · refine ezw_tableswitchE (v := 25) (p := 110) q6 rfl (by rfl) ?_
        refine ezw_aload_n rfl rfl ?_
        refine ezw_iconst (3) rfl rfl ?_
        refine ezw_iconst (0) rfl rfl ?_
        refine ezw_iconst (0) rfl rfl ?_
        refine ezw_call0_3 rfl (by omega) (ezu_at rfl) rfl rfl rfl rfl (ezs_m103_64 hI (by omega) (fun q h0 h1 => hzA q (by omega) (by omega)) ⟨by decide, by decide⟩ ⟨by decide, by decide⟩ ⟨by decide, by decide⟩) ?_
        rintro _ _ ⟨⟨F, A, rfl, hI⟩, rfl⟩
        refine ezw_goto rfl rfl ?_
        refine ezw_aload_n rfl rfl ?_
        refine ezw_sipush (259) rfl rfl ?_
        refine ezw_call0_1 rfl (by omega) (ezu_at rfl) rfl rfl rfl rfl (ezs_m56_1 hI (by omega) hzT ⟨by decide, by decide⟩) ?_
        rintro _ _ ⟨⟨F, A, rfl, hI⟩, rfl⟩
        exact ezw_return rfl rfl ⟨⟨F, A, rfl, hI⟩, rfl⟩
      by_cases q7 : u1 = (26)
      · refine ezw_tableswitchE (v := 26) (p := 120) q7 rfl (by rfl) ?_
        refine ezw_aload_n rfl rfl ?_
        refine ezw_aload_n rfl rfl ?_
        refine ezw_aload_n rfl rfl ?_
        refine ezw_call0_2 rfl (by omega) (ezu_at rfl) rfl rfl rfl rfl (ezs_m104_64_1_30 hI (by omega) (fun q h0 h1 => hzA q (by omega) (by omega)) hzT) ?_
        rintro _ _ ⟨⟨F, A, rfl, hI⟩, rfl⟩
        refine ezw_goto rfl rfl ?_
        refine ezw_aload_n rfl rfl ?_
        refine ezw_sipush (259) rfl rfl ?_
        refine ezw_call0_1 rfl (by omega) (ezu_at rfl) rfl rfl rfl rfl (ezs_m56_1 hI (by omega) hzT ⟨by decide, by decide⟩) ?_
        rintro _ _ ⟨⟨F, A, rfl, hI⟩, rfl⟩
        exact ezw_return rfl rfl ⟨⟨F, A, rfl, hI⟩, rfl⟩
      by_cases q8 : u1 = (27)
      · refine ezw_tableswitchE (v := 27) (p := 129) q8 rfl (by rfl) ?_
        refine ezw_aload_n rfl rfl ?_
        refine ezw_iconst (5) rfl rfl ?_
        refine ezw_aload_n rfl rfl ?_
        refine ezw_aload_n rfl rfl ?_
        refine ezw_iconst (0) rfl rfl ?_
        refine ezw_call0_2 rfl (by omega) (ezu_at rfl) rfl rfl rfl rfl (ezs_m61_1_30 hI (by omega) hzT ⟨by decide, by decide⟩) ?_
        rintro _ _ ⟨⟨F, A, rfl, hI⟩, u9, hu9, rfl⟩
        refine ezw_iconst (0) rfl rfl ?_
        refine ezw_call0_3 rfl (by omega) (ezu_at rfl) rfl rfl rfl rfl (ezs_m103_64 hI (by omega) (fun q h0 h1 => hzA q (by omega) (by omega)) ⟨by decide, by decide⟩ hu9 ⟨by decide, by decide⟩) ?_
        rintro _ _ ⟨⟨F, A, rfl, hI⟩, rfl⟩
        refine ezw_goto rfl rfl ?_
        refine ezw_aload_n rfl rfl ?_
        refine ezw_sipush (259) rfl rfl ?_
        refine ezw_call0_1 rfl (by omega) (ezu_at rfl) rfl rfl rfl rfl (ezs_m56_1 hI (by omega) hzT ⟨by decide, by decide⟩) ?_
        rintro _ _ ⟨⟨F, A, rfl, hI⟩, rfl⟩
        exact ezw_return rfl rfl ⟨⟨F, A, rfl, hI⟩, rfl⟩
      by_cases q10 : u1 = (28)
      · refine ezw_tableswitchE (v := 28) (p := 144) q10 rfl (by rfl) ?_
        refine ezw_aload_n rfl rfl ?_
        refine ezw_bipush (6) rfl rfl ?_
        refine ezw_aload_n rfl rfl ?_
        refine ezw_aload_n rfl rfl ?_
        refine ezw_iconst (0) rfl rfl ?_
        refine ezw_call0_2 rfl (by omega) (ezu_at rfl) rfl rfl rfl rfl (ezs_m61_1_30 hI (by omega) hzT ⟨by decide, by decide⟩) ?_
        rintro _ _ ⟨⟨F, A, rfl, hI⟩, u11, hu11, rfl⟩
        refine ezw_iconst (0) rfl rfl ?_
        refine ezw_call0_3 rfl (by omega) (ezu_at rfl) rfl rfl rfl rfl (ezs_m103_64 hI (by omega) (fun q h0 h1 => hzA q (by omega) (by omega)) ⟨by decide, by decide⟩ hu11 ⟨by decide, by decide⟩) ?_
        rintro _ _ ⟨⟨F, A, rfl, hI⟩, rfl⟩
        refine ezw_goto rfl rfl ?_
        refine ezw_aload_n rfl rfl ?_
        refine ezw_sipush (259) rfl rfl ?_
        refine ezw_call0_1 rfl (by omega) (ezu_at rfl) rfl rfl rfl rfl (ezs_m56_1 hI (by omega) hzT ⟨by decide, by decide⟩) ?_
        rintro _ _ ⟨⟨F, A, rfl, hI⟩, rfl⟩
        exact ezw_return rfl rfl ⟨⟨F, A, rfl, hI⟩, rfl⟩
      refine ezw_tableswitch (p := 160) rfl (ezs_swd hu1 (And.intro (And.intro ⟨by decide, by decide⟩ (fun z => q4 z.symm)) (And.intro (And.intro ⟨by decide, by decide⟩ (fun z => q5 z.symm)) (And.intro (And.intro ⟨by decide, by decide⟩ (fun z => q6 z.symm)) (And.intro (And.intro ⟨by decide, by decide⟩ (fun z => q7 z.symm)) (And.intro (And.intro ⟨by decide, by decide⟩ (fun z => q8 z.symm)) (And.intro (And.intro ⟨by decide, by decide⟩ (fun z => q10 z.symm)) True.intro)))))) rfl) ?_
      refine ezw_aload_n rfl rfl ?_
      refine ezw_bipush (7) rfl rfl ?_
      refine ezw_aload_n rfl rfl ?_
      refine ezw_bipush (30) rfl rfl ?_
      refine ezw_iconst (4) rfl rfl ?_
      refine ezw_call0_2 rfl (by omega) (ezu_at rfl) rfl rfl rfl rfl (ezs_m59_1 hI (by omega) hzT ⟨by decide, by decide⟩ (by omega) ⟨by decide, by decide⟩ (by omega)) ?_
      rintro _ _ ⟨⟨F, A, rfl, hI⟩, u12, hu12, rfl⟩
      refine ezw_iconst (0) rfl rfl ?_
      refine ezw_call0_3 rfl (by omega) (ezu_at rfl) rfl rfl rfl rfl (ezs_m103_64 hI (by omega) (fun q h0 h1 => hzA q (by omega) (by omega)) ⟨by decide, by decide⟩ ⟨by omega, by omega⟩ ⟨by decide, by decide⟩) ?_
      rintro _ _ ⟨⟨F, A, rfl, hI⟩, rfl⟩
      refine ezw_aload_n rfl rfl ?_
      refine ezw_sipush (259) rfl rfl ?_
      refine ezw_call0_1 rfl (by omega) (ezu_at rfl) rfl rfl rfl rfl (ezs_m56_1 hI (by omega) hzT ⟨by decide, by decide⟩) ?_
      rintro _ _ ⟨⟨F, A, rfl, hI⟩, rfl⟩
      exact ezw_return rfl rfl ⟨⟨F, A, rfl, hI⟩, rfl⟩
    · exact ezw_return rfl rfl ⟨⟨F, A, rfl, hI⟩, rfl⟩
  refine ezw_icmp_lt rfl rfl hu1 ⟨by decide, by decide⟩ (fun h8_1 => ?_) (fun h8_1 => ?_)
  · refine ezw_aload_n rfl rfl ?_
    refine ezw_iconst (1) rfl rfl ?_
    refine ezw_call0_1 rfl (by omega) (ezu_at rfl) rfl rfl rfl rfl (ezs_m50_1 hI (by omega) hzT ⟨by decide, by decide⟩) ?_
    rintro _ _ ⟨⟨F, A, rfl, hI⟩, rfl⟩
    refine ezw_goto rfl rfl ?_
    exact ezw_keepE [true, true, true, true] (J39_1  F A hI)
  · refine ezw_iload_n rfl rfl ?_
    refine ezw_bipush (29) rfl rfl ?_
    refine ezw_icmp_le rfl rfl hu1 ⟨by decide, by decide⟩ (fun h14_12 => ?_) (fun h14_12 => ?_)
    · refine ezw_aload_n rfl rfl ?_
      refine ezs_get_i hI rfl rfl rfl rfl rfl rfl (fun u13 hu13 ku13 => ?_)
      refine ezw_bipush (24) rfl rfl ?_
      refine ezw_icmp_lt rfl rfl hu13 ⟨by decide, by decide⟩ (fun h31_13 => ?_) (fun h31_13 => ?_)
      · exact ezw_keepE [true, true, true, true] (J39_1  F A hI)
      · refine ezw_aload_n rfl rfl ?_
        refine ezw_iconst (5) rfl rfl ?_
        refine ezw_call0_1 rfl (by omega) (ezu_at rfl) rfl rfl rfl rfl (ezs_m50_1 hI (by omega) hzT ⟨by decide, by decide⟩) ?_
        rintro _ _ ⟨⟨F, A, rfl, hI⟩, rfl⟩
        exact ezw_keepE [true, true, true, true] (J39_1  F A hI)
    · refine ezw_aload_n rfl rfl ?_
      refine ezw_iconst (1) rfl rfl ?_
      refine ezw_call0_1 rfl (by omega) (ezu_at rfl) rfl rfl rfl rfl (ezs_m50_1 hI (by omega) hzT ⟨by decide, by decide⟩) ?_
      rintro _ _ ⟨⟨F, A, rfl, hI⟩, rfl⟩
      refine ezw_goto rfl rfl ?_
      exact ezw_keepE [true, true, true, true] (J39_1  F A hI)
theorem ezs_m100_64_1_30 {F : Nat → Nat → Int} {A : Nat → Int → Int} (hI : ezs_I fz F0 A0 F A) (hd : 8 ≤ d) (hzA : ∀ q, 64 ≤ q → q < 68 → fz q = false) (hzT : fz 1 = false) : ezw_C l ρ B xa Hb D cA 100 d [ezw_p 64, ezw_p 1, ezw_p 30] (ezu_g e F A) (ezs_P0 e fz F0 A0 ezs_ri) := by
  refine ezw_met (k := 1) rfl rfl ?_
  refine ezw_aload_n rfl rfl ?_
  refine ezw_iconst (0) rfl rfl ?_
  refine ezs_put_i hI rfl rfl rfl rfl rfl (hzA 64 (by decide) (by decide)) ⟨by decide, by decide⟩ (fun F A hI => ?_)
  refine ezw_aload_n rfl rfl ?_
  refine ezw_call0_0 rfl (by omega) (ezu_at rfl) rfl rfl rfl rfl (ezs_m29_1 hI (by omega) hzT) ?_
  rintro _ _ ⟨⟨F, A, rfl, hI⟩, rfl⟩
  refine ezw_iconst (0) rfl rfl ?_
  refine ezw_istore_n rfl rfl ?_
  have L11_1 : ∀ c1 : Int, ezw_in c1 → (0) ≤ c1 → ∀ F A, ezs_I fz F0 A0 F A → ezw_E l ρ B xa Hb D cA d ezq_re100 (ezs_P0 e fz F0 A0 ezs_ri) 11 [some (ezw_p 64), some (ezw_p 1), some (ezw_p 30), some (ezw_i c1)] [] (ezu_g e F A) := by
    refine ezs_up ?_
    intro c1 hc1 ihc1 gc1 F A hI
    refine ezw_iload_n rfl rfl ?_
    refine ezw_bipush (24) rfl rfl ?_
    refine ezw_icmp_gt rfl rfl hc1 ⟨by decide, by decide⟩ (fun h14_2 => ?_) (fun h14_2 => ?_)
    · refine ezw_aload_n rfl rfl ?_
      refine ezw_call0_0 rfl (by omega) (ezu_at rfl) rfl rfl rfl rfl (ezs_m93_1 hI (by omega) hzT) ?_
      rintro _ _ ⟨⟨F, A, rfl, hI, hz0⟩, u3, hu3, rfl⟩
      exact ezw_ireturn rfl rfl ⟨⟨F, A, rfl, hI, hz0⟩, _, hu3, rfl⟩
    · refine ezw_aload_n rfl rfl ?_
      refine ezw_call0_0 rfl (by omega) (ezu_at rfl) rfl rfl rfl rfl (ezs_m45_1 hI (by omega)) ?_
      rintro _ _ ⟨rfl, u4, hu4, rfl⟩
      refine ezw_if_eq rfl rfl ⟨by omega, by omega⟩ (fun h21_4 => ?_) (fun h21_4 => ?_)
      · refine ezw_aload_n rfl rfl ?_
        refine ezw_call0_0 rfl (by omega) (ezu_at rfl) rfl rfl rfl rfl (ezs_m93_1 hI (by omega) hzT) ?_
        rintro _ _ ⟨⟨F, A, rfl, hI, hz0⟩, u5, hu5, rfl⟩
        exact ezw_ireturn rfl rfl ⟨⟨F, A, rfl, hI, hz0⟩, _, hu5, rfl⟩
      · refine ezw_aload_n rfl rfl ?_
        refine ezw_bipush (102) rfl rfl ?_
        refine ezw_call0_1 rfl (by omega) (ezu_at rfl) rfl rfl rfl rfl (ezs_m46_1 hI (by omega) ⟨by decide, by decide⟩) ?_
        rintro _ _ ⟨rfl, u6, hu6, rfl⟩
        refine ezw_if_ne rfl rfl ⟨by omega, by omega⟩ (fun h30_6 => ?_) (fun h30_6 => ?_)
        · refine ezw_aload_n rfl rfl ?_
          refine ezw_call0_0 rfl (by omega) (ezu_at rfl) rfl rfl rfl rfl (ezs_m93_1 hI (by omega) hzT) ?_
          rintro _ _ ⟨⟨F, A, rfl, hI, hz0⟩, u7, hu7, rfl⟩
          exact ezw_ireturn rfl rfl ⟨⟨F, A, rfl, hI, hz0⟩, _, hu7, rfl⟩
        · refine ezw_aload_n rfl rfl ?_
          refine ezw_aload_n rfl rfl ?_
          refine ezw_aload_n rfl rfl ?_
          refine ezw_call0_2 rfl (by omega) (ezu_at rfl) rfl rfl rfl rfl (ezs_m101_64_1_30 hI (by omega) (fun q h0 h1 => hzA q (by omega) (by omega)) hzT) ?_
          rintro _ _ ⟨⟨F, A, rfl, hI⟩, rfl⟩
          refine ezw_iinc (1) rfl rfl rfl rfl rfl ?_
          refine ezw_goto rfl rfl ?_
          exact ezw_keepE [true, true, true, true] (ihc1 (c1 + (1)) (by omega) ⟨by omega, by omega⟩ (by omega)  F A hI)
  exact ezw_keepE [true, true, true, true] (L11_1 (0) ⟨by decide, by decide⟩ (by omega)  F A hI)
theorem ezs_m27_65 {a1 : Int} {F : Nat → Nat → Int} {A : Nat → Int → Int} (hI : ezs_I fz F0 A0 F A) (hd : 0 ≤ d) (ha1 : ezw_in a1) : ezw_C l ρ B xa Hb D cA 27 d [ezw_p 65, ezw_i a1] (ezu_g e F A) (ezs_Pp e F A ezs_ri) := by
  refine ezw_met (k := 0) rfl rfl ?_
  refine ezw_aload_n rfl rfl ?_
  refine ezw_ifnull rfl ?_
  refine ezw_iload_n rfl rfl ?_
  refine ezw_if_lt rfl rfl ha1 (fun h5_0 => ?_) (fun h5_0 => ?_)
  · refine ezw_iconst (0) rfl rfl ?_
    exact ezw_ireturn rfl rfl ⟨rfl, _, ⟨by decide, by decide⟩, rfl⟩
  · refine ezw_iload_n rfl rfl ?_
    refine ezw_aload_n rfl rfl ?_
    refine ezs_alen (k := 24) rfl rfl rfl rfl (by decide) (by decide) ?_
    refine ezw_icmp_ge rfl rfl ha1 ⟨by decide, by decide⟩ (fun h11_0 => ?_) (fun h11_0 => ?_)
    · refine ezw_iconst (0) rfl rfl ?_
      exact ezw_ireturn rfl rfl ⟨rfl, _, ⟨by decide, by decide⟩, rfl⟩
    · refine ezw_aload_n rfl rfl ?_
      refine ezw_iload_n rfl rfl ?_
      refine ezs_iaload hI rfl rfl rfl (by omega) (by omega) (by decide) (fun u1 hu1 ku1 => ?_)
      refine ezw_goto rfl rfl ?_
      exact ezw_ireturn rfl rfl ⟨rfl, _, hu1, rfl⟩
theorem ezs_m27_66 {a1 : Int} {F : Nat → Nat → Int} {A : Nat → Int → Int} (hI : ezs_I fz F0 A0 F A) (hd : 0 ≤ d) (ha1 : ezw_in a1) : ezw_C l ρ B xa Hb D cA 27 d [ezw_p 66, ezw_i a1] (ezu_g e F A) (ezs_Pp e F A ezs_ri) := by
  refine ezw_met (k := 0) rfl rfl ?_
  refine ezw_aload_n rfl rfl ?_
  refine ezw_ifnull rfl ?_
  refine ezw_iload_n rfl rfl ?_
  refine ezw_if_lt rfl rfl ha1 (fun h5_0 => ?_) (fun h5_0 => ?_)
  · refine ezw_iconst (0) rfl rfl ?_
    exact ezw_ireturn rfl rfl ⟨rfl, _, ⟨by decide, by decide⟩, rfl⟩
  · refine ezw_iload_n rfl rfl ?_
    refine ezw_aload_n rfl rfl ?_
    refine ezs_alen (k := 24) rfl rfl rfl rfl (by decide) (by decide) ?_
    refine ezw_icmp_ge rfl rfl ha1 ⟨by decide, by decide⟩ (fun h11_0 => ?_) (fun h11_0 => ?_)
    · refine ezw_iconst (0) rfl rfl ?_
      exact ezw_ireturn rfl rfl ⟨rfl, _, ⟨by decide, by decide⟩, rfl⟩
    · refine ezw_aload_n rfl rfl ?_
      refine ezw_iload_n rfl rfl ?_
      refine ezs_iaload hI rfl rfl rfl (by omega) (by omega) (by decide) (fun u1 hu1 ku1 => ?_)
      refine ezw_goto rfl rfl ?_
      exact ezw_ireturn rfl rfl ⟨rfl, _, hu1, rfl⟩
theorem ezs_m27_67 {a1 : Int} {F : Nat → Nat → Int} {A : Nat → Int → Int} (hI : ezs_I fz F0 A0 F A) (hd : 0 ≤ d) (ha1 : ezw_in a1) : ezw_C l ρ B xa Hb D cA 27 d [ezw_p 67, ezw_i a1] (ezu_g e F A) (ezs_Pp e F A ezs_ri) := by
  refine ezw_met (k := 0) rfl rfl ?_
  refine ezw_aload_n rfl rfl ?_
  refine ezw_ifnull rfl ?_
  refine ezw_iload_n rfl rfl ?_
  refine ezw_if_lt rfl rfl ha1 (fun h5_0 => ?_) (fun h5_0 => ?_)
  · refine ezw_iconst (0) rfl rfl ?_
    exact ezw_ireturn rfl rfl ⟨rfl, _, ⟨by decide, by decide⟩, rfl⟩
  · refine ezw_iload_n rfl rfl ?_
    refine ezw_aload_n rfl rfl ?_
    refine ezs_alen (k := 24) rfl rfl rfl rfl (by decide) (by decide) ?_
    refine ezw_icmp_ge rfl rfl ha1 ⟨by decide, by decide⟩ (fun h11_0 => ?_) (fun h11_0 => ?_)
    · refine ezw_iconst (0) rfl rfl ?_
      exact ezw_ireturn rfl rfl ⟨rfl, _, ⟨by decide, by decide⟩, rfl⟩
    · refine ezw_aload_n rfl rfl ?_
      refine ezw_iload_n rfl rfl ?_
      refine ezs_iaload hI rfl rfl rfl (by omega) (by omega) (by decide) (fun u1 hu1 ku1 => ?_)
      refine ezw_goto rfl rfl ?_
      exact ezw_ireturn rfl rfl ⟨rfl, _, hu1, rfl⟩
theorem ezs_m142_64_30_26 {F : Nat → Nat → Int} {A : Nat → Int → Int} (hI : ezs_I fz F0 A0 F A) (hd : 5 ≤ d) (hzA : ∀ q, 26 ≤ q → q < 27 → fz q = false) : ezw_C l ρ B xa Hb D cA 142 d [ezw_p 64, ezw_p 30, ezw_p 26] (ezu_g e F A) (ezs_P e fz F0 A0 ezs_ri) := by
  refine ezw_met (k := 3) rfl rfl ?_
  refine ezw_iconst (-1) rfl rfl ?_
  refine ezw_istore_n rfl rfl ?_
  refine ezw_aload_n rfl rfl ?_
  refine ezw_aload_n rfl rfl ?_
  refine ezw_call0_1 rfl (by omega) (ezu_at rfl) rfl rfl rfl rfl (ezs_m94_26_30 hI (by omega) (fun q h0 h1 => hzA q (by omega) (by omega))) ?_
  rintro _ _ ⟨⟨F, A, rfl, hI⟩, rfl⟩
  refine ezw_iconst (0) rfl rfl ?_
  refine ezw_istore rfl rfl ?_
  have L10_2 : ∀ c2 : Int, ezw_in c2 → (0) ≤ c2 → ∀ y1 : Int, ezw_in y1 → ∀ F A, ezs_I fz F0 A0 F A → ezw_E l ρ B xa Hb D cA d ezq_re142 (ezs_P e fz F0 A0 ezs_ri) 10 [some (ezw_p 64), some (ezw_p 30), some (ezw_p 26), some (ezw_i y1), some (ezw_i c2), none] [] (ezu_g e F A) := by
    refine ezs_up ?_
    intro c2 hc2 ihc2 gc2 y1 hy1 F A hI
    refine ezw_iload rfl rfl ?_
    refine ezw_aload_n rfl rfl ?_
    refine ezs_get_i hI rfl rfl rfl rfl rfl rfl (fun u4 hu4 ku4 => ?_)
    refine ezw_icmp_ge rfl rfl hc2 hu4 (fun h16_4 => ?_) (fun h16_4 => ?_)
    · refine ezw_iload_n rfl rfl ?_
      exact ezw_ireturn rfl rfl ⟨⟨F, A, rfl, hI⟩, _, hy1, rfl⟩
    · refine ezw_iload rfl rfl ?_
      refine ezw_bipush (24) rfl rfl ?_
      refine ezw_icmp_ge rfl rfl hc2 ⟨by decide, by decide⟩ (fun h23_4 => ?_) (fun h23_4 => ?_)
      · refine ezw_iload_n rfl rfl ?_
        exact ezw_ireturn rfl rfl ⟨⟨F, A, rfl, hI⟩, _, hy1, rfl⟩
      · refine ezw_aload_n rfl rfl ?_
        refine ezw_aload_n rfl rfl ?_
        refine ezw_aload_n rfl rfl ?_
        refine ezs_getp (p := 65) rfl rfl rfl rfl rfl ?_
        refine ezw_iload rfl rfl ?_
        refine ezw_call3_2 rfl (by omega) rfl rfl (ezs_m27_65 hI (by omega) hc2) ?_
        rintro _ _ ⟨rfl, u5, hu5, rfl⟩
        refine ezw_aload_n rfl rfl ?_
        refine ezs_getp (p := 66) rfl rfl rfl rfl rfl ?_
        refine ezw_iload rfl rfl ?_
        refine ezw_call3_2 rfl (by omega) rfl rfl (ezs_m27_66 hI (by omega) hc2) ?_
        rintro _ _ ⟨rfl, u6, hu6, rfl⟩
        refine ezw_aload_n rfl rfl ?_
        refine ezs_getp (p := 67) rfl rfl rfl rfl rfl ?_
        refine ezw_iload rfl rfl ?_
        refine ezw_call3_2 rfl (by omega) rfl rfl (ezs_m27_67 hI (by omega) hc2) ?_
        rintro _ _ ⟨rfl, u7, hu7, rfl⟩
        refine ezw_call0_4 rfl (by omega) (ezu_at rfl) rfl rfl rfl rfl (ezs_m120_26_30 hI (by omega) (fun q h0 h1 => hzA q (by omega) (by omega)) hu5 hu6 hu7) ?_
        rintro _ _ ⟨⟨F, A, rfl, hI⟩, u8, hu8, rfl⟩
        refine ezw_istore rfl rfl ?_
        refine ezw_iload rfl rfl ?_
        refine ezw_if_ne rfl rfl ⟨by omega, by omega⟩ (fun h62_8 => ?_) (fun h62_8 => ?_)
        · refine ezw_iinc (1) rfl rfl rfl rfl rfl ?_
          refine ezw_goto rfl rfl ?_
          exact ezw_keepE [true, true, true, true, true, false] (ihc2 (c2 + (1)) (by omega) ⟨by omega, by omega⟩ (by omega) y1 hy1 F A hI)
        · refine ezw_iload_n rfl rfl ?_
          refine ezw_iconst (-1) rfl rfl ?_
          refine ezw_icmp_ne rfl rfl hy1 ⟨by decide, by decide⟩ (fun h67_8 => ?_) (fun h67_8 => ?_)
          · refine ezw_iinc (1) rfl rfl rfl rfl rfl ?_
            refine ezw_goto rfl rfl ?_
            exact ezw_keepE [true, true, true, true, true, false] (ihc2 (c2 + (1)) (by omega) ⟨by omega, by omega⟩ (by omega) y1 hy1 F A hI)
          · refine ezw_iload rfl rfl ?_
            refine ezw_istore_n rfl rfl ?_
            refine ezw_iinc (1) rfl rfl rfl rfl rfl ?_
            refine ezw_goto rfl rfl ?_
            exact ezw_keepE [true, true, true, true, true, false] (ihc2 (c2 + (1)) (by omega) ⟨by omega, by omega⟩ (by omega) c2 hc2 F A hI)
  exact ezw_keepE [true, true, true, true, true, false] (L10_2 (0) ⟨by decide, by decide⟩ (by omega) (-1) ⟨by decide, by decide⟩ F A hI)
theorem ezs_m104_64_1_47 {F : Nat → Nat → Int} {A : Nat → Int → Int} (hI : ezs_I fz F0 A0 F A) (hd : 6 ≤ d) (hzA : ∀ q, 64 ≤ q → q < 68 → fz q = false) (hzT : fz 1 = false) : ezw_C l ρ B xa Hb D cA 104 d [ezw_p 64, ezw_p 1, ezw_p 47] (ezu_g e F A) (ezs_P e fz F0 A0 ezs_rn) := by
  refine ezw_met (k := 2) rfl rfl ?_
  refine ezw_aload_n rfl rfl ?_
  refine ezw_aload_n rfl rfl ?_
  refine ezw_iconst (1) rfl rfl ?_
  refine ezw_call0_2 rfl (by omega) (ezu_at rfl) rfl rfl rfl rfl (ezs_m61_1_47 hI (by omega) hzT ⟨by decide, by decide⟩) ?_
  rintro _ _ ⟨⟨F, A, rfl, hI⟩, u1, hu1, rfl⟩
  refine ezw_istore_n rfl rfl ?_
  refine ezw_iconst (0) rfl rfl ?_
  refine ezw_istore rfl rfl ?_
  refine ezw_aload_n rfl rfl ?_
  refine ezw_bipush (40) rfl rfl ?_
  refine ezw_call0_1 rfl (by omega) (ezu_at rfl) rfl rfl rfl rfl (ezs_m60_1 hI (by omega) hzT ⟨by decide, by decide⟩) ?_
  rintro _ _ ⟨⟨F, A, rfl, hI⟩, u2, hu2, rfl⟩
  have J46_3 : ∀ y3 : Int, ezw_in y3 → ∀ F A, ezs_I fz F0 A0 F A → ezw_E l ρ B xa Hb D cA d ezq_re104 (ezs_P e fz F0 A0 ezs_rn) 46 [some (ezw_p 64), some (ezw_p 1), some (ezw_p 47), some (ezw_i u1), some (ezw_i y3)] [] (ezu_g e F A) := by
    intro y3 hy3 F A hI
    refine ezw_aload_n rfl rfl ?_
    refine ezw_iconst (4) rfl rfl ?_
    refine ezw_iload_n rfl rfl ?_
    refine ezw_iload rfl rfl ?_
    refine ezw_call0_3 rfl (by omega) (ezu_at rfl) rfl rfl rfl rfl (ezs_m103_64 hI (by omega) (fun q h0 h1 => hzA q (by omega) (by omega)) ⟨by decide, by decide⟩ hu1 hy3) ?_
    rintro _ _ ⟨⟨F, A, rfl, hI⟩, rfl⟩
    exact ezw_return rfl rfl ⟨⟨F, A, rfl, hI⟩, rfl⟩
  refine ezw_if_eq rfl rfl ⟨by omega, by omega⟩ (fun h16_2 => ?_) (fun h16_2 => ?_)
  · refine ezw_aload_n rfl rfl ?_
    refine ezw_bipush (11) rfl rfl ?_
    refine ezw_call0_1 rfl (by omega) (ezu_at rfl) rfl rfl rfl rfl (ezs_m60_1 hI (by omega) hzT ⟨by decide, by decide⟩) ?_
    rintro _ _ ⟨⟨F, A, rfl, hI⟩, u5, hu5, rfl⟩
    refine ezw_if_eq rfl rfl ⟨by omega, by omega⟩ (fun h31_5 => ?_) (fun h31_5 => ?_)
    · refine ezw_aload_n rfl rfl ?_
      refine ezw_bipush (39) rfl rfl ?_
      refine ezw_call0_1 rfl (by omega) (ezu_at rfl) rfl rfl rfl rfl (ezs_m56_1 hI (by omega) hzT ⟨by decide, by decide⟩) ?_
      rintro _ _ ⟨⟨F, A, rfl, hI⟩, rfl⟩
      exact ezw_keepE [true, true, true, true, true] (J46_3 (0) ⟨by decide, by decide⟩ F A hI)
    · refine ezw_iconst (2) rfl rfl ?_
      refine ezw_istore rfl rfl ?_
      refine ezw_goto rfl rfl ?_
      exact ezw_keepE [true, true, true, true, true] (J46_3 (2) ⟨by decide, by decide⟩ F A hI)
  · refine ezw_iconst (1) rfl rfl ?_
    refine ezw_istore rfl rfl ?_
    refine ezw_goto rfl rfl ?_
    exact ezw_keepE [true, true, true, true, true] (J46_3 (1) ⟨by decide, by decide⟩ F A hI)
theorem ezs_m101_64_1_47 {F : Nat → Nat → Int} {A : Nat → Int → Int} (hI : ezs_I fz F0 A0 F A) (hd : 7 ≤ d) (hzA : ∀ q, 64 ≤ q → q < 68 → fz q = false) (hzT : fz 1 = false) : ezw_C l ρ B xa Hb D cA 101 d [ezw_p 64, ezw_p 1, ezw_p 47] (ezu_g e F A) (ezs_P e fz F0 A0 ezs_rn) := by
  refine ezw_met (k := 1) rfl rfl ?_
  refine ezw_aload_n rfl rfl ?_
  refine ezs_get_i hI rfl rfl rfl rfl rfl rfl (fun u1 hu1 ku1 => ?_)
  refine ezw_istore_n rfl rfl ?_
  refine ezw_iload_n rfl rfl ?_
  refine ezw_bipush (23) rfl rfl ?_
  have J39_1 : ∀ F A, ezs_I fz F0 A0 F A → ezw_E l ρ B xa Hb D cA d ezq_re101 (ezs_P e fz F0 A0 ezs_rn) 39 [some (ezw_p 64), some (ezw_p 1), some (ezw_p 47), some (ezw_i u1)] [] (ezu_g e F A) := by
    intro F A hI
    refine ezw_aload_n rfl rfl ?_
    refine ezw_call0_0 rfl (by omega) (ezu_at rfl) rfl rfl rfl rfl (ezs_m45_1 hI (by omega)) ?_
    rintro _ _ ⟨rfl, u3, hu3, rfl⟩
    refine ezw_if_ne rfl rfl ⟨by omega, by omega⟩ (fun h43_3 => ?_) (fun h43_3 => ?_)
    · refine ezw_aload_n rfl rfl ?_
      refine ezw_call0_0 rfl (by omega) (ezu_at rfl) rfl rfl rfl rfl (ezs_m30_1 hI (by omega) hzT) ?_
      rintro _ _ ⟨⟨F, A, rfl, hI⟩, rfl⟩
      refine ezw_iload_n rfl rfl ?_
      by_cases q4 : u1 = (23)
      · refine ezw_tableswitchE (v := 23) (p := 92) q4 rfl (by rfl) ?_
        refine ezw_aload_n rfl rfl ?_
        refine ezw_aload_n rfl rfl ?_
        refine ezw_call0_1 rfl (by omega) (ezu_at rfl) rfl rfl rfl rfl (ezs_m102_64_1 hI (by omega) (fun q h0 h1 => hzA q (by omega) (by omega)) hzT) ?_
        rintro _ _ ⟨⟨F, A, rfl, hI⟩, rfl⟩
        refine ezw_goto rfl rfl ?_
        refine ezw_aload_n rfl rfl ?_
        refine ezw_sipush (259) rfl rfl ?_
        refine ezw_call0_1 rfl (by omega) (ezu_at rfl) rfl rfl rfl rfl (ezs_m56_1 hI (by omega) hzT ⟨by decide, by decide⟩) ?_
        rintro _ _ ⟨⟨F, A, rfl, hI⟩, rfl⟩
        exact ezw_return rfl rfl ⟨⟨F, A, rfl, hI⟩, rfl⟩
      by_cases q5 : u1 = (24)
      · refine ezw_tableswitchE (v := 24) (p := 100) q5 rfl (by rfl) ?_
        refine ezw_aload_n rfl rfl ?_
        refine ezw_iconst (2) rfl rfl ?_
        refine ezw_iconst (0) rfl rfl ?_
        refine ezw_iconst (0) rfl rfl ?_
        refine ezw_call0_3 rfl (by omega) (ezu_at rfl) rfl rfl rfl rfl (ezs_m103_64 hI (by omega) (fun q h0 h1 => hzA q (by omega) (by omega)) ⟨by decide, by decide⟩ ⟨by decide, by decide⟩ ⟨by decide, by decide⟩) ?_
        rintro _ _ ⟨⟨F, A, rfl, hI⟩, rfl⟩
        refine ezw_goto rfl rfl ?_
        refine ezw_aload_n rfl rfl ?_
        refine ezw_sipush (259) rfl rfl ?_
        refine ezw_call0_1 rfl (by omega) (ezu_at rfl) rfl rfl rfl rfl (ezs_m56_1 hI (by omega) hzT ⟨by decide, by decide⟩) ?_
        rintro _ _ ⟨⟨F, A, rfl, hI⟩, rfl⟩
        exact ezw_return rfl rfl ⟨⟨F, A, rfl, hI⟩, rfl⟩
      by_cases q6 : u1 = (25)
      · refine ezw_tableswitchE (v := 25) (p := 110) q6 rfl (by rfl) ?_
        refine ezw_aload_n rfl rfl ?_
        refine ezw_iconst (3) rfl rfl ?_
        refine ezw_iconst (0) rfl rfl ?_
        refine ezw_iconst (0) rfl rfl ?_
        refine ezw_call0_3 rfl (by omega) (ezu_at rfl) rfl rfl rfl rfl (ezs_m103_64 hI (by omega) (fun q h0 h1 => hzA q (by omega) (by omega)) ⟨by decide, by decide⟩ ⟨by decide, by decide⟩ ⟨by decide, by decide⟩) ?_
        rintro _ _ ⟨⟨F, A, rfl, hI⟩, rfl⟩
        refine ezw_goto rfl rfl ?_
        refine ezw_aload_n rfl rfl ?_
        refine ezw_sipush (259) rfl rfl ?_
        refine ezw_call0_1 rfl (by omega) (ezu_at rfl) rfl rfl rfl rfl (ezs_m56_1 hI (by omega) hzT ⟨by decide, by decide⟩) ?_
        rintro _ _ ⟨⟨F, A, rfl, hI⟩, rfl⟩
        exact ezw_return rfl rfl ⟨⟨F, A, rfl, hI⟩, rfl⟩
      by_cases q7 : u1 = (26)
      · refine ezw_tableswitchE (v := 26) (p := 120) q7 rfl (by rfl) ?_
        refine ezw_aload_n rfl rfl ?_
        refine ezw_aload_n rfl rfl ?_
        refine ezw_aload_n rfl rfl ?_
        refine ezw_call0_2 rfl (by omega) (ezu_at rfl) rfl rfl rfl rfl (ezs_m104_64_1_47 hI (by omega) (fun q h0 h1 => hzA q (by omega) (by omega)) hzT) ?_
        rintro _ _ ⟨⟨F, A, rfl, hI⟩, rfl⟩
        refine ezw_goto rfl rfl ?_
        refine ezw_aload_n rfl rfl ?_
        refine ezw_sipush (259) rfl rfl ?_
        refine ezw_call0_1 rfl (by omega) (ezu_at rfl) rfl rfl rfl rfl (ezs_m56_1 hI (by omega) hzT ⟨by decide, by decide⟩) ?_
        rintro _ _ ⟨⟨F, A, rfl, hI⟩, rfl⟩
        exact ezw_return rfl rfl ⟨⟨F, A, rfl, hI⟩, rfl⟩
      by_cases q8 : u1 = (27)
      · refine ezw_tableswitchE (v := 27) (p := 129) q8 rfl (by rfl) ?_
        refine ezw_aload_n rfl rfl ?_
        refine ezw_iconst (5) rfl rfl ?_
        refine ezw_aload_n rfl rfl ?_
        refine ezw_aload_n rfl rfl ?_
        refine ezw_iconst (0) rfl rfl ?_
        refine ezw_call0_2 rfl (by omega) (ezu_at rfl) rfl rfl rfl rfl (ezs_m61_1_47 hI (by omega) hzT ⟨by decide, by decide⟩) ?_
        rintro _ _ ⟨⟨F, A, rfl, hI⟩, u9, hu9, rfl⟩
        refine ezw_iconst (0) rfl rfl ?_
        refine ezw_call0_3 rfl (by omega) (ezu_at rfl) rfl rfl rfl rfl (ezs_m103_64 hI (by omega) (fun q h0 h1 => hzA q (by omega) (by omega)) ⟨by decide, by decide⟩ hu9 ⟨by decide, by decide⟩) ?_
        rintro _ _ ⟨⟨F, A, rfl, hI⟩, rfl⟩
        refine ezw_goto rfl rfl ?_
        refine ezw_aload_n rfl rfl ?_
        refine ezw_sipush (259) rfl rfl ?_
        refine ezw_call0_1 rfl (by omega) (ezu_at rfl) rfl rfl rfl rfl (ezs_m56_1 hI (by omega) hzT ⟨by decide, by decide⟩) ?_
        rintro _ _ ⟨⟨F, A, rfl, hI⟩, rfl⟩
        exact ezw_return rfl rfl ⟨⟨F, A, rfl, hI⟩, rfl⟩
      by_cases q10 : u1 = (28)
      · refine ezw_tableswitchE (v := 28) (p := 144) q10 rfl (by rfl) ?_
        refine ezw_aload_n rfl rfl ?_
        refine ezw_bipush (6) rfl rfl ?_
        refine ezw_aload_n rfl rfl ?_
        refine ezw_aload_n rfl rfl ?_
        refine ezw_iconst (0) rfl rfl ?_
        refine ezw_call0_2 rfl (by omega) (ezu_at rfl) rfl rfl rfl rfl (ezs_m61_1_47 hI (by omega) hzT ⟨by decide, by decide⟩) ?_
        rintro _ _ ⟨⟨F, A, rfl, hI⟩, u11, hu11, rfl⟩
        refine ezw_iconst (0) rfl rfl ?_
        refine ezw_call0_3 rfl (by omega) (ezu_at rfl) rfl rfl rfl rfl (ezs_m103_64 hI (by omega) (fun q h0 h1 => hzA q (by omega) (by omega)) ⟨by decide, by decide⟩ hu11 ⟨by decide, by decide⟩) ?_
        rintro _ _ ⟨⟨F, A, rfl, hI⟩, rfl⟩
        refine ezw_goto rfl rfl ?_
        refine ezw_aload_n rfl rfl ?_
        refine ezw_sipush (259) rfl rfl ?_
        refine ezw_call0_1 rfl (by omega) (ezu_at rfl) rfl rfl rfl rfl (ezs_m56_1 hI (by omega) hzT ⟨by decide, by decide⟩) ?_
        rintro _ _ ⟨⟨F, A, rfl, hI⟩, rfl⟩
        exact ezw_return rfl rfl ⟨⟨F, A, rfl, hI⟩, rfl⟩
      refine ezw_tableswitch (p := 160) rfl (ezs_swd hu1 (And.intro (And.intro ⟨by decide, by decide⟩ (fun z => q4 z.symm)) (And.intro (And.intro ⟨by decide, by decide⟩ (fun z => q5 z.symm)) (And.intro (And.intro ⟨by decide, by decide⟩ (fun z => q6 z.symm)) (And.intro (And.intro ⟨by decide, by decide⟩ (fun z => q7 z.symm)) (And.intro (And.intro ⟨by decide, by decide⟩ (fun z => q8 z.symm)) (And.intro (And.intro ⟨by decide, by decide⟩ (fun z => q10 z.symm)) True.intro)))))) rfl) ?_
      refine ezw_aload_n rfl rfl ?_
      refine ezw_bipush (7) rfl rfl ?_
      refine ezw_aload_n rfl rfl ?_
      refine ezw_bipush (30) rfl rfl ?_
      refine ezw_iconst (4) rfl rfl ?_
      refine ezw_call0_2 rfl (by omega) (ezu_at rfl) rfl rfl rfl rfl (ezs_m59_1 hI (by omega) hzT ⟨by decide, by decide⟩ (by omega) ⟨by decide, by decide⟩ (by omega)) ?_
      rintro _ _ ⟨⟨F, A, rfl, hI⟩, u12, hu12, rfl⟩
      refine ezw_iconst (0) rfl rfl ?_
      refine ezw_call0_3 rfl (by omega) (ezu_at rfl) rfl rfl rfl rfl (ezs_m103_64 hI (by omega) (fun q h0 h1 => hzA q (by omega) (by omega)) ⟨by decide, by decide⟩ ⟨by omega, by omega⟩ ⟨by decide, by decide⟩) ?_
      rintro _ _ ⟨⟨F, A, rfl, hI⟩, rfl⟩
      refine ezw_aload_n rfl rfl ?_
      refine ezw_sipush (259) rfl rfl ?_
      refine ezw_call0_1 rfl (by omega) (ezu_at rfl) rfl rfl rfl rfl (ezs_m56_1 hI (by omega) hzT ⟨by decide, by decide⟩) ?_
      rintro _ _ ⟨⟨F, A, rfl, hI⟩, rfl⟩
      exact ezw_return rfl rfl ⟨⟨F, A, rfl, hI⟩, rfl⟩
    · exact ezw_return rfl rfl ⟨⟨F, A, rfl, hI⟩, rfl⟩
  refine ezw_icmp_lt rfl rfl hu1 ⟨by decide, by decide⟩ (fun h8_1 => ?_) (fun h8_1 => ?_)
  · refine ezw_aload_n rfl rfl ?_
    refine ezw_iconst (1) rfl rfl ?_
    refine ezw_call0_1 rfl (by omega) (ezu_at rfl) rfl rfl rfl rfl (ezs_m50_1 hI (by omega) hzT ⟨by decide, by decide⟩) ?_
    rintro _ _ ⟨⟨F, A, rfl, hI⟩, rfl⟩
    refine ezw_goto rfl rfl ?_
    exact ezw_keepE [true, true, true, true] (J39_1  F A hI)
  · refine ezw_iload_n rfl rfl ?_
    refine ezw_bipush (29) rfl rfl ?_
    refine ezw_icmp_le rfl rfl hu1 ⟨by decide, by decide⟩ (fun h14_12 => ?_) (fun h14_12 => ?_)
    · refine ezw_aload_n rfl rfl ?_
      refine ezs_get_i hI rfl rfl rfl rfl rfl rfl (fun u13 hu13 ku13 => ?_)
      refine ezw_bipush (24) rfl rfl ?_
      refine ezw_icmp_lt rfl rfl hu13 ⟨by decide, by decide⟩ (fun h31_13 => ?_) (fun h31_13 => ?_)
      · exact ezw_keepE [true, true, true, true] (J39_1  F A hI)
      · refine ezw_aload_n rfl rfl ?_
        refine ezw_iconst (5) rfl rfl ?_
        refine ezw_call0_1 rfl (by omega) (ezu_at rfl) rfl rfl rfl rfl (ezs_m50_1 hI (by omega) hzT ⟨by decide, by decide⟩) ?_
        rintro _ _ ⟨⟨F, A, rfl, hI⟩, rfl⟩
        exact ezw_keepE [true, true, true, true] (J39_1  F A hI)
    · refine ezw_aload_n rfl rfl ?_
      refine ezw_iconst (1) rfl rfl ?_
      refine ezw_call0_1 rfl (by omega) (ezu_at rfl) rfl rfl rfl rfl (ezs_m50_1 hI (by omega) hzT ⟨by decide, by decide⟩) ?_
      rintro _ _ ⟨⟨F, A, rfl, hI⟩, rfl⟩
      refine ezw_goto rfl rfl ?_
      exact ezw_keepE [true, true, true, true] (J39_1  F A hI)
theorem ezs_m100_64_1_47 {F : Nat → Nat → Int} {A : Nat → Int → Int} (hI : ezs_I fz F0 A0 F A) (hd : 8 ≤ d) (hzA : ∀ q, 64 ≤ q → q < 68 → fz q = false) (hzT : fz 1 = false) : ezw_C l ρ B xa Hb D cA 100 d [ezw_p 64, ezw_p 1, ezw_p 47] (ezu_g e F A) (ezs_P0 e fz F0 A0 ezs_ri) := by
  refine ezw_met (k := 1) rfl rfl ?_
  refine ezw_aload_n rfl rfl ?_
  refine ezw_iconst (0) rfl rfl ?_
  refine ezs_put_i hI rfl rfl rfl rfl rfl (hzA 64 (by decide) (by decide)) ⟨by decide, by decide⟩ (fun F A hI => ?_)
  refine ezw_aload_n rfl rfl ?_
  refine ezw_call0_0 rfl (by omega) (ezu_at rfl) rfl rfl rfl rfl (ezs_m29_1 hI (by omega) hzT) ?_
  rintro _ _ ⟨⟨F, A, rfl, hI⟩, rfl⟩
  refine ezw_iconst (0) rfl rfl ?_
  refine ezw_istore_n rfl rfl ?_
  have L11_1 : ∀ c1 : Int, ezw_in c1 → (0) ≤ c1 → ∀ F A, ezs_I fz F0 A0 F A → ezw_E l ρ B xa Hb D cA d ezq_re100 (ezs_P0 e fz F0 A0 ezs_ri) 11 [some (ezw_p 64), some (ezw_p 1), some (ezw_p 47), some (ezw_i c1)] [] (ezu_g e F A) := by
    refine ezs_up ?_
    intro c1 hc1 ihc1 gc1 F A hI
    refine ezw_iload_n rfl rfl ?_
    refine ezw_bipush (24) rfl rfl ?_
    refine ezw_icmp_gt rfl rfl hc1 ⟨by decide, by decide⟩ (fun h14_2 => ?_) (fun h14_2 => ?_)
    · refine ezw_aload_n rfl rfl ?_
      refine ezw_call0_0 rfl (by omega) (ezu_at rfl) rfl rfl rfl rfl (ezs_m93_1 hI (by omega) hzT) ?_
      rintro _ _ ⟨⟨F, A, rfl, hI, hz0⟩, u3, hu3, rfl⟩
      exact ezw_ireturn rfl rfl ⟨⟨F, A, rfl, hI, hz0⟩, _, hu3, rfl⟩
    · refine ezw_aload_n rfl rfl ?_
      refine ezw_call0_0 rfl (by omega) (ezu_at rfl) rfl rfl rfl rfl (ezs_m45_1 hI (by omega)) ?_
      rintro _ _ ⟨rfl, u4, hu4, rfl⟩
      refine ezw_if_eq rfl rfl ⟨by omega, by omega⟩ (fun h21_4 => ?_) (fun h21_4 => ?_)
      · refine ezw_aload_n rfl rfl ?_
        refine ezw_call0_0 rfl (by omega) (ezu_at rfl) rfl rfl rfl rfl (ezs_m93_1 hI (by omega) hzT) ?_
        rintro _ _ ⟨⟨F, A, rfl, hI, hz0⟩, u5, hu5, rfl⟩
        exact ezw_ireturn rfl rfl ⟨⟨F, A, rfl, hI, hz0⟩, _, hu5, rfl⟩
      · refine ezw_aload_n rfl rfl ?_
        refine ezw_bipush (102) rfl rfl ?_
        refine ezw_call0_1 rfl (by omega) (ezu_at rfl) rfl rfl rfl rfl (ezs_m46_1 hI (by omega) ⟨by decide, by decide⟩) ?_
        rintro _ _ ⟨rfl, u6, hu6, rfl⟩
        refine ezw_if_ne rfl rfl ⟨by omega, by omega⟩ (fun h30_6 => ?_) (fun h30_6 => ?_)
        · refine ezw_aload_n rfl rfl ?_
          refine ezw_call0_0 rfl (by omega) (ezu_at rfl) rfl rfl rfl rfl (ezs_m93_1 hI (by omega) hzT) ?_
          rintro _ _ ⟨⟨F, A, rfl, hI, hz0⟩, u7, hu7, rfl⟩
          exact ezw_ireturn rfl rfl ⟨⟨F, A, rfl, hI, hz0⟩, _, hu7, rfl⟩
        · refine ezw_aload_n rfl rfl ?_
          refine ezw_aload_n rfl rfl ?_
          refine ezw_aload_n rfl rfl ?_
          refine ezw_call0_2 rfl (by omega) (ezu_at rfl) rfl rfl rfl rfl (ezs_m101_64_1_47 hI (by omega) (fun q h0 h1 => hzA q (by omega) (by omega)) hzT) ?_
          rintro _ _ ⟨⟨F, A, rfl, hI⟩, rfl⟩
          refine ezw_iinc (1) rfl rfl rfl rfl rfl ?_
          refine ezw_goto rfl rfl ?_
          exact ezw_keepE [true, true, true, true] (ihc1 (c1 + (1)) (by omega) ⟨by omega, by omega⟩ (by omega)  F A hI)
  exact ezw_keepE [true, true, true, true] (L11_1 (0) ⟨by decide, by decide⟩ (by omega)  F A hI)
theorem ezs_m142_64_47_26 {F : Nat → Nat → Int} {A : Nat → Int → Int} (hI : ezs_I fz F0 A0 F A) (hd : 5 ≤ d) (hzA : ∀ q, 26 ≤ q → q < 27 → fz q = false) : ezw_C l ρ B xa Hb D cA 142 d [ezw_p 64, ezw_p 47, ezw_p 26] (ezu_g e F A) (ezs_P e fz F0 A0 ezs_ri) := by
  refine ezw_met (k := 3) rfl rfl ?_
  refine ezw_iconst (-1) rfl rfl ?_
  refine ezw_istore_n rfl rfl ?_
  refine ezw_aload_n rfl rfl ?_
  refine ezw_aload_n rfl rfl ?_
  refine ezw_call0_1 rfl (by omega) (ezu_at rfl) rfl rfl rfl rfl (ezs_m94_26_47 hI (by omega) (fun q h0 h1 => hzA q (by omega) (by omega))) ?_
  rintro _ _ ⟨⟨F, A, rfl, hI⟩, rfl⟩
  refine ezw_iconst (0) rfl rfl ?_
  refine ezw_istore rfl rfl ?_
  have L10_2 : ∀ c2 : Int, ezw_in c2 → (0) ≤ c2 → ∀ y1 : Int, ezw_in y1 → ∀ F A, ezs_I fz F0 A0 F A → ezw_E l ρ B xa Hb D cA d ezq_re142 (ezs_P e fz F0 A0 ezs_ri) 10 [some (ezw_p 64), some (ezw_p 47), some (ezw_p 26), some (ezw_i y1), some (ezw_i c2), none] [] (ezu_g e F A) := by
    refine ezs_up ?_
    intro c2 hc2 ihc2 gc2 y1 hy1 F A hI
    refine ezw_iload rfl rfl ?_
    refine ezw_aload_n rfl rfl ?_
    refine ezs_get_i hI rfl rfl rfl rfl rfl rfl (fun u4 hu4 ku4 => ?_)
    refine ezw_icmp_ge rfl rfl hc2 hu4 (fun h16_4 => ?_) (fun h16_4 => ?_)
    · refine ezw_iload_n rfl rfl ?_
      exact ezw_ireturn rfl rfl ⟨⟨F, A, rfl, hI⟩, _, hy1, rfl⟩
    · refine ezw_iload rfl rfl ?_
      refine ezw_bipush (24) rfl rfl ?_
      refine ezw_icmp_ge rfl rfl hc2 ⟨by decide, by decide⟩ (fun h23_4 => ?_) (fun h23_4 => ?_)
      · refine ezw_iload_n rfl rfl ?_
        exact ezw_ireturn rfl rfl ⟨⟨F, A, rfl, hI⟩, _, hy1, rfl⟩
      · refine ezw_aload_n rfl rfl ?_
        refine ezw_aload_n rfl rfl ?_
        refine ezw_aload_n rfl rfl ?_
        refine ezs_getp (p := 65) rfl rfl rfl rfl rfl ?_
        refine ezw_iload rfl rfl ?_
        refine ezw_call3_2 rfl (by omega) rfl rfl (ezs_m27_65 hI (by omega) hc2) ?_
        rintro _ _ ⟨rfl, u5, hu5, rfl⟩
        refine ezw_aload_n rfl rfl ?_
        refine ezs_getp (p := 66) rfl rfl rfl rfl rfl ?_
        refine ezw_iload rfl rfl ?_
        refine ezw_call3_2 rfl (by omega) rfl rfl (ezs_m27_66 hI (by omega) hc2) ?_
        rintro _ _ ⟨rfl, u6, hu6, rfl⟩
        refine ezw_aload_n rfl rfl ?_
        refine ezs_getp (p := 67) rfl rfl rfl rfl rfl ?_
        refine ezw_iload rfl rfl ?_
        refine ezw_call3_2 rfl (by omega) rfl rfl (ezs_m27_67 hI (by omega) hc2) ?_
        rintro _ _ ⟨rfl, u7, hu7, rfl⟩
        refine ezw_call0_4 rfl (by omega) (ezu_at rfl) rfl rfl rfl rfl (ezs_m120_26_47 hI (by omega) (fun q h0 h1 => hzA q (by omega) (by omega)) hu5 hu6 hu7) ?_
        rintro _ _ ⟨⟨F, A, rfl, hI⟩, u8, hu8, rfl⟩
        refine ezw_istore rfl rfl ?_
        refine ezw_iload rfl rfl ?_
        refine ezw_if_ne rfl rfl ⟨by omega, by omega⟩ (fun h62_8 => ?_) (fun h62_8 => ?_)
        · refine ezw_iinc (1) rfl rfl rfl rfl rfl ?_
          refine ezw_goto rfl rfl ?_
          exact ezw_keepE [true, true, true, true, true, false] (ihc2 (c2 + (1)) (by omega) ⟨by omega, by omega⟩ (by omega) y1 hy1 F A hI)
        · refine ezw_iload_n rfl rfl ?_
          refine ezw_iconst (-1) rfl rfl ?_
          refine ezw_icmp_ne rfl rfl hy1 ⟨by decide, by decide⟩ (fun h67_8 => ?_) (fun h67_8 => ?_)
          · refine ezw_iinc (1) rfl rfl rfl rfl rfl ?_
            refine ezw_goto rfl rfl ?_
            exact ezw_keepE [true, true, true, true, true, false] (ihc2 (c2 + (1)) (by omega) ⟨by omega, by omega⟩ (by omega) y1 hy1 F A hI)
          · refine ezw_iload rfl rfl ?_
            refine ezw_istore_n rfl rfl ?_
            refine ezw_iinc (1) rfl rfl rfl rfl rfl ?_
            refine ezw_goto rfl rfl ?_
            exact ezw_keepE [true, true, true, true, true, false] (ihc2 (c2 + (1)) (by omega) ⟨by omega, by omega⟩ (by omega) c2 hc2 F A hI)
  exact ezw_keepE [true, true, true, true, true, false] (L10_2 (0) ⟨by decide, by decide⟩ (by omega) (-1) ⟨by decide, by decide⟩ F A hI)
theorem ezs_m21_69 {a1 a2 : Int} {F : Nat → Nat → Int} {A : Nat → Int → Int} (hI : ezs_I fz F0 A0 F A) (hd : 0 ≤ d) (hzA : ∀ q, 69 ≤ q → q < 70 → fz q = false) (ha1 : ezw_in a1) (ha2 : ezw_in a2) : ezw_C l ρ B xa Hb D cA 21 d [ezw_p 69, ezw_i a1, ezw_i a2] (ezu_g e F A) (ezs_P e fz F0 A0 ezs_rn) := by
  refine ezw_met (k := 0) rfl rfl ?_
  refine ezw_aload_n rfl rfl ?_
  refine ezw_ifnull rfl ?_
  refine ezw_iload_n rfl rfl ?_
  refine ezw_if_lt rfl rfl ha1 (fun h5_0 => ?_) (fun h5_0 => ?_)
  · exact ezw_return rfl rfl ⟨⟨F, A, rfl, hI⟩, rfl⟩
  · refine ezw_iload_n rfl rfl ?_
    refine ezw_aload_n rfl rfl ?_
    refine ezs_alen (k := 24) rfl rfl rfl rfl (by decide) (by decide) ?_
    refine ezw_icmp_ge rfl rfl ha1 ⟨by decide, by decide⟩ (fun h11_0 => ?_) (fun h11_0 => ?_)
    · exact ezw_return rfl rfl ⟨⟨F, A, rfl, hI⟩, rfl⟩
    · refine ezw_aload_n rfl rfl ?_
      refine ezw_iload_n rfl rfl ?_
      refine ezw_iload_n rfl rfl ?_
      refine ezs_iastore hI rfl rfl rfl (by omega) (by omega) (by decide) (hzA 69 (by decide) (by decide)) ha2 (fun F A hI => ?_)
      exact ezw_return rfl rfl ⟨⟨F, A, rfl, hI⟩, rfl⟩
theorem ezs_m21_70 {a1 a2 : Int} {F : Nat → Nat → Int} {A : Nat → Int → Int} (hI : ezs_I fz F0 A0 F A) (hd : 0 ≤ d) (hzA : ∀ q, 70 ≤ q → q < 71 → fz q = false) (ha1 : ezw_in a1) (ha2 : ezw_in a2) : ezw_C l ρ B xa Hb D cA 21 d [ezw_p 70, ezw_i a1, ezw_i a2] (ezu_g e F A) (ezs_P e fz F0 A0 ezs_rn) := by
  refine ezw_met (k := 0) rfl rfl ?_
  refine ezw_aload_n rfl rfl ?_
  refine ezw_ifnull rfl ?_
  refine ezw_iload_n rfl rfl ?_
  refine ezw_if_lt rfl rfl ha1 (fun h5_0 => ?_) (fun h5_0 => ?_)
  · exact ezw_return rfl rfl ⟨⟨F, A, rfl, hI⟩, rfl⟩
  · refine ezw_iload_n rfl rfl ?_
    refine ezw_aload_n rfl rfl ?_
    refine ezs_alen (k := 24) rfl rfl rfl rfl (by decide) (by decide) ?_
    refine ezw_icmp_ge rfl rfl ha1 ⟨by decide, by decide⟩ (fun h11_0 => ?_) (fun h11_0 => ?_)
    · exact ezw_return rfl rfl ⟨⟨F, A, rfl, hI⟩, rfl⟩
    · refine ezw_aload_n rfl rfl ?_
      refine ezw_iload_n rfl rfl ?_
      refine ezw_iload_n rfl rfl ?_
      refine ezs_iastore hI rfl rfl rfl (by omega) (by omega) (by decide) (hzA 70 (by decide) (by decide)) ha2 (fun F A hI => ?_)
      exact ezw_return rfl rfl ⟨⟨F, A, rfl, hI⟩, rfl⟩
theorem ezs_m21_71 {a1 a2 : Int} {F : Nat → Nat → Int} {A : Nat → Int → Int} (hI : ezs_I fz F0 A0 F A) (hd : 0 ≤ d) (hzA : ∀ q, 71 ≤ q → q < 72 → fz q = false) (ha1 : ezw_in a1) (ha2 : ezw_in a2) : ezw_C l ρ B xa Hb D cA 21 d [ezw_p 71, ezw_i a1, ezw_i a2] (ezu_g e F A) (ezs_P e fz F0 A0 ezs_rn) := by
  refine ezw_met (k := 0) rfl rfl ?_
  refine ezw_aload_n rfl rfl ?_
  refine ezw_ifnull rfl ?_
  refine ezw_iload_n rfl rfl ?_
  refine ezw_if_lt rfl rfl ha1 (fun h5_0 => ?_) (fun h5_0 => ?_)
  · exact ezw_return rfl rfl ⟨⟨F, A, rfl, hI⟩, rfl⟩
  · refine ezw_iload_n rfl rfl ?_
    refine ezw_aload_n rfl rfl ?_
    refine ezs_alen (k := 24) rfl rfl rfl rfl (by decide) (by decide) ?_
    refine ezw_icmp_ge rfl rfl ha1 ⟨by decide, by decide⟩ (fun h11_0 => ?_) (fun h11_0 => ?_)
    · exact ezw_return rfl rfl ⟨⟨F, A, rfl, hI⟩, rfl⟩
    · refine ezw_aload_n rfl rfl ?_
      refine ezw_iload_n rfl rfl ?_
      refine ezw_iload_n rfl rfl ?_
      refine ezs_iastore hI rfl rfl rfl (by omega) (by omega) (by decide) (hzA 71 (by decide) (by decide)) ha2 (fun F A hI => ?_)
      exact ezw_return rfl rfl ⟨⟨F, A, rfl, hI⟩, rfl⟩
theorem ezs_m103_68 {a1 a2 a3 : Int} {F : Nat → Nat → Int} {A : Nat → Int → Int} (hI : ezs_I fz F0 A0 F A) (hd : 1 ≤ d) (hzA : ∀ q, 68 ≤ q → q < 72 → fz q = false) (ha1 : ezw_in a1) (ha2 : ezw_in a2) (ha3 : ezw_in a3) : ezw_C l ρ B xa Hb D cA 103 d [ezw_p 68, ezw_i a1, ezw_i a2, ezw_i a3] (ezu_g e F A) (ezs_P e fz F0 A0 ezs_rn) := by
  refine ezw_met (k := 0) rfl rfl ?_
  refine ezw_aload_n rfl rfl ?_
  refine ezs_getp (p := 69) rfl rfl rfl rfl rfl ?_
  refine ezw_aload_n rfl rfl ?_
  refine ezs_get_i hI rfl rfl rfl rfl rfl rfl (fun u1 hu1 ku1 => ?_)
  refine ezw_iload_n rfl rfl ?_
  refine ezw_call3_3 rfl (by omega) rfl rfl (ezs_m21_69 hI (by omega) (fun q h0 h1 => hzA q (by omega) (by omega)) hu1 ha1) ?_
  rintro _ _ ⟨⟨F, A, rfl, hI⟩, rfl⟩
  refine ezw_aload_n rfl rfl ?_
  refine ezs_getp (p := 70) rfl rfl rfl rfl rfl ?_
  refine ezw_aload_n rfl rfl ?_
  refine ezs_get_i hI rfl rfl rfl rfl rfl rfl (fun u2 hu2 ku2 => ?_)
  refine ezw_iload_n rfl rfl ?_
  refine ezw_call3_3 rfl (by omega) rfl rfl (ezs_m21_70 hI (by omega) (fun q h0 h1 => hzA q (by omega) (by omega)) hu2 ha2) ?_
  rintro _ _ ⟨⟨F, A, rfl, hI⟩, rfl⟩
  refine ezw_aload_n rfl rfl ?_
  refine ezs_getp (p := 71) rfl rfl rfl rfl rfl ?_
  refine ezw_aload_n rfl rfl ?_
  refine ezs_get_i hI rfl rfl rfl rfl rfl rfl (fun u3 hu3 ku3 => ?_)
  refine ezw_iload_n rfl rfl ?_
  refine ezw_call3_3 rfl (by omega) rfl rfl (ezs_m21_71 hI (by omega) (fun q h0 h1 => hzA q (by omega) (by omega)) hu3 ha3) ?_
  rintro _ _ ⟨⟨F, A, rfl, hI⟩, rfl⟩
  refine ezw_aload_n rfl rfl ?_
  refine ezw_dup rfl rfl ?_
  refine ezs_get_i hI rfl rfl rfl rfl rfl rfl (fun u4 hu4 ku4 => ?_)
  refine ezw_iconst (1) rfl rfl ?_
  refine ezs_iadd rfl (fun u5 hu5 => ?_)
  refine ezs_put_i hI rfl rfl rfl rfl rfl (hzA 68 (by decide) (by decide)) hu5 (fun F A hI => ?_)
  exact ezw_return rfl rfl ⟨⟨F, A, rfl, hI⟩, rfl⟩
theorem ezs_m102_68_1 {F : Nat → Nat → Int} {A : Nat → Int → Int} (hI : ezs_I fz F0 A0 F A) (hd : 6 ≤ d) (hzA : ∀ q, 68 ≤ q → q < 72 → fz q = false) (hzT : fz 1 = false) : ezw_C l ρ B xa Hb D cA 102 d [ezw_p 68, ezw_p 1] (ezu_g e F A) (ezs_P e fz F0 A0 ezs_rn) := by
  refine ezw_met (k := 3) rfl rfl ?_
  refine ezw_aload_n rfl rfl ?_
  refine ezw_bipush (30) rfl rfl ?_
  refine ezw_iconst (4) rfl rfl ?_
  refine ezw_call0_2 rfl (by omega) (ezu_at rfl) rfl rfl rfl rfl (ezs_m59_1 hI (by omega) hzT ⟨by decide, by decide⟩ (by omega) ⟨by decide, by decide⟩ (by omega)) ?_
  rintro _ _ ⟨⟨F, A, rfl, hI⟩, u1, hu1, rfl⟩
  refine ezw_istore_n rfl rfl ?_
  refine ezw_aload_n rfl rfl ?_
  refine ezw_bipush (34) rfl rfl ?_
  refine ezw_iconst (2) rfl rfl ?_
  refine ezw_call0_2 rfl (by omega) (ezu_at rfl) rfl rfl rfl rfl (ezs_m59_1 hI (by omega) hzT ⟨by decide, by decide⟩ (by omega) ⟨by decide, by decide⟩ (by omega)) ?_
  rintro _ _ ⟨⟨F, A, rfl, hI⟩, u2, hu2, rfl⟩
  refine ezw_istore_n rfl rfl ?_
  refine ezw_aload_n rfl rfl ?_
  refine ezw_bipush (36) rfl rfl ?_
  refine ezw_iconst (3) rfl rfl ?_
  refine ezw_call0_2 rfl (by omega) (ezu_at rfl) rfl rfl rfl rfl (ezs_m59_1 hI (by omega) hzT ⟨by decide, by decide⟩ (by omega) ⟨by decide, by decide⟩ (by omega)) ?_
  rintro _ _ ⟨⟨F, A, rfl, hI⟩, u3, hu3, rfl⟩
  refine ezw_istore rfl rfl ?_
  refine ezw_aload_n rfl rfl ?_
  refine ezw_iload_n rfl rfl ?_
  refine ezw_iconst (1) rfl rfl ?_
  refine ezw_icmp_ne rfl rfl ⟨by omega, by omega⟩ ⟨by decide, by decide⟩ (fun h28_3 => ?_) (fun h28_3 => ?_)
  · refine ezw_iconst (0) rfl rfl ?_
    refine ezw_iload_n rfl rfl ?_
    refine ezw_iload rfl rfl ?_
    refine ezw_call0_3 rfl (by omega) (ezu_at rfl) rfl rfl rfl rfl (ezs_m103_68 hI (by omega) (fun q h0 h1 => hzA q (by omega) (by omega)) ⟨by decide, by decide⟩ ⟨by omega, by omega⟩ ⟨by omega, by omega⟩) ?_
    rintro _ _ ⟨⟨F, A, rfl, hI⟩, rfl⟩
    exact ezw_return rfl rfl ⟨⟨F, A, rfl, hI⟩, rfl⟩
  · refine ezw_iconst (1) rfl rfl ?_
    refine ezw_goto rfl rfl ?_
    refine ezw_iload_n rfl rfl ?_
    refine ezw_iload rfl rfl ?_
    refine ezw_call0_3 rfl (by omega) (ezu_at rfl) rfl rfl rfl rfl (ezs_m103_68 hI (by omega) (fun q h0 h1 => hzA q (by omega) (by omega)) ⟨by decide, by decide⟩ ⟨by omega, by omega⟩ ⟨by omega, by omega⟩) ?_
    rintro _ _ ⟨⟨F, A, rfl, hI⟩, rfl⟩
    exact ezw_return rfl rfl ⟨⟨F, A, rfl, hI⟩, rfl⟩
theorem ezs_m104_68_1_30 {F : Nat → Nat → Int} {A : Nat → Int → Int} (hI : ezs_I fz F0 A0 F A) (hd : 6 ≤ d) (hzA : ∀ q, 68 ≤ q → q < 72 → fz q = false) (hzT : fz 1 = false) : ezw_C l ρ B xa Hb D cA 104 d [ezw_p 68, ezw_p 1, ezw_p 30] (ezu_g e F A) (ezs_P e fz F0 A0 ezs_rn) := by
  refine ezw_met (k := 2) rfl rfl ?_
  refine ezw_aload_n rfl rfl ?_
  refine ezw_aload_n rfl rfl ?_
  refine ezw_iconst (1) rfl rfl ?_
  refine ezw_call0_2 rfl (by omega) (ezu_at rfl) rfl rfl rfl rfl (ezs_m61_1_30 hI (by omega) hzT ⟨by decide, by decide⟩) ?_
  rintro _ _ ⟨⟨F, A, rfl, hI⟩, u1, hu1, rfl⟩
  refine ezw_istore_n rfl rfl ?_
  refine ezw_iconst (0) rfl rfl ?_
  refine ezw_istore rfl rfl ?_
  refine ezw_aload_n rfl rfl ?_
  refine ezw_bipush (40) rfl rfl ?_
  refine ezw_call0_1 rfl (by omega) (ezu_at rfl) rfl rfl rfl rfl (ezs_m60_1 hI (by omega) hzT ⟨by decide, by decide⟩) ?_
  rintro _ _ ⟨⟨F, A, rfl, hI⟩, u2, hu2, rfl⟩
  have J46_3 : ∀ y3 : Int, ezw_in y3 → ∀ F A, ezs_I fz F0 A0 F A → ezw_E l ρ B xa Hb D cA d ezq_re104 (ezs_P e fz F0 A0 ezs_rn) 46 [some (ezw_p 68), some (ezw_p 1), some (ezw_p 30), some (ezw_i u1), some (ezw_i y3)] [] (ezu_g e F A) := by
    intro y3 hy3 F A hI
    refine ezw_aload_n rfl rfl ?_
    refine ezw_iconst (4) rfl rfl ?_
    refine ezw_iload_n rfl rfl ?_
    refine ezw_iload rfl rfl ?_
    refine ezw_call0_3 rfl (by omega) (ezu_at rfl) rfl rfl rfl rfl (ezs_m103_68 hI (by omega) (fun q h0 h1 => hzA q (by omega) (by omega)) ⟨by decide, by decide⟩ hu1 hy3) ?_
    rintro _ _ ⟨⟨F, A, rfl, hI⟩, rfl⟩
    exact ezw_return rfl rfl ⟨⟨F, A, rfl, hI⟩, rfl⟩
  refine ezw_if_eq rfl rfl ⟨by omega, by omega⟩ (fun h16_2 => ?_) (fun h16_2 => ?_)
  · refine ezw_aload_n rfl rfl ?_
    refine ezw_bipush (11) rfl rfl ?_
    refine ezw_call0_1 rfl (by omega) (ezu_at rfl) rfl rfl rfl rfl (ezs_m60_1 hI (by omega) hzT ⟨by decide, by decide⟩) ?_
    rintro _ _ ⟨⟨F, A, rfl, hI⟩, u5, hu5, rfl⟩
    refine ezw_if_eq rfl rfl ⟨by omega, by omega⟩ (fun h31_5 => ?_) (fun h31_5 => ?_)
    · refine ezw_aload_n rfl rfl ?_
      refine ezw_bipush (39) rfl rfl ?_
      refine ezw_call0_1 rfl (by omega) (ezu_at rfl) rfl rfl rfl rfl (ezs_m56_1 hI (by omega) hzT ⟨by decide, by decide⟩) ?_
      rintro _ _ ⟨⟨F, A, rfl, hI⟩, rfl⟩
      exact ezw_keepE [true, true, true, true, true] (J46_3 (0) ⟨by decide, by decide⟩ F A hI)
    · refine ezw_iconst (2) rfl rfl ?_
      refine ezw_istore rfl rfl ?_
      refine ezw_goto rfl rfl ?_
      exact ezw_keepE [true, true, true, true, true] (J46_3 (2) ⟨by decide, by decide⟩ F A hI)
  · refine ezw_iconst (1) rfl rfl ?_
    refine ezw_istore rfl rfl ?_
    refine ezw_goto rfl rfl ?_
    exact ezw_keepE [true, true, true, true, true] (J46_3 (1) ⟨by decide, by decide⟩ F A hI)
theorem ezs_m101_68_1_30 {F : Nat → Nat → Int} {A : Nat → Int → Int} (hI : ezs_I fz F0 A0 F A) (hd : 7 ≤ d) (hzA : ∀ q, 68 ≤ q → q < 72 → fz q = false) (hzT : fz 1 = false) : ezw_C l ρ B xa Hb D cA 101 d [ezw_p 68, ezw_p 1, ezw_p 30] (ezu_g e F A) (ezs_P e fz F0 A0 ezs_rn) := by
  refine ezw_met (k := 1) rfl rfl ?_
  refine ezw_aload_n rfl rfl ?_
  refine ezs_get_i hI rfl rfl rfl rfl rfl rfl (fun u1 hu1 ku1 => ?_)
  refine ezw_istore_n rfl rfl ?_
  refine ezw_iload_n rfl rfl ?_
  refine ezw_bipush (23) rfl rfl ?_
  have J39_1 : ∀ F A, ezs_I fz F0 A0 F A → ezw_E l ρ B xa Hb D cA d ezq_re101 (ezs_P e fz F0 A0 ezs_rn) 39 [some (ezw_p 68), some (ezw_p 1), some (ezw_p 30), some (ezw_i u1)] [] (ezu_g e F A) := by
    intro F A hI
    refine ezw_aload_n rfl rfl ?_
    refine ezw_call0_0 rfl (by omega) (ezu_at rfl) rfl rfl rfl rfl (ezs_m45_1 hI (by omega)) ?_
    rintro _ _ ⟨rfl, u3, hu3, rfl⟩
    refine ezw_if_ne rfl rfl ⟨by omega, by omega⟩ (fun h43_3 => ?_) (fun h43_3 => ?_)
    · refine ezw_aload_n rfl rfl ?_
      refine ezw_call0_0 rfl (by omega) (ezu_at rfl) rfl rfl rfl rfl (ezs_m30_1 hI (by omega) hzT) ?_
      rintro _ _ ⟨⟨F, A, rfl, hI⟩, rfl⟩
      refine ezw_iload_n rfl rfl ?_
      by_cases q4 : u1 = (23)
      · refine ezw_tableswitchE (v := 23) (p := 92) q4 rfl (by rfl) ?_
        refine ezw_aload_n rfl rfl ?_
        refine ezw_aload_n rfl rfl ?_
        refine ezw_call0_1 rfl (by omega) (ezu_at rfl) rfl rfl rfl rfl (ezs_m102_68_1 hI (by omega) (fun q h0 h1 => hzA q (by omega) (by omega)) hzT) ?_
        rintro _ _ ⟨⟨F, A, rfl, hI⟩, rfl⟩
        refine ezw_goto rfl rfl ?_
        refine ezw_aload_n rfl rfl ?_
        refine ezw_sipush (259) rfl rfl ?_
        refine ezw_call0_1 rfl (by omega) (ezu_at rfl) rfl rfl rfl rfl (ezs_m56_1 hI (by omega) hzT ⟨by decide, by decide⟩) ?_
        rintro _ _ ⟨⟨F, A, rfl, hI⟩, rfl⟩
        exact ezw_return rfl rfl ⟨⟨F, A, rfl, hI⟩, rfl⟩
      by_cases q5 : u1 = (24)
      · refine ezw_tableswitchE (v := 24) (p := 100) q5 rfl (by rfl) ?_
        refine ezw_aload_n rfl rfl ?_
        refine ezw_iconst (2) rfl rfl ?_
        refine ezw_iconst (0) rfl rfl ?_
        refine ezw_iconst (0) rfl rfl ?_
        refine ezw_call0_3 rfl (by omega) (ezu_at rfl) rfl rfl rfl rfl (ezs_m103_68 hI (by omega) (fun q h0 h1 => hzA q (by omega) (by omega)) ⟨by decide, by decide⟩ ⟨by decide, by decide⟩ ⟨by decide, by decide⟩) ?_
        rintro _ _ ⟨⟨F, A, rfl, hI⟩, rfl⟩
        refine ezw_goto rfl rfl ?_
        refine ezw_aload_n rfl rfl ?_
        refine ezw_sipush (259) rfl rfl ?_
        refine ezw_call0_1 rfl (by omega) (ezu_at rfl) rfl rfl rfl rfl (ezs_m56_1 hI (by omega) hzT ⟨by decide, by decide⟩) ?_
        rintro _ _ ⟨⟨F, A, rfl, hI⟩, rfl⟩
        exact ezw_return rfl rfl ⟨⟨F, A, rfl, hI⟩, rfl⟩
      by_cases q6 : u1 = (25)
      · refine ezw_tableswitchE (v := 25) (p := 110) q6 rfl (by rfl) ?_
        refine ezw_aload_n rfl rfl ?_
        refine ezw_iconst (3) rfl rfl ?_
        refine ezw_iconst (0) rfl rfl ?_
        refine ezw_iconst (0) rfl rfl ?_
        refine ezw_call0_3 rfl (by omega) (ezu_at rfl) rfl rfl rfl rfl (ezs_m103_68 hI (by omega) (fun q h0 h1 => hzA q (by omega) (by omega)) ⟨by decide, by decide⟩ ⟨by decide, by decide⟩ ⟨by decide, by decide⟩) ?_
        rintro _ _ ⟨⟨F, A, rfl, hI⟩, rfl⟩
        refine ezw_goto rfl rfl ?_
        refine ezw_aload_n rfl rfl ?_
        refine ezw_sipush (259) rfl rfl ?_
        refine ezw_call0_1 rfl (by omega) (ezu_at rfl) rfl rfl rfl rfl (ezs_m56_1 hI (by omega) hzT ⟨by decide, by decide⟩) ?_
        rintro _ _ ⟨⟨F, A, rfl, hI⟩, rfl⟩
        exact ezw_return rfl rfl ⟨⟨F, A, rfl, hI⟩, rfl⟩
      by_cases q7 : u1 = (26)
      · refine ezw_tableswitchE (v := 26) (p := 120) q7 rfl (by rfl) ?_
        refine ezw_aload_n rfl rfl ?_
        refine ezw_aload_n rfl rfl ?_
        refine ezw_aload_n rfl rfl ?_
        refine ezw_call0_2 rfl (by omega) (ezu_at rfl) rfl rfl rfl rfl (ezs_m104_68_1_30 hI (by omega) (fun q h0 h1 => hzA q (by omega) (by omega)) hzT) ?_
        rintro _ _ ⟨⟨F, A, rfl, hI⟩, rfl⟩
        refine ezw_goto rfl rfl ?_
        refine ezw_aload_n rfl rfl ?_
        refine ezw_sipush (259) rfl rfl ?_
        refine ezw_call0_1 rfl (by omega) (ezu_at rfl) rfl rfl rfl rfl (ezs_m56_1 hI (by omega) hzT ⟨by decide, by decide⟩) ?_
        rintro _ _ ⟨⟨F, A, rfl, hI⟩, rfl⟩
        exact ezw_return rfl rfl ⟨⟨F, A, rfl, hI⟩, rfl⟩
      by_cases q8 : u1 = (27)
      · refine ezw_tableswitchE (v := 27) (p := 129) q8 rfl (by rfl) ?_
        refine ezw_aload_n rfl rfl ?_
        refine ezw_iconst (5) rfl rfl ?_
        refine ezw_aload_n rfl rfl ?_
        refine ezw_aload_n rfl rfl ?_
        refine ezw_iconst (0) rfl rfl ?_
        refine ezw_call0_2 rfl (by omega) (ezu_at rfl) rfl rfl rfl rfl (ezs_m61_1_30 hI (by omega) hzT ⟨by decide, by decide⟩) ?_
        rintro _ _ ⟨⟨F, A, rfl, hI⟩, u9, hu9, rfl⟩
        refine ezw_iconst (0) rfl rfl ?_
        refine ezw_call0_3 rfl (by omega) (ezu_at rfl) rfl rfl rfl rfl (ezs_m103_68 hI (by omega) (fun q h0 h1 => hzA q (by omega) (by omega)) ⟨by decide, by decide⟩ hu9 ⟨by decide, by decide⟩) ?_
        rintro _ _ ⟨⟨F, A, rfl, hI⟩, rfl⟩
        refine ezw_goto rfl rfl ?_
        refine ezw_aload_n rfl rfl ?_
        refine ezw_sipush (259) rfl rfl ?_
        refine ezw_call0_1 rfl (by omega) (ezu_at rfl) rfl rfl rfl rfl (ezs_m56_1 hI (by omega) hzT ⟨by decide, by decide⟩) ?_
        rintro _ _ ⟨⟨F, A, rfl, hI⟩, rfl⟩
        exact ezw_return rfl rfl ⟨⟨F, A, rfl, hI⟩, rfl⟩
      by_cases q10 : u1 = (28)
      · refine ezw_tableswitchE (v := 28) (p := 144) q10 rfl (by rfl) ?_
        refine ezw_aload_n rfl rfl ?_
        refine ezw_bipush (6) rfl rfl ?_
        refine ezw_aload_n rfl rfl ?_
        refine ezw_aload_n rfl rfl ?_
        refine ezw_iconst (0) rfl rfl ?_
        refine ezw_call0_2 rfl (by omega) (ezu_at rfl) rfl rfl rfl rfl (ezs_m61_1_30 hI (by omega) hzT ⟨by decide, by decide⟩) ?_
        rintro _ _ ⟨⟨F, A, rfl, hI⟩, u11, hu11, rfl⟩
        refine ezw_iconst (0) rfl rfl ?_
        refine ezw_call0_3 rfl (by omega) (ezu_at rfl) rfl rfl rfl rfl (ezs_m103_68 hI (by omega) (fun q h0 h1 => hzA q (by omega) (by omega)) ⟨by decide, by decide⟩ hu11 ⟨by decide, by decide⟩) ?_
        rintro _ _ ⟨⟨F, A, rfl, hI⟩, rfl⟩
        refine ezw_goto rfl rfl ?_
        refine ezw_aload_n rfl rfl ?_
        refine ezw_sipush (259) rfl rfl ?_
        refine ezw_call0_1 rfl (by omega) (ezu_at rfl) rfl rfl rfl rfl (ezs_m56_1 hI (by omega) hzT ⟨by decide, by decide⟩) ?_
        rintro _ _ ⟨⟨F, A, rfl, hI⟩, rfl⟩
        exact ezw_return rfl rfl ⟨⟨F, A, rfl, hI⟩, rfl⟩
      refine ezw_tableswitch (p := 160) rfl (ezs_swd hu1 (And.intro (And.intro ⟨by decide, by decide⟩ (fun z => q4 z.symm)) (And.intro (And.intro ⟨by decide, by decide⟩ (fun z => q5 z.symm)) (And.intro (And.intro ⟨by decide, by decide⟩ (fun z => q6 z.symm)) (And.intro (And.intro ⟨by decide, by decide⟩ (fun z => q7 z.symm)) (And.intro (And.intro ⟨by decide, by decide⟩ (fun z => q8 z.symm)) (And.intro (And.intro ⟨by decide, by decide⟩ (fun z => q10 z.symm)) True.intro)))))) rfl) ?_
      refine ezw_aload_n rfl rfl ?_
      refine ezw_bipush (7) rfl rfl ?_
      refine ezw_aload_n rfl rfl ?_
      refine ezw_bipush (30) rfl rfl ?_
      refine ezw_iconst (4) rfl rfl ?_
      refine ezw_call0_2 rfl (by omega) (ezu_at rfl) rfl rfl rfl rfl (ezs_m59_1 hI (by omega) hzT ⟨by decide, by decide⟩ (by omega) ⟨by decide, by decide⟩ (by omega)) ?_
      rintro _ _ ⟨⟨F, A, rfl, hI⟩, u12, hu12, rfl⟩
      refine ezw_iconst (0) rfl rfl ?_
      refine ezw_call0_3 rfl (by omega) (ezu_at rfl) rfl rfl rfl rfl (ezs_m103_68 hI (by omega) (fun q h0 h1 => hzA q (by omega) (by omega)) ⟨by decide, by decide⟩ ⟨by omega, by omega⟩ ⟨by decide, by decide⟩) ?_
      rintro _ _ ⟨⟨F, A, rfl, hI⟩, rfl⟩
      refine ezw_aload_n rfl rfl ?_
      refine ezw_sipush (259) rfl rfl ?_
      refine ezw_call0_1 rfl (by omega) (ezu_at rfl) rfl rfl rfl rfl (ezs_m56_1 hI (by omega) hzT ⟨by decide, by decide⟩) ?_
      rintro _ _ ⟨⟨F, A, rfl, hI⟩, rfl⟩
      exact ezw_return rfl rfl ⟨⟨F, A, rfl, hI⟩, rfl⟩
    · exact ezw_return rfl rfl ⟨⟨F, A, rfl, hI⟩, rfl⟩
  refine ezw_icmp_lt rfl rfl hu1 ⟨by decide, by decide⟩ (fun h8_1 => ?_) (fun h8_1 => ?_)
  · refine ezw_aload_n rfl rfl ?_
    refine ezw_iconst (1) rfl rfl ?_
    refine ezw_call0_1 rfl (by omega) (ezu_at rfl) rfl rfl rfl rfl (ezs_m50_1 hI (by omega) hzT ⟨by decide, by decide⟩) ?_
    rintro _ _ ⟨⟨F, A, rfl, hI⟩, rfl⟩
    refine ezw_goto rfl rfl ?_
    exact ezw_keepE [true, true, true, true] (J39_1  F A hI)
  · refine ezw_iload_n rfl rfl ?_
    refine ezw_bipush (29) rfl rfl ?_
    refine ezw_icmp_le rfl rfl hu1 ⟨by decide, by decide⟩ (fun h14_12 => ?_) (fun h14_12 => ?_)
    · refine ezw_aload_n rfl rfl ?_
      refine ezs_get_i hI rfl rfl rfl rfl rfl rfl (fun u13 hu13 ku13 => ?_)
      refine ezw_bipush (24) rfl rfl ?_
      refine ezw_icmp_lt rfl rfl hu13 ⟨by decide, by decide⟩ (fun h31_13 => ?_) (fun h31_13 => ?_)
      · exact ezw_keepE [true, true, true, true] (J39_1  F A hI)
      · refine ezw_aload_n rfl rfl ?_
        refine ezw_iconst (5) rfl rfl ?_
        refine ezw_call0_1 rfl (by omega) (ezu_at rfl) rfl rfl rfl rfl (ezs_m50_1 hI (by omega) hzT ⟨by decide, by decide⟩) ?_
        rintro _ _ ⟨⟨F, A, rfl, hI⟩, rfl⟩
        exact ezw_keepE [true, true, true, true] (J39_1  F A hI)
    · refine ezw_aload_n rfl rfl ?_
      refine ezw_iconst (1) rfl rfl ?_
      refine ezw_call0_1 rfl (by omega) (ezu_at rfl) rfl rfl rfl rfl (ezs_m50_1 hI (by omega) hzT ⟨by decide, by decide⟩) ?_
      rintro _ _ ⟨⟨F, A, rfl, hI⟩, rfl⟩
      refine ezw_goto rfl rfl ?_
      exact ezw_keepE [true, true, true, true] (J39_1  F A hI)
theorem ezs_m100_68_1_30 {F : Nat → Nat → Int} {A : Nat → Int → Int} (hI : ezs_I fz F0 A0 F A) (hd : 8 ≤ d) (hzA : ∀ q, 68 ≤ q → q < 72 → fz q = false) (hzT : fz 1 = false) : ezw_C l ρ B xa Hb D cA 100 d [ezw_p 68, ezw_p 1, ezw_p 30] (ezu_g e F A) (ezs_P0 e fz F0 A0 ezs_ri) := by
  refine ezw_met (k := 1) rfl rfl ?_
  refine ezw_aload_n rfl rfl ?_
  refine ezw_iconst (0) rfl rfl ?_
  refine ezs_put_i hI rfl rfl rfl rfl rfl (hzA 68 (by decide) (by decide)) ⟨by decide, by decide⟩ (fun F A hI => ?_)
  refine ezw_aload_n rfl rfl ?_
  refine ezw_call0_0 rfl (by omega) (ezu_at rfl) rfl rfl rfl rfl (ezs_m29_1 hI (by omega) hzT) ?_
  rintro _ _ ⟨⟨F, A, rfl, hI⟩, rfl⟩
  refine ezw_iconst (0) rfl rfl ?_
  refine ezw_istore_n rfl rfl ?_
  have L11_1 : ∀ c1 : Int, ezw_in c1 → (0) ≤ c1 → ∀ F A, ezs_I fz F0 A0 F A → ezw_E l ρ B xa Hb D cA d ezq_re100 (ezs_P0 e fz F0 A0 ezs_ri) 11 [some (ezw_p 68), some (ezw_p 1), some (ezw_p 30), some (ezw_i c1)] [] (ezu_g e F A) := by
    refine ezs_up ?_
    intro c1 hc1 ihc1 gc1 F A hI
    refine ezw_iload_n rfl rfl ?_
    refine ezw_bipush (24) rfl rfl ?_
    refine ezw_icmp_gt rfl rfl hc1 ⟨by decide, by decide⟩ (fun h14_2 => ?_) (fun h14_2 => ?_)
    · refine ezw_aload_n rfl rfl ?_
      refine ezw_call0_0 rfl (by omega) (ezu_at rfl) rfl rfl rfl rfl (ezs_m93_1 hI (by omega) hzT) ?_
      rintro _ _ ⟨⟨F, A, rfl, hI, hz0⟩, u3, hu3, rfl⟩
      exact ezw_ireturn rfl rfl ⟨⟨F, A, rfl, hI, hz0⟩, _, hu3, rfl⟩
    · refine ezw_aload_n rfl rfl ?_
      refine ezw_call0_0 rfl (by omega) (ezu_at rfl) rfl rfl rfl rfl (ezs_m45_1 hI (by omega)) ?_
      rintro _ _ ⟨rfl, u4, hu4, rfl⟩
      refine ezw_if_eq rfl rfl ⟨by omega, by omega⟩ (fun h21_4 => ?_) (fun h21_4 => ?_)
      · refine ezw_aload_n rfl rfl ?_
        refine ezw_call0_0 rfl (by omega) (ezu_at rfl) rfl rfl rfl rfl (ezs_m93_1 hI (by omega) hzT) ?_
        rintro _ _ ⟨⟨F, A, rfl, hI, hz0⟩, u5, hu5, rfl⟩
        exact ezw_ireturn rfl rfl ⟨⟨F, A, rfl, hI, hz0⟩, _, hu5, rfl⟩
      · refine ezw_aload_n rfl rfl ?_
        refine ezw_bipush (102) rfl rfl ?_
        refine ezw_call0_1 rfl (by omega) (ezu_at rfl) rfl rfl rfl rfl (ezs_m46_1 hI (by omega) ⟨by decide, by decide⟩) ?_
        rintro _ _ ⟨rfl, u6, hu6, rfl⟩
        refine ezw_if_ne rfl rfl ⟨by omega, by omega⟩ (fun h30_6 => ?_) (fun h30_6 => ?_)
        · refine ezw_aload_n rfl rfl ?_
          refine ezw_call0_0 rfl (by omega) (ezu_at rfl) rfl rfl rfl rfl (ezs_m93_1 hI (by omega) hzT) ?_
          rintro _ _ ⟨⟨F, A, rfl, hI, hz0⟩, u7, hu7, rfl⟩
          exact ezw_ireturn rfl rfl ⟨⟨F, A, rfl, hI, hz0⟩, _, hu7, rfl⟩
        · refine ezw_aload_n rfl rfl ?_
          refine ezw_aload_n rfl rfl ?_
          refine ezw_aload_n rfl rfl ?_
          refine ezw_call0_2 rfl (by omega) (ezu_at rfl) rfl rfl rfl rfl (ezs_m101_68_1_30 hI (by omega) (fun q h0 h1 => hzA q (by omega) (by omega)) hzT) ?_
          rintro _ _ ⟨⟨F, A, rfl, hI⟩, rfl⟩
          refine ezw_iinc (1) rfl rfl rfl rfl rfl ?_
          refine ezw_goto rfl rfl ?_
          exact ezw_keepE [true, true, true, true] (ihc1 (c1 + (1)) (by omega) ⟨by omega, by omega⟩ (by omega)  F A hI)
  exact ezw_keepE [true, true, true, true] (L11_1 (0) ⟨by decide, by decide⟩ (by omega)  F A hI)
theorem ezs_m27_69 {a1 : Int} {F : Nat → Nat → Int} {A : Nat → Int → Int} (hI : ezs_I fz F0 A0 F A) (hd : 0 ≤ d) (ha1 : ezw_in a1) : ezw_C l ρ B xa Hb D cA 27 d [ezw_p 69, ezw_i a1] (ezu_g e F A) (ezs_Pp e F A ezs_ri) := by
  refine ezw_met (k := 0) rfl rfl ?_
  refine ezw_aload_n rfl rfl ?_
  refine ezw_ifnull rfl ?_
  refine ezw_iload_n rfl rfl ?_
  refine ezw_if_lt rfl rfl ha1 (fun h5_0 => ?_) (fun h5_0 => ?_)
  · refine ezw_iconst (0) rfl rfl ?_
    exact ezw_ireturn rfl rfl ⟨rfl, _, ⟨by decide, by decide⟩, rfl⟩
  · refine ezw_iload_n rfl rfl ?_
    refine ezw_aload_n rfl rfl ?_
    refine ezs_alen (k := 24) rfl rfl rfl rfl (by decide) (by decide) ?_
    refine ezw_icmp_ge rfl rfl ha1 ⟨by decide, by decide⟩ (fun h11_0 => ?_) (fun h11_0 => ?_)
    · refine ezw_iconst (0) rfl rfl ?_
      exact ezw_ireturn rfl rfl ⟨rfl, _, ⟨by decide, by decide⟩, rfl⟩
    · refine ezw_aload_n rfl rfl ?_
      refine ezw_iload_n rfl rfl ?_
      refine ezs_iaload hI rfl rfl rfl (by omega) (by omega) (by decide) (fun u1 hu1 ku1 => ?_)
      refine ezw_goto rfl rfl ?_
      exact ezw_ireturn rfl rfl ⟨rfl, _, hu1, rfl⟩
theorem ezs_m27_70 {a1 : Int} {F : Nat → Nat → Int} {A : Nat → Int → Int} (hI : ezs_I fz F0 A0 F A) (hd : 0 ≤ d) (ha1 : ezw_in a1) : ezw_C l ρ B xa Hb D cA 27 d [ezw_p 70, ezw_i a1] (ezu_g e F A) (ezs_Pp e F A ezs_ri) := by
  refine ezw_met (k := 0) rfl rfl ?_
  refine ezw_aload_n rfl rfl ?_
  refine ezw_ifnull rfl ?_
  refine ezw_iload_n rfl rfl ?_
  refine ezw_if_lt rfl rfl ha1 (fun h5_0 => ?_) (fun h5_0 => ?_)
  · refine ezw_iconst (0) rfl rfl ?_
    exact ezw_ireturn rfl rfl ⟨rfl, _, ⟨by decide, by decide⟩, rfl⟩
  · refine ezw_iload_n rfl rfl ?_
    refine ezw_aload_n rfl rfl ?_
    refine ezs_alen (k := 24) rfl rfl rfl rfl (by decide) (by decide) ?_
    refine ezw_icmp_ge rfl rfl ha1 ⟨by decide, by decide⟩ (fun h11_0 => ?_) (fun h11_0 => ?_)
    · refine ezw_iconst (0) rfl rfl ?_
      exact ezw_ireturn rfl rfl ⟨rfl, _, ⟨by decide, by decide⟩, rfl⟩
    · refine ezw_aload_n rfl rfl ?_
      refine ezw_iload_n rfl rfl ?_
      refine ezs_iaload hI rfl rfl rfl (by omega) (by omega) (by decide) (fun u1 hu1 ku1 => ?_)
      refine ezw_goto rfl rfl ?_
      exact ezw_ireturn rfl rfl ⟨rfl, _, hu1, rfl⟩
theorem ezs_m27_71 {a1 : Int} {F : Nat → Nat → Int} {A : Nat → Int → Int} (hI : ezs_I fz F0 A0 F A) (hd : 0 ≤ d) (ha1 : ezw_in a1) : ezw_C l ρ B xa Hb D cA 27 d [ezw_p 71, ezw_i a1] (ezu_g e F A) (ezs_Pp e F A ezs_ri) := by
  refine ezw_met (k := 0) rfl rfl ?_
  refine ezw_aload_n rfl rfl ?_
  refine ezw_ifnull rfl ?_
  refine ezw_iload_n rfl rfl ?_
  refine ezw_if_lt rfl rfl ha1 (fun h5_0 => ?_) (fun h5_0 => ?_)
  · refine ezw_iconst (0) rfl rfl ?_
    exact ezw_ireturn rfl rfl ⟨rfl, _, ⟨by decide, by decide⟩, rfl⟩
  · refine ezw_iload_n rfl rfl ?_
    refine ezw_aload_n rfl rfl ?_
    refine ezs_alen (k := 24) rfl rfl rfl rfl (by decide) (by decide) ?_
    refine ezw_icmp_ge rfl rfl ha1 ⟨by decide, by decide⟩ (fun h11_0 => ?_) (fun h11_0 => ?_)
    · refine ezw_iconst (0) rfl rfl ?_
      exact ezw_ireturn rfl rfl ⟨rfl, _, ⟨by decide, by decide⟩, rfl⟩
    · refine ezw_aload_n rfl rfl ?_
      refine ezw_iload_n rfl rfl ?_
      refine ezs_iaload hI rfl rfl rfl (by omega) (by omega) (by decide) (fun u1 hu1 ku1 => ?_)
      refine ezw_goto rfl rfl ?_
      exact ezw_ireturn rfl rfl ⟨rfl, _, hu1, rfl⟩
theorem ezs_m142_68_30_26 {F : Nat → Nat → Int} {A : Nat → Int → Int} (hI : ezs_I fz F0 A0 F A) (hd : 5 ≤ d) (hzA : ∀ q, 26 ≤ q → q < 27 → fz q = false) : ezw_C l ρ B xa Hb D cA 142 d [ezw_p 68, ezw_p 30, ezw_p 26] (ezu_g e F A) (ezs_P e fz F0 A0 ezs_ri) := by
  refine ezw_met (k := 3) rfl rfl ?_
  refine ezw_iconst (-1) rfl rfl ?_
  refine ezw_istore_n rfl rfl ?_
  refine ezw_aload_n rfl rfl ?_
  refine ezw_aload_n rfl rfl ?_
  refine ezw_call0_1 rfl (by omega) (ezu_at rfl) rfl rfl rfl rfl (ezs_m94_26_30 hI (by omega) (fun q h0 h1 => hzA q (by omega) (by omega))) ?_
  rintro _ _ ⟨⟨F, A, rfl, hI⟩, rfl⟩
  refine ezw_iconst (0) rfl rfl ?_
  refine ezw_istore rfl rfl ?_
  have L10_2 : ∀ c2 : Int, ezw_in c2 → (0) ≤ c2 → ∀ y1 : Int, ezw_in y1 → ∀ F A, ezs_I fz F0 A0 F A → ezw_E l ρ B xa Hb D cA d ezq_re142 (ezs_P e fz F0 A0 ezs_ri) 10 [some (ezw_p 68), some (ezw_p 30), some (ezw_p 26), some (ezw_i y1), some (ezw_i c2), none] [] (ezu_g e F A) := by
    refine ezs_up ?_
    intro c2 hc2 ihc2 gc2 y1 hy1 F A hI
    refine ezw_iload rfl rfl ?_
    refine ezw_aload_n rfl rfl ?_
    refine ezs_get_i hI rfl rfl rfl rfl rfl rfl (fun u4 hu4 ku4 => ?_)
    refine ezw_icmp_ge rfl rfl hc2 hu4 (fun h16_4 => ?_) (fun h16_4 => ?_)
    · refine ezw_iload_n rfl rfl ?_
      exact ezw_ireturn rfl rfl ⟨⟨F, A, rfl, hI⟩, _, hy1, rfl⟩
    · refine ezw_iload rfl rfl ?_
      refine ezw_bipush (24) rfl rfl ?_
      refine ezw_icmp_ge rfl rfl hc2 ⟨by decide, by decide⟩ (fun h23_4 => ?_) (fun h23_4 => ?_)
      · refine ezw_iload_n rfl rfl ?_
        exact ezw_ireturn rfl rfl ⟨⟨F, A, rfl, hI⟩, _, hy1, rfl⟩
      · refine ezw_aload_n rfl rfl ?_
        refine ezw_aload_n rfl rfl ?_
        refine ezw_aload_n rfl rfl ?_
        refine ezs_getp (p := 69) rfl rfl rfl rfl rfl ?_
        refine ezw_iload rfl rfl ?_
        refine ezw_call3_2 rfl (by omega) rfl rfl (ezs_m27_69 hI (by omega) hc2) ?_
        rintro _ _ ⟨rfl, u5, hu5, rfl⟩
        refine ezw_aload_n rfl rfl ?_
        refine ezs_getp (p := 70) rfl rfl rfl rfl rfl ?_
        refine ezw_iload rfl rfl ?_
        refine ezw_call3_2 rfl (by omega) rfl rfl (ezs_m27_70 hI (by omega) hc2) ?_
        rintro _ _ ⟨rfl, u6, hu6, rfl⟩
        refine ezw_aload_n rfl rfl ?_
        refine ezs_getp (p := 71) rfl rfl rfl rfl rfl ?_
        refine ezw_iload rfl rfl ?_
        refine ezw_call3_2 rfl (by omega) rfl rfl (ezs_m27_71 hI (by omega) hc2) ?_
        rintro _ _ ⟨rfl, u7, hu7, rfl⟩
        refine ezw_call0_4 rfl (by omega) (ezu_at rfl) rfl rfl rfl rfl (ezs_m120_26_30 hI (by omega) (fun q h0 h1 => hzA q (by omega) (by omega)) hu5 hu6 hu7) ?_
        rintro _ _ ⟨⟨F, A, rfl, hI⟩, u8, hu8, rfl⟩
        refine ezw_istore rfl rfl ?_
        refine ezw_iload rfl rfl ?_
        refine ezw_if_ne rfl rfl ⟨by omega, by omega⟩ (fun h62_8 => ?_) (fun h62_8 => ?_)
        · refine ezw_iinc (1) rfl rfl rfl rfl rfl ?_
          refine ezw_goto rfl rfl ?_
          exact ezw_keepE [true, true, true, true, true, false] (ihc2 (c2 + (1)) (by omega) ⟨by omega, by omega⟩ (by omega) y1 hy1 F A hI)
        · refine ezw_iload_n rfl rfl ?_
          refine ezw_iconst (-1) rfl rfl ?_
          refine ezw_icmp_ne rfl rfl hy1 ⟨by decide, by decide⟩ (fun h67_8 => ?_) (fun h67_8 => ?_)
          · refine ezw_iinc (1) rfl rfl rfl rfl rfl ?_
            refine ezw_goto rfl rfl ?_
            exact ezw_keepE [true, true, true, true, true, false] (ihc2 (c2 + (1)) (by omega) ⟨by omega, by omega⟩ (by omega) y1 hy1 F A hI)
          · refine ezw_iload rfl rfl ?_
            refine ezw_istore_n rfl rfl ?_
            refine ezw_iinc (1) rfl rfl rfl rfl rfl ?_
            refine ezw_goto rfl rfl ?_
            exact ezw_keepE [true, true, true, true, true, false] (ihc2 (c2 + (1)) (by omega) ⟨by omega, by omega⟩ (by omega) c2 hc2 F A hI)
  exact ezw_keepE [true, true, true, true, true, false] (L10_2 (0) ⟨by decide, by decide⟩ (by omega) (-1) ⟨by decide, by decide⟩ F A hI)
theorem ezs_m104_68_1_47 {F : Nat → Nat → Int} {A : Nat → Int → Int} (hI : ezs_I fz F0 A0 F A) (hd : 6 ≤ d) (hzA : ∀ q, 68 ≤ q → q < 72 → fz q = false) (hzT : fz 1 = false) : ezw_C l ρ B xa Hb D cA 104 d [ezw_p 68, ezw_p 1, ezw_p 47] (ezu_g e F A) (ezs_P e fz F0 A0 ezs_rn) := by
  refine ezw_met (k := 2) rfl rfl ?_
  refine ezw_aload_n rfl rfl ?_
  refine ezw_aload_n rfl rfl ?_
  refine ezw_iconst (1) rfl rfl ?_
  refine ezw_call0_2 rfl (by omega) (ezu_at rfl) rfl rfl rfl rfl (ezs_m61_1_47 hI (by omega) hzT ⟨by decide, by decide⟩) ?_
  rintro _ _ ⟨⟨F, A, rfl, hI⟩, u1, hu1, rfl⟩
  refine ezw_istore_n rfl rfl ?_
  refine ezw_iconst (0) rfl rfl ?_
  refine ezw_istore rfl rfl ?_
  refine ezw_aload_n rfl rfl ?_
  refine ezw_bipush (40) rfl rfl ?_
  refine ezw_call0_1 rfl (by omega) (ezu_at rfl) rfl rfl rfl rfl (ezs_m60_1 hI (by omega) hzT ⟨by decide, by decide⟩) ?_
  rintro _ _ ⟨⟨F, A, rfl, hI⟩, u2, hu2, rfl⟩
  have J46_3 : ∀ y3 : Int, ezw_in y3 → ∀ F A, ezs_I fz F0 A0 F A → ezw_E l ρ B xa Hb D cA d ezq_re104 (ezs_P e fz F0 A0 ezs_rn) 46 [some (ezw_p 68), some (ezw_p 1), some (ezw_p 47), some (ezw_i u1), some (ezw_i y3)] [] (ezu_g e F A) := by
    intro y3 hy3 F A hI
    refine ezw_aload_n rfl rfl ?_
    refine ezw_iconst (4) rfl rfl ?_
    refine ezw_iload_n rfl rfl ?_
    refine ezw_iload rfl rfl ?_
    refine ezw_call0_3 rfl (by omega) (ezu_at rfl) rfl rfl rfl rfl (ezs_m103_68 hI (by omega) (fun q h0 h1 => hzA q (by omega) (by omega)) ⟨by decide, by decide⟩ hu1 hy3) ?_
    rintro _ _ ⟨⟨F, A, rfl, hI⟩, rfl⟩
    exact ezw_return rfl rfl ⟨⟨F, A, rfl, hI⟩, rfl⟩
  refine ezw_if_eq rfl rfl ⟨by omega, by omega⟩ (fun h16_2 => ?_) (fun h16_2 => ?_)
  · refine ezw_aload_n rfl rfl ?_
    refine ezw_bipush (11) rfl rfl ?_
    refine ezw_call0_1 rfl (by omega) (ezu_at rfl) rfl rfl rfl rfl (ezs_m60_1 hI (by omega) hzT ⟨by decide, by decide⟩) ?_
    rintro _ _ ⟨⟨F, A, rfl, hI⟩, u5, hu5, rfl⟩
    refine ezw_if_eq rfl rfl ⟨by omega, by omega⟩ (fun h31_5 => ?_) (fun h31_5 => ?_)
    · refine ezw_aload_n rfl rfl ?_
      refine ezw_bipush (39) rfl rfl ?_
      refine ezw_call0_1 rfl (by omega) (ezu_at rfl) rfl rfl rfl rfl (ezs_m56_1 hI (by omega) hzT ⟨by decide, by decide⟩) ?_
      rintro _ _ ⟨⟨F, A, rfl, hI⟩, rfl⟩
      exact ezw_keepE [true, true, true, true, true] (J46_3 (0) ⟨by decide, by decide⟩ F A hI)
    · refine ezw_iconst (2) rfl rfl ?_
      refine ezw_istore rfl rfl ?_
      refine ezw_goto rfl rfl ?_
      exact ezw_keepE [true, true, true, true, true] (J46_3 (2) ⟨by decide, by decide⟩ F A hI)
  · refine ezw_iconst (1) rfl rfl ?_
    refine ezw_istore rfl rfl ?_
    refine ezw_goto rfl rfl ?_
    exact ezw_keepE [true, true, true, true, true] (J46_3 (1) ⟨by decide, by decide⟩ F A hI)
theorem ezs_m101_68_1_47 {F : Nat → Nat → Int} {A : Nat → Int → Int} (hI : ezs_I fz F0 A0 F A) (hd : 7 ≤ d) (hzA : ∀ q, 68 ≤ q → q < 72 → fz q = false) (hzT : fz 1 = false) : ezw_C l ρ B xa Hb D cA 101 d [ezw_p 68, ezw_p 1, ezw_p 47] (ezu_g e F A) (ezs_P e fz F0 A0 ezs_rn) := by
  refine ezw_met (k := 1) rfl rfl ?_
  refine ezw_aload_n rfl rfl ?_
  refine ezs_get_i hI rfl rfl rfl rfl rfl rfl (fun u1 hu1 ku1 => ?_)
  refine ezw_istore_n rfl rfl ?_
  refine ezw_iload_n rfl rfl ?_
  refine ezw_bipush (23) rfl rfl ?_
  have J39_1 : ∀ F A, ezs_I fz F0 A0 F A → ezw_E l ρ B xa Hb D cA d ezq_re101 (ezs_P e fz F0 A0 ezs_rn) 39 [some (ezw_p 68), some (ezw_p 1), some (ezw_p 47), some (ezw_i u1)] [] (ezu_g e F A) := by
    intro F A hI
    refine ezw_aload_n rfl rfl ?_
    refine ezw_call0_0 rfl (by omega) (ezu_at rfl) rfl rfl rfl rfl (ezs_m45_1 hI (by omega)) ?_
    rintro _ _ ⟨rfl, u3, hu3, rfl⟩
    refine ezw_if_ne rfl rfl ⟨by omega, by omega⟩ (fun h43_3 => ?_) (fun h43_3 => ?_)
    · refine ezw_aload_n rfl rfl ?_
      refine ezw_call0_0 rfl (by omega) (ezu_at rfl) rfl rfl rfl rfl (ezs_m30_1 hI (by omega) hzT) ?_
      rintro _ _ ⟨⟨F, A, rfl, hI⟩, rfl⟩
      refine ezw_iload_n rfl rfl ?_
      by_cases q4 : u1 = (23)
      · refine ezw_tableswitchE (v := 23) (p := 92) q4 rfl (by rfl) ?_
        refine ezw_aload_n rfl rfl ?_
        refine ezw_aload_n rfl rfl ?_
        refine ezw_call0_1 rfl (by omega) (ezu_at rfl) rfl rfl rfl rfl (ezs_m102_68_1 hI (by omega) (fun q h0 h1 => hzA q (by omega) (by omega)) hzT) ?_
        rintro _ _ ⟨⟨F, A, rfl, hI⟩, rfl⟩
        refine ezw_goto rfl rfl ?_
        refine ezw_aload_n rfl rfl ?_
        refine ezw_sipush (259) rfl rfl ?_
        refine ezw_call0_1 rfl (by omega) (ezu_at rfl) rfl rfl rfl rfl (ezs_m56_1 hI (by omega) hzT ⟨by decide, by decide⟩) ?_
        rintro _ _ ⟨⟨F, A, rfl, hI⟩, rfl⟩
        exact ezw_return rfl rfl ⟨⟨F, A, rfl, hI⟩, rfl⟩
      by_cases q5 : u1 = (24)
      · refine ezw_tableswitchE (v := 24) (p := 100) q5 rfl (by rfl) ?_
        refine ezw_aload_n rfl rfl ?_
        refine ezw_iconst (2) rfl rfl ?_
        refine ezw_iconst (0) rfl rfl ?_
        refine ezw_iconst (0) rfl rfl ?_
        refine ezw_call0_3 rfl (by omega) (ezu_at rfl) rfl rfl rfl rfl (ezs_m103_68 hI (by omega) (fun q h0 h1 => hzA q (by omega) (by omega)) ⟨by decide, by decide⟩ ⟨by decide, by decide⟩ ⟨by decide, by decide⟩) ?_
        rintro _ _ ⟨⟨F, A, rfl, hI⟩, rfl⟩
        refine ezw_goto rfl rfl ?_
        refine ezw_aload_n rfl rfl ?_
        refine ezw_sipush (259) rfl rfl ?_
        refine ezw_call0_1 rfl (by omega) (ezu_at rfl) rfl rfl rfl rfl (ezs_m56_1 hI (by omega) hzT ⟨by decide, by decide⟩) ?_
        rintro _ _ ⟨⟨F, A, rfl, hI⟩, rfl⟩
        exact ezw_return rfl rfl ⟨⟨F, A, rfl, hI⟩, rfl⟩
      by_cases q6 : u1 = (25)
      · refine ezw_tableswitchE (v := 25) (p := 110) q6 rfl (by rfl) ?_
        refine ezw_aload_n rfl rfl ?_
        refine ezw_iconst (3) rfl rfl ?_
        refine ezw_iconst (0) rfl rfl ?_
        refine ezw_iconst (0) rfl rfl ?_
        refine ezw_call0_3 rfl (by omega) (ezu_at rfl) rfl rfl rfl rfl (ezs_m103_68 hI (by omega) (fun q h0 h1 => hzA q (by omega) (by omega)) ⟨by decide, by decide⟩ ⟨by decide, by decide⟩ ⟨by decide, by decide⟩) ?_
        rintro _ _ ⟨⟨F, A, rfl, hI⟩, rfl⟩
        refine ezw_goto rfl rfl ?_
        refine ezw_aload_n rfl rfl ?_
        refine ezw_sipush (259) rfl rfl ?_
        refine ezw_call0_1 rfl (by omega) (ezu_at rfl) rfl rfl rfl rfl (ezs_m56_1 hI (by omega) hzT ⟨by decide, by decide⟩) ?_
        rintro _ _ ⟨⟨F, A, rfl, hI⟩, rfl⟩
        exact ezw_return rfl rfl ⟨⟨F, A, rfl, hI⟩, rfl⟩
      by_cases q7 : u1 = (26)
      · refine ezw_tableswitchE (v := 26) (p := 120) q7 rfl (by rfl) ?_
        refine ezw_aload_n rfl rfl ?_
        refine ezw_aload_n rfl rfl ?_
        refine ezw_aload_n rfl rfl ?_
        refine ezw_call0_2 rfl (by omega) (ezu_at rfl) rfl rfl rfl rfl (ezs_m104_68_1_47 hI (by omega) (fun q h0 h1 => hzA q (by omega) (by omega)) hzT) ?_
        rintro _ _ ⟨⟨F, A, rfl, hI⟩, rfl⟩
        refine ezw_goto rfl rfl ?_
        refine ezw_aload_n rfl rfl ?_
        refine ezw_sipush (259) rfl rfl ?_
        refine ezw_call0_1 rfl (by omega) (ezu_at rfl) rfl rfl rfl rfl (ezs_m56_1 hI (by omega) hzT ⟨by decide, by decide⟩) ?_
        rintro _ _ ⟨⟨F, A, rfl, hI⟩, rfl⟩
        exact ezw_return rfl rfl ⟨⟨F, A, rfl, hI⟩, rfl⟩
      by_cases q8 : u1 = (27)
      · refine ezw_tableswitchE (v := 27) (p := 129) q8 rfl (by rfl) ?_
        refine ezw_aload_n rfl rfl ?_
        refine ezw_iconst (5) rfl rfl ?_
        refine ezw_aload_n rfl rfl ?_
        refine ezw_aload_n rfl rfl ?_
        refine ezw_iconst (0) rfl rfl ?_
        refine ezw_call0_2 rfl (by omega) (ezu_at rfl) rfl rfl rfl rfl (ezs_m61_1_47 hI (by omega) hzT ⟨by decide, by decide⟩) ?_
        rintro _ _ ⟨⟨F, A, rfl, hI⟩, u9, hu9, rfl⟩
        refine ezw_iconst (0) rfl rfl ?_
        refine ezw_call0_3 rfl (by omega) (ezu_at rfl) rfl rfl rfl rfl (ezs_m103_68 hI (by omega) (fun q h0 h1 => hzA q (by omega) (by omega)) ⟨by decide, by decide⟩ hu9 ⟨by decide, by decide⟩) ?_
        rintro _ _ ⟨⟨F, A, rfl, hI⟩, rfl⟩
        refine ezw_goto rfl rfl ?_
        refine ezw_aload_n rfl rfl ?_
        refine ezw_sipush (259) rfl rfl ?_
        refine ezw_call0_1 rfl (by omega) (ezu_at rfl) rfl rfl rfl rfl (ezs_m56_1 hI (by omega) hzT ⟨by decide, by decide⟩) ?_
        rintro _ _ ⟨⟨F, A, rfl, hI⟩, rfl⟩
        exact ezw_return rfl rfl ⟨⟨F, A, rfl, hI⟩, rfl⟩
      by_cases q10 : u1 = (28)
      · refine ezw_tableswitchE (v := 28) (p := 144) q10 rfl (by rfl) ?_
        refine ezw_aload_n rfl rfl ?_
        refine ezw_bipush (6) rfl rfl ?_
        refine ezw_aload_n rfl rfl ?_
        refine ezw_aload_n rfl rfl ?_
        refine ezw_iconst (0) rfl rfl ?_
        refine ezw_call0_2 rfl (by omega) (ezu_at rfl) rfl rfl rfl rfl (ezs_m61_1_47 hI (by omega) hzT ⟨by decide, by decide⟩) ?_
        rintro _ _ ⟨⟨F, A, rfl, hI⟩, u11, hu11, rfl⟩
        refine ezw_iconst (0) rfl rfl ?_
        refine ezw_call0_3 rfl (by omega) (ezu_at rfl) rfl rfl rfl rfl (ezs_m103_68 hI (by omega) (fun q h0 h1 => hzA q (by omega) (by omega)) ⟨by decide, by decide⟩ hu11 ⟨by decide, by decide⟩) ?_
        rintro _ _ ⟨⟨F, A, rfl, hI⟩, rfl⟩
        refine ezw_goto rfl rfl ?_
        refine ezw_aload_n rfl rfl ?_
        refine ezw_sipush (259) rfl rfl ?_
        refine ezw_call0_1 rfl (by omega) (ezu_at rfl) rfl rfl rfl rfl (ezs_m56_1 hI (by omega) hzT ⟨by decide, by decide⟩) ?_
        rintro _ _ ⟨⟨F, A, rfl, hI⟩, rfl⟩
        exact ezw_return rfl rfl ⟨⟨F, A, rfl, hI⟩, rfl⟩
      refine ezw_tableswitch (p := 160) rfl (ezs_swd hu1 (And.intro (And.intro ⟨by decide, by decide⟩ (fun z => q4 z.symm)) (And.intro (And.intro ⟨by decide, by decide⟩ (fun z => q5 z.symm)) (And.intro (And.intro ⟨by decide, by decide⟩ (fun z => q6 z.symm)) (And.intro (And.intro ⟨by decide, by decide⟩ (fun z => q7 z.symm)) (And.intro (And.intro ⟨by decide, by decide⟩ (fun z => q8 z.symm)) (And.intro (And.intro ⟨by decide, by decide⟩ (fun z => q10 z.symm)) True.intro)))))) rfl) ?_
      refine ezw_aload_n rfl rfl ?_
      refine ezw_bipush (7) rfl rfl ?_
      refine ezw_aload_n rfl rfl ?_
      refine ezw_bipush (30) rfl rfl ?_
      refine ezw_iconst (4) rfl rfl ?_
      refine ezw_call0_2 rfl (by omega) (ezu_at rfl) rfl rfl rfl rfl (ezs_m59_1 hI (by omega) hzT ⟨by decide, by decide⟩ (by omega) ⟨by decide, by decide⟩ (by omega)) ?_
      rintro _ _ ⟨⟨F, A, rfl, hI⟩, u12, hu12, rfl⟩
      refine ezw_iconst (0) rfl rfl ?_
      refine ezw_call0_3 rfl (by omega) (ezu_at rfl) rfl rfl rfl rfl (ezs_m103_68 hI (by omega) (fun q h0 h1 => hzA q (by omega) (by omega)) ⟨by decide, by decide⟩ ⟨by omega, by omega⟩ ⟨by decide, by decide⟩) ?_
      rintro _ _ ⟨⟨F, A, rfl, hI⟩, rfl⟩
      refine ezw_aload_n rfl rfl ?_
      refine ezw_sipush (259) rfl rfl ?_
      refine ezw_call0_1 rfl (by omega) (ezu_at rfl) rfl rfl rfl rfl (ezs_m56_1 hI (by omega) hzT ⟨by decide, by decide⟩) ?_
      rintro _ _ ⟨⟨F, A, rfl, hI⟩, rfl⟩
      exact ezw_return rfl rfl ⟨⟨F, A, rfl, hI⟩, rfl⟩
    · exact ezw_return rfl rfl ⟨⟨F, A, rfl, hI⟩, rfl⟩
  refine ezw_icmp_lt rfl rfl hu1 ⟨by decide, by decide⟩ (fun h8_1 => ?_) (fun h8_1 => ?_)
  · refine ezw_aload_n rfl rfl ?_
    refine ezw_iconst (1) rfl rfl ?_
    refine ezw_call0_1 rfl (by omega) (ezu_at rfl) rfl rfl rfl rfl (ezs_m50_1 hI (by omega) hzT ⟨by decide, by decide⟩) ?_
    rintro _ _ ⟨⟨F, A, rfl, hI⟩, rfl⟩
    refine ezw_goto rfl rfl ?_
    exact ezw_keepE [true, true, true, true] (J39_1  F A hI)
  · refine ezw_iload_n rfl rfl ?_
    refine ezw_bipush (29) rfl rfl ?_
    refine ezw_icmp_le rfl rfl hu1 ⟨by decide, by decide⟩ (fun h14_12 => ?_) (fun h14_12 => ?_)
    · refine ezw_aload_n rfl rfl ?_
      refine ezs_get_i hI rfl rfl rfl rfl rfl rfl (fun u13 hu13 ku13 => ?_)
      refine ezw_bipush (24) rfl rfl ?_
      refine ezw_icmp_lt rfl rfl hu13 ⟨by decide, by decide⟩ (fun h31_13 => ?_) (fun h31_13 => ?_)
      · exact ezw_keepE [true, true, true, true] (J39_1  F A hI)
      · refine ezw_aload_n rfl rfl ?_
        refine ezw_iconst (5) rfl rfl ?_
        refine ezw_call0_1 rfl (by omega) (ezu_at rfl) rfl rfl rfl rfl (ezs_m50_1 hI (by omega) hzT ⟨by decide, by decide⟩) ?_
        rintro _ _ ⟨⟨F, A, rfl, hI⟩, rfl⟩
        exact ezw_keepE [true, true, true, true] (J39_1  F A hI)
    · refine ezw_aload_n rfl rfl ?_
      refine ezw_iconst (1) rfl rfl ?_
      refine ezw_call0_1 rfl (by omega) (ezu_at rfl) rfl rfl rfl rfl (ezs_m50_1 hI (by omega) hzT ⟨by decide, by decide⟩) ?_
      rintro _ _ ⟨⟨F, A, rfl, hI⟩, rfl⟩
      refine ezw_goto rfl rfl ?_
      exact ezw_keepE [true, true, true, true] (J39_1  F A hI)
theorem ezs_m100_68_1_47 {F : Nat → Nat → Int} {A : Nat → Int → Int} (hI : ezs_I fz F0 A0 F A) (hd : 8 ≤ d) (hzA : ∀ q, 68 ≤ q → q < 72 → fz q = false) (hzT : fz 1 = false) : ezw_C l ρ B xa Hb D cA 100 d [ezw_p 68, ezw_p 1, ezw_p 47] (ezu_g e F A) (ezs_P0 e fz F0 A0 ezs_ri) := by
  refine ezw_met (k := 1) rfl rfl ?_
  refine ezw_aload_n rfl rfl ?_
  refine ezw_iconst (0) rfl rfl ?_
  refine ezs_put_i hI rfl rfl rfl rfl rfl (hzA 68 (by decide) (by decide)) ⟨by decide, by decide⟩ (fun F A hI => ?_)
  refine ezw_aload_n rfl rfl ?_
  refine ezw_call0_0 rfl (by omega) (ezu_at rfl) rfl rfl rfl rfl (ezs_m29_1 hI (by omega) hzT) ?_
  rintro _ _ ⟨⟨F, A, rfl, hI⟩, rfl⟩
  refine ezw_iconst (0) rfl rfl ?_
  refine ezw_istore_n rfl rfl ?_
  have L11_1 : ∀ c1 : Int, ezw_in c1 → (0) ≤ c1 → ∀ F A, ezs_I fz F0 A0 F A → ezw_E l ρ B xa Hb D cA d ezq_re100 (ezs_P0 e fz F0 A0 ezs_ri) 11 [some (ezw_p 68), some (ezw_p 1), some (ezw_p 47), some (ezw_i c1)] [] (ezu_g e F A) := by
    refine ezs_up ?_
    intro c1 hc1 ihc1 gc1 F A hI
    refine ezw_iload_n rfl rfl ?_
    refine ezw_bipush (24) rfl rfl ?_
    refine ezw_icmp_gt rfl rfl hc1 ⟨by decide, by decide⟩ (fun h14_2 => ?_) (fun h14_2 => ?_)
    · refine ezw_aload_n rfl rfl ?_
      refine ezw_call0_0 rfl (by omega) (ezu_at rfl) rfl rfl rfl rfl (ezs_m93_1 hI (by omega) hzT) ?_
      rintro _ _ ⟨⟨F, A, rfl, hI, hz0⟩, u3, hu3, rfl⟩
      exact ezw_ireturn rfl rfl ⟨⟨F, A, rfl, hI, hz0⟩, _, hu3, rfl⟩
    · refine ezw_aload_n rfl rfl ?_
      refine ezw_call0_0 rfl (by omega) (ezu_at rfl) rfl rfl rfl rfl (ezs_m45_1 hI (by omega)) ?_
      rintro _ _ ⟨rfl, u4, hu4, rfl⟩
      refine ezw_if_eq rfl rfl ⟨by omega, by omega⟩ (fun h21_4 => ?_) (fun h21_4 => ?_)
      · refine ezw_aload_n rfl rfl ?_
        refine ezw_call0_0 rfl (by omega) (ezu_at rfl) rfl rfl rfl rfl (ezs_m93_1 hI (by omega) hzT) ?_
        rintro _ _ ⟨⟨F, A, rfl, hI, hz0⟩, u5, hu5, rfl⟩
        exact ezw_ireturn rfl rfl ⟨⟨F, A, rfl, hI, hz0⟩, _, hu5, rfl⟩
      · refine ezw_aload_n rfl rfl ?_
        refine ezw_bipush (102) rfl rfl ?_
        refine ezw_call0_1 rfl (by omega) (ezu_at rfl) rfl rfl rfl rfl (ezs_m46_1 hI (by omega) ⟨by decide, by decide⟩) ?_
        rintro _ _ ⟨rfl, u6, hu6, rfl⟩
        refine ezw_if_ne rfl rfl ⟨by omega, by omega⟩ (fun h30_6 => ?_) (fun h30_6 => ?_)
        · refine ezw_aload_n rfl rfl ?_
          refine ezw_call0_0 rfl (by omega) (ezu_at rfl) rfl rfl rfl rfl (ezs_m93_1 hI (by omega) hzT) ?_
          rintro _ _ ⟨⟨F, A, rfl, hI, hz0⟩, u7, hu7, rfl⟩
          exact ezw_ireturn rfl rfl ⟨⟨F, A, rfl, hI, hz0⟩, _, hu7, rfl⟩
        · refine ezw_aload_n rfl rfl ?_
          refine ezw_aload_n rfl rfl ?_
          refine ezw_aload_n rfl rfl ?_
          refine ezw_call0_2 rfl (by omega) (ezu_at rfl) rfl rfl rfl rfl (ezs_m101_68_1_47 hI (by omega) (fun q h0 h1 => hzA q (by omega) (by omega)) hzT) ?_
          rintro _ _ ⟨⟨F, A, rfl, hI⟩, rfl⟩
          refine ezw_iinc (1) rfl rfl rfl rfl rfl ?_
          refine ezw_goto rfl rfl ?_
          exact ezw_keepE [true, true, true, true] (ihc1 (c1 + (1)) (by omega) ⟨by omega, by omega⟩ (by omega)  F A hI)
  exact ezw_keepE [true, true, true, true] (L11_1 (0) ⟨by decide, by decide⟩ (by omega)  F A hI)
theorem ezs_m142_68_47_26 {F : Nat → Nat → Int} {A : Nat → Int → Int} (hI : ezs_I fz F0 A0 F A) (hd : 5 ≤ d) (hzA : ∀ q, 26 ≤ q → q < 27 → fz q = false) : ezw_C l ρ B xa Hb D cA 142 d [ezw_p 68, ezw_p 47, ezw_p 26] (ezu_g e F A) (ezs_P e fz F0 A0 ezs_ri) := by
  refine ezw_met (k := 3) rfl rfl ?_
  refine ezw_iconst (-1) rfl rfl ?_
  refine ezw_istore_n rfl rfl ?_
  refine ezw_aload_n rfl rfl ?_
  refine ezw_aload_n rfl rfl ?_
  refine ezw_call0_1 rfl (by omega) (ezu_at rfl) rfl rfl rfl rfl (ezs_m94_26_47 hI (by omega) (fun q h0 h1 => hzA q (by omega) (by omega))) ?_
  rintro _ _ ⟨⟨F, A, rfl, hI⟩, rfl⟩
  refine ezw_iconst (0) rfl rfl ?_
  refine ezw_istore rfl rfl ?_
  have L10_2 : ∀ c2 : Int, ezw_in c2 → (0) ≤ c2 → ∀ y1 : Int, ezw_in y1 → ∀ F A, ezs_I fz F0 A0 F A → ezw_E l ρ B xa Hb D cA d ezq_re142 (ezs_P e fz F0 A0 ezs_ri) 10 [some (ezw_p 68), some (ezw_p 47), some (ezw_p 26), some (ezw_i y1), some (ezw_i c2), none] [] (ezu_g e F A) := by
    refine ezs_up ?_
    intro c2 hc2 ihc2 gc2 y1 hy1 F A hI
    refine ezw_iload rfl rfl ?_
    refine ezw_aload_n rfl rfl ?_
    refine ezs_get_i hI rfl rfl rfl rfl rfl rfl (fun u4 hu4 ku4 => ?_)
    refine ezw_icmp_ge rfl rfl hc2 hu4 (fun h16_4 => ?_) (fun h16_4 => ?_)
    · refine ezw_iload_n rfl rfl ?_
      exact ezw_ireturn rfl rfl ⟨⟨F, A, rfl, hI⟩, _, hy1, rfl⟩
    · refine ezw_iload rfl rfl ?_
      refine ezw_bipush (24) rfl rfl ?_
      refine ezw_icmp_ge rfl rfl hc2 ⟨by decide, by decide⟩ (fun h23_4 => ?_) (fun h23_4 => ?_)
      · refine ezw_iload_n rfl rfl ?_
        exact ezw_ireturn rfl rfl ⟨⟨F, A, rfl, hI⟩, _, hy1, rfl⟩
      · refine ezw_aload_n rfl rfl ?_
        refine ezw_aload_n rfl rfl ?_
        refine ezw_aload_n rfl rfl ?_
        refine ezs_getp (p := 69) rfl rfl rfl rfl rfl ?_
        refine ezw_iload rfl rfl ?_
        refine ezw_call3_2 rfl (by omega) rfl rfl (ezs_m27_69 hI (by omega) hc2) ?_
        rintro _ _ ⟨rfl, u5, hu5, rfl⟩
        refine ezw_aload_n rfl rfl ?_
        refine ezs_getp (p := 70) rfl rfl rfl rfl rfl ?_
        refine ezw_iload rfl rfl ?_
        refine ezw_call3_2 rfl (by omega) rfl rfl (ezs_m27_70 hI (by omega) hc2) ?_
        rintro _ _ ⟨rfl, u6, hu6, rfl⟩
        refine ezw_aload_n rfl rfl ?_
        refine ezs_getp (p := 71) rfl rfl rfl rfl rfl ?_
        refine ezw_iload rfl rfl ?_
        refine ezw_call3_2 rfl (by omega) rfl rfl (ezs_m27_71 hI (by omega) hc2) ?_
        rintro _ _ ⟨rfl, u7, hu7, rfl⟩
        refine ezw_call0_4 rfl (by omega) (ezu_at rfl) rfl rfl rfl rfl (ezs_m120_26_47 hI (by omega) (fun q h0 h1 => hzA q (by omega) (by omega)) hu5 hu6 hu7) ?_
        rintro _ _ ⟨⟨F, A, rfl, hI⟩, u8, hu8, rfl⟩
        refine ezw_istore rfl rfl ?_
        refine ezw_iload rfl rfl ?_
        refine ezw_if_ne rfl rfl ⟨by omega, by omega⟩ (fun h62_8 => ?_) (fun h62_8 => ?_)
        · refine ezw_iinc (1) rfl rfl rfl rfl rfl ?_
          refine ezw_goto rfl rfl ?_
          exact ezw_keepE [true, true, true, true, true, false] (ihc2 (c2 + (1)) (by omega) ⟨by omega, by omega⟩ (by omega) y1 hy1 F A hI)
        · refine ezw_iload_n rfl rfl ?_
          refine ezw_iconst (-1) rfl rfl ?_
          refine ezw_icmp_ne rfl rfl hy1 ⟨by decide, by decide⟩ (fun h67_8 => ?_) (fun h67_8 => ?_)
          · refine ezw_iinc (1) rfl rfl rfl rfl rfl ?_
            refine ezw_goto rfl rfl ?_
            exact ezw_keepE [true, true, true, true, true, false] (ihc2 (c2 + (1)) (by omega) ⟨by omega, by omega⟩ (by omega) y1 hy1 F A hI)
          · refine ezw_iload rfl rfl ?_
            refine ezw_istore_n rfl rfl ?_
            refine ezw_iinc (1) rfl rfl rfl rfl rfl ?_
            refine ezw_goto rfl rfl ?_
            exact ezw_keepE [true, true, true, true, true, false] (ihc2 (c2 + (1)) (by omega) ⟨by omega, by omega⟩ (by omega) c2 hc2 F A hI)
  exact ezw_keepE [true, true, true, true, true, false] (L10_2 (0) ⟨by decide, by decide⟩ (by omega) (-1) ⟨by decide, by decide⟩ F A hI)
theorem ezs_m140_26 {a1 : Int} {F : Nat → Nat → Int} {A : Nat → Int → Int} (hI : ezs_I fz F0 A0 F A) (hd : 0 ≤ d) (hzA : ∀ q, 26 ≤ q → q < 27 → fz q = false) (ha1 : ezw_il a1) : ezw_C l ρ B xa Hb D cA 140 d [ezw_p 26, ezw_l a1] (ezu_g e F A) (ezs_P e fz F0 A0 ezs_rn) := by
  refine ezw_met (k := 0) rfl rfl ?_
  refine ezw_aload_n rfl rfl ?_
  refine ezw_lload_n rfl rfl ?_
  refine ezw_ldc2_w (15) rfl rfl ?_
  refine ezs_land rfl (fun u1 hu1 => ?_)
  refine ezs_l2i rfl (fun u2 hu2 => ?_)
  refine ezs_put_i hI rfl rfl rfl rfl rfl (hzA 26 (by decide) (by decide)) hu2 (fun F A hI => ?_)
  refine ezw_aload_n rfl rfl ?_
  refine ezw_lload_n rfl rfl ?_
  refine ezw_iconst (4) rfl rfl ?_
  refine ezs_lshr rfl ha1 (by omega) (by omega) (fun u3 hu3 => ?_)
  refine ezw_ldc2_w (127) rfl rfl ?_
  refine ezs_land rfl (fun u4 hu4 => ?_)
  refine ezs_l2i rfl (fun u5 hu5 => ?_)
  refine ezs_put_i hI rfl rfl rfl rfl rfl (hzA 26 (by decide) (by decide)) hu5 (fun F A hI => ?_)
  refine ezw_aload_n rfl rfl ?_
  refine ezw_lload_n rfl rfl ?_
  refine ezw_bipush (11) rfl rfl ?_
  refine ezs_lshr rfl ha1 (by omega) (by omega) (fun u6 hu6 => ?_)
  refine ezw_ldc2_w (3) rfl rfl ?_
  refine ezs_land rfl (fun u7 hu7 => ?_)
  refine ezs_l2i rfl (fun u8 hu8 => ?_)
  refine ezs_put_i hI rfl rfl rfl rfl rfl (hzA 26 (by decide) (by decide)) hu8 (fun F A hI => ?_)
  refine ezw_aload_n rfl rfl ?_
  refine ezw_lload_n rfl rfl ?_
  refine ezw_bipush (13) rfl rfl ?_
  refine ezs_lshr rfl ha1 (by omega) (by omega) (fun u9 hu9 => ?_)
  refine ezw_ldc2_w (3) rfl rfl ?_
  refine ezs_land rfl (fun u10 hu10 => ?_)
  refine ezs_l2i rfl (fun u11 hu11 => ?_)
  refine ezs_put_i hI rfl rfl rfl rfl rfl (hzA 26 (by decide) (by decide)) hu11 (fun F A hI => ?_)
  refine ezw_aload_n rfl rfl ?_
  refine ezw_lload_n rfl rfl ?_
  refine ezw_bipush (15) rfl rfl ?_
  refine ezs_lshr rfl ha1 (by omega) (by omega) (fun u12 hu12 => ?_)
  refine ezw_ldc2_w (31) rfl rfl ?_
  refine ezs_land rfl (fun u13 hu13 => ?_)
  refine ezs_l2i rfl (fun u14 hu14 => ?_)
  refine ezs_put_i hI rfl rfl rfl rfl rfl (hzA 26 (by decide) (by decide)) hu14 (fun F A hI => ?_)
  refine ezw_aload_n rfl rfl ?_
  refine ezw_lload_n rfl rfl ?_
  refine ezw_bipush (20) rfl rfl ?_
  refine ezs_lshr rfl ha1 (by omega) (by omega) (fun u15 hu15 => ?_)
  refine ezw_ldc2_w (15) rfl rfl ?_
  refine ezs_land rfl (fun u16 hu16 => ?_)
  refine ezs_l2i rfl (fun u17 hu17 => ?_)
  refine ezs_put_i hI rfl rfl rfl rfl rfl (hzA 26 (by decide) (by decide)) hu17 (fun F A hI => ?_)
  refine ezw_aload_n rfl rfl ?_
  refine ezw_lload_n rfl rfl ?_
  refine ezw_bipush (24) rfl rfl ?_
  refine ezs_lshr rfl ha1 (by omega) (by omega) (fun u18 hu18 => ?_)
  refine ezw_ldc2_w (63) rfl rfl ?_
  refine ezs_land rfl (fun u19 hu19 => ?_)
  refine ezs_l2i rfl (fun u20 hu20 => ?_)
  refine ezs_put_i hI rfl rfl rfl rfl rfl (hzA 26 (by decide) (by decide)) hu20 (fun F A hI => ?_)
  exact ezw_return rfl rfl ⟨⟨F, A, rfl, hI⟩, rfl⟩
theorem ezs_m198_22 {F : Nat → Nat → Int} {A : Nat → Int → Int} (hI : ezs_I fz F0 A0 F A) (hd : 0 ≤ d) (hzA : ∀ q, 22 ≤ q → q < 23 → fz q = false) : ezw_C l ρ B xa Hb D cA 198 d [ezw_p 22] (ezu_g e F A) (ezs_P e fz F0 A0 ezs_ri) := by
  refine ezw_met (k := 0) rfl rfl ?_
  refine ezw_aload_n rfl rfl ?_
  refine ezw_aload_n rfl rfl ?_
  refine ezs_get_l hI rfl rfl rfl rfl rfl (fun u1 hu1 => ?_)
  refine ezw_ldc2_w (1103515245) rfl rfl ?_
  refine ezs_lmul rfl (fun u2 hu2 => ?_)
  refine ezw_ldc2_w (12345) rfl rfl ?_
  refine ezs_ladd rfl (fun u3 hu3 => ?_)
  refine ezw_ldc2_w (2147483648) rfl rfl ?_
  refine ezs_lrem rfl hu3 ⟨by decide, by decide⟩ (by omega) (fun u4 hu4 => ?_)
  refine ezs_put_l hI rfl rfl rfl rfl rfl (hzA 22 (by decide) (by decide)) hu4 (fun F A hI => ?_)
  refine ezw_aload_n rfl rfl ?_
  refine ezs_get_l hI rfl rfl rfl rfl rfl (fun u5 hu5 => ?_)
  refine ezw_ldc2_w (65536) rfl rfl ?_
  refine ezs_ldiv rfl hu5 ⟨by decide, by decide⟩ (by omega) (fun u6 hu6 => ?_)
  refine ezw_ldc2_w (10) rfl rfl ?_
  refine ezs_lrem rfl hu6 ⟨by decide, by decide⟩ (by omega) (fun u7 hu7 => ?_)
  refine ezs_l2i rfl (fun u8 hu8 => ?_)
  exact ezw_ireturn rfl rfl ⟨⟨F, A, rfl, hI⟩, _, hu8, rfl⟩
end KM
