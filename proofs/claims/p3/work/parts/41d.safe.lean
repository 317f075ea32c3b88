/-! ===== the program, roughly: laws ===== -/
section KM
variable {l : Launch} {ρ : ezq_E} {B : Nat} {xa : Nat → Option Nat} {Hb : Heap} {D : va_G} {cA : Nat → ClassId} {d : Nat} {e : Bool × Bool} {fz : Nat → Bool} {F0 : Nat → Nat → Int} {A0 : Nat → Int → Int}
theorem ezs_m28_5 {F : Nat → Nat → Int} {A : Nat → Int → Int} (hI : ezs_I fz F0 A0 F A) (hd : 0 ≤ d) (hzA : ∀ q, 4 ≤ q → q < 72 → fz q = false) : ezw_C l ρ B xa Hb D cA 28 d [ezw_p 5] (ezu_g e F A) (ezs_P e fz F0 A0 ezs_rn) := by
  refine ezw_met (k := 0) rfl rfl ?_
  refine ezw_aload_n rfl rfl ?_
  refine ezw_iconst (0) rfl rfl ?_
  refine ezs_put_z hI rfl rfl rfl rfl ⟨by omega, by omega⟩ rfl (hzA 5 (by decide) (by decide)) (show ezs_fk 5 3 _ from ⟨by omega, by omega⟩) (fun F A hI => ?_)
  refine ezw_aload_n rfl rfl ?_
  refine ezw_iconst (0) rfl rfl ?_
  refine ezs_put_i hI rfl rfl rfl rfl rfl (hzA 5 (by decide) (by decide)) ⟨by decide, by decide⟩ (fun F A hI => ?_)
  exact ezw_return rfl rfl ⟨⟨F, A, rfl, hI⟩, rfl⟩
theorem ezs_m82_5_1_v5 {F : Nat → Nat → Int} {A : Nat → Int → Int} (hI : ezs_I fz F0 A0 F A) (hd : 1 ≤ d) (hzT : fz 1 = false) : ezw_C l ρ B xa Hb D cA 82 d [ezw_p 5, ezw_p 1, ezw_i (5)] (ezu_g e F A) (ezs_P e fz F0 A0 ezs_rn) := by
  refine ezw_met (k := 2) rfl rfl ?_
  refine ezw_aload_n rfl rfl ?_
  refine ezw_bipush (100) rfl rfl ?_
  refine ezw_call0_1 rfl (by omega) (ezu_at rfl) rfl rfl rfl rfl (ezs_m46_1 hI (by omega) ⟨by decide, by decide⟩) ?_
  rintro _ _ ⟨rfl, u1, hu1, rfl⟩
  have J21_2 : ∀ y2 : Int, ezs_b y2 → ∀ F A, ezs_I fz F0 A0 F A → ezw_E l ρ B xa Hb D cA d ezq_re82 (ezs_P e fz F0 A0 ezs_rn) 21 [some (ezw_p 5), some (ezw_p 1), some (ezw_i (5)), none, none] [(ezw_i y2)] (ezu_g e F A) := by
    intro y2 hy2 F A hI
    refine ezw_istore_n rfl rfl ?_
    refine ezw_iload_n rfl rfl ?_
    have J59_4 : ∀ y4 : Int, ezs_b y4 → ∀ F A, ezs_I fz F0 A0 F A → ezw_E l ρ B xa Hb D cA d ezq_re82 (ezs_P e fz F0 A0 ezs_rn) 59 [some (ezw_p 5), some (ezw_p 1), some (ezw_i (5)), some (ezw_i y2), none] [(ezw_i y4)] (ezu_g e F A) := by
      intro y4 hy4 F A hI
      refine ezw_istore rfl rfl ?_
      refine ezw_iload rfl rfl ?_
      refine ezw_if_eq rfl rfl ⟨by omega, by omega⟩ (fun h63_5 => ?_) (fun h63_5 => ?_)
      · refine ezw_aload_n rfl rfl ?_
        refine ezw_iload rfl rfl ?_
        refine ezw_if_eq rfl rfl ⟨by omega, by omega⟩ (fun h74_5 => ?_) (fun h74_5 => ?_)
        · refine ezw_iconst (1) rfl rfl ?_
          refine ezw_call0_1 rfl (by omega) (ezu_at rfl) rfl rfl rfl rfl (ezs_m50_1 hI (by omega) hzT ⟨by decide, by decide⟩) ?_
          rintro _ _ ⟨⟨F, A, rfl, hI⟩, rfl⟩
          refine ezw_goto rfl rfl ?_
          exact ezw_return rfl rfl ⟨⟨F, A, rfl, hI⟩, rfl⟩
        · refine ezw_iconst (5) rfl rfl ?_
          refine ezw_goto rfl rfl ?_
          refine ezw_call0_1 rfl (by omega) (ezu_at rfl) rfl rfl rfl rfl (ezs_m50_1 hI (by omega) hzT ⟨by decide, by decide⟩) ?_
          rintro _ _ ⟨⟨F, A, rfl, hI⟩, rfl⟩
          refine ezw_goto rfl rfl ?_
          exact ezw_return rfl rfl ⟨⟨F, A, rfl, hI⟩, rfl⟩
      · refine ezw_iload_n rfl rfl ?_
        refine ezw_iconst (5) rfl rfl ?_
        refine ezw_icmp_lt rfl rfl ⟨by decide, by decide⟩ ⟨by decide, by decide⟩ (fun h68_5 => absurd h68_5 (by omega)) (fun h68_5 => ?_)
        refine ezw_aload_n rfl rfl ?_
        refine ezw_iload rfl rfl ?_
        refine ezw_if_eq rfl rfl ⟨by omega, by omega⟩ (fun h74_5 => ?_) (fun h74_5 => ?_)
        · refine ezw_iconst (1) rfl rfl ?_
          refine ezw_call0_1 rfl (by omega) (ezu_at rfl) rfl rfl rfl rfl (ezs_m50_1 hI (by omega) hzT ⟨by decide, by decide⟩) ?_
          rintro _ _ ⟨⟨F, A, rfl, hI⟩, rfl⟩
          refine ezw_goto rfl rfl ?_
          exact ezw_return rfl rfl ⟨⟨F, A, rfl, hI⟩, rfl⟩
        · refine ezw_iconst (5) rfl rfl ?_
          refine ezw_goto rfl rfl ?_
          refine ezw_call0_1 rfl (by omega) (ezu_at rfl) rfl rfl rfl rfl (ezs_m50_1 hI (by omega) hzT ⟨by decide, by decide⟩) ?_
          rintro _ _ ⟨⟨F, A, rfl, hI⟩, rfl⟩
          refine ezw_goto rfl rfl ?_
          exact ezw_return rfl rfl ⟨⟨F, A, rfl, hI⟩, rfl⟩
    refine ezw_if_ne rfl rfl ⟨by omega, by omega⟩ (fun h23_3 => ?_) (fun h23_3 => ?_)
    · refine ezw_iconst (1) rfl rfl ?_
      refine ezw_goto rfl rfl ?_
      exact ezw_keepE [true, true, true, true, false] (J59_4 (1) ⟨by omega, by omega⟩ F A hI)
    · refine ezw_aload_n rfl rfl ?_
      refine ezw_bipush (101) rfl rfl ?_
      refine ezw_call0_1 rfl (by omega) (ezu_at rfl) rfl rfl rfl rfl (ezs_m46_1 hI (by omega) ⟨by decide, by decide⟩) ?_
      rintro _ _ ⟨rfl, u6, hu6, rfl⟩
      refine ezw_if_ne rfl rfl ⟨by omega, by omega⟩ (fun h32_6 => ?_) (fun h32_6 => ?_)
      · refine ezw_iconst (1) rfl rfl ?_
        refine ezw_goto rfl rfl ?_
        exact ezw_keepE [true, true, true, true, false] (J59_4 (1) ⟨by omega, by omega⟩ F A hI)
      · refine ezw_aload_n rfl rfl ?_
        refine ezw_bipush (41) rfl rfl ?_
        refine ezw_call0_1 rfl (by omega) (ezu_at rfl) rfl rfl rfl rfl (ezs_m46_1 hI (by omega) ⟨by decide, by decide⟩) ?_
        rintro _ _ ⟨rfl, u7, hu7, rfl⟩
        refine ezw_if_ne rfl rfl ⟨by omega, by omega⟩ (fun h41_7 => ?_) (fun h41_7 => ?_)
        · refine ezw_iconst (1) rfl rfl ?_
          refine ezw_goto rfl rfl ?_
          exact ezw_keepE [true, true, true, true, false] (J59_4 (1) ⟨by omega, by omega⟩ F A hI)
        · refine ezw_aload_n rfl rfl ?_
          refine ezw_sipush (240) rfl rfl ?_
          refine ezw_call0_1 rfl (by omega) (ezu_at rfl) rfl rfl rfl rfl (ezs_m46_1 hI (by omega) ⟨by decide, by decide⟩) ?_
          rintro _ _ ⟨rfl, u8, hu8, rfl⟩
          refine ezw_if_eq rfl rfl ⟨by omega, by omega⟩ (fun h51_8 => ?_) (fun h51_8 => ?_)
          · refine ezw_iconst (0) rfl rfl ?_
            exact ezw_keepE [true, true, true, true, false] (J59_4 (0) ⟨by omega, by omega⟩ F A hI)
          · refine ezw_iconst (1) rfl rfl ?_
            refine ezw_goto rfl rfl ?_
            exact ezw_keepE [true, true, true, true, false] (J59_4 (1) ⟨by omega, by omega⟩ F A hI)
  refine ezw_if_eq rfl rfl ⟨by omega, by omega⟩ (fun h6_1 => ?_) (fun h6_1 => ?_)
  · refine ezw_iconst (0) rfl rfl ?_
    exact ezw_keepE [true, true, true, false, false] (J21_2 (0) ⟨by omega, by omega⟩ F A hI)
  · refine ezw_aload_n rfl rfl ?_
    refine ezs_get_i hI rfl rfl rfl rfl rfl rfl (fun u9 hu9 ku9 => ?_)
    refine ezw_if_lt rfl rfl hu9 (fun h13_9 => ?_) (fun h13_9 => ?_)
    · refine ezw_iconst (0) rfl rfl ?_
      exact ezw_keepE [true, true, true, false, false] (J21_2 (0) ⟨by omega, by omega⟩ F A hI)
    · refine ezw_iconst (1) rfl rfl ?_
      refine ezw_goto rfl rfl ?_
      exact ezw_keepE [true, true, true, false, false] (J21_2 (1) ⟨by omega, by omega⟩ F A hI)
theorem ezs_m81_5_1_v4_v5 {F : Nat → Nat → Int} {A : Nat → Int → Int} (hI : ezs_I fz F0 A0 F A) (hd : 2 ≤ d) (hzT : fz 1 = false) : ezw_C l ρ B xa Hb D cA 81 d [ezw_p 5, ezw_p 1, ezw_i (4), ezw_i (5)] (ezu_g e F A) (ezs_P e fz F0 A0 ezs_rn) := by
  refine ezw_met (k := 2) rfl rfl ?_
  refine ezw_iload_n rfl rfl ?_
  refine ezw_iconst (4) rfl rfl ?_
  refine ezw_icmp_lt rfl rfl ⟨by decide, by decide⟩ ⟨by decide, by decide⟩ (fun h2_0 => absurd h2_0 (by omega)) (fun h2_0 => ?_)
  refine ezw_aload_n rfl rfl ?_
  refine ezw_aload_n rfl rfl ?_
  refine ezw_iload_n rfl rfl ?_
  refine ezw_call0_2 rfl (by omega) (ezu_at rfl) rfl rfl rfl rfl (ezs_m82_5_1_v5 hI (by omega) hzT) ?_
  rintro _ _ ⟨⟨F, A, rfl, hI⟩, rfl⟩
  exact ezw_return rfl rfl ⟨⟨F, A, rfl, hI⟩, rfl⟩
theorem ezs_m84 {a0 a1 : Int} {F : Nat → Nat → Int} {A : Nat → Int → Int} (hI : ezs_I fz F0 A0 F A) (hd : 0 ≤ d) (ha0 : ezw_in a0) (ha1 : ezw_in a1) : ezw_C l ρ B xa Hb D cA 84 d [ezw_i a0, ezw_i a1] (ezu_g e F A) (ezs_Pp e F A ezs_ri) := by
  refine ezw_met (k := 0) rfl rfl ?_
  refine ezw_iload_n rfl rfl ?_
  by_cases q1 : a1 = (0)
  · refine ezw_tableswitchE (v := 0) (p := 32) q1 rfl (by rfl) ?_
    refine ezw_iload_n rfl rfl ?_
    refine ezw_bipush (42) rfl rfl ?_
    refine ezw_icmp_ne rfl rfl ha0 ⟨by decide, by decide⟩ (fun h35_1 => ?_) (fun h35_1 => ?_)
    · refine ezw_iload_n rfl rfl ?_
      refine ezw_bipush (43) rfl rfl ?_
      refine ezw_icmp_ne rfl rfl ha0 ⟨by decide, by decide⟩ (fun h46_1 => ?_) (fun h46_1 => ?_)
      · refine ezw_iconst (0) rfl rfl ?_
        exact ezw_ireturn rfl rfl ⟨rfl, _, ⟨by decide, by decide⟩, rfl⟩
      · refine ezw_bipush (-7) rfl rfl ?_
        refine ezw_goto rfl rfl ?_
        exact ezw_ireturn rfl rfl ⟨rfl, _, ⟨by decide, by decide⟩, rfl⟩
    · refine ezw_bipush (-6) rfl rfl ?_
      refine ezw_goto rfl rfl ?_
      exact ezw_ireturn rfl rfl ⟨rfl, _, ⟨by decide, by decide⟩, rfl⟩
  by_cases q2 : a1 = (1)
  · refine ezw_tableswitchE (v := 1) (p := 56) q2 rfl (by rfl) ?_
    refine ezw_iload_n rfl rfl ?_
    refine ezw_sipush (260) rfl rfl ?_
    refine ezw_icmp_ne rfl rfl ha0 ⟨by decide, by decide⟩ (fun h60_2 => ?_) (fun h60_2 => ?_)
    · refine ezw_iload_n rfl rfl ?_
      refine ezw_sipush (261) rfl rfl ?_
      refine ezw_icmp_ne rfl rfl ha0 ⟨by decide, by decide⟩ (fun h72_2 => ?_) (fun h72_2 => ?_)
      · refine ezw_iconst (0) rfl rfl ?_
        exact ezw_ireturn rfl rfl ⟨rfl, _, ⟨by decide, by decide⟩, rfl⟩
      · refine ezw_bipush (-9) rfl rfl ?_
        refine ezw_goto rfl rfl ?_
        exact ezw_ireturn rfl rfl ⟨rfl, _, ⟨by decide, by decide⟩, rfl⟩
    · refine ezw_bipush (-8) rfl rfl ?_
      refine ezw_goto rfl rfl ?_
      exact ezw_ireturn rfl rfl ⟨rfl, _, ⟨by decide, by decide⟩, rfl⟩
  by_cases q3 : a1 = (2)
  · refine ezw_tableswitchE (v := 2) (p := 82) q3 rfl (by rfl) ?_
    refine ezw_iload_n rfl rfl ?_
    refine ezw_sipush (243) rfl rfl ?_
    refine ezw_icmp_ne rfl rfl ha0 ⟨by decide, by decide⟩ (fun h86_3 => ?_) (fun h86_3 => ?_)
    · refine ezw_iload_n rfl rfl ?_
      refine ezw_sipush (245) rfl rfl ?_
      refine ezw_icmp_ne rfl rfl ha0 ⟨by decide, by decide⟩ (fun h98_3 => ?_) (fun h98_3 => ?_)
      · refine ezw_iconst (0) rfl rfl ?_
        exact ezw_ireturn rfl rfl ⟨rfl, _, ⟨by decide, by decide⟩, rfl⟩
      · refine ezw_bipush (-11) rfl rfl ?_
        refine ezw_goto rfl rfl ?_
        exact ezw_ireturn rfl rfl ⟨rfl, _, ⟨by decide, by decide⟩, rfl⟩
    · refine ezw_bipush (-10) rfl rfl ?_
      refine ezw_goto rfl rfl ?_
      exact ezw_ireturn rfl rfl ⟨rfl, _, ⟨by decide, by decide⟩, rfl⟩
  by_cases q4 : a1 = (3)
  · refine ezw_tableswitchE (v := 3) (p := 108) q4 rfl (by rfl) ?_
    refine ezw_iload_n rfl rfl ?_
    refine ezw_sipush (242) rfl rfl ?_
    refine ezw_icmp_ne rfl rfl ha0 ⟨by decide, by decide⟩ (fun h112_4 => ?_) (fun h112_4 => ?_)
    · refine ezw_iconst (0) rfl rfl ?_
      exact ezw_ireturn rfl rfl ⟨rfl, _, ⟨by decide, by decide⟩, rfl⟩
    · refine ezw_bipush (-12) rfl rfl ?_
      refine ezw_goto rfl rfl ?_
      exact ezw_ireturn rfl rfl ⟨rfl, _, ⟨by decide, by decide⟩, rfl⟩
  refine ezw_tableswitch (p := 122) rfl (ezs_swd ha1 (And.intro (And.intro ⟨by decide, by decide⟩ (fun z => q1 z.symm)) (And.intro (And.intro ⟨by decide, by decide⟩ (fun z => q2 z.symm)) (And.intro (And.intro ⟨by decide, by decide⟩ (fun z => q3 z.symm)) (And.intro (And.intro ⟨by decide, by decide⟩ (fun z => q4 z.symm)) True.intro)))) rfl) ?_
  refine ezw_iconst (0) rfl rfl ?_
  exact ezw_ireturn rfl rfl ⟨rfl, _, ⟨by decide, by decide⟩, rfl⟩
theorem ezs_m21_6 {a1 a2 : Int} {F : Nat → Nat → Int} {A : Nat → Int → Int} (hI : ezs_I fz F0 A0 F A) (hd : 0 ≤ d) (hzA : ∀ q, 4 ≤ q → q < 72 → fz q = false) (ha1 : ezw_in a1) (ha2 : ezw_in a2) : ezw_C l ρ B xa Hb D cA 21 d [ezw_p 6, ezw_i a1, ezw_i a2] (ezu_g e F A) (ezs_P e fz F0 A0 ezs_rn) := by
  refine ezw_met (k := 0) rfl rfl ?_
  refine ezw_aload_n rfl rfl ?_
  refine ezw_ifnull rfl ?_
  refine ezw_iload_n rfl rfl ?_
  refine ezw_if_lt rfl rfl ha1 (fun h5_0 => ?_) (fun h5_0 => ?_)
  · exact ezw_return rfl rfl ⟨⟨F, A, rfl, hI⟩, rfl⟩
  · refine ezw_iload_n rfl rfl ?_
    refine ezw_aload_n rfl rfl ?_
    refine ezs_alen (k := 1000) rfl rfl rfl rfl (by decide) (by decide) ?_
    refine ezw_icmp_ge rfl rfl ha1 ⟨by decide, by decide⟩ (fun h11_0 => ?_) (fun h11_0 => ?_)
    · exact ezw_return rfl rfl ⟨⟨F, A, rfl, hI⟩, rfl⟩
    · refine ezw_aload_n rfl rfl ?_
      refine ezw_iload_n rfl rfl ?_
      refine ezw_iload_n rfl rfl ?_
      refine ezs_iastore hI rfl rfl rfl (by omega) (by omega) (by decide) (hzA 6 (by decide) (by decide)) ha2 (fun F A hI => ?_)
      exact ezw_return rfl rfl ⟨⟨F, A, rfl, hI⟩, rfl⟩
theorem ezs_m83_5 {a1 : Int} {F : Nat → Nat → Int} {A : Nat → Int → Int} (hI : ezs_I fz F0 A0 F A) (hd : 1 ≤ d) (hzA : ∀ q, 4 ≤ q → q < 72 → fz q = false) (ha1 : ezw_in a1) : ezw_C l ρ B xa Hb D cA 83 d [ezw_p 5, ezw_i a1] (ezu_g e F A) (ezs_P e fz F0 A0 ezs_rn) := by
  refine ezw_met (k := 0) rfl rfl ?_
  refine ezw_aload_n rfl rfl ?_
  refine ezs_getp (p := 6) rfl rfl rfl rfl rfl ?_
  refine ezw_aload_n rfl rfl ?_
  refine ezs_get_i hI rfl rfl rfl rfl rfl rfl (fun u1 hu1 ku1 => ?_)
  refine ezw_iload_n rfl rfl ?_
  refine ezw_call3_3 rfl (by omega) rfl rfl (ezs_m21_6 hI (by omega) hzA hu1 ha1) ?_
  rintro _ _ ⟨⟨F, A, rfl, hI⟩, rfl⟩
  refine ezw_aload_n rfl rfl ?_
  refine ezw_dup rfl rfl ?_
  refine ezs_get_i hI rfl rfl rfl rfl rfl rfl (fun u2 hu2 ku2 => ?_)
  refine ezw_iconst (1) rfl rfl ?_
  refine ezs_iadd rfl (fun u3 hu3 => ?_)
  refine ezs_put_i hI rfl rfl rfl rfl rfl (hzA 5 (by decide) (by decide)) hu3 (fun F A hI => ?_)
  exact ezw_return rfl rfl ⟨⟨F, A, rfl, hI⟩, rfl⟩
theorem ezs_m81_5_1_v3_v5 {F : Nat → Nat → Int} {A : Nat → Int → Int} (hI : ezs_I fz F0 A0 F A) (hd : 5 ≤ d) (hzA : ∀ q, 4 ≤ q → q < 72 → fz q = false) (hzT : fz 1 = false) : ezw_C l ρ B xa Hb D cA 81 d [ezw_p 5, ezw_p 1, ezw_i (3), ezw_i (5)] (ezu_g e F A) (ezs_P e fz F0 A0 ezs_rn) := by
  refine ezw_met (k := 2) rfl rfl ?_
  refine ezw_iload_n rfl rfl ?_
  refine ezw_iconst (4) rfl rfl ?_
  refine ezw_icmp_lt rfl rfl ⟨by decide, by decide⟩ ⟨by decide, by decide⟩ (fun h2_0 => ?_) (fun h2_0 => absurd h2_0 (by omega))
  refine ezw_aload_n rfl rfl ?_
  refine ezw_aload_n rfl rfl ?_
  refine ezw_iload_n rfl rfl ?_
  refine ezw_iconst (1) rfl rfl ?_
  refine ezw_iadd (k := (4)) rfl rfl ?_
  refine ezw_iload_n rfl rfl ?_
  refine ezw_call0_3 rfl (by omega) (ezu_at rfl) rfl rfl rfl rfl (ezs_m81_5_1_v4_v5 hI (by omega) hzT) ?_
  rintro _ _ ⟨⟨F, A, rfl, hI⟩, rfl⟩
  refine ezw_iconst (0) rfl rfl ?_
  refine ezw_istore rfl rfl ?_
  have L24_1 : ∀ c1 : Int, ezw_in c1 → (0) ≤ c1 → ∀ F A, ezs_I fz F0 A0 F A → ezw_E l ρ B xa Hb D cA d ezq_re81 (ezs_P e fz F0 A0 ezs_rn) 24 [some (ezw_p 5), some (ezw_p 1), some (ezw_i (3)), some (ezw_i (5)), some (ezw_i c1), none] [] (ezu_g e F A) := by
    refine ezs_up ?_
    intro c1 hc1 ihc1 gc1 F A hI
    refine ezw_iload rfl rfl ?_
    refine ezw_sipush (1000) rfl rfl ?_
    refine ezw_icmp_ge rfl rfl hc1 ⟨by decide, by decide⟩ (fun h29_2 => ?_) (fun h29_2 => ?_)
    · exact ezw_return rfl rfl ⟨⟨F, A, rfl, hI⟩, rfl⟩
    · refine ezw_aload_n rfl rfl ?_
      refine ezw_call0_0 rfl (by omega) (ezu_at rfl) rfl rfl rfl rfl (ezs_m45_1 hI (by omega)) ?_
      rintro _ _ ⟨rfl, u3, hu3, rfl⟩
      refine ezw_if_eq rfl rfl ⟨by omega, by omega⟩ (fun h36_3 => ?_) (fun h36_3 => ?_)
      · exact ezw_return rfl rfl ⟨⟨F, A, rfl, hI⟩, rfl⟩
      · refine ezw_aload_n rfl rfl ?_
        refine ezs_get_i hI rfl rfl rfl rfl rfl rfl (fun u4 hu4 ku4 => ?_)
        refine ezw_iload_n rfl rfl ?_
        refine ezw_call2_2 rfl (by omega) rfl rfl (ezs_m84 hI (by omega) hu4 ⟨by decide, by decide⟩) ?_
        rintro _ _ ⟨rfl, u5, hu5, rfl⟩
        refine ezw_istore rfl rfl ?_
        refine ezw_iload rfl rfl ?_
        refine ezw_if_ne rfl rfl hu5 (fun h51_5 => ?_) (fun h51_5 => ?_)
        · refine ezw_aload_n rfl rfl ?_
          refine ezw_call0_0 rfl (by omega) (ezu_at rfl) rfl rfl rfl rfl (ezs_m30_1 hI (by omega) hzT) ?_
          rintro _ _ ⟨⟨F, A, rfl, hI⟩, rfl⟩
          refine ezw_aload_n rfl rfl ?_
          refine ezw_aload_n rfl rfl ?_
          refine ezw_iload_n rfl rfl ?_
          refine ezw_iconst (1) rfl rfl ?_
          refine ezw_iadd (k := (4)) rfl rfl ?_
          refine ezw_iload_n rfl rfl ?_
          refine ezw_call0_3 rfl (by omega) (ezu_at rfl) rfl rfl rfl rfl (ezs_m81_5_1_v4_v5 hI (by omega) hzT) ?_
          rintro _ _ ⟨⟨F, A, rfl, hI⟩, rfl⟩
          refine ezw_aload_n rfl rfl ?_
          refine ezw_iload rfl rfl ?_
          refine ezw_call0_1 rfl (by omega) (ezu_at rfl) rfl rfl rfl rfl (ezs_m83_5 hI (by omega) hzA hu5) ?_
          rintro _ _ ⟨⟨F, A, rfl, hI⟩, rfl⟩
          refine ezw_iload_n rfl rfl ?_
          refine ezw_iconst (1) rfl rfl ?_
          refine ezw_icmp_ne rfl rfl ⟨by decide, by decide⟩ ⟨by decide, by decide⟩ (fun h76_5 => ?_) (fun h76_5 => absurd h76_5 (by omega))
          refine ezw_iinc (1) rfl rfl rfl rfl rfl ?_
          refine ezw_goto rfl rfl ?_
          exact ezw_keepE [true, true, true, true, true, false] (ihc1 (c1 + (1)) (by omega) ⟨by omega, by omega⟩ (by omega)  F A hI)
        · exact ezw_return rfl rfl ⟨⟨F, A, rfl, hI⟩, rfl⟩
  exact ezw_keepE [true, true, true, true, true, false] (L24_1 (0) ⟨by decide, by decide⟩ (by omega)  F A hI)
theorem ezs_m81_5_1_v2_v5 {F : Nat → Nat → Int} {A : Nat → Int → Int} (hI : ezs_I fz F0 A0 F A) (hd : 6 ≤ d) (hzA : ∀ q, 4 ≤ q → q < 72 → fz q = false) (hzT : fz 1 = false) : ezw_C l ρ B xa Hb D cA 81 d [ezw_p 5, ezw_p 1, ezw_i (2), ezw_i (5)] (ezu_g e F A) (ezs_P e fz F0 A0 ezs_rn) := by
  refine ezw_met (k := 2) rfl rfl ?_
  refine ezw_iload_n rfl rfl ?_
  refine ezw_iconst (4) rfl rfl ?_
  refine ezw_icmp_lt rfl rfl ⟨by decide, by decide⟩ ⟨by decide, by decide⟩ (fun h2_0 => ?_) (fun h2_0 => absurd h2_0 (by omega))
  refine ezw_aload_n rfl rfl ?_
  refine ezw_aload_n rfl rfl ?_
  refine ezw_iload_n rfl rfl ?_
  refine ezw_iconst (1) rfl rfl ?_
  refine ezw_iadd (k := (3)) rfl rfl ?_
  refine ezw_iload_n rfl rfl ?_
  refine ezw_call0_3 rfl (by omega) (ezu_at rfl) rfl rfl rfl rfl (ezs_m81_5_1_v3_v5 hI (by omega) hzA hzT) ?_
  rintro _ _ ⟨⟨F, A, rfl, hI⟩, rfl⟩
  refine ezw_iconst (0) rfl rfl ?_
  refine ezw_istore rfl rfl ?_
  have L24_1 : ∀ c1 : Int, ezw_in c1 → (0) ≤ c1 → ∀ F A, ezs_I fz F0 A0 F A → ezw_E l ρ B xa Hb D cA d ezq_re81 (ezs_P e fz F0 A0 ezs_rn) 24 [some (ezw_p 5), some (ezw_p 1), some (ezw_i (2)), some (ezw_i (5)), some (ezw_i c1), none] [] (ezu_g e F A) := by
    refine ezs_up ?_
    intro c1 hc1 ihc1 gc1 F A hI
    refine ezw_iload rfl rfl ?_
    refine ezw_sipush (1000) rfl rfl ?_
    refine ezw_icmp_ge rfl rfl hc1 ⟨by decide, by decide⟩ (fun h29_2 => ?_) (fun h29_2 => ?_)
    · exact ezw_return rfl rfl ⟨⟨F, A, rfl, hI⟩, rfl⟩
    · refine ezw_aload_n rfl rfl ?_
      refine ezw_call0_0 rfl (by omega) (ezu_at rfl) rfl rfl rfl rfl (ezs_m45_1 hI (by omega)) ?_
      rintro _ _ ⟨rfl, u3, hu3, rfl⟩
      refine ezw_if_eq rfl rfl ⟨by omega, by omega⟩ (fun h36_3 => ?_) (fun h36_3 => ?_)
      · exact ezw_return rfl rfl ⟨⟨F, A, rfl, hI⟩, rfl⟩
      · refine ezw_aload_n rfl rfl ?_
        refine ezs_get_i hI rfl rfl rfl rfl rfl rfl (fun u4 hu4 ku4 => ?_)
        refine ezw_iload_n rfl rfl ?_
        refine ezw_call2_2 rfl (by omega) rfl rfl (ezs_m84 hI (by omega) hu4 ⟨by decide, by decide⟩) ?_
        rintro _ _ ⟨rfl, u5, hu5, rfl⟩
        refine ezw_istore rfl rfl ?_
        refine ezw_iload rfl rfl ?_
        refine ezw_if_ne rfl rfl hu5 (fun h51_5 => ?_) (fun h51_5 => ?_)
        · refine ezw_aload_n rfl rfl ?_
          refine ezw_call0_0 rfl (by omega) (ezu_at rfl) rfl rfl rfl rfl (ezs_m30_1 hI (by omega) hzT) ?_
          rintro _ _ ⟨⟨F, A, rfl, hI⟩, rfl⟩
          refine ezw_aload_n rfl rfl ?_
          refine ezw_aload_n rfl rfl ?_
          refine ezw_iload_n rfl rfl ?_
          refine ezw_iconst (1) rfl rfl ?_
          refine ezw_iadd (k := (3)) rfl rfl ?_
          refine ezw_iload_n rfl rfl ?_
          refine ezw_call0_3 rfl (by omega) (ezu_at rfl) rfl rfl rfl rfl (ezs_m81_5_1_v3_v5 hI (by omega) hzA hzT) ?_
          rintro _ _ ⟨⟨F, A, rfl, hI⟩, rfl⟩
          refine ezw_aload_n rfl rfl ?_
          refine ezw_iload rfl rfl ?_
          refine ezw_call0_1 rfl (by omega) (ezu_at rfl) rfl rfl rfl rfl (ezs_m83_5 hI (by omega) hzA hu5) ?_
          rintro _ _ ⟨⟨F, A, rfl, hI⟩, rfl⟩
          refine ezw_iload_n rfl rfl ?_
          refine ezw_iconst (1) rfl rfl ?_
          refine ezw_icmp_ne rfl rfl ⟨by decide, by decide⟩ ⟨by decide, by decide⟩ (fun h76_5 => ?_) (fun h76_5 => absurd h76_5 (by omega))
          refine ezw_iinc (1) rfl rfl rfl rfl rfl ?_
          refine ezw_goto rfl rfl ?_
          exact ezw_keepE [true, true, true, true, true, false] (ihc1 (c1 + (1)) (by omega) ⟨by omega, by omega⟩ (by omega)  F A hI)
        · exact ezw_return rfl rfl ⟨⟨F, A, rfl, hI⟩, rfl⟩
  exact ezw_keepE [true, true, true, true, true, false] (L24_1 (0) ⟨by decide, by decide⟩ (by omega)  F A hI)
theorem ezs_m81_5_1_v1_v5 {F : Nat → Nat → Int} {A : Nat → Int → Int} (hI : ezs_I fz F0 A0 F A) (hd : 7 ≤ d) (hzA : ∀ q, 4 ≤ q → q < 72 → fz q = false) (hzT : fz 1 = false) : ezw_C l ρ B xa Hb D cA 81 d [ezw_p 5, ezw_p 1, ezw_i (1), ezw_i (5)] (ezu_g e F A) (ezs_P e fz F0 A0 ezs_rn) := by
  refine ezw_met (k := 2) rfl rfl ?_
  refine ezw_iload_n rfl rfl ?_
  refine ezw_iconst (4) rfl rfl ?_
  refine ezw_icmp_lt rfl rfl ⟨by decide, by decide⟩ ⟨by decide, by decide⟩ (fun h2_0 => ?_) (fun h2_0 => absurd h2_0 (by omega))
  refine ezw_aload_n rfl rfl ?_
  refine ezw_aload_n rfl rfl ?_
  refine ezw_iload_n rfl rfl ?_
  refine ezw_iconst (1) rfl rfl ?_
  refine ezw_iadd (k := (2)) rfl rfl ?_
  refine ezw_iload_n rfl rfl ?_
  refine ezw_call0_3 rfl (by omega) (ezu_at rfl) rfl rfl rfl rfl (ezs_m81_5_1_v2_v5 hI (by omega) hzA hzT) ?_
  rintro _ _ ⟨⟨F, A, rfl, hI⟩, rfl⟩
  refine ezw_iconst (0) rfl rfl ?_
  refine ezw_istore rfl rfl ?_
  have L24_1 : ∀ c1 : Int, ezw_in c1 → (0) ≤ c1 → ∀ F A, ezs_I fz F0 A0 F A → ezw_E l ρ B xa Hb D cA d ezq_re81 (ezs_P e fz F0 A0 ezs_rn) 24 [some (ezw_p 5), some (ezw_p 1), some (ezw_i (1)), some (ezw_i (5)), some (ezw_i c1), none] [] (ezu_g e F A) := by
    refine ezs_up ?_
    intro c1 hc1 ihc1 gc1 F A hI
    refine ezw_iload rfl rfl ?_
    refine ezw_sipush (1000) rfl rfl ?_
    refine ezw_icmp_ge rfl rfl hc1 ⟨by decide, by decide⟩ (fun h29_2 => ?_) (fun h29_2 => ?_)
    · exact ezw_return rfl rfl ⟨⟨F, A, rfl, hI⟩, rfl⟩
    · refine ezw_aload_n rfl rfl ?_
      refine ezw_call0_0 rfl (by omega) (ezu_at rfl) rfl rfl rfl rfl (ezs_m45_1 hI (by omega)) ?_
      rintro _ _ ⟨rfl, u3, hu3, rfl⟩
      refine ezw_if_eq rfl rfl ⟨by omega, by omega⟩ (fun h36_3 => ?_) (fun h36_3 => ?_)
      · exact ezw_return rfl rfl ⟨⟨F, A, rfl, hI⟩, rfl⟩
      · refine ezw_aload_n rfl rfl ?_
        refine ezs_get_i hI rfl rfl rfl rfl rfl rfl (fun u4 hu4 ku4 => ?_)
        refine ezw_iload_n rfl rfl ?_
        refine ezw_call2_2 rfl (by omega) rfl rfl (ezs_m84 hI (by omega) hu4 ⟨by decide, by decide⟩) ?_
        rintro _ _ ⟨rfl, u5, hu5, rfl⟩
        refine ezw_istore rfl rfl ?_
        refine ezw_iload rfl rfl ?_
        refine ezw_if_ne rfl rfl hu5 (fun h51_5 => ?_) (fun h51_5 => ?_)
        · refine ezw_aload_n rfl rfl ?_
          refine ezw_call0_0 rfl (by omega) (ezu_at rfl) rfl rfl rfl rfl (ezs_m30_1 hI (by omega) hzT) ?_
          rintro _ _ ⟨⟨F, A, rfl, hI⟩, rfl⟩
          refine ezw_aload_n rfl rfl ?_
          refine ezw_aload_n rfl rfl ?_
          refine ezw_iload_n rfl rfl ?_
          refine ezw_iconst (1) rfl rfl ?_
          refine ezw_iadd (k := (2)) rfl rfl ?_
          refine ezw_iload_n rfl rfl ?_
          refine ezw_call0_3 rfl (by omega) (ezu_at rfl) rfl rfl rfl rfl (ezs_m81_5_1_v2_v5 hI (by omega) hzA hzT) ?_
          rintro _ _ ⟨⟨F, A, rfl, hI⟩, rfl⟩
          refine ezw_aload_n rfl rfl ?_
          refine ezw_iload rfl rfl ?_
          refine ezw_call0_1 rfl (by omega) (ezu_at rfl) rfl rfl rfl rfl (ezs_m83_5 hI (by omega) hzA hu5) ?_
          rintro _ _ ⟨⟨F, A, rfl, hI⟩, rfl⟩
          refine ezw_iload_n rfl rfl ?_
          refine ezw_iconst (1) rfl rfl ?_
          refine ezw_icmp_ne rfl rfl ⟨by decide, by decide⟩ ⟨by decide, by decide⟩ (fun h76_5 => absurd h76_5 (by omega)) (fun h76_5 => ?_)
          exact ezw_return rfl rfl ⟨⟨F, A, rfl, hI⟩, rfl⟩
        · exact ezw_return rfl rfl ⟨⟨F, A, rfl, hI⟩, rfl⟩
  exact ezw_keepE [true, true, true, true, true, false] (L24_1 (0) ⟨by decide, by decide⟩ (by omega)  F A hI)
theorem ezs_m81_5_1_v0_v5 {F : Nat → Nat → Int} {A : Nat → Int → Int} (hI : ezs_I fz F0 A0 F A) (hd : 8 ≤ d) (hzA : ∀ q, 4 ≤ q → q < 72 → fz q = false) (hzT : fz 1 = false) : ezw_C l ρ B xa Hb D cA 81 d [ezw_p 5, ezw_p 1, ezw_i (0), ezw_i (5)] (ezu_g e F A) (ezs_P e fz F0 A0 ezs_rn) := by
  refine ezw_met (k := 2) rfl rfl ?_
  refine ezw_iload_n rfl rfl ?_
  refine ezw_iconst (4) rfl rfl ?_
  refine ezw_icmp_lt rfl rfl ⟨by decide, by decide⟩ ⟨by decide, by decide⟩ (fun h2_0 => ?_) (fun h2_0 => absurd h2_0 (by omega))
  refine ezw_aload_n rfl rfl ?_
  refine ezw_aload_n rfl rfl ?_
  refine ezw_iload_n rfl rfl ?_
  refine ezw_iconst (1) rfl rfl ?_
  refine ezw_iadd (k := (1)) rfl rfl ?_
  refine ezw_iload_n rfl rfl ?_
  refine ezw_call0_3 rfl (by omega) (ezu_at rfl) rfl rfl rfl rfl (ezs_m81_5_1_v1_v5 hI (by omega) hzA hzT) ?_
  rintro _ _ ⟨⟨F, A, rfl, hI⟩, rfl⟩
  refine ezw_iconst (0) rfl rfl ?_
  refine ezw_istore rfl rfl ?_
  have L24_1 : ∀ c1 : Int, ezw_in c1 → (0) ≤ c1 → ∀ F A, ezs_I fz F0 A0 F A → ezw_E l ρ B xa Hb D cA d ezq_re81 (ezs_P e fz F0 A0 ezs_rn) 24 [some (ezw_p 5), some (ezw_p 1), some (ezw_i (0)), some (ezw_i (5)), some (ezw_i c1), none] [] (ezu_g e F A) := by
    refine ezs_up ?_
    intro c1 hc1 ihc1 gc1 F A hI
    refine ezw_iload rfl rfl ?_
    refine ezw_sipush (1000) rfl rfl ?_
    refine ezw_icmp_ge rfl rfl hc1 ⟨by decide, by decide⟩ (fun h29_2 => ?_) (fun h29_2 => ?_)
    · exact ezw_return rfl rfl ⟨⟨F, A, rfl, hI⟩, rfl⟩
    · refine ezw_aload_n rfl rfl ?_
      refine ezw_call0_0 rfl (by omega) (ezu_at rfl) rfl rfl rfl rfl (ezs_m45_1 hI (by omega)) ?_
      rintro _ _ ⟨rfl, u3, hu3, rfl⟩
      refine ezw_if_eq rfl rfl ⟨by omega, by omega⟩ (fun h36_3 => ?_) (fun h36_3 => ?_)
      · exact ezw_return rfl rfl ⟨⟨F, A, rfl, hI⟩, rfl⟩
      · refine ezw_aload_n rfl rfl ?_
        refine ezs_get_i hI rfl rfl rfl rfl rfl rfl (fun u4 hu4 ku4 => ?_)
        refine ezw_iload_n rfl rfl ?_
        refine ezw_call2_2 rfl (by omega) rfl rfl (ezs_m84 hI (by omega) hu4 ⟨by decide, by decide⟩) ?_
        rintro _ _ ⟨rfl, u5, hu5, rfl⟩
        refine ezw_istore rfl rfl ?_
        refine ezw_iload rfl rfl ?_
        refine ezw_if_ne rfl rfl hu5 (fun h51_5 => ?_) (fun h51_5 => ?_)
        · refine ezw_aload_n rfl rfl ?_
          refine ezw_call0_0 rfl (by omega) (ezu_at rfl) rfl rfl rfl rfl (ezs_m30_1 hI (by omega) hzT) ?_
          rintro _ _ ⟨⟨F, A, rfl, hI⟩, rfl⟩
          refine ezw_aload_n rfl rfl ?_
          refine ezw_aload_n rfl rfl ?_
          refine ezw_iload_n rfl rfl ?_
          refine ezw_iconst (1) rfl rfl ?_
          refine ezw_iadd (k := (1)) rfl rfl ?_
          refine ezw_iload_n rfl rfl ?_
          refine ezw_call0_3 rfl (by omega) (ezu_at rfl) rfl rfl rfl rfl (ezs_m81_5_1_v1_v5 hI (by omega) hzA hzT) ?_
          rintro _ _ ⟨⟨F, A, rfl, hI⟩, rfl⟩
          refine ezw_aload_n rfl rfl ?_
          refine ezw_iload rfl rfl ?_
          refine ezw_call0_1 rfl (by omega) (ezu_at rfl) rfl rfl rfl rfl (ezs_m83_5 hI (by omega) hzA hu5) ?_
          rintro _ _ ⟨⟨F, A, rfl, hI⟩, rfl⟩
          refine ezw_iload_n rfl rfl ?_
          refine ezw_iconst (1) rfl rfl ?_
          refine ezw_icmp_ne rfl rfl ⟨by decide, by decide⟩ ⟨by decide, by decide⟩ (fun h76_5 => ?_) (fun h76_5 => absurd h76_5 (by omega))
          refine ezw_iinc (1) rfl rfl rfl rfl rfl ?_
          refine ezw_goto rfl rfl ?_
          exact ezw_keepE [true, true, true, true, true, false] (ihc1 (c1 + (1)) (by omega) ⟨by omega, by omega⟩ (by omega)  F A hI)
        · exact ezw_return rfl rfl ⟨⟨F, A, rfl, hI⟩, rfl⟩
  exact ezw_keepE [true, true, true, true, true, false] (L24_1 (0) ⟨by decide, by decide⟩ (by omega)  F A hI)
theorem ezs_m82_5_1_v4 {F : Nat → Nat → Int} {A : Nat → Int → Int} (hI : ezs_I fz F0 A0 F A) (hd : 9 ≤ d) (hzA : ∀ q, 4 ≤ q → q < 72 → fz q = false) (hzT : fz 1 = false) : ezw_C l ρ B xa Hb D cA 82 d [ezw_p 5, ezw_p 1, ezw_i (4)] (ezu_g e F A) (ezs_P e fz F0 A0 ezs_rn) := by
  refine ezw_met (k := 2) rfl rfl ?_
  refine ezw_aload_n rfl rfl ?_
  refine ezw_bipush (100) rfl rfl ?_
  refine ezw_call0_1 rfl (by omega) (ezu_at rfl) rfl rfl rfl rfl (ezs_m46_1 hI (by omega) ⟨by decide, by decide⟩) ?_
  rintro _ _ ⟨rfl, u1, hu1, rfl⟩
  have J21_2 : ∀ y2 : Int, ezs_b y2 → ∀ F A, ezs_I fz F0 A0 F A → ezw_E l ρ B xa Hb D cA d ezq_re82 (ezs_P e fz F0 A0 ezs_rn) 21 [some (ezw_p 5), some (ezw_p 1), some (ezw_i (4)), none, none] [(ezw_i y2)] (ezu_g e F A) := by
    intro y2 hy2 F A hI
    refine ezw_istore_n rfl rfl ?_
    refine ezw_iload_n rfl rfl ?_
    have J59_4 : ∀ y4 : Int, ezs_b y4 → ∀ F A, ezs_I fz F0 A0 F A → ezw_E l ρ B xa Hb D cA d ezq_re82 (ezs_P e fz F0 A0 ezs_rn) 59 [some (ezw_p 5), some (ezw_p 1), some (ezw_i (4)), some (ezw_i y2), none] [(ezw_i y4)] (ezu_g e F A) := by
      intro y4 hy4 F A hI
      refine ezw_istore rfl rfl ?_
      refine ezw_iload rfl rfl ?_
      refine ezw_if_eq rfl rfl ⟨by omega, by omega⟩ (fun h63_5 => ?_) (fun h63_5 => ?_)
      · refine ezw_aload_n rfl rfl ?_
        refine ezw_iload rfl rfl ?_
        refine ezw_if_eq rfl rfl ⟨by omega, by omega⟩ (fun h74_5 => ?_) (fun h74_5 => ?_)
        · refine ezw_iconst (1) rfl rfl ?_
          refine ezw_call0_1 rfl (by omega) (ezu_at rfl) rfl rfl rfl rfl (ezs_m50_1 hI (by omega) hzT ⟨by decide, by decide⟩) ?_
          rintro _ _ ⟨⟨F, A, rfl, hI⟩, rfl⟩
          refine ezw_goto rfl rfl ?_
          exact ezw_return rfl rfl ⟨⟨F, A, rfl, hI⟩, rfl⟩
        · refine ezw_iconst (5) rfl rfl ?_
          refine ezw_goto rfl rfl ?_
          refine ezw_call0_1 rfl (by omega) (ezu_at rfl) rfl rfl rfl rfl (ezs_m50_1 hI (by omega) hzT ⟨by decide, by decide⟩) ?_
          rintro _ _ ⟨⟨F, A, rfl, hI⟩, rfl⟩
          refine ezw_goto rfl rfl ?_
          exact ezw_return rfl rfl ⟨⟨F, A, rfl, hI⟩, rfl⟩
      · refine ezw_iload_n rfl rfl ?_
        refine ezw_iconst (5) rfl rfl ?_
        refine ezw_icmp_lt rfl rfl ⟨by decide, by decide⟩ ⟨by decide, by decide⟩ (fun h68_5 => ?_) (fun h68_5 => absurd h68_5 (by omega))
        refine ezw_iload_n rfl rfl ?_
        refine ezw_if_eq rfl rfl ⟨by omega, by omega⟩ (fun h89_5 => ?_) (fun h89_5 => ?_)
        · refine ezw_aload_n rfl rfl ?_
          refine ezw_bipush (101) rfl rfl ?_
          refine ezw_call0_1 rfl (by omega) (ezu_at rfl) rfl rfl rfl rfl (ezs_m46_1 hI (by omega) ⟨by decide, by decide⟩) ?_
          rintro _ _ ⟨rfl, u6, hu6, rfl⟩
          refine ezw_if_eq rfl rfl ⟨by omega, by omega⟩ (fun h115_6 => ?_) (fun h115_6 => ?_)
          · refine ezw_aload_n rfl rfl ?_
            refine ezw_bipush (41) rfl rfl ?_
            refine ezw_call0_1 rfl (by omega) (ezu_at rfl) rfl rfl rfl rfl (ezs_m46_1 hI (by omega) ⟨by decide, by decide⟩) ?_
            rintro _ _ ⟨rfl, u7, hu7, rfl⟩
            refine ezw_if_eq rfl rfl ⟨by omega, by omega⟩ (fun h139_7 => ?_) (fun h139_7 => ?_)
            · refine ezw_aload_n rfl rfl ?_
              refine ezw_call0_0 rfl (by omega) (ezu_at rfl) rfl rfl rfl rfl (ezs_m30_1 hI (by omega) hzT) ?_
              rintro _ _ ⟨⟨F, A, rfl, hI⟩, rfl⟩
              refine ezw_aload_n rfl rfl ?_
              refine ezw_aload_n rfl rfl ?_
              refine ezw_iconst (0) rfl rfl ?_
              refine ezw_iload_n rfl rfl ?_
              refine ezw_iconst (1) rfl rfl ?_
              refine ezw_iadd (k := (5)) rfl rfl ?_
              refine ezw_call0_3 rfl (by omega) (ezu_at rfl) rfl rfl rfl rfl (ezs_m81_5_1_v0_v5 hI (by omega) hzA hzT) ?_
              rintro _ _ ⟨⟨F, A, rfl, hI⟩, rfl⟩
              refine ezw_aload_n rfl rfl ?_
              refine ezw_sipush (241) rfl rfl ?_
              refine ezw_call0_1 rfl (by omega) (ezu_at rfl) rfl rfl rfl rfl (ezs_m46_1 hI (by omega) ⟨by decide, by decide⟩) ?_
              rintro _ _ ⟨rfl, u8, hu8, rfl⟩
              refine ezw_if_eq rfl rfl ⟨by omega, by omega⟩ (fun h183_8 => ?_) (fun h183_8 => ?_)
              · refine ezw_aload_n rfl rfl ?_
                refine ezw_iconst (1) rfl rfl ?_
                refine ezw_call0_1 rfl (by omega) (ezu_at rfl) rfl rfl rfl rfl (ezs_m50_1 hI (by omega) hzT ⟨by decide, by decide⟩) ?_
                rintro _ _ ⟨⟨F, A, rfl, hI⟩, rfl⟩
                exact ezw_return rfl rfl ⟨⟨F, A, rfl, hI⟩, rfl⟩
              · refine ezw_aload_n rfl rfl ?_
                refine ezw_call0_0 rfl (by omega) (ezu_at rfl) rfl rfl rfl rfl (ezs_m30_1 hI (by omega) hzT) ?_
                rintro _ _ ⟨⟨F, A, rfl, hI⟩, rfl⟩
                refine ezw_goto rfl rfl ?_
                exact ezw_return rfl rfl ⟨⟨F, A, rfl, hI⟩, rfl⟩
            · refine ezw_aload_n rfl rfl ?_
              refine ezw_call0_0 rfl (by omega) (ezu_at rfl) rfl rfl rfl rfl (ezs_m30_1 hI (by omega) hzT) ?_
              rintro _ _ ⟨⟨F, A, rfl, hI⟩, rfl⟩
              refine ezw_aload_n rfl rfl ?_
              refine ezw_aload_n rfl rfl ?_
              refine ezw_iload_n rfl rfl ?_
              refine ezw_iconst (1) rfl rfl ?_
              refine ezw_iadd (k := (5)) rfl rfl ?_
              refine ezw_call0_2 rfl (by omega) (ezu_at rfl) rfl rfl rfl rfl (ezs_m82_5_1_v5 hI (by omega) hzT) ?_
              rintro _ _ ⟨⟨F, A, rfl, hI⟩, rfl⟩
              refine ezw_aload_n rfl rfl ?_
              refine ezw_bipush (-5) rfl rfl ?_
              refine ezw_call0_1 rfl (by omega) (ezu_at rfl) rfl rfl rfl rfl (ezs_m83_5 hI (by omega) hzA ⟨by decide, by decide⟩) ?_
              rintro _ _ ⟨⟨F, A, rfl, hI⟩, rfl⟩
              refine ezw_goto rfl rfl ?_
              exact ezw_return rfl rfl ⟨⟨F, A, rfl, hI⟩, rfl⟩
          · refine ezw_aload_n rfl rfl ?_
            refine ezw_aload_n rfl rfl ?_
            refine ezs_get_i hI rfl rfl rfl rfl rfl rfl (fun u9 hu9 ku9 => ?_)
            refine ezw_call0_1 rfl (by omega) (ezu_at rfl) rfl rfl rfl rfl (ezs_m83_5 hI (by omega) hzA hu9) ?_
            rintro _ _ ⟨⟨F, A, rfl, hI⟩, rfl⟩
            refine ezw_aload_n rfl rfl ?_
            refine ezw_call0_0 rfl (by omega) (ezu_at rfl) rfl rfl rfl rfl (ezs_m30_1 hI (by omega) hzT) ?_
            rintro _ _ ⟨⟨F, A, rfl, hI⟩, rfl⟩
            refine ezw_goto rfl rfl ?_
            exact ezw_return rfl rfl ⟨⟨F, A, rfl, hI⟩, rfl⟩
        · refine ezw_aload_n rfl rfl ?_
          refine ezw_iconst (-1) rfl rfl ?_
          refine ezw_aload_n rfl rfl ?_
          refine ezs_get_i hI rfl rfl rfl rfl rfl rfl (fun u10 hu10 ku10 => ?_)
          refine ezs_isub rfl (fun u11 hu11 => ?_)
          refine ezw_call0_1 rfl (by omega) (ezu_at rfl) rfl rfl rfl rfl (ezs_m83_5 hI (by omega) hzA hu11) ?_
          rintro _ _ ⟨⟨F, A, rfl, hI⟩, rfl⟩
          refine ezw_aload_n rfl rfl ?_
          refine ezw_call0_0 rfl (by omega) (ezu_at rfl) rfl rfl rfl rfl (ezs_m30_1 hI (by omega) hzT) ?_
          rintro _ _ ⟨⟨F, A, rfl, hI⟩, rfl⟩
          refine ezw_goto rfl rfl ?_
          exact ezw_return rfl rfl ⟨⟨F, A, rfl, hI⟩, rfl⟩
    refine ezw_if_ne rfl rfl ⟨by omega, by omega⟩ (fun h23_3 => ?_) (fun h23_3 => ?_)
    · refine ezw_iconst (1) rfl rfl ?_
      refine ezw_goto rfl rfl ?_
      exact ezw_keepE [true, true, true, true, false] (J59_4 (1) ⟨by omega, by omega⟩ F A hI)
    · refine ezw_aload_n rfl rfl ?_
      refine ezw_bipush (101) rfl rfl ?_
      refine ezw_call0_1 rfl (by omega) (ezu_at rfl) rfl rfl rfl rfl (ezs_m46_1 hI (by omega) ⟨by decide, by decide⟩) ?_
      rintro _ _ ⟨rfl, u12, hu12, rfl⟩
      refine ezw_if_ne rfl rfl ⟨by omega, by omega⟩ (fun h32_12 => ?_) (fun h32_12 => ?_)
      · refine ezw_iconst (1) rfl rfl ?_
        refine ezw_goto rfl rfl ?_
        exact ezw_keepE [true, true, true, true, false] (J59_4 (1) ⟨by omega, by omega⟩ F A hI)
      · refine ezw_aload_n rfl rfl ?_
        refine ezw_bipush (41) rfl rfl ?_
        refine ezw_call0_1 rfl (by omega) (ezu_at rfl) rfl rfl rfl rfl (ezs_m46_1 hI (by omega) ⟨by decide, by decide⟩) ?_
        rintro _ _ ⟨rfl, u13, hu13, rfl⟩
        refine ezw_if_ne rfl rfl ⟨by omega, by omega⟩ (fun h41_13 => ?_) (fun h41_13 => ?_)
        · refine ezw_iconst (1) rfl rfl ?_
          refine ezw_goto rfl rfl ?_
          exact ezw_keepE [true, true, true, true, false] (J59_4 (1) ⟨by omega, by omega⟩ F A hI)
        · refine ezw_aload_n rfl rfl ?_
          refine ezw_sipush (240) rfl rfl ?_
          refine ezw_call0_1 rfl (by omega) (ezu_at rfl) rfl rfl rfl rfl (ezs_m46_1 hI (by omega) ⟨by decide, by decide⟩) ?_
          rintro _ _ ⟨rfl, u14, hu14, rfl⟩
          refine ezw_if_eq rfl rfl ⟨by omega, by omega⟩ (fun h51_14 => ?_) (fun h51_14 => ?_)
          · refine ezw_iconst (0) rfl rfl ?_
            exact ezw_keepE [true, true, true, true, false] (J59_4 (0) ⟨by omega, by omega⟩ F A hI)
          · refine ezw_iconst (1) rfl rfl ?_
            refine ezw_goto rfl rfl ?_
            exact ezw_keepE [true, true, true, true, false] (J59_4 (1) ⟨by omega, by omega⟩ F A hI)
  refine ezw_if_eq rfl rfl ⟨by omega, by omega⟩ (fun h6_1 => ?_) (fun h6_1 => ?_)
  · refine ezw_iconst (0) rfl rfl ?_
    exact ezw_keepE [true, true, true, false, false] (J21_2 (0) ⟨by omega, by omega⟩ F A hI)
  · refine ezw_aload_n rfl rfl ?_
    refine ezs_get_i hI rfl rfl rfl rfl rfl rfl (fun u15 hu15 ku15 => ?_)
    refine ezw_if_lt rfl rfl hu15 (fun h13_15 => ?_) (fun h13_15 => ?_)
    · refine ezw_iconst (0) rfl rfl ?_
      exact ezw_keepE [true, true, true, false, false] (J21_2 (0) ⟨by omega, by omega⟩ F A hI)
    · refine ezw_iconst (1) rfl rfl ?_
      refine ezw_goto rfl rfl ?_
      exact ezw_keepE [true, true, true, false, false] (J21_2 (1) ⟨by omega, by omega⟩ F A hI)
theorem ezs_m81_5_1_v4_v4 {F : Nat → Nat → Int} {A : Nat → Int → Int} (hI : ezs_I fz F0 A0 F A) (hd : 10 ≤ d) (hzA : ∀ q, 4 ≤ q → q < 72 → fz q = false) (hzT : fz 1 = false) : ezw_C l ρ B xa Hb D cA 81 d [ezw_p 5, ezw_p 1, ezw_i (4), ezw_i (4)] (ezu_g e F A) (ezs_P e fz F0 A0 ezs_rn) := by
  refine ezw_met (k := 2) rfl rfl ?_
  refine ezw_iload_n rfl rfl ?_
  refine ezw_iconst (4) rfl rfl ?_
  refine ezw_icmp_lt rfl rfl ⟨by decide, by decide⟩ ⟨by decide, by decide⟩ (fun h2_0 => absurd h2_0 (by omega)) (fun h2_0 => ?_)
  refine ezw_aload_n rfl rfl ?_
  refine ezw_aload_n rfl rfl ?_
  refine ezw_iload_n rfl rfl ?_
  refine ezw_call0_2 rfl (by omega) (ezu_at rfl) rfl rfl rfl rfl (ezs_m82_5_1_v4 hI (by omega) hzA hzT) ?_
  rintro _ _ ⟨⟨F, A, rfl, hI⟩, rfl⟩
  exact ezw_return rfl rfl ⟨⟨F, A, rfl, hI⟩, rfl⟩
theorem ezs_m81_5_1_v3_v4 {F : Nat → Nat → Int} {A : Nat → Int → Int} (hI : ezs_I fz F0 A0 F A) (hd : 11 ≤ d) (hzA : ∀ q, 4 ≤ q → q < 72 → fz q = false) (hzT : fz 1 = false) : ezw_C l ρ B xa Hb D cA 81 d [ezw_p 5, ezw_p 1, ezw_i (3), ezw_i (4)] (ezu_g e F A) (ezs_P e fz F0 A0 ezs_rn) := by
  refine ezw_met (k := 2) rfl rfl ?_
  refine ezw_iload_n rfl rfl ?_
  refine ezw_iconst (4) rfl rfl ?_
  refine ezw_icmp_lt rfl rfl ⟨by decide, by decide⟩ ⟨by decide, by decide⟩ (fun h2_0 => ?_) (fun h2_0 => absurd h2_0 (by omega))
  refine ezw_aload_n rfl rfl ?_
  refine ezw_aload_n rfl rfl ?_
  refine ezw_iload_n rfl rfl ?_
  refine ezw_iconst (1) rfl rfl ?_
  refine ezw_iadd (k := (4)) rfl rfl ?_
  refine ezw_iload_n rfl rfl ?_
  refine ezw_call0_3 rfl (by omega) (ezu_at rfl) rfl rfl rfl rfl (ezs_m81_5_1_v4_v4 hI (by omega) hzA hzT) ?_
  rintro _ _ ⟨⟨F, A, rfl, hI⟩, rfl⟩
  refine ezw_iconst (0) rfl rfl ?_
  refine ezw_istore rfl rfl ?_
  have L24_1 : ∀ c1 : Int, ezw_in c1 → (0) ≤ c1 → ∀ F A, ezs_I fz F0 A0 F A → ezw_E l ρ B xa Hb D cA d ezq_re81 (ezs_P e fz F0 A0 ezs_rn) 24 [some (ezw_p 5), some (ezw_p 1), some (ezw_i (3)), some (ezw_i (4)), some (ezw_i c1), none] [] (ezu_g e F A) := by
    refine ezs_up ?_
    intro c1 hc1 ihc1 gc1 F A hI
    refine ezw_iload rfl rfl ?_
    refine ezw_sipush (1000) rfl rfl ?_
    refine ezw_icmp_ge rfl rfl hc1 ⟨by decide, by decide⟩ (fun h29_2 => ?_) (fun h29_2 => ?_)
    · exact ezw_return rfl rfl ⟨⟨F, A, rfl, hI⟩, rfl⟩
    · refine ezw_aload_n rfl rfl ?_
      refine ezw_call0_0 rfl (by omega) (ezu_at rfl) rfl rfl rfl rfl (ezs_m45_1 hI (by omega)) ?_
      rintro _ _ ⟨rfl, u3, hu3, rfl⟩
      refine ezw_if_eq rfl rfl ⟨by omega, by omega⟩ (fun h36_3 => ?_) (fun h36_3 => ?_)
      · exact ezw_return rfl rfl ⟨⟨F, A, rfl, hI⟩, rfl⟩
      · refine ezw_aload_n rfl rfl ?_
        refine ezs_get_i hI rfl rfl rfl rfl rfl rfl (fun u4 hu4 ku4 => ?_)
        refine ezw_iload_n rfl rfl ?_
        refine ezw_call2_2 rfl (by omega) rfl rfl (ezs_m84 hI (by omega) hu4 ⟨by decide, by decide⟩) ?_
        rintro _ _ ⟨rfl, u5, hu5, rfl⟩
        refine ezw_istore rfl rfl ?_
        refine ezw_iload rfl rfl ?_
        refine ezw_if_ne rfl rfl hu5 (fun h51_5 => ?_) (fun h51_5 => ?_)
        · refine ezw_aload_n rfl rfl ?_
          refine ezw_call0_0 rfl (by omega) (ezu_at rfl) rfl rfl rfl rfl (ezs_m30_1 hI (by omega) hzT) ?_
          rintro _ _ ⟨⟨F, A, rfl, hI⟩, rfl⟩
          refine ezw_aload_n rfl rfl ?_
          refine ezw_aload_n rfl rfl ?_
          refine ezw_iload_n rfl rfl ?_
          refine ezw_iconst (1) rfl rfl ?_
          refine ezw_iadd (k := (4)) rfl rfl ?_
          refine ezw_iload_n rfl rfl ?_
          refine ezw_call0_3 rfl (by omega) (ezu_at rfl) rfl rfl rfl rfl (ezs_m81_5_1_v4_v4 hI (by omega) hzA hzT) ?_
          rintro _ _ ⟨⟨F, A, rfl, hI⟩, rfl⟩
          refine ezw_aload_n rfl rfl ?_
          refine ezw_iload rfl rfl ?_
          refine ezw_call0_1 rfl (by omega) (ezu_at rfl) rfl rfl rfl rfl (ezs_m83_5 hI (by omega) hzA hu5) ?_
          rintro _ _ ⟨⟨F, A, rfl, hI⟩, rfl⟩
          refine ezw_iload_n rfl rfl ?_
          refine ezw_iconst (1) rfl rfl ?_
          refine ezw_icmp_ne rfl rfl ⟨by decide, by decide⟩ ⟨by decide, by decide⟩ (fun h76_5 => ?_) (fun h76_5 => absurd h76_5 (by omega))
          refine ezw_iinc (1) rfl rfl rfl rfl rfl ?_
          refine ezw_goto rfl rfl ?_
          exact ezw_keepE [true, true, true, true, true, false] (ihc1 (c1 + (1)) (by omega) ⟨by omega, by omega⟩ (by omega)  F A hI)
        · exact ezw_return rfl rfl ⟨⟨F, A, rfl, hI⟩, rfl⟩
  exact ezw_keepE [true, true, true, true, true, false] (L24_1 (0) ⟨by decide, by decide⟩ (by omega)  F A hI)
theorem ezs_m81_5_1_v2_v4 {F : Nat → Nat → Int} {A : Nat → Int → Int} (hI : ezs_I fz F0 A0 F A) (hd : 12 ≤ d) (hzA : ∀ q, 4 ≤ q → q < 72 → fz q = false) (hzT : fz 1 = false) : ezw_C l ρ B xa Hb D cA 81 d [ezw_p 5, ezw_p 1, ezw_i (2), ezw_i (4)] (ezu_g e F A) (ezs_P e fz F0 A0 ezs_rn) := by
  refine ezw_met (k := 2) rfl rfl ?_
  refine ezw_iload_n rfl rfl ?_
  refine ezw_iconst (4) rfl rfl ?_
  refine ezw_icmp_lt rfl rfl ⟨by decide, by decide⟩ ⟨by decide, by decide⟩ (fun h2_0 => ?_) (fun h2_0 => absurd h2_0 (by omega))
  refine ezw_aload_n rfl rfl ?_
  refine ezw_aload_n rfl rfl ?_
  refine ezw_iload_n rfl rfl ?_
  refine ezw_iconst (1) rfl rfl ?_
  refine ezw_iadd (k := (3)) rfl rfl ?_
  refine ezw_iload_n rfl rfl ?_
  refine ezw_call0_3 rfl (by omega) (ezu_at rfl) rfl rfl rfl rfl (ezs_m81_5_1_v3_v4 hI (by omega) hzA hzT) ?_
  rintro _ _ ⟨⟨F, A, rfl, hI⟩, rfl⟩
  refine ezw_iconst (0) rfl rfl ?_
  refine ezw_istore rfl rfl ?_
  have L24_1 : ∀ c1 : Int, ezw_in c1 → (0) ≤ c1 → ∀ F A, ezs_I fz F0 A0 F A → ezw_E l ρ B xa Hb D cA d ezq_re81 (ezs_P e fz F0 A0 ezs_rn) 24 [some (ezw_p 5), some (ezw_p 1), some (ezw_i (2)), some (ezw_i (4)), some (ezw_i c1), none] [] (ezu_g e F A) := by
    refine ezs_up ?_
    intro c1 hc1 ihc1 gc1 F A hI
    refine ezw_iload rfl rfl ?_
    refine ezw_sipush (1000) rfl rfl ?_
    refine ezw_icmp_ge rfl rfl hc1 ⟨by decide, by decide⟩ (fun h29_2 => ?_) (fun h29_2 => ?_)
    · exact ezw_return rfl rfl ⟨⟨F, A, rfl, hI⟩, rfl⟩
    · refine ezw_aload_n rfl rfl ?_
      refine ezw_call0_0 rfl (by omega) (ezu_at rfl) rfl rfl rfl rfl (ezs_m45_1 hI (by omega)) ?_
      rintro _ _ ⟨rfl, u3, hu3, rfl⟩
      refine ezw_if_eq rfl rfl ⟨by omega, by omega⟩ (fun h36_3 => ?_) (fun h36_3 => ?_)
      · exact ezw_return rfl rfl ⟨⟨F, A, rfl, hI⟩, rfl⟩
      · refine ezw_aload_n rfl rfl ?_
        refine ezs_get_i hI rfl rfl rfl rfl rfl rfl (fun u4 hu4 ku4 => ?_)
        refine ezw_iload_n rfl rfl ?_
        refine ezw_call2_2 rfl (by omega) rfl rfl (ezs_m84 hI (by omega) hu4 ⟨by decide, by decide⟩) ?_
        rintro _ _ ⟨rfl, u5, hu5, rfl⟩
        refine ezw_istore rfl rfl ?_
        refine ezw_iload rfl rfl ?_
        refine ezw_if_ne rfl rfl hu5 (fun h51_5 => ?_) (fun h51_5 => ?_)
        · refine ezw_aload_n rfl rfl ?_
          refine ezw_call0_0 rfl (by omega) (ezu_at rfl) rfl rfl rfl rfl (ezs_m30_1 hI (by omega) hzT) ?_
          rintro _ _ ⟨⟨F, A, rfl, hI⟩, rfl⟩
          refine ezw_aload_n rfl rfl ?_
          refine ezw_aload_n rfl rfl ?_
          refine ezw_iload_n rfl rfl ?_
          refine ezw_iconst (1) rfl rfl ?_
          refine ezw_iadd (k := (3)) rfl rfl ?_
          refine ezw_iload_n rfl rfl ?_
          refine ezw_call0_3 rfl (by omega) (ezu_at rfl) rfl rfl rfl rfl (ezs_m81_5_1_v3_v4 hI (by omega) hzA hzT) ?_
          rintro _ _ ⟨⟨F, A, rfl, hI⟩, rfl⟩
          refine ezw_aload_n rfl rfl ?_
          refine ezw_iload rfl rfl ?_
          refine ezw_call0_1 rfl (by omega) (ezu_at rfl) rfl rfl rfl rfl (ezs_m83_5 hI (by omega) hzA hu5) ?_
          rintro _ _ ⟨⟨F, A, rfl, hI⟩, rfl⟩
          refine ezw_iload_n rfl rfl ?_
          refine ezw_iconst (1) rfl rfl ?_
          refine ezw_icmp_ne rfl rfl ⟨by decide, by decide⟩ ⟨by decide, by decide⟩ (fun h76_5 => ?_) (fun h76_5 => absurd h76_5 (by omega))
          refine ezw_iinc (1) rfl rfl rfl rfl rfl ?_
          refine ezw_goto rfl rfl ?_
          exact ezw_keepE [true, true, true, true, true, false] (ihc1 (c1 + (1)) (by omega) ⟨by omega, by omega⟩ (by omega)  F A hI)
        · exact ezw_return rfl rfl ⟨⟨F, A, rfl, hI⟩, rfl⟩
  exact ezw_keepE [true, true, true, true, true, false] (L24_1 (0) ⟨by decide, by decide⟩ (by omega)  F A hI)
theorem ezs_m81_5_1_v1_v4 {F : Nat → Nat → Int} {A : Nat → Int → Int} (hI : ezs_I fz F0 A0 F A) (hd : 13 ≤ d) (hzA : ∀ q, 4 ≤ q → q < 72 → fz q = false) (hzT : fz 1 = false) : ezw_C l ρ B xa Hb D cA 81 d [ezw_p 5, ezw_p 1, ezw_i (1), ezw_i (4)] (ezu_g e F A) (ezs_P e fz F0 A0 ezs_rn) := by
  refine ezw_met (k := 2) rfl rfl ?_
  refine ezw_iload_n rfl rfl ?_
  refine ezw_iconst (4) rfl rfl ?_
  refine ezw_icmp_lt rfl rfl ⟨by decide, by decide⟩ ⟨by decide, by decide⟩ (fun h2_0 => ?_) (fun h2_0 => absurd h2_0 (by omega))
  refine ezw_aload_n rfl rfl ?_
  refine ezw_aload_n rfl rfl ?_
  refine ezw_iload_n rfl rfl ?_
  refine ezw_iconst (1) rfl rfl ?_
  refine ezw_iadd (k := (2)) rfl rfl ?_
  refine ezw_iload_n rfl rfl ?_
  refine ezw_call0_3 rfl (by omega) (ezu_at rfl) rfl rfl rfl rfl (ezs_m81_5_1_v2_v4 hI (by omega) hzA hzT) ?_
  rintro _ _ ⟨⟨F, A, rfl, hI⟩, rfl⟩
  refine ezw_iconst (0) rfl rfl ?_
  refine ezw_istore rfl rfl ?_
  have L24_1 : ∀ c1 : Int, ezw_in c1 → (0) ≤ c1 → ∀ F A, ezs_I fz F0 A0 F A → ezw_E l ρ B xa Hb D cA d ezq_re81 (ezs_P e fz F0 A0 ezs_rn) 24 [some (ezw_p 5), some (ezw_p 1), some (ezw_i (1)), some (ezw_i (4)), some (ezw_i c1), none] [] (ezu_g e F A) := by
    refine ezs_up ?_
    intro c1 hc1 ihc1 gc1 F A hI
    refine ezw_iload rfl rfl ?_
    refine ezw_sipush (1000) rfl rfl ?_
    refine ezw_icmp_ge rfl rfl hc1 ⟨by decide, by decide⟩ (fun h29_2 => ?_) (fun h29_2 => ?_)
    · exact ezw_return rfl rfl ⟨⟨F, A, rfl, hI⟩, rfl⟩
    · refine ezw_aload_n rfl rfl ?_
      refine ezw_call0_0 rfl (by omega) (ezu_at rfl) rfl rfl rfl rfl (ezs_m45_1 hI (by omega)) ?_
      rintro _ _ ⟨rfl, u3, hu3, rfl⟩
      refine ezw_if_eq rfl rfl ⟨by omega, by omega⟩ (fun h36_3 => ?_) (fun h36_3 => ?_)
      · exact ezw_return rfl rfl ⟨⟨F, A, rfl, hI⟩, rfl⟩
      · refine ezw_aload_n rfl rfl ?_
        refine ezs_get_i hI rfl rfl rfl rfl rfl rfl (fun u4 hu4 ku4 => ?_)
        refine ezw_iload_n rfl rfl ?_
        refine ezw_call2_2 rfl (by omega) rfl rfl (ezs_m84 hI (by omega) hu4 ⟨by decide, by decide⟩) ?_
        rintro _ _ ⟨rfl, u5, hu5, rfl⟩
        refine ezw_istore rfl rfl ?_
        refine ezw_iload rfl rfl ?_
        refine ezw_if_ne rfl rfl hu5 (fun h51_5 => ?_) (fun h51_5 => ?_)
        · refine ezw_aload_n rfl rfl ?_
          refine ezw_call0_0 rfl (by omega) (ezu_at rfl) rfl rfl rfl rfl (ezs_m30_1 hI (by omega) hzT) ?_
          rintro _ _ ⟨⟨F, A, rfl, hI⟩, rfl⟩
          refine ezw_aload_n rfl rfl ?_
          refine ezw_aload_n rfl rfl ?_
          refine ezw_iload_n rfl rfl ?_
          refine ezw_iconst (1) rfl rfl ?_
          refine ezw_iadd (k := (2)) rfl rfl ?_
          refine ezw_iload_n rfl rfl ?_
          refine ezw_call0_3 rfl (by omega) (ezu_at rfl) rfl rfl rfl rfl (ezs_m81_5_1_v2_v4 hI (by omega) hzA hzT) ?_
          rintro _ _ ⟨⟨F, A, rfl, hI⟩, rfl⟩
          refine ezw_aload_n rfl rfl ?_
          refine ezw_iload rfl rfl ?_
          refine ezw_call0_1 rfl (by omega) (ezu_at rfl) rfl rfl rfl rfl (ezs_m83_5 hI (by omega) hzA hu5) ?_
          rintro _ _ ⟨⟨F, A, rfl, hI⟩, rfl⟩
          refine ezw_iload_n rfl rfl ?_
          refine ezw_iconst (1) rfl rfl ?_
          refine ezw_icmp_ne rfl rfl ⟨by decide, by decide⟩ ⟨by decide, by decide⟩ (fun h76_5 => absurd h76_5 (by omega)) (fun h76_5 => ?_)
          exact ezw_return rfl rfl ⟨⟨F, A, rfl, hI⟩, rfl⟩
        · exact ezw_return rfl rfl ⟨⟨F, A, rfl, hI⟩, rfl⟩
  exact ezw_keepE [true, true, true, true, true, false] (L24_1 (0) ⟨by decide, by decide⟩ (by omega)  F A hI)
theorem ezs_m81_5_1_v0_v4 {F : Nat → Nat → Int} {A : Nat → Int → Int} (hI : ezs_I fz F0 A0 F A) (hd : 14 ≤ d) (hzA : ∀ q, 4 ≤ q → q < 72 → fz q = false) (hzT : fz 1 = false) : ezw_C l ρ B xa Hb D cA 81 d [ezw_p 5, ezw_p 1, ezw_i (0), ezw_i (4)] (ezu_g e F A) (ezs_P e fz F0 A0 ezs_rn) := by
  refine ezw_met (k := 2) rfl rfl ?_
  refine ezw_iload_n rfl rfl ?_
  refine ezw_iconst (4) rfl rfl ?_
  refine ezw_icmp_lt rfl rfl ⟨by decide, by decide⟩ ⟨by decide, by decide⟩ (fun h2_0 => ?_) (fun h2_0 => absurd h2_0 (by omega))
  refine ezw_aload_n rfl rfl ?_
  refine ezw_aload_n rfl rfl ?_
  refine ezw_iload_n rfl rfl ?_
  refine ezw_iconst (1) rfl rfl ?_
  refine ezw_iadd (k := (1)) rfl rfl ?_
  refine ezw_iload_n rfl rfl ?_
  refine ezw_call0_3 rfl (by omega) (ezu_at rfl) rfl rfl rfl rfl (ezs_m81_5_1_v1_v4 hI (by omega) hzA hzT) ?_
  rintro _ _ ⟨⟨F, A, rfl, hI⟩, rfl⟩
  refine ezw_iconst (0) rfl rfl ?_
  refine ezw_istore rfl rfl ?_
  have L24_1 : ∀ c1 : Int, ezw_in c1 → (0) ≤ c1 → ∀ F A, ezs_I fz F0 A0 F A → ezw_E l ρ B xa Hb D cA d ezq_re81 (ezs_P e fz F0 A0 ezs_rn) 24 [some (ezw_p 5), some (ezw_p 1), some (ezw_i (0)), some (ezw_i (4)), some (ezw_i c1), none] [] (ezu_g e F A) := by
    refine ezs_up ?_
    intro c1 hc1 ihc1 gc1 F A hI
    refine ezw_iload rfl rfl ?_
    refine ezw_sipush (1000) rfl rfl ?_
    refine ezw_icmp_ge rfl rfl hc1 ⟨by decide, by decide⟩ (fun h29_2 => ?_) (fun h29_2 => ?_)
    · exact ezw_return rfl rfl ⟨⟨F, A, rfl, hI⟩, rfl⟩
    · refine ezw_aload_n rfl rfl ?_
      refine ezw_call0_0 rfl (by omega) (ezu_at rfl) rfl rfl rfl rfl (ezs_m45_1 hI (by omega)) ?_
      rintro _ _ ⟨rfl, u3, hu3, rfl⟩
      refine ezw_if_eq rfl rfl ⟨by omega, by omega⟩ (fun h36_3 => ?_) (fun h36_3 => ?_)
      · exact ezw_return rfl rfl ⟨⟨F, A, rfl, hI⟩, rfl⟩
      · refine ezw_aload_n rfl rfl ?_
        refine ezs_get_i hI rfl rfl rfl rfl rfl rfl (fun u4 hu4 ku4 => ?_)
        refine ezw_iload_n rfl rfl ?_
        refine ezw_call2_2 rfl (by omega) rfl rfl (ezs_m84 hI (by omega) hu4 ⟨by decide, by decide⟩) ?_
        rintro _ _ ⟨rfl, u5, hu5, rfl⟩
        refine ezw_istore rfl rfl ?_
        refine ezw_iload rfl rfl ?_
        refine ezw_if_ne rfl rfl hu5 (fun h51_5 => ?_) (fun h51_5 => ?_)
        · refine ezw_aload_n rfl rfl ?_
          refine ezw_call0_0 rfl (by omega) (ezu_at rfl) rfl rfl rfl rfl (ezs_m30_1 hI (by omega) hzT) ?_
          rintro _ _ ⟨⟨F, A, rfl, hI⟩, rfl⟩
          refine ezw_aload_n rfl rfl ?_
          refine ezw_aload_n rfl rfl ?_
          refine ezw_iload_n rfl rfl ?_
          refine ezw_iconst (1) rfl rfl ?_
          refine ezw_iadd (k := (1)) rfl rfl ?_
          refine ezw_iload_n rfl rfl ?_
          refine ezw_call0_3 rfl (by omega) (ezu_at rfl) rfl rfl rfl rfl (ezs_m81_5_1_v1_v4 hI (by omega) hzA hzT) ?_
          rintro _ _ ⟨⟨F, A, rfl, hI⟩, rfl⟩
          refine ezw_aload_n rfl rfl ?_
          refine ezw_iload rfl rfl ?_
          refine ezw_call0_1 rfl (by omega) (ezu_at rfl) rfl rfl rfl rfl (ezs_m83_5 hI (by omega) hzA hu5) ?_
          rintro _ _ ⟨⟨F, A, rfl, hI⟩, rfl⟩
          refine ezw_iload_n rfl rfl ?_
          refine ezw_iconst (1) rfl rfl ?_
          refine ezw_icmp_ne rfl rfl ⟨by decide, by decide⟩ ⟨by decide, by decide⟩ (fun h76_5 => ?_) (fun h76_5 => absurd h76_5 (by omega))
          refine ezw_iinc (1) rfl rfl rfl rfl rfl ?_
          refine ezw_goto rfl rfl ?_
          exact ezw_keepE [true, true, true, true, true, false] (ihc1 (c1 + (1)) (by omega) ⟨by omega, by omega⟩ (by omega)  F A hI)
        · exact ezw_return rfl rfl ⟨⟨F, A, rfl, hI⟩, rfl⟩
  exact ezw_keepE [true, true, true, true, true, false] (L24_1 (0) ⟨by decide, by decide⟩ (by omega)  F A hI)
theorem ezs_m82_5_1_v3 {F : Nat → Nat → Int} {A : Nat → Int → Int} (hI : ezs_I fz F0 A0 F A) (hd : 15 ≤ d) (hzA : ∀ q, 4 ≤ q → q < 72 → fz q = false) (hzT : fz 1 = false) : ezw_C l ρ B xa Hb D cA 82 d [ezw_p 5, ezw_p 1, ezw_i (3)] (ezu_g e F A) (ezs_P e fz F0 A0 ezs_rn) := by
  refine ezw_met (k := 2) rfl rfl ?_
  refine ezw_aload_n rfl rfl ?_
  refine ezw_bipush (100) rfl rfl ?_
  refine ezw_call0_1 rfl (by omega) (ezu_at rfl) rfl rfl rfl rfl (ezs_m46_1 hI (by omega) ⟨by decide, by decide⟩) ?_
  rintro _ _ ⟨rfl, u1, hu1, rfl⟩
  have J21_2 : ∀ y2 : Int, ezs_b y2 → ∀ F A, ezs_I fz F0 A0 F A → ezw_E l ρ B xa Hb D cA d ezq_re82 (ezs_P e fz F0 A0 ezs_rn) 21 [some (ezw_p 5), some (ezw_p 1), some (ezw_i (3)), none, none] [(ezw_i y2)] (ezu_g e F A) := by
    intro y2 hy2 F A hI
    refine ezw_istore_n rfl rfl ?_
    refine ezw_iload_n rfl rfl ?_
    have J59_4 : ∀ y4 : Int, ezs_b y4 → ∀ F A, ezs_I fz F0 A0 F A → ezw_E l ρ B xa Hb D cA d ezq_re82 (ezs_P e fz F0 A0 ezs_rn) 59 [some (ezw_p 5), some (ezw_p 1), some (ezw_i (3)), some (ezw_i y2), none] [(ezw_i y4)] (ezu_g e F A) := by
      intro y4 hy4 F A hI
      refine ezw_istore rfl rfl ?_
      refine ezw_iload rfl rfl ?_
      refine ezw_if_eq rfl rfl ⟨by omega, by omega⟩ (fun h63_5 => ?_) (fun h63_5 => ?_)
      · refine ezw_aload_n rfl rfl ?_
        refine ezw_iload rfl rfl ?_
        refine ezw_if_eq rfl rfl ⟨by omega, by omega⟩ (fun h74_5 => ?_) (fun h74_5 => ?_)
        · refine ezw_iconst (1) rfl rfl ?_
          refine ezw_call0_1 rfl (by omega) (ezu_at rfl) rfl rfl rfl rfl (ezs_m50_1 hI (by omega) hzT ⟨by decide, by decide⟩) ?_
          rintro _ _ ⟨⟨F, A, rfl, hI⟩, rfl⟩
          refine ezw_goto rfl rfl ?_
          exact ezw_return rfl rfl ⟨⟨F, A, rfl, hI⟩, rfl⟩
        · refine ezw_iconst (5) rfl rfl ?_
          refine ezw_goto rfl rfl ?_
          refine ezw_call0_1 rfl (by omega) (ezu_at rfl) rfl rfl rfl rfl (ezs_m50_1 hI (by omega) hzT ⟨by decide, by decide⟩) ?_
          rintro _ _ ⟨⟨F, A, rfl, hI⟩, rfl⟩
          refine ezw_goto rfl rfl ?_
          exact ezw_return rfl rfl ⟨⟨F, A, rfl, hI⟩, rfl⟩
      · refine ezw_iload_n rfl rfl ?_
        refine ezw_iconst (5) rfl rfl ?_
        refine ezw_icmp_lt rfl rfl ⟨by decide, by decide⟩ ⟨by decide, by decide⟩ (fun h68_5 => ?_) (fun h68_5 => absurd h68_5 (by omega))
        refine ezw_iload_n rfl rfl ?_
        refine ezw_if_eq rfl rfl ⟨by omega, by omega⟩ (fun h89_5 => ?_) (fun h89_5 => ?_)
        · refine ezw_aload_n rfl rfl ?_
          refine ezw_bipush (101) rfl rfl ?_
          refine ezw_call0_1 rfl (by omega) (ezu_at rfl) rfl rfl rfl rfl (ezs_m46_1 hI (by omega) ⟨by decide, by decide⟩) ?_
          rintro _ _ ⟨rfl, u6, hu6, rfl⟩
          refine ezw_if_eq rfl rfl ⟨by omega, by omega⟩ (fun h115_6 => ?_) (fun h115_6 => ?_)
          · refine ezw_aload_n rfl rfl ?_
            refine ezw_bipush (41) rfl rfl ?_
            refine ezw_call0_1 rfl (by omega) (ezu_at rfl) rfl rfl rfl rfl (ezs_m46_1 hI (by omega) ⟨by decide, by decide⟩) ?_
            rintro _ _ ⟨rfl, u7, hu7, rfl⟩
            refine ezw_if_eq rfl rfl ⟨by omega, by omega⟩ (fun h139_7 => ?_) (fun h139_7 => ?_)
            · refine ezw_aload_n rfl rfl ?_
              refine ezw_call0_0 rfl (by omega) (ezu_at rfl) rfl rfl rfl rfl (ezs_m30_1 hI (by omega) hzT) ?_
              rintro _ _ ⟨⟨F, A, rfl, hI⟩, rfl⟩
              refine ezw_aload_n rfl rfl ?_
              refine ezw_aload_n rfl rfl ?_
              refine ezw_iconst (0) rfl rfl ?_
              refine ezw_iload_n rfl rfl ?_
              refine ezw_iconst (1) rfl rfl ?_
              refine ezw_iadd (k := (4)) rfl rfl ?_
              refine ezw_call0_3 rfl (by omega) (ezu_at rfl) rfl rfl rfl rfl (ezs_m81_5_1_v0_v4 hI (by omega) hzA hzT) ?_
              rintro _ _ ⟨⟨F, A, rfl, hI⟩, rfl⟩
              refine ezw_aload_n rfl rfl ?_
              refine ezw_sipush (241) rfl rfl ?_
              refine ezw_call0_1 rfl (by omega) (ezu_at rfl) rfl rfl rfl rfl (ezs_m46_1 hI (by omega) ⟨by decide, by decide⟩) ?_
              rintro _ _ ⟨rfl, u8, hu8, rfl⟩
              refine ezw_if_eq rfl rfl ⟨by omega, by omega⟩ (fun h183_8 => ?_) (fun h183_8 => ?_)
              · refine ezw_aload_n rfl rfl ?_
                refine ezw_iconst (1) rfl rfl ?_
                refine ezw_call0_1 rfl (by omega) (ezu_at rfl) rfl rfl rfl rfl (ezs_m50_1 hI (by omega) hzT ⟨by decide, by decide⟩) ?_
                rintro _ _ ⟨⟨F, A, rfl, hI⟩, rfl⟩
                exact ezw_return rfl rfl ⟨⟨F, A, rfl, hI⟩, rfl⟩
              · refine ezw_aload_n rfl rfl ?_
                refine ezw_call0_0 rfl (by omega) (ezu_at rfl) rfl rfl rfl rfl (ezs_m30_1 hI (by omega) hzT) ?_
                rintro _ _ ⟨⟨F, A, rfl, hI⟩, rfl⟩
                refine ezw_goto rfl rfl ?_
                exact ezw_return rfl rfl ⟨⟨F, A, rfl, hI⟩, rfl⟩
            · refine ezw_aload_n rfl rfl ?_
              refine ezw_call0_0 rfl (by omega) (ezu_at rfl) rfl rfl rfl rfl (ezs_m30_1 hI (by omega) hzT) ?_
              rintro _ _ ⟨⟨F, A, rfl, hI⟩, rfl⟩
              refine ezw_aload_n rfl rfl ?_
              refine ezw_aload_n rfl rfl ?_
              refine ezw_iload_n rfl rfl ?_
              refine ezw_iconst (1) rfl rfl ?_
              refine ezw_iadd (k := (4)) rfl rfl ?_
              refine ezw_call0_2 rfl (by omega) (ezu_at rfl) rfl rfl rfl rfl (ezs_m82_5_1_v4 hI (by omega) hzA hzT) ?_
              rintro _ _ ⟨⟨F, A, rfl, hI⟩, rfl⟩
              refine ezw_aload_n rfl rfl ?_
              refine ezw_bipush (-5) rfl rfl ?_
              refine ezw_call0_1 rfl (by omega) (ezu_at rfl) rfl rfl rfl rfl (ezs_m83_5 hI (by omega) hzA ⟨by decide, by decide⟩) ?_
              rintro _ _ ⟨⟨F, A, rfl, hI⟩, rfl⟩
              refine ezw_goto rfl rfl ?_
              exact ezw_return rfl rfl ⟨⟨F, A, rfl, hI⟩, rfl⟩
          · refine ezw_aload_n rfl rfl ?_
            refine ezw_aload_n rfl rfl ?_
            refine ezs_get_i hI rfl rfl rfl rfl rfl rfl (fun u9 hu9 ku9 => ?_)
            refine ezw_call0_1 rfl (by omega) (ezu_at rfl) rfl rfl rfl rfl (ezs_m83_5 hI (by omega) hzA hu9) ?_
            rintro _ _ ⟨⟨F, A, rfl, hI⟩, rfl⟩
            refine ezw_aload_n rfl rfl ?_
            refine ezw_call0_0 rfl (by omega) (ezu_at rfl) rfl rfl rfl rfl (ezs_m30_1 hI (by omega) hzT) ?_
            rintro _ _ ⟨⟨F, A, rfl, hI⟩, rfl⟩
            refine ezw_goto rfl rfl ?_
            exact ezw_return rfl rfl ⟨⟨F, A, rfl, hI⟩, rfl⟩
        · refine ezw_aload_n rfl rfl ?_
          refine ezw_iconst (-1) rfl rfl ?_
          refine ezw_aload_n rfl rfl ?_
          refine ezs_get_i hI rfl rfl rfl rfl rfl rfl (fun u10 hu10 ku10 => ?_)
          refine ezs_isub rfl (fun u11 hu11 => ?_)
          refine ezw_call0_1 rfl (by omega) (ezu_at rfl) rfl rfl rfl rfl (ezs_m83_5 hI (by omega) hzA hu11) ?_
          rintro _ _ ⟨⟨F, A, rfl, hI⟩, rfl⟩
          refine ezw_aload_n rfl rfl ?_
          refine ezw_call0_0 rfl (by omega) (ezu_at rfl) rfl rfl rfl rfl (ezs_m30_1 hI (by omega) hzT) ?_
          rintro _ _ ⟨⟨F, A, rfl, hI⟩, rfl⟩
          refine ezw_goto rfl rfl ?_
          exact ezw_return rfl rfl ⟨⟨F, A, rfl, hI⟩, rfl⟩
    refine ezw_if_ne rfl rfl ⟨by omega, by omega⟩ (fun h23_3 => ?_) (fun h23_3 => ?_)
    · refine ezw_iconst (1) rfl rfl ?_
      refine ezw_goto rfl rfl ?_
      exact ezw_keepE [true, true, true, true, false] (J59_4 (1) ⟨by omega, by omega⟩ F A hI)
    · refine ezw_aload_n rfl rfl ?_
      refine ezw_bipush (101) rfl rfl ?_
      refine ezw_call0_1 rfl (by omega) (ezu_at rfl) rfl rfl rfl rfl (ezs_m46_1 hI (by omega) ⟨by decide, by decide⟩) ?_
      rintro _ _ ⟨rfl, u12, hu12, rfl⟩
      refine ezw_if_ne rfl rfl ⟨by omega, by omega⟩ (fun h32_12 => ?_) (fun h32_12 => ?_)
      · refine ezw_iconst (1) rfl rfl ?_
        refine ezw_goto rfl rfl ?_
        exact ezw_keepE [true, true, true, true, false] (J59_4 (1) ⟨by omega, by omega⟩ F A hI)
      · refine ezw_aload_n rfl rfl ?_
        refine ezw_bipush (41) rfl rfl ?_
        refine ezw_call0_1 rfl (by omega) (ezu_at rfl) rfl rfl rfl rfl (ezs_m46_1 hI (by omega) ⟨by decide, by decide⟩) ?_
        rintro _ _ ⟨rfl, u13, hu13, rfl⟩
        refine ezw_if_ne rfl rfl ⟨by omega, by omega⟩ (fun h41_13 => ?_) (fun h41_13 => ?_)
        · refine ezw_iconst (1) rfl rfl ?_
          refine ezw_goto rfl rfl ?_
          exact ezw_keepE [true, true, true, true, false] (J59_4 (1) ⟨by omega, by omega⟩ F A hI)
        · refine ezw_aload_n rfl rfl ?_
          refine ezw_sipush (240) rfl rfl ?_
          refine ezw_call0_1 rfl (by omega) (ezu_at rfl) rfl rfl rfl rfl (ezs_m46_1 hI (by omega) ⟨by decide, by decide⟩) ?_
          rintro _ _ ⟨rfl, u14, hu14, rfl⟩
          refine ezw_if_eq rfl rfl ⟨by omega, by omega⟩ (fun h51_14 => ?_) (fun h51_14 => ?_)
          · refine ezw_iconst (0) rfl rfl ?_
            exact ezw_keepE [true, true, true, true, false] (J59_4 (0) ⟨by omega, by omega⟩ F A hI)
          · refine ezw_iconst (1) rfl rfl ?_
            refine ezw_goto rfl rfl ?_
            exact ezw_keepE [true, true, true, true, false] (J59_4 (1) ⟨by omega, by omega⟩ F A hI)
  refine ezw_if_eq rfl rfl ⟨by omega, by omega⟩ (fun h6_1 => ?_) (fun h6_1 => ?_)
  · refine ezw_iconst (0) rfl rfl ?_
    exact ezw_keepE [true, true, true, false, false] (J21_2 (0) ⟨by omega, by omega⟩ F A hI)
  · refine ezw_aload_n rfl rfl ?_
    refine ezs_get_i hI rfl rfl rfl rfl rfl rfl (fun u15 hu15 ku15 => ?_)
    refine ezw_if_lt rfl rfl hu15 (fun h13_15 => ?_) (fun h13_15 => ?_)
    · refine ezw_iconst (0) rfl rfl ?_
      exact ezw_keepE [true, true, true, false, false] (J21_2 (0) ⟨by omega, by omega⟩ F A hI)
    · refine ezw_iconst (1) rfl rfl ?_
      refine ezw_goto rfl rfl ?_
      exact ezw_keepE [true, true, true, false, false] (J21_2 (1) ⟨by omega, by omega⟩ F A hI)
theorem ezs_m81_5_1_v4_v3 {F : Nat → Nat → Int} {A : Nat → Int → Int} (hI : ezs_I fz F0 A0 F A) (hd : 16 ≤ d) (hzA : ∀ q, 4 ≤ q → q < 72 → fz q = false) (hzT : fz 1 = false) : ezw_C l ρ B xa Hb D cA 81 d [ezw_p 5, ezw_p 1, ezw_i (4), ezw_i (3)] (ezu_g e F A) (ezs_P e fz F0 A0 ezs_rn) := by
  refine ezw_met (k := 2) rfl rfl ?_
  refine ezw_iload_n rfl rfl ?_
  refine ezw_iconst (4) rfl rfl ?_
  refine ezw_icmp_lt rfl rfl ⟨by decide, by decide⟩ ⟨by decide, by decide⟩ (fun h2_0 => absurd h2_0 (by omega)) (fun h2_0 => ?_)
  refine ezw_aload_n rfl rfl ?_
  refine ezw_aload_n rfl rfl ?_
  refine ezw_iload_n rfl rfl ?_
  refine ezw_call0_2 rfl (by omega) (ezu_at rfl) rfl rfl rfl rfl (ezs_m82_5_1_v3 hI (by omega) hzA hzT) ?_
  rintro _ _ ⟨⟨F, A, rfl, hI⟩, rfl⟩
  exact ezw_return rfl rfl ⟨⟨F, A, rfl, hI⟩, rfl⟩
theorem ezs_m81_5_1_v3_v3 {F : Nat → Nat → Int} {A : Nat → Int → Int} (hI : ezs_I fz F0 A0 F A) (hd : 17 ≤ d) (hzA : ∀ q, 4 ≤ q → q < 72 → fz q = false) (hzT : fz 1 = false) : ezw_C l ρ B xa Hb D cA 81 d [ezw_p 5, ezw_p 1, ezw_i (3), ezw_i (3)] (ezu_g e F A) (ezs_P e fz F0 A0 ezs_rn) := by
  refine ezw_met (k := 2) rfl rfl ?_
  refine ezw_iload_n rfl rfl ?_
  refine ezw_iconst (4) rfl rfl ?_
  refine ezw_icmp_lt rfl rfl ⟨by decide, by decide⟩ ⟨by decide, by decide⟩ (fun h2_0 => ?_) (fun h2_0 => absurd h2_0 (by omega))
  refine ezw_aload_n rfl rfl ?_
  refine ezw_aload_n rfl rfl ?_
  refine ezw_iload_n rfl rfl ?_
  refine ezw_iconst (1) rfl rfl ?_
  refine ezw_iadd (k := (4)) rfl rfl ?_
  refine ezw_iload_n rfl rfl ?_
  refine ezw_call0_3 rfl (by omega) (ezu_at rfl) rfl rfl rfl rfl (ezs_m81_5_1_v4_v3 hI (by omega) hzA hzT) ?_
  rintro _ _ ⟨⟨F, A, rfl, hI⟩, rfl⟩
  refine ezw_iconst (0) rfl rfl ?_
  refine ezw_istore rfl rfl ?_
  have L24_1 : ∀ c1 : Int, ezw_in c1 → (0) ≤ c1 → ∀ F A, ezs_I fz F0 A0 F A → ezw_E l ρ B xa Hb D cA d ezq_re81 (ezs_P e fz F0 A0 ezs_rn) 24 [some (ezw_p 5), some (ezw_p 1), some (ezw_i (3)), some (ezw_i (3)), some (ezw_i c1), none] [] (ezu_g e F A) := by
    refine ezs_up ?_
    intro c1 hc1 ihc1 gc1 F A hI
    refine ezw_iload rfl rfl ?_
    refine ezw_sipush (1000) rfl rfl ?_
    refine ezw_icmp_ge rfl rfl hc1 ⟨by decide, by decide⟩ (fun h29_2 => ?_) (fun h29_2 => ?_)
    · exact ezw_return rfl rfl ⟨⟨F, A, rfl, hI⟩, rfl⟩
    · refine ezw_aload_n rfl rfl ?_
      refine ezw_call0_0 rfl (by omega) (ezu_at rfl) rfl rfl rfl rfl (ezs_m45_1 hI (by omega)) ?_
      rintro _ _ ⟨rfl, u3, hu3, rfl⟩
      refine ezw_if_eq rfl rfl ⟨by omega, by omega⟩ (fun h36_3 => ?_) (fun h36_3 => ?_)
      · exact ezw_return rfl rfl ⟨⟨F, A, rfl, hI⟩, rfl⟩
      · refine ezw_aload_n rfl rfl ?_
        refine ezs_get_i hI rfl rfl rfl rfl rfl rfl (fun u4 hu4 ku4 => ?_)
        refine ezw_iload_n rfl rfl ?_
        refine ezw_call2_2 rfl (by omega) rfl rfl (ezs_m84 hI (by omega) hu4 ⟨by decide, by decide⟩) ?_
        rintro _ _ ⟨rfl, u5, hu5, rfl⟩
        refine ezw_istore rfl rfl ?_
        refine ezw_iload rfl rfl ?_
        refine ezw_if_ne rfl rfl hu5 (fun h51_5 => ?_) (fun h51_5 => ?_)
        · refine ezw_aload_n rfl rfl ?_
          refine ezw_call0_0 rfl (by omega) (ezu_at rfl) rfl rfl rfl rfl (ezs_m30_1 hI (by omega) hzT) ?_
          rintro _ _ ⟨⟨F, A, rfl, hI⟩, rfl⟩
          refine ezw_aload_n rfl rfl ?_
          refine ezw_aload_n rfl rfl ?_
          refine ezw_iload_n rfl rfl ?_
          refine ezw_iconst (1) rfl rfl ?_
          refine ezw_iadd (k := (4)) rfl rfl ?_
          refine ezw_iload_n rfl rfl ?_
          refine ezw_call0_3 rfl (by omega) (ezu_at rfl) rfl rfl rfl rfl (ezs_m81_5_1_v4_v3 hI (by omega) hzA hzT) ?_
          rintro _ _ ⟨⟨F, A, rfl, hI⟩, rfl⟩
          refine ezw_aload_n rfl rfl ?_
          refine ezw_iload rfl rfl ?_
          refine ezw_call0_1 rfl (by omega) (ezu_at rfl) rfl rfl rfl rfl (ezs_m83_5 hI (by omega) hzA hu5) ?_
          rintro _ _ ⟨⟨F, A, rfl, hI⟩, rfl⟩
          refine ezw_iload_n rfl rfl ?_
          refine ezw_iconst (1) rfl rfl ?_
          refine ezw_icmp_ne rfl rfl ⟨by decide, by decide⟩ ⟨by decide, by decide⟩ (fun h76_5 => ?_) (fun h76_5 => absurd h76_5 (by omega))
          refine ezw_iinc (1) rfl rfl rfl rfl rfl ?_
          refine ezw_goto rfl rfl ?_
          exact ezw_keepE [true, true, true, true, true, false] (ihc1 (c1 + (1)) (by omega) ⟨by omega, by omega⟩ (by omega)  F A hI)
        · exact ezw_return rfl rfl ⟨⟨F, A, rfl, hI⟩, rfl⟩
  exact ezw_keepE [true, true, true, true, true, false] (L24_1 (0) ⟨by decide, by decide⟩ (by omega)  F A hI)
theorem ezs_m81_5_1_v2_v3 {F : Nat → Nat → Int} {A : Nat → Int → Int} (hI : ezs_I fz F0 A0 F A) (hd : 18 ≤ d) (hzA : ∀ q, 4 ≤ q → q < 72 → fz q = false) (hzT : fz 1 = false) : ezw_C l ρ B xa Hb D cA 81 d [ezw_p 5, ezw_p 1, ezw_i (2), ezw_i (3)] (ezu_g e F A) (ezs_P e fz F0 A0 ezs_rn) := by
  refine ezw_met (k := 2) rfl rfl ?_
  refine ezw_iload_n rfl rfl ?_
  refine ezw_iconst (4) rfl rfl ?_
  refine ezw_icmp_lt rfl rfl ⟨by decide, by decide⟩ ⟨by decide, by decide⟩ (fun h2_0 => ?_) (fun h2_0 => absurd h2_0 (by omega))
  refine ezw_aload_n rfl rfl ?_
  refine ezw_aload_n rfl rfl ?_
  refine ezw_iload_n rfl rfl ?_
  refine ezw_iconst (1) rfl rfl ?_
  refine ezw_iadd (k := (3)) rfl rfl ?_
  refine ezw_iload_n rfl rfl ?_
  refine ezw_call0_3 rfl (by omega) (ezu_at rfl) rfl rfl rfl rfl (ezs_m81_5_1_v3_v3 hI (by omega) hzA hzT) ?_
  rintro _ _ ⟨⟨F, A, rfl, hI⟩, rfl⟩
  refine ezw_iconst (0) rfl rfl ?_
  refine ezw_istore rfl rfl ?_
  have L24_1 : ∀ c1 : Int, ezw_in c1 → (0) ≤ c1 → ∀ F A, ezs_I fz F0 A0 F A → ezw_E l ρ B xa Hb D cA d ezq_re81 (ezs_P e fz F0 A0 ezs_rn) 24 [some (ezw_p 5), some (ezw_p 1), some (ezw_i (2)), some (ezw_i (3)), some (ezw_i c1), none] [] (ezu_g e F A) := by
    refine ezs_up ?_
    intro c1 hc1 ihc1 gc1 F A hI
    refine ezw_iload rfl rfl ?_
    refine ezw_sipush (1000) rfl rfl ?_
    refine ezw_icmp_ge rfl rfl hc1 ⟨by decide, by decide⟩ (fun h29_2 => ?_) (fun h29_2 => ?_)
    · exact ezw_return rfl rfl ⟨⟨F, A, rfl, hI⟩, rfl⟩
    · refine ezw_aload_n rfl rfl ?_
      refine ezw_call0_0 rfl (by omega) (ezu_at rfl) rfl rfl rfl rfl (ezs_m45_1 hI (by omega)) ?_
      rintro _ _ ⟨rfl, u3, hu3, rfl⟩
      refine ezw_if_eq rfl rfl ⟨by omega, by omega⟩ (fun h36_3 => ?_) (fun h36_3 => ?_)
      · exact ezw_return rfl rfl ⟨⟨F, A, rfl, hI⟩, rfl⟩
      · refine ezw_aload_n rfl rfl ?_
        refine ezs_get_i hI rfl rfl rfl rfl rfl rfl (fun u4 hu4 ku4 => ?_)
        refine ezw_iload_n rfl rfl ?_
        refine ezw_call2_2 rfl (by omega) rfl rfl (ezs_m84 hI (by omega) hu4 ⟨by decide, by decide⟩) ?_
        rintro _ _ ⟨rfl, u5, hu5, rfl⟩
        refine ezw_istore rfl rfl ?_
        refine ezw_iload rfl rfl ?_
        refine ezw_if_ne rfl rfl hu5 (fun h51_5 => ?_) (fun h51_5 => ?_)
        · refine ezw_aload_n rfl rfl ?_
          refine ezw_call0_0 rfl (by omega) (ezu_at rfl) rfl rfl rfl rfl (ezs_m30_1 hI (by omega) hzT) ?_
          rintro _ _ ⟨⟨F, A, rfl, hI⟩, rfl⟩
          refine ezw_aload_n rfl rfl ?_
          refine ezw_aload_n rfl rfl ?_
          refine ezw_iload_n rfl rfl ?_
          refine ezw_iconst (1) rfl rfl ?_
          refine ezw_iadd (k := (3)) rfl rfl ?_
          refine ezw_iload_n rfl rfl ?_
          refine ezw_call0_3 rfl (by omega) (ezu_at rfl) rfl rfl rfl rfl (ezs_m81_5_1_v3_v3 hI (by omega) hzA hzT) ?_
          rintro _ _ ⟨⟨F, A, rfl, hI⟩, rfl⟩
          refine ezw_aload_n rfl rfl ?_
          refine ezw_iload rfl rfl ?_
          refine ezw_call0_1 rfl (by omega) (ezu_at rfl) rfl rfl rfl rfl (ezs_m83_5 hI (by omega) hzA hu5) ?_
          rintro _ _ ⟨⟨F, A, rfl, hI⟩, rfl⟩
          refine ezw_iload_n rfl rfl ?_
          refine ezw_iconst (1) rfl rfl ?_
          refine ezw_icmp_ne rfl rfl ⟨by decide, by decide⟩ ⟨by decide, by decide⟩ (fun h76_5 => ?_) (fun h76_5 => absurd h76_5 (by omega))
          refine ezw_iinc (1) rfl rfl rfl rfl rfl ?_
          refine ezw_goto rfl rfl ?_
          exact ezw_keepE [true, true, true, true, true, false] (ihc1 (c1 + (1)) (by omega) ⟨by omega, by omega⟩ (by omega)  F A hI)
        · exact ezw_return rfl rfl ⟨⟨F, A, rfl, hI⟩, rfl⟩
  exact ezw_keepE [true, true, true, true, true, false] (L24_1 (0) ⟨by decide, by decide⟩ (by omega)  F A hI)
theorem ezs_m81_5_1_v1_v3 {F : Nat → Nat → Int} {A : Nat → Int → Int} (hI : ezs_I fz F0 A0 F A) (hd : 19 ≤ d) (hzA : ∀ q, 4 ≤ q → q < 72 → fz q = false) (hzT : fz 1 = false) : ezw_C l ρ B xa Hb D cA 81 d [ezw_p 5, ezw_p 1, ezw_i (1), ezw_i (3)] (ezu_g e F A) (ezs_P e fz F0 A0 ezs_rn) := by
  refine ezw_met (k := 2) rfl rfl ?_
  refine ezw_iload_n rfl rfl ?_
  refine ezw_iconst (4) rfl rfl ?_
  refine ezw_icmp_lt rfl rfl ⟨by decide, by decide⟩ ⟨by decide, by decide⟩ (fun h2_0 => ?_) (fun h2_0 => absurd h2_0 (by omega))
  refine ezw_aload_n rfl rfl ?_
  refine ezw_aload_n rfl rfl ?_
  refine ezw_iload_n rfl rfl ?_
  refine ezw_iconst (1) rfl rfl ?_
  refine ezw_iadd (k := (2)) rfl rfl ?_
  refine ezw_iload_n rfl rfl ?_
  refine ezw_call0_3 rfl (by omega) (ezu_at rfl) rfl rfl rfl rfl (ezs_m81_5_1_v2_v3 hI (by omega) hzA hzT) ?_
  rintro _ _ ⟨⟨F, A, rfl, hI⟩, rfl⟩
  refine ezw_iconst (0) rfl rfl ?_
  refine ezw_istore rfl rfl ?_
  have L24_1 : ∀ c1 : Int, ezw_in c1 → (0) ≤ c1 → ∀ F A, ezs_I fz F0 A0 F A → ezw_E l ρ B xa Hb D cA d ezq_re81 (ezs_P e fz F0 A0 ezs_rn) 24 [some (ezw_p 5), some (ezw_p 1), some (ezw_i (1)), some (ezw_i (3)), some (ezw_i c1), none] [] (ezu_g e F A) := by
    refine ezs_up ?_
    intro c1 hc1 ihc1 gc1 F A hI
    refine ezw_iload rfl rfl ?_
    refine ezw_sipush (1000) rfl rfl ?_
    refine ezw_icmp_ge rfl rfl hc1 ⟨by decide, by decide⟩ (fun h29_2 => ?_) (fun h29_2 => ?_)
    · exact ezw_return rfl rfl ⟨⟨F, A, rfl, hI⟩, rfl⟩
    · refine ezw_aload_n rfl rfl ?_
      refine ezw_call0_0 rfl (by omega) (ezu_at rfl) rfl rfl rfl rfl (ezs_m45_1 hI (by omega)) ?_
      rintro _ _ ⟨rfl, u3, hu3, rfl⟩
      refine ezw_if_eq rfl rfl ⟨by omega, by omega⟩ (fun h36_3 => ?_) (fun h36_3 => ?_)
      · exact ezw_return rfl rfl ⟨⟨F, A, rfl, hI⟩, rfl⟩
      · refine ezw_aload_n rfl rfl ?_
        refine ezs_get_i hI rfl rfl rfl rfl rfl rfl (fun u4 hu4 ku4 => ?_)
        refine ezw_iload_n rfl rfl ?_
        refine ezw_call2_2 rfl (by omega) rfl rfl (ezs_m84 hI (by omega) hu4 ⟨by decide, by decide⟩) ?_
        rintro _ _ ⟨rfl, u5, hu5, rfl⟩
        refine ezw_istore rfl rfl ?_
        refine ezw_iload rfl rfl ?_
        refine ezw_if_ne rfl rfl hu5 (fun h51_5 => ?_) (fun h51_5 => ?_)
        · refine ezw_aload_n rfl rfl ?_
          refine ezw_call0_0 rfl (by omega) (ezu_at rfl) rfl rfl rfl rfl (ezs_m30_1 hI (by omega) hzT) ?_
          rintro _ _ ⟨⟨F, A, rfl, hI⟩, rfl⟩
          refine ezw_aload_n rfl rfl ?_
          refine ezw_aload_n rfl rfl ?_
          refine ezw_iload_n rfl rfl ?_
          refine ezw_iconst (1) rfl rfl ?_
          refine ezw_iadd (k := (2)) rfl rfl ?_
          refine ezw_iload_n rfl rfl ?_
          refine ezw_call0_3 rfl (by omega) (ezu_at rfl) rfl rfl rfl rfl (ezs_m81_5_1_v2_v3 hI (by omega) hzA hzT) ?_
          rintro _ _ ⟨⟨F, A, rfl, hI⟩, rfl⟩
          refine ezw_aload_n rfl rfl ?_
          refine ezw_iload rfl rfl ?_
          refine ezw_call0_1 rfl (by omega) (ezu_at rfl) rfl rfl rfl rfl (ezs_m83_5 hI (by omega) hzA hu5) ?_
          rintro _ _ ⟨⟨F, A, rfl, hI⟩, rfl⟩
          refine ezw_iload_n rfl rfl ?_
          refine ezw_iconst (1) rfl rfl ?_
          refine ezw_icmp_ne rfl rfl ⟨by decide, by decide⟩ ⟨by decide, by decide⟩ (fun h76_5 => absurd h76_5 (by omega)) (fun h76_5 => ?_)
          exact ezw_return rfl rfl ⟨⟨F, A, rfl, hI⟩, rfl⟩
        · exact ezw_return rfl rfl ⟨⟨F, A, rfl, hI⟩, rfl⟩
  exact ezw_keepE [true, true, true, true, true, false] (L24_1 (0) ⟨by decide, by decide⟩ (by omega)  F A hI)
theorem ezs_m81_5_1_v0_v3 {F : Nat → Nat → Int} {A : Nat → Int → Int} (hI : ezs_I fz F0 A0 F A) (hd : 20 ≤ d) (hzA : ∀ q, 4 ≤ q → q < 72 → fz q = false) (hzT : fz 1 = false) : ezw_C l ρ B xa Hb D cA 81 d [ezw_p 5, ezw_p 1, ezw_i (0), ezw_i (3)] (ezu_g e F A) (ezs_P e fz F0 A0 ezs_rn) := by
  refine ezw_met (k := 2) rfl rfl ?_
  refine ezw_iload_n rfl rfl ?_
  refine ezw_iconst (4) rfl rfl ?_
  refine ezw_icmp_lt rfl rfl ⟨by decide, by decide⟩ ⟨by decide, by decide⟩ (fun h2_0 => ?_) (fun h2_0 => absurd h2_0 (by omega))
  refine ezw_aload_n rfl rfl ?_
  refine ezw_aload_n rfl rfl ?_
  refine ezw_iload_n rfl rfl ?_
  refine ezw_iconst (1) rfl rfl ?_
  refine ezw_iadd (k := (1)) rfl rfl ?_
  refine ezw_iload_n rfl rfl ?_
  refine ezw_call0_3 rfl (by omega) (ezu_at rfl) rfl rfl rfl rfl (ezs_m81_5_1_v1_v3 hI (by omega) hzA hzT) ?_
  rintro _ _ ⟨⟨F, A, rfl, hI⟩, rfl⟩
  refine ezw_iconst (0) rfl rfl ?_
  refine ezw_istore rfl rfl ?_
  have L24_1 : ∀ c1 : Int, ezw_in c1 → (0) ≤ c1 → ∀ F A, ezs_I fz F0 A0 F A → ezw_E l ρ B xa Hb D cA d ezq_re81 (ezs_P e fz F0 A0 ezs_rn) 24 [some (ezw_p 5), some (ezw_p 1), some (ezw_i (0)), some (ezw_i (3)), some (ezw_i c1), none] [] (ezu_g e F A) := by
    refine ezs_up ?_
    intro c1 hc1 ihc1 gc1 F A hI
    refine ezw_iload rfl rfl ?_
    refine ezw_sipush (1000) rfl rfl ?_
    refine ezw_icmp_ge rfl rfl hc1 ⟨by decide, by decide⟩ (fun h29_2 => ?_) (fun h29_2 => ?_)
    · exact ezw_return rfl rfl ⟨⟨F, A, rfl, hI⟩, rfl⟩
    · refine ezw_aload_n rfl rfl ?_
      refine ezw_call0_0 rfl (by omega) (ezu_at rfl) rfl rfl rfl rfl (ezs_m45_1 hI (by omega)) ?_
      rintro _ _ ⟨rfl, u3, hu3, rfl⟩
      refine ezw_if_eq rfl rfl ⟨by omega, by omega⟩ (fun h36_3 => ?_) (fun h36_3 => ?_)
      · exact ezw_return rfl rfl ⟨⟨F, A, rfl, hI⟩, rfl⟩
      · refine ezw_aload_n rfl rfl ?_
        refine ezs_get_i hI rfl rfl rfl rfl rfl rfl (fun u4 hu4 ku4 => ?_)
        refine ezw_iload_n rfl rfl ?_
        refine ezw_call2_2 rfl (by omega) rfl rfl (ezs_m84 hI (by omega) hu4 ⟨by decide, by decide⟩) ?_
        rintro _ _ ⟨rfl, u5, hu5, rfl⟩
        refine ezw_istore rfl rfl ?_
        refine ezw_iload rfl rfl ?_
        refine ezw_if_ne rfl rfl hu5 (fun h51_5 => ?_) (fun h51_5 => ?_)
        · refine ezw_aload_n rfl rfl ?_
          refine ezw_call0_0 rfl (by omega) (ezu_at rfl) rfl rfl rfl rfl (ezs_m30_1 hI (by omega) hzT) ?_
          rintro _ _ ⟨⟨F, A, rfl, hI⟩, rfl⟩
          refine ezw_aload_n rfl rfl ?_
          refine ezw_aload_n rfl rfl ?_
          refine ezw_iload_n rfl rfl ?_
          refine ezw_iconst (1) rfl rfl ?_
          refine ezw_iadd (k := (1)) rfl rfl ?_
          refine ezw_iload_n rfl rfl ?_
          refine ezw_call0_3 rfl (by omega) (ezu_at rfl) rfl rfl rfl rfl (ezs_m81_5_1_v1_v3 hI (by omega) hzA hzT) ?_
          rintro _ _ ⟨⟨F, A, rfl, hI⟩, rfl⟩
          refine ezw_aload_n rfl rfl ?_
          refine ezw_iload rfl rfl ?_
          refine ezw_call0_1 rfl (by omega) (ezu_at rfl) rfl rfl rfl rfl (ezs_m83_5 hI (by omega) hzA hu5) ?_
          rintro _ _ ⟨⟨F, A, rfl, hI⟩, rfl⟩
          refine ezw_iload_n rfl rfl ?_
          refine ezw_iconst (1) rfl rfl ?_
          refine ezw_icmp_ne rfl rfl ⟨by decide, by decide⟩ ⟨by decide, by decide⟩ (fun h76_5 => ?_) (fun h76_5 => absurd h76_5 (by omega))
          refine ezw_iinc (1) rfl rfl rfl rfl rfl ?_
          refine ezw_goto rfl rfl ?_
          exact ezw_keepE [true, true, true, true, true, false] (ihc1 (c1 + (1)) (by omega) ⟨by omega, by omega⟩ (by omega)  F A hI)
        · exact ezw_return rfl rfl ⟨⟨F, A, rfl, hI⟩, rfl⟩
  exact ezw_keepE [true, true, true, true, true, false] (L24_1 (0) ⟨by decide, by decide⟩ (by omega)  F A hI)
theorem ezs_m82_5_1_v2 {F : Nat → Nat → Int} {A : Nat → Int → Int} (hI : ezs_I fz F0 A0 F A) (hd : 21 ≤ d) (hzA : ∀ q, 4 ≤ q → q < 72 → fz q = false) (hzT : fz 1 = false) : ezw_C l ρ B xa Hb D cA 82 d [ezw_p 5, ezw_p 1, ezw_i (2)] (ezu_g e F A) (ezs_P e fz F0 A0 ezs_rn) := by
  refine ezw_met (k := 2) rfl rfl ?_
  refine ezw_aload_n rfl rfl ?_
  refine ezw_bipush (100) rfl rfl ?_
  refine ezw_call0_1 rfl (by omega) (ezu_at rfl) rfl rfl rfl rfl (ezs_m46_1 hI (by omega) ⟨by decide, by decide⟩) ?_
  rintro _ _ ⟨rfl, u1, hu1, rfl⟩
  have J21_2 : ∀ y2 : Int, ezs_b y2 → ∀ F A, ezs_I fz F0 A0 F A → ezw_E l ρ B xa Hb D cA d ezq_re82 (ezs_P e fz F0 A0 ezs_rn) 21 [some (ezw_p 5), some (ezw_p 1), some (ezw_i (2)), none, none] [(ezw_i y2)] (ezu_g e F A) := by
    intro y2 hy2 F A hI
    refine ezw_istore_n rfl rfl ?_
    refine ezw_iload_n rfl rfl ?_
    have J59_4 : ∀ y4 : Int, ezs_b y4 → ∀ F A, ezs_I fz F0 A0 F A → ezw_E l ρ B xa Hb D cA d ezq_re82 (ezs_P e fz F0 A0 ezs_rn) 59 [some (ezw_p 5), some (ezw_p 1), some (ezw_i (2)), some (ezw_i y2), none] [(ezw_i y4)] (ezu_g e F A) := by
      intro y4 hy4 F A hI
      refine ezw_istore rfl rfl ?_
      refine ezw_iload rfl rfl ?_
      refine ezw_if_eq rfl rfl ⟨by omega, by omega⟩ (fun h63_5 => ?_) (fun h63_5 => ?_)
      · refine ezw_aload_n rfl rfl ?_
        refine ezw_iload rfl rfl ?_
        refine ezw_if_eq rfl rfl ⟨by omega, by omega⟩ (fun h74_5 => ?_) (fun h74_5 => ?_)
        · refine ezw_iconst (1) rfl rfl ?_
          refine ezw_call0_1 rfl (by omega) (ezu_at rfl) rfl rfl rfl rfl (ezs_m50_1 hI (by omega) hzT ⟨by decide, by decide⟩) ?_
          rintro _ _ ⟨⟨F, A, rfl, hI⟩, rfl⟩
          refine ezw_goto rfl rfl ?_
          exact ezw_return rfl rfl ⟨⟨F, A, rfl, hI⟩, rfl⟩
        · refine ezw_iconst (5) rfl rfl ?_
          refine ezw_goto rfl rfl ?_
          refine ezw_call0_1 rfl (by omega) (ezu_at rfl) rfl rfl rfl rfl (ezs_m50_1 hI (by omega) hzT ⟨by decide, by decide⟩) ?_
          rintro _ _ ⟨⟨F, A, rfl, hI⟩, rfl⟩
          refine ezw_goto rfl rfl ?_
          exact ezw_return rfl rfl ⟨⟨F, A, rfl, hI⟩, rfl⟩
      · refine ezw_iload_n rfl rfl ?_
        refine ezw_iconst (5) rfl rfl ?_
        refine ezw_icmp_lt rfl rfl ⟨by decide, by decide⟩ ⟨by decide, by decide⟩ (fun h68_5 => ?_) (fun h68_5 => absurd h68_5 (by omega))
        refine ezw_iload_n rfl rfl ?_
        refine ezw_if_eq rfl rfl ⟨by omega, by omega⟩ (fun h89_5 => ?_) (fun h89_5 => ?_)
        · refine ezw_aload_n rfl rfl ?_
          refine ezw_bipush (101) rfl rfl ?_
          refine ezw_call0_1 rfl (by omega) (ezu_at rfl) rfl rfl rfl rfl (ezs_m46_1 hI (by omega) ⟨by decide, by decide⟩) ?_
          rintro _ _ ⟨rfl, u6, hu6, rfl⟩
          refine ezw_if_eq rfl rfl ⟨by omega, by omega⟩ (fun h115_6 => ?_) (fun h115_6 => ?_)
          · refine ezw_aload_n rfl rfl ?_
            refine ezw_bipush (41) rfl rfl ?_
            refine ezw_call0_1 rfl (by omega) (ezu_at rfl) rfl rfl rfl rfl (ezs_m46_1 hI (by omega) ⟨by decide, by decide⟩) ?_
            rintro _ _ ⟨rfl, u7, hu7, rfl⟩
            refine ezw_if_eq rfl rfl ⟨by omega, by omega⟩ (fun h139_7 => ?_) (fun h139_7 => ?_)
            · refine ezw_aload_n rfl rfl ?_
              refine ezw_call0_0 rfl (by omega) (ezu_at rfl) rfl rfl rfl rfl (ezs_m30_1 hI (by omega) hzT) ?_
              rintro _ _ ⟨⟨F, A, rfl, hI⟩, rfl⟩
              refine ezw_aload_n rfl rfl ?_
              refine ezw_aload_n rfl rfl ?_
              refine ezw_iconst (0) rfl rfl ?_
              refine ezw_iload_n rfl rfl ?_
              refine ezw_iconst (1) rfl rfl ?_
              refine ezw_iadd (k := (3)) rfl rfl ?_
              refine ezw_call0_3 rfl (by omega) (ezu_at rfl) rfl rfl rfl rfl (ezs_m81_5_1_v0_v3 hI (by omega) hzA hzT) ?_
              rintro _ _ ⟨⟨F, A, rfl, hI⟩, rfl⟩
              refine ezw_aload_n rfl rfl ?_
              refine ezw_sipush (241) rfl rfl ?_
              refine ezw_call0_1 rfl (by omega) (ezu_at rfl) rfl rfl rfl rfl (ezs_m46_1 hI (by omega) ⟨by decide, by decide⟩) ?_
              rintro _ _ ⟨rfl, u8, hu8, rfl⟩
              refine ezw_if_eq rfl rfl ⟨by omega, by omega⟩ (fun h183_8 => ?_) (fun h183_8 => ?_)
              · refine ezw_aload_n rfl rfl ?_
                refine ezw_iconst (1) rfl rfl ?_
                refine ezw_call0_1 rfl (by omega) (ezu_at rfl) rfl rfl rfl rfl (ezs_m50_1 hI (by omega) hzT ⟨by decide, by decide⟩) ?_
                rintro _ _ ⟨⟨F, A, rfl, hI⟩, rfl⟩
                exact ezw_return rfl rfl ⟨⟨F, A, rfl, hI⟩, rfl⟩
              · refine ezw_aload_n rfl rfl ?_
                refine ezw_call0_0 rfl (by omega) (ezu_at rfl) rfl rfl rfl rfl (ezs_m30_1 hI (by omega) hzT) ?_
                rintro _ _ ⟨⟨F, A, rfl, hI⟩, rfl⟩
                refine ezw_goto rfl rfl ?_
                exact ezw_return rfl rfl ⟨⟨F, A, rfl, hI⟩, rfl⟩
            · refine ezw_aload_n rfl rfl ?_
              refine ezw_call0_0 rfl (by omega) (ezu_at rfl) rfl rfl rfl rfl (ezs_m30_1 hI (by omega) hzT) ?_
              rintro _ _ ⟨⟨F, A, rfl, hI⟩, rfl⟩
              refine ezw_aload_n rfl rfl ?_
              refine ezw_aload_n rfl rfl ?_
              refine ezw_iload_n rfl rfl ?_
              refine ezw_iconst (1) rfl rfl ?_
              refine ezw_iadd (k := (3)) rfl rfl ?_
              refine ezw_call0_2 rfl (by omega) (ezu_at rfl) rfl rfl rfl rfl (ezs_m82_5_1_v3 hI (by omega) hzA hzT) ?_
              rintro _ _ ⟨⟨F, A, rfl, hI⟩, rfl⟩
              refine ezw_aload_n rfl rfl ?_
              refine ezw_bipush (-5) rfl rfl ?_
              refine ezw_call0_1 rfl (by omega) (ezu_at rfl) rfl rfl rfl rfl (ezs_m83_5 hI (by omega) hzA ⟨by decide, by decide⟩) ?_
              rintro _ _ ⟨⟨F, A, rfl, hI⟩, rfl⟩
              refine ezw_goto rfl rfl ?_
              exact ezw_return rfl rfl ⟨⟨F, A, rfl, hI⟩, rfl⟩
          · refine ezw_aload_n rfl rfl ?_
            refine ezw_aload_n rfl rfl ?_
            refine ezs_get_i hI rfl rfl rfl rfl rfl rfl (fun u9 hu9 ku9 => ?_)
            refine ezw_call0_1 rfl (by omega) (ezu_at rfl) rfl rfl rfl rfl (ezs_m83_5 hI (by omega) hzA hu9) ?_
            rintro _ _ ⟨⟨F, A, rfl, hI⟩, rfl⟩
            refine ezw_aload_n rfl rfl ?_
            refine ezw_call0_0 rfl (by omega) (ezu_at rfl) rfl rfl rfl rfl (ezs_m30_1 hI (by omega) hzT) ?_
            rintro _ _ ⟨⟨F, A, rfl, hI⟩, rfl⟩
            refine ezw_goto rfl rfl ?_
            exact ezw_return rfl rfl ⟨⟨F, A, rfl, hI⟩, rfl⟩
        · refine ezw_aload_n rfl rfl ?_
          refine ezw_iconst (-1) rfl rfl ?_
          refine ezw_aload_n rfl rfl ?_
          refine ezs_get_i hI rfl rfl rfl rfl rfl rfl (fun u10 hu10 ku10 => ?_)
          refine ezs_isub rfl (fun u11 hu11 => ?_)
          refine ezw_call0_1 rfl (by omega) (ezu_at rfl) rfl rfl rfl rfl (ezs_m83_5 hI (by omega) hzA hu11) ?_
          rintro _ _ ⟨⟨F, A, rfl, hI⟩, rfl⟩
          refine ezw_aload_n rfl rfl ?_
          refine ezw_call0_0 rfl (by omega) (ezu_at rfl) rfl rfl rfl rfl (ezs_m30_1 hI (by omega) hzT) ?_
          rintro _ _ ⟨⟨F, A, rfl, hI⟩, rfl⟩
          refine ezw_goto rfl rfl ?_
          exact ezw_return rfl rfl ⟨⟨F, A, rfl, hI⟩, rfl⟩
    refine ezw_if_ne rfl rfl ⟨by omega, by omega⟩ (fun h23_3 => ?_) (fun h23_3 => ?_)
    · refine ezw_iconst (1) rfl rfl ?_
      refine ezw_goto rfl rfl ?_
      exact ezw_keepE [true, true, true, true, false] (J59_4 (1) ⟨by omega, by omega⟩ F A hI)
    · refine ezw_aload_n rfl rfl ?_
      refine ezw_bipush (101) rfl rfl ?_
      refine ezw_call0_1 rfl (by omega) (ezu_at rfl) rfl rfl rfl rfl (ezs_m46_1 hI (by omega) ⟨by decide, by decide⟩) ?_
      rintro _ _ ⟨rfl, u12, hu12, rfl⟩
      refine ezw_if_ne rfl rfl ⟨by omega, by omega⟩ (fun h32_12 => ?_) (fun h32_12 => ?_)
      · refine ezw_iconst (1) rfl rfl ?_
        refine ezw_goto rfl rfl ?_
        exact ezw_keepE [true, true, true, true, false] (J59_4 (1) ⟨by omega, by omega⟩ F A hI)
      · refine ezw_aload_n rfl rfl ?_
        refine ezw_bipush (41) rfl rfl ?_
        refine ezw_call0_1 rfl (by omega) (ezu_at rfl) rfl rfl rfl rfl (ezs_m46_1 hI (by omega) ⟨by decide, by decide⟩) ?_
        rintro _ _ ⟨rfl, u13, hu13, rfl⟩
        refine ezw_if_ne rfl rfl ⟨by omega, by omega⟩ (fun h41_13 => ?_) (fun h41_13 => ?_)
        · refine ezw_iconst (1) rfl rfl ?_
          refine ezw_goto rfl rfl ?_
          exact ezw_keepE [true, true, true, true, false] (J59_4 (1) ⟨by omega, by omega⟩ F A hI)
        · refine ezw_aload_n rfl rfl ?_
          refine ezw_sipush (240) rfl rfl ?_
          refine ezw_call0_1 rfl (by omega) (ezu_at rfl) rfl rfl rfl rfl (ezs_m46_1 hI (by omega) ⟨by decide, by decide⟩) ?_
          rintro _ _ ⟨rfl, u14, hu14, rfl⟩
          refine ezw_if_eq rfl rfl ⟨by omega, by omega⟩ (fun h51_14 => ?_) (fun h51_14 => ?_)
          · refine ezw_iconst (0) rfl rfl ?_
            exact ezw_keepE [true, true, true, true, false] (J59_4 (0) ⟨by omega, by omega⟩ F A hI)
          · refine ezw_iconst (1) rfl rfl ?_
            refine ezw_goto rfl rfl ?_
            exact ezw_keepE [true, true, true, true, false] (J59_4 (1) ⟨by omega, by omega⟩ F A hI)
  refine ezw_if_eq rfl rfl ⟨by omega, by omega⟩ (fun h6_1 => ?_) (fun h6_1 => ?_)
  · refine ezw_iconst (0) rfl rfl ?_
    exact ezw_keepE [true, true, true, false, false] (J21_2 (0) ⟨by omega, by omega⟩ F A hI)
  · refine ezw_aload_n rfl rfl ?_
    refine ezs_get_i hI rfl rfl rfl rfl rfl rfl (fun u15 hu15 ku15 => ?_)
    refine ezw_if_lt rfl rfl hu15 (fun h13_15 => ?_) (fun h13_15 => ?_)
    · refine ezw_iconst (0) rfl rfl ?_
      exact ezw_keepE [true, true, true, false, false] (J21_2 (0) ⟨by omega, by omega⟩ F A hI)
    · refine ezw_iconst (1) rfl rfl ?_
      refine ezw_goto rfl rfl ?_
      exact ezw_keepE [true, true, true, false, false] (J21_2 (1) ⟨by omega, by omega⟩ F A hI)
theorem ezs_m81_5_1_v4_v2 {F : Nat → Nat → Int} {A : Nat → Int → Int} (hI : ezs_I fz F0 A0 F A) (hd : 22 ≤ d) (hzA : ∀ q, 4 ≤ q → q < 72 → fz q = false) (hzT : fz 1 = false) : ezw_C l ρ B xa Hb D cA 81 d [ezw_p 5, ezw_p 1, ezw_i (4), ezw_i (2)] (ezu_g e F A) (ezs_P e fz F0 A0 ezs_rn) := by
  refine ezw_met (k := 2) rfl rfl ?_
  refine ezw_iload_n rfl rfl ?_
  refine ezw_iconst (4) rfl rfl ?_
  refine ezw_icmp_lt rfl rfl ⟨by decide, by decide⟩ ⟨by decide, by decide⟩ (fun h2_0 => absurd h2_0 (by omega)) (fun h2_0 => ?_)
  refine ezw_aload_n rfl rfl ?_
  refine ezw_aload_n rfl rfl ?_
  refine ezw_iload_n rfl rfl ?_
  refine ezw_call0_2 rfl (by omega) (ezu_at rfl) rfl rfl rfl rfl (ezs_m82_5_1_v2 hI (by omega) hzA hzT) ?_
  rintro _ _ ⟨⟨F, A, rfl, hI⟩, rfl⟩
  exact ezw_return rfl rfl ⟨⟨F, A, rfl, hI⟩, rfl⟩
theorem ezs_m81_5_1_v3_v2 {F : Nat → Nat → Int} {A : Nat → Int → Int} (hI : ezs_I fz F0 A0 F A) (hd : 23 ≤ d) (hzA : ∀ q, 4 ≤ q → q < 72 → fz q = false) (hzT : fz 1 = false) : ezw_C l ρ B xa Hb D cA 81 d [ezw_p 5, ezw_p 1, ezw_i (3), ezw_i (2)] (ezu_g e F A) (ezs_P e fz F0 A0 ezs_rn) := by
  refine ezw_met (k := 2) rfl rfl ?_
  refine ezw_iload_n rfl rfl ?_
  refine ezw_iconst (4) rfl rfl ?_
  refine ezw_icmp_lt rfl rfl ⟨by decide, by decide⟩ ⟨by decide, by decide⟩ (fun h2_0 => ?_) (fun h2_0 => absurd h2_0 (by omega))
  refine ezw_aload_n rfl rfl ?_
  refine ezw_aload_n rfl rfl ?_
  refine ezw_iload_n rfl rfl ?_
  refine ezw_iconst (1) rfl rfl ?_
  refine ezw_iadd (k := (4)) rfl rfl ?_
  refine ezw_iload_n rfl rfl ?_
  refine ezw_call0_3 rfl (by omega) (ezu_at rfl) rfl rfl rfl rfl (ezs_m81_5_1_v4_v2 hI (by omega) hzA hzT) ?_
  rintro _ _ ⟨⟨F, A, rfl, hI⟩, rfl⟩
  refine ezw_iconst (0) rfl rfl ?_
  refine ezw_istore rfl rfl ?_
  have L24_1 : ∀ c1 : Int, ezw_in c1 → (0) ≤ c1 → ∀ F A, ezs_I fz F0 A0 F A → ezw_E l ρ B xa Hb D cA d ezq_re81 (ezs_P e fz F0 A0 ezs_rn) 24 [some (ezw_p 5), some (ezw_p 1), some (ezw_i (3)), some (ezw_i (2)), some (ezw_i c1), none] [] (ezu_g e F A) := by
    refine ezs_up ?_
    intro c1 hc1 ihc1 gc1 F A hI
    refine ezw_iload rfl rfl ?_
    refine ezw_sipush (1000) rfl rfl ?_
    refine ezw_icmp_ge rfl rfl hc1 ⟨by decide, by decide⟩ (fun h29_2 => ?_) (fun h29_2 => ?_)
    · exact ezw_return rfl rfl ⟨⟨F, A, rfl, hI⟩, rfl⟩
    · refine ezw_aload_n rfl rfl ?_
      refine ezw_call0_0 rfl (by omega) (ezu_at rfl) rfl rfl rfl rfl (ezs_m45_1 hI (by omega)) ?_
      rintro _ _ ⟨rfl, u3, hu3, rfl⟩
      refine ezw_if_eq rfl rfl ⟨by omega, by omega⟩ (fun h36_3 => ?_) (fun h36_3 => ?_)
      · exact ezw_return rfl rfl ⟨⟨F, A, rfl, hI⟩, rfl⟩
      · refine ezw_aload_n rfl rfl ?_
        refine ezs_get_i hI rfl rfl rfl rfl rfl rfl (fun u4 hu4 ku4 => ?_)
        refine ezw_iload_n rfl rfl ?_
        refine ezw_call2_2 rfl (by omega) rfl rfl (ezs_m84 hI (by omega) hu4 ⟨by decide, by decide⟩) ?_
        rintro _ _ ⟨rfl, u5, hu5, rfl⟩
        refine ezw_istore rfl rfl ?_
        refine ezw_iload rfl rfl ?_
        refine ezw_if_ne rfl rfl hu5 (fun h51_5 => ?_) (fun h51_5 => ?_)
        · refine ezw_aload_n rfl rfl ?_
          refine ezw_call0_0 rfl (by omega) (ezu_at rfl) rfl rfl rfl rfl (ezs_m30_1 hI (by omega) hzT) ?_
          rintro _ _ ⟨⟨F, A, rfl, hI⟩, rfl⟩
          refine ezw_aload_n rfl rfl ?_
          refine ezw_aload_n rfl rfl ?_
          refine ezw_iload_n rfl rfl ?_
          refine ezw_iconst (1) rfl rfl ?_
          refine ezw_iadd (k := (4)) rfl rfl ?_
          refine ezw_iload_n rfl rfl ?_
          refine ezw_call0_3 rfl (by omega) (ezu_at rfl) rfl rfl rfl rfl (ezs_m81_5_1_v4_v2 hI (by omega) hzA hzT) ?_
          rintro _ _ ⟨⟨F, A, rfl, hI⟩, rfl⟩
          refine ezw_aload_n rfl rfl ?_
          refine ezw_iload rfl rfl ?_
          refine ezw_call0_1 rfl (by omega) (ezu_at rfl) rfl rfl rfl rfl (ezs_m83_5 hI (by omega) hzA hu5) ?_
          rintro _ _ ⟨⟨F, A, rfl, hI⟩, rfl⟩
          refine ezw_iload_n rfl rfl ?_
          refine ezw_iconst (1) rfl rfl ?_
          refine ezw_icmp_ne rfl rfl ⟨by decide, by decide⟩ ⟨by decide, by decide⟩ (fun h76_5 => ?_) (fun h76_5 => absurd h76_5 (by omega))
          refine ezw_iinc (1) rfl rfl rfl rfl rfl ?_
          refine ezw_goto rfl rfl ?_
          exact ezw_keepE [true, true, true, true, true, false] (ihc1 (c1 + (1)) (by omega) ⟨by omega, by omega⟩ (by omega)  F A hI)
        · exact ezw_return rfl rfl ⟨⟨F, A, rfl, hI⟩, rfl⟩
  exact ezw_keepE [true, true, true, true, true, false] (L24_1 (0) ⟨by decide, by decide⟩ (by omega)  F A hI)
theorem ezs_m81_5_1_v2_v2 {F : Nat → Nat → Int} {A : Nat → Int → Int} (hI : ezs_I fz F0 A0 F A) (hd : 24 ≤ d) (hzA : ∀ q, 4 ≤ q → q < 72 → fz q = false) (hzT : fz 1 = false) : ezw_C l ρ B xa Hb D cA 81 d [ezw_p 5, ezw_p 1, ezw_i (2), ezw_i (2)] (ezu_g e F A) (ezs_P e fz F0 A0 ezs_rn) := by
  refine ezw_met (k := 2) rfl rfl ?_
  refine ezw_iload_n rfl rfl ?_
  refine ezw_iconst (4) rfl rfl ?_
  refine ezw_icmp_lt rfl rfl ⟨by decide, by decide⟩ ⟨by decide, by decide⟩ (fun h2_0 => ?_) (fun h2_0 => absurd h2_0 (by omega))
  refine ezw_aload_n rfl rfl ?_
  refine ezw_aload_n rfl rfl ?_
  refine ezw_iload_n rfl rfl ?_
  refine ezw_iconst (1) rfl rfl ?_
  refine ezw_iadd (k := (3)) rfl rfl ?_
  refine ezw_iload_n rfl rfl ?_
  refine ezw_call0_3 rfl (by omega) (ezu_at rfl) rfl rfl rfl rfl (ezs_m81_5_1_v3_v2 hI (by omega) hzA hzT) ?_
  rintro _ _ ⟨⟨F, A, rfl, hI⟩, rfl⟩
  refine ezw_iconst (0) rfl rfl ?_
  refine ezw_istore rfl rfl ?_
  have L24_1 : ∀ c1 : Int, ezw_in c1 → (0) ≤ c1 → ∀ F A, ezs_I fz F0 A0 F A → ezw_E l ρ B xa Hb D cA d ezq_re81 (ezs_P e fz F0 A0 ezs_rn) 24 [some (ezw_p 5), some (ezw_p 1), some (ezw_i (2)), some (ezw_i (2)), some (ezw_i c1), none] [] (ezu_g e F A) := by
    refine ezs_up ?_
    intro c1 hc1 ihc1 gc1 F A hI
    refine ezw_iload rfl rfl ?_
    refine ezw_sipush (1000) rfl rfl ?_
    refine ezw_icmp_ge rfl rfl hc1 ⟨by decide, by decide⟩ (fun h29_2 => ?_) (fun h29_2 => ?_)
    · exact ezw_return rfl rfl ⟨⟨F, A, rfl, hI⟩, rfl⟩
    · refine ezw_aload_n rfl rfl ?_
      refine ezw_call0_0 rfl (by omega) (ezu_at rfl) rfl rfl rfl rfl (ezs_m45_1 hI (by omega)) ?_
      rintro _ _ ⟨rfl, u3, hu3, rfl⟩
      refine ezw_if_eq rfl rfl ⟨by omega, by omega⟩ (fun h36_3 => ?_) (fun h36_3 => ?_)
      · exact ezw_return rfl rfl ⟨⟨F, A, rfl, hI⟩, rfl⟩
      · refine ezw_aload_n rfl rfl ?_
        refine ezs_get_i hI rfl rfl rfl rfl rfl rfl (fun u4 hu4 ku4 => ?_)
        refine ezw_iload_n rfl rfl ?_
        refine ezw_call2_2 rfl (by omega) rfl rfl (ezs_m84 hI (by omega) hu4 ⟨by decide, by decide⟩) ?_
        rintro _ _ ⟨rfl, u5, hu5, rfl⟩
        refine ezw_istore rfl rfl ?_
        refine ezw_iload rfl rfl ?_
        refine ezw_if_ne rfl rfl hu5 (fun h51_5 => ?_) (fun h51_5 => ?_)
        · refine ezw_aload_n rfl rfl ?_
          refine ezw_call0_0 rfl (by omega) (ezu_at rfl) rfl rfl rfl rfl (ezs_m30_1 hI (by omega) hzT) ?_
          rintro _ _ ⟨⟨F, A, rfl, hI⟩, rfl⟩
          refine ezw_aload_n rfl rfl ?_
          refine ezw_aload_n rfl rfl ?_
          refine ezw_iload_n rfl rfl ?_
          refine ezw_iconst (1) rfl rfl ?_
          refine ezw_iadd (k := (3)) rfl rfl ?_
          refine ezw_iload_n rfl rfl ?_
          refine ezw_call0_3 rfl (by omega) (ezu_at rfl) rfl rfl rfl rfl (ezs_m81_5_1_v3_v2 hI (by omega) hzA hzT) ?_
          rintro _ _ ⟨⟨F, A, rfl, hI⟩, rfl⟩
          refine ezw_aload_n rfl rfl ?_
          refine ezw_iload rfl rfl ?_
          refine ezw_call0_1 rfl (by omega) (ezu_at rfl) rfl rfl rfl rfl (ezs_m83_5 hI (by omega) hzA hu5) ?_
          rintro _ _ ⟨⟨F, A, rfl, hI⟩, rfl⟩
          refine ezw_iload_n rfl rfl ?_
          refine ezw_iconst (1) rfl rfl ?_
          refine ezw_icmp_ne rfl rfl ⟨by decide, by decide⟩ ⟨by decide, by decide⟩ (fun h76_5 => ?_) (fun h76_5 => absurd h76_5 (by omega))
          refine ezw_iinc (1) rfl rfl rfl rfl rfl ?_
          refine ezw_goto rfl rfl ?_
          exact ezw_keepE [true, true, true, true, true, false] (ihc1 (c1 + (1)) (by omega) ⟨by omega, by omega⟩ (by omega)  F A hI)
        · exact ezw_return rfl rfl ⟨⟨F, A, rfl, hI⟩, rfl⟩
  exact ezw_keepE [true, true, true, true, true, false] (L24_1 (0) ⟨by decide, by decide⟩ (by omega)  F A hI)
theorem ezs_m81_5_1_v1_v2 {F : Nat → Nat → Int} {A : Nat → Int → Int} (hI : ezs_I fz F0 A0 F A) (hd : 25 ≤ d) (hzA : ∀ q, 4 ≤ q → q < 72 → fz q = false) (hzT : fz 1 = false) : ezw_C l ρ B xa Hb D cA 81 d [ezw_p 5, ezw_p 1, ezw_i (1), ezw_i (2)] (ezu_g e F A) (ezs_P e fz F0 A0 ezs_rn) := by
  refine ezw_met (k := 2) rfl rfl ?_
  refine ezw_iload_n rfl rfl ?_
  refine ezw_iconst (4) rfl rfl ?_
  refine ezw_icmp_lt rfl rfl ⟨by decide, by decide⟩ ⟨by decide, by decide⟩ (fun h2_0 => ?_) (fun h2_0 => absurd h2_0 (by omega))
  refine ezw_aload_n rfl rfl ?_
  refine ezw_aload_n rfl rfl ?_
  refine ezw_iload_n rfl rfl ?_
  refine ezw_iconst (1) rfl rfl ?_
  refine ezw_iadd (k := (2)) rfl rfl ?_
  refine ezw_iload_n rfl rfl ?_
  refine ezw_call0_3 rfl (by omega) (ezu_at rfl) rfl rfl rfl rfl (ezs_m81_5_1_v2_v2 hI (by omega) hzA hzT) ?_
  rintro _ _ ⟨⟨F, A, rfl, hI⟩, rfl⟩
  refine ezw_iconst (0) rfl rfl ?_
  refine ezw_istore rfl rfl ?_
  have L24_1 : ∀ c1 : Int, ezw_in c1 → (0) ≤ c1 → ∀ F A, ezs_I fz F0 A0 F A → ezw_E l ρ B xa Hb D cA d ezq_re81 (ezs_P e fz F0 A0 ezs_rn) 24 [some (ezw_p 5), some (ezw_p 1), some (ezw_i (1)), some (ezw_i (2)), some (ezw_i c1), none] [] (ezu_g e F A) := by
    refine ezs_up ?_
    intro c1 hc1 ihc1 gc1 F A hI
    refine ezw_iload rfl rfl ?_
    refine ezw_sipush (1000) rfl rfl ?_
    refine ezw_icmp_ge rfl rfl hc1 ⟨by decide, by decide⟩ (fun h29_2 => ?_) (fun h29_2 => ?_)
    · exact ezw_return rfl rfl ⟨⟨F, A, rfl, hI⟩, rfl⟩
    · refine ezw_aload_n rfl rfl ?_
      refine ezw_call0_0 rfl (by omega) (ezu_at rfl) rfl rfl rfl rfl (ezs_m45_1 hI (by omega)) ?_
      rintro _ _ ⟨rfl, u3, hu3, rfl⟩
      refine ezw_if_eq rfl rfl ⟨by omega, by omega⟩ (fun h36_3 => ?_) (fun h36_3 => ?_)
      · exact ezw_return rfl rfl ⟨⟨F, A, rfl, hI⟩, rfl⟩
      · refine ezw_aload_n rfl rfl ?_
        refine ezs_get_i hI rfl rfl rfl rfl rfl rfl (fun u4 hu4 ku4 => ?_)
        refine ezw_iload_n rfl rfl ?_
        refine ezw_call2_2 rfl (by omega) rfl rfl (ezs_m84 hI (by omega) hu4 ⟨by decide, by decide⟩) ?_
        rintro _ _ ⟨rfl, u5, hu5, rfl⟩
        refine ezw_istore rfl rfl ?_
        refine ezw_iload rfl rfl ?_
        refine ezw_if_ne rfl rfl hu5 (fun h51_5 => ?_) (fun h51_5 => ?_)
        · refine ezw_aload_n rfl rfl ?_
          refine ezw_call0_0 rfl (by omega) (ezu_at rfl) rfl rfl rfl rfl (ezs_m30_1 hI (by omega) hzT) ?_
          rintro _ _ ⟨⟨F, A, rfl, hI⟩, rfl⟩
          refine ezw_aload_n rfl rfl ?_
          refine ezw_aload_n rfl rfl ?_
          refine ezw_iload_n rfl rfl ?_
          refine ezw_iconst (1) rfl rfl ?_
          refine ezw_iadd (k := (2)) rfl rfl ?_
          refine ezw_iload_n rfl rfl ?_
          refine ezw_call0_3 rfl (by omega) (ezu_at rfl) rfl rfl rfl rfl (ezs_m81_5_1_v2_v2 hI (by omega) hzA hzT) ?_
          rintro _ _ ⟨⟨F, A, rfl, hI⟩, rfl⟩
          refine ezw_aload_n rfl rfl ?_
          refine ezw_iload rfl rfl ?_
          refine ezw_call0_1 rfl (by omega) (ezu_at rfl) rfl rfl rfl rfl (ezs_m83_5 hI (by omega) hzA hu5) ?_
          rintro _ _ ⟨⟨F, A, rfl, hI⟩, rfl⟩
          refine ezw_iload_n rfl rfl ?_
          refine ezw_iconst (1) rfl rfl ?_
          refine ezw_icmp_ne rfl rfl ⟨by decide, by decide⟩ ⟨by decide, by decide⟩ (fun h76_5 => absurd h76_5 (by omega)) (fun h76_5 => ?_)
          exact ezw_return rfl rfl ⟨⟨F, A, rfl, hI⟩, rfl⟩
        · exact ezw_return rfl rfl ⟨⟨F, A, rfl, hI⟩, rfl⟩
  exact ezw_keepE [true, true, true, true, true, false] (L24_1 (0) ⟨by decide, by decide⟩ (by omega)  F A hI)
theorem ezs_m81_5_1_v0_v2 {F : Nat → Nat → Int} {A : Nat → Int → Int} (hI : ezs_I fz F0 A0 F A) (hd : 26 ≤ d) (hzA : ∀ q, 4 ≤ q → q < 72 → fz q = false) (hzT : fz 1 = false) : ezw_C l ρ B xa Hb D cA 81 d [ezw_p 5, ezw_p 1, ezw_i (0), ezw_i (2)] (ezu_g e F A) (ezs_P e fz F0 A0 ezs_rn) := by
  refine ezw_met (k := 2) rfl rfl ?_
  refine ezw_iload_n rfl rfl ?_
  refine ezw_iconst (4) rfl rfl ?_
  refine ezw_icmp_lt rfl rfl ⟨by decide, by decide⟩ ⟨by decide, by decide⟩ (fun h2_0 => ?_) (fun h2_0 => absurd h2_0 (by omega))
  refine ezw_aload_n rfl rfl ?_
  refine ezw_aload_n rfl rfl ?_
  refine ezw_iload_n rfl rfl ?_
  refine ezw_iconst (1) rfl rfl ?_
  refine ezw_iadd (k := (1)) rfl rfl ?_
  refine ezw_iload_n rfl rfl ?_
  refine ezw_call0_3 rfl (by omega) (ezu_at rfl) rfl rfl rfl rfl (ezs_m81_5_1_v1_v2 hI (by omega) hzA hzT) ?_
  rintro _ _ ⟨⟨F, A, rfl, hI⟩, rfl⟩
  refine ezw_iconst (0) rfl rfl ?_
  refine ezw_istore rfl rfl ?_
  have L24_1 : ∀ c1 : Int, ezw_in c1 → (0) ≤ c1 → ∀ F A, ezs_I fz F0 A0 F A → ezw_E l ρ B xa Hb D cA d ezq_re81 (ezs_P e fz F0 A0 ezs_rn) 24 [some (ezw_p 5), some (ezw_p 1), some (ezw_i (0)), some (ezw_i (2)), some (ezw_i c1), none] [] (ezu_g e F A) := by
    refine ezs_up ?_
    intro c1 hc1 ihc1 gc1 F A hI
    refine ezw_iload rfl rfl ?_
    refine ezw_sipush (1000) rfl rfl ?_
    refine ezw_icmp_ge rfl rfl hc1 ⟨by decide, by decide⟩ (fun h29_2 => ?_) (fun h29_2 => ?_)
    · exact ezw_return rfl rfl ⟨⟨F, A, rfl, hI⟩, rfl⟩
    · refine ezw_aload_n rfl rfl ?_
      refine ezw_call0_0 rfl (by omega) (ezu_at rfl) rfl rfl rfl rfl (ezs_m45_1 hI (by omega)) ?_
      rintro _ _ ⟨rfl, u3, hu3, rfl⟩
      refine ezw_if_eq rfl rfl ⟨by omega, by omega⟩ (fun h36_3 => ?_) (fun h36_3 => ?_)
      · exact ezw_return rfl rfl ⟨⟨F, A, rfl, hI⟩, rfl⟩
      · refine ezw_aload_n rfl rfl ?_
        refine ezs_get_i hI rfl rfl rfl rfl rfl rfl (fun u4 hu4 ku4 => ?_)
        refine ezw_iload_n rfl rfl ?_
        refine ezw_call2_2 rfl (by omega) rfl rfl (ezs_m84 hI (by omega) hu4 ⟨by decide, by decide⟩) ?_
        rintro _ _ ⟨rfl, u5, hu5, rfl⟩
        refine ezw_istore rfl rfl ?_
        refine ezw_iload rfl rfl ?_
        refine ezw_if_ne rfl rfl hu5 (fun h51_5 => ?_) (fun h51_5 => ?_)
        · refine ezw_aload_n rfl rfl ?_
          refine ezw_call0_0 rfl (by omega) (ezu_at rfl) rfl rfl rfl rfl (ezs_m30_1 hI (by omega) hzT) ?_
          rintro _ _ ⟨⟨F, A, rfl, hI⟩, rfl⟩
          refine ezw_aload_n rfl rfl ?_
          refine ezw_aload_n rfl rfl ?_
          refine ezw_iload_n rfl rfl ?_
          refine ezw_iconst (1) rfl rfl ?_
          refine ezw_iadd (k := (1)) rfl rfl ?_
          refine ezw_iload_n rfl rfl ?_
          refine ezw_call0_3 rfl (by omega) (ezu_at rfl) rfl rfl rfl rfl (ezs_m81_5_1_v1_v2 hI (by omega) hzA hzT) ?_
          rintro _ _ ⟨⟨F, A, rfl, hI⟩, rfl⟩
          refine ezw_aload_n rfl rfl ?_
          refine ezw_iload rfl rfl ?_
          refine ezw_call0_1 rfl (by omega) (ezu_at rfl) rfl rfl rfl rfl (ezs_m83_5 hI (by omega) hzA hu5) ?_
          rintro _ _ ⟨⟨F, A, rfl, hI⟩, rfl⟩
          refine ezw_iload_n rfl rfl ?_
          refine ezw_iconst (1) rfl rfl ?_
          refine ezw_icmp_ne rfl rfl ⟨by decide, by decide⟩ ⟨by decide, by decide⟩ (fun h76_5 => ?_) (fun h76_5 => absurd h76_5 (by omega))
          refine ezw_iinc (1) rfl rfl rfl rfl rfl ?_
          refine ezw_goto rfl rfl ?_
          exact ezw_keepE [true, true, true, true, true, false] (ihc1 (c1 + (1)) (by omega) ⟨by omega, by omega⟩ (by omega)  F A hI)
        · exact ezw_return rfl rfl ⟨⟨F, A, rfl, hI⟩, rfl⟩
  exact ezw_keepE [true, true, true, true, true, false] (L24_1 (0) ⟨by decide, by decide⟩ (by omega)  F A hI)
theorem ezs_m82_5_1_v1 {F : Nat → Nat → Int} {A : Nat → Int → Int} (hI : ezs_I fz F0 A0 F A) (hd : 27 ≤ d) (hzA : ∀ q, 4 ≤ q → q < 72 → fz q = false) (hzT : fz 1 = false) : ezw_C l ρ B xa Hb D cA 82 d [ezw_p 5, ezw_p 1, ezw_i (1)] (ezu_g e F A) (ezs_P e fz F0 A0 ezs_rn) := by
  refine ezw_met (k := 2) rfl rfl ?_
  refine ezw_aload_n rfl rfl ?_
  refine ezw_bipush (100) rfl rfl ?_
  refine ezw_call0_1 rfl (by omega) (ezu_at rfl) rfl rfl rfl rfl (ezs_m46_1 hI (by omega) ⟨by decide, by decide⟩) ?_
  rintro _ _ ⟨rfl, u1, hu1, rfl⟩
  have J21_2 : ∀ y2 : Int, ezs_b y2 → ∀ F A, ezs_I fz F0 A0 F A → ezw_E l ρ B xa Hb D cA d ezq_re82 (ezs_P e fz F0 A0 ezs_rn) 21 [some (ezw_p 5), some (ezw_p 1), some (ezw_i (1)), none, none] [(ezw_i y2)] (ezu_g e F A) := by
    intro y2 hy2 F A hI
    refine ezw_istore_n rfl rfl ?_
    refine ezw_iload_n rfl rfl ?_
    have J59_4 : ∀ y4 : Int, ezs_b y4 → ∀ F A, ezs_I fz F0 A0 F A → ezw_E l ρ B xa Hb D cA d ezq_re82 (ezs_P e fz F0 A0 ezs_rn) 59 [some (ezw_p 5), some (ezw_p 1), some (ezw_i (1)), some (ezw_i y2), none] [(ezw_i y4)] (ezu_g e F A) := by
      intro y4 hy4 F A hI
      refine ezw_istore rfl rfl ?_
      refine ezw_iload rfl rfl ?_
      refine ezw_if_eq rfl rfl ⟨by omega, by omega⟩ (fun h63_5 => ?_) (fun h63_5 => ?_)
      · refine ezw_aload_n rfl rfl ?_
        refine ezw_iload rfl rfl ?_
        refine ezw_if_eq rfl rfl ⟨by omega, by omega⟩ (fun h74_5 => ?_) (fun h74_5 => ?_)
        · refine ezw_iconst (1) rfl rfl ?_
          refine ezw_call0_1 rfl (by omega) (ezu_at rfl) rfl rfl rfl rfl (ezs_m50_1 hI (by omega) hzT ⟨by decide, by decide⟩) ?_
          rintro _ _ ⟨⟨F, A, rfl, hI⟩, rfl⟩
          refine ezw_goto rfl rfl ?_
          exact ezw_return rfl rfl ⟨⟨F, A, rfl, hI⟩, rfl⟩
        · refine ezw_iconst (5) rfl rfl ?_
          refine ezw_goto rfl rfl ?_
          refine ezw_call0_1 rfl (by omega) (ezu_at rfl) rfl rfl rfl rfl (ezs_m50_1 hI (by omega) hzT ⟨by decide, by decide⟩) ?_
          rintro _ _ ⟨⟨F, A, rfl, hI⟩, rfl⟩
          refine ezw_goto rfl rfl ?_
          exact ezw_return rfl rfl ⟨⟨F, A, rfl, hI⟩, rfl⟩
      · refine ezw_iload_n rfl rfl ?_
        refine ezw_iconst (5) rfl rfl ?_
        refine ezw_icmp_lt rfl rfl ⟨by decide, by decide⟩ ⟨by decide, by decide⟩ (fun h68_5 => ?_) (fun h68_5 => absurd h68_5 (by omega))
        refine ezw_iload_n rfl rfl ?_
        refine ezw_if_eq rfl rfl ⟨by omega, by omega⟩ (fun h89_5 => ?_) (fun h89_5 => ?_)
        · refine ezw_aload_n rfl rfl ?_
          refine ezw_bipush (101) rfl rfl ?_
          refine ezw_call0_1 rfl (by omega) (ezu_at rfl) rfl rfl rfl rfl (ezs_m46_1 hI (by omega) ⟨by decide, by decide⟩) ?_
          rintro _ _ ⟨rfl, u6, hu6, rfl⟩
          refine ezw_if_eq rfl rfl ⟨by omega, by omega⟩ (fun h115_6 => ?_) (fun h115_6 => ?_)
          · refine ezw_aload_n rfl rfl ?_
            refine ezw_bipush (41) rfl rfl ?_
            refine ezw_call0_1 rfl (by omega) (ezu_at rfl) rfl rfl rfl rfl (ezs_m46_1 hI (by omega) ⟨by decide, by decide⟩) ?_
            rintro _ _ ⟨rfl, u7, hu7, rfl⟩
            refine ezw_if_eq rfl rfl ⟨by omega, by omega⟩ (fun h139_7 => ?_) (fun h139_7 => ?_)
            · refine ezw_aload_n rfl rfl ?_
              refine ezw_call0_0 rfl (by omega) (ezu_at rfl) rfl rfl rfl rfl (ezs_m30_1 hI (by omega) hzT) ?_
              rintro _ _ ⟨⟨F, A, rfl, hI⟩, rfl⟩
              refine ezw_aload_n rfl rfl ?_
              refine ezw_aload_n rfl rfl ?_
              refine ezw_iconst (0) rfl rfl ?_
              refine ezw_iload_n rfl rfl ?_
              refine ezw_iconst (1) rfl rfl ?_
              refine ezw_iadd (k := (2)) rfl rfl ?_
              refine ezw_call0_3 rfl (by omega) (ezu_at rfl) rfl rfl rfl rfl (ezs_m81_5_1_v0_v2 hI (by omega) hzA hzT) ?_
              rintro _ _ ⟨⟨F, A, rfl, hI⟩, rfl⟩
              refine ezw_aload_n rfl rfl ?_
              refine ezw_sipush (241) rfl rfl ?_
              refine ezw_call0_1 rfl (by omega) (ezu_at rfl) rfl rfl rfl rfl (ezs_m46_1 hI (by omega) ⟨by decide, by decide⟩) ?_
              rintro _ _ ⟨rfl, u8, hu8, rfl⟩
              refine ezw_if_eq rfl rfl ⟨by omega, by omega⟩ (fun h183_8 => ?_) (fun h183_8 => ?_)
              · refine ezw_aload_n rfl rfl ?_
                refine ezw_iconst (1) rfl rfl ?_
                refine ezw_call0_1 rfl (by omega) (ezu_at rfl) rfl rfl rfl rfl (ezs_m50_1 hI (by omega) hzT ⟨by decide, by decide⟩) ?_
                rintro _ _ ⟨⟨F, A, rfl, hI⟩, rfl⟩
                exact ezw_return rfl rfl ⟨⟨F, A, rfl, hI⟩, rfl⟩
              · refine ezw_aload_n rfl rfl ?_
                refine ezw_call0_0 rfl (by omega) (ezu_at rfl) rfl rfl rfl rfl (ezs_m30_1 hI (by omega) hzT) ?_
                rintro _ _ ⟨⟨F, A, rfl, hI⟩, rfl⟩
                refine ezw_goto rfl rfl ?_
                exact ezw_return rfl rfl ⟨⟨F, A, rfl, hI⟩, rfl⟩
            · refine ezw_aload_n rfl rfl ?_
              refine ezw_call0_0 rfl (by omega) (ezu_at rfl) rfl rfl rfl rfl (ezs_m30_1 hI (by omega) hzT) ?_
              rintro _ _ ⟨⟨F, A, rfl, hI⟩, rfl⟩
              refine ezw_aload_n rfl rfl ?_
              refine ezw_aload_n rfl rfl ?_
              refine ezw_iload_n rfl rfl ?_
              refine ezw_iconst (1) rfl rfl ?_
              refine ezw_iadd (k := (2)) rfl rfl ?_
              refine ezw_call0_2 rfl (by omega) (ezu_at rfl) rfl rfl rfl rfl (ezs_m82_5_1_v2 hI (by omega) hzA hzT) ?_
              rintro _ _ ⟨⟨F, A, rfl, hI⟩, rfl⟩
              refine ezw_aload_n rfl rfl ?_
              refine ezw_bipush (-5) rfl rfl ?_
              refine ezw_call0_1 rfl (by omega) (ezu_at rfl) rfl rfl rfl rfl (ezs_m83_5 hI (by omega) hzA ⟨by decide, by decide⟩) ?_
              rintro _ _ ⟨⟨F, A, rfl, hI⟩, rfl⟩
              refine ezw_goto rfl rfl ?_
              exact ezw_return rfl rfl ⟨⟨F, A, rfl, hI⟩, rfl⟩
          · refine ezw_aload_n rfl rfl ?_
            refine ezw_aload_n rfl rfl ?_
            refine ezs_get_i hI rfl rfl rfl rfl rfl rfl (fun u9 hu9 ku9 => ?_)
            refine ezw_call0_1 rfl (by omega) (ezu_at rfl) rfl rfl rfl rfl (ezs_m83_5 hI (by omega) hzA hu9) ?_
            rintro _ _ ⟨⟨F, A, rfl, hI⟩, rfl⟩
            refine ezw_aload_n rfl rfl ?_
            refine ezw_call0_0 rfl (by omega) (ezu_at rfl) rfl rfl rfl rfl (ezs_m30_1 hI (by omega) hzT) ?_
            rintro _ _ ⟨⟨F, A, rfl, hI⟩, rfl⟩
            refine ezw_goto rfl rfl ?_
            exact ezw_return rfl rfl ⟨⟨F, A, rfl, hI⟩, rfl⟩
        · refine ezw_aload_n rfl rfl ?_
          refine ezw_iconst (-1) rfl rfl ?_
          refine ezw_aload_n rfl rfl ?_
          refine ezs_get_i hI rfl rfl rfl rfl rfl rfl (fun u10 hu10 ku10 => ?_)
          refine ezs_isub rfl (fun u11 hu11 => ?_)
          refine ezw_call0_1 rfl (by omega) (ezu_at rfl) rfl rfl rfl rfl (ezs_m83_5 hI (by omega) hzA hu11) ?_
          rintro _ _ ⟨⟨F, A, rfl, hI⟩, rfl⟩
          refine ezw_aload_n rfl rfl ?_
          refine ezw_call0_0 rfl (by omega) (ezu_at rfl) rfl rfl rfl rfl (ezs_m30_1 hI (by omega) hzT) ?_
          rintro _ _ ⟨⟨F, A, rfl, hI⟩, rfl⟩
          refine ezw_goto rfl rfl ?_
          exact ezw_return rfl rfl ⟨⟨F, A, rfl, hI⟩, rfl⟩
    refine ezw_if_ne rfl rfl ⟨by omega, by omega⟩ (fun h23_3 => ?_) (fun h23_3 => ?_)
    · refine ezw_iconst (1) rfl rfl ?_
      refine ezw_goto rfl rfl ?_
      exact ezw_keepE [true, true, true, true, false] (J59_4 (1) ⟨by omega, by omega⟩ F A hI)
    · refine ezw_aload_n rfl rfl ?_
      refine ezw_bipush (101) rfl rfl ?_
      refine ezw_call0_1 rfl (by omega) (ezu_at rfl) rfl rfl rfl rfl (ezs_m46_1 hI (by omega) ⟨by decide, by decide⟩) ?_
      rintro _ _ ⟨rfl, u12, hu12, rfl⟩
      refine ezw_if_ne rfl rfl ⟨by omega, by omega⟩ (fun h32_12 => ?_) (fun h32_12 => ?_)
      · refine ezw_iconst (1) rfl rfl ?_
        refine ezw_goto rfl rfl ?_
        exact ezw_keepE [true, true, true, true, false] (J59_4 (1) ⟨by omega, by omega⟩ F A hI)
      · refine ezw_aload_n rfl rfl ?_
        refine ezw_bipush (41) rfl rfl ?_
        refine ezw_call0_1 rfl (by omega) (ezu_at rfl) rfl rfl rfl rfl (ezs_m46_1 hI (by omega) ⟨by decide, by decide⟩) ?_
        rintro _ _ ⟨rfl, u13, hu13, rfl⟩
        refine ezw_if_ne rfl rfl ⟨by omega, by omega⟩ (fun h41_13 => ?_) (fun h41_13 => ?_)
        · refine ezw_iconst (1) rfl rfl ?_
          refine ezw_goto rfl rfl ?_
          exact ezw_keepE [true, true, true, true, false] (J59_4 (1) ⟨by omega, by omega⟩ F A hI)
        · refine ezw_aload_n rfl rfl ?_
          refine ezw_sipush (240) rfl rfl ?_
          refine ezw_call0_1 rfl (by omega) (ezu_at rfl) rfl rfl rfl rfl (ezs_m46_1 hI (by omega) ⟨by decide, by decide⟩) ?_
          rintro _ _ ⟨rfl, u14, hu14, rfl⟩
          refine ezw_if_eq rfl rfl ⟨by omega, by omega⟩ (fun h51_14 => ?_) (fun h51_14 => ?_)
          · refine ezw_iconst (0) rfl rfl ?_
            exact ezw_keepE [true, true, true, true, false] (J59_4 (0) ⟨by omega, by omega⟩ F A hI)
          · refine ezw_iconst (1) rfl rfl ?_
            refine ezw_goto rfl rfl ?_
            exact ezw_keepE [true, true, true, true, false] (J59_4 (1) ⟨by omega, by omega⟩ F A hI)
  refine ezw_if_eq rfl rfl ⟨by omega, by omega⟩ (fun h6_1 => ?_) (fun h6_1 => ?_)
  · refine ezw_iconst (0) rfl rfl ?_
    exact ezw_keepE [true, true, true, false, false] (J21_2 (0) ⟨by omega, by omega⟩ F A hI)
  · refine ezw_aload_n rfl rfl ?_
    refine ezs_get_i hI rfl rfl rfl rfl rfl rfl (fun u15 hu15 ku15 => ?_)
    refine ezw_if_lt rfl rfl hu15 (fun h13_15 => ?_) (fun h13_15 => ?_)
    · refine ezw_iconst (0) rfl rfl ?_
      exact ezw_keepE [true, true, true, false, false] (J21_2 (0) ⟨by omega, by omega⟩ F A hI)
    · refine ezw_iconst (1) rfl rfl ?_
      refine ezw_goto rfl rfl ?_
      exact ezw_keepE [true, true, true, false, false] (J21_2 (1) ⟨by omega, by omega⟩ F A hI)
theorem ezs_m81_5_1_v4_v1 {F : Nat → Nat → Int} {A : Nat → Int → Int} (hI : ezs_I fz F0 A0 F A) (hd : 28 ≤ d) (hzA : ∀ q, 4 ≤ q → q < 72 → fz q = false) (hzT : fz 1 = false) : ezw_C l ρ B xa Hb D cA 81 d [ezw_p 5, ezw_p 1, ezw_i (4), ezw_i (1)] (ezu_g e F A) (ezs_P e fz F0 A0 ezs_rn) := by
  refine ezw_met (k := 2) rfl rfl ?_
  refine ezw_iload_n rfl rfl ?_
  refine ezw_iconst (4) rfl rfl ?_
  refine ezw_icmp_lt rfl rfl ⟨by decide, by decide⟩ ⟨by decide, by decide⟩ (fun h2_0 => absurd h2_0 (by omega)) (fun h2_0 => ?_)
  refine ezw_aload_n rfl rfl ?_
  refine ezw_aload_n rfl rfl ?_
  refine ezw_iload_n rfl rfl ?_
  refine ezw_call0_2 rfl (by omega) (ezu_at rfl) rfl rfl rfl rfl (ezs_m82_5_1_v1 hI (by omega) hzA hzT) ?_
  rintro _ _ ⟨⟨F, A, rfl, hI⟩, rfl⟩
  exact ezw_return rfl rfl ⟨⟨F, A, rfl, hI⟩, rfl⟩
theorem ezs_m81_5_1_v3_v1 {F : Nat → Nat → Int} {A : Nat → Int → Int} (hI : ezs_I fz F0 A0 F A) (hd : 29 ≤ d) (hzA : ∀ q, 4 ≤ q → q < 72 → fz q = false) (hzT : fz 1 = false) : ezw_C l ρ B xa Hb D cA 81 d [ezw_p 5, ezw_p 1, ezw_i (3), ezw_i (1)] (ezu_g e F A) (ezs_P e fz F0 A0 ezs_rn) := by
  refine ezw_met (k := 2) rfl rfl ?_
  refine ezw_iload_n rfl rfl ?_
  refine ezw_iconst (4) rfl rfl ?_
  refine ezw_icmp_lt rfl rfl ⟨by decide, by decide⟩ ⟨by decide, by decide⟩ (fun h2_0 => ?_) (fun h2_0 => absurd h2_0 (by omega))
  refine ezw_aload_n rfl rfl ?_
  refine ezw_aload_n rfl rfl ?_
  refine ezw_iload_n rfl rfl ?_
  refine ezw_iconst (1) rfl rfl ?_
  refine ezw_iadd (k := (4)) rfl rfl ?_
  refine ezw_iload_n rfl rfl ?_
  refine ezw_call0_3 rfl (by omega) (ezu_at rfl) rfl rfl rfl rfl (ezs_m81_5_1_v4_v1 hI (by omega) hzA hzT) ?_
  rintro _ _ ⟨⟨F, A, rfl, hI⟩, rfl⟩
  refine ezw_iconst (0) rfl rfl ?_
  refine ezw_istore rfl rfl ?_
  have L24_1 : ∀ c1 : Int, ezw_in c1 → (0) ≤ c1 → ∀ F A, ezs_I fz F0 A0 F A → ezw_E l ρ B xa Hb D cA d ezq_re81 (ezs_P e fz F0 A0 ezs_rn) 24 [some (ezw_p 5), some (ezw_p 1), some (ezw_i (3)), some (ezw_i (1)), some (ezw_i c1), none] [] (ezu_g e F A) := by
    refine ezs_up ?_
    intro c1 hc1 ihc1 gc1 F A hI
    refine ezw_iload rfl rfl ?_
    refine ezw_sipush (1000) rfl rfl ?_
    refine ezw_icmp_ge rfl rfl hc1 ⟨by decide, by decide⟩ (fun h29_2 => ?_) (fun h29_2 => ?_)
    · exact ezw_return rfl rfl ⟨⟨F, A, rfl, hI⟩, rfl⟩
    · refine ezw_aload_n rfl rfl ?_
      refine ezw_call0_0 rfl (by omega) (ezu_at rfl) rfl rfl rfl rfl (ezs_m45_1 hI (by omega)) ?_
      rintro _ _ ⟨rfl, u3, hu3, rfl⟩
      refine ezw_if_eq rfl rfl ⟨by omega, by omega⟩ (fun h36_3 => ?_) (fun h36_3 => ?_)
      · exact ezw_return rfl rfl ⟨⟨F, A, rfl, hI⟩, rfl⟩
      · refine ezw_aload_n rfl rfl ?_
        refine ezs_get_i hI rfl rfl rfl rfl rfl rfl (fun u4 hu4 ku4 => ?_)
        refine ezw_iload_n rfl rfl ?_
        refine ezw_call2_2 rfl (by omega) rfl rfl (ezs_m84 hI (by omega) hu4 ⟨by decide, by decide⟩) ?_
        rintro _ _ ⟨rfl, u5, hu5, rfl⟩
        refine ezw_istore rfl rfl ?_
        refine ezw_iload rfl rfl ?_
        refine ezw_if_ne rfl rfl hu5 (fun h51_5 => ?_) (fun h51_5 => ?_)
        · refine ezw_aload_n rfl rfl ?_
          refine ezw_call0_0 rfl (by omega) (ezu_at rfl) rfl rfl rfl rfl (ezs_m30_1 hI (by omega) hzT) ?_
          rintro _ _ ⟨⟨F, A, rfl, hI⟩, rfl⟩
          refine ezw_aload_n rfl rfl ?_
          refine ezw_aload_n rfl rfl ?_
          refine ezw_iload_n rfl rfl ?_
          refine ezw_iconst (1) rfl rfl ?_
          refine ezw_iadd (k := (4)) rfl rfl ?_
          refine ezw_iload_n rfl rfl ?_
          refine ezw_call0_3 rfl (by omega) (ezu_at rfl) rfl rfl rfl rfl (ezs_m81_5_1_v4_v1 hI (by omega) hzA hzT) ?_
          rintro _ _ ⟨⟨F, A, rfl, hI⟩, rfl⟩
          refine ezw_aload_n rfl rfl ?_
          refine ezw_iload rfl rfl ?_
          refine ezw_call0_1 rfl (by omega) (ezu_at rfl) rfl rfl rfl rfl (ezs_m83_5 hI (by omega) hzA hu5) ?_
          rintro _ _ ⟨⟨F, A, rfl, hI⟩, rfl⟩
          refine ezw_iload_n rfl rfl ?_
          refine ezw_iconst (1) rfl rfl ?_
          refine ezw_icmp_ne rfl rfl ⟨by decide, by decide⟩ ⟨by decide, by decide⟩ (fun h76_5 => ?_) (fun h76_5 => absurd h76_5 (by omega))
          refine ezw_iinc (1) rfl rfl rfl rfl rfl ?_
          refine ezw_goto rfl rfl ?_
          exact ezw_keepE [true, true, true, true, true, false] (ihc1 (c1 + (1)) (by omega) ⟨by omega, by omega⟩ (by omega)  F A hI)
        · exact ezw_return rfl rfl ⟨⟨F, A, rfl, hI⟩, rfl⟩
  exact ezw_keepE [true, true, true, true, true, false] (L24_1 (0) ⟨by decide, by decide⟩ (by omega)  F A hI)
theorem ezs_m81_5_1_v2_v1 {F : Nat → Nat → Int} {A : Nat → Int → Int} (hI : ezs_I fz F0 A0 F A) (hd : 30 ≤ d) (hzA : ∀ q, 4 ≤ q → q < 72 → fz q = false) (hzT : fz 1 = false) : ezw_C l ρ B xa Hb D cA 81 d [ezw_p 5, ezw_p 1, ezw_i (2), ezw_i (1)] (ezu_g e F A) (ezs_P e fz F0 A0 ezs_rn) := by
  refine ezw_met (k := 2) rfl rfl ?_
  refine ezw_iload_n rfl rfl ?_
  refine ezw_iconst (4) rfl rfl ?_
  refine ezw_icmp_lt rfl rfl ⟨by decide, by decide⟩ ⟨by decide, by decide⟩ (fun h2_0 => ?_) (fun h2_0 => absurd h2_0 (by omega))
  refine ezw_aload_n rfl rfl ?_
  refine ezw_aload_n rfl rfl ?_
  refine ezw_iload_n rfl rfl ?_
  refine ezw_iconst (1) rfl rfl ?_
  refine ezw_iadd (k := (3)) rfl rfl ?_
  refine ezw_iload_n rfl rfl ?_
  refine ezw_call0_3 rfl (by omega) (ezu_at rfl) rfl rfl rfl rfl (ezs_m81_5_1_v3_v1 hI (by omega) hzA hzT) ?_
  rintro _ _ ⟨⟨F, A, rfl, hI⟩, rfl⟩
  refine ezw_iconst (0) rfl rfl ?_
  refine ezw_istore rfl rfl ?_
  have L24_1 : ∀ c1 : Int, ezw_in c1 → (0) ≤ c1 → ∀ F A, ezs_I fz F0 A0 F A → ezw_E l ρ B xa Hb D cA d ezq_re81 (ezs_P e fz F0 A0 ezs_rn) 24 [some (ezw_p 5), some (ezw_p 1), some (ezw_i (2)), some (ezw_i (1)), some (ezw_i c1), none] [] (ezu_g e F A) := by
    refine ezs_up ?_
    intro c1 hc1 ihc1 gc1 F A hI
    refine ezw_iload rfl rfl ?_
    refine ezw_sipush (1000) rfl rfl ?_
    refine ezw_icmp_ge rfl rfl hc1 ⟨by decide, by decide⟩ (fun h29_2 => ?_) (fun h29_2 => ?_)
    · exact ezw_return rfl rfl ⟨⟨F, A, rfl, hI⟩, rfl⟩
    · refine ezw_aload_n rfl rfl ?_
      refine ezw_call0_0 rfl (by omega) (ezu_at rfl) rfl rfl rfl rfl (ezs_m45_1 hI (by omega)) ?_
      rintro _ _ ⟨rfl, u3, hu3, rfl⟩
      refine ezw_if_eq rfl rfl ⟨by omega, by omega⟩ (fun h36_3 => ?_) (fun h36_3 => ?_)
      · exact ezw_return rfl rfl ⟨⟨F, A, rfl, hI⟩, rfl⟩
      · refine ezw_aload_n rfl rfl ?_
        refine ezs_get_i hI rfl rfl rfl rfl rfl rfl (fun u4 hu4 ku4 => ?_)
        refine ezw_iload_n rfl rfl ?_
        refine ezw_call2_2 rfl (by omega) rfl rfl (ezs_m84 hI (by omega) hu4 ⟨by decide, by decide⟩) ?_
        rintro _ _ ⟨rfl, u5, hu5, rfl⟩
        refine ezw_istore rfl rfl ?_
        refine ezw_iload rfl rfl ?_
        refine ezw_if_ne rfl rfl hu5 (fun h51_5 => ?_) (fun h51_5 => ?_)
        · refine ezw_aload_n rfl rfl ?_
          refine ezw_call0_0 rfl (by omega) (ezu_at rfl) rfl rfl rfl rfl (ezs_m30_1 hI (by omega) hzT) ?_
          rintro _ _ ⟨⟨F, A, rfl, hI⟩, rfl⟩
          refine ezw_aload_n rfl rfl ?_
          refine ezw_aload_n rfl rfl ?_
          refine ezw_iload_n rfl rfl ?_
          refine ezw_iconst (1) rfl rfl ?_
          refine ezw_iadd (k := (3)) rfl rfl ?_
          refine ezw_iload_n rfl rfl ?_
          refine ezw_call0_3 rfl (by omega) (ezu_at rfl) rfl rfl rfl rfl (ezs_m81_5_1_v3_v1 hI (by omega) hzA hzT) ?_
          rintro _ _ ⟨⟨F, A, rfl, hI⟩, rfl⟩
          refine ezw_aload_n rfl rfl ?_
          refine ezw_iload rfl rfl ?_
          refine ezw_call0_1 rfl (by omega) (ezu_at rfl) rfl rfl rfl rfl (ezs_m83_5 hI (by omega) hzA hu5) ?_
          rintro _ _ ⟨⟨F, A, rfl, hI⟩, rfl⟩
          refine ezw_iload_n rfl rfl ?_
          refine ezw_iconst (1) rfl rfl ?_
          refine ezw_icmp_ne rfl rfl ⟨by decide, by decide⟩ ⟨by decide, by decide⟩ (fun h76_5 => ?_) (fun h76_5 => absurd h76_5 (by omega))
          refine ezw_iinc (1) rfl rfl rfl rfl rfl ?_
          refine ezw_goto rfl rfl ?_
          exact ezw_keepE [true, true, true, true, true, false] (ihc1 (c1 + (1)) (by omega) ⟨by omega, by omega⟩ (by omega)  F A hI)
        · exact ezw_return rfl rfl ⟨⟨F, A, rfl, hI⟩, rfl⟩
  exact ezw_keepE [true, true, true, true, true, false] (L24_1 (0) ⟨by decide, by decide⟩ (by omega)  F A hI)
theorem ezs_m81_5_1_v1_v1 {F : Nat → Nat → Int} {A : Nat → Int → Int} (hI : ezs_I fz F0 A0 F A) (hd : 31 ≤ d) (hzA : ∀ q, 4 ≤ q → q < 72 → fz q = false) (hzT : fz 1 = false) : ezw_C l ρ B xa Hb D cA 81 d [ezw_p 5, ezw_p 1, ezw_i (1), ezw_i (1)] (ezu_g e F A) (ezs_P e fz F0 A0 ezs_rn) := by
  refine ezw_met (k := 2) rfl rfl ?_
  refine ezw_iload_n rfl rfl ?_
  refine ezw_iconst (4) rfl rfl ?_
  refine ezw_icmp_lt rfl rfl ⟨by decide, by decide⟩ ⟨by decide, by decide⟩ (fun h2_0 => ?_) (fun h2_0 => absurd h2_0 (by omega))
  refine ezw_aload_n rfl rfl ?_
  refine ezw_aload_n rfl rfl ?_
  refine ezw_iload_n rfl rfl ?_
  refine ezw_iconst (1) rfl rfl ?_
  refine ezw_iadd (k := (2)) rfl rfl ?_
  refine ezw_iload_n rfl rfl ?_
  refine ezw_call0_3 rfl (by omega) (ezu_at rfl) rfl rfl rfl rfl (ezs_m81_5_1_v2_v1 hI (by omega) hzA hzT) ?_
  rintro _ _ ⟨⟨F, A, rfl, hI⟩, rfl⟩
  refine ezw_iconst (0) rfl rfl ?_
  refine ezw_istore rfl rfl ?_
  have L24_1 : ∀ c1 : Int, ezw_in c1 → (0) ≤ c1 → ∀ F A, ezs_I fz F0 A0 F A → ezw_E l ρ B xa Hb D cA d ezq_re81 (ezs_P e fz F0 A0 ezs_rn) 24 [some (ezw_p 5), some (ezw_p 1), some (ezw_i (1)), some (ezw_i (1)), some (ezw_i c1), none] [] (ezu_g e F A) := by
    refine ezs_up ?_
    intro c1 hc1 ihc1 gc1 F A hI
    refine ezw_iload rfl rfl ?_
    refine ezw_sipush (1000) rfl rfl ?_
    refine ezw_icmp_ge rfl rfl hc1 ⟨by decide, by decide⟩ (fun h29_2 => ?_) (fun h29_2 => ?_)
    · exact ezw_return rfl rfl ⟨⟨F, A, rfl, hI⟩, rfl⟩
    · refine ezw_aload_n rfl rfl ?_
      refine ezw_call0_0 rfl (by omega) (ezu_at rfl) rfl rfl rfl rfl (ezs_m45_1 hI (by omega)) ?_
      rintro _ _ ⟨rfl, u3, hu3, rfl⟩
      refine ezw_if_eq rfl rfl ⟨by omega, by omega⟩ (fun h36_3 => ?_) (fun h36_3 => ?_)
      · exact ezw_return rfl rfl ⟨⟨F, A, rfl, hI⟩, rfl⟩
      · refine ezw_aload_n rfl rfl ?_
        refine ezs_get_i hI rfl rfl rfl rfl rfl rfl (fun u4 hu4 ku4 => ?_)
        refine ezw_iload_n rfl rfl ?_
        refine ezw_call2_2 rfl (by omega) rfl rfl (ezs_m84 hI (by omega) hu4 ⟨by decide, by decide⟩) ?_
        rintro _ _ ⟨rfl, u5, hu5, rfl⟩
        refine ezw_istore rfl rfl ?_
        refine ezw_iload rfl rfl ?_
        refine ezw_if_ne rfl rfl hu5 (fun h51_5 => ?_) (fun h51_5 => ?_)
        · refine ezw_aload_n rfl rfl ?_
          refine ezw_call0_0 rfl (by omega) (ezu_at rfl) rfl rfl rfl rfl (ezs_m30_1 hI (by omega) hzT) ?_
          rintro _ _ ⟨⟨F, A, rfl, hI⟩, rfl⟩
          refine ezw_aload_n rfl rfl ?_
          refine ezw_aload_n rfl rfl ?_
          refine ezw_iload_n rfl rfl ?_
          refine ezw_iconst (1) rfl rfl ?_
          refine ezw_iadd (k := (2)) rfl rfl ?_
          refine ezw_iload_n rfl rfl ?_
          refine ezw_call0_3 rfl (by omega) (ezu_at rfl) rfl rfl rfl rfl (ezs_m81_5_1_v2_v1 hI (by omega) hzA hzT) ?_
          rintro _ _ ⟨⟨F, A, rfl, hI⟩, rfl⟩
          refine ezw_aload_n rfl rfl ?_
          refine ezw_iload rfl rfl ?_
          refine ezw_call0_1 rfl (by omega) (ezu_at rfl) rfl rfl rfl rfl (ezs_m83_5 hI (by omega) hzA hu5) ?_
          rintro _ _ ⟨⟨F, A, rfl, hI⟩, rfl⟩
          refine ezw_iload_n rfl rfl ?_
          refine ezw_iconst (1) rfl rfl ?_
          refine ezw_icmp_ne rfl rfl ⟨by decide, by decide⟩ ⟨by decide, by decide⟩ (fun h76_5 => absurd h76_5 (by omega)) (fun h76_5 => ?_)
          exact ezw_return rfl rfl ⟨⟨F, A, rfl, hI⟩, rfl⟩
        · exact ezw_return rfl rfl ⟨⟨F, A, rfl, hI⟩, rfl⟩
  exact ezw_keepE [true, true, true, true, true, false] (L24_1 (0) ⟨by decide, by decide⟩ (by omega)  F A hI)
theorem ezs_m81_5_1_v0_v1 {F : Nat → Nat → Int} {A : Nat → Int → Int} (hI : ezs_I fz F0 A0 F A) (hd : 32 ≤ d) (hzA : ∀ q, 4 ≤ q → q < 72 → fz q = false) (hzT : fz 1 = false) : ezw_C l ρ B xa Hb D cA 81 d [ezw_p 5, ezw_p 1, ezw_i (0), ezw_i (1)] (ezu_g e F A) (ezs_P e fz F0 A0 ezs_rn) := by
  refine ezw_met (k := 2) rfl rfl ?_
  refine ezw_iload_n rfl rfl ?_
  refine ezw_iconst (4) rfl rfl ?_
  refine ezw_icmp_lt rfl rfl ⟨by decide, by decide⟩ ⟨by decide, by decide⟩ (fun h2_0 => ?_) (fun h2_0 => absurd h2_0 (by omega))
  refine ezw_aload_n rfl rfl ?_
  refine ezw_aload_n rfl rfl ?_
  refine ezw_iload_n rfl rfl ?_
  refine ezw_iconst (1) rfl rfl ?_
  refine ezw_iadd (k := (1)) rfl rfl ?_
  refine ezw_iload_n rfl rfl ?_
  refine ezw_call0_3 rfl (by omega) (ezu_at rfl) rfl rfl rfl rfl (ezs_m81_5_1_v1_v1 hI (by omega) hzA hzT) ?_
  rintro _ _ ⟨⟨F, A, rfl, hI⟩, rfl⟩
  refine ezw_iconst (0) rfl rfl ?_
  refine ezw_istore rfl rfl ?_
  have L24_1 : ∀ c1 : Int, ezw_in c1 → (0) ≤ c1 → ∀ F A, ezs_I fz F0 A0 F A → ezw_E l ρ B xa Hb D cA d ezq_re81 (ezs_P e fz F0 A0 ezs_rn) 24 [some (ezw_p 5), some (ezw_p 1), some (ezw_i (0)), some (ezw_i (1)), some (ezw_i c1), none] [] (ezu_g e F A) := by
    refine ezs_up ?_
    intro c1 hc1 ihc1 gc1 F A hI
    refine ezw_iload rfl rfl ?_
    refine ezw_sipush (1000) rfl rfl ?_
    refine ezw_icmp_ge rfl rfl hc1 ⟨by decide, by decide⟩ (fun h29_2 => ?_) (fun h29_2 => ?_)
    · exact ezw_return rfl rfl ⟨⟨F, A, rfl, hI⟩, rfl⟩
    · refine ezw_aload_n rfl rfl ?_
      refine ezw_call0_0 rfl (by omega) (ezu_at rfl) rfl rfl rfl rfl (ezs_m45_1 hI (by omega)) ?_
      rintro _ _ ⟨rfl, u3, hu3, rfl⟩
      refine ezw_if_eq rfl rfl ⟨by omega, by omega⟩ (fun h36_3 => ?_) (fun h36_3 => ?_)
      · exact ezw_return rfl rfl ⟨⟨F, A, rfl, hI⟩, rfl⟩
      · refine ezw_aload_n rfl rfl ?_
        refine ezs_get_i hI rfl rfl rfl rfl rfl rfl (fun u4 hu4 ku4 => ?_)
        refine ezw_iload_n rfl rfl ?_
        refine ezw_call2_2 rfl (by omega) rfl rfl (ezs_m84 hI (by omega) hu4 ⟨by decide, by decide⟩) ?_
        rintro _ _ ⟨rfl, u5, hu5, rfl⟩
        refine ezw_istore rfl rfl ?_
        refine ezw_iload rfl rfl ?_
        refine ezw_if_ne rfl rfl hu5 (fun h51_5 => ?_) (fun h51_5 => ?_)
        · refine ezw_aload_n rfl rfl ?_
          refine ezw_call0_0 rfl (by omega) (ezu_at rfl) rfl rfl rfl rfl (ezs_m30_1 hI (by omega) hzT) ?_
          rintro _ _ ⟨⟨F, A, rfl, hI⟩, rfl⟩
          refine ezw_aload_n rfl rfl ?_
          refine ezw_aload_n rfl rfl ?_
          refine ezw_iload_n rfl rfl ?_
          refine ezw_iconst (1) rfl rfl ?_
          refine ezw_iadd (k := (1)) rfl rfl ?_
          refine ezw_iload_n rfl rfl ?_
          refine ezw_call0_3 rfl (by omega) (ezu_at rfl) rfl rfl rfl rfl (ezs_m81_5_1_v1_v1 hI (by omega) hzA hzT) ?_
          rintro _ _ ⟨⟨F, A, rfl, hI⟩, rfl⟩
          refine ezw_aload_n rfl rfl ?_
          refine ezw_iload rfl rfl ?_
          refine ezw_call0_1 rfl (by omega) (ezu_at rfl) rfl rfl rfl rfl (ezs_m83_5 hI (by omega) hzA hu5) ?_
          rintro _ _ ⟨⟨F, A, rfl, hI⟩, rfl⟩
          refine ezw_iload_n rfl rfl ?_
          refine ezw_iconst (1) rfl rfl ?_
          refine ezw_icmp_ne rfl rfl ⟨by decide, by decide⟩ ⟨by decide, by decide⟩ (fun h76_5 => ?_) (fun h76_5 => absurd h76_5 (by omega))
          refine ezw_iinc (1) rfl rfl rfl rfl rfl ?_
          refine ezw_goto rfl rfl ?_
          exact ezw_keepE [true, true, true, true, true, false] (ihc1 (c1 + (1)) (by omega) ⟨by omega, by omega⟩ (by omega)  F A hI)
        · exact ezw_return rfl rfl ⟨⟨F, A, rfl, hI⟩, rfl⟩
  exact ezw_keepE [true, true, true, true, true, false] (L24_1 (0) ⟨by decide, by decide⟩ (by omega)  F A hI)
theorem ezs_m82_5_1_v0 {F : Nat → Nat → Int} {A : Nat → Int → Int} (hI : ezs_I fz F0 A0 F A) (hd : 33 ≤ d) (hzA : ∀ q, 4 ≤ q → q < 72 → fz q = false) (hzT : fz 1 = false) : ezw_C l ρ B xa Hb D cA 82 d [ezw_p 5, ezw_p 1, ezw_i (0)] (ezu_g e F A) (ezs_P e fz F0 A0 ezs_rn) := by
  refine ezw_met (k := 2) rfl rfl ?_
  refine ezw_aload_n rfl rfl ?_
  refine ezw_bipush (100) rfl rfl ?_
  refine ezw_call0_1 rfl (by omega) (ezu_at rfl) rfl rfl rfl rfl (ezs_m46_1 hI (by omega) ⟨by decide, by decide⟩) ?_
  rintro _ _ ⟨rfl, u1, hu1, rfl⟩
  have J21_2 : ∀ y2 : Int, ezs_b y2 → ∀ F A, ezs_I fz F0 A0 F A → ezw_E l ρ B xa Hb D cA d ezq_re82 (ezs_P e fz F0 A0 ezs_rn) 21 [some (ezw_p 5), some (ezw_p 1), some (ezw_i (0)), none, none] [(ezw_i y2)] (ezu_g e F A) := by
    intro y2 hy2 F A hI
    refine ezw_istore_n rfl rfl ?_
    refine ezw_iload_n rfl rfl ?_
    have J59_4 : ∀ y4 : Int, ezs_b y4 → ∀ F A, ezs_I fz F0 A0 F A → ezw_E l ρ B xa Hb D cA d ezq_re82 (ezs_P e fz F0 A0 ezs_rn) 59 [some (ezw_p 5), some (ezw_p 1), some (ezw_i (0)), some (ezw_i y2), none] [(ezw_i y4)] (ezu_g e F A) := by
      intro y4 hy4 F A hI
      refine ezw_istore rfl rfl ?_
      refine ezw_iload rfl rfl ?_
      refine ezw_if_eq rfl rfl ⟨by omega, by omega⟩ (fun h63_5 => ?_) (fun h63_5 => ?_)
      · refine ezw_aload_n rfl rfl ?_
        refine ezw_iload rfl rfl ?_
        refine ezw_if_eq rfl rfl ⟨by omega, by omega⟩ (fun h74_5 => ?_) (fun h74_5 => ?_)
        · refine ezw_iconst (1) rfl rfl ?_
          refine ezw_call0_1 rfl (by omega) (ezu_at rfl) rfl rfl rfl rfl (ezs_m50_1 hI (by omega) hzT ⟨by decide, by decide⟩) ?_
          rintro _ _ ⟨⟨F, A, rfl, hI⟩, rfl⟩
          refine ezw_goto rfl rfl ?_
          exact ezw_return rfl rfl ⟨⟨F, A, rfl, hI⟩, rfl⟩
        · refine ezw_iconst (5) rfl rfl ?_
          refine ezw_goto rfl rfl ?_
          refine ezw_call0_1 rfl (by omega) (ezu_at rfl) rfl rfl rfl rfl (ezs_m50_1 hI (by omega) hzT ⟨by decide, by decide⟩) ?_
          rintro _ _ ⟨⟨F, A, rfl, hI⟩, rfl⟩
          refine ezw_goto rfl rfl ?_
          exact ezw_return rfl rfl ⟨⟨F, A, rfl, hI⟩, rfl⟩
      · refine ezw_iload_n rfl rfl ?_
        refine ezw_iconst (5) rfl rfl ?_
        refine ezw_icmp_lt rfl rfl ⟨by decide, by decide⟩ ⟨by decide, by decide⟩ (fun h68_5 => ?_) (fun h68_5 => absurd h68_5 (by omega))
        refine ezw_iload_n rfl rfl ?_
        refine ezw_if_eq rfl rfl ⟨by omega, by omega⟩ (fun h89_5 => ?_) (fun h89_5 => ?_)
        · refine ezw_aload_n rfl rfl ?_
          refine ezw_bipush (101) rfl rfl ?_
          refine ezw_call0_1 rfl (by omega) (ezu_at rfl) rfl rfl rfl rfl (ezs_m46_1 hI (by omega) ⟨by decide, by decide⟩) ?_
          rintro _ _ ⟨rfl, u6, hu6, rfl⟩
          refine ezw_if_eq rfl rfl ⟨by omega, by omega⟩ (fun h115_6 => ?_) (fun h115_6 => ?_)
          · refine ezw_aload_n rfl rfl ?_
            refine ezw_bipush (41) rfl rfl ?_
            refine ezw_call0_1 rfl (by omega) (ezu_at rfl) rfl rfl rfl rfl (ezs_m46_1 hI (by omega) ⟨by decide, by decide⟩) ?_
            rintro _ _ ⟨rfl, u7, hu7, rfl⟩
            refine ezw_if_eq rfl rfl ⟨by omega, by omega⟩ (fun h139_7 => ?_) (fun h139_7 => ?_)
            · refine ezw_aload_n rfl rfl ?_
              refine ezw_call0_0 rfl (by omega) (ezu_at rfl) rfl rfl rfl rfl (ezs_m30_1 hI (by omega) hzT) ?_
              rintro _ _ ⟨⟨F, A, rfl, hI⟩, rfl⟩
              refine ezw_aload_n rfl rfl ?_
              refine ezw_aload_n rfl rfl ?_
              refine ezw_iconst (0) rfl rfl ?_
              refine ezw_iload_n rfl rfl ?_
              refine ezw_iconst (1) rfl rfl ?_
              refine ezw_iadd (k := (1)) rfl rfl ?_
              refine ezw_call0_3 rfl (by omega) (ezu_at rfl) rfl rfl rfl rfl (ezs_m81_5_1_v0_v1 hI (by omega) hzA hzT) ?_
              rintro _ _ ⟨⟨F, A, rfl, hI⟩, rfl⟩
              refine ezw_aload_n rfl rfl ?_
              refine ezw_sipush (241) rfl rfl ?_
              refine ezw_call0_1 rfl (by omega) (ezu_at rfl) rfl rfl rfl rfl (ezs_m46_1 hI (by omega) ⟨by decide, by decide⟩) ?_
              rintro _ _ ⟨rfl, u8, hu8, rfl⟩
              refine ezw_if_eq rfl rfl ⟨by omega, by omega⟩ (fun h183_8 => ?_) (fun h183_8 => ?_)
              · refine ezw_aload_n rfl rfl ?_
                refine ezw_iconst (1) rfl rfl ?_
                refine ezw_call0_1 rfl (by omega) (ezu_at rfl) rfl rfl rfl rfl (ezs_m50_1 hI (by omega) hzT ⟨by decide, by decide⟩) ?_
                rintro _ _ ⟨⟨F, A, rfl, hI⟩, rfl⟩
                exact ezw_return rfl rfl ⟨⟨F, A, rfl, hI⟩, rfl⟩
              · refine ezw_aload_n rfl rfl ?_
                refine ezw_call0_0 rfl (by omega) (ezu_at rfl) rfl rfl rfl rfl (ezs_m30_1 hI (by omega) hzT) ?_
                rintro _ _ ⟨⟨F, A, rfl, hI⟩, rfl⟩
                refine ezw_goto rfl rfl ?_
                exact ezw_return rfl rfl ⟨⟨F, A, rfl, hI⟩, rfl⟩
            · refine ezw_aload_n rfl rfl ?_
              refine ezw_call0_0 rfl (by omega) (ezu_at rfl) rfl rfl rfl rfl (ezs_m30_1 hI (by omega) hzT) ?_
              rintro _ _ ⟨⟨F, A, rfl, hI⟩, rfl⟩
              refine ezw_aload_n rfl rfl ?_
              refine ezw_aload_n rfl rfl ?_
              refine ezw_iload_n rfl rfl ?_
              refine ezw_iconst (1) rfl rfl ?_
              refine ezw_iadd (k := (1)) rfl rfl ?_
              refine ezw_call0_2 rfl (by omega) (ezu_at rfl) rfl rfl rfl rfl (ezs_m82_5_1_v1 hI (by omega) hzA hzT) ?_
              rintro _ _ ⟨⟨F, A, rfl, hI⟩, rfl⟩
              refine ezw_aload_n rfl rfl ?_
              refine ezw_bipush (-5) rfl rfl ?_
              refine ezw_call0_1 rfl (by omega) (ezu_at rfl) rfl rfl rfl rfl (ezs_m83_5 hI (by omega) hzA ⟨by decide, by decide⟩) ?_
              rintro _ _ ⟨⟨F, A, rfl, hI⟩, rfl⟩
              refine ezw_goto rfl rfl ?_
              exact ezw_return rfl rfl ⟨⟨F, A, rfl, hI⟩, rfl⟩
          · refine ezw_aload_n rfl rfl ?_
            refine ezw_aload_n rfl rfl ?_
            refine ezs_get_i hI rfl rfl rfl rfl rfl rfl (fun u9 hu9 ku9 => ?_)
            refine ezw_call0_1 rfl (by omega) (ezu_at rfl) rfl rfl rfl rfl (ezs_m83_5 hI (by omega) hzA hu9) ?_
            rintro _ _ ⟨⟨F, A, rfl, hI⟩, rfl⟩
            refine ezw_aload_n rfl rfl ?_
            refine ezw_call0_0 rfl (by omega) (ezu_at rfl) rfl rfl rfl rfl (ezs_m30_1 hI (by omega) hzT) ?_
            rintro _ _ ⟨⟨F, A, rfl, hI⟩, rfl⟩
            refine ezw_goto rfl rfl ?_
            exact ezw_return rfl rfl ⟨⟨F, A, rfl, hI⟩, rfl⟩
        · refine ezw_aload_n rfl rfl ?_
          refine ezw_iconst (-1) rfl rfl ?_
          refine ezw_aload_n rfl rfl ?_
          refine ezs_get_i hI rfl rfl rfl rfl rfl rfl (fun u10 hu10 ku10 => ?_)
          refine ezs_isub rfl (fun u11 hu11 => ?_)
          refine ezw_call0_1 rfl (by omega) (ezu_at rfl) rfl rfl rfl rfl (ezs_m83_5 hI (by omega) hzA hu11) ?_
          rintro _ _ ⟨⟨F, A, rfl, hI⟩, rfl⟩
          refine ezw_aload_n rfl rfl ?_
          refine ezw_call0_0 rfl (by omega) (ezu_at rfl) rfl rfl rfl rfl (ezs_m30_1 hI (by omega) hzT) ?_
          rintro _ _ ⟨⟨F, A, rfl, hI⟩, rfl⟩
          refine ezw_goto rfl rfl ?_
          exact ezw_return rfl rfl ⟨⟨F, A, rfl, hI⟩, rfl⟩
    refine ezw_if_ne rfl rfl ⟨by omega, by omega⟩ (fun h23_3 => ?_) (fun h23_3 => ?_)
    · refine ezw_iconst (1) rfl rfl ?_
      refine ezw_goto rfl rfl ?_
      exact ezw_keepE [true, true, true, true, false] (J59_4 (1) ⟨by omega, by omega⟩ F A hI)
    · refine ezw_aload_n rfl rfl ?_
      refine ezw_bipush (101) rfl rfl ?_
      refine ezw_call0_1 rfl (by omega) (ezu_at rfl) rfl rfl rfl rfl (ezs_m46_1 hI (by omega) ⟨by decide, by decide⟩) ?_
      rintro _ _ ⟨rfl, u12, hu12, rfl⟩
      refine ezw_if_ne rfl rfl ⟨by omega, by omega⟩ (fun h32_12 => ?_) (fun h32_12 => ?_)
      · refine ezw_iconst (1) rfl rfl ?_
        refine ezw_goto rfl rfl ?_
        exact ezw_keepE [true, true, true, true, false] (J59_4 (1) ⟨by omega, by omega⟩ F A hI)
      · refine ezw_aload_n rfl rfl ?_
        refine ezw_bipush (41) rfl rfl ?_
        refine ezw_call0_1 rfl (by omega) (ezu_at rfl) rfl rfl rfl rfl (ezs_m46_1 hI (by omega) ⟨by decide, by decide⟩) ?_
        rintro _ _ ⟨rfl, u13, hu13, rfl⟩
        refine ezw_if_ne rfl rfl ⟨by omega, by omega⟩ (fun h41_13 => ?_) (fun h41_13 => ?_)
        · refine ezw_iconst (1) rfl rfl ?_
          refine ezw_goto rfl rfl ?_
          exact ezw_keepE [true, true, true, true, false] (J59_4 (1) ⟨by omega, by omega⟩ F A hI)
        · refine ezw_aload_n rfl rfl ?_
          refine ezw_sipush (240) rfl rfl ?_
          refine ezw_call0_1 rfl (by omega) (ezu_at rfl) rfl rfl rfl rfl (ezs_m46_1 hI (by omega) ⟨by decide, by decide⟩) ?_
          rintro _ _ ⟨rfl, u14, hu14, rfl⟩
          refine ezw_if_eq rfl rfl ⟨by omega, by omega⟩ (fun h51_14 => ?_) (fun h51_14 => ?_)
          · refine ezw_iconst (0) rfl rfl ?_
            exact ezw_keepE [true, true, true, true, false] (J59_4 (0) ⟨by omega, by omega⟩ F A hI)
          · refine ezw_iconst (1) rfl rfl ?_
            refine ezw_goto rfl rfl ?_
            exact ezw_keepE [true, true, true, true, false] (J59_4 (1) ⟨by omega, by omega⟩ F A hI)
  refine ezw_if_eq rfl rfl ⟨by omega, by omega⟩ (fun h6_1 => ?_) (fun h6_1 => ?_)
  · refine ezw_iconst (0) rfl rfl ?_
    exact ezw_keepE [true, true, true, false, false] (J21_2 (0) ⟨by omega, by omega⟩ F A hI)
  · refine ezw_aload_n rfl rfl ?_
    refine ezs_get_i hI rfl rfl rfl rfl rfl rfl (fun u15 hu15 ku15 => ?_)
    refine ezw_if_lt rfl rfl hu15 (fun h13_15 => ?_) (fun h13_15 => ?_)
    · refine ezw_iconst (0) rfl rfl ?_
      exact ezw_keepE [true, true, true, false, false] (J21_2 (0) ⟨by omega, by omega⟩ F A hI)
    · refine ezw_iconst (1) rfl rfl ?_
      refine ezw_goto rfl rfl ?_
      exact ezw_keepE [true, true, true, false, false] (J21_2 (1) ⟨by omega, by omega⟩ F A hI)
theorem ezs_m81_5_1_v4_v0 {F : Nat → Nat → Int} {A : Nat → Int → Int} (hI : ezs_I fz F0 A0 F A) (hd : 34 ≤ d) (hzA : ∀ q, 4 ≤ q → q < 72 → fz q = false) (hzT : fz 1 = false) : ezw_C l ρ B xa Hb D cA 81 d [ezw_p 5, ezw_p 1, ezw_i (4), ezw_i (0)] (ezu_g e F A) (ezs_P e fz F0 A0 ezs_rn) := by
  refine ezw_met (k := 2) rfl rfl ?_
  refine ezw_iload_n rfl rfl ?_
  refine ezw_iconst (4) rfl rfl ?_
  refine ezw_icmp_lt rfl rfl ⟨by decide, by decide⟩ ⟨by decide, by decide⟩ (fun h2_0 => absurd h2_0 (by omega)) (fun h2_0 => ?_)
  refine ezw_aload_n rfl rfl ?_
  refine ezw_aload_n rfl rfl ?_
  refine ezw_iload_n rfl rfl ?_
  refine ezw_call0_2 rfl (by omega) (ezu_at rfl) rfl rfl rfl rfl (ezs_m82_5_1_v0 hI (by omega) hzA hzT) ?_
  rintro _ _ ⟨⟨F, A, rfl, hI⟩, rfl⟩
  exact ezw_return rfl rfl ⟨⟨F, A, rfl, hI⟩, rfl⟩
theorem ezs_m81_5_1_v3_v0 {F : Nat → Nat → Int} {A : Nat → Int → Int} (hI : ezs_I fz F0 A0 F A) (hd : 35 ≤ d) (hzA : ∀ q, 4 ≤ q → q < 72 → fz q = false) (hzT : fz 1 = false) : ezw_C l ρ B xa Hb D cA 81 d [ezw_p 5, ezw_p 1, ezw_i (3), ezw_i (0)] (ezu_g e F A) (ezs_P e fz F0 A0 ezs_rn) := by
  refine ezw_met (k := 2) rfl rfl ?_
  refine ezw_iload_n rfl rfl ?_
  refine ezw_iconst (4) rfl rfl ?_
  refine ezw_icmp_lt rfl rfl ⟨by decide, by decide⟩ ⟨by decide, by decide⟩ (fun h2_0 => ?_) (fun h2_0 => absurd h2_0 (by omega))
  refine ezw_aload_n rfl rfl ?_
  refine ezw_aload_n rfl rfl ?_
  refine ezw_iload_n rfl rfl ?_
  refine ezw_iconst (1) rfl rfl ?_
  refine ezw_iadd (k := (4)) rfl rfl ?_
  refine ezw_iload_n rfl rfl ?_
  refine ezw_call0_3 rfl (by omega) (ezu_at rfl) rfl rfl rfl rfl (ezs_m81_5_1_v4_v0 hI (by omega) hzA hzT) ?_
  rintro _ _ ⟨⟨F, A, rfl, hI⟩, rfl⟩
  refine ezw_iconst (0) rfl rfl ?_
  refine ezw_istore rfl rfl ?_
  have L24_1 : ∀ c1 : Int, ezw_in c1 → (0) ≤ c1 → ∀ F A, ezs_I fz F0 A0 F A → ezw_E l ρ B xa Hb D cA d ezq_re81 (ezs_P e fz F0 A0 ezs_rn) 24 [some (ezw_p 5), some (ezw_p 1), some (ezw_i (3)), some (ezw_i (0)), some (ezw_i c1), none] [] (ezu_g e F A) := by
    refine ezs_up ?_
    intro c1 hc1 ihc1 gc1 F A hI
    refine ezw_iload rfl rfl ?_
    refine ezw_sipush (1000) rfl rfl ?_
    refine ezw_icmp_ge rfl rfl hc1 ⟨by decide, by decide⟩ (fun h29_2 => ?_) (fun h29_2 => ?_)
    · exact ezw_return rfl rfl ⟨⟨F, A, rfl, hI⟩, rfl⟩
    · refine ezw_aload_n rfl rfl ?_
      refine ezw_call0_0 rfl (by omega) (ezu_at rfl) rfl rfl rfl rfl (ezs_m45_1 hI (by omega)) ?_
      rintro _ _ ⟨rfl, u3, hu3, rfl⟩
      refine ezw_if_eq rfl rfl ⟨by omega, by omega⟩ (fun h36_3 => ?_) (fun h36_3 => ?_)
      · exact ezw_return rfl rfl ⟨⟨F, A, rfl, hI⟩, rfl⟩
      · refine ezw_aload_n rfl rfl ?_
        refine ezs_get_i hI rfl rfl rfl rfl rfl rfl (fun u4 hu4 ku4 => ?_)
        refine ezw_iload_n rfl rfl ?_
        refine ezw_call2_2 rfl (by omega) rfl rfl (ezs_m84 hI (by omega) hu4 ⟨by decide, by decide⟩) ?_
        rintro _ _ ⟨rfl, u5, hu5, rfl⟩
        refine ezw_istore rfl rfl ?_
        refine ezw_iload rfl rfl ?_
        refine ezw_if_ne rfl rfl hu5 (fun h51_5 => ?_) (fun h51_5 => ?_)
        · refine ezw_aload_n rfl rfl ?_
          refine ezw_call0_0 rfl (by omega) (ezu_at rfl) rfl rfl rfl rfl (ezs_m30_1 hI (by omega) hzT) ?_
          rintro _ _ ⟨⟨F, A, rfl, hI⟩, rfl⟩
          refine ezw_aload_n rfl rfl ?_
          refine ezw_aload_n rfl rfl ?_
          refine ezw_iload_n rfl rfl ?_
          refine ezw_iconst (1) rfl rfl ?_
          refine ezw_iadd (k := (4)) rfl rfl ?_
          refine ezw_iload_n rfl rfl ?_
          refine ezw_call0_3 rfl (by omega) (ezu_at rfl) rfl rfl rfl rfl (ezs_m81_5_1_v4_v0 hI (by omega) hzA hzT) ?_
          rintro _ _ ⟨⟨F, A, rfl, hI⟩, rfl⟩
          refine ezw_aload_n rfl rfl ?_
          refine ezw_iload rfl rfl ?_
          refine ezw_call0_1 rfl (by omega) (ezu_at rfl) rfl rfl rfl rfl (ezs_m83_5 hI (by omega) hzA hu5) ?_
          rintro _ _ ⟨⟨F, A, rfl, hI⟩, rfl⟩
          refine ezw_iload_n rfl rfl ?_
          refine ezw_iconst (1) rfl rfl ?_
          refine ezw_icmp_ne rfl rfl ⟨by decide, by decide⟩ ⟨by decide, by decide⟩ (fun h76_5 => ?_) (fun h76_5 => absurd h76_5 (by omega))
          refine ezw_iinc (1) rfl rfl rfl rfl rfl ?_
          refine ezw_goto rfl rfl ?_
          exact ezw_keepE [true, true, true, true, true, false] (ihc1 (c1 + (1)) (by omega) ⟨by omega, by omega⟩ (by omega)  F A hI)
        · exact ezw_return rfl rfl ⟨⟨F, A, rfl, hI⟩, rfl⟩
  exact ezw_keepE [true, true, true, true, true, false] (L24_1 (0) ⟨by decide, by decide⟩ (by omega)  F A hI)
theorem ezs_m81_5_1_v2_v0 {F : Nat → Nat → Int} {A : Nat → Int → Int} (hI : ezs_I fz F0 A0 F A) (hd : 36 ≤ d) (hzA : ∀ q, 4 ≤ q → q < 72 → fz q = false) (hzT : fz 1 = false) : ezw_C l ρ B xa Hb D cA 81 d [ezw_p 5, ezw_p 1, ezw_i (2), ezw_i (0)] (ezu_g e F A) (ezs_P e fz F0 A0 ezs_rn) := by
  refine ezw_met (k := 2) rfl rfl ?_
  refine ezw_iload_n rfl rfl ?_
  refine ezw_iconst (4) rfl rfl ?_
  refine ezw_icmp_lt rfl rfl ⟨by decide, by decide⟩ ⟨by decide, by decide⟩ (fun h2_0 => ?_) (fun h2_0 => absurd h2_0 (by omega))
  refine ezw_aload_n rfl rfl ?_
  refine ezw_aload_n rfl rfl ?_
  refine ezw_iload_n rfl rfl ?_
  refine ezw_iconst (1) rfl rfl ?_
  refine ezw_iadd (k := (3)) rfl rfl ?_
  refine ezw_iload_n rfl rfl ?_
  refine ezw_call0_3 rfl (by omega) (ezu_at rfl) rfl rfl rfl rfl (ezs_m81_5_1_v3_v0 hI (by omega) hzA hzT) ?_
  rintro _ _ ⟨⟨F, A, rfl, hI⟩, rfl⟩
  refine ezw_iconst (0) rfl rfl ?_
  refine ezw_istore rfl rfl ?_
  have L24_1 : ∀ c1 : Int, ezw_in c1 → (0) ≤ c1 → ∀ F A, ezs_I fz F0 A0 F A → ezw_E l ρ B xa Hb D cA d ezq_re81 (ezs_P e fz F0 A0 ezs_rn) 24 [some (ezw_p 5), some (ezw_p 1), some (ezw_i (2)), some (ezw_i (0)), some (ezw_i c1), none] [] (ezu_g e F A) := by
    refine ezs_up ?_
    intro c1 hc1 ihc1 gc1 F A hI
    refine ezw_iload rfl rfl ?_
    refine ezw_sipush (1000) rfl rfl ?_
    refine ezw_icmp_ge rfl rfl hc1 ⟨by decide, by decide⟩ (fun h29_2 => ?_) (fun h29_2 => ?_)
    · exact ezw_return rfl rfl ⟨⟨F, A, rfl, hI⟩, rfl⟩
    · refine ezw_aload_n rfl rfl ?_
      refine ezw_call0_0 rfl (by omega) (ezu_at rfl) rfl rfl rfl rfl (ezs_m45_1 hI (by omega)) ?_
      rintro _ _ ⟨rfl, u3, hu3, rfl⟩
      refine ezw_if_eq rfl rfl ⟨by omega, by omega⟩ (fun h36_3 => ?_) (fun h36_3 => ?_)
      · exact ezw_return rfl rfl ⟨⟨F, A, rfl, hI⟩, rfl⟩
      · refine ezw_aload_n rfl rfl ?_
        refine ezs_get_i hI rfl rfl rfl rfl rfl rfl (fun u4 hu4 ku4 => ?_)
        refine ezw_iload_n rfl rfl ?_
        refine ezw_call2_2 rfl (by omega) rfl rfl (ezs_m84 hI (by omega) hu4 ⟨by decide, by decide⟩) ?_
        rintro _ _ ⟨rfl, u5, hu5, rfl⟩
        refine ezw_istore rfl rfl ?_
        refine ezw_iload rfl rfl ?_
        refine ezw_if_ne rfl rfl hu5 (fun h51_5 => ?_) (fun h51_5 => ?_)
        · refine ezw_aload_n rfl rfl ?_
          refine ezw_call0_0 rfl (by omega) (ezu_at rfl) rfl rfl rfl rfl (ezs_m30_1 hI (by omega) hzT) ?_
          rintro _ _ ⟨⟨F, A, rfl, hI⟩, rfl⟩
          refine ezw_aload_n rfl rfl ?_
          refine ezw_aload_n rfl rfl ?_
          refine ezw_iload_n rfl rfl ?_
          refine ezw_iconst (1) rfl rfl ?_
          refine ezw_iadd (k := (3)) rfl rfl ?_
          refine ezw_iload_n rfl rfl ?_
          refine ezw_call0_3 rfl (by omega) (ezu_at rfl) rfl rfl rfl rfl (ezs_m81_5_1_v3_v0 hI (by omega) hzA hzT) ?_
          rintro _ _ ⟨⟨F, A, rfl, hI⟩, rfl⟩
          refine ezw_aload_n rfl rfl ?_
          refine ezw_iload rfl rfl ?_
          refine ezw_call0_1 rfl (by omega) (ezu_at rfl) rfl rfl rfl rfl (ezs_m83_5 hI (by omega) hzA hu5) ?_
          rintro _ _ ⟨⟨F, A, rfl, hI⟩, rfl⟩
          refine ezw_iload_n rfl rfl ?_
          refine ezw_iconst (1) rfl rfl ?_
          refine ezw_icmp_ne rfl rfl ⟨by decide, by decide⟩ ⟨by decide, by decide⟩ (fun h76_5 => ?_) (fun h76_5 => absurd h76_5 (by omega))
          refine ezw_iinc (1) rfl rfl rfl rfl rfl ?_
          refine ezw_goto rfl rfl ?_
          exact ezw_keepE [true, true, true, true, true, false] (ihc1 (c1 + (1)) (by omega) ⟨by omega, by omega⟩ (by omega)  F A hI)
        · exact ezw_return rfl rfl ⟨⟨F, A, rfl, hI⟩, rfl⟩
  exact ezw_keepE [true, true, true, true, true, false] (L24_1 (0) ⟨by decide, by decide⟩ (by omega)  F A hI)
theorem ezs_m81_5_1_v1_v0 {F : Nat → Nat → Int} {A : Nat → Int → Int} (hI : ezs_I fz F0 A0 F A) (hd : 37 ≤ d) (hzA : ∀ q, 4 ≤ q → q < 72 → fz q = false) (hzT : fz 1 = false) : ezw_C l ρ B xa Hb D cA 81 d [ezw_p 5, ezw_p 1, ezw_i (1), ezw_i (0)] (ezu_g e F A) (ezs_P e fz F0 A0 ezs_rn) := by
  refine ezw_met (k := 2) rfl rfl ?_
  refine ezw_iload_n rfl rfl ?_
  refine ezw_iconst (4) rfl rfl ?_
  refine ezw_icmp_lt rfl rfl ⟨by decide, by decide⟩ ⟨by decide, by decide⟩ (fun h2_0 => ?_) (fun h2_0 => absurd h2_0 (by omega))
  refine ezw_aload_n rfl rfl ?_
  refine ezw_aload_n rfl rfl ?_
  refine ezw_iload_n rfl rfl ?_
  refine ezw_iconst (1) rfl rfl ?_
  refine ezw_iadd (k := (2)) rfl rfl ?_
  refine ezw_iload_n rfl rfl ?_
  refine ezw_call0_3 rfl (by omega) (ezu_at rfl) rfl rfl rfl rfl (ezs_m81_5_1_v2_v0 hI (by omega) hzA hzT) ?_
  rintro _ _ ⟨⟨F, A, rfl, hI⟩, rfl⟩
  refine ezw_iconst (0) rfl rfl ?_
  refine ezw_istore rfl rfl ?_
  have L24_1 : ∀ c1 : Int, ezw_in c1 → (0) ≤ c1 → ∀ F A, ezs_I fz F0 A0 F A → ezw_E l ρ B xa Hb D cA d ezq_re81 (ezs_P e fz F0 A0 ezs_rn) 24 [some (ezw_p 5), some (ezw_p 1), some (ezw_i (1)), some (ezw_i (0)), some (ezw_i c1), none] [] (ezu_g e F A) := by
    refine ezs_up ?_
    intro c1 hc1 ihc1 gc1 F A hI
    refine ezw_iload rfl rfl ?_
    refine ezw_sipush (1000) rfl rfl ?_
    refine ezw_icmp_ge rfl rfl hc1 ⟨by decide, by decide⟩ (fun h29_2 => ?_) (fun h29_2 => ?_)
    · exact ezw_return rfl rfl ⟨⟨F, A, rfl, hI⟩, rfl⟩
    · refine ezw_aload_n rfl rfl ?_
      refine ezw_call0_0 rfl (by omega) (ezu_at rfl) rfl rfl rfl rfl (ezs_m45_1 hI (by omega)) ?_
      rintro _ _ ⟨rfl, u3, hu3, rfl⟩
      refine ezw_if_eq rfl rfl ⟨by omega, by omega⟩ (fun h36_3 => ?_) (fun h36_3 => ?_)
      · exact ezw_return rfl rfl ⟨⟨F, A, rfl, hI⟩, rfl⟩
      · refine ezw_aload_n rfl rfl ?_
        refine ezs_get_i hI rfl rfl rfl rfl rfl rfl (fun u4 hu4 ku4 => ?_)
        refine ezw_iload_n rfl rfl ?_
        refine ezw_call2_2 rfl (by omega) rfl rfl (ezs_m84 hI (by omega) hu4 ⟨by decide, by decide⟩) ?_
        rintro _ _ ⟨rfl, u5, hu5, rfl⟩
        refine ezw_istore rfl rfl ?_
        refine ezw_iload rfl rfl ?_
        refine ezw_if_ne rfl rfl hu5 (fun h51_5 => ?_) (fun h51_5 => ?_)
        · refine ezw_aload_n rfl rfl ?_
          refine ezw_call0_0 rfl (by omega) (ezu_at rfl) rfl rfl rfl rfl (ezs_m30_1 hI (by omega) hzT) ?_
          rintro _ _ ⟨⟨F, A, rfl, hI⟩, rfl⟩
          refine ezw_aload_n rfl rfl ?_
          refine ezw_aload_n rfl rfl ?_
          refine ezw_iload_n rfl rfl ?_
          refine ezw_iconst (1) rfl rfl ?_
          refine ezw_iadd (k := (2)) rfl rfl ?_
          refine ezw_iload_n rfl rfl ?_
          refine ezw_call0_3 rfl (by omega) (ezu_at rfl) rfl rfl rfl rfl (ezs_m81_5_1_v2_v0 hI (by omega) hzA hzT) ?_
          rintro _ _ ⟨⟨F, A, rfl, hI⟩, rfl⟩
          refine ezw_aload_n rfl rfl ?_
          refine ezw_iload rfl rfl ?_
          refine ezw_call0_1 rfl (by omega) (ezu_at rfl) rfl rfl rfl rfl (ezs_m83_5 hI (by omega) hzA hu5) ?_
          rintro _ _ ⟨⟨F, A, rfl, hI⟩, rfl⟩
          refine ezw_iload_n rfl rfl ?_
          refine ezw_iconst (1) rfl rfl ?_
          refine ezw_icmp_ne rfl rfl ⟨by decide, by decide⟩ ⟨by decide, by decide⟩ (fun h76_5 => absurd h76_5 (by omega)) (fun h76_5 => ?_)
          exact ezw_return rfl rfl ⟨⟨F, A, rfl, hI⟩, rfl⟩
        · exact ezw_return rfl rfl ⟨⟨F, A, rfl, hI⟩, rfl⟩
  exact ezw_keepE [true, true, true, true, true, false] (L24_1 (0) ⟨by decide, by decide⟩ (by omega)  F A hI)
theorem ezs_m81_5_1_v0_v0 {F : Nat → Nat → Int} {A : Nat → Int → Int} (hI : ezs_I fz F0 A0 F A) (hd : 38 ≤ d) (hzA : ∀ q, 4 ≤ q → q < 72 → fz q = false) (hzT : fz 1 = false) : ezw_C l ρ B xa Hb D cA 81 d [ezw_p 5, ezw_p 1, ezw_i (0), ezw_i (0)] (ezu_g e F A) (ezs_P e fz F0 A0 ezs_rn) := by
  refine ezw_met (k := 2) rfl rfl ?_
  refine ezw_iload_n rfl rfl ?_
  refine ezw_iconst (4) rfl rfl ?_
  refine ezw_icmp_lt rfl rfl ⟨by decide, by decide⟩ ⟨by decide, by decide⟩ (fun h2_0 => ?_) (fun h2_0 => absurd h2_0 (by omega))
  refine ezw_aload_n rfl rfl ?_
  refine ezw_aload_n rfl rfl ?_
  refine ezw_iload_n rfl rfl ?_
  refine ezw_iconst (1) rfl rfl ?_
  refine ezw_iadd (k := (1)) rfl rfl ?_
  refine ezw_iload_n rfl rfl ?_
  refine ezw_call0_3 rfl (by omega) (ezu_at rfl) rfl rfl rfl rfl (ezs_m81_5_1_v1_v0 hI (by omega) hzA hzT) ?_
  rintro _ _ ⟨⟨F, A, rfl, hI⟩, rfl⟩
  refine ezw_iconst (0) rfl rfl ?_
  refine ezw_istore rfl rfl ?_
  have L24_1 : ∀ c1 : Int, ezw_in c1 → (0) ≤ c1 → ∀ F A, ezs_I fz F0 A0 F A → ezw_E l ρ B xa Hb D cA d ezq_re81 (ezs_P e fz F0 A0 ezs_rn) 24 [some (ezw_p 5), some (ezw_p 1), some (ezw_i (0)), some (ezw_i (0)), some (ezw_i c1), none] [] (ezu_g e F A) := by
    refine ezs_up ?_
    intro c1 hc1 ihc1 gc1 F A hI
    refine ezw_iload rfl rfl ?_
    refine ezw_sipush (1000) rfl rfl ?_
    refine ezw_icmp_ge rfl rfl hc1 ⟨by decide, by decide⟩ (fun h29_2 => ?_) (fun h29_2 => ?_)
    · exact ezw_return rfl rfl ⟨⟨F, A, rfl, hI⟩, rfl⟩
    · refine ezw_aload_n rfl rfl ?_
      refine ezw_call0_0 rfl (by omega) (ezu_at rfl) rfl rfl rfl rfl (ezs_m45_1 hI (by omega)) ?_
      rintro _ _ ⟨rfl, u3, hu3, rfl⟩
      refine ezw_if_eq rfl rfl ⟨by omega, by omega⟩ (fun h36_3 => ?_) (fun h36_3 => ?_)
      · exact ezw_return rfl rfl ⟨⟨F, A, rfl, hI⟩, rfl⟩
      · refine ezw_aload_n rfl rfl ?_
        refine ezs_get_i hI rfl rfl rfl rfl rfl rfl (fun u4 hu4 ku4 => ?_)
        refine ezw_iload_n rfl rfl ?_
        refine ezw_call2_2 rfl (by omega) rfl rfl (ezs_m84 hI (by omega) hu4 ⟨by decide, by decide⟩) ?_
        rintro _ _ ⟨rfl, u5, hu5, rfl⟩
        refine ezw_istore rfl rfl ?_
        refine ezw_iload rfl rfl ?_
        refine ezw_if_ne rfl rfl hu5 (fun h51_5 => ?_) (fun h51_5 => ?_)
        · refine ezw_aload_n rfl rfl ?_
          refine ezw_call0_0 rfl (by omega) (ezu_at rfl) rfl rfl rfl rfl (ezs_m30_1 hI (by omega) hzT) ?_
          rintro _ _ ⟨⟨F, A, rfl, hI⟩, rfl⟩
          refine ezw_aload_n rfl rfl ?_
          refine ezw_aload_n rfl rfl ?_
          refine ezw_iload_n rfl rfl ?_
          refine ezw_iconst (1) rfl rfl ?_
          refine ezw_iadd (k := (1)) rfl rfl ?_
          refine ezw_iload_n rfl rfl ?_
          refine ezw_call0_3 rfl (by omega) (ezu_at rfl) rfl rfl rfl rfl (ezs_m81_5_1_v1_v0 hI (by omega) hzA hzT) ?_
          rintro _ _ ⟨⟨F, A, rfl, hI⟩, rfl⟩
          refine ezw_aload_n rfl rfl ?_
          refine ezw_iload rfl rfl ?_
          refine ezw_call0_1 rfl (by omega) (ezu_at rfl) rfl rfl rfl rfl (ezs_m83_5 hI (by omega) hzA hu5) ?_
          rintro _ _ ⟨⟨F, A, rfl, hI⟩, rfl⟩
          refine ezw_iload_n rfl rfl ?_
          refine ezw_iconst (1) rfl rfl ?_
          refine ezw_icmp_ne rfl rfl ⟨by decide, by decide⟩ ⟨by decide, by decide⟩ (fun h76_5 => ?_) (fun h76_5 => absurd h76_5 (by omega))
          refine ezw_iinc (1) rfl rfl rfl rfl rfl ?_
          refine ezw_goto rfl rfl ?_
          exact ezw_keepE [true, true, true, true, true, false] (ihc1 (c1 + (1)) (by omega) ⟨by omega, by omega⟩ (by omega)  F A hI)
        · exact ezw_return rfl rfl ⟨⟨F, A, rfl, hI⟩, rfl⟩
  exact ezw_keepE [true, true, true, true, true, false] (L24_1 (0) ⟨by decide, by decide⟩ (by omega)  F A hI)
theorem ezs_m80_5_1 {F : Nat → Nat → Int} {A : Nat → Int → Int} (hI : ezs_I fz F0 A0 F A) (hd : 39 ≤ d) (hzA : ∀ q, 4 ≤ q → q < 72 → fz q = false) (hzT : fz 1 = false) : ezw_C l ρ B xa Hb D cA 80 d [ezw_p 5, ezw_p 1] (ezu_g e F A) (ezs_P e fz F0 A0 ezs_rn) := by
  refine ezw_met (k := 0) rfl rfl ?_
  refine ezw_aload_n rfl rfl ?_
  refine ezw_iconst (1) rfl rfl ?_
  refine ezs_put_z hI rfl rfl rfl rfl ⟨by omega, by omega⟩ rfl (hzA 5 (by decide) (by decide)) (show ezs_fk 5 3 _ from ⟨by omega, by omega⟩) (fun F A hI => ?_)
  refine ezw_aload_n rfl rfl ?_
  refine ezw_iconst (0) rfl rfl ?_
  refine ezs_put_i hI rfl rfl rfl rfl rfl (hzA 5 (by decide) (by decide)) ⟨by decide, by decide⟩ (fun F A hI => ?_)
  refine ezw_aload_n rfl rfl ?_
  refine ezw_aload_n rfl rfl ?_
  refine ezw_iconst (0) rfl rfl ?_
  refine ezw_iconst (0) rfl rfl ?_
  refine ezw_call0_3 rfl (by omega) (ezu_at rfl) rfl rfl rfl rfl (ezs_m81_5_1_v0_v0 hI (by omega) hzA hzT) ?_
  rintro _ _ ⟨⟨F, A, rfl, hI⟩, rfl⟩
  exact ezw_return rfl rfl ⟨⟨F, A, rfl, hI⟩, rfl⟩
theorem ezs_m21_8 {a1 a2 : Int} {F : Nat → Nat → Int} {A : Nat → Int → Int} (hI : ezs_I fz F0 A0 F A) (hd : 0 ≤ d) (hzA : ∀ q, 4 ≤ q → q < 72 → fz q = false) (ha1 : ezw_in a1) (ha2 : ezw_in a2) : ezw_C l ρ B xa Hb D cA 21 d [ezw_p 8, ezw_i a1, ezw_i a2] (ezu_g e F A) (ezs_P e fz F0 A0 ezs_rn) := by
  refine ezw_met (k := 0) rfl rfl ?_
  refine ezw_aload_n rfl rfl ?_
  refine ezw_ifnull rfl ?_
  refine ezw_iload_n rfl rfl ?_
  refine ezw_if_lt rfl rfl ha1 (fun h5_0 => ?_) (fun h5_0 => ?_)
  · exact ezw_return rfl rfl ⟨⟨F, A, rfl, hI⟩, rfl⟩
  · refine ezw_iload_n rfl rfl ?_
    refine ezw_aload_n rfl rfl ?_
    refine ezs_alen (k := 4) rfl rfl rfl rfl (by decide) (by decide) ?_
    refine ezw_icmp_ge rfl rfl ha1 ⟨by decide, by decide⟩ (fun h11_0 => ?_) (fun h11_0 => ?_)
    · exact ezw_return rfl rfl ⟨⟨F, A, rfl, hI⟩, rfl⟩
    · refine ezw_aload_n rfl rfl ?_
      refine ezw_iload_n rfl rfl ?_
      refine ezw_iload_n rfl rfl ?_
      refine ezs_iastore hI rfl rfl rfl (by omega) (by omega) (by decide) (hzA 8 (by decide) (by decide)) ha2 (fun F A hI => ?_)
      exact ezw_return rfl rfl ⟨⟨F, A, rfl, hI⟩, rfl⟩
theorem ezs_m27_7 {a1 : Int} {F : Nat → Nat → Int} {A : Nat → Int → Int} (hI : ezs_I fz F0 A0 F A) (hd : 0 ≤ d) (ha1 : ezw_in a1) : ezw_C l ρ B xa Hb D cA 27 d [ezw_p 7, ezw_i a1] (ezu_g e F A) (ezs_Pp e F A ezs_ri) := by
  refine ezw_met (k := 0) rfl rfl ?_
  refine ezw_aload_n rfl rfl ?_
  refine ezw_ifnull rfl ?_
  refine ezw_iload_n rfl rfl ?_
  refine ezw_if_lt rfl rfl ha1 (fun h5_0 => ?_) (fun h5_0 => ?_)
  · refine ezw_iconst (0) rfl rfl ?_
    exact ezw_ireturn rfl rfl ⟨rfl, _, ⟨by decide, by decide⟩, rfl⟩
  · refine ezw_iload_n rfl rfl ?_
    refine ezw_aload_n rfl rfl ?_
    refine ezs_alen (k := 32) rfl rfl rfl rfl (by decide) (by decide) ?_
    refine ezw_icmp_ge rfl rfl ha1 ⟨by decide, by decide⟩ (fun h11_0 => ?_) (fun h11_0 => ?_)
    · refine ezw_iconst (0) rfl rfl ?_
      exact ezw_ireturn rfl rfl ⟨rfl, _, ⟨by decide, by decide⟩, rfl⟩
    · refine ezw_aload_n rfl rfl ?_
      refine ezw_iload_n rfl rfl ?_
      refine ezs_iaload hI rfl rfl rfl (by omega) (by omega) (by decide) (fun u1 hu1 ku1 => ?_)
      refine ezw_goto rfl rfl ?_
      exact ezw_ireturn rfl rfl ⟨rfl, _, hu1, rfl⟩
theorem ezs_m90_5 {F : Nat → Nat → Int} {A : Nat → Int → Int} (hI : ezs_I fz F0 A0 F A) (hd : 1 ≤ d) (hzA : ∀ q, 4 ≤ q → q < 72 → fz q = false) : ezw_C l ρ B xa Hb D cA 90 d [ezw_p 5] (ezu_g e F A) (ezs_P e fz F0 A0 ezs_ri) := by
  refine ezw_met (k := 0) rfl rfl ?_
  refine ezw_aload_n rfl rfl ?_
  refine ezw_dup rfl rfl ?_
  refine ezs_get_i hI rfl rfl rfl rfl rfl rfl (fun u1 hu1 ku1 => ?_)
  refine ezw_iconst (1) rfl rfl ?_
  refine ezs_isub rfl (fun u2 hu2 => ?_)
  refine ezs_put_i hI rfl rfl rfl rfl rfl (hzA 5 (by decide) (by decide)) hu2 (fun F A hI => ?_)
  refine ezw_aload_n rfl rfl ?_
  refine ezs_getp (p := 7) rfl rfl rfl rfl rfl ?_
  refine ezw_aload_n rfl rfl ?_
  refine ezs_get_i hI rfl rfl rfl rfl rfl rfl (fun u3 hu3 ku3 => ?_)
  refine ezw_call3_2 rfl (by omega) rfl rfl (ezs_m27_7 hI (by omega) hu3) ?_
  rintro _ _ ⟨rfl, u4, hu4, rfl⟩
  exact ezw_ireturn rfl rfl ⟨⟨F, A, rfl, hI⟩, _, hu4, rfl⟩
theorem ezs_m91 {a0 a1 a2 : Int} {F : Nat → Nat → Int} {A : Nat → Int → Int} (hI : ezs_I fz F0 A0 F A) (hd : 0 ≤ d) (ha0 : ezw_in a0) (ha1 : ezw_in a1) (ha2 : ezw_in a2) : ezw_C l ρ B xa Hb D cA 91 d [ezw_i a0, ezw_i a1, ezw_i a2] (ezu_g e F A) (ezs_Pp e F A ezs_ri) := by
  refine ezw_met (k := 0) rfl rfl ?_
  refine ezw_iload_n rfl rfl ?_
  by_cases q1 : a0 = (-12)
  · refine ezw_tableswitchE (v := -12) (p := 102) q1 rfl (by rfl) ?_
    refine ezw_iload_n rfl rfl ?_
    refine ezw_iload_n rfl rfl ?_
    refine ezs_imul rfl (fun u2 hu2 => ?_)
    exact ezw_ireturn rfl rfl ⟨rfl, _, hu2, rfl⟩
  by_cases q3 : a0 = (-11)
  · refine ezw_tableswitchE (v := -11) (p := 98) q3 rfl (by rfl) ?_
    refine ezw_iload_n rfl rfl ?_
    refine ezw_iload_n rfl rfl ?_
    refine ezs_isub rfl (fun u4 hu4 => ?_)
    exact ezw_ireturn rfl rfl ⟨rfl, _, hu4, rfl⟩
  by_cases q5 : a0 = (-10)
  · refine ezw_tableswitchE (v := -10) (p := 94) q5 rfl (by rfl) ?_
    refine ezw_iload_n rfl rfl ?_
    refine ezw_iload_n rfl rfl ?_
    refine ezs_iadd rfl (fun u6 hu6 => ?_)
    exact ezw_ireturn rfl rfl ⟨rfl, _, hu6, rfl⟩
  by_cases q7 : a0 = (-9)
  · refine ezw_tableswitchE (v := -9) (p := 83) q7 rfl (by rfl) ?_
    refine ezw_iload_n rfl rfl ?_
    refine ezw_iload_n rfl rfl ?_
    refine ezw_icmp_ne rfl rfl ha1 ha2 (fun h85_7 => ?_) (fun h85_7 => ?_)
    · refine ezw_iconst (0) rfl rfl ?_
      exact ezw_ireturn rfl rfl ⟨rfl, _, ⟨by decide, by decide⟩, rfl⟩
    · refine ezw_iconst (1) rfl rfl ?_
      refine ezw_goto rfl rfl ?_
      exact ezw_ireturn rfl rfl ⟨rfl, _, ⟨by decide, by decide⟩, rfl⟩
  by_cases q8 : a0 = (-8)
  · refine ezw_tableswitchE (v := -8) (p := 72) q8 rfl (by rfl) ?_
    refine ezw_iload_n rfl rfl ?_
    refine ezw_iload_n rfl rfl ?_
    refine ezw_icmp_ge rfl rfl ha1 ha2 (fun h74_8 => ?_) (fun h74_8 => ?_)
    · refine ezw_iconst (0) rfl rfl ?_
      exact ezw_ireturn rfl rfl ⟨rfl, _, ⟨by decide, by decide⟩, rfl⟩
    · refine ezw_iconst (1) rfl rfl ?_
      refine ezw_goto rfl rfl ?_
      exact ezw_ireturn rfl rfl ⟨rfl, _, ⟨by decide, by decide⟩, rfl⟩
  by_cases q9 : a0 = (-7)
  · refine ezw_tableswitchE (v := -7) (p := 58) q9 rfl (by rfl) ?_
    refine ezw_iload_n rfl rfl ?_
    refine ezw_if_ne rfl rfl ha1 (fun h59_9 => ?_) (fun h59_9 => ?_)
    · refine ezw_iconst (1) rfl rfl ?_
      refine ezw_goto rfl rfl ?_
      exact ezw_ireturn rfl rfl ⟨rfl, _, ⟨by decide, by decide⟩, rfl⟩
    · refine ezw_iload_n rfl rfl ?_
      refine ezw_if_eq rfl rfl ha2 (fun h63_9 => ?_) (fun h63_9 => ?_)
      · refine ezw_iconst (0) rfl rfl ?_
        exact ezw_ireturn rfl rfl ⟨rfl, _, ⟨by decide, by decide⟩, rfl⟩
      · refine ezw_iconst (1) rfl rfl ?_
        refine ezw_goto rfl rfl ?_
        exact ezw_ireturn rfl rfl ⟨rfl, _, ⟨by decide, by decide⟩, rfl⟩
  by_cases q10 : a0 = (-6)
  · refine ezw_tableswitchE (v := -6) (p := 44) q10 rfl (by rfl) ?_
    refine ezw_iload_n rfl rfl ?_
    refine ezw_if_eq rfl rfl ha1 (fun h45_10 => ?_) (fun h45_10 => ?_)
    · refine ezw_iconst (0) rfl rfl ?_
      exact ezw_ireturn rfl rfl ⟨rfl, _, ⟨by decide, by decide⟩, rfl⟩
    · refine ezw_iload_n rfl rfl ?_
      refine ezw_if_eq rfl rfl ha2 (fun h49_10 => ?_) (fun h49_10 => ?_)
      · refine ezw_iconst (0) rfl rfl ?_
        exact ezw_ireturn rfl rfl ⟨rfl, _, ⟨by decide, by decide⟩, rfl⟩
      · refine ezw_iconst (1) rfl rfl ?_
        refine ezw_goto rfl rfl ?_
        exact ezw_ireturn rfl rfl ⟨rfl, _, ⟨by decide, by decide⟩, rfl⟩
  refine ezw_tableswitch (p := 106) rfl (ezs_swd ha0 (And.intro (And.intro ⟨by decide, by decide⟩ (fun z => q1 z.symm)) (And.intro (And.intro ⟨by decide, by decide⟩ (fun z => q3 z.symm)) (And.intro (And.intro ⟨by decide, by decide⟩ (fun z => q5 z.symm)) (And.intro (And.intro ⟨by decide, by decide⟩ (fun z => q7 z.symm)) (And.intro (And.intro ⟨by decide, by decide⟩ (fun z => q8 z.symm)) (And.intro (And.intro ⟨by decide, by decide⟩ (fun z => q9 z.symm)) (And.intro (And.intro ⟨by decide, by decide⟩ (fun z => q10 z.symm)) True.intro))))))) rfl) ?_
  refine ezw_iconst (0) rfl rfl ?_
  exact ezw_ireturn rfl rfl ⟨rfl, _, ⟨by decide, by decide⟩, rfl⟩
theorem ezs_m21_7 {a1 a2 : Int} {F : Nat → Nat → Int} {A : Nat → Int → Int} (hI : ezs_I fz F0 A0 F A) (hd : 0 ≤ d) (hzA : ∀ q, 4 ≤ q → q < 72 → fz q = false) (ha1 : ezw_in a1) (ha2 : ezw_in a2) : ezw_C l ρ B xa Hb D cA 21 d [ezw_p 7, ezw_i a1, ezw_i a2] (ezu_g e F A) (ezs_P e fz F0 A0 ezs_rn) := by
  refine ezw_met (k := 0) rfl rfl ?_
  refine ezw_aload_n rfl rfl ?_
  refine ezw_ifnull rfl ?_
  refine ezw_iload_n rfl rfl ?_
  refine ezw_if_lt rfl rfl ha1 (fun h5_0 => ?_) (fun h5_0 => ?_)
  · exact ezw_return rfl rfl ⟨⟨F, A, rfl, hI⟩, rfl⟩
  · refine ezw_iload_n rfl rfl ?_
    refine ezw_aload_n rfl rfl ?_
    refine ezs_alen (k := 32) rfl rfl rfl rfl (by decide) (by decide) ?_
    refine ezw_icmp_ge rfl rfl ha1 ⟨by decide, by decide⟩ (fun h11_0 => ?_) (fun h11_0 => ?_)
    · exact ezw_return rfl rfl ⟨⟨F, A, rfl, hI⟩, rfl⟩
    · refine ezw_aload_n rfl rfl ?_
      refine ezw_iload_n rfl rfl ?_
      refine ezw_iload_n rfl rfl ?_
      refine ezs_iastore hI rfl rfl rfl (by omega) (by omega) (by decide) (hzA 7 (by decide) (by decide)) ha2 (fun F A hI => ?_)
      exact ezw_return rfl rfl ⟨⟨F, A, rfl, hI⟩, rfl⟩
theorem ezs_m89_5 {a1 : Int} {F : Nat → Nat → Int} {A : Nat → Int → Int} (hI : ezs_I fz F0 A0 F A) (hd : 1 ≤ d) (hzA : ∀ q, 4 ≤ q → q < 72 → fz q = false) (ha1 : ezw_in a1) : ezw_C l ρ B xa Hb D cA 89 d [ezw_p 5, ezw_i a1] (ezu_g e F A) (ezs_P e fz F0 A0 ezs_rn) := by
  refine ezw_met (k := 0) rfl rfl ?_
  refine ezw_aload_n rfl rfl ?_
  refine ezs_getp (p := 7) rfl rfl rfl rfl rfl ?_
  refine ezw_aload_n rfl rfl ?_
  refine ezs_get_i hI rfl rfl rfl rfl rfl rfl (fun u1 hu1 ku1 => ?_)
  refine ezw_iload_n rfl rfl ?_
  refine ezw_call3_3 rfl (by omega) rfl rfl (ezs_m21_7 hI (by omega) hzA hu1 ha1) ?_
  rintro _ _ ⟨⟨F, A, rfl, hI⟩, rfl⟩
  refine ezw_aload_n rfl rfl ?_
  refine ezw_dup rfl rfl ?_
  refine ezs_get_i hI rfl rfl rfl rfl rfl rfl (fun u2 hu2 ku2 => ?_)
  refine ezw_iconst (1) rfl rfl ?_
  refine ezs_iadd rfl (fun u3 hu3 => ?_)
  refine ezs_put_i hI rfl rfl rfl rfl rfl (hzA 5 (by decide) (by decide)) hu3 (fun F A hI => ?_)
  exact ezw_return rfl rfl ⟨⟨F, A, rfl, hI⟩, rfl⟩
theorem ezs_m27_8 {a1 : Int} {F : Nat → Nat → Int} {A : Nat → Int → Int} (hI : ezs_I fz F0 A0 F A) (hd : 0 ≤ d) (ha1 : ezw_in a1) : ezw_C l ρ B xa Hb D cA 27 d [ezw_p 8, ezw_i a1] (ezu_g e F A) (ezs_Pp e F A ezs_ri) := by
  refine ezw_met (k := 0) rfl rfl ?_
  refine ezw_aload_n rfl rfl ?_
  refine ezw_ifnull rfl ?_
  refine ezw_iload_n rfl rfl ?_
  refine ezw_if_lt rfl rfl ha1 (fun h5_0 => ?_) (fun h5_0 => ?_)
  · refine ezw_iconst (0) rfl rfl ?_
    exact ezw_ireturn rfl rfl ⟨rfl, _, ⟨by decide, by decide⟩, rfl⟩
  · refine ezw_iload_n rfl rfl ?_
    refine ezw_aload_n rfl rfl ?_
    refine ezs_alen (k := 4) rfl rfl rfl rfl (by decide) (by decide) ?_
    refine ezw_icmp_ge rfl rfl ha1 ⟨by decide, by decide⟩ (fun h11_0 => ?_) (fun h11_0 => ?_)
    · refine ezw_iconst (0) rfl rfl ?_
      exact ezw_ireturn rfl rfl ⟨rfl, _, ⟨by decide, by decide⟩, rfl⟩
    · refine ezw_aload_n rfl rfl ?_
      refine ezw_iload_n rfl rfl ?_
      refine ezs_iaload hI rfl rfl rfl (by omega) (by omega) (by decide) (fun u1 hu1 ku1 => ?_)
      refine ezw_goto rfl rfl ?_
      exact ezw_ireturn rfl rfl ⟨rfl, _, hu1, rfl⟩
theorem ezs_m88_5 {a1 : Int} {F : Nat → Nat → Int} {A : Nat → Int → Int} (hI : ezs_I fz F0 A0 F A) (hd : 2 ≤ d) (hzA : ∀ q, 4 ≤ q → q < 72 → fz q = false) (ha1 : ezw_in a1) : ezw_C l ρ B xa Hb D cA 88 d [ezw_p 5, ezw_i a1] (ezu_g e F A) (ezs_P e fz F0 A0 ezs_rn) := by
  refine ezw_met (k := 2) rfl rfl ?_
  refine ezw_iload_n rfl rfl ?_
  refine ezw_if_lt rfl rfl ha1 (fun h1_0 => ?_) (fun h1_0 => ?_)
  · refine ezw_iload_n rfl rfl ?_
    refine ezw_bipush (-4) rfl rfl ?_
    refine ezw_icmp_lt rfl rfl ha1 ⟨by decide, by decide⟩ (fun h15_0 => ?_) (fun h15_0 => ?_)
    · refine ezw_iload_n rfl rfl ?_
      refine ezw_bipush (-5) rfl rfl ?_
      refine ezw_icmp_ne rfl rfl ha1 ⟨by decide, by decide⟩ (fun h38_0 => ?_) (fun h38_0 => ?_)
      · refine ezw_aload_n rfl rfl ?_
        refine ezw_call0_0 rfl (by omega) (ezu_at rfl) rfl rfl rfl rfl (ezs_m90_5 hI (by omega) hzA) ?_
        rintro _ _ ⟨⟨F, A, rfl, hI⟩, u1, hu1, rfl⟩
        refine ezw_istore_n rfl rfl ?_
        refine ezw_aload_n rfl rfl ?_
        refine ezw_call0_0 rfl (by omega) (ezu_at rfl) rfl rfl rfl rfl (ezs_m90_5 hI (by omega) hzA) ?_
        rintro _ _ ⟨⟨F, A, rfl, hI⟩, u2, hu2, rfl⟩
        refine ezw_istore_n rfl rfl ?_
        refine ezw_aload_n rfl rfl ?_
        refine ezw_iload_n rfl rfl ?_
        refine ezw_iload_n rfl rfl ?_
        refine ezw_iload_n rfl rfl ?_
        refine ezw_call2_3 rfl (by omega) rfl rfl (ezs_m91 hI (by omega) ha1 hu2 hu1) ?_
        rintro _ _ ⟨rfl, u3, hu3, rfl⟩
        refine ezw_call0_1 rfl (by omega) (ezu_at rfl) rfl rfl rfl rfl (ezs_m89_5 hI (by omega) hzA hu3) ?_
        rintro _ _ ⟨⟨F, A, rfl, hI⟩, rfl⟩
        exact ezw_return rfl rfl ⟨⟨F, A, rfl, hI⟩, rfl⟩
      · refine ezw_aload_n rfl rfl ?_
        refine ezw_aload_n rfl rfl ?_
        refine ezw_call0_0 rfl (by omega) (ezu_at rfl) rfl rfl rfl rfl (ezs_m90_5 hI (by omega) hzA) ?_
        rintro _ _ ⟨⟨F, A, rfl, hI⟩, u4, hu4, rfl⟩
        refine ezw_if_ne rfl rfl hu4 (fun h46_4 => ?_) (fun h46_4 => ?_)
        · refine ezw_iconst (0) rfl rfl ?_
          refine ezw_call0_1 rfl (by omega) (ezu_at rfl) rfl rfl rfl rfl (ezs_m89_5 hI (by omega) hzA ⟨by decide, by decide⟩) ?_
          rintro _ _ ⟨⟨F, A, rfl, hI⟩, rfl⟩
          refine ezw_goto rfl rfl ?_
          exact ezw_return rfl rfl ⟨⟨F, A, rfl, hI⟩, rfl⟩
        · refine ezw_iconst (1) rfl rfl ?_
          refine ezw_goto rfl rfl ?_
          refine ezw_call0_1 rfl (by omega) (ezu_at rfl) rfl rfl rfl rfl (ezs_m89_5 hI (by omega) hzA ⟨by decide, by decide⟩) ?_
          rintro _ _ ⟨⟨F, A, rfl, hI⟩, rfl⟩
          refine ezw_goto rfl rfl ?_
          exact ezw_return rfl rfl ⟨⟨F, A, rfl, hI⟩, rfl⟩
    · refine ezw_aload_n rfl rfl ?_
      refine ezw_aload_n rfl rfl ?_
      refine ezs_getp (p := 8) rfl rfl rfl rfl rfl ?_
      refine ezw_iconst (-1) rfl rfl ?_
      refine ezw_iload_n rfl rfl ?_
      refine ezs_isub rfl (fun u5 hu5 => ?_)
      refine ezw_call3_2 rfl (by omega) rfl rfl (ezs_m27_8 hI (by omega) hu5) ?_
      rintro _ _ ⟨rfl, u6, hu6, rfl⟩
      refine ezw_call0_1 rfl (by omega) (ezu_at rfl) rfl rfl rfl rfl (ezs_m89_5 hI (by omega) hzA hu6) ?_
      rintro _ _ ⟨⟨F, A, rfl, hI⟩, rfl⟩
      refine ezw_goto rfl rfl ?_
      exact ezw_return rfl rfl ⟨⟨F, A, rfl, hI⟩, rfl⟩
  · refine ezw_aload_n rfl rfl ?_
    refine ezw_iload_n rfl rfl ?_
    refine ezw_call0_1 rfl (by omega) (ezu_at rfl) rfl rfl rfl rfl (ezs_m89_5 hI (by omega) hzA ha1) ?_
    rintro _ _ ⟨⟨F, A, rfl, hI⟩, rfl⟩
    refine ezw_goto rfl rfl ?_
    exact ezw_return rfl rfl ⟨⟨F, A, rfl, hI⟩, rfl⟩
theorem ezs_m87_5 {a1 a2 a3 a4 : Int} {F : Nat → Nat → Int} {A : Nat → Int → Int} (hI : ezs_I fz F0 A0 F A) (hd : 3 ≤ d) (hzA : ∀ q, 4 ≤ q → q < 72 → fz q = false) (ha1 : ezw_in a1) (ha2 : ezw_in a2) (ha3 : ezw_in a3) (ha4 : ezw_in a4) : ezw_C l ρ B xa Hb D cA 87 d [ezw_p 5, ezw_i a1, ezw_i a2, ezw_i a3, ezw_i a4] (ezu_g e F A) (ezs_P e fz F0 A0 ezs_ri) := by
  refine ezw_met (k := 1) rfl rfl ?_
  refine ezw_aload_n rfl rfl ?_
  refine ezs_getp (p := 8) rfl rfl rfl rfl rfl ?_
  refine ezw_iconst (0) rfl rfl ?_
  refine ezw_iload_n rfl rfl ?_
  refine ezw_call3_3 rfl (by omega) rfl rfl (ezs_m21_8 hI (by omega) hzA ⟨by decide, by decide⟩ ha1) ?_
  rintro _ _ ⟨⟨F, A, rfl, hI⟩, rfl⟩
  refine ezw_aload_n rfl rfl ?_
  refine ezs_getp (p := 8) rfl rfl rfl rfl rfl ?_
  refine ezw_iconst (1) rfl rfl ?_
  refine ezw_iload_n rfl rfl ?_
  refine ezw_call3_3 rfl (by omega) rfl rfl (ezs_m21_8 hI (by omega) hzA ⟨by decide, by decide⟩ ha2) ?_
  rintro _ _ ⟨⟨F, A, rfl, hI⟩, rfl⟩
  refine ezw_aload_n rfl rfl ?_
  refine ezs_getp (p := 8) rfl rfl rfl rfl rfl ?_
  refine ezw_iconst (2) rfl rfl ?_
  refine ezw_iload_n rfl rfl ?_
  refine ezw_call3_3 rfl (by omega) rfl rfl (ezs_m21_8 hI (by omega) hzA ⟨by decide, by decide⟩ ha3) ?_
  rintro _ _ ⟨⟨F, A, rfl, hI⟩, rfl⟩
  refine ezw_aload_n rfl rfl ?_
  refine ezs_getp (p := 8) rfl rfl rfl rfl rfl ?_
  refine ezw_iconst (3) rfl rfl ?_
  refine ezw_iload rfl rfl ?_
  refine ezw_call3_3 rfl (by omega) rfl rfl (ezs_m21_8 hI (by omega) hzA ⟨by decide, by decide⟩ ha4) ?_
  rintro _ _ ⟨⟨F, A, rfl, hI⟩, rfl⟩
  refine ezw_aload_n rfl rfl ?_
  refine ezw_iconst (0) rfl rfl ?_
  refine ezs_put_i hI rfl rfl rfl rfl rfl (hzA 5 (by decide) (by decide)) ⟨by decide, by decide⟩ (fun F A hI => ?_)
  refine ezw_iconst (0) rfl rfl ?_
  refine ezw_istore rfl rfl ?_
  have L45_1 : ∀ c1 : Int, ezw_in c1 → (0) ≤ c1 → ∀ F A, ezs_I fz F0 A0 F A → ezw_E l ρ B xa Hb D cA d ezq_re87 (ezs_P e fz F0 A0 ezs_ri) 45 [some (ezw_p 5), some (ezw_i a1), some (ezw_i a2), some (ezw_i a3), some (ezw_i a4), some (ezw_i c1)] [] (ezu_g e F A) := by
    refine ezs_up ?_
    intro c1 hc1 ihc1 gc1 F A hI
    refine ezw_iload rfl rfl ?_
    refine ezw_aload_n rfl rfl ?_
    refine ezs_get_i hI rfl rfl rfl rfl rfl rfl (fun u3 hu3 ku3 => ?_)
    refine ezw_icmp_ge rfl rfl hc1 hu3 (fun h51_3 => ?_) (fun h51_3 => ?_)
    · refine ezw_aload_n rfl rfl ?_
      refine ezw_call0_0 rfl (by omega) (ezu_at rfl) rfl rfl rfl rfl (ezs_m90_5 hI (by omega) hzA) ?_
      rintro _ _ ⟨⟨F, A, rfl, hI⟩, u4, hu4, rfl⟩
      exact ezw_ireturn rfl rfl ⟨⟨F, A, rfl, hI⟩, _, hu4, rfl⟩
    · refine ezw_iload rfl rfl ?_
      refine ezw_aload_n rfl rfl ?_
      refine ezs_getp (p := 6) rfl rfl rfl rfl rfl ?_
      refine ezs_alen (k := 1000) rfl rfl rfl rfl (by decide) (by decide) ?_
      refine ezw_icmp_ge rfl rfl hc1 ⟨by decide, by decide⟩ (fun h61_4 => ?_) (fun h61_4 => ?_)
      · refine ezw_aload_n rfl rfl ?_
        refine ezw_call0_0 rfl (by omega) (ezu_at rfl) rfl rfl rfl rfl (ezs_m90_5 hI (by omega) hzA) ?_
        rintro _ _ ⟨⟨F, A, rfl, hI⟩, u5, hu5, rfl⟩
        exact ezw_ireturn rfl rfl ⟨⟨F, A, rfl, hI⟩, _, hu5, rfl⟩
      · refine ezw_aload_n rfl rfl ?_
        refine ezw_aload_n rfl rfl ?_
        refine ezs_getp (p := 6) rfl rfl rfl rfl rfl ?_
        refine ezw_iload rfl rfl ?_
        refine ezs_iaload hI rfl rfl rfl (by omega) (by omega) (by decide) (fun u6 hu6 ku6 => ?_)
        refine ezw_call0_1 rfl (by omega) (ezu_at rfl) rfl rfl rfl rfl (ezs_m88_5 hI (by omega) hzA hu6) ?_
        rintro _ _ ⟨⟨F, A, rfl, hI⟩, rfl⟩
        refine ezw_iinc (1) rfl rfl rfl rfl rfl ?_
        refine ezw_goto rfl rfl ?_
        exact ezw_keepE [true, true, true, true, true, true] (ihc1 (c1 + (1)) (by omega) ⟨by omega, by omega⟩ (by omega)  F A hI)
  exact ezw_keepE [true, true, true, true, true, true] (L45_1 (0) ⟨by decide, by decide⟩ (by omega)  F A hI)
theorem ezs_m28_9 {F : Nat → Nat → Int} {A : Nat → Int → Int} (hI : ezs_I fz F0 A0 F A) (hd : 0 ≤ d) (hzA : ∀ q, 4 ≤ q → q < 72 → fz q = false) : ezw_C l ρ B xa Hb D cA 28 d [ezw_p 9] (ezu_g e F A) (ezs_P e fz F0 A0 ezs_rn) := by
  refine ezw_met (k := 0) rfl rfl ?_
  refine ezw_aload_n rfl rfl ?_
  refine ezw_iconst (0) rfl rfl ?_
  refine ezs_put_z hI rfl rfl rfl rfl ⟨by omega, by omega⟩ rfl (hzA 9 (by decide) (by decide)) (show ezs_fk 9 3 _ from ⟨by omega, by omega⟩) (fun F A hI => ?_)
  refine ezw_aload_n rfl rfl ?_
  refine ezw_iconst (0) rfl rfl ?_
  refine ezs_put_i hI rfl rfl rfl rfl rfl (hzA 9 (by decide) (by decide)) ⟨by decide, by decide⟩ (fun F A hI => ?_)
  exact ezw_return rfl rfl ⟨⟨F, A, rfl, hI⟩, rfl⟩
theorem ezs_m82_9_1_v5 {F : Nat → Nat → Int} {A : Nat → Int → Int} (hI : ezs_I fz F0 A0 F A) (hd : 1 ≤ d) (hzT : fz 1 = false) : ezw_C l ρ B xa Hb D cA 82 d [ezw_p 9, ezw_p 1, ezw_i (5)] (ezu_g e F A) (ezs_P e fz F0 A0 ezs_rn) := by
  refine ezw_met (k := 2) rfl rfl ?_
  refine ezw_aload_n rfl rfl ?_
  refine ezw_bipush (100) rfl rfl ?_
  refine ezw_call0_1 rfl (by omega) (ezu_at rfl) rfl rfl rfl rfl (ezs_m46_1 hI (by omega) ⟨by decide, by decide⟩) ?_
  rintro _ _ ⟨rfl, u1, hu1, rfl⟩
  have J21_2 : ∀ y2 : Int, ezs_b y2 → ∀ F A, ezs_I fz F0 A0 F A → ezw_E l ρ B xa Hb D cA d ezq_re82 (ezs_P e fz F0 A0 ezs_rn) 21 [some (ezw_p 9), some (ezw_p 1), some (ezw_i (5)), none, none] [(ezw_i y2)] (ezu_g e F A) := by
    intro y2 hy2 F A hI
    refine ezw_istore_n rfl rfl ?_
    refine ezw_iload_n rfl rfl ?_
    have J59_4 : ∀ y4 : Int, ezs_b y4 → ∀ F A, ezs_I fz F0 A0 F A → ezw_E l ρ B xa Hb D cA d ezq_re82 (ezs_P e fz F0 A0 ezs_rn) 59 [some (ezw_p 9), some (ezw_p 1), some (ezw_i (5)), some (ezw_i y2), none] [(ezw_i y4)] (ezu_g e F A) := by
      intro y4 hy4 F A hI
      refine ezw_istore rfl rfl ?_
      refine ezw_iload rfl rfl ?_
      refine ezw_if_eq rfl rfl ⟨by omega, by omega⟩ (fun h63_5 => ?_) (fun h63_5 => ?_)
      · refine ezw_aload_n rfl rfl ?_
        refine ezw_iload rfl rfl ?_
        refine ezw_if_eq rfl rfl ⟨by omega, by omega⟩ (fun h74_5 => ?_) (fun h74_5 => ?_)
        · refine ezw_iconst (1) rfl rfl ?_
          refine ezw_call0_1 rfl (by omega) (ezu_at rfl) rfl rfl rfl rfl (ezs_m50_1 hI (by omega) hzT ⟨by decide, by decide⟩) ?_
          rintro _ _ ⟨⟨F, A, rfl, hI⟩, rfl⟩
          refine ezw_goto rfl rfl ?_
          exact ezw_return rfl rfl ⟨⟨F, A, rfl, hI⟩, rfl⟩
        · refine ezw_iconst (5) rfl rfl ?_
          refine ezw_goto rfl rfl ?_
          refine ezw_call0_1 rfl (by omega) (ezu_at rfl) rfl rfl rfl rfl (ezs_m50_1 hI (by omega) hzT ⟨by decide, by decide⟩) ?_
          rintro _ _ ⟨⟨F, A, rfl, hI⟩, rfl⟩
          refine ezw_goto rfl rfl ?_
          exact ezw_return rfl rfl ⟨⟨F, A, rfl, hI⟩, rfl⟩
      · refine ezw_iload_n rfl rfl ?_
        refine ezw_iconst (5) rfl rfl ?_
        refine ezw_icmp_lt rfl rfl ⟨by decide, by decide⟩ ⟨by decide, by decide⟩ (fun h68_5 => absurd h68_5 (by omega)) (fun h68_5 => ?_)
        refine ezw_aload_n rfl rfl ?_
        refine ezw_iload rfl rfl ?_
        refine ezw_if_eq rfl rfl ⟨by omega, by omega⟩ (fun h74_5 => ?_) (fun h74_5 => ?_)
        · refine ezw_iconst (1) rfl rfl ?_
          refine ezw_call0_1 rfl (by omega) (ezu_at rfl) rfl rfl rfl rfl (ezs_m50_1 hI (by omega) hzT ⟨by decide, by decide⟩) ?_
          rintro _ _ ⟨⟨F, A, rfl, hI⟩, rfl⟩
          refine ezw_goto rfl rfl ?_
          exact ezw_return rfl rfl ⟨⟨F, A, rfl, hI⟩, rfl⟩
        · refine ezw_iconst (5) rfl rfl ?_
          refine ezw_goto rfl rfl ?_
          refine ezw_call0_1 rfl (by omega) (ezu_at rfl) rfl rfl rfl rfl (ezs_m50_1 hI (by omega) hzT ⟨by decide, by decide⟩) ?_
          rintro _ _ ⟨⟨F, A, rfl, hI⟩, rfl⟩
          refine ezw_goto rfl rfl ?_
          exact ezw_return rfl rfl ⟨⟨F, A, rfl, hI⟩, rfl⟩
    refine ezw_if_ne rfl rfl ⟨by omega, by omega⟩ (fun h23_3 => ?_) (fun h23_3 => ?_)
    · refine ezw_iconst (1) rfl rfl ?_
      refine ezw_goto rfl rfl ?_
      exact ezw_keepE [true, true, true, true, false] (J59_4 (1) ⟨by omega, by omega⟩ F A hI)
    · refine ezw_aload_n rfl rfl ?_
      refine ezw_bipush (101) rfl rfl ?_
      refine ezw_call0_1 rfl (by omega) (ezu_at rfl) rfl rfl rfl rfl (ezs_m46_1 hI (by omega) ⟨by decide, by decide⟩) ?_
      rintro _ _ ⟨rfl, u6, hu6, rfl⟩
      refine ezw_if_ne rfl rfl ⟨by omega, by omega⟩ (fun h32_6 => ?_) (fun h32_6 => ?_)
      · refine ezw_iconst (1) rfl rfl ?_
        refine ezw_goto rfl rfl ?_
        exact ezw_keepE [true, true, true, true, false] (J59_4 (1) ⟨by omega, by omega⟩ F A hI)
      · refine ezw_aload_n rfl rfl ?_
        refine ezw_bipush (41) rfl rfl ?_
        refine ezw_call0_1 rfl (by omega) (ezu_at rfl) rfl rfl rfl rfl (ezs_m46_1 hI (by omega) ⟨by decide, by decide⟩) ?_
        rintro _ _ ⟨rfl, u7, hu7, rfl⟩
        refine ezw_if_ne rfl rfl ⟨by omega, by omega⟩ (fun h41_7 => ?_) (fun h41_7 => ?_)
        · refine ezw_iconst (1) rfl rfl ?_
          refine ezw_goto rfl rfl ?_
          exact ezw_keepE [true, true, true, true, false] (J59_4 (1) ⟨by omega, by omega⟩ F A hI)
        · refine ezw_aload_n rfl rfl ?_
          refine ezw_sipush (240) rfl rfl ?_
          refine ezw_call0_1 rfl (by omega) (ezu_at rfl) rfl rfl rfl rfl (ezs_m46_1 hI (by omega) ⟨by decide, by decide⟩) ?_
          rintro _ _ ⟨rfl, u8, hu8, rfl⟩
          refine ezw_if_eq rfl rfl ⟨by omega, by omega⟩ (fun h51_8 => ?_) (fun h51_8 => ?_)
          · refine ezw_iconst (0) rfl rfl ?_
            exact ezw_keepE [true, true, true, true, false] (J59_4 (0) ⟨by omega, by omega⟩ F A hI)
          · refine ezw_iconst (1) rfl rfl ?_
            refine ezw_goto rfl rfl ?_
            exact ezw_keepE [true, true, true, true, false] (J59_4 (1) ⟨by omega, by omega⟩ F A hI)
  refine ezw_if_eq rfl rfl ⟨by omega, by omega⟩ (fun h6_1 => ?_) (fun h6_1 => ?_)
  · refine ezw_iconst (0) rfl rfl ?_
    exact ezw_keepE [true, true, true, false, false] (J21_2 (0) ⟨by omega, by omega⟩ F A hI)
  · refine ezw_aload_n rfl rfl ?_
    refine ezs_get_i hI rfl rfl rfl rfl rfl rfl (fun u9 hu9 ku9 => ?_)
    refine ezw_if_lt rfl rfl hu9 (fun h13_9 => ?_) (fun h13_9 => ?_)
    · refine ezw_iconst (0) rfl rfl ?_
      exact ezw_keepE [true, true, true, false, false] (J21_2 (0) ⟨by omega, by omega⟩ F A hI)
    · refine ezw_iconst (1) rfl rfl ?_
      refine ezw_goto rfl rfl ?_
      exact ezw_keepE [true, true, true, false, false] (J21_2 (1) ⟨by omega, by omega⟩ F A hI)
theorem ezs_m81_9_1_v4_v5 {F : Nat → Nat → Int} {A : Nat → Int → Int} (hI : ezs_I fz F0 A0 F A) (hd : 2 ≤ d) (hzT : fz 1 = false) : ezw_C l ρ B xa Hb D cA 81 d [ezw_p 9, ezw_p 1, ezw_i (4), ezw_i (5)] (ezu_g e F A) (ezs_P e fz F0 A0 ezs_rn) := by
  refine ezw_met (k := 2) rfl rfl ?_
  refine ezw_iload_n rfl rfl ?_
  refine ezw_iconst (4) rfl rfl ?_
  refine ezw_icmp_lt rfl rfl ⟨by decide, by decide⟩ ⟨by decide, by decide⟩ (fun h2_0 => absurd h2_0 (by omega)) (fun h2_0 => ?_)
  refine ezw_aload_n rfl rfl ?_
  refine ezw_aload_n rfl rfl ?_
  refine ezw_iload_n rfl rfl ?_
  refine ezw_call0_2 rfl (by omega) (ezu_at rfl) rfl rfl rfl rfl (ezs_m82_9_1_v5 hI (by omega) hzT) ?_
  rintro _ _ ⟨⟨F, A, rfl, hI⟩, rfl⟩
  exact ezw_return rfl rfl ⟨⟨F, A, rfl, hI⟩, rfl⟩
theorem ezs_m21_10 {a1 a2 : Int} {F : Nat → Nat → Int} {A : Nat → Int → Int} (hI : ezs_I fz F0 A0 F A) (hd : 0 ≤ d) (hzA : ∀ q, 4 ≤ q → q < 72 → fz q = false) (ha1 : ezw_in a1) (ha2 : ezw_in a2) : ezw_C l ρ B xa Hb D cA 21 d [ezw_p 10, ezw_i a1, ezw_i a2] (ezu_g e F A) (ezs_P e fz F0 A0 ezs_rn) := by
  refine ezw_met (k := 0) rfl rfl ?_
  refine ezw_aload_n rfl rfl ?_
  refine ezw_ifnull rfl ?_
  refine ezw_iload_n rfl rfl ?_
  refine ezw_if_lt rfl rfl ha1 (fun h5_0 => ?_) (fun h5_0 => ?_)
  · exact ezw_return rfl rfl ⟨⟨F, A, rfl, hI⟩, rfl⟩
  · refine ezw_iload_n rfl rfl ?_
    refine ezw_aload_n rfl rfl ?_
    refine ezs_alen (k := 1000) rfl rfl rfl rfl (by decide) (by decide) ?_
    refine ezw_icmp_ge rfl rfl ha1 ⟨by decide, by decide⟩ (fun h11_0 => ?_) (fun h11_0 => ?_)
    · exact ezw_return rfl rfl ⟨⟨F, A, rfl, hI⟩, rfl⟩
    · refine ezw_aload_n rfl rfl ?_
      refine ezw_iload_n rfl rfl ?_
      refine ezw_iload_n rfl rfl ?_
      refine ezs_iastore hI rfl rfl rfl (by omega) (by omega) (by decide) (hzA 10 (by decide) (by decide)) ha2 (fun F A hI => ?_)
      exact ezw_return rfl rfl ⟨⟨F, A, rfl, hI⟩, rfl⟩
theorem ezs_m83_9 {a1 : Int} {F : Nat → Nat → Int} {A : Nat → Int → Int} (hI : ezs_I fz F0 A0 F A) (hd : 1 ≤ d) (hzA : ∀ q, 4 ≤ q → q < 72 → fz q = false) (ha1 : ezw_in a1) : ezw_C l ρ B xa Hb D cA 83 d [ezw_p 9, ezw_i a1] (ezu_g e F A) (ezs_P e fz F0 A0 ezs_rn) := by
  refine ezw_met (k := 0) rfl rfl ?_
  refine ezw_aload_n rfl rfl ?_
  refine ezs_getp (p := 10) rfl rfl rfl rfl rfl ?_
  refine ezw_aload_n rfl rfl ?_
  refine ezs_get_i hI rfl rfl rfl rfl rfl rfl (fun u1 hu1 ku1 => ?_)
  refine ezw_iload_n rfl rfl ?_
  refine ezw_call3_3 rfl (by omega) rfl rfl (ezs_m21_10 hI (by omega) hzA hu1 ha1) ?_
  rintro _ _ ⟨⟨F, A, rfl, hI⟩, rfl⟩
  refine ezw_aload_n rfl rfl ?_
  refine ezw_dup rfl rfl ?_
  refine ezs_get_i hI rfl rfl rfl rfl rfl rfl (fun u2 hu2 ku2 => ?_)
  refine ezw_iconst (1) rfl rfl ?_
  refine ezs_iadd rfl (fun u3 hu3 => ?_)
  refine ezs_put_i hI rfl rfl rfl rfl rfl (hzA 9 (by decide) (by decide)) hu3 (fun F A hI => ?_)
  exact ezw_return rfl rfl ⟨⟨F, A, rfl, hI⟩, rfl⟩
theorem ezs_m81_9_1_v3_v5 {F : Nat → Nat → Int} {A : Nat → Int → Int} (hI : ezs_I fz F0 A0 F A) (hd : 5 ≤ d) (hzA : ∀ q, 4 ≤ q → q < 72 → fz q = false) (hzT : fz 1 = false) : ezw_C l ρ B xa Hb D cA 81 d [ezw_p 9, ezw_p 1, ezw_i (3), ezw_i (5)] (ezu_g e F A) (ezs_P e fz F0 A0 ezs_rn) := by
  refine ezw_met (k := 2) rfl rfl ?_
  refine ezw_iload_n rfl rfl ?_
  refine ezw_iconst (4) rfl rfl ?_
  refine ezw_icmp_lt rfl rfl ⟨by decide, by decide⟩ ⟨by decide, by decide⟩ (fun h2_0 => ?_) (fun h2_0 => absurd h2_0 (by omega))
  refine ezw_aload_n rfl rfl ?_
  refine ezw_aload_n rfl rfl ?_
  refine ezw_iload_n rfl rfl ?_
  refine ezw_iconst (1) rfl rfl ?_
  refine ezw_iadd (k := (4)) rfl rfl ?_
  refine ezw_iload_n rfl rfl ?_
  refine ezw_call0_3 rfl (by omega) (ezu_at rfl) rfl rfl rfl rfl (ezs_m81_9_1_v4_v5 hI (by omega) hzT) ?_
  rintro _ _ ⟨⟨F, A, rfl, hI⟩, rfl⟩
  refine ezw_iconst (0) rfl rfl ?_
  refine ezw_istore rfl rfl ?_
  have L24_1 : ∀ c1 : Int, ezw_in c1 → (0) ≤ c1 → ∀ F A, ezs_I fz F0 A0 F A → ezw_E l ρ B xa Hb D cA d ezq_re81 (ezs_P e fz F0 A0 ezs_rn) 24 [some (ezw_p 9), some (ezw_p 1), some (ezw_i (3)), some (ezw_i (5)), some (ezw_i c1), none] [] (ezu_g e F A) := by
    refine ezs_up ?_
    intro c1 hc1 ihc1 gc1 F A hI
    refine ezw_iload rfl rfl ?_
    refine ezw_sipush (1000) rfl rfl ?_
    refine ezw_icmp_ge rfl rfl hc1 ⟨by decide, by decide⟩ (fun h29_2 => ?_) (fun h29_2 => ?_)
    · exact ezw_return rfl rfl ⟨⟨F, A, rfl, hI⟩, rfl⟩
    · refine ezw_aload_n rfl rfl ?_
      refine ezw_call0_0 rfl (by omega) (ezu_at rfl) rfl rfl rfl rfl (ezs_m45_1 hI (by omega)) ?_
      rintro _ _ ⟨rfl, u3, hu3, rfl⟩
      refine ezw_if_eq rfl rfl ⟨by omega, by omega⟩ (fun h36_3 => ?_) (fun h36_3 => ?_)
      · exact ezw_return rfl rfl ⟨⟨F, A, rfl, hI⟩, rfl⟩
      · refine ezw_aload_n rfl rfl ?_
        refine ezs_get_i hI rfl rfl rfl rfl rfl rfl (fun u4 hu4 ku4 => ?_)
        refine ezw_iload_n rfl rfl ?_
        refine ezw_call2_2 rfl (by omega) rfl rfl (ezs_m84 hI (by omega) hu4 ⟨by decide, by decide⟩) ?_
        rintro _ _ ⟨rfl, u5, hu5, rfl⟩
        refine ezw_istore rfl rfl ?_
        refine ezw_iload rfl rfl ?_
        refine ezw_if_ne rfl rfl hu5 (fun h51_5 => ?_) (fun h51_5 => ?_)
        · refine ezw_aload_n rfl rfl ?_
          refine ezw_call0_0 rfl (by omega) (ezu_at rfl) rfl rfl rfl rfl (ezs_m30_1 hI (by omega) hzT) ?_
          rintro _ _ ⟨⟨F, A, rfl, hI⟩, rfl⟩
          refine ezw_aload_n rfl rfl ?_
          refine ezw_aload_n rfl rfl ?_
          refine ezw_iload_n rfl rfl ?_
          refine ezw_iconst (1) rfl rfl ?_
          refine ezw_iadd (k := (4)) rfl rfl ?_
          refine ezw_iload_n rfl rfl ?_
          refine ezw_call0_3 rfl (by omega) (ezu_at rfl) rfl rfl rfl rfl (ezs_m81_9_1_v4_v5 hI (by omega) hzT) ?_
          rintro _ _ ⟨⟨F, A, rfl, hI⟩, rfl⟩
          refine ezw_aload_n rfl rfl ?_
          refine ezw_iload rfl rfl ?_
          refine ezw_call0_1 rfl (by omega) (ezu_at rfl) rfl rfl rfl rfl (ezs_m83_9 hI (by omega) hzA hu5) ?_
          rintro _ _ ⟨⟨F, A, rfl, hI⟩, rfl⟩
          refine ezw_iload_n rfl rfl ?_
          refine ezw_iconst (1) rfl rfl ?_
          refine ezw_icmp_ne rfl rfl ⟨by decide, by decide⟩ ⟨by decide, by decide⟩ (fun h76_5 => ?_) (fun h76_5 => absurd h76_5 (by omega))
          refine ezw_iinc (1) rfl rfl rfl rfl rfl ?_
          refine ezw_goto rfl rfl ?_
          exact ezw_keepE [true, true, true, true, true, false] (ihc1 (c1 + (1)) (by omega) ⟨by omega, by omega⟩ (by omega)  F A hI)
        · exact ezw_return rfl rfl ⟨⟨F, A, rfl, hI⟩, rfl⟩
  exact ezw_keepE [true, true, true, true, true, false] (L24_1 (0) ⟨by decide, by decide⟩ (by omega)  F A hI)
theorem ezs_m81_9_1_v2_v5 {F : Nat → Nat → Int} {A : Nat → Int → Int} (hI : ezs_I fz F0 A0 F A) (hd : 6 ≤ d) (hzA : ∀ q, 4 ≤ q → q < 72 → fz q = false) (hzT : fz 1 = false) : ezw_C l ρ B xa Hb D cA 81 d [ezw_p 9, ezw_p 1, ezw_i (2), ezw_i (5)] (ezu_g e F A) (ezs_P e fz F0 A0 ezs_rn) := by
  refine ezw_met (k := 2) rfl rfl ?_
  refine ezw_iload_n rfl rfl ?_
  refine ezw_iconst (4) rfl rfl ?_
  refine ezw_icmp_lt rfl rfl ⟨by decide, by decide⟩ ⟨by decide, by decide⟩ (fun h2_0 => ?_) (fun h2_0 => absurd h2_0 (by omega))
  refine ezw_aload_n rfl rfl ?_
  refine ezw_aload_n rfl rfl ?_
  refine ezw_iload_n rfl rfl ?_
  refine ezw_iconst (1) rfl rfl ?_
  refine ezw_iadd (k := (3)) rfl rfl ?_
  refine ezw_iload_n rfl rfl ?_
  refine ezw_call0_3 rfl (by omega) (ezu_at rfl) rfl rfl rfl rfl (ezs_m81_9_1_v3_v5 hI (by omega) hzA hzT) ?_
  rintro _ _ ⟨⟨F, A, rfl, hI⟩, rfl⟩
  refine ezw_iconst (0) rfl rfl ?_
  refine ezw_istore rfl rfl ?_
  have L24_1 : ∀ c1 : Int, ezw_in c1 → (0) ≤ c1 → ∀ F A, ezs_I fz F0 A0 F A → ezw_E l ρ B xa Hb D cA d ezq_re81 (ezs_P e fz F0 A0 ezs_rn) 24 [some (ezw_p 9), some (ezw_p 1), some (ezw_i (2)), some (ezw_i (5)), some (ezw_i c1), none] [] (ezu_g e F A) := by
    refine ezs_up ?_
    intro c1 hc1 ihc1 gc1 F A hI
    refine ezw_iload rfl rfl ?_
    refine ezw_sipush (1000) rfl rfl ?_
    refine ezw_icmp_ge rfl rfl hc1 ⟨by decide, by decide⟩ (fun h29_2 => ?_) (fun h29_2 => ?_)
    · exact ezw_return rfl rfl ⟨⟨F, A, rfl, hI⟩, rfl⟩
    · refine ezw_aload_n rfl rfl ?_
      refine ezw_call0_0 rfl (by omega) (ezu_at rfl) rfl rfl rfl rfl (ezs_m45_1 hI (by omega)) ?_
      rintro _ _ ⟨rfl, u3, hu3, rfl⟩
      refine ezw_if_eq rfl rfl ⟨by omega, by omega⟩ (fun h36_3 => ?_) (fun h36_3 => ?_)
      · exact ezw_return rfl rfl ⟨⟨F, A, rfl, hI⟩, rfl⟩
      · refine ezw_aload_n rfl rfl ?_
        refine ezs_get_i hI rfl rfl rfl rfl rfl rfl (fun u4 hu4 ku4 => ?_)
        refine ezw_iload_n rfl rfl ?_
        refine ezw_call2_2 rfl (by omega) rfl rfl (ezs_m84 hI (by omega) hu4 ⟨by decide, by decide⟩) ?_
        rintro _ _ ⟨rfl, u5, hu5, rfl⟩
        refine ezw_istore rfl rfl ?_
        refine ezw_iload rfl rfl ?_
        refine ezw_if_ne rfl rfl hu5 (fun h51_5 => ?_) (fun h51_5 => ?_)
        · refine ezw_aload_n rfl rfl ?_
          refine ezw_call0_0 rfl (by omega) (ezu_at rfl) rfl rfl rfl rfl (ezs_m30_1 hI (by omega) hzT) ?_
          rintro _ _ ⟨⟨F, A, rfl, hI⟩, rfl⟩
          refine ezw_aload_n rfl rfl ?_
          refine ezw_aload_n rfl rfl ?_
          refine ezw_iload_n rfl rfl ?_
          refine ezw_iconst (1) rfl rfl ?_
          refine ezw_iadd (k := (3)) rfl rfl ?_
          refine ezw_iload_n rfl rfl ?_
          refine ezw_call0_3 rfl (by omega) (ezu_at rfl) rfl rfl rfl rfl (ezs_m81_9_1_v3_v5 hI (by omega) hzA hzT) ?_
          rintro _ _ ⟨⟨F, A, rfl, hI⟩, rfl⟩
          refine ezw_aload_n rfl rfl ?_
          refine ezw_iload rfl rfl ?_
          refine ezw_call0_1 rfl (by omega) (ezu_at rfl) rfl rfl rfl rfl (ezs_m83_9 hI (by omega) hzA hu5) ?_
          rintro _ _ ⟨⟨F, A, rfl, hI⟩, rfl⟩
          refine ezw_iload_n rfl rfl ?_
          refine ezw_iconst (1) rfl rfl ?_
          refine ezw_icmp_ne rfl rfl ⟨by decide, by decide⟩ ⟨by decide, by decide⟩ (fun h76_5 => ?_) (fun h76_5 => absurd h76_5 (by omega))
          refine ezw_iinc (1) rfl rfl rfl rfl rfl ?_
          refine ezw_goto rfl rfl ?_
          exact ezw_keepE [true, true, true, true, true, false] (ihc1 (c1 + (1)) (by omega) ⟨by omega, by omega⟩ (by omega)  F A hI)
        · exact ezw_return rfl rfl ⟨⟨F, A, rfl, hI⟩, rfl⟩
  exact ezw_keepE [true, true, true, true, true, false] (L24_1 (0) ⟨by decide, by decide⟩ (by omega)  F A hI)
theorem ezs_m81_9_1_v1_v5 {F : Nat → Nat → Int} {A : Nat → Int → Int} (hI : ezs_I fz F0 A0 F A) (hd : 7 ≤ d) (hzA : ∀ q, 4 ≤ q → q < 72 → fz q = false) (hzT : fz 1 = false) : ezw_C l ρ B xa Hb D cA 81 d [ezw_p 9, ezw_p 1, ezw_i (1), ezw_i (5)] (ezu_g e F A) (ezs_P e fz F0 A0 ezs_rn) := by
  refine ezw_met (k := 2) rfl rfl ?_
  refine ezw_iload_n rfl rfl ?_
  refine ezw_iconst (4) rfl rfl ?_
  refine ezw_icmp_lt rfl rfl ⟨by decide, by decide⟩ ⟨by decide, by decide⟩ (fun h2_0 => ?_) (fun h2_0 => absurd h2_0 (by omega))
  refine ezw_aload_n rfl rfl ?_
  refine ezw_aload_n rfl rfl ?_
  refine ezw_iload_n rfl rfl ?_
  refine ezw_iconst (1) rfl rfl ?_
  refine ezw_iadd (k := (2)) rfl rfl ?_
  refine ezw_iload_n rfl rfl ?_
  refine ezw_call0_3 rfl (by omega) (ezu_at rfl) rfl rfl rfl rfl (ezs_m81_9_1_v2_v5 hI (by omega) hzA hzT) ?_
  rintro _ _ ⟨⟨F, A, rfl, hI⟩, rfl⟩
  refine ezw_iconst (0) rfl rfl ?_
  refine ezw_istore rfl rfl ?_
  have L24_1 : ∀ c1 : Int, ezw_in c1 → (0) ≤ c1 → ∀ F A, ezs_I fz F0 A0 F A → ezw_E l ρ B xa Hb D cA d ezq_re81 (ezs_P e fz F0 A0 ezs_rn) 24 [some (ezw_p 9), some (ezw_p 1), some (ezw_i (1)), some (ezw_i (5)), some (ezw_i c1), none] [] (ezu_g e F A) := by
    refine ezs_up ?_
    intro c1 hc1 ihc1 gc1 F A hI
    refine ezw_iload rfl rfl ?_
    refine ezw_sipush (1000) rfl rfl ?_
    refine ezw_icmp_ge rfl rfl hc1 ⟨by decide, by decide⟩ (fun h29_2 => ?_) (fun h29_2 => ?_)
    · exact ezw_return rfl rfl ⟨⟨F, A, rfl, hI⟩, rfl⟩
    · refine ezw_aload_n rfl rfl ?_
      refine ezw_call0_0 rfl (by omega) (ezu_at rfl) rfl rfl rfl rfl (ezs_m45_1 hI (by omega)) ?_
      rintro _ _ ⟨rfl, u3, hu3, rfl⟩
      refine ezw_if_eq rfl rfl ⟨by omega, by omega⟩ (fun h36_3 => ?_) (fun h36_3 => ?_)
      · exact ezw_return rfl rfl ⟨⟨F, A, rfl, hI⟩, rfl⟩
      · refine ezw_aload_n rfl rfl ?_
        refine ezs_get_i hI rfl rfl rfl rfl rfl rfl (fun u4 hu4 ku4 => ?_)
        refine ezw_iload_n rfl rfl ?_
        refine ezw_call2_2 rfl (by omega) rfl rfl (ezs_m84 hI (by omega) hu4 ⟨by decide, by decide⟩) ?_
        rintro _ _ ⟨rfl, u5, hu5, rfl⟩
        refine ezw_istore rfl rfl ?_
        refine ezw_iload rfl rfl ?_
        refine ezw_if_ne rfl rfl hu5 (fun h51_5 => ?_) (fun h51_5 => ?_)
        · refine ezw_aload_n rfl rfl ?_
          refine ezw_call0_0 rfl (by omega) (ezu_at rfl) rfl rfl rfl rfl (ezs_m30_1 hI (by omega) hzT) ?_
          rintro _ _ ⟨⟨F, A, rfl, hI⟩, rfl⟩
          refine ezw_aload_n rfl rfl ?_
          refine ezw_aload_n rfl rfl ?_
          refine ezw_iload_n rfl rfl ?_
          refine ezw_iconst (1) rfl rfl ?_
          refine ezw_iadd (k := (2)) rfl rfl ?_
          refine ezw_iload_n rfl rfl ?_
          refine ezw_call0_3 rfl (by omega) (ezu_at rfl) rfl rfl rfl rfl (ezs_m81_9_1_v2_v5 hI (by omega) hzA hzT) ?_
          rintro _ _ ⟨⟨F, A, rfl, hI⟩, rfl⟩
          refine ezw_aload_n rfl rfl ?_
          refine ezw_iload rfl rfl ?_
          refine ezw_call0_1 rfl (by omega) (ezu_at rfl) rfl rfl rfl rfl (ezs_m83_9 hI (by omega) hzA hu5) ?_
          rintro _ _ ⟨⟨F, A, rfl, hI⟩, rfl⟩
          refine ezw_iload_n rfl rfl ?_
          refine ezw_iconst (1) rfl rfl ?_
          refine ezw_icmp_ne rfl rfl ⟨by decide, by decide⟩ ⟨by decide, by decide⟩ (fun h76_5 => absurd h76_5 (by omega)) (fun h76_5 => ?_)
          exact ezw_return rfl rfl ⟨⟨F, A, rfl, hI⟩, rfl⟩
        · exact ezw_return rfl rfl ⟨⟨F, A, rfl, hI⟩, rfl⟩
  exact ezw_keepE [true, true, true, true, true, false] (L24_1 (0) ⟨by decide, by decide⟩ (by omega)  F A hI)
theorem ezs_m81_9_1_v0_v5 {F : Nat → Nat → Int} {A : Nat → Int → Int} (hI : ezs_I fz F0 A0 F A) (hd : 8 ≤ d) (hzA : ∀ q, 4 ≤ q → q < 72 → fz q = false) (hzT : fz 1 = false) : ezw_C l ρ B xa Hb D cA 81 d [ezw_p 9, ezw_p 1, ezw_i (0), ezw_i (5)] (ezu_g e F A) (ezs_P e fz F0 A0 ezs_rn) := by
  refine ezw_met (k := 2) rfl rfl ?_
  refine ezw_iload_n rfl rfl ?_
  refine ezw_iconst (4) rfl rfl ?_
  refine ezw_icmp_lt rfl rfl ⟨by decide, by decide⟩ ⟨by decide, by decide⟩ (fun h2_0 => ?_) (fun h2_0 => absurd h2_0 (by omega))
  refine ezw_aload_n rfl rfl ?_
  refine ezw_aload_n rfl rfl ?_
  refine ezw_iload_n rfl rfl ?_
  refine ezw_iconst (1) rfl rfl ?_
  refine ezw_iadd (k := (1)) rfl rfl ?_
  refine ezw_iload_n rfl rfl ?_
  refine ezw_call0_3 rfl (by omega) (ezu_at rfl) rfl rfl rfl rfl (ezs_m81_9_1_v1_v5 hI (by omega) hzA hzT) ?_
  rintro _ _ ⟨⟨F, A, rfl, hI⟩, rfl⟩
  refine ezw_iconst (0) rfl rfl ?_
  refine ezw_istore rfl rfl ?_
  have L24_1 : ∀ c1 : Int, ezw_in c1 → (0) ≤ c1 → ∀ F A, ezs_I fz F0 A0 F A → ezw_E l ρ B xa Hb D cA d ezq_re81 (ezs_P e fz F0 A0 ezs_rn) 24 [some (ezw_p 9), some (ezw_p 1), some (ezw_i (0)), some (ezw_i (5)), some (ezw_i c1), none] [] (ezu_g e F A) := by
    refine ezs_up ?_
    intro c1 hc1 ihc1 gc1 F A hI
    refine ezw_iload rfl rfl ?_
    refine ezw_sipush (1000) rfl rfl ?_
    refine ezw_icmp_ge rfl rfl hc1 ⟨by decide, by decide⟩ (fun h29_2 => ?_) (fun h29_2 => ?_)
    · exact ezw_return rfl rfl ⟨⟨F, A, rfl, hI⟩, rfl⟩
    · refine ezw_aload_n rfl rfl ?_
      refine ezw_call0_0 rfl (by omega) (ezu_at rfl) rfl rfl rfl rfl (ezs_m45_1 hI (by omega)) ?_
      rintro _ _ ⟨rfl, u3, hu3, rfl⟩
      refine ezw_if_eq rfl rfl ⟨by omega, by omega⟩ (fun h36_3 => ?_) (fun h36_3 => ?_)
      · exact ezw_return rfl rfl ⟨⟨F, A, rfl, hI⟩, rfl⟩
      · refine ezw_aload_n rfl rfl ?_
        refine ezs_get_i hI rfl rfl rfl rfl rfl rfl (fun u4 hu4 ku4 => ?_)
        refine ezw_iload_n rfl rfl ?_
        refine ezw_call2_2 rfl (by omega) rfl rfl (ezs_m84 hI (by omega) hu4 ⟨by decide, by decide⟩) ?_
        rintro _ _ ⟨rfl, u5, hu5, rfl⟩
        refine ezw_istore rfl rfl ?_
        refine ezw_iload rfl rfl ?_
        refine ezw_if_ne rfl rfl hu5 (fun h51_5 => ?_) (fun h51_5 => ?_)
        · refine ezw_aload_n rfl rfl ?_
          refine ezw_call0_0 rfl (by omega) (ezu_at rfl) rfl rfl rfl rfl (ezs_m30_1 hI (by omega) hzT) ?_
          rintro _ _ ⟨⟨F, A, rfl, hI⟩, rfl⟩
          refine ezw_aload_n rfl rfl ?_
          refine ezw_aload_n rfl rfl ?_
          refine ezw_iload_n rfl rfl ?_
          refine ezw_iconst (1) rfl rfl ?_
          refine ezw_iadd (k := (1)) rfl rfl ?_
          refine ezw_iload_n rfl rfl ?_
          refine ezw_call0_3 rfl (by omega) (ezu_at rfl) rfl rfl rfl rfl (ezs_m81_9_1_v1_v5 hI (by omega) hzA hzT) ?_
          rintro _ _ ⟨⟨F, A, rfl, hI⟩, rfl⟩
          refine ezw_aload_n rfl rfl ?_
          refine ezw_iload rfl rfl ?_
          refine ezw_call0_1 rfl (by omega) (ezu_at rfl) rfl rfl rfl rfl (ezs_m83_9 hI (by omega) hzA hu5) ?_
          rintro _ _ ⟨⟨F, A, rfl, hI⟩, rfl⟩
          refine ezw_iload_n rfl rfl ?_
          refine ezw_iconst (1) rfl rfl ?_
          refine ezw_icmp_ne rfl rfl ⟨by decide, by decide⟩ ⟨by decide, by decide⟩ (fun h76_5 => ?_) (fun h76_5 => absurd h76_5 (by omega))
          refine ezw_iinc (1) rfl rfl rfl rfl rfl ?_
          refine ezw_goto rfl rfl ?_
          exact ezw_keepE [true, true, true, true, true, false] (ihc1 (c1 + (1)) (by omega) ⟨by omega, by omega⟩ (by omega)  F A hI)
        · exact ezw_return rfl rfl ⟨⟨F, A, rfl, hI⟩, rfl⟩
  exact ezw_keepE [true, true, true, true, true, false] (L24_1 (0) ⟨by decide, by decide⟩ (by omega)  F A hI)
theorem ezs_m82_9_1_v4 {F : Nat → Nat → Int} {A : Nat → Int → Int} (hI : ezs_I fz F0 A0 F A) (hd : 9 ≤ d) (hzA : ∀ q, 4 ≤ q → q < 72 → fz q = false) (hzT : fz 1 = false) : ezw_C l ρ B xa Hb D cA 82 d [ezw_p 9, ezw_p 1, ezw_i (4)] (ezu_g e F A) (ezs_P e fz F0 A0 ezs_rn) := by
  refine ezw_met (k := 2) rfl rfl ?_
  refine ezw_aload_n rfl rfl ?_
  refine ezw_bipush (100) rfl rfl ?_
  refine ezw_call0_1 rfl (by omega) (ezu_at rfl) rfl rfl rfl rfl (ezs_m46_1 hI (by omega) ⟨by decide, by decide⟩) ?_
  rintro _ _ ⟨rfl, u1, hu1, rfl⟩
  have J21_2 : ∀ y2 : Int, ezs_b y2 → ∀ F A, ezs_I fz F0 A0 F A → ezw_E l ρ B xa Hb D cA d ezq_re82 (ezs_P e fz F0 A0 ezs_rn) 21 [some (ezw_p 9), some (ezw_p 1), some (ezw_i (4)), none, none] [(ezw_i y2)] (ezu_g e F A) := by
    intro y2 hy2 F A hI
    refine ezw_istore_n rfl rfl ?_
    refine ezw_iload_n rfl rfl ?_
    have J59_4 : ∀ y4 : Int, ezs_b y4 → ∀ F A, ezs_I fz F0 A0 F A → ezw_E l ρ B xa Hb D cA d ezq_re82 (ezs_P e fz F0 A0 ezs_rn) 59 [some (ezw_p 9), some (ezw_p 1), some (ezw_i (4)), some (ezw_i y2), none] [(ezw_i y4)] (ezu_g e F A) := by
      intro y4 hy4 F A hI
      refine ezw_istore rfl rfl ?_
      refine ezw_iload rfl rfl ?_
      refine ezw_if_eq rfl rfl ⟨by omega, by omega⟩ (fun h63_5 => ?_) (fun h63_5 => ?_)
      · refine ezw_aload_n rfl rfl ?_
        refine ezw_iload rfl rfl ?_
        refine ezw_if_eq rfl rfl ⟨by omega, by omega⟩ (fun h74_5 => ?_) (fun h74_5 => ?_)
        · refine ezw_iconst (1) rfl rfl ?_
          refine ezw_call0_1 rfl (by omega) (ezu_at rfl) rfl rfl rfl rfl (ezs_m50_1 hI (by omega) hzT ⟨by decide, by decide⟩) ?_
          rintro _ _ ⟨⟨F, A, rfl, hI⟩, rfl⟩
          refine ezw_goto rfl rfl ?_
          exact ezw_return rfl rfl ⟨⟨F, A, rfl, hI⟩, rfl⟩
        · refine ezw_iconst (5) rfl rfl ?_
          refine ezw_goto rfl rfl ?_
          refine ezw_call0_1 rfl (by omega) (ezu_at rfl) rfl rfl rfl rfl (ezs_m50_1 hI (by omega) hzT ⟨by decide, by decide⟩) ?_
          rintro _ _ ⟨⟨F, A, rfl, hI⟩, rfl⟩
          refine ezw_goto rfl rfl ?_
          exact ezw_return rfl rfl ⟨⟨F, A, rfl, hI⟩, rfl⟩
      · refine ezw_iload_n rfl rfl ?_
        refine ezw_iconst (5) rfl rfl ?_
        refine ezw_icmp_lt rfl rfl ⟨by decide, by decide⟩ ⟨by decide, by decide⟩ (fun h68_5 => ?_) (fun h68_5 => absurd h68_5 (by omega))
        refine ezw_iload_n rfl rfl ?_
        refine ezw_if_eq rfl rfl ⟨by omega, by omega⟩ (fun h89_5 => ?_) (fun h89_5 => ?_)
        · refine ezw_aload_n rfl rfl ?_
          refine ezw_bipush (101) rfl rfl ?_
          refine ezw_call0_1 rfl (by omega) (ezu_at rfl) rfl rfl rfl rfl (ezs_m46_1 hI (by omega) ⟨by decide, by decide⟩) ?_
          rintro _ _ ⟨rfl, u6, hu6, rfl⟩
          refine ezw_if_eq rfl rfl ⟨by omega, by omega⟩ (fun h115_6 => ?_) (fun h115_6 => ?_)
          · refine ezw_aload_n rfl rfl ?_
            refine ezw_bipush (41) rfl rfl ?_
            refine ezw_call0_1 rfl (by omega) (ezu_at rfl) rfl rfl rfl rfl (ezs_m46_1 hI (by omega) ⟨by decide, by decide⟩) ?_
            rintro _ _ ⟨rfl, u7, hu7, rfl⟩
            refine ezw_if_eq rfl rfl ⟨by omega, by omega⟩ (fun h139_7 => ?_) (fun h139_7 => ?_)
            · refine ezw_aload_n rfl rfl ?_
              refine ezw_call0_0 rfl (by omega) (ezu_at rfl) rfl rfl rfl rfl (ezs_m30_1 hI (by omega) hzT) ?_
              rintro _ _ ⟨⟨F, A, rfl, hI⟩, rfl⟩
              refine ezw_aload_n rfl rfl ?_
              refine ezw_aload_n rfl rfl ?_
              refine ezw_iconst (0) rfl rfl ?_
              refine ezw_iload_n rfl rfl ?_
              refine ezw_iconst (1) rfl rfl ?_
              refine ezw_iadd (k := (5)) rfl rfl ?_
              refine ezw_call0_3 rfl (by omega) (ezu_at rfl) rfl rfl rfl rfl (ezs_m81_9_1_v0_v5 hI (by omega) hzA hzT) ?_
              rintro _ _ ⟨⟨F, A, rfl, hI⟩, rfl⟩
              refine ezw_aload_n rfl rfl ?_
              refine ezw_sipush (241) rfl rfl ?_
              refine ezw_call0_1 rfl (by omega) (ezu_at rfl) rfl rfl rfl rfl (ezs_m46_1 hI (by omega) ⟨by decide, by decide⟩) ?_
              rintro _ _ ⟨rfl, u8, hu8, rfl⟩
              refine ezw_if_eq rfl rfl ⟨by omega, by omega⟩ (fun h183_8 => ?_) (fun h183_8 => ?_)
              · refine ezw_aload_n rfl rfl ?_
                refine ezw_iconst (1) rfl rfl ?_
                refine ezw_call0_1 rfl (by omega) (ezu_at rfl) rfl rfl rfl rfl (ezs_m50_1 hI (by omega) hzT ⟨by decide, by decide⟩) ?_
                rintro _ _ ⟨⟨F, A, rfl, hI⟩, rfl⟩
                exact ezw_return rfl rfl ⟨⟨F, A, rfl, hI⟩, rfl⟩
              · refine ezw_aload_n rfl rfl ?_
                refine ezw_call0_0 rfl (by omega) (ezu_at rfl) rfl rfl rfl rfl (ezs_m30_1 hI (by omega) hzT) ?_
                rintro _ _ ⟨⟨F, A, rfl, hI⟩, rfl⟩
                refine ezw_goto rfl rfl ?_
                exact ezw_return rfl rfl ⟨⟨F, A, rfl, hI⟩, rfl⟩
            · refine ezw_aload_n rfl rfl ?_
              refine ezw_call0_0 rfl (by omega) (ezu_at rfl) rfl rfl rfl rfl (ezs_m30_1 hI (by omega) hzT) ?_
              rintro _ _ ⟨⟨F, A, rfl, hI⟩, rfl⟩
              refine ezw_aload_n rfl rfl ?_
              refine ezw_aload_n rfl rfl ?_
              refine ezw_iload_n rfl rfl ?_
              refine ezw_iconst (1) rfl rfl ?_
              refine ezw_iadd (k := (5)) rfl rfl ?_
              refine ezw_call0_2 rfl (by omega) (ezu_at rfl) rfl rfl rfl rfl (ezs_m82_9_1_v5 hI (by omega) hzT) ?_
              rintro _ _ ⟨⟨F, A, rfl, hI⟩, rfl⟩
              refine ezw_aload_n rfl rfl ?_
              refine ezw_bipush (-5) rfl rfl ?_
              refine ezw_call0_1 rfl (by omega) (ezu_at rfl) rfl rfl rfl rfl (ezs_m83_9 hI (by omega) hzA ⟨by decide, by decide⟩) ?_
              rintro _ _ ⟨⟨F, A, rfl, hI⟩, rfl⟩
              refine ezw_goto rfl rfl ?_
              exact ezw_return rfl rfl ⟨⟨F, A, rfl, hI⟩, rfl⟩
          · refine ezw_aload_n rfl rfl ?_
            refine ezw_aload_n rfl rfl ?_
            refine ezs_get_i hI rfl rfl rfl rfl rfl rfl (fun u9 hu9 ku9 => ?_)
            refine ezw_call0_1 rfl (by omega) (ezu_at rfl) rfl rfl rfl rfl (ezs_m83_9 hI (by omega) hzA hu9) ?_
            rintro _ _ ⟨⟨F, A, rfl, hI⟩, rfl⟩
            refine ezw_aload_n rfl rfl ?_
            refine ezw_call0_0 rfl (by omega) (ezu_at rfl) rfl rfl rfl rfl (ezs_m30_1 hI (by omega) hzT) ?_
            rintro _ _ ⟨⟨F, A, rfl, hI⟩, rfl⟩
            refine ezw_goto rfl rfl ?_
            exact ezw_return rfl rfl ⟨⟨F, A, rfl, hI⟩, rfl⟩
        · refine ezw_aload_n rfl rfl ?_
          refine ezw_iconst (-1) rfl rfl ?_
          refine ezw_aload_n rfl rfl ?_
          refine ezs_get_i hI rfl rfl rfl rfl rfl rfl (fun u10 hu10 ku10 => ?_)
          refine ezs_isub rfl (fun u11 hu11 => ?_)
          refine ezw_call0_1 rfl (by omega) (ezu_at rfl) rfl rfl rfl rfl (ezs_m83_9 hI (by omega) hzA hu11) ?_
          rintro _ _ ⟨⟨F, A, rfl, hI⟩, rfl⟩
          refine ezw_aload_n rfl rfl ?_
          refine ezw_call0_0 rfl (by omega) (ezu_at rfl) rfl rfl rfl rfl (ezs_m30_1 hI (by omega) hzT) ?_
          rintro _ _ ⟨⟨F, A, rfl, hI⟩, rfl⟩
          refine ezw_goto rfl rfl ?_
          exact ezw_return rfl rfl ⟨⟨F, A, rfl, hI⟩, rfl⟩
    refine ezw_if_ne rfl rfl ⟨by omega, by omega⟩ (fun h23_3 => ?_) (fun h23_3 => ?_)
    · refine ezw_iconst (1) rfl rfl ?_
      refine ezw_goto rfl rfl ?_
      exact ezw_keepE [true, true, true, true, false] (J59_4 (1) ⟨by omega, by omega⟩ F A hI)
    · refine ezw_aload_n rfl rfl ?_
      refine ezw_bipush (101) rfl rfl ?_
      refine ezw_call0_1 rfl (by omega) (ezu_at rfl) rfl rfl rfl rfl (ezs_m46_1 hI (by omega) ⟨by decide, by decide⟩) ?_
      rintro _ _ ⟨rfl, u12, hu12, rfl⟩
      refine ezw_if_ne rfl rfl ⟨by omega, by omega⟩ (fun h32_12 => ?_) (fun h32_12 => ?_)
      · refine ezw_iconst (1) rfl rfl ?_
        refine ezw_goto rfl rfl ?_
        exact ezw_keepE [true, true, true, true, false] (J59_4 (1) ⟨by omega, by omega⟩ F A hI)
      · refine ezw_aload_n rfl rfl ?_
        refine ezw_bipush (41) rfl rfl ?_
        refine ezw_call0_1 rfl (by omega) (ezu_at rfl) rfl rfl rfl rfl (ezs_m46_1 hI (by omega) ⟨by decide, by decide⟩) ?_
        rintro _ _ ⟨rfl, u13, hu13, rfl⟩
        refine ezw_if_ne rfl rfl ⟨by omega, by omega⟩ (fun h41_13 => ?_) (fun h41_13 => ?_)
        · refine ezw_iconst (1) rfl rfl ?_
          refine ezw_goto rfl rfl ?_
          exact ezw_keepE [true, true, true, true, false] (J59_4 (1) ⟨by omega, by omega⟩ F A hI)
        · refine ezw_aload_n rfl rfl ?_
          refine ezw_sipush (240) rfl rfl ?_
          refine ezw_call0_1 rfl (by omega) (ezu_at rfl) rfl rfl rfl rfl (ezs_m46_1 hI (by omega) ⟨by decide, by decide⟩) ?_
          rintro _ _ ⟨rfl, u14, hu14, rfl⟩
          refine ezw_if_eq rfl rfl ⟨by omega, by omega⟩ (fun h51_14 => ?_) (fun h51_14 => ?_)
          · refine ezw_iconst (0) rfl rfl ?_
            exact ezw_keepE [true, true, true, true, false] (J59_4 (0) ⟨by omega, by omega⟩ F A hI)
          · refine ezw_iconst (1) rfl rfl ?_
            refine ezw_goto rfl rfl ?_
            exact ezw_keepE [true, true, true, true, false] (J59_4 (1) ⟨by omega, by omega⟩ F A hI)
  refine ezw_if_eq rfl rfl ⟨by omega, by omega⟩ (fun h6_1 => ?_) (fun h6_1 => ?_)
  · refine ezw_iconst (0) rfl rfl ?_
    exact ezw_keepE [true, true, true, false, false] (J21_2 (0) ⟨by omega, by omega⟩ F A hI)
  · refine ezw_aload_n rfl rfl ?_
    refine ezs_get_i hI rfl rfl rfl rfl rfl rfl (fun u15 hu15 ku15 => ?_)
    refine ezw_if_lt rfl rfl hu15 (fun h13_15 => ?_) (fun h13_15 => ?_)
    · refine ezw_iconst (0) rfl rfl ?_
      exact ezw_keepE [true, true, true, false, false] (J21_2 (0) ⟨by omega, by omega⟩ F A hI)
    · refine ezw_iconst (1) rfl rfl ?_
      refine ezw_goto rfl rfl ?_
      exact ezw_keepE [true, true, true, false, false] (J21_2 (1) ⟨by omega, by omega⟩ F A hI)
theorem ezs_m81_9_1_v4_v4 {F : Nat → Nat → Int} {A : Nat → Int → Int} (hI : ezs_I fz F0 A0 F A) (hd : 10 ≤ d) (hzA : ∀ q, 4 ≤ q → q < 72 → fz q = false) (hzT : fz 1 = false) : ezw_C l ρ B xa Hb D cA 81 d [ezw_p 9, ezw_p 1, ezw_i (4), ezw_i (4)] (ezu_g e F A) (ezs_P e fz F0 A0 ezs_rn) := by
  refine ezw_met (k := 2) rfl rfl ?_
  refine ezw_iload_n rfl rfl ?_
  refine ezw_iconst (4) rfl rfl ?_
  refine ezw_icmp_lt rfl rfl ⟨by decide, by decide⟩ ⟨by decide, by decide⟩ (fun h2_0 => absurd h2_0 (by omega)) (fun h2_0 => ?_)
  refine ezw_aload_n rfl rfl ?_
  refine ezw_aload_n rfl rfl ?_
  refine ezw_iload_n rfl rfl ?_
  refine ezw_call0_2 rfl (by omega) (ezu_at rfl) rfl rfl rfl rfl (ezs_m82_9_1_v4 hI (by omega) hzA hzT) ?_
  rintro _ _ ⟨⟨F, A, rfl, hI⟩, rfl⟩
  exact ezw_return rfl rfl ⟨⟨F, A, rfl, hI⟩, rfl⟩
theorem ezs_m81_9_1_v3_v4 {F : Nat → Nat → Int} {A : Nat → Int → Int} (hI : ezs_I fz F0 A0 F A) (hd : 11 ≤ d) (hzA : ∀ q, 4 ≤ q → q < 72 → fz q = false) (hzT : fz 1 = false) : ezw_C l ρ B xa Hb D cA 81 d [ezw_p 9, ezw_p 1, ezw_i (3), ezw_i (4)] (ezu_g e F A) (ezs_P e fz F0 A0 ezs_rn) := by
  refine ezw_met (k := 2) rfl rfl ?_
  refine ezw_iload_n rfl rfl ?_
  refine ezw_iconst (4) rfl rfl ?_
  refine ezw_icmp_lt rfl rfl ⟨by decide, by decide⟩ ⟨by decide, by decide⟩ (fun h2_0 => ?_) (fun h2_0 => absurd h2_0 (by omega))
  refine ezw_aload_n rfl rfl ?_
  refine ezw_aload_n rfl rfl ?_
  refine ezw_iload_n rfl rfl ?_
  refine ezw_iconst (1) rfl rfl ?_
  refine ezw_iadd (k := (4)) rfl rfl ?_
  refine ezw_iload_n rfl rfl ?_
  refine ezw_call0_3 rfl (by omega) (ezu_at rfl) rfl rfl rfl rfl (ezs_m81_9_1_v4_v4 hI (by omega) hzA hzT) ?_
  rintro _ _ ⟨⟨F, A, rfl, hI⟩, rfl⟩
  refine ezw_iconst (0) rfl rfl ?_
  refine ezw_istore rfl rfl ?_
  have L24_1 : ∀ c1 : Int, ezw_in c1 → (0) ≤ c1 → ∀ F A, ezs_I fz F0 A0 F A → ezw_E l ρ B xa Hb D cA d ezq_re81 (ezs_P e fz F0 A0 ezs_rn) 24 [some (ezw_p 9), some (ezw_p 1), some (ezw_i (3)), some (ezw_i (4)), some (ezw_i c1), none] [] (ezu_g e F A) := by
    refine ezs_up ?_
    intro c1 hc1 ihc1 gc1 F A hI
    refine ezw_iload rfl rfl ?_
    refine ezw_sipush (1000) rfl rfl ?_
    refine ezw_icmp_ge rfl rfl hc1 ⟨by decide, by decide⟩ (fun h29_2 => ?_) (fun h29_2 => ?_)
    · exact ezw_return rfl rfl ⟨⟨F, A, rfl, hI⟩, rfl⟩
    · refine ezw_aload_n rfl rfl ?_
      refine ezw_call0_0 rfl (by omega) (ezu_at rfl) rfl rfl rfl rfl (ezs_m45_1 hI (by omega)) ?_
      rintro _ _ ⟨rfl, u3, hu3, rfl⟩
      refine ezw_if_eq rfl rfl ⟨by omega, by omega⟩ (fun h36_3 => ?_) (fun h36_3 => ?_)
      · exact ezw_return rfl rfl ⟨⟨F, A, rfl, hI⟩, rfl⟩
      · refine ezw_aload_n rfl rfl ?_
        refine ezs_get_i hI rfl rfl rfl rfl rfl rfl (fun u4 hu4 ku4 => ?_)
        refine ezw_iload_n rfl rfl ?_
        refine ezw_call2_2 rfl (by omega) rfl rfl (ezs_m84 hI (by omega) hu4 ⟨by decide, by decide⟩) ?_
        rintro _ _ ⟨rfl, u5, hu5, rfl⟩
        refine ezw_istore rfl rfl ?_
        refine ezw_iload rfl rfl ?_
        refine ezw_if_ne rfl rfl hu5 (fun h51_5 => ?_) (fun h51_5 => ?_)
        · refine ezw_aload_n rfl rfl ?_
          refine ezw_call0_0 rfl (by omega) (ezu_at rfl) rfl rfl rfl rfl (ezs_m30_1 hI (by omega) hzT) ?_
          rintro _ _ ⟨⟨F, A, rfl, hI⟩, rfl⟩
          refine ezw_aload_n rfl rfl ?_
          refine ezw_aload_n rfl rfl ?_
          refine ezw_iload_n rfl rfl ?_
          refine ezw_iconst (1) rfl rfl ?_
          refine ezw_iadd (k := (4)) rfl rfl ?_
          refine ezw_iload_n rfl rfl ?_
          refine ezw_call0_3 rfl (by omega) (ezu_at rfl) rfl rfl rfl rfl (ezs_m81_9_1_v4_v4 hI (by omega) hzA hzT) ?_
          rintro _ _ ⟨⟨F, A, rfl, hI⟩, rfl⟩
          refine ezw_aload_n rfl rfl ?_
          refine ezw_iload rfl rfl ?_
          refine ezw_call0_1 rfl (by omega) (ezu_at rfl) rfl rfl rfl rfl (ezs_m83_9 hI (by omega) hzA hu5) ?_
          rintro _ _ ⟨⟨F, A, rfl, hI⟩, rfl⟩
          refine ezw_iload_n rfl rfl ?_
          refine ezw_iconst (1) rfl rfl ?_
          refine ezw_icmp_ne rfl rfl ⟨by decide, by decide⟩ ⟨by decide, by decide⟩ (fun h76_5 => ?_) (fun h76_5 => absurd h76_5 (by omega))
          refine ezw_iinc (1) rfl rfl rfl rfl rfl ?_
          refine ezw_goto rfl rfl ?_
          exact ezw_keepE [true, true, true, true, true, false] (ihc1 (c1 + (1)) (by omega) ⟨by omega, by omega⟩ (by omega)  F A hI)
        · exact ezw_return rfl rfl ⟨⟨F, A, rfl, hI⟩, rfl⟩
  exact ezw_keepE [true, true, true, true, true, false] (L24_1 (0) ⟨by decide, by decide⟩ (by omega)  F A hI)
theorem ezs_m81_9_1_v2_v4 {F : Nat → Nat → Int} {A : Nat → Int → Int} (hI : ezs_I fz F0 A0 F A) (hd : 12 ≤ d) (hzA : ∀ q, 4 ≤ q → q < 72 → fz q = false) (hzT : fz 1 = false) : ezw_C l ρ B xa Hb D cA 81 d [ezw_p 9, ezw_p 1, ezw_i (2), ezw_i (4)] (ezu_g e F A) (ezs_P e fz F0 A0 ezs_rn) := by
  refine ezw_met (k := 2) rfl rfl ?_
  refine ezw_iload_n rfl rfl ?_
  refine ezw_iconst (4) rfl rfl ?_
  refine ezw_icmp_lt rfl rfl ⟨by decide, by decide⟩ ⟨by decide, by decide⟩ (fun h2_0 => ?_) (fun h2_0 => absurd h2_0 (by omega))
  refine ezw_aload_n rfl rfl ?_
  refine ezw_aload_n rfl rfl ?_
  refine ezw_iload_n rfl rfl ?_
  refine ezw_iconst (1) rfl rfl ?_
  refine ezw_iadd (k := (3)) rfl rfl ?_
  refine ezw_iload_n rfl rfl ?_
  refine ezw_call0_3 rfl (by omega) (ezu_at rfl) rfl rfl rfl rfl (ezs_m81_9_1_v3_v4 hI (by omega) hzA hzT) ?_
  rintro _ _ ⟨⟨F, A, rfl, hI⟩, rfl⟩
  refine ezw_iconst (0) rfl rfl ?_
  refine ezw_istore rfl rfl ?_
  have L24_1 : ∀ c1 : Int, ezw_in c1 → (0) ≤ c1 → ∀ F A, ezs_I fz F0 A0 F A → ezw_E l ρ B xa Hb D cA d ezq_re81 (ezs_P e fz F0 A0 ezs_rn) 24 [some (ezw_p 9), some (ezw_p 1), some (ezw_i (2)), some (ezw_i (4)), some (ezw_i c1), none] [] (ezu_g e F A) := by
    refine ezs_up ?_
    intro c1 hc1 ihc1 gc1 F A hI
    refine ezw_iload rfl rfl ?_
    refine ezw_sipush (1000) rfl rfl ?_
    refine ezw_icmp_ge rfl rfl hc1 ⟨by decide, by decide⟩ (fun h29_2 => ?_) (fun h29_2 => ?_)
    · exact ezw_return rfl rfl ⟨⟨F, A, rfl, hI⟩, rfl⟩
    · refine ezw_aload_n rfl rfl ?_
      refine ezw_call0_0 rfl (by omega) (ezu_at rfl) rfl rfl rfl rfl (ezs_m45_1 hI (by omega)) ?_
      rintro _ _ ⟨rfl, u3, hu3, rfl⟩
      refine ezw_if_eq rfl rfl ⟨by omega, by omega⟩ (fun h36_3 => ?_) (fun h36_3 => ?_)
      · exact ezw_return rfl rfl ⟨⟨F, A, rfl, hI⟩, rfl⟩
      · refine ezw_aload_n rfl rfl ?_
        refine ezs_get_i hI rfl rfl rfl rfl rfl rfl (fun u4 hu4 ku4 => ?_)
        refine ezw_iload_n rfl rfl ?_
        refine ezw_call2_2 rfl (by omega) rfl rfl (ezs_m84 hI (by omega) hu4 ⟨by decide, by decide⟩) ?_
        rintro _ _ ⟨rfl, u5, hu5, rfl⟩
        refine ezw_istore rfl rfl ?_
        refine ezw_iload rfl rfl ?_
        refine ezw_if_ne rfl rfl hu5 (fun h51_5 => ?_) (fun h51_5 => ?_)
        · refine ezw_aload_n rfl rfl ?_
          refine ezw_call0_0 rfl (by omega) (ezu_at rfl) rfl rfl rfl rfl (ezs_m30_1 hI (by omega) hzT) ?_
          rintro _ _ ⟨⟨F, A, rfl, hI⟩, rfl⟩
          refine ezw_aload_n rfl rfl ?_
          refine ezw_aload_n rfl rfl ?_
          refine ezw_iload_n rfl rfl ?_
          refine ezw_iconst (1) rfl rfl ?_
          refine ezw_iadd (k := (3)) rfl rfl ?_
          refine ezw_iload_n rfl rfl ?_
          refine ezw_call0_3 rfl (by omega) (ezu_at rfl) rfl rfl rfl rfl (ezs_m81_9_1_v3_v4 hI (by omega) hzA hzT) ?_
          rintro _ _ ⟨⟨F, A, rfl, hI⟩, rfl⟩
          refine ezw_aload_n rfl rfl ?_
          refine ezw_iload rfl rfl ?_
          refine ezw_call0_1 rfl (by omega) (ezu_at rfl) rfl rfl rfl rfl (ezs_m83_9 hI (by omega) hzA hu5) ?_
          rintro _ _ ⟨⟨F, A, rfl, hI⟩, rfl⟩
          refine ezw_iload_n rfl rfl ?_
          refine ezw_iconst (1) rfl rfl ?_
          refine ezw_icmp_ne rfl rfl ⟨by decide, by decide⟩ ⟨by decide, by decide⟩ (fun h76_5 => ?_) (fun h76_5 => absurd h76_5 (by omega))
          refine ezw_iinc (1) rfl rfl rfl rfl rfl ?_
          refine ezw_goto rfl rfl ?_
          exact ezw_keepE [true, true, true, true, true, false] (ihc1 (c1 + (1)) (by omega) ⟨by omega, by omega⟩ (by omega)  F A hI)
        · exact ezw_return rfl rfl ⟨⟨F, A, rfl, hI⟩, rfl⟩
  exact ezw_keepE [true, true, true, true, true, false] (L24_1 (0) ⟨by decide, by decide⟩ (by omega)  F A hI)
theorem ezs_m81_9_1_v1_v4 {F : Nat → Nat → Int} {A : Nat → Int → Int} (hI : ezs_I fz F0 A0 F A) (hd : 13 ≤ d) (hzA : ∀ q, 4 ≤ q → q < 72 → fz q = false) (hzT : fz 1 = false) : ezw_C l ρ B xa Hb D cA 81 d [ezw_p 9, ezw_p 1, ezw_i (1), ezw_i (4)] (ezu_g e F A) (ezs_P e fz F0 A0 ezs_rn) := by
  refine ezw_met (k := 2) rfl rfl ?_
  refine ezw_iload_n rfl rfl ?_
  refine ezw_iconst (4) rfl rfl ?_
  refine ezw_icmp_lt rfl rfl ⟨by decide, by decide⟩ ⟨by decide, by decide⟩ (fun h2_0 => ?_) (fun h2_0 => absurd h2_0 (by omega))
  refine ezw_aload_n rfl rfl ?_
  refine ezw_aload_n rfl rfl ?_
  refine ezw_iload_n rfl rfl ?_
  refine ezw_iconst (1) rfl rfl ?_
  refine ezw_iadd (k := (2)) rfl rfl ?_
  refine ezw_iload_n rfl rfl ?_
  refine ezw_call0_3 rfl (by omega) (ezu_at rfl) rfl rfl rfl rfl (ezs_m81_9_1_v2_v4 hI (by omega) hzA hzT) ?_
  rintro _ _ ⟨⟨F, A, rfl, hI⟩, rfl⟩
  refine ezw_iconst (0) rfl rfl ?_
  refine ezw_istore rfl rfl ?_
  have L24_1 : ∀ c1 : Int, ezw_in c1 → (0) ≤ c1 → ∀ F A, ezs_I fz F0 A0 F A → ezw_E l ρ B xa Hb D cA d ezq_re81 (ezs_P e fz F0 A0 ezs_rn) 24 [some (ezw_p 9), some (ezw_p 1), some (ezw_i (1)), some (ezw_i (4)), some (ezw_i c1), none] [] (ezu_g e F A) := by
    refine ezs_up ?_
    intro c1 hc1 ihc1 gc1 F A hI
    refine ezw_iload rfl rfl ?_
    refine ezw_sipush (1000) rfl rfl ?_
    refine ezw_icmp_ge rfl rfl hc1 ⟨by decide, by decide⟩ (fun h29_2 => ?_) (fun h29_2 => ?_)
    · exact ezw_return rfl rfl ⟨⟨F, A, rfl, hI⟩, rfl⟩
    · refine ezw_aload_n rfl rfl ?_
      refine ezw_call0_0 rfl (by omega) (ezu_at rfl) rfl rfl rfl rfl (ezs_m45_1 hI (by omega)) ?_
      rintro _ _ ⟨rfl, u3, hu3, rfl⟩
      refine ezw_if_eq rfl rfl ⟨by omega, by omega⟩ (fun h36_3 => ?_) (fun h36_3 => ?_)
      · exact ezw_return rfl rfl ⟨⟨F, A, rfl, hI⟩, rfl⟩
      · refine ezw_aload_n rfl rfl ?_
        refine ezs_get_i hI rfl rfl rfl rfl rfl rfl (fun u4 hu4 ku4 => ?_)
        refine ezw_iload_n rfl rfl ?_
        refine ezw_call2_2 rfl (by omega) rfl rfl (ezs_m84 hI (by omega) hu4 ⟨by decide, by decide⟩) ?_
        rintro _ _ ⟨rfl, u5, hu5, rfl⟩
        refine ezw_istore rfl rfl ?_
        refine ezw_iload rfl rfl ?_
        refine ezw_if_ne rfl rfl hu5 (fun h51_5 => ?_) (fun h51_5 => ?_)
        · refine ezw_aload_n rfl rfl ?_
          refine ezw_call0_0 rfl (by omega) (ezu_at rfl) rfl rfl rfl rfl (ezs_m30_1 hI (by omega) hzT) ?_
          rintro _ _ ⟨⟨F, A, rfl, hI⟩, rfl⟩
          refine ezw_aload_n rfl rfl ?_
          refine ezw_aload_n rfl rfl ?_
          refine ezw_iload_n rfl rfl ?_
          refine ezw_iconst (1) rfl rfl ?_
          refine ezw_iadd (k := (2)) rfl rfl ?_
          refine ezw_iload_n rfl rfl ?_
          refine ezw_call0_3 rfl (by omega) (ezu_at rfl) rfl rfl rfl rfl (ezs_m81_9_1_v2_v4 hI (by omega) hzA hzT) ?_
          rintro _ _ ⟨⟨F, A, rfl, hI⟩, rfl⟩
          refine ezw_aload_n rfl rfl ?_
          refine ezw_iload rfl rfl ?_
          refine ezw_call0_1 rfl (by omega) (ezu_at rfl) rfl rfl rfl rfl (ezs_m83_9 hI (by omega) hzA hu5) ?_
          rintro _ _ ⟨⟨F, A, rfl, hI⟩, rfl⟩
          refine ezw_iload_n rfl rfl ?_
          refine ezw_iconst (1) rfl rfl ?_
          refine ezw_icmp_ne rfl rfl ⟨by decide, by decide⟩ ⟨by decide, by decide⟩ (fun h76_5 => absurd h76_5 (by omega)) (fun h76_5 => ?_)
          exact ezw_return rfl rfl ⟨⟨F, A, rfl, hI⟩, rfl⟩
        · exact ezw_return rfl rfl ⟨⟨F, A, rfl, hI⟩, rfl⟩
  exact ezw_keepE [true, true, true, true, true, false] (L24_1 (0) ⟨by decide, by decide⟩ (by omega)  F A hI)
theorem ezs_m81_9_1_v0_v4 {F : Nat → Nat → Int} {A : Nat → Int → Int} (hI : ezs_I fz F0 A0 F A) (hd : 14 ≤ d) (hzA : ∀ q, 4 ≤ q → q < 72 → fz q = false) (hzT : fz 1 = false) : ezw_C l ρ B xa Hb D cA 81 d [ezw_p 9, ezw_p 1, ezw_i (0), ezw_i (4)] (ezu_g e F A) (ezs_P e fz F0 A0 ezs_rn) := by
  refine ezw_met (k := 2) rfl rfl ?_
  refine ezw_iload_n rfl rfl ?_
  refine ezw_iconst (4) rfl rfl ?_
  refine ezw_icmp_lt rfl rfl ⟨by decide, by decide⟩ ⟨by decide, by decide⟩ (fun h2_0 => ?_) (fun h2_0 => absurd h2_0 (by omega))
  refine ezw_aload_n rfl rfl ?_
  refine ezw_aload_n rfl rfl ?_
  refine ezw_iload_n rfl rfl ?_
  refine ezw_iconst (1) rfl rfl ?_
  refine ezw_iadd (k := (1)) rfl rfl ?_
  refine ezw_iload_n rfl rfl ?_
  refine ezw_call0_3 rfl (by omega) (ezu_at rfl) rfl rfl rfl rfl (ezs_m81_9_1_v1_v4 hI (by omega) hzA hzT) ?_
  rintro _ _ ⟨⟨F, A, rfl, hI⟩, rfl⟩
  refine ezw_iconst (0) rfl rfl ?_
  refine ezw_istore rfl rfl ?_
  have L24_1 : ∀ c1 : Int, ezw_in c1 → (0) ≤ c1 → ∀ F A, ezs_I fz F0 A0 F A → ezw_E l ρ B xa Hb D cA d ezq_re81 (ezs_P e fz F0 A0 ezs_rn) 24 [some (ezw_p 9), some (ezw_p 1), some (ezw_i (0)), some (ezw_i (4)), some (ezw_i c1), none] [] (ezu_g e F A) := by
    refine ezs_up ?_
    intro c1 hc1 ihc1 gc1 F A hI
    refine ezw_iload rfl rfl ?_
    refine ezw_sipush (1000) rfl rfl ?_
    refine ezw_icmp_ge rfl rfl hc1 ⟨by decide, by decide⟩ (fun h29_2 => ?_) (fun h29_2 => ?_)
    · exact ezw_return rfl rfl ⟨⟨F, A, rfl, hI⟩, rfl⟩
    · refine ezw_aload_n rfl rfl ?_
      refine ezw_call0_0 rfl (by omega) (ezu_at rfl) rfl rfl rfl rfl (ezs_m45_1 hI (by omega)) ?_
      rintro _ _ ⟨rfl, u3, hu3, rfl⟩
      refine ezw_if_eq rfl rfl ⟨by omega, by omega⟩ (fun h36_3 => ?_) (fun h36_3 => ?_)
      · exact ezw_return rfl rfl ⟨⟨F, A, rfl, hI⟩, rfl⟩
      · refine ezw_aload_n rfl rfl ?_
        refine ezs_get_i hI rfl rfl rfl rfl rfl rfl (fun u4 hu4 ku4 => ?_)
        refine ezw_iload_n rfl rfl ?_
        refine ezw_call2_2 rfl (by omega) rfl rfl (ezs_m84 hI (by omega) hu4 ⟨by decide, by decide⟩) ?_
        rintro _ _ ⟨rfl, u5, hu5, rfl⟩
        refine ezw_istore rfl rfl ?_
        refine ezw_iload rfl rfl ?_
        refine ezw_if_ne rfl rfl hu5 (fun h51_5 => ?_) (fun h51_5 => ?_)
        · refine ezw_aload_n rfl rfl ?_
          refine ezw_call0_0 rfl (by omega) (ezu_at rfl) rfl rfl rfl rfl (ezs_m30_1 hI (by omega) hzT) ?_
          rintro _ _ ⟨⟨F, A, rfl, hI⟩, rfl⟩
          refine ezw_aload_n rfl rfl ?_
          refine ezw_aload_n rfl rfl ?_
          refine ezw_iload_n rfl rfl ?_
          refine ezw_iconst (1) rfl rfl ?_
          refine ezw_iadd (k := (1)) rfl rfl ?_
          refine ezw_iload_n rfl rfl ?_
          refine ezw_call0_3 rfl (by omega) (ezu_at rfl) rfl rfl rfl rfl (ezs_m81_9_1_v1_v4 hI (by omega) hzA hzT) ?_
          rintro _ _ ⟨⟨F, A, rfl, hI⟩, rfl⟩
          refine ezw_aload_n rfl rfl ?_
          refine ezw_iload rfl rfl ?_
          refine ezw_call0_1 rfl (by omega) (ezu_at rfl) rfl rfl rfl rfl (ezs_m83_9 hI (by omega) hzA hu5) ?_
          rintro _ _ ⟨⟨F, A, rfl, hI⟩, rfl⟩
          refine ezw_iload_n rfl rfl ?_
          refine ezw_iconst (1) rfl rfl ?_
          refine ezw_icmp_ne rfl rfl ⟨by decide, by decide⟩ ⟨by decide, by decide⟩ (fun h76_5 => ?_) (fun h76_5 => absurd h76_5 (by omega))
          refine ezw_iinc (1) rfl rfl rfl rfl rfl ?_
          refine ezw_goto rfl rfl ?_
          exact ezw_keepE [true, true, true, true, true, false] (ihc1 (c1 + (1)) (by omega) ⟨by omega, by omega⟩ (by omega)  F A hI)
        · exact ezw_return rfl rfl ⟨⟨F, A, rfl, hI⟩, rfl⟩
  exact ezw_keepE [true, true, true, true, true, false] (L24_1 (0) ⟨by decide, by decide⟩ (by omega)  F A hI)
theorem ezs_m82_9_1_v3 {F : Nat → Nat → Int} {A : Nat → Int → Int} (hI : ezs_I fz F0 A0 F A) (hd : 15 ≤ d) (hzA : ∀ q, 4 ≤ q → q < 72 → fz q = false) (hzT : fz 1 = false) : ezw_C l ρ B xa Hb D cA 82 d [ezw_p 9, ezw_p 1, ezw_i (3)] (ezu_g e F A) (ezs_P e fz F0 A0 ezs_rn) := by
  refine ezw_met (k := 2) rfl rfl ?_
  refine ezw_aload_n rfl rfl ?_
  refine ezw_bipush (100) rfl rfl ?_
  refine ezw_call0_1 rfl (by omega) (ezu_at rfl) rfl rfl rfl rfl (ezs_m46_1 hI (by omega) ⟨by decide, by decide⟩) ?_
  rintro _ _ ⟨rfl, u1, hu1, rfl⟩
  have J21_2 : ∀ y2 : Int, ezs_b y2 → ∀ F A, ezs_I fz F0 A0 F A → ezw_E l ρ B xa Hb D cA d ezq_re82 (ezs_P e fz F0 A0 ezs_rn) 21 [some (ezw_p 9), some (ezw_p 1), some (ezw_i (3)), none, none] [(ezw_i y2)] (ezu_g e F A) := by
    intro y2 hy2 F A hI
    refine ezw_istore_n rfl rfl ?_
    refine ezw_iload_n rfl rfl ?_
    have J59_4 : ∀ y4 : Int, ezs_b y4 → ∀ F A, ezs_I fz F0 A0 F A → ezw_E l ρ B xa Hb D cA d ezq_re82 (ezs_P e fz F0 A0 ezs_rn) 59 [some (ezw_p 9), some (ezw_p 1), some (ezw_i (3)), some (ezw_i y2), none] [(ezw_i y4)] (ezu_g e F A) := by
      intro y4 hy4 F A hI
      refine ezw_istore rfl rfl ?_
      refine ezw_iload rfl rfl ?_
      refine ezw_if_eq rfl rfl ⟨by omega, by omega⟩ (fun h63_5 => ?_) (fun h63_5 => ?_)
      · refine ezw_aload_n rfl rfl ?_
        refine ezw_iload rfl rfl ?_
        refine ezw_if_eq rfl rfl ⟨by omega, by omega⟩ (fun h74_5 => ?_) (fun h74_5 => ?_)
        · refine ezw_iconst (1) rfl rfl ?_
          refine ezw_call0_1 rfl (by omega) (ezu_at rfl) rfl rfl rfl rfl (ezs_m50_1 hI (by omega) hzT ⟨by decide, by decide⟩) ?_
          rintro _ _ ⟨⟨F, A, rfl, hI⟩, rfl⟩
          refine ezw_goto rfl rfl ?_
          exact ezw_return rfl rfl ⟨⟨F, A, rfl, hI⟩, rfl⟩
        · refine ezw_iconst (5) rfl rfl ?_
          refine ezw_goto rfl rfl ?_
          refine ezw_call0_1 rfl (by omega) (ezu_at rfl) rfl rfl rfl rfl (ezs_m50_1 hI (by omega) hzT ⟨by decide, by decide⟩) ?_
          rintro _ _ ⟨⟨F, A, rfl, hI⟩, rfl⟩
          refine ezw_goto rfl rfl ?_
          exact ezw_return rfl rfl ⟨⟨F, A, rfl, hI⟩, rfl⟩
      · refine ezw_iload_n rfl rfl ?_
        refine ezw_iconst (5) rfl rfl ?_
        refine ezw_icmp_lt rfl rfl ⟨by decide, by decide⟩ ⟨by decide, by decide⟩ (fun h68_5 => ?_) (fun h68_5 => absurd h68_5 (by omega))
        refine ezw_iload_n rfl rfl ?_
        refine ezw_if_eq rfl rfl ⟨by omega, by omega⟩ (fun h89_5 => ?_) (fun h89_5 => ?_)
        · refine ezw_aload_n rfl rfl ?_
          refine ezw_bipush (101) rfl rfl ?_
          refine ezw_call0_1 rfl (by omega) (ezu_at rfl) rfl rfl rfl rfl (ezs_m46_1 hI (by omega) ⟨by decide, by decide⟩) ?_
          rintro _ _ ⟨rfl, u6, hu6, rfl⟩
          refine ezw_if_eq rfl rfl ⟨by omega, by omega⟩ (fun h115_6 => ?_) (fun h115_6 => ?_)
          · refine ezw_aload_n rfl rfl ?_
            refine ezw_bipush (41) rfl rfl ?_
            refine ezw_call0_1 rfl (by omega) (ezu_at rfl) rfl rfl rfl rfl (ezs_m46_1 hI (by omega) ⟨by decide, by decide⟩) ?_
            rintro _ _ ⟨rfl, u7, hu7, rfl⟩
            refine ezw_if_eq rfl rfl ⟨by omega, by omega⟩ (fun h139_7 => ?_) (fun h139_7 => ?_)
            · refine ezw_aload_n rfl rfl ?_
              refine ezw_call0_0 rfl (by omega) (ezu_at rfl) rfl rfl rfl rfl (ezs_m30_1 hI (by omega) hzT) ?_
              rintro _ _ ⟨⟨F, A, rfl, hI⟩, rfl⟩
              refine ezw_aload_n rfl rfl ?_
              refine ezw_aload_n rfl rfl ?_
              refine ezw_iconst (0) rfl rfl ?_
              refine ezw_iload_n rfl rfl ?_
              refine ezw_iconst (1) rfl rfl ?_
              refine ezw_iadd (k := (4)) rfl rfl ?_
              refine ezw_call0_3 rfl (by omega) (ezu_at rfl) rfl rfl rfl rfl (ezs_m81_9_1_v0_v4 hI (by omega) hzA hzT) ?_
              rintro _ _ ⟨⟨F, A, rfl, hI⟩, rfl⟩
              refine ezw_aload_n rfl rfl ?_
              refine ezw_sipush (241) rfl rfl ?_
              refine ezw_call0_1 rfl (by omega) (ezu_at rfl) rfl rfl rfl rfl (ezs_m46_1 hI (by omega) ⟨by decide, by decide⟩) ?_
              rintro _ _ ⟨rfl, u8, hu8, rfl⟩
              refine ezw_if_eq rfl rfl ⟨by omega, by omega⟩ (fun h183_8 => ?_) (fun h183_8 => ?_)
              · refine ezw_aload_n rfl rfl ?_
                refine ezw_iconst (1) rfl rfl ?_
                refine ezw_call0_1 rfl (by omega) (ezu_at rfl) rfl rfl rfl rfl (ezs_m50_1 hI (by omega) hzT ⟨by decide, by decide⟩) ?_
                rintro _ _ ⟨⟨F, A, rfl, hI⟩, rfl⟩
                exact ezw_return rfl rfl ⟨⟨F, A, rfl, hI⟩, rfl⟩
              · refine ezw_aload_n rfl rfl ?_
                refine ezw_call0_0 rfl (by omega) (ezu_at rfl) rfl rfl rfl rfl (ezs_m30_1 hI (by omega) hzT) ?_
                rintro _ _ ⟨⟨F, A, rfl, hI⟩, rfl⟩
                refine ezw_goto rfl rfl ?_
                exact ezw_return rfl rfl ⟨⟨F, A, rfl, hI⟩, rfl⟩
            · refine ezw_aload_n rfl rfl ?_
              refine ezw_call0_0 rfl (by omega) (ezu_at rfl) rfl rfl rfl rfl (ezs_m30_1 hI (by omega) hzT) ?_
              rintro _ _ ⟨⟨F, A, rfl, hI⟩, rfl⟩
              refine ezw_aload_n rfl rfl ?_
              refine ezw_aload_n rfl rfl ?_
              refine ezw_iload_n rfl rfl ?_
              refine ezw_iconst (1) rfl rfl ?_
              refine ezw_iadd (k := (4)) rfl rfl ?_
              refine ezw_call0_2 rfl (by omega) (ezu_at rfl) rfl rfl rfl rfl (ezs_m82_9_1_v4 hI (by omega) hzA hzT) ?_
              rintro _ _ ⟨⟨F, A, rfl, hI⟩, rfl⟩
              refine ezw_aload_n rfl rfl ?_
              refine ezw_bipush (-5) rfl rfl ?_
              refine ezw_call0_1 rfl (by omega) (ezu_at rfl) rfl rfl rfl rfl (ezs_m83_9 hI (by omega) hzA ⟨by decide, by decide⟩) ?_
              rintro _ _ ⟨⟨F, A, rfl, hI⟩, rfl⟩
              refine ezw_goto rfl rfl ?_
              exact ezw_return rfl rfl ⟨⟨F, A, rfl, hI⟩, rfl⟩
          · refine ezw_aload_n rfl rfl ?_
            refine ezw_aload_n rfl rfl ?_
            refine ezs_get_i hI rfl rfl rfl rfl rfl rfl (fun u9 hu9 ku9 => ?_)
            refine ezw_call0_1 rfl (by omega) (ezu_at rfl) rfl rfl rfl rfl (ezs_m83_9 hI (by omega) hzA hu9) ?_
            rintro _ _ ⟨⟨F, A, rfl, hI⟩, rfl⟩
            refine ezw_aload_n rfl rfl ?_
            refine ezw_call0_0 rfl (by omega) (ezu_at rfl) rfl rfl rfl rfl (ezs_m30_1 hI (by omega) hzT) ?_
            rintro _ _ ⟨⟨F, A, rfl, hI⟩, rfl⟩
            refine ezw_goto rfl rfl ?_
            exact ezw_return rfl rfl ⟨⟨F, A, rfl, hI⟩, rfl⟩
        · refine ezw_aload_n rfl rfl ?_
          refine ezw_iconst (-1) rfl rfl ?_
          refine ezw_aload_n rfl rfl ?_
          refine ezs_get_i hI rfl rfl rfl rfl rfl rfl (fun u10 hu10 ku10 => ?_)
          refine ezs_isub rfl (fun u11 hu11 => ?_)
          refine ezw_call0_1 rfl (by omega) (ezu_at rfl) rfl rfl rfl rfl (ezs_m83_9 hI (by omega) hzA hu11) ?_
          rintro _ _ ⟨⟨F, A, rfl, hI⟩, rfl⟩
          refine ezw_aload_n rfl rfl ?_
          refine ezw_call0_0 rfl (by omega) (ezu_at rfl) rfl rfl rfl rfl (ezs_m30_1 hI (by omega) hzT) ?_
          rintro _ _ ⟨⟨F, A, rfl, hI⟩, rfl⟩
          refine ezw_goto rfl rfl ?_
          exact ezw_return rfl rfl ⟨⟨F, A, rfl, hI⟩, rfl⟩
    refine ezw_if_ne rfl rfl ⟨by omega, by omega⟩ (fun h23_3 => ?_) (fun h23_3 => ?_)
    · refine ezw_iconst (1) rfl rfl ?_
      refine ezw_goto rfl rfl ?_
      exact ezw_keepE [true, true, true, true, false] (J59_4 (1) ⟨by omega, by omega⟩ F A hI)
    · refine ezw_aload_n rfl rfl ?_
      refine ezw_bipush (101) rfl rfl ?_
      refine ezw_call0_1 rfl (by omega) (ezu_at rfl) rfl rfl rfl rfl (ezs_m46_1 hI (by omega) ⟨by decide, by decide⟩) ?_
      rintro _ _ ⟨rfl, u12, hu12, rfl⟩
      refine ezw_if_ne rfl rfl ⟨by omega, by omega⟩ (fun h32_12 => ?_) (fun h32_12 => ?_)
      · refine ezw_iconst (1) rfl rfl ?_
        refine ezw_goto rfl rfl ?_
        exact ezw_keepE [true, true, true, true, false] (J59_4 (1) ⟨by omega, by omega⟩ F A hI)
      · refine ezw_aload_n rfl rfl ?_
        refine ezw_bipush (41) rfl rfl ?_
        refine ezw_call0_1 rfl (by omega) (ezu_at rfl) rfl rfl rfl rfl (ezs_m46_1 hI (by omega) ⟨by decide, by decide⟩) ?_
        rintro _ _ ⟨rfl, u13, hu13, rfl⟩
        refine ezw_if_ne rfl rfl ⟨by omega, by omega⟩ (fun h41_13 => ?_) (fun h41_13 => ?_)
        · refine ezw_iconst (1) rfl rfl ?_
          refine ezw_goto rfl rfl ?_
          exact ezw_keepE [true, true, true, true, false] (J59_4 (1) ⟨by omega, by omega⟩ F A hI)
        · refine ezw_aload_n rfl rfl ?_
          refine ezw_sipush (240) rfl rfl ?_
          refine ezw_call0_1 rfl (by omega) (ezu_at rfl) rfl rfl rfl rfl (ezs_m46_1 hI (by omega) ⟨by decide, by decide⟩) ?_
          rintro _ _ ⟨rfl, u14, hu14, rfl⟩
          refine ezw_if_eq rfl rfl ⟨by omega, by omega⟩ (fun h51_14 => ?_) (fun h51_14 => ?_)
          · refine ezw_iconst (0) rfl rfl ?_
            exact ezw_keepE [true, true, true, true, false] (J59_4 (0) ⟨by omega, by omega⟩ F A hI)
          · refine ezw_iconst (1) rfl rfl ?_
            refine ezw_goto rfl rfl ?_
            exact ezw_keepE [true, true, true, true, false] (J59_4 (1) ⟨by omega, by omega⟩ F A hI)
  refine ezw_if_eq rfl rfl ⟨by omega, by omega⟩ (fun h6_1 => ?_) (fun h6_1 => ?_)
  · refine ezw_iconst (0) rfl rfl ?_
    exact ezw_keepE [true, true, true, false, false] (J21_2 (0) ⟨by omega, by omega⟩ F A hI)
  · refine ezw_aload_n rfl rfl ?_
    refine ezs_get_i hI rfl rfl rfl rfl rfl rfl (fun u15 hu15 ku15 => ?_)
    refine ezw_if_lt rfl rfl hu15 (fun h13_15 => ?_) (fun h13_15 => ?_)
    · refine ezw_iconst (0) rfl rfl ?_
      exact ezw_keepE [true, true, true, false, false] (J21_2 (0) ⟨by omega, by omega⟩ F A hI)
    · refine ezw_iconst (1) rfl rfl ?_
      refine ezw_goto rfl rfl ?_
      exact ezw_keepE [true, true, true, false, false] (J21_2 (1) ⟨by omega, by omega⟩ F A hI)
theorem ezs_m81_9_1_v4_v3 {F : Nat → Nat → Int} {A : Nat → Int → Int} (hI : ezs_I fz F0 A0 F A) (hd : 16 ≤ d) (hzA : ∀ q, 4 ≤ q → q < 72 → fz q = false) (hzT : fz 1 = false) : ezw_C l ρ B xa Hb D cA 81 d [ezw_p 9, ezw_p 1, ezw_i (4), ezw_i (3)] (ezu_g e F A) (ezs_P e fz F0 A0 ezs_rn) := by
  refine ezw_met (k := 2) rfl rfl ?_
  refine ezw_iload_n rfl rfl ?_
  refine ezw_iconst (4) rfl rfl ?_
  refine ezw_icmp_lt rfl rfl ⟨by decide, by decide⟩ ⟨by decide, by decide⟩ (fun h2_0 => absurd h2_0 (by omega)) (fun h2_0 => ?_)
  refine ezw_aload_n rfl rfl ?_
  refine ezw_aload_n rfl rfl ?_
  refine ezw_iload_n rfl rfl ?_
  refine ezw_call0_2 rfl (by omega) (ezu_at rfl) rfl rfl rfl rfl (ezs_m82_9_1_v3 hI (by omega) hzA hzT) ?_
  rintro _ _ ⟨⟨F, A, rfl, hI⟩, rfl⟩
  exact ezw_return rfl rfl ⟨⟨F, A, rfl, hI⟩, rfl⟩
theorem ezs_m81_9_1_v3_v3 {F : Nat → Nat → Int} {A : Nat → Int → Int} (hI : ezs_I fz F0 A0 F A) (hd : 17 ≤ d) (hzA : ∀ q, 4 ≤ q → q < 72 → fz q = false) (hzT : fz 1 = false) : ezw_C l ρ B xa Hb D cA 81 d [ezw_p 9, ezw_p 1, ezw_i (3), ezw_i (3)] (ezu_g e F A) (ezs_P e fz F0 A0 ezs_rn) := by
  refine ezw_met (k := 2) rfl rfl ?_
  refine ezw_iload_n rfl rfl ?_
  refine ezw_iconst (4) rfl rfl ?_
  refine ezw_icmp_lt rfl rfl ⟨by decide, by decide⟩ ⟨by decide, by decide⟩ (fun h2_0 => ?_) (fun h2_0 => absurd h2_0 (by omega))
  refine ezw_aload_n rfl rfl ?_
  refine ezw_aload_n rfl rfl ?_
  refine ezw_iload_n rfl rfl ?_
  refine ezw_iconst (1) rfl rfl ?_
  refine ezw_iadd (k := (4)) rfl rfl ?_
  refine ezw_iload_n rfl rfl ?_
  refine ezw_call0_3 rfl (by omega) (ezu_at rfl) rfl rfl rfl rfl (ezs_m81_9_1_v4_v3 hI (by omega) hzA hzT) ?_
  rintro _ _ ⟨⟨F, A, rfl, hI⟩, rfl⟩
  refine ezw_iconst (0) rfl rfl ?_
  refine ezw_istore rfl rfl ?_
  have L24_1 : ∀ c1 : Int, ezw_in c1 → (0) ≤ c1 → ∀ F A, ezs_I fz F0 A0 F A → ezw_E l ρ B xa Hb D cA d ezq_re81 (ezs_P e fz F0 A0 ezs_rn) 24 [some (ezw_p 9), some (ezw_p 1), some (ezw_i (3)), some (ezw_i (3)), some (ezw_i c1), none] [] (ezu_g e F A) := by
    refine ezs_up ?_
    intro c1 hc1 ihc1 gc1 F A hI
    refine ezw_iload rfl rfl ?_
    refine ezw_sipush (1000) rfl rfl ?_
    refine ezw_icmp_ge rfl rfl hc1 ⟨by decide, by decide⟩ (fun h29_2 => ?_) (fun h29_2 => ?_)
    · exact ezw_return rfl rfl ⟨⟨F, A, rfl, hI⟩, rfl⟩
    · refine ezw_aload_n rfl rfl ?_
      refine ezw_call0_0 rfl (by omega) (ezu_at rfl) rfl rfl rfl rfl (ezs_m45_1 hI (by omega)) ?_
      rintro _ _ ⟨rfl, u3, hu3, rfl⟩
      refine ezw_if_eq rfl rfl ⟨by omega, by omega⟩ (fun h36_3 => ?_) (fun h36_3 => ?_)
      · exact ezw_return rfl rfl ⟨⟨F, A, rfl, hI⟩, rfl⟩
      · refine ezw_aload_n rfl rfl ?_
        refine ezs_get_i hI rfl rfl rfl rfl rfl rfl (fun u4 hu4 ku4 => ?_)
        refine ezw_iload_n rfl rfl ?_
        refine ezw_call2_2 rfl (by omega) rfl rfl (ezs_m84 hI (by omega) hu4 ⟨by decide, by decide⟩) ?_
        rintro _ _ ⟨rfl, u5, hu5, rfl⟩
        refine ezw_istore rfl rfl ?_
        refine ezw_iload rfl rfl ?_
        refine ezw_if_ne rfl rfl hu5 (fun h51_5 => ?_) (fun h51_5 => ?_)
        · refine ezw_aload_n rfl rfl ?_
          refine ezw_call0_0 rfl (by omega) (ezu_at rfl) rfl rfl rfl rfl (ezs_m30_1 hI (by omega) hzT) ?_
          rintro _ _ ⟨⟨F, A, rfl, hI⟩, rfl⟩
          refine ezw_aload_n rfl rfl ?_
          refine ezw_aload_n rfl rfl ?_
          refine ezw_iload_n rfl rfl ?_
          refine ezw_iconst (1) rfl rfl ?_
          refine ezw_iadd (k := (4)) rfl rfl ?_
          refine ezw_iload_n rfl rfl ?_
          refine ezw_call0_3 rfl (by omega) (ezu_at rfl) rfl rfl rfl rfl (ezs_m81_9_1_v4_v3 hI (by omega) hzA hzT) ?_
          rintro _ _ ⟨⟨F, A, rfl, hI⟩, rfl⟩
          refine ezw_aload_n rfl rfl ?_
          refine ezw_iload rfl rfl ?_
          refine ezw_call0_1 rfl (by omega) (ezu_at rfl) rfl rfl rfl rfl (ezs_m83_9 hI (by omega) hzA hu5) ?_
          rintro _ _ ⟨⟨F, A, rfl, hI⟩, rfl⟩
          refine ezw_iload_n rfl rfl ?_
          refine ezw_iconst (1) rfl rfl ?_
          refine ezw_icmp_ne rfl rfl ⟨by decide, by decide⟩ ⟨by decide, by decide⟩ (fun h76_5 => ?_) (fun h76_5 => absurd h76_5 (by omega))
          refine ezw_iinc (1) rfl rfl rfl rfl rfl ?_
          refine ezw_goto rfl rfl ?_
          exact ezw_keepE [true, true, true, true, true, false] (ihc1 (c1 + (1)) (by omega) ⟨by omega, by omega⟩ (by omega)  F A hI)
        · exact ezw_return rfl rfl ⟨⟨F, A, rfl, hI⟩, rfl⟩
  exact ezw_keepE [true, true, true, true, true, false] (L24_1 (0) ⟨by decide, by decide⟩ (by omega)  F A hI)
theorem ezs_m81_9_1_v2_v3 {F : Nat → Nat → Int} {A : Nat → Int → Int} (hI : ezs_I fz F0 A0 F A) (hd : 18 ≤ d) (hzA : ∀ q, 4 ≤ q → q < 72 → fz q = false) (hzT : fz 1 = false) : ezw_C l ρ B xa Hb D cA 81 d [ezw_p 9, ezw_p 1, ezw_i (2), ezw_i (3)] (ezu_g e F A) (ezs_P e fz F0 A0 ezs_rn) := by
  refine ezw_met (k := 2) rfl rfl ?_
  refine ezw_iload_n rfl rfl ?_
  refine ezw_iconst (4) rfl rfl ?_
  refine ezw_icmp_lt rfl rfl ⟨by decide, by decide⟩ ⟨by decide, by decide⟩ (fun h2_0 => ?_) (fun h2_0 => absurd h2_0 (by omega))
  refine ezw_aload_n rfl rfl ?_
  refine ezw_aload_n rfl rfl ?_
  refine ezw_iload_n rfl rfl ?_
  refine ezw_iconst (1) rfl rfl ?_
  refine ezw_iadd (k := (3)) rfl rfl ?_
  refine ezw_iload_n rfl rfl ?_
  refine ezw_call0_3 rfl (by omega) (ezu_at rfl) rfl rfl rfl rfl (ezs_m81_9_1_v3_v3 hI (by omega) hzA hzT) ?_
  rintro _ _ ⟨⟨F, A, rfl, hI⟩, rfl⟩
  refine ezw_iconst (0) rfl rfl ?_
  refine ezw_istore rfl rfl ?_
  have L24_1 : ∀ c1 : Int, ezw_in c1 → (0) ≤ c1 → ∀ F A, ezs_I fz F0 A0 F A → ezw_E l ρ B xa Hb D cA d ezq_re81 (ezs_P e fz F0 A0 ezs_rn) 24 [some (ezw_p 9), some (ezw_p 1), some (ezw_i (2)), some (ezw_i (3)), some (ezw_i c1), none] [] (ezu_g e F A) := by
    refine ezs_up ?_
    intro c1 hc1 ihc1 gc1 F A hI
    refine ezw_iload rfl rfl ?_
    refine ezw_sipush (1000) rfl rfl ?_
    refine ezw_icmp_ge rfl rfl hc1 ⟨by decide, by decide⟩ (fun h29_2 => ?_) (fun h29_2 => ?_)
    · exact ezw_return rfl rfl ⟨⟨F, A, rfl, hI⟩, rfl⟩
    · refine ezw_aload_n rfl rfl ?_
      refine ezw_call0_0 rfl (by omega) (ezu_at rfl) rfl rfl rfl rfl (ezs_m45_1 hI (by omega)) ?_
      rintro _ _ ⟨rfl, u3, hu3, rfl⟩
      refine ezw_if_eq rfl rfl ⟨by omega, by omega⟩ (fun h36_3 => ?_) (fun h36_3 => ?_)
      · exact ezw_return rfl rfl ⟨⟨F, A, rfl, hI⟩, rfl⟩
      · refine ezw_aload_n rfl rfl ?_
        refine ezs_get_i hI rfl rfl rfl rfl rfl rfl (fun u4 hu4 ku4 => ?_)
        refine ezw_iload_n rfl rfl ?_
        refine ezw_call2_2 rfl (by omega) rfl rfl (ezs_m84 hI (by omega) hu4 ⟨by decide, by decide⟩) ?_
        rintro _ _ ⟨rfl, u5, hu5, rfl⟩
        refine ezw_istore rfl rfl ?_
        refine ezw_iload rfl rfl ?_
        refine ezw_if_ne rfl rfl hu5 (fun h51_5 => ?_) (fun h51_5 => ?_)
        · refine ezw_aload_n rfl rfl ?_
          refine ezw_call0_0 rfl (by omega) (ezu_at rfl) rfl rfl rfl rfl (ezs_m30_1 hI (by omega) hzT) ?_
          rintro _ _ ⟨⟨F, A, rfl, hI⟩, rfl⟩
          refine ezw_aload_n rfl rfl ?_
          refine ezw_aload_n rfl rfl ?_
          refine ezw_iload_n rfl rfl ?_
          refine ezw_iconst (1) rfl rfl ?_
          refine ezw_iadd (k := (3)) rfl rfl ?_
          refine ezw_iload_n rfl rfl ?_
          refine ezw_call0_3 rfl (by omega) (ezu_at rfl) rfl rfl rfl rfl (ezs_m81_9_1_v3_v3 hI (by omega) hzA hzT) ?_
          rintro _ _ ⟨⟨F, A, rfl, hI⟩, rfl⟩
          refine ezw_aload_n rfl rfl ?_
          refine ezw_iload rfl rfl ?_
          refine ezw_call0_1 rfl (by omega) (ezu_at rfl) rfl rfl rfl rfl (ezs_m83_9 hI (by omega) hzA hu5) ?_
          rintro _ _ ⟨⟨F, A, rfl, hI⟩, rfl⟩
          refine ezw_iload_n rfl rfl ?_
          refine ezw_iconst (1) rfl rfl ?_
          refine ezw_icmp_ne rfl rfl ⟨by decide, by decide⟩ ⟨by decide, by decide⟩ (fun h76_5 => ?_) (fun h76_5 => absurd h76_5 (by omega))
          refine ezw_iinc (1) rfl rfl rfl rfl rfl ?_
          refine ezw_goto rfl rfl ?_
          exact ezw_keepE [true, true, true, true, true, false] (ihc1 (c1 + (1)) (by omega) ⟨by omega, by omega⟩ (by omega)  F A hI)
        · exact ezw_return rfl rfl ⟨⟨F, A, rfl, hI⟩, rfl⟩
  exact ezw_keepE [true, true, true, true, true, false] (L24_1 (0) ⟨by decide, by decide⟩ (by omega)  F A hI)
theorem ezs_m81_9_1_v1_v3 {F : Nat → Nat → Int} {A : Nat → Int → Int} (hI : ezs_I fz F0 A0 F A) (hd : 19 ≤ d) (hzA : ∀ q, 4 ≤ q → q < 72 → fz q = false) (hzT : fz 1 = false) : ezw_C l ρ B xa Hb D cA 81 d [ezw_p 9, ezw_p 1, ezw_i (1), ezw_i (3)] (ezu_g e F A) (ezs_P e fz F0 A0 ezs_rn) := by
  refine ezw_met (k := 2) rfl rfl ?_
  refine ezw_iload_n rfl rfl ?_
  refine ezw_iconst (4) rfl rfl ?_
  refine ezw_icmp_lt rfl rfl ⟨by decide, by decide⟩ ⟨by decide, by decide⟩ (fun h2_0 => ?_) (fun h2_0 => absurd h2_0 (by omega))
  refine ezw_aload_n rfl rfl ?_
  refine ezw_aload_n rfl rfl ?_
  refine ezw_iload_n rfl rfl ?_
  refine ezw_iconst (1) rfl rfl ?_
  refine ezw_iadd (k := (2)) rfl rfl ?_
  refine ezw_iload_n rfl rfl ?_
  refine ezw_call0_3 rfl (by omega) (ezu_at rfl) rfl rfl rfl rfl (ezs_m81_9_1_v2_v3 hI (by omega) hzA hzT) ?_
  rintro _ _ ⟨⟨F, A, rfl, hI⟩, rfl⟩
  refine ezw_iconst (0) rfl rfl ?_
  refine ezw_istore rfl rfl ?_
  have L24_1 : ∀ c1 : Int, ezw_in c1 → (0) ≤ c1 → ∀ F A, ezs_I fz F0 A0 F A → ezw_E l ρ B xa Hb D cA d ezq_re81 (ezs_P e fz F0 A0 ezs_rn) 24 [some (ezw_p 9), some (ezw_p 1), some (ezw_i (1)), some (ezw_i (3)), some (ezw_i c1), none] [] (ezu_g e F A) := by
    refine ezs_up ?_
    intro c1 hc1 ihc1 gc1 F A hI
    refine ezw_iload rfl rfl ?_
    refine ezw_sipush (1000) rfl rfl ?_
    refine ezw_icmp_ge rfl rfl hc1 ⟨by decide, by decide⟩ (fun h29_2 => ?_) (fun h29_2 => ?_)
    · exact ezw_return rfl rfl ⟨⟨F, A, rfl, hI⟩, rfl⟩
    · refine ezw_aload_n rfl rfl ?_
      refine ezw_call0_0 rfl (by omega) (ezu_at rfl) rfl rfl rfl rfl (ezs_m45_1 hI (by omega)) ?_
      rintro _ _ ⟨rfl, u3, hu3, rfl⟩
      refine ezw_if_eq rfl rfl ⟨by omega, by omega⟩ (fun h36_3 => ?_) (fun h36_3 => ?_)
      · exact ezw_return rfl rfl ⟨⟨F, A, rfl, hI⟩, rfl⟩
      · refine ezw_aload_n rfl rfl ?_
        refine ezs_get_i hI rfl rfl rfl rfl rfl rfl (fun u4 hu4 ku4 => ?_)
        refine ezw_iload_n rfl rfl ?_
        refine ezw_call2_2 rfl (by omega) rfl rfl (ezs_m84 hI (by omega) hu4 ⟨by decide, by decide⟩) ?_
        rintro _ _ ⟨rfl, u5, hu5, rfl⟩
        refine ezw_istore rfl rfl ?_
        refine ezw_iload rfl rfl ?_
        refine ezw_if_ne rfl rfl hu5 (fun h51_5 => ?_) (fun h51_5 => ?_)
        · refine ezw_aload_n rfl rfl ?_
          refine ezw_call0_0 rfl (by omega) (ezu_at rfl) rfl rfl rfl rfl (ezs_m30_1 hI (by omega) hzT) ?_
          rintro _ _ ⟨⟨F, A, rfl, hI⟩, rfl⟩
          refine ezw_aload_n rfl rfl ?_
          refine ezw_aload_n rfl rfl ?_
          refine ezw_iload_n rfl rfl ?_
          refine ezw_iconst (1) rfl rfl ?_
          refine ezw_iadd (k := (2)) rfl rfl ?_
          refine ezw_iload_n rfl rfl ?_
          refine ezw_call0_3 rfl (by omega) (ezu_at rfl) rfl rfl rfl rfl (ezs_m81_9_1_v2_v3 hI (by omega) hzA hzT) ?_
          rintro _ _ ⟨⟨F, A, rfl, hI⟩, rfl⟩
          refine ezw_aload_n rfl rfl ?_
          refine ezw_iload rfl rfl ?_
          refine ezw_call0_1 rfl (by omega) (ezu_at rfl) rfl rfl rfl rfl (ezs_m83_9 hI (by omega) hzA hu5) ?_
          rintro _ _ ⟨⟨F, A, rfl, hI⟩, rfl⟩
          refine ezw_iload_n rfl rfl ?_
          refine ezw_iconst (1) rfl rfl ?_
          refine ezw_icmp_ne rfl rfl ⟨by decide, by decide⟩ ⟨by decide, by decide⟩ (fun h76_5 => absurd h76_5 (by omega)) (fun h76_5 => ?_)
          exact ezw_return rfl rfl ⟨⟨F, A, rfl, hI⟩, rfl⟩
        · exact ezw_return rfl rfl ⟨⟨F, A, rfl, hI⟩, rfl⟩
  exact ezw_keepE [true, true, true, true, true, false] (L24_1 (0) ⟨by decide, by decide⟩ (by omega)  F A hI)
theorem ezs_m81_9_1_v0_v3 {F : Nat → Nat → Int} {A : Nat → Int → Int} (hI : ezs_I fz F0 A0 F A) (hd : 20 ≤ d) (hzA : ∀ q, 4 ≤ q → q < 72 → fz q = false) (hzT : fz 1 = false) : ezw_C l ρ B xa Hb D cA 81 d [ezw_p 9, ezw_p 1, ezw_i (0), ezw_i (3)] (ezu_g e F A) (ezs_P e fz F0 A0 ezs_rn) := by
  refine ezw_met (k := 2) rfl rfl ?_
  refine ezw_iload_n rfl rfl ?_
  refine ezw_iconst (4) rfl rfl ?_
  refine ezw_icmp_lt rfl rfl ⟨by decide, by decide⟩ ⟨by decide, by decide⟩ (fun h2_0 => ?_) (fun h2_0 => absurd h2_0 (by omega))
  refine ezw_aload_n rfl rfl ?_
  refine ezw_aload_n rfl rfl ?_
  refine ezw_iload_n rfl rfl ?_
  refine ezw_iconst (1) rfl rfl ?_
  refine ezw_iadd (k := (1)) rfl rfl ?_
  refine ezw_iload_n rfl rfl ?_
  refine ezw_call0_3 rfl (by omega) (ezu_at rfl) rfl rfl rfl rfl (ezs_m81_9_1_v1_v3 hI (by omega) hzA hzT) ?_
  rintro _ _ ⟨⟨F, A, rfl, hI⟩, rfl⟩
  refine ezw_iconst (0) rfl rfl ?_
  refine ezw_istore rfl rfl ?_
  have L24_1 : ∀ c1 : Int, ezw_in c1 → (0) ≤ c1 → ∀ F A, ezs_I fz F0 A0 F A → ezw_E l ρ B xa Hb D cA d ezq_re81 (ezs_P e fz F0 A0 ezs_rn) 24 [some (ezw_p 9), some (ezw_p 1), some (ezw_i (0)), some (ezw_i (3)), some (ezw_i c1), none] [] (ezu_g e F A) := by
    refine ezs_up ?_
    intro c1 hc1 ihc1 gc1 F A hI
    refine ezw_iload rfl rfl ?_
    refine ezw_sipush (1000) rfl rfl ?_
    refine ezw_icmp_ge rfl rfl hc1 ⟨by decide, by decide⟩ (fun h29_2 => ?_) (fun h29_2 => ?_)
    · exact ezw_return rfl rfl ⟨⟨F, A, rfl, hI⟩, rfl⟩
    · refine ezw_aload_n rfl rfl ?_
      refine ezw_call0_0 rfl (by omega) (ezu_at rfl) rfl rfl rfl rfl (ezs_m45_1 hI (by omega)) ?_
      rintro _ _ ⟨rfl, u3, hu3, rfl⟩
      refine ezw_if_eq rfl rfl ⟨by omega, by omega⟩ (fun h36_3 => ?_) (fun h36_3 => ?_)
      · exact ezw_return rfl rfl ⟨⟨F, A, rfl, hI⟩, rfl⟩
      · refine ezw_aload_n rfl rfl ?_
        refine ezs_get_i hI rfl rfl rfl rfl rfl rfl (fun u4 hu4 ku4 => ?_)
        refine ezw_iload_n rfl rfl ?_
        refine ezw_call2_2 rfl (by omega) rfl rfl (ezs_m84 hI (by omega) hu4 ⟨by decide, by decide⟩) ?_
        rintro _ _ ⟨rfl, u5, hu5, rfl⟩
        refine ezw_istore rfl rfl ?_
        refine ezw_iload rfl rfl ?_
        refine ezw_if_ne rfl rfl hu5 (fun h51_5 => ?_) (fun h51_5 => ?_)
        · refine ezw_aload_n rfl rfl ?_
          refine ezw_call0_0 rfl (by omega) (ezu_at rfl) rfl rfl rfl rfl (ezs_m30_1 hI (by omega) hzT) ?_
          rintro _ _ ⟨⟨F, A, rfl, hI⟩, rfl⟩
          refine ezw_aload_n rfl rfl ?_
          refine ezw_aload_n rfl rfl ?_
          refine ezw_iload_n rfl rfl ?_
          refine ezw_iconst (1) rfl rfl ?_
          refine ezw_iadd (k := (1)) rfl rfl ?_
          refine ezw_iload_n rfl rfl ?_
          refine ezw_call0_3 rfl (by omega) (ezu_at rfl) rfl rfl rfl rfl (ezs_m81_9_1_v1_v3 hI (by omega) hzA hzT) ?_
          rintro _ _ ⟨⟨F, A, rfl, hI⟩, rfl⟩
          refine ezw_aload_n rfl rfl ?_
          refine ezw_iload rfl rfl ?_
          refine ezw_call0_1 rfl (by omega) (ezu_at rfl) rfl rfl rfl rfl (ezs_m83_9 hI (by omega) hzA hu5) ?_
          rintro _ _ ⟨⟨F, A, rfl, hI⟩, rfl⟩
          refine ezw_iload_n rfl rfl ?_
          refine ezw_iconst (1) rfl rfl ?_
          refine ezw_icmp_ne rfl rfl ⟨by decide, by decide⟩ ⟨by decide, by decide⟩ (fun h76_5 => ?_) (fun h76_5 => absurd h76_5 (by omega))
          refine ezw_iinc (1) rfl rfl rfl rfl rfl ?_
          refine ezw_goto rfl rfl ?_
          exact ezw_keepE [true, true, true, true, true, false] (ihc1 (c1 + (1)) (by omega) ⟨by omega, by omega⟩ (by omega)  F A hI)
        · exact ezw_return rfl rfl ⟨⟨F, A, rfl, hI⟩, rfl⟩
  exact ezw_keepE [true, true, true, true, true, false] (L24_1 (0) ⟨by decide, by decide⟩ (by omega)  F A hI)
theorem ezs_m82_9_1_v2 {F : Nat → Nat → Int} {A : Nat → Int → Int} (hI : ezs_I fz F0 A0 F A) (hd : 21 ≤ d) (hzA : ∀ q, 4 ≤ q → q < 72 → fz q = false) (hzT : fz 1 = false) : ezw_C l ρ B xa Hb D cA 82 d [ezw_p 9, ezw_p 1, ezw_i (2)] (ezu_g e F A) (ezs_P e fz F0 A0 ezs_rn) := by
  refine ezw_met (k := 2) rfl rfl ?_
  refine ezw_aload_n rfl rfl ?_
  refine ezw_bipush (100) rfl rfl ?_
  refine ezw_call0_1 rfl (by omega) (ezu_at rfl) rfl rfl rfl rfl (ezs_m46_1 hI (by omega) ⟨by decide, by decide⟩) ?_
  rintro _ _ ⟨rfl, u1, hu1, rfl⟩
  have J21_2 : ∀ y2 : Int, ezs_b y2 → ∀ F A, ezs_I fz F0 A0 F A → ezw_E l ρ B xa Hb D cA d ezq_re82 (ezs_P e fz F0 A0 ezs_rn) 21 [some (ezw_p 9), some (ezw_p 1), some (ezw_i (2)), none, none] [(ezw_i y2)] (ezu_g e F A) := by
    intro y2 hy2 F A hI
    refine ezw_istore_n rfl rfl ?_
    refine ezw_iload_n rfl rfl ?_
    have J59_4 : ∀ y4 : Int, ezs_b y4 → ∀ F A, ezs_I fz F0 A0 F A → ezw_E l ρ B xa Hb D cA d ezq_re82 (ezs_P e fz F0 A0 ezs_rn) 59 [some (ezw_p 9), some (ezw_p 1), some (ezw_i (2)), some (ezw_i y2), none] [(ezw_i y4)] (ezu_g e F A) := by
      intro y4 hy4 F A hI
      refine ezw_istore rfl rfl ?_
      refine ezw_iload rfl rfl ?_
      refine ezw_if_eq rfl rfl ⟨by omega, by omega⟩ (fun h63_5 => ?_) (fun h63_5 => ?_)
      · refine ezw_aload_n rfl rfl ?_
        refine ezw_iload rfl rfl ?_
        refine ezw_if_eq rfl rfl ⟨by omega, by omega⟩ (fun h74_5 => ?_) (fun h74_5 => ?_)
        · refine ezw_iconst (1) rfl rfl ?_
          refine ezw_call0_1 rfl (by omega) (ezu_at rfl) rfl rfl rfl rfl (ezs_m50_1 hI (by omega) hzT ⟨by decide, by decide⟩) ?_
          rintro _ _ ⟨⟨F, A, rfl, hI⟩, rfl⟩
          refine ezw_goto rfl rfl ?_
          exact ezw_return rfl rfl ⟨⟨F, A, rfl, hI⟩, rfl⟩
        · refine ezw_iconst (5) rfl rfl ?_
          refine ezw_goto rfl rfl ?_
          refine ezw_call0_1 rfl (by omega) (ezu_at rfl) rfl rfl rfl rfl (ezs_m50_1 hI (by omega) hzT ⟨by decide, by decide⟩) ?_
          rintro _ _ ⟨⟨F, A, rfl, hI⟩, rfl⟩
          refine ezw_goto rfl rfl ?_
          exact ezw_return rfl rfl ⟨⟨F, A, rfl, hI⟩, rfl⟩
      · refine ezw_iload_n rfl rfl ?_
        refine ezw_iconst (5) rfl rfl ?_
        refine ezw_icmp_lt rfl rfl ⟨by decide, by decide⟩ ⟨by decide, by decide⟩ (fun h68_5 => ?_) (fun h68_5 => absurd h68_5 (by omega))
        refine ezw_iload_n rfl rfl ?_
        refine ezw_if_eq rfl rfl ⟨by omega, by omega⟩ (fun h89_5 => ?_) (fun h89_5 => ?_)
        · refine ezw_aload_n rfl rfl ?_
          refine ezw_bipush (101) rfl rfl ?_
          refine ezw_call0_1 rfl (by omega) (ezu_at rfl) rfl rfl rfl rfl (ezs_m46_1 hI (by omega) ⟨by decide, by decide⟩) ?_
          rintro _ _ ⟨rfl, u6, hu6, rfl⟩
          refine ezw_if_eq rfl rfl ⟨by omega, by omega⟩ (fun h115_6 => ?_) (fun h115_6 => ?_)
          · refine ezw_aload_n rfl rfl ?_
            refine ezw_bipush (41) rfl rfl ?_
            refine ezw_call0_1 rfl (by omega) (ezu_at rfl) rfl rfl rfl rfl (ezs_m46_1 hI (by omega) ⟨by decide, by decide⟩) ?_
            rintro _ _ ⟨rfl, u7, hu7, rfl⟩
            refine ezw_if_eq rfl rfl ⟨by omega, by omega⟩ (fun h139_7 => ?_) (fun h139_7 => ?_)
            · refine ezw_aload_n rfl rfl ?_
              refine ezw_call0_0 rfl (by omega) (ezu_at rfl) rfl rfl rfl rfl (ezs_m30_1 hI (by omega) hzT) ?_
              rintro _ _ ⟨⟨F, A, rfl, hI⟩, rfl⟩
              refine ezw_aload_n rfl rfl ?_
              refine ezw_aload_n rfl rfl ?_
              refine ezw_iconst (0) rfl rfl ?_
              refine ezw_iload_n rfl rfl ?_
              refine ezw_iconst (1) rfl rfl ?_
              refine ezw_iadd (k := (3)) rfl rfl ?_
              refine ezw_call0_3 rfl (by omega) (ezu_at rfl) rfl rfl rfl rfl (ezs_m81_9_1_v0_v3 hI (by omega) hzA hzT) ?_
              rintro _ _ ⟨⟨F, A, rfl, hI⟩, rfl⟩
              refine ezw_aload_n rfl rfl ?_
              refine ezw_sipush (241) rfl rfl ?_
              refine ezw_call0_1 rfl (by omega) (ezu_at rfl) rfl rfl rfl rfl (ezs_m46_1 hI (by omega) ⟨by decide, by decide⟩) ?_
              rintro _ _ ⟨rfl, u8, hu8, rfl⟩
              refine ezw_if_eq rfl rfl ⟨by omega, by omega⟩ (fun h183_8 => ?_) (fun h183_8 => ?_)
              · refine ezw_aload_n rfl rfl ?_
                refine ezw_iconst (1) rfl rfl ?_
                refine ezw_call0_1 rfl (by omega) (ezu_at rfl) rfl rfl rfl rfl (ezs_m50_1 hI (by omega) hzT ⟨by decide, by decide⟩) ?_
                rintro _ _ ⟨⟨F, A, rfl, hI⟩, rfl⟩
                exact ezw_return rfl rfl ⟨⟨F, A, rfl, hI⟩, rfl⟩
              · refine ezw_aload_n rfl rfl ?_
                refine ezw_call0_0 rfl (by omega) (ezu_at rfl) rfl rfl rfl rfl (ezs_m30_1 hI (by omega) hzT) ?_
                rintro _ _ ⟨⟨F, A, rfl, hI⟩, rfl⟩
                refine ezw_goto rfl rfl ?_
                exact ezw_return rfl rfl ⟨⟨F, A, rfl, hI⟩, rfl⟩
            · refine ezw_aload_n rfl rfl ?_
              refine ezw_call0_0 rfl (by omega) (ezu_at rfl) rfl rfl rfl rfl (ezs_m30_1 hI (by omega) hzT) ?_
              rintro _ _ ⟨⟨F, A, rfl, hI⟩, rfl⟩
              refine ezw_aload_n rfl rfl ?_
              refine ezw_aload_n rfl rfl ?_
              refine ezw_iload_n rfl rfl ?_
              refine ezw_iconst (1) rfl rfl ?_
              refine ezw_iadd (k := (3)) rfl rfl ?_
              refine ezw_call0_2 rfl (by omega) (ezu_at rfl) rfl rfl rfl rfl (ezs_m82_9_1_v3 hI (by omega) hzA hzT) ?_
              rintro _ _ ⟨⟨F, A, rfl, hI⟩, rfl⟩
              refine ezw_aload_n rfl rfl ?_
              refine ezw_bipush (-5) rfl rfl ?_
              refine ezw_call0_1 rfl (by omega) (ezu_at rfl) rfl rfl rfl rfl (ezs_m83_9 hI (by omega) hzA ⟨by decide, by decide⟩) ?_
              rintro _ _ ⟨⟨F, A, rfl, hI⟩, rfl⟩
              refine ezw_goto rfl rfl ?_
              exact ezw_return rfl rfl ⟨⟨F, A, rfl, hI⟩, rfl⟩
          · refine ezw_aload_n rfl rfl ?_
            refine ezw_aload_n rfl rfl ?_
            refine ezs_get_i hI rfl rfl rfl rfl rfl rfl (fun u9 hu9 ku9 => ?_)
            refine ezw_call0_1 rfl (by omega) (ezu_at rfl) rfl rfl rfl rfl (ezs_m83_9 hI (by omega) hzA hu9) ?_
            rintro _ _ ⟨⟨F, A, rfl, hI⟩, rfl⟩
            refine ezw_aload_n rfl rfl ?_
            refine ezw_call0_0 rfl (by omega) (ezu_at rfl) rfl rfl rfl rfl (ezs_m30_1 hI (by omega) hzT) ?_
            rintro _ _ ⟨⟨F, A, rfl, hI⟩, rfl⟩
            refine ezw_goto rfl rfl ?_
            exact ezw_return rfl rfl ⟨⟨F, A, rfl, hI⟩, rfl⟩
        · refine ezw_aload_n rfl rfl ?_
          refine ezw_iconst (-1) rfl rfl ?_
          refine ezw_aload_n rfl rfl ?_
          refine ezs_get_i hI rfl rfl rfl rfl rfl rfl (fun u10 hu10 ku10 => ?_)
          refine ezs_isub rfl (fun u11 hu11 => ?_)
          refine ezw_call0_1 rfl (by omega) (ezu_at rfl) rfl rfl rfl rfl (ezs_m83_9 hI (by omega) hzA hu11) ?_
          rintro _ _ ⟨⟨F, A, rfl, hI⟩, rfl⟩
          refine ezw_aload_n rfl rfl ?_
          refine ezw_call0_0 rfl (by omega) (ezu_at rfl) rfl rfl rfl rfl (ezs_m30_1 hI (by omega) hzT) ?_
          rintro _ _ ⟨⟨F, A, rfl, hI⟩, rfl⟩
          refine ezw_goto rfl rfl ?_
          exact ezw_return rfl rfl ⟨⟨F, A, rfl, hI⟩, rfl⟩
    refine ezw_if_ne rfl rfl ⟨by omega, by omega⟩ (fun h23_3 => ?_) (fun h23_3 => ?_)
    · refine ezw_iconst (1) rfl rfl ?_
      refine ezw_goto rfl rfl ?_
      exact ezw_keepE [true, true, true, true, false] (J59_4 (1) ⟨by omega, by omega⟩ F A hI)
    · refine ezw_aload_n rfl rfl ?_
      refine ezw_bipush (101) rfl rfl ?_
      refine ezw_call0_1 rfl (by omega) (ezu_at rfl) rfl rfl rfl rfl (ezs_m46_1 hI (by omega) ⟨by decide, by decide⟩) ?_
      rintro _ _ ⟨rfl, u12, hu12, rfl⟩
      refine ezw_if_ne rfl rfl ⟨by omega, by omega⟩ (fun h32_12 => ?_) (fun h32_12 => ?_)
      · refine ezw_iconst (1) rfl rfl ?_
        refine ezw_goto rfl rfl ?_
        exact ezw_keepE [true, true, true, true, false] (J59_4 (1) ⟨by omega, by omega⟩ F A hI)
      · refine ezw_aload_n rfl rfl ?_
        refine ezw_bipush (41) rfl rfl ?_
        refine ezw_call0_1 rfl (by omega) (ezu_at rfl) rfl rfl rfl rfl (ezs_m46_1 hI (by omega) ⟨by decide, by decide⟩) ?_
        rintro _ _ ⟨rfl, u13, hu13, rfl⟩
        refine ezw_if_ne rfl rfl ⟨by omega, by omega⟩ (fun h41_13 => ?_) (fun h41_13 => ?_)
        · refine ezw_iconst (1) rfl rfl ?_
          refine ezw_goto rfl rfl ?_
          exact ezw_keepE [true, true, true, true, false] (J59_4 (1) ⟨by omega, by omega⟩ F A hI)
        · refine ezw_aload_n rfl rfl ?_
          refine ezw_sipush (240) rfl rfl ?_
          refine ezw_call0_1 rfl (by omega) (ezu_at rfl) rfl rfl rfl rfl (ezs_m46_1 hI (by omega) ⟨by decide, by decide⟩) ?_
          rintro _ _ ⟨rfl, u14, hu14, rfl⟩
          refine ezw_if_eq rfl rfl ⟨by omega, by omega⟩ (fun h51_14 => ?_) (fun h51_14 => ?_)
          · refine ezw_iconst (0) rfl rfl ?_
            exact ezw_keepE [true, true, true, true, false] (J59_4 (0) ⟨by omega, by omega⟩ F A hI)
          · refine ezw_iconst (1) rfl rfl ?_
            refine ezw_goto rfl rfl ?_
            exact ezw_keepE [true, true, true, true, false] (J59_4 (1) ⟨by omega, by omega⟩ F A hI)
  refine ezw_if_eq rfl rfl ⟨by omega, by omega⟩ (fun h6_1 => ?_) (fun h6_1 => ?_)
  · refine ezw_iconst (0) rfl rfl ?_
    exact ezw_keepE [true, true, true, false, false] (J21_2 (0) ⟨by omega, by omega⟩ F A hI)
  · refine ezw_aload_n rfl rfl ?_
    refine ezs_get_i hI rfl rfl rfl rfl rfl rfl (fun u15 hu15 ku15 => ?_)
    refine ezw_if_lt rfl rfl hu15 (fun h13_15 => ?_) (fun h13_15 => ?_)
    · refine ezw_iconst (0) rfl rfl ?_
      exact ezw_keepE [true, true, true, false, false] (J21_2 (0) ⟨by omega, by omega⟩ F A hI)
    · refine ezw_iconst (1) rfl rfl ?_
      refine ezw_goto rfl rfl ?_
      exact ezw_keepE [true, true, true, false, false] (J21_2 (1) ⟨by omega, by omega⟩ F A hI)
theorem ezs_m81_9_1_v4_v2 {F : Nat → Nat → Int} {A : Nat → Int → Int} (hI : ezs_I fz F0 A0 F A) (hd : 22 ≤ d) (hzA : ∀ q, 4 ≤ q → q < 72 → fz q = false) (hzT : fz 1 = false) : ezw_C l ρ B xa Hb D cA 81 d [ezw_p 9, ezw_p 1, ezw_i (4), ezw_i (2)] (ezu_g e F A) (ezs_P e fz F0 A0 ezs_rn) := by
  refine ezw_met (k := 2) rfl rfl ?_
  refine ezw_iload_n rfl rfl ?_
  refine ezw_iconst (4) rfl rfl ?_
  refine ezw_icmp_lt rfl rfl ⟨by decide, by decide⟩ ⟨by decide, by decide⟩ (fun h2_0 => absurd h2_0 (by omega)) (fun h2_0 => ?_)
  refine ezw_aload_n rfl rfl ?_
  refine ezw_aload_n rfl rfl ?_
  refine ezw_iload_n rfl rfl ?_
  refine ezw_call0_2 rfl (by omega) (ezu_at rfl) rfl rfl rfl rfl (ezs_m82_9_1_v2 hI (by omega) hzA hzT) ?_
  rintro _ _ ⟨⟨F, A, rfl, hI⟩, rfl⟩
  exact ezw_return rfl rfl ⟨⟨F, A, rfl, hI⟩, rfl⟩
theorem ezs_m81_9_1_v3_v2 {F : Nat → Nat → Int} {A : Nat → Int → Int} (hI : ezs_I fz F0 A0 F A) (hd : 23 ≤ d) (hzA : ∀ q, 4 ≤ q → q < 72 → fz q = false) (hzT : fz 1 = false) : ezw_C l ρ B xa Hb D cA 81 d [ezw_p 9, ezw_p 1, ezw_i (3), ezw_i (2)] (ezu_g e F A) (ezs_P e fz F0 A0 ezs_rn) := by
  refine ezw_met (k := 2) rfl rfl ?_
  refine ezw_iload_n rfl rfl ?_
  refine ezw_iconst (4) rfl rfl ?_
  refine ezw_icmp_lt rfl rfl ⟨by decide, by decide⟩ ⟨by decide, by decide⟩ (fun h2_0 => ?_) (fun h2_0 => absurd h2_0 (by omega))
  refine ezw_aload_n rfl rfl ?_
  refine ezw_aload_n rfl rfl ?_
  refine ezw_iload_n rfl rfl ?_
  refine ezw_iconst (1) rfl rfl ?_
  refine ezw_iadd (k := (4)) rfl rfl ?_
  refine ezw_iload_n rfl rfl ?_
  refine ezw_call0_3 rfl (by omega) (ezu_at rfl) rfl rfl rfl rfl (ezs_m81_9_1_v4_v2 hI (by omega) hzA hzT) ?_
  rintro _ _ ⟨⟨F, A, rfl, hI⟩, rfl⟩
  refine ezw_iconst (0) rfl rfl ?_
  refine ezw_istore rfl rfl ?_
  have L24_1 : ∀ c1 : Int, ezw_in c1 → (0) ≤ c1 → ∀ F A, ezs_I fz F0 A0 F A → ezw_E l ρ B xa Hb D cA d ezq_re81 (ezs_P e fz F0 A0 ezs_rn) 24 [some (ezw_p 9), some (ezw_p 1), some (ezw_i (3)), some (ezw_i (2)), some (ezw_i c1), none] [] (ezu_g e F A) := by
    refine ezs_up ?_
    intro c1 hc1 ihc1 gc1 F A hI
    refine ezw_iload rfl rfl ?_
    refine ezw_sipush (1000) rfl rfl ?_
    refine ezw_icmp_ge rfl rfl hc1 ⟨by decide, by decide⟩ (fun h29_2 => ?_) (fun h29_2 => ?_)
    · exact ezw_return rfl rfl ⟨⟨F, A, rfl, hI⟩, rfl⟩
    · refine ezw_aload_n rfl rfl ?_
      refine ezw_call0_0 rfl (by omega) (ezu_at rfl) rfl rfl rfl rfl (ezs_m45_1 hI (by omega)) ?_
      rintro _ _ ⟨rfl, u3, hu3, rfl⟩
      refine ezw_if_eq rfl rfl ⟨by omega, by omega⟩ (fun h36_3 => ?_) (fun h36_3 => ?_)
      · exact ezw_return rfl rfl ⟨⟨F, A, rfl, hI⟩, rfl⟩
      · refine ezw_aload_n rfl rfl ?_
        refine ezs_get_i hI rfl rfl rfl rfl rfl rfl (fun u4 hu4 ku4 => ?_)
        refine ezw_iload_n rfl rfl ?_
        refine ezw_call2_2 rfl (by omega) rfl rfl (ezs_m84 hI (by omega) hu4 ⟨by decide, by decide⟩) ?_
        rintro _ _ ⟨rfl, u5, hu5, rfl⟩
        refine ezw_istore rfl rfl ?_
        refine ezw_iload rfl rfl ?_
        refine ezw_if_ne rfl rfl hu5 (fun h51_5 => ?_) (fun h51_5 => ?_)
        · refine ezw_aload_n rfl rfl ?_
          refine ezw_call0_0 rfl (by omega) (ezu_at rfl) rfl rfl rfl rfl (ezs_m30_1 hI (by omega) hzT) ?_
          rintro _ _ ⟨⟨F, A, rfl, hI⟩, rfl⟩
          refine ezw_aload_n rfl rfl ?_
          refine ezw_aload_n rfl rfl ?_
          refine ezw_iload_n rfl rfl ?_
          refine ezw_iconst (1) rfl rfl ?_
          refine ezw_iadd (k := (4)) rfl rfl ?_
          refine ezw_iload_n rfl rfl ?_
          refine ezw_call0_3 rfl (by omega) (ezu_at rfl) rfl rfl rfl rfl (ezs_m81_9_1_v4_v2 hI (by omega) hzA hzT) ?_
          rintro _ _ ⟨⟨F, A, rfl, hI⟩, rfl⟩
          refine ezw_aload_n rfl rfl ?_
          refine ezw_iload rfl rfl ?_
          refine ezw_call0_1 rfl (by omega) (ezu_at rfl) rfl rfl rfl rfl (ezs_m83_9 hI (by omega) hzA hu5) ?_
          rintro _ _ ⟨⟨F, A, rfl, hI⟩, rfl⟩
          refine ezw_iload_n rfl rfl ?_
          refine ezw_iconst (1) rfl rfl ?_
          refine ezw_icmp_ne rfl rfl ⟨by decide, by decide⟩ ⟨by decide, by decide⟩ (fun h76_5 => ?_) (fun h76_5 => absurd h76_5 (by omega))
          refine ezw_iinc (1) rfl rfl rfl rfl rfl ?_
          refine ezw_goto rfl rfl ?_
          exact ezw_keepE [true, true, true, true, true, false] (ihc1 (c1 + (1)) (by omega) ⟨by omega, by omega⟩ (by omega)  F A hI)
        · exact ezw_return rfl rfl ⟨⟨F, A, rfl, hI⟩, rfl⟩
  exact ezw_keepE [true, true, true, true, true, false] (L24_1 (0) ⟨by decide, by decide⟩ (by omega)  F A hI)
theorem ezs_m81_9_1_v2_v2 {F : Nat → Nat → Int} {A : Nat → Int → Int} (hI : ezs_I fz F0 A0 F A) (hd : 24 ≤ d) (hzA : ∀ q, 4 ≤ q → q < 72 → fz q = false) (hzT : fz 1 = false) : ezw_C l ρ B xa Hb D cA 81 d [ezw_p 9, ezw_p 1, ezw_i (2), ezw_i (2)] (ezu_g e F A) (ezs_P e fz F0 A0 ezs_rn) := by
  refine ezw_met (k := 2) rfl rfl ?_
  refine ezw_iload_n rfl rfl ?_
  refine ezw_iconst (4) rfl rfl ?_
  refine ezw_icmp_lt rfl rfl ⟨by decide, by decide⟩ ⟨by decide, by decide⟩ (fun h2_0 => ?_) (fun h2_0 => absurd h2_0 (by omega))
  refine ezw_aload_n rfl rfl ?_
  refine ezw_aload_n rfl rfl ?_
  refine ezw_iload_n rfl rfl ?_
  refine ezw_iconst (1) rfl rfl ?_
  refine ezw_iadd (k := (3)) rfl rfl ?_
  refine ezw_iload_n rfl rfl ?_
  refine ezw_call0_3 rfl (by omega) (ezu_at rfl) rfl rfl rfl rfl (ezs_m81_9_1_v3_v2 hI (by omega) hzA hzT) ?_
  rintro _ _ ⟨⟨F, A, rfl, hI⟩, rfl⟩
  refine ezw_iconst (0) rfl rfl ?_
  refine ezw_istore rfl rfl ?_
  have L24_1 : ∀ c1 : Int, ezw_in c1 → (0) ≤ c1 → ∀ F A, ezs_I fz F0 A0 F A → ezw_E l ρ B xa Hb D cA d ezq_re81 (ezs_P e fz F0 A0 ezs_rn) 24 [some (ezw_p 9), some (ezw_p 1), some (ezw_i (2)), some (ezw_i (2)), some (ezw_i c1), none] [] (ezu_g e F A) := by
    refine ezs_up ?_
    intro c1 hc1 ihc1 gc1 F A hI
    refine ezw_iload rfl rfl ?_
    refine ezw_sipush (1000) rfl rfl ?_
    refine ezw_icmp_ge rfl rfl hc1 ⟨by decide, by decide⟩ (fun h29_2 => ?_) (fun h29_2 => ?_)
    · exact ezw_return rfl rfl ⟨⟨F, A, rfl, hI⟩, rfl⟩
    · refine ezw_aload_n rfl rfl ?_
      refine ezw_call0_0 rfl (by omega) (ezu_at rfl) rfl rfl rfl rfl (ezs_m45_1 hI (by omega)) ?_
      rintro _ _ ⟨rfl, u3, hu3, rfl⟩
      refine ezw_if_eq rfl rfl ⟨by omega, by omega⟩ (fun h36_3 => ?_) (fun h36_3 => ?_)
      · exact ezw_return rfl rfl ⟨⟨F, A, rfl, hI⟩, rfl⟩
      · refine ezw_aload_n rfl rfl ?_
        refine ezs_get_i hI rfl rfl rfl rfl rfl rfl (fun u4 hu4 ku4 => ?_)
        refine ezw_iload_n rfl rfl ?_
        refine ezw_call2_2 rfl (by omega) rfl rfl (ezs_m84 hI (by omega) hu4 ⟨by decide, by decide⟩) ?_
        rintro _ _ ⟨rfl, u5, hu5, rfl⟩
        refine ezw_istore rfl rfl ?_
        refine ezw_iload rfl rfl ?_
        refine ezw_if_ne rfl rfl hu5 (fun h51_5 => ?_) (fun h51_5 => ?_)
        · refine ezw_aload_n rfl rfl ?_
          refine ezw_call0_0 rfl (by omega) (ezu_at rfl) rfl rfl rfl rfl (ezs_m30_1 hI (by omega) hzT) ?_
          rintro _ _ ⟨⟨F, A, rfl, hI⟩, rfl⟩
          refine ezw_aload_n rfl rfl ?_
          refine ezw_aload_n rfl rfl ?_
          refine ezw_iload_n rfl rfl ?_
          refine ezw_iconst (1) rfl rfl ?_
          refine ezw_iadd (k := (3)) rfl rfl ?_
          refine ezw_iload_n rfl rfl ?_
          refine ezw_call0_3 rfl (by omega) (ezu_at rfl) rfl rfl rfl rfl (ezs_m81_9_1_v3_v2 hI (by omega) hzA hzT) ?_
          rintro _ _ ⟨⟨F, A, rfl, hI⟩, rfl⟩
          refine ezw_aload_n rfl rfl ?_
          refine ezw_iload rfl rfl ?_
          refine ezw_call0_1 rfl (by omega) (ezu_at rfl) rfl rfl rfl rfl (ezs_m83_9 hI (by omega) hzA hu5) ?_
          rintro _ _ ⟨⟨F, A, rfl, hI⟩, rfl⟩
          refine ezw_iload_n rfl rfl ?_
          refine ezw_iconst (1) rfl rfl ?_
          refine ezw_icmp_ne rfl rfl ⟨by decide, by decide⟩ ⟨by decide, by decide⟩ (fun h76_5 => ?_) (fun h76_5 => absurd h76_5 (by omega))
          refine ezw_iinc (1) rfl rfl rfl rfl rfl ?_
          refine ezw_goto rfl rfl ?_
          exact ezw_keepE [true, true, true, true, true, false] (ihc1 (c1 + (1)) (by omega) ⟨by omega, by omega⟩ (by omega)  F A hI)
        · exact ezw_return rfl rfl ⟨⟨F, A, rfl, hI⟩, rfl⟩
  exact ezw_keepE [true, true, true, true, true, false] (L24_1 (0) ⟨by decide, by decide⟩ (by omega)  F A hI)
theorem ezs_m81_9_1_v1_v2 {F : Nat → Nat → Int} {A : Nat → Int → Int} (hI : ezs_I fz F0 A0 F A) (hd : 25 ≤ d) (hzA : ∀ q, 4 ≤ q → q < 72 → fz q = false) (hzT : fz 1 = false) : ezw_C l ρ B xa Hb D cA 81 d [ezw_p 9, ezw_p 1, ezw_i (1), ezw_i (2)] (ezu_g e F A) (ezs_P e fz F0 A0 ezs_rn) := by
  refine ezw_met (k := 2) rfl rfl ?_
  refine ezw_iload_n rfl rfl ?_
  refine ezw_iconst (4) rfl rfl ?_
  refine ezw_icmp_lt rfl rfl ⟨by decide, by decide⟩ ⟨by decide, by decide⟩ (fun h2_0 => ?_) (fun h2_0 => absurd h2_0 (by omega))
  refine ezw_aload_n rfl rfl ?_
  refine ezw_aload_n rfl rfl ?_
  refine ezw_iload_n rfl rfl ?_
  refine ezw_iconst (1) rfl rfl ?_
  refine ezw_iadd (k := (2)) rfl rfl ?_
  refine ezw_iload_n rfl rfl ?_
  refine ezw_call0_3 rfl (by omega) (ezu_at rfl) rfl rfl rfl rfl (ezs_m81_9_1_v2_v2 hI (by omega) hzA hzT) ?_
  rintro _ _ ⟨⟨F, A, rfl, hI⟩, rfl⟩
  refine ezw_iconst (0) rfl rfl ?_
  refine ezw_istore rfl rfl ?_
  have L24_1 : ∀ c1 : Int, ezw_in c1 → (0) ≤ c1 → ∀ F A, ezs_I fz F0 A0 F A → ezw_E l ρ B xa Hb D cA d ezq_re81 (ezs_P e fz F0 A0 ezs_rn) 24 [some (ezw_p 9), some (ezw_p 1), some (ezw_i (1)), some (ezw_i (2)), some (ezw_i c1), none] [] (ezu_g e F A) := by
    refine ezs_up ?_
    intro c1 hc1 ihc1 gc1 F A hI
    refine ezw_iload rfl rfl ?_
    refine ezw_sipush (1000) rfl rfl ?_
    refine ezw_icmp_ge rfl rfl hc1 ⟨by decide, by decide⟩ (fun h29_2 => ?_) (fun h29_2 => ?_)
    · exact ezw_return rfl rfl ⟨⟨F, A, rfl, hI⟩, rfl⟩
    · refine ezw_aload_n rfl rfl ?_
      refine ezw_call0_0 rfl (by omega) (ezu_at rfl) rfl rfl rfl rfl (ezs_m45_1 hI (by omega)) ?_
      rintro _ _ ⟨rfl, u3, hu3, rfl⟩
      refine ezw_if_eq rfl rfl ⟨by omega, by omega⟩ (fun h36_3 => ?_) (fun h36_3 => ?_)
      · exact ezw_return rfl rfl ⟨⟨F, A, rfl, hI⟩, rfl⟩
      · refine ezw_aload_n rfl rfl ?_
        refine ezs_get_i hI rfl rfl rfl rfl rfl rfl (fun u4 hu4 ku4 => ?_)
        refine ezw_iload_n rfl rfl ?_
        refine ezw_call2_2 rfl (by omega) rfl rfl (ezs_m84 hI (by omega) hu4 ⟨by decide, by decide⟩) ?_
        rintro _ _ ⟨rfl, u5, hu5, rfl⟩
        refine ezw_istore rfl rfl ?_
        refine ezw_iload rfl rfl ?_
        refine ezw_if_ne rfl rfl hu5 (fun h51_5 => ?_) (fun h51_5 => ?_)
        · refine ezw_aload_n rfl rfl ?_
          refine ezw_call0_0 rfl (by omega) (ezu_at rfl) rfl rfl rfl rfl (ezs_m30_1 hI (by omega) hzT) ?_
          rintro _ _ ⟨⟨F, A, rfl, hI⟩, rfl⟩
          refine ezw_aload_n rfl rfl ?_
          refine ezw_aload_n rfl rfl ?_
          refine ezw_iload_n rfl rfl ?_
          refine ezw_iconst (1) rfl rfl ?_
          refine ezw_iadd (k := (2)) rfl rfl ?_
          refine ezw_iload_n rfl rfl ?_
          refine ezw_call0_3 rfl (by omega) (ezu_at rfl) rfl rfl rfl rfl (ezs_m81_9_1_v2_v2 hI (by omega) hzA hzT) ?_
          rintro _ _ ⟨⟨F, A, rfl, hI⟩, rfl⟩
          refine ezw_aload_n rfl rfl ?_
          refine ezw_iload rfl rfl ?_
          refine ezw_call0_1 rfl (by omega) (ezu_at rfl) rfl rfl rfl rfl (ezs_m83_9 hI (by omega) hzA hu5) ?_
          rintro _ _ ⟨⟨F, A, rfl, hI⟩, rfl⟩
          refine ezw_iload_n rfl rfl ?_
          refine ezw_iconst (1) rfl rfl ?_
          refine ezw_icmp_ne rfl rfl ⟨by decide, by decide⟩ ⟨by decide, by decide⟩ (fun h76_5 => absurd h76_5 (by omega)) (fun h76_5 => ?_)
          exact ezw_return rfl rfl ⟨⟨F, A, rfl, hI⟩, rfl⟩
        · exact ezw_return rfl rfl ⟨⟨F, A, rfl, hI⟩, rfl⟩
  exact ezw_keepE [true, true, true, true, true, false] (L24_1 (0) ⟨by decide, by decide⟩ (by omega)  F A hI)
theorem ezs_m81_9_1_v0_v2 {F : Nat → Nat → Int} {A : Nat → Int → Int} (hI : ezs_I fz F0 A0 F A) (hd : 26 ≤ d) (hzA : ∀ q, 4 ≤ q → q < 72 → fz q = false) (hzT : fz 1 = false) : ezw_C l ρ B xa Hb D cA 81 d [ezw_p 9, ezw_p 1, ezw_i (0), ezw_i (2)] (ezu_g e F A) (ezs_P e fz F0 A0 ezs_rn) := by
  refine ezw_met (k := 2) rfl rfl ?_
  refine ezw_iload_n rfl rfl ?_
  refine ezw_iconst (4) rfl rfl ?_
  refine ezw_icmp_lt rfl rfl ⟨by decide, by decide⟩ ⟨by decide, by decide⟩ (fun h2_0 => ?_) (fun h2_0 => absurd h2_0 (by omega))
  refine ezw_aload_n rfl rfl ?_
  refine ezw_aload_n rfl rfl ?_
  refine ezw_iload_n rfl rfl ?_
  refine ezw_iconst (1) rfl rfl ?_
  refine ezw_iadd (k := (1)) rfl rfl ?_
  refine ezw_iload_n rfl rfl ?_
  refine ezw_call0_3 rfl (by omega) (ezu_at rfl) rfl rfl rfl rfl (ezs_m81_9_1_v1_v2 hI (by omega) hzA hzT) ?_
  rintro _ _ ⟨⟨F, A, rfl, hI⟩, rfl⟩
  refine ezw_iconst (0) rfl rfl ?_
  refine ezw_istore rfl rfl ?_
  have L24_1 : ∀ c1 : Int, ezw_in c1 → (0) ≤ c1 → ∀ F A, ezs_I fz F0 A0 F A → ezw_E l ρ B xa Hb D cA d ezq_re81 (ezs_P e fz F0 A0 ezs_rn) 24 [some (ezw_p 9), some (ezw_p 1), some (ezw_i (0)), some (ezw_i (2)), some (ezw_i c1), none] [] (ezu_g e F A) := by
    refine ezs_up ?_
    intro c1 hc1 ihc1 gc1 F A hI
    refine ezw_iload rfl rfl ?_
    refine ezw_sipush (1000) rfl rfl ?_
    refine ezw_icmp_ge rfl rfl hc1 ⟨by decide, by decide⟩ (fun h29_2 => ?_) (fun h29_2 => ?_)
    · exact ezw_return rfl rfl ⟨⟨F, A, rfl, hI⟩, rfl⟩
    · refine ezw_aload_n rfl rfl ?_
      refine ezw_call0_0 rfl (by omega) (ezu_at rfl) rfl rfl rfl rfl (ezs_m45_1 hI (by omega)) ?_
      rintro _ _ ⟨rfl, u3, hu3, rfl⟩
      refine ezw_if_eq rfl rfl ⟨by omega, by omega⟩ (fun h36_3 => ?_) (fun h36_3 => ?_)
      · exact ezw_return rfl rfl ⟨⟨F, A, rfl, hI⟩, rfl⟩
      · refine ezw_aload_n rfl rfl ?_
        refine ezs_get_i hI rfl rfl rfl rfl rfl rfl (fun u4 hu4 ku4 => ?_)
        refine ezw_iload_n rfl rfl ?_
        refine ezw_call2_2 rfl (by omega) rfl rfl (ezs_m84 hI (by omega) hu4 ⟨by decide, by decide⟩) ?_
        rintro _ _ ⟨rfl, u5, hu5, rfl⟩
        refine ezw_istore rfl rfl ?_
        refine ezw_iload rfl rfl ?_
        refine ezw_if_ne rfl rfl hu5 (fun h51_5 => ?_) (fun h51_5 => ?_)
        · refine ezw_aload_n rfl rfl ?_
          refine ezw_call0_0 rfl (by omega) (ezu_at rfl) rfl rfl rfl rfl (ezs_m30_1 hI (by omega) hzT) ?_
          rintro _ _ ⟨⟨F, A, rfl, hI⟩, rfl⟩
          refine ezw_aload_n rfl rfl ?_
          refine ezw_aload_n rfl rfl ?_
          refine ezw_iload_n rfl rfl ?_
          refine ezw_iconst (1) rfl rfl ?_
          refine ezw_iadd (k := (1)) rfl rfl ?_
          refine ezw_iload_n rfl rfl ?_
          refine ezw_call0_3 rfl (by omega) (ezu_at rfl) rfl rfl rfl rfl (ezs_m81_9_1_v1_v2 hI (by omega) hzA hzT) ?_
          rintro _ _ ⟨⟨F, A, rfl, hI⟩, rfl⟩
          refine ezw_aload_n rfl rfl ?_
          refine ezw_iload rfl rfl ?_
          refine ezw_call0_1 rfl (by omega) (ezu_at rfl) rfl rfl rfl rfl (ezs_m83_9 hI (by omega) hzA hu5) ?_
          rintro _ _ ⟨⟨F, A, rfl, hI⟩, rfl⟩
          refine ezw_iload_n rfl rfl ?_
          refine ezw_iconst (1) rfl rfl ?_
          refine ezw_icmp_ne rfl rfl ⟨by decide, by decide⟩ ⟨by decide, by decide⟩ (fun h76_5 => ?_) (fun h76_5 => absurd h76_5 (by omega))
          refine ezw_iinc (1) rfl rfl rfl rfl rfl ?_
          refine ezw_goto rfl rfl ?_
          exact ezw_keepE [true, true, true, true, true, false] (ihc1 (c1 + (1)) (by omega) ⟨by omega, by omega⟩ (by omega)  F A hI)
        · exact ezw_return rfl rfl ⟨⟨F, A, rfl, hI⟩, rfl⟩
  exact ezw_keepE [true, true, true, true, true, false] (L24_1 (0) ⟨by decide, by decide⟩ (by omega)  F A hI)
theorem ezs_m82_9_1_v1 {F : Nat → Nat → Int} {A : Nat → Int → Int} (hI : ezs_I fz F0 A0 F A) (hd : 27 ≤ d) (hzA : ∀ q, 4 ≤ q → q < 72 → fz q = false) (hzT : fz 1 = false) : ezw_C l ρ B xa Hb D cA 82 d [ezw_p 9, ezw_p 1, ezw_i (1)] (ezu_g e F A) (ezs_P e fz F0 A0 ezs_rn) := by
  refine ezw_met (k := 2) rfl rfl ?_
  refine ezw_aload_n rfl rfl ?_
  refine ezw_bipush (100) rfl rfl ?_
  refine ezw_call0_1 rfl (by omega) (ezu_at rfl) rfl rfl rfl rfl (ezs_m46_1 hI (by omega) ⟨by decide, by decide⟩) ?_
  rintro _ _ ⟨rfl, u1, hu1, rfl⟩
  have J21_2 : ∀ y2 : Int, ezs_b y2 → ∀ F A, ezs_I fz F0 A0 F A → ezw_E l ρ B xa Hb D cA d ezq_re82 (ezs_P e fz F0 A0 ezs_rn) 21 [some (ezw_p 9), some (ezw_p 1), some (ezw_i (1)), none, none] [(ezw_i y2)] (ezu_g e F A) := by
    intro y2 hy2 F A hI
    refine ezw_istore_n rfl rfl ?_
    refine ezw_iload_n rfl rfl ?_
    have J59_4 : ∀ y4 : Int, ezs_b y4 → ∀ F A, ezs_I fz F0 A0 F A → ezw_E l ρ B xa Hb D cA d ezq_re82 (ezs_P e fz F0 A0 ezs_rn) 59 [some (ezw_p 9), some (ezw_p 1), some (ezw_i (1)), some (ezw_i y2), none] [(ezw_i y4)] (ezu_g e F A) := by
      intro y4 hy4 F A hI
      refine ezw_istore rfl rfl ?_
      refine ezw_iload rfl rfl ?_
      refine ezw_if_eq rfl rfl ⟨by omega, by omega⟩ (fun h63_5 => ?_) (fun h63_5 => ?_)
      · refine ezw_aload_n rfl rfl ?_
        refine ezw_iload rfl rfl ?_
        refine ezw_if_eq rfl rfl ⟨by omega, by omega⟩ (fun h74_5 => ?_) (fun h74_5 => ?_)
        · refine ezw_iconst (1) rfl rfl ?_
          refine ezw_call0_1 rfl (by omega) (ezu_at rfl) rfl rfl rfl rfl (ezs_m50_1 hI (by omega) hzT ⟨by decide, by decide⟩) ?_
          rintro _ _ ⟨⟨F, A, rfl, hI⟩, rfl⟩
          refine ezw_goto rfl rfl ?_
          exact ezw_return rfl rfl ⟨⟨F, A, rfl, hI⟩, rfl⟩
        · refine ezw_iconst (5) rfl rfl ?_
          refine ezw_goto rfl rfl ?_
          refine ezw_call0_1 rfl (by omega) (ezu_at rfl) rfl rfl rfl rfl (ezs_m50_1 hI (by omega) hzT ⟨by decide, by decide⟩) ?_
          rintro _ _ ⟨⟨F, A, rfl, hI⟩, rfl⟩
          refine ezw_goto rfl rfl ?_
          exact ezw_return rfl rfl ⟨⟨F, A, rfl, hI⟩, rfl⟩
      · refine ezw_iload_n rfl rfl ?_
        refine ezw_iconst (5) rfl rfl ?_
        refine ezw_icmp_lt rfl rfl ⟨by decide, by decide⟩ ⟨by decide, by decide⟩ (fun h68_5 => ?_) (fun h68_5 => absurd h68_5 (by omega))
        refine ezw_iload_n rfl rfl ?_
        refine ezw_if_eq rfl rfl ⟨by omega, by omega⟩ (fun h89_5 => ?_) (fun h89_5 => ?_)
        · refine ezw_aload_n rfl rfl ?_
          refine ezw_bipush (101) rfl rfl ?_
          refine ezw_call0_1 rfl (by omega) (ezu_at rfl) rfl rfl rfl rfl (ezs_m46_1 hI (by omega) ⟨by decide, by decide⟩) ?_
          rintro _ _ ⟨rfl, u6, hu6, rfl⟩
          refine ezw_if_eq rfl rfl ⟨by omega, by omega⟩ (fun h115_6 => ?_) (fun h115_6 => ?_)
          · refine ezw_aload_n rfl rfl ?_
            refine ezw_bipush (41) rfl rfl ?_
            refine ezw_call0_1 rfl (by omega) (ezu_at rfl) rfl rfl rfl rfl (ezs_m46_1 hI (by omega) ⟨by decide, by decide⟩) ?_
            rintro _ _ ⟨rfl, u7, hu7, rfl⟩
            refine ezw_if_eq rfl rfl ⟨by omega, by omega⟩ (fun h139_7 => ?_) (fun h139_7 => ?_)
            · refine ezw_aload_n rfl rfl ?_
              refine ezw_call0_0 rfl (by omega) (ezu_at rfl) rfl rfl rfl rfl (ezs_m30_1 hI (by omega) hzT) ?_
              rintro _ _ ⟨⟨F, A, rfl, hI⟩, rfl⟩
              refine ezw_aload_n rfl rfl ?_
              refine ezw_aload_n rfl rfl ?_
              refine ezw_iconst (0) rfl rfl ?_
              refine ezw_iload_n rfl rfl ?_
              refine ezw_iconst (1) rfl rfl ?_
              refine ezw_iadd (k := (2)) rfl rfl ?_
              refine ezw_call0_3 rfl (by omega) (ezu_at rfl) rfl rfl rfl rfl (ezs_m81_9_1_v0_v2 hI (by omega) hzA hzT) ?_
              rintro _ _ ⟨⟨F, A, rfl, hI⟩, rfl⟩
              refine ezw_aload_n rfl rfl ?_
              refine ezw_sipush (241) rfl rfl ?_
              refine ezw_call0_1 rfl (by omega) (ezu_at rfl) rfl rfl rfl rfl (ezs_m46_1 hI (by omega) ⟨by decide, by decide⟩) ?_
              rintro _ _ ⟨rfl, u8, hu8, rfl⟩
              refine ezw_if_eq rfl rfl ⟨by omega, by omega⟩ (fun h183_8 => ?_) (fun h183_8 => ?_)
              · refine ezw_aload_n rfl rfl ?_
                refine ezw_iconst (1) rfl rfl ?_
                refine ezw_call0_1 rfl (by omega) (ezu_at rfl) rfl rfl rfl rfl (ezs_m50_1 hI (by omega) hzT ⟨by decide, by decide⟩) ?_
                rintro _ _ ⟨⟨F, A, rfl, hI⟩, rfl⟩
                exact ezw_return rfl rfl ⟨⟨F, A, rfl, hI⟩, rfl⟩
              · refine ezw_aload_n rfl rfl ?_
                refine ezw_call0_0 rfl (by omega) (ezu_at rfl) rfl rfl rfl rfl (ezs_m30_1 hI (by omega) hzT) ?_
                rintro _ _ ⟨⟨F, A, rfl, hI⟩, rfl⟩
                refine ezw_goto rfl rfl ?_
                exact ezw_return rfl rfl ⟨⟨F, A, rfl, hI⟩, rfl⟩
            · refine ezw_aload_n rfl rfl ?_
              refine ezw_call0_0 rfl (by omega) (ezu_at rfl) rfl rfl rfl rfl (ezs_m30_1 hI (by omega) hzT) ?_
              rintro _ _ ⟨⟨F, A, rfl, hI⟩, rfl⟩
              refine ezw_aload_n rfl rfl ?_
              refine ezw_aload_n rfl rfl ?_
              refine ezw_iload_n rfl rfl ?_
              refine ezw_iconst (1) rfl rfl ?_
              refine ezw_iadd (k := (2)) rfl rfl ?_
              refine ezw_call0_2 rfl (by omega) (ezu_at rfl) rfl rfl rfl rfl (ezs_m82_9_1_v2 hI (by omega) hzA hzT) ?_
              rintro _ _ ⟨⟨F, A, rfl, hI⟩, rfl⟩
              refine ezw_aload_n rfl rfl ?_
              refine ezw_bipush (-5) rfl rfl ?_
              refine ezw_call0_1 rfl (by omega) (ezu_at rfl) rfl rfl rfl rfl (ezs_m83_9 hI (by omega) hzA ⟨by decide, by decide⟩) ?_
              rintro _ _ ⟨⟨F, A, rfl, hI⟩, rfl⟩
              refine ezw_goto rfl rfl ?_
              exact ezw_return rfl rfl ⟨⟨F, A, rfl, hI⟩, rfl⟩
          · refine ezw_aload_n rfl rfl ?_
            refine ezw_aload_n rfl rfl ?_
            refine ezs_get_i hI rfl rfl rfl rfl rfl rfl (fun u9 hu9 ku9 => ?_)
            refine ezw_call0_1 rfl (by omega) (ezu_at rfl) rfl rfl rfl rfl (ezs_m83_9 hI (by omega) hzA hu9) ?_
            rintro _ _ ⟨⟨F, A, rfl, hI⟩, rfl⟩
            refine ezw_aload_n rfl rfl ?_
            refine ezw_call0_0 rfl (by omega) (ezu_at rfl) rfl rfl rfl rfl (ezs_m30_1 hI (by omega) hzT) ?_
            rintro _ _ ⟨⟨F, A, rfl, hI⟩, rfl⟩
            refine ezw_goto rfl rfl ?_
            exact ezw_return rfl rfl ⟨⟨F, A, rfl, hI⟩, rfl⟩
        · refine ezw_aload_n rfl rfl ?_
          refine ezw_iconst (-1) rfl rfl ?_
          refine ezw_aload_n rfl rfl ?_
          refine ezs_get_i hI rfl rfl rfl rfl rfl rfl (fun u10 hu10 ku10 => ?_)
          refine ezs_isub rfl (fun u11 hu11 => ?_)
          refine ezw_call0_1 rfl (by omega) (ezu_at rfl) rfl rfl rfl rfl (ezs_m83_9 hI (by omega) hzA hu11) ?_
          rintro _ _ ⟨⟨F, A, rfl, hI⟩, rfl⟩
          refine ezw_aload_n rfl rfl ?_
          refine ezw_call0_0 rfl (by omega) (ezu_at rfl) rfl rfl rfl rfl (ezs_m30_1 hI (by omega) hzT) ?_
          rintro _ _ ⟨⟨F, A, rfl, hI⟩, rfl⟩
          refine ezw_goto rfl rfl ?_
          exact ezw_return rfl rfl ⟨⟨F, A, rfl, hI⟩, rfl⟩
    refine ezw_if_ne rfl rfl ⟨by omega, by omega⟩ (fun h23_3 => ?_) (fun h23_3 => ?_)
    · refine ezw_iconst (1) rfl rfl ?_
      refine ezw_goto rfl rfl ?_
      exact ezw_keepE [true, true, true, true, false] (J59_4 (1) ⟨by omega, by omega⟩ F A hI)
    · refine ezw_aload_n rfl rfl ?_
      refine ezw_bipush (101) rfl rfl ?_
      refine ezw_call0_1 rfl (by omega) (ezu_at rfl) rfl rfl rfl rfl (ezs_m46_1 hI (by omega) ⟨by decide, by decide⟩) ?_
      rintro _ _ ⟨rfl, u12, hu12, rfl⟩
      refine ezw_if_ne rfl rfl ⟨by omega, by omega⟩ (fun h32_12 => ?_) (fun h32_12 => ?_)
      · refine ezw_iconst (1) rfl rfl ?_
        refine ezw_goto rfl rfl ?_
        exact ezw_keepE [true, true, true, true, false] (J59_4 (1) ⟨by omega, by omega⟩ F A hI)
      · refine ezw_aload_n rfl rfl ?_
        refine ezw_bipush (41) rfl rfl ?_
        refine ezw_call0_1 rfl (by omega) (ezu_at rfl) rfl rfl rfl rfl (ezs_m46_1 hI (by omega) ⟨by decide, by decide⟩) ?_
        rintro _ _ ⟨rfl, u13, hu13, rfl⟩
        refine ezw_if_ne rfl rfl ⟨by omega, by omega⟩ (fun h41_13 => ?_) (fun h41_13 => ?_)
        · refine ezw_iconst (1) rfl rfl ?_
          refine ezw_goto rfl rfl ?_
          exact ezw_keepE [true, true, true, true, false] (J59_4 (1) ⟨by omega, by omega⟩ F A hI)
        · refine ezw_aload_n rfl rfl ?_
          refine ezw_sipush (240) rfl rfl ?_
          refine ezw_call0_1 rfl (by omega) (ezu_at rfl) rfl rfl rfl rfl (ezs_m46_1 hI (by omega) ⟨by decide, by decide⟩) ?_
          rintro _ _ ⟨rfl, u14, hu14, rfl⟩
          refine ezw_if_eq rfl rfl ⟨by omega, by omega⟩ (fun h51_14 => ?_) (fun h51_14 => ?_)
          · refine ezw_iconst (0) rfl rfl ?_
            exact ezw_keepE [true, true, true, true, false] (J59_4 (0) ⟨by omega, by omega⟩ F A hI)
          · refine ezw_iconst (1) rfl rfl ?_
            refine ezw_goto rfl rfl ?_
            exact ezw_keepE [true, true, true, true, false] (J59_4 (1) ⟨by omega, by omega⟩ F A hI)
  refine ezw_if_eq rfl rfl ⟨by omega, by omega⟩ (fun h6_1 => ?_) (fun h6_1 => ?_)
  · refine ezw_iconst (0) rfl rfl ?_
    exact ezw_keepE [true, true, true, false, false] (J21_2 (0) ⟨by omega, by omega⟩ F A hI)
  · refine ezw_aload_n rfl rfl ?_
    refine ezs_get_i hI rfl rfl rfl rfl rfl rfl (fun u15 hu15 ku15 => ?_)
    refine ezw_if_lt rfl rfl hu15 (fun h13_15 => ?_) (fun h13_15 => ?_)
    · refine ezw_iconst (0) rfl rfl ?_
      exact ezw_keepE [true, true, true, false, false] (J21_2 (0) ⟨by omega, by omega⟩ F A hI)
    · refine ezw_iconst (1) rfl rfl ?_
      refine ezw_goto rfl rfl ?_
      exact ezw_keepE [true, true, true, false, false] (J21_2 (1) ⟨by omega, by omega⟩ F A hI)
theorem ezs_m81_9_1_v4_v1 {F : Nat → Nat → Int} {A : Nat → Int → Int} (hI : ezs_I fz F0 A0 F A) (hd : 28 ≤ d) (hzA : ∀ q, 4 ≤ q → q < 72 → fz q = false) (hzT : fz 1 = false) : ezw_C l ρ B xa Hb D cA 81 d [ezw_p 9, ezw_p 1, ezw_i (4), ezw_i (1)] (ezu_g e F A) (ezs_P e fz F0 A0 ezs_rn) := by
  refine ezw_met (k := 2) rfl rfl ?_
  refine ezw_iload_n rfl rfl ?_
  refine ezw_iconst (4) rfl rfl ?_
  refine ezw_icmp_lt rfl rfl ⟨by decide, by decide⟩ ⟨by decide, by decide⟩ (fun h2_0 => absurd h2_0 (by omega)) (fun h2_0 => ?_)
  refine ezw_aload_n rfl rfl ?_
  refine ezw_aload_n rfl rfl ?_
  refine ezw_iload_n rfl rfl ?_
  refine ezw_call0_2 rfl (by omega) (ezu_at rfl) rfl rfl rfl rfl (ezs_m82_9_1_v1 hI (by omega) hzA hzT) ?_
  rintro _ _ ⟨⟨F, A, rfl, hI⟩, rfl⟩
  exact ezw_return rfl rfl ⟨⟨F, A, rfl, hI⟩, rfl⟩
theorem ezs_m81_9_1_v3_v1 {F : Nat → Nat → Int} {A : Nat → Int → Int} (hI : ezs_I fz F0 A0 F A) (hd : 29 ≤ d) (hzA : ∀ q, 4 ≤ q → q < 72 → fz q = false) (hzT : fz 1 = false) : ezw_C l ρ B xa Hb D cA 81 d [ezw_p 9, ezw_p 1, ezw_i (3), ezw_i (1)] (ezu_g e F A) (ezs_P e fz F0 A0 ezs_rn) := by
  refine ezw_met (k := 2) rfl rfl ?_
  refine ezw_iload_n rfl rfl ?_
  refine ezw_iconst (4) rfl rfl ?_
  refine ezw_icmp_lt rfl rfl ⟨by decide, by decide⟩ ⟨by decide, by decide⟩ (fun h2_0 => ?_) (fun h2_0 => absurd h2_0 (by omega))
  refine ezw_aload_n rfl rfl ?_
  refine ezw_aload_n rfl rfl ?_
  refine ezw_iload_n rfl rfl ?_
  refine ezw_iconst (1) rfl rfl ?_
  refine ezw_iadd (k := (4)) rfl rfl ?_
  refine ezw_iload_n rfl rfl ?_
  refine ezw_call0_3 rfl (by omega) (ezu_at rfl) rfl rfl rfl rfl (ezs_m81_9_1_v4_v1 hI (by omega) hzA hzT) ?_
  rintro _ _ ⟨⟨F, A, rfl, hI⟩, rfl⟩
  refine ezw_iconst (0) rfl rfl ?_
  refine ezw_istore rfl rfl ?_
  have L24_1 : ∀ c1 : Int, ezw_in c1 → (0) ≤ c1 → ∀ F A, ezs_I fz F0 A0 F A → ezw_E l ρ B xa Hb D cA d ezq_re81 (ezs_P e fz F0 A0 ezs_rn) 24 [some (ezw_p 9), some (ezw_p 1), some (ezw_i (3)), some (ezw_i (1)), some (ezw_i c1), none] [] (ezu_g e F A) := by
    refine ezs_up ?_
    intro c1 hc1 ihc1 gc1 F A hI
    refine ezw_iload rfl rfl ?_
    refine ezw_sipush (1000) rfl rfl ?_
    refine ezw_icmp_ge rfl rfl hc1 ⟨by decide, by decide⟩ (fun h29_2 => ?_) (fun h29_2 => ?_)
    · exact ezw_return rfl rfl ⟨⟨F, A, rfl, hI⟩, rfl⟩
    · refine ezw_aload_n rfl rfl ?_
      refine ezw_call0_0 rfl (by omega) (ezu_at rfl) rfl rfl rfl rfl (ezs_m45_1 hI (by omega)) ?_
      rintro _ _ ⟨rfl, u3, hu3, rfl⟩
      refine ezw_if_eq rfl rfl ⟨by omega, by omega⟩ (fun h36_3 => ?_) (fun h36_3 => ?_)
      · exact ezw_return rfl rfl ⟨⟨F, A, rfl, hI⟩, rfl⟩
      · refine ezw_aload_n rfl rfl ?_
        refine ezs_get_i hI rfl rfl rfl rfl rfl rfl (fun u4 hu4 ku4 => ?_)
        refine ezw_iload_n rfl rfl ?_
        refine ezw_call2_2 rfl (by omega) rfl rfl (ezs_m84 hI (by omega) hu4 ⟨by decide, by decide⟩) ?_
        rintro _ _ ⟨rfl, u5, hu5, rfl⟩
        refine ezw_istore rfl rfl ?_
        refine ezw_iload rfl rfl ?_
        refine ezw_if_ne rfl rfl hu5 (fun h51_5 => ?_) (fun h51_5 => ?_)
        · refine ezw_aload_n rfl rfl ?_
          refine ezw_call0_0 rfl (by omega) (ezu_at rfl) rfl rfl rfl rfl (ezs_m30_1 hI (by omega) hzT) ?_
          rintro _ _ ⟨⟨F, A, rfl, hI⟩, rfl⟩
          refine ezw_aload_n rfl rfl ?_
          refine ezw_aload_n rfl rfl ?_
          refine ezw_iload_n rfl rfl ?_
          refine ezw_iconst (1) rfl rfl ?_
          refine ezw_iadd (k := (4)) rfl rfl ?_
          refine ezw_iload_n rfl rfl ?_
          refine ezw_call0_3 rfl (by omega) (ezu_at rfl) rfl rfl rfl rfl (ezs_m81_9_1_v4_v1 hI (by omega) hzA hzT) ?_
          rintro _ _ ⟨⟨F, A, rfl, hI⟩, rfl⟩
          refine ezw_aload_n rfl rfl ?_
          refine ezw_iload rfl rfl ?_
          refine ezw_call0_1 rfl (by omega) (ezu_at rfl) rfl rfl rfl rfl (ezs_m83_9 hI (by omega) hzA hu5) ?_
          rintro _ _ ⟨⟨F, A, rfl, hI⟩, rfl⟩
          refine ezw_iload_n rfl rfl ?_
          refine ezw_iconst (1) rfl rfl ?_
          refine ezw_icmp_ne rfl rfl ⟨by decide, by decide⟩ ⟨by decide, by decide⟩ (fun h76_5 => ?_) (fun h76_5 => absurd h76_5 (by omega))
          refine ezw_iinc (1) rfl rfl rfl rfl rfl ?_
          refine ezw_goto rfl rfl ?_
          exact ezw_keepE [true, true, true, true, true, false] (ihc1 (c1 + (1)) (by omega) ⟨by omega, by omega⟩ (by omega)  F A hI)
        · exact ezw_return rfl rfl ⟨⟨F, A, rfl, hI⟩, rfl⟩
  exact ezw_keepE [true, true, true, true, true, false] (L24_1 (0) ⟨by decide, by decide⟩ (by omega)  F A hI)
theorem ezs_m81_9_1_v2_v1 {F : Nat → Nat → Int} {A : Nat → Int → Int} (hI : ezs_I fz F0 A0 F A) (hd : 30 ≤ d) (hzA : ∀ q, 4 ≤ q → q < 72 → fz q = false) (hzT : fz 1 = false) : ezw_C l ρ B xa Hb D cA 81 d [ezw_p 9, ezw_p 1, ezw_i (2), ezw_i (1)] (ezu_g e F A) (ezs_P e fz F0 A0 ezs_rn) := by
  refine ezw_met (k := 2) rfl rfl ?_
  refine ezw_iload_n rfl rfl ?_
  refine ezw_iconst (4) rfl rfl ?_
  refine ezw_icmp_lt rfl rfl ⟨by decide, by decide⟩ ⟨by decide, by decide⟩ (fun h2_0 => ?_) (fun h2_0 => absurd h2_0 (by omega))
  refine ezw_aload_n rfl rfl ?_
  refine ezw_aload_n rfl rfl ?_
  refine ezw_iload_n rfl rfl ?_
  refine ezw_iconst (1) rfl rfl ?_
  refine ezw_iadd (k := (3)) rfl rfl ?_
  refine ezw_iload_n rfl rfl ?_
  refine ezw_call0_3 rfl (by omega) (ezu_at rfl) rfl rfl rfl rfl (ezs_m81_9_1_v3_v1 hI (by omega) hzA hzT) ?_
  rintro _ _ ⟨⟨F, A, rfl, hI⟩, rfl⟩
  refine ezw_iconst (0) rfl rfl ?_
  refine ezw_istore rfl rfl ?_
  have L24_1 : ∀ c1 : Int, ezw_in c1 → (0) ≤ c1 → ∀ F A, ezs_I fz F0 A0 F A → ezw_E l ρ B xa Hb D cA d ezq_re81 (ezs_P e fz F0 A0 ezs_rn) 24 [some (ezw_p 9), some (ezw_p 1), some (ezw_i (2)), some (ezw_i (1)), some (ezw_i c1), none] [] (ezu_g e F A) := by
    refine ezs_up ?_
    intro c1 hc1 ihc1 gc1 F A hI
    refine ezw_iload rfl rfl ?_
    refine ezw_sipush (1000) rfl rfl ?_
    refine ezw_icmp_ge rfl rfl hc1 ⟨by decide, by decide⟩ (fun h29_2 => ?_) (fun h29_2 => ?_)
    · exact ezw_return rfl rfl ⟨⟨F, A, rfl, hI⟩, rfl⟩
    · refine ezw_aload_n rfl rfl ?_
      refine ezw_call0_0 rfl (by omega) (ezu_at rfl) rfl rfl rfl rfl (ezs_m45_1 hI (by omega)) ?_
      rintro _ _ ⟨rfl, u3, hu3, rfl⟩
      refine ezw_if_eq rfl rfl ⟨by omega, by omega⟩ (fun h36_3 => ?_) (fun h36_3 => ?_)
      · exact ezw_return rfl rfl ⟨⟨F, A, rfl, hI⟩, rfl⟩
      · refine ezw_aload_n rfl rfl ?_
        refine ezs_get_i hI rfl rfl rfl rfl rfl rfl (fun u4 hu4 ku4 => ?_)
        refine ezw_iload_n rfl rfl ?_
        refine ezw_call2_2 rfl (by omega) rfl rfl (ezs_m84 hI (by omega) hu4 ⟨by decide, by decide⟩) ?_
        rintro _ _ ⟨rfl, u5, hu5, rfl⟩
        refine ezw_istore rfl rfl ?_
        refine ezw_iload rfl rfl ?_
        refine ezw_if_ne rfl rfl hu5 (fun h51_5 => ?_) (fun h51_5 => ?_)
        · refine ezw_aload_n rfl rfl ?_
          refine ezw_call0_0 rfl (by omega) (ezu_at rfl) rfl rfl rfl rfl (ezs_m30_1 hI (by omega) hzT) ?_
          rintro _ _ ⟨⟨F, A, rfl, hI⟩, rfl⟩
          refine ezw_aload_n rfl rfl ?_
          refine ezw_aload_n rfl rfl ?_
          refine ezw_iload_n rfl rfl ?_
          refine ezw_iconst (1) rfl rfl ?_
          refine ezw_iadd (k := (3)) rfl rfl ?_
          refine ezw_iload_n rfl rfl ?_
          refine ezw_call0_3 rfl (by omega) (ezu_at rfl) rfl rfl rfl rfl (ezs_m81_9_1_v3_v1 hI (by omega) hzA hzT) ?_
          rintro _ _ ⟨⟨F, A, rfl, hI⟩, rfl⟩
          refine ezw_aload_n rfl rfl ?_
          refine ezw_iload rfl rfl ?_
          refine ezw_call0_1 rfl (by omega) (ezu_at rfl) rfl rfl rfl rfl (ezs_m83_9 hI (by omega) hzA hu5) ?_
          rintro _ _ ⟨⟨F, A, rfl, hI⟩, rfl⟩
          refine ezw_iload_n rfl rfl ?_
          refine ezw_iconst (1) rfl rfl ?_
          refine ezw_icmp_ne rfl rfl ⟨by decide, by decide⟩ ⟨by decide, by decide⟩ (fun h76_5 => ?_) (fun h76_5 => absurd h76_5 (by omega))
          refine ezw_iinc (1) rfl rfl rfl rfl rfl ?_
          refine ezw_goto rfl rfl ?_
          exact ezw_keepE [true, true, true, true, true, false] (ihc1 (c1 + (1)) (by omega) ⟨by omega, by omega⟩ (by omega)  F A hI)
        · exact ezw_return rfl rfl ⟨⟨F, A, rfl, hI⟩, rfl⟩
  exact ezw_keepE [true, true, true, true, true, false] (L24_1 (0) ⟨by decide, by decide⟩ (by omega)  F A hI)
theorem ezs_m81_9_1_v1_v1 {F : Nat → Nat → Int} {A : Nat → Int → Int} (hI : ezs_I fz F0 A0 F A) (hd : 31 ≤ d) (hzA : ∀ q, 4 ≤ q → q < 72 → fz q = false) (hzT : fz 1 = false) : ezw_C l ρ B xa Hb D cA 81 d [ezw_p 9, ezw_p 1, ezw_i (1), ezw_i (1)] (ezu_g e F A) (ezs_P e fz F0 A0 ezs_rn) := by
  refine ezw_met (k := 2) rfl rfl ?_
  refine ezw_iload_n rfl rfl ?_
  refine ezw_iconst (4) rfl rfl ?_
  refine ezw_icmp_lt rfl rfl ⟨by decide, by decide⟩ ⟨by decide, by decide⟩ (fun h2_0 => ?_) (fun h2_0 => absurd h2_0 (by omega))
  refine ezw_aload_n rfl rfl ?_
  refine ezw_aload_n rfl rfl ?_
  refine ezw_iload_n rfl rfl ?_
  refine ezw_iconst (1) rfl rfl ?_
  refine ezw_iadd (k := (2)) rfl rfl ?_
  refine ezw_iload_n rfl rfl ?_
  refine ezw_call0_3 rfl (by omega) (ezu_at rfl) rfl rfl rfl rfl (ezs_m81_9_1_v2_v1 hI (by omega) hzA hzT) ?_
  rintro _ _ ⟨⟨F, A, rfl, hI⟩, rfl⟩
  refine ezw_iconst (0) rfl rfl ?_
  refine ezw_istore rfl rfl ?_
  have L24_1 : ∀ c1 : Int, ezw_in c1 → (0) ≤ c1 → ∀ F A, ezs_I fz F0 A0 F A → ezw_E l ρ B xa Hb D cA d ezq_re81 (ezs_P e fz F0 A0 ezs_rn) 24 [some (ezw_p 9), some (ezw_p 1), some (ezw_i (1)), some (ezw_i (1)), some (ezw_i c1), none] [] (ezu_g e F A) := by
    refine ezs_up ?_
    intro c1 hc1 ihc1 gc1 F A hI
    refine ezw_iload rfl rfl ?_
    refine ezw_sipush (1000) rfl rfl ?_
    refine ezw_icmp_ge rfl rfl hc1 ⟨by decide, by decide⟩ (fun h29_2 => ?_) (fun h29_2 => ?_)
    · exact ezw_return rfl rfl ⟨⟨F, A, rfl, hI⟩, rfl⟩
    · refine ezw_aload_n rfl rfl ?_
      refine ezw_call0_0 rfl (by omega) (ezu_at rfl) rfl rfl rfl rfl (ezs_m45_1 hI (by omega)) ?_
      rintro _ _ ⟨rfl, u3, hu3, rfl⟩
      refine ezw_if_eq rfl rfl ⟨by omega, by omega⟩ (fun h36_3 => ?_) (fun h36_3 => ?_)
      · exact ezw_return rfl rfl ⟨⟨F, A, rfl, hI⟩, rfl⟩
      · refine ezw_aload_n rfl rfl ?_
        refine ezs_get_i hI rfl rfl rfl rfl rfl rfl (fun u4 hu4 ku4 => ?_)
        refine ezw_iload_n rfl rfl ?_
        refine ezw_call2_2 rfl (by omega) rfl rfl (ezs_m84 hI (by omega) hu4 ⟨by decide, by decide⟩) ?_
        rintro _ _ ⟨rfl, u5, hu5, rfl⟩
        refine ezw_istore rfl rfl ?_
        refine ezw_iload rfl rfl ?_
        refine ezw_if_ne rfl rfl hu5 (fun h51_5 => ?_) (fun h51_5 => ?_)
        · refine ezw_aload_n rfl rfl ?_
          refine ezw_call0_0 rfl (by omega) (ezu_at rfl) rfl rfl rfl rfl (ezs_m30_1 hI (by omega) hzT) ?_
          rintro _ _ ⟨⟨F, A, rfl, hI⟩, rfl⟩
          refine ezw_aload_n rfl rfl ?_
          refine ezw_aload_n rfl rfl ?_
          refine ezw_iload_n rfl rfl ?_
          refine ezw_iconst (1) rfl rfl ?_
          refine ezw_iadd (k := (2)) rfl rfl ?_
          refine ezw_iload_n rfl rfl ?_
          refine ezw_call0_3 rfl (by omega) (ezu_at rfl) rfl rfl rfl rfl (ezs_m81_9_1_v2_v1 hI (by omega) hzA hzT) ?_
          rintro _ _ ⟨⟨F, A, rfl, hI⟩, rfl⟩
          refine ezw_aload_n rfl rfl ?_
          refine ezw_iload rfl rfl ?_
          refine ezw_call0_1 rfl (by omega) (ezu_at rfl) rfl rfl rfl rfl (ezs_m83_9 hI (by omega) hzA hu5) ?_
          rintro _ _ ⟨⟨F, A, rfl, hI⟩, rfl⟩
          refine ezw_iload_n rfl rfl ?_
          refine ezw_iconst (1) rfl rfl ?_
          refine ezw_icmp_ne rfl rfl ⟨by decide, by decide⟩ ⟨by decide, by decide⟩ (fun h76_5 => absurd h76_5 (by omega)) (fun h76_5 => ?_)
          exact ezw_return rfl rfl ⟨⟨F, A, rfl, hI⟩, rfl⟩
        · exact ezw_return rfl rfl ⟨⟨F, A, rfl, hI⟩, rfl⟩
  exact ezw_keepE [true, true, true, true, true, false] (L24_1 (0) ⟨by decide, by decide⟩ (by omega)  F A hI)
theorem ezs_m81_9_1_v0_v1 {F : Nat → Nat → Int} {A : Nat → Int → Int} (hI : ezs_I fz F0 A0 F A) (hd : 32 ≤ d) (hzA : ∀ q, 4 ≤ q → q < 72 → fz q = false) (hzT : fz 1 = false) : ezw_C l ρ B xa Hb D cA 81 d [ezw_p 9, ezw_p 1, ezw_i (0), ezw_i (1)] (ezu_g e F A) (ezs_P e fz F0 A0 ezs_rn) := by
  refine ezw_met (k := 2) rfl rfl ?_
  refine ezw_iload_n rfl rfl ?_
  refine ezw_iconst (4) rfl rfl ?_
  refine ezw_icmp_lt rfl rfl ⟨by decide, by decide⟩ ⟨by decide, by decide⟩ (fun h2_0 => ?_) (fun h2_0 => absurd h2_0 (by omega))
  refine ezw_aload_n rfl rfl ?_
  refine ezw_aload_n rfl rfl ?_
  refine ezw_iload_n rfl rfl ?_
  refine ezw_iconst (1) rfl rfl ?_
  refine ezw_iadd (k := (1)) rfl rfl ?_
  refine ezw_iload_n rfl rfl ?_
  refine ezw_call0_3 rfl (by omega) (ezu_at rfl) rfl rfl rfl rfl (ezs_m81_9_1_v1_v1 hI (by omega) hzA hzT) ?_
  rintro _ _ ⟨⟨F, A, rfl, hI⟩, rfl⟩
  refine ezw_iconst (0) rfl rfl ?_
  refine ezw_istore rfl rfl ?_
  have L24_1 : ∀ c1 : Int, ezw_in c1 → (0) ≤ c1 → ∀ F A, ezs_I fz F0 A0 F A → ezw_E l ρ B xa Hb D cA d ezq_re81 (ezs_P e fz F0 A0 ezs_rn) 24 [some (ezw_p 9), some (ezw_p 1), some (ezw_i (0)), some (ezw_i (1)), some (ezw_i c1), none] [] (ezu_g e F A) := by
    refine ezs_up ?_
    intro c1 hc1 ihc1 gc1 F A hI
    refine ezw_iload rfl rfl ?_
    refine ezw_sipush (1000) rfl rfl ?_
    refine ezw_icmp_ge rfl rfl hc1 ⟨by decide, by decide⟩ (fun h29_2 => ?_) (fun h29_2 => ?_)
    · exact ezw_return rfl rfl ⟨⟨F, A, rfl, hI⟩, rfl⟩
    · refine ezw_aload_n rfl rfl ?_
      refine ezw_call0_0 rfl (by omega) (ezu_at rfl) rfl rfl rfl rfl (ezs_m45_1 hI (by omega)) ?_
      rintro _ _ ⟨rfl, u3, hu3, rfl⟩
      refine ezw_if_eq rfl rfl ⟨by omega, by omega⟩ (fun h36_3 => ?_) (fun h36_3 => ?_)
      · exact ezw_return rfl rfl ⟨⟨F, A, rfl, hI⟩, rfl⟩
      · refine ezw_aload_n rfl rfl ?_
        refine ezs_get_i hI rfl rfl rfl rfl rfl rfl (fun u4 hu4 ku4 => ?_)
        refine ezw_iload_n rfl rfl ?_
        refine ezw_call2_2 rfl (by omega) rfl rfl (ezs_m84 hI (by omega) hu4 ⟨by decide, by decide⟩) ?_
        rintro _ _ ⟨rfl, u5, hu5, rfl⟩
        refine ezw_istore rfl rfl ?_
        refine ezw_iload rfl rfl ?_
        refine ezw_if_ne rfl rfl hu5 (fun h51_5 => ?_) (fun h51_5 => ?_)
        · refine ezw_aload_n rfl rfl ?_
          refine ezw_call0_0 rfl (by omega) (ezu_at rfl) rfl rfl rfl rfl (ezs_m30_1 hI (by omega) hzT) ?_
          rintro _ _ ⟨⟨F, A, rfl, hI⟩, rfl⟩
          refine ezw_aload_n rfl rfl ?_
          refine ezw_aload_n rfl rfl ?_
          refine ezw_iload_n rfl rfl ?_
          refine ezw_iconst (1) rfl rfl ?_
          refine ezw_iadd (k := (1)) rfl rfl ?_
          refine ezw_iload_n rfl rfl ?_
          refine ezw_call0_3 rfl (by omega) (ezu_at rfl) rfl rfl rfl rfl (ezs_m81_9_1_v1_v1 hI (by omega) hzA hzT) ?_
          rintro _ _ ⟨⟨F, A, rfl, hI⟩, rfl⟩
          refine ezw_aload_n rfl rfl ?_
          refine ezw_iload rfl rfl ?_
          refine ezw_call0_1 rfl (by omega) (ezu_at rfl) rfl rfl rfl rfl (ezs_m83_9 hI (by omega) hzA hu5) ?_
          rintro _ _ ⟨⟨F, A, rfl, hI⟩, rfl⟩
          refine ezw_iload_n rfl rfl ?_
          refine ezw_iconst (1) rfl rfl ?_
          refine ezw_icmp_ne rfl rfl ⟨by decide, by decide⟩ ⟨by decide, by decide⟩ (fun h76_5 => ?_) (fun h76_5 => absurd h76_5 (by omega))
          refine ezw_iinc (1) rfl rfl rfl rfl rfl ?_
          refine ezw_goto rfl rfl ?_
          exact ezw_keepE [true, true, true, true, true, false] (ihc1 (c1 + (1)) (by omega) ⟨by omega, by omega⟩ (by omega)  F A hI)
        · exact ezw_return rfl rfl ⟨⟨F, A, rfl, hI⟩, rfl⟩
  exact ezw_keepE [true, true, true, true, true, false] (L24_1 (0) ⟨by decide, by decide⟩ (by omega)  F A hI)
theorem ezs_m82_9_1_v0 {F : Nat → Nat → Int} {A : Nat → Int → Int} (hI : ezs_I fz F0 A0 F A) (hd : 33 ≤ d) (hzA : ∀ q, 4 ≤ q → q < 72 → fz q = false) (hzT : fz 1 = false) : ezw_C l ρ B xa Hb D cA 82 d [ezw_p 9, ezw_p 1, ezw_i (0)] (ezu_g e F A) (ezs_P e fz F0 A0 ezs_rn) := by
  refine ezw_met (k := 2) rfl rfl ?_
  refine ezw_aload_n rfl rfl ?_
  refine ezw_bipush (100) rfl rfl ?_
  refine ezw_call0_1 rfl (by omega) (ezu_at rfl) rfl rfl rfl rfl (ezs_m46_1 hI (by omega) ⟨by decide, by decide⟩) ?_
  rintro _ _ ⟨rfl, u1, hu1, rfl⟩
  have J21_2 : ∀ y2 : Int, ezs_b y2 → ∀ F A, ezs_I fz F0 A0 F A → ezw_E l ρ B xa Hb D cA d ezq_re82 (ezs_P e fz F0 A0 ezs_rn) 21 [some (ezw_p 9), some (ezw_p 1), some (ezw_i (0)), none, none] [(ezw_i y2)] (ezu_g e F A) := by
    intro y2 hy2 F A hI
    refine ezw_istore_n rfl rfl ?_
    refine ezw_iload_n rfl rfl ?_
    have J59_4 : ∀ y4 : Int, ezs_b y4 → ∀ F A, ezs_I fz F0 A0 F A → ezw_E l ρ B xa Hb D cA d ezq_re82 (ezs_P e fz F0 A0 ezs_rn) 59 [some (ezw_p 9), some (ezw_p 1), some (ezw_i (0)), some (ezw_i y2), none] [(ezw_i y4)] (ezu_g e F A) := by
      intro y4 hy4 F A hI
      refine ezw_istore rfl rfl ?_
      refine ezw_iload rfl rfl ?_
      refine ezw_if_eq rfl rfl ⟨by omega, by omega⟩ (fun h63_5 => ?_) (fun h63_5 => ?_)
      · refine ezw_aload_n rfl rfl ?_
        refine ezw_iload rfl rfl ?_
        refine ezw_if_eq rfl rfl ⟨by omega, by omega⟩ (fun h74_5 => ?_) (fun h74_5 => ?_)
        · refine ezw_iconst (1) rfl rfl ?_
          refine ezw_call0_1 rfl (by omega) (ezu_at rfl) rfl rfl rfl rfl (ezs_m50_1 hI (by omega) hzT ⟨by decide, by decide⟩) ?_
          rintro _ _ ⟨⟨F, A, rfl, hI⟩, rfl⟩
          refine ezw_goto rfl rfl ?_
          exact ezw_return rfl rfl ⟨⟨F, A, rfl, hI⟩, rfl⟩
        · refine ezw_iconst (5) rfl rfl ?_
          refine ezw_goto rfl rfl ?_
          refine ezw_call0_1 rfl (by omega) (ezu_at rfl) rfl rfl rfl rfl (ezs_m50_1 hI (by omega) hzT ⟨by decide, by decide⟩) ?_
          rintro _ _ ⟨⟨F, A, rfl, hI⟩, rfl⟩
          refine ezw_goto rfl rfl ?_
          exact ezw_return rfl rfl ⟨⟨F, A, rfl, hI⟩, rfl⟩
      · refine ezw_iload_n rfl rfl ?_
        refine ezw_iconst (5) rfl rfl ?_
        refine ezw_icmp_lt rfl rfl ⟨by decide, by decide⟩ ⟨by decide, by decide⟩ (fun h68_5 => ?_) (fun h68_5 => absurd h68_5 (by omega))
        refine ezw_iload_n rfl rfl ?_
        refine ezw_if_eq rfl rfl ⟨by omega, by omega⟩ (fun h89_5 => ?_) (fun h89_5 => ?_)
        · refine ezw_aload_n rfl rfl ?_
          refine ezw_bipush (101) rfl rfl ?_
          refine ezw_call0_1 rfl (by omega) (ezu_at rfl) rfl rfl rfl rfl (ezs_m46_1 hI (by omega) ⟨by decide, by decide⟩) ?_
          rintro _ _ ⟨rfl, u6, hu6, rfl⟩
          refine ezw_if_eq rfl rfl ⟨by omega, by omega⟩ (fun h115_6 => ?_) (fun h115_6 => ?_)
          · refine ezw_aload_n rfl rfl ?_
            refine ezw_bipush (41) rfl rfl ?_
            refine ezw_call0_1 rfl (by omega) (ezu_at rfl) rfl rfl rfl rfl (ezs_m46_1 hI (by omega) ⟨by decide, by decide⟩) ?_
            rintro _ _ ⟨rfl, u7, hu7, rfl⟩
            refine ezw_if_eq rfl rfl ⟨by omega, by omega⟩ (fun h139_7 => ?_) (fun h139_7 => ?_)
            · refine ezw_aload_n rfl rfl ?_
              refine ezw_call0_0 rfl (by omega) (ezu_at rfl) rfl rfl rfl rfl (ezs_m30_1 hI (by omega) hzT) ?_
              rintro _ _ ⟨⟨F, A, rfl, hI⟩, rfl⟩
              refine ezw_aload_n rfl rfl ?_
              refine ezw_aload_n rfl rfl ?_
              refine ezw_iconst (0) rfl rfl ?_
              refine ezw_iload_n rfl rfl ?_
              refine ezw_iconst (1) rfl rfl ?_
              refine ezw_iadd (k := (1)) rfl rfl ?_
              refine ezw_call0_3 rfl (by omega) (ezu_at rfl) rfl rfl rfl rfl (ezs_m81_9_1_v0_v1 hI (by omega) hzA hzT) ?_
              rintro _ _ ⟨⟨F, A, rfl, hI⟩, rfl⟩
              refine ezw_aload_n rfl rfl ?_
              refine ezw_sipush (241) rfl rfl ?_
              refine ezw_call0_1 rfl (by omega) (ezu_at rfl) rfl rfl rfl rfl (ezs_m46_1 hI (by omega) ⟨by decide, by decide⟩) ?_
              rintro _ _ ⟨rfl, u8, hu8, rfl⟩
              refine ezw_if_eq rfl rfl ⟨by omega, by omega⟩ (fun h183_8 => ?_) (fun h183_8 => ?_)
              · refine ezw_aload_n rfl rfl ?_
                refine ezw_iconst (1) rfl rfl ?_
                refine ezw_call0_1 rfl (by omega) (ezu_at rfl) rfl rfl rfl rfl (ezs_m50_1 hI (by omega) hzT ⟨by decide, by decide⟩) ?_
                rintro _ _ ⟨⟨F, A, rfl, hI⟩, rfl⟩
                exact ezw_return rfl rfl ⟨⟨F, A, rfl, hI⟩, rfl⟩
              · refine ezw_aload_n rfl rfl ?_
                refine ezw_call0_0 rfl (by omega) (ezu_at rfl) rfl rfl rfl rfl (ezs_m30_1 hI (by omega) hzT) ?_
                rintro _ _ ⟨⟨F, A, rfl, hI⟩, rfl⟩
                refine ezw_goto rfl rfl ?_
                exact ezw_return rfl rfl ⟨⟨F, A, rfl, hI⟩, rfl⟩
            · refine ezw_aload_n rfl rfl ?_
              refine ezw_call0_0 rfl (by omega) (ezu_at rfl) rfl rfl rfl rfl (ezs_m30_1 hI (by omega) hzT) ?_
              rintro _ _ ⟨⟨F, A, rfl, hI⟩, rfl⟩
              refine ezw_aload_n rfl rfl ?_
              refine ezw_aload_n rfl rfl ?_
              refine ezw_iload_n rfl rfl ?_
              refine ezw_iconst (1) rfl rfl ?_
              refine ezw_iadd (k := (1)) rfl rfl ?_
              refine ezw_call0_2 rfl (by omega) (ezu_at rfl) rfl rfl rfl rfl (ezs_m82_9_1_v1 hI (by omega) hzA hzT) ?_
              rintro _ _ ⟨⟨F, A, rfl, hI⟩, rfl⟩
              refine ezw_aload_n rfl rfl ?_
              refine ezw_bipush (-5) rfl rfl ?_
              refine ezw_call0_1 rfl (by omega) (ezu_at rfl) rfl rfl rfl rfl (ezs_m83_9 hI (by omega) hzA ⟨by decide, by decide⟩) ?_
              rintro _ _ ⟨⟨F, A, rfl, hI⟩, rfl⟩
              refine ezw_goto rfl rfl ?_
              exact ezw_return rfl rfl ⟨⟨F, A, rfl, hI⟩, rfl⟩
          · refine ezw_aload_n rfl rfl ?_
            refine ezw_aload_n rfl rfl ?_
            refine ezs_get_i hI rfl rfl rfl rfl rfl rfl (fun u9 hu9 ku9 => ?_)
            refine ezw_call0_1 rfl (by omega) (ezu_at rfl) rfl rfl rfl rfl (ezs_m83_9 hI (by omega) hzA hu9) ?_
            rintro _ _ ⟨⟨F, A, rfl, hI⟩, rfl⟩
            refine ezw_aload_n rfl rfl ?_
            refine ezw_call0_0 rfl (by omega) (ezu_at rfl) rfl rfl rfl rfl (ezs_m30_1 hI (by omega) hzT) ?_
            rintro _ _ ⟨⟨F, A, rfl, hI⟩, rfl⟩
            refine ezw_goto rfl rfl ?_
            exact ezw_return rfl rfl ⟨⟨F, A, rfl, hI⟩, rfl⟩
        · refine ezw_aload_n rfl rfl ?_
          refine ezw_iconst (-1) rfl rfl ?_
          refine ezw_aload_n rfl rfl ?_
          refine ezs_get_i hI rfl rfl rfl rfl rfl rfl (fun u10 hu10 ku10 => ?_)
          refine ezs_isub rfl (fun u11 hu11 => ?_)
          refine ezw_call0_1 rfl (by omega) (ezu_at rfl) rfl rfl rfl rfl (ezs_m83_9 hI (by omega) hzA hu11) ?_
          rintro _ _ ⟨⟨F, A, rfl, hI⟩, rfl⟩
          refine ezw_aload_n rfl rfl ?_
          refine ezw_call0_0 rfl (by omega) (ezu_at rfl) rfl rfl rfl rfl (ezs_m30_1 hI (by omega) hzT) ?_
          rintro _ _ ⟨⟨F, A, rfl, hI⟩, rfl⟩
          refine ezw_goto rfl rfl ?_
          exact ezw_return rfl rfl ⟨⟨F, A, rfl, hI⟩, rfl⟩
    refine ezw_if_ne rfl rfl ⟨by omega, by omega⟩ (fun h23_3 => ?_) (fun h23_3 => ?_)
    · refine ezw_iconst (1) rfl rfl ?_
      refine ezw_goto rfl rfl ?_
      exact ezw_keepE [true, true, true, true, false] (J59_4 (1) ⟨by omega, by omega⟩ F A hI)
    · refine ezw_aload_n rfl rfl ?_
      refine ezw_bipush (101) rfl rfl ?_
      refine ezw_call0_1 rfl (by omega) (ezu_at rfl) rfl rfl rfl rfl (ezs_m46_1 hI (by omega) ⟨by decide, by decide⟩) ?_
      rintro _ _ ⟨rfl, u12, hu12, rfl⟩
      refine ezw_if_ne rfl rfl ⟨by omega, by omega⟩ (fun h32_12 => ?_) (fun h32_12 => ?_)
      · refine ezw_iconst (1) rfl rfl ?_
        refine ezw_goto rfl rfl ?_
        exact ezw_keepE [true, true, true, true, false] (J59_4 (1) ⟨by omega, by omega⟩ F A hI)
      · refine ezw_aload_n rfl rfl ?_
        refine ezw_bipush (41) rfl rfl ?_
        refine ezw_call0_1 rfl (by omega) (ezu_at rfl) rfl rfl rfl rfl (ezs_m46_1 hI (by omega) ⟨by decide, by decide⟩) ?_
        rintro _ _ ⟨rfl, u13, hu13, rfl⟩
        refine ezw_if_ne rfl rfl ⟨by omega, by omega⟩ (fun h41_13 => ?_) (fun h41_13 => ?_)
        · refine ezw_iconst (1) rfl rfl ?_
          refine ezw_goto rfl rfl ?_
          exact ezw_keepE [true, true, true, true, false] (J59_4 (1) ⟨by omega, by omega⟩ F A hI)
        · refine ezw_aload_n rfl rfl ?_
          refine ezw_sipush (240) rfl rfl ?_
          refine ezw_call0_1 rfl (by omega) (ezu_at rfl) rfl rfl rfl rfl (ezs_m46_1 hI (by omega) ⟨by decide, by decide⟩) ?_
          rintro _ _ ⟨rfl, u14, hu14, rfl⟩
          refine ezw_if_eq rfl rfl ⟨by omega, by omega⟩ (fun h51_14 => ?_) (fun h51_14 => ?_)
          · refine ezw_iconst (0) rfl rfl ?_
            exact ezw_keepE [true, true, true, true, false] (J59_4 (0) ⟨by omega, by omega⟩ F A hI)
          · refine ezw_iconst (1) rfl rfl ?_
            refine ezw_goto rfl rfl ?_
            exact ezw_keepE [true, true, true, true, false] (J59_4 (1) ⟨by omega, by omega⟩ F A hI)
  refine ezw_if_eq rfl rfl ⟨by omega, by omega⟩ (fun h6_1 => ?_) (fun h6_1 => ?_)
  · refine ezw_iconst (0) rfl rfl ?_
    exact ezw_keepE [true, true, true, false, false] (J21_2 (0) ⟨by omega, by omega⟩ F A hI)
  · refine ezw_aload_n rfl rfl ?_
    refine ezs_get_i hI rfl rfl rfl rfl rfl rfl (fun u15 hu15 ku15 => ?_)
    refine ezw_if_lt rfl rfl hu15 (fun h13_15 => ?_) (fun h13_15 => ?_)
    · refine ezw_iconst (0) rfl rfl ?_
      exact ezw_keepE [true, true, true, false, false] (J21_2 (0) ⟨by omega, by omega⟩ F A hI)
    · refine ezw_iconst (1) rfl rfl ?_
      refine ezw_goto rfl rfl ?_
      exact ezw_keepE [true, true, true, false, false] (J21_2 (1) ⟨by omega, by omega⟩ F A hI)
theorem ezs_m81_9_1_v4_v0 {F : Nat → Nat → Int} {A : Nat → Int → Int} (hI : ezs_I fz F0 A0 F A) (hd : 34 ≤ d) (hzA : ∀ q, 4 ≤ q → q < 72 → fz q = false) (hzT : fz 1 = false) : ezw_C l ρ B xa Hb D cA 81 d [ezw_p 9, ezw_p 1, ezw_i (4), ezw_i (0)] (ezu_g e F A) (ezs_P e fz F0 A0 ezs_rn) := by
  refine ezw_met (k := 2) rfl rfl ?_
  refine ezw_iload_n rfl rfl ?_
  refine ezw_iconst (4) rfl rfl ?_
  refine ezw_icmp_lt rfl rfl ⟨by decide, by decide⟩ ⟨by decide, by decide⟩ (fun h2_0 => absurd h2_0 (by omega)) (fun h2_0 => ?_)
  refine ezw_aload_n rfl rfl ?_
  refine ezw_aload_n rfl rfl ?_
  refine ezw_iload_n rfl rfl ?_
  refine ezw_call0_2 rfl (by omega) (ezu_at rfl) rfl rfl rfl rfl (ezs_m82_9_1_v0 hI (by omega) hzA hzT) ?_
  rintro _ _ ⟨⟨F, A, rfl, hI⟩, rfl⟩
  exact ezw_return rfl rfl ⟨⟨F, A, rfl, hI⟩, rfl⟩
theorem ezs_m81_9_1_v3_v0 {F : Nat → Nat → Int} {A : Nat → Int → Int} (hI : ezs_I fz F0 A0 F A) (hd : 35 ≤ d) (hzA : ∀ q, 4 ≤ q → q < 72 → fz q = false) (hzT : fz 1 = false) : ezw_C l ρ B xa Hb D cA 81 d [ezw_p 9, ezw_p 1, ezw_i (3), ezw_i (0)] (ezu_g e F A) (ezs_P e fz F0 A0 ezs_rn) := by
  refine ezw_met (k := 2) rfl rfl ?_
  refine ezw_iload_n rfl rfl ?_
  refine ezw_iconst (4) rfl rfl ?_
  refine ezw_icmp_lt rfl rfl ⟨by decide, by decide⟩ ⟨by decide, by decide⟩ (fun h2_0 => ?_) (fun h2_0 => absurd h2_0 (by omega))
  refine ezw_aload_n rfl rfl ?_
  refine ezw_aload_n rfl rfl ?_
  refine ezw_iload_n rfl rfl ?_
  refine ezw_iconst (1) rfl rfl ?_
  refine ezw_iadd (k := (4)) rfl rfl ?_
  refine ezw_iload_n rfl rfl ?_
  refine ezw_call0_3 rfl (by omega) (ezu_at rfl) rfl rfl rfl rfl (ezs_m81_9_1_v4_v0 hI (by omega) hzA hzT) ?_
  rintro _ _ ⟨⟨F, A, rfl, hI⟩, rfl⟩
  refine ezw_iconst (0) rfl rfl ?_
  refine ezw_istore rfl rfl ?_
  have L24_1 : ∀ c1 : Int, ezw_in c1 → (0) ≤ c1 → ∀ F A, ezs_I fz F0 A0 F A → ezw_E l ρ B xa Hb D cA d ezq_re81 (ezs_P e fz F0 A0 ezs_rn) 24 [some (ezw_p 9), some (ezw_p 1), some (ezw_i (3)), some (ezw_i (0)), some (ezw_i c1), none] [] (ezu_g e F A) := by
    refine ezs_up ?_
    intro c1 hc1 ihc1 gc1 F A hI
    refine ezw_iload rfl rfl ?_
    refine ezw_sipush (1000) rfl rfl ?_
    refine ezw_icmp_ge rfl rfl hc1 ⟨by decide, by decide⟩ (fun h29_2 => ?_) (fun h29_2 => ?_)
    · exact ezw_return rfl rfl ⟨⟨F, A, rfl, hI⟩, rfl⟩
    · refine ezw_aload_n rfl rfl ?_
      refine ezw_call0_0 rfl (by omega) (ezu_at rfl) rfl rfl rfl rfl (ezs_m45_1 hI (by omega)) ?_
      rintro _ _ ⟨rfl, u3, hu3, rfl⟩
      refine ezw_if_eq rfl rfl ⟨by omega, by omega⟩ (fun h36_3 => ?_) (fun h36_3 => ?_)
      · exact ezw_return rfl rfl ⟨⟨F, A, rfl, hI⟩, rfl⟩
      · refine ezw_aload_n rfl rfl ?_
        refine ezs_get_i hI rfl rfl rfl rfl rfl rfl (fun u4 hu4 ku4 => ?_)
        refine ezw_iload_n rfl rfl ?_
        refine ezw_call2_2 rfl (by omega) rfl rfl (ezs_m84 hI (by omega) hu4 ⟨by decide, by decide⟩) ?_
        rintro _ _ ⟨rfl, u5, hu5, rfl⟩
        refine ezw_istore rfl rfl ?_
        refine ezw_iload rfl rfl ?_
        refine ezw_if_ne rfl rfl hu5 (fun h51_5 => ?_) (fun h51_5 => ?_)
        · refine ezw_aload_n rfl rfl ?_
          refine ezw_call0_0 rfl (by omega) (ezu_at rfl) rfl rfl rfl rfl (ezs_m30_1 hI (by omega) hzT) ?_
          rintro _ _ ⟨⟨F, A, rfl, hI⟩, rfl⟩
          refine ezw_aload_n rfl rfl ?_
          refine ezw_aload_n rfl rfl ?_
          refine ezw_iload_n rfl rfl ?_
          refine ezw_iconst (1) rfl rfl ?_
          refine ezw_iadd (k := (4)) rfl rfl ?_
          refine ezw_iload_n rfl rfl ?_
          refine ezw_call0_3 rfl (by omega) (ezu_at rfl) rfl rfl rfl rfl (ezs_m81_9_1_v4_v0 hI (by omega) hzA hzT) ?_
          rintro _ _ ⟨⟨F, A, rfl, hI⟩, rfl⟩
          refine ezw_aload_n rfl rfl ?_
          refine ezw_iload rfl rfl ?_
          refine ezw_call0_1 rfl (by omega) (ezu_at rfl) rfl rfl rfl rfl (ezs_m83_9 hI (by omega) hzA hu5) ?_
          rintro _ _ ⟨⟨F, A, rfl, hI⟩, rfl⟩
          refine ezw_iload_n rfl rfl ?_
          refine ezw_iconst (1) rfl rfl ?_
          refine ezw_icmp_ne rfl rfl ⟨by decide, by decide⟩ ⟨by decide, by decide⟩ (fun h76_5 => ?_) (fun h76_5 => absurd h76_5 (by omega))
          refine ezw_iinc (1) rfl rfl rfl rfl rfl ?_
          refine ezw_goto rfl rfl ?_
          exact ezw_keepE [true, true, true, true, true, false] (ihc1 (c1 + (1)) (by omega) ⟨by omega, by omega⟩ (by omega)  F A hI)
        · exact ezw_return rfl rfl ⟨⟨F, A, rfl, hI⟩, rfl⟩
  exact ezw_keepE [true, true, true, true, true, false] (L24_1 (0) ⟨by decide, by decide⟩ (by omega)  F A hI)
theorem ezs_m81_9_1_v2_v0 {F : Nat → Nat → Int} {A : Nat → Int → Int} (hI : ezs_I fz F0 A0 F A) (hd : 36 ≤ d) (hzA : ∀ q, 4 ≤ q → q < 72 → fz q = false) (hzT : fz 1 = false) : ezw_C l ρ B xa Hb D cA 81 d [ezw_p 9, ezw_p 1, ezw_i (2), ezw_i (0)] (ezu_g e F A) (ezs_P e fz F0 A0 ezs_rn) := by
  refine ezw_met (k := 2) rfl rfl ?_
  refine ezw_iload_n rfl rfl ?_
  refine ezw_iconst (4) rfl rfl ?_
  refine ezw_icmp_lt rfl rfl ⟨by decide, by decide⟩ ⟨by decide, by decide⟩ (fun h2_0 => ?_) (fun h2_0 => absurd h2_0 (by omega))
  refine ezw_aload_n rfl rfl ?_
  refine ezw_aload_n rfl rfl ?_
  refine ezw_iload_n rfl rfl ?_
  refine ezw_iconst (1) rfl rfl ?_
  refine ezw_iadd (k := (3)) rfl rfl ?_
  refine ezw_iload_n rfl rfl ?_
  refine ezw_call0_3 rfl (by omega) (ezu_at rfl) rfl rfl rfl rfl (ezs_m81_9_1_v3_v0 hI (by omega) hzA hzT) ?_
  rintro _ _ ⟨⟨F, A, rfl, hI⟩, rfl⟩
  refine ezw_iconst (0) rfl rfl ?_
  refine ezw_istore rfl rfl ?_
  have L24_1 : ∀ c1 : Int, ezw_in c1 → (0) ≤ c1 → ∀ F A, ezs_I fz F0 A0 F A → ezw_E l ρ B xa Hb D cA d ezq_re81 (ezs_P e fz F0 A0 ezs_rn) 24 [some (ezw_p 9), some (ezw_p 1), some (ezw_i (2)), some (ezw_i (0)), some (ezw_i c1), none] [] (ezu_g e F A) := by
    refine ezs_up ?_
    intro c1 hc1 ihc1 gc1 F A hI
    refine ezw_iload rfl rfl ?_
    refine ezw_sipush (1000) rfl rfl ?_
    refine ezw_icmp_ge rfl rfl hc1 ⟨by decide, by decide⟩ (fun h29_2 => ?_) (fun h29_2 => ?_)
    · exact ezw_return rfl rfl ⟨⟨F, A, rfl, hI⟩, rfl⟩
    · refine ezw_aload_n rfl rfl ?_
      refine ezw_call0_0 rfl (by omega) (ezu_at rfl) rfl rfl rfl rfl (ezs_m45_1 hI (by omega)) ?_
      rintro _ _ ⟨rfl, u3, hu3, rfl⟩
      refine ezw_if_eq rfl rfl ⟨by omega, by omega⟩ (fun h36_3 => ?_) (fun h36_3 => ?_)
      · exact ezw_return rfl rfl ⟨⟨F, A, rfl, hI⟩, rfl⟩
      · refine ezw_aload_n rfl rfl ?_
        refine ezs_get_i hI rfl rfl rfl rfl rfl rfl (fun u4 hu4 ku4 => ?_)
        refine ezw_iload_n rfl rfl ?_
        refine ezw_call2_2 rfl (by omega) rfl rfl (ezs_m84 hI (by omega) hu4 ⟨by decide, by decide⟩) ?_
        rintro _ _ ⟨rfl, u5, hu5, rfl⟩
        refine ezw_istore rfl rfl ?_
        refine ezw_iload rfl rfl ?_
        refine ezw_if_ne rfl rfl hu5 (fun h51_5 => ?_) (fun h51_5 => ?_)
        · refine ezw_aload_n rfl rfl ?_
          refine ezw_call0_0 rfl (by omega) (ezu_at rfl) rfl rfl rfl rfl (ezs_m30_1 hI (by omega) hzT) ?_
          rintro _ _ ⟨⟨F, A, rfl, hI⟩, rfl⟩
          refine ezw_aload_n rfl rfl ?_
          refine ezw_aload_n rfl rfl ?_
          refine ezw_iload_n rfl rfl ?_
          refine ezw_iconst (1) rfl rfl ?_
          refine ezw_iadd (k := (3)) rfl rfl ?_
          refine ezw_iload_n rfl rfl ?_
          refine ezw_call0_3 rfl (by omega) (ezu_at rfl) rfl rfl rfl rfl (ezs_m81_9_1_v3_v0 hI (by omega) hzA hzT) ?_
          rintro _ _ ⟨⟨F, A, rfl, hI⟩, rfl⟩
          refine ezw_aload_n rfl rfl ?_
          refine ezw_iload rfl rfl ?_
          refine ezw_call0_1 rfl (by omega) (ezu_at rfl) rfl rfl rfl rfl (ezs_m83_9 hI (by omega) hzA hu5) ?_
          rintro _ _ ⟨⟨F, A, rfl, hI⟩, rfl⟩
          refine ezw_iload_n rfl rfl ?_
          refine ezw_iconst (1) rfl rfl ?_
          refine ezw_icmp_ne rfl rfl ⟨by decide, by decide⟩ ⟨by decide, by decide⟩ (fun h76_5 => ?_) (fun h76_5 => absurd h76_5 (by omega))
          refine ezw_iinc (1) rfl rfl rfl rfl rfl ?_
          refine ezw_goto rfl rfl ?_
          exact ezw_keepE [true, true, true, true, true, false] (ihc1 (c1 + (1)) (by omega) ⟨by omega, by omega⟩ (by omega)  F A hI)
        · exact ezw_return rfl rfl ⟨⟨F, A, rfl, hI⟩, rfl⟩
  exact ezw_keepE [true, true, true, true, true, false] (L24_1 (0) ⟨by decide, by decide⟩ (by omega)  F A hI)
theorem ezs_m81_9_1_v1_v0 {F : Nat → Nat → Int} {A : Nat → Int → Int} (hI : ezs_I fz F0 A0 F A) (hd : 37 ≤ d) (hzA : ∀ q, 4 ≤ q → q < 72 → fz q = false) (hzT : fz 1 = false) : ezw_C l ρ B xa Hb D cA 81 d [ezw_p 9, ezw_p 1, ezw_i (1), ezw_i (0)] (ezu_g e F A) (ezs_P e fz F0 A0 ezs_rn) := by
  refine ezw_met (k := 2) rfl rfl ?_
  refine ezw_iload_n rfl rfl ?_
  refine ezw_iconst (4) rfl rfl ?_
  refine ezw_icmp_lt rfl rfl ⟨by decide, by decide⟩ ⟨by decide, by decide⟩ (fun h2_0 => ?_) (fun h2_0 => absurd h2_0 (by omega))
  refine ezw_aload_n rfl rfl ?_
  refine ezw_aload_n rfl rfl ?_
  refine ezw_iload_n rfl rfl ?_
  refine ezw_iconst (1) rfl rfl ?_
  refine ezw_iadd (k := (2)) rfl rfl ?_
  refine ezw_iload_n rfl rfl ?_
  refine ezw_call0_3 rfl (by omega) (ezu_at rfl) rfl rfl rfl rfl (ezs_m81_9_1_v2_v0 hI (by omega) hzA hzT) ?_
  rintro _ _ ⟨⟨F, A, rfl, hI⟩, rfl⟩
  refine ezw_iconst (0) rfl rfl ?_
  refine ezw_istore rfl rfl ?_
  have L24_1 : ∀ c1 : Int, ezw_in c1 → (0) ≤ c1 → ∀ F A, ezs_I fz F0 A0 F A → ezw_E l ρ B xa Hb D cA d ezq_re81 (ezs_P e fz F0 A0 ezs_rn) 24 [some (ezw_p 9), some (ezw_p 1), some (ezw_i (1)), some (ezw_i (0)), some (ezw_i c1), none] [] (ezu_g e F A) := by
    refine ezs_up ?_
    intro c1 hc1 ihc1 gc1 F A hI
    refine ezw_iload rfl rfl ?_
    refine ezw_sipush (1000) rfl rfl ?_
    refine ezw_icmp_ge rfl rfl hc1 ⟨by decide, by decide⟩ (fun h29_2 => ?_) (fun h29_2 => ?_)
    · exact ezw_return rfl rfl ⟨⟨F, A, rfl, hI⟩, rfl⟩
    · refine ezw_aload_n rfl rfl ?_
      refine ezw_call0_0 rfl (by omega) (ezu_at rfl) rfl rfl rfl rfl (ezs_m45_1 hI (by omega)) ?_
      rintro _ _ ⟨rfl, u3, hu3, rfl⟩
      refine ezw_if_eq rfl rfl ⟨by omega, by omega⟩ (fun h36_3 => ?_) (fun h36_3 => ?_)
      · exact ezw_return rfl rfl ⟨⟨F, A, rfl, hI⟩, rfl⟩
      · refine ezw_aload_n rfl rfl ?_
        refine ezs_get_i hI rfl rfl rfl rfl rfl rfl (fun u4 hu4 ku4 => ?_)
        refine ezw_iload_n rfl rfl ?_
        refine ezw_call2_2 rfl (by omega) rfl rfl (ezs_m84 hI (by omega) hu4 ⟨by decide, by decide⟩) ?_
        rintro _ _ ⟨rfl, u5, hu5, rfl⟩
        refine ezw_istore rfl rfl ?_
        refine ezw_iload rfl rfl ?_
        refine ezw_if_ne rfl rfl hu5 (fun h51_5 => ?_) (fun h51_5 => ?_)
        · refine ezw_aload_n rfl rfl ?_
          refine ezw_call0_0 rfl (by omega) (ezu_at rfl) rfl rfl rfl rfl (ezs_m30_1 hI (by omega) hzT) ?_
          rintro _ _ ⟨⟨F, A, rfl, hI⟩, rfl⟩
          refine ezw_aload_n rfl rfl ?_
          refine ezw_aload_n rfl rfl ?_
          refine ezw_iload_n rfl rfl ?_
          refine ezw_iconst (1) rfl rfl ?_
          refine ezw_iadd (k := (2)) rfl rfl ?_
          refine ezw_iload_n rfl rfl ?_
          refine ezw_call0_3 rfl (by omega) (ezu_at rfl) rfl rfl rfl rfl (ezs_m81_9_1_v2_v0 hI (by omega) hzA hzT) ?_
          rintro _ _ ⟨⟨F, A, rfl, hI⟩, rfl⟩
          refine ezw_aload_n rfl rfl ?_
          refine ezw_iload rfl rfl ?_
          refine ezw_call0_1 rfl (by omega) (ezu_at rfl) rfl rfl rfl rfl (ezs_m83_9 hI (by omega) hzA hu5) ?_
          rintro _ _ ⟨⟨F, A, rfl, hI⟩, rfl⟩
          refine ezw_iload_n rfl rfl ?_
          refine ezw_iconst (1) rfl rfl ?_
          refine ezw_icmp_ne rfl rfl ⟨by decide, by decide⟩ ⟨by decide, by decide⟩ (fun h76_5 => absurd h76_5 (by omega)) (fun h76_5 => ?_)
          exact ezw_return rfl rfl ⟨⟨F, A, rfl, hI⟩, rfl⟩
        · exact ezw_return rfl rfl ⟨⟨F, A, rfl, hI⟩, rfl⟩
  exact ezw_keepE [true, true, true, true, true, false] (L24_1 (0) ⟨by decide, by decide⟩ (by omega)  F A hI)
theorem ezs_m81_9_1_v0_v0 {F : Nat → Nat → Int} {A : Nat → Int → Int} (hI : ezs_I fz F0 A0 F A) (hd : 38 ≤ d) (hzA : ∀ q, 4 ≤ q → q < 72 → fz q = false) (hzT : fz 1 = false) : ezw_C l ρ B xa Hb D cA 81 d [ezw_p 9, ezw_p 1, ezw_i (0), ezw_i (0)] (ezu_g e F A) (ezs_P e fz F0 A0 ezs_rn) := by
  refine ezw_met (k := 2) rfl rfl ?_
  refine ezw_iload_n rfl rfl ?_
  refine ezw_iconst (4) rfl rfl ?_
  refine ezw_icmp_lt rfl rfl ⟨by decide, by decide⟩ ⟨by decide, by decide⟩ (fun h2_0 => ?_) (fun h2_0 => absurd h2_0 (by omega))
  refine ezw_aload_n rfl rfl ?_
  refine ezw_aload_n rfl rfl ?_
  refine ezw_iload_n rfl rfl ?_
  refine ezw_iconst (1) rfl rfl ?_
  refine ezw_iadd (k := (1)) rfl rfl ?_
  refine ezw_iload_n rfl rfl ?_
  refine ezw_call0_3 rfl (by omega) (ezu_at rfl) rfl rfl rfl rfl (ezs_m81_9_1_v1_v0 hI (by omega) hzA hzT) ?_
  rintro _ _ ⟨⟨F, A, rfl, hI⟩, rfl⟩
  refine ezw_iconst (0) rfl rfl ?_
  refine ezw_istore rfl rfl ?_
  have L24_1 : ∀ c1 : Int, ezw_in c1 → (0) ≤ c1 → ∀ F A, ezs_I fz F0 A0 F A → ezw_E l ρ B xa Hb D cA d ezq_re81 (ezs_P e fz F0 A0 ezs_rn) 24 [some (ezw_p 9), some (ezw_p 1), some (ezw_i (0)), some (ezw_i (0)), some (ezw_i c1), none] [] (ezu_g e F A) := by
    refine ezs_up ?_
    intro c1 hc1 ihc1 gc1 F A hI
    refine ezw_iload rfl rfl ?_
    refine ezw_sipush (1000) rfl rfl ?_
    refine ezw_icmp_ge rfl rfl hc1 ⟨by decide, by decide⟩ (fun h29_2 => ?_) (fun h29_2 => ?_)
    · exact ezw_return rfl rfl ⟨⟨F, A, rfl, hI⟩, rfl⟩
    · refine ezw_aload_n rfl rfl ?_
      refine ezw_call0_0 rfl (by omega) (ezu_at rfl) rfl rfl rfl rfl (ezs_m45_1 hI (by omega)) ?_
      rintro _ _ ⟨rfl, u3, hu3, rfl⟩
      refine ezw_if_eq rfl rfl ⟨by omega, by omega⟩ (fun h36_3 => ?_) (fun h36_3 => ?_)
      · exact ezw_return rfl rfl ⟨⟨F, A, rfl, hI⟩, rfl⟩
      · refine ezw_aload_n rfl rfl ?_
        refine ezs_get_i hI rfl rfl rfl rfl rfl rfl (fun u4 hu4 ku4 => ?_)
        refine ezw_iload_n rfl rfl ?_
        refine ezw_call2_2 rfl (by omega) rfl rfl (ezs_m84 hI (by omega) hu4 ⟨by decide, by decide⟩) ?_
        rintro _ _ ⟨rfl, u5, hu5, rfl⟩
        refine ezw_istore rfl rfl ?_
        refine ezw_iload rfl rfl ?_
        refine ezw_if_ne rfl rfl hu5 (fun h51_5 => ?_) (fun h51_5 => ?_)
        · refine ezw_aload_n rfl rfl ?_
          refine ezw_call0_0 rfl (by omega) (ezu_at rfl) rfl rfl rfl rfl (ezs_m30_1 hI (by omega) hzT) ?_
          rintro _ _ ⟨⟨F, A, rfl, hI⟩, rfl⟩
          refine ezw_aload_n rfl rfl ?_
          refine ezw_aload_n rfl rfl ?_
          refine ezw_iload_n rfl rfl ?_
          refine ezw_iconst (1) rfl rfl ?_
          refine ezw_iadd (k := (1)) rfl rfl ?_
          refine ezw_iload_n rfl rfl ?_
          refine ezw_call0_3 rfl (by omega) (ezu_at rfl) rfl rfl rfl rfl (ezs_m81_9_1_v1_v0 hI (by omega) hzA hzT) ?_
          rintro _ _ ⟨⟨F, A, rfl, hI⟩, rfl⟩
          refine ezw_aload_n rfl rfl ?_
          refine ezw_iload rfl rfl ?_
          refine ezw_call0_1 rfl (by omega) (ezu_at rfl) rfl rfl rfl rfl (ezs_m83_9 hI (by omega) hzA hu5) ?_
          rintro _ _ ⟨⟨F, A, rfl, hI⟩, rfl⟩
          refine ezw_iload_n rfl rfl ?_
          refine ezw_iconst (1) rfl rfl ?_
          refine ezw_icmp_ne rfl rfl ⟨by decide, by decide⟩ ⟨by decide, by decide⟩ (fun h76_5 => ?_) (fun h76_5 => absurd h76_5 (by omega))
          refine ezw_iinc (1) rfl rfl rfl rfl rfl ?_
          refine ezw_goto rfl rfl ?_
          exact ezw_keepE [true, true, true, true, true, false] (ihc1 (c1 + (1)) (by omega) ⟨by omega, by omega⟩ (by omega)  F A hI)
        · exact ezw_return rfl rfl ⟨⟨F, A, rfl, hI⟩, rfl⟩
  exact ezw_keepE [true, true, true, true, true, false] (L24_1 (0) ⟨by decide, by decide⟩ (by omega)  F A hI)
theorem ezs_m80_9_1 {F : Nat → Nat → Int} {A : Nat → Int → Int} (hI : ezs_I fz F0 A0 F A) (hd : 39 ≤ d) (hzA : ∀ q, 4 ≤ q → q < 72 → fz q = false) (hzT : fz 1 = false) : ezw_C l ρ B xa Hb D cA 80 d [ezw_p 9, ezw_p 1] (ezu_g e F A) (ezs_P e fz F0 A0 ezs_rn) := by
  refine ezw_met (k := 0) rfl rfl ?_
  refine ezw_aload_n rfl rfl ?_
  refine ezw_iconst (1) rfl rfl ?_
  refine ezs_put_z hI rfl rfl rfl rfl ⟨by omega, by omega⟩ rfl (hzA 9 (by decide) (by decide)) (show ezs_fk 9 3 _ from ⟨by omega, by omega⟩) (fun F A hI => ?_)
  refine ezw_aload_n rfl rfl ?_
  refine ezw_iconst (0) rfl rfl ?_
  refine ezs_put_i hI rfl rfl rfl rfl rfl (hzA 9 (by decide) (by decide)) ⟨by decide, by decide⟩ (fun F A hI => ?_)
  refine ezw_aload_n rfl rfl ?_
  refine ezw_aload_n rfl rfl ?_
  refine ezw_iconst (0) rfl rfl ?_
  refine ezw_iconst (0) rfl rfl ?_
  refine ezw_call0_3 rfl (by omega) (ezu_at rfl) rfl rfl rfl rfl (ezs_m81_9_1_v0_v0 hI (by omega) hzA hzT) ?_
  rintro _ _ ⟨⟨F, A, rfl, hI⟩, rfl⟩
  exact ezw_return rfl rfl ⟨⟨F, A, rfl, hI⟩, rfl⟩
theorem ezs_m21_12 {a1 a2 : Int} {F : Nat → Nat → Int} {A : Nat → Int → Int} (hI : ezs_I fz F0 A0 F A) (hd : 0 ≤ d) (hzA : ∀ q, 4 ≤ q → q < 72 → fz q = false) (ha1 : ezw_in a1) (ha2 : ezw_in a2) : ezw_C l ρ B xa Hb D cA 21 d [ezw_p 12, ezw_i a1, ezw_i a2] (ezu_g e F A) (ezs_P e fz F0 A0 ezs_rn) := by
  refine ezw_met (k := 0) rfl rfl ?_
  refine ezw_aload_n rfl rfl ?_
  refine ezw_ifnull rfl ?_
  refine ezw_iload_n rfl rfl ?_
  refine ezw_if_lt rfl rfl ha1 (fun h5_0 => ?_) (fun h5_0 => ?_)
  · exact ezw_return rfl rfl ⟨⟨F, A, rfl, hI⟩, rfl⟩
  · refine ezw_iload_n rfl rfl ?_
    refine ezw_aload_n rfl rfl ?_
    refine ezs_alen (k := 4) rfl rfl rfl rfl (by decide) (by decide) ?_
    refine ezw_icmp_ge rfl rfl ha1 ⟨by decide, by decide⟩ (fun h11_0 => ?_) (fun h11_0 => ?_)
    · exact ezw_return rfl rfl ⟨⟨F, A, rfl, hI⟩, rfl⟩
    · refine ezw_aload_n rfl rfl ?_
      refine ezw_iload_n rfl rfl ?_
      refine ezw_iload_n rfl rfl ?_
      refine ezs_iastore hI rfl rfl rfl (by omega) (by omega) (by decide) (hzA 12 (by decide) (by decide)) ha2 (fun F A hI => ?_)
      exact ezw_return rfl rfl ⟨⟨F, A, rfl, hI⟩, rfl⟩
theorem ezs_m27_11 {a1 : Int} {F : Nat → Nat → Int} {A : Nat → Int → Int} (hI : ezs_I fz F0 A0 F A) (hd : 0 ≤ d) (ha1 : ezw_in a1) : ezw_C l ρ B xa Hb D cA 27 d [ezw_p 11, ezw_i a1] (ezu_g e F A) (ezs_Pp e F A ezs_ri) := by
  refine ezw_met (k := 0) rfl rfl ?_
  refine ezw_aload_n rfl rfl ?_
  refine ezw_ifnull rfl ?_
  refine ezw_iload_n rfl rfl ?_
  refine ezw_if_lt rfl rfl ha1 (fun h5_0 => ?_) (fun h5_0 => ?_)
  · refine ezw_iconst (0) rfl rfl ?_
    exact ezw_ireturn rfl rfl ⟨rfl, _, ⟨by decide, by decide⟩, rfl⟩
  · refine ezw_iload_n rfl rfl ?_
    refine ezw_aload_n rfl rfl ?_
    refine ezs_alen (k := 32) rfl rfl rfl rfl (by decide) (by decide) ?_
    refine ezw_icmp_ge rfl rfl ha1 ⟨by decide, by decide⟩ (fun h11_0 => ?_) (fun h11_0 => ?_)
    · refine ezw_iconst (0) rfl rfl ?_
      exact ezw_ireturn rfl rfl ⟨rfl, _, ⟨by decide, by decide⟩, rfl⟩
    · refine ezw_aload_n rfl rfl ?_
      refine ezw_iload_n rfl rfl ?_
      refine ezs_iaload hI rfl rfl rfl (by omega) (by omega) (by decide) (fun u1 hu1 ku1 => ?_)
      refine ezw_goto rfl rfl ?_
      exact ezw_ireturn rfl rfl ⟨rfl, _, hu1, rfl⟩
theorem ezs_m90_9 {F : Nat → Nat → Int} {A : Nat → Int → Int} (hI : ezs_I fz F0 A0 F A) (hd : 1 ≤ d) (hzA : ∀ q, 4 ≤ q → q < 72 → fz q = false) : ezw_C l ρ B xa Hb D cA 90 d [ezw_p 9] (ezu_g e F A) (ezs_P e fz F0 A0 ezs_ri) := by
  refine ezw_met (k := 0) rfl rfl ?_
  refine ezw_aload_n rfl rfl ?_
  refine ezw_dup rfl rfl ?_
  refine ezs_get_i hI rfl rfl rfl rfl rfl rfl (fun u1 hu1 ku1 => ?_)
  refine ezw_iconst (1) rfl rfl ?_
  refine ezs_isub rfl (fun u2 hu2 => ?_)
  refine ezs_put_i hI rfl rfl rfl rfl rfl (hzA 9 (by decide) (by decide)) hu2 (fun F A hI => ?_)
  refine ezw_aload_n rfl rfl ?_
  refine ezs_getp (p := 11) rfl rfl rfl rfl rfl ?_
  refine ezw_aload_n rfl rfl ?_
  refine ezs_get_i hI rfl rfl rfl rfl rfl rfl (fun u3 hu3 ku3 => ?_)
  refine ezw_call3_2 rfl (by omega) rfl rfl (ezs_m27_11 hI (by omega) hu3) ?_
  rintro _ _ ⟨rfl, u4, hu4, rfl⟩
  exact ezw_ireturn rfl rfl ⟨⟨F, A, rfl, hI⟩, _, hu4, rfl⟩
theorem ezs_m21_11 {a1 a2 : Int} {F : Nat → Nat → Int} {A : Nat → Int → Int} (hI : ezs_I fz F0 A0 F A) (hd : 0 ≤ d) (hzA : ∀ q, 4 ≤ q → q < 72 → fz q = false) (ha1 : ezw_in a1) (ha2 : ezw_in a2) : ezw_C l ρ B xa Hb D cA 21 d [ezw_p 11, ezw_i a1, ezw_i a2] (ezu_g e F A) (ezs_P e fz F0 A0 ezs_rn) := by
  refine ezw_met (k := 0) rfl rfl ?_
  refine ezw_aload_n rfl rfl ?_
  refine ezw_ifnull rfl ?_
  refine ezw_iload_n rfl rfl ?_
  refine ezw_if_lt rfl rfl ha1 (fun h5_0 => ?_) (fun h5_0 => ?_)
  · exact ezw_return rfl rfl ⟨⟨F, A, rfl, hI⟩, rfl⟩
  · refine ezw_iload_n rfl rfl ?_
    refine ezw_aload_n rfl rfl ?_
    refine ezs_alen (k := 32) rfl rfl rfl rfl (by decide) (by decide) ?_
    refine ezw_icmp_ge rfl rfl ha1 ⟨by decide, by decide⟩ (fun h11_0 => ?_) (fun h11_0 => ?_)
    · exact ezw_return rfl rfl ⟨⟨F, A, rfl, hI⟩, rfl⟩
    · refine ezw_aload_n rfl rfl ?_
      refine ezw_iload_n rfl rfl ?_
      refine ezw_iload_n rfl rfl ?_
      refine ezs_iastore hI rfl rfl rfl (by omega) (by omega) (by decide) (hzA 11 (by decide) (by decide)) ha2 (fun F A hI => ?_)
      exact ezw_return rfl rfl ⟨⟨F, A, rfl, hI⟩, rfl⟩
theorem ezs_m89_9 {a1 : Int} {F : Nat → Nat → Int} {A : Nat → Int → Int} (hI : ezs_I fz F0 A0 F A) (hd : 1 ≤ d) (hzA : ∀ q, 4 ≤ q → q < 72 → fz q = false) (ha1 : ezw_in a1) : ezw_C l ρ B xa Hb D cA 89 d [ezw_p 9, ezw_i a1] (ezu_g e F A) (ezs_P e fz F0 A0 ezs_rn) := by
  refine ezw_met (k := 0) rfl rfl ?_
  refine ezw_aload_n rfl rfl ?_
  refine ezs_getp (p := 11) rfl rfl rfl rfl rfl ?_
  refine ezw_aload_n rfl rfl ?_
  refine ezs_get_i hI rfl rfl rfl rfl rfl rfl (fun u1 hu1 ku1 => ?_)
  refine ezw_iload_n rfl rfl ?_
  refine ezw_call3_3 rfl (by omega) rfl rfl (ezs_m21_11 hI (by omega) hzA hu1 ha1) ?_
  rintro _ _ ⟨⟨F, A, rfl, hI⟩, rfl⟩
  refine ezw_aload_n rfl rfl ?_
  refine ezw_dup rfl rfl ?_
  refine ezs_get_i hI rfl rfl rfl rfl rfl rfl (fun u2 hu2 ku2 => ?_)
  refine ezw_iconst (1) rfl rfl ?_
  refine ezs_iadd rfl (fun u3 hu3 => ?_)
  refine ezs_put_i hI rfl rfl rfl rfl rfl (hzA 9 (by decide) (by decide)) hu3 (fun F A hI => ?_)
  exact ezw_return rfl rfl ⟨⟨F, A, rfl, hI⟩, rfl⟩
theorem ezs_m27_12 {a1 : Int} {F : Nat → Nat → Int} {A : Nat → Int → Int} (hI : ezs_I fz F0 A0 F A) (hd : 0 ≤ d) (ha1 : ezw_in a1) : ezw_C l ρ B xa Hb D cA 27 d [ezw_p 12, ezw_i a1] (ezu_g e F A) (ezs_Pp e F A ezs_ri) := by
  refine ezw_met (k := 0) rfl rfl ?_
  refine ezw_aload_n rfl rfl ?_
  refine ezw_ifnull rfl ?_
  refine ezw_iload_n rfl rfl ?_
  refine ezw_if_lt rfl rfl ha1 (fun h5_0 => ?_) (fun h5_0 => ?_)
  · refine ezw_iconst (0) rfl rfl ?_
    exact ezw_ireturn rfl rfl ⟨rfl, _, ⟨by decide, by decide⟩, rfl⟩
  · refine ezw_iload_n rfl rfl ?_
    refine ezw_aload_n rfl rfl ?_
    refine ezs_alen (k := 4) rfl rfl rfl rfl (by decide) (by decide) ?_
    refine ezw_icmp_ge rfl rfl ha1 ⟨by decide, by decide⟩ (fun h11_0 => ?_) (fun h11_0 => ?_)
    · refine ezw_iconst (0) rfl rfl ?_
      exact ezw_ireturn rfl rfl ⟨rfl, _, ⟨by decide, by decide⟩, rfl⟩
    · refine ezw_aload_n rfl rfl ?_
      refine ezw_iload_n rfl rfl ?_
      refine ezs_iaload hI rfl rfl rfl (by omega) (by omega) (by decide) (fun u1 hu1 ku1 => ?_)
      refine ezw_goto rfl rfl ?_
      exact ezw_ireturn rfl rfl ⟨rfl, _, hu1, rfl⟩
theorem ezs_m88_9 {a1 : Int} {F : Nat → Nat → Int} {A : Nat → Int → Int} (hI : ezs_I fz F0 A0 F A) (hd : 2 ≤ d) (hzA : ∀ q, 4 ≤ q → q < 72 → fz q = false) (ha1 : ezw_in a1) : ezw_C l ρ B xa Hb D cA 88 d [ezw_p 9, ezw_i a1] (ezu_g e F A) (ezs_P e fz F0 A0 ezs_rn) := by
  refine ezw_met (k := 2) rfl rfl ?_
  refine ezw_iload_n rfl rfl ?_
  refine ezw_if_lt rfl rfl ha1 (fun h1_0 => ?_) (fun h1_0 => ?_)
  · refine ezw_iload_n rfl rfl ?_
    refine ezw_bipush (-4) rfl rfl ?_
    refine ezw_icmp_lt rfl rfl ha1 ⟨by decide, by decide⟩ (fun h15_0 => ?_) (fun h15_0 => ?_)
    · refine ezw_iload_n rfl rfl ?_
      refine ezw_bipush (-5) rfl rfl ?_
      refine ezw_icmp_ne rfl rfl ha1 ⟨by decide, by decide⟩ (fun h38_0 => ?_) (fun h38_0 => ?_)
      · refine ezw_aload_n rfl rfl ?_
        refine ezw_call0_0 rfl (by omega) (ezu_at rfl) rfl rfl rfl rfl (ezs_m90_9 hI (by omega) hzA) ?_
        rintro _ _ ⟨⟨F, A, rfl, hI⟩, u1, hu1, rfl⟩
        refine ezw_istore_n rfl rfl ?_
        refine ezw_aload_n rfl rfl ?_
        refine ezw_call0_0 rfl (by omega) (ezu_at rfl) rfl rfl rfl rfl (ezs_m90_9 hI (by omega) hzA) ?_
        rintro _ _ ⟨⟨F, A, rfl, hI⟩, u2, hu2, rfl⟩
        refine ezw_istore_n rfl rfl ?_
        refine ezw_aload_n rfl rfl ?_
        refine ezw_iload_n rfl rfl ?_
        refine ezw_iload_n rfl rfl ?_
        refine ezw_iload_n rfl rfl ?_
        refine ezw_call2_3 rfl (by omega) rfl rfl (ezs_m91 hI (by omega) ha1 hu2 hu1) ?_
        rintro _ _ ⟨rfl, u3, hu3, rfl⟩
        refine ezw_call0_1 rfl (by omega) (ezu_at rfl) rfl rfl rfl rfl (ezs_m89_9 hI (by omega) hzA hu3) ?_
        rintro _ _ ⟨⟨F, A, rfl, hI⟩, rfl⟩
        exact ezw_return rfl rfl ⟨⟨F, A, rfl, hI⟩, rfl⟩
      · refine ezw_aload_n rfl rfl ?_
        refine ezw_aload_n rfl rfl ?_
        refine ezw_call0_0 rfl (by omega) (ezu_at rfl) rfl rfl rfl rfl (ezs_m90_9 hI (by omega) hzA) ?_
        rintro _ _ ⟨⟨F, A, rfl, hI⟩, u4, hu4, rfl⟩
        refine ezw_if_ne rfl rfl hu4 (fun h46_4 => ?_) (fun h46_4 => ?_)
        · refine ezw_iconst (0) rfl rfl ?_
          refine ezw_call0_1 rfl (by omega) (ezu_at rfl) rfl rfl rfl rfl (ezs_m89_9 hI (by omega) hzA ⟨by decide, by decide⟩) ?_
          rintro _ _ ⟨⟨F, A, rfl, hI⟩, rfl⟩
          refine ezw_goto rfl rfl ?_
          exact ezw_return rfl rfl ⟨⟨F, A, rfl, hI⟩, rfl⟩
        · refine ezw_iconst (1) rfl rfl ?_
          refine ezw_goto rfl rfl ?_
          refine ezw_call0_1 rfl (by omega) (ezu_at rfl) rfl rfl rfl rfl (ezs_m89_9 hI (by omega) hzA ⟨by decide, by decide⟩) ?_
          rintro _ _ ⟨⟨F, A, rfl, hI⟩, rfl⟩
          refine ezw_goto rfl rfl ?_
          exact ezw_return rfl rfl ⟨⟨F, A, rfl, hI⟩, rfl⟩
    · refine ezw_aload_n rfl rfl ?_
      refine ezw_aload_n rfl rfl ?_
      refine ezs_getp (p := 12) rfl rfl rfl rfl rfl ?_
      refine ezw_iconst (-1) rfl rfl ?_
      refine ezw_iload_n rfl rfl ?_
      refine ezs_isub rfl (fun u5 hu5 => ?_)
      refine ezw_call3_2 rfl (by omega) rfl rfl (ezs_m27_12 hI (by omega) hu5) ?_
      rintro _ _ ⟨rfl, u6, hu6, rfl⟩
      refine ezw_call0_1 rfl (by omega) (ezu_at rfl) rfl rfl rfl rfl (ezs_m89_9 hI (by omega) hzA hu6) ?_
      rintro _ _ ⟨⟨F, A, rfl, hI⟩, rfl⟩
      refine ezw_goto rfl rfl ?_
      exact ezw_return rfl rfl ⟨⟨F, A, rfl, hI⟩, rfl⟩
  · refine ezw_aload_n rfl rfl ?_
    refine ezw_iload_n rfl rfl ?_
    refine ezw_call0_1 rfl (by omega) (ezu_at rfl) rfl rfl rfl rfl (ezs_m89_9 hI (by omega) hzA ha1) ?_
    rintro _ _ ⟨⟨F, A, rfl, hI⟩, rfl⟩
    refine ezw_goto rfl rfl ?_
    exact ezw_return rfl rfl ⟨⟨F, A, rfl, hI⟩, rfl⟩
theorem ezs_m87_9 {a1 a2 a3 a4 : Int} {F : Nat → Nat → Int} {A : Nat → Int → Int} (hI : ezs_I fz F0 A0 F A) (hd : 3 ≤ d) (hzA : ∀ q, 4 ≤ q → q < 72 → fz q = false) (ha1 : ezw_in a1) (ha2 : ezw_in a2) (ha3 : ezw_in a3) (ha4 : ezw_in a4) : ezw_C l ρ B xa Hb D cA 87 d [ezw_p 9, ezw_i a1, ezw_i a2, ezw_i a3, ezw_i a4] (ezu_g e F A) (ezs_P e fz F0 A0 ezs_ri) := by
  refine ezw_met (k := 1) rfl rfl ?_
  refine ezw_aload_n rfl rfl ?_
  refine ezs_getp (p := 12) rfl rfl rfl rfl rfl ?_
  refine ezw_iconst (0) rfl rfl ?_
  refine ezw_iload_n rfl rfl ?_
  refine ezw_call3_3 rfl (by omega) rfl rfl (ezs_m21_12 hI (by omega) hzA ⟨by decide, by decide⟩ ha1) ?_
  rintro _ _ ⟨⟨F, A, rfl, hI⟩, rfl⟩
  refine ezw_aload_n rfl rfl ?_
  refine ezs_getp (p := 12) rfl rfl rfl rfl rfl ?_
  refine ezw_iconst (1) rfl rfl ?_
  refine ezw_iload_n rfl rfl ?_
  refine ezw_call3_3 rfl (by omega) rfl rfl (ezs_m21_12 hI (by omega) hzA ⟨by decide, by decide⟩ ha2) ?_
  rintro _ _ ⟨⟨F, A, rfl, hI⟩, rfl⟩
  refine ezw_aload_n rfl rfl ?_
  refine ezs_getp (p := 12) rfl rfl rfl rfl rfl ?_
  refine ezw_iconst (2) rfl rfl ?_
  refine ezw_iload_n rfl rfl ?_
  refine ezw_call3_3 rfl (by omega) rfl rfl (ezs_m21_12 hI (by omega) hzA ⟨by decide, by decide⟩ ha3) ?_
  rintro _ _ ⟨⟨F, A, rfl, hI⟩, rfl⟩
  refine ezw_aload_n rfl rfl ?_
  refine ezs_getp (p := 12) rfl rfl rfl rfl rfl ?_
  refine ezw_iconst (3) rfl rfl ?_
  refine ezw_iload rfl rfl ?_
  refine ezw_call3_3 rfl (by omega) rfl rfl (ezs_m21_12 hI (by omega) hzA ⟨by decide, by decide⟩ ha4) ?_
  rintro _ _ ⟨⟨F, A, rfl, hI⟩, rfl⟩
  refine ezw_aload_n rfl rfl ?_
  refine ezw_iconst (0) rfl rfl ?_
  refine ezs_put_i hI rfl rfl rfl rfl rfl (hzA 9 (by decide) (by decide)) ⟨by decide, by decide⟩ (fun F A hI => ?_)
  refine ezw_iconst (0) rfl rfl ?_
  refine ezw_istore rfl rfl ?_
  have L45_1 : ∀ c1 : Int, ezw_in c1 → (0) ≤ c1 → ∀ F A, ezs_I fz F0 A0 F A → ezw_E l ρ B xa Hb D cA d ezq_re87 (ezs_P e fz F0 A0 ezs_ri) 45 [some (ezw_p 9), some (ezw_i a1), some (ezw_i a2), some (ezw_i a3), some (ezw_i a4), some (ezw_i c1)] [] (ezu_g e F A) := by
    refine ezs_up ?_
    intro c1 hc1 ihc1 gc1 F A hI
    refine ezw_iload rfl rfl ?_
    refine ezw_aload_n rfl rfl ?_
    refine ezs_get_i hI rfl rfl rfl rfl rfl rfl (fun u3 hu3 ku3 => ?_)
    refine ezw_icmp_ge rfl rfl hc1 hu3 (fun h51_3 => ?_) (fun h51_3 => ?_)
    · refine ezw_aload_n rfl rfl ?_
      refine ezw_call0_0 rfl (by omega) (ezu_at rfl) rfl rfl rfl rfl (ezs_m90_9 hI (by omega) hzA) ?_
      rintro _ _ ⟨⟨F, A, rfl, hI⟩, u4, hu4, rfl⟩
      exact ezw_ireturn rfl rfl ⟨⟨F, A, rfl, hI⟩, _, hu4, rfl⟩
    · refine ezw_iload rfl rfl ?_
      refine ezw_aload_n rfl rfl ?_
      refine ezs_getp (p := 10) rfl rfl rfl rfl rfl ?_
      refine ezs_alen (k := 1000) rfl rfl rfl rfl (by decide) (by decide) ?_
      refine ezw_icmp_ge rfl rfl hc1 ⟨by decide, by decide⟩ (fun h61_4 => ?_) (fun h61_4 => ?_)
      · refine ezw_aload_n rfl rfl ?_
        refine ezw_call0_0 rfl (by omega) (ezu_at rfl) rfl rfl rfl rfl (ezs_m90_9 hI (by omega) hzA) ?_
        rintro _ _ ⟨⟨F, A, rfl, hI⟩, u5, hu5, rfl⟩
        exact ezw_ireturn rfl rfl ⟨⟨F, A, rfl, hI⟩, _, hu5, rfl⟩
      · refine ezw_aload_n rfl rfl ?_
        refine ezw_aload_n rfl rfl ?_
        refine ezs_getp (p := 10) rfl rfl rfl rfl rfl ?_
        refine ezw_iload rfl rfl ?_
        refine ezs_iaload hI rfl rfl rfl (by omega) (by omega) (by decide) (fun u6 hu6 ku6 => ?_)
        refine ezw_call0_1 rfl (by omega) (ezu_at rfl) rfl rfl rfl rfl (ezs_m88_9 hI (by omega) hzA hu6) ?_
        rintro _ _ ⟨⟨F, A, rfl, hI⟩, rfl⟩
        refine ezw_iinc (1) rfl rfl rfl rfl rfl ?_
        refine ezw_goto rfl rfl ?_
        exact ezw_keepE [true, true, true, true, true, true] (ihc1 (c1 + (1)) (by omega) ⟨by omega, by omega⟩ (by omega)  F A hI)
  exact ezw_keepE [true, true, true, true, true, true] (L45_1 (0) ⟨by decide, by decide⟩ (by omega)  F A hI)
end KM
