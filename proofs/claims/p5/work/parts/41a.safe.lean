/-! ===== the program, roughly: small methods ===== -/
section KM
variable {l : Launch} {ρ : ezq_E} {B : Nat} {xa : Nat → Option Nat} {Hb : Heap} {D : va_G} {cA : Nat → ClassId} {d : Nat} {e : Bool × Bool} {fz : Nat → Bool} {F0 : Nat → Nat → Int} {A0 : Nat → Int → Int}
theorem ezs_m27_31 {a1 : Int} {F : Nat → Nat → Int} {A : Nat → Int → Int} (hI : ezs_I fz F0 A0 F A) (hd : 0 ≤ d) (ha1 : ezw_in a1) : ezw_C l ρ B xa Hb D cA 27 d [ezw_p 31, ezw_i a1] (ezu_g e F A) (ezs_Pp e F A ezs_ri) := by
  refine ezw_met (k := 0) rfl rfl ?_
  refine ezw_aload_n rfl rfl ?_
  refine ezw_ifnull rfl ?_
  refine ezw_iload_n rfl rfl ?_
  refine ezw_if_lt rfl rfl ha1 (fun h5_0 => ?_) (fun h5_0 => ?_)
  · refine ezw_iconst (0) rfl rfl ?_
    exact ezw_ireturn rfl rfl ⟨rfl, _, ⟨by decide, by decide⟩, rfl⟩
  · refine ezw_iload_n rfl rfl ?_
    refine ezw_aload_n rfl rfl ?_
    refine ezs_alen (k := 8) rfl rfl rfl rfl (by decide) (by decide) ?_
    refine ezw_icmp_ge rfl rfl ha1 ⟨by decide, by decide⟩ (fun h11_0 => ?_) (fun h11_0 => ?_)
    · refine ezw_iconst (0) rfl rfl ?_
      exact ezw_ireturn rfl rfl ⟨rfl, _, ⟨by decide, by decide⟩, rfl⟩
    · refine ezw_aload_n rfl rfl ?_
      refine ezw_iload_n rfl rfl ?_
      refine ezs_iaload hI rfl rfl rfl (by omega) (by omega) (by decide) (fun u1 hu1 ku1 => ?_)
      refine ezw_goto rfl rfl ?_
      exact ezw_ireturn rfl rfl ⟨rfl, _, hu1, rfl⟩
theorem ezs_m27_44 {a1 : Int} {F : Nat → Nat → Int} {A : Nat → Int → Int} (hI : ezs_I fz F0 A0 F A) (hd : 0 ≤ d) (ha1 : ezw_in a1) : ezw_C l ρ B xa Hb D cA 27 d [ezw_p 44, ezw_i a1] (ezu_g e F A) (ezs_Pp e F A ezs_r9) := by
  refine ezw_met (k := 0) rfl rfl ?_
  refine ezw_aload_n rfl rfl ?_
  refine ezw_ifnull rfl ?_
  refine ezw_iload_n rfl rfl ?_
  refine ezw_if_lt rfl rfl ha1 (fun h5_0 => ?_) (fun h5_0 => ?_)
  · refine ezw_iconst (0) rfl rfl ?_
    exact ezw_ireturn rfl rfl ⟨rfl, _, ⟨by omega, by omega⟩, rfl⟩
  · refine ezw_iload_n rfl rfl ?_
    refine ezw_aload_n rfl rfl ?_
    refine ezs_alen (k := 11) rfl rfl rfl rfl (by decide) (by decide) ?_
    refine ezw_icmp_ge rfl rfl ha1 ⟨by decide, by decide⟩ (fun h11_0 => ?_) (fun h11_0 => ?_)
    · refine ezw_iconst (0) rfl rfl ?_
      exact ezw_ireturn rfl rfl ⟨rfl, _, ⟨by omega, by omega⟩, rfl⟩
    · refine ezw_aload_n rfl rfl ?_
      refine ezw_iload_n rfl rfl ?_
      refine ezs_iaload hI rfl rfl rfl (by omega) (by omega) (by decide) (fun u1 hu1 ku1 => ?_)
      refine ezw_goto rfl rfl ?_
      exact ezw_ireturn rfl rfl ⟨rfl, _, ku1, rfl⟩
theorem ezs_m49 {a0 a1 : Int} {F : Nat → Nat → Int} {A : Nat → Int → Int} (hI : ezs_I fz F0 A0 F A) (hd : 0 ≤ d) (ha0 : ezw_in a0) (ha1 : ezw_in a1) : ezw_C l ρ B xa Hb D cA 49 d [ezw_i a0, ezw_i a1] (ezu_g e F A) (ezs_Pp e F A ezs_ri) := by
  refine ezw_met (k := 0) rfl rfl ?_
  refine ezw_iload_n rfl rfl ?_
  refine ezw_if_lt rfl rfl ha1 (fun h1_0 => ?_) (fun h1_0 => ?_)
  · refine ezw_iconst (0) rfl rfl ?_
    exact ezw_ireturn rfl rfl ⟨rfl, _, ⟨by decide, by decide⟩, rfl⟩
  · refine ezw_iload_n rfl rfl ?_
    refine ezw_bipush (31) rfl rfl ?_
    refine ezw_icmp_ge rfl rfl ha1 ⟨by decide, by decide⟩ (fun h7_0 => ?_) (fun h7_0 => ?_)
    · refine ezw_iconst (0) rfl rfl ?_
      exact ezw_ireturn rfl rfl ⟨rfl, _, ⟨by decide, by decide⟩, rfl⟩
    · refine ezw_iload_n rfl rfl ?_
      refine ezw_iload_n rfl rfl ?_
      refine ezw_ishrO rfl (fun u1 hu1 => ?_)
      refine ezw_iconst (1) rfl rfl ?_
      refine ezs_iand rfl (fun u2 hu2 => ?_)
      refine ezw_goto rfl rfl ?_
      exact ezw_ireturn rfl rfl ⟨rfl, _, hu2, rfl⟩
theorem ezs_m112 {a0 : Int} {F : Nat → Nat → Int} {A : Nat → Int → Int} (hI : ezs_I fz F0 A0 F A) (hd : 0 ≤ d) (ha0 : ezw_in a0) : ezw_C l ρ B xa Hb D cA 112 d [ezw_i a0] (ezu_g e F A) (ezs_Pp e F A ezs_rz) := by
  refine ezw_met (k := 0) rfl rfl ?_
  refine ezw_iload_n rfl rfl ?_
  refine ezw_if_lt rfl rfl ha0 (fun h1_0 => ?_) (fun h1_0 => ?_)
  · refine ezw_iconst (0) rfl rfl ?_
    exact ezw_ireturn rfl (ezw_zret ⟨by omega, by omega⟩) ⟨rfl, _, ⟨by omega, by omega⟩, rfl⟩
  · refine ezw_iload_n rfl rfl ?_
    refine ezw_iconst (4) rfl rfl ?_
    refine ezw_icmp_ge rfl rfl ha0 ⟨by decide, by decide⟩ (fun h6_0 => ?_) (fun h6_0 => ?_)
    · refine ezw_iconst (0) rfl rfl ?_
      exact ezw_ireturn rfl (ezw_zret ⟨by omega, by omega⟩) ⟨rfl, _, ⟨by omega, by omega⟩, rfl⟩
    · refine ezw_iconst (1) rfl rfl ?_
      refine ezw_goto rfl rfl ?_
      exact ezw_ireturn rfl (ezw_zret ⟨by omega, by omega⟩) ⟨rfl, _, ⟨by omega, by omega⟩, rfl⟩
theorem ezs_m114 {a0 a1 : Int} {F : Nat → Nat → Int} {A : Nat → Int → Int} (hI : ezs_I fz F0 A0 F A) (hd : 0 ≤ d) (ha0 : ezw_in a0) (ha1 : ezw_in a1) : ezw_C l ρ B xa Hb D cA 114 d [ezw_i a0, ezw_i a1] (ezu_g e F A) (ezs_Pp e F A ezs_ri) := by
  refine ezw_met (k := 1) rfl rfl ?_
  refine ezw_iload_n rfl rfl ?_
  refine ezw_iload_n rfl rfl ?_
  refine ezs_isub rfl (fun u1 hu1 => ?_)
  refine ezs_mabs rfl hu1 rfl (fun u2 hu2 => ?_)
  refine ezw_istore_n rfl rfl ?_
  refine ezw_iload_n rfl rfl ?_
  refine ezw_iconst (4) rfl rfl ?_
  refine ezw_iload_n rfl rfl ?_
  refine ezs_isub rfl (fun u3 hu3 => ?_)
  refine ezw_mminE rfl hu2 hu3 rfl (fun u4 hu4 => ?_)
  exact ezw_ireturn rfl rfl ⟨rfl, _, ⟨by omega, by omega⟩, rfl⟩
theorem ezs_m95_30 {a1 : Int} {F : Nat → Nat → Int} {A : Nat → Int → Int} (hI : ezs_I fz F0 A0 F A) (hd : 1 ≤ d) (ha1 : ezw_in a1) : ezw_C l ρ B xa Hb D cA 95 d [ezw_p 30, ezw_i a1] (ezu_g e F A) (ezs_Pp e F A ezs_r9) := by
  refine ezw_met (k := 0) rfl rfl ?_
  refine ezw_aload_n rfl rfl ?_
  refine ezs_getp (p := 44) rfl rfl rfl rfl rfl ?_
  refine ezw_iload_n rfl rfl ?_
  refine ezw_call3_2 rfl (by omega) rfl rfl (ezs_m27_44 hI (by omega) ha1) ?_
  rintro _ _ ⟨rfl, u1, hu1, rfl⟩
  exact ezw_ireturn rfl rfl ⟨rfl, _, hu1, rfl⟩
theorem ezs_m27_61 {a1 : Int} {F : Nat → Nat → Int} {A : Nat → Int → Int} (hI : ezs_I fz F0 A0 F A) (hd : 0 ≤ d) (ha1 : ezw_in a1) : ezw_C l ρ B xa Hb D cA 27 d [ezw_p 61, ezw_i a1] (ezu_g e F A) (ezs_Pp e F A ezs_r9) := by
  refine ezw_met (k := 0) rfl rfl ?_
  refine ezw_aload_n rfl rfl ?_
  refine ezw_ifnull rfl ?_
  refine ezw_iload_n rfl rfl ?_
  refine ezw_if_lt rfl rfl ha1 (fun h5_0 => ?_) (fun h5_0 => ?_)
  · refine ezw_iconst (0) rfl rfl ?_
    exact ezw_ireturn rfl rfl ⟨rfl, _, ⟨by omega, by omega⟩, rfl⟩
  · refine ezw_iload_n rfl rfl ?_
    refine ezw_aload_n rfl rfl ?_
    refine ezs_alen (k := 11) rfl rfl rfl rfl (by decide) (by decide) ?_
    refine ezw_icmp_ge rfl rfl ha1 ⟨by decide, by decide⟩ (fun h11_0 => ?_) (fun h11_0 => ?_)
    · refine ezw_iconst (0) rfl rfl ?_
      exact ezw_ireturn rfl rfl ⟨rfl, _, ⟨by omega, by omega⟩, rfl⟩
    · refine ezw_aload_n rfl rfl ?_
      refine ezw_iload_n rfl rfl ?_
      refine ezs_iaload hI rfl rfl rfl (by omega) (by omega) (by decide) (fun u1 hu1 ku1 => ?_)
      refine ezw_goto rfl rfl ?_
      exact ezw_ireturn rfl rfl ⟨rfl, _, ku1, rfl⟩
theorem ezs_m95_47 {a1 : Int} {F : Nat → Nat → Int} {A : Nat → Int → Int} (hI : ezs_I fz F0 A0 F A) (hd : 1 ≤ d) (ha1 : ezw_in a1) : ezw_C l ρ B xa Hb D cA 95 d [ezw_p 47, ezw_i a1] (ezu_g e F A) (ezs_Pp e F A ezs_r9) := by
  refine ezw_met (k := 0) rfl rfl ?_
  refine ezw_aload_n rfl rfl ?_
  refine ezs_getp (p := 61) rfl rfl rfl rfl rfl ?_
  refine ezw_iload_n rfl rfl ?_
  refine ezw_call3_2 rfl (by omega) rfl rfl (ezs_m27_61 hI (by omega) ha1) ?_
  rintro _ _ ⟨rfl, u1, hu1, rfl⟩
  exact ezw_ireturn rfl rfl ⟨rfl, _, hu1, rfl⟩
theorem ezs_m132 {a0 : Int} {F : Nat → Nat → Int} {A : Nat → Int → Int} (hI : ezs_I fz F0 A0 F A) (hd : 0 ≤ d) (ha0 : ezw_in a0) : ezw_C l ρ B xa Hb D cA 132 d [ezw_i a0] (ezu_g e F A) (ezs_Pp e F A ezs_ri) := by
  refine ezw_met (k := 0) rfl rfl ?_
  refine ezw_iload_n rfl rfl ?_
  refine ezw_iload_n rfl rfl ?_
  refine ezw_iconst (1) rfl rfl ?_
  refine ezw_iushrO rfl (fun u1 hu1 => ?_)
  refine ezw_ldc_w (1431655765) rfl rfl ?_
  refine ezs_iand rfl (fun u2 hu2 => ?_)
  refine ezs_isub rfl (fun u3 hu3 => ?_)
  refine ezw_istore_n rfl rfl ?_
  refine ezw_iload_n rfl rfl ?_
  refine ezw_ldc_w (858993459) rfl rfl ?_
  refine ezs_iand rfl (fun u4 hu4 => ?_)
  refine ezw_iload_n rfl rfl ?_
  refine ezw_iconst (2) rfl rfl ?_
  refine ezw_iushrO rfl (fun u5 hu5 => ?_)
  refine ezw_ldc_w (858993459) rfl rfl ?_
  refine ezs_iand rfl (fun u6 hu6 => ?_)
  refine ezs_iadd rfl (fun u7 hu7 => ?_)
  refine ezw_istore_n rfl rfl ?_
  refine ezw_iload_n rfl rfl ?_
  refine ezw_iload_n rfl rfl ?_
  refine ezw_iconst (4) rfl rfl ?_
  refine ezw_iushrO rfl (fun u8 hu8 => ?_)
  refine ezs_iadd rfl (fun u9 hu9 => ?_)
  refine ezw_ldc_w (252645135) rfl rfl ?_
  refine ezs_iand rfl (fun u10 hu10 => ?_)
  refine ezw_istore_n rfl rfl ?_
  refine ezw_iload_n rfl rfl ?_
  refine ezw_iload_n rfl rfl ?_
  refine ezw_bipush (8) rfl rfl ?_
  refine ezw_iushrO rfl (fun u11 hu11 => ?_)
  refine ezs_iadd rfl (fun u12 hu12 => ?_)
  refine ezw_istore_n rfl rfl ?_
  refine ezw_iload_n rfl rfl ?_
  refine ezw_iload_n rfl rfl ?_
  refine ezw_bipush (16) rfl rfl ?_
  refine ezw_iushrO rfl (fun u13 hu13 => ?_)
  refine ezs_iadd rfl (fun u14 hu14 => ?_)
  refine ezw_istore_n rfl rfl ?_
  refine ezw_iload_n rfl rfl ?_
  refine ezw_bipush (63) rfl rfl ?_
  refine ezs_iand rfl (fun u15 hu15 => ?_)
  exact ezw_ireturn rfl rfl ⟨rfl, _, hu15, rfl⟩
theorem ezs_m26_24 {a1 : Int} {F : Nat → Nat → Int} {A : Nat → Int → Int} (hI : ezs_I fz F0 A0 F A) (hd : 0 ≤ d) (hzA : ∀ q, 24 ≤ q → q < 25 → fz q = false) (ha1 : ezw_in a1) : ezw_C l ρ B xa Hb D cA 26 d [ezw_p 24, ezw_i a1] (ezu_g e F A) (ezs_P e fz F0 A0 ezs_rn) := by
  refine ezw_met (k := 2) rfl rfl ?_
  refine ezw_iconst (0) rfl rfl ?_
  refine ezw_istore_n rfl rfl ?_
  refine ezw_aload_n rfl rfl ?_
  refine ezs_alen (k := 5760) rfl rfl rfl rfl (by decide) (by decide) ?_
  refine ezw_istore_n rfl rfl ?_
  have L5_1 : ∀ c1 : Int, ezw_in c1 → (0) ≤ c1 → ∀ F A, ezs_I fz F0 A0 F A → ezw_E l ρ B xa Hb D cA d ezq_re26 (ezs_P e fz F0 A0 ezs_rn) 5 [some (ezw_p 24), some (ezw_i a1), some (ezw_i c1), some (ezw_i (5760))] [] (ezu_g e F A) := by
    refine ezs_up ?_
    intro c1 hc1 ihc1 gc1 F A hI
    refine ezw_iload_n rfl rfl ?_
    refine ezw_iload_n rfl rfl ?_
    refine ezw_icmp_ge rfl rfl hc1 ⟨by decide, by decide⟩ (fun h7_2 => ?_) (fun h7_2 => ?_)
    · exact ezw_return rfl rfl ⟨⟨F, A, rfl, hI⟩, rfl⟩
    · refine ezw_aload_n rfl rfl ?_
      refine ezw_iload_n rfl rfl ?_
      refine ezw_iload_n rfl rfl ?_
      refine ezs_iastore hI rfl rfl rfl (by omega) (by omega) (by decide) (hzA 24 (by decide) (by decide)) ha1 (fun F A hI => ?_)
      refine ezw_iinc (1) rfl rfl rfl rfl rfl ?_
      refine ezw_goto rfl rfl ?_
      exact ezw_keepE [true, true, true, true] (ihc1 (c1 + (1)) (by omega) ⟨by omega, by omega⟩ (by omega)  F A hI)
  exact ezw_keepE [true, true, true, true] (L5_1 (0) ⟨by decide, by decide⟩ (by omega)  F A hI)
theorem ezs_m5_x4 {F : Nat → Nat → Int} {A : Nat → Int → Int} (hI : ezs_I fz F0 A0 F A) (hd : 0 ≤ d) : ezw_C l ρ B xa Hb D cA 5 d [ezq_xt 4] (ezu_g e F A) (ezs_Pp e F A ezs_r1) := by
  refine ezw_met (k := 0) rfl rfl ?_
  refine ezw_getstc rfl ?_
  refine ezw_if_eq rfl rfl ⟨by decide, by decide⟩ (fun h3_0 => absurd h3_0 (by omega)) (fun h3_0 => ?_)
  refine ezw_aloadx rfl rfl ?_
  refine ezw_getcod4 rfl ?_
  refine ezw_if_ne rfl rfl ⟨by decide, by decide⟩ (fun h10_0 => absurd h10_0 (by omega)) (fun h10_0 => ?_)
  refine ezw_iconst (1) rfl rfl ?_
  refine ezw_goto rfl rfl ?_
  exact ezw_ireturn rfl rfl ⟨rfl, _, rfl, rfl⟩
theorem ezs_m3_x4 {F : Nat → Nat → Int} {A : Nat → Int → Int} (hI : ezs_I fz F0 A0 F A) (hd : 0 ≤ d) : ezw_C l ρ B xa Hb D cA 3 d [ezq_xt 4] (ezu_g e F A) (ezs_Pp e F A ezs_r0) := by
  refine ezw_met (k := 0) rfl rfl ?_
  refine ezw_getstc rfl ?_
  refine ezw_if_eq rfl rfl ⟨by decide, by decide⟩ (fun h3_0 => absurd h3_0 (by omega)) (fun h3_0 => ?_)
  refine ezw_aloadx rfl rfl ?_
  refine ezw_getcod4 rfl ?_
  refine ezw_goto rfl rfl ?_
  exact ezw_ireturn rfl rfl ⟨rfl, _, rfl, rfl⟩
theorem ezs_m2_x4 {F : Nat → Nat → Int} {A : Nat → Int → Int} (hI : ezs_I fz F0 A0 F A) (hd : 1 ≤ d) : ezw_C l ρ B xa Hb D cA 2 d [ezq_xt 4] (ezu_g e F A) (ezs_Pp e F A ezs_ri) := by
  refine ezw_met (k := 0) rfl rfl ?_
  refine ezw_aloadx rfl rfl ?_
  refine ezw_getval4 rfl ?_
  refine ezw_xlen5 rfl ?_
  refine ezw_aloadx rfl rfl ?_
  refine ezw_call0x_0 rfl (by omega) rfl rfl rfl (ezs_m3_x4 hI (by omega)) ?_
  rintro _ _ ⟨rfl, u1, hu1, rfl⟩
  refine ezw_ishrO rfl (fun u2 hu2 => ?_)
  exact ezw_ireturn rfl rfl ⟨rfl, _, hu2, rfl⟩
theorem ezs_m39 {a0 : Int} {F : Nat → Nat → Int} {A : Nat → Int → Int} (hI : ezs_I fz F0 A0 F A) (hd : 0 ≤ d) (ha0 : ezw_in a0) : ezw_C l ρ B xa Hb D cA 39 d [ezw_i a0] (ezu_g e F A) (ezs_Pp e F A ezs_rz) := by
  refine ezw_met (k := 0) rfl rfl ?_
  refine ezw_iload_n rfl rfl ?_
  refine ezw_if_lt rfl rfl ha0 (fun h1_0 => ?_) (fun h1_0 => ?_)
  · refine ezw_iconst (0) rfl rfl ?_
    exact ezw_ireturn rfl (ezw_zret ⟨by omega, by omega⟩) ⟨rfl, _, ⟨by omega, by omega⟩, rfl⟩
  · refine ezw_iload_n rfl rfl ?_
    refine ezw_sipush (255) rfl rfl ?_
    refine ezw_icmp_gt rfl rfl ha0 ⟨by decide, by decide⟩ (fun h8_0 => ?_) (fun h8_0 => ?_)
    · refine ezw_iconst (0) rfl rfl ?_
      exact ezw_ireturn rfl (ezw_zret ⟨by omega, by omega⟩) ⟨rfl, _, ⟨by omega, by omega⟩, rfl⟩
    · refine ezw_iconst (1) rfl rfl ?_
      refine ezw_goto rfl rfl ?_
      exact ezw_ireturn rfl (ezw_zret ⟨by omega, by omega⟩) ⟨rfl, _, ⟨by omega, by omega⟩, rfl⟩
theorem ezs_m42_x5 {a1 a2 a3 : Int} {F : Nat → Nat → Int} {A : Nat → Int → Int} (hI : ezs_I fz F0 A0 F A) (hd : 0 ≤ d) (ha1 : ezw_in a1) (ha2 : ezw_in a2) (ga2 : 0 ≤ a2) (ha3 : ezw_in a3) (ga3 : a3 ≤ 8) : ezw_C l ρ B xa Hb D cA 42 d [ezq_xt 5, ezw_i a1, ezw_i a2, ezw_i a3] (ezu_g e F A) (ezs_Pp e F A ezs_ri) := by
  refine ezw_met (k := 2) rfl rfl ?_
  refine ezw_iload_n rfl rfl ?_
  refine ezw_i2bO rfl (fun u1 hu1 => ?_)
  refine ezw_istore rfl rfl ?_
  refine ezw_iload_n rfl rfl ?_
  refine ezw_istore rfl rfl ?_
  have L7_2 : ∀ c2 : Int, ezw_in c2 → a2 ≤ c2 → ezw_E l ρ B xa Hb D cA d ezq_re42 (ezs_Pp e F A ezs_ri) 7 [some (ezq_xt 5), some (ezw_i a1), some (ezw_i a2), some (ezw_i a3), some (ezw_i u1), some (ezw_i c2)] [] (ezu_g e F A) := by
    refine ezs_up ?_
    intro c2 hc2 ihc2 gc2 
    refine ezw_iload rfl rfl ?_
    refine ezw_iload_n rfl rfl ?_
    refine ezw_icmp_ge rfl rfl hc2 ha3 (fun h10_3 => ?_) (fun h10_3 => ?_)
    · refine ezw_iconst (-1) rfl rfl ?_
      exact ezw_ireturn rfl rfl ⟨rfl, _, ⟨by decide, by decide⟩, rfl⟩
    · refine ezw_aloadx rfl rfl ?_
      refine ezw_iload rfl rfl ?_
      refine ezw_xbal5 rfl (by omega) (by omega) (fun u4 hu4 => ?_)
      refine ezw_iload rfl rfl ?_
      refine ezw_icmp_ne rfl rfl hu4 hu1 (fun h19_4 => ?_) (fun h19_4 => ?_)
      · refine ezw_iinc (1) rfl rfl rfl rfl rfl ?_
        refine ezw_goto rfl rfl ?_
        exact ezw_keepE [true, true, true, true, true, true] (ihc2 (c2 + (1)) (by omega) ⟨by omega, by omega⟩ (by omega) )
      · refine ezw_iload rfl rfl ?_
        exact ezw_ireturn rfl rfl ⟨rfl, _, hc2, rfl⟩
  exact ezw_keepE [true, true, true, true, true, true] (L7_2 a2 ha2 (by omega) )
theorem ezs_m38_x5 {a1 a2 a3 : Int} {F : Nat → Nat → Int} {A : Nat → Int → Int} (hI : ezs_I fz F0 A0 F A) (hd : 1 ≤ d) (ha1 : ezw_in a1) (ha2 : ezw_in a2) (ha3 : ezw_in a3) : ezw_C l ρ B xa Hb D cA 38 d [ezq_xt 5, ezw_i a1, ezw_i a2, ezw_i a3] (ezu_g e F A) (ezs_Pp e F A ezs_ri) := by
  refine ezw_met (k := 0) rfl rfl ?_
  refine ezw_iload_n rfl rfl ?_
  refine ezw_call2_1 rfl (by omega) rfl rfl (ezs_m39 hI (by omega) ha1) ?_
  rintro _ _ ⟨rfl, u1, hu1, rfl⟩
  refine ezw_if_ne rfl rfl ⟨by omega, by omega⟩ (fun h4_1 => ?_) (fun h4_1 => ?_)
  · refine ezw_iload_n rfl rfl ?_
    refine ezw_iconst (0) rfl rfl ?_
    refine ezw_mmaxE rfl ha2 ⟨by decide, by decide⟩ rfl (fun u2 hu2 => ?_)
    refine ezw_istore_n rfl rfl ?_
    refine ezw_iload_n rfl rfl ?_
    refine ezw_aloadx rfl rfl ?_
    refine ezw_xlen5 rfl ?_
    refine ezw_mminE rfl ha3 ⟨by decide, by decide⟩ rfl (fun u3 hu3 => ?_)
    refine ezw_istore_n rfl rfl ?_
    refine ezw_iload_n rfl rfl ?_
    refine ezw_iload_n rfl rfl ?_
    refine ezw_icmp_lt rfl rfl ⟨by omega, by omega⟩ ⟨by omega, by omega⟩ (fun h24_3 => ?_) (fun h24_3 => ?_)
    · refine ezw_aloadx rfl rfl ?_
      refine ezw_iload_n rfl rfl ?_
      refine ezw_iload_n rfl rfl ?_
      refine ezw_iload_n rfl rfl ?_
      refine ezw_call2_4 rfl (by omega) rfl rfl (ezs_m42_x5 hI (by omega) ha1 ⟨by omega, by omega⟩ (by omega) ⟨by omega, by omega⟩ (by omega)) ?_
      rintro _ _ ⟨rfl, u4, hu4, rfl⟩
      exact ezw_ireturn rfl rfl ⟨rfl, _, hu4, rfl⟩
    · refine ezw_iconst (-1) rfl rfl ?_
      exact ezw_ireturn rfl rfl ⟨rfl, _, ⟨by decide, by decide⟩, rfl⟩
  · refine ezw_iconst (-1) rfl rfl ?_
    exact ezw_ireturn rfl rfl ⟨rfl, _, ⟨by decide, by decide⟩, rfl⟩
theorem ezs_m37_x4 {a1 a2 : Int} {F : Nat → Nat → Int} {A : Nat → Int → Int} (hI : ezs_I fz F0 A0 F A) (hd : 2 ≤ d) (ha1 : ezw_in a1) (ha2 : ezw_in a2) : ezw_C l ρ B xa Hb D cA 37 d [ezq_xt 4, ezw_i a1, ezw_i a2] (ezu_g e F A) (ezs_Pp e F A ezs_ri) := by
  refine ezw_met (k := 0) rfl rfl ?_
  refine ezw_aloadx rfl rfl ?_
  refine ezw_call0x_0 rfl (by omega) rfl rfl rfl (ezs_m5_x4 hI (by omega)) ?_
  rintro _ _ ⟨rfl, u1, hu1, rfl⟩
  refine ezw_if_eq rfl rfl ⟨by omega, by omega⟩ (fun h4_1 => absurd h4_1 (by omega)) (fun h4_1 => ?_)
  refine ezw_aloadx rfl rfl ?_
  refine ezw_getval4 rfl ?_
  refine ezw_iload_n rfl rfl ?_
  refine ezw_iload_n rfl rfl ?_
  refine ezw_aloadx rfl rfl ?_
  refine ezw_call0x_0 rfl (by omega) rfl rfl rfl (ezs_m2_x4 hI (by omega)) ?_
  rintro _ _ ⟨rfl, u2, hu2, rfl⟩
  refine ezw_call2_4 rfl (by omega) rfl rfl (ezs_m38_x5 hI (by omega) ha1 ha2 hu2) ?_
  rintro _ _ ⟨rfl, u3, hu3, rfl⟩
  refine ezw_goto rfl rfl ?_
  exact ezw_ireturn rfl rfl ⟨rfl, _, hu3, rfl⟩
theorem ezs_m36_x4 {a1 : Int} {F : Nat → Nat → Int} {A : Nat → Int → Int} (hI : ezs_I fz F0 A0 F A) (hd : 3 ≤ d) (ha1 : ezw_in a1) : ezw_C l ρ B xa Hb D cA 36 d [ezq_xt 4, ezw_i a1] (ezu_g e F A) (ezs_Pp e F A ezs_ri) := by
  refine ezw_met (k := 0) rfl rfl ?_
  refine ezw_aloadx rfl rfl ?_
  refine ezw_iload_n rfl rfl ?_
  refine ezw_iconst (0) rfl rfl ?_
  refine ezw_call0x_2 rfl (by omega) rfl rfl rfl (ezs_m37_x4 hI (by omega) ha1 ⟨by decide, by decide⟩) ?_
  rintro _ _ ⟨rfl, u1, hu1, rfl⟩
  exact ezw_ireturn rfl rfl ⟨rfl, _, hu1, rfl⟩
theorem ezs_m34_1 {a1 : Int} {F : Nat → Nat → Int} {A : Nat → Int → Int} (hI : ezs_I fz F0 A0 F A) (hd : 0 ≤ d) (ha1 : ezw_il a1) : ezw_C l ρ B xa Hb D cA 34 d [ezw_p 1, ezw_l a1] (ezu_g e F A) (ezs_Pp e F A ezs_ri) := by
  refine ezw_met (k := 1) rfl rfl ?_
  refine ezw_iconst (0) rfl rfl ?_
  refine ezw_istore_n rfl rfl ?_
  have L2_1 : ∀ c1 : Int, ezw_in c1 → (0) ≤ c1 → ezw_E l ρ B xa Hb D cA d ezq_re34 (ezs_Pp e F A ezs_ri) 2 [some (ezw_p 1), some (ezw_l a1), none, some (ezw_i c1)] [] (ezu_g e F A) := by
    refine ezs_up ?_
    intro c1 hc1 ihc1 gc1 
    refine ezw_iload_n rfl rfl ?_
    refine ezw_aload_n rfl rfl ?_
    refine ezs_getp (p := 3) rfl rfl rfl rfl rfl ?_
    refine ezs_alen (k := 48) rfl rfl rfl rfl (by decide) (by decide) ?_
    refine ezw_icmp_ge rfl rfl hc1 ⟨by decide, by decide⟩ (fun h8_2 => ?_) (fun h8_2 => ?_)
    · refine ezw_iconst (-1) rfl rfl ?_
      exact ezw_ireturn rfl rfl ⟨rfl, _, ⟨by decide, by decide⟩, rfl⟩
    · refine ezw_aload_n rfl rfl ?_
      refine ezs_getp (p := 3) rfl rfl rfl rfl rfl ?_
      refine ezw_iload_n rfl rfl ?_
      refine ezs_laload hI rfl rfl rfl (by omega) (by omega) (by decide) (fun u3 hu3 => ?_)
      refine ezw_lload_n rfl rfl ?_
      refine ezw_lcmpE rfl hu3 ha1 (fun u4 hu4 => ?_)
      refine ezw_if_ne rfl rfl ⟨by omega, by omega⟩ (fun h19_4 => ?_) (fun h19_4 => ?_)
      · refine ezw_iinc (1) rfl rfl rfl rfl rfl ?_
        refine ezw_goto rfl rfl ?_
        exact ezw_keepE [true, true, false, true] (ihc1 (c1 + (1)) (by omega) ⟨by omega, by omega⟩ (by omega) )
      · refine ezw_iload_n rfl rfl ?_
        exact ezw_ireturn rfl rfl ⟨rfl, _, hc1, rfl⟩
  exact ezw_keepE [true, true, false, true] (L2_1 (0) ⟨by decide, by decide⟩ (by omega) )
theorem ezs_m157_16 {F : Nat → Nat → Int} {A : Nat → Int → Int} (hI : ezs_I fz F0 A0 F A) (hd : 0 ≤ d) : ezw_C l ρ B xa Hb D cA 157 d [ezw_p 16] (ezu_g e F A) (ezs_Pp e F A ezs_ri) := by
  refine ezw_met (k := 2) rfl rfl ?_
  refine ezw_iconst (0) rfl rfl ?_
  refine ezw_istore_n rfl rfl ?_
  refine ezw_iconst (0) rfl rfl ?_
  refine ezw_istore_n rfl rfl ?_
  have L4_2 : ∀ c2 : Int, ezw_in c2 → (0) ≤ c2 → ∀ y1 : Int, ezw_in y1 → ezw_E l ρ B xa Hb D cA d ezq_re157 (ezs_Pp e F A ezs_ri) 4 [some (ezw_p 16), some (ezw_i y1), some (ezw_i c2)] [] (ezu_g e F A) := by
    refine ezs_up ?_
    intro c2 hc2 ihc2 gc2 y1 hy1 
    refine ezw_iload_n rfl rfl ?_
    refine ezw_aload_n rfl rfl ?_
    refine ezs_getp (p := 17) rfl rfl rfl rfl rfl ?_
    refine ezs_alen (k := 8) rfl rfl rfl rfl (by decide) (by decide) ?_
    refine ezw_icmp_ge rfl rfl hc2 ⟨by decide, by decide⟩ (fun h10_3 => ?_) (fun h10_3 => ?_)
    · refine ezw_iload_n rfl rfl ?_
      exact ezw_ireturn rfl rfl ⟨rfl, _, hy1, rfl⟩
    · refine ezw_iload_n rfl rfl ?_
      refine ezw_aload_n rfl rfl ?_
      refine ezs_getp (p := 17) rfl rfl rfl rfl rfl ?_
      refine ezw_iload_n rfl rfl ?_
      refine ezs_iaload hI rfl rfl rfl (by omega) (by omega) (by decide) (fun u4 hu4 ku4 => ?_)
      refine ezs_iadd rfl (fun u5 hu5 => ?_)
      refine ezw_istore_n rfl rfl ?_
      refine ezw_iinc (1) rfl rfl rfl rfl rfl ?_
      refine ezw_goto rfl rfl ?_
      exact ezw_keepE [true, true, true] (ihc2 (c2 + (1)) (by omega) ⟨by omega, by omega⟩ (by omega) u5 hu5)
  exact ezw_keepE [true, true, true] (L4_2 (0) ⟨by decide, by decide⟩ (by omega) (0) ⟨by decide, by decide⟩)
theorem ezs_m119_13 {F : Nat → Nat → Int} {A : Nat → Int → Int} (hI : ezs_I fz F0 A0 F A) (hd : 0 ≤ d) : ezw_C l ρ B xa Hb D cA 119 d [ezw_p 13] (ezu_g e F A) (ezs_Pp e F A ezs_rl) := by
  refine ezw_met (k := 2) rfl rfl ?_
  refine ezw_aload_n rfl rfl ?_
  refine ezs_get_i hI rfl rfl rfl rfl rfl rfl (fun u1 hu1 ku1 => ?_)
  refine ezw_i2l rfl hu1 rfl ?_
  refine ezw_lstore_n rfl rfl ?_
  refine ezw_lload_n rfl rfl ?_
  refine ezw_iconst (4) rfl rfl ?_
  refine ezs_lshl rfl (by omega) (by omega) (fun u2 hu2 => ?_)
  refine ezw_aload_n rfl rfl ?_
  refine ezs_get_i hI rfl rfl rfl rfl rfl rfl (fun u3 hu3 ku3 => ?_)
  refine ezw_i2l rfl hu3 rfl ?_
  refine ezs_lor rfl (fun u4 hu4 => ?_)
  refine ezw_lstore_n rfl rfl ?_
  refine ezw_lload_n rfl rfl ?_
  refine ezw_iconst (5) rfl rfl ?_
  refine ezs_lshl rfl (by omega) (by omega) (fun u5 hu5 => ?_)
  refine ezw_aload_n rfl rfl ?_
  refine ezs_get_i hI rfl rfl rfl rfl rfl rfl (fun u6 hu6 ku6 => ?_)
  refine ezw_i2l rfl hu6 rfl ?_
  refine ezs_lor rfl (fun u7 hu7 => ?_)
  refine ezw_lstore_n rfl rfl ?_
  refine ezw_lload_n rfl rfl ?_
  refine ezw_iconst (2) rfl rfl ?_
  refine ezs_lshl rfl (by omega) (by omega) (fun u8 hu8 => ?_)
  refine ezw_aload_n rfl rfl ?_
  refine ezs_get_i hI rfl rfl rfl rfl rfl rfl (fun u9 hu9 ku9 => ?_)
  refine ezw_i2l rfl hu9 rfl ?_
  refine ezs_lor rfl (fun u10 hu10 => ?_)
  refine ezw_lstore_n rfl rfl ?_
  refine ezw_lload_n rfl rfl ?_
  refine ezw_iconst (2) rfl rfl ?_
  refine ezs_lshl rfl (by omega) (by omega) (fun u11 hu11 => ?_)
  refine ezw_aload_n rfl rfl ?_
  refine ezs_get_i hI rfl rfl rfl rfl rfl rfl (fun u12 hu12 ku12 => ?_)
  refine ezw_i2l rfl hu12 rfl ?_
  refine ezs_lor rfl (fun u13 hu13 => ?_)
  refine ezw_lstore_n rfl rfl ?_
  refine ezw_lload_n rfl rfl ?_
  refine ezw_bipush (7) rfl rfl ?_
  refine ezs_lshl rfl (by omega) (by omega) (fun u14 hu14 => ?_)
  refine ezw_aload_n rfl rfl ?_
  refine ezs_get_i hI rfl rfl rfl rfl rfl rfl (fun u15 hu15 ku15 => ?_)
  refine ezw_i2l rfl hu15 rfl ?_
  refine ezs_lor rfl (fun u16 hu16 => ?_)
  refine ezw_lstore_n rfl rfl ?_
  refine ezw_lload_n rfl rfl ?_
  refine ezw_iconst (4) rfl rfl ?_
  refine ezs_lshl rfl (by omega) (by omega) (fun u17 hu17 => ?_)
  refine ezw_aload_n rfl rfl ?_
  refine ezs_get_i hI rfl rfl rfl rfl rfl rfl (fun u18 hu18 ku18 => ?_)
  refine ezw_i2l rfl hu18 rfl ?_
  refine ezs_lor rfl (fun u19 hu19 => ?_)
  exact ezw_lreturn rfl rfl ⟨rfl, _, hu19, rfl⟩
theorem ezs_m27_33 {a1 : Int} {F : Nat → Nat → Int} {A : Nat → Int → Int} (hI : ezs_I fz F0 A0 F A) (hd : 0 ≤ d) (ha1 : ezw_in a1) : ezw_C l ρ B xa Hb D cA 27 d [ezw_p 33, ezw_i a1] (ezu_g e F A) (ezs_Pp e F A ezs_ri) := by
  refine ezw_met (k := 0) rfl rfl ?_
  refine ezw_aload_n rfl rfl ?_
  refine ezw_ifnull rfl ?_
  refine ezw_iload_n rfl rfl ?_
  refine ezw_if_lt rfl rfl ha1 (fun h5_0 => ?_) (fun h5_0 => ?_)
  · refine ezw_iconst (0) rfl rfl ?_
    exact ezw_ireturn rfl rfl ⟨rfl, _, ⟨by decide, by decide⟩, rfl⟩
  · refine ezw_iload_n rfl rfl ?_
    refine ezw_aload_n rfl rfl ?_
    refine ezs_alen (k := 8) rfl rfl rfl rfl (by decide) (by decide) ?_
    refine ezw_icmp_ge rfl rfl ha1 ⟨by decide, by decide⟩ (fun h11_0 => ?_) (fun h11_0 => ?_)
    · refine ezw_iconst (0) rfl rfl ?_
      exact ezw_ireturn rfl rfl ⟨rfl, _, ⟨by decide, by decide⟩, rfl⟩
    · refine ezw_aload_n rfl rfl ?_
      refine ezw_iload_n rfl rfl ?_
      refine ezs_iaload hI rfl rfl rfl (by omega) (by omega) (by decide) (fun u1 hu1 ku1 => ?_)
      refine ezw_goto rfl rfl ?_
      exact ezw_ireturn rfl rfl ⟨rfl, _, hu1, rfl⟩
theorem ezs_m92 {a0 a1 a2 a3 : Int} {F : Nat → Nat → Int} {A : Nat → Int → Int} (hI : ezs_I fz F0 A0 F A) (hd : 0 ≤ d) (ha0 : ezw_in a0) (ha1 : ezw_in a1) (ha2 : ezw_in a2) (ha3 : ezw_in a3) : ezw_C l ρ B xa Hb D cA 92 d [ezw_i a0, ezw_i a1, ezw_i a2, ezw_i a3] (ezu_g e F A) (ezs_Pp e F A ezs_ri) := by
  refine ezw_met (k := 0) rfl rfl ?_
  refine ezw_iload_n rfl rfl ?_
  refine ezw_bipush (10) rfl rfl ?_
  refine ezs_imul rfl (fun u1 hu1 => ?_)
  refine ezw_iload_n rfl rfl ?_
  refine ezs_iadd rfl (fun u2 hu2 => ?_)
  refine ezw_iconst (3) rfl rfl ?_
  refine ezs_imul rfl (fun u3 hu3 => ?_)
  refine ezw_iload_n rfl rfl ?_
  refine ezs_iadd rfl (fun u4 hu4 => ?_)
  refine ezw_iconst (2) rfl rfl ?_
  refine ezs_imul rfl (fun u5 hu5 => ?_)
  refine ezw_iload_n rfl rfl ?_
  refine ezs_iadd rfl (fun u6 hu6 => ?_)
  exact ezw_ireturn rfl rfl ⟨rfl, _, hu6, rfl⟩
theorem ezs_m27_45 {a1 : Int} {F : Nat → Nat → Int} {A : Nat → Int → Int} (hI : ezs_I fz F0 A0 F A) (hd : 0 ≤ d) (ha1 : ezw_in a1) : ezw_C l ρ B xa Hb D cA 27 d [ezw_p 45, ezw_i a1] (ezu_g e F A) (ezs_Pp e F A ezs_ri) := by
  refine ezw_met (k := 0) rfl rfl ?_
  refine ezw_aload_n rfl rfl ?_
  refine ezw_ifnull rfl ?_
  refine ezw_iload_n rfl rfl ?_
  refine ezw_if_lt rfl rfl ha1 (fun h5_0 => ?_) (fun h5_0 => ?_)
  · refine ezw_iconst (0) rfl rfl ?_
    exact ezw_ireturn rfl rfl ⟨rfl, _, ⟨by decide, by decide⟩, rfl⟩
  · refine ezw_iload_n rfl rfl ?_
    refine ezw_aload_n rfl rfl ?_
    refine ezs_alen (k := 480) rfl rfl rfl rfl (by decide) (by decide) ?_
    refine ezw_icmp_ge rfl rfl ha1 ⟨by decide, by decide⟩ (fun h11_0 => ?_) (fun h11_0 => ?_)
    · refine ezw_iconst (0) rfl rfl ?_
      exact ezw_ireturn rfl rfl ⟨rfl, _, ⟨by decide, by decide⟩, rfl⟩
    · refine ezw_aload_n rfl rfl ?_
      refine ezw_iload_n rfl rfl ?_
      refine ezs_iaload hI rfl rfl rfl (by omega) (by omega) (by decide) (fun u1 hu1 ku1 => ?_)
      refine ezw_goto rfl rfl ?_
      exact ezw_ireturn rfl rfl ⟨rfl, _, hu1, rfl⟩
theorem ezs_m113_30 {a1 a2 a3 a4 : Int} {F : Nat → Nat → Int} {A : Nat → Int → Int} (hI : ezs_I fz F0 A0 F A) (hd : 1 ≤ d) (ha1 : ezw_in a1) (ha2 : ezw_in a2) (ha3 : ezw_in a3) (ha4 : ezw_in a4) : ezw_C l ρ B xa Hb D cA 113 d [ezw_p 30, ezw_i a1, ezw_i a2, ezw_i a3, ezw_i a4] (ezu_g e F A) (ezs_Pp e F A ezs_ri) := by
  refine ezw_met (k := 0) rfl rfl ?_
  refine ezw_aload_n rfl rfl ?_
  refine ezs_getp (p := 45) rfl rfl rfl rfl rfl ?_
  refine ezw_iload_n rfl rfl ?_
  refine ezw_iload_n rfl rfl ?_
  refine ezw_iload_n rfl rfl ?_
  refine ezw_aload_n rfl rfl ?_
  refine ezs_getp (p := 33) rfl rfl rfl rfl rfl ?_
  refine ezw_iload_n rfl rfl ?_
  refine ezw_call3_2 rfl (by omega) rfl rfl (ezs_m27_33 hI (by omega) ha1) ?_
  rintro _ _ ⟨rfl, u1, hu1, rfl⟩
  refine ezw_call3_2 rfl (by omega) rfl rfl (ezs_m114 hI (by omega) ha3 hu1) ?_
  rintro _ _ ⟨rfl, u2, hu2, rfl⟩
  refine ezw_iload rfl rfl ?_
  refine ezw_if_eq rfl rfl ha4 (fun h20_2 => ?_) (fun h20_2 => ?_)
  · refine ezw_iconst (0) rfl rfl ?_
    refine ezw_call2_4 rfl (by omega) rfl rfl (ezs_m92 hI (by omega) ha1 ha2 hu2 ⟨by decide, by decide⟩) ?_
    rintro _ _ ⟨rfl, u3, hu3, rfl⟩
    refine ezw_call3_2 rfl (by omega) rfl rfl (ezs_m27_45 hI (by omega) hu3) ?_
    rintro _ _ ⟨rfl, u4, hu4, rfl⟩
    exact ezw_ireturn rfl rfl ⟨rfl, _, hu4, rfl⟩
  · refine ezw_iconst (1) rfl rfl ?_
    refine ezw_goto rfl rfl ?_
    refine ezw_call2_4 rfl (by omega) rfl rfl (ezs_m92 hI (by omega) ha1 ha2 hu2 ⟨by decide, by decide⟩) ?_
    rintro _ _ ⟨rfl, u5, hu5, rfl⟩
    refine ezw_call3_2 rfl (by omega) rfl rfl (ezs_m27_45 hI (by omega) hu5) ?_
    rintro _ _ ⟨rfl, u6, hu6, rfl⟩
    exact ezw_ireturn rfl rfl ⟨rfl, _, hu6, rfl⟩
theorem ezs_m27_32 {a1 : Int} {F : Nat → Nat → Int} {A : Nat → Int → Int} (hI : ezs_I fz F0 A0 F A) (hd : 0 ≤ d) (ha1 : ezw_in a1) : ezw_C l ρ B xa Hb D cA 27 d [ezw_p 32, ezw_i a1] (ezu_g e F A) (ezs_Pp e F A ezs_ri) := by
  refine ezw_met (k := 0) rfl rfl ?_
  refine ezw_aload_n rfl rfl ?_
  refine ezw_ifnull rfl ?_
  refine ezw_iload_n rfl rfl ?_
  refine ezw_if_lt rfl rfl ha1 (fun h5_0 => ?_) (fun h5_0 => ?_)
  · refine ezw_iconst (0) rfl rfl ?_
    exact ezw_ireturn rfl rfl ⟨rfl, _, ⟨by decide, by decide⟩, rfl⟩
  · refine ezw_iload_n rfl rfl ?_
    refine ezw_aload_n rfl rfl ?_
    refine ezs_alen (k := 8) rfl rfl rfl rfl (by decide) (by decide) ?_
    refine ezw_icmp_ge rfl rfl ha1 ⟨by decide, by decide⟩ (fun h11_0 => ?_) (fun h11_0 => ?_)
    · refine ezw_iconst (0) rfl rfl ?_
      exact ezw_ireturn rfl rfl ⟨rfl, _, ⟨by decide, by decide⟩, rfl⟩
    · refine ezw_aload_n rfl rfl ?_
      refine ezw_iload_n rfl rfl ?_
      refine ezs_iaload hI rfl rfl rfl (by omega) (by omega) (by decide) (fun u1 hu1 ku1 => ?_)
      refine ezw_goto rfl rfl ?_
      exact ezw_ireturn rfl rfl ⟨rfl, _, hu1, rfl⟩
theorem ezs_m27_34 {a1 : Int} {F : Nat → Nat → Int} {A : Nat → Int → Int} (hI : ezs_I fz F0 A0 F A) (hd : 0 ≤ d) (ha1 : ezw_in a1) : ezw_C l ρ B xa Hb D cA 27 d [ezw_p 34, ezw_i a1] (ezu_g e F A) (ezs_Pp e F A ezs_ri) := by
  refine ezw_met (k := 0) rfl rfl ?_
  refine ezw_aload_n rfl rfl ?_
  refine ezw_ifnull rfl ?_
  refine ezw_iload_n rfl rfl ?_
  refine ezw_if_lt rfl rfl ha1 (fun h5_0 => ?_) (fun h5_0 => ?_)
  · refine ezw_iconst (0) rfl rfl ?_
    exact ezw_ireturn rfl rfl ⟨rfl, _, ⟨by decide, by decide⟩, rfl⟩
  · refine ezw_iload_n rfl rfl ?_
    refine ezw_aload_n rfl rfl ?_
    refine ezs_alen (k := 8) rfl rfl rfl rfl (by decide) (by decide) ?_
    refine ezw_icmp_ge rfl rfl ha1 ⟨by decide, by decide⟩ (fun h11_0 => ?_) (fun h11_0 => ?_)
    · refine ezw_iconst (0) rfl rfl ?_
      exact ezw_ireturn rfl rfl ⟨rfl, _, ⟨by decide, by decide⟩, rfl⟩
    · refine ezw_aload_n rfl rfl ?_
      refine ezw_iload_n rfl rfl ?_
      refine ezs_iaload hI rfl rfl rfl (by omega) (by omega) (by decide) (fun u1 hu1 ku1 => ?_)
      refine ezw_goto rfl rfl ?_
      exact ezw_ireturn rfl rfl ⟨rfl, _, hu1, rfl⟩
theorem ezs_m127_30 {a1 : Int} {F : Nat → Nat → Int} {A : Nat → Int → Int} (hI : ezs_I fz F0 A0 F A) (hd : 2 ≤ d) (ha1 : ezw_in a1) : ezw_C l ρ B xa Hb D cA 127 d [ezw_p 30, ezw_i a1] (ezu_g e F A) (ezs_Pp e F A ezs_rz) := by
  refine ezw_met (k := 2) rfl rfl ?_
  refine ezw_iload_n rfl rfl ?_
  refine ezw_istore_n rfl rfl ?_
  refine ezw_iconst (0) rfl rfl ?_
  refine ezw_istore_n rfl rfl ?_
  have L4_2 : ∀ c2 : Int, ezw_in c2 → (0) ≤ c2 → ∀ y1 : Int, ezw_in y1 → ezw_E l ρ B xa Hb D cA d ezq_re127 (ezs_Pp e F A ezs_rz) 4 [some (ezw_p 30), some (ezw_i a1), some (ezw_i y1), some (ezw_i c2)] [] (ezu_g e F A) := by
    refine ezs_up ?_
    intro c2 hc2 ihc2 gc2 y1 hy1 
    refine ezw_iload_n rfl rfl ?_
    refine ezw_bipush (8) rfl rfl ?_
    refine ezw_icmp_ge rfl rfl hc2 ⟨by decide, by decide⟩ (fun h7_3 => ?_) (fun h7_3 => ?_)
    · refine ezw_iconst (1) rfl rfl ?_
      exact ezw_ireturn rfl (ezw_zret ⟨by omega, by omega⟩) ⟨rfl, _, ⟨by omega, by omega⟩, rfl⟩
    · refine ezw_iload_n rfl rfl ?_
      refine ezw_iconst (-1) rfl rfl ?_
      refine ezw_icmp_eq rfl rfl hy1 ⟨by decide, by decide⟩ (fun h12_3 => ?_) (fun h12_3 => ?_)
      · refine ezw_iconst (1) rfl rfl ?_
        exact ezw_ireturn rfl (ezw_zret ⟨by omega, by omega⟩) ⟨rfl, _, ⟨by omega, by omega⟩, rfl⟩
      · refine ezw_aload_n rfl rfl ?_
        refine ezs_getp (p := 32) rfl rfl rfl rfl rfl ?_
        refine ezw_iload_n rfl rfl ?_
        refine ezw_call3_2 rfl (by omega) rfl rfl (ezs_m27_32 hI (by omega) hy1) ?_
        rintro _ _ ⟨rfl, u4, hu4, rfl⟩
        refine ezw_aload_n rfl rfl ?_
        refine ezw_bipush (9) rfl rfl ?_
        refine ezw_call0_1 rfl (by omega) (ezu_at rfl) rfl rfl rfl rfl (ezs_m95_30 hI (by omega) ⟨by decide, by decide⟩) ?_
        rintro _ _ ⟨rfl, u5, hu5, rfl⟩
        refine ezw_icmp_ge rfl rfl hu4 ⟨by omega, by omega⟩ (fun h29_5 => ?_) (fun h29_5 => ?_)
        · refine ezw_aload_n rfl rfl ?_
          refine ezs_getp (p := 34) rfl rfl rfl rfl rfl ?_
          refine ezw_iload_n rfl rfl ?_
          refine ezw_call3_2 rfl (by omega) rfl rfl (ezs_m27_34 hI (by omega) hy1) ?_
          rintro _ _ ⟨rfl, u6, hu6, rfl⟩
          refine ezw_istore_n rfl rfl ?_
          refine ezw_iinc (1) rfl rfl rfl rfl rfl ?_
          refine ezw_goto rfl rfl ?_
          exact ezw_keepE [true, true, true, true] (ihc2 (c2 + (1)) (by omega) ⟨by omega, by omega⟩ (by omega) u6 hu6)
        · refine ezw_iconst (0) rfl rfl ?_
          exact ezw_ireturn rfl (ezw_zret ⟨by omega, by omega⟩) ⟨rfl, _, ⟨by omega, by omega⟩, rfl⟩
  exact ezw_keepE [true, true, true, true] (L4_2 (0) ⟨by decide, by decide⟩ (by omega) a1 ha1)
theorem ezs_m27_43 {a1 : Int} {F : Nat → Nat → Int} {A : Nat → Int → Int} (hI : ezs_I fz F0 A0 F A) (hd : 0 ≤ d) (ha1 : ezw_in a1) : ezw_C l ρ B xa Hb D cA 27 d [ezw_p 43, ezw_i a1] (ezu_g e F A) (ezs_Pp e F A ezs_ri) := by
  refine ezw_met (k := 0) rfl rfl ?_
  refine ezw_aload_n rfl rfl ?_
  refine ezw_ifnull rfl ?_
  refine ezw_iload_n rfl rfl ?_
  refine ezw_if_lt rfl rfl ha1 (fun h5_0 => ?_) (fun h5_0 => ?_)
  · refine ezw_iconst (0) rfl rfl ?_
    exact ezw_ireturn rfl rfl ⟨rfl, _, ⟨by decide, by decide⟩, rfl⟩
  · refine ezw_iload_n rfl rfl ?_
    refine ezw_aload_n rfl rfl ?_
    refine ezs_alen (k := 6) rfl rfl rfl rfl (by decide) (by decide) ?_
    refine ezw_icmp_ge rfl rfl ha1 ⟨by decide, by decide⟩ (fun h11_0 => ?_) (fun h11_0 => ?_)
    · refine ezw_iconst (0) rfl rfl ?_
      exact ezw_ireturn rfl rfl ⟨rfl, _, ⟨by decide, by decide⟩, rfl⟩
    · refine ezw_aload_n rfl rfl ?_
      refine ezw_iload_n rfl rfl ?_
      refine ezs_iaload hI rfl rfl rfl (by omega) (by omega) (by decide) (fun u1 hu1 ku1 => ?_)
      refine ezw_goto rfl rfl ?_
      exact ezw_ireturn rfl rfl ⟨rfl, _, hu1, rfl⟩
theorem ezs_m108_30 {a1 : Int} {F : Nat → Nat → Int} {A : Nat → Int → Int} (hI : ezs_I fz F0 A0 F A) (hd : 1 ≤ d) (ha1 : ezw_in a1) : ezw_C l ρ B xa Hb D cA 108 d [ezw_p 30, ezw_i a1] (ezu_g e F A) (ezs_Pp e F A ezs_ri) := by
  refine ezw_met (k := 0) rfl rfl ?_
  refine ezw_iload_n rfl rfl ?_
  refine ezw_if_lt rfl rfl ha1 (fun h1_0 => ?_) (fun h1_0 => ?_)
  · refine ezw_iconst (-1) rfl rfl ?_
    exact ezw_ireturn rfl rfl ⟨rfl, _, ⟨by decide, by decide⟩, rfl⟩
  · refine ezw_iload_n rfl rfl ?_
    refine ezw_aload_n rfl rfl ?_
    refine ezs_get_i hI rfl rfl rfl rfl rfl rfl (fun u1 hu1 ku1 => ?_)
    refine ezw_icmp_ge rfl rfl ha1 hu1 (fun h9_1 => ?_) (fun h9_1 => ?_)
    · refine ezw_iconst (-1) rfl rfl ?_
      exact ezw_ireturn rfl rfl ⟨rfl, _, ⟨by decide, by decide⟩, rfl⟩
    · refine ezw_aload_n rfl rfl ?_
      refine ezs_getp (p := 43) rfl rfl rfl rfl rfl ?_
      refine ezw_iload_n rfl rfl ?_
      refine ezw_call3_2 rfl (by omega) rfl rfl (ezs_m27_43 hI (by omega) ha1) ?_
      rintro _ _ ⟨rfl, u2, hu2, rfl⟩
      refine ezw_goto rfl rfl ?_
      exact ezw_ireturn rfl rfl ⟨rfl, _, hu2, rfl⟩
theorem ezs_m171_30 {a1 : Int} {F : Nat → Nat → Int} {A : Nat → Int → Int} (hI : ezs_I fz F0 A0 F A) (hd : 2 ≤ d) (ha1 : ezw_in a1) : ezw_C l ρ B xa Hb D cA 171 d [ezw_p 30, ezw_i a1] (ezu_g e F A) (ezs_Pp e F A ezs_ri) := by
  refine ezw_met (k := 4) rfl rfl ?_
  refine ezw_iconst (0) rfl rfl ?_
  refine ezw_istore_n rfl rfl ?_
  refine ezw_iconst (-1) rfl rfl ?_
  refine ezw_istore_n rfl rfl ?_
  refine ezw_iconst (0) rfl rfl ?_
  refine ezw_istore rfl rfl ?_
  have L7_3 : ∀ c3 : Int, ezw_in c3 → (0) ≤ c3 → ∀ y1 : Int, ezw_in y1 → ∀ y2 : Int, ezw_in y2 → ezw_E l ρ B xa Hb D cA d ezq_re171 (ezs_Pp e F A ezs_ri) 7 [some (ezw_p 30), some (ezw_i a1), some (ezw_i y1), some (ezw_i y2), some (ezw_i c3), none] [] (ezu_g e F A) := by
    refine ezs_up ?_
    intro c3 hc3 ihc3 gc3 y1 hy1 y2 hy2 
    refine ezw_iload rfl rfl ?_
    refine ezw_aload_n rfl rfl ?_
    refine ezs_get_i hI rfl rfl rfl rfl rfl rfl (fun u5 hu5 ku5 => ?_)
    refine ezw_icmp_ge rfl rfl hc3 hu5 (fun h13_5 => ?_) (fun h13_5 => ?_)
    · refine ezw_iload_n rfl rfl ?_
      exact ezw_ireturn rfl rfl ⟨rfl, _, hy1, rfl⟩
    · refine ezw_iload_n rfl rfl ?_
      refine ezw_iload rfl rfl ?_
      refine ezw_call3_2 rfl (by omega) rfl rfl (ezs_m49 hI (by omega) ha1 hc3) ?_
      rintro _ _ ⟨rfl, u6, hu6, rfl⟩
      refine ezw_iconst (1) rfl rfl ?_
      refine ezw_icmp_ne rfl rfl hu6 ⟨by decide, by decide⟩ (fun h23_6 => ?_) (fun h23_6 => ?_)
      · refine ezw_iinc (1) rfl rfl rfl rfl rfl ?_
        refine ezw_goto rfl rfl ?_
        exact ezw_keepE [true, true, true, true, true, false] (ihc3 (c3 + (1)) (by omega) ⟨by omega, by omega⟩ (by omega) y1 hy1 y2 hy2)
      · refine ezw_aload_n rfl rfl ?_
        refine ezs_getp (p := 31) rfl rfl rfl rfl rfl ?_
        refine ezw_aload_n rfl rfl ?_
        refine ezw_iload rfl rfl ?_
        refine ezw_call0_1 rfl (by omega) (ezu_at rfl) rfl rfl rfl rfl (ezs_m108_30 hI (by omega) hc3) ?_
        rintro _ _ ⟨rfl, u7, hu7, rfl⟩
        refine ezw_call3_2 rfl (by omega) rfl rfl (ezs_m27_31 hI (by omega) hu7) ?_
        rintro _ _ ⟨rfl, u8, hu8, rfl⟩
        refine ezw_istore rfl rfl ?_
        refine ezw_iload_n rfl rfl ?_
        refine ezw_iconst (-1) rfl rfl ?_
        refine ezw_icmp_eq rfl rfl hy2 ⟨by decide, by decide⟩ (fun h43_8 => ?_) (fun h43_8 => ?_)
        · refine ezw_iload rfl rfl ?_
          refine ezw_istore_n rfl rfl ?_
          refine ezw_iinc (1) rfl rfl rfl rfl rfl ?_
          refine ezw_goto rfl rfl ?_
          exact ezw_keepE [true, true, true, true, true, false] (ihc3 (c3 + (1)) (by omega) ⟨by omega, by omega⟩ (by omega) y1 hy1 u8 hu8)
        · refine ezw_iload_n rfl rfl ?_
          refine ezw_iload rfl rfl ?_
          refine ezw_iload_n rfl rfl ?_
          refine ezs_isub rfl (fun u9 hu9 => ?_)
          refine ezs_mabs rfl hu9 rfl (fun u10 hu10 => ?_)
          refine ezw_iconst (1) rfl rfl ?_
          refine ezs_iadd rfl (fun u11 hu11 => ?_)
          refine ezs_iadd rfl (fun u12 hu12 => ?_)
          refine ezw_istore_n rfl rfl ?_
          refine ezw_iload rfl rfl ?_
          refine ezw_istore_n rfl rfl ?_
          refine ezw_iinc (1) rfl rfl rfl rfl rfl ?_
          refine ezw_goto rfl rfl ?_
          exact ezw_keepE [true, true, true, true, true, false] (ihc3 (c3 + (1)) (by omega) ⟨by omega, by omega⟩ (by omega) u12 hu12 u8 hu8)
  exact ezw_keepE [true, true, true, true, true, false] (L7_3 (0) ⟨by decide, by decide⟩ (by omega) (0) ⟨by decide, by decide⟩ (-1) ⟨by decide, by decide⟩)
theorem ezs_m21_29 {a1 a2 : Int} {F : Nat → Nat → Int} {A : Nat → Int → Int} (hI : ezs_I fz F0 A0 F A) (hd : 0 ≤ d) (hzA : ∀ q, 29 ≤ q → q < 30 → fz q = false) (ha1 : ezw_in a1) (ha2 : ezw_in a2) : ezw_C l ρ B xa Hb D cA 21 d [ezw_p 29, ezw_i a1, ezw_i a2] (ezu_g e F A) (ezs_P e fz F0 A0 ezs_rn) := by
  refine ezw_met (k := 0) rfl rfl ?_
  refine ezw_aload_n rfl rfl ?_
  refine ezw_ifnull rfl ?_
  refine ezw_iload_n rfl rfl ?_
  refine ezw_if_lt rfl rfl ha1 (fun h5_0 => ?_) (fun h5_0 => ?_)
  · exact ezw_return rfl rfl ⟨⟨F, A, rfl, hI⟩, rfl⟩
  · refine ezw_iload_n rfl rfl ?_
    refine ezw_aload_n rfl rfl ?_
    refine ezs_alen (k := 16) rfl rfl rfl rfl (by decide) (by decide) ?_
    refine ezw_icmp_ge rfl rfl ha1 ⟨by decide, by decide⟩ (fun h11_0 => ?_) (fun h11_0 => ?_)
    · exact ezw_return rfl rfl ⟨⟨F, A, rfl, hI⟩, rfl⟩
    · refine ezw_aload_n rfl rfl ?_
      refine ezw_iload_n rfl rfl ?_
      refine ezw_iload_n rfl rfl ?_
      refine ezs_iastore hI rfl rfl rfl (by omega) (by omega) (by decide) (hzA 29 (by decide) (by decide)) ha2 (fun F A hI => ?_)
      exact ezw_return rfl rfl ⟨⟨F, A, rfl, hI⟩, rfl⟩
theorem ezs_m27_42 {a1 : Int} {F : Nat → Nat → Int} {A : Nat → Int → Int} (hI : ezs_I fz F0 A0 F A) (hd : 0 ≤ d) (ha1 : ezw_in a1) : ezw_C l ρ B xa Hb D cA 27 d [ezw_p 42, ezw_i a1] (ezu_g e F A) (ezs_Pp e F A ezs_ri) := by
  refine ezw_met (k := 0) rfl rfl ?_
  refine ezw_aload_n rfl rfl ?_
  refine ezw_ifnull rfl ?_
  refine ezw_iload_n rfl rfl ?_
  refine ezw_if_lt rfl rfl ha1 (fun h5_0 => ?_) (fun h5_0 => ?_)
  · refine ezw_iconst (0) rfl rfl ?_
    exact ezw_ireturn rfl rfl ⟨rfl, _, ⟨by decide, by decide⟩, rfl⟩
  · refine ezw_iload_n rfl rfl ?_
    refine ezw_aload_n rfl rfl ?_
    refine ezs_alen (k := 4) rfl rfl rfl rfl (by decide) (by decide) ?_
    refine ezw_icmp_ge rfl rfl ha1 ⟨by decide, by decide⟩ (fun h11_0 => ?_) (fun h11_0 => ?_)
    · refine ezw_iconst (0) rfl rfl ?_
      exact ezw_ireturn rfl rfl ⟨rfl, _, ⟨by decide, by decide⟩, rfl⟩
    · refine ezw_aload_n rfl rfl ?_
      refine ezw_iload_n rfl rfl ?_
      refine ezs_iaload hI rfl rfl rfl (by omega) (by omega) (by decide) (fun u1 hu1 ku1 => ?_)
      refine ezw_goto rfl rfl ?_
      exact ezw_ireturn rfl rfl ⟨rfl, _, hu1, rfl⟩
theorem ezs_m191_30 {a1 a2 : Int} {F : Nat → Nat → Int} {A : Nat → Int → Int} (hI : ezs_I fz F0 A0 F A) (hd : 1 ≤ d) (ha1 : ezw_in a1) (ha2 : ezw_in a2) : ezw_C l ρ B xa Hb D cA 191 d [ezw_p 30, ezw_i a1, ezw_i a2] (ezu_g e F A) (ezs_Pp e F A ezs_rz) := by
  refine ezw_met (k := 0) rfl rfl ?_
  refine ezw_aload_n rfl rfl ?_
  refine ezs_getp (p := 42) rfl rfl rfl rfl rfl ?_
  refine ezw_iload_n rfl rfl ?_
  refine ezw_call3_2 rfl (by omega) rfl rfl (ezs_m27_42 hI (by omega) ha1) ?_
  rintro _ _ ⟨rfl, u1, hu1, rfl⟩
  refine ezw_iload_n rfl rfl ?_
  refine ezw_iconst (-1) rfl rfl ?_
  refine ezs_ixor rfl (fun u2 hu2 => ?_)
  refine ezs_iand rfl (fun u3 hu3 => ?_)
  refine ezw_if_ne rfl rfl hu3 (fun h12_3 => ?_) (fun h12_3 => ?_)
  · refine ezw_iconst (0) rfl rfl ?_
    exact ezw_ireturn rfl (ezw_zret ⟨by omega, by omega⟩) ⟨rfl, _, ⟨by omega, by omega⟩, rfl⟩
  · refine ezw_iconst (1) rfl rfl ?_
    refine ezw_goto rfl rfl ?_
    exact ezw_ireturn rfl (ezw_zret ⟨by omega, by omega⟩) ⟨rfl, _, ⟨by omega, by omega⟩, rfl⟩
theorem ezs_m27_29 {a1 : Int} {F : Nat → Nat → Int} {A : Nat → Int → Int} (hI : ezs_I fz F0 A0 F A) (hd : 0 ≤ d) (ha1 : ezw_in a1) : ezw_C l ρ B xa Hb D cA 27 d [ezw_p 29, ezw_i a1] (ezu_g e F A) (ezs_Pp e F A ezs_ri) := by
  refine ezw_met (k := 0) rfl rfl ?_
  refine ezw_aload_n rfl rfl ?_
  refine ezw_ifnull rfl ?_
  refine ezw_iload_n rfl rfl ?_
  refine ezw_if_lt rfl rfl ha1 (fun h5_0 => ?_) (fun h5_0 => ?_)
  · refine ezw_iconst (0) rfl rfl ?_
    exact ezw_ireturn rfl rfl ⟨rfl, _, ⟨by decide, by decide⟩, rfl⟩
  · refine ezw_iload_n rfl rfl ?_
    refine ezw_aload_n rfl rfl ?_
    refine ezs_alen (k := 16) rfl rfl rfl rfl (by decide) (by decide) ?_
    refine ezw_icmp_ge rfl rfl ha1 ⟨by decide, by decide⟩ (fun h11_0 => ?_) (fun h11_0 => ?_)
    · refine ezw_iconst (0) rfl rfl ?_
      exact ezw_ireturn rfl rfl ⟨rfl, _, ⟨by decide, by decide⟩, rfl⟩
    · refine ezw_aload_n rfl rfl ?_
      refine ezw_iload_n rfl rfl ?_
      refine ezs_iaload hI rfl rfl rfl (by omega) (by omega) (by decide) (fun u1 hu1 ku1 => ?_)
      refine ezw_goto rfl rfl ?_
      exact ezw_ireturn rfl rfl ⟨rfl, _, hu1, rfl⟩
theorem ezs_m190_30_29 {F : Nat → Nat → Int} {A : Nat → Int → Int} (hI : ezs_I fz F0 A0 F A) (hd : 2 ≤ d) (hzA : ∀ q, 29 ≤ q → q < 30 → fz q = false) : ezw_C l ρ B xa Hb D cA 190 d [ezw_p 30, ezw_p 29] (ezu_g e F A) (ezs_P e fz F0 A0 ezs_rn) := by
  refine ezw_met (k := 4) rfl rfl ?_
  refine ezw_aload_n rfl rfl ?_
  refine ezw_iconst (0) rfl rfl ?_
  refine ezw_iconst (1) rfl rfl ?_
  refine ezw_call3_3 rfl (by omega) rfl rfl (ezs_m21_29 hI (by omega) (fun q h0 h1 => hzA q (by omega) (by omega)) ⟨by decide, by decide⟩ ⟨by decide, by decide⟩) ?_
  rintro _ _ ⟨⟨F, A, rfl, hI⟩, rfl⟩
  refine ezw_iconst (1) rfl rfl ?_
  refine ezw_istore_n rfl rfl ?_
  have L8_1 : ∀ c1 : Int, ezw_in c1 → (1) ≤ c1 → ∀ F A, ezs_I fz F0 A0 F A → ezw_E l ρ B xa Hb D cA d ezq_re190 (ezs_P e fz F0 A0 ezs_rn) 8 [some (ezw_p 30), some (ezw_p 29), some (ezw_i c1), none, none, none] [] (ezu_g e F A) := by
    refine ezs_up ?_
    intro c1 hc1 ihc1 gc1 F A hI
    refine ezw_iload_n rfl rfl ?_
    refine ezw_iconst (1) rfl rfl ?_
    refine ezw_aload_n rfl rfl ?_
    refine ezs_get_i hI rfl rfl rfl rfl rfl rfl (fun u3 hu3 ku3 => ?_)
    refine ezw_ishlO rfl (fun u4 hu4 => ?_)
    refine ezw_icmp_ge rfl rfl hc1 hu4 (fun h15_4 => ?_) (fun h15_4 => ?_)
    · exact ezw_return rfl rfl ⟨⟨F, A, rfl, hI⟩, rfl⟩
    · refine ezw_iconst (0) rfl rfl ?_
      refine ezw_istore_n rfl rfl ?_
      refine ezw_iconst (0) rfl rfl ?_
      refine ezw_istore rfl rfl ?_
      have L23_6 : ∀ c6 : Int, ezw_in c6 → (0) ≤ c6 → ∀ y5 : Int, ezw_in y5 → ∀ F A, ezs_I fz F0 A0 F A → ezw_E l ρ B xa Hb D cA d ezq_re190 (ezs_P e fz F0 A0 ezs_rn) 23 [some (ezw_p 30), some (ezw_p 29), some (ezw_i c1), some (ezw_i y5), some (ezw_i c6), none] [] (ezu_g e F A) := by
        refine ezs_up ?_
        intro c6 hc6 ihc6 gc6 y5 hy5 F A hI
        refine ezw_iload rfl rfl ?_
        refine ezw_aload_n rfl rfl ?_
        refine ezs_get_i hI rfl rfl rfl rfl rfl rfl (fun u8 hu8 ku8 => ?_)
        have J74_10 : ∀ y9 : Int, ezw_in y9 → ∀ y10 : Int, ezw_in y10 → ∀ F A, ezs_I fz F0 A0 F A → ezw_E l ρ B xa Hb D cA d ezq_re190 (ezs_P e fz F0 A0 ezs_rn) 74 [some (ezw_p 30), some (ezw_p 29), some (ezw_i c1), some (ezw_i y9), some (ezw_i y10), none] [] (ezu_g e F A) := by
          intro y9 hy9 y10 hy10 F A hI
          refine ezw_aload_n rfl rfl ?_
          refine ezw_iload_n rfl rfl ?_
          refine ezw_iload_n rfl rfl ?_
          refine ezw_call3_3 rfl (by omega) rfl rfl (ezs_m21_29 hI (by omega) (fun q h0 h1 => hzA q (by omega) (by omega)) hc1 hy9) ?_
          rintro _ _ ⟨⟨F, A, rfl, hI⟩, rfl⟩
          refine ezw_iinc (1) rfl rfl rfl rfl rfl ?_
          refine ezw_goto rfl rfl ?_
          exact ezw_keepE [true, true, true, false, false, false] (ihc1 (c1 + (1)) (by omega) ⟨by omega, by omega⟩ (by omega)  F A hI)
        refine ezw_icmp_ge rfl rfl hc6 hu8 (fun h29_8 => ?_) (fun h29_8 => ?_)
        · exact ezw_keepE [true, true, true, true, true, false] (J74_10 y5 hy5 c6 hc6 F A hI)
        · refine ezw_iload_n rfl rfl ?_
          refine ezw_iconst (1) rfl rfl ?_
          refine ezw_iload rfl rfl ?_
          refine ezw_ishlO rfl (fun u12 hu12 => ?_)
          refine ezw_iconst (-1) rfl rfl ?_
          refine ezs_ixor rfl (fun u13 hu13 => ?_)
          refine ezs_iand rfl (fun u14 hu14 => ?_)
          refine ezw_istore rfl rfl ?_
          refine ezw_iload rfl rfl ?_
          refine ezw_iload_n rfl rfl ?_
          refine ezw_icmp_eq rfl rfl hu14 hc1 (fun h45_14 => ?_) (fun h45_14 => ?_)
          · refine ezw_iinc (1) rfl rfl rfl rfl rfl ?_
            refine ezw_goto rfl rfl ?_
            exact ezw_keepE [true, true, true, true, true, false] (ihc6 (c6 + (1)) (by omega) ⟨by omega, by omega⟩ (by omega) y5 hy5 F A hI)
          · refine ezw_aload_n rfl rfl ?_
            refine ezw_iload rfl rfl ?_
            refine ezw_iload rfl rfl ?_
            refine ezw_call0_2 rfl (by omega) (ezu_at rfl) rfl rfl rfl rfl (ezs_m191_30 hI (by omega) hc6 hu14) ?_
            rintro _ _ ⟨rfl, u15, hu15, rfl⟩
            refine ezw_if_eq rfl rfl ⟨by omega, by omega⟩ (fun h56_15 => ?_) (fun h56_15 => ?_)
            · refine ezw_iinc (1) rfl rfl rfl rfl rfl ?_
              refine ezw_goto rfl rfl ?_
              exact ezw_keepE [true, true, true, true, true, false] (ihc6 (c6 + (1)) (by omega) ⟨by omega, by omega⟩ (by omega) y5 hy5 F A hI)
            · refine ezw_iload_n rfl rfl ?_
              refine ezw_aload_n rfl rfl ?_
              refine ezw_iload rfl rfl ?_
              refine ezw_call3_2 rfl (by omega) rfl rfl (ezs_m27_29 hI (by omega) hu14) ?_
              rintro _ _ ⟨rfl, u16, hu16, rfl⟩
              refine ezs_iadd rfl (fun u17 hu17 => ?_)
              refine ezw_istore_n rfl rfl ?_
              refine ezw_iinc (1) rfl rfl rfl rfl rfl ?_
              refine ezw_goto rfl rfl ?_
              exact ezw_keepE [true, true, true, true, true, false] (ihc6 (c6 + (1)) (by omega) ⟨by omega, by omega⟩ (by omega) u17 hu17 F A hI)
      exact ezw_keepE [true, true, true, true, true, false] (L23_6 (0) ⟨by decide, by decide⟩ (by omega) (0) ⟨by decide, by decide⟩ F A hI)
  exact ezw_keepE [true, true, true, false, false, false] (L8_1 (1) ⟨by decide, by decide⟩ (by omega)  F A hI)
theorem ezs_m193_30_29 {a2 a3 : Int} {F : Nat → Nat → Int} {A : Nat → Int → Int} (hI : ezs_I fz F0 A0 F A) (hd : 2 ≤ d) (ha2 : ezw_in a2) (ha3 : ezw_in a3) : ezw_C l ρ B xa Hb D cA 193 d [ezw_p 30, ezw_p 29, ezw_i a2, ezw_i a3] (ezu_g e F A) (ezs_Pp e F A ezs_rz) := by
  refine ezw_met (k := 0) rfl rfl ?_
  refine ezw_iload_n rfl rfl ?_
  refine ezw_iload_n rfl rfl ?_
  refine ezw_call3_2 rfl (by omega) rfl rfl (ezs_m49 hI (by omega) ha3 ha2) ?_
  rintro _ _ ⟨rfl, u1, hu1, rfl⟩
  refine ezw_if_ne rfl rfl hu1 (fun h5_1 => ?_) (fun h5_1 => ?_)
  · refine ezw_iconst (0) rfl rfl ?_
    exact ezw_ireturn rfl (ezw_zret ⟨by omega, by omega⟩) ⟨rfl, _, ⟨by omega, by omega⟩, rfl⟩
  · refine ezw_aload_n rfl rfl ?_
    refine ezw_iload_n rfl rfl ?_
    refine ezw_call3_2 rfl (by omega) rfl rfl (ezs_m27_29 hI (by omega) ha3) ?_
    rintro _ _ ⟨rfl, u2, hu2, rfl⟩
    refine ezw_if_le rfl rfl hu2 (fun h13_2 => ?_) (fun h13_2 => ?_)
    · refine ezw_iconst (0) rfl rfl ?_
      exact ezw_ireturn rfl (ezw_zret ⟨by omega, by omega⟩) ⟨rfl, _, ⟨by omega, by omega⟩, rfl⟩
    · refine ezw_aload_n rfl rfl ?_
      refine ezw_iload_n rfl rfl ?_
      refine ezw_iload_n rfl rfl ?_
      refine ezw_call0_2 rfl (by omega) (ezu_at rfl) rfl rfl rfl rfl (ezs_m191_30 hI (by omega) ha2 ha3) ?_
      rintro _ _ ⟨rfl, u3, hu3, rfl⟩
      refine ezw_if_eq rfl rfl ⟨by omega, by omega⟩ (fun h22_3 => ?_) (fun h22_3 => ?_)
      · refine ezw_iconst (0) rfl rfl ?_
        exact ezw_ireturn rfl (ezw_zret ⟨by omega, by omega⟩) ⟨rfl, _, ⟨by omega, by omega⟩, rfl⟩
      · refine ezw_iconst (1) rfl rfl ?_
        refine ezw_goto rfl rfl ?_
        exact ezw_ireturn rfl (ezw_zret ⟨by omega, by omega⟩) ⟨rfl, _, ⟨by omega, by omega⟩, rfl⟩
theorem ezs_m192_30_29 {a2 : Int} {F : Nat → Nat → Int} {A : Nat → Int → Int} (hI : ezs_I fz F0 A0 F A) (hd : 3 ≤ d) (ha2 : ezw_in a2) : ezw_C l ρ B xa Hb D cA 192 d [ezw_p 30, ezw_p 29, ezw_i a2] (ezu_g e F A) (ezs_Pp e F A ezs_ri) := by
  refine ezw_met (k := 2) rfl rfl ?_
  refine ezw_aload_n rfl rfl ?_
  refine ezs_get_i hI rfl rfl rfl rfl rfl rfl (fun u1 hu1 ku1 => ?_)
  refine ezw_istore_n rfl rfl ?_
  refine ezw_iconst (0) rfl rfl ?_
  refine ezw_istore rfl rfl ?_
  have L8_3 : ∀ c3 : Int, ezw_in c3 → (0) ≤ c3 → ∀ y2 : Int, ezw_in y2 → ezw_E l ρ B xa Hb D cA d ezq_re192 (ezs_Pp e F A ezs_ri) 8 [some (ezw_p 30), some (ezw_p 29), some (ezw_i a2), some (ezw_i y2), some (ezw_i c3)] [] (ezu_g e F A) := by
    refine ezs_up ?_
    intro c3 hc3 ihc3 gc3 y2 hy2 
    refine ezw_iload rfl rfl ?_
    refine ezw_iconst (1) rfl rfl ?_
    refine ezw_aload_n rfl rfl ?_
    refine ezs_get_i hI rfl rfl rfl rfl rfl rfl (fun u5 hu5 ku5 => ?_)
    refine ezw_ishlO rfl (fun u6 hu6 => ?_)
    refine ezw_icmp_ge rfl rfl hc3 hu6 (fun h16_6 => ?_) (fun h16_6 => ?_)
    · refine ezw_iload_n rfl rfl ?_
      exact ezw_ireturn rfl rfl ⟨rfl, _, hy2, rfl⟩
    · refine ezw_aload_n rfl rfl ?_
      refine ezw_aload_n rfl rfl ?_
      refine ezw_iload_n rfl rfl ?_
      refine ezw_iload rfl rfl ?_
      refine ezw_call0_3 rfl (by omega) (ezu_at rfl) rfl rfl rfl rfl (ezs_m193_30_29 hI (by omega) ha2 hc3) ?_
      rintro _ _ ⟨rfl, u7, hu7, rfl⟩
      refine ezw_if_eq rfl rfl ⟨by omega, by omega⟩ (fun h27_7 => ?_) (fun h27_7 => ?_)
      · refine ezw_iinc (1) rfl rfl rfl rfl rfl ?_
        refine ezw_goto rfl rfl ?_
        exact ezw_keepE [true, true, true, true, true] (ihc3 (c3 + (1)) (by omega) ⟨by omega, by omega⟩ (by omega) y2 hy2)
      · refine ezw_iload_n rfl rfl ?_
        refine ezw_iload rfl rfl ?_
        refine ezw_call2_1 rfl (by omega) rfl rfl (ezs_m132 hI (by omega) hc3) ?_
        rintro _ _ ⟨rfl, u8, hu8, rfl⟩
        refine ezw_mminE rfl hy2 hu8 rfl (fun u9 hu9 => ?_)
        refine ezw_istore_n rfl rfl ?_
        refine ezw_iinc (1) rfl rfl rfl rfl rfl ?_
        refine ezw_goto rfl rfl ?_
        exact ezw_keepE [true, true, true, true, true] (ihc3 (c3 + (1)) (by omega) ⟨by omega, by omega⟩ (by omega) u9 ⟨by omega, by omega⟩)
  exact ezw_keepE [true, true, true, true, true] (L8_3 (0) ⟨by decide, by decide⟩ (by omega) u1 hu1)
theorem ezs_m194_30_29 {a2 : Int} {F : Nat → Nat → Int} {A : Nat → Int → Int} (hI : ezs_I fz F0 A0 F A) (hd : 3 ≤ d) (ha2 : ezw_in a2) : ezw_C l ρ B xa Hb D cA 194 d [ezw_p 30, ezw_p 29, ezw_i a2] (ezu_g e F A) (ezs_Pp e F A ezs_ri) := by
  refine ezw_met (k := 2) rfl rfl ?_
  refine ezw_iconst (0) rfl rfl ?_
  refine ezw_istore_n rfl rfl ?_
  refine ezw_iconst (0) rfl rfl ?_
  refine ezw_istore rfl rfl ?_
  have L5_2 : ∀ c2 : Int, ezw_in c2 → (0) ≤ c2 → ∀ y1 : Int, ezw_in y1 → ezw_E l ρ B xa Hb D cA d ezq_re194 (ezs_Pp e F A ezs_ri) 5 [some (ezw_p 30), some (ezw_p 29), some (ezw_i a2), some (ezw_i y1), some (ezw_i c2)] [] (ezu_g e F A) := by
    refine ezs_up ?_
    intro c2 hc2 ihc2 gc2 y1 hy1 
    refine ezw_iload rfl rfl ?_
    refine ezw_iconst (1) rfl rfl ?_
    refine ezw_aload_n rfl rfl ?_
    refine ezs_get_i hI rfl rfl rfl rfl rfl rfl (fun u4 hu4 ku4 => ?_)
    refine ezw_ishlO rfl (fun u5 hu5 => ?_)
    refine ezw_icmp_ge rfl rfl hc2 hu5 (fun h13_5 => ?_) (fun h13_5 => ?_)
    · refine ezw_iload_n rfl rfl ?_
      exact ezw_ireturn rfl rfl ⟨rfl, _, hy1, rfl⟩
    · refine ezw_aload_n rfl rfl ?_
      refine ezw_aload_n rfl rfl ?_
      refine ezw_iload_n rfl rfl ?_
      refine ezw_iload rfl rfl ?_
      refine ezw_call0_3 rfl (by omega) (ezu_at rfl) rfl rfl rfl rfl (ezs_m193_30_29 hI (by omega) ha2 hc2) ?_
      rintro _ _ ⟨rfl, u6, hu6, rfl⟩
      refine ezw_if_eq rfl rfl ⟨by omega, by omega⟩ (fun h24_6 => ?_) (fun h24_6 => ?_)
      · refine ezw_iinc (1) rfl rfl rfl rfl rfl ?_
        refine ezw_goto rfl rfl ?_
        exact ezw_keepE [true, true, true, true, true] (ihc2 (c2 + (1)) (by omega) ⟨by omega, by omega⟩ (by omega) y1 hy1)
      · refine ezw_iload_n rfl rfl ?_
        refine ezw_iload rfl rfl ?_
        refine ezw_call2_1 rfl (by omega) rfl rfl (ezs_m132 hI (by omega) hc2) ?_
        rintro _ _ ⟨rfl, u7, hu7, rfl⟩
        refine ezw_mmaxE rfl hy1 hu7 rfl (fun u8 hu8 => ?_)
        refine ezw_istore_n rfl rfl ?_
        refine ezw_iinc (1) rfl rfl rfl rfl rfl ?_
        refine ezw_goto rfl rfl ?_
        exact ezw_keepE [true, true, true, true, true] (ihc2 (c2 + (1)) (by omega) ⟨by omega, by omega⟩ (by omega) u8 ⟨by omega, by omega⟩)
  exact ezw_keepE [true, true, true, true, true] (L5_2 (0) ⟨by decide, by decide⟩ (by omega) (0) ⟨by decide, by decide⟩)
end KM
