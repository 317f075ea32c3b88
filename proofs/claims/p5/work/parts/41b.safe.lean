/-! ===== the program, roughly: trees and nows ===== -/
section KM
variable {l : Launch} {ρ : ezq_E} {B : Nat} {xa : Nat → Option Nat} {Hb : Heap} {D : va_G} {cA : Nat → ClassId} {d : Nat} {e : Bool × Bool} {fz : Nat → Bool} {F0 : Nat → Nat → Int} {A0 : Nat → Int → Int}
theorem ezs_m27_46 {a1 : Int} {F : Nat → Nat → Int} {A : Nat → Int → Int} (hI : ezs_I fz F0 A0 F A) (hd : 0 ≤ d) (ha1 : ezw_in a1) : ezw_C l ρ B xa Hb D cA 27 d [ezw_p 46, ezw_i a1] (ezu_g e F A) (ezs_Pp e F A ezs_ri) := by
  refine ezw_met (k := 0) rfl rfl ?_
  refine ezw_aload_n rfl rfl ?_
  refine ezw_ifnull rfl ?_
  refine ezw_iload_n rfl rfl ?_
  refine ezw_if_lt rfl rfl ha1 (fun h5_0 => ?_) (fun h5_0 => ?_)
  · refine ezw_iconst (0) rfl rfl ?_
    exact ezw_ireturn rfl rfl ⟨rfl, _, ⟨by decide, by decide⟩, rfl⟩
  · refine ezw_iload_n rfl rfl ?_
    refine ezw_aload_n rfl rfl ?_
    refine ezs_alen (k := 480) rfl rfl rfl rfl (by decide) (by decide) ?_
    refine ezw_icmp_ge rfl rfl ha1 ⟨by decide, by decide⟩ (fun h11_0 => ?_) (fun h11_0 => ?_)
    · refine ezw_iconst (0) rfl rfl ?_
      exact ezw_ireturn rfl rfl ⟨rfl, _, ⟨by decide, by decide⟩, rfl⟩
    · refine ezw_aload_n rfl rfl ?_
      refine ezw_iload_n rfl rfl ?_
      refine ezs_iaload hI rfl rfl rfl (by omega) (by omega) (by decide) (fun u1 hu1 ku1 => ?_)
      refine ezw_goto rfl rfl ?_
      exact ezw_ireturn rfl rfl ⟨rfl, _, hu1, rfl⟩
theorem ezs_m116_30 {a1 a2 a3 a4 : Int} {F : Nat → Nat → Int} {A : Nat → Int → Int} (hI : ezs_I fz F0 A0 F A) (hd : 1 ≤ d) (ha1 : ezw_in a1) (ha2 : ezw_in a2) (ha3 : ezw_in a3) (ha4 : ezw_in a4) : ezw_C l ρ B xa Hb D cA 116 d [ezw_p 30, ezw_i a1, ezw_i a2, ezw_i a3, ezw_i a4] (ezu_g e F A) (ezs_Pp e F A ezs_ri) := by
  refine ezw_met (k := 0) rfl rfl ?_
  refine ezw_aload_n rfl rfl ?_
  refine ezs_getp (p := 46) rfl rfl rfl rfl rfl ?_
  refine ezw_iload_n rfl rfl ?_
  refine ezw_iload_n rfl rfl ?_
  refine ezw_iload_n rfl rfl ?_
  refine ezw_aload_n rfl rfl ?_
  refine ezs_getp (p := 33) rfl rfl rfl rfl rfl ?_
  refine ezw_iload_n rfl rfl ?_
  refine ezw_call3_2 rfl (by omega) rfl rfl (ezs_m27_33 hI (by omega) ha1) ?_
  rintro _ _ ⟨rfl, u1, hu1, rfl⟩
  refine ezw_call3_2 rfl (by omega) rfl rfl (ezs_m114 hI (by omega) ha3 hu1) ?_
  rintro _ _ ⟨rfl, u2, hu2, rfl⟩
  refine ezw_iload rfl rfl ?_
  refine ezw_if_eq rfl rfl ha4 (fun h20_2 => ?_) (fun h20_2 => ?_)
  · refine ezw_iconst (0) rfl rfl ?_
    refine ezw_call2_4 rfl (by omega) rfl rfl (ezs_m92 hI (by omega) ha1 ha2 hu2 ⟨by decide, by decide⟩) ?_
    rintro _ _ ⟨rfl, u3, hu3, rfl⟩
    refine ezw_call3_2 rfl (by omega) rfl rfl (ezs_m27_46 hI (by omega) hu3) ?_
    rintro _ _ ⟨rfl, u4, hu4, rfl⟩
    exact ezw_ireturn rfl rfl ⟨rfl, _, hu4, rfl⟩
  · refine ezw_iconst (1) rfl rfl ?_
    refine ezw_goto rfl rfl ?_
    refine ezw_call2_4 rfl (by omega) rfl rfl (ezs_m92 hI (by omega) ha1 ha2 hu2 ⟨by decide, by decide⟩) ?_
    rintro _ _ ⟨rfl, u5, hu5, rfl⟩
    refine ezw_call3_2 rfl (by omega) rfl rfl (ezs_m27_46 hI (by omega) hu5) ?_
    rintro _ _ ⟨rfl, u6, hu6, rfl⟩
    exact ezw_ireturn rfl rfl ⟨rfl, _, hu6, rfl⟩
theorem ezs_m27_35 {a1 : Int} {F : Nat → Nat → Int} {A : Nat → Int → Int} (hI : ezs_I fz F0 A0 F A) (hd : 0 ≤ d) (ha1 : ezw_in a1) : ezw_C l ρ B xa Hb D cA 27 d [ezw_p 35, ezw_i a1] (ezu_g e F A) (ezs_Pp e F A ezs_ri) := by
  refine ezw_met (k := 0) rfl rfl ?_
  refine ezw_aload_n rfl rfl ?_
  refine ezw_ifnull rfl ?_
  refine ezw_iload_n rfl rfl ?_
  refine ezw_if_lt rfl rfl ha1 (fun h5_0 => ?_) (fun h5_0 => ?_)
  · refine ezw_iconst (0) rfl rfl ?_
    exact ezw_ireturn rfl rfl ⟨rfl, _, ⟨by decide, by decide⟩, rfl⟩
  · refine ezw_iload_n rfl rfl ?_
    refine ezw_aload_n rfl rfl ?_
    refine ezs_alen (k := 4) rfl rfl rfl rfl (by decide) (by decide) ?_
    refine ezw_icmp_ge rfl rfl ha1 ⟨by decide, by decide⟩ (fun h11_0 => ?_) (fun h11_0 => ?_)
    · refine ezw_iconst (0) rfl rfl ?_
      exact ezw_ireturn rfl rfl ⟨rfl, _, ⟨by decide, by decide⟩, rfl⟩
    · refine ezw_aload_n rfl rfl ?_
      refine ezw_iload_n rfl rfl ?_
      refine ezs_iaload hI rfl rfl rfl (by omega) (by omega) (by decide) (fun u1 hu1 ku1 => ?_)
      refine ezw_goto rfl rfl ?_
      exact ezw_ireturn rfl rfl ⟨rfl, _, hu1, rfl⟩
theorem ezs_m144_30 {a1 : Int} {F : Nat → Nat → Int} {A : Nat → Int → Int} (hI : ezs_I fz F0 A0 F A) (hd : 1 ≤ d) (ha1 : ezw_in a1) : ezw_C l ρ B xa Hb D cA 144 d [ezw_p 30, ezw_i a1] (ezu_g e F A) (ezs_Pp e F A ezs_ri) := by
  refine ezw_met (k := 2) rfl rfl ?_
  refine ezw_iconst (0) rfl rfl ?_
  refine ezw_istore_n rfl rfl ?_
  refine ezw_iconst (0) rfl rfl ?_
  refine ezw_istore_n rfl rfl ?_
  have L4_2 : ∀ c2 : Int, ezw_in c2 → (0) ≤ c2 → ∀ y1 : Int, ezw_in y1 → ezw_E l ρ B xa Hb D cA d ezq_re144 (ezs_Pp e F A ezs_ri) 4 [some (ezw_p 30), some (ezw_i a1), some (ezw_i y1), some (ezw_i c2)] [] (ezu_g e F A) := by
    refine ezs_up ?_
    intro c2 hc2 ihc2 gc2 y1 hy1 
    refine ezw_iload_n rfl rfl ?_
    refine ezw_aload_n rfl rfl ?_
    refine ezs_get_i hI rfl rfl rfl rfl rfl rfl (fun u4 hu4 ku4 => ?_)
    refine ezw_icmp_ge rfl rfl hc2 hu4 (fun h9_4 => ?_) (fun h9_4 => ?_)
    · refine ezw_iload_n rfl rfl ?_
      exact ezw_ireturn rfl rfl ⟨rfl, _, hy1, rfl⟩
    · refine ezw_iload_n rfl rfl ?_
      refine ezw_iload_n rfl rfl ?_
      refine ezw_call3_2 rfl (by omega) rfl rfl (ezs_m49 hI (by omega) ha1 hc2) ?_
      rintro _ _ ⟨rfl, u5, hu5, rfl⟩
      refine ezw_iconst (1) rfl rfl ?_
      refine ezw_icmp_ne rfl rfl hu5 ⟨by decide, by decide⟩ (fun h18_5 => ?_) (fun h18_5 => ?_)
      · refine ezw_iinc (1) rfl rfl rfl rfl rfl ?_
        refine ezw_goto rfl rfl ?_
        exact ezw_keepE [true, true, true, true] (ihc2 (c2 + (1)) (by omega) ⟨by omega, by omega⟩ (by omega) y1 hy1)
      · refine ezw_iload_n rfl rfl ?_
        refine ezw_aload_n rfl rfl ?_
        refine ezs_getp (p := 35) rfl rfl rfl rfl rfl ?_
        refine ezw_iload_n rfl rfl ?_
        refine ezw_call3_2 rfl (by omega) rfl rfl (ezs_m27_35 hI (by omega) hc2) ?_
        rintro _ _ ⟨rfl, u6, hu6, rfl⟩
        refine ezs_iadd rfl (fun u7 hu7 => ?_)
        refine ezw_istore_n rfl rfl ?_
        refine ezw_iinc (1) rfl rfl rfl rfl rfl ?_
        refine ezw_goto rfl rfl ?_
        exact ezw_keepE [true, true, true, true] (ihc2 (c2 + (1)) (by omega) ⟨by omega, by omega⟩ (by omega) u7 hu7)
  exact ezw_keepE [true, true, true, true] (L4_2 (0) ⟨by decide, by decide⟩ (by omega) (0) ⟨by decide, by decide⟩)
theorem ezs_m54_40 {a1 : Int} {F : Nat → Nat → Int} {A : Nat → Int → Int} (hI : ezs_I fz F0 A0 F A) (hd : 0 ≤ d) (ha1 : ezw_in a1) : ezw_C l ρ B xa Hb D cA 54 d [ezw_p 40, ezw_i a1] (ezu_g e F A) (ezs_Pp e F A ezs_rl) := by
  refine ezw_met (k := 0) rfl rfl ?_
  refine ezw_aload_n rfl rfl ?_
  refine ezw_ifnull rfl ?_
  refine ezw_iload_n rfl rfl ?_
  refine ezw_if_lt rfl rfl ha1 (fun h5_0 => ?_) (fun h5_0 => ?_)
  · refine ezw_lconst (0) rfl rfl ?_
    exact ezw_lreturn rfl rfl ⟨rfl, _, ⟨by decide, by decide⟩, rfl⟩
  · refine ezw_iload_n rfl rfl ?_
    refine ezw_aload_n rfl rfl ?_
    refine ezs_alen (k := 8) rfl rfl rfl rfl (by decide) (by decide) ?_
    refine ezw_icmp_ge rfl rfl ha1 ⟨by decide, by decide⟩ (fun h11_0 => ?_) (fun h11_0 => ?_)
    · refine ezw_lconst (0) rfl rfl ?_
      exact ezw_lreturn rfl rfl ⟨rfl, _, ⟨by decide, by decide⟩, rfl⟩
    · refine ezw_aload_n rfl rfl ?_
      refine ezw_iload_n rfl rfl ?_
      refine ezs_laload hI rfl rfl rfl (by omega) (by omega) (by decide) (fun u1 hu1 => ?_)
      refine ezw_goto rfl rfl ?_
      exact ezw_lreturn rfl rfl ⟨rfl, _, hu1, rfl⟩
theorem ezs_m53_30 {a1 : Int} {F : Nat → Nat → Int} {A : Nat → Int → Int} (hI : ezs_I fz F0 A0 F A) (hd : 1 ≤ d) (ha1 : ezw_il a1) : ezw_C l ρ B xa Hb D cA 53 d [ezw_p 30, ezw_l a1] (ezu_g e F A) (ezs_Pp e F A ezs_ri) := by
  refine ezw_met (k := 1) rfl rfl ?_
  refine ezw_iconst (0) rfl rfl ?_
  refine ezw_istore_n rfl rfl ?_
  have L2_1 : ∀ c1 : Int, ezw_in c1 → (0) ≤ c1 → ezw_E l ρ B xa Hb D cA d ezq_re53 (ezs_Pp e F A ezs_ri) 2 [some (ezw_p 30), some (ezw_l a1), none, some (ezw_i c1)] [] (ezu_g e F A) := by
    refine ezs_up ?_
    intro c1 hc1 ihc1 gc1 
    refine ezw_iload_n rfl rfl ?_
    refine ezw_aload_n rfl rfl ?_
    refine ezs_get_i hI rfl rfl rfl rfl rfl rfl (fun u3 hu3 ku3 => ?_)
    refine ezw_icmp_ge rfl rfl hc1 hu3 (fun h7_3 => ?_) (fun h7_3 => ?_)
    · refine ezw_iconst (-1) rfl rfl ?_
      exact ezw_ireturn rfl rfl ⟨rfl, _, ⟨by decide, by decide⟩, rfl⟩
    · refine ezw_aload_n rfl rfl ?_
      refine ezs_getp (p := 40) rfl rfl rfl rfl rfl ?_
      refine ezw_iload_n rfl rfl ?_
      refine ezw_call3_2 rfl (by omega) rfl rfl (ezs_m54_40 hI (by omega) hc1) ?_
      rintro _ _ ⟨rfl, u4, hu4, rfl⟩
      refine ezw_lload_n rfl rfl ?_
      refine ezw_lcmpE rfl hu4 ha1 (fun u5 hu5 => ?_)
      refine ezw_if_ne rfl rfl ⟨by omega, by omega⟩ (fun h20_5 => ?_) (fun h20_5 => ?_)
      · refine ezw_iinc (1) rfl rfl rfl rfl rfl ?_
        refine ezw_goto rfl rfl ?_
        exact ezw_keepE [true, true, false, true] (ihc1 (c1 + (1)) (by omega) ⟨by omega, by omega⟩ (by omega) )
      · refine ezw_iload_n rfl rfl ?_
        exact ezw_ireturn rfl rfl ⟨rfl, _, hc1, rfl⟩
  exact ezw_keepE [true, true, false, true] (L2_1 (0) ⟨by decide, by decide⟩ (by omega) )
theorem ezs_m54_41 {a1 : Int} {F : Nat → Nat → Int} {A : Nat → Int → Int} (hI : ezs_I fz F0 A0 F A) (hd : 0 ≤ d) (ha1 : ezw_in a1) : ezw_C l ρ B xa Hb D cA 54 d [ezw_p 41, ezw_i a1] (ezu_g e F A) (ezs_Pp e F A ezs_rl) := by
  refine ezw_met (k := 0) rfl rfl ?_
  refine ezw_aload_n rfl rfl ?_
  refine ezw_ifnull rfl ?_
  refine ezw_iload_n rfl rfl ?_
  refine ezw_if_lt rfl rfl ha1 (fun h5_0 => ?_) (fun h5_0 => ?_)
  · refine ezw_lconst (0) rfl rfl ?_
    exact ezw_lreturn rfl rfl ⟨rfl, _, ⟨by decide, by decide⟩, rfl⟩
  · refine ezw_iload_n rfl rfl ?_
    refine ezw_aload_n rfl rfl ?_
    refine ezs_alen (k := 4) rfl rfl rfl rfl (by decide) (by decide) ?_
    refine ezw_icmp_ge rfl rfl ha1 ⟨by decide, by decide⟩ (fun h11_0 => ?_) (fun h11_0 => ?_)
    · refine ezw_lconst (0) rfl rfl ?_
      exact ezw_lreturn rfl rfl ⟨rfl, _, ⟨by decide, by decide⟩, rfl⟩
    · refine ezw_aload_n rfl rfl ?_
      refine ezw_iload_n rfl rfl ?_
      refine ezs_laload hI rfl rfl rfl (by omega) (by omega) (by decide) (fun u1 hu1 => ?_)
      refine ezw_goto rfl rfl ?_
      exact ezw_lreturn rfl rfl ⟨rfl, _, hu1, rfl⟩
theorem ezs_m55_30 {a1 : Int} {F : Nat → Nat → Int} {A : Nat → Int → Int} (hI : ezs_I fz F0 A0 F A) (hd : 1 ≤ d) (ha1 : ezw_il a1) : ezw_C l ρ B xa Hb D cA 55 d [ezw_p 30, ezw_l a1] (ezu_g e F A) (ezs_Pp e F A ezs_ri) := by
  refine ezw_met (k := 1) rfl rfl ?_
  refine ezw_iconst (0) rfl rfl ?_
  refine ezw_istore_n rfl rfl ?_
  have L2_1 : ∀ c1 : Int, ezw_in c1 → (0) ≤ c1 → ezw_E l ρ B xa Hb D cA d ezq_re55 (ezs_Pp e F A ezs_ri) 2 [some (ezw_p 30), some (ezw_l a1), none, some (ezw_i c1)] [] (ezu_g e F A) := by
    refine ezs_up ?_
    intro c1 hc1 ihc1 gc1 
    refine ezw_iload_n rfl rfl ?_
    refine ezw_aload_n rfl rfl ?_
    refine ezs_get_i hI rfl rfl rfl rfl rfl rfl (fun u3 hu3 ku3 => ?_)
    refine ezw_icmp_ge rfl rfl hc1 hu3 (fun h7_3 => ?_) (fun h7_3 => ?_)
    · refine ezw_iconst (-1) rfl rfl ?_
      exact ezw_ireturn rfl rfl ⟨rfl, _, ⟨by decide, by decide⟩, rfl⟩
    · refine ezw_aload_n rfl rfl ?_
      refine ezs_getp (p := 41) rfl rfl rfl rfl rfl ?_
      refine ezw_iload_n rfl rfl ?_
      refine ezw_call3_2 rfl (by omega) rfl rfl (ezs_m54_41 hI (by omega) hc1) ?_
      rintro _ _ ⟨rfl, u4, hu4, rfl⟩
      refine ezw_lload_n rfl rfl ?_
      refine ezw_lcmpE rfl hu4 ha1 (fun u5 hu5 => ?_)
      refine ezw_if_ne rfl rfl ⟨by omega, by omega⟩ (fun h20_5 => ?_) (fun h20_5 => ?_)
      · refine ezw_iinc (1) rfl rfl rfl rfl rfl ?_
        refine ezw_goto rfl rfl ?_
        exact ezw_keepE [true, true, false, true] (ihc1 (c1 + (1)) (by omega) ⟨by omega, by omega⟩ (by omega) )
      · refine ezw_iload_n rfl rfl ?_
        exact ezw_ireturn rfl rfl ⟨rfl, _, hc1, rfl⟩
  exact ezw_keepE [true, true, false, true] (L2_1 (0) ⟨by decide, by decide⟩ (by omega) )
theorem ezs_m107 {a0 : Int} {F : Nat → Nat → Int} {A : Nat → Int → Int} (hI : ezs_I fz F0 A0 F A) (hd : 1 ≤ d) (ha0 : ezw_in a0) : ezw_C l ρ B xa Hb D cA 107 d [ezw_i a0] (ezu_g e F A) (ezs_Pp e F A ezs_ri) := by
  refine ezw_met (k := 1) rfl rfl ?_
  refine ezw_iconst (5) rfl rfl ?_
  refine ezw_istore_n rfl rfl ?_
  have L2_1 : ∀ c1 : Int, ezw_in c1 → c1 ≤ (5) → ezw_E l ρ B xa Hb D cA d ezq_re107 (ezs_Pp e F A ezs_ri) 2 [some (ezw_i a0), some (ezw_i c1)] [] (ezu_g e F A) := by
    refine ezs_dn ?_
    intro c1 hc1 ihc1 gc1 
    refine ezw_iload_n rfl rfl ?_
    refine ezw_if_lt rfl rfl hc1 (fun h3_2 => ?_) (fun h3_2 => ?_)
    · refine ezw_iconst (-1) rfl rfl ?_
      exact ezw_ireturn rfl rfl ⟨rfl, _, ⟨by decide, by decide⟩, rfl⟩
    · refine ezw_iload_n rfl rfl ?_
      refine ezw_iload_n rfl rfl ?_
      refine ezw_call3_2 rfl (by omega) rfl rfl (ezs_m49 hI (by omega) ha0 hc1) ?_
      rintro _ _ ⟨rfl, u3, hu3, rfl⟩
      refine ezw_iconst (1) rfl rfl ?_
      refine ezw_icmp_ne rfl rfl hu3 ⟨by decide, by decide⟩ (fun h12_3 => ?_) (fun h12_3 => ?_)
      · refine ezw_iinc (-1) rfl rfl rfl rfl rfl ?_
        refine ezw_goto rfl rfl ?_
        exact ezw_keepE [true, true] (ihc1 (c1 + (-1)) (by omega) ⟨by omega, by omega⟩ (by omega) )
      · refine ezw_iload_n rfl rfl ?_
        exact ezw_ireturn rfl rfl ⟨rfl, _, hc1, rfl⟩
  exact ezw_keepE [true, true] (L2_1 (5) ⟨by decide, by decide⟩ (by omega) )
theorem ezs_m27_36 {a1 : Int} {F : Nat → Nat → Int} {A : Nat → Int → Int} (hI : ezs_I fz F0 A0 F A) (hd : 0 ≤ d) (ha1 : ezw_in a1) : ezw_C l ρ B xa Hb D cA 27 d [ezw_p 36, ezw_i a1] (ezu_g e F A) (ezs_Pp e F A ezs_ri) := by
  refine ezw_met (k := 0) rfl rfl ?_
  refine ezw_aload_n rfl rfl ?_
  refine ezw_ifnull rfl ?_
  refine ezw_iload_n rfl rfl ?_
  refine ezw_if_lt rfl rfl ha1 (fun h5_0 => ?_) (fun h5_0 => ?_)
  · refine ezw_iconst (0) rfl rfl ?_
    exact ezw_ireturn rfl rfl ⟨rfl, _, ⟨by decide, by decide⟩, rfl⟩
  · refine ezw_iload_n rfl rfl ?_
    refine ezw_aload_n rfl rfl ?_
    refine ezs_alen (k := 4) rfl rfl rfl rfl (by decide) (by decide) ?_
    refine ezw_icmp_ge rfl rfl ha1 ⟨by decide, by decide⟩ (fun h11_0 => ?_) (fun h11_0 => ?_)
    · refine ezw_iconst (0) rfl rfl ?_
      exact ezw_ireturn rfl rfl ⟨rfl, _, ⟨by decide, by decide⟩, rfl⟩
    · refine ezw_aload_n rfl rfl ?_
      refine ezw_iload_n rfl rfl ?_
      refine ezs_iaload hI rfl rfl rfl (by omega) (by omega) (by decide) (fun u1 hu1 ku1 => ?_)
      refine ezw_goto rfl rfl ?_
      exact ezw_ireturn rfl rfl ⟨rfl, _, hu1, rfl⟩
theorem ezs_m27_37 {a1 : Int} {F : Nat → Nat → Int} {A : Nat → Int → Int} (hI : ezs_I fz F0 A0 F A) (hd : 0 ≤ d) (ha1 : ezw_in a1) : ezw_C l ρ B xa Hb D cA 27 d [ezw_p 37, ezw_i a1] (ezu_g e F A) (ezs_Pp e F A ezs_ri) := by
  refine ezw_met (k := 0) rfl rfl ?_
  refine ezw_aload_n rfl rfl ?_
  refine ezw_ifnull rfl ?_
  refine ezw_iload_n rfl rfl ?_
  refine ezw_if_lt rfl rfl ha1 (fun h5_0 => ?_) (fun h5_0 => ?_)
  · refine ezw_iconst (0) rfl rfl ?_
    exact ezw_ireturn rfl rfl ⟨rfl, _, ⟨by decide, by decide⟩, rfl⟩
  · refine ezw_iload_n rfl rfl ?_
    refine ezw_aload_n rfl rfl ?_
    refine ezs_alen (k := 4) rfl rfl rfl rfl (by decide) (by decide) ?_
    refine ezw_icmp_ge rfl rfl ha1 ⟨by decide, by decide⟩ (fun h11_0 => ?_) (fun h11_0 => ?_)
    · refine ezw_iconst (0) rfl rfl ?_
      exact ezw_ireturn rfl rfl ⟨rfl, _, ⟨by decide, by decide⟩, rfl⟩
    · refine ezw_aload_n rfl rfl ?_
      refine ezw_iload_n rfl rfl ?_
      refine ezs_iaload hI rfl rfl rfl (by omega) (by omega) (by decide) (fun u1 hu1 ku1 => ?_)
      refine ezw_goto rfl rfl ?_
      exact ezw_ireturn rfl rfl ⟨rfl, _, hu1, rfl⟩
theorem ezs_m129_30 {a1 a2 : Int} {F : Nat → Nat → Int} {A : Nat → Int → Int} (hI : ezs_I fz F0 A0 F A) (hd : 2 ≤ d) (ha1 : ezw_in a1) (ha2 : ezw_in a2) : ezw_C l ρ B xa Hb D cA 129 d [ezw_p 30, ezw_i a1, ezw_i a2] (ezu_g e F A) (ezs_Pp e F A ezs_ri) := by
  refine ezw_met (k := 1) rfl rfl ?_
  refine ezw_iload_n rfl rfl ?_
  refine ezw_bipush (20) rfl rfl ?_
  have J17_1 : ∀ y1 : Int, ezs_b y1 → ezw_E l ρ B xa Hb D cA d ezq_re129 (ezs_Pp e F A ezs_ri) 17 [some (ezw_p 30), some (ezw_i a1), some (ezw_i a2), none] [(ezw_i y1)] (ezu_g e F A) := by
    intro y1 hy1 
    refine ezw_istore_n rfl rfl ?_
    refine ezw_iload_n rfl rfl ?_
    refine ezw_if_eq rfl rfl ⟨by omega, by omega⟩ (fun h19_2 => ?_) (fun h19_2 => ?_)
    · refine ezw_iload_n rfl rfl ?_
      exact ezw_ireturn rfl rfl ⟨rfl, _, ha2, rfl⟩
    · refine ezw_iconst (0) rfl rfl ?_
      refine ezw_iload_n rfl rfl ?_
      refine ezw_aload_n rfl rfl ?_
      refine ezw_bipush (6) rfl rfl ?_
      refine ezw_call0_1 rfl (by omega) (ezu_at rfl) rfl rfl rfl rfl (ezs_m95_30 hI (by omega) ⟨by decide, by decide⟩) ?_
      rintro _ _ ⟨rfl, u3, hu3, rfl⟩
      refine ezs_isub rfl (fun u4 hu4 => ?_)
      refine ezw_mmaxE rfl ⟨by decide, by decide⟩ hu4 rfl (fun u5 hu5 => ?_)
      refine ezw_goto rfl rfl ?_
      exact ezw_ireturn rfl rfl ⟨rfl, _, ⟨by omega, by omega⟩, rfl⟩
  refine ezw_icmp_ge rfl rfl ha1 ⟨by decide, by decide⟩ (fun h3_0 => ?_) (fun h3_0 => ?_)
  · refine ezw_iconst (1) rfl rfl ?_
    refine ezw_goto rfl rfl ?_
    exact ezw_keepE [true, true, true, false] (J17_1 (1) ⟨by omega, by omega⟩)
  · refine ezw_iload_n rfl rfl ?_
    refine ezw_bipush (6) rfl rfl ?_
    refine ezw_icmp_ge rfl rfl ha1 ⟨by decide, by decide⟩ (fun h9_5 => ?_) (fun h9_5 => ?_)
    · refine ezw_iconst (0) rfl rfl ?_
      exact ezw_keepE [true, true, true, false] (J17_1 (0) ⟨by omega, by omega⟩)
    · refine ezw_iconst (1) rfl rfl ?_
      refine ezw_goto rfl rfl ?_
      exact ezw_keepE [true, true, true, false] (J17_1 (1) ⟨by omega, by omega⟩)
theorem ezs_m143_13_30 {F : Nat → Nat → Int} {A : Nat → Int → Int} (hI : ezs_I fz F0 A0 F A) (hd : 2 ≤ d) : ezw_C l ρ B xa Hb D cA 143 d [ezw_p 13, ezw_p 30] (ezu_g e F A) (ezs_Pp e F A ezs_ri) := by
  refine ezw_met (k := 1) rfl rfl ?_
  refine ezw_aload_n rfl rfl ?_
  refine ezw_aload_n rfl rfl ?_
  refine ezs_get_i hI rfl rfl rfl rfl rfl rfl (fun u1 hu1 ku1 => ?_)
  refine ezw_call0_1 rfl (by omega) (ezu_at rfl) rfl rfl rfl rfl (ezs_m144_30 hI (by omega) hu1) ?_
  rintro _ _ ⟨rfl, u2, hu2, rfl⟩
  refine ezw_istore_n rfl rfl ?_
  refine ezw_aload_n rfl rfl ?_
  refine ezs_get_i hI rfl rfl rfl rfl rfl rfl (fun u3 hu3 ku3 => ?_)
  refine ezw_iconst (1) rfl rfl ?_
  refine ezw_icmp_ne rfl rfl hu3 ⟨by decide, by decide⟩ (fun h14_3 => ?_) (fun h14_3 => ?_)
  · refine ezw_iload_n rfl rfl ?_
    exact ezw_ireturn rfl rfl ⟨rfl, _, hu2, rfl⟩
  · refine ezw_aload_n rfl rfl ?_
    refine ezs_get_i hI rfl rfl rfl rfl rfl rfl (fun u4 hu4 ku4 => ?_)
    refine ezw_if_le rfl rfl hu4 (fun h21_4 => ?_) (fun h21_4 => ?_)
    · refine ezw_iload_n rfl rfl ?_
      exact ezw_ireturn rfl rfl ⟨rfl, _, hu2, rfl⟩
    · refine ezw_iload_n rfl rfl ?_
      refine ezw_aload_n rfl rfl ?_
      refine ezw_iconst (0) rfl rfl ?_
      refine ezw_call0_1 rfl (by omega) (ezu_at rfl) rfl rfl rfl rfl (ezs_m95_30 hI (by omega) ⟨by decide, by decide⟩) ?_
      rintro _ _ ⟨rfl, u5, hu5, rfl⟩
      refine ezs_iadd rfl (fun u6 hu6 => ?_)
      refine ezw_goto rfl rfl ?_
      exact ezw_ireturn rfl rfl ⟨rfl, _, hu6, rfl⟩
theorem ezs_m106_26_30 {F : Nat → Nat → Int} {A : Nat → Int → Int} (hI : ezs_I fz F0 A0 F A) (hd : 2 ≤ d) : ezw_C l ρ B xa Hb D cA 106 d [ezw_p 26, ezw_p 30] (ezu_g e F A) (ezs_Pp e F A ezs_ri) := by
  refine ezw_met (k := 0) rfl rfl ?_
  refine ezw_aload_n rfl rfl ?_
  refine ezw_aload_n rfl rfl ?_
  refine ezs_get_i hI rfl rfl rfl rfl rfl rfl (fun u1 hu1 ku1 => ?_)
  refine ezw_call2_1 rfl (by omega) rfl rfl (ezs_m107 hI (by omega) hu1) ?_
  rintro _ _ ⟨rfl, u2, hu2, rfl⟩
  refine ezw_call0_1 rfl (by omega) (ezu_at rfl) rfl rfl rfl rfl (ezs_m108_30 hI (by omega) hu2) ?_
  rintro _ _ ⟨rfl, u3, hu3, rfl⟩
  exact ezw_ireturn rfl rfl ⟨rfl, _, hu3, rfl⟩
theorem ezs_m109_26_30 {a2 : Int} {F : Nat → Nat → Int} {A : Nat → Int → Int} (hI : ezs_I fz F0 A0 F A) (hd : 2 ≤ d) (ha2 : ezw_in a2) : ezw_C l ρ B xa Hb D cA 109 d [ezw_p 26, ezw_p 30, ezw_i a2] (ezu_g e F A) (ezs_Pp e F A ezs_ri) := by
  refine ezw_met (k := 1) rfl rfl ?_
  refine ezw_iconst (0) rfl rfl ?_
  refine ezw_istore_n rfl rfl ?_
  have L2_1 : ∀ c1 : Int, ezw_in c1 → (0) ≤ c1 → ezw_E l ρ B xa Hb D cA d ezq_re109 (ezs_Pp e F A ezs_ri) 2 [some (ezw_p 26), some (ezw_p 30), some (ezw_i a2), some (ezw_i c1)] [] (ezu_g e F A) := by
    refine ezs_up ?_
    intro c1 hc1 ihc1 gc1 
    refine ezw_iload_n rfl rfl ?_
    refine ezw_bipush (6) rfl rfl ?_
    refine ezw_icmp_ge rfl rfl hc1 ⟨by decide, by decide⟩ (fun h5_2 => ?_) (fun h5_2 => ?_)
    · refine ezw_iconst (-1) rfl rfl ?_
      exact ezw_ireturn rfl rfl ⟨rfl, _, ⟨by decide, by decide⟩, rfl⟩
    · refine ezw_aload_n rfl rfl ?_
      refine ezs_get_i hI rfl rfl rfl rfl rfl rfl (fun u3 hu3 ku3 => ?_)
      refine ezw_iload_n rfl rfl ?_
      refine ezw_call3_2 rfl (by omega) rfl rfl (ezs_m49 hI (by omega) hu3 hc1) ?_
      rintro _ _ ⟨rfl, u4, hu4, rfl⟩
      refine ezw_iconst (1) rfl rfl ?_
      refine ezw_icmp_ne rfl rfl hu4 ⟨by decide, by decide⟩ (fun h17_4 => ?_) (fun h17_4 => ?_)
      · refine ezw_iinc (1) rfl rfl rfl rfl rfl ?_
        refine ezw_goto rfl rfl ?_
        exact ezw_keepE [true, true, true, true] (ihc1 (c1 + (1)) (by omega) ⟨by omega, by omega⟩ (by omega) )
      · refine ezw_aload_n rfl rfl ?_
        refine ezw_iload_n rfl rfl ?_
        refine ezw_call0_1 rfl (by omega) (ezu_at rfl) rfl rfl rfl rfl (ezs_m108_30 hI (by omega) hc1) ?_
        rintro _ _ ⟨rfl, u5, hu5, rfl⟩
        refine ezw_iload_n rfl rfl ?_
        refine ezw_icmp_ne rfl rfl hu5 ha2 (fun h26_5 => ?_) (fun h26_5 => ?_)
        · refine ezw_iinc (1) rfl rfl rfl rfl rfl ?_
          refine ezw_goto rfl rfl ?_
          exact ezw_keepE [true, true, true, true] (ihc1 (c1 + (1)) (by omega) ⟨by omega, by omega⟩ (by omega) )
        · refine ezw_iload_n rfl rfl ?_
          exact ezw_ireturn rfl rfl ⟨rfl, _, hc1, rfl⟩
  exact ezw_keepE [true, true, true, true] (L2_1 (0) ⟨by decide, by decide⟩ (by omega) )
theorem ezs_m122_26 {a1 : Int} {F : Nat → Nat → Int} {A : Nat → Int → Int} (hI : ezs_I fz F0 A0 F A) (hd : 2 ≤ d) (hzA : ∀ q, 26 ≤ q → q < 27 → fz q = false) (ha1 : ezw_in a1) : ezw_C l ρ B xa Hb D cA 122 d [ezw_p 26, ezw_i a1] (ezu_g e F A) (ezs_P e fz F0 A0 ezs_rn) := by
  refine ezw_met (k := 0) rfl rfl ?_
  refine ezw_iload_n rfl rfl ?_
  refine ezw_aload_n rfl rfl ?_
  refine ezs_get_i hI rfl rfl rfl rfl rfl rfl (fun u1 hu1 ku1 => ?_)
  refine ezw_call2_1 rfl (by omega) rfl rfl (ezs_m107 hI (by omega) hu1) ?_
  rintro _ _ ⟨rfl, u2, hu2, rfl⟩
  have J16_2 : ∀ F A, ezs_I fz F0 A0 F A → ezw_E l ρ B xa Hb D cA d ezq_re122 (ezs_P e fz F0 A0 ezs_rn) 16 [some (ezw_p 26), some (ezw_i a1)] [] (ezu_g e F A) := by
    intro F A hI
    refine ezw_aload_n rfl rfl ?_
    refine ezw_dup rfl rfl ?_
    refine ezs_get_i hI rfl rfl rfl rfl rfl rfl (fun u4 hu4 ku4 => ?_)
    refine ezw_iconst (1) rfl rfl ?_
    refine ezw_iload_n rfl rfl ?_
    refine ezw_ishlO rfl (fun u5 hu5 => ?_)
    refine ezw_iconst (-1) rfl rfl ?_
    refine ezs_ixor rfl (fun u6 hu6 => ?_)
    refine ezs_iand rfl (fun u7 hu7 => ?_)
    refine ezs_put_i hI rfl rfl rfl rfl rfl (hzA 26 (by decide) (by decide)) hu7 (fun F A hI => ?_)
    refine ezw_aload_n rfl rfl ?_
    refine ezs_get_i hI rfl rfl rfl rfl rfl rfl (fun u8 hu8 ku8 => ?_)
    refine ezw_if_ne rfl rfl hu8 (fun h34_8 => ?_) (fun h34_8 => ?_)
    · exact ezw_return rfl rfl ⟨⟨F, A, rfl, hI⟩, rfl⟩
    · refine ezw_aload_n rfl rfl ?_
      refine ezw_iconst (1) rfl rfl ?_
      refine ezs_put_i hI rfl rfl rfl rfl rfl (hzA 26 (by decide) (by decide)) ⟨by decide, by decide⟩ (fun F A hI => ?_)
      exact ezw_return rfl rfl ⟨⟨F, A, rfl, hI⟩, rfl⟩
  refine ezw_icmp_ne rfl rfl ha1 hu2 (fun h8_2 => ?_) (fun h8_2 => ?_)
  · exact ezw_keepE [true, true] (J16_2  F A hI)
  · refine ezw_aload_n rfl rfl ?_
    refine ezw_iconst (0) rfl rfl ?_
    refine ezs_put_i hI rfl rfl rfl rfl rfl (hzA 26 (by decide) (by decide)) ⟨by decide, by decide⟩ (fun F A hI => ?_)
    exact ezw_keepE [true, true] (J16_2  F A hI)
theorem ezs_m121_26_30 {a2 a3 a4 : Int} {F : Nat → Nat → Int} {A : Nat → Int → Int} (hI : ezs_I fz F0 A0 F A) (hd : 3 ≤ d) (hzA : ∀ q, 26 ≤ q → q < 27 → fz q = false) (ha2 : ezw_in a2) (ha3 : ezw_in a3) (ha4 : ezw_in a4) : ezw_C l ρ B xa Hb D cA 121 d [ezw_p 26, ezw_p 30, ezw_i a2, ezw_i a3, ezw_i a4] (ezu_g e F A) (ezs_P e fz F0 A0 ezs_rz) := by
  refine ezw_met (k := 2) rfl rfl ?_
  refine ezw_aload_n rfl rfl ?_
  refine ezs_get_i hI rfl rfl rfl rfl rfl rfl (fun u1 hu1 ku1 => ?_)
  refine ezw_if_ne rfl rfl hu1 (fun h4_1 => ?_) (fun h4_1 => ?_)
  · refine ezw_iconst (0) rfl rfl ?_
    exact ezw_ireturn rfl (ezw_zret ⟨by omega, by omega⟩) ⟨⟨F, A, rfl, hI⟩, _, ⟨by omega, by omega⟩, rfl⟩
  · refine ezw_iload_n rfl rfl ?_
    refine ezw_call3_1 rfl (by omega) rfl rfl (ezs_m112 hI (by omega) ha2) ?_
    rintro _ _ ⟨rfl, u2, hu2, rfl⟩
    refine ezw_if_ne rfl rfl ⟨by omega, by omega⟩ (fun h11_2 => ?_) (fun h11_2 => ?_)
    · refine ezw_aload_n rfl rfl ?_
      refine ezw_aload_n rfl rfl ?_
      refine ezw_aload_n rfl rfl ?_
      refine ezw_call0_1 rfl (by omega) (ezu_at rfl) rfl rfl rfl rfl (ezs_m106_26_30 hI (by omega)) ?_
      rintro _ _ ⟨rfl, u3, hu3, rfl⟩
      refine ezw_aload_n rfl rfl ?_
      refine ezs_get_i hI rfl rfl rfl rfl rfl rfl (fun u4 hu4 ku4 => ?_)
      refine ezw_iload_n rfl rfl ?_
      refine ezw_iload_n rfl rfl ?_
      refine ezw_call0_4 rfl (by omega) (ezu_at rfl) rfl rfl rfl rfl (ezs_m113_30 hI (by omega) hu3 hu4 ha2 ha3) ?_
      rintro _ _ ⟨rfl, u5, hu5, rfl⟩
      refine ezw_istore rfl rfl ?_
      refine ezw_aload_n rfl rfl ?_
      refine ezw_aload_n rfl rfl ?_
      refine ezw_aload_n rfl rfl ?_
      refine ezw_call0_1 rfl (by omega) (ezu_at rfl) rfl rfl rfl rfl (ezs_m106_26_30 hI (by omega)) ?_
      rintro _ _ ⟨rfl, u6, hu6, rfl⟩
      refine ezw_aload_n rfl rfl ?_
      refine ezs_get_i hI rfl rfl rfl rfl rfl rfl (fun u7 hu7 ku7 => ?_)
      refine ezw_iload_n rfl rfl ?_
      refine ezw_iload_n rfl rfl ?_
      refine ezw_call0_4 rfl (by omega) (ezu_at rfl) rfl rfl rfl rfl (ezs_m116_30 hI (by omega) hu6 hu7 ha2 ha3) ?_
      rintro _ _ ⟨rfl, u8, hu8, rfl⟩
      refine ezw_istore rfl rfl ?_
      refine ezw_iload rfl rfl ?_
      refine ezw_if_ne rfl rfl ha4 (fun h52_8 => ?_) (fun h52_8 => ?_)
      · refine ezw_iload rfl rfl ?_
        refine ezw_iconst (1) rfl rfl ?_
        refine ezw_icmp_ne rfl rfl ha4 ⟨by decide, by decide⟩ (fun h76_8 => ?_) (fun h76_8 => ?_)
        · refine ezw_iload rfl rfl ?_
          refine ezw_iconst (2) rfl rfl ?_
          refine ezw_icmp_ne rfl rfl ha4 ⟨by decide, by decide⟩ (fun h121_8 => ?_) (fun h121_8 => ?_)
          · refine ezw_iconst (0) rfl rfl ?_
            exact ezw_ireturn rfl (ezw_zret ⟨by omega, by omega⟩) ⟨⟨F, A, rfl, hI⟩, _, ⟨by omega, by omega⟩, rfl⟩
          · refine ezw_iload rfl rfl ?_
            refine ezw_bipush (10) rfl rfl ?_
            refine ezw_icmp_ge rfl rfl hu5 ⟨by decide, by decide⟩ (fun h128_8 => ?_) (fun h128_8 => ?_)
            · refine ezw_iconst (0) rfl rfl ?_
              exact ezw_ireturn rfl (ezw_zret ⟨by omega, by omega⟩) ⟨⟨F, A, rfl, hI⟩, _, ⟨by omega, by omega⟩, rfl⟩
            · refine ezw_iload rfl rfl ?_
              refine ezw_if_le rfl rfl hu8 (fun h133_8 => ?_) (fun h133_8 => ?_)
              · refine ezw_iconst (0) rfl rfl ?_
                exact ezw_ireturn rfl (ezw_zret ⟨by omega, by omega⟩) ⟨⟨F, A, rfl, hI⟩, _, ⟨by omega, by omega⟩, rfl⟩
              · refine ezw_aload_n rfl rfl ?_
                refine ezw_iconst (0) rfl rfl ?_
                refine ezs_put_i hI rfl rfl rfl rfl rfl (hzA 26 (by decide) (by decide)) ⟨by decide, by decide⟩ (fun F A hI => ?_)
                refine ezw_aload_n rfl rfl ?_
                refine ezw_iconst (0) rfl rfl ?_
                refine ezs_put_i hI rfl rfl rfl rfl rfl (hzA 26 (by decide) (by decide)) ⟨by decide, by decide⟩ (fun F A hI => ?_)
                refine ezw_aload_n rfl rfl ?_
                refine ezw_iconst (2) rfl rfl ?_
                refine ezs_put_i hI rfl rfl rfl rfl rfl (hzA 26 (by decide) (by decide)) ⟨by decide, by decide⟩ (fun F A hI => ?_)
                refine ezw_iconst (1) rfl rfl ?_
                exact ezw_ireturn rfl (ezw_zret ⟨by omega, by omega⟩) ⟨⟨F, A, rfl, hI⟩, _, ⟨by omega, by omega⟩, rfl⟩
        · refine ezw_iload rfl rfl ?_
          refine ezw_bipush (10) rfl rfl ?_
          refine ezw_icmp_ge rfl rfl hu5 ⟨by decide, by decide⟩ (fun h83_8 => ?_) (fun h83_8 => ?_)
          · refine ezw_iload rfl rfl ?_
            refine ezw_iconst (2) rfl rfl ?_
            refine ezw_icmp_ne rfl rfl ha4 ⟨by decide, by decide⟩ (fun h121_8 => ?_) (fun h121_8 => ?_)
            · refine ezw_iconst (0) rfl rfl ?_
              exact ezw_ireturn rfl (ezw_zret ⟨by omega, by omega⟩) ⟨⟨F, A, rfl, hI⟩, _, ⟨by omega, by omega⟩, rfl⟩
            · refine ezw_iload rfl rfl ?_
              refine ezw_bipush (10) rfl rfl ?_
              refine ezw_icmp_ge rfl rfl hu5 ⟨by decide, by decide⟩ (fun h128_8 => ?_) (fun h128_8 => ?_)
              · refine ezw_iconst (0) rfl rfl ?_
                exact ezw_ireturn rfl (ezw_zret ⟨by omega, by omega⟩) ⟨⟨F, A, rfl, hI⟩, _, ⟨by omega, by omega⟩, rfl⟩
              · refine ezw_iload rfl rfl ?_
                refine ezw_if_le rfl rfl hu8 (fun h133_8 => ?_) (fun h133_8 => ?_)
                · refine ezw_iconst (0) rfl rfl ?_
                  exact ezw_ireturn rfl (ezw_zret ⟨by omega, by omega⟩) ⟨⟨F, A, rfl, hI⟩, _, ⟨by omega, by omega⟩, rfl⟩
                · refine ezw_aload_n rfl rfl ?_
                  refine ezw_iconst (0) rfl rfl ?_
                  refine ezs_put_i hI rfl rfl rfl rfl rfl (hzA 26 (by decide) (by decide)) ⟨by decide, by decide⟩ (fun F A hI => ?_)
                  refine ezw_aload_n rfl rfl ?_
                  refine ezw_iconst (0) rfl rfl ?_
                  refine ezs_put_i hI rfl rfl rfl rfl rfl (hzA 26 (by decide) (by decide)) ⟨by decide, by decide⟩ (fun F A hI => ?_)
                  refine ezw_aload_n rfl rfl ?_
                  refine ezw_iconst (2) rfl rfl ?_
                  refine ezs_put_i hI rfl rfl rfl rfl rfl (hzA 26 (by decide) (by decide)) ⟨by decide, by decide⟩ (fun F A hI => ?_)
                  refine ezw_iconst (1) rfl rfl ?_
                  exact ezw_ireturn rfl (ezw_zret ⟨by omega, by omega⟩) ⟨⟨F, A, rfl, hI⟩, _, ⟨by omega, by omega⟩, rfl⟩
          · refine ezw_iload rfl rfl ?_
            refine ezw_bipush (10) rfl rfl ?_
            refine ezw_icmp_ge rfl rfl hu8 ⟨by decide, by decide⟩ (fun h90_8 => ?_) (fun h90_8 => ?_)
            · refine ezw_iload rfl rfl ?_
              refine ezw_iconst (2) rfl rfl ?_
              refine ezw_icmp_ne rfl rfl ha4 ⟨by decide, by decide⟩ (fun h121_8 => ?_) (fun h121_8 => ?_)
              · refine ezw_iconst (0) rfl rfl ?_
                exact ezw_ireturn rfl (ezw_zret ⟨by omega, by omega⟩) ⟨⟨F, A, rfl, hI⟩, _, ⟨by omega, by omega⟩, rfl⟩
              · refine ezw_iload rfl rfl ?_
                refine ezw_bipush (10) rfl rfl ?_
                refine ezw_icmp_ge rfl rfl hu5 ⟨by decide, by decide⟩ (fun h128_8 => ?_) (fun h128_8 => ?_)
                · refine ezw_iconst (0) rfl rfl ?_
                  exact ezw_ireturn rfl (ezw_zret ⟨by omega, by omega⟩) ⟨⟨F, A, rfl, hI⟩, _, ⟨by omega, by omega⟩, rfl⟩
                · refine ezw_iload rfl rfl ?_
                  refine ezw_if_le rfl rfl hu8 (fun h133_8 => ?_) (fun h133_8 => ?_)
                  · refine ezw_iconst (0) rfl rfl ?_
                    exact ezw_ireturn rfl (ezw_zret ⟨by omega, by omega⟩) ⟨⟨F, A, rfl, hI⟩, _, ⟨by omega, by omega⟩, rfl⟩
                  · refine ezw_aload_n rfl rfl ?_
                    refine ezw_iconst (0) rfl rfl ?_
                    refine ezs_put_i hI rfl rfl rfl rfl rfl (hzA 26 (by decide) (by decide)) ⟨by decide, by decide⟩ (fun F A hI => ?_)
                    refine ezw_aload_n rfl rfl ?_
                    refine ezw_iconst (0) rfl rfl ?_
                    refine ezs_put_i hI rfl rfl rfl rfl rfl (hzA 26 (by decide) (by decide)) ⟨by decide, by decide⟩ (fun F A hI => ?_)
                    refine ezw_aload_n rfl rfl ?_
                    refine ezw_iconst (2) rfl rfl ?_
                    refine ezs_put_i hI rfl rfl rfl rfl rfl (hzA 26 (by decide) (by decide)) ⟨by decide, by decide⟩ (fun F A hI => ?_)
                    refine ezw_iconst (1) rfl rfl ?_
                    exact ezw_ireturn rfl (ezw_zret ⟨by omega, by omega⟩) ⟨⟨F, A, rfl, hI⟩, _, ⟨by omega, by omega⟩, rfl⟩
            · refine ezw_aload_n rfl rfl ?_
              refine ezw_bipush (9) rfl rfl ?_
              refine ezw_aload_n rfl rfl ?_
              refine ezs_get_i hI rfl rfl rfl rfl rfl rfl (fun u9 hu9 ku9 => ?_)
              refine ezw_iload_n rfl rfl ?_
              have J109_10 : ∀ y10 : Int, ezw_in y10 → ∀ F A, ezs_I fz F0 A0 F A → ezw_E l ρ B xa Hb D cA d ezq_re121 (ezs_P e fz F0 A0 ezs_rz) 109 [some (ezw_p 26), some (ezw_p 30), some (ezw_i a2), some (ezw_i a3), some (ezw_i a4), some (ezw_i u5), some (ezw_i u8)] [(ezw_i y10), (ezw_i u9), (ezw_i (9)), (ezw_p 26)] (ezu_g e F A) := by
                intro y10 hy10 F A hI
                refine ezs_iadd rfl (fun u12 hu12 => ?_)
                refine ezw_mminE rfl ⟨by decide, by decide⟩ hu12 rfl (fun u13 hu13 => ?_)
                refine ezs_put_i hI rfl rfl rfl rfl rfl (hzA 26 (by decide) (by decide)) ⟨by omega, by omega⟩ (fun F A hI => ?_)
                refine ezw_iconst (1) rfl rfl ?_
                exact ezw_ireturn rfl (ezw_zret ⟨by omega, by omega⟩) ⟨⟨F, A, rfl, hI⟩, _, ⟨by omega, by omega⟩, rfl⟩
              refine ezw_if_eq rfl rfl ha3 (fun h101_9 => ?_) (fun h101_9 => ?_)
              · refine ezw_iconst (1) rfl rfl ?_
                exact ezw_keepE [true, true, true, true, true, true, true] (J109_10 (1) ⟨by decide, by decide⟩ F A hI)
              · refine ezw_iconst (2) rfl rfl ?_
                refine ezw_goto rfl rfl ?_
                exact ezw_keepE [true, true, true, true, true, true, true] (J109_10 (2) ⟨by decide, by decide⟩ F A hI)
      · refine ezw_iload rfl rfl ?_
        refine ezw_if_le rfl rfl hu5 (fun h57_13 => ?_) (fun h57_13 => ?_)
        · refine ezw_iload rfl rfl ?_
          refine ezw_iconst (1) rfl rfl ?_
          refine ezw_icmp_ne rfl rfl ha4 ⟨by decide, by decide⟩ (fun h76_13 => ?_) (fun h76_13 => ?_)
          · refine ezw_iload rfl rfl ?_
            refine ezw_iconst (2) rfl rfl ?_
            refine ezw_icmp_ne rfl rfl ha4 ⟨by decide, by decide⟩ (fun h121_13 => ?_) (fun h121_13 => ?_)
            · refine ezw_iconst (0) rfl rfl ?_
              exact ezw_ireturn rfl (ezw_zret ⟨by omega, by omega⟩) ⟨⟨F, A, rfl, hI⟩, _, ⟨by omega, by omega⟩, rfl⟩
            · refine ezw_iload rfl rfl ?_
              refine ezw_bipush (10) rfl rfl ?_
              refine ezw_icmp_ge rfl rfl hu5 ⟨by decide, by decide⟩ (fun h128_13 => ?_) (fun h128_13 => ?_)
              · refine ezw_iconst (0) rfl rfl ?_
                exact ezw_ireturn rfl (ezw_zret ⟨by omega, by omega⟩) ⟨⟨F, A, rfl, hI⟩, _, ⟨by omega, by omega⟩, rfl⟩
              · refine ezw_iload rfl rfl ?_
                refine ezw_if_le rfl rfl hu8 (fun h133_13 => ?_) (fun h133_13 => ?_)
                · refine ezw_iconst (0) rfl rfl ?_
                  exact ezw_ireturn rfl (ezw_zret ⟨by omega, by omega⟩) ⟨⟨F, A, rfl, hI⟩, _, ⟨by omega, by omega⟩, rfl⟩
                · refine ezw_aload_n rfl rfl ?_
                  refine ezw_iconst (0) rfl rfl ?_
                  refine ezs_put_i hI rfl rfl rfl rfl rfl (hzA 26 (by decide) (by decide)) ⟨by decide, by decide⟩ (fun F A hI => ?_)
                  refine ezw_aload_n rfl rfl ?_
                  refine ezw_iconst (0) rfl rfl ?_
                  refine ezs_put_i hI rfl rfl rfl rfl rfl (hzA 26 (by decide) (by decide)) ⟨by decide, by decide⟩ (fun F A hI => ?_)
                  refine ezw_aload_n rfl rfl ?_
                  refine ezw_iconst (2) rfl rfl ?_
                  refine ezs_put_i hI rfl rfl rfl rfl rfl (hzA 26 (by decide) (by decide)) ⟨by decide, by decide⟩ (fun F A hI => ?_)
                  refine ezw_iconst (1) rfl rfl ?_
                  exact ezw_ireturn rfl (ezw_zret ⟨by omega, by omega⟩) ⟨⟨F, A, rfl, hI⟩, _, ⟨by omega, by omega⟩, rfl⟩
          · refine ezw_iload rfl rfl ?_
            refine ezw_bipush (10) rfl rfl ?_
            refine ezw_icmp_ge rfl rfl hu5 ⟨by decide, by decide⟩ (fun h83_13 => ?_) (fun h83_13 => ?_)
            · refine ezw_iload rfl rfl ?_
              refine ezw_iconst (2) rfl rfl ?_
              refine ezw_icmp_ne rfl rfl ha4 ⟨by decide, by decide⟩ (fun h121_13 => ?_) (fun h121_13 => ?_)
              · refine ezw_iconst (0) rfl rfl ?_
                exact ezw_ireturn rfl (ezw_zret ⟨by omega, by omega⟩) ⟨⟨F, A, rfl, hI⟩, _, ⟨by omega, by omega⟩, rfl⟩
              · refine ezw_iload rfl rfl ?_
                refine ezw_bipush (10) rfl rfl ?_
                refine ezw_icmp_ge rfl rfl hu5 ⟨by decide, by decide⟩ (fun h128_13 => ?_) (fun h128_13 => ?_)
                · refine ezw_iconst (0) rfl rfl ?_
                  exact ezw_ireturn rfl (ezw_zret ⟨by omega, by omega⟩) ⟨⟨F, A, rfl, hI⟩, _, ⟨by omega, by omega⟩, rfl⟩
                · refine ezw_iload rfl rfl ?_
                  refine ezw_if_le rfl rfl hu8 (fun h133_13 => ?_) (fun h133_13 => ?_)
                  · refine ezw_iconst (0) rfl rfl ?_
                    exact ezw_ireturn rfl (ezw_zret ⟨by omega, by omega⟩) ⟨⟨F, A, rfl, hI⟩, _, ⟨by omega, by omega⟩, rfl⟩
                  · refine ezw_aload_n rfl rfl ?_
                    refine ezw_iconst (0) rfl rfl ?_
                    refine ezs_put_i hI rfl rfl rfl rfl rfl (hzA 26 (by decide) (by decide)) ⟨by decide, by decide⟩ (fun F A hI => ?_)
                    refine ezw_aload_n rfl rfl ?_
                    refine ezw_iconst (0) rfl rfl ?_
                    refine ezs_put_i hI rfl rfl rfl rfl rfl (hzA 26 (by decide) (by decide)) ⟨by decide, by decide⟩ (fun F A hI => ?_)
                    refine ezw_aload_n rfl rfl ?_
                    refine ezw_iconst (2) rfl rfl ?_
                    refine ezs_put_i hI rfl rfl rfl rfl rfl (hzA 26 (by decide) (by decide)) ⟨by decide, by decide⟩ (fun F A hI => ?_)
                    refine ezw_iconst (1) rfl rfl ?_
                    exact ezw_ireturn rfl (ezw_zret ⟨by omega, by omega⟩) ⟨⟨F, A, rfl, hI⟩, _, ⟨by omega, by omega⟩, rfl⟩
            · refine ezw_iload rfl rfl ?_
              refine ezw_bipush (10) rfl rfl ?_
              refine ezw_icmp_ge rfl rfl hu8 ⟨by decide, by decide⟩ (fun h90_13 => ?_) (fun h90_13 => ?_)
              · refine ezw_iload rfl rfl ?_
                refine ezw_iconst (2) rfl rfl ?_
                refine ezw_icmp_ne rfl rfl ha4 ⟨by decide, by decide⟩ (fun h121_13 => ?_) (fun h121_13 => ?_)
                · refine ezw_iconst (0) rfl rfl ?_
                  exact ezw_ireturn rfl (ezw_zret ⟨by omega, by omega⟩) ⟨⟨F, A, rfl, hI⟩, _, ⟨by omega, by omega⟩, rfl⟩
                · refine ezw_iload rfl rfl ?_
                  refine ezw_bipush (10) rfl rfl ?_
                  refine ezw_icmp_ge rfl rfl hu5 ⟨by decide, by decide⟩ (fun h128_13 => ?_) (fun h128_13 => ?_)
                  · refine ezw_iconst (0) rfl rfl ?_
                    exact ezw_ireturn rfl (ezw_zret ⟨by omega, by omega⟩) ⟨⟨F, A, rfl, hI⟩, _, ⟨by omega, by omega⟩, rfl⟩
                  · refine ezw_iload rfl rfl ?_
                    refine ezw_if_le rfl rfl hu8 (fun h133_13 => ?_) (fun h133_13 => ?_)
                    · refine ezw_iconst (0) rfl rfl ?_
                      exact ezw_ireturn rfl (ezw_zret ⟨by omega, by omega⟩) ⟨⟨F, A, rfl, hI⟩, _, ⟨by omega, by omega⟩, rfl⟩
                    · refine ezw_aload_n rfl rfl ?_
                      refine ezw_iconst (0) rfl rfl ?_
                      refine ezs_put_i hI rfl rfl rfl rfl rfl (hzA 26 (by decide) (by decide)) ⟨by decide, by decide⟩ (fun F A hI => ?_)
                      refine ezw_aload_n rfl rfl ?_
                      refine ezw_iconst (0) rfl rfl ?_
                      refine ezs_put_i hI rfl rfl rfl rfl rfl (hzA 26 (by decide) (by decide)) ⟨by decide, by decide⟩ (fun F A hI => ?_)
                      refine ezw_aload_n rfl rfl ?_
                      refine ezw_iconst (2) rfl rfl ?_
                      refine ezs_put_i hI rfl rfl rfl rfl rfl (hzA 26 (by decide) (by decide)) ⟨by decide, by decide⟩ (fun F A hI => ?_)
                      refine ezw_iconst (1) rfl rfl ?_
                      exact ezw_ireturn rfl (ezw_zret ⟨by omega, by omega⟩) ⟨⟨F, A, rfl, hI⟩, _, ⟨by omega, by omega⟩, rfl⟩
              · refine ezw_aload_n rfl rfl ?_
                refine ezw_bipush (9) rfl rfl ?_
                refine ezw_aload_n rfl rfl ?_
                refine ezs_get_i hI rfl rfl rfl rfl rfl rfl (fun u14 hu14 ku14 => ?_)
                refine ezw_iload_n rfl rfl ?_
                have J109_15 : ∀ y15 : Int, ezw_in y15 → ∀ F A, ezs_I fz F0 A0 F A → ezw_E l ρ B xa Hb D cA d ezq_re121 (ezs_P e fz F0 A0 ezs_rz) 109 [some (ezw_p 26), some (ezw_p 30), some (ezw_i a2), some (ezw_i a3), some (ezw_i a4), some (ezw_i u5), some (ezw_i u8)] [(ezw_i y15), (ezw_i u14), (ezw_i (9)), (ezw_p 26)] (ezu_g e F A) := by
                  intro y15 hy15 F A hI
                  refine ezs_iadd rfl (fun u17 hu17 => ?_)
                  refine ezw_mminE rfl ⟨by decide, by decide⟩ hu17 rfl (fun u18 hu18 => ?_)
                  refine ezs_put_i hI rfl rfl rfl rfl rfl (hzA 26 (by decide) (by decide)) ⟨by omega, by omega⟩ (fun F A hI => ?_)
                  refine ezw_iconst (1) rfl rfl ?_
                  exact ezw_ireturn rfl (ezw_zret ⟨by omega, by omega⟩) ⟨⟨F, A, rfl, hI⟩, _, ⟨by omega, by omega⟩, rfl⟩
                refine ezw_if_eq rfl rfl ha3 (fun h101_14 => ?_) (fun h101_14 => ?_)
                · refine ezw_iconst (1) rfl rfl ?_
                  exact ezw_keepE [true, true, true, true, true, true, true] (J109_15 (1) ⟨by decide, by decide⟩ F A hI)
                · refine ezw_iconst (2) rfl rfl ?_
                  refine ezw_goto rfl rfl ?_
                  exact ezw_keepE [true, true, true, true, true, true, true] (J109_15 (2) ⟨by decide, by decide⟩ F A hI)
        · refine ezw_aload_n rfl rfl ?_
          refine ezw_aload_n rfl rfl ?_
          refine ezs_get_i hI rfl rfl rfl rfl rfl rfl (fun u19 hu19 ku19 => ?_)
          refine ezw_call2_1 rfl (by omega) rfl rfl (ezs_m107 hI (by omega) hu19) ?_
          rintro _ _ ⟨rfl, u20, hu20, rfl⟩
          refine ezw_call0_1 rfl (by omega) (ezu_at rfl) rfl rfl rfl rfl (ezs_m122_26 hI (by omega) (fun q h0 h1 => hzA q (by omega) (by omega)) hu20) ?_
          rintro _ _ ⟨⟨F, A, rfl, hI⟩, rfl⟩
          refine ezw_iconst (1) rfl rfl ?_
          exact ezw_ireturn rfl (ezw_zret ⟨by omega, by omega⟩) ⟨⟨F, A, rfl, hI⟩, _, ⟨by omega, by omega⟩, rfl⟩
    · refine ezw_iconst (0) rfl rfl ?_
      exact ezw_ireturn rfl (ezw_zret ⟨by omega, by omega⟩) ⟨⟨F, A, rfl, hI⟩, _, ⟨by omega, by omega⟩, rfl⟩
theorem ezs_m124_26_30 {F : Nat → Nat → Int} {A : Nat → Int → Int} (hI : ezs_I fz F0 A0 F A) (hd : 3 ≤ d) (hzA : ∀ q, 26 ≤ q → q < 27 → fz q = false) : ezw_C l ρ B xa Hb D cA 124 d [ezw_p 26, ezw_p 30] (ezu_g e F A) (ezs_P e fz F0 A0 ezs_rz) := by
  refine ezw_met (k := 0) rfl rfl ?_
  refine ezw_aload_n rfl rfl ?_
  refine ezs_get_i hI rfl rfl rfl rfl rfl rfl (fun u1 hu1 ku1 => ?_)
  refine ezw_if_ne rfl rfl hu1 (fun h4_1 => ?_) (fun h4_1 => ?_)
  · refine ezw_iconst (0) rfl rfl ?_
    exact ezw_ireturn rfl (ezw_zret ⟨by omega, by omega⟩) ⟨⟨F, A, rfl, hI⟩, _, ⟨by omega, by omega⟩, rfl⟩
  · refine ezw_aload_n rfl rfl ?_
    refine ezs_get_i hI rfl rfl rfl rfl rfl rfl (fun u2 hu2 ku2 => ?_)
    refine ezw_if_gt rfl rfl hu2 (fun h11_2 => ?_) (fun h11_2 => ?_)
    · refine ezw_iconst (0) rfl rfl ?_
      exact ezw_ireturn rfl (ezw_zret ⟨by omega, by omega⟩) ⟨⟨F, A, rfl, hI⟩, _, ⟨by omega, by omega⟩, rfl⟩
    · refine ezw_aload_n rfl rfl ?_
      refine ezw_iconst (5) rfl rfl ?_
      refine ezw_call0_1 rfl (by omega) (ezu_at rfl) rfl rfl rfl rfl (ezs_m95_30 hI (by omega) ⟨by decide, by decide⟩) ?_
      rintro _ _ ⟨rfl, u3, hu3, rfl⟩
      refine ezw_if_le rfl rfl ⟨by omega, by omega⟩ (fun h19_3 => ?_) (fun h19_3 => ?_)
      · refine ezw_iconst (0) rfl rfl ?_
        exact ezw_ireturn rfl (ezw_zret ⟨by omega, by omega⟩) ⟨⟨F, A, rfl, hI⟩, _, ⟨by omega, by omega⟩, rfl⟩
      · refine ezw_aload_n rfl rfl ?_
        refine ezs_get_i hI rfl rfl rfl rfl rfl rfl (fun u4 hu4 ku4 => ?_)
        refine ezw_aload_n rfl rfl ?_
        refine ezs_getp (p := 33) rfl rfl rfl rfl rfl ?_
        refine ezw_aload_n rfl rfl ?_
        refine ezw_aload_n rfl rfl ?_
        refine ezw_call0_1 rfl (by omega) (ezu_at rfl) rfl rfl rfl rfl (ezs_m106_26_30 hI (by omega)) ?_
        rintro _ _ ⟨rfl, u5, hu5, rfl⟩
        refine ezw_call3_2 rfl (by omega) rfl rfl (ezs_m27_33 hI (by omega) hu5) ?_
        rintro _ _ ⟨rfl, u6, hu6, rfl⟩
        refine ezw_icmp_eq rfl rfl hu4 hu6 (fun h38_6 => ?_) (fun h38_6 => ?_)
        · refine ezw_aload_n rfl rfl ?_
          refine ezw_aload_n rfl rfl ?_
          refine ezs_get_i hI rfl rfl rfl rfl rfl rfl (fun u7 hu7 ku7 => ?_)
          refine ezw_call2_1 rfl (by omega) rfl rfl (ezs_m107 hI (by omega) hu7) ?_
          rintro _ _ ⟨rfl, u8, hu8, rfl⟩
          refine ezw_call0_1 rfl (by omega) (ezu_at rfl) rfl rfl rfl rfl (ezs_m122_26 hI (by omega) (fun q h0 h1 => hzA q (by omega) (by omega)) hu8) ?_
          rintro _ _ ⟨⟨F, A, rfl, hI⟩, rfl⟩
          refine ezw_iconst (1) rfl rfl ?_
          exact ezw_ireturn rfl (ezw_zret ⟨by omega, by omega⟩) ⟨⟨F, A, rfl, hI⟩, _, ⟨by omega, by omega⟩, rfl⟩
        · refine ezw_iconst (0) rfl rfl ?_
          exact ezw_ireturn rfl (ezw_zret ⟨by omega, by omega⟩) ⟨⟨F, A, rfl, hI⟩, _, ⟨by omega, by omega⟩, rfl⟩
theorem ezs_m125_26_30 {a2 a3 : Int} {F : Nat → Nat → Int} {A : Nat → Int → Int} (hI : ezs_I fz F0 A0 F A) (hd : 3 ≤ d) (hzA : ∀ q, 26 ≤ q → q < 27 → fz q = false) (ha2 : ezw_in a2) (ha3 : ezw_in a3) : ezw_C l ρ B xa Hb D cA 125 d [ezw_p 26, ezw_p 30, ezw_i a2, ezw_i a3] (ezu_g e F A) (ezs_P e fz F0 A0 ezs_rz) := by
  refine ezw_met (k := 2) rfl rfl ?_
  refine ezw_aload_n rfl rfl ?_
  refine ezs_get_i hI rfl rfl rfl rfl rfl rfl (fun u1 hu1 ku1 => ?_)
  refine ezw_if_ne rfl rfl hu1 (fun h4_1 => ?_) (fun h4_1 => ?_)
  · refine ezw_iconst (0) rfl rfl ?_
    exact ezw_ireturn rfl (ezw_zret ⟨by omega, by omega⟩) ⟨⟨F, A, rfl, hI⟩, _, ⟨by omega, by omega⟩, rfl⟩
  · refine ezw_aload_n rfl rfl ?_
    refine ezs_get_i hI rfl rfl rfl rfl rfl rfl (fun u2 hu2 ku2 => ?_)
    refine ezw_iload_n rfl rfl ?_
    refine ezw_call3_2 rfl (by omega) rfl rfl (ezs_m49 hI (by omega) hu2 ha2) ?_
    rintro _ _ ⟨rfl, u3, hu3, rfl⟩
    refine ezw_if_ne rfl rfl hu3 (fun h15_3 => ?_) (fun h15_3 => ?_)
    · refine ezw_aload_n rfl rfl ?_
      refine ezs_getp (p := 36) rfl rfl rfl rfl rfl ?_
      refine ezw_iload_n rfl rfl ?_
      refine ezw_call3_2 rfl (by omega) rfl rfl (ezs_m27_36 hI (by omega) ha2) ?_
      rintro _ _ ⟨rfl, u4, hu4, rfl⟩
      refine ezw_istore rfl rfl ?_
      refine ezw_aload_n rfl rfl ?_
      refine ezs_getp (p := 37) rfl rfl rfl rfl rfl ?_
      refine ezw_iload_n rfl rfl ?_
      refine ezw_call3_2 rfl (by omega) rfl rfl (ezs_m27_37 hI (by omega) ha2) ?_
      rintro _ _ ⟨rfl, u5, hu5, rfl⟩
      refine ezw_istore rfl rfl ?_
      refine ezw_iload_n rfl rfl ?_
      refine ezw_if_ne rfl rfl ha3 (fun h41_5 => ?_) (fun h41_5 => ?_)
      · refine ezw_iload_n rfl rfl ?_
        refine ezw_iconst (1) rfl rfl ?_
        refine ezw_icmp_ne rfl rfl ha3 ⟨by decide, by decide⟩ (fun h62_5 => ?_) (fun h62_5 => ?_)
        · refine ezw_iload_n rfl rfl ?_
          refine ezw_iconst (2) rfl rfl ?_
          refine ezw_icmp_ne rfl rfl ha3 ⟨by decide, by decide⟩ (fun h88_5 => ?_) (fun h88_5 => ?_)
          · refine ezw_iconst (0) rfl rfl ?_
            exact ezw_ireturn rfl (ezw_zret ⟨by omega, by omega⟩) ⟨⟨F, A, rfl, hI⟩, _, ⟨by omega, by omega⟩, rfl⟩
          · refine ezw_iload rfl rfl ?_
            refine ezw_if_le rfl rfl hu5 (fun h93_5 => ?_) (fun h93_5 => ?_)
            · refine ezw_iconst (0) rfl rfl ?_
              exact ezw_ireturn rfl (ezw_zret ⟨by omega, by omega⟩) ⟨⟨F, A, rfl, hI⟩, _, ⟨by omega, by omega⟩, rfl⟩
            · refine ezw_aload_n rfl rfl ?_
              refine ezw_aload_n rfl rfl ?_
              refine ezs_get_i hI rfl rfl rfl rfl rfl rfl (fun u6 hu6 ku6 => ?_)
              refine ezw_call2_1 rfl (by omega) rfl rfl (ezs_m107 hI (by omega) hu6) ?_
              rintro _ _ ⟨rfl, u7, hu7, rfl⟩
              refine ezw_call0_1 rfl (by omega) (ezu_at rfl) rfl rfl rfl rfl (ezs_m122_26 hI (by omega) (fun q h0 h1 => hzA q (by omega) (by omega)) hu7) ?_
              rintro _ _ ⟨⟨F, A, rfl, hI⟩, rfl⟩
              refine ezw_iconst (1) rfl rfl ?_
              exact ezw_ireturn rfl (ezw_zret ⟨by omega, by omega⟩) ⟨⟨F, A, rfl, hI⟩, _, ⟨by omega, by omega⟩, rfl⟩
        · refine ezw_iload rfl rfl ?_
          refine ezw_if_le rfl rfl hu4 (fun h67_7 => ?_) (fun h67_7 => ?_)
          · refine ezw_iload_n rfl rfl ?_
            refine ezw_iconst (2) rfl rfl ?_
            refine ezw_icmp_ne rfl rfl ha3 ⟨by decide, by decide⟩ (fun h88_7 => ?_) (fun h88_7 => ?_)
            · refine ezw_iconst (0) rfl rfl ?_
              exact ezw_ireturn rfl (ezw_zret ⟨by omega, by omega⟩) ⟨⟨F, A, rfl, hI⟩, _, ⟨by omega, by omega⟩, rfl⟩
            · refine ezw_iload rfl rfl ?_
              refine ezw_if_le rfl rfl hu5 (fun h93_7 => ?_) (fun h93_7 => ?_)
              · refine ezw_iconst (0) rfl rfl ?_
                exact ezw_ireturn rfl (ezw_zret ⟨by omega, by omega⟩) ⟨⟨F, A, rfl, hI⟩, _, ⟨by omega, by omega⟩, rfl⟩
              · refine ezw_aload_n rfl rfl ?_
                refine ezw_aload_n rfl rfl ?_
                refine ezs_get_i hI rfl rfl rfl rfl rfl rfl (fun u8 hu8 ku8 => ?_)
                refine ezw_call2_1 rfl (by omega) rfl rfl (ezs_m107 hI (by omega) hu8) ?_
                rintro _ _ ⟨rfl, u9, hu9, rfl⟩
                refine ezw_call0_1 rfl (by omega) (ezu_at rfl) rfl rfl rfl rfl (ezs_m122_26 hI (by omega) (fun q h0 h1 => hzA q (by omega) (by omega)) hu9) ?_
                rintro _ _ ⟨⟨F, A, rfl, hI⟩, rfl⟩
                refine ezw_iconst (1) rfl rfl ?_
                exact ezw_ireturn rfl (ezw_zret ⟨by omega, by omega⟩) ⟨⟨F, A, rfl, hI⟩, _, ⟨by omega, by omega⟩, rfl⟩
          · refine ezw_aload_n rfl rfl ?_
            refine ezw_dup rfl rfl ?_
            refine ezs_get_i hI rfl rfl rfl rfl rfl rfl (fun u10 hu10 ku10 => ?_)
            refine ezw_iconst (1) rfl rfl ?_
            refine ezw_iload_n rfl rfl ?_
            refine ezw_ishlO rfl (fun u11 hu11 => ?_)
            refine ezw_iconst (-1) rfl rfl ?_
            refine ezs_ixor rfl (fun u12 hu12 => ?_)
            refine ezs_iand rfl (fun u13 hu13 => ?_)
            refine ezs_put_i hI rfl rfl rfl rfl rfl (hzA 26 (by decide) (by decide)) hu13 (fun F A hI => ?_)
            refine ezw_iconst (1) rfl rfl ?_
            exact ezw_ireturn rfl (ezw_zret ⟨by omega, by omega⟩) ⟨⟨F, A, rfl, hI⟩, _, ⟨by omega, by omega⟩, rfl⟩
      · refine ezw_iload rfl rfl ?_
        refine ezw_iload rfl rfl ?_
        refine ezs_iadd rfl (fun u14 hu14 => ?_)
        refine ezw_bipush (10) rfl rfl ?_
        refine ezw_icmp_ge rfl rfl hu14 ⟨by decide, by decide⟩ (fun h51_14 => ?_) (fun h51_14 => ?_)
        · refine ezw_iconst (0) rfl rfl ?_
          exact ezw_ireturn rfl (ezw_zret ⟨by omega, by omega⟩) ⟨⟨F, A, rfl, hI⟩, _, ⟨by omega, by omega⟩, rfl⟩
        · refine ezw_iconst (1) rfl rfl ?_
          refine ezw_goto rfl rfl ?_
          exact ezw_ireturn rfl (ezw_zret ⟨by omega, by omega⟩) ⟨⟨F, A, rfl, hI⟩, _, ⟨by omega, by omega⟩, rfl⟩
    · refine ezw_iconst (0) rfl rfl ?_
      exact ezw_ireturn rfl (ezw_zret ⟨by omega, by omega⟩) ⟨⟨F, A, rfl, hI⟩, _, ⟨by omega, by omega⟩, rfl⟩
theorem ezs_m126_26_30 {a2 a3 : Int} {F : Nat → Nat → Int} {A : Nat → Int → Int} (hI : ezs_I fz F0 A0 F A) (hd : 3 ≤ d) (hzA : ∀ q, 26 ≤ q → q < 27 → fz q = false) (ha2 : ezw_in a2) (ha3 : ezw_in a3) : ezw_C l ρ B xa Hb D cA 126 d [ezw_p 26, ezw_p 30, ezw_i a2, ezw_i a3] (ezu_g e F A) (ezs_P e fz F0 A0 ezs_rz) := by
  refine ezw_met (k := 2) rfl rfl ?_
  refine ezw_aload_n rfl rfl ?_
  refine ezw_aload_n rfl rfl ?_
  refine ezw_iload_n rfl rfl ?_
  refine ezw_call0_2 rfl (by omega) (ezu_at rfl) rfl rfl rfl rfl (ezs_m109_26_30 hI (by omega) ha2) ?_
  rintro _ _ ⟨rfl, u1, hu1, rfl⟩
  refine ezw_istore rfl rfl ?_
  refine ezw_iload rfl rfl ?_
  refine ezw_iconst (-1) rfl rfl ?_
  refine ezw_icmp_ne rfl rfl hu1 ⟨by decide, by decide⟩ (fun h11_1 => ?_) (fun h11_1 => ?_)
  · refine ezw_iload_n rfl rfl ?_
    have J57_2 : ∀ y2 : Int, ezs_b y2 → ∀ F A, ezs_I fz F0 A0 F A → ezw_E l ρ B xa Hb D cA d ezq_re126 (ezs_P e fz F0 A0 ezs_rz) 57 [some (ezw_p 26), some (ezw_p 30), some (ezw_i a2), some (ezw_i a3), some (ezw_i u1), none] [(ezw_i y2)] (ezu_g e F A) := by
      intro y2 hy2 F A hI
      refine ezw_istore rfl rfl ?_
      refine ezw_iload rfl rfl ?_
      refine ezw_if_eq rfl rfl ⟨by omega, by omega⟩ (fun h61_3 => ?_) (fun h61_3 => ?_)
      · refine ezw_iload rfl rfl ?_
        exact ezw_ireturn rfl (ezw_zret ⟨by omega, by omega⟩) ⟨⟨F, A, rfl, hI⟩, _, ⟨by omega, by omega⟩, rfl⟩
      · refine ezw_aload_n rfl rfl ?_
        refine ezw_iload rfl rfl ?_
        refine ezw_call0_1 rfl (by omega) (ezu_at rfl) rfl rfl rfl rfl (ezs_m122_26 hI (by omega) (fun q h0 h1 => hzA q (by omega) (by omega)) hu1) ?_
        rintro _ _ ⟨⟨F, A, rfl, hI⟩, rfl⟩
        refine ezw_iload rfl rfl ?_
        exact ezw_ireturn rfl (ezw_zret ⟨by omega, by omega⟩) ⟨⟨F, A, rfl, hI⟩, _, ⟨by omega, by omega⟩, rfl⟩
    refine ezw_if_eq rfl rfl ha3 (fun h17_1 => ?_) (fun h17_1 => ?_)
    · refine ezw_aload_n rfl rfl ?_
      refine ezw_iload_n rfl rfl ?_
      refine ezw_call0_1 rfl (by omega) (ezu_at rfl) rfl rfl rfl rfl (ezs_m127_30 hI (by omega) ha2) ?_
      rintro _ _ ⟨rfl, u4, hu4, rfl⟩
      exact ezw_keepE [true, true, true, true, true, false] (J57_2 u4 ⟨by omega, by omega⟩ F A hI)
    · refine ezw_aload_n rfl rfl ?_
      refine ezs_getp (p := 31) rfl rfl rfl rfl rfl ?_
      refine ezw_iload_n rfl rfl ?_
      refine ezw_call3_2 rfl (by omega) rfl rfl (ezs_m27_31 hI (by omega) ha2) ?_
      rintro _ _ ⟨rfl, u5, hu5, rfl⟩
      refine ezw_aload_n rfl rfl ?_
      refine ezw_bipush (7) rfl rfl ?_
      refine ezw_call0_1 rfl (by omega) (ezu_at rfl) rfl rfl rfl rfl (ezs_m95_30 hI (by omega) ⟨by decide, by decide⟩) ?_
      rintro _ _ ⟨rfl, u6, hu6, rfl⟩
      refine ezw_aload_n rfl rfl ?_
      refine ezw_bipush (8) rfl rfl ?_
      refine ezw_call0_1 rfl (by omega) (ezu_at rfl) rfl rfl rfl rfl (ezs_m95_30 hI (by omega) ⟨by decide, by decide⟩) ?_
      rintro _ _ ⟨rfl, u7, hu7, rfl⟩
      refine ezs_iadd rfl (fun u8 hu8 => ?_)
      refine ezw_icmp_gt rfl rfl hu5 hu8 (fun h41_8 => ?_) (fun h41_8 => ?_)
      · refine ezw_iconst (0) rfl rfl ?_
        refine ezw_goto rfl rfl ?_
        exact ezw_keepE [true, true, true, true, true, false] (J57_2 (0) ⟨by omega, by omega⟩ F A hI)
      · refine ezw_iconst (1) rfl rfl ?_
        refine ezw_goto rfl rfl ?_
        exact ezw_keepE [true, true, true, true, true, false] (J57_2 (1) ⟨by omega, by omega⟩ F A hI)
  · refine ezw_iconst (0) rfl rfl ?_
    exact ezw_ireturn rfl (ezw_zret ⟨by omega, by omega⟩) ⟨⟨F, A, rfl, hI⟩, _, ⟨by omega, by omega⟩, rfl⟩
theorem ezs_m128_26_30 {a2 : Int} {F : Nat → Nat → Int} {A : Nat → Int → Int} (hI : ezs_I fz F0 A0 F A) (hd : 3 ≤ d) (hzA : ∀ q, 26 ≤ q → q < 27 → fz q = false) (ha2 : ezw_in a2) : ezw_C l ρ B xa Hb D cA 128 d [ezw_p 26, ezw_p 30, ezw_i a2] (ezu_g e F A) (ezs_P e fz F0 A0 ezs_rz) := by
  refine ezw_met (k := 0) rfl rfl ?_
  refine ezw_iload_n rfl rfl ?_
  refine ezw_call3_1 rfl (by omega) rfl rfl (ezs_m112 hI (by omega) ha2) ?_
  rintro _ _ ⟨rfl, u1, hu1, rfl⟩
  refine ezw_if_ne rfl rfl ⟨by omega, by omega⟩ (fun h4_1 => ?_) (fun h4_1 => ?_)
  · refine ezw_aload_n rfl rfl ?_
    refine ezw_aload_n rfl rfl ?_
    refine ezs_get_i hI rfl rfl rfl rfl rfl rfl (fun u2 hu2 ku2 => ?_)
    refine ezw_iconst (1) rfl rfl ?_
    refine ezs_iadd rfl (fun u3 hu3 => ?_)
    refine ezw_bipush (24) rfl rfl ?_
    refine ezs_irem rfl hu3 ⟨by decide, by decide⟩ (by omega) (fun u4 hu4 => ?_)
    refine ezs_put_i hI rfl rfl rfl rfl rfl (hzA 26 (by decide) (by decide)) hu4 (fun F A hI => ?_)
    refine ezw_aload_n rfl rfl ?_
    refine ezw_iload_n rfl rfl ?_
    refine ezs_put_i hI rfl rfl rfl rfl rfl (hzA 26 (by decide) (by decide)) ha2 (fun F A hI => ?_)
    refine ezw_aload_n rfl rfl ?_
    refine ezs_get_i hI rfl rfl rfl rfl rfl rfl (fun u5 hu5 ku5 => ?_)
    refine ezw_if_ne rfl rfl hu5 (fun h31_5 => ?_) (fun h31_5 => ?_)
    · refine ezw_iconst (1) rfl rfl ?_
      exact ezw_ireturn rfl (ezw_zret ⟨by omega, by omega⟩) ⟨⟨F, A, rfl, hI⟩, _, ⟨by omega, by omega⟩, rfl⟩
    · refine ezw_aload_n rfl rfl ?_
      refine ezw_aload_n rfl rfl ?_
      refine ezw_aload_n rfl rfl ?_
      refine ezs_get_i hI rfl rfl rfl rfl rfl rfl (fun u6 hu6 ku6 => ?_)
      refine ezw_aload_n rfl rfl ?_
      refine ezs_get_i hI rfl rfl rfl rfl rfl rfl (fun u7 hu7 ku7 => ?_)
      refine ezw_call2_3 rfl (by omega) rfl rfl (ezs_m129_30 hI (by omega) hu6 hu7) ?_
      rintro _ _ ⟨rfl, u8, hu8, rfl⟩
      refine ezs_put_i hI rfl rfl rfl rfl rfl (hzA 26 (by decide) (by decide)) hu8 (fun F A hI => ?_)
      refine ezw_iconst (1) rfl rfl ?_
      exact ezw_ireturn rfl (ezw_zret ⟨by omega, by omega⟩) ⟨⟨F, A, rfl, hI⟩, _, ⟨by omega, by omega⟩, rfl⟩
  · refine ezw_iconst (0) rfl rfl ?_
    exact ezw_ireturn rfl (ezw_zret ⟨by omega, by omega⟩) ⟨⟨F, A, rfl, hI⟩, _, ⟨by omega, by omega⟩, rfl⟩
theorem ezs_m123_26 {F : Nat → Nat → Int} {A : Nat → Int → Int} (hI : ezs_I fz F0 A0 F A) (hd : 0 ≤ d) (hzA : ∀ q, 26 ≤ q → q < 27 → fz q = false) : ezw_C l ρ B xa Hb D cA 123 d [ezw_p 26] (ezu_g e F A) (ezs_P e fz F0 A0 ezs_rz) := by
  refine ezw_met (k := 0) rfl rfl ?_
  refine ezw_aload_n rfl rfl ?_
  refine ezs_get_i hI rfl rfl rfl rfl rfl rfl (fun u1 hu1 ku1 => ?_)
  refine ezw_if_ne rfl rfl hu1 (fun h4_1 => ?_) (fun h4_1 => ?_)
  · refine ezw_iconst (0) rfl rfl ?_
    exact ezw_ireturn rfl (ezw_zret ⟨by omega, by omega⟩) ⟨⟨F, A, rfl, hI⟩, _, ⟨by omega, by omega⟩, rfl⟩
  · refine ezw_aload_n rfl rfl ?_
    refine ezs_get_i hI rfl rfl rfl rfl rfl rfl (fun u2 hu2 ku2 => ?_)
    refine ezw_if_gt rfl rfl hu2 (fun h11_2 => ?_) (fun h11_2 => ?_)
    · refine ezw_aload_n rfl rfl ?_
      refine ezw_dup rfl rfl ?_
      refine ezs_get_i hI rfl rfl rfl rfl rfl rfl (fun u3 hu3 ku3 => ?_)
      refine ezw_iconst (1) rfl rfl ?_
      refine ezs_isub rfl (fun u4 hu4 => ?_)
      refine ezs_put_i hI rfl rfl rfl rfl rfl (hzA 26 (by decide) (by decide)) hu4 (fun F A hI => ?_)
      refine ezw_iconst (1) rfl rfl ?_
      exact ezw_ireturn rfl (ezw_zret ⟨by omega, by omega⟩) ⟨⟨F, A, rfl, hI⟩, _, ⟨by omega, by omega⟩, rfl⟩
    · refine ezw_iconst (0) rfl rfl ?_
      exact ezw_ireturn rfl (ezw_zret ⟨by omega, by omega⟩) ⟨⟨F, A, rfl, hI⟩, _, ⟨by omega, by omega⟩, rfl⟩
theorem ezs_m120_26_30 {a2 a3 a4 : Int} {F : Nat → Nat → Int} {A : Nat → Int → Int} (hI : ezs_I fz F0 A0 F A) (hd : 4 ≤ d) (hzA : ∀ q, 26 ≤ q → q < 27 → fz q = false) (ha2 : ezw_in a2) (ha3 : ezw_in a3) (ha4 : ezw_in a4) : ezw_C l ρ B xa Hb D cA 120 d [ezw_p 26, ezw_p 30, ezw_i a2, ezw_i a3, ezw_i a4] (ezu_g e F A) (ezs_P e fz F0 A0 ezs_rz) := by
  refine ezw_met (k := 0) rfl rfl ?_
  refine ezw_iload_n rfl rfl ?_
  by_cases q1 : a2 = (0)
  · refine ezw_tableswitchE (v := 0) (p := 48) q1 rfl (by rfl) ?_
    refine ezw_aload_n rfl rfl ?_
    refine ezw_aload_n rfl rfl ?_
    refine ezw_iload_n rfl rfl ?_
    refine ezw_iconst (0) rfl rfl ?_
    refine ezw_iload rfl rfl ?_
    refine ezw_call0_4 rfl (by omega) (ezu_at rfl) rfl rfl rfl rfl (ezs_m121_26_30 hI (by omega) (fun q h0 h1 => hzA q (by omega) (by omega)) ha3 ⟨by decide, by decide⟩ ha4) ?_
    rintro _ _ ⟨⟨F, A, rfl, hI⟩, u2, hu2, rfl⟩
    exact ezw_ireturn rfl (ezw_zret ⟨by omega, by omega⟩) ⟨⟨F, A, rfl, hI⟩, _, ⟨by omega, by omega⟩, rfl⟩
  by_cases q3 : a2 = (1)
  · refine ezw_tableswitchE (v := 1) (p := 58) q3 rfl (by rfl) ?_
    refine ezw_aload_n rfl rfl ?_
    refine ezw_aload_n rfl rfl ?_
    refine ezw_iload_n rfl rfl ?_
    refine ezw_iconst (1) rfl rfl ?_
    refine ezw_iload rfl rfl ?_
    refine ezw_call0_4 rfl (by omega) (ezu_at rfl) rfl rfl rfl rfl (ezs_m121_26_30 hI (by omega) (fun q h0 h1 => hzA q (by omega) (by omega)) ha3 ⟨by decide, by decide⟩ ha4) ?_
    rintro _ _ ⟨⟨F, A, rfl, hI⟩, u4, hu4, rfl⟩
    exact ezw_ireturn rfl (ezw_zret ⟨by omega, by omega⟩) ⟨⟨F, A, rfl, hI⟩, _, ⟨by omega, by omega⟩, rfl⟩
  by_cases q5 : a2 = (2)
  · refine ezw_tableswitchE (v := 2) (p := 68) q5 rfl (by rfl) ?_
    refine ezw_aload_n rfl rfl ?_
    refine ezw_call0_0 rfl (by omega) (ezu_at rfl) rfl rfl rfl rfl (ezs_m123_26 hI (by omega) (fun q h0 h1 => hzA q (by omega) (by omega))) ?_
    rintro _ _ ⟨⟨F, A, rfl, hI⟩, u6, hu6, rfl⟩
    exact ezw_ireturn rfl (ezw_zret ⟨by omega, by omega⟩) ⟨⟨F, A, rfl, hI⟩, _, ⟨by omega, by omega⟩, rfl⟩
  by_cases q7 : a2 = (3)
  · refine ezw_tableswitchE (v := 3) (p := 73) q7 rfl (by rfl) ?_
    refine ezw_aload_n rfl rfl ?_
    refine ezw_aload_n rfl rfl ?_
    refine ezw_call0_1 rfl (by omega) (ezu_at rfl) rfl rfl rfl rfl (ezs_m124_26_30 hI (by omega) (fun q h0 h1 => hzA q (by omega) (by omega))) ?_
    rintro _ _ ⟨⟨F, A, rfl, hI⟩, u8, hu8, rfl⟩
    exact ezw_ireturn rfl (ezw_zret ⟨by omega, by omega⟩) ⟨⟨F, A, rfl, hI⟩, _, ⟨by omega, by omega⟩, rfl⟩
  by_cases q9 : a2 = (4)
  · refine ezw_tableswitchE (v := 4) (p := 79) q9 rfl (by rfl) ?_
    refine ezw_aload_n rfl rfl ?_
    refine ezw_aload_n rfl rfl ?_
    refine ezw_iload_n rfl rfl ?_
    refine ezw_iload rfl rfl ?_
    refine ezw_call0_3 rfl (by omega) (ezu_at rfl) rfl rfl rfl rfl (ezs_m125_26_30 hI (by omega) (fun q h0 h1 => hzA q (by omega) (by omega)) ha3 ha4) ?_
    rintro _ _ ⟨⟨F, A, rfl, hI⟩, u10, hu10, rfl⟩
    exact ezw_ireturn rfl (ezw_zret ⟨by omega, by omega⟩) ⟨⟨F, A, rfl, hI⟩, _, ⟨by omega, by omega⟩, rfl⟩
  by_cases q11 : a2 = (5)
  · refine ezw_tableswitchE (v := 5) (p := 88) q11 rfl (by rfl) ?_
    refine ezw_aload_n rfl rfl ?_
    refine ezw_aload_n rfl rfl ?_
    refine ezw_iload_n rfl rfl ?_
    refine ezw_iconst (0) rfl rfl ?_
    refine ezw_call0_3 rfl (by omega) (ezu_at rfl) rfl rfl rfl rfl (ezs_m126_26_30 hI (by omega) (fun q h0 h1 => hzA q (by omega) (by omega)) ha3 ⟨by decide, by decide⟩) ?_
    rintro _ _ ⟨⟨F, A, rfl, hI⟩, u12, hu12, rfl⟩
    exact ezw_ireturn rfl (ezw_zret ⟨by omega, by omega⟩) ⟨⟨F, A, rfl, hI⟩, _, ⟨by omega, by omega⟩, rfl⟩
  by_cases q13 : a2 = (6)
  · refine ezw_tableswitchE (v := 6) (p := 96) q13 rfl (by rfl) ?_
    refine ezw_aload_n rfl rfl ?_
    refine ezw_aload_n rfl rfl ?_
    refine ezw_iload_n rfl rfl ?_
    refine ezw_iconst (1) rfl rfl ?_
    refine ezw_call0_3 rfl (by omega) (ezu_at rfl) rfl rfl rfl rfl (ezs_m126_26_30 hI (by omega) (fun q h0 h1 => hzA q (by omega) (by omega)) ha3 ⟨by decide, by decide⟩) ?_
    rintro _ _ ⟨⟨F, A, rfl, hI⟩, u14, hu14, rfl⟩
    exact ezw_ireturn rfl (ezw_zret ⟨by omega, by omega⟩) ⟨⟨F, A, rfl, hI⟩, _, ⟨by omega, by omega⟩, rfl⟩
  by_cases q15 : a2 = (7)
  · refine ezw_tableswitchE (v := 7) (p := 104) q15 rfl (by rfl) ?_
    refine ezw_aload_n rfl rfl ?_
    refine ezw_aload_n rfl rfl ?_
    refine ezw_iload_n rfl rfl ?_
    refine ezw_call0_2 rfl (by omega) (ezu_at rfl) rfl rfl rfl rfl (ezs_m128_26_30 hI (by omega) (fun q h0 h1 => hzA q (by omega) (by omega)) ha3) ?_
    rintro _ _ ⟨⟨F, A, rfl, hI⟩, u16, hu16, rfl⟩
    exact ezw_ireturn rfl (ezw_zret ⟨by omega, by omega⟩) ⟨⟨F, A, rfl, hI⟩, _, ⟨by omega, by omega⟩, rfl⟩
  refine ezw_tableswitch (p := 111) rfl (ezs_swd ha2 (And.intro (And.intro ⟨by decide, by decide⟩ (fun z => q1 z.symm)) (And.intro (And.intro ⟨by decide, by decide⟩ (fun z => q3 z.symm)) (And.intro (And.intro ⟨by decide, by decide⟩ (fun z => q5 z.symm)) (And.intro (And.intro ⟨by decide, by decide⟩ (fun z => q7 z.symm)) (And.intro (And.intro ⟨by decide, by decide⟩ (fun z => q9 z.symm)) (And.intro (And.intro ⟨by decide, by decide⟩ (fun z => q11 z.symm)) (And.intro (And.intro ⟨by decide, by decide⟩ (fun z => q13 z.symm)) (And.intro (And.intro ⟨by decide, by decide⟩ (fun z => q15 z.symm)) True.intro)))))))) rfl) ?_
  refine ezw_iconst (0) rfl rfl ?_
  exact ezw_ireturn rfl (ezw_zret ⟨by omega, by omega⟩) ⟨⟨F, A, rfl, hI⟩, _, ⟨by omega, by omega⟩, rfl⟩
theorem ezs_m143_26_30 {F : Nat → Nat → Int} {A : Nat → Int → Int} (hI : ezs_I fz F0 A0 F A) (hd : 2 ≤ d) : ezw_C l ρ B xa Hb D cA 143 d [ezw_p 26, ezw_p 30] (ezu_g e F A) (ezs_Pp e F A ezs_ri) := by
  refine ezw_met (k := 1) rfl rfl ?_
  refine ezw_aload_n rfl rfl ?_
  refine ezw_aload_n rfl rfl ?_
  refine ezs_get_i hI rfl rfl rfl rfl rfl rfl (fun u1 hu1 ku1 => ?_)
  refine ezw_call0_1 rfl (by omega) (ezu_at rfl) rfl rfl rfl rfl (ezs_m144_30 hI (by omega) hu1) ?_
  rintro _ _ ⟨rfl, u2, hu2, rfl⟩
  refine ezw_istore_n rfl rfl ?_
  refine ezw_aload_n rfl rfl ?_
  refine ezs_get_i hI rfl rfl rfl rfl rfl rfl (fun u3 hu3 ku3 => ?_)
  refine ezw_iconst (1) rfl rfl ?_
  refine ezw_icmp_ne rfl rfl hu3 ⟨by decide, by decide⟩ (fun h14_3 => ?_) (fun h14_3 => ?_)
  · refine ezw_iload_n rfl rfl ?_
    exact ezw_ireturn rfl rfl ⟨rfl, _, hu2, rfl⟩
  · refine ezw_aload_n rfl rfl ?_
    refine ezs_get_i hI rfl rfl rfl rfl rfl rfl (fun u4 hu4 ku4 => ?_)
    refine ezw_if_le rfl rfl hu4 (fun h21_4 => ?_) (fun h21_4 => ?_)
    · refine ezw_iload_n rfl rfl ?_
      exact ezw_ireturn rfl rfl ⟨rfl, _, hu2, rfl⟩
    · refine ezw_iload_n rfl rfl ?_
      refine ezw_aload_n rfl rfl ?_
      refine ezw_iconst (0) rfl rfl ?_
      refine ezw_call0_1 rfl (by omega) (ezu_at rfl) rfl rfl rfl rfl (ezs_m95_30 hI (by omega) ⟨by decide, by decide⟩) ?_
      rintro _ _ ⟨rfl, u5, hu5, rfl⟩
      refine ezs_iadd rfl (fun u6 hu6 => ?_)
      refine ezw_goto rfl rfl ?_
      exact ezw_ireturn rfl rfl ⟨rfl, _, hu6, rfl⟩
theorem ezs_m94_26_30 {F : Nat → Nat → Int} {A : Nat → Int → Int} (hI : ezs_I fz F0 A0 F A) (hd : 2 ≤ d) (hzA : ∀ q, 26 ≤ q → q < 27 → fz q = false) : ezw_C l ρ B xa Hb D cA 94 d [ezw_p 26, ezw_p 30] (ezu_g e F A) (ezs_P e fz F0 A0 ezs_rn) := by
  refine ezw_met (k := 0) rfl rfl ?_
  refine ezw_aload_n rfl rfl ?_
  refine ezw_iconst (1) rfl rfl ?_
  refine ezw_aload_n rfl rfl ?_
  refine ezs_get_i hI rfl rfl rfl rfl rfl rfl (fun u1 hu1 ku1 => ?_)
  refine ezw_ishlO rfl (fun u2 hu2 => ?_)
  refine ezw_iconst (1) rfl rfl ?_
  refine ezs_isub rfl (fun u3 hu3 => ?_)
  refine ezs_put_i hI rfl rfl rfl rfl rfl (hzA 26 (by decide) (by decide)) hu3 (fun F A hI => ?_)
  refine ezw_aload_n rfl rfl ?_
  refine ezw_iconst (0) rfl rfl ?_
  refine ezs_put_i hI rfl rfl rfl rfl rfl (hzA 26 (by decide) (by decide)) ⟨by decide, by decide⟩ (fun F A hI => ?_)
  refine ezw_aload_n rfl rfl ?_
  refine ezw_bipush (12) rfl rfl ?_
  refine ezs_put_i hI rfl rfl rfl rfl rfl (hzA 26 (by decide) (by decide)) ⟨by decide, by decide⟩ (fun F A hI => ?_)
  refine ezw_aload_n rfl rfl ?_
  refine ezw_aload_n rfl rfl ?_
  refine ezw_iconst (2) rfl rfl ?_
  refine ezw_call0_1 rfl (by omega) (ezu_at rfl) rfl rfl rfl rfl (ezs_m95_30 hI (by omega) ⟨by decide, by decide⟩) ?_
  rintro _ _ ⟨rfl, u4, hu4, rfl⟩
  refine ezs_put_i hI rfl rfl rfl rfl rfl (hzA 26 (by decide) (by decide)) ⟨by omega, by omega⟩ (fun F A hI => ?_)
  refine ezw_aload_n rfl rfl ?_
  refine ezw_aload_n rfl rfl ?_
  refine ezs_get_i hI rfl rfl rfl rfl rfl rfl (fun u5 hu5 ku5 => ?_)
  have J45_6 : ∀ y6 : Int, ezs_b y6 → ∀ F A, ezs_I fz F0 A0 F A → ezw_E l ρ B xa Hb D cA d ezq_re94 (ezs_P e fz F0 A0 ezs_rn) 45 [some (ezw_p 26), some (ezw_p 30)] [(ezw_i y6), (ezw_p 26)] (ezu_g e F A) := by
    intro y6 hy6 F A hI
    refine ezs_put_i hI rfl rfl rfl rfl rfl (hzA 26 (by decide) (by decide)) ⟨by omega, by omega⟩ (fun F A hI => ?_)
    refine ezw_aload_n rfl rfl ?_
    refine ezw_aload_n rfl rfl ?_
    refine ezw_iconst (1) rfl rfl ?_
    refine ezw_call0_1 rfl (by omega) (ezu_at rfl) rfl rfl rfl rfl (ezs_m95_30 hI (by omega) ⟨by decide, by decide⟩) ?_
    rintro _ _ ⟨rfl, u8, hu8, rfl⟩
    refine ezs_put_i hI rfl rfl rfl rfl rfl (hzA 26 (by decide) (by decide)) ⟨by omega, by omega⟩ (fun F A hI => ?_)
    refine ezw_aload_n rfl rfl ?_
    refine ezw_iconst (1) rfl rfl ?_
    refine ezw_aload_n rfl rfl ?_
    refine ezs_get_i hI rfl rfl rfl rfl rfl rfl (fun u9 hu9 ku9 => ?_)
    refine ezw_ishlO rfl (fun u10 hu10 => ?_)
    refine ezw_iconst (1) rfl rfl ?_
    refine ezs_isub rfl (fun u11 hu11 => ?_)
    refine ezs_put_i hI rfl rfl rfl rfl rfl (hzA 26 (by decide) (by decide)) hu11 (fun F A hI => ?_)
    exact ezw_return rfl rfl ⟨⟨F, A, rfl, hI⟩, rfl⟩
  refine ezw_if_le rfl rfl hu5 (fun h37_5 => ?_) (fun h37_5 => ?_)
  · refine ezw_iconst (1) rfl rfl ?_
    exact ezw_keepE [true, true] (J45_6 (1) ⟨by omega, by omega⟩ F A hI)
  · refine ezw_iconst (0) rfl rfl ?_
    refine ezw_goto rfl rfl ?_
    exact ezw_keepE [true, true] (J45_6 (0) ⟨by omega, by omega⟩ F A hI)
theorem ezs_m21_25 {a1 a2 : Int} {F : Nat → Nat → Int} {A : Nat → Int → Int} (hI : ezs_I fz F0 A0 F A) (hd : 0 ≤ d) (hzA : ∀ q, 25 ≤ q → q < 26 → fz q = false) (ha1 : ezw_in a1) (ha2 : ezw_in a2) : ezw_C l ρ B xa Hb D cA 21 d [ezw_p 25, ezw_i a1, ezw_i a2] (ezu_g e F A) (ezs_P e fz F0 A0 ezs_rn) := by
  refine ezw_met (k := 0) rfl rfl ?_
  refine ezw_aload_n rfl rfl ?_
  refine ezw_ifnull rfl ?_
  refine ezw_iload_n rfl rfl ?_
  refine ezw_if_lt rfl rfl ha1 (fun h5_0 => ?_) (fun h5_0 => ?_)
  · exact ezw_return rfl rfl ⟨⟨F, A, rfl, hI⟩, rfl⟩
  · refine ezw_iload_n rfl rfl ?_
    refine ezw_aload_n rfl rfl ?_
    refine ezs_alen (k := 6) rfl rfl rfl rfl (by decide) (by decide) ?_
    refine ezw_icmp_ge rfl rfl ha1 ⟨by decide, by decide⟩ (fun h11_0 => ?_) (fun h11_0 => ?_)
    · exact ezw_return rfl rfl ⟨⟨F, A, rfl, hI⟩, rfl⟩
    · refine ezw_aload_n rfl rfl ?_
      refine ezw_iload_n rfl rfl ?_
      refine ezw_iload_n rfl rfl ?_
      refine ezs_iastore hI rfl rfl rfl (by omega) (by omega) (by decide) (hzA 25 (by decide) (by decide)) ha2 (fun F A hI => ?_)
      exact ezw_return rfl rfl ⟨⟨F, A, rfl, hI⟩, rfl⟩
theorem ezs_m147_23_30_13 {F : Nat → Nat → Int} {A : Nat → Int → Int} (hI : ezs_I fz F0 A0 F A) (hd : 2 ≤ d) (hzA : ∀ q, 23 ≤ q → q < 26 → fz q = false) : ezw_C l ρ B xa Hb D cA 147 d [ezw_p 23, ezw_p 30, ezw_p 13] (ezu_g e F A) (ezs_P e fz F0 A0 ezs_rn) := by
  refine ezw_met (k := 2) rfl rfl ?_
  refine ezw_aload_n rfl rfl ?_
  refine ezw_aload_n rfl rfl ?_
  refine ezs_get_i hI rfl rfl rfl rfl rfl rfl (fun u1 hu1 ku1 => ?_)
  refine ezs_put_i hI rfl rfl rfl rfl rfl (hzA 23 (by decide) (by decide)) hu1 (fun F A hI => ?_)
  refine ezw_aload_n rfl rfl ?_
  refine ezw_aload_n rfl rfl ?_
  refine ezs_get_i hI rfl rfl rfl rfl rfl rfl (fun u2 hu2 ku2 => ?_)
  have J25_3 : ∀ y3 : Int, ezw_in y3 → ∀ F A, ezs_I fz F0 A0 F A → ezw_E l ρ B xa Hb D cA d ezq_re147 (ezs_P e fz F0 A0 ezs_rn) 25 [some (ezw_p 23), some (ezw_p 30), some (ezw_p 13), none, none] [(ezw_i y3), (ezw_p 23)] (ezu_g e F A) := by
    intro y3 hy3 F A hI
    refine ezs_put_i hI rfl rfl rfl rfl rfl (hzA 23 (by decide) (by decide)) hy3 (fun F A hI => ?_)
    refine ezw_iconst (0) rfl rfl ?_
    refine ezw_istore_n rfl rfl ?_
    refine ezw_iconst (0) rfl rfl ?_
    refine ezw_istore rfl rfl ?_
    have L33_6 : ∀ c6 : Int, ezw_in c6 → (0) ≤ c6 → ∀ y5 : Int, ezw_in y5 → ∀ F A, ezs_I fz F0 A0 F A → ezw_E l ρ B xa Hb D cA d ezq_re147 (ezs_P e fz F0 A0 ezs_rn) 33 [some (ezw_p 23), some (ezw_p 30), some (ezw_p 13), some (ezw_i y5), some (ezw_i c6)] [] (ezu_g e F A) := by
      refine ezs_up ?_
      intro c6 hc6 ihc6 gc6 y5 hy5 F A hI
      refine ezw_iload rfl rfl ?_
      refine ezw_bipush (6) rfl rfl ?_
      have J76_9 : ∀ y8 : Int, ezw_in y8 → ∀ y9 : Int, ezw_in y9 → ∀ F A, ezs_I fz F0 A0 F A → ezw_E l ρ B xa Hb D cA d ezq_re147 (ezs_P e fz F0 A0 ezs_rn) 76 [some (ezw_p 23), some (ezw_p 30), some (ezw_p 13), some (ezw_i y8), some (ezw_i y9)] [] (ezu_g e F A) := by
        intro y8 hy8 y9 hy9 F A hI
        refine ezw_aload_n rfl rfl ?_
        refine ezs_getp (p := 24) rfl rfl rfl rfl rfl ?_
        refine ezw_iconst (-1) rfl rfl ?_
        refine ezw_call2_2 rfl (by omega) rfl rfl (ezs_m26_24 hI (by omega) (fun q h0 h1 => hzA q (by omega) (by omega)) ⟨by decide, by decide⟩) ?_
        rintro _ _ ⟨⟨F, A, rfl, hI⟩, rfl⟩
        exact ezw_return rfl rfl ⟨⟨F, A, rfl, hI⟩, rfl⟩
      refine ezw_icmp_ge rfl rfl hc6 ⟨by decide, by decide⟩ (fun h37_7 => ?_) (fun h37_7 => ?_)
      · exact ezw_keepE [true, true, true, true, true] (J76_9 y5 hy5 c6 hc6 F A hI)
      · refine ezw_aload_n rfl rfl ?_
        refine ezs_get_i hI rfl rfl rfl rfl rfl rfl (fun u11 hu11 ku11 => ?_)
        refine ezw_iload rfl rfl ?_
        refine ezw_call3_2 rfl (by omega) rfl rfl (ezs_m49 hI (by omega) hu11 hc6) ?_
        rintro _ _ ⟨rfl, u12, hu12, rfl⟩
        refine ezw_iconst (1) rfl rfl ?_
        refine ezw_icmp_ne rfl rfl hu12 ⟨by decide, by decide⟩ (fun h50_12 => ?_) (fun h50_12 => ?_)
        · refine ezw_iinc (1) rfl rfl rfl rfl rfl ?_
          refine ezw_goto rfl rfl ?_
          exact ezw_keepE [true, true, true, true, true] (ihc6 (c6 + (1)) (by omega) ⟨by omega, by omega⟩ (by omega) y5 hy5 F A hI)
        · refine ezw_aload_n rfl rfl ?_
          refine ezs_getp (p := 25) rfl rfl rfl rfl rfl ?_
          refine ezw_iload_n rfl rfl ?_
          refine ezw_aload_n rfl rfl ?_
          refine ezw_iload rfl rfl ?_
          refine ezw_call0_1 rfl (by omega) (ezu_at rfl) rfl rfl rfl rfl (ezs_m108_30 hI (by omega) hc6) ?_
          rintro _ _ ⟨rfl, u13, hu13, rfl⟩
          refine ezw_call3_3 rfl (by omega) rfl rfl (ezs_m21_25 hI (by omega) (fun q h0 h1 => hzA q (by omega) (by omega)) hy5 hu13) ?_
          rintro _ _ ⟨⟨F, A, rfl, hI⟩, rfl⟩
          refine ezs_iincO (1) rfl rfl rfl rfl (fun u14 hu14 => ?_)
          refine ezw_iinc (1) rfl rfl rfl rfl rfl ?_
          refine ezw_goto rfl rfl ?_
          exact ezw_keepE [true, true, true, true, true] (ihc6 (c6 + (1)) (by omega) ⟨by omega, by omega⟩ (by omega) u14 hu14 F A hI)
    exact ezw_keepE [true, true, true, true, true] (L33_6 (0) ⟨by decide, by decide⟩ (by omega) (0) ⟨by decide, by decide⟩ F A hI)
  refine ezw_if_le rfl rfl hu2 (fun h13_2 => ?_) (fun h13_2 => ?_)
  · refine ezw_iconst (0) rfl rfl ?_
    exact ezw_keepE [true, true, true, false, false] (J25_3 (0) ⟨by decide, by decide⟩ F A hI)
  · refine ezw_aload_n rfl rfl ?_
    refine ezw_iconst (0) rfl rfl ?_
    refine ezw_call0_1 rfl (by omega) (ezu_at rfl) rfl rfl rfl rfl (ezs_m95_30 hI (by omega) ⟨by decide, by decide⟩) ?_
    rintro _ _ ⟨rfl, u15, hu15, rfl⟩
    refine ezw_goto rfl rfl ?_
    exact ezw_keepE [true, true, true, false, false] (J25_3 u15 ⟨by omega, by omega⟩ F A hI)
theorem ezs_m170_13_30 {a2 a3 : Int} {F : Nat → Nat → Int} {A : Nat → Int → Int} (hI : ezs_I fz F0 A0 F A) (hd : 2 ≤ d) (ha2 : ezw_in a2) (ha3 : ezw_in a3) : ezw_C l ρ B xa Hb D cA 170 d [ezw_p 13, ezw_p 30, ezw_i a2, ezw_i a3] (ezu_g e F A) (ezs_Pp e F A ezs_ri) := by
  refine ezw_met (k := 6) rfl rfl ?_
  refine ezw_aload_n rfl rfl ?_
  refine ezs_get_i hI rfl rfl rfl rfl rfl rfl (fun u1 hu1 ku1 => ?_)
  refine ezw_istore rfl rfl ?_
  refine ezw_iload_n rfl rfl ?_
  refine ezw_istore rfl rfl ?_
  refine ezw_iload_n rfl rfl ?_
  refine ezw_istore rfl rfl ?_
  refine ezw_iconst (0) rfl rfl ?_
  refine ezw_istore rfl rfl ?_
  have L15_5 : ∀ c5 : Int, ezw_in c5 → (0) ≤ c5 → ∀ y2 : Int, ezw_in y2 → ∀ y3 : Int, ezw_in y3 → ∀ y4 : Int, ezw_in y4 → ezw_E l ρ B xa Hb D cA d ezq_re170 (ezs_Pp e F A ezs_ri) 15 [some (ezw_p 13), some (ezw_p 30), some (ezw_i a2), some (ezw_i a3), some (ezw_i y2), some (ezw_i y3), some (ezw_i y4), some (ezw_i c5), none, none] [] (ezu_g e F A) := by
    refine ezs_up ?_
    intro c5 hc5 ihc5 gc5 y2 hy2 y3 hy3 y4 hy4 
    refine ezw_iload rfl rfl ?_
    refine ezw_bipush (6) rfl rfl ?_
    refine ezw_icmp_ge rfl rfl hc5 ⟨by decide, by decide⟩ (fun h19_6 => ?_) (fun h19_6 => ?_)
    · refine ezw_iload rfl rfl ?_
      exact ezw_ireturn rfl rfl ⟨rfl, _, hy2, rfl⟩
    · refine ezw_iload rfl rfl ?_
      refine ezw_if_eq rfl rfl hy2 (fun h24_6 => ?_) (fun h24_6 => ?_)
      · refine ezw_iload rfl rfl ?_
        exact ezw_ireturn rfl rfl ⟨rfl, _, hy2, rfl⟩
      · refine ezw_iload rfl rfl ?_
        refine ezw_call2_1 rfl (by omega) rfl rfl (ezs_m107 hI (by omega) hy2) ?_
        rintro _ _ ⟨rfl, u7, hu7, rfl⟩
        refine ezw_istore rfl rfl ?_
        refine ezw_aload_n rfl rfl ?_
        refine ezs_getp (p := 33) rfl rfl rfl rfl rfl ?_
        refine ezw_aload_n rfl rfl ?_
        refine ezw_iload rfl rfl ?_
        refine ezw_call0_1 rfl (by omega) (ezu_at rfl) rfl rfl rfl rfl (ezs_m108_30 hI (by omega) hu7) ?_
        rintro _ _ ⟨rfl, u8, hu8, rfl⟩
        refine ezw_call3_2 rfl (by omega) rfl rfl (ezs_m27_33 hI (by omega) hu8) ?_
        rintro _ _ ⟨rfl, u9, hu9, rfl⟩
        refine ezw_istore rfl rfl ?_
        refine ezw_iload rfl rfl ?_
        refine ezw_iload rfl rfl ?_
        refine ezw_iload rfl rfl ?_
        refine ezw_call3_2 rfl (by omega) rfl rfl (ezs_m114 hI (by omega) hy3 hu9) ?_
        rintro _ _ ⟨rfl, u10, hu10, rfl⟩
        refine ezs_isub rfl (fun u11 hu11 => ?_)
        refine ezw_istore rfl rfl ?_
        refine ezw_iload rfl rfl ?_
        refine ezw_if_ge rfl rfl hu11 (fun h63_11 => ?_) (fun h63_11 => ?_)
        · refine ezw_iload rfl rfl ?_
          refine ezw_iconst (1) rfl rfl ?_
          refine ezw_iload rfl rfl ?_
          refine ezw_ishlO rfl (fun u12 hu12 => ?_)
          refine ezw_iconst (-1) rfl rfl ?_
          refine ezs_ixor rfl (fun u13 hu13 => ?_)
          refine ezs_iand rfl (fun u14 hu14 => ?_)
          refine ezw_istore rfl rfl ?_
          refine ezw_iload rfl rfl ?_
          refine ezw_istore rfl rfl ?_
          refine ezw_iinc (1) rfl rfl rfl rfl rfl ?_
          refine ezw_goto rfl rfl ?_
          exact ezw_keepE [true, true, true, true, true, true, true, true, false, false] (ihc5 (c5 + (1)) (by omega) ⟨by omega, by omega⟩ (by omega) u14 hu14 u9 hu9 u11 hu11)
        · refine ezw_iload rfl rfl ?_
          exact ezw_ireturn rfl rfl ⟨rfl, _, hy2, rfl⟩
  exact ezw_keepE [true, true, true, true, true, true, true, true, false, false] (L15_5 (0) ⟨by decide, by decide⟩ (by omega) u1 hu1 a2 ha2 a3 ha3)
theorem ezs_m174_13_30 {F : Nat → Nat → Int} {A : Nat → Int → Int} (hI : ezs_I fz F0 A0 F A) (hd : 3 ≤ d) : ezw_C l ρ B xa Hb D cA 174 d [ezw_p 13, ezw_p 30] (ezu_g e F A) (ezs_Pp e F A ezs_ri) := by
  refine ezw_met (k := 3) rfl rfl ?_
  refine ezw_aload_n rfl rfl ?_
  refine ezs_get_i hI rfl rfl rfl rfl rfl rfl (fun u1 hu1 ku1 => ?_)
  refine ezw_istore_n rfl rfl ?_
  refine ezw_aload_n rfl rfl ?_
  refine ezs_get_i hI rfl rfl rfl rfl rfl rfl (fun u2 hu2 ku2 => ?_)
  refine ezw_istore_n rfl rfl ?_
  refine ezw_iconst (0) rfl rfl ?_
  refine ezw_istore rfl rfl ?_
  have L13_5 : ∀ c5 : Int, ezw_in c5 → (0) ≤ c5 → ∀ y3 : Int, ezw_in y3 → ∀ y4 : Int, ezw_in y4 → ezw_E l ρ B xa Hb D cA d ezq_re174 (ezs_Pp e F A ezs_ri) 13 [some (ezw_p 13), some (ezw_p 30), some (ezw_i y3), some (ezw_i y4), some (ezw_i c5)] [] (ezu_g e F A) := by
    refine ezs_up ?_
    intro c5 hc5 ihc5 gc5 y3 hy3 y4 hy4 
    refine ezw_iload rfl rfl ?_
    refine ezw_sipush (240) rfl rfl ?_
    refine ezw_icmp_gt rfl rfl hc5 ⟨by decide, by decide⟩ (fun h18_6 => ?_) (fun h18_6 => ?_)
    · refine ezw_iconst (-1) rfl rfl ?_
      exact ezw_ireturn rfl rfl ⟨rfl, _, ⟨by decide, by decide⟩, rfl⟩
    · refine ezw_iload_n rfl rfl ?_
      refine ezw_if_gt rfl rfl hy4 (fun h22_6 => ?_) (fun h22_6 => ?_)
      · refine ezw_iload_n rfl rfl ?_
        refine ezw_iconst (1) rfl rfl ?_
        refine ezs_iadd rfl (fun u7 hu7 => ?_)
        refine ezw_bipush (24) rfl rfl ?_
        refine ezs_irem rfl hu7 ⟨by decide, by decide⟩ (by omega) (fun u8 hu8 => ?_)
        refine ezw_istore_n rfl rfl ?_
        refine ezw_aload_n rfl rfl ?_
        refine ezw_iload_n rfl rfl ?_
        refine ezw_iload_n rfl rfl ?_
        refine ezw_call2_3 rfl (by omega) rfl rfl (ezs_m129_30 hI (by omega) hu8 hy4) ?_
        rintro _ _ ⟨rfl, u9, hu9, rfl⟩
        refine ezw_istore_n rfl rfl ?_
        refine ezw_iinc (1) rfl rfl rfl rfl rfl ?_
        refine ezw_goto rfl rfl ?_
        exact ezw_keepE [true, true, true, true, true] (ihc5 (c5 + (1)) (by omega) ⟨by omega, by omega⟩ (by omega) u8 hu8 u9 hu9)
      · refine ezw_iload rfl rfl ?_
        exact ezw_ireturn rfl rfl ⟨rfl, _, hc5, rfl⟩
  exact ezw_keepE [true, true, true, true, true] (L13_5 (0) ⟨by decide, by decide⟩ (by omega) u1 hu1 u2 hu2)
theorem ezs_m27_14 {a1 : Int} {F : Nat → Nat → Int} {A : Nat → Int → Int} (hI : ezs_I fz F0 A0 F A) (hd : 0 ≤ d) (ha1 : ezw_in a1) : ezw_C l ρ B xa Hb D cA 27 d [ezw_p 14, ezw_i a1] (ezu_g e F A) (ezs_Pp e F A ezs_ri) := by
  refine ezw_met (k := 0) rfl rfl ?_
  refine ezw_aload_n rfl rfl ?_
  refine ezw_ifnull rfl ?_
  refine ezw_iload_n rfl rfl ?_
  refine ezw_if_lt rfl rfl ha1 (fun h5_0 => ?_) (fun h5_0 => ?_)
  · refine ezw_iconst (0) rfl rfl ?_
    exact ezw_ireturn rfl rfl ⟨rfl, _, ⟨by decide, by decide⟩, rfl⟩
  · refine ezw_iload_n rfl rfl ?_
    refine ezw_aload_n rfl rfl ?_
    refine ezs_alen (k := 4) rfl rfl rfl rfl (by decide) (by decide) ?_
    refine ezw_icmp_ge rfl rfl ha1 ⟨by decide, by decide⟩ (fun h11_0 => ?_) (fun h11_0 => ?_)
    · refine ezw_iconst (0) rfl rfl ?_
      exact ezw_ireturn rfl rfl ⟨rfl, _, ⟨by decide, by decide⟩, rfl⟩
    · refine ezw_aload_n rfl rfl ?_
      refine ezw_iload_n rfl rfl ?_
      refine ezs_iaload hI rfl rfl rfl (by omega) (by omega) (by decide) (fun u1 hu1 ku1 => ?_)
      refine ezw_goto rfl rfl ?_
      exact ezw_ireturn rfl rfl ⟨rfl, _, hu1, rfl⟩
theorem ezs_m27_15 {a1 : Int} {F : Nat → Nat → Int} {A : Nat → Int → Int} (hI : ezs_I fz F0 A0 F A) (hd : 0 ≤ d) (ha1 : ezw_in a1) : ezw_C l ρ B xa Hb D cA 27 d [ezw_p 15, ezw_i a1] (ezu_g e F A) (ezs_Pp e F A ezs_ri) := by
  refine ezw_met (k := 0) rfl rfl ?_
  refine ezw_aload_n rfl rfl ?_
  refine ezw_ifnull rfl ?_
  refine ezw_iload_n rfl rfl ?_
  refine ezw_if_lt rfl rfl ha1 (fun h5_0 => ?_) (fun h5_0 => ?_)
  · refine ezw_iconst (0) rfl rfl ?_
    exact ezw_ireturn rfl rfl ⟨rfl, _, ⟨by decide, by decide⟩, rfl⟩
  · refine ezw_iload_n rfl rfl ?_
    refine ezw_aload_n rfl rfl ?_
    refine ezs_alen (k := 4) rfl rfl rfl rfl (by decide) (by decide) ?_
    refine ezw_icmp_ge rfl rfl ha1 ⟨by decide, by decide⟩ (fun h11_0 => ?_) (fun h11_0 => ?_)
    · refine ezw_iconst (0) rfl rfl ?_
      exact ezw_ireturn rfl rfl ⟨rfl, _, ⟨by decide, by decide⟩, rfl⟩
    · refine ezw_aload_n rfl rfl ?_
      refine ezw_iload_n rfl rfl ?_
      refine ezs_iaload hI rfl rfl rfl (by omega) (by omega) (by decide) (fun u1 hu1 ku1 => ?_)
      refine ezw_goto rfl rfl ?_
      exact ezw_ireturn rfl rfl ⟨rfl, _, hu1, rfl⟩
theorem ezs_m21_14 {a1 a2 : Int} {F : Nat → Nat → Int} {A : Nat → Int → Int} (hI : ezs_I fz F0 A0 F A) (hd : 0 ≤ d) (hzA : ∀ q, 14 ≤ q → q < 15 → fz q = false) (ha1 : ezw_in a1) (ha2 : ezw_in a2) : ezw_C l ρ B xa Hb D cA 21 d [ezw_p 14, ezw_i a1, ezw_i a2] (ezu_g e F A) (ezs_P e fz F0 A0 ezs_rn) := by
  refine ezw_met (k := 0) rfl rfl ?_
  refine ezw_aload_n rfl rfl ?_
  refine ezw_ifnull rfl ?_
  refine ezw_iload_n rfl rfl ?_
  refine ezw_if_lt rfl rfl ha1 (fun h5_0 => ?_) (fun h5_0 => ?_)
  · exact ezw_return rfl rfl ⟨⟨F, A, rfl, hI⟩, rfl⟩
  · refine ezw_iload_n rfl rfl ?_
    refine ezw_aload_n rfl rfl ?_
    refine ezs_alen (k := 4) rfl rfl rfl rfl (by decide) (by decide) ?_
    refine ezw_icmp_ge rfl rfl ha1 ⟨by decide, by decide⟩ (fun h11_0 => ?_) (fun h11_0 => ?_)
    · exact ezw_return rfl rfl ⟨⟨F, A, rfl, hI⟩, rfl⟩
    · refine ezw_aload_n rfl rfl ?_
      refine ezw_iload_n rfl rfl ?_
      refine ezw_iload_n rfl rfl ?_
      refine ezs_iastore hI rfl rfl rfl (by omega) (by omega) (by decide) (hzA 14 (by decide) (by decide)) ha2 (fun F A hI => ?_)
      exact ezw_return rfl rfl ⟨⟨F, A, rfl, hI⟩, rfl⟩
theorem ezs_m21_15 {a1 a2 : Int} {F : Nat → Nat → Int} {A : Nat → Int → Int} (hI : ezs_I fz F0 A0 F A) (hd : 0 ≤ d) (hzA : ∀ q, 15 ≤ q → q < 16 → fz q = false) (ha1 : ezw_in a1) (ha2 : ezw_in a2) : ezw_C l ρ B xa Hb D cA 21 d [ezw_p 15, ezw_i a1, ezw_i a2] (ezu_g e F A) (ezs_P e fz F0 A0 ezs_rn) := by
  refine ezw_met (k := 0) rfl rfl ?_
  refine ezw_aload_n rfl rfl ?_
  refine ezw_ifnull rfl ?_
  refine ezw_iload_n rfl rfl ?_
  refine ezw_if_lt rfl rfl ha1 (fun h5_0 => ?_) (fun h5_0 => ?_)
  · exact ezw_return rfl rfl ⟨⟨F, A, rfl, hI⟩, rfl⟩
  · refine ezw_iload_n rfl rfl ?_
    refine ezw_aload_n rfl rfl ?_
    refine ezs_alen (k := 4) rfl rfl rfl rfl (by decide) (by decide) ?_
    refine ezw_icmp_ge rfl rfl ha1 ⟨by decide, by decide⟩ (fun h11_0 => ?_) (fun h11_0 => ?_)
    · exact ezw_return rfl rfl ⟨⟨F, A, rfl, hI⟩, rfl⟩
    · refine ezw_aload_n rfl rfl ?_
      refine ezw_iload_n rfl rfl ?_
      refine ezw_iload_n rfl rfl ?_
      refine ezs_iastore hI rfl rfl rfl (by omega) (by omega) (by decide) (hzA 15 (by decide) (by decide)) ha2 (fun F A hI => ?_)
      exact ezw_return rfl rfl ⟨⟨F, A, rfl, hI⟩, rfl⟩
theorem ezs_m175_13_30 {a2 : Int} {F : Nat → Nat → Int} {A : Nat → Int → Int} (hI : ezs_I fz F0 A0 F A) (hd : 2 ≤ d) (hzA : ∀ q, 14 ≤ q → q < 16 → fz q = false) (ha2 : ezw_in a2) : ezw_C l ρ B xa Hb D cA 175 d [ezw_p 13, ezw_p 30, ezw_i a2] (ezu_g e F A) (ezs_P e fz F0 A0 ezs_rn) := by
  refine ezw_met (k := 4) rfl rfl ?_
  refine ezw_aload_n rfl rfl ?_
  refine ezw_iconst (3) rfl rfl ?_
  refine ezw_call0_1 rfl (by omega) (ezu_at rfl) rfl rfl rfl rfl (ezs_m95_30 hI (by omega) ⟨by decide, by decide⟩) ?_
  rintro _ _ ⟨rfl, u1, hu1, rfl⟩
  refine ezw_istore_n rfl rfl ?_
  refine ezw_aload_n rfl rfl ?_
  refine ezw_iconst (4) rfl rfl ?_
  refine ezw_call0_1 rfl (by omega) (ezu_at rfl) rfl rfl rfl rfl (ezs_m95_30 hI (by omega) ⟨by decide, by decide⟩) ?_
  rintro _ _ ⟨rfl, u2, hu2, rfl⟩
  refine ezw_istore rfl rfl ?_
  refine ezw_iconst (0) rfl rfl ?_
  refine ezw_istore rfl rfl ?_
  have L16_3 : ∀ c3 : Int, ezw_in c3 → (0) ≤ c3 → ∀ F A, ezs_I fz F0 A0 F A → ezw_E l ρ B xa Hb D cA d ezq_re175 (ezs_P e fz F0 A0 ezs_rn) 16 [some (ezw_p 13), some (ezw_p 30), some (ezw_i a2), some (ezw_i u1), some (ezw_i u2), some (ezw_i c3), none] [] (ezu_g e F A) := by
    refine ezs_up ?_
    intro c3 hc3 ihc3 gc3 F A hI
    refine ezw_iload rfl rfl ?_
    refine ezw_iconst (4) rfl rfl ?_
    have J107_5 : ∀ y5 : Int, ezw_in y5 → ∀ F A, ezs_I fz F0 A0 F A → ezw_E l ρ B xa Hb D cA d ezq_re175 (ezs_P e fz F0 A0 ezs_rn) 107 [some (ezw_p 13), some (ezw_p 30), some (ezw_i a2), some (ezw_i u1), some (ezw_i u2), some (ezw_i y5), none] [] (ezu_g e F A) := by
      intro y5 hy5 F A hI
      refine ezw_iconst (0) rfl rfl ?_
      refine ezw_istore rfl rfl ?_
      have L110_7 : ∀ c7 : Int, ezw_in c7 → (0) ≤ c7 → ∀ F A, ezs_I fz F0 A0 F A → ezw_E l ρ B xa Hb D cA d ezq_re175 (ezs_P e fz F0 A0 ezs_rn) 110 [some (ezw_p 13), some (ezw_p 30), some (ezw_i a2), some (ezw_i u1), some (ezw_i u2), some (ezw_i c7), none] [] (ezu_g e F A) := by
        refine ezs_up ?_
        intro c7 hc7 ihc7 gc7 F A hI
        refine ezw_iload rfl rfl ?_
        refine ezw_iconst (4) rfl rfl ?_
        refine ezw_icmp_ge rfl rfl hc7 ⟨by decide, by decide⟩ (fun h113_8 => ?_) (fun h113_8 => ?_)
        · exact ezw_return rfl rfl ⟨⟨F, A, rfl, hI⟩, rfl⟩
        · refine ezw_aload_n rfl rfl ?_
          refine ezs_getp (p := 14) rfl rfl rfl rfl rfl ?_
          refine ezw_iload rfl rfl ?_
          refine ezw_aload_n rfl rfl ?_
          refine ezs_getp (p := 15) rfl rfl rfl rfl rfl ?_
          refine ezw_iload rfl rfl ?_
          refine ezw_call3_2 rfl (by omega) rfl rfl (ezs_m27_15 hI (by omega) hc7) ?_
          rintro _ _ ⟨rfl, u9, hu9, rfl⟩
          refine ezw_call3_3 rfl (by omega) rfl rfl (ezs_m21_14 hI (by omega) (fun q h0 h1 => hzA q (by omega) (by omega)) hc7 hu9) ?_
          rintro _ _ ⟨⟨F, A, rfl, hI⟩, rfl⟩
          refine ezw_iinc (1) rfl rfl rfl rfl rfl ?_
          refine ezw_goto rfl rfl ?_
          exact ezw_keepE [true, true, true, true, true, true, false] (ihc7 (c7 + (1)) (by omega) ⟨by omega, by omega⟩ (by omega)  F A hI)
      exact ezw_keepE [true, true, true, true, true, true, false] (L110_7 (0) ⟨by decide, by decide⟩ (by omega)  F A hI)
    refine ezw_icmp_ge rfl rfl hc3 ⟨by decide, by decide⟩ (fun h19_4 => ?_) (fun h19_4 => ?_)
    · exact ezw_keepE [true, true, true, true, true, true, false] (J107_5 c3 hc3 F A hI)
    · refine ezw_iload_n rfl rfl ?_
      refine ezw_aload_n rfl rfl ?_
      refine ezs_getp (p := 14) rfl rfl rfl rfl rfl ?_
      refine ezw_iload rfl rfl ?_
      refine ezw_iconst (1) rfl rfl ?_
      refine ezs_iadd rfl (fun u10 hu10 => ?_)
      refine ezw_iconst (4) rfl rfl ?_
      refine ezs_irem rfl hu10 ⟨by decide, by decide⟩ (by omega) (fun u11 hu11 => ?_)
      refine ezw_call3_2 rfl (by omega) rfl rfl (ezs_m27_14 hI (by omega) hu11) ?_
      rintro _ _ ⟨rfl, u12, hu12, rfl⟩
      refine ezs_imul rfl (fun u13 hu13 => ?_)
      refine ezw_iload rfl rfl ?_
      refine ezw_aload_n rfl rfl ?_
      refine ezs_getp (p := 14) rfl rfl rfl rfl rfl ?_
      refine ezw_iload rfl rfl ?_
      refine ezw_iconst (4) rfl rfl ?_
      refine ezs_iadd rfl (fun u14 hu14 => ?_)
      refine ezw_iconst (1) rfl rfl ?_
      refine ezs_isub rfl (fun u15 hu15 => ?_)
      refine ezw_iconst (4) rfl rfl ?_
      refine ezs_irem rfl hu15 ⟨by decide, by decide⟩ (by omega) (fun u16 hu16 => ?_)
      refine ezw_call3_2 rfl (by omega) rfl rfl (ezs_m27_14 hI (by omega) hu16) ?_
      rintro _ _ ⟨rfl, u17, hu17, rfl⟩
      refine ezs_imul rfl (fun u18 hu18 => ?_)
      refine ezs_iadd rfl (fun u19 hu19 => ?_)
      refine ezw_bipush (10) rfl rfl ?_
      refine ezw_iload_n rfl rfl ?_
      refine ezs_isub rfl (fun u20 hu20 => ?_)
      refine ezw_iload rfl rfl ?_
      refine ezs_isub rfl (fun u21 hu21 => ?_)
      refine ezw_aload_n rfl rfl ?_
      refine ezs_getp (p := 14) rfl rfl rfl rfl rfl ?_
      refine ezw_iload rfl rfl ?_
      refine ezw_call3_2 rfl (by omega) rfl rfl (ezs_m27_14 hI (by omega) hc3) ?_
      rintro _ _ ⟨rfl, u22, hu22, rfl⟩
      refine ezs_imul rfl (fun u23 hu23 => ?_)
      refine ezs_iadd rfl (fun u24 hu24 => ?_)
      refine ezw_bipush (10) rfl rfl ?_
      refine ezs_idiv rfl hu24 ⟨by decide, by decide⟩ (by omega) (fun u25 hu25 => ?_)
      refine ezw_istore rfl rfl ?_
      refine ezw_aload_n rfl rfl ?_
      refine ezs_getp (p := 15) rfl rfl rfl rfl rfl ?_
      refine ezw_iload rfl rfl ?_
      refine ezw_iload rfl rfl ?_
      refine ezw_iload_n rfl rfl ?_
      refine ezw_icmp_ne rfl rfl hc3 ha2 (fun h88_25 => ?_) (fun h88_25 => ?_)
      · refine ezw_iload rfl rfl ?_
        refine ezw_call3_3 rfl (by omega) rfl rfl (ezs_m21_15 hI (by omega) (fun q h0 h1 => hzA q (by omega) (by omega)) hc3 hu25) ?_
        rintro _ _ ⟨⟨F, A, rfl, hI⟩, rfl⟩
        refine ezw_iinc (1) rfl rfl rfl rfl rfl ?_
        refine ezw_goto rfl rfl ?_
        exact ezw_keepE [true, true, true, true, true, true, false] (ihc3 (c3 + (1)) (by omega) ⟨by omega, by omega⟩ (by omega)  F A hI)
      · refine ezw_ldc (1000000) rfl rfl ?_
        refine ezw_goto rfl rfl ?_
        refine ezw_call3_3 rfl (by omega) rfl rfl (ezs_m21_15 hI (by omega) (fun q h0 h1 => hzA q (by omega) (by omega)) hc3 ⟨by decide, by decide⟩) ?_
        rintro _ _ ⟨⟨F, A, rfl, hI⟩, rfl⟩
        refine ezw_iinc (1) rfl rfl rfl rfl rfl ?_
        refine ezw_goto rfl rfl ?_
        exact ezw_keepE [true, true, true, true, true, true, false] (ihc3 (c3 + (1)) (by omega) ⟨by omega, by omega⟩ (by omega)  F A hI)
  exact ezw_keepE [true, true, true, true, true, true, false] (L16_3 (0) ⟨by decide, by decide⟩ (by omega)  F A hI)
theorem ezs_m173_13_30 {a2 a3 : Int} {F : Nat → Nat → Int} {A : Nat → Int → Int} (hI : ezs_I fz F0 A0 F A) (hd : 4 ≤ d) (hzA : ∀ q, 14 ≤ q → q < 16 → fz q = false) (ha2 : ezw_in a2) (ha3 : ezw_in a3) : ezw_C l ρ B xa Hb D cA 173 d [ezw_p 13, ezw_p 30, ezw_i a2, ezw_i a3] (ezu_g e F A) (ezs_P e fz F0 A0 ezs_ri) := by
  refine ezw_met (k := 3) rfl rfl ?_
  refine ezw_aload_n rfl rfl ?_
  refine ezw_aload_n rfl rfl ?_
  refine ezw_call0_1 rfl (by omega) (ezu_at rfl) rfl rfl rfl rfl (ezs_m174_13_30 hI (by omega)) ?_
  rintro _ _ ⟨rfl, u1, hu1, rfl⟩
  refine ezw_istore rfl rfl ?_
  refine ezw_iload rfl rfl ?_
  refine ezw_if_ne rfl rfl hu1 (fun h9_1 => ?_) (fun h9_1 => ?_)
  · refine ezw_iload rfl rfl ?_
    refine ezw_iconst (-1) rfl rfl ?_
    have J32_2 : ∀ y2 : Int, ezw_in y2 → ∀ F A, ezs_I fz F0 A0 F A → ezw_E l ρ B xa Hb D cA d ezq_re173 (ezs_P e fz F0 A0 ezs_ri) 32 [some (ezw_p 13), some (ezw_p 30), some (ezw_i a2), some (ezw_i a3), some (ezw_i u1), none, none] [(ezw_i y2)] (ezu_g e F A) := by
      intro y2 hy2 F A hI
      refine ezw_istore rfl rfl ?_
      refine ezw_iconst (0) rfl rfl ?_
      refine ezw_istore rfl rfl ?_
      have L37_4 : ∀ c4 : Int, ezw_in c4 → (0) ≤ c4 → ∀ F A, ezs_I fz F0 A0 F A → ezw_E l ρ B xa Hb D cA d ezq_re173 (ezs_P e fz F0 A0 ezs_ri) 37 [some (ezw_p 13), some (ezw_p 30), some (ezw_i a2), some (ezw_i a3), some (ezw_i u1), some (ezw_i y2), some (ezw_i c4)] [] (ezu_g e F A) := by
        refine ezs_up ?_
        intro c4 hc4 ihc4 gc4 F A hI
        refine ezw_iload rfl rfl ?_
        refine ezw_iconst (4) rfl rfl ?_
        have J70_6 : ∀ y6 : Int, ezw_in y6 → ∀ F A, ezs_I fz F0 A0 F A → ezw_E l ρ B xa Hb D cA d ezq_re173 (ezs_P e fz F0 A0 ezs_ri) 70 [some (ezw_p 13), some (ezw_p 30), some (ezw_i a2), some (ezw_i a3), some (ezw_i u1), some (ezw_i y2), some (ezw_i y6)] [] (ezu_g e F A) := by
          intro y6 hy6 F A hI
          refine ezw_iconst (0) rfl rfl ?_
          refine ezw_istore rfl rfl ?_
          have L73_8 : ∀ c8 : Int, ezw_in c8 → (0) ≤ c8 → ∀ F A, ezs_I fz F0 A0 F A → ezw_E l ρ B xa Hb D cA d ezq_re173 (ezs_P e fz F0 A0 ezs_ri) 73 [some (ezw_p 13), some (ezw_p 30), some (ezw_i a2), some (ezw_i a3), some (ezw_i u1), some (ezw_i y2), some (ezw_i c8)] [] (ezu_g e F A) := by
            refine ezs_up ?_
            intro c8 hc8 ihc8 gc8 F A hI
            refine ezw_iload rfl rfl ?_
            refine ezw_iload rfl rfl ?_
            have J92_10 : ∀ y10 : Int, ezw_in y10 → ∀ F A, ezs_I fz F0 A0 F A → ezw_E l ρ B xa Hb D cA d ezq_re173 (ezs_P e fz F0 A0 ezs_ri) 92 [some (ezw_p 13), some (ezw_p 30), some (ezw_i a2), some (ezw_i a3), some (ezw_i u1), some (ezw_i y2), some (ezw_i y10)] [] (ezu_g e F A) := by
              intro y10 hy10 F A hI
              refine ezw_aload_n rfl rfl ?_
              refine ezs_getp (p := 14) rfl rfl rfl rfl rfl ?_
              refine ezw_aload_n rfl rfl ?_
              refine ezs_get_i hI rfl rfl rfl rfl rfl rfl (fun u12 hu12 ku12 => ?_)
              refine ezw_call3_2 rfl (by omega) rfl rfl (ezs_m27_14 hI (by omega) hu12) ?_
              rintro _ _ ⟨rfl, u13, hu13, rfl⟩
              exact ezw_ireturn rfl rfl ⟨⟨F, A, rfl, hI⟩, _, hu13, rfl⟩
            refine ezw_icmp_ge rfl rfl hc8 hy2 (fun h77_9 => ?_) (fun h77_9 => ?_)
            · exact ezw_keepE [true, true, true, true, true, true, true] (J92_10 c8 hc8 F A hI)
            · refine ezw_aload_n rfl rfl ?_
              refine ezw_aload_n rfl rfl ?_
              refine ezw_iload_n rfl rfl ?_
              refine ezw_call0_2 rfl (by omega) (ezu_at rfl) rfl rfl rfl rfl (ezs_m175_13_30 hI (by omega) (fun q h0 h1 => hzA q (by omega) (by omega)) ha2) ?_
              rintro _ _ ⟨⟨F, A, rfl, hI⟩, rfl⟩
              refine ezw_iinc (1) rfl rfl rfl rfl rfl ?_
              refine ezw_goto rfl rfl ?_
              exact ezw_keepE [true, true, true, true, true, true, true] (ihc8 (c8 + (1)) (by omega) ⟨by omega, by omega⟩ (by omega)  F A hI)
          exact ezw_keepE [true, true, true, true, true, true, true] (L73_8 (0) ⟨by decide, by decide⟩ (by omega)  F A hI)
        refine ezw_icmp_ge rfl rfl hc4 ⟨by decide, by decide⟩ (fun h40_5 => ?_) (fun h40_5 => ?_)
        · exact ezw_keepE [true, true, true, true, true, true, true] (J70_6 c4 hc4 F A hI)
        · refine ezw_aload_n rfl rfl ?_
          refine ezs_getp (p := 14) rfl rfl rfl rfl rfl ?_
          refine ezw_iload rfl rfl ?_
          refine ezw_iload rfl rfl ?_
          refine ezw_iload_n rfl rfl ?_
          refine ezw_icmp_ne rfl rfl hc4 ha2 (fun h52_13 => ?_) (fun h52_13 => ?_)
          · refine ezw_iconst (0) rfl rfl ?_
            refine ezw_call3_3 rfl (by omega) rfl rfl (ezs_m21_14 hI (by omega) (fun q h0 h1 => hzA q (by omega) (by omega)) hc4 ⟨by decide, by decide⟩) ?_
            rintro _ _ ⟨⟨F, A, rfl, hI⟩, rfl⟩
            refine ezw_iinc (1) rfl rfl rfl rfl rfl ?_
            refine ezw_goto rfl rfl ?_
            exact ezw_keepE [true, true, true, true, true, true, true] (ihc4 (c4 + (1)) (by omega) ⟨by omega, by omega⟩ (by omega)  F A hI)
          · refine ezw_ldc (1000000) rfl rfl ?_
            refine ezw_goto rfl rfl ?_
            refine ezw_call3_3 rfl (by omega) rfl rfl (ezs_m21_14 hI (by omega) (fun q h0 h1 => hzA q (by omega) (by omega)) hc4 ⟨by decide, by decide⟩) ?_
            rintro _ _ ⟨⟨F, A, rfl, hI⟩, rfl⟩
            refine ezw_iinc (1) rfl rfl rfl rfl rfl ?_
            refine ezw_goto rfl rfl ?_
            exact ezw_keepE [true, true, true, true, true, true, true] (ihc4 (c4 + (1)) (by omega) ⟨by omega, by omega⟩ (by omega)  F A hI)
      exact ezw_keepE [true, true, true, true, true, true, true] (L37_4 (0) ⟨by decide, by decide⟩ (by omega)  F A hI)
    refine ezw_icmp_ne rfl rfl hu1 ⟨by decide, by decide⟩ (fun h17_1 => ?_) (fun h17_1 => ?_)
    · refine ezw_iload_n rfl rfl ?_
      refine ezw_iload rfl rfl ?_
      refine ezw_iconst (1) rfl rfl ?_
      refine ezs_isub rfl (fun u14 hu14 => ?_)
      refine ezw_mminE rfl ha3 hu14 rfl (fun u15 hu15 => ?_)
      exact ezw_keepE [true, true, true, true, true, false, false] (J32_2 u15 ⟨by omega, by omega⟩ F A hI)
    · refine ezw_iload_n rfl rfl ?_
      refine ezw_goto rfl rfl ?_
      exact ezw_keepE [true, true, true, true, true, false, false] (J32_2 a3 ha3 F A hI)
  · refine ezw_iconst (0) rfl rfl ?_
    exact ezw_ireturn rfl rfl ⟨⟨F, A, rfl, hI⟩, _, ⟨by decide, by decide⟩, rfl⟩
theorem ezs_m27_50 {a1 : Int} {F : Nat → Nat → Int} {A : Nat → Int → Int} (hI : ezs_I fz F0 A0 F A) (hd : 0 ≤ d) (ha1 : ezw_in a1) : ezw_C l ρ B xa Hb D cA 27 d [ezw_p 50, ezw_i a1] (ezu_g e F A) (ezs_Pp e F A ezs_ri) := by
  refine ezw_met (k := 0) rfl rfl ?_
  refine ezw_aload_n rfl rfl ?_
  refine ezw_ifnull rfl ?_
  refine ezw_iload_n rfl rfl ?_
  refine ezw_if_lt rfl rfl ha1 (fun h5_0 => ?_) (fun h5_0 => ?_)
  · refine ezw_iconst (0) rfl rfl ?_
    exact ezw_ireturn rfl rfl ⟨rfl, _, ⟨by decide, by decide⟩, rfl⟩
  · refine ezw_iload_n rfl rfl ?_
    refine ezw_aload_n rfl rfl ?_
    refine ezs_alen (k := 8) rfl rfl rfl rfl (by decide) (by decide) ?_
    refine ezw_icmp_ge rfl rfl ha1 ⟨by decide, by decide⟩ (fun h11_0 => ?_) (fun h11_0 => ?_)
    · refine ezw_iconst (0) rfl rfl ?_
      exact ezw_ireturn rfl rfl ⟨rfl, _, ⟨by decide, by decide⟩, rfl⟩
    · refine ezw_aload_n rfl rfl ?_
      refine ezw_iload_n rfl rfl ?_
      refine ezs_iaload hI rfl rfl rfl (by omega) (by omega) (by decide) (fun u1 hu1 ku1 => ?_)
      refine ezw_goto rfl rfl ?_
      exact ezw_ireturn rfl rfl ⟨rfl, _, hu1, rfl⟩
theorem ezs_m27_62 {a1 : Int} {F : Nat → Nat → Int} {A : Nat → Int → Int} (hI : ezs_I fz F0 A0 F A) (hd : 0 ≤ d) (ha1 : ezw_in a1) : ezw_C l ρ B xa Hb D cA 27 d [ezw_p 62, ezw_i a1] (ezu_g e F A) (ezs_Pp e F A ezs_ri) := by
  refine ezw_met (k := 0) rfl rfl ?_
  refine ezw_aload_n rfl rfl ?_
  refine ezw_ifnull rfl ?_
  refine ezw_iload_n rfl rfl ?_
  refine ezw_if_lt rfl rfl ha1 (fun h5_0 => ?_) (fun h5_0 => ?_)
  · refine ezw_iconst (0) rfl rfl ?_
    exact ezw_ireturn rfl rfl ⟨rfl, _, ⟨by decide, by decide⟩, rfl⟩
  · refine ezw_iload_n rfl rfl ?_
    refine ezw_aload_n rfl rfl ?_
    refine ezs_alen (k := 480) rfl rfl rfl rfl (by decide) (by decide) ?_
    refine ezw_icmp_ge rfl rfl ha1 ⟨by decide, by decide⟩ (fun h11_0 => ?_) (fun h11_0 => ?_)
    · refine ezw_iconst (0) rfl rfl ?_
      exact ezw_ireturn rfl rfl ⟨rfl, _, ⟨by decide, by decide⟩, rfl⟩
    · refine ezw_aload_n rfl rfl ?_
      refine ezw_iload_n rfl rfl ?_
      refine ezs_iaload hI rfl rfl rfl (by omega) (by omega) (by decide) (fun u1 hu1 ku1 => ?_)
      refine ezw_goto rfl rfl ?_
      exact ezw_ireturn rfl rfl ⟨rfl, _, hu1, rfl⟩
theorem ezs_m113_47 {a1 a2 a3 a4 : Int} {F : Nat → Nat → Int} {A : Nat → Int → Int} (hI : ezs_I fz F0 A0 F A) (hd : 1 ≤ d) (ha1 : ezw_in a1) (ha2 : ezw_in a2) (ha3 : ezw_in a3) (ha4 : ezw_in a4) : ezw_C l ρ B xa Hb D cA 113 d [ezw_p 47, ezw_i a1, ezw_i a2, ezw_i a3, ezw_i a4] (ezu_g e F A) (ezs_Pp e F A ezs_ri) := by
  refine ezw_met (k := 0) rfl rfl ?_
  refine ezw_aload_n rfl rfl ?_
  refine ezs_getp (p := 62) rfl rfl rfl rfl rfl ?_
  refine ezw_iload_n rfl rfl ?_
  refine ezw_iload_n rfl rfl ?_
  refine ezw_iload_n rfl rfl ?_
  refine ezw_aload_n rfl rfl ?_
  refine ezs_getp (p := 50) rfl rfl rfl rfl rfl ?_
  refine ezw_iload_n rfl rfl ?_
  refine ezw_call3_2 rfl (by omega) rfl rfl (ezs_m27_50 hI (by omega) ha1) ?_
  rintro _ _ ⟨rfl, u1, hu1, rfl⟩
  refine ezw_call3_2 rfl (by omega) rfl rfl (ezs_m114 hI (by omega) ha3 hu1) ?_
  rintro _ _ ⟨rfl, u2, hu2, rfl⟩
  refine ezw_iload rfl rfl ?_
  refine ezw_if_eq rfl rfl ha4 (fun h20_2 => ?_) (fun h20_2 => ?_)
  · refine ezw_iconst (0) rfl rfl ?_
    refine ezw_call2_4 rfl (by omega) rfl rfl (ezs_m92 hI (by omega) ha1 ha2 hu2 ⟨by decide, by decide⟩) ?_
    rintro _ _ ⟨rfl, u3, hu3, rfl⟩
    refine ezw_call3_2 rfl (by omega) rfl rfl (ezs_m27_62 hI (by omega) hu3) ?_
    rintro _ _ ⟨rfl, u4, hu4, rfl⟩
    exact ezw_ireturn rfl rfl ⟨rfl, _, hu4, rfl⟩
  · refine ezw_iconst (1) rfl rfl ?_
    refine ezw_goto rfl rfl ?_
    refine ezw_call2_4 rfl (by omega) rfl rfl (ezs_m92 hI (by omega) ha1 ha2 hu2 ⟨by decide, by decide⟩) ?_
    rintro _ _ ⟨rfl, u5, hu5, rfl⟩
    refine ezw_call3_2 rfl (by omega) rfl rfl (ezs_m27_62 hI (by omega) hu5) ?_
    rintro _ _ ⟨rfl, u6, hu6, rfl⟩
    exact ezw_ireturn rfl rfl ⟨rfl, _, hu6, rfl⟩
theorem ezs_m27_63 {a1 : Int} {F : Nat → Nat → Int} {A : Nat → Int → Int} (hI : ezs_I fz F0 A0 F A) (hd : 0 ≤ d) (ha1 : ezw_in a1) : ezw_C l ρ B xa Hb D cA 27 d [ezw_p 63, ezw_i a1] (ezu_g e F A) (ezs_Pp e F A ezs_ri) := by
  refine ezw_met (k := 0) rfl rfl ?_
  refine ezw_aload_n rfl rfl ?_
  refine ezw_ifnull rfl ?_
  refine ezw_iload_n rfl rfl ?_
  refine ezw_if_lt rfl rfl ha1 (fun h5_0 => ?_) (fun h5_0 => ?_)
  · refine ezw_iconst (0) rfl rfl ?_
    exact ezw_ireturn rfl rfl ⟨rfl, _, ⟨by decide, by decide⟩, rfl⟩
  · refine ezw_iload_n rfl rfl ?_
    refine ezw_aload_n rfl rfl ?_
    refine ezs_alen (k := 480) rfl rfl rfl rfl (by decide) (by decide) ?_
    refine ezw_icmp_ge rfl rfl ha1 ⟨by decide, by decide⟩ (fun h11_0 => ?_) (fun h11_0 => ?_)
    · refine ezw_iconst (0) rfl rfl ?_
      exact ezw_ireturn rfl rfl ⟨rfl, _, ⟨by decide, by decide⟩, rfl⟩
    · refine ezw_aload_n rfl rfl ?_
      refine ezw_iload_n rfl rfl ?_
      refine ezs_iaload hI rfl rfl rfl (by omega) (by omega) (by decide) (fun u1 hu1 ku1 => ?_)
      refine ezw_goto rfl rfl ?_
      exact ezw_ireturn rfl rfl ⟨rfl, _, hu1, rfl⟩
theorem ezs_m116_47 {a1 a2 a3 a4 : Int} {F : Nat → Nat → Int} {A : Nat → Int → Int} (hI : ezs_I fz F0 A0 F A) (hd : 1 ≤ d) (ha1 : ezw_in a1) (ha2 : ezw_in a2) (ha3 : ezw_in a3) (ha4 : ezw_in a4) : ezw_C l ρ B xa Hb D cA 116 d [ezw_p 47, ezw_i a1, ezw_i a2, ezw_i a3, ezw_i a4] (ezu_g e F A) (ezs_Pp e F A ezs_ri) := by
  refine ezw_met (k := 0) rfl rfl ?_
  refine ezw_aload_n rfl rfl ?_
  refine ezs_getp (p := 63) rfl rfl rfl rfl rfl ?_
  refine ezw_iload_n rfl rfl ?_
  refine ezw_iload_n rfl rfl ?_
  refine ezw_iload_n rfl rfl ?_
  refine ezw_aload_n rfl rfl ?_
  refine ezs_getp (p := 50) rfl rfl rfl rfl rfl ?_
  refine ezw_iload_n rfl rfl ?_
  refine ezw_call3_2 rfl (by omega) rfl rfl (ezs_m27_50 hI (by omega) ha1) ?_
  rintro _ _ ⟨rfl, u1, hu1, rfl⟩
  refine ezw_call3_2 rfl (by omega) rfl rfl (ezs_m114 hI (by omega) ha3 hu1) ?_
  rintro _ _ ⟨rfl, u2, hu2, rfl⟩
  refine ezw_iload rfl rfl ?_
  refine ezw_if_eq rfl rfl ha4 (fun h20_2 => ?_) (fun h20_2 => ?_)
  · refine ezw_iconst (0) rfl rfl ?_
    refine ezw_call2_4 rfl (by omega) rfl rfl (ezs_m92 hI (by omega) ha1 ha2 hu2 ⟨by decide, by decide⟩) ?_
    rintro _ _ ⟨rfl, u3, hu3, rfl⟩
    refine ezw_call3_2 rfl (by omega) rfl rfl (ezs_m27_63 hI (by omega) hu3) ?_
    rintro _ _ ⟨rfl, u4, hu4, rfl⟩
    exact ezw_ireturn rfl rfl ⟨rfl, _, hu4, rfl⟩
  · refine ezw_iconst (1) rfl rfl ?_
    refine ezw_goto rfl rfl ?_
    refine ezw_call2_4 rfl (by omega) rfl rfl (ezs_m92 hI (by omega) ha1 ha2 hu2 ⟨by decide, by decide⟩) ?_
    rintro _ _ ⟨rfl, u5, hu5, rfl⟩
    refine ezw_call3_2 rfl (by omega) rfl rfl (ezs_m27_63 hI (by omega) hu5) ?_
    rintro _ _ ⟨rfl, u6, hu6, rfl⟩
    exact ezw_ireturn rfl rfl ⟨rfl, _, hu6, rfl⟩
theorem ezs_m27_52 {a1 : Int} {F : Nat → Nat → Int} {A : Nat → Int → Int} (hI : ezs_I fz F0 A0 F A) (hd : 0 ≤ d) (ha1 : ezw_in a1) : ezw_C l ρ B xa Hb D cA 27 d [ezw_p 52, ezw_i a1] (ezu_g e F A) (ezs_Pp e F A ezs_ri) := by
  refine ezw_met (k := 0) rfl rfl ?_
  refine ezw_aload_n rfl rfl ?_
  refine ezw_ifnull rfl ?_
  refine ezw_iload_n rfl rfl ?_
  refine ezw_if_lt rfl rfl ha1 (fun h5_0 => ?_) (fun h5_0 => ?_)
  · refine ezw_iconst (0) rfl rfl ?_
    exact ezw_ireturn rfl rfl ⟨rfl, _, ⟨by decide, by decide⟩, rfl⟩
  · refine ezw_iload_n rfl rfl ?_
    refine ezw_aload_n rfl rfl ?_
    refine ezs_alen (k := 4) rfl rfl rfl rfl (by decide) (by decide) ?_
    refine ezw_icmp_ge rfl rfl ha1 ⟨by decide, by decide⟩ (fun h11_0 => ?_) (fun h11_0 => ?_)
    · refine ezw_iconst (0) rfl rfl ?_
      exact ezw_ireturn rfl rfl ⟨rfl, _, ⟨by decide, by decide⟩, rfl⟩
    · refine ezw_aload_n rfl rfl ?_
      refine ezw_iload_n rfl rfl ?_
      refine ezs_iaload hI rfl rfl rfl (by omega) (by omega) (by decide) (fun u1 hu1 ku1 => ?_)
      refine ezw_goto rfl rfl ?_
      exact ezw_ireturn rfl rfl ⟨rfl, _, hu1, rfl⟩
theorem ezs_m144_47 {a1 : Int} {F : Nat → Nat → Int} {A : Nat → Int → Int} (hI : ezs_I fz F0 A0 F A) (hd : 1 ≤ d) (ha1 : ezw_in a1) : ezw_C l ρ B xa Hb D cA 144 d [ezw_p 47, ezw_i a1] (ezu_g e F A) (ezs_Pp e F A ezs_ri) := by
  refine ezw_met (k := 2) rfl rfl ?_
  refine ezw_iconst (0) rfl rfl ?_
  refine ezw_istore_n rfl rfl ?_
  refine ezw_iconst (0) rfl rfl ?_
  refine ezw_istore_n rfl rfl ?_
  have L4_2 : ∀ c2 : Int, ezw_in c2 → (0) ≤ c2 → ∀ y1 : Int, ezw_in y1 → ezw_E l ρ B xa Hb D cA d ezq_re144 (ezs_Pp e F A ezs_ri) 4 [some (ezw_p 47), some (ezw_i a1), some (ezw_i y1), some (ezw_i c2)] [] (ezu_g e F A) := by
    refine ezs_up ?_
    intro c2 hc2 ihc2 gc2 y1 hy1 
    refine ezw_iload_n rfl rfl ?_
    refine ezw_aload_n rfl rfl ?_
    refine ezs_get_i hI rfl rfl rfl rfl rfl rfl (fun u4 hu4 ku4 => ?_)
    refine ezw_icmp_ge rfl rfl hc2 hu4 (fun h9_4 => ?_) (fun h9_4 => ?_)
    · refine ezw_iload_n rfl rfl ?_
      exact ezw_ireturn rfl rfl ⟨rfl, _, hy1, rfl⟩
    · refine ezw_iload_n rfl rfl ?_
      refine ezw_iload_n rfl rfl ?_
      refine ezw_call3_2 rfl (by omega) rfl rfl (ezs_m49 hI (by omega) ha1 hc2) ?_
      rintro _ _ ⟨rfl, u5, hu5, rfl⟩
      refine ezw_iconst (1) rfl rfl ?_
      refine ezw_icmp_ne rfl rfl hu5 ⟨by decide, by decide⟩ (fun h18_5 => ?_) (fun h18_5 => ?_)
      · refine ezw_iinc (1) rfl rfl rfl rfl rfl ?_
        refine ezw_goto rfl rfl ?_
        exact ezw_keepE [true, true, true, true] (ihc2 (c2 + (1)) (by omega) ⟨by omega, by omega⟩ (by omega) y1 hy1)
      · refine ezw_iload_n rfl rfl ?_
        refine ezw_aload_n rfl rfl ?_
        refine ezs_getp (p := 52) rfl rfl rfl rfl rfl ?_
        refine ezw_iload_n rfl rfl ?_
        refine ezw_call3_2 rfl (by omega) rfl rfl (ezs_m27_52 hI (by omega) hc2) ?_
        rintro _ _ ⟨rfl, u6, hu6, rfl⟩
        refine ezs_iadd rfl (fun u7 hu7 => ?_)
        refine ezw_istore_n rfl rfl ?_
        refine ezw_iinc (1) rfl rfl rfl rfl rfl ?_
        refine ezw_goto rfl rfl ?_
        exact ezw_keepE [true, true, true, true] (ihc2 (c2 + (1)) (by omega) ⟨by omega, by omega⟩ (by omega) u7 hu7)
  exact ezw_keepE [true, true, true, true] (L4_2 (0) ⟨by decide, by decide⟩ (by omega) (0) ⟨by decide, by decide⟩)
theorem ezs_m27_60 {a1 : Int} {F : Nat → Nat → Int} {A : Nat → Int → Int} (hI : ezs_I fz F0 A0 F A) (hd : 0 ≤ d) (ha1 : ezw_in a1) : ezw_C l ρ B xa Hb D cA 27 d [ezw_p 60, ezw_i a1] (ezu_g e F A) (ezs_Pp e F A ezs_ri) := by
  refine ezw_met (k := 0) rfl rfl ?_
  refine ezw_aload_n rfl rfl ?_
  refine ezw_ifnull rfl ?_
  refine ezw_iload_n rfl rfl ?_
  refine ezw_if_lt rfl rfl ha1 (fun h5_0 => ?_) (fun h5_0 => ?_)
  · refine ezw_iconst (0) rfl rfl ?_
    exact ezw_ireturn rfl rfl ⟨rfl, _, ⟨by decide, by decide⟩, rfl⟩
  · refine ezw_iload_n rfl rfl ?_
    refine ezw_aload_n rfl rfl ?_
    refine ezs_alen (k := 6) rfl rfl rfl rfl (by decide) (by decide) ?_
    refine ezw_icmp_ge rfl rfl ha1 ⟨by decide, by decide⟩ (fun h11_0 => ?_) (fun h11_0 => ?_)
    · refine ezw_iconst (0) rfl rfl ?_
      exact ezw_ireturn rfl rfl ⟨rfl, _, ⟨by decide, by decide⟩, rfl⟩
    · refine ezw_aload_n rfl rfl ?_
      refine ezw_iload_n rfl rfl ?_
      refine ezs_iaload hI rfl rfl rfl (by omega) (by omega) (by decide) (fun u1 hu1 ku1 => ?_)
      refine ezw_goto rfl rfl ?_
      exact ezw_ireturn rfl rfl ⟨rfl, _, hu1, rfl⟩
theorem ezs_m108_47 {a1 : Int} {F : Nat → Nat → Int} {A : Nat → Int → Int} (hI : ezs_I fz F0 A0 F A) (hd : 1 ≤ d) (ha1 : ezw_in a1) : ezw_C l ρ B xa Hb D cA 108 d [ezw_p 47, ezw_i a1] (ezu_g e F A) (ezs_Pp e F A ezs_ri) := by
  refine ezw_met (k := 0) rfl rfl ?_
  refine ezw_iload_n rfl rfl ?_
  refine ezw_if_lt rfl rfl ha1 (fun h1_0 => ?_) (fun h1_0 => ?_)
  · refine ezw_iconst (-1) rfl rfl ?_
    exact ezw_ireturn rfl rfl ⟨rfl, _, ⟨by decide, by decide⟩, rfl⟩
  · refine ezw_iload_n rfl rfl ?_
    refine ezw_aload_n rfl rfl ?_
    refine ezs_get_i hI rfl rfl rfl rfl rfl rfl (fun u1 hu1 ku1 => ?_)
    refine ezw_icmp_ge rfl rfl ha1 hu1 (fun h9_1 => ?_) (fun h9_1 => ?_)
    · refine ezw_iconst (-1) rfl rfl ?_
      exact ezw_ireturn rfl rfl ⟨rfl, _, ⟨by decide, by decide⟩, rfl⟩
    · refine ezw_aload_n rfl rfl ?_
      refine ezs_getp (p := 60) rfl rfl rfl rfl rfl ?_
      refine ezw_iload_n rfl rfl ?_
      refine ezw_call3_2 rfl (by omega) rfl rfl (ezs_m27_60 hI (by omega) ha1) ?_
      rintro _ _ ⟨rfl, u2, hu2, rfl⟩
      refine ezw_goto rfl rfl ?_
      exact ezw_ireturn rfl rfl ⟨rfl, _, hu2, rfl⟩
theorem ezs_m54_57 {a1 : Int} {F : Nat → Nat → Int} {A : Nat → Int → Int} (hI : ezs_I fz F0 A0 F A) (hd : 0 ≤ d) (ha1 : ezw_in a1) : ezw_C l ρ B xa Hb D cA 54 d [ezw_p 57, ezw_i a1] (ezu_g e F A) (ezs_Pp e F A ezs_rl) := by
  refine ezw_met (k := 0) rfl rfl ?_
  refine ezw_aload_n rfl rfl ?_
  refine ezw_ifnull rfl ?_
  refine ezw_iload_n rfl rfl ?_
  refine ezw_if_lt rfl rfl ha1 (fun h5_0 => ?_) (fun h5_0 => ?_)
  · refine ezw_lconst (0) rfl rfl ?_
    exact ezw_lreturn rfl rfl ⟨rfl, _, ⟨by decide, by decide⟩, rfl⟩
  · refine ezw_iload_n rfl rfl ?_
    refine ezw_aload_n rfl rfl ?_
    refine ezs_alen (k := 8) rfl rfl rfl rfl (by decide) (by decide) ?_
    refine ezw_icmp_ge rfl rfl ha1 ⟨by decide, by decide⟩ (fun h11_0 => ?_) (fun h11_0 => ?_)
    · refine ezw_lconst (0) rfl rfl ?_
      exact ezw_lreturn rfl rfl ⟨rfl, _, ⟨by decide, by decide⟩, rfl⟩
    · refine ezw_aload_n rfl rfl ?_
      refine ezw_iload_n rfl rfl ?_
      refine ezs_laload hI rfl rfl rfl (by omega) (by omega) (by decide) (fun u1 hu1 => ?_)
      refine ezw_goto rfl rfl ?_
      exact ezw_lreturn rfl rfl ⟨rfl, _, hu1, rfl⟩
theorem ezs_m53_47 {a1 : Int} {F : Nat → Nat → Int} {A : Nat → Int → Int} (hI : ezs_I fz F0 A0 F A) (hd : 1 ≤ d) (ha1 : ezw_il a1) : ezw_C l ρ B xa Hb D cA 53 d [ezw_p 47, ezw_l a1] (ezu_g e F A) (ezs_Pp e F A ezs_ri) := by
  refine ezw_met (k := 1) rfl rfl ?_
  refine ezw_iconst (0) rfl rfl ?_
  refine ezw_istore_n rfl rfl ?_
  have L2_1 : ∀ c1 : Int, ezw_in c1 → (0) ≤ c1 → ezw_E l ρ B xa Hb D cA d ezq_re53 (ezs_Pp e F A ezs_ri) 2 [some (ezw_p 47), some (ezw_l a1), none, some (ezw_i c1)] [] (ezu_g e F A) := by
    refine ezs_up ?_
    intro c1 hc1 ihc1 gc1 
    refine ezw_iload_n rfl rfl ?_
    refine ezw_aload_n rfl rfl ?_
    refine ezs_get_i hI rfl rfl rfl rfl rfl rfl (fun u3 hu3 ku3 => ?_)
    refine ezw_icmp_ge rfl rfl hc1 hu3 (fun h7_3 => ?_) (fun h7_3 => ?_)
    · refine ezw_iconst (-1) rfl rfl ?_
      exact ezw_ireturn rfl rfl ⟨rfl, _, ⟨by decide, by decide⟩, rfl⟩
    · refine ezw_aload_n rfl rfl ?_
      refine ezs_getp (p := 57) rfl rfl rfl rfl rfl ?_
      refine ezw_iload_n rfl rfl ?_
      refine ezw_call3_2 rfl (by omega) rfl rfl (ezs_m54_57 hI (by omega) hc1) ?_
      rintro _ _ ⟨rfl, u4, hu4, rfl⟩
      refine ezw_lload_n rfl rfl ?_
      refine ezw_lcmpE rfl hu4 ha1 (fun u5 hu5 => ?_)
      refine ezw_if_ne rfl rfl ⟨by omega, by omega⟩ (fun h20_5 => ?_) (fun h20_5 => ?_)
      · refine ezw_iinc (1) rfl rfl rfl rfl rfl ?_
        refine ezw_goto rfl rfl ?_
        exact ezw_keepE [true, true, false, true] (ihc1 (c1 + (1)) (by omega) ⟨by omega, by omega⟩ (by omega) )
      · refine ezw_iload_n rfl rfl ?_
        exact ezw_ireturn rfl rfl ⟨rfl, _, hc1, rfl⟩
  exact ezw_keepE [true, true, false, true] (L2_1 (0) ⟨by decide, by decide⟩ (by omega) )
theorem ezs_m54_58 {a1 : Int} {F : Nat → Nat → Int} {A : Nat → Int → Int} (hI : ezs_I fz F0 A0 F A) (hd : 0 ≤ d) (ha1 : ezw_in a1) : ezw_C l ρ B xa Hb D cA 54 d [ezw_p 58, ezw_i a1] (ezu_g e F A) (ezs_Pp e F A ezs_rl) := by
  refine ezw_met (k := 0) rfl rfl ?_
  refine ezw_aload_n rfl rfl ?_
  refine ezw_ifnull rfl ?_
  refine ezw_iload_n rfl rfl ?_
  refine ezw_if_lt rfl rfl ha1 (fun h5_0 => ?_) (fun h5_0 => ?_)
  · refine ezw_lconst (0) rfl rfl ?_
    exact ezw_lreturn rfl rfl ⟨rfl, _, ⟨by decide, by decide⟩, rfl⟩
  · refine ezw_iload_n rfl rfl ?_
    refine ezw_aload_n rfl rfl ?_
    refine ezs_alen (k := 4) rfl rfl rfl rfl (by decide) (by decide) ?_
    refine ezw_icmp_ge rfl rfl ha1 ⟨by decide, by decide⟩ (fun h11_0 => ?_) (fun h11_0 => ?_)
    · refine ezw_lconst (0) rfl rfl ?_
      exact ezw_lreturn rfl rfl ⟨rfl, _, ⟨by decide, by decide⟩, rfl⟩
    · refine ezw_aload_n rfl rfl ?_
      refine ezw_iload_n rfl rfl ?_
      refine ezs_laload hI rfl rfl rfl (by omega) (by omega) (by decide) (fun u1 hu1 => ?_)
      refine ezw_goto rfl rfl ?_
      exact ezw_lreturn rfl rfl ⟨rfl, _, hu1, rfl⟩
theorem ezs_m55_47 {a1 : Int} {F : Nat → Nat → Int} {A : Nat → Int → Int} (hI : ezs_I fz F0 A0 F A) (hd : 1 ≤ d) (ha1 : ezw_il a1) : ezw_C l ρ B xa Hb D cA 55 d [ezw_p 47, ezw_l a1] (ezu_g e F A) (ezs_Pp e F A ezs_ri) := by
  refine ezw_met (k := 1) rfl rfl ?_
  refine ezw_iconst (0) rfl rfl ?_
  refine ezw_istore_n rfl rfl ?_
  have L2_1 : ∀ c1 : Int, ezw_in c1 → (0) ≤ c1 → ezw_E l ρ B xa Hb D cA d ezq_re55 (ezs_Pp e F A ezs_ri) 2 [some (ezw_p 47), some (ezw_l a1), none, some (ezw_i c1)] [] (ezu_g e F A) := by
    refine ezs_up ?_
    intro c1 hc1 ihc1 gc1 
    refine ezw_iload_n rfl rfl ?_
    refine ezw_aload_n rfl rfl ?_
    refine ezs_get_i hI rfl rfl rfl rfl rfl rfl (fun u3 hu3 ku3 => ?_)
    refine ezw_icmp_ge rfl rfl hc1 hu3 (fun h7_3 => ?_) (fun h7_3 => ?_)
    · refine ezw_iconst (-1) rfl rfl ?_
      exact ezw_ireturn rfl rfl ⟨rfl, _, ⟨by decide, by decide⟩, rfl⟩
    · refine ezw_aload_n rfl rfl ?_
      refine ezs_getp (p := 58) rfl rfl rfl rfl rfl ?_
      refine ezw_iload_n rfl rfl ?_
      refine ezw_call3_2 rfl (by omega) rfl rfl (ezs_m54_58 hI (by omega) hc1) ?_
      rintro _ _ ⟨rfl, u4, hu4, rfl⟩
      refine ezw_lload_n rfl rfl ?_
      refine ezw_lcmpE rfl hu4 ha1 (fun u5 hu5 => ?_)
      refine ezw_if_ne rfl rfl ⟨by omega, by omega⟩ (fun h20_5 => ?_) (fun h20_5 => ?_)
      · refine ezw_iinc (1) rfl rfl rfl rfl rfl ?_
        refine ezw_goto rfl rfl ?_
        exact ezw_keepE [true, true, false, true] (ihc1 (c1 + (1)) (by omega) ⟨by omega, by omega⟩ (by omega) )
      · refine ezw_iload_n rfl rfl ?_
        exact ezw_ireturn rfl rfl ⟨rfl, _, hc1, rfl⟩
  exact ezw_keepE [true, true, false, true] (L2_1 (0) ⟨by decide, by decide⟩ (by omega) )
theorem ezs_m27_59 {a1 : Int} {F : Nat → Nat → Int} {A : Nat → Int → Int} (hI : ezs_I fz F0 A0 F A) (hd : 0 ≤ d) (ha1 : ezw_in a1) : ezw_C l ρ B xa Hb D cA 27 d [ezw_p 59, ezw_i a1] (ezu_g e F A) (ezs_Pp e F A ezs_ri) := by
  refine ezw_met (k := 0) rfl rfl ?_
  refine ezw_aload_n rfl rfl ?_
  refine ezw_ifnull rfl ?_
  refine ezw_iload_n rfl rfl ?_
  refine ezw_if_lt rfl rfl ha1 (fun h5_0 => ?_) (fun h5_0 => ?_)
  · refine ezw_iconst (0) rfl rfl ?_
    exact ezw_ireturn rfl rfl ⟨rfl, _, ⟨by decide, by decide⟩, rfl⟩
  · refine ezw_iload_n rfl rfl ?_
    refine ezw_aload_n rfl rfl ?_
    refine ezs_alen (k := 4) rfl rfl rfl rfl (by decide) (by decide) ?_
    refine ezw_icmp_ge rfl rfl ha1 ⟨by decide, by decide⟩ (fun h11_0 => ?_) (fun h11_0 => ?_)
    · refine ezw_iconst (0) rfl rfl ?_
      exact ezw_ireturn rfl rfl ⟨rfl, _, ⟨by decide, by decide⟩, rfl⟩
    · refine ezw_aload_n rfl rfl ?_
      refine ezw_iload_n rfl rfl ?_
      refine ezs_iaload hI rfl rfl rfl (by omega) (by omega) (by decide) (fun u1 hu1 ku1 => ?_)
      refine ezw_goto rfl rfl ?_
      exact ezw_ireturn rfl rfl ⟨rfl, _, hu1, rfl⟩
theorem ezs_m27_53 {a1 : Int} {F : Nat → Nat → Int} {A : Nat → Int → Int} (hI : ezs_I fz F0 A0 F A) (hd : 0 ≤ d) (ha1 : ezw_in a1) : ezw_C l ρ B xa Hb D cA 27 d [ezw_p 53, ezw_i a1] (ezu_g e F A) (ezs_Pp e F A ezs_ri) := by
  refine ezw_met (k := 0) rfl rfl ?_
  refine ezw_aload_n rfl rfl ?_
  refine ezw_ifnull rfl ?_
  refine ezw_iload_n rfl rfl ?_
  refine ezw_if_lt rfl rfl ha1 (fun h5_0 => ?_) (fun h5_0 => ?_)
  · refine ezw_iconst (0) rfl rfl ?_
    exact ezw_ireturn rfl rfl ⟨rfl, _, ⟨by decide, by decide⟩, rfl⟩
  · refine ezw_iload_n rfl rfl ?_
    refine ezw_aload_n rfl rfl ?_
    refine ezs_alen (k := 4) rfl rfl rfl rfl (by decide) (by decide) ?_
    refine ezw_icmp_ge rfl rfl ha1 ⟨by decide, by decide⟩ (fun h11_0 => ?_) (fun h11_0 => ?_)
    · refine ezw_iconst (0) rfl rfl ?_
      exact ezw_ireturn rfl rfl ⟨rfl, _, ⟨by decide, by decide⟩, rfl⟩
    · refine ezw_aload_n rfl rfl ?_
      refine ezw_iload_n rfl rfl ?_
      refine ezs_iaload hI rfl rfl rfl (by omega) (by omega) (by decide) (fun u1 hu1 ku1 => ?_)
      refine ezw_goto rfl rfl ?_
      exact ezw_ireturn rfl rfl ⟨rfl, _, hu1, rfl⟩
theorem ezs_m27_54 {a1 : Int} {F : Nat → Nat → Int} {A : Nat → Int → Int} (hI : ezs_I fz F0 A0 F A) (hd : 0 ≤ d) (ha1 : ezw_in a1) : ezw_C l ρ B xa Hb D cA 27 d [ezw_p 54, ezw_i a1] (ezu_g e F A) (ezs_Pp e F A ezs_ri) := by
  refine ezw_met (k := 0) rfl rfl ?_
  refine ezw_aload_n rfl rfl ?_
  refine ezw_ifnull rfl ?_
  refine ezw_iload_n rfl rfl ?_
  refine ezw_if_lt rfl rfl ha1 (fun h5_0 => ?_) (fun h5_0 => ?_)
  · refine ezw_iconst (0) rfl rfl ?_
    exact ezw_ireturn rfl rfl ⟨rfl, _, ⟨by decide, by decide⟩, rfl⟩
  · refine ezw_iload_n rfl rfl ?_
    refine ezw_aload_n rfl rfl ?_
    refine ezs_alen (k := 4) rfl rfl rfl rfl (by decide) (by decide) ?_
    refine ezw_icmp_ge rfl rfl ha1 ⟨by decide, by decide⟩ (fun h11_0 => ?_) (fun h11_0 => ?_)
    · refine ezw_iconst (0) rfl rfl ?_
      exact ezw_ireturn rfl rfl ⟨rfl, _, ⟨by decide, by decide⟩, rfl⟩
    · refine ezw_aload_n rfl rfl ?_
      refine ezw_iload_n rfl rfl ?_
      refine ezs_iaload hI rfl rfl rfl (by omega) (by omega) (by decide) (fun u1 hu1 ku1 => ?_)
      refine ezw_goto rfl rfl ?_
      exact ezw_ireturn rfl rfl ⟨rfl, _, hu1, rfl⟩
theorem ezs_m27_49 {a1 : Int} {F : Nat → Nat → Int} {A : Nat → Int → Int} (hI : ezs_I fz F0 A0 F A) (hd : 0 ≤ d) (ha1 : ezw_in a1) : ezw_C l ρ B xa Hb D cA 27 d [ezw_p 49, ezw_i a1] (ezu_g e F A) (ezs_Pp e F A ezs_ri) := by
  refine ezw_met (k := 0) rfl rfl ?_
  refine ezw_aload_n rfl rfl ?_
  refine ezw_ifnull rfl ?_
  refine ezw_iload_n rfl rfl ?_
  refine ezw_if_lt rfl rfl ha1 (fun h5_0 => ?_) (fun h5_0 => ?_)
  · refine ezw_iconst (0) rfl rfl ?_
    exact ezw_ireturn rfl rfl ⟨rfl, _, ⟨by decide, by decide⟩, rfl⟩
  · refine ezw_iload_n rfl rfl ?_
    refine ezw_aload_n rfl rfl ?_
    refine ezs_alen (k := 8) rfl rfl rfl rfl (by decide) (by decide) ?_
    refine ezw_icmp_ge rfl rfl ha1 ⟨by decide, by decide⟩ (fun h11_0 => ?_) (fun h11_0 => ?_)
    · refine ezw_iconst (0) rfl rfl ?_
      exact ezw_ireturn rfl rfl ⟨rfl, _, ⟨by decide, by decide⟩, rfl⟩
    · refine ezw_aload_n rfl rfl ?_
      refine ezw_iload_n rfl rfl ?_
      refine ezs_iaload hI rfl rfl rfl (by omega) (by omega) (by decide) (fun u1 hu1 ku1 => ?_)
      refine ezw_goto rfl rfl ?_
      exact ezw_ireturn rfl rfl ⟨rfl, _, hu1, rfl⟩
theorem ezs_m27_51 {a1 : Int} {F : Nat → Nat → Int} {A : Nat → Int → Int} (hI : ezs_I fz F0 A0 F A) (hd : 0 ≤ d) (ha1 : ezw_in a1) : ezw_C l ρ B xa Hb D cA 27 d [ezw_p 51, ezw_i a1] (ezu_g e F A) (ezs_Pp e F A ezs_ri) := by
  refine ezw_met (k := 0) rfl rfl ?_
  refine ezw_aload_n rfl rfl ?_
  refine ezw_ifnull rfl ?_
  refine ezw_iload_n rfl rfl ?_
  refine ezw_if_lt rfl rfl ha1 (fun h5_0 => ?_) (fun h5_0 => ?_)
  · refine ezw_iconst (0) rfl rfl ?_
    exact ezw_ireturn rfl rfl ⟨rfl, _, ⟨by decide, by decide⟩, rfl⟩
  · refine ezw_iload_n rfl rfl ?_
    refine ezw_aload_n rfl rfl ?_
    refine ezs_alen (k := 8) rfl rfl rfl rfl (by decide) (by decide) ?_
    refine ezw_icmp_ge rfl rfl ha1 ⟨by decide, by decide⟩ (fun h11_0 => ?_) (fun h11_0 => ?_)
    · refine ezw_iconst (0) rfl rfl ?_
      exact ezw_ireturn rfl rfl ⟨rfl, _, ⟨by decide, by decide⟩, rfl⟩
    · refine ezw_aload_n rfl rfl ?_
      refine ezw_iload_n rfl rfl ?_
      refine ezs_iaload hI rfl rfl rfl (by omega) (by omega) (by decide) (fun u1 hu1 ku1 => ?_)
      refine ezw_goto rfl rfl ?_
      exact ezw_ireturn rfl rfl ⟨rfl, _, hu1, rfl⟩
theorem ezs_m127_47 {a1 : Int} {F : Nat → Nat → Int} {A : Nat → Int → Int} (hI : ezs_I fz F0 A0 F A) (hd : 2 ≤ d) (ha1 : ezw_in a1) : ezw_C l ρ B xa Hb D cA 127 d [ezw_p 47, ezw_i a1] (ezu_g e F A) (ezs_Pp e F A ezs_rz) := by
  refine ezw_met (k := 2) rfl rfl ?_
  refine ezw_iload_n rfl rfl ?_
  refine ezw_istore_n rfl rfl ?_
  refine ezw_iconst (0) rfl rfl ?_
  refine ezw_istore_n rfl rfl ?_
  have L4_2 : ∀ c2 : Int, ezw_in c2 → (0) ≤ c2 → ∀ y1 : Int, ezw_in y1 → ezw_E l ρ B xa Hb D cA d ezq_re127 (ezs_Pp e F A ezs_rz) 4 [some (ezw_p 47), some (ezw_i a1), some (ezw_i y1), some (ezw_i c2)] [] (ezu_g e F A) := by
    refine ezs_up ?_
    intro c2 hc2 ihc2 gc2 y1 hy1 
    refine ezw_iload_n rfl rfl ?_
    refine ezw_bipush (8) rfl rfl ?_
    refine ezw_icmp_ge rfl rfl hc2 ⟨by decide, by decide⟩ (fun h7_3 => ?_) (fun h7_3 => ?_)
    · refine ezw_iconst (1) rfl rfl ?_
      exact ezw_ireturn rfl (ezw_zret ⟨by omega, by omega⟩) ⟨rfl, _, ⟨by omega, by omega⟩, rfl⟩
    · refine ezw_iload_n rfl rfl ?_
      refine ezw_iconst (-1) rfl rfl ?_
      refine ezw_icmp_eq rfl rfl hy1 ⟨by decide, by decide⟩ (fun h12_3 => ?_) (fun h12_3 => ?_)
      · refine ezw_iconst (1) rfl rfl ?_
        exact ezw_ireturn rfl (ezw_zret ⟨by omega, by omega⟩) ⟨rfl, _, ⟨by omega, by omega⟩, rfl⟩
      · refine ezw_aload_n rfl rfl ?_
        refine ezs_getp (p := 49) rfl rfl rfl rfl rfl ?_
        refine ezw_iload_n rfl rfl ?_
        refine ezw_call3_2 rfl (by omega) rfl rfl (ezs_m27_49 hI (by omega) hy1) ?_
        rintro _ _ ⟨rfl, u4, hu4, rfl⟩
        refine ezw_aload_n rfl rfl ?_
        refine ezw_bipush (9) rfl rfl ?_
        refine ezw_call0_1 rfl (by omega) (ezu_at rfl) rfl rfl rfl rfl (ezs_m95_47 hI (by omega) ⟨by decide, by decide⟩) ?_
        rintro _ _ ⟨rfl, u5, hu5, rfl⟩
        refine ezw_icmp_ge rfl rfl hu4 ⟨by omega, by omega⟩ (fun h29_5 => ?_) (fun h29_5 => ?_)
        · refine ezw_aload_n rfl rfl ?_
          refine ezs_getp (p := 51) rfl rfl rfl rfl rfl ?_
          refine ezw_iload_n rfl rfl ?_
          refine ezw_call3_2 rfl (by omega) rfl rfl (ezs_m27_51 hI (by omega) hy1) ?_
          rintro _ _ ⟨rfl, u6, hu6, rfl⟩
          refine ezw_istore_n rfl rfl ?_
          refine ezw_iinc (1) rfl rfl rfl rfl rfl ?_
          refine ezw_goto rfl rfl ?_
          exact ezw_keepE [true, true, true, true] (ihc2 (c2 + (1)) (by omega) ⟨by omega, by omega⟩ (by omega) u6 hu6)
        · refine ezw_iconst (0) rfl rfl ?_
          exact ezw_ireturn rfl (ezw_zret ⟨by omega, by omega⟩) ⟨rfl, _, ⟨by omega, by omega⟩, rfl⟩
  exact ezw_keepE [true, true, true, true] (L4_2 (0) ⟨by decide, by decide⟩ (by omega) a1 ha1)
theorem ezs_m27_48 {a1 : Int} {F : Nat → Nat → Int} {A : Nat → Int → Int} (hI : ezs_I fz F0 A0 F A) (hd : 0 ≤ d) (ha1 : ezw_in a1) : ezw_C l ρ B xa Hb D cA 27 d [ezw_p 48, ezw_i a1] (ezu_g e F A) (ezs_Pp e F A ezs_ri) := by
  refine ezw_met (k := 0) rfl rfl ?_
  refine ezw_aload_n rfl rfl ?_
  refine ezw_ifnull rfl ?_
  refine ezw_iload_n rfl rfl ?_
  refine ezw_if_lt rfl rfl ha1 (fun h5_0 => ?_) (fun h5_0 => ?_)
  · refine ezw_iconst (0) rfl rfl ?_
    exact ezw_ireturn rfl rfl ⟨rfl, _, ⟨by decide, by decide⟩, rfl⟩
  · refine ezw_iload_n rfl rfl ?_
    refine ezw_aload_n rfl rfl ?_
    refine ezs_alen (k := 8) rfl rfl rfl rfl (by decide) (by decide) ?_
    refine ezw_icmp_ge rfl rfl ha1 ⟨by decide, by decide⟩ (fun h11_0 => ?_) (fun h11_0 => ?_)
    · refine ezw_iconst (0) rfl rfl ?_
      exact ezw_ireturn rfl rfl ⟨rfl, _, ⟨by decide, by decide⟩, rfl⟩
    · refine ezw_aload_n rfl rfl ?_
      refine ezw_iload_n rfl rfl ?_
      refine ezs_iaload hI rfl rfl rfl (by omega) (by omega) (by decide) (fun u1 hu1 ku1 => ?_)
      refine ezw_goto rfl rfl ?_
      exact ezw_ireturn rfl rfl ⟨rfl, _, hu1, rfl⟩
theorem ezs_m129_47 {a1 a2 : Int} {F : Nat → Nat → Int} {A : Nat → Int → Int} (hI : ezs_I fz F0 A0 F A) (hd : 2 ≤ d) (ha1 : ezw_in a1) (ha2 : ezw_in a2) : ezw_C l ρ B xa Hb D cA 129 d [ezw_p 47, ezw_i a1, ezw_i a2] (ezu_g e F A) (ezs_Pp e F A ezs_ri) := by
  refine ezw_met (k := 1) rfl rfl ?_
  refine ezw_iload_n rfl rfl ?_
  refine ezw_bipush (20) rfl rfl ?_
  have J17_1 : ∀ y1 : Int, ezs_b y1 → ezw_E l ρ B xa Hb D cA d ezq_re129 (ezs_Pp e F A ezs_ri) 17 [some (ezw_p 47), some (ezw_i a1), some (ezw_i a2), none] [(ezw_i y1)] (ezu_g e F A) := by
    intro y1 hy1 
    refine ezw_istore_n rfl rfl ?_
    refine ezw_iload_n rfl rfl ?_
    refine ezw_if_eq rfl rfl ⟨by omega, by omega⟩ (fun h19_2 => ?_) (fun h19_2 => ?_)
    · refine ezw_iload_n rfl rfl ?_
      exact ezw_ireturn rfl rfl ⟨rfl, _, ha2, rfl⟩
    · refine ezw_iconst (0) rfl rfl ?_
      refine ezw_iload_n rfl rfl ?_
      refine ezw_aload_n rfl rfl ?_
      refine ezw_bipush (6) rfl rfl ?_
      refine ezw_call0_1 rfl (by omega) (ezu_at rfl) rfl rfl rfl rfl (ezs_m95_47 hI (by omega) ⟨by decide, by decide⟩) ?_
      rintro _ _ ⟨rfl, u3, hu3, rfl⟩
      refine ezs_isub rfl (fun u4 hu4 => ?_)
      refine ezw_mmaxE rfl ⟨by decide, by decide⟩ hu4 rfl (fun u5 hu5 => ?_)
      refine ezw_goto rfl rfl ?_
      exact ezw_ireturn rfl rfl ⟨rfl, _, ⟨by omega, by omega⟩, rfl⟩
  refine ezw_icmp_ge rfl rfl ha1 ⟨by decide, by decide⟩ (fun h3_0 => ?_) (fun h3_0 => ?_)
  · refine ezw_iconst (1) rfl rfl ?_
    refine ezw_goto rfl rfl ?_
    exact ezw_keepE [true, true, true, false] (J17_1 (1) ⟨by omega, by omega⟩)
  · refine ezw_iload_n rfl rfl ?_
    refine ezw_bipush (6) rfl rfl ?_
    refine ezw_icmp_ge rfl rfl ha1 ⟨by decide, by decide⟩ (fun h9_5 => ?_) (fun h9_5 => ?_)
    · refine ezw_iconst (0) rfl rfl ?_
      exact ezw_keepE [true, true, true, false] (J17_1 (0) ⟨by omega, by omega⟩)
    · refine ezw_iconst (1) rfl rfl ?_
      refine ezw_goto rfl rfl ?_
      exact ezw_keepE [true, true, true, false] (J17_1 (1) ⟨by omega, by omega⟩)
theorem ezs_m143_13_47 {F : Nat → Nat → Int} {A : Nat → Int → Int} (hI : ezs_I fz F0 A0 F A) (hd : 2 ≤ d) : ezw_C l ρ B xa Hb D cA 143 d [ezw_p 13, ezw_p 47] (ezu_g e F A) (ezs_Pp e F A ezs_ri) := by
  refine ezw_met (k := 1) rfl rfl ?_
  refine ezw_aload_n rfl rfl ?_
  refine ezw_aload_n rfl rfl ?_
  refine ezs_get_i hI rfl rfl rfl rfl rfl rfl (fun u1 hu1 ku1 => ?_)
  refine ezw_call0_1 rfl (by omega) (ezu_at rfl) rfl rfl rfl rfl (ezs_m144_47 hI (by omega) hu1) ?_
  rintro _ _ ⟨rfl, u2, hu2, rfl⟩
  refine ezw_istore_n rfl rfl ?_
  refine ezw_aload_n rfl rfl ?_
  refine ezs_get_i hI rfl rfl rfl rfl rfl rfl (fun u3 hu3 ku3 => ?_)
  refine ezw_iconst (1) rfl rfl ?_
  refine ezw_icmp_ne rfl rfl hu3 ⟨by decide, by decide⟩ (fun h14_3 => ?_) (fun h14_3 => ?_)
  · refine ezw_iload_n rfl rfl ?_
    exact ezw_ireturn rfl rfl ⟨rfl, _, hu2, rfl⟩
  · refine ezw_aload_n rfl rfl ?_
    refine ezs_get_i hI rfl rfl rfl rfl rfl rfl (fun u4 hu4 ku4 => ?_)
    refine ezw_if_le rfl rfl hu4 (fun h21_4 => ?_) (fun h21_4 => ?_)
    · refine ezw_iload_n rfl rfl ?_
      exact ezw_ireturn rfl rfl ⟨rfl, _, hu2, rfl⟩
    · refine ezw_iload_n rfl rfl ?_
      refine ezw_aload_n rfl rfl ?_
      refine ezw_iconst (0) rfl rfl ?_
      refine ezw_call0_1 rfl (by omega) (ezu_at rfl) rfl rfl rfl rfl (ezs_m95_47 hI (by omega) ⟨by decide, by decide⟩) ?_
      rintro _ _ ⟨rfl, u5, hu5, rfl⟩
      refine ezs_iadd rfl (fun u6 hu6 => ?_)
      refine ezw_goto rfl rfl ?_
      exact ezw_ireturn rfl rfl ⟨rfl, _, hu6, rfl⟩
theorem ezs_m106_26_47 {F : Nat → Nat → Int} {A : Nat → Int → Int} (hI : ezs_I fz F0 A0 F A) (hd : 2 ≤ d) : ezw_C l ρ B xa Hb D cA 106 d [ezw_p 26, ezw_p 47] (ezu_g e F A) (ezs_Pp e F A ezs_ri) := by
  refine ezw_met (k := 0) rfl rfl ?_
  refine ezw_aload_n rfl rfl ?_
  refine ezw_aload_n rfl rfl ?_
  refine ezs_get_i hI rfl rfl rfl rfl rfl rfl (fun u1 hu1 ku1 => ?_)
  refine ezw_call2_1 rfl (by omega) rfl rfl (ezs_m107 hI (by omega) hu1) ?_
  rintro _ _ ⟨rfl, u2, hu2, rfl⟩
  refine ezw_call0_1 rfl (by omega) (ezu_at rfl) rfl rfl rfl rfl (ezs_m108_47 hI (by omega) hu2) ?_
  rintro _ _ ⟨rfl, u3, hu3, rfl⟩
  exact ezw_ireturn rfl rfl ⟨rfl, _, hu3, rfl⟩
theorem ezs_m109_26_47 {a2 : Int} {F : Nat → Nat → Int} {A : Nat → Int → Int} (hI : ezs_I fz F0 A0 F A) (hd : 2 ≤ d) (ha2 : ezw_in a2) : ezw_C l ρ B xa Hb D cA 109 d [ezw_p 26, ezw_p 47, ezw_i a2] (ezu_g e F A) (ezs_Pp e F A ezs_ri) := by
  refine ezw_met (k := 1) rfl rfl ?_
  refine ezw_iconst (0) rfl rfl ?_
  refine ezw_istore_n rfl rfl ?_
  have L2_1 : ∀ c1 : Int, ezw_in c1 → (0) ≤ c1 → ezw_E l ρ B xa Hb D cA d ezq_re109 (ezs_Pp e F A ezs_ri) 2 [some (ezw_p 26), some (ezw_p 47), some (ezw_i a2), some (ezw_i c1)] [] (ezu_g e F A) := by
    refine ezs_up ?_
    intro c1 hc1 ihc1 gc1 
    refine ezw_iload_n rfl rfl ?_
    refine ezw_bipush (6) rfl rfl ?_
    refine ezw_icmp_ge rfl rfl hc1 ⟨by decide, by decide⟩ (fun h5_2 => ?_) (fun h5_2 => ?_)
    · refine ezw_iconst (-1) rfl rfl ?_
      exact ezw_ireturn rfl rfl ⟨rfl, _, ⟨by decide, by decide⟩, rfl⟩
    · refine ezw_aload_n rfl rfl ?_
      refine ezs_get_i hI rfl rfl rfl rfl rfl rfl (fun u3 hu3 ku3 => ?_)
      refine ezw_iload_n rfl rfl ?_
      refine ezw_call3_2 rfl (by omega) rfl rfl (ezs_m49 hI (by omega) hu3 hc1) ?_
      rintro _ _ ⟨rfl, u4, hu4, rfl⟩
      refine ezw_iconst (1) rfl rfl ?_
      refine ezw_icmp_ne rfl rfl hu4 ⟨by decide, by decide⟩ (fun h17_4 => ?_) (fun h17_4 => ?_)
      · refine ezw_iinc (1) rfl rfl rfl rfl rfl ?_
        refine ezw_goto rfl rfl ?_
        exact ezw_keepE [true, true, true, true] (ihc1 (c1 + (1)) (by omega) ⟨by omega, by omega⟩ (by omega) )
      · refine ezw_aload_n rfl rfl ?_
        refine ezw_iload_n rfl rfl ?_
        refine ezw_call0_1 rfl (by omega) (ezu_at rfl) rfl rfl rfl rfl (ezs_m108_47 hI (by omega) hc1) ?_
        rintro _ _ ⟨rfl, u5, hu5, rfl⟩
        refine ezw_iload_n rfl rfl ?_
        refine ezw_icmp_ne rfl rfl hu5 ha2 (fun h26_5 => ?_) (fun h26_5 => ?_)
        · refine ezw_iinc (1) rfl rfl rfl rfl rfl ?_
          refine ezw_goto rfl rfl ?_
          exact ezw_keepE [true, true, true, true] (ihc1 (c1 + (1)) (by omega) ⟨by omega, by omega⟩ (by omega) )
        · refine ezw_iload_n rfl rfl ?_
          exact ezw_ireturn rfl rfl ⟨rfl, _, hc1, rfl⟩
  exact ezw_keepE [true, true, true, true] (L2_1 (0) ⟨by decide, by decide⟩ (by omega) )
theorem ezs_m121_26_47 {a2 a3 a4 : Int} {F : Nat → Nat → Int} {A : Nat → Int → Int} (hI : ezs_I fz F0 A0 F A) (hd : 3 ≤ d) (hzA : ∀ q, 26 ≤ q → q < 27 → fz q = false) (ha2 : ezw_in a2) (ha3 : ezw_in a3) (ha4 : ezw_in a4) : ezw_C l ρ B xa Hb D cA 121 d [ezw_p 26, ezw_p 47, ezw_i a2, ezw_i a3, ezw_i a4] (ezu_g e F A) (ezs_P e fz F0 A0 ezs_rz) := by
  refine ezw_met (k := 2) rfl rfl ?_
  refine ezw_aload_n rfl rfl ?_
  refine ezs_get_i hI rfl rfl rfl rfl rfl rfl (fun u1 hu1 ku1 => ?_)
  refine ezw_if_ne rfl rfl hu1 (fun h4_1 => ?_) (fun h4_1 => ?_)
  · refine ezw_iconst (0) rfl rfl ?_
    exact ezw_ireturn rfl (ezw_zret ⟨by omega, by omega⟩) ⟨⟨F, A, rfl, hI⟩, _, ⟨by omega, by omega⟩, rfl⟩
  · refine ezw_iload_n rfl rfl ?_
    refine ezw_call3_1 rfl (by omega) rfl rfl (ezs_m112 hI (by omega) ha2) ?_
    rintro _ _ ⟨rfl, u2, hu2, rfl⟩
    refine ezw_if_ne rfl rfl ⟨by omega, by omega⟩ (fun h11_2 => ?_) (fun h11_2 => ?_)
    · refine ezw_aload_n rfl rfl ?_
      refine ezw_aload_n rfl rfl ?_
      refine ezw_aload_n rfl rfl ?_
      refine ezw_call0_1 rfl (by omega) (ezu_at rfl) rfl rfl rfl rfl (ezs_m106_26_47 hI (by omega)) ?_
      rintro _ _ ⟨rfl, u3, hu3, rfl⟩
      refine ezw_aload_n rfl rfl ?_
      refine ezs_get_i hI rfl rfl rfl rfl rfl rfl (fun u4 hu4 ku4 => ?_)
      refine ezw_iload_n rfl rfl ?_
      refine ezw_iload_n rfl rfl ?_
      refine ezw_call0_4 rfl (by omega) (ezu_at rfl) rfl rfl rfl rfl (ezs_m113_47 hI (by omega) hu3 hu4 ha2 ha3) ?_
      rintro _ _ ⟨rfl, u5, hu5, rfl⟩
      refine ezw_istore rfl rfl ?_
      refine ezw_aload_n rfl rfl ?_
      refine ezw_aload_n rfl rfl ?_
      refine ezw_aload_n rfl rfl ?_
      refine ezw_call0_1 rfl (by omega) (ezu_at rfl) rfl rfl rfl rfl (ezs_m106_26_47 hI (by omega)) ?_
      rintro _ _ ⟨rfl, u6, hu6, rfl⟩
      refine ezw_aload_n rfl rfl ?_
      refine ezs_get_i hI rfl rfl rfl rfl rfl rfl (fun u7 hu7 ku7 => ?_)
      refine ezw_iload_n rfl rfl ?_
      refine ezw_iload_n rfl rfl ?_
      refine ezw_call0_4 rfl (by omega) (ezu_at rfl) rfl rfl rfl rfl (ezs_m116_47 hI (by omega) hu6 hu7 ha2 ha3) ?_
      rintro _ _ ⟨rfl, u8, hu8, rfl⟩
      refine ezw_istore rfl rfl ?_
      refine ezw_iload rfl rfl ?_
      refine ezw_if_ne rfl rfl ha4 (fun h52_8 => ?_) (fun h52_8 => ?_)
      · refine ezw_iload rfl rfl ?_
        refine ezw_iconst (1) rfl rfl ?_
        refine ezw_icmp_ne rfl rfl ha4 ⟨by decide, by decide⟩ (fun h76_8 => ?_) (fun h76_8 => ?_)
        · refine ezw_iload rfl rfl ?_
          refine ezw_iconst (2) rfl rfl ?_
          refine ezw_icmp_ne rfl rfl ha4 ⟨by decide, by decide⟩ (fun h121_8 => ?_) (fun h121_8 => ?_)
          · refine ezw_iconst (0) rfl rfl ?_
            exact ezw_ireturn rfl (ezw_zret ⟨by omega, by omega⟩) ⟨⟨F, A, rfl, hI⟩, _, ⟨by omega, by omega⟩, rfl⟩
          · refine ezw_iload rfl rfl ?_
            refine ezw_bipush (10) rfl rfl ?_
            refine ezw_icmp_ge rfl rfl hu5 ⟨by decide, by decide⟩ (fun h128_8 => ?_) (fun h128_8 => ?_)
            · refine ezw_iconst (0) rfl rfl ?_
              exact ezw_ireturn rfl (ezw_zret ⟨by omega, by omega⟩) ⟨⟨F, A, rfl, hI⟩, _, ⟨by omega, by omega⟩, rfl⟩
            · refine ezw_iload rfl rfl ?_
              refine ezw_if_le rfl rfl hu8 (fun h133_8 => ?_) (fun h133_8 => ?_)
              · refine ezw_iconst (0) rfl rfl ?_
                exact ezw_ireturn rfl (ezw_zret ⟨by omega, by omega⟩) ⟨⟨F, A, rfl, hI⟩, _, ⟨by omega, by omega⟩, rfl⟩
              · refine ezw_aload_n rfl rfl ?_
                refine ezw_iconst (0) rfl rfl ?_
                refine ezs_put_i hI rfl rfl rfl rfl rfl (hzA 26 (by decide) (by decide)) ⟨by decide, by decide⟩ (fun F A hI => ?_)
                refine ezw_aload_n rfl rfl ?_
                refine ezw_iconst (0) rfl rfl ?_
                refine ezs_put_i hI rfl rfl rfl rfl rfl (hzA 26 (by decide) (by decide)) ⟨by decide, by decide⟩ (fun F A hI => ?_)
                refine ezw_aload_n rfl rfl ?_
                refine ezw_iconst (2) rfl rfl ?_
                refine ezs_put_i hI rfl rfl rfl rfl rfl (hzA 26 (by decide) (by decide)) ⟨by decide, by decide⟩ (fun F A hI => ?_)
                refine ezw_iconst (1) rfl rfl ?_
                exact ezw_ireturn rfl (ezw_zret ⟨by omega, by omega⟩) ⟨⟨F, A, rfl, hI⟩, _, ⟨by omega, by omega⟩, rfl⟩
        · refine ezw_iload rfl rfl ?_
          refine ezw_bipush (10) rfl rfl ?_
          refine ezw_icmp_ge rfl rfl hu5 ⟨by decide, by decide⟩ (fun h83_8 => ?_) (fun h83_8 => ?_)
          · refine ezw_iload rfl rfl ?_
            refine ezw_iconst (2) rfl rfl ?_
            refine ezw_icmp_ne rfl rfl ha4 ⟨by decide, by decide⟩ (fun h121_8 => ?_) (fun h121_8 => ?_)
            · refine ezw_iconst (0) rfl rfl ?_
              exact ezw_ireturn rfl (ezw_zret ⟨by omega, by omega⟩) ⟨⟨F, A, rfl, hI⟩, _, ⟨by omega, by omega⟩, rfl⟩
            · refine ezw_iload rfl rfl ?_
              refine ezw_bipush (10) rfl rfl ?_
              refine ezw_icmp_ge rfl rfl hu5 ⟨by decide, by decide⟩ (fun h128_8 => ?_) (fun h128_8 => ?_)
              · refine ezw_iconst (0) rfl rfl ?_
                exact ezw_ireturn rfl (ezw_zret ⟨by omega, by omega⟩) ⟨⟨F, A, rfl, hI⟩, _, ⟨by omega, by omega⟩, rfl⟩
              · refine ezw_iload rfl rfl ?_
                refine ezw_if_le rfl rfl hu8 (fun h133_8 => ?_) (fun h133_8 => ?_)
                · refine ezw_iconst (0) rfl rfl ?_
                  exact ezw_ireturn rfl (ezw_zret ⟨by omega, by omega⟩) ⟨⟨F, A, rfl, hI⟩, _, ⟨by omega, by omega⟩, rfl⟩
                · refine ezw_aload_n rfl rfl ?_
                  refine ezw_iconst (0) rfl rfl ?_
                  refine ezs_put_i hI rfl rfl rfl rfl rfl (hzA 26 (by decide) (by decide)) ⟨by decide, by decide⟩ (fun F A hI => ?_)
                  refine ezw_aload_n rfl rfl ?_
                  refine ezw_iconst (0) rfl rfl ?_
                  refine ezs_put_i hI rfl rfl rfl rfl rfl (hzA 26 (by decide) (by decide)) ⟨by decide, by decide⟩ (fun F A hI => ?_)
                  refine ezw_aload_n rfl rfl ?_
                  refine ezw_iconst (2) rfl rfl ?_
                  refine ezs_put_i hI rfl rfl rfl rfl rfl (hzA 26 (by decide) (by decide)) ⟨by decide, by decide⟩ (fun F A hI => ?_)
                  refine ezw_iconst (1) rfl rfl ?_
                  exact ezw_ireturn rfl (ezw_zret ⟨by omega, by omega⟩) ⟨⟨F, A, rfl, hI⟩, _, ⟨by omega, by omega⟩, rfl⟩
          · refine ezw_iload rfl rfl ?_
            refine ezw_bipush (10) rfl rfl ?_
            refine ezw_icmp_ge rfl rfl hu8 ⟨by decide, by decide⟩ (fun h90_8 => ?_) (fun h90_8 => ?_)
            · refine ezw_iload rfl rfl ?_
              refine ezw_iconst (2) rfl rfl ?_
              refine ezw_icmp_ne rfl rfl ha4 ⟨by decide, by decide⟩ (fun h121_8 => ?_) (fun h121_8 => ?_)
              · refine ezw_iconst (0) rfl rfl ?_
                exact ezw_ireturn rfl (ezw_zret ⟨by omega, by omega⟩) ⟨⟨F, A, rfl, hI⟩, _, ⟨by omega, by omega⟩, rfl⟩
              · refine ezw_iload rfl rfl ?_
                refine ezw_bipush (10) rfl rfl ?_
                refine ezw_icmp_ge rfl rfl hu5 ⟨by decide, by decide⟩ (fun h128_8 => ?_) (fun h128_8 => ?_)
                · refine ezw_iconst (0) rfl rfl ?_
                  exact ezw_ireturn rfl (ezw_zret ⟨by omega, by omega⟩) ⟨⟨F, A, rfl, hI⟩, _, ⟨by omega, by omega⟩, rfl⟩
                · refine ezw_iload rfl rfl ?_
                  refine ezw_if_le rfl rfl hu8 (fun h133_8 => ?_) (fun h133_8 => ?_)
                  · refine ezw_iconst (0) rfl rfl ?_
                    exact ezw_ireturn rfl (ezw_zret ⟨by omega, by omega⟩) ⟨⟨F, A, rfl, hI⟩, _, ⟨by omega, by omega⟩, rfl⟩
                  · refine ezw_aload_n rfl rfl ?_
                    refine ezw_iconst (0) rfl rfl ?_
                    refine ezs_put_i hI rfl rfl rfl rfl rfl (hzA 26 (by decide) (by decide)) ⟨by decide, by decide⟩ (fun F A hI => ?_)
                    refine ezw_aload_n rfl rfl ?_
                    refine ezw_iconst (0) rfl rfl ?_
                    refine ezs_put_i hI rfl rfl rfl rfl rfl (hzA 26 (by decide) (by decide)) ⟨by decide, by decide⟩ (fun F A hI => ?_)
                    refine ezw_aload_n rfl rfl ?_
                    refine ezw_iconst (2) rfl rfl ?_
                    refine ezs_put_i hI rfl rfl rfl rfl rfl (hzA 26 (by decide) (by decide)) ⟨by decide, by decide⟩ (fun F A hI => ?_)
                    refine ezw_iconst (1) rfl rfl ?_
                    exact ezw_ireturn rfl (ezw_zret ⟨by omega, by omega⟩) ⟨⟨F, A, rfl, hI⟩, _, ⟨by omega, by omega⟩, rfl⟩
            · refine ezw_aload_n rfl rfl ?_
              refine ezw_bipush (9) rfl rfl ?_
              refine ezw_aload_n rfl rfl ?_
              refine ezs_get_i hI rfl rfl rfl rfl rfl rfl (fun u9 hu9 ku9 => ?_)
              refine ezw_iload_n rfl rfl ?_
              have J109_10 : ∀ y10 : Int, ezw_in y10 → ∀ F A, ezs_I fz F0 A0 F A → ezw_E l ρ B xa Hb D cA d ezq_re121 (ezs_P e fz F0 A0 ezs_rz) 109 [some (ezw_p 26), some (ezw_p 47), some (ezw_i a2), some (ezw_i a3), some (ezw_i a4), some (ezw_i u5), some (ezw_i u8)] [(ezw_i y10), (ezw_i u9), (ezw_i (9)), (ezw_p 26)] (ezu_g e F A) := by
                intro y10 hy10 F A hI
                refine ezs_iadd rfl (fun u12 hu12 => ?_)
                refine ezw_mminE rfl ⟨by decide, by decide⟩ hu12 rfl (fun u13 hu13 => ?_)
                refine ezs_put_i hI rfl rfl rfl rfl rfl (hzA 26 (by decide) (by decide)) ⟨by omega, by omega⟩ (fun F A hI => ?_)
                refine ezw_iconst (1) rfl rfl ?_
                exact ezw_ireturn rfl (ezw_zret ⟨by omega, by omega⟩) ⟨⟨F, A, rfl, hI⟩, _, ⟨by omega, by omega⟩, rfl⟩
              refine ezw_if_eq rfl rfl ha3 (fun h101_9 => ?_) (fun h101_9 => ?_)
              · refine ezw_iconst (1) rfl rfl ?_
                exact ezw_keepE [true, true, true, true, true, true, true] (J109_10 (1) ⟨by decide, by decide⟩ F A hI)
              · refine ezw_iconst (2) rfl rfl ?_
                refine ezw_goto rfl rfl ?_
                exact ezw_keepE [true, true, true, true, true, true, true] (J109_10 (2) ⟨by decide, by decide⟩ F A hI)
      · refine ezw_iload rfl rfl ?_
        refine ezw_if_le rfl rfl hu5 (fun h57_13 => ?_) (fun h57_13 => ?_)
        · refine ezw_iload rfl rfl ?_
          refine ezw_iconst (1) rfl rfl ?_
          refine ezw_icmp_ne rfl rfl ha4 ⟨by decide, by decide⟩ (fun h76_13 => ?_) (fun h76_13 => ?_)
          · refine ezw_iload rfl rfl ?_
            refine ezw_iconst (2) rfl rfl ?_
            refine ezw_icmp_ne rfl rfl ha4 ⟨by decide, by decide⟩ (fun h121_13 => ?_) (fun h121_13 => ?_)
            · refine ezw_iconst (0) rfl rfl ?_
              exact ezw_ireturn rfl (ezw_zret ⟨by omega, by omega⟩) ⟨⟨F, A, rfl, hI⟩, _, ⟨by omega, by omega⟩, rfl⟩
            · refine ezw_iload rfl rfl ?_
              refine ezw_bipush (10) rfl rfl ?_
              refine ezw_icmp_ge rfl rfl hu5 ⟨by decide, by decide⟩ (fun h128_13 => ?_) (fun h128_13 => ?_)
              · refine ezw_iconst (0) rfl rfl ?_
                exact ezw_ireturn rfl (ezw_zret ⟨by omega, by omega⟩) ⟨⟨F, A, rfl, hI⟩, _, ⟨by omega, by omega⟩, rfl⟩
              · refine ezw_iload rfl rfl ?_
                refine ezw_if_le rfl rfl hu8 (fun h133_13 => ?_) (fun h133_13 => ?_)
                · refine ezw_iconst (0) rfl rfl ?_
                  exact ezw_ireturn rfl (ezw_zret ⟨by omega, by omega⟩) ⟨⟨F, A, rfl, hI⟩, _, ⟨by omega, by omega⟩, rfl⟩
                · refine ezw_aload_n rfl rfl ?_
                  refine ezw_iconst (0) rfl rfl ?_
                  refine ezs_put_i hI rfl rfl rfl rfl rfl (hzA 26 (by decide) (by decide)) ⟨by decide, by decide⟩ (fun F A hI => ?_)
                  refine ezw_aload_n rfl rfl ?_
                  refine ezw_iconst (0) rfl rfl ?_
                  refine ezs_put_i hI rfl rfl rfl rfl rfl (hzA 26 (by decide) (by decide)) ⟨by decide, by decide⟩ (fun F A hI => ?_)
                  refine ezw_aload_n rfl rfl ?_
                  refine ezw_iconst (2) rfl rfl ?_
                  refine ezs_put_i hI rfl rfl rfl rfl rfl (hzA 26 (by decide) (by decide)) ⟨by decide, by decide⟩ (fun F A hI => ?_)
                  refine ezw_iconst (1) rfl rfl ?_
                  exact ezw_ireturn rfl (ezw_zret ⟨by omega, by omega⟩) ⟨⟨F, A, rfl, hI⟩, _, ⟨by omega, by omega⟩, rfl⟩
          · refine ezw_iload rfl rfl ?_
            refine ezw_bipush (10) rfl rfl ?_
            refine ezw_icmp_ge rfl rfl hu5 ⟨by decide, by decide⟩ (fun h83_13 => ?_) (fun h83_13 => ?_)
            · refine ezw_iload rfl rfl ?_
              refine ezw_iconst (2) rfl rfl ?_
              refine ezw_icmp_ne rfl rfl ha4 ⟨by decide, by decide⟩ (fun h121_13 => ?_) (fun h121_13 => ?_)
              · refine ezw_iconst (0) rfl rfl ?_
                exact ezw_ireturn rfl (ezw_zret ⟨by omega, by omega⟩) ⟨⟨F, A, rfl, hI⟩, _, ⟨by omega, by omega⟩, rfl⟩
              · refine ezw_iload rfl rfl ?_
                refine ezw_bipush (10) rfl rfl ?_
                refine ezw_icmp_ge rfl rfl hu5 ⟨by decide, by decide⟩ (fun h128_13 => ?_) (fun h128_13 => ?_)
                · refine ezw_iconst (0) rfl rfl ?_
                  exact ezw_ireturn rfl (ezw_zret ⟨by omega, by omega⟩) ⟨⟨F, A, rfl, hI⟩, _, ⟨by omega, by omega⟩, rfl⟩
                · refine ezw_iload rfl rfl ?_
                  refine ezw_if_le rfl rfl hu8 (fun h133_13 => ?_) (fun h133_13 => ?_)
                  · refine ezw_iconst (0) rfl rfl ?_
                    exact ezw_ireturn rfl (ezw_zret ⟨by omega, by omega⟩) ⟨⟨F, A, rfl, hI⟩, _, ⟨by omega, by omega⟩, rfl⟩
                  · refine ezw_aload_n rfl rfl ?_
                    refine ezw_iconst (0) rfl rfl ?_
                    refine ezs_put_i hI rfl rfl rfl rfl rfl (hzA 26 (by decide) (by decide)) ⟨by decide, by decide⟩ (fun F A hI => ?_)
                    refine ezw_aload_n rfl rfl ?_
                    refine ezw_iconst (0) rfl rfl ?_
                    refine ezs_put_i hI rfl rfl rfl rfl rfl (hzA 26 (by decide) (by decide)) ⟨by decide, by decide⟩ (fun F A hI => ?_)
                    refine ezw_aload_n rfl rfl ?_
                    refine ezw_iconst (2) rfl rfl ?_
                    refine ezs_put_i hI rfl rfl rfl rfl rfl (hzA 26 (by decide) (by decide)) ⟨by decide, by decide⟩ (fun F A hI => ?_)
                    refine ezw_iconst (1) rfl rfl ?_
                    exact ezw_ireturn rfl (ezw_zret ⟨by omega, by omega⟩) ⟨⟨F, A, rfl, hI⟩, _, ⟨by omega, by omega⟩, rfl⟩
            · refine ezw_iload rfl rfl ?_
              refine ezw_bipush (10) rfl rfl ?_
              refine ezw_icmp_ge rfl rfl hu8 ⟨by decide, by decide⟩ (fun h90_13 => ?_) (fun h90_13 => ?_)
              · refine ezw_iload rfl rfl ?_
                refine ezw_iconst (2) rfl rfl ?_
                refine ezw_icmp_ne rfl rfl ha4 ⟨by decide, by decide⟩ (fun h121_13 => ?_) (fun h121_13 => ?_)
                · refine ezw_iconst (0) rfl rfl ?_
                  exact ezw_ireturn rfl (ezw_zret ⟨by omega, by omega⟩) ⟨⟨F, A, rfl, hI⟩, _, ⟨by omega, by omega⟩, rfl⟩
                · refine ezw_iload rfl rfl ?_
                  refine ezw_bipush (10) rfl rfl ?_
                  refine ezw_icmp_ge rfl rfl hu5 ⟨by decide, by decide⟩ (fun h128_13 => ?_) (fun h128_13 => ?_)
                  · refine ezw_iconst (0) rfl rfl ?_
                    exact ezw_ireturn rfl (ezw_zret ⟨by omega, by omega⟩) ⟨⟨F, A, rfl, hI⟩, _, ⟨by omega, by omega⟩, rfl⟩
                  · refine ezw_iload rfl rfl ?_
                    refine ezw_if_le rfl rfl hu8 (fun h133_13 => ?_) (fun h133_13 => ?_)
                    · refine ezw_iconst (0) rfl rfl ?_
                      exact ezw_ireturn rfl (ezw_zret ⟨by omega, by omega⟩) ⟨⟨F, A, rfl, hI⟩, _, ⟨by omega, by omega⟩, rfl⟩
                    · refine ezw_aload_n rfl rfl ?_
                      refine ezw_iconst (0) rfl rfl ?_
                      refine ezs_put_i hI rfl rfl rfl rfl rfl (hzA 26 (by decide) (by decide)) ⟨by decide, by decide⟩ (fun F A hI => ?_)
                      refine ezw_aload_n rfl rfl ?_
                      refine ezw_iconst (0) rfl rfl ?_
                      refine ezs_put_i hI rfl rfl rfl rfl rfl (hzA 26 (by decide) (by decide)) ⟨by decide, by decide⟩ (fun F A hI => ?_)
                      refine ezw_aload_n rfl rfl ?_
                      refine ezw_iconst (2) rfl rfl ?_
                      refine ezs_put_i hI rfl rfl rfl rfl rfl (hzA 26 (by decide) (by decide)) ⟨by decide, by decide⟩ (fun F A hI => ?_)
                      refine ezw_iconst (1) rfl rfl ?_
                      exact ezw_ireturn rfl (ezw_zret ⟨by omega, by omega⟩) ⟨⟨F, A, rfl, hI⟩, _, ⟨by omega, by omega⟩, rfl⟩
              · refine ezw_aload_n rfl rfl ?_
                refine ezw_bipush (9) rfl rfl ?_
                refine ezw_aload_n rfl rfl ?_
                refine ezs_get_i hI rfl rfl rfl rfl rfl rfl (fun u14 hu14 ku14 => ?_)
                refine ezw_iload_n rfl rfl ?_
                have J109_15 : ∀ y15 : Int, ezw_in y15 → ∀ F A, ezs_I fz F0 A0 F A → ezw_E l ρ B xa Hb D cA d ezq_re121 (ezs_P e fz F0 A0 ezs_rz) 109 [some (ezw_p 26), some (ezw_p 47), some (ezw_i a2), some (ezw_i a3), some (ezw_i a4), some (ezw_i u5), some (ezw_i u8)] [(ezw_i y15), (ezw_i u14), (ezw_i (9)), (ezw_p 26)] (ezu_g e F A) := by
                  intro y15 hy15 F A hI
                  refine ezs_iadd rfl (fun u17 hu17 => ?_)
                  refine ezw_mminE rfl ⟨by decide, by decide⟩ hu17 rfl (fun u18 hu18 => ?_)
                  refine ezs_put_i hI rfl rfl rfl rfl rfl (hzA 26 (by decide) (by decide)) ⟨by omega, by omega⟩ (fun F A hI => ?_)
                  refine ezw_iconst (1) rfl rfl ?_
                  exact ezw_ireturn rfl (ezw_zret ⟨by omega, by omega⟩) ⟨⟨F, A, rfl, hI⟩, _, ⟨by omega, by omega⟩, rfl⟩
                refine ezw_if_eq rfl rfl ha3 (fun h101_14 => ?_) (fun h101_14 => ?_)
                · refine ezw_iconst (1) rfl rfl ?_
                  exact ezw_keepE [true, true, true, true, true, true, true] (J109_15 (1) ⟨by decide, by decide⟩ F A hI)
                · refine ezw_iconst (2) rfl rfl ?_
                  refine ezw_goto rfl rfl ?_
                  exact ezw_keepE [true, true, true, true, true, true, true] (J109_15 (2) ⟨by decide, by decide⟩ F A hI)
        · refine ezw_aload_n rfl rfl ?_
          refine ezw_aload_n rfl rfl ?_
          refine ezs_get_i hI rfl rfl rfl rfl rfl rfl (fun u19 hu19 ku19 => ?_)
          refine ezw_call2_1 rfl (by omega) rfl rfl (ezs_m107 hI (by omega) hu19) ?_
          rintro _ _ ⟨rfl, u20, hu20, rfl⟩
          refine ezw_call0_1 rfl (by omega) (ezu_at rfl) rfl rfl rfl rfl (ezs_m122_26 hI (by omega) (fun q h0 h1 => hzA q (by omega) (by omega)) hu20) ?_
          rintro _ _ ⟨⟨F, A, rfl, hI⟩, rfl⟩
          refine ezw_iconst (1) rfl rfl ?_
          exact ezw_ireturn rfl (ezw_zret ⟨by omega, by omega⟩) ⟨⟨F, A, rfl, hI⟩, _, ⟨by omega, by omega⟩, rfl⟩
    · refine ezw_iconst (0) rfl rfl ?_
      exact ezw_ireturn rfl (ezw_zret ⟨by omega, by omega⟩) ⟨⟨F, A, rfl, hI⟩, _, ⟨by omega, by omega⟩, rfl⟩
theorem ezs_m124_26_47 {F : Nat → Nat → Int} {A : Nat → Int → Int} (hI : ezs_I fz F0 A0 F A) (hd : 3 ≤ d) (hzA : ∀ q, 26 ≤ q → q < 27 → fz q = false) : ezw_C l ρ B xa Hb D cA 124 d [ezw_p 26, ezw_p 47] (ezu_g e F A) (ezs_P e fz F0 A0 ezs_rz) := by
  refine ezw_met (k := 0) rfl rfl ?_
  refine ezw_aload_n rfl rfl ?_
  refine ezs_get_i hI rfl rfl rfl rfl rfl rfl (fun u1 hu1 ku1 => ?_)
  refine ezw_if_ne rfl rfl hu1 (fun h4_1 => ?_) (fun h4_1 => ?_)
  · refine ezw_iconst (0) rfl rfl ?_
    exact ezw_ireturn rfl (ezw_zret ⟨by omega, by omega⟩) ⟨⟨F, A, rfl, hI⟩, _, ⟨by omega, by omega⟩, rfl⟩
  · refine ezw_aload_n rfl rfl ?_
    refine ezs_get_i hI rfl rfl rfl rfl rfl rfl (fun u2 hu2 ku2 => ?_)
    refine ezw_if_gt rfl rfl hu2 (fun h11_2 => ?_) (fun h11_2 => ?_)
    · refine ezw_iconst (0) rfl rfl ?_
      exact ezw_ireturn rfl (ezw_zret ⟨by omega, by omega⟩) ⟨⟨F, A, rfl, hI⟩, _, ⟨by omega, by omega⟩, rfl⟩
    · refine ezw_aload_n rfl rfl ?_
      refine ezw_iconst (5) rfl rfl ?_
      refine ezw_call0_1 rfl (by omega) (ezu_at rfl) rfl rfl rfl rfl (ezs_m95_47 hI (by omega) ⟨by decide, by decide⟩) ?_
      rintro _ _ ⟨rfl, u3, hu3, rfl⟩
      refine ezw_if_le rfl rfl ⟨by omega, by omega⟩ (fun h19_3 => ?_) (fun h19_3 => ?_)
      · refine ezw_iconst (0) rfl rfl ?_
        exact ezw_ireturn rfl (ezw_zret ⟨by omega, by omega⟩) ⟨⟨F, A, rfl, hI⟩, _, ⟨by omega, by omega⟩, rfl⟩
      · refine ezw_aload_n rfl rfl ?_
        refine ezs_get_i hI rfl rfl rfl rfl rfl rfl (fun u4 hu4 ku4 => ?_)
        refine ezw_aload_n rfl rfl ?_
        refine ezs_getp (p := 50) rfl rfl rfl rfl rfl ?_
        refine ezw_aload_n rfl rfl ?_
        refine ezw_aload_n rfl rfl ?_
        refine ezw_call0_1 rfl (by omega) (ezu_at rfl) rfl rfl rfl rfl (ezs_m106_26_47 hI (by omega)) ?_
        rintro _ _ ⟨rfl, u5, hu5, rfl⟩
        refine ezw_call3_2 rfl (by omega) rfl rfl (ezs_m27_50 hI (by omega) hu5) ?_
        rintro _ _ ⟨rfl, u6, hu6, rfl⟩
        refine ezw_icmp_eq rfl rfl hu4 hu6 (fun h38_6 => ?_) (fun h38_6 => ?_)
        · refine ezw_aload_n rfl rfl ?_
          refine ezw_aload_n rfl rfl ?_
          refine ezs_get_i hI rfl rfl rfl rfl rfl rfl (fun u7 hu7 ku7 => ?_)
          refine ezw_call2_1 rfl (by omega) rfl rfl (ezs_m107 hI (by omega) hu7) ?_
          rintro _ _ ⟨rfl, u8, hu8, rfl⟩
          refine ezw_call0_1 rfl (by omega) (ezu_at rfl) rfl rfl rfl rfl (ezs_m122_26 hI (by omega) (fun q h0 h1 => hzA q (by omega) (by omega)) hu8) ?_
          rintro _ _ ⟨⟨F, A, rfl, hI⟩, rfl⟩
          refine ezw_iconst (1) rfl rfl ?_
          exact ezw_ireturn rfl (ezw_zret ⟨by omega, by omega⟩) ⟨⟨F, A, rfl, hI⟩, _, ⟨by omega, by omega⟩, rfl⟩
        · refine ezw_iconst (0) rfl rfl ?_
          exact ezw_ireturn rfl (ezw_zret ⟨by omega, by omega⟩) ⟨⟨F, A, rfl, hI⟩, _, ⟨by omega, by omega⟩, rfl⟩
theorem ezs_m125_26_47 {a2 a3 : Int} {F : Nat → Nat → Int} {A : Nat → Int → Int} (hI : ezs_I fz F0 A0 F A) (hd : 3 ≤ d) (hzA : ∀ q, 26 ≤ q → q < 27 → fz q = false) (ha2 : ezw_in a2) (ha3 : ezw_in a3) : ezw_C l ρ B xa Hb D cA 125 d [ezw_p 26, ezw_p 47, ezw_i a2, ezw_i a3] (ezu_g e F A) (ezs_P e fz F0 A0 ezs_rz) := by
  refine ezw_met (k := 2) rfl rfl ?_
  refine ezw_aload_n rfl rfl ?_
  refine ezs_get_i hI rfl rfl rfl rfl rfl rfl (fun u1 hu1 ku1 => ?_)
  refine ezw_if_ne rfl rfl hu1 (fun h4_1 => ?_) (fun h4_1 => ?_)
  · refine ezw_iconst (0) rfl rfl ?_
    exact ezw_ireturn rfl (ezw_zret ⟨by omega, by omega⟩) ⟨⟨F, A, rfl, hI⟩, _, ⟨by omega, by omega⟩, rfl⟩
  · refine ezw_aload_n rfl rfl ?_
    refine ezs_get_i hI rfl rfl rfl rfl rfl rfl (fun u2 hu2 ku2 => ?_)
    refine ezw_iload_n rfl rfl ?_
    refine ezw_call3_2 rfl (by omega) rfl rfl (ezs_m49 hI (by omega) hu2 ha2) ?_
    rintro _ _ ⟨rfl, u3, hu3, rfl⟩
    refine ezw_if_ne rfl rfl hu3 (fun h15_3 => ?_) (fun h15_3 => ?_)
    · refine ezw_aload_n rfl rfl ?_
      refine ezs_getp (p := 53) rfl rfl rfl rfl rfl ?_
      refine ezw_iload_n rfl rfl ?_
      refine ezw_call3_2 rfl (by omega) rfl rfl (ezs_m27_53 hI (by omega) ha2) ?_
      rintro _ _ ⟨rfl, u4, hu4, rfl⟩
      refine ezw_istore rfl rfl ?_
      refine ezw_aload_n rfl rfl ?_
      refine ezs_getp (p := 54) rfl rfl rfl rfl rfl ?_
      refine ezw_iload_n rfl rfl ?_
      refine ezw_call3_2 rfl (by omega) rfl rfl (ezs_m27_54 hI (by omega) ha2) ?_
      rintro _ _ ⟨rfl, u5, hu5, rfl⟩
      refine ezw_istore rfl rfl ?_
      refine ezw_iload_n rfl rfl ?_
      refine ezw_if_ne rfl rfl ha3 (fun h41_5 => ?_) (fun h41_5 => ?_)
      · refine ezw_iload_n rfl rfl ?_
        refine ezw_iconst (1) rfl rfl ?_
        refine ezw_icmp_ne rfl rfl ha3 ⟨by decide, by decide⟩ (fun h62_5 => ?_) (fun h62_5 => ?_)
        · refine ezw_iload_n rfl rfl ?_
          refine ezw_iconst (2) rfl rfl ?_
          refine ezw_icmp_ne rfl rfl ha3 ⟨by decide, by decide⟩ (fun h88_5 => ?_) (fun h88_5 => ?_)
          · refine ezw_iconst (0) rfl rfl ?_
            exact ezw_ireturn rfl (ezw_zret ⟨by omega, by omega⟩) ⟨⟨F, A, rfl, hI⟩, _, ⟨by omega, by omega⟩, rfl⟩
          · refine ezw_iload rfl rfl ?_
            refine ezw_if_le rfl rfl hu5 (fun h93_5 => ?_) (fun h93_5 => ?_)
            · refine ezw_iconst (0) rfl rfl ?_
              exact ezw_ireturn rfl (ezw_zret ⟨by omega, by omega⟩) ⟨⟨F, A, rfl, hI⟩, _, ⟨by omega, by omega⟩, rfl⟩
            · refine ezw_aload_n rfl rfl ?_
              refine ezw_aload_n rfl rfl ?_
              refine ezs_get_i hI rfl rfl rfl rfl rfl rfl (fun u6 hu6 ku6 => ?_)
              refine ezw_call2_1 rfl (by omega) rfl rfl (ezs_m107 hI (by omega) hu6) ?_
              rintro _ _ ⟨rfl, u7, hu7, rfl⟩
              refine ezw_call0_1 rfl (by omega) (ezu_at rfl) rfl rfl rfl rfl (ezs_m122_26 hI (by omega) (fun q h0 h1 => hzA q (by omega) (by omega)) hu7) ?_
              rintro _ _ ⟨⟨F, A, rfl, hI⟩, rfl⟩
              refine ezw_iconst (1) rfl rfl ?_
              exact ezw_ireturn rfl (ezw_zret ⟨by omega, by omega⟩) ⟨⟨F, A, rfl, hI⟩, _, ⟨by omega, by omega⟩, rfl⟩
        · refine ezw_iload rfl rfl ?_
          refine ezw_if_le rfl rfl hu4 (fun h67_7 => ?_) (fun h67_7 => ?_)
          · refine ezw_iload_n rfl rfl ?_
            refine ezw_iconst (2) rfl rfl ?_
            refine ezw_icmp_ne rfl rfl ha3 ⟨by decide, by decide⟩ (fun h88_7 => ?_) (fun h88_7 => ?_)
            · refine ezw_iconst (0) rfl rfl ?_
              exact ezw_ireturn rfl (ezw_zret ⟨by omega, by omega⟩) ⟨⟨F, A, rfl, hI⟩, _, ⟨by omega, by omega⟩, rfl⟩
            · refine ezw_iload rfl rfl ?_
              refine ezw_if_le rfl rfl hu5 (fun h93_7 => ?_) (fun h93_7 => ?_)
              · refine ezw_iconst (0) rfl rfl ?_
                exact ezw_ireturn rfl (ezw_zret ⟨by omega, by omega⟩) ⟨⟨F, A, rfl, hI⟩, _, ⟨by omega, by omega⟩, rfl⟩
              · refine ezw_aload_n rfl rfl ?_
                refine ezw_aload_n rfl rfl ?_
                refine ezs_get_i hI rfl rfl rfl rfl rfl rfl (fun u8 hu8 ku8 => ?_)
                refine ezw_call2_1 rfl (by omega) rfl rfl (ezs_m107 hI (by omega) hu8) ?_
                rintro _ _ ⟨rfl, u9, hu9, rfl⟩
                refine ezw_call0_1 rfl (by omega) (ezu_at rfl) rfl rfl rfl rfl (ezs_m122_26 hI (by omega) (fun q h0 h1 => hzA q (by omega) (by omega)) hu9) ?_
                rintro _ _ ⟨⟨F, A, rfl, hI⟩, rfl⟩
                refine ezw_iconst (1) rfl rfl ?_
                exact ezw_ireturn rfl (ezw_zret ⟨by omega, by omega⟩) ⟨⟨F, A, rfl, hI⟩, _, ⟨by omega, by omega⟩, rfl⟩
          · refine ezw_aload_n rfl rfl ?_
            refine ezw_dup rfl rfl ?_
            refine ezs_get_i hI rfl rfl rfl rfl rfl rfl (fun u10 hu10 ku10 => ?_)
            refine ezw_iconst (1) rfl rfl ?_
            refine ezw_iload_n rfl rfl ?_
            refine ezw_ishlO rfl (fun u11 hu11 => ?_)
            refine ezw_iconst (-1) rfl rfl ?_
            refine ezs_ixor rfl (fun u12 hu12 => ?_)
            refine ezs_iand rfl (fun u13 hu13 => ?_)
            refine ezs_put_i hI rfl rfl rfl rfl rfl (hzA 26 (by decide) (by decide)) hu13 (fun F A hI => ?_)
            refine ezw_iconst (1) rfl rfl ?_
            exact ezw_ireturn rfl (ezw_zret ⟨by omega, by omega⟩) ⟨⟨F, A, rfl, hI⟩, _, ⟨by omega, by omega⟩, rfl⟩
      · refine ezw_iload rfl rfl ?_
        refine ezw_iload rfl rfl ?_
        refine ezs_iadd rfl (fun u14 hu14 => ?_)
        refine ezw_bipush (10) rfl rfl ?_
        refine ezw_icmp_ge rfl rfl hu14 ⟨by decide, by decide⟩ (fun h51_14 => ?_) (fun h51_14 => ?_)
        · refine ezw_iconst (0) rfl rfl ?_
          exact ezw_ireturn rfl (ezw_zret ⟨by omega, by omega⟩) ⟨⟨F, A, rfl, hI⟩, _, ⟨by omega, by omega⟩, rfl⟩
        · refine ezw_iconst (1) rfl rfl ?_
          refine ezw_goto rfl rfl ?_
          exact ezw_ireturn rfl (ezw_zret ⟨by omega, by omega⟩) ⟨⟨F, A, rfl, hI⟩, _, ⟨by omega, by omega⟩, rfl⟩
    · refine ezw_iconst (0) rfl rfl ?_
      exact ezw_ireturn rfl (ezw_zret ⟨by omega, by omega⟩) ⟨⟨F, A, rfl, hI⟩, _, ⟨by omega, by omega⟩, rfl⟩
theorem ezs_m126_26_47 {a2 a3 : Int} {F : Nat → Nat → Int} {A : Nat → Int → Int} (hI : ezs_I fz F0 A0 F A) (hd : 3 ≤ d) (hzA : ∀ q, 26 ≤ q → q < 27 → fz q = false) (ha2 : ezw_in a2) (ha3 : ezw_in a3) : ezw_C l ρ B xa Hb D cA 126 d [ezw_p 26, ezw_p 47, ezw_i a2, ezw_i a3] (ezu_g e F A) (ezs_P e fz F0 A0 ezs_rz) := by
  refine ezw_met (k := 2) rfl rfl ?_
  refine ezw_aload_n rfl rfl ?_
  refine ezw_aload_n rfl rfl ?_
  refine ezw_iload_n rfl rfl ?_
  refine ezw_call0_2 rfl (by omega) (ezu_at rfl) rfl rfl rfl rfl (ezs_m109_26_47 hI (by omega) ha2) ?_
  rintro _ _ ⟨rfl, u1, hu1, rfl⟩
  refine ezw_istore rfl rfl ?_
  refine ezw_iload rfl rfl ?_
  refine ezw_iconst (-1) rfl rfl ?_
  refine ezw_icmp_ne rfl rfl hu1 ⟨by decide, by decide⟩ (fun h11_1 => ?_) (fun h11_1 => ?_)
  · refine ezw_iload_n rfl rfl ?_
    have J57_2 : ∀ y2 : Int, ezs_b y2 → ∀ F A, ezs_I fz F0 A0 F A → ezw_E l ρ B xa Hb D cA d ezq_re126 (ezs_P e fz F0 A0 ezs_rz) 57 [some (ezw_p 26), some (ezw_p 47), some (ezw_i a2), some (ezw_i a3), some (ezw_i u1), none] [(ezw_i y2)] (ezu_g e F A) := by
      intro y2 hy2 F A hI
      refine ezw_istore rfl rfl ?_
      refine ezw_iload rfl rfl ?_
      refine ezw_if_eq rfl rfl ⟨by omega, by omega⟩ (fun h61_3 => ?_) (fun h61_3 => ?_)
      · refine ezw_iload rfl rfl ?_
        exact ezw_ireturn rfl (ezw_zret ⟨by omega, by omega⟩) ⟨⟨F, A, rfl, hI⟩, _, ⟨by omega, by omega⟩, rfl⟩
      · refine ezw_aload_n rfl rfl ?_
        refine ezw_iload rfl rfl ?_
        refine ezw_call0_1 rfl (by omega) (ezu_at rfl) rfl rfl rfl rfl (ezs_m122_26 hI (by omega) (fun q h0 h1 => hzA q (by omega) (by omega)) hu1) ?_
        rintro _ _ ⟨⟨F, A, rfl, hI⟩, rfl⟩
        refine ezw_iload rfl rfl ?_
        exact ezw_ireturn rfl (ezw_zret ⟨by omega, by omega⟩) ⟨⟨F, A, rfl, hI⟩, _, ⟨by omega, by omega⟩, rfl⟩
    refine ezw_if_eq rfl rfl ha3 (fun h17_1 => ?_) (fun h17_1 => ?_)
    · refine ezw_aload_n rfl rfl ?_
      refine ezw_iload_n rfl rfl ?_
      refine ezw_call0_1 rfl (by omega) (ezu_at rfl) rfl rfl rfl rfl (ezs_m127_47 hI (by omega) ha2) ?_
      rintro _ _ ⟨rfl, u4, hu4, rfl⟩
      exact ezw_keepE [true, true, true, true, true, false] (J57_2 u4 ⟨by omega, by omega⟩ F A hI)
    · refine ezw_aload_n rfl rfl ?_
      refine ezs_getp (p := 48) rfl rfl rfl rfl rfl ?_
      refine ezw_iload_n rfl rfl ?_
      refine ezw_call3_2 rfl (by omega) rfl rfl (ezs_m27_48 hI (by omega) ha2) ?_
      rintro _ _ ⟨rfl, u5, hu5, rfl⟩
      refine ezw_aload_n rfl rfl ?_
      refine ezw_bipush (7) rfl rfl ?_
      refine ezw_call0_1 rfl (by omega) (ezu_at rfl) rfl rfl rfl rfl (ezs_m95_47 hI (by omega) ⟨by decide, by decide⟩) ?_
      rintro _ _ ⟨rfl, u6, hu6, rfl⟩
      refine ezw_aload_n rfl rfl ?_
      refine ezw_bipush (8) rfl rfl ?_
      refine ezw_call0_1 rfl (by omega) (ezu_at rfl) rfl rfl rfl rfl (ezs_m95_47 hI (by omega) ⟨by decide, by decide⟩) ?_
      rintro _ _ ⟨rfl, u7, hu7, rfl⟩
      refine ezs_iadd rfl (fun u8 hu8 => ?_)
      refine ezw_icmp_gt rfl rfl hu5 hu8 (fun h41_8 => ?_) (fun h41_8 => ?_)
      · refine ezw_iconst (0) rfl rfl ?_
        refine ezw_goto rfl rfl ?_
        exact ezw_keepE [true, true, true, true, true, false] (J57_2 (0) ⟨by omega, by omega⟩ F A hI)
      · refine ezw_iconst (1) rfl rfl ?_
        refine ezw_goto rfl rfl ?_
        exact ezw_keepE [true, true, true, true, true, false] (J57_2 (1) ⟨by omega, by omega⟩ F A hI)
  · refine ezw_iconst (0) rfl rfl ?_
    exact ezw_ireturn rfl (ezw_zret ⟨by omega, by omega⟩) ⟨⟨F, A, rfl, hI⟩, _, ⟨by omega, by omega⟩, rfl⟩
theorem ezs_m128_26_47 {a2 : Int} {F : Nat → Nat → Int} {A : Nat → Int → Int} (hI : ezs_I fz F0 A0 F A) (hd : 3 ≤ d) (hzA : ∀ q, 26 ≤ q → q < 27 → fz q = false) (ha2 : ezw_in a2) : ezw_C l ρ B xa Hb D cA 128 d [ezw_p 26, ezw_p 47, ezw_i a2] (ezu_g e F A) (ezs_P e fz F0 A0 ezs_rz) := by
  refine ezw_met (k := 0) rfl rfl ?_
  refine ezw_iload_n rfl rfl ?_
  refine ezw_call3_1 rfl (by omega) rfl rfl (ezs_m112 hI (by omega) ha2) ?_
  rintro _ _ ⟨rfl, u1, hu1, rfl⟩
  refine ezw_if_ne rfl rfl ⟨by omega, by omega⟩ (fun h4_1 => ?_) (fun h4_1 => ?_)
  · refine ezw_aload_n rfl rfl ?_
    refine ezw_aload_n rfl rfl ?_
    refine ezs_get_i hI rfl rfl rfl rfl rfl rfl (fun u2 hu2 ku2 => ?_)
    refine ezw_iconst (1) rfl rfl ?_
    refine ezs_iadd rfl (fun u3 hu3 => ?_)
    refine ezw_bipush (24) rfl rfl ?_
    refine ezs_irem rfl hu3 ⟨by decide, by decide⟩ (by omega) (fun u4 hu4 => ?_)
    refine ezs_put_i hI rfl rfl rfl rfl rfl (hzA 26 (by decide) (by decide)) hu4 (fun F A hI => ?_)
    refine ezw_aload_n rfl rfl ?_
    refine ezw_iload_n rfl rfl ?_
    refine ezs_put_i hI rfl rfl rfl rfl rfl (hzA 26 (by decide) (by decide)) ha2 (fun F A hI => ?_)
    refine ezw_aload_n rfl rfl ?_
    refine ezs_get_i hI rfl rfl rfl rfl rfl rfl (fun u5 hu5 ku5 => ?_)
    refine ezw_if_ne rfl rfl hu5 (fun h31_5 => ?_) (fun h31_5 => ?_)
    · refine ezw_iconst (1) rfl rfl ?_
      exact ezw_ireturn rfl (ezw_zret ⟨by omega, by omega⟩) ⟨⟨F, A, rfl, hI⟩, _, ⟨by omega, by omega⟩, rfl⟩
    · refine ezw_aload_n rfl rfl ?_
      refine ezw_aload_n rfl rfl ?_
      refine ezw_aload_n rfl rfl ?_
      refine ezs_get_i hI rfl rfl rfl rfl rfl rfl (fun u6 hu6 ku6 => ?_)
      refine ezw_aload_n rfl rfl ?_
      refine ezs_get_i hI rfl rfl rfl rfl rfl rfl (fun u7 hu7 ku7 => ?_)
      refine ezw_call2_3 rfl (by omega) rfl rfl (ezs_m129_47 hI (by omega) hu6 hu7) ?_
      rintro _ _ ⟨rfl, u8, hu8, rfl⟩
      refine ezs_put_i hI rfl rfl rfl rfl rfl (hzA 26 (by decide) (by decide)) hu8 (fun F A hI => ?_)
      refine ezw_iconst (1) rfl rfl ?_
      exact ezw_ireturn rfl (ezw_zret ⟨by omega, by omega⟩) ⟨⟨F, A, rfl, hI⟩, _, ⟨by omega, by omega⟩, rfl⟩
  · refine ezw_iconst (0) rfl rfl ?_
    exact ezw_ireturn rfl (ezw_zret ⟨by omega, by omega⟩) ⟨⟨F, A, rfl, hI⟩, _, ⟨by omega, by omega⟩, rfl⟩
theorem ezs_m120_26_47 {a2 a3 a4 : Int} {F : Nat → Nat → Int} {A : Nat → Int → Int} (hI : ezs_I fz F0 A0 F A) (hd : 4 ≤ d) (hzA : ∀ q, 26 ≤ q → q < 27 → fz q = false) (ha2 : ezw_in a2) (ha3 : ezw_in a3) (ha4 : ezw_in a4) : ezw_C l ρ B xa Hb D cA 120 d [ezw_p 26, ezw_p 47, ezw_i a2, ezw_i a3, ezw_i a4] (ezu_g e F A) (ezs_P e fz F0 A0 ezs_rz) := by
  refine ezw_met (k := 0) rfl rfl ?_
  refine ezw_iload_n rfl rfl ?_
  by_cases q1 : a2 = (0)
  · refine ezw_tableswitchE (v := 0) (p := 48) q1 rfl (by rfl) ?_
    refine ezw_aload_n rfl rfl ?_
    refine ezw_aload_n rfl rfl ?_
    refine ezw_iload_n rfl rfl ?_
    refine ezw_iconst (0) rfl rfl ?_
    refine ezw_iload rfl rfl ?_
    refine ezw_call0_4 rfl (by omega) (ezu_at rfl) rfl rfl rfl rfl (ezs_m121_26_47 hI (by omega) (fun q h0 h1 => hzA q (by omega) (by omega)) ha3 ⟨by decide, by decide⟩ ha4) ?_
    rintro _ _ ⟨⟨F, A, rfl, hI⟩, u2, hu2, rfl⟩
    exact ezw_ireturn rfl (ezw_zret ⟨by omega, by omega⟩) ⟨⟨F, A, rfl, hI⟩, _, ⟨by omega, by omega⟩, rfl⟩
  by_cases q3 : a2 = (1)
  · refine ezw_tableswitchE (v := 1) (p := 58) q3 rfl (by rfl) ?_
    refine ezw_aload_n rfl rfl ?_
    refine ezw_aload_n rfl rfl ?_
    refine ezw_iload_n rfl rfl ?_
    refine ezw_iconst (1) rfl rfl ?_
    refine ezw_iload rfl rfl ?_
    refine ezw_call0_4 rfl (by omega) (ezu_at rfl) rfl rfl rfl rfl (ezs_m121_26_47 hI (by omega) (fun q h0 h1 => hzA q (by omega) (by omega)) ha3 ⟨by decide, by decide⟩ ha4) ?_
    rintro _ _ ⟨⟨F, A, rfl, hI⟩, u4, hu4, rfl⟩
    exact ezw_ireturn rfl (ezw_zret ⟨by omega, by omega⟩) ⟨⟨F, A, rfl, hI⟩, _, ⟨by omega, by omega⟩, rfl⟩
  by_cases q5 : a2 = (2)
  · refine ezw_tableswitchE (v := 2) (p := 68) q5 rfl (by rfl) ?_
    refine ezw_aload_n rfl rfl ?_
    refine ezw_call0_0 rfl (by omega) (ezu_at rfl) rfl rfl rfl rfl (ezs_m123_26 hI (by omega) (fun q h0 h1 => hzA q (by omega) (by omega))) ?_
    rintro _ _ ⟨⟨F, A, rfl, hI⟩, u6, hu6, rfl⟩
    exact ezw_ireturn rfl (ezw_zret ⟨by omega, by omega⟩) ⟨⟨F, A, rfl, hI⟩, _, ⟨by omega, by omega⟩, rfl⟩
  by_cases q7 : a2 = (3)
  · refine ezw_tableswitchE (v := 3) (p := 73) q7 rfl (by rfl) ?_
    refine ezw_aload_n rfl rfl ?_
    refine ezw_aload_n rfl rfl ?_
    refine ezw_call0_1 rfl (by omega) (ezu_at rfl) rfl rfl rfl rfl (ezs_m124_26_47 hI (by omega) (fun q h0 h1 => hzA q (by omega) (by omega))) ?_
    rintro _ _ ⟨⟨F, A, rfl, hI⟩, u8, hu8, rfl⟩
    exact ezw_ireturn rfl (ezw_zret ⟨by omega, by omega⟩) ⟨⟨F, A, rfl, hI⟩, _, ⟨by omega, by omega⟩, rfl⟩
  by_cases q9 : a2 = (4)
  · refine ezw_tableswitchE (v := 4) (p := 79) q9 rfl (by rfl) ?_
    refine ezw_aload_n rfl rfl ?_
    refine ezw_aload_n rfl rfl ?_
    refine ezw_iload_n rfl rfl ?_
    refine ezw_iload rfl rfl ?_
    refine ezw_call0_3 rfl (by omega) (ezu_at rfl) rfl rfl rfl rfl (ezs_m125_26_47 hI (by omega) (fun q h0 h1 => hzA q (by omega) (by omega)) ha3 ha4) ?_
    rintro _ _ ⟨⟨F, A, rfl, hI⟩, u10, hu10, rfl⟩
    exact ezw_ireturn rfl (ezw_zret ⟨by omega, by omega⟩) ⟨⟨F, A, rfl, hI⟩, _, ⟨by omega, by omega⟩, rfl⟩
  by_cases q11 : a2 = (5)
  · refine ezw_tableswitchE (v := 5) (p := 88) q11 rfl (by rfl) ?_
    refine ezw_aload_n rfl rfl ?_
    refine ezw_aload_n rfl rfl ?_
    refine ezw_iload_n rfl rfl ?_
    refine ezw_iconst (0) rfl rfl ?_
    refine ezw_call0_3 rfl (by omega) (ezu_at rfl) rfl rfl rfl rfl (ezs_m126_26_47 hI (by omega) (fun q h0 h1 => hzA q (by omega) (by omega)) ha3 ⟨by decide, by decide⟩) ?_
    rintro _ _ ⟨⟨F, A, rfl, hI⟩, u12, hu12, rfl⟩
    exact ezw_ireturn rfl (ezw_zret ⟨by omega, by omega⟩) ⟨⟨F, A, rfl, hI⟩, _, ⟨by omega, by omega⟩, rfl⟩
  by_cases q13 : a2 = (6)
  · refine ezw_tableswitchE (v := 6) (p := 96) q13 rfl (by rfl) ?_
    refine ezw_aload_n rfl rfl ?_
    refine ezw_aload_n rfl rfl ?_
    refine ezw_iload_n rfl rfl ?_
    refine ezw_iconst (1) rfl rfl ?_
    refine ezw_call0_3 rfl (by omega) (ezu_at rfl) rfl rfl rfl rfl (ezs_m126_26_47 hI (by omega) (fun q h0 h1 => hzA q (by omega) (by omega)) ha3 ⟨by decide, by decide⟩) ?_
    rintro _ _ ⟨⟨F, A, rfl, hI⟩, u14, hu14, rfl⟩
    exact ezw_ireturn rfl (ezw_zret ⟨by omega, by omega⟩) ⟨⟨F, A, rfl, hI⟩, _, ⟨by omega, by omega⟩, rfl⟩
  by_cases q15 : a2 = (7)
  · refine ezw_tableswitchE (v := 7) (p := 104) q15 rfl (by rfl) ?_
    refine ezw_aload_n rfl rfl ?_
    refine ezw_aload_n rfl rfl ?_
    refine ezw_iload_n rfl rfl ?_
    refine ezw_call0_2 rfl (by omega) (ezu_at rfl) rfl rfl rfl rfl (ezs_m128_26_47 hI (by omega) (fun q h0 h1 => hzA q (by omega) (by omega)) ha3) ?_
    rintro _ _ ⟨⟨F, A, rfl, hI⟩, u16, hu16, rfl⟩
    exact ezw_ireturn rfl (ezw_zret ⟨by omega, by omega⟩) ⟨⟨F, A, rfl, hI⟩, _, ⟨by omega, by omega⟩, rfl⟩
  refine ezw_tableswitch (p := 111) rfl (ezs_swd ha2 (And.intro (And.intro ⟨by decide, by decide⟩ (fun z => q1 z.symm)) (And.intro (And.intro ⟨by decide, by decide⟩ (fun z => q3 z.symm)) (And.intro (And.intro ⟨by decide, by decide⟩ (fun z => q5 z.symm)) (And.intro (And.intro ⟨by decide, by decide⟩ (fun z => q7 z.symm)) (And.intro (And.intro ⟨by decide, by decide⟩ (fun z => q9 z.symm)) (And.intro (And.intro ⟨by decide, by decide⟩ (fun z => q11 z.symm)) (And.intro (And.intro ⟨by decide, by decide⟩ (fun z => q13 z.symm)) (And.intro (And.intro ⟨by decide, by decide⟩ (fun z => q15 z.symm)) True.intro)))))))) rfl) ?_
  refine ezw_iconst (0) rfl rfl ?_
  exact ezw_ireturn rfl (ezw_zret ⟨by omega, by omega⟩) ⟨⟨F, A, rfl, hI⟩, _, ⟨by omega, by omega⟩, rfl⟩
theorem ezs_m143_26_47 {F : Nat → Nat → Int} {A : Nat → Int → Int} (hI : ezs_I fz F0 A0 F A) (hd : 2 ≤ d) : ezw_C l ρ B xa Hb D cA 143 d [ezw_p 26, ezw_p 47] (ezu_g e F A) (ezs_Pp e F A ezs_ri) := by
  refine ezw_met (k := 1) rfl rfl ?_
  refine ezw_aload_n rfl rfl ?_
  refine ezw_aload_n rfl rfl ?_
  refine ezs_get_i hI rfl rfl rfl rfl rfl rfl (fun u1 hu1 ku1 => ?_)
  refine ezw_call0_1 rfl (by omega) (ezu_at rfl) rfl rfl rfl rfl (ezs_m144_47 hI (by omega) hu1) ?_
  rintro _ _ ⟨rfl, u2, hu2, rfl⟩
  refine ezw_istore_n rfl rfl ?_
  refine ezw_aload_n rfl rfl ?_
  refine ezs_get_i hI rfl rfl rfl rfl rfl rfl (fun u3 hu3 ku3 => ?_)
  refine ezw_iconst (1) rfl rfl ?_
  refine ezw_icmp_ne rfl rfl hu3 ⟨by decide, by decide⟩ (fun h14_3 => ?_) (fun h14_3 => ?_)
  · refine ezw_iload_n rfl rfl ?_
    exact ezw_ireturn rfl rfl ⟨rfl, _, hu2, rfl⟩
  · refine ezw_aload_n rfl rfl ?_
    refine ezs_get_i hI rfl rfl rfl rfl rfl rfl (fun u4 hu4 ku4 => ?_)
    refine ezw_if_le rfl rfl hu4 (fun h21_4 => ?_) (fun h21_4 => ?_)
    · refine ezw_iload_n rfl rfl ?_
      exact ezw_ireturn rfl rfl ⟨rfl, _, hu2, rfl⟩
    · refine ezw_iload_n rfl rfl ?_
      refine ezw_aload_n rfl rfl ?_
      refine ezw_iconst (0) rfl rfl ?_
      refine ezw_call0_1 rfl (by omega) (ezu_at rfl) rfl rfl rfl rfl (ezs_m95_47 hI (by omega) ⟨by decide, by decide⟩) ?_
      rintro _ _ ⟨rfl, u5, hu5, rfl⟩
      refine ezs_iadd rfl (fun u6 hu6 => ?_)
      refine ezw_goto rfl rfl ?_
      exact ezw_ireturn rfl rfl ⟨rfl, _, hu6, rfl⟩
theorem ezs_m94_26_47 {F : Nat → Nat → Int} {A : Nat → Int → Int} (hI : ezs_I fz F0 A0 F A) (hd : 2 ≤ d) (hzA : ∀ q, 26 ≤ q → q < 27 → fz q = false) : ezw_C l ρ B xa Hb D cA 94 d [ezw_p 26, ezw_p 47] (ezu_g e F A) (ezs_P e fz F0 A0 ezs_rn) := by
  refine ezw_met (k := 0) rfl rfl ?_
  refine ezw_aload_n rfl rfl ?_
  refine ezw_iconst (1) rfl rfl ?_
  refine ezw_aload_n rfl rfl ?_
  refine ezs_get_i hI rfl rfl rfl rfl rfl rfl (fun u1 hu1 ku1 => ?_)
  refine ezw_ishlO rfl (fun u2 hu2 => ?_)
  refine ezw_iconst (1) rfl rfl ?_
  refine ezs_isub rfl (fun u3 hu3 => ?_)
  refine ezs_put_i hI rfl rfl rfl rfl rfl (hzA 26 (by decide) (by decide)) hu3 (fun F A hI => ?_)
  refine ezw_aload_n rfl rfl ?_
  refine ezw_iconst (0) rfl rfl ?_
  refine ezs_put_i hI rfl rfl rfl rfl rfl (hzA 26 (by decide) (by decide)) ⟨by decide, by decide⟩ (fun F A hI => ?_)
  refine ezw_aload_n rfl rfl ?_
  refine ezw_bipush (12) rfl rfl ?_
  refine ezs_put_i hI rfl rfl rfl rfl rfl (hzA 26 (by decide) (by decide)) ⟨by decide, by decide⟩ (fun F A hI => ?_)
  refine ezw_aload_n rfl rfl ?_
  refine ezw_aload_n rfl rfl ?_
  refine ezw_iconst (2) rfl rfl ?_
  refine ezw_call0_1 rfl (by omega) (ezu_at rfl) rfl rfl rfl rfl (ezs_m95_47 hI (by omega) ⟨by decide, by decide⟩) ?_
  rintro _ _ ⟨rfl, u4, hu4, rfl⟩
  refine ezs_put_i hI rfl rfl rfl rfl rfl (hzA 26 (by decide) (by decide)) ⟨by omega, by omega⟩ (fun F A hI => ?_)
  refine ezw_aload_n rfl rfl ?_
  refine ezw_aload_n rfl rfl ?_
  refine ezs_get_i hI rfl rfl rfl rfl rfl rfl (fun u5 hu5 ku5 => ?_)
  have J45_6 : ∀ y6 : Int, ezs_b y6 → ∀ F A, ezs_I fz F0 A0 F A → ezw_E l ρ B xa Hb D cA d ezq_re94 (ezs_P e fz F0 A0 ezs_rn) 45 [some (ezw_p 26), some (ezw_p 47)] [(ezw_i y6), (ezw_p 26)] (ezu_g e F A) := by
    intro y6 hy6 F A hI
    refine ezs_put_i hI rfl rfl rfl rfl rfl (hzA 26 (by decide) (by decide)) ⟨by omega, by omega⟩ (fun F A hI => ?_)
    refine ezw_aload_n rfl rfl ?_
    refine ezw_aload_n rfl rfl ?_
    refine ezw_iconst (1) rfl rfl ?_
    refine ezw_call0_1 rfl (by omega) (ezu_at rfl) rfl rfl rfl rfl (ezs_m95_47 hI (by omega) ⟨by decide, by decide⟩) ?_
    rintro _ _ ⟨rfl, u8, hu8, rfl⟩
    refine ezs_put_i hI rfl rfl rfl rfl rfl (hzA 26 (by decide) (by decide)) ⟨by omega, by omega⟩ (fun F A hI => ?_)
    refine ezw_aload_n rfl rfl ?_
    refine ezw_iconst (1) rfl rfl ?_
    refine ezw_aload_n rfl rfl ?_
    refine ezs_get_i hI rfl rfl rfl rfl rfl rfl (fun u9 hu9 ku9 => ?_)
    refine ezw_ishlO rfl (fun u10 hu10 => ?_)
    refine ezw_iconst (1) rfl rfl ?_
    refine ezs_isub rfl (fun u11 hu11 => ?_)
    refine ezs_put_i hI rfl rfl rfl rfl rfl (hzA 26 (by decide) (by decide)) hu11 (fun F A hI => ?_)
    exact ezw_return rfl rfl ⟨⟨F, A, rfl, hI⟩, rfl⟩
  refine ezw_if_le rfl rfl hu5 (fun h37_5 => ?_) (fun h37_5 => ?_)
  · refine ezw_iconst (1) rfl rfl ?_
    exact ezw_keepE [true, true] (J45_6 (1) ⟨by omega, by omega⟩ F A hI)
  · refine ezw_iconst (0) rfl rfl ?_
    refine ezw_goto rfl rfl ?_
    exact ezw_keepE [true, true] (J45_6 (0) ⟨by omega, by omega⟩ F A hI)
theorem ezs_m147_23_47_13 {F : Nat → Nat → Int} {A : Nat → Int → Int} (hI : ezs_I fz F0 A0 F A) (hd : 2 ≤ d) (hzA : ∀ q, 23 ≤ q → q < 26 → fz q = false) : ezw_C l ρ B xa Hb D cA 147 d [ezw_p 23, ezw_p 47, ezw_p 13] (ezu_g e F A) (ezs_P e fz F0 A0 ezs_rn) := by
  refine ezw_met (k := 2) rfl rfl ?_
  refine ezw_aload_n rfl rfl ?_
  refine ezw_aload_n rfl rfl ?_
  refine ezs_get_i hI rfl rfl rfl rfl rfl rfl (fun u1 hu1 ku1 => ?_)
  refine ezs_put_i hI rfl rfl rfl rfl rfl (hzA 23 (by decide) (by decide)) hu1 (fun F A hI => ?_)
  refine ezw_aload_n rfl rfl ?_
  refine ezw_aload_n rfl rfl ?_
  refine ezs_get_i hI rfl rfl rfl rfl rfl rfl (fun u2 hu2 ku2 => ?_)
  have J25_3 : ∀ y3 : Int, ezw_in y3 → ∀ F A, ezs_I fz F0 A0 F A → ezw_E l ρ B xa Hb D cA d ezq_re147 (ezs_P e fz F0 A0 ezs_rn) 25 [some (ezw_p 23), some (ezw_p 47), some (ezw_p 13), none, none] [(ezw_i y3), (ezw_p 23)] (ezu_g e F A) := by
    intro y3 hy3 F A hI
    refine ezs_put_i hI rfl rfl rfl rfl rfl (hzA 23 (by decide) (by decide)) hy3 (fun F A hI => ?_)
    refine ezw_iconst (0) rfl rfl ?_
    refine ezw_istore_n rfl rfl ?_
    refine ezw_iconst (0) rfl rfl ?_
    refine ezw_istore rfl rfl ?_
    have L33_6 : ∀ c6 : Int, ezw_in c6 → (0) ≤ c6 → ∀ y5 : Int, ezw_in y5 → ∀ F A, ezs_I fz F0 A0 F A → ezw_E l ρ B xa Hb D cA d ezq_re147 (ezs_P e fz F0 A0 ezs_rn) 33 [some (ezw_p 23), some (ezw_p 47), some (ezw_p 13), some (ezw_i y5), some (ezw_i c6)] [] (ezu_g e F A) := by
      refine ezs_up ?_
      intro c6 hc6 ihc6 gc6 y5 hy5 F A hI
      refine ezw_iload rfl rfl ?_
      refine ezw_bipush (6) rfl rfl ?_
      have J76_9 : ∀ y8 : Int, ezw_in y8 → ∀ y9 : Int, ezw_in y9 → ∀ F A, ezs_I fz F0 A0 F A → ezw_E l ρ B xa Hb D cA d ezq_re147 (ezs_P e fz F0 A0 ezs_rn) 76 [some (ezw_p 23), some (ezw_p 47), some (ezw_p 13), some (ezw_i y8), some (ezw_i y9)] [] (ezu_g e F A) := by
        intro y8 hy8 y9 hy9 F A hI
        refine ezw_aload_n rfl rfl ?_
        refine ezs_getp (p := 24) rfl rfl rfl rfl rfl ?_
        refine ezw_iconst (-1) rfl rfl ?_
        refine ezw_call2_2 rfl (by omega) rfl rfl (ezs_m26_24 hI (by omega) (fun q h0 h1 => hzA q (by omega) (by omega)) ⟨by decide, by decide⟩) ?_
        rintro _ _ ⟨⟨F, A, rfl, hI⟩, rfl⟩
        exact ezw_return rfl rfl ⟨⟨F, A, rfl, hI⟩, rfl⟩
      refine ezw_icmp_ge rfl rfl hc6 ⟨by decide, by decide⟩ (fun h37_7 => ?_) (fun h37_7 => ?_)
      · exact ezw_keepE [true, true, true, true, true] (J76_9 y5 hy5 c6 hc6 F A hI)
      · refine ezw_aload_n rfl rfl ?_
        refine ezs_get_i hI rfl rfl rfl rfl rfl rfl (fun u11 hu11 ku11 => ?_)
        refine ezw_iload rfl rfl ?_
        refine ezw_call3_2 rfl (by omega) rfl rfl (ezs_m49 hI (by omega) hu11 hc6) ?_
        rintro _ _ ⟨rfl, u12, hu12, rfl⟩
        refine ezw_iconst (1) rfl rfl ?_
        refine ezw_icmp_ne rfl rfl hu12 ⟨by decide, by decide⟩ (fun h50_12 => ?_) (fun h50_12 => ?_)
        · refine ezw_iinc (1) rfl rfl rfl rfl rfl ?_
          refine ezw_goto rfl rfl ?_
          exact ezw_keepE [true, true, true, true, true] (ihc6 (c6 + (1)) (by omega) ⟨by omega, by omega⟩ (by omega) y5 hy5 F A hI)
        · refine ezw_aload_n rfl rfl ?_
          refine ezs_getp (p := 25) rfl rfl rfl rfl rfl ?_
          refine ezw_iload_n rfl rfl ?_
          refine ezw_aload_n rfl rfl ?_
          refine ezw_iload rfl rfl ?_
          refine ezw_call0_1 rfl (by omega) (ezu_at rfl) rfl rfl rfl rfl (ezs_m108_47 hI (by omega) hc6) ?_
          rintro _ _ ⟨rfl, u13, hu13, rfl⟩
          refine ezw_call3_3 rfl (by omega) rfl rfl (ezs_m21_25 hI (by omega) (fun q h0 h1 => hzA q (by omega) (by omega)) hy5 hu13) ?_
          rintro _ _ ⟨⟨F, A, rfl, hI⟩, rfl⟩
          refine ezs_iincO (1) rfl rfl rfl rfl (fun u14 hu14 => ?_)
          refine ezw_iinc (1) rfl rfl rfl rfl rfl ?_
          refine ezw_goto rfl rfl ?_
          exact ezw_keepE [true, true, true, true, true] (ihc6 (c6 + (1)) (by omega) ⟨by omega, by omega⟩ (by omega) u14 hu14 F A hI)
    exact ezw_keepE [true, true, true, true, true] (L33_6 (0) ⟨by decide, by decide⟩ (by omega) (0) ⟨by decide, by decide⟩ F A hI)
  refine ezw_if_le rfl rfl hu2 (fun h13_2 => ?_) (fun h13_2 => ?_)
  · refine ezw_iconst (0) rfl rfl ?_
    exact ezw_keepE [true, true, true, false, false] (J25_3 (0) ⟨by decide, by decide⟩ F A hI)
  · refine ezw_aload_n rfl rfl ?_
    refine ezw_iconst (0) rfl rfl ?_
    refine ezw_call0_1 rfl (by omega) (ezu_at rfl) rfl rfl rfl rfl (ezs_m95_47 hI (by omega) ⟨by decide, by decide⟩) ?_
    rintro _ _ ⟨rfl, u15, hu15, rfl⟩
    refine ezw_goto rfl rfl ?_
    exact ezw_keepE [true, true, true, false, false] (J25_3 u15 ⟨by omega, by omega⟩ F A hI)
theorem ezs_m170_13_47 {a2 a3 : Int} {F : Nat → Nat → Int} {A : Nat → Int → Int} (hI : ezs_I fz F0 A0 F A) (hd : 2 ≤ d) (ha2 : ezw_in a2) (ha3 : ezw_in a3) : ezw_C l ρ B xa Hb D cA 170 d [ezw_p 13, ezw_p 47, ezw_i a2, ezw_i a3] (ezu_g e F A) (ezs_Pp e F A ezs_ri) := by
  refine ezw_met (k := 6) rfl rfl ?_
  refine ezw_aload_n rfl rfl ?_
  refine ezs_get_i hI rfl rfl rfl rfl rfl rfl (fun u1 hu1 ku1 => ?_)
  refine ezw_istore rfl rfl ?_
  refine ezw_iload_n rfl rfl ?_
  refine ezw_istore rfl rfl ?_
  refine ezw_iload_n rfl rfl ?_
  refine ezw_istore rfl rfl ?_
  refine ezw_iconst (0) rfl rfl ?_
  refine ezw_istore rfl rfl ?_
  have L15_5 : ∀ c5 : Int, ezw_in c5 → (0) ≤ c5 → ∀ y2 : Int, ezw_in y2 → ∀ y3 : Int, ezw_in y3 → ∀ y4 : Int, ezw_in y4 → ezw_E l ρ B xa Hb D cA d ezq_re170 (ezs_Pp e F A ezs_ri) 15 [some (ezw_p 13), some (ezw_p 47), some (ezw_i a2), some (ezw_i a3), some (ezw_i y2), some (ezw_i y3), some (ezw_i y4), some (ezw_i c5), none, none] [] (ezu_g e F A) := by
    refine ezs_up ?_
    intro c5 hc5 ihc5 gc5 y2 hy2 y3 hy3 y4 hy4 
    refine ezw_iload rfl rfl ?_
    refine ezw_bipush (6) rfl rfl ?_
    refine ezw_icmp_ge rfl rfl hc5 ⟨by decide, by decide⟩ (fun h19_6 => ?_) (fun h19_6 => ?_)
    · refine ezw_iload rfl rfl ?_
      exact ezw_ireturn rfl rfl ⟨rfl, _, hy2, rfl⟩
    · refine ezw_iload rfl rfl ?_
      refine ezw_if_eq rfl rfl hy2 (fun h24_6 => ?_) (fun h24_6 => ?_)
      · refine ezw_iload rfl rfl ?_
        exact ezw_ireturn rfl rfl ⟨rfl, _, hy2, rfl⟩
      · refine ezw_iload rfl rfl ?_
        refine ezw_call2_1 rfl (by omega) rfl rfl (ezs_m107 hI (by omega) hy2) ?_
        rintro _ _ ⟨rfl, u7, hu7, rfl⟩
        refine ezw_istore rfl rfl ?_
        refine ezw_aload_n rfl rfl ?_
        refine ezs_getp (p := 50) rfl rfl rfl rfl rfl ?_
        refine ezw_aload_n rfl rfl ?_
        refine ezw_iload rfl rfl ?_
        refine ezw_call0_1 rfl (by omega) (ezu_at rfl) rfl rfl rfl rfl (ezs_m108_47 hI (by omega) hu7) ?_
        rintro _ _ ⟨rfl, u8, hu8, rfl⟩
        refine ezw_call3_2 rfl (by omega) rfl rfl (ezs_m27_50 hI (by omega) hu8) ?_
        rintro _ _ ⟨rfl, u9, hu9, rfl⟩
        refine ezw_istore rfl rfl ?_
        refine ezw_iload rfl rfl ?_
        refine ezw_iload rfl rfl ?_
        refine ezw_iload rfl rfl ?_
        refine ezw_call3_2 rfl (by omega) rfl rfl (ezs_m114 hI (by omega) hy3 hu9) ?_
        rintro _ _ ⟨rfl, u10, hu10, rfl⟩
        refine ezs_isub rfl (fun u11 hu11 => ?_)
        refine ezw_istore rfl rfl ?_
        refine ezw_iload rfl rfl ?_
        refine ezw_if_ge rfl rfl hu11 (fun h63_11 => ?_) (fun h63_11 => ?_)
        · refine ezw_iload rfl rfl ?_
          refine ezw_iconst (1) rfl rfl ?_
          refine ezw_iload rfl rfl ?_
          refine ezw_ishlO rfl (fun u12 hu12 => ?_)
          refine ezw_iconst (-1) rfl rfl ?_
          refine ezs_ixor rfl (fun u13 hu13 => ?_)
          refine ezs_iand rfl (fun u14 hu14 => ?_)
          refine ezw_istore rfl rfl ?_
          refine ezw_iload rfl rfl ?_
          refine ezw_istore rfl rfl ?_
          refine ezw_iinc (1) rfl rfl rfl rfl rfl ?_
          refine ezw_goto rfl rfl ?_
          exact ezw_keepE [true, true, true, true, true, true, true, true, false, false] (ihc5 (c5 + (1)) (by omega) ⟨by omega, by omega⟩ (by omega) u14 hu14 u9 hu9 u11 hu11)
        · refine ezw_iload rfl rfl ?_
          exact ezw_ireturn rfl rfl ⟨rfl, _, hy2, rfl⟩
  exact ezw_keepE [true, true, true, true, true, true, true, true, false, false] (L15_5 (0) ⟨by decide, by decide⟩ (by omega) u1 hu1 a2 ha2 a3 ha3)
theorem ezs_m174_13_47 {F : Nat → Nat → Int} {A : Nat → Int → Int} (hI : ezs_I fz F0 A0 F A) (hd : 3 ≤ d) : ezw_C l ρ B xa Hb D cA 174 d [ezw_p 13, ezw_p 47] (ezu_g e F A) (ezs_Pp e F A ezs_ri) := by
  refine ezw_met (k := 3) rfl rfl ?_
  refine ezw_aload_n rfl rfl ?_
  refine ezs_get_i hI rfl rfl rfl rfl rfl rfl (fun u1 hu1 ku1 => ?_)
  refine ezw_istore_n rfl rfl ?_
  refine ezw_aload_n rfl rfl ?_
  refine ezs_get_i hI rfl rfl rfl rfl rfl rfl (fun u2 hu2 ku2 => ?_)
  refine ezw_istore_n rfl rfl ?_
  refine ezw_iconst (0) rfl rfl ?_
  refine ezw_istore rfl rfl ?_
  have L13_5 : ∀ c5 : Int, ezw_in c5 → (0) ≤ c5 → ∀ y3 : Int, ezw_in y3 → ∀ y4 : Int, ezw_in y4 → ezw_E l ρ B xa Hb D cA d ezq_re174 (ezs_Pp e F A ezs_ri) 13 [some (ezw_p 13), some (ezw_p 47), some (ezw_i y3), some (ezw_i y4), some (ezw_i c5)] [] (ezu_g e F A) := by
    refine ezs_up ?_
    intro c5 hc5 ihc5 gc5 y3 hy3 y4 hy4 
    refine ezw_iload rfl rfl ?_
    refine ezw_sipush (240) rfl rfl ?_
    refine ezw_icmp_gt rfl rfl hc5 ⟨by decide, by decide⟩ (fun h18_6 => ?_) (fun h18_6 => ?_)
    · refine ezw_iconst (-1) rfl rfl ?_
      exact ezw_ireturn rfl rfl ⟨rfl, _, ⟨by decide, by decide⟩, rfl⟩
    · refine ezw_iload_n rfl rfl ?_
      refine ezw_if_gt rfl rfl hy4 (fun h22_6 => ?_) (fun h22_6 => ?_)
      · refine ezw_iload_n rfl rfl ?_
        refine ezw_iconst (1) rfl rfl ?_
        refine ezs_iadd rfl (fun u7 hu7 => ?_)
        refine ezw_bipush (24) rfl rfl ?_
        refine ezs_irem rfl hu7 ⟨by decide, by decide⟩ (by omega) (fun u8 hu8 => ?_)
        refine ezw_istore_n rfl rfl ?_
        refine ezw_aload_n rfl rfl ?_
        refine ezw_iload_n rfl rfl ?_
        refine ezw_iload_n rfl rfl ?_
        refine ezw_call2_3 rfl (by omega) rfl rfl (ezs_m129_47 hI (by omega) hu8 hy4) ?_
        rintro _ _ ⟨rfl, u9, hu9, rfl⟩
        refine ezw_istore_n rfl rfl ?_
        refine ezw_iinc (1) rfl rfl rfl rfl rfl ?_
        refine ezw_goto rfl rfl ?_
        exact ezw_keepE [true, true, true, true, true] (ihc5 (c5 + (1)) (by omega) ⟨by omega, by omega⟩ (by omega) u8 hu8 u9 hu9)
      · refine ezw_iload rfl rfl ?_
        exact ezw_ireturn rfl rfl ⟨rfl, _, hc5, rfl⟩
  exact ezw_keepE [true, true, true, true, true] (L13_5 (0) ⟨by decide, by decide⟩ (by omega) u1 hu1 u2 hu2)
theorem ezs_m175_13_47 {a2 : Int} {F : Nat → Nat → Int} {A : Nat → Int → Int} (hI : ezs_I fz F0 A0 F A) (hd : 2 ≤ d) (hzA : ∀ q, 14 ≤ q → q < 16 → fz q = false) (ha2 : ezw_in a2) : ezw_C l ρ B xa Hb D cA 175 d [ezw_p 13, ezw_p 47, ezw_i a2] (ezu_g e F A) (ezs_P e fz F0 A0 ezs_rn) := by
  refine ezw_met (k := 4) rfl rfl ?_
  refine ezw_aload_n rfl rfl ?_
  refine ezw_iconst (3) rfl rfl ?_
  refine ezw_call0_1 rfl (by omega) (ezu_at rfl) rfl rfl rfl rfl (ezs_m95_47 hI (by omega) ⟨by decide, by decide⟩) ?_
  rintro _ _ ⟨rfl, u1, hu1, rfl⟩
  refine ezw_istore_n rfl rfl ?_
  refine ezw_aload_n rfl rfl ?_
  refine ezw_iconst (4) rfl rfl ?_
  refine ezw_call0_1 rfl (by omega) (ezu_at rfl) rfl rfl rfl rfl (ezs_m95_47 hI (by omega) ⟨by decide, by decide⟩) ?_
  rintro _ _ ⟨rfl, u2, hu2, rfl⟩
  refine ezw_istore rfl rfl ?_
  refine ezw_iconst (0) rfl rfl ?_
  refine ezw_istore rfl rfl ?_
  have L16_3 : ∀ c3 : Int, ezw_in c3 → (0) ≤ c3 → ∀ F A, ezs_I fz F0 A0 F A → ezw_E l ρ B xa Hb D cA d ezq_re175 (ezs_P e fz F0 A0 ezs_rn) 16 [some (ezw_p 13), some (ezw_p 47), some (ezw_i a2), some (ezw_i u1), some (ezw_i u2), some (ezw_i c3), none] [] (ezu_g e F A) := by
    refine ezs_up ?_
    intro c3 hc3 ihc3 gc3 F A hI
    refine ezw_iload rfl rfl ?_
    refine ezw_iconst (4) rfl rfl ?_
    have J107_5 : ∀ y5 : Int, ezw_in y5 → ∀ F A, ezs_I fz F0 A0 F A → ezw_E l ρ B xa Hb D cA d ezq_re175 (ezs_P e fz F0 A0 ezs_rn) 107 [some (ezw_p 13), some (ezw_p 47), some (ezw_i a2), some (ezw_i u1), some (ezw_i u2), some (ezw_i y5), none] [] (ezu_g e F A) := by
      intro y5 hy5 F A hI
      refine ezw_iconst (0) rfl rfl ?_
      refine ezw_istore rfl rfl ?_
      have L110_7 : ∀ c7 : Int, ezw_in c7 → (0) ≤ c7 → ∀ F A, ezs_I fz F0 A0 F A → ezw_E l ρ B xa Hb D cA d ezq_re175 (ezs_P e fz F0 A0 ezs_rn) 110 [some (ezw_p 13), some (ezw_p 47), some (ezw_i a2), some (ezw_i u1), some (ezw_i u2), some (ezw_i c7), none] [] (ezu_g e F A) := by
        refine ezs_up ?_
        intro c7 hc7 ihc7 gc7 F A hI
        refine ezw_iload rfl rfl ?_
        refine ezw_iconst (4) rfl rfl ?_
        refine ezw_icmp_ge rfl rfl hc7 ⟨by decide, by decide⟩ (fun h113_8 => ?_) (fun h113_8 => ?_)
        · exact ezw_return rfl rfl ⟨⟨F, A, rfl, hI⟩, rfl⟩
        · refine ezw_aload_n rfl rfl ?_
          refine ezs_getp (p := 14) rfl rfl rfl rfl rfl ?_
          refine ezw_iload rfl rfl ?_
          refine ezw_aload_n rfl rfl ?_
          refine ezs_getp (p := 15) rfl rfl rfl rfl rfl ?_
          refine ezw_iload rfl rfl ?_
          refine ezw_call3_2 rfl (by omega) rfl rfl (ezs_m27_15 hI (by omega) hc7) ?_
          rintro _ _ ⟨rfl, u9, hu9, rfl⟩
          refine ezw_call3_3 rfl (by omega) rfl rfl (ezs_m21_14 hI (by omega) (fun q h0 h1 => hzA q (by omega) (by omega)) hc7 hu9) ?_
          rintro _ _ ⟨⟨F, A, rfl, hI⟩, rfl⟩
          refine ezw_iinc (1) rfl rfl rfl rfl rfl ?_
          refine ezw_goto rfl rfl ?_
          exact ezw_keepE [true, true, true, true, true, true, false] (ihc7 (c7 + (1)) (by omega) ⟨by omega, by omega⟩ (by omega)  F A hI)
      exact ezw_keepE [true, true, true, true, true, true, false] (L110_7 (0) ⟨by decide, by decide⟩ (by omega)  F A hI)
    refine ezw_icmp_ge rfl rfl hc3 ⟨by decide, by decide⟩ (fun h19_4 => ?_) (fun h19_4 => ?_)
    · exact ezw_keepE [true, true, true, true, true, true, false] (J107_5 c3 hc3 F A hI)
    · refine ezw_iload_n rfl rfl ?_
      refine ezw_aload_n rfl rfl ?_
      refine ezs_getp (p := 14) rfl rfl rfl rfl rfl ?_
      refine ezw_iload rfl rfl ?_
      refine ezw_iconst (1) rfl rfl ?_
      refine ezs_iadd rfl (fun u10 hu10 => ?_)
      refine ezw_iconst (4) rfl rfl ?_
      refine ezs_irem rfl hu10 ⟨by decide, by decide⟩ (by omega) (fun u11 hu11 => ?_)
      refine ezw_call3_2 rfl (by omega) rfl rfl (ezs_m27_14 hI (by omega) hu11) ?_
      rintro _ _ ⟨rfl, u12, hu12, rfl⟩
      refine ezs_imul rfl (fun u13 hu13 => ?_)
      refine ezw_iload rfl rfl ?_
      refine ezw_aload_n rfl rfl ?_
      refine ezs_getp (p := 14) rfl rfl rfl rfl rfl ?_
      refine ezw_iload rfl rfl ?_
      refine ezw_iconst (4) rfl rfl ?_
      refine ezs_iadd rfl (fun u14 hu14 => ?_)
      refine ezw_iconst (1) rfl rfl ?_
      refine ezs_isub rfl (fun u15 hu15 => ?_)
      refine ezw_iconst (4) rfl rfl ?_
      refine ezs_irem rfl hu15 ⟨by decide, by decide⟩ (by omega) (fun u16 hu16 => ?_)
      refine ezw_call3_2 rfl (by omega) rfl rfl (ezs_m27_14 hI (by omega) hu16) ?_
      rintro _ _ ⟨rfl, u17, hu17, rfl⟩
      refine ezs_imul rfl (fun u18 hu18 => ?_)
      refine ezs_iadd rfl (fun u19 hu19 => ?_)
      refine ezw_bipush (10) rfl rfl ?_
      refine ezw_iload_n rfl rfl ?_
      refine ezs_isub rfl (fun u20 hu20 => ?_)
      refine ezw_iload rfl rfl ?_
      refine ezs_isub rfl (fun u21 hu21 => ?_)
      refine ezw_aload_n rfl rfl ?_
      refine ezs_getp (p := 14) rfl rfl rfl rfl rfl ?_
      refine ezw_iload rfl rfl ?_
      refine ezw_call3_2 rfl (by omega) rfl rfl (ezs_m27_14 hI (by omega) hc3) ?_
      rintro _ _ ⟨rfl, u22, hu22, rfl⟩
      refine ezs_imul rfl (fun u23 hu23 => ?_)
      refine ezs_iadd rfl (fun u24 hu24 => ?_)
      refine ezw_bipush (10) rfl rfl ?_
      refine ezs_idiv rfl hu24 ⟨by decide, by decide⟩ (by omega) (fun u25 hu25 => ?_)
      refine ezw_istore rfl rfl ?_
      refine ezw_aload_n rfl rfl ?_
      refine ezs_getp (p := 15) rfl rfl rfl rfl rfl ?_
      refine ezw_iload rfl rfl ?_
      refine ezw_iload rfl rfl ?_
      refine ezw_iload_n rfl rfl ?_
      refine ezw_icmp_ne rfl rfl hc3 ha2 (fun h88_25 => ?_) (fun h88_25 => ?_)
      · refine ezw_iload rfl rfl ?_
        refine ezw_call3_3 rfl (by omega) rfl rfl (ezs_m21_15 hI (by omega) (fun q h0 h1 => hzA q (by omega) (by omega)) hc3 hu25) ?_
        rintro _ _ ⟨⟨F, A, rfl, hI⟩, rfl⟩
        refine ezw_iinc (1) rfl rfl rfl rfl rfl ?_
        refine ezw_goto rfl rfl ?_
        exact ezw_keepE [true, true, true, true, true, true, false] (ihc3 (c3 + (1)) (by omega) ⟨by omega, by omega⟩ (by omega)  F A hI)
      · refine ezw_ldc (1000000) rfl rfl ?_
        refine ezw_goto rfl rfl ?_
        refine ezw_call3_3 rfl (by omega) rfl rfl (ezs_m21_15 hI (by omega) (fun q h0 h1 => hzA q (by omega) (by omega)) hc3 ⟨by decide, by decide⟩) ?_
        rintro _ _ ⟨⟨F, A, rfl, hI⟩, rfl⟩
        refine ezw_iinc (1) rfl rfl rfl rfl rfl ?_
        refine ezw_goto rfl rfl ?_
        exact ezw_keepE [true, true, true, true, true, true, false] (ihc3 (c3 + (1)) (by omega) ⟨by omega, by omega⟩ (by omega)  F A hI)
  exact ezw_keepE [true, true, true, true, true, true, false] (L16_3 (0) ⟨by decide, by decide⟩ (by omega)  F A hI)
theorem ezs_m173_13_47 {a2 a3 : Int} {F : Nat → Nat → Int} {A : Nat → Int → Int} (hI : ezs_I fz F0 A0 F A) (hd : 4 ≤ d) (hzA : ∀ q, 14 ≤ q → q < 16 → fz q = false) (ha2 : ezw_in a2) (ha3 : ezw_in a3) : ezw_C l ρ B xa Hb D cA 173 d [ezw_p 13, ezw_p 47, ezw_i a2, ezw_i a3] (ezu_g e F A) (ezs_P e fz F0 A0 ezs_ri) := by
  refine ezw_met (k := 3) rfl rfl ?_
  refine ezw_aload_n rfl rfl ?_
  refine ezw_aload_n rfl rfl ?_
  refine ezw_call0_1 rfl (by omega) (ezu_at rfl) rfl rfl rfl rfl (ezs_m174_13_47 hI (by omega)) ?_
  rintro _ _ ⟨rfl, u1, hu1, rfl⟩
  refine ezw_istore rfl rfl ?_
  refine ezw_iload rfl rfl ?_
  refine ezw_if_ne rfl rfl hu1 (fun h9_1 => ?_) (fun h9_1 => ?_)
  · refine ezw_iload rfl rfl ?_
    refine ezw_iconst (-1) rfl rfl ?_
    have J32_2 : ∀ y2 : Int, ezw_in y2 → ∀ F A, ezs_I fz F0 A0 F A → ezw_E l ρ B xa Hb D cA d ezq_re173 (ezs_P e fz F0 A0 ezs_ri) 32 [some (ezw_p 13), some (ezw_p 47), some (ezw_i a2), some (ezw_i a3), some (ezw_i u1), none, none] [(ezw_i y2)] (ezu_g e F A) := by
      intro y2 hy2 F A hI
      refine ezw_istore rfl rfl ?_
      refine ezw_iconst (0) rfl rfl ?_
      refine ezw_istore rfl rfl ?_
      have L37_4 : ∀ c4 : Int, ezw_in c4 → (0) ≤ c4 → ∀ F A, ezs_I fz F0 A0 F A → ezw_E l ρ B xa Hb D cA d ezq_re173 (ezs_P e fz F0 A0 ezs_ri) 37 [some (ezw_p 13), some (ezw_p 47), some (ezw_i a2), some (ezw_i a3), some (ezw_i u1), some (ezw_i y2), some (ezw_i c4)] [] (ezu_g e F A) := by
        refine ezs_up ?_
        intro c4 hc4 ihc4 gc4 F A hI
        refine ezw_iload rfl rfl ?_
        refine ezw_iconst (4) rfl rfl ?_
        have J70_6 : ∀ y6 : Int, ezw_in y6 → ∀ F A, ezs_I fz F0 A0 F A → ezw_E l ρ B xa Hb D cA d ezq_re173 (ezs_P e fz F0 A0 ezs_ri) 70 [some (ezw_p 13), some (ezw_p 47), some (ezw_i a2), some (ezw_i a3), some (ezw_i u1), some (ezw_i y2), some (ezw_i y6)] [] (ezu_g e F A) := by
          intro y6 hy6 F A hI
          refine ezw_iconst (0) rfl rfl ?_
          refine ezw_istore rfl rfl ?_
          have L73_8 : ∀ c8 : Int, ezw_in c8 → (0) ≤ c8 → ∀ F A, ezs_I fz F0 A0 F A → ezw_E l ρ B xa Hb D cA d ezq_re173 (ezs_P e fz F0 A0 ezs_ri) 73 [some (ezw_p 13), some (ezw_p 47), some (ezw_i a2), some (ezw_i a3), some (ezw_i u1), some (ezw_i y2), some (ezw_i c8)] [] (ezu_g e F A) := by
            refine ezs_up ?_
            intro c8 hc8 ihc8 gc8 F A hI
            refine ezw_iload rfl rfl ?_
            refine ezw_iload rfl rfl ?_
            have J92_10 : ∀ y10 : Int, ezw_in y10 → ∀ F A, ezs_I fz F0 A0 F A → ezw_E l ρ B xa Hb D cA d ezq_re173 (ezs_P e fz F0 A0 ezs_ri) 92 [some (ezw_p 13), some (ezw_p 47), some (ezw_i a2), some (ezw_i a3), some (ezw_i u1), some (ezw_i y2), some (ezw_i y10)] [] (ezu_g e F A) := by
              intro y10 hy10 F A hI
              refine ezw_aload_n rfl rfl ?_
              refine ezs_getp (p := 14) rfl rfl rfl rfl rfl ?_
              refine ezw_aload_n rfl rfl ?_
              refine ezs_get_i hI rfl rfl rfl rfl rfl rfl (fun u12 hu12 ku12 => ?_)
              refine ezw_call3_2 rfl (by omega) rfl rfl (ezs_m27_14 hI (by omega) hu12) ?_
              rintro _ _ ⟨rfl, u13, hu13, rfl⟩
              exact ezw_ireturn rfl rfl ⟨⟨F, A, rfl, hI⟩, _, hu13, rfl⟩
            refine ezw_icmp_ge rfl rfl hc8 hy2 (fun h77_9 => ?_) (fun h77_9 => ?_)
            · exact ezw_keepE [true, true, true, true, true, true, true] (J92_10 c8 hc8 F A hI)
            · refine ezw_aload_n rfl rfl ?_
              refine ezw_aload_n rfl rfl ?_
              refine ezw_iload_n rfl rfl ?_
              refine ezw_call0_2 rfl (by omega) (ezu_at rfl) rfl rfl rfl rfl (ezs_m175_13_47 hI (by omega) (fun q h0 h1 => hzA q (by omega) (by omega)) ha2) ?_
              rintro _ _ ⟨⟨F, A, rfl, hI⟩, rfl⟩
              refine ezw_iinc (1) rfl rfl rfl rfl rfl ?_
              refine ezw_goto rfl rfl ?_
              exact ezw_keepE [true, true, true, true, true, true, true] (ihc8 (c8 + (1)) (by omega) ⟨by omega, by omega⟩ (by omega)  F A hI)
          exact ezw_keepE [true, true, true, true, true, true, true] (L73_8 (0) ⟨by decide, by decide⟩ (by omega)  F A hI)
        refine ezw_icmp_ge rfl rfl hc4 ⟨by decide, by decide⟩ (fun h40_5 => ?_) (fun h40_5 => ?_)
        · exact ezw_keepE [true, true, true, true, true, true, true] (J70_6 c4 hc4 F A hI)
        · refine ezw_aload_n rfl rfl ?_
          refine ezs_getp (p := 14) rfl rfl rfl rfl rfl ?_
          refine ezw_iload rfl rfl ?_
          refine ezw_iload rfl rfl ?_
          refine ezw_iload_n rfl rfl ?_
          refine ezw_icmp_ne rfl rfl hc4 ha2 (fun h52_13 => ?_) (fun h52_13 => ?_)
          · refine ezw_iconst (0) rfl rfl ?_
            refine ezw_call3_3 rfl (by omega) rfl rfl (ezs_m21_14 hI (by omega) (fun q h0 h1 => hzA q (by omega) (by omega)) hc4 ⟨by decide, by decide⟩) ?_
            rintro _ _ ⟨⟨F, A, rfl, hI⟩, rfl⟩
            refine ezw_iinc (1) rfl rfl rfl rfl rfl ?_
            refine ezw_goto rfl rfl ?_
            exact ezw_keepE [true, true, true, true, true, true, true] (ihc4 (c4 + (1)) (by omega) ⟨by omega, by omega⟩ (by omega)  F A hI)
          · refine ezw_ldc (1000000) rfl rfl ?_
            refine ezw_goto rfl rfl ?_
            refine ezw_call3_3 rfl (by omega) rfl rfl (ezs_m21_14 hI (by omega) (fun q h0 h1 => hzA q (by omega) (by omega)) hc4 ⟨by decide, by decide⟩) ?_
            rintro _ _ ⟨⟨F, A, rfl, hI⟩, rfl⟩
            refine ezw_iinc (1) rfl rfl rfl rfl rfl ?_
            refine ezw_goto rfl rfl ?_
            exact ezw_keepE [true, true, true, true, true, true, true] (ihc4 (c4 + (1)) (by omega) ⟨by omega, by omega⟩ (by omega)  F A hI)
      exact ezw_keepE [true, true, true, true, true, true, true] (L37_4 (0) ⟨by decide, by decide⟩ (by omega)  F A hI)
    refine ezw_icmp_ne rfl rfl hu1 ⟨by decide, by decide⟩ (fun h17_1 => ?_) (fun h17_1 => ?_)
    · refine ezw_iload_n rfl rfl ?_
      refine ezw_iload rfl rfl ?_
      refine ezw_iconst (1) rfl rfl ?_
      refine ezs_isub rfl (fun u14 hu14 => ?_)
      refine ezw_mminE rfl ha3 hu14 rfl (fun u15 hu15 => ?_)
      exact ezw_keepE [true, true, true, true, true, false, false] (J32_2 u15 ⟨by omega, by omega⟩ F A hI)
    · refine ezw_iload_n rfl rfl ?_
      refine ezw_goto rfl rfl ?_
      exact ezw_keepE [true, true, true, true, true, false, false] (J32_2 a3 ha3 F A hI)
  · refine ezw_iconst (0) rfl rfl ?_
    exact ezw_ireturn rfl rfl ⟨⟨F, A, rfl, hI⟩, _, ⟨by decide, by decide⟩, rfl⟩
end KM
