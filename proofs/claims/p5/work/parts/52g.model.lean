/-! ===== the model: the tree and the afternoon ===== -/
section KM6
variable {l : Launch} {ρ : ezq_E} {B : Nat} {xa : Nat → Option Nat} {Hb : Heap} {D : va_G} {cA : Nat → ClassId} {d : Nat} {e : Bool × Bool} {F : Nat → Nat → Int} {A : Nat → Int → Int} {i0 i2 i3 i7 i8 i13 i18 i19 i20 i25 i29 i30 i31 i36 i37 i38 : Int} {r73 r74 r75 r76 r77 r78 r79 r80 r81 r82 r83 r84 r85 r86 r87 r88 r89 r90 r91 r92 r93 r94 r95 : Int → Int}
def ezm_m255Q (e : Bool × Bool) (F : Nat → Nat → Int) (A : Nat → Int → Int) (i0 i2 i3 i7 i8 i13 i18 i19 i20 i25 i29 i30 i31 i36 i37 i38 : Int) (r73 r74 r75 r76 r77 r78 r79 r80 r81 r82 r83 r84 r85 r86 r87 r88 r89 r90 r91 r92 r93 r94 r95 : Int → Int) (n : Int) (a1 : Int) (a2 : Int) : Option ezq_V → (Nat → ezq_C) → Prop := fun v g' => ∃ (x7 x8 : Int) (x85 : Int → Int), ezm_h e F A i0 i2 i3 x7 x8 i13 i18 i19 i20 i25 i29 i30 i31 i36 i37 i38 r73 r74 r75 r76 r77 r78 r79 r80 r81 r82 r83 r84 x85 r86 r87 r88 r89 r90 r91 r92 r93 r94 r95 = g' ∧ ezm_T i0 i2 i3 x7 x8 i13 i18 i19 i20 i25 i29 i30 i31 i36 i37 i38 r73 r74 r75 r76 r77 r78 r79 r80 r81 r82 r83 r84 x85 r86 r87 r88 r89 r90 r91 r92 r93 r94 r95 ∧ (i7 ≤ x7 ∧ x7 ≤ n) ∧ (i8 ≠ 0 → x8 ≠ 0) ∧ none = v
theorem ezm_m255 {n a1 a2 : Int} (hT : ezm_T i0 i2 i3 i7 i8 i13 i18 i19 i20 i25 i29 i30 i31 i36 i37 i38 r73 r74 r75 r76 r77 r78 r79 r80 r81 r82 r83 r84 r85 r86 r87 r88 r89 r90 r91 r92 r93 r94 r95) (hd : 5 ≤ d) (ha1 : ezw_in a1) (ha2 : ezw_in a2) (hn : 0 ≤ i7 ∧ i7 ≤ n) (hs : r74 n = 0) (h1 : n ≤ 1000) (ga : 0 ≤ a1 ∧ a1 ≤ 6) (gb : 1 ≤ a2 ∧ a2 ≤ 207) : ezw_C l ρ B xa Hb D cA 255 d [ezw_p 72, ezw_i a1, ezw_i a2] (ezm_h e F A i0 i2 i3 i7 i8 i13 i18 i19 i20 i25 i29 i30 i31 i36 i37 i38 r73 r74 r75 r76 r77 r78 r79 r80 r81 r82 r83 r84 r85 r86 r87 r88 r89 r90 r91 r92 r93 r94 r95) (ezm_m255Q  e F A i0 i2 i3 i7 i8 i13 i18 i19 i20 i25 i29 i30 i31 i36 i37 i38 r73 r74 r75 r76 r77 r78 r79 r80 r81 r82 r83 r84 r85 r86 r87 r88 r89 r90 r91 r92 r93 r94 r95 n a1 a2) := by
  refine ezw_met (k := 0) rfl rfl ?_
  refine ezw_iload_n rfl rfl ?_
  refine ezw_if_ne rfl rfl ha1 (fun h1_0 => ?_) (fun h1_0 => ?_)
  · refine ezw_iload_n rfl rfl ?_
    refine ezw_iconst (3) rfl rfl ?_
    refine ezw_icmp_ne rfl rfl ha1 ⟨by decide, by decide⟩ (fun h52_0 => ?_) (fun h52_0 => ?_)
    · refine ezw_iload_n rfl rfl ?_
      refine ezw_iconst (4) rfl rfl ?_
      refine ezw_icmp_eq rfl rfl ha1 ⟨by decide, by decide⟩ (fun h142_0 => ?_) (fun h142_0 => ?_)
      · refine ezw_aload_n rfl rfl ?_
        refine ezm_gp (p := 85) rfl (fun _ => rfl) ?_
        refine ezw_iload_n rfl rfl ?_
        refine ezw_aload_n rfl rfl ?_
        refine ezw_iconst (0) rfl rfl ?_
        refine ezw_iconst (0) rfl rfl ?_
        refine ezw_bipush (8) rfl rfl ?_
        refine ezw_call0_3 rfl (by omega) (ezm_at rfl) rfl rfl rfl rfl (ezm_m239_v0 hT (by omega) ⟨by decide, by decide⟩ ⟨by decide, by decide⟩ (by omega) hs (by omega) (by omega) (by omega)) ?_
        rintro _ _ ⟨x7_1, x8_1, rfl, hT, u2, hu2, p1_0, p1_1, p1_2, rfl⟩
        have k3 := hT.t7
        have k4 := hT.t8
        refine ezm_s85 hT rfl (by omega) (by omega) ⟨by omega, by omega⟩ (fun r85_5 hT er85_5 fr85_5 => ?_)
        refine ezw_goto rfl rfl ?_
        exact ezw_return rfl rfl ⟨x7_1, x8_1, r85_5, rfl, hT, by omega, by omega, rfl⟩
      · refine ezw_iload_n rfl rfl ?_
        refine ezw_iconst (5) rfl rfl ?_
        refine ezw_icmp_ne rfl rfl ha1 ⟨by decide, by decide⟩ (fun h147_5 => ?_) (fun h147_5 => ?_)
        · refine ezw_iload_n rfl rfl ?_
          refine ezw_bipush (6) rfl rfl ?_
          refine ezw_icmp_ne rfl rfl ha1 ⟨by decide, by decide⟩ (fun h170_5 => ?_) (fun h170_5 => ?_)
          · exact ezw_return rfl rfl ⟨i7, i8, r85, rfl, hT, by omega, by omega, rfl⟩
          · refine ezw_aload_n rfl rfl ?_
            refine ezm_gp (p := 85) rfl (fun _ => rfl) ?_
            refine ezw_iload_n rfl rfl ?_
            refine ezw_aload_n rfl rfl ?_
            refine ezw_bipush (30) rfl rfl ?_
            refine ezw_iconst (4) rfl rfl ?_
            refine ezw_call0_2 rfl (by omega) (ezm_at rfl) rfl rfl rfl rfl (ezm_m234 hT (by omega) ⟨by decide, by decide⟩ ⟨by decide, by decide⟩ (by omega) hs (by omega) (by omega)) ?_
            rintro _ _ ⟨x7_6, x8_6, rfl, hT, u7, hu7, p6_0, p6_1, p6_2, rfl⟩
            have k8 := hT.t7
            have k9 := hT.t8
            refine ezm_s85 hT rfl (by omega) (by omega) ⟨by omega, by omega⟩ (fun r85_10 hT er85_10 fr85_10 => ?_)
            exact ezw_return rfl rfl ⟨x7_6, x8_6, r85_10, rfl, hT, by omega, by omega, rfl⟩
        · refine ezw_aload_n rfl rfl ?_
          refine ezm_gp (p := 85) rfl (fun _ => rfl) ?_
          refine ezw_iload_n rfl rfl ?_
          refine ezw_aload_n rfl rfl ?_
          refine ezw_iconst (0) rfl rfl ?_
          refine ezw_iconst (0) rfl rfl ?_
          refine ezw_bipush (8) rfl rfl ?_
          refine ezw_call0_3 rfl (by omega) (ezm_at rfl) rfl rfl rfl rfl (ezm_m239_v0 hT (by omega) ⟨by decide, by decide⟩ ⟨by decide, by decide⟩ (by omega) hs (by omega) (by omega) (by omega)) ?_
          rintro _ _ ⟨x7_11, x8_11, rfl, hT, u12, hu12, p11_0, p11_1, p11_2, rfl⟩
          have k13 := hT.t7
          have k14 := hT.t8
          refine ezm_s85 hT rfl (by omega) (by omega) ⟨by omega, by omega⟩ (fun r85_15 hT er85_15 fr85_15 => ?_)
          refine ezw_goto rfl rfl ?_
          exact ezw_return rfl rfl ⟨x7_11, x8_11, r85_15, rfl, hT, by omega, by omega, rfl⟩
    · refine ezw_aload_n rfl rfl ?_
      refine ezm_gp (p := 85) rfl (fun _ => rfl) ?_
      refine ezw_iload_n rfl rfl ?_
      refine ezw_aload_n rfl rfl ?_
      refine ezw_iconst (0) rfl rfl ?_
      refine ezw_bipush (20) rfl rfl ?_
      refine ezw_iconst (4) rfl rfl ?_
      refine ezw_call0_3 rfl (by omega) (ezm_at rfl) rfl rfl rfl rfl (ezm_m239_v0 hT (by omega) ⟨by decide, by decide⟩ ⟨by decide, by decide⟩ (by omega) hs (by omega) (by omega) (by omega)) ?_
      rintro _ _ ⟨x7_16, x8_16, rfl, hT, u17, hu17, p16_0, p16_1, p16_2, rfl⟩
      have k18 := hT.t7
      have k19 := hT.t8
      refine ezm_s85 hT rfl (by omega) (by omega) ⟨by omega, by omega⟩ (fun r85_20 hT er85_20 fr85_20 => ?_)
      refine ezw_aload_n rfl rfl ?_
      refine ezm_gp (p := 85) rfl (fun _ => rfl) ?_
      refine ezw_iload_n rfl rfl ?_
      refine ezw_iconst (1) rfl rfl ?_
      refine ezw_iadd (k := a2 + 1) rfl (by omega) ?_
      refine ezw_aload_n rfl rfl ?_
      refine ezm_g8 rfl ?_
      refine ezw_if_ne rfl rfl ⟨by omega, by omega⟩ (fun h80_20 => ?_) (fun h80_20 => ?_)
      · refine ezw_aload_n rfl rfl ?_
        refine ezw_bipush (39) rfl rfl ?_
        refine ezw_iconst (2) rfl rfl ?_
        refine ezw_call0_2 rfl (by omega) (ezm_at rfl) rfl rfl rfl rfl (ezm_m234 hT (by omega) ⟨by decide, by decide⟩ ⟨by decide, by decide⟩ (by omega) hs (by omega) (by omega)) ?_
        rintro _ _ ⟨x7_21, x8_21, rfl, hT, u22, hu22, p21_0, p21_1, p21_2, rfl⟩
        have k23 := hT.t7
        have k24 := hT.t8
        refine ezm_s85 hT rfl (by omega) (by omega) ⟨by omega, by omega⟩ (fun r85_25 hT er85_25 fr85_25 => ?_)
        refine ezw_aload_n rfl rfl ?_
        refine ezw_dup rfl rfl ?_
        refine ezm_g7 rfl ?_
        refine ezw_aload_n rfl rfl ?_
        refine ezm_g8 rfl ?_
        refine ezw_if_ne rfl rfl ⟨by omega, by omega⟩ (fun h113_25 => ?_) (fun h113_25 => ?_)
        · refine ezw_iconst (0) rfl rfl ?_
          refine ezw_iadd (k := x7_21) rfl (by omega) ?_
          refine ezm_p7 hT rfl ⟨by omega, by omega⟩ (fun hT => ?_)
          refine ezw_goto rfl rfl ?_
          exact ezw_return rfl rfl ⟨x7_21, x8_21, r85_25, rfl, hT, by omega, by omega, rfl⟩
        · refine ezw_aload_n rfl rfl ?_
          refine ezm_gp (p := 85) rfl (fun _ => rfl) ?_
          refine ezw_iload_n rfl rfl ?_
          refine ezw_iconst (1) rfl rfl ?_
          refine ezw_iadd (k := a2 + 1) rfl (by omega) ?_
          refine ezm_l85 rfl (by omega) (by omega) (fun u26 eu26 => ?_)
          have ku26 : ezm_k85 (a2 + 1) u26 := eu26 ▸ hT.t85 (a2 + 1)
          have zu26 := ezm_zl1 ku26 (by omega)
          refine ezw_iconst (2) rfl rfl ?_
          refine ezw_icmp_ne rfl rfl (ezm_in85 ku26) ⟨by decide, by decide⟩ (fun h125_26 => ?_) (fun h125_26 => ?_)
          · refine ezw_iconst (0) rfl rfl ?_
            refine ezw_iadd (k := x7_21) rfl (by omega) ?_
            refine ezm_p7 hT rfl ⟨by omega, by omega⟩ (fun hT => ?_)
            refine ezw_goto rfl rfl ?_
            exact ezw_return rfl rfl ⟨x7_21, x8_21, r85_25, rfl, hT, by omega, by omega, rfl⟩
          · refine ezw_iconst (1) rfl rfl ?_
            refine ezw_goto rfl rfl ?_
            refine ezw_iadd (k := x7_21 + 1) rfl (by omega) ?_
            refine ezm_p7 hT rfl ⟨by omega, by omega⟩ (fun hT => ?_)
            refine ezw_goto rfl rfl ?_
            exact ezw_return rfl rfl ⟨(x7_21 + 1), x8_21, r85_25, rfl, hT, by omega, by omega, rfl⟩
      · refine ezw_aload_n rfl rfl ?_
        refine ezw_bipush (11) rfl rfl ?_
        refine ezw_call0_1 rfl (by omega) (ezm_at rfl) rfl rfl rfl rfl (ezm_m223 hT (by omega) ⟨by decide, by decide⟩ (by omega) hs (by omega) (by omega)) ?_
        rintro _ _ ⟨rfl, u28, hu28, f_27, w_27, rfl⟩
        refine ezw_if_eq rfl rfl ⟨by omega, by omega⟩ (fun h89_28 => ?_) (fun h89_28 => ?_)
        · refine ezw_aload_n rfl rfl ?_
          refine ezw_bipush (39) rfl rfl ?_
          refine ezw_iconst (2) rfl rfl ?_
          refine ezw_call0_2 rfl (by omega) (ezm_at rfl) rfl rfl rfl rfl (ezm_m234 hT (by omega) ⟨by decide, by decide⟩ ⟨by decide, by decide⟩ (by omega) hs (by omega) (by omega)) ?_
          rintro _ _ ⟨x7_29, x8_29, rfl, hT, u30, hu30, p29_0, p29_1, p29_2, rfl⟩
          have k31 := hT.t7
          have k32 := hT.t8
          refine ezm_s85 hT rfl (by omega) (by omega) ⟨by omega, by omega⟩ (fun r85_33 hT er85_33 fr85_33 => ?_)
          refine ezw_aload_n rfl rfl ?_
          refine ezw_dup rfl rfl ?_
          refine ezm_g7 rfl ?_
          refine ezw_aload_n rfl rfl ?_
          refine ezm_g8 rfl ?_
          refine ezw_if_ne rfl rfl ⟨by omega, by omega⟩ (fun h113_33 => ?_) (fun h113_33 => ?_)
          · refine ezw_iconst (0) rfl rfl ?_
            refine ezw_iadd (k := x7_29) rfl (by omega) ?_
            refine ezm_p7 hT rfl ⟨by omega, by omega⟩ (fun hT => ?_)
            refine ezw_goto rfl rfl ?_
            exact ezw_return rfl rfl ⟨x7_29, x8_29, r85_33, rfl, hT, by omega, by omega, rfl⟩
          · refine ezw_aload_n rfl rfl ?_
            refine ezm_gp (p := 85) rfl (fun _ => rfl) ?_
            refine ezw_iload_n rfl rfl ?_
            refine ezw_iconst (1) rfl rfl ?_
            refine ezw_iadd (k := a2 + 1) rfl (by omega) ?_
            refine ezm_l85 rfl (by omega) (by omega) (fun u34 eu34 => ?_)
            have ku34 : ezm_k85 (a2 + 1) u34 := eu34 ▸ hT.t85 (a2 + 1)
            have zu34 := ezm_zl1 ku34 (by omega)
            refine ezw_iconst (2) rfl rfl ?_
            refine ezw_icmp_ne rfl rfl (ezm_in85 ku34) ⟨by decide, by decide⟩ (fun h125_34 => ?_) (fun h125_34 => ?_)
            · refine ezw_iconst (0) rfl rfl ?_
              refine ezw_iadd (k := x7_29) rfl (by omega) ?_
              refine ezm_p7 hT rfl ⟨by omega, by omega⟩ (fun hT => ?_)
              refine ezw_goto rfl rfl ?_
              exact ezw_return rfl rfl ⟨x7_29, x8_29, r85_33, rfl, hT, by omega, by omega, rfl⟩
            · refine ezw_iconst (1) rfl rfl ?_
              refine ezw_goto rfl rfl ?_
              refine ezw_iadd (k := x7_29 + 1) rfl (by omega) ?_
              refine ezm_p7 hT rfl ⟨by omega, by omega⟩ (fun hT => ?_)
              refine ezw_goto rfl rfl ?_
              exact ezw_return rfl rfl ⟨(x7_29 + 1), x8_29, r85_33, rfl, hT, by omega, by omega, rfl⟩
        · refine ezw_iconst (2) rfl rfl ?_
          refine ezw_goto rfl rfl ?_
          refine ezm_s85 hT rfl (by omega) (by omega) ⟨by omega, by omega⟩ (fun r85_35 hT er85_35 fr85_35 => ?_)
          refine ezw_aload_n rfl rfl ?_
          refine ezw_dup rfl rfl ?_
          refine ezm_g7 rfl ?_
          refine ezw_aload_n rfl rfl ?_
          refine ezm_g8 rfl ?_
          refine ezw_if_ne rfl rfl ⟨by omega, by omega⟩ (fun h113_35 => ?_) (fun h113_35 => ?_)
          · refine ezw_iconst (0) rfl rfl ?_
            refine ezw_iadd (k := x7_16) rfl (by omega) ?_
            refine ezm_p7 hT rfl ⟨by omega, by omega⟩ (fun hT => ?_)
            refine ezw_goto rfl rfl ?_
            exact ezw_return rfl rfl ⟨x7_16, x8_16, r85_35, rfl, hT, by omega, by omega, rfl⟩
          · refine ezw_aload_n rfl rfl ?_
            refine ezm_gp (p := 85) rfl (fun _ => rfl) ?_
            refine ezw_iload_n rfl rfl ?_
            refine ezw_iconst (1) rfl rfl ?_
            refine ezw_iadd (k := a2 + 1) rfl (by omega) ?_
            refine ezm_l85 rfl (by omega) (by omega) (fun u36 eu36 => ?_)
            have ku36 : ezm_k85 (a2 + 1) u36 := eu36 ▸ hT.t85 (a2 + 1)
            have zu36 := ezm_zl1 ku36 (by omega)
            refine ezw_iconst (2) rfl rfl ?_
            refine ezw_icmp_ne rfl rfl (ezm_in85 ku36) ⟨by decide, by decide⟩ (fun h125_36 => ?_) (fun h125_36 => ?_)
            · refine ezw_iconst (0) rfl rfl ?_
              refine ezw_iadd (k := x7_16) rfl (by omega) ?_
              refine ezm_p7 hT rfl ⟨by omega, by omega⟩ (fun hT => ?_)
              refine ezw_goto rfl rfl ?_
              exact ezw_return rfl rfl ⟨x7_16, x8_16, r85_35, rfl, hT, by omega, by omega, rfl⟩
            · refine ezw_iconst (1) rfl rfl ?_
              refine ezw_goto rfl rfl ?_
              refine ezw_iadd (k := x7_16 + 1) rfl (by omega) ?_
              refine ezm_p7 hT rfl ⟨by omega, by omega⟩ (fun hT => ?_)
              refine ezw_goto rfl rfl ?_
              exact ezw_return rfl rfl ⟨(x7_16 + 1), x8_16, r85_35, rfl, hT, by omega, by omega, rfl⟩
  · refine ezw_aload_n rfl rfl ?_
    refine ezm_gp (p := 85) rfl (fun _ => rfl) ?_
    refine ezw_iload_n rfl rfl ?_
    refine ezw_aload_n rfl rfl ?_
    refine ezw_bipush (30) rfl rfl ?_
    refine ezw_iconst (4) rfl rfl ?_
    refine ezw_call0_2 rfl (by omega) (ezm_at rfl) rfl rfl rfl rfl (ezm_m234 hT (by omega) ⟨by decide, by decide⟩ ⟨by decide, by decide⟩ (by omega) hs (by omega) (by omega)) ?_
    rintro _ _ ⟨x7_37, x8_37, rfl, hT, u38, hu38, p37_0, p37_1, p37_2, rfl⟩
    have k39 := hT.t7
    have k40 := hT.t8
    refine ezm_s85 hT rfl (by omega) (by omega) ⟨by omega, by omega⟩ (fun r85_41 hT er85_41 fr85_41 => ?_)
    refine ezw_aload_n rfl rfl ?_
    refine ezm_gp (p := 85) rfl (fun _ => rfl) ?_
    refine ezw_iload_n rfl rfl ?_
    refine ezw_iconst (1) rfl rfl ?_
    refine ezw_iadd (k := a2 + 1) rfl (by omega) ?_
    refine ezw_aload_n rfl rfl ?_
    refine ezw_bipush (34) rfl rfl ?_
    refine ezw_iconst (2) rfl rfl ?_
    refine ezw_call0_2 rfl (by omega) (ezm_at rfl) rfl rfl rfl rfl (ezm_m234 hT (by omega) ⟨by decide, by decide⟩ ⟨by decide, by decide⟩ (by omega) hs (by omega) (by omega)) ?_
    rintro _ _ ⟨x7_42, x8_42, rfl, hT, u43, hu43, p42_0, p42_1, p42_2, rfl⟩
    have k44 := hT.t7
    have k45 := hT.t8
    refine ezm_s85 hT rfl (by omega) (by omega) ⟨by omega, by omega⟩ (fun r85_46 hT er85_46 fr85_46 => ?_)
    refine ezw_aload_n rfl rfl ?_
    refine ezm_gp (p := 85) rfl (fun _ => rfl) ?_
    refine ezw_iload_n rfl rfl ?_
    refine ezw_iconst (2) rfl rfl ?_
    refine ezw_iadd (k := a2 + 2) rfl (by omega) ?_
    refine ezw_aload_n rfl rfl ?_
    refine ezw_bipush (36) rfl rfl ?_
    refine ezw_iconst (3) rfl rfl ?_
    refine ezw_call0_2 rfl (by omega) (ezm_at rfl) rfl rfl rfl rfl (ezm_m234 hT (by omega) ⟨by decide, by decide⟩ ⟨by decide, by decide⟩ (by omega) hs (by omega) (by omega)) ?_
    rintro _ _ ⟨x7_47, x8_47, rfl, hT, u48, hu48, p47_0, p47_1, p47_2, rfl⟩
    have k49 := hT.t7
    have k50 := hT.t8
    refine ezm_s85 hT rfl (by omega) (by omega) ⟨by omega, by omega⟩ (fun r85_51 hT er85_51 fr85_51 => ?_)
    refine ezw_goto rfl rfl ?_
    exact ezw_return rfl rfl ⟨x7_47, x8_47, r85_51, rfl, hT, by omega, by omega, rfl⟩
def ezm_m254Q (e : Bool × Bool) (F : Nat → Nat → Int) (A : Nat → Int → Int) (i0 i2 i3 i7 i8 i13 i18 i19 i20 i25 i29 i30 i31 i36 i37 i38 : Int) (r73 r74 r75 r76 r77 r78 r79 r80 r81 r82 r83 r84 r85 r86 r87 r88 r89 r90 r91 r92 r93 r94 r95 : Int → Int) : Option ezq_V → (Nat → ezq_C) → Prop := fun v g' => ∃ (x0 x2 x3 x7 x8 : Int) (x74 x75 x76 x85 : Int → Int), ezm_h e F A x0 x2 x3 x7 x8 i13 i18 i19 i20 i25 i29 i30 i31 i36 i37 i38 r73 x74 x75 x76 r77 r78 r79 r80 r81 r82 r83 r84 x85 r86 r87 r88 r89 r90 r91 r92 r93 r94 r95 = g' ∧ ezm_T x0 x2 x3 x7 x8 i13 i18 i19 i20 i25 i29 i30 i31 i36 i37 i38 r73 x74 x75 x76 r77 r78 r79 r80 r81 r82 r83 r84 x85 r86 r87 r88 r89 r90 r91 r92 r93 r94 r95 ∧ ∃ u : Int, (ezw_in u) ∧ (x2 = 0) ∧ some (ezw_i u) = v
theorem ezm_m254 (hT : ezm_T i0 i2 i3 i7 i8 i13 i18 i19 i20 i25 i29 i30 i31 i36 i37 i38 r73 r74 r75 r76 r77 r78 r79 r80 r81 r82 r83 r84 r85 r86 r87 r88 r89 r90 r91 r92 r93 r94 r95) (hd : 6 ≤ d) : ezw_C l ρ B xa Hb D cA 254 d [ezw_p 72] (ezm_h e F A i0 i2 i3 i7 i8 i13 i18 i19 i20 i25 i29 i30 i31 i36 i37 i38 r73 r74 r75 r76 r77 r78 r79 r80 r81 r82 r83 r84 r85 r86 r87 r88 r89 r90 r91 r92 r93 r94 r95) (ezm_m254Q  e F A i0 i2 i3 i7 i8 i13 i18 i19 i20 i25 i29 i30 i31 i36 i37 i38 r73 r74 r75 r76 r77 r78 r79 r80 r81 r82 r83 r84 r85 r86 r87 r88 r89 r90 r91 r92 r93 r94 r95) := by
  refine ezw_met (k := 2) rfl rfl ?_
  refine ezw_aload_n rfl rfl ?_
  refine ezw_iconst (0) rfl rfl ?_
  refine ezm_p0 hT rfl ⟨by decide, by decide⟩ (fun hT => ?_)
  refine ezw_aload_n rfl rfl ?_
  refine ezw_call0_0 rfl (by omega) (ezm_at rfl) rfl rfl rfl rfl (ezm_m218 hT (by omega)) ?_
  rintro _ _ ⟨x2_1, x3_1, x7_1, x8_1, x74_1, x75_1, x76_1, rfl, hT, p1_0, p1_1, p1_2, en_1, rfl⟩
  have k2 := hT.t2
  have k3 := hT.t3
  have k4 := hT.t7
  have k5 := hT.t8
  obtain ⟨n, n0, n1, hs⟩ := en_1
  refine ezw_iconst (0) rfl rfl ?_
  refine ezw_istore_n rfl rfl ?_
  have X11_7 : ∀ c6 : Int, ezw_in c6 → ∀ y8 : Int, ezw_in y8 → ∀ x8_7 : Int, ∀ x85_7 : Int → Int, ezm_T (0) x2_1 x3_1 c6 x8_7 i13 i18 i19 i20 i25 i29 i30 i31 i36 i37 i38 r73 x74_1 x75_1 x76_1 r77 r78 r79 r80 r81 r82 r83 r84 x85_7 r86 r87 r88 r89 r90 r91 r92 r93 r94 r95 → (0 ≤ c6 ∧ c6 ≤ n ∧ 0 ≤ y8 ∧ y8 ≤ 24) → (x8_7 ≠ 0) → ezw_E l ρ B xa Hb D cA d ezq_re254 (ezm_m254Q  e F A i0 i2 i3 i7 i8 i13 i18 i19 i20 i25 i29 i30 i31 i36 i37 i38 r73 r74 r75 r76 r77 r78 r79 r80 r81 r82 r83 r84 r85 r86 r87 r88 r89 r90 r91 r92 r93 r94 r95) 11 [some (ezw_p 72), some (ezw_i y8), none] [] (ezm_h e F A (0) x2_1 x3_1 c6 x8_7 i13 i18 i19 i20 i25 i29 i30 i31 i36 i37 i38 r73 x74_1 x75_1 x76_1 r77 r78 r79 r80 r81 r82 r83 r84 x85_7 r86 r87 r88 r89 r90 r91 r92 r93 r94 r95) := by
    intro c6 hc6 y8 hy8 x8_7 x85_7 hT v1_7 hesc_7
    have k9 := hT.t7
    have k10 := hT.t8
    refine ezw_aload_n rfl rfl ?_
    refine ezm_g8 rfl ?_
    have k11 := hT.t8
    refine ezw_if_ne rfl rfl ⟨by omega, by omega⟩ (fun h15_11 => ?_) (fun h15_11 => absurd h15_11 (by omega))
    refine ezw_aload_n rfl rfl ?_
    refine ezm_g8 rfl ?_
    refine ezw_if_le rfl rfl ⟨by omega, by omega⟩ (fun h114_11 => absurd h114_11 (by omega)) (fun h114_11 => ?_)
    refine ezw_aload_n rfl rfl ?_
    refine ezm_g8 rfl ?_
    exact ezw_ireturn rfl rfl ⟨(0), x2_1, x3_1, c6, x8_7, x74_1, x75_1, x76_1, x85_7, rfl, hT, x8_7, ⟨by omega, by omega⟩, by omega, rfl⟩
  have L11_7 : ∀ c6 : Int, ezw_in c6 → ∀ y8 : Int, ezw_in y8 → ∀ x8_7 : Int, ∀ x85_7 : Int → Int, ezm_T (0) x2_1 x3_1 c6 x8_7 i13 i18 i19 i20 i25 i29 i30 i31 i36 i37 i38 r73 x74_1 x75_1 x76_1 r77 r78 r79 r80 r81 r82 r83 r84 x85_7 r86 r87 r88 r89 r90 r91 r92 r93 r94 r95 → (x7_1 ≤ c6) → (0 ≤ c6 ∧ c6 ≤ n ∧ 0 ≤ y8 ∧ y8 ≤ 24) → (x8_7 = 0) → ezw_E l ρ B xa Hb D cA d ezq_re254 (ezm_m254Q  e F A i0 i2 i3 i7 i8 i13 i18 i19 i20 i25 i29 i30 i31 i36 i37 i38 r73 r74 r75 r76 r77 r78 r79 r80 r81 r82 r83 r84 r85 r86 r87 r88 r89 r90 r91 r92 r93 r94 r95) 11 [some (ezw_p 72), some (ezw_i y8), none] [] (ezm_h e F A (0) x2_1 x3_1 c6 x8_7 i13 i18 i19 i20 i25 i29 i30 i31 i36 i37 i38 r73 x74_1 x75_1 x76_1 r77 r78 r79 r80 r81 r82 r83 r84 x85_7 r86 r87 r88 r89 r90 r91 r92 r93 r94 r95) := by
    refine ezs_up ?_
    intro c6 hc6 ihc6 y8 hy8 x8_7 x85_7 hT g_7 v1_7 z_7
    have k12 := hT.t7
    have k13 := hT.t8
    refine ezw_aload_n rfl rfl ?_
    refine ezm_g8 rfl ?_
    refine ezw_if_ne rfl rfl ⟨by omega, by omega⟩ (fun h15_13 => absurd h15_13 (by omega)) (fun h15_13 => ?_)
    refine ezw_aload_n rfl rfl ?_
    refine ezm_gp (p := 74) rfl (fun _ => rfl) ?_
    refine ezw_aload_n rfl rfl ?_
    refine ezm_g7 rfl ?_
    refine ezm_l74 rfl (by omega) (by omega) (fun u14 eu14 => ?_)
    have ku14 : ezw_in u14 := eu14 ▸ hT.t74 c6
    refine ezw_if_eq rfl rfl ku14 (fun h27_14 => ?_) (fun h27_14 => ?_)
    · refine ezw_aload_n rfl rfl ?_
      refine ezm_g8 rfl ?_
      refine ezw_if_le rfl rfl ⟨by omega, by omega⟩ (fun h114_14 => ?_) (fun h114_14 => absurd h114_14 (by omega))
      refine ezw_aload_n rfl rfl ?_
      refine ezm_gp (p := 85) rfl (fun _ => rfl) ?_
      refine ezw_iconst (0) rfl rfl ?_
      refine ezw_iload_n rfl rfl ?_
      refine ezm_s85 hT rfl (by omega) (by omega) ⟨by omega, by omega⟩ (fun r85_15 hT er85_15 fr85_15 => ?_)
      refine ezw_iconst (0) rfl rfl ?_
      refine ezw_istore_n rfl rfl ?_
      have L131_17 : ∀ c16 : Int, ezw_in c16 → ∀ x85_17 : Int → Int, ezm_T (0) x2_1 x3_1 c6 x8_7 i13 i18 i19 i20 i25 i29 i30 i31 i36 i37 i38 r73 x74_1 x75_1 x76_1 r77 r78 r79 r80 r81 r82 r83 r84 x85_17 r86 r87 r88 r89 r90 r91 r92 r93 r94 r95 → ((0) ≤ c16) → ezw_E l ρ B xa Hb D cA d ezq_re254 (ezm_m254Q  e F A i0 i2 i3 i7 i8 i13 i18 i19 i20 i25 i29 i30 i31 i36 i37 i38 r73 r74 r75 r76 r77 r78 r79 r80 r81 r82 r83 r84 r85 r86 r87 r88 r89 r90 r91 r92 r93 r94 r95) 131 [some (ezw_p 72), some (ezw_i y8), some (ezw_i c16)] [] (ezm_h e F A (0) x2_1 x3_1 c6 x8_7 i13 i18 i19 i20 i25 i29 i30 i31 i36 i37 i38 r73 x74_1 x75_1 x76_1 r77 r78 r79 r80 r81 r82 r83 r84 x85_17 r86 r87 r88 r89 r90 r91 r92 r93 r94 r95) := by
        refine ezs_up ?_
        intro c16 hc16 ihc16 x85_17 hT g_17
        refine ezw_iload_n rfl rfl ?_
        refine ezw_iconst (4) rfl rfl ?_
        refine ezw_iload_n rfl rfl ?_
        refine ezw_imul (k := 4 * y8) rfl (by omega) ?_
        refine ezw_icmp_ge rfl rfl hc16 ⟨by omega, by omega⟩ (fun h135_17 => ?_) (fun h135_17 => ?_)
        · refine ezw_iconst (0) rfl rfl ?_
          exact ezw_ireturn rfl rfl ⟨(0), x2_1, x3_1, c6, x8_7, x74_1, x75_1, x76_1, x85_17, rfl, hT, (0), ⟨by decide, by decide⟩, by omega, rfl⟩
        · refine ezw_aload_n rfl rfl ?_
          refine ezm_gp (p := 85) rfl (fun _ => rfl) ?_
          refine ezw_iconst (1) rfl rfl ?_
          refine ezw_iload_n rfl rfl ?_
          refine ezw_iadd (k := c16 + 1) rfl (by omega) ?_
          refine ezw_aload_n rfl rfl ?_
          refine ezm_gp (p := 85) rfl (fun _ => rfl) ?_
          refine ezw_bipush (110) rfl rfl ?_
          refine ezw_iload_n rfl rfl ?_
          refine ezw_iadd (k := c16 + 110) rfl (by omega) ?_
          refine ezm_l85 rfl (by omega) (by omega) (fun u18 eu18 => ?_)
          have ku18 : ezm_k85 (c16 + 110) u18 := eu18 ▸ hT.t85 (c16 + 110)
          have zu18 := ezm_zl1 ku18 (by omega)
          refine ezm_s85 hT rfl (by omega) (by omega) ⟨by omega, by omega⟩ (fun r85_19 hT er85_19 fr85_19 => ?_)
          refine ezw_iinc (k := c16 + 1) (1) rfl rfl rfl (by omega) rfl ?_
          refine ezw_goto rfl rfl ?_
          exact ezw_keepE [true, true, true] (ihc16 (c16 + 1) (by omega) ⟨by omega, by omega⟩ r85_19 hT (by omega))
      exact ezw_keepE [true, true, true] (L131_17 (0) ⟨by decide, by decide⟩ r85_15 hT (by omega))
    · refine ezw_aload_n rfl rfl ?_
      refine ezw_bipush (23) rfl rfl ?_
      refine ezw_bipush (7) rfl rfl ?_
      refine ezw_call0_2 rfl (by omega) (ezm_at rfl) rfl rfl rfl rfl (ezm_m228 hT (by omega) ⟨by decide, by decide⟩ ⟨by decide, by decide⟩ (by omega) hs (by omega) (by omega)) ?_
      rintro _ _ ⟨rfl, u21, hu21, p20_0, p20_1, p20_2, rfl⟩
      refine ezw_istore_n rfl rfl ?_
      refine ezw_iload_n rfl rfl ?_
      refine ezw_if_ge rfl rfl hu21 (fun h40_21 => ?_) (fun h40_21 => ?_)
      · refine ezw_iload_n rfl rfl ?_
        refine ezw_bipush (24) rfl rfl ?_
        refine ezw_icmp_ne rfl rfl hy8 ⟨by decide, by decide⟩ (fun h54_21 => ?_) (fun h54_21 => ?_)
        · refine ezw_aload_n rfl rfl ?_
          refine ezw_dup rfl rfl ?_
          refine ezm_g7 rfl ?_
          refine ezw_iconst (1) rfl rfl ?_
          refine ezw_iadd (k := c6 + 1) rfl (by omega) ?_
          refine ezm_p7 hT rfl ⟨by omega, by omega⟩ (fun hT => ?_)
          refine ezw_aload_n rfl rfl ?_
          refine ezm_gp (p := 85) rfl (fun _ => rfl) ?_
          refine ezw_bipush (110) rfl rfl ?_
          refine ezw_iconst (4) rfl rfl ?_
          refine ezw_iload_n rfl rfl ?_
          refine ezw_imul (k := 4 * y8) rfl (by omega) ?_
          refine ezw_iadd (k := 4 * y8 + 110) rfl (by omega) ?_
          refine ezw_iload_n rfl rfl ?_
          refine ezm_s85 hT rfl (by omega) (by omega) ⟨by omega, by omega⟩ (fun r85_22 hT er85_22 fr85_22 => ?_)
          refine ezw_aload_n rfl rfl ?_
          refine ezw_iload_n rfl rfl ?_
          refine ezw_bipush (111) rfl rfl ?_
          refine ezw_iconst (4) rfl rfl ?_
          refine ezw_iload_n rfl rfl ?_
          refine ezw_imul (k := 4 * y8) rfl (by omega) ?_
          refine ezw_iadd (k := 4 * y8 + 111) rfl (by omega) ?_
          refine ezw_call0_2 rfl (by omega) (ezm_at rfl) rfl rfl rfl rfl (ezm_m255 hT (by omega) hu21 ⟨by omega, by omega⟩ (by omega) hs (by omega) (by omega) (by omega)) ?_
          rintro _ _ ⟨x7_23, x8_23, x85_23, rfl, hT, p23_0, p23_1, rfl⟩
          have k24 := hT.t7
          have k25 := hT.t8
          refine ezw_iinc (k := y8 + 1) (1) rfl rfl rfl (by omega) rfl ?_
          refine ezw_aload_n rfl rfl ?_
          refine ezw_bipush (59) rfl rfl ?_
          refine ezw_call0_1 rfl (by omega) (ezm_at rfl) rfl rfl rfl rfl (ezm_m253 hT (by omega) ⟨by decide, by decide⟩ (by omega) hs (by omega)) ?_
          rintro _ _ ⟨x7_26, x8_26, rfl, hT, p26_0, p26_1, p26_2, rfl⟩
          have k27 := hT.t7
          have k28 := hT.t8
          refine ezw_goto rfl rfl ?_
          by_cases hq126 : x8_26 ≠ 0
          · exact ezw_keepE [true, true, false] (X11_7 x7_26 ⟨by omega, by omega⟩ (y8 + 1) ⟨by omega, by omega⟩ x8_26 x85_23 hT (by omega) hq126)
          · exact ezw_keepE [true, true, false] (ihc6 x7_26 (by omega) ⟨by omega, by omega⟩ (y8 + 1) ⟨by omega, by omega⟩ x8_26 x85_23 hT (by omega) (by omega) (by omega))
        · refine ezw_aload_n rfl rfl ?_
          refine ezw_iconst (5) rfl rfl ?_
          refine ezw_call0_1 rfl (by omega) (ezm_at rfl) rfl rfl rfl rfl (ezm_m225 hT (by omega) ⟨by decide, by decide⟩ (by omega) (by omega)) ?_
          rintro _ _ ⟨x8_29, rfl, hT, p29_0, p29_1, rfl⟩
          have k30 := hT.t8
          refine ezw_goto rfl rfl ?_
          refine ezw_aload_n rfl rfl ?_
          refine ezw_bipush (59) rfl rfl ?_
          refine ezw_call0_1 rfl (by omega) (ezm_at rfl) rfl rfl rfl rfl (ezm_m253 hT (by omega) ⟨by decide, by decide⟩ (by omega) hs (by omega)) ?_
          rintro _ _ ⟨x7_31, x8_31, rfl, hT, p31_0, p31_1, p31_2, rfl⟩
          have k32 := hT.t7
          have k33 := hT.t8
          refine ezw_goto rfl rfl ?_
          by_cases hq142 : x8_31 ≠ 0
          · exact ezw_keepE [true, true, false] (X11_7 x7_31 ⟨by omega, by omega⟩ y8 hy8 x8_31 x85_7 hT (by omega) hq142)
          · exact ezw_keepE [true, true, false] (ihc6 x7_31 (by omega) ⟨by omega, by omega⟩ y8 hy8 x8_31 x85_7 hT (by omega) (by omega) (by omega))
      · refine ezw_aload_n rfl rfl ?_
        refine ezw_iconst (1) rfl rfl ?_
        refine ezw_call0_1 rfl (by omega) (ezm_at rfl) rfl rfl rfl rfl (ezm_m225 hT (by omega) ⟨by decide, by decide⟩ (by omega) (by omega)) ?_
        rintro _ _ ⟨x8_34, rfl, hT, p34_0, p34_1, rfl⟩
        have k35 := hT.t8
        refine ezw_goto rfl rfl ?_
        refine ezw_aload_n rfl rfl ?_
        refine ezw_bipush (59) rfl rfl ?_
        refine ezw_call0_1 rfl (by omega) (ezm_at rfl) rfl rfl rfl rfl (ezm_m253 hT (by omega) ⟨by decide, by decide⟩ (by omega) hs (by omega)) ?_
        rintro _ _ ⟨x7_36, x8_36, rfl, hT, p36_0, p36_1, p36_2, rfl⟩
        have k37 := hT.t7
        have k38 := hT.t8
        refine ezw_goto rfl rfl ?_
        by_cases hq158 : x8_36 ≠ 0
        · exact ezw_keepE [true, true, false] (X11_7 x7_36 ⟨by omega, by omega⟩ y8 hy8 x8_36 x85_7 hT (by omega) hq158)
        · exact ezw_keepE [true, true, false] (ihc6 x7_36 (by omega) ⟨by omega, by omega⟩ y8 hy8 x8_36 x85_7 hT (by omega) (by omega) (by omega))
  exact ezw_keepE [true, true, false] (L11_7 x7_1 ⟨by omega, by omega⟩ (0) ⟨by decide, by decide⟩ x8_1 r85 hT (by omega) (by omega) (by omega))
end KM6
