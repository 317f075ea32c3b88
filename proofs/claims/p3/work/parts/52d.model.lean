/-! ===== the model: lines of a tree ===== -/
section KM6
variable {l : Launch} {ρ : ezq_E} {B : Nat} {xa : Nat → Option Nat} {Hb : Heap} {D : va_G} {cA : Nat → ClassId} {d : Nat} {e : Bool × Bool} {F : Nat → Nat → Int} {A : Nat → Int → Int} {i0 i2 i3 i7 i8 i13 i18 i19 i20 i25 i29 i30 i31 i36 i37 i38 : Int} {r73 r74 r75 r76 r77 r78 r79 r80 r81 r82 r83 r84 r85 r86 r87 r88 r89 r90 r91 r92 r93 r94 r95 : Int → Int}
def ezm_m226Q (e : Bool × Bool) (F : Nat → Nat → Int) (A : Nat → Int → Int) (i0 i2 i3 i7 i8 i13 i18 i19 i20 i25 i29 i30 i31 i36 i37 i38 : Int) (r73 r74 r75 r76 r77 r78 r79 r80 r81 r82 r83 r84 r85 r86 r87 r88 r89 r90 r91 r92 r93 r94 r95 : Int → Int) (n : Int) (a1 : Int) : Option ezq_V → (Nat → ezq_C) → Prop := fun v g' => ∃ (x7 x8 x19 : Int) (x82 x84 : Int → Int), ezm_h e F A i0 i2 i3 x7 x8 i13 i18 x19 i20 i25 i29 i30 i31 i36 i37 i38 r73 r74 r75 r76 r77 r78 r79 r80 r81 x82 r83 x84 r85 r86 r87 r88 r89 r90 r91 r92 r93 r94 r95 = g' ∧ ezm_T i0 i2 i3 x7 x8 i13 i18 x19 i20 i25 i29 i30 i31 i36 i37 i38 r73 r74 r75 r76 r77 r78 r79 r80 r81 x82 r83 x84 r85 r86 r87 r88 r89 r90 r91 r92 r93 r94 r95 ∧ (x8 = 0 → i8 = 0 ∧ x19 = i19 + 1 ∧ x7 = i7 + 2) ∧ (i7 ≤ x7 ∧ x7 ≤ n) ∧ (i8 ≠ 0 → x8 ≠ 0) ∧ (x8 ≠ 0 → x19 = i19) ∧ (x8 = 0 → x84 i19 = a1) ∧ (∀ j, j ≠ i19 → x84 j = r84 j) ∧ none = v
theorem ezm_m226 {n a1 : Int} (hT : ezm_T i0 i2 i3 i7 i8 i13 i18 i19 i20 i25 i29 i30 i31 i36 i37 i38 r73 r74 r75 r76 r77 r78 r79 r80 r81 r82 r83 r84 r85 r86 r87 r88 r89 r90 r91 r92 r93 r94 r95) (hd : 3 ≤ d) (ha1 : ezw_in a1) (hn : 0 ≤ i7 ∧ i7 ≤ n) (hs : r74 n = 0) (h1 : n ≤ 1000) (gn : i7 < n) (ga : 0 ≤ a1 ∧ a1 ≤ 23) (gm : 0 ≤ i19 ∧ i19 ≤ 11) : ezw_C l ρ B xa Hb D cA 226 d [ezw_p 72, ezw_i a1] (ezm_h e F A i0 i2 i3 i7 i8 i13 i18 i19 i20 i25 i29 i30 i31 i36 i37 i38 r73 r74 r75 r76 r77 r78 r79 r80 r81 r82 r83 r84 r85 r86 r87 r88 r89 r90 r91 r92 r93 r94 r95) (ezm_m226Q  e F A i0 i2 i3 i7 i8 i13 i18 i19 i20 i25 i29 i30 i31 i36 i37 i38 r73 r74 r75 r76 r77 r78 r79 r80 r81 r82 r83 r84 r85 r86 r87 r88 r89 r90 r91 r92 r93 r94 r95 n a1) := by
  refine ezw_met (k := 0) rfl rfl ?_
  refine ezw_aload_n rfl rfl ?_
  refine ezw_dup rfl rfl ?_
  refine ezm_g7 rfl ?_
  have k1 := hT.t7
  refine ezw_iconst (1) rfl rfl ?_
  refine ezw_iadd (k := i7 + 1) rfl (by omega) ?_
  refine ezm_p7 hT rfl ⟨by omega, by omega⟩ (fun hT => ?_)
  refine ezw_aload_n rfl rfl ?_
  refine ezw_call0_0 rfl (by omega) (ezm_at rfl) rfl rfl rfl rfl (ezm_m227 hT (by omega) (by omega) hs (by omega)) ?_
  rintro _ _ ⟨rfl, u3, hu3, f_2, rfl⟩
  refine ezw_if_ne rfl rfl ⟨by omega, by omega⟩ (fun h14_3 => ?_) (fun h14_3 => ?_)
  · refine ezw_aload_n rfl rfl ?_
    refine ezw_iconst (1) rfl rfl ?_
    refine ezw_call0_1 rfl (by omega) (ezm_at rfl) rfl rfl rfl rfl (ezm_m229_v1 hT (by omega) (by omega)) ?_
    rintro _ _ ⟨rfl, u5, hu5, p4_0, f_4, rfl⟩
    refine ezw_if_lt rfl rfl hu5 (fun h30_5 => ?_) (fun h30_5 => ?_)
    · refine ezw_aload_n rfl rfl ?_
      refine ezm_g8 rfl ?_
      have k6 := hT.t8
      refine ezw_if_ne rfl rfl ⟨by omega, by omega⟩ (fun h42_6 => ?_) (fun h42_6 => ?_)
      · exact ezw_return rfl rfl ⟨(i7 + 1), i8, i19, r82, r84, rfl, hT, by omega, by omega, by omega, by omega, fun z => absurd z (by omega), fun _ _ => rfl, rfl⟩
      · refine ezw_aload_n rfl rfl ?_
        refine ezm_gp (p := 82) rfl (fun _ => rfl) ?_
        refine ezw_aload_n rfl rfl ?_
        refine ezm_g19 rfl ?_
        have k7 := hT.t19
        refine ezw_aload_n rfl rfl ?_
        refine ezm_gp (p := 76) rfl (fun _ => rfl) ?_
        refine ezw_aload_n rfl rfl ?_
        refine ezm_g7 rfl ?_
        have k8 := hT.t7
        refine ezm_l76 rfl (by omega) (by omega) (fun u9 eu9 => ?_)
        have ku9 : ezw_il u9 := eu9 ▸ hT.t76 (i7 + 1)
        refine ezm_s82 hT rfl (by omega) (by omega) ku9 (fun r82_10 hT er82_10 fr82_10 => ?_)
        refine ezw_aload_n rfl rfl ?_
        refine ezm_gp (p := 84) rfl (fun _ => rfl) ?_
        refine ezw_aload_n rfl rfl ?_
        refine ezm_g19 rfl ?_
        refine ezw_iload_n rfl rfl ?_
        refine ezm_s84 hT rfl (by omega) (by omega) ⟨by omega, by omega⟩ (fun r84_11 hT er84_11 fr84_11 => ?_)
        refine ezw_aload_n rfl rfl ?_
        refine ezw_dup rfl rfl ?_
        refine ezm_g19 rfl ?_
        refine ezw_iconst (1) rfl rfl ?_
        refine ezw_iadd (k := i19 + 1) rfl (by omega) ?_
        refine ezm_p19 hT rfl ⟨by omega, by omega⟩ (fun hT => ?_)
        refine ezw_aload_n rfl rfl ?_
        refine ezw_dup rfl rfl ?_
        refine ezm_g7 rfl ?_
        refine ezw_iconst (1) rfl rfl ?_
        refine ezw_iadd (k := i7 + 2) rfl (by omega) ?_
        refine ezm_p7 hT rfl ⟨by omega, by omega⟩ (fun hT => ?_)
        exact ezw_return rfl rfl ⟨(i7 + 2), i8, (i19 + 1), r82_10, r84_11, rfl, hT, by omega, by omega, by omega, by omega, fun z => er84_11, fr84_11, rfl⟩
    · refine ezw_aload_n rfl rfl ?_
      refine ezw_iconst (3) rfl rfl ?_
      refine ezw_call0_1 rfl (by omega) (ezm_at rfl) rfl rfl rfl rfl (ezm_m225 hT (by omega) ⟨by decide, by decide⟩ (by omega) (by omega)) ?_
      rintro _ _ ⟨x8_12, rfl, hT, p12_0, p12_1, rfl⟩
      have k13 := hT.t8
      refine ezw_aload_n rfl rfl ?_
      refine ezm_g8 rfl ?_
      refine ezw_if_ne rfl rfl ⟨by omega, by omega⟩ (fun h42_13 => ?_) (fun h42_13 => ?_)
      · exact ezw_return rfl rfl ⟨(i7 + 1), x8_12, i19, r82, r84, rfl, hT, by omega, by omega, by omega, by omega, fun z => absurd z (by omega), fun _ _ => rfl, rfl⟩
      · refine ezw_aload_n rfl rfl ?_
        refine ezm_gp (p := 82) rfl (fun _ => rfl) ?_
        refine ezw_aload_n rfl rfl ?_
        refine ezm_g19 rfl ?_
        have k14 := hT.t19
        refine ezw_aload_n rfl rfl ?_
        refine ezm_gp (p := 76) rfl (fun _ => rfl) ?_
        refine ezw_aload_n rfl rfl ?_
        refine ezm_g7 rfl ?_
        have k15 := hT.t7
        refine ezm_l76 rfl (by omega) (by omega) (fun u16 eu16 => ?_)
        have ku16 : ezw_il u16 := eu16 ▸ hT.t76 (i7 + 1)
        refine ezm_s82 hT rfl (by omega) (by omega) ku16 (fun r82_17 hT er82_17 fr82_17 => ?_)
        refine ezw_aload_n rfl rfl ?_
        refine ezm_gp (p := 84) rfl (fun _ => rfl) ?_
        refine ezw_aload_n rfl rfl ?_
        refine ezm_g19 rfl ?_
        refine ezw_iload_n rfl rfl ?_
        refine ezm_s84 hT rfl (by omega) (by omega) ⟨by omega, by omega⟩ (fun r84_18 hT er84_18 fr84_18 => ?_)
        refine ezw_aload_n rfl rfl ?_
        refine ezw_dup rfl rfl ?_
        refine ezm_g19 rfl ?_
        refine ezw_iconst (1) rfl rfl ?_
        refine ezw_iadd (k := i19 + 1) rfl (by omega) ?_
        refine ezm_p19 hT rfl ⟨by omega, by omega⟩ (fun hT => ?_)
        refine ezw_aload_n rfl rfl ?_
        refine ezw_dup rfl rfl ?_
        refine ezm_g7 rfl ?_
        refine ezw_iconst (1) rfl rfl ?_
        refine ezw_iadd (k := i7 + 2) rfl (by omega) ?_
        refine ezm_p7 hT rfl ⟨by omega, by omega⟩ (fun hT => ?_)
        exact ezw_return rfl rfl ⟨(i7 + 2), x8_12, (i19 + 1), r82_17, r84_18, rfl, hT, by omega, by omega, by omega, by omega, fun z => er84_18, fr84_18, rfl⟩
  · refine ezw_aload_n rfl rfl ?_
    refine ezw_iconst (1) rfl rfl ?_
    refine ezw_call0_1 rfl (by omega) (ezm_at rfl) rfl rfl rfl rfl (ezm_m225 hT (by omega) ⟨by decide, by decide⟩ (by omega) (by omega)) ?_
    rintro _ _ ⟨x8_19, rfl, hT, p19_0, p19_1, rfl⟩
    have k20 := hT.t8
    refine ezw_goto rfl rfl ?_
    refine ezw_aload_n rfl rfl ?_
    refine ezm_g8 rfl ?_
    refine ezw_if_ne rfl rfl ⟨by omega, by omega⟩ (fun h42_20 => ?_) (fun h42_20 => ?_)
    · exact ezw_return rfl rfl ⟨(i7 + 1), x8_19, i19, r82, r84, rfl, hT, by omega, by omega, by omega, by omega, fun z => absurd z (by omega), fun _ _ => rfl, rfl⟩
    · refine ezw_aload_n rfl rfl ?_
      refine ezm_gp (p := 82) rfl (fun _ => rfl) ?_
      refine ezw_aload_n rfl rfl ?_
      refine ezm_g19 rfl ?_
      have k21 := hT.t19
      refine ezw_aload_n rfl rfl ?_
      refine ezm_gp (p := 76) rfl (fun _ => rfl) ?_
      refine ezw_aload_n rfl rfl ?_
      refine ezm_g7 rfl ?_
      have k22 := hT.t7
      refine ezm_l76 rfl (by omega) (by omega) (fun u23 eu23 => ?_)
      have ku23 : ezw_il u23 := eu23 ▸ hT.t76 (i7 + 1)
      refine ezm_s82 hT rfl (by omega) (by omega) ku23 (fun r82_24 hT er82_24 fr82_24 => ?_)
      refine ezw_aload_n rfl rfl ?_
      refine ezm_gp (p := 84) rfl (fun _ => rfl) ?_
      refine ezw_aload_n rfl rfl ?_
      refine ezm_g19 rfl ?_
      refine ezw_iload_n rfl rfl ?_
      refine ezm_s84 hT rfl (by omega) (by omega) ⟨by omega, by omega⟩ (fun r84_25 hT er84_25 fr84_25 => ?_)
      refine ezw_aload_n rfl rfl ?_
      refine ezw_dup rfl rfl ?_
      refine ezm_g19 rfl ?_
      refine ezw_iconst (1) rfl rfl ?_
      refine ezw_iadd (k := i19 + 1) rfl (by omega) ?_
      refine ezm_p19 hT rfl ⟨by omega, by omega⟩ (fun hT => ?_)
      refine ezw_aload_n rfl rfl ?_
      refine ezw_dup rfl rfl ?_
      refine ezm_g7 rfl ?_
      refine ezw_iconst (1) rfl rfl ?_
      refine ezw_iadd (k := i7 + 2) rfl (by omega) ?_
      refine ezm_p7 hT rfl ⟨by omega, by omega⟩ (fun hT => ?_)
      exact ezw_return rfl rfl ⟨(i7 + 2), x8_19, (i19 + 1), r82_24, r84_25, rfl, hT, by omega, by omega, by omega, by omega, fun z => er84_25, fr84_25, rfl⟩
def ezm_m224Q (e : Bool × Bool) (F : Nat → Nat → Int) (A : Nat → Int → Int) (i0 i2 i3 i7 i8 i13 i18 i19 i20 i25 i29 i30 i31 i36 i37 i38 : Int) (r73 r74 r75 r76 r77 r78 r79 r80 r81 r82 r83 r84 r85 r86 r87 r88 r89 r90 r91 r92 r93 r94 r95 : Int → Int) (n : Int) : Option ezq_V → (Nat → ezq_C) → Prop := fun v g' => ∃ (x7 x8 x19 : Int) (x78 x82 x84 : Int → Int), ezm_h e F A i0 i2 i3 x7 x8 i13 i18 x19 i20 i25 i29 i30 i31 i36 i37 i38 r73 r74 r75 r76 r77 x78 r79 r80 r81 x82 r83 x84 r85 r86 r87 r88 r89 r90 r91 r92 r93 r94 r95 = g' ∧ ezm_T i0 i2 i3 x7 x8 i13 i18 x19 i20 i25 i29 i30 i31 i36 i37 i38 r73 r74 r75 r76 r77 x78 r79 r80 r81 x82 r83 x84 r85 r86 r87 r88 r89 r90 r91 r92 r93 r94 r95 ∧ (i7 ≤ x7 ∧ x7 ≤ n) ∧ (∀ j, j < 100 → x78 j = r78 j) ∧ (x8 = 0 → ezm_RD i13 x19 x78 r79 r80 x84) ∧ none = v
theorem ezm_m224 {n : Int} (hT : ezm_T i0 i2 i3 i7 i8 i13 i18 i19 i20 i25 i29 i30 i31 i36 i37 i38 r73 r74 r75 r76 r77 r78 r79 r80 r81 r82 r83 r84 r85 r86 r87 r88 r89 r90 r91 r92 r93 r94 r95) (hd : 4 ≤ d) (hn : 0 ≤ i7 ∧ i7 ≤ n) (hs : r74 n = 0) (h1 : n ≤ 1000) (h0 : i8 = 0) (hc : 0 ≤ i13 ∧ i13 ≤ i7) (rd : ezm_RD i13 i19 r78 r79 r80 r84) (gn : i7 < n) : ezw_C l ρ B xa Hb D cA 224 d [ezw_p 72] (ezm_h e F A i0 i2 i3 i7 i8 i13 i18 i19 i20 i25 i29 i30 i31 i36 i37 i38 r73 r74 r75 r76 r77 r78 r79 r80 r81 r82 r83 r84 r85 r86 r87 r88 r89 r90 r91 r92 r93 r94 r95) (ezm_m224Q  e F A i0 i2 i3 i7 i8 i13 i18 i19 i20 i25 i29 i30 i31 i36 i37 i38 r73 r74 r75 r76 r77 r78 r79 r80 r81 r82 r83 r84 r85 r86 r87 r88 r89 r90 r91 r92 r93 r94 r95 n) := by
  refine ezw_met (k := 3) rfl rfl ?_
  refine ezw_aload_n rfl rfl ?_
  refine ezm_gp (p := 78) rfl (fun _ => rfl) ?_
  refine ezw_bipush (100) rfl rfl ?_
  refine ezm_l78 rfl (by omega) (by omega) (fun u1 eu1 => ?_)
  have ku1 : ezm_k78 (100) u1 := eu1 ▸ hT.t78 (100)
  have zu1 := ezm_za0 ku1 (by omega)
  have b19 := hT.t19
  have bm := rd.1
  have b1 := ezm_za1 (hT.t78 101) (by decide)
  have b0 := ezm_za0 (hT.t78 100) (by decide)
  have b3 := ezm_za3 (hT.t78 103) (by decide)
  refine ezw_istore_n rfl rfl ?_
  refine ezw_iload_n rfl rfl ?_
  refine ezw_bipush (8) rfl rfl ?_
  refine ezw_icmp_ne rfl rfl (ezm_in78 ku1) ⟨by decide, by decide⟩ (fun h11_1 => ?_) (fun h11_1 => ?_)
  · refine ezw_aload_n rfl rfl ?_
    refine ezw_iload_n rfl rfl ?_
    refine ezw_call0_1 rfl (by omega) (ezm_at rfl) rfl rfl rfl rfl (ezm_m226 hT (by omega) (ezm_in78 ku1) (by omega) hs (by omega) (by omega) (by omega) (by omega)) ?_
    rintro _ _ ⟨x7_2, x8_2, x19_2, x82_2, x84_2, rfl, hT, p2_0, p2_1, p2_2, p2_3, rn_2, rf_2, rfl⟩
    have k3 := hT.t7
    have k4 := hT.t8
    have k5 := hT.t19
    refine ezw_bipush (117) rfl rfl ?_
    refine ezw_iconst (4) rfl rfl ?_
    refine ezw_iload_n rfl rfl ?_
    refine ezw_imul (k := 4 * u1) rfl (by omega) ?_
    refine ezw_iadd (k := 4 * u1 + 117) rfl (by omega) ?_
    refine ezw_istore_n rfl rfl ?_
    refine ezw_aload_n rfl rfl ?_
    refine ezm_gp (p := 78) rfl (fun _ => rfl) ?_
    refine ezw_iload_n rfl rfl ?_
    refine ezw_aload_n rfl rfl ?_
    refine ezw_iconst (1) rfl rfl ?_
    refine ezw_iconst (1) rfl rfl ?_
    refine ezw_bipush (60) rfl rfl ?_
    refine ezw_call0_3 rfl (by omega) (ezm_at rfl) rfl rfl rfl rfl (ezm_m230 hT (by omega) ⟨by decide, by decide⟩ ⟨by decide, by decide⟩ ⟨by decide, by decide⟩ (by omega) hs (by omega) (by omega)) ?_
    rintro _ _ ⟨x7_6, x8_6, rfl, hT, u7, hu7, p6_0, p6_1, p6_2, rfl⟩
    have k8 := hT.t7
    have k9 := hT.t8
    refine ezm_s78 hT rfl (by omega) (by omega) ⟨hu7, by omega, by omega, by omega, by omega, by omega, by omega, by omega⟩ (fun r78_10 hT er78_10 fr78_10 => ?_)
    refine ezw_aload_n rfl rfl ?_
    refine ezm_gp (p := 78) rfl (fun _ => rfl) ?_
    refine ezw_iload_n rfl rfl ?_
    refine ezw_iconst (1) rfl rfl ?_
    refine ezw_iadd (k := 4 * u1 + 118) rfl (by omega) ?_
    refine ezw_aload_n rfl rfl ?_
    refine ezw_iconst (2) rfl rfl ?_
    refine ezw_iconst (1) rfl rfl ?_
    refine ezw_bipush (20) rfl rfl ?_
    refine ezw_call0_3 rfl (by omega) (ezm_at rfl) rfl rfl rfl rfl (ezm_m230 hT (by omega) ⟨by decide, by decide⟩ ⟨by decide, by decide⟩ ⟨by decide, by decide⟩ (by omega) hs (by omega) (by omega)) ?_
    rintro _ _ ⟨x7_11, x8_11, rfl, hT, u12, hu12, p11_0, p11_1, p11_2, rfl⟩
    have k13 := hT.t7
    have k14 := hT.t8
    refine ezm_s78 hT rfl (by omega) (by omega) ⟨hu12, by omega, by omega, by omega, by omega, by omega, by omega, by omega⟩ (fun r78_15 hT er78_15 fr78_15 => ?_)
    refine ezw_aload_n rfl rfl ?_
    refine ezw_iconst (3) rfl rfl ?_
    refine ezw_call0_1 rfl (by omega) (ezm_at rfl) rfl rfl rfl rfl (ezm_m231 hT (by omega) ⟨by decide, by decide⟩ (by omega) hs (by omega) (by omega)) ?_
    rintro _ _ ⟨x7_16, x8_16, rfl, hT, p16_0, p16_1, p16_2, rfl⟩
    have k17 := hT.t7
    have k18 := hT.t8
    refine ezw_aload_n rfl rfl ?_
    refine ezm_gp (p := 78) rfl (fun _ => rfl) ?_
    refine ezw_iload_n rfl rfl ?_
    refine ezw_iconst (2) rfl rfl ?_
    refine ezw_iadd (k := 4 * u1 + 119) rfl (by omega) ?_
    refine ezw_aload_n rfl rfl ?_
    refine ezw_bipush (30) rfl rfl ?_
    refine ezw_iconst (4) rfl rfl ?_
    refine ezw_call0_2 rfl (by omega) (ezm_at rfl) rfl rfl rfl rfl (ezm_m234 hT (by omega) ⟨by decide, by decide⟩ ⟨by decide, by decide⟩ (by omega) hs (by omega) (by omega)) ?_
    rintro _ _ ⟨x7_19, x8_19, rfl, hT, u20, hu20, p19_0, p19_1, p19_2, rfl⟩
    have k21 := hT.t7
    have k22 := hT.t8
    refine ezm_s78 hT rfl (by omega) (by omega) ⟨hu20, by omega, by omega, by omega, by omega, by omega, by omega, by omega⟩ (fun r78_23 hT er78_23 fr78_23 => ?_)
    refine ezw_aload_n rfl rfl ?_
    refine ezm_gp (p := 78) rfl (fun _ => rfl) ?_
    refine ezw_iload_n rfl rfl ?_
    refine ezw_iconst (3) rfl rfl ?_
    refine ezw_iadd (k := 4 * u1 + 120) rfl (by omega) ?_
    refine ezw_iconst (-1) rfl rfl ?_
    refine ezm_s78 hT rfl (by omega) (by omega) ⟨⟨by decide, by decide⟩, by omega, by omega, by omega, by omega, by omega, by omega, by omega⟩ (fun r78_24 hT er78_24 fr78_24 => ?_)
    refine ezw_aload_n rfl rfl ?_
    refine ezw_iconst (4) rfl rfl ?_
    refine ezw_call0_1 rfl (by omega) (ezm_at rfl) rfl rfl rfl rfl (ezm_m232 hT (by omega) ⟨by decide, by decide⟩ (by omega) hs (by omega) (by omega)) ?_
    rintro _ _ ⟨x7_25, rfl, hT, u26, hu26, p25_0, p25_1, p25_2, p25_3, rfl⟩
    have k27 := hT.t7
    refine ezw_if_eq rfl rfl ⟨by omega, by omega⟩ (fun h96_27 => ?_) (fun h96_27 => ?_)
    · refine ezw_aload_n rfl rfl ?_
      refine ezm_gp (p := 78) rfl (fun _ => rfl) ?_
      refine ezw_bipush (100) rfl rfl ?_
      refine ezw_dup2 rfl rfl rfl ?_
      refine ezm_l78 rfl (by omega) (by omega) (fun u28 eu28 => ?_)
      have ku28 : ezm_k78 (100) u28 := eu28 ▸ hT.t78 (100)
      have zu28 := ezm_za0 ku28 (by omega)
      have qu28 : u28 = u1 := by rw [eu28, fr78_24 (100) (by omega), fr78_23 (100) (by omega), fr78_15 (100) (by omega), fr78_10 (100) (by omega), ← eu1]
      refine ezw_iconst (1) rfl rfl ?_
      refine ezw_iadd (k := u28 + 1) rfl (by omega) ?_
      refine ezm_s78 hT rfl (by omega) (by omega) ⟨⟨by omega, by omega⟩, by omega, by omega, by omega, by omega, by omega, by omega, by omega⟩ (fun r78_29 hT er78_29 fr78_29 => ?_)
      exact ezw_return rfl rfl ⟨x7_25, x8_19, x19_2, r78_29, x82_2, x84_2, rfl, hT, by omega, fun j hj => by rw [fr78_29 j (by omega), fr78_24 j (by omega), fr78_23 j (by omega), fr78_15 j (by omega), fr78_10 j (by omega)], fun z => by
            exact ezm_RD_twig rd eu1 (by omega) (by omega) (by omega) (by omega) (by rw [er78_29]; omega) (fun j h1 h2 => by rw [fr78_29 j (by omega), fr78_24 j (by omega), fr78_23 j (by omega), fr78_15 j (by omega), fr78_10 j (by omega)]) (by rw [fr78_29 (4 * u1 + 120) (by omega), er78_24]; omega) (rn_2 (by omega)) rf_2, rfl⟩
    · refine ezw_aload_n rfl rfl ?_
      refine ezw_iconst (1) rfl rfl ?_
      refine ezw_iconst (0) rfl rfl ?_
      refine ezw_bipush (8) rfl rfl ?_
      refine ezw_call0_3 rfl (by omega) (ezm_at rfl) rfl rfl rfl rfl (ezm_m235_v1 hT (by omega) ⟨by decide, by decide⟩ ⟨by decide, by decide⟩ (by omega) hs (by omega) (by omega) (by omega)) ?_
      rintro _ _ ⟨x8_30, rfl, hT, u31, hu31, p30_0, p30_1, p30_2, f_30, rfl⟩
      have k32 := hT.t8
      refine ezw_istore_n rfl rfl ?_
      refine ezw_aload_n rfl rfl ?_
      refine ezm_g8 rfl ?_
      refine ezw_if_ne rfl rfl ⟨by omega, by omega⟩ (fun h112_32 => ?_) (fun h112_32 => ?_)
      · refine ezw_aload_n rfl rfl ?_
        refine ezw_dup rfl rfl ?_
        refine ezm_g7 rfl ?_
        refine ezw_aload_n rfl rfl ?_
        refine ezm_g8 rfl ?_
        refine ezw_if_le rfl rfl ⟨by omega, by omega⟩ (fun h134_32 => ?_) (fun h134_32 => ?_)
        · refine ezw_iconst (1) rfl rfl ?_
          refine ezw_iadd (k := x7_25 + 1) rfl (by omega) ?_
          refine ezm_p7 hT rfl ⟨by omega, by omega⟩ (fun hT => ?_)
          refine ezw_aload_n rfl rfl ?_
          refine ezm_gp (p := 78) rfl (fun _ => rfl) ?_
          refine ezw_iload_n rfl rfl ?_
          refine ezw_iconst (3) rfl rfl ?_
          refine ezw_iadd (k := 4 * u1 + 120) rfl (by omega) ?_
          refine ezw_iload_n rfl rfl ?_
          refine ezm_s78 hT rfl (by omega) (by omega) ⟨hu31, by omega, by omega, by omega, by omega, by omega, by omega, by omega⟩ (fun r78_33 hT er78_33 fr78_33 => ?_)
          refine ezw_aload_n rfl rfl ?_
          refine ezm_gp (p := 78) rfl (fun _ => rfl) ?_
          refine ezw_bipush (100) rfl rfl ?_
          refine ezw_dup2 rfl rfl rfl ?_
          refine ezm_l78 rfl (by omega) (by omega) (fun u34 eu34 => ?_)
          have ku34 : ezm_k78 (100) u34 := eu34 ▸ hT.t78 (100)
          have zu34 := ezm_za0 ku34 (by omega)
          have qu34 : u34 = u1 := by rw [eu34, fr78_33 (100) (by omega), fr78_24 (100) (by omega), fr78_23 (100) (by omega), fr78_15 (100) (by omega), fr78_10 (100) (by omega), ← eu1]
          refine ezw_iconst (1) rfl rfl ?_
          refine ezw_iadd (k := u34 + 1) rfl (by omega) ?_
          refine ezm_s78 hT rfl (by omega) (by omega) ⟨⟨by omega, by omega⟩, by omega, by omega, by omega, by omega, by omega, by omega, by omega⟩ (fun r78_35 hT er78_35 fr78_35 => ?_)
          exact ezw_return rfl rfl ⟨(x7_25 + 1), x8_30, x19_2, r78_35, x82_2, x84_2, rfl, hT, by omega, fun j hj => by rw [fr78_35 j (by omega), fr78_33 j (by omega), fr78_24 j (by omega), fr78_23 j (by omega), fr78_15 j (by omega), fr78_10 j (by omega)], fun z => by
                have hon := ezm_RD_on rd eu1 (show x19_2 = i19 + 1 by omega) (rn_2 (by omega)) rf_2 (f_30 (by omega)) (by omega) (by omega)
                exact ezm_RD_twig rd eu1 (by omega) (by omega) (by omega) (by omega) (by rw [er78_35]; omega) (fun j h1 h2 => by rw [fr78_35 j (by omega), fr78_33 j (by omega), fr78_24 j (by omega), fr78_23 j (by omega), fr78_15 j (by omega), fr78_10 j (by omega)]) (by rw [fr78_35 (4 * u1 + 120) (by omega), er78_33]; omega) (rn_2 (by omega)) rf_2, rfl⟩
        · refine ezw_iconst (0) rfl rfl ?_
          refine ezw_goto rfl rfl ?_
          refine ezw_iadd (k := x7_25) rfl (by omega) ?_
          refine ezm_p7 hT rfl ⟨by omega, by omega⟩ (fun hT => ?_)
          refine ezw_aload_n rfl rfl ?_
          refine ezm_gp (p := 78) rfl (fun _ => rfl) ?_
          refine ezw_iload_n rfl rfl ?_
          refine ezw_iconst (3) rfl rfl ?_
          refine ezw_iadd (k := 4 * u1 + 120) rfl (by omega) ?_
          refine ezw_iload_n rfl rfl ?_
          refine ezm_s78 hT rfl (by omega) (by omega) ⟨hu31, by omega, by omega, by omega, by omega, by omega, by omega, by omega⟩ (fun r78_36 hT er78_36 fr78_36 => ?_)
          refine ezw_aload_n rfl rfl ?_
          refine ezm_gp (p := 78) rfl (fun _ => rfl) ?_
          refine ezw_bipush (100) rfl rfl ?_
          refine ezw_dup2 rfl rfl rfl ?_
          refine ezm_l78 rfl (by omega) (by omega) (fun u37 eu37 => ?_)
          have ku37 : ezm_k78 (100) u37 := eu37 ▸ hT.t78 (100)
          have zu37 := ezm_za0 ku37 (by omega)
          have qu37 : u37 = u1 := by rw [eu37, fr78_36 (100) (by omega), fr78_24 (100) (by omega), fr78_23 (100) (by omega), fr78_15 (100) (by omega), fr78_10 (100) (by omega), ← eu1]
          refine ezw_iconst (1) rfl rfl ?_
          refine ezw_iadd (k := u37 + 1) rfl (by omega) ?_
          refine ezm_s78 hT rfl (by omega) (by omega) ⟨⟨by omega, by omega⟩, by omega, by omega, by omega, by omega, by omega, by omega, by omega⟩ (fun r78_38 hT er78_38 fr78_38 => ?_)
          exact ezw_return rfl rfl ⟨x7_25, x8_30, x19_2, r78_38, x82_2, x84_2, rfl, hT, by omega, fun j hj => by rw [fr78_38 j (by omega), fr78_36 j (by omega), fr78_24 j (by omega), fr78_23 j (by omega), fr78_15 j (by omega), fr78_10 j (by omega)], fun z => by
                have hon := ezm_RD_on rd eu1 (show x19_2 = i19 + 1 by omega) (rn_2 (by omega)) rf_2 (f_30 (by omega)) (by omega) (by omega)
                exact ezm_RD_twig rd eu1 (by omega) (by omega) (by omega) (by omega) (by rw [er78_38]; omega) (fun j h1 h2 => by rw [fr78_38 j (by omega), fr78_36 j (by omega), fr78_24 j (by omega), fr78_23 j (by omega), fr78_15 j (by omega), fr78_10 j (by omega)]) (by rw [fr78_38 (4 * u1 + 120) (by omega), er78_36]; omega) (rn_2 (by omega)) rf_2, rfl⟩
      · refine ezw_iload_n rfl rfl ?_
        refine ezw_iload_n rfl rfl ?_
        refine ezw_icmp_ne rfl rfl hu31 (ezm_in78 ku1) (fun h117_38 => ?_) (fun h117_38 => ?_)
        · refine ezw_aload_n rfl rfl ?_
          refine ezw_dup rfl rfl ?_
          refine ezm_g7 rfl ?_
          refine ezw_aload_n rfl rfl ?_
          refine ezm_g8 rfl ?_
          refine ezw_if_le rfl rfl ⟨by omega, by omega⟩ (fun h134_38 => ?_) (fun h134_38 => ?_)
          · refine ezw_iconst (1) rfl rfl ?_
            refine ezw_iadd (k := x7_25 + 1) rfl (by omega) ?_
            refine ezm_p7 hT rfl ⟨by omega, by omega⟩ (fun hT => ?_)
            refine ezw_aload_n rfl rfl ?_
            refine ezm_gp (p := 78) rfl (fun _ => rfl) ?_
            refine ezw_iload_n rfl rfl ?_
            refine ezw_iconst (3) rfl rfl ?_
            refine ezw_iadd (k := 4 * u1 + 120) rfl (by omega) ?_
            refine ezw_iload_n rfl rfl ?_
            refine ezm_s78 hT rfl (by omega) (by omega) ⟨hu31, by omega, by omega, by omega, by omega, by omega, by omega, by omega⟩ (fun r78_39 hT er78_39 fr78_39 => ?_)
            refine ezw_aload_n rfl rfl ?_
            refine ezm_gp (p := 78) rfl (fun _ => rfl) ?_
            refine ezw_bipush (100) rfl rfl ?_
            refine ezw_dup2 rfl rfl rfl ?_
            refine ezm_l78 rfl (by omega) (by omega) (fun u40 eu40 => ?_)
            have ku40 : ezm_k78 (100) u40 := eu40 ▸ hT.t78 (100)
            have zu40 := ezm_za0 ku40 (by omega)
            have qu40 : u40 = u1 := by rw [eu40, fr78_39 (100) (by omega), fr78_24 (100) (by omega), fr78_23 (100) (by omega), fr78_15 (100) (by omega), fr78_10 (100) (by omega), ← eu1]
            refine ezw_iconst (1) rfl rfl ?_
            refine ezw_iadd (k := u40 + 1) rfl (by omega) ?_
            refine ezm_s78 hT rfl (by omega) (by omega) ⟨⟨by omega, by omega⟩, by omega, by omega, by omega, by omega, by omega, by omega, by omega⟩ (fun r78_41 hT er78_41 fr78_41 => ?_)
            exact ezw_return rfl rfl ⟨(x7_25 + 1), x8_30, x19_2, r78_41, x82_2, x84_2, rfl, hT, by omega, fun j hj => by rw [fr78_41 j (by omega), fr78_39 j (by omega), fr78_24 j (by omega), fr78_23 j (by omega), fr78_15 j (by omega), fr78_10 j (by omega)], fun z => by
                  have hon := ezm_RD_on rd eu1 (show x19_2 = i19 + 1 by omega) (rn_2 (by omega)) rf_2 (f_30 (by omega)) (by omega) (by omega)
                  exact ezm_RD_twig rd eu1 (by omega) (by omega) (by omega) (by omega) (by rw [er78_41]; omega) (fun j h1 h2 => by rw [fr78_41 j (by omega), fr78_39 j (by omega), fr78_24 j (by omega), fr78_23 j (by omega), fr78_15 j (by omega), fr78_10 j (by omega)]) (by rw [fr78_41 (4 * u1 + 120) (by omega), er78_39]; omega) (rn_2 (by omega)) rf_2, rfl⟩
          · refine ezw_iconst (0) rfl rfl ?_
            refine ezw_goto rfl rfl ?_
            refine ezw_iadd (k := x7_25) rfl (by omega) ?_
            refine ezm_p7 hT rfl ⟨by omega, by omega⟩ (fun hT => ?_)
            refine ezw_aload_n rfl rfl ?_
            refine ezm_gp (p := 78) rfl (fun _ => rfl) ?_
            refine ezw_iload_n rfl rfl ?_
            refine ezw_iconst (3) rfl rfl ?_
            refine ezw_iadd (k := 4 * u1 + 120) rfl (by omega) ?_
            refine ezw_iload_n rfl rfl ?_
            refine ezm_s78 hT rfl (by omega) (by omega) ⟨hu31, by omega, by omega, by omega, by omega, by omega, by omega, by omega⟩ (fun r78_42 hT er78_42 fr78_42 => ?_)
            refine ezw_aload_n rfl rfl ?_
            refine ezm_gp (p := 78) rfl (fun _ => rfl) ?_
            refine ezw_bipush (100) rfl rfl ?_
            refine ezw_dup2 rfl rfl rfl ?_
            refine ezm_l78 rfl (by omega) (by omega) (fun u43 eu43 => ?_)
            have ku43 : ezm_k78 (100) u43 := eu43 ▸ hT.t78 (100)
            have zu43 := ezm_za0 ku43 (by omega)
            have qu43 : u43 = u1 := by rw [eu43, fr78_42 (100) (by omega), fr78_24 (100) (by omega), fr78_23 (100) (by omega), fr78_15 (100) (by omega), fr78_10 (100) (by omega), ← eu1]
            refine ezw_iconst (1) rfl rfl ?_
            refine ezw_iadd (k := u43 + 1) rfl (by omega) ?_
            refine ezm_s78 hT rfl (by omega) (by omega) ⟨⟨by omega, by omega⟩, by omega, by omega, by omega, by omega, by omega, by omega, by omega⟩ (fun r78_44 hT er78_44 fr78_44 => ?_)
            exact ezw_return rfl rfl ⟨x7_25, x8_30, x19_2, r78_44, x82_2, x84_2, rfl, hT, by omega, fun j hj => by rw [fr78_44 j (by omega), fr78_42 j (by omega), fr78_24 j (by omega), fr78_23 j (by omega), fr78_15 j (by omega), fr78_10 j (by omega)], fun z => by
                  have hon := ezm_RD_on rd eu1 (show x19_2 = i19 + 1 by omega) (rn_2 (by omega)) rf_2 (f_30 (by omega)) (by omega) (by omega)
                  exact ezm_RD_twig rd eu1 (by omega) (by omega) (by omega) (by omega) (by rw [er78_44]; omega) (fun j h1 h2 => by rw [fr78_44 j (by omega), fr78_42 j (by omega), fr78_24 j (by omega), fr78_23 j (by omega), fr78_15 j (by omega), fr78_10 j (by omega)]) (by rw [fr78_44 (4 * u1 + 120) (by omega), er78_42]; omega) (rn_2 (by omega)) rf_2, rfl⟩
        · refine ezw_aload_n rfl rfl ?_
          refine ezw_iconst (2) rfl rfl ?_
          refine ezw_call0_1 rfl (by omega) (ezm_at rfl) rfl rfl rfl rfl (ezm_m225 hT (by omega) ⟨by decide, by decide⟩ (by omega) (by omega)) ?_
          rintro _ _ ⟨x8_45, rfl, hT, p45_0, p45_1, rfl⟩
          have k46 := hT.t8
          refine ezw_aload_n rfl rfl ?_
          refine ezw_dup rfl rfl ?_
          refine ezm_g7 rfl ?_
          refine ezw_aload_n rfl rfl ?_
          refine ezm_g8 rfl ?_
          refine ezw_if_le rfl rfl ⟨by omega, by omega⟩ (fun h134_46 => ?_) (fun h134_46 => ?_)
          · refine ezw_iconst (1) rfl rfl ?_
            refine ezw_iadd (k := x7_25 + 1) rfl (by omega) ?_
            refine ezm_p7 hT rfl ⟨by omega, by omega⟩ (fun hT => ?_)
            refine ezw_aload_n rfl rfl ?_
            refine ezm_gp (p := 78) rfl (fun _ => rfl) ?_
            refine ezw_iload_n rfl rfl ?_
            refine ezw_iconst (3) rfl rfl ?_
            refine ezw_iadd (k := 4 * u1 + 120) rfl (by omega) ?_
            refine ezw_iload_n rfl rfl ?_
            refine ezm_s78 hT rfl (by omega) (by omega) ⟨hu31, by omega, by omega, by omega, by omega, by omega, by omega, by omega⟩ (fun r78_47 hT er78_47 fr78_47 => ?_)
            refine ezw_aload_n rfl rfl ?_
            refine ezm_gp (p := 78) rfl (fun _ => rfl) ?_
            refine ezw_bipush (100) rfl rfl ?_
            refine ezw_dup2 rfl rfl rfl ?_
            refine ezm_l78 rfl (by omega) (by omega) (fun u48 eu48 => ?_)
            have ku48 : ezm_k78 (100) u48 := eu48 ▸ hT.t78 (100)
            have zu48 := ezm_za0 ku48 (by omega)
            have qu48 : u48 = u1 := by rw [eu48, fr78_47 (100) (by omega), fr78_24 (100) (by omega), fr78_23 (100) (by omega), fr78_15 (100) (by omega), fr78_10 (100) (by omega), ← eu1]
            refine ezw_iconst (1) rfl rfl ?_
            refine ezw_iadd (k := u48 + 1) rfl (by omega) ?_
            refine ezm_s78 hT rfl (by omega) (by omega) ⟨⟨by omega, by omega⟩, by omega, by omega, by omega, by omega, by omega, by omega, by omega⟩ (fun r78_49 hT er78_49 fr78_49 => ?_)
            exact ezw_return rfl rfl ⟨(x7_25 + 1), x8_45, x19_2, r78_49, x82_2, x84_2, rfl, hT, by omega, fun j hj => by rw [fr78_49 j (by omega), fr78_47 j (by omega), fr78_24 j (by omega), fr78_23 j (by omega), fr78_15 j (by omega), fr78_10 j (by omega)], fun z => by
                  have hon := ezm_RD_on rd eu1 (show x19_2 = i19 + 1 by omega) (rn_2 (by omega)) rf_2 (f_30 (by omega)) (by omega) (by omega)
                  exact ezm_RD_twig rd eu1 (by omega) (by omega) (by omega) (by omega) (by rw [er78_49]; omega) (fun j h1 h2 => by rw [fr78_49 j (by omega), fr78_47 j (by omega), fr78_24 j (by omega), fr78_23 j (by omega), fr78_15 j (by omega), fr78_10 j (by omega)]) (by rw [fr78_49 (4 * u1 + 120) (by omega), er78_47]; omega) (rn_2 (by omega)) rf_2, rfl⟩
          · refine ezw_iconst (0) rfl rfl ?_
            refine ezw_goto rfl rfl ?_
            refine ezw_iadd (k := x7_25) rfl (by omega) ?_
            refine ezm_p7 hT rfl ⟨by omega, by omega⟩ (fun hT => ?_)
            refine ezw_aload_n rfl rfl ?_
            refine ezm_gp (p := 78) rfl (fun _ => rfl) ?_
            refine ezw_iload_n rfl rfl ?_
            refine ezw_iconst (3) rfl rfl ?_
            refine ezw_iadd (k := 4 * u1 + 120) rfl (by omega) ?_
            refine ezw_iload_n rfl rfl ?_
            refine ezm_s78 hT rfl (by omega) (by omega) ⟨hu31, by omega, by omega, by omega, by omega, by omega, by omega, by omega⟩ (fun r78_50 hT er78_50 fr78_50 => ?_)
            refine ezw_aload_n rfl rfl ?_
            refine ezm_gp (p := 78) rfl (fun _ => rfl) ?_
            refine ezw_bipush (100) rfl rfl ?_
            refine ezw_dup2 rfl rfl rfl ?_
            refine ezm_l78 rfl (by omega) (by omega) (fun u51 eu51 => ?_)
            have ku51 : ezm_k78 (100) u51 := eu51 ▸ hT.t78 (100)
            have zu51 := ezm_za0 ku51 (by omega)
            have qu51 : u51 = u1 := by rw [eu51, fr78_50 (100) (by omega), fr78_24 (100) (by omega), fr78_23 (100) (by omega), fr78_15 (100) (by omega), fr78_10 (100) (by omega), ← eu1]
            refine ezw_iconst (1) rfl rfl ?_
            refine ezw_iadd (k := u51 + 1) rfl (by omega) ?_
            refine ezm_s78 hT rfl (by omega) (by omega) ⟨⟨by omega, by omega⟩, by omega, by omega, by omega, by omega, by omega, by omega, by omega⟩ (fun r78_52 hT er78_52 fr78_52 => ?_)
            exact ezw_return rfl rfl ⟨x7_25, x8_45, x19_2, r78_52, x82_2, x84_2, rfl, hT, by omega, fun j hj => by rw [fr78_52 j (by omega), fr78_50 j (by omega), fr78_24 j (by omega), fr78_23 j (by omega), fr78_15 j (by omega), fr78_10 j (by omega)], fun z => by
                  have hon := ezm_RD_on rd eu1 (show x19_2 = i19 + 1 by omega) (rn_2 (by omega)) rf_2 (f_30 (by omega)) (by omega) (by omega)
                  exact ezm_RD_twig rd eu1 (by omega) (by omega) (by omega) (by omega) (by rw [er78_52]; omega) (fun j h1 h2 => by rw [fr78_52 j (by omega), fr78_50 j (by omega), fr78_24 j (by omega), fr78_23 j (by omega), fr78_15 j (by omega), fr78_10 j (by omega)]) (by rw [fr78_52 (4 * u1 + 120) (by omega), er78_50]; omega) (rn_2 (by omega)) rf_2, rfl⟩
  · refine ezw_aload_n rfl rfl ?_
    refine ezw_iconst (5) rfl rfl ?_
    refine ezw_call0_1 rfl (by omega) (ezm_at rfl) rfl rfl rfl rfl (ezm_m225 hT (by omega) ⟨by decide, by decide⟩ (by omega) (by omega)) ?_
    rintro _ _ ⟨x8_53, rfl, hT, p53_0, p53_1, rfl⟩
    have k54 := hT.t8
    exact ezw_return rfl rfl ⟨i7, x8_53, i19, r78, r82, r84, rfl, hT, by omega, fun _ _ => rfl, fun z => absurd z (by omega), rfl⟩
def ezm_m237Q (e : Bool × Bool) (F : Nat → Nat → Int) (A : Nat → Int → Int) (i0 i2 i3 i7 i8 i13 i18 i19 i20 i25 i29 i30 i31 i36 i37 i38 : Int) (r73 r74 r75 r76 r77 r78 r79 r80 r81 r82 r83 r84 r85 r86 r87 r88 r89 r90 r91 r92 r93 r94 r95 : Int → Int) (n : Int) : Option ezq_V → (Nat → ezq_C) → Prop := fun v g' => ∃ (x7 x8 x19 : Int) (x78 x82 x84 : Int → Int), ezm_h e F A i0 i2 i3 x7 x8 i13 i18 x19 i20 i25 i29 i30 i31 i36 i37 i38 r73 r74 r75 r76 r77 x78 r79 r80 r81 x82 r83 x84 r85 r86 r87 r88 r89 r90 r91 r92 r93 r94 r95 = g' ∧ ezm_T i0 i2 i3 x7 x8 i13 i18 x19 i20 i25 i29 i30 i31 i36 i37 i38 r73 r74 r75 r76 r77 x78 r79 r80 r81 x82 r83 x84 r85 r86 r87 r88 r89 r90 r91 r92 r93 r94 r95 ∧ (i7 ≤ x7 ∧ x7 ≤ n) ∧ (∀ j, j < 100 → x78 j = r78 j) ∧ (x8 = 0 → ezm_RD i13 x19 x78 r79 r80 x84) ∧ none = v
theorem ezm_m237 {n : Int} (hT : ezm_T i0 i2 i3 i7 i8 i13 i18 i19 i20 i25 i29 i30 i31 i36 i37 i38 r73 r74 r75 r76 r77 r78 r79 r80 r81 r82 r83 r84 r85 r86 r87 r88 r89 r90 r91 r92 r93 r94 r95) (hd : 4 ≤ d) (hn : 0 ≤ i7 ∧ i7 ≤ n) (hs : r74 n = 0) (h1 : n ≤ 1000) (h0 : i8 = 0) (hc : 0 ≤ i13 ∧ i13 ≤ i7) (rd : ezm_RD i13 i19 r78 r79 r80 r84) (gn : i7 < n) : ezw_C l ρ B xa Hb D cA 237 d [ezw_p 72] (ezm_h e F A i0 i2 i3 i7 i8 i13 i18 i19 i20 i25 i29 i30 i31 i36 i37 i38 r73 r74 r75 r76 r77 r78 r79 r80 r81 r82 r83 r84 r85 r86 r87 r88 r89 r90 r91 r92 r93 r94 r95) (ezm_m237Q  e F A i0 i2 i3 i7 i8 i13 i18 i19 i20 i25 i29 i30 i31 i36 i37 i38 r73 r74 r75 r76 r77 r78 r79 r80 r81 r82 r83 r84 r85 r86 r87 r88 r89 r90 r91 r92 r93 r94 r95 n) := by
  refine ezw_met (k := 2) rfl rfl ?_
  refine ezw_aload_n rfl rfl ?_
  refine ezm_gp (p := 78) rfl (fun _ => rfl) ?_
  refine ezw_bipush (101) rfl rfl ?_
  refine ezm_l78 rfl (by omega) (by omega) (fun u1 eu1 => ?_)
  have ku1 : ezm_k78 (101) u1 := eu1 ▸ hT.t78 (101)
  have zu1 := ezm_za1 ku1 (by omega)
  have b19 := hT.t19
  have bm := rd.1
  have b1 := ezm_za1 (hT.t78 101) (by decide)
  have b0 := ezm_za0 (hT.t78 100) (by decide)
  have b3 := ezm_za3 (hT.t78 103) (by decide)
  refine ezw_istore_n rfl rfl ?_
  refine ezw_iload_n rfl rfl ?_
  refine ezw_iconst (4) rfl rfl ?_
  refine ezw_icmp_ne rfl rfl (ezm_in78 ku1) ⟨by decide, by decide⟩ (fun h10_1 => ?_) (fun h10_1 => ?_)
  · refine ezw_aload_n rfl rfl ?_
    refine ezw_bipush (20) rfl rfl ?_
    refine ezw_iload_n rfl rfl ?_
    refine ezw_iadd (k := u1 + 20) rfl (by omega) ?_
    refine ezw_call0_1 rfl (by omega) (ezm_at rfl) rfl rfl rfl rfl (ezm_m226 hT (by omega) ⟨by omega, by omega⟩ (by omega) hs (by omega) (by omega) (by omega) (by omega)) ?_
    rintro _ _ ⟨x7_2, x8_2, x19_2, x82_2, x84_2, rfl, hT, p2_0, p2_1, p2_2, p2_3, rn_2, rf_2, rfl⟩
    have k3 := hT.t7
    have k4 := hT.t8
    have k5 := hT.t19
    refine ezw_sipush (149) rfl rfl ?_
    refine ezw_iconst (4) rfl rfl ?_
    refine ezw_iload_n rfl rfl ?_
    refine ezw_imul (k := 4 * u1) rfl (by omega) ?_
    refine ezw_iadd (k := 4 * u1 + 149) rfl (by omega) ?_
    refine ezw_istore_n rfl rfl ?_
    refine ezw_aload_n rfl rfl ?_
    refine ezm_gp (p := 78) rfl (fun _ => rfl) ?_
    refine ezw_iload_n rfl rfl ?_
    refine ezw_aload_n rfl rfl ?_
    refine ezw_bipush (7) rfl rfl ?_
    refine ezw_iconst (0) rfl rfl ?_
    refine ezw_sipush (999) rfl rfl ?_
    refine ezw_call0_3 rfl (by omega) (ezm_at rfl) rfl rfl rfl rfl (ezm_m230 hT (by omega) ⟨by decide, by decide⟩ ⟨by decide, by decide⟩ ⟨by decide, by decide⟩ (by omega) hs (by omega) (by omega)) ?_
    rintro _ _ ⟨x7_6, x8_6, rfl, hT, u7, hu7, p6_0, p6_1, p6_2, rfl⟩
    have k8 := hT.t7
    have k9 := hT.t8
    refine ezm_s78 hT rfl (by omega) (by omega) ⟨hu7, by omega, by omega, by omega, by omega, by omega, by omega, by omega⟩ (fun r78_10 hT er78_10 fr78_10 => ?_)
    refine ezw_aload_n rfl rfl ?_
    refine ezm_gp (p := 78) rfl (fun _ => rfl) ?_
    refine ezw_iload_n rfl rfl ?_
    refine ezw_iconst (1) rfl rfl ?_
    refine ezw_iadd (k := 4 * u1 + 150) rfl (by omega) ?_
    refine ezw_aload_n rfl rfl ?_
    refine ezw_bipush (10) rfl rfl ?_
    refine ezw_iconst (0) rfl rfl ?_
    refine ezw_bipush (10) rfl rfl ?_
    refine ezw_call0_3 rfl (by omega) (ezm_at rfl) rfl rfl rfl rfl (ezm_m230 hT (by omega) ⟨by decide, by decide⟩ ⟨by decide, by decide⟩ ⟨by decide, by decide⟩ (by omega) hs (by omega) (by omega)) ?_
    rintro _ _ ⟨x7_11, x8_11, rfl, hT, u12, hu12, p11_0, p11_1, p11_2, rfl⟩
    have k13 := hT.t7
    have k14 := hT.t8
    refine ezm_s78 hT rfl (by omega) (by omega) ⟨hu12, by omega, by omega, by omega, by omega, by omega, by omega, by omega⟩ (fun r78_15 hT er78_15 fr78_15 => ?_)
    refine ezw_aload_n rfl rfl ?_
    refine ezm_gp (p := 78) rfl (fun _ => rfl) ?_
    refine ezw_iload_n rfl rfl ?_
    refine ezw_iconst (2) rfl rfl ?_
    refine ezw_iadd (k := 4 * u1 + 151) rfl (by omega) ?_
    refine ezw_aload_n rfl rfl ?_
    refine ezw_bipush (11) rfl rfl ?_
    refine ezw_iconst (0) rfl rfl ?_
    refine ezw_bipush (10) rfl rfl ?_
    refine ezw_aload_n rfl rfl ?_
    refine ezm_gp (p := 78) rfl (fun _ => rfl) ?_
    refine ezw_iload_n rfl rfl ?_
    refine ezw_iconst (1) rfl rfl ?_
    refine ezw_iadd (k := 4 * u1 + 150) rfl (by omega) ?_
    refine ezm_l78 rfl (by omega) (by omega) (fun u16 eu16 => ?_)
    have ku16 : ezm_k78 (4 * u1 + 150) u16 := eu16 ▸ hT.t78 (4 * u1 + 150)
    refine ezw_isub (k := -u16 + 10) rfl (by omega) ?_
    refine ezw_call0_3 rfl (by omega) (ezm_at rfl) rfl rfl rfl rfl (ezm_m230 hT (by omega) ⟨by decide, by decide⟩ ⟨by decide, by decide⟩ ⟨by omega, by omega⟩ (by omega) hs (by omega) (by omega)) ?_
    rintro _ _ ⟨x7_17, x8_17, rfl, hT, u18, hu18, p17_0, p17_1, p17_2, rfl⟩
    have k19 := hT.t7
    have k20 := hT.t8
    refine ezm_s78 hT rfl (by omega) (by omega) ⟨hu18, by omega, by omega, by omega, by omega, by omega, by omega, by omega⟩ (fun r78_21 hT er78_21 fr78_21 => ?_)
    refine ezw_aload_n rfl rfl ?_
    refine ezm_gp (p := 78) rfl (fun _ => rfl) ?_
    refine ezw_bipush (101) rfl rfl ?_
    refine ezw_dup2 rfl rfl rfl ?_
    refine ezm_l78 rfl (by omega) (by omega) (fun u22 eu22 => ?_)
    have ku22 : ezm_k78 (101) u22 := eu22 ▸ hT.t78 (101)
    have zu22 := ezm_za1 ku22 (by omega)
    have qu22 : u22 = u1 := by rw [eu22, fr78_21 (101) (by omega), fr78_15 (101) (by omega), fr78_10 (101) (by omega), ← eu1]
    refine ezw_iconst (1) rfl rfl ?_
    refine ezw_iadd (k := u22 + 1) rfl (by omega) ?_
    refine ezm_s78 hT rfl (by omega) (by omega) ⟨⟨by omega, by omega⟩, by omega, by omega, by omega, by omega, by omega, by omega, by omega⟩ (fun r78_23 hT er78_23 fr78_23 => ?_)
    exact ezw_return rfl rfl ⟨x7_17, x8_17, x19_2, r78_23, x82_2, x84_2, rfl, hT, by omega, fun j hj => by rw [fr78_23 j (by omega), fr78_21 j (by omega), fr78_15 j (by omega), fr78_10 j (by omega)], fun z => ezm_RD_thing rd b0.2 b3.2 (by omega) (by rw [er78_23]; omega) (fun j h1 h2 => by rw [fr78_23 j (by omega), fr78_21 j (by omega), fr78_15 j (by omega), fr78_10 j (by omega)]) (by rw [rn_2 (by omega)]; omega) rf_2, rfl⟩
  · refine ezw_aload_n rfl rfl ?_
    refine ezw_iconst (5) rfl rfl ?_
    refine ezw_call0_1 rfl (by omega) (ezm_at rfl) rfl rfl rfl rfl (ezm_m225 hT (by omega) ⟨by decide, by decide⟩ (by omega) (by omega)) ?_
    rintro _ _ ⟨x8_24, rfl, hT, p24_0, p24_1, rfl⟩
    have k25 := hT.t8
    exact ezw_return rfl rfl ⟨i7, x8_24, i19, r78, r82, r84, rfl, hT, by omega, fun _ _ => rfl, fun z => absurd z (by omega), rfl⟩
def ezm_m238Q (e : Bool × Bool) (F : Nat → Nat → Int) (A : Nat → Int → Int) (i0 i2 i3 i7 i8 i13 i18 i19 i20 i25 i29 i30 i31 i36 i37 i38 : Int) (r73 r74 r75 r76 r77 r78 r79 r80 r81 r82 r83 r84 r85 r86 r87 r88 r89 r90 r91 r92 r93 r94 r95 : Int → Int) (n : Int) : Option ezq_V → (Nat → ezq_C) → Prop := fun v g' => ∃ (x7 x8 : Int) (x78 : Int → Int), ezm_h e F A i0 i2 i3 x7 x8 i13 i18 i19 i20 i25 i29 i30 i31 i36 i37 i38 r73 r74 r75 r76 r77 x78 r79 r80 r81 r82 r83 r84 r85 r86 r87 r88 r89 r90 r91 r92 r93 r94 r95 = g' ∧ ezm_T i0 i2 i3 x7 x8 i13 i18 i19 i20 i25 i29 i30 i31 i36 i37 i38 r73 r74 r75 r76 r77 x78 r79 r80 r81 r82 r83 r84 r85 r86 r87 r88 r89 r90 r91 r92 r93 r94 r95 ∧ (i7 ≤ x7 ∧ x7 ≤ n) ∧ (∀ j, j < 100 → x78 j = r78 j) ∧ (x8 = 0 → ezm_RD i13 i19 x78 r79 r80 r84) ∧ none = v
theorem ezm_m238 {n : Int} (hT : ezm_T i0 i2 i3 i7 i8 i13 i18 i19 i20 i25 i29 i30 i31 i36 i37 i38 r73 r74 r75 r76 r77 r78 r79 r80 r81 r82 r83 r84 r85 r86 r87 r88 r89 r90 r91 r92 r93 r94 r95) (hd : 5 ≤ d) (hn : 0 ≤ i7 ∧ i7 ≤ n) (hs : r74 n = 0) (h1 : n ≤ 1000) (h0 : i8 = 0) (hc : 0 ≤ i13 ∧ i13 ≤ i7) (rd : ezm_RD i13 i19 r78 r79 r80 r84) (gn : i7 < n) : ezw_C l ρ B xa Hb D cA 238 d [ezw_p 72] (ezm_h e F A i0 i2 i3 i7 i8 i13 i18 i19 i20 i25 i29 i30 i31 i36 i37 i38 r73 r74 r75 r76 r77 r78 r79 r80 r81 r82 r83 r84 r85 r86 r87 r88 r89 r90 r91 r92 r93 r94 r95) (ezm_m238Q  e F A i0 i2 i3 i7 i8 i13 i18 i19 i20 i25 i29 i30 i31 i36 i37 i38 r73 r74 r75 r76 r77 r78 r79 r80 r81 r82 r83 r84 r85 r86 r87 r88 r89 r90 r91 r92 r93 r94 r95 n) := by
  refine ezw_met (k := 2) rfl rfl ?_
  have b19 := hT.t19
  have bm := rd.1
  have b1 := ezm_za1 (hT.t78 101) (by decide)
  have b0 := ezm_za0 (hT.t78 100) (by decide)
  have b3 := ezm_za3 (hT.t78 103) (by decide)
  refine ezw_aload_n rfl rfl ?_
  refine ezw_dup rfl rfl ?_
  refine ezm_g7 rfl ?_
  have k1 := hT.t7
  refine ezw_iconst (1) rfl rfl ?_
  refine ezw_iadd (k := i7 + 1) rfl (by omega) ?_
  refine ezm_p7 hT rfl ⟨by omega, by omega⟩ (fun hT => ?_)
  refine ezw_aload_n rfl rfl ?_
  refine ezw_iconst (1) rfl rfl ?_
  refine ezw_bipush (20) rfl rfl ?_
  refine ezw_iconst (4) rfl rfl ?_
  refine ezw_call0_3 rfl (by omega) (ezm_at rfl) rfl rfl rfl rfl (ezm_m239_v1 hT (by omega) ⟨by decide, by decide⟩ ⟨by decide, by decide⟩ (by omega) hs (by omega) (by omega) (by omega)) ?_
  rintro _ _ ⟨x7_2, x8_2, rfl, hT, u3, hu3, p2_0, p2_1, p2_2, rfl⟩
  have k4 := hT.t7
  have k5 := hT.t8
  refine ezw_istore_n rfl rfl ?_
  refine ezw_aload_n rfl rfl ?_
  refine ezw_iconst (1) rfl rfl ?_
  refine ezw_bipush (20) rfl rfl ?_
  refine ezw_iconst (4) rfl rfl ?_
  refine ezw_call0_3 rfl (by omega) (ezm_at rfl) rfl rfl rfl rfl (ezm_m235_v1 hT (by omega) ⟨by decide, by decide⟩ ⟨by decide, by decide⟩ (by omega) hs (by omega) (by omega) (by omega)) ?_
  rintro _ _ ⟨x8_6, rfl, hT, u7, hu7, p6_0, p6_1, p6_2, f_6, rfl⟩
  have k8 := hT.t8
  refine ezw_istore_n rfl rfl ?_
  refine ezw_aload_n rfl rfl ?_
  refine ezm_g8 rfl ?_
  refine ezw_if_ne rfl rfl ⟨by omega, by omega⟩ (fun h32_8 => ?_) (fun h32_8 => ?_)
  · refine ezw_aload_n rfl rfl ?_
    refine ezm_g8 rfl ?_
    refine ezw_if_ne rfl rfl ⟨by omega, by omega⟩ (fun h71_8 => ?_) (fun h71_8 => ?_)
    · exact ezw_return rfl rfl ⟨x7_2, x8_6, r78, rfl, hT, by omega, fun _ _ => rfl, fun z => rd, rfl⟩
    · refine ezw_aload_n rfl rfl ?_
      refine ezw_dup rfl rfl ?_
      refine ezm_g7 rfl ?_
      refine ezw_iconst (1) rfl rfl ?_
      refine ezw_iadd (k := x7_2 + 1) rfl (by omega) ?_
      refine ezm_p7 hT rfl ⟨by omega, by omega⟩ (fun hT => ?_)
      refine ezw_aload_n rfl rfl ?_
      refine ezm_gp (p := 78) rfl (fun _ => rfl) ?_
      refine ezw_sipush (149) rfl rfl ?_
      refine ezw_iconst (4) rfl rfl ?_
      refine ezw_iload_n rfl rfl ?_
      refine ezw_imul (k := 4 * u3) rfl (by omega) ?_
      refine ezw_iadd (k := 4 * u3 + 149) rfl (by omega) ?_
      refine ezw_iconst (3) rfl rfl ?_
      refine ezw_iadd (k := 4 * u3 + 152) rfl (by omega) ?_
      refine ezw_dup2 rfl rfl rfl ?_
      refine ezm_l78 rfl (by omega) (by omega) (fun u9 eu9 => ?_)
      have ku9 : ezm_k78 (4 * u3 + 152) u9 := eu9 ▸ hT.t78 (4 * u3 + 152)
      refine ezw_iconst (1) rfl rfl ?_
      refine ezw_iload_n rfl rfl ?_
      refine ezm_ishl1 rfl (by omega) (by omega) (fun u10 hu10 ku10 => ?_)
      refine ezs_ior rfl (fun u11 hu11 => ?_)
      refine ezm_s78 hT rfl (by omega) (by omega) ⟨hu11, by omega, by omega, by omega, by omega, by omega, by omega, by omega⟩ (fun r78_12 hT er78_12 fr78_12 => ?_)
      exact ezw_return rfl rfl ⟨(x7_2 + 1), x8_6, r78_12, rfl, hT, by omega, fun j hj => by rw [fr78_12 j (by omega)], fun z => ezm_RD_fr rd b0.2 b3.2 (fun j hj => by rw [fr78_12 j (by omega)]), rfl⟩
  · refine ezw_iload_n rfl rfl ?_
    refine ezw_iload_n rfl rfl ?_
    refine ezw_icmp_eq rfl rfl hu3 hu7 (fun h37_12 => ?_) (fun h37_12 => ?_)
    · refine ezw_aload_n rfl rfl ?_
      refine ezw_iconst (3) rfl rfl ?_
      refine ezw_call0_1 rfl (by omega) (ezm_at rfl) rfl rfl rfl rfl (ezm_m225 hT (by omega) ⟨by decide, by decide⟩ (by omega) (by omega)) ?_
      rintro _ _ ⟨x8_13, rfl, hT, p13_0, p13_1, rfl⟩
      have k14 := hT.t8
      refine ezw_aload_n rfl rfl ?_
      refine ezm_g8 rfl ?_
      refine ezw_if_ne rfl rfl ⟨by omega, by omega⟩ (fun h71_14 => ?_) (fun h71_14 => ?_)
      · exact ezw_return rfl rfl ⟨x7_2, x8_13, r78, rfl, hT, by omega, fun _ _ => rfl, fun z => rd, rfl⟩
      · refine ezw_aload_n rfl rfl ?_
        refine ezw_dup rfl rfl ?_
        refine ezm_g7 rfl ?_
        refine ezw_iconst (1) rfl rfl ?_
        refine ezw_iadd (k := x7_2 + 1) rfl (by omega) ?_
        refine ezm_p7 hT rfl ⟨by omega, by omega⟩ (fun hT => ?_)
        refine ezw_aload_n rfl rfl ?_
        refine ezm_gp (p := 78) rfl (fun _ => rfl) ?_
        refine ezw_sipush (149) rfl rfl ?_
        refine ezw_iconst (4) rfl rfl ?_
        refine ezw_iload_n rfl rfl ?_
        refine ezw_imul (k := 4 * u3) rfl (by omega) ?_
        refine ezw_iadd (k := 4 * u3 + 149) rfl (by omega) ?_
        refine ezw_iconst (3) rfl rfl ?_
        refine ezw_iadd (k := 4 * u3 + 152) rfl (by omega) ?_
        refine ezw_dup2 rfl rfl rfl ?_
        refine ezm_l78 rfl (by omega) (by omega) (fun u15 eu15 => ?_)
        have ku15 : ezm_k78 (4 * u3 + 152) u15 := eu15 ▸ hT.t78 (4 * u3 + 152)
        refine ezw_iconst (1) rfl rfl ?_
        refine ezw_iload_n rfl rfl ?_
        refine ezm_ishl1 rfl (by omega) (by omega) (fun u16 hu16 ku16 => ?_)
        refine ezs_ior rfl (fun u17 hu17 => ?_)
        refine ezm_s78 hT rfl (by omega) (by omega) ⟨hu17, by omega, by omega, by omega, by omega, by omega, by omega, by omega⟩ (fun r78_18 hT er78_18 fr78_18 => ?_)
        exact ezw_return rfl rfl ⟨(x7_2 + 1), x8_13, r78_18, rfl, hT, by omega, fun j hj => by rw [fr78_18 j (by omega)], fun z => ezm_RD_fr rd b0.2 b3.2 (fun j hj => by rw [fr78_18 j (by omega)]), rfl⟩
    · refine ezw_aload_n rfl rfl ?_
      refine ezm_gp (p := 78) rfl (fun _ => rfl) ?_
      refine ezw_sipush (149) rfl rfl ?_
      refine ezw_iconst (4) rfl rfl ?_
      refine ezw_iload_n rfl rfl ?_
      refine ezw_imul (k := 4 * u3) rfl (by omega) ?_
      refine ezw_iadd (k := 4 * u3 + 149) rfl (by omega) ?_
      refine ezw_iconst (3) rfl rfl ?_
      refine ezw_iadd (k := 4 * u3 + 152) rfl (by omega) ?_
      refine ezm_l78 rfl (by omega) (by omega) (fun u19 eu19 => ?_)
      have ku19 : ezm_k78 (4 * u3 + 152) u19 := eu19 ▸ hT.t78 (4 * u3 + 152)
      refine ezw_iload_n rfl rfl ?_
      refine ezw_ishrO rfl (fun u20 hu20 => ?_)
      refine ezw_iconst (1) rfl rfl ?_
      refine ezm_iand rfl (fun u21 hu21 ku21 => ?_)
      refine ezw_iconst (1) rfl rfl ?_
      refine ezw_icmp_ne rfl rfl hu21 ⟨by decide, by decide⟩ (fun h59_21 => ?_) (fun h59_21 => ?_)
      · refine ezw_aload_n rfl rfl ?_
        refine ezm_g8 rfl ?_
        refine ezw_if_ne rfl rfl ⟨by omega, by omega⟩ (fun h71_21 => ?_) (fun h71_21 => ?_)
        · exact ezw_return rfl rfl ⟨x7_2, x8_6, r78, rfl, hT, by omega, fun _ _ => rfl, fun z => rd, rfl⟩
        · refine ezw_aload_n rfl rfl ?_
          refine ezw_dup rfl rfl ?_
          refine ezm_g7 rfl ?_
          refine ezw_iconst (1) rfl rfl ?_
          refine ezw_iadd (k := x7_2 + 1) rfl (by omega) ?_
          refine ezm_p7 hT rfl ⟨by omega, by omega⟩ (fun hT => ?_)
          refine ezw_aload_n rfl rfl ?_
          refine ezm_gp (p := 78) rfl (fun _ => rfl) ?_
          refine ezw_sipush (149) rfl rfl ?_
          refine ezw_iconst (4) rfl rfl ?_
          refine ezw_iload_n rfl rfl ?_
          refine ezw_imul (k := 4 * u3) rfl (by omega) ?_
          refine ezw_iadd (k := 4 * u3 + 149) rfl (by omega) ?_
          refine ezw_iconst (3) rfl rfl ?_
          refine ezw_iadd (k := 4 * u3 + 152) rfl (by omega) ?_
          refine ezw_dup2 rfl rfl rfl ?_
          refine ezm_l78 rfl (by omega) (by omega) (fun u22 eu22 => ?_)
          have fu22 : u19 = u22 := eu19.trans eu22.symm
          subst fu22
          refine ezw_iconst (1) rfl rfl ?_
          refine ezw_iload_n rfl rfl ?_
          refine ezm_ishl1 rfl (by omega) (by omega) (fun u23 hu23 ku23 => ?_)
          refine ezs_ior rfl (fun u24 hu24 => ?_)
          refine ezm_s78 hT rfl (by omega) (by omega) ⟨hu24, by omega, by omega, by omega, by omega, by omega, by omega, by omega⟩ (fun r78_25 hT er78_25 fr78_25 => ?_)
          exact ezw_return rfl rfl ⟨(x7_2 + 1), x8_6, r78_25, rfl, hT, by omega, fun j hj => by rw [fr78_25 j (by omega)], fun z => ezm_RD_fr rd b0.2 b3.2 (fun j hj => by rw [fr78_25 j (by omega)]), rfl⟩
      · refine ezw_aload_n rfl rfl ?_
        refine ezw_iconst (3) rfl rfl ?_
        refine ezw_call0_1 rfl (by omega) (ezm_at rfl) rfl rfl rfl rfl (ezm_m225 hT (by omega) ⟨by decide, by decide⟩ (by omega) (by omega)) ?_
        rintro _ _ ⟨x8_26, rfl, hT, p26_0, p26_1, rfl⟩
        have k27 := hT.t8
        refine ezw_aload_n rfl rfl ?_
        refine ezm_g8 rfl ?_
        refine ezw_if_ne rfl rfl ⟨by omega, by omega⟩ (fun h71_27 => ?_) (fun h71_27 => ?_)
        · exact ezw_return rfl rfl ⟨x7_2, x8_26, r78, rfl, hT, by omega, fun _ _ => rfl, fun z => rd, rfl⟩
        · refine ezw_aload_n rfl rfl ?_
          refine ezw_dup rfl rfl ?_
          refine ezm_g7 rfl ?_
          refine ezw_iconst (1) rfl rfl ?_
          refine ezw_iadd (k := x7_2 + 1) rfl (by omega) ?_
          refine ezm_p7 hT rfl ⟨by omega, by omega⟩ (fun hT => ?_)
          refine ezw_aload_n rfl rfl ?_
          refine ezm_gp (p := 78) rfl (fun _ => rfl) ?_
          refine ezw_sipush (149) rfl rfl ?_
          refine ezw_iconst (4) rfl rfl ?_
          refine ezw_iload_n rfl rfl ?_
          refine ezw_imul (k := 4 * u3) rfl (by omega) ?_
          refine ezw_iadd (k := 4 * u3 + 149) rfl (by omega) ?_
          refine ezw_iconst (3) rfl rfl ?_
          refine ezw_iadd (k := 4 * u3 + 152) rfl (by omega) ?_
          refine ezw_dup2 rfl rfl rfl ?_
          refine ezm_l78 rfl (by omega) (by omega) (fun u28 eu28 => ?_)
          have fu28 : u19 = u28 := eu19.trans eu28.symm
          subst fu28
          refine ezw_iconst (1) rfl rfl ?_
          refine ezw_iload_n rfl rfl ?_
          refine ezm_ishl1 rfl (by omega) (by omega) (fun u29 hu29 ku29 => ?_)
          refine ezs_ior rfl (fun u30 hu30 => ?_)
          refine ezm_s78 hT rfl (by omega) (by omega) ⟨hu30, by omega, by omega, by omega, by omega, by omega, by omega, by omega⟩ (fun r78_31 hT er78_31 fr78_31 => ?_)
          exact ezw_return rfl rfl ⟨(x7_2 + 1), x8_26, r78_31, rfl, hT, by omega, fun j hj => by rw [fr78_31 j (by omega)], fun z => ezm_RD_fr rd b0.2 b3.2 (fun j hj => by rw [fr78_31 j (by omega)]), rfl⟩
def ezm_m240Q (e : Bool × Bool) (F : Nat → Nat → Int) (A : Nat → Int → Int) (i0 i2 i3 i7 i8 i13 i18 i19 i20 i25 i29 i30 i31 i36 i37 i38 : Int) (r73 r74 r75 r76 r77 r78 r79 r80 r81 r82 r83 r84 r85 r86 r87 r88 r89 r90 r91 r92 r93 r94 r95 : Int → Int) (n : Int) : Option ezq_V → (Nat → ezq_C) → Prop := fun v g' => ∃ (x7 x8 : Int) (x78 : Int → Int), ezm_h e F A i0 i2 i3 x7 x8 i13 i18 i19 i20 i25 i29 i30 i31 i36 i37 i38 r73 r74 r75 r76 r77 x78 r79 r80 r81 r82 r83 r84 r85 r86 r87 r88 r89 r90 r91 r92 r93 r94 r95 = g' ∧ ezm_T i0 i2 i3 x7 x8 i13 i18 i19 i20 i25 i29 i30 i31 i36 i37 i38 r73 r74 r75 r76 r77 x78 r79 r80 r81 r82 r83 r84 r85 r86 r87 r88 r89 r90 r91 r92 r93 r94 r95 ∧ (i7 ≤ x7 ∧ x7 ≤ n) ∧ (∀ j, j < 100 → x78 j = r78 j) ∧ (x8 = 0 → ezm_RD i13 i19 x78 r79 r80 r84) ∧ none = v
theorem ezm_m240 {n : Int} (hT : ezm_T i0 i2 i3 i7 i8 i13 i18 i19 i20 i25 i29 i30 i31 i36 i37 i38 r73 r74 r75 r76 r77 r78 r79 r80 r81 r82 r83 r84 r85 r86 r87 r88 r89 r90 r91 r92 r93 r94 r95) (hd : 2 ≤ d) (hn : 0 ≤ i7 ∧ i7 ≤ n) (hs : r74 n = 0) (h1 : n ≤ 1000) (h0 : i8 = 0) (hc : 0 ≤ i13 ∧ i13 ≤ i7) (rd : ezm_RD i13 i19 r78 r79 r80 r84) (gn : i7 < n) : ezw_C l ρ B xa Hb D cA 240 d [ezw_p 72] (ezm_h e F A i0 i2 i3 i7 i8 i13 i18 i19 i20 i25 i29 i30 i31 i36 i37 i38 r73 r74 r75 r76 r77 r78 r79 r80 r81 r82 r83 r84 r85 r86 r87 r88 r89 r90 r91 r92 r93 r94 r95) (ezm_m240Q  e F A i0 i2 i3 i7 i8 i13 i18 i19 i20 i25 i29 i30 i31 i36 i37 i38 r73 r74 r75 r76 r77 r78 r79 r80 r81 r82 r83 r84 r85 r86 r87 r88 r89 r90 r91 r92 r93 r94 r95 n) := by
  refine ezw_met (k := 4) rfl rfl ?_
  have b19 := hT.t19
  have bm := rd.1
  have b1 := ezm_za1 (hT.t78 101) (by decide)
  have b0 := ezm_za0 (hT.t78 100) (by decide)
  have b3 := ezm_za3 (hT.t78 103) (by decide)
  refine ezw_aload_n rfl rfl ?_
  refine ezm_gp (p := 78) rfl (fun _ => rfl) ?_
  refine ezw_bipush (102) rfl rfl ?_
  refine ezm_l78 rfl (by omega) (by omega) (fun u1 eu1 => ?_)
  have ku1 : ezm_k78 (102) u1 := eu1 ▸ hT.t78 (102)
  have zu1 := ezm_za2 ku1 (by omega)
  refine ezw_istore_n rfl rfl ?_
  refine ezw_iload_n rfl rfl ?_
  refine ezw_bipush (8) rfl rfl ?_
  refine ezw_icmp_ne rfl rfl (ezm_in78 ku1) ⟨by decide, by decide⟩ (fun h11_1 => ?_) (fun h11_1 => ?_)
  · refine ezw_aload_n rfl rfl ?_
    refine ezw_dup rfl rfl ?_
    refine ezm_g7 rfl ?_
    have k2 := hT.t7
    refine ezw_iconst (1) rfl rfl ?_
    refine ezw_iadd (k := i7 + 1) rfl (by omega) ?_
    refine ezm_p7 hT rfl ⟨by omega, by omega⟩ (fun hT => ?_)
    refine ezw_aload_n rfl rfl ?_
    refine ezw_iconst (0) rfl rfl ?_
    refine ezw_bipush (15) rfl rfl ?_
    refine ezw_call0_2 rfl (by omega) (ezm_at rfl) rfl rfl rfl rfl (ezm_m233 hT (by omega) ⟨by decide, by decide⟩ ⟨by decide, by decide⟩ (by omega) hs (by omega)) ?_
    rintro _ _ ⟨x7_3, x8_3, rfl, hT, u4, hu4, p3_0, p3_1, p3_2, rfl⟩
    have k5 := hT.t7
    have k6 := hT.t8
    refine ezw_istore_n rfl rfl ?_
    refine ezw_aload_n rfl rfl ?_
    refine ezw_iconst (0) rfl rfl ?_
    refine ezw_bipush (15) rfl rfl ?_
    refine ezw_call0_2 rfl (by omega) (ezm_at rfl) rfl rfl rfl rfl (ezm_m233 hT (by omega) ⟨by decide, by decide⟩ ⟨by decide, by decide⟩ (by omega) hs (by omega)) ?_
    rintro _ _ ⟨x7_7, x8_7, rfl, hT, u8, hu8, p7_0, p7_1, p7_2, rfl⟩
    have k9 := hT.t7
    have k10 := hT.t8
    refine ezw_istore_n rfl rfl ?_
    refine ezw_iconst (0) rfl rfl ?_
    refine ezw_istore rfl rfl ?_
    have L49_12 : ∀ c11 : Int, ezw_in c11 → ∀ x7_12 : Int, ∀ x8_12 : Int, ezm_T i0 i2 i3 x7_12 x8_12 i13 i18 i19 i20 i25 i29 i30 i31 i36 i37 i38 r73 r74 r75 r76 r77 r78 r79 r80 r81 r82 r83 r84 r85 r86 r87 r88 r89 r90 r91 r92 r93 r94 r95 → ((0) ≤ c11) → (0 ≤ x7_12 ∧ x7_12 ≤ n ∧ i7 ≤ x7_12) → (x8_12 = 0 → i7 + 1 < x7_12) → ezw_E l ρ B xa Hb D cA d ezq_re240 (ezm_m240Q  e F A i0 i2 i3 i7 i8 i13 i18 i19 i20 i25 i29 i30 i31 i36 i37 i38 r73 r74 r75 r76 r77 r78 r79 r80 r81 r82 r83 r84 r85 r86 r87 r88 r89 r90 r91 r92 r93 r94 r95 n) 49 [some (ezw_p 72), some (ezw_i u1), some (ezw_i u4), some (ezw_i u8), some (ezw_i c11)] [] (ezm_h e F A i0 i2 i3 x7_12 x8_12 i13 i18 i19 i20 i25 i29 i30 i31 i36 i37 i38 r73 r74 r75 r76 r77 r78 r79 r80 r81 r82 r83 r84 r85 r86 r87 r88 r89 r90 r91 r92 r93 r94 r95) := by
      refine ezs_up ?_
      intro c11 hc11 ihc11 x7_12 x8_12 hT g_12 v1_12 v2_12
      have k13 := hT.t7
      have k14 := hT.t8
      refine ezw_iload rfl rfl ?_
      refine ezw_iload_n rfl rfl ?_
      refine ezw_icmp_ge rfl rfl hc11 (ezm_in78 ku1) (fun h52_14 => ?_) (fun h52_14 => ?_)
      · refine ezw_aload_n rfl rfl ?_
        refine ezm_gp (p := 78) rfl (fun _ => rfl) ?_
        refine ezw_sipush (171) rfl rfl ?_
        refine ezw_iconst (2) rfl rfl ?_
        refine ezw_iload_n rfl rfl ?_
        refine ezw_imul (k := 2 * u1) rfl (by omega) ?_
        refine ezw_iadd (k := 2 * u1 + 171) rfl (by omega) ?_
        refine ezw_iload_n rfl rfl ?_
        refine ezm_s78 hT rfl (by omega) (by omega) ⟨hu4, by omega, by omega, by omega, by omega, by omega, by omega, by omega⟩ (fun r78_15 hT er78_15 fr78_15 => ?_)
        refine ezw_aload_n rfl rfl ?_
        refine ezm_gp (p := 78) rfl (fun _ => rfl) ?_
        refine ezw_sipush (171) rfl rfl ?_
        refine ezw_iconst (2) rfl rfl ?_
        refine ezw_iload_n rfl rfl ?_
        refine ezw_imul (k := 2 * u1) rfl (by omega) ?_
        refine ezw_iadd (k := 2 * u1 + 171) rfl (by omega) ?_
        refine ezw_iconst (1) rfl rfl ?_
        refine ezw_iadd (k := 2 * u1 + 172) rfl (by omega) ?_
        refine ezw_iload_n rfl rfl ?_
        refine ezm_s78 hT rfl (by omega) (by omega) ⟨hu8, by omega, by omega, by omega, by omega, by omega, by omega, by omega⟩ (fun r78_16 hT er78_16 fr78_16 => ?_)
        refine ezw_aload_n rfl rfl ?_
        refine ezm_gp (p := 78) rfl (fun _ => rfl) ?_
        refine ezw_bipush (102) rfl rfl ?_
        refine ezw_dup2 rfl rfl rfl ?_
        refine ezm_l78 rfl (by omega) (by omega) (fun u17 eu17 => ?_)
        have ku17 : ezm_k78 (102) u17 := eu17 ▸ hT.t78 (102)
        have zu17 := ezm_za2 ku17 (by omega)
        have qu17 : u17 = u1 := by rw [eu17, fr78_16 (102) (by omega), fr78_15 (102) (by omega), ← eu1]
        refine ezw_iconst (1) rfl rfl ?_
        refine ezw_iadd (k := u17 + 1) rfl (by omega) ?_
        refine ezm_s78 hT rfl (by omega) (by omega) ⟨⟨by omega, by omega⟩, by omega, by omega, by omega, by omega, by omega, by omega, by omega⟩ (fun r78_18 hT er78_18 fr78_18 => ?_)
        exact ezw_return rfl rfl ⟨x7_12, x8_12, r78_18, rfl, hT, by omega, fun j hj => by rw [fr78_18 j (by omega), fr78_16 j (by omega), fr78_15 j (by omega)], fun z => ezm_RD_fr rd b0.2 b3.2 (fun j hj => by rw [fr78_18 j (by omega), fr78_16 j (by omega), fr78_15 j (by omega)]), rfl⟩
      · refine ezw_aload_n rfl rfl ?_
        refine ezm_g8 rfl ?_
        refine ezw_if_ne rfl rfl ⟨by omega, by omega⟩ (fun h59_18 => ?_) (fun h59_18 => ?_)
        · refine ezw_aload_n rfl rfl ?_
          refine ezm_gp (p := 78) rfl (fun _ => rfl) ?_
          refine ezw_sipush (171) rfl rfl ?_
          refine ezw_iconst (2) rfl rfl ?_
          refine ezw_iload_n rfl rfl ?_
          refine ezw_imul (k := 2 * u1) rfl (by omega) ?_
          refine ezw_iadd (k := 2 * u1 + 171) rfl (by omega) ?_
          refine ezw_iload_n rfl rfl ?_
          refine ezm_s78 hT rfl (by omega) (by omega) ⟨hu4, by omega, by omega, by omega, by omega, by omega, by omega, by omega⟩ (fun r78_19 hT er78_19 fr78_19 => ?_)
          refine ezw_aload_n rfl rfl ?_
          refine ezm_gp (p := 78) rfl (fun _ => rfl) ?_
          refine ezw_sipush (171) rfl rfl ?_
          refine ezw_iconst (2) rfl rfl ?_
          refine ezw_iload_n rfl rfl ?_
          refine ezw_imul (k := 2 * u1) rfl (by omega) ?_
          refine ezw_iadd (k := 2 * u1 + 171) rfl (by omega) ?_
          refine ezw_iconst (1) rfl rfl ?_
          refine ezw_iadd (k := 2 * u1 + 172) rfl (by omega) ?_
          refine ezw_iload_n rfl rfl ?_
          refine ezm_s78 hT rfl (by omega) (by omega) ⟨hu8, by omega, by omega, by omega, by omega, by omega, by omega, by omega⟩ (fun r78_20 hT er78_20 fr78_20 => ?_)
          refine ezw_aload_n rfl rfl ?_
          refine ezm_gp (p := 78) rfl (fun _ => rfl) ?_
          refine ezw_bipush (102) rfl rfl ?_
          refine ezw_dup2 rfl rfl rfl ?_
          refine ezm_l78 rfl (by omega) (by omega) (fun u21 eu21 => ?_)
          have ku21 : ezm_k78 (102) u21 := eu21 ▸ hT.t78 (102)
          have zu21 := ezm_za2 ku21 (by omega)
          have qu21 : u21 = u1 := by rw [eu21, fr78_20 (102) (by omega), fr78_19 (102) (by omega), ← eu1]
          refine ezw_iconst (1) rfl rfl ?_
          refine ezw_iadd (k := u21 + 1) rfl (by omega) ?_
          refine ezm_s78 hT rfl (by omega) (by omega) ⟨⟨by omega, by omega⟩, by omega, by omega, by omega, by omega, by omega, by omega, by omega⟩ (fun r78_22 hT er78_22 fr78_22 => ?_)
          exact ezw_return rfl rfl ⟨x7_12, x8_12, r78_22, rfl, hT, by omega, fun j hj => by rw [fr78_22 j (by omega), fr78_20 j (by omega), fr78_19 j (by omega)], fun z => ezm_RD_fr rd b0.2 b3.2 (fun j hj => by rw [fr78_22 j (by omega), fr78_20 j (by omega), fr78_19 j (by omega)]), rfl⟩
        · refine ezw_aload_n rfl rfl ?_
          refine ezm_gp (p := 78) rfl (fun _ => rfl) ?_
          refine ezw_sipush (171) rfl rfl ?_
          refine ezw_iconst (2) rfl rfl ?_
          refine ezw_iload rfl rfl ?_
          refine ezw_imul (k := 2 * c11) rfl (by omega) ?_
          refine ezw_iadd (k := 2 * c11 + 171) rfl (by omega) ?_
          refine ezm_l78 rfl (by omega) (by omega) (fun u23 eu23 => ?_)
          have ku23 : ezm_k78 (2 * c11 + 171) u23 := eu23 ▸ hT.t78 (2 * c11 + 171)
          refine ezw_iload_n rfl rfl ?_
          refine ezw_icmp_ne rfl rfl (ezm_in78 ku23) hu4 (fun h76_23 => ?_) (fun h76_23 => ?_)
          · refine ezw_iinc (k := c11 + 1) (1) rfl rfl rfl (by omega) rfl ?_
            refine ezw_goto rfl rfl ?_
            exact ezw_keepE [true, true, true, true, true] (ihc11 (c11 + 1) (by omega) ⟨by omega, by omega⟩ x7_12 x8_12 hT (by omega) (by omega) (by omega))
          · refine ezw_aload_n rfl rfl ?_
            refine ezm_gp (p := 78) rfl (fun _ => rfl) ?_
            refine ezw_sipush (171) rfl rfl ?_
            refine ezw_iconst (2) rfl rfl ?_
            refine ezw_iload rfl rfl ?_
            refine ezw_imul (k := 2 * c11) rfl (by omega) ?_
            refine ezw_iadd (k := 2 * c11 + 171) rfl (by omega) ?_
            refine ezw_iconst (1) rfl rfl ?_
            refine ezw_iadd (k := 2 * c11 + 172) rfl (by omega) ?_
            refine ezm_l78 rfl (by omega) (by omega) (fun u24 eu24 => ?_)
            have ku24 : ezm_k78 (2 * c11 + 172) u24 := eu24 ▸ hT.t78 (2 * c11 + 172)
            refine ezw_iload_n rfl rfl ?_
            refine ezw_icmp_ne rfl rfl (ezm_in78 ku24) hu8 (fun h95_24 => ?_) (fun h95_24 => ?_)
            · refine ezw_iinc (k := c11 + 1) (1) rfl rfl rfl (by omega) rfl ?_
              refine ezw_goto rfl rfl ?_
              exact ezw_keepE [true, true, true, true, true] (ihc11 (c11 + 1) (by omega) ⟨by omega, by omega⟩ x7_12 x8_12 hT (by omega) (by omega) (by omega))
            · refine ezw_aload_n rfl rfl ?_
              refine ezw_dup rfl rfl ?_
              refine ezm_g7 rfl ?_
              refine ezw_iconst (1) rfl rfl ?_
              refine ezw_isub (k := x7_12 - 1) rfl (by omega) ?_
              refine ezm_p7 hT rfl ⟨by omega, by omega⟩ (fun hT => ?_)
              refine ezw_aload_n rfl rfl ?_
              refine ezw_iconst (3) rfl rfl ?_
              refine ezw_call0_1 rfl (by omega) (ezm_at rfl) rfl rfl rfl rfl (ezm_m225 hT (by omega) ⟨by decide, by decide⟩ (by omega) (by omega)) ?_
              rintro _ _ ⟨x8_25, rfl, hT, p25_0, p25_1, rfl⟩
              have k26 := hT.t8
              refine ezw_iinc (k := c11 + 1) (1) rfl rfl rfl (by omega) rfl ?_
              refine ezw_goto rfl rfl ?_
              exact ezw_keepE [true, true, true, true, true] (ihc11 (c11 + 1) (by omega) ⟨by omega, by omega⟩ (x7_12 - 1) x8_25 hT (by omega) (by omega) (by omega))
    exact ezw_keepE [true, true, true, true, true] (L49_12 (0) ⟨by decide, by decide⟩ x7_7 x8_7 hT (by omega) (by omega) (by omega))
  · refine ezw_aload_n rfl rfl ?_
    refine ezw_iconst (5) rfl rfl ?_
    refine ezw_call0_1 rfl (by omega) (ezm_at rfl) rfl rfl rfl rfl (ezm_m225 hT (by omega) ⟨by decide, by decide⟩ (by omega) (by omega)) ?_
    rintro _ _ ⟨x8_27, rfl, hT, p27_0, p27_1, rfl⟩
    have k28 := hT.t8
    exact ezw_return rfl rfl ⟨i7, x8_27, r78, rfl, hT, by omega, fun _ _ => rfl, fun z => rd, rfl⟩
def ezm_m244Q (e : Bool × Bool) (F : Nat → Nat → Int) (A : Nat → Int → Int) (i0 i2 i3 i7 i8 i13 i18 i19 i20 i25 i29 i30 i31 i36 i37 i38 : Int) (r73 r74 r75 r76 r77 r78 r79 r80 r81 r82 r83 r84 r85 r86 r87 r88 r89 r90 r91 r92 r93 r94 r95 : Int → Int) (n : Int) (a1 : Int) : Option ezq_V → (Nat → ezq_C) → Prop := fun v g' => ∃ (x7 x8 : Int) (x78 : Int → Int), ezm_h e F A i0 i2 i3 x7 x8 i13 i18 i19 i20 i25 i29 i30 i31 i36 i37 i38 r73 r74 r75 r76 r77 x78 r79 r80 r81 r82 r83 r84 r85 r86 r87 r88 r89 r90 r91 r92 r93 r94 r95 = g' ∧ ezm_T i0 i2 i3 x7 x8 i13 i18 i19 i20 i25 i29 i30 i31 i36 i37 i38 r73 r74 r75 r76 r77 x78 r79 r80 r81 r82 r83 r84 r85 r86 r87 r88 r89 r90 r91 r92 r93 r94 r95 ∧ (i7 ≤ x7 ∧ x7 ≤ n) ∧ (∀ j, j < 100 → x78 j = r78 j) ∧ (x8 = 0 → ezm_RD i13 i19 x78 r79 r80 r84) ∧ none = v
theorem ezm_m244 {n a1 : Int} (hT : ezm_T i0 i2 i3 i7 i8 i13 i18 i19 i20 i25 i29 i30 i31 i36 i37 i38 r73 r74 r75 r76 r77 r78 r79 r80 r81 r82 r83 r84 r85 r86 r87 r88 r89 r90 r91 r92 r93 r94 r95) (hd : 2 ≤ d) (ha1 : ezw_in a1) (hn : 0 ≤ i7 ∧ i7 ≤ n) (hs : r74 n = 0) (h1 : n ≤ 1000) (h0 : i8 = 0) (hc : 0 ≤ i13 ∧ i13 ≤ i7) (rd : ezm_RD i13 i19 r78 r79 r80 r84) : ezw_C l ρ B xa Hb D cA 244 d [ezw_p 72, ezw_i a1] (ezm_h e F A i0 i2 i3 i7 i8 i13 i18 i19 i20 i25 i29 i30 i31 i36 i37 i38 r73 r74 r75 r76 r77 r78 r79 r80 r81 r82 r83 r84 r85 r86 r87 r88 r89 r90 r91 r92 r93 r94 r95) (ezm_m244Q  e F A i0 i2 i3 i7 i8 i13 i18 i19 i20 i25 i29 i30 i31 i36 i37 i38 r73 r74 r75 r76 r77 r78 r79 r80 r81 r82 r83 r84 r85 r86 r87 r88 r89 r90 r91 r92 r93 r94 r95 n a1) := by
  refine ezw_met (k := 0) rfl rfl ?_
  have b19 := hT.t19
  have bm := rd.1
  have b1 := ezm_za1 (hT.t78 101) (by decide)
  have b0 := ezm_za0 (hT.t78 100) (by decide)
  have b3 := ezm_za3 (hT.t78 103) (by decide)
  refine ezw_iload_n rfl rfl ?_
  refine ezw_iconst (3) rfl rfl ?_
  refine ezw_icmp_ne rfl rfl ha1 ⟨by decide, by decide⟩ (fun h2_0 => ?_) (fun h2_0 => ?_)
  · refine ezw_iload_n rfl rfl ?_
    refine ezw_iconst (4) rfl rfl ?_
    refine ezw_icmp_ne rfl rfl ha1 ⟨by decide, by decide⟩ (fun h24_0 => ?_) (fun h24_0 => ?_)
    · refine ezw_iload_n rfl rfl ?_
      refine ezw_bipush (6) rfl rfl ?_
      refine ezw_icmp_ne rfl rfl ha1 ⟨by decide, by decide⟩ (fun h47_0 => ?_) (fun h47_0 => ?_)
      · refine ezw_aload_n rfl rfl ?_
        refine ezm_gp (p := 78) rfl (fun _ => rfl) ?_
        refine ezw_bipush (114) rfl rfl ?_
        refine ezw_aload_n rfl rfl ?_
        refine ezw_iconst (1) rfl rfl ?_
        refine ezw_bipush (15) rfl rfl ?_
        refine ezw_call0_2 rfl (by omega) (ezm_at rfl) rfl rfl rfl rfl (ezm_m233 hT (by omega) ⟨by decide, by decide⟩ ⟨by decide, by decide⟩ (by omega) hs (by omega)) ?_
        rintro _ _ ⟨x7_1, x8_1, rfl, hT, u2, hu2, p1_0, p1_1, p1_2, rfl⟩
        have k3 := hT.t7
        have k4 := hT.t8
        refine ezm_s78 hT rfl (by omega) (by omega) ⟨hu2, by omega, by omega, by omega, by omega, by omega, by omega, by omega⟩ (fun r78_5 hT er78_5 fr78_5 => ?_)
        exact ezw_return rfl rfl ⟨x7_1, x8_1, r78_5, rfl, hT, by omega, fun j hj => by rw [fr78_5 j (by omega)], fun z => ezm_RD_fr rd b0.2 b3.2 (fun j hj => by rw [fr78_5 j (by omega)]), rfl⟩
      · refine ezw_aload_n rfl rfl ?_
        refine ezm_gp (p := 78) rfl (fun _ => rfl) ?_
        refine ezw_bipush (113) rfl rfl ?_
        refine ezw_aload_n rfl rfl ?_
        refine ezw_iconst (1) rfl rfl ?_
        refine ezw_bipush (99) rfl rfl ?_
        refine ezw_call0_2 rfl (by omega) (ezm_at rfl) rfl rfl rfl rfl (ezm_m233 hT (by omega) ⟨by decide, by decide⟩ ⟨by decide, by decide⟩ (by omega) hs (by omega)) ?_
        rintro _ _ ⟨x7_6, x8_6, rfl, hT, u7, hu7, p6_0, p6_1, p6_2, rfl⟩
        have k8 := hT.t7
        have k9 := hT.t8
        refine ezm_s78 hT rfl (by omega) (by omega) ⟨hu7, by omega, by omega, by omega, by omega, by omega, by omega, by omega⟩ (fun r78_10 hT er78_10 fr78_10 => ?_)
        refine ezw_goto rfl rfl ?_
        exact ezw_return rfl rfl ⟨x7_6, x8_6, r78_10, rfl, hT, by omega, fun j hj => by rw [fr78_10 j (by omega)], fun z => ezm_RD_fr rd b0.2 b3.2 (fun j hj => by rw [fr78_10 j (by omega)]), rfl⟩
    · refine ezw_aload_n rfl rfl ?_
      refine ezm_gp (p := 78) rfl (fun _ => rfl) ?_
      refine ezw_bipush (110) rfl rfl ?_
      refine ezw_aload_n rfl rfl ?_
      refine ezw_iconst (0) rfl rfl ?_
      refine ezw_bipush (9) rfl rfl ?_
      refine ezw_call0_2 rfl (by omega) (ezm_at rfl) rfl rfl rfl rfl (ezm_m233 hT (by omega) ⟨by decide, by decide⟩ ⟨by decide, by decide⟩ (by omega) hs (by omega)) ?_
      rintro _ _ ⟨x7_11, x8_11, rfl, hT, u12, hu12, p11_0, p11_1, p11_2, rfl⟩
      have k13 := hT.t7
      have k14 := hT.t8
      refine ezm_s78 hT rfl (by omega) (by omega) ⟨hu12, by omega, by omega, by omega, by omega, by omega, by omega, by omega⟩ (fun r78_15 hT er78_15 fr78_15 => ?_)
      refine ezw_goto rfl rfl ?_
      exact ezw_return rfl rfl ⟨x7_11, x8_11, r78_15, rfl, hT, by omega, fun j hj => by rw [fr78_15 j (by omega)], fun z => ezm_RD_fr rd b0.2 b3.2 (fun j hj => by rw [fr78_15 j (by omega)]), rfl⟩
  · refine ezw_aload_n rfl rfl ?_
    refine ezm_gp (p := 78) rfl (fun _ => rfl) ?_
    refine ezw_bipush (109) rfl rfl ?_
    refine ezw_aload_n rfl rfl ?_
    refine ezw_iconst (0) rfl rfl ?_
    refine ezw_bipush (10) rfl rfl ?_
    refine ezw_call0_2 rfl (by omega) (ezm_at rfl) rfl rfl rfl rfl (ezm_m233 hT (by omega) ⟨by decide, by decide⟩ ⟨by decide, by decide⟩ (by omega) hs (by omega)) ?_
    rintro _ _ ⟨x7_16, x8_16, rfl, hT, u17, hu17, p16_0, p16_1, p16_2, rfl⟩
    have k18 := hT.t7
    have k19 := hT.t8
    refine ezm_s78 hT rfl (by omega) (by omega) ⟨hu17, by omega, by omega, by omega, by omega, by omega, by omega, by omega⟩ (fun r78_20 hT er78_20 fr78_20 => ?_)
    refine ezw_goto rfl rfl ?_
    exact ezw_return rfl rfl ⟨x7_16, x8_16, r78_20, rfl, hT, by omega, fun j hj => by rw [fr78_20 j (by omega)], fun z => ezm_RD_fr rd b0.2 b3.2 (fun j hj => by rw [fr78_20 j (by omega)]), rfl⟩
def ezm_m242Q (e : Bool × Bool) (F : Nat → Nat → Int) (A : Nat → Int → Int) (i0 i2 i3 i7 i8 i13 i18 i19 i20 i25 i29 i30 i31 i36 i37 i38 : Int) (r73 r74 r75 r76 r77 r78 r79 r80 r81 r82 r83 r84 r85 r86 r87 r88 r89 r90 r91 r92 r93 r94 r95 : Int → Int) (n : Int) : Option ezq_V → (Nat → ezq_C) → Prop := fun v g' => ezm_h e F A i0 i2 i3 i7 i8 i13 i18 i19 i20 i25 i29 i30 i31 i36 i37 i38 r73 r74 r75 r76 r77 r78 r79 r80 r81 r82 r83 r84 r85 r86 r87 r88 r89 r90 r91 r92 r93 r94 r95 = g' ∧ ∃ u : Int, (ezw_in u) ∧ (-1 ≤ u ∧ u ≤ 9) ∧ (0 ≤ u → i8 = 0 ∧ i7 < n) ∧ some (ezw_i u) = v
theorem ezm_m242 {n : Int} (hT : ezm_T i0 i2 i3 i7 i8 i13 i18 i19 i20 i25 i29 i30 i31 i36 i37 i38 r73 r74 r75 r76 r77 r78 r79 r80 r81 r82 r83 r84 r85 r86 r87 r88 r89 r90 r91 r92 r93 r94 r95) (hd : 1 ≤ d) (hn : 0 ≤ i7 ∧ i7 ≤ n) (hs : r74 n = 0) (h1 : n ≤ 1000) : ezw_C l ρ B xa Hb D cA 242 d [ezw_p 72] (ezm_h e F A i0 i2 i3 i7 i8 i13 i18 i19 i20 i25 i29 i30 i31 i36 i37 i38 r73 r74 r75 r76 r77 r78 r79 r80 r81 r82 r83 r84 r85 r86 r87 r88 r89 r90 r91 r92 r93 r94 r95) (ezm_m242Q  e F A i0 i2 i3 i7 i8 i13 i18 i19 i20 i25 i29 i30 i31 i36 i37 i38 r73 r74 r75 r76 r77 r78 r79 r80 r81 r82 r83 r84 r85 r86 r87 r88 r89 r90 r91 r92 r93 r94 r95 n) := by
  refine ezw_met (k := 1) rfl rfl ?_
  refine ezw_aload_n rfl rfl ?_
  refine ezw_iconst (5) rfl rfl ?_
  refine ezw_call0_1 rfl (by omega) (ezm_at rfl) rfl rfl rfl rfl (ezm_m223 hT (by omega) ⟨by decide, by decide⟩ (by omega) hs (by omega) (by omega)) ?_
  rintro _ _ ⟨rfl, u2, hu2, f_1, w_1, rfl⟩
  have J78_4 : ∀ y3 : Int, ezw_in y3 → (-1 ≤ y3 ∧ y3 ≤ 9 ∧ (0 ≤ y3 → i8 = 0 ∧ i7 < n)) → ezw_E l ρ B xa Hb D cA d ezq_re242 (ezm_m242Q  e F A i0 i2 i3 i7 i8 i13 i18 i19 i20 i25 i29 i30 i31 i36 i37 i38 r73 r74 r75 r76 r77 r78 r79 r80 r81 r82 r83 r84 r85 r86 r87 r88 r89 r90 r91 r92 r93 r94 r95 n) 78 [some (ezw_p 72), none] [ezw_i y3] (ezm_h e F A i0 i2 i3 i7 i8 i13 i18 i19 i20 i25 i29 i30 i31 i36 i37 i38 r73 r74 r75 r76 r77 r78 r79 r80 r81 r82 r83 r84 r85 r86 r87 r88 r89 r90 r91 r92 r93 r94 r95) := by
    intro y3 hy3 v1_4
    refine ezw_istore_n rfl rfl ?_
    refine ezw_iload_n rfl rfl ?_
    have J144_6 : ∀ y5 : Int, ezw_in y5 → (-1 ≤ y5 ∧ y5 ≤ 9 ∧ (0 ≤ y5 → i8 = 0 ∧ i7 < n)) → ezw_E l ρ B xa Hb D cA d ezq_re242 (ezm_m242Q  e F A i0 i2 i3 i7 i8 i13 i18 i19 i20 i25 i29 i30 i31 i36 i37 i38 r73 r74 r75 r76 r77 r78 r79 r80 r81 r82 r83 r84 r85 r86 r87 r88 r89 r90 r91 r92 r93 r94 r95 n) 144 [some (ezw_p 72), some (ezw_i y3)] [ezw_i y5] (ezm_h e F A i0 i2 i3 i7 i8 i13 i18 i19 i20 i25 i29 i30 i31 i36 i37 i38 r73 r74 r75 r76 r77 r78 r79 r80 r81 r82 r83 r84 r85 r86 r87 r88 r89 r90 r91 r92 r93 r94 r95) := by
      intro y5 hy5 v1_6
      exact ezw_ireturn rfl rfl ⟨rfl, y5, hy5, by omega, by omega, rfl⟩
    refine ezw_if_lt rfl rfl hy3 (fun h80_4 => ?_) (fun h80_4 => ?_)
    · refine ezw_aload_n rfl rfl ?_
      refine ezw_bipush (18) rfl rfl ?_
      refine ezw_call0_1 rfl (by omega) (ezm_at rfl) rfl rfl rfl rfl (ezm_m223 hT (by omega) ⟨by decide, by decide⟩ (by omega) hs (by omega) (by omega)) ?_
      rintro _ _ ⟨rfl, u8, hu8, f_7, w_7, rfl⟩
      refine ezw_if_eq rfl rfl ⟨by omega, by omega⟩ (fun h93_8 => ?_) (fun h93_8 => ?_)
      · refine ezw_aload_n rfl rfl ?_
        refine ezw_bipush (19) rfl rfl ?_
        refine ezw_call0_1 rfl (by omega) (ezm_at rfl) rfl rfl rfl rfl (ezm_m223 hT (by omega) ⟨by decide, by decide⟩ (by omega) hs (by omega) (by omega)) ?_
        rintro _ _ ⟨rfl, u10, hu10, f_9, w_9, rfl⟩
        refine ezw_if_eq rfl rfl ⟨by omega, by omega⟩ (fun h107_10 => ?_) (fun h107_10 => ?_)
        · refine ezw_aload_n rfl rfl ?_
          refine ezw_bipush (21) rfl rfl ?_
          refine ezw_call0_1 rfl (by omega) (ezm_at rfl) rfl rfl rfl rfl (ezm_m223 hT (by omega) ⟨by decide, by decide⟩ (by omega) hs (by omega) (by omega)) ?_
          rintro _ _ ⟨rfl, u12, hu12, f_11, w_11, rfl⟩
          refine ezw_if_eq rfl rfl ⟨by omega, by omega⟩ (fun h121_12 => ?_) (fun h121_12 => ?_)
          · refine ezw_aload_n rfl rfl ?_
            refine ezw_bipush (22) rfl rfl ?_
            refine ezw_call0_1 rfl (by omega) (ezm_at rfl) rfl rfl rfl rfl (ezm_m223 hT (by omega) ⟨by decide, by decide⟩ (by omega) hs (by omega) (by omega)) ?_
            rintro _ _ ⟨rfl, u14, hu14, f_13, w_13, rfl⟩
            refine ezw_if_eq rfl rfl ⟨by omega, by omega⟩ (fun h135_14 => ?_) (fun h135_14 => ?_)
            · refine ezw_iconst (-1) rfl rfl ?_
              exact ezw_keepE [true, true] (J144_6 (-1) ⟨by decide, by decide⟩ (by omega))
            · refine ezw_bipush (9) rfl rfl ?_
              refine ezw_goto rfl rfl ?_
              exact ezw_keepE [true, true] (J144_6 (9) ⟨by decide, by decide⟩ (by omega))
          · refine ezw_bipush (8) rfl rfl ?_
            refine ezw_goto rfl rfl ?_
            exact ezw_keepE [true, true] (J144_6 (8) ⟨by decide, by decide⟩ (by omega))
        · refine ezw_bipush (7) rfl rfl ?_
          refine ezw_goto rfl rfl ?_
          exact ezw_keepE [true, true] (J144_6 (7) ⟨by decide, by decide⟩ (by omega))
      · refine ezw_bipush (6) rfl rfl ?_
        refine ezw_goto rfl rfl ?_
        exact ezw_keepE [true, true] (J144_6 (6) ⟨by decide, by decide⟩ (by omega))
    · refine ezw_iload_n rfl rfl ?_
      refine ezw_goto rfl rfl ?_
      exact ezw_keepE [true, true] (J144_6 y3 hy3 (by omega))
  refine ezw_if_eq rfl rfl ⟨by omega, by omega⟩ (fun h5_2 => ?_) (fun h5_2 => ?_)
  · refine ezw_aload_n rfl rfl ?_
    refine ezw_bipush (6) rfl rfl ?_
    refine ezw_call0_1 rfl (by omega) (ezm_at rfl) rfl rfl rfl rfl (ezm_m223 hT (by omega) ⟨by decide, by decide⟩ (by omega) hs (by omega) (by omega)) ?_
    rintro _ _ ⟨rfl, u16, hu16, f_15, w_15, rfl⟩
    refine ezw_if_eq rfl rfl ⟨by omega, by omega⟩ (fun h18_16 => ?_) (fun h18_16 => ?_)
    · refine ezw_aload_n rfl rfl ?_
      refine ezw_bipush (13) rfl rfl ?_
      refine ezw_call0_1 rfl (by omega) (ezm_at rfl) rfl rfl rfl rfl (ezm_m223 hT (by omega) ⟨by decide, by decide⟩ (by omega) hs (by omega) (by omega)) ?_
      rintro _ _ ⟨rfl, u18, hu18, f_17, w_17, rfl⟩
      refine ezw_if_eq rfl rfl ⟨by omega, by omega⟩ (fun h31_18 => ?_) (fun h31_18 => ?_)
      · refine ezw_aload_n rfl rfl ?_
        refine ezw_bipush (14) rfl rfl ?_
        refine ezw_call0_1 rfl (by omega) (ezm_at rfl) rfl rfl rfl rfl (ezm_m223 hT (by omega) ⟨by decide, by decide⟩ (by omega) hs (by omega) (by omega)) ?_
        rintro _ _ ⟨rfl, u20, hu20, f_19, w_19, rfl⟩
        refine ezw_if_eq rfl rfl ⟨by omega, by omega⟩ (fun h44_20 => ?_) (fun h44_20 => ?_)
        · refine ezw_aload_n rfl rfl ?_
          refine ezw_bipush (15) rfl rfl ?_
          refine ezw_call0_1 rfl (by omega) (ezm_at rfl) rfl rfl rfl rfl (ezm_m223 hT (by omega) ⟨by decide, by decide⟩ (by omega) hs (by omega) (by omega)) ?_
          rintro _ _ ⟨rfl, u22, hu22, f_21, w_21, rfl⟩
          refine ezw_if_eq rfl rfl ⟨by omega, by omega⟩ (fun h57_22 => ?_) (fun h57_22 => ?_)
          · refine ezw_aload_n rfl rfl ?_
            refine ezw_bipush (16) rfl rfl ?_
            refine ezw_call0_1 rfl (by omega) (ezm_at rfl) rfl rfl rfl rfl (ezm_m223 hT (by omega) ⟨by decide, by decide⟩ (by omega) hs (by omega) (by omega)) ?_
            rintro _ _ ⟨rfl, u24, hu24, f_23, w_23, rfl⟩
            refine ezw_if_eq rfl rfl ⟨by omega, by omega⟩ (fun h70_24 => ?_) (fun h70_24 => ?_)
            · refine ezw_iconst (-1) rfl rfl ?_
              exact ezw_keepE [true, false] (J78_4 (-1) ⟨by decide, by decide⟩ (by omega))
            · refine ezw_iconst (5) rfl rfl ?_
              refine ezw_goto rfl rfl ?_
              exact ezw_keepE [true, false] (J78_4 (5) ⟨by decide, by decide⟩ (by omega))
          · refine ezw_iconst (4) rfl rfl ?_
            refine ezw_goto rfl rfl ?_
            exact ezw_keepE [true, false] (J78_4 (4) ⟨by decide, by decide⟩ (by omega))
        · refine ezw_iconst (3) rfl rfl ?_
          refine ezw_goto rfl rfl ?_
          exact ezw_keepE [true, false] (J78_4 (3) ⟨by decide, by decide⟩ (by omega))
      · refine ezw_iconst (2) rfl rfl ?_
        refine ezw_goto rfl rfl ?_
        exact ezw_keepE [true, false] (J78_4 (2) ⟨by decide, by decide⟩ (by omega))
    · refine ezw_iconst (1) rfl rfl ?_
      refine ezw_goto rfl rfl ?_
      exact ezw_keepE [true, false] (J78_4 (1) ⟨by decide, by decide⟩ (by omega))
  · refine ezw_iconst (0) rfl rfl ?_
    refine ezw_goto rfl rfl ?_
    exact ezw_keepE [true, false] (J78_4 (0) ⟨by decide, by decide⟩ (by omega))
def ezm_m243Q (e : Bool × Bool) (F : Nat → Nat → Int) (A : Nat → Int → Int) (i0 i2 i3 i7 i8 i13 i18 i19 i20 i25 i29 i30 i31 i36 i37 i38 : Int) (r73 r74 r75 r76 r77 r78 r79 r80 r81 r82 r83 r84 r85 r86 r87 r88 r89 r90 r91 r92 r93 r94 r95 : Int → Int) (n : Int) : Option ezq_V → (Nat → ezq_C) → Prop := fun v g' => ∃ (x7 x8 : Int) (x78 : Int → Int), ezm_h e F A i0 i2 i3 x7 x8 i13 i18 i19 i20 i25 i29 i30 i31 i36 i37 i38 r73 r74 r75 r76 r77 x78 r79 r80 r81 r82 r83 r84 r85 r86 r87 r88 r89 r90 r91 r92 r93 r94 r95 = g' ∧ ezm_T i0 i2 i3 x7 x8 i13 i18 i19 i20 i25 i29 i30 i31 i36 i37 i38 r73 r74 r75 r76 r77 x78 r79 r80 r81 r82 r83 r84 r85 r86 r87 r88 r89 r90 r91 r92 r93 r94 r95 ∧ (i7 ≤ x7 ∧ x7 ≤ n) ∧ (∀ j, j < 100 → x78 j = r78 j) ∧ (x8 = 0 → ezm_RD i13 i19 x78 r79 r80 r84) ∧ none = v
theorem ezm_m243 {n : Int} (hT : ezm_T i0 i2 i3 i7 i8 i13 i18 i19 i20 i25 i29 i30 i31 i36 i37 i38 r73 r74 r75 r76 r77 r78 r79 r80 r81 r82 r83 r84 r85 r86 r87 r88 r89 r90 r91 r92 r93 r94 r95) (hd : 4 ≤ d) (hn : 0 ≤ i7 ∧ i7 ≤ n) (hs : r74 n = 0) (h1 : n ≤ 1000) (h0 : i8 = 0) (hc : 0 ≤ i13 ∧ i13 ≤ i7) (rd : ezm_RD i13 i19 r78 r79 r80 r84) : ezw_C l ρ B xa Hb D cA 243 d [ezw_p 72] (ezm_h e F A i0 i2 i3 i7 i8 i13 i18 i19 i20 i25 i29 i30 i31 i36 i37 i38 r73 r74 r75 r76 r77 r78 r79 r80 r81 r82 r83 r84 r85 r86 r87 r88 r89 r90 r91 r92 r93 r94 r95) (ezm_m243Q  e F A i0 i2 i3 i7 i8 i13 i18 i19 i20 i25 i29 i30 i31 i36 i37 i38 r73 r74 r75 r76 r77 r78 r79 r80 r81 r82 r83 r84 r85 r86 r87 r88 r89 r90 r91 r92 r93 r94 r95 n) := by
  refine ezw_met (k := 4) rfl rfl ?_
  refine ezw_iconst (0) rfl rfl ?_
  refine ezw_istore_n rfl rfl ?_
  refine ezw_iconst (1) rfl rfl ?_
  refine ezw_istore_n rfl rfl ?_
  have L4_2 : ∀ c1 : Int, ezw_in c1 → ∀ y3 : Int, ezw_in y3 → ∀ y4 : Int, ezw_in y4 → ∀ x8_2 : Int, ∀ x78_2 : Int → Int, ezm_T i0 i2 i3 c1 x8_2 i13 i18 i19 i20 i25 i29 i30 i31 i36 i37 i38 r73 r74 r75 r76 r77 x78_2 r79 r80 r81 r82 r83 r84 r85 r86 r87 r88 r89 r90 r91 r92 r93 r94 r95 → (i7 ≤ c1) → (0 ≤ i7 ∧ i7 ≤ c1 ∧ c1 ≤ n ∧ x8_2 = 0) → (∀ j, j < 100 → x78_2 j = r78 j) → (ezm_RD i13 i19 x78_2 r79 r80 r84) → ezw_E l ρ B xa Hb D cA d ezq_re243 (ezm_m243Q  e F A i0 i2 i3 i7 i8 i13 i18 i19 i20 i25 i29 i30 i31 i36 i37 i38 r73 r74 r75 r76 r77 r78 r79 r80 r81 r82 r83 r84 r85 r86 r87 r88 r89 r90 r91 r92 r93 r94 r95 n) 4 [some (ezw_p 72), some (ezw_i y3), some (ezw_i y4), none, none] [] (ezm_h e F A i0 i2 i3 c1 x8_2 i13 i18 i19 i20 i25 i29 i30 i31 i36 i37 i38 r73 r74 r75 r76 r77 x78_2 r79 r80 r81 r82 r83 r84 r85 r86 r87 r88 r89 r90 r91 r92 r93 r94 r95) := by
    refine ezs_up ?_
    intro c1 hc1 ihc1 y3 hy3 y4 hy4 x8_2 x78_2 hT g_2 v2_2 fb_2 rd_2
    have k5 := hT.t7
    have k6 := hT.t8
    have b0 := ezm_za0 (hT.t78 100) (by decide)
    have b3 := ezm_za3 (hT.t78 103) (by decide)
    refine ezw_iload_n rfl rfl ?_
    refine ezw_if_eq rfl rfl hy4 (fun h5_6 => ?_) (fun h5_6 => ?_)
    · exact ezw_return rfl rfl ⟨c1, x8_2, x78_2, rfl, hT, by omega, fb_2, fun z => rd_2, rfl⟩
    · refine ezw_aload_n rfl rfl ?_
      refine ezm_gp (p := 78) rfl (fun _ => rfl) ?_
      refine ezw_bipush (103) rfl rfl ?_
      refine ezm_l78 rfl (by omega) (by omega) (fun u7 eu7 => ?_)
      have ku7 : ezm_k78 (103) u7 := eu7 ▸ hT.t78 (103)
      have zu7 := ezm_za3 ku7 (by omega)
      refine ezw_istore_n rfl rfl ?_
      refine ezw_aload_n rfl rfl ?_
      refine ezw_iconst (1) rfl rfl ?_
      refine ezw_iconst (0) rfl rfl ?_
      refine ezw_bipush (8) rfl rfl ?_
      refine ezw_call0_3 rfl (by omega) (ezm_at rfl) rfl rfl rfl rfl (ezm_m235_v1 hT (by omega) ⟨by decide, by decide⟩ ⟨by decide, by decide⟩ (by omega) hs (by omega) (by omega) (by omega)) ?_
      rintro _ _ ⟨x8_8, rfl, hT, u9, hu9, p8_0, p8_1, p8_2, f_8, rfl⟩
      have k10 := hT.t8
      refine ezw_istore rfl rfl ?_
      refine ezw_aload_n rfl rfl ?_
      refine ezm_g8 rfl ?_
      refine ezw_if_ne rfl rfl ⟨by omega, by omega⟩ (fun h30_10 => ?_) (fun h30_10 => ?_)
      · refine ezw_aload_n rfl rfl ?_
        refine ezm_g8 rfl ?_
        refine ezw_if_ne rfl rfl ⟨by omega, by omega⟩ (fun h55_10 => ?_) (fun h55_10 => ?_)
        · refine ezw_aload_n rfl rfl ?_
          refine ezm_g8 rfl ?_
          refine ezw_if_le rfl rfl ⟨by omega, by omega⟩ (fun h73_10 => ?_) (fun h73_10 => ?_)
          · refine ezw_iload_n rfl rfl ?_
            refine ezw_iconst (1) rfl rfl ?_
            refine ezw_iload rfl rfl ?_
            refine ezm_ishl1 rfl (by omega) (by omega) (fun u11 hu11 ku11 => ?_)
            refine ezs_ior rfl (fun u12 hu12 => ?_)
            refine ezw_istore_n rfl rfl ?_
            refine ezw_aload_n rfl rfl ?_
            refine ezw_dup rfl rfl ?_
            refine ezm_g7 rfl ?_
            refine ezw_iconst (1) rfl rfl ?_
            refine ezw_iadd (k := c1 + 1) rfl (by omega) ?_
            refine ezm_p7 hT rfl ⟨by omega, by omega⟩ (fun hT => ?_)
            refine ezw_aload_n rfl rfl ?_
            refine ezm_gp (p := 78) rfl (fun _ => rfl) ?_
            refine ezw_sipush (165) rfl rfl ?_
            refine ezw_iload_n rfl rfl ?_
            refine ezw_iadd (k := u7 + 165) rfl (by omega) ?_
            refine ezw_iload rfl rfl ?_
            refine ezm_s78 hT rfl (by omega) (by omega) ⟨hu9, by omega, by omega, by omega, by omega, by omega, by omega, by omega⟩ (fun r78_13 hT er78_13 fr78_13 => ?_)
            refine ezw_aload_n rfl rfl ?_
            refine ezm_gp (p := 78) rfl (fun _ => rfl) ?_
            refine ezw_bipush (103) rfl rfl ?_
            refine ezw_dup2 rfl rfl rfl ?_
            refine ezm_l78 rfl (by omega) (by omega) (fun u14 eu14 => ?_)
            have ku14 : ezm_k78 (103) u14 := eu14 ▸ hT.t78 (103)
            have zu14 := ezm_za3 ku14 (by omega)
            have qu14 : u14 = u7 := by rw [eu14, fr78_13 (103) (by omega), ← eu7]
            refine ezw_iconst (1) rfl rfl ?_
            refine ezw_iadd (k := u14 + 1) rfl (by omega) ?_
            refine ezm_s78 hT rfl (by omega) (by omega) ⟨⟨by omega, by omega⟩, by omega, by omega, by omega, by omega, by omega, by omega, by omega⟩ (fun r78_15 hT er78_15 fr78_15 => ?_)
            refine ezw_aload_n rfl rfl ?_
            refine ezw_call0_0 rfl (by omega) (ezm_at rfl) rfl rfl rfl rfl (ezm_m227 hT (by omega) (by omega) hs (by omega)) ?_
            rintro _ _ ⟨rfl, u17, hu17, f_16, rfl⟩
            refine ezw_istore_n rfl rfl ?_
            refine ezw_goto rfl rfl ?_
            exact ezw_keepE [true, true, true, false, false] (ihc1 (c1 + 1) (by omega) ⟨by omega, by omega⟩ u12 hu12 u17 ⟨by omega, by omega⟩ x8_8 r78_15 hT (by omega) (by omega) (fun j hj => by rw [fr78_15 j (by omega), fr78_13 j (by omega), fb_2 j hj]) (ezm_RD_str rd_2 b0.2 eu7 (by omega) (by omega) (by rw [er78_15]; omega) (by rw [fr78_15 (u7 + 165) (by omega), er78_13]; have := ezm_RD_st rd_2 (f_8 (by omega)) (by omega); omega) (fun j h1 h2 => by rw [fr78_15 j (by omega), fr78_13 j (by omega)])))
          · exact ezw_return rfl rfl ⟨c1, x8_8, x78_2, rfl, hT, by omega, fb_2, fun z => absurd z (by omega), rfl⟩
        · refine ezw_iload_n rfl rfl ?_
          refine ezw_bipush (6) rfl rfl ?_
          refine ezw_icmp_ne rfl rfl (ezm_in78 ku7) ⟨by decide, by decide⟩ (fun h61_17 => ?_) (fun h61_17 => ?_)
          · refine ezw_aload_n rfl rfl ?_
            refine ezm_g8 rfl ?_
            refine ezw_if_le rfl rfl ⟨by omega, by omega⟩ (fun h73_17 => ?_) (fun h73_17 => ?_)
            · refine ezw_iload_n rfl rfl ?_
              refine ezw_iconst (1) rfl rfl ?_
              refine ezw_iload rfl rfl ?_
              refine ezm_ishl1 rfl (by omega) (by omega) (fun u18 hu18 ku18 => ?_)
              refine ezs_ior rfl (fun u19 hu19 => ?_)
              refine ezw_istore_n rfl rfl ?_
              refine ezw_aload_n rfl rfl ?_
              refine ezw_dup rfl rfl ?_
              refine ezm_g7 rfl ?_
              refine ezw_iconst (1) rfl rfl ?_
              refine ezw_iadd (k := c1 + 1) rfl (by omega) ?_
              refine ezm_p7 hT rfl ⟨by omega, by omega⟩ (fun hT => ?_)
              refine ezw_aload_n rfl rfl ?_
              refine ezm_gp (p := 78) rfl (fun _ => rfl) ?_
              refine ezw_sipush (165) rfl rfl ?_
              refine ezw_iload_n rfl rfl ?_
              refine ezw_iadd (k := u7 + 165) rfl (by omega) ?_
              refine ezw_iload rfl rfl ?_
              refine ezm_s78 hT rfl (by omega) (by omega) ⟨hu9, by omega, by omega, by omega, by omega, by omega, by omega, by omega⟩ (fun r78_20 hT er78_20 fr78_20 => ?_)
              refine ezw_aload_n rfl rfl ?_
              refine ezm_gp (p := 78) rfl (fun _ => rfl) ?_
              refine ezw_bipush (103) rfl rfl ?_
              refine ezw_dup2 rfl rfl rfl ?_
              refine ezm_l78 rfl (by omega) (by omega) (fun u21 eu21 => ?_)
              have ku21 : ezm_k78 (103) u21 := eu21 ▸ hT.t78 (103)
              have zu21 := ezm_za3 ku21 (by omega)
              have qu21 : u21 = u7 := by rw [eu21, fr78_20 (103) (by omega), ← eu7]
              refine ezw_iconst (1) rfl rfl ?_
              refine ezw_iadd (k := u21 + 1) rfl (by omega) ?_
              refine ezm_s78 hT rfl (by omega) (by omega) ⟨⟨by omega, by omega⟩, by omega, by omega, by omega, by omega, by omega, by omega, by omega⟩ (fun r78_22 hT er78_22 fr78_22 => ?_)
              refine ezw_aload_n rfl rfl ?_
              refine ezw_call0_0 rfl (by omega) (ezm_at rfl) rfl rfl rfl rfl (ezm_m227 hT (by omega) (by omega) hs (by omega)) ?_
              rintro _ _ ⟨rfl, u24, hu24, f_23, rfl⟩
              refine ezw_istore_n rfl rfl ?_
              refine ezw_goto rfl rfl ?_
              exact ezw_keepE [true, true, true, false, false] (ihc1 (c1 + 1) (by omega) ⟨by omega, by omega⟩ u19 hu19 u24 ⟨by omega, by omega⟩ x8_8 r78_22 hT (by omega) (by omega) (fun j hj => by rw [fr78_22 j (by omega), fr78_20 j (by omega), fb_2 j hj]) (ezm_RD_str rd_2 b0.2 eu7 (by omega) (by omega) (by rw [er78_22]; omega) (by rw [fr78_22 (u7 + 165) (by omega), er78_20]; have := ezm_RD_st rd_2 (f_8 (by omega)) (by omega); omega) (fun j h1 h2 => by rw [fr78_22 j (by omega), fr78_20 j (by omega)])))
            · exact ezw_return rfl rfl ⟨c1, x8_8, x78_2, rfl, hT, by omega, fb_2, fun z => absurd z (by omega), rfl⟩
          · refine ezw_aload_n rfl rfl ?_
            refine ezw_iconst (5) rfl rfl ?_
            refine ezw_call0_1 rfl (by omega) (ezm_at rfl) rfl rfl rfl rfl (ezm_m225 hT (by omega) ⟨by decide, by decide⟩ (by omega) (by omega)) ?_
            rintro _ _ ⟨x8_25, rfl, hT, p25_0, p25_1, rfl⟩
            have k26 := hT.t8
            refine ezw_aload_n rfl rfl ?_
            refine ezm_g8 rfl ?_
            refine ezw_if_le rfl rfl ⟨by omega, by omega⟩ (fun h73_26 => ?_) (fun h73_26 => ?_)
            · refine ezw_iload_n rfl rfl ?_
              refine ezw_iconst (1) rfl rfl ?_
              refine ezw_iload rfl rfl ?_
              refine ezm_ishl1 rfl (by omega) (by omega) (fun u27 hu27 ku27 => ?_)
              refine ezs_ior rfl (fun u28 hu28 => ?_)
              refine ezw_istore_n rfl rfl ?_
              refine ezw_aload_n rfl rfl ?_
              refine ezw_dup rfl rfl ?_
              refine ezm_g7 rfl ?_
              refine ezw_iconst (1) rfl rfl ?_
              refine ezw_iadd (k := c1 + 1) rfl (by omega) ?_
              refine ezm_p7 hT rfl ⟨by omega, by omega⟩ (fun hT => ?_)
              refine ezw_aload_n rfl rfl ?_
              refine ezm_gp (p := 78) rfl (fun _ => rfl) ?_
              refine ezw_sipush (165) rfl rfl ?_
              refine ezw_iload_n rfl rfl ?_
              refine ezw_iadd (k := u7 + 165) rfl (by omega) ?_
              refine ezw_iload rfl rfl ?_
              refine ezm_s78 hT rfl (by omega) (by omega) ⟨hu9, by omega, by omega, by omega, by omega, by omega, by omega, by omega⟩ (fun r78_29 hT er78_29 fr78_29 => ?_)
              refine ezw_aload_n rfl rfl ?_
              refine ezm_gp (p := 78) rfl (fun _ => rfl) ?_
              refine ezw_bipush (103) rfl rfl ?_
              refine ezw_dup2 rfl rfl rfl ?_
              refine ezm_l78 rfl (by omega) (by omega) (fun u30 eu30 => ?_)
              have ku30 : ezm_k78 (103) u30 := eu30 ▸ hT.t78 (103)
              have zu30 := ezm_za3 ku30 (by omega)
              have qu30 : u30 = u7 := by rw [eu30, fr78_29 (103) (by omega), ← eu7]
              refine ezw_iconst (1) rfl rfl ?_
              refine ezw_iadd (k := u30 + 1) rfl (by omega) ?_
              refine ezm_s78 hT rfl (by omega) (by omega) ⟨⟨by omega, by omega⟩, by omega, by omega, by omega, by omega, by omega, by omega, by omega⟩ (fun r78_31 hT er78_31 fr78_31 => ?_)
              refine ezw_aload_n rfl rfl ?_
              refine ezw_call0_0 rfl (by omega) (ezm_at rfl) rfl rfl rfl rfl (ezm_m227 hT (by omega) (by omega) hs (by omega)) ?_
              rintro _ _ ⟨rfl, u33, hu33, f_32, rfl⟩
              refine ezw_istore_n rfl rfl ?_
              refine ezw_goto rfl rfl ?_
              exact ezw_keepE [true, true, true, false, false] (ihc1 (c1 + 1) (by omega) ⟨by omega, by omega⟩ u28 hu28 u33 ⟨by omega, by omega⟩ x8_25 r78_31 hT (by omega) (by omega) (fun j hj => by rw [fr78_31 j (by omega), fr78_29 j (by omega), fb_2 j hj]) (ezm_RD_str rd_2 b0.2 eu7 (by omega) (by omega) (by rw [er78_31]; omega) (by rw [fr78_31 (u7 + 165) (by omega), er78_29]; have := ezm_RD_st rd_2 (f_8 (by omega)) (by omega); omega) (fun j h1 h2 => by rw [fr78_31 j (by omega), fr78_29 j (by omega)])))
            · exact ezw_return rfl rfl ⟨c1, x8_25, x78_2, rfl, hT, by omega, fb_2, fun z => absurd z (by omega), rfl⟩
      · refine ezw_iload_n rfl rfl ?_
        refine ezw_iload rfl rfl ?_
        refine ezw_ishrO rfl (fun u34 hu34 => ?_)
        refine ezw_iconst (1) rfl rfl ?_
        refine ezm_iand rfl (fun u35 hu35 ku35 => ?_)
        refine ezw_iconst (1) rfl rfl ?_
        refine ezw_icmp_ne rfl rfl hu35 ⟨by decide, by decide⟩ (fun h40_35 => ?_) (fun h40_35 => ?_)
        · refine ezw_aload_n rfl rfl ?_
          refine ezm_g8 rfl ?_
          refine ezw_if_ne rfl rfl ⟨by omega, by omega⟩ (fun h55_35 => ?_) (fun h55_35 => ?_)
          · refine ezw_aload_n rfl rfl ?_
            refine ezm_g8 rfl ?_
            refine ezw_if_le rfl rfl ⟨by omega, by omega⟩ (fun h73_35 => ?_) (fun h73_35 => ?_)
            · refine ezw_iload_n rfl rfl ?_
              refine ezw_iconst (1) rfl rfl ?_
              refine ezw_iload rfl rfl ?_
              refine ezm_ishl1 rfl (by omega) (by omega) (fun u36 hu36 ku36 => ?_)
              refine ezs_ior rfl (fun u37 hu37 => ?_)
              refine ezw_istore_n rfl rfl ?_
              refine ezw_aload_n rfl rfl ?_
              refine ezw_dup rfl rfl ?_
              refine ezm_g7 rfl ?_
              refine ezw_iconst (1) rfl rfl ?_
              refine ezw_iadd (k := c1 + 1) rfl (by omega) ?_
              refine ezm_p7 hT rfl ⟨by omega, by omega⟩ (fun hT => ?_)
              refine ezw_aload_n rfl rfl ?_
              refine ezm_gp (p := 78) rfl (fun _ => rfl) ?_
              refine ezw_sipush (165) rfl rfl ?_
              refine ezw_iload_n rfl rfl ?_
              refine ezw_iadd (k := u7 + 165) rfl (by omega) ?_
              refine ezw_iload rfl rfl ?_
              refine ezm_s78 hT rfl (by omega) (by omega) ⟨hu9, by omega, by omega, by omega, by omega, by omega, by omega, by omega⟩ (fun r78_38 hT er78_38 fr78_38 => ?_)
              refine ezw_aload_n rfl rfl ?_
              refine ezm_gp (p := 78) rfl (fun _ => rfl) ?_
              refine ezw_bipush (103) rfl rfl ?_
              refine ezw_dup2 rfl rfl rfl ?_
              refine ezm_l78 rfl (by omega) (by omega) (fun u39 eu39 => ?_)
              have ku39 : ezm_k78 (103) u39 := eu39 ▸ hT.t78 (103)
              have zu39 := ezm_za3 ku39 (by omega)
              have qu39 : u39 = u7 := by rw [eu39, fr78_38 (103) (by omega), ← eu7]
              refine ezw_iconst (1) rfl rfl ?_
              refine ezw_iadd (k := u39 + 1) rfl (by omega) ?_
              refine ezm_s78 hT rfl (by omega) (by omega) ⟨⟨by omega, by omega⟩, by omega, by omega, by omega, by omega, by omega, by omega, by omega⟩ (fun r78_40 hT er78_40 fr78_40 => ?_)
              refine ezw_aload_n rfl rfl ?_
              refine ezw_call0_0 rfl (by omega) (ezm_at rfl) rfl rfl rfl rfl (ezm_m227 hT (by omega) (by omega) hs (by omega)) ?_
              rintro _ _ ⟨rfl, u42, hu42, f_41, rfl⟩
              refine ezw_istore_n rfl rfl ?_
              refine ezw_goto rfl rfl ?_
              exact ezw_keepE [true, true, true, false, false] (ihc1 (c1 + 1) (by omega) ⟨by omega, by omega⟩ u37 hu37 u42 ⟨by omega, by omega⟩ x8_8 r78_40 hT (by omega) (by omega) (fun j hj => by rw [fr78_40 j (by omega), fr78_38 j (by omega), fb_2 j hj]) (ezm_RD_str rd_2 b0.2 eu7 (by omega) (by omega) (by rw [er78_40]; omega) (by rw [fr78_40 (u7 + 165) (by omega), er78_38]; have := ezm_RD_st rd_2 (f_8 (by omega)) (by omega); omega) (fun j h1 h2 => by rw [fr78_40 j (by omega), fr78_38 j (by omega)])))
            · exact ezw_return rfl rfl ⟨c1, x8_8, x78_2, rfl, hT, by omega, fb_2, fun z => absurd z (by omega), rfl⟩
          · refine ezw_iload_n rfl rfl ?_
            refine ezw_bipush (6) rfl rfl ?_
            refine ezw_icmp_ne rfl rfl (ezm_in78 ku7) ⟨by decide, by decide⟩ (fun h61_42 => ?_) (fun h61_42 => ?_)
            · refine ezw_aload_n rfl rfl ?_
              refine ezm_g8 rfl ?_
              refine ezw_if_le rfl rfl ⟨by omega, by omega⟩ (fun h73_42 => ?_) (fun h73_42 => ?_)
              · refine ezw_iload_n rfl rfl ?_
                refine ezw_iconst (1) rfl rfl ?_
                refine ezw_iload rfl rfl ?_
                refine ezm_ishl1 rfl (by omega) (by omega) (fun u43 hu43 ku43 => ?_)
                refine ezs_ior rfl (fun u44 hu44 => ?_)
                refine ezw_istore_n rfl rfl ?_
                refine ezw_aload_n rfl rfl ?_
                refine ezw_dup rfl rfl ?_
                refine ezm_g7 rfl ?_
                refine ezw_iconst (1) rfl rfl ?_
                refine ezw_iadd (k := c1 + 1) rfl (by omega) ?_
                refine ezm_p7 hT rfl ⟨by omega, by omega⟩ (fun hT => ?_)
                refine ezw_aload_n rfl rfl ?_
                refine ezm_gp (p := 78) rfl (fun _ => rfl) ?_
                refine ezw_sipush (165) rfl rfl ?_
                refine ezw_iload_n rfl rfl ?_
                refine ezw_iadd (k := u7 + 165) rfl (by omega) ?_
                refine ezw_iload rfl rfl ?_
                refine ezm_s78 hT rfl (by omega) (by omega) ⟨hu9, by omega, by omega, by omega, by omega, by omega, by omega, by omega⟩ (fun r78_45 hT er78_45 fr78_45 => ?_)
                refine ezw_aload_n rfl rfl ?_
                refine ezm_gp (p := 78) rfl (fun _ => rfl) ?_
                refine ezw_bipush (103) rfl rfl ?_
                refine ezw_dup2 rfl rfl rfl ?_
                refine ezm_l78 rfl (by omega) (by omega) (fun u46 eu46 => ?_)
                have ku46 : ezm_k78 (103) u46 := eu46 ▸ hT.t78 (103)
                have zu46 := ezm_za3 ku46 (by omega)
                have qu46 : u46 = u7 := by rw [eu46, fr78_45 (103) (by omega), ← eu7]
                refine ezw_iconst (1) rfl rfl ?_
                refine ezw_iadd (k := u46 + 1) rfl (by omega) ?_
                refine ezm_s78 hT rfl (by omega) (by omega) ⟨⟨by omega, by omega⟩, by omega, by omega, by omega, by omega, by omega, by omega, by omega⟩ (fun r78_47 hT er78_47 fr78_47 => ?_)
                refine ezw_aload_n rfl rfl ?_
                refine ezw_call0_0 rfl (by omega) (ezm_at rfl) rfl rfl rfl rfl (ezm_m227 hT (by omega) (by omega) hs (by omega)) ?_
                rintro _ _ ⟨rfl, u49, hu49, f_48, rfl⟩
                refine ezw_istore_n rfl rfl ?_
                refine ezw_goto rfl rfl ?_
                exact ezw_keepE [true, true, true, false, false] (ihc1 (c1 + 1) (by omega) ⟨by omega, by omega⟩ u44 hu44 u49 ⟨by omega, by omega⟩ x8_8 r78_47 hT (by omega) (by omega) (fun j hj => by rw [fr78_47 j (by omega), fr78_45 j (by omega), fb_2 j hj]) (ezm_RD_str rd_2 b0.2 eu7 (by omega) (by omega) (by rw [er78_47]; omega) (by rw [fr78_47 (u7 + 165) (by omega), er78_45]; have := ezm_RD_st rd_2 (f_8 (by omega)) (by omega); omega) (fun j h1 h2 => by rw [fr78_47 j (by omega), fr78_45 j (by omega)])))
              · exact ezw_return rfl rfl ⟨c1, x8_8, x78_2, rfl, hT, by omega, fb_2, fun z => absurd z (by omega), rfl⟩
            · refine ezw_aload_n rfl rfl ?_
              refine ezw_iconst (5) rfl rfl ?_
              refine ezw_call0_1 rfl (by omega) (ezm_at rfl) rfl rfl rfl rfl (ezm_m225 hT (by omega) ⟨by decide, by decide⟩ (by omega) (by omega)) ?_
              rintro _ _ ⟨x8_50, rfl, hT, p50_0, p50_1, rfl⟩
              have k51 := hT.t8
              refine ezw_aload_n rfl rfl ?_
              refine ezm_g8 rfl ?_
              refine ezw_if_le rfl rfl ⟨by omega, by omega⟩ (fun h73_51 => ?_) (fun h73_51 => ?_)
              · refine ezw_iload_n rfl rfl ?_
                refine ezw_iconst (1) rfl rfl ?_
                refine ezw_iload rfl rfl ?_
                refine ezm_ishl1 rfl (by omega) (by omega) (fun u52 hu52 ku52 => ?_)
                refine ezs_ior rfl (fun u53 hu53 => ?_)
                refine ezw_istore_n rfl rfl ?_
                refine ezw_aload_n rfl rfl ?_
                refine ezw_dup rfl rfl ?_
                refine ezm_g7 rfl ?_
                refine ezw_iconst (1) rfl rfl ?_
                refine ezw_iadd (k := c1 + 1) rfl (by omega) ?_
                refine ezm_p7 hT rfl ⟨by omega, by omega⟩ (fun hT => ?_)
                refine ezw_aload_n rfl rfl ?_
                refine ezm_gp (p := 78) rfl (fun _ => rfl) ?_
                refine ezw_sipush (165) rfl rfl ?_
                refine ezw_iload_n rfl rfl ?_
                refine ezw_iadd (k := u7 + 165) rfl (by omega) ?_
                refine ezw_iload rfl rfl ?_
                refine ezm_s78 hT rfl (by omega) (by omega) ⟨hu9, by omega, by omega, by omega, by omega, by omega, by omega, by omega⟩ (fun r78_54 hT er78_54 fr78_54 => ?_)
                refine ezw_aload_n rfl rfl ?_
                refine ezm_gp (p := 78) rfl (fun _ => rfl) ?_
                refine ezw_bipush (103) rfl rfl ?_
                refine ezw_dup2 rfl rfl rfl ?_
                refine ezm_l78 rfl (by omega) (by omega) (fun u55 eu55 => ?_)
                have ku55 : ezm_k78 (103) u55 := eu55 ▸ hT.t78 (103)
                have zu55 := ezm_za3 ku55 (by omega)
                have qu55 : u55 = u7 := by rw [eu55, fr78_54 (103) (by omega), ← eu7]
                refine ezw_iconst (1) rfl rfl ?_
                refine ezw_iadd (k := u55 + 1) rfl (by omega) ?_
                refine ezm_s78 hT rfl (by omega) (by omega) ⟨⟨by omega, by omega⟩, by omega, by omega, by omega, by omega, by omega, by omega, by omega⟩ (fun r78_56 hT er78_56 fr78_56 => ?_)
                refine ezw_aload_n rfl rfl ?_
                refine ezw_call0_0 rfl (by omega) (ezm_at rfl) rfl rfl rfl rfl (ezm_m227 hT (by omega) (by omega) hs (by omega)) ?_
                rintro _ _ ⟨rfl, u58, hu58, f_57, rfl⟩
                refine ezw_istore_n rfl rfl ?_
                refine ezw_goto rfl rfl ?_
                exact ezw_keepE [true, true, true, false, false] (ihc1 (c1 + 1) (by omega) ⟨by omega, by omega⟩ u53 hu53 u58 ⟨by omega, by omega⟩ x8_50 r78_56 hT (by omega) (by omega) (fun j hj => by rw [fr78_56 j (by omega), fr78_54 j (by omega), fb_2 j hj]) (ezm_RD_str rd_2 b0.2 eu7 (by omega) (by omega) (by rw [er78_56]; omega) (by rw [fr78_56 (u7 + 165) (by omega), er78_54]; have := ezm_RD_st rd_2 (f_8 (by omega)) (by omega); omega) (fun j h1 h2 => by rw [fr78_56 j (by omega), fr78_54 j (by omega)])))
              · exact ezw_return rfl rfl ⟨c1, x8_50, x78_2, rfl, hT, by omega, fb_2, fun z => absurd z (by omega), rfl⟩
        · refine ezw_aload_n rfl rfl ?_
          refine ezw_iconst (3) rfl rfl ?_
          refine ezw_call0_1 rfl (by omega) (ezm_at rfl) rfl rfl rfl rfl (ezm_m225 hT (by omega) ⟨by decide, by decide⟩ (by omega) (by omega)) ?_
          rintro _ _ ⟨x8_59, rfl, hT, p59_0, p59_1, rfl⟩
          have k60 := hT.t8
          refine ezw_goto rfl rfl ?_
          refine ezw_aload_n rfl rfl ?_
          refine ezm_g8 rfl ?_
          refine ezw_if_le rfl rfl ⟨by omega, by omega⟩ (fun h73_60 => ?_) (fun h73_60 => ?_)
          · refine ezw_iload_n rfl rfl ?_
            refine ezw_iconst (1) rfl rfl ?_
            refine ezw_iload rfl rfl ?_
            refine ezm_ishl1 rfl (by omega) (by omega) (fun u61 hu61 ku61 => ?_)
            refine ezs_ior rfl (fun u62 hu62 => ?_)
            refine ezw_istore_n rfl rfl ?_
            refine ezw_aload_n rfl rfl ?_
            refine ezw_dup rfl rfl ?_
            refine ezm_g7 rfl ?_
            refine ezw_iconst (1) rfl rfl ?_
            refine ezw_iadd (k := c1 + 1) rfl (by omega) ?_
            refine ezm_p7 hT rfl ⟨by omega, by omega⟩ (fun hT => ?_)
            refine ezw_aload_n rfl rfl ?_
            refine ezm_gp (p := 78) rfl (fun _ => rfl) ?_
            refine ezw_sipush (165) rfl rfl ?_
            refine ezw_iload_n rfl rfl ?_
            refine ezw_iadd (k := u7 + 165) rfl (by omega) ?_
            refine ezw_iload rfl rfl ?_
            refine ezm_s78 hT rfl (by omega) (by omega) ⟨hu9, by omega, by omega, by omega, by omega, by omega, by omega, by omega⟩ (fun r78_63 hT er78_63 fr78_63 => ?_)
            refine ezw_aload_n rfl rfl ?_
            refine ezm_gp (p := 78) rfl (fun _ => rfl) ?_
            refine ezw_bipush (103) rfl rfl ?_
            refine ezw_dup2 rfl rfl rfl ?_
            refine ezm_l78 rfl (by omega) (by omega) (fun u64 eu64 => ?_)
            have ku64 : ezm_k78 (103) u64 := eu64 ▸ hT.t78 (103)
            have zu64 := ezm_za3 ku64 (by omega)
            have qu64 : u64 = u7 := by rw [eu64, fr78_63 (103) (by omega), ← eu7]
            refine ezw_iconst (1) rfl rfl ?_
            refine ezw_iadd (k := u64 + 1) rfl (by omega) ?_
            refine ezm_s78 hT rfl (by omega) (by omega) ⟨⟨by omega, by omega⟩, by omega, by omega, by omega, by omega, by omega, by omega, by omega⟩ (fun r78_65 hT er78_65 fr78_65 => ?_)
            refine ezw_aload_n rfl rfl ?_
            refine ezw_call0_0 rfl (by omega) (ezm_at rfl) rfl rfl rfl rfl (ezm_m227 hT (by omega) (by omega) hs (by omega)) ?_
            rintro _ _ ⟨rfl, u67, hu67, f_66, rfl⟩
            refine ezw_istore_n rfl rfl ?_
            refine ezw_goto rfl rfl ?_
            exact ezw_keepE [true, true, true, false, false] (ihc1 (c1 + 1) (by omega) ⟨by omega, by omega⟩ u62 hu62 u67 ⟨by omega, by omega⟩ x8_59 r78_65 hT (by omega) (by omega) (fun j hj => by rw [fr78_65 j (by omega), fr78_63 j (by omega), fb_2 j hj]) (ezm_RD_str rd_2 b0.2 eu7 (by omega) (by omega) (by rw [er78_65]; omega) (by rw [fr78_65 (u7 + 165) (by omega), er78_63]; have := ezm_RD_st rd_2 (f_8 (by omega)) (by omega); omega) (fun j h1 h2 => by rw [fr78_65 j (by omega), fr78_63 j (by omega)])))
          · exact ezw_return rfl rfl ⟨c1, x8_59, x78_2, rfl, hT, by omega, fb_2, fun z => absurd z (by omega), rfl⟩
  exact ezw_keepE [true, true, true, false, false] (L4_2 i7 ⟨by omega, by omega⟩ (0) ⟨by decide, by decide⟩ (1) ⟨by decide, by decide⟩ i8 r78 hT (by omega) (by omega) (fun _ _ => rfl) rd)
def ezm_m241Q (e : Bool × Bool) (F : Nat → Nat → Int) (A : Nat → Int → Int) (i0 i2 i3 i7 i8 i13 i18 i19 i20 i25 i29 i30 i31 i36 i37 i38 : Int) (r73 r74 r75 r76 r77 r78 r79 r80 r81 r82 r83 r84 r85 r86 r87 r88 r89 r90 r91 r92 r93 r94 r95 : Int → Int) (n : Int) : Option ezq_V → (Nat → ezq_C) → Prop := fun v g' => ∃ (x7 x8 x13 x20 : Int) (x78 x79 x80 : Int → Int), ezm_h e F A i0 i2 i3 x7 x8 x13 i18 i19 x20 i25 i29 i30 i31 i36 i37 i38 r73 r74 r75 r76 r77 x78 x79 x80 r81 r82 r83 r84 r85 r86 r87 r88 r89 r90 r91 r92 r93 r94 r95 = g' ∧ ezm_T i0 i2 i3 x7 x8 x13 i18 i19 x20 i25 i29 i30 i31 i36 i37 i38 r73 r74 r75 r76 r77 x78 x79 x80 r81 r82 r83 r84 r85 r86 r87 r88 r89 r90 r91 r92 r93 r94 r95 ∧ (i7 ≤ x7 ∧ x7 ≤ n) ∧ (i13 ≤ x13 ∧ x13 ≤ x7) ∧ (∀ j, j < 100 → x78 j = r78 j) ∧ (ezm_fr r79 r80 x79 x80 1100) ∧ (x8 = 0 → ezm_RD x13 i19 x78 x79 x80 r84) ∧ none = v
theorem ezm_m241 {n : Int} (hT : ezm_T i0 i2 i3 i7 i8 i13 i18 i19 i20 i25 i29 i30 i31 i36 i37 i38 r73 r74 r75 r76 r77 r78 r79 r80 r81 r82 r83 r84 r85 r86 r87 r88 r89 r90 r91 r92 r93 r94 r95) (hd : 32 ≤ d) (hn : 0 ≤ i7 ∧ i7 ≤ n) (hs : r74 n = 0) (h1 : n ≤ 1000) (h0 : i8 = 0) (hc : 0 ≤ i13 ∧ i13 ≤ i7) (rd : ezm_RD i13 i19 r78 r79 r80 r84) : ezw_C l ρ B xa Hb D cA 241 d [ezw_p 72] (ezm_h e F A i0 i2 i3 i7 i8 i13 i18 i19 i20 i25 i29 i30 i31 i36 i37 i38 r73 r74 r75 r76 r77 r78 r79 r80 r81 r82 r83 r84 r85 r86 r87 r88 r89 r90 r91 r92 r93 r94 r95) (ezm_m241Q  e F A i0 i2 i3 i7 i8 i13 i18 i19 i20 i25 i29 i30 i31 i36 i37 i38 r73 r74 r75 r76 r77 r78 r79 r80 r81 r82 r83 r84 r85 r86 r87 r88 r89 r90 r91 r92 r93 r94 r95 n) := by
  refine ezw_met (k := 1) rfl rfl ?_
  have b19 := hT.t19
  have bm := rd.1
  have b1 := ezm_za1 (hT.t78 101) (by decide)
  have b0 := ezm_za0 (hT.t78 100) (by decide)
  have b3 := ezm_za3 (hT.t78 103) (by decide)
  refine ezw_aload_n rfl rfl ?_
  refine ezw_call0_0 rfl (by omega) (ezm_at rfl) rfl rfl rfl rfl (ezm_m242 hT (by omega) (by omega) hs (by omega)) ?_
  rintro _ _ ⟨rfl, u2, hu2, p1_0, p1_1, rfl⟩
  refine ezw_istore_n rfl rfl ?_
  refine ezw_iload_n rfl rfl ?_
  refine ezw_if_ge rfl rfl hu2 (fun h6_2 => ?_) (fun h6_2 => ?_)
  · refine ezw_aload_n rfl rfl ?_
    refine ezm_g20 rfl ?_
    have k3 := hT.t20
    refine ezw_iload_n rfl rfl ?_
    refine ezw_ishrO rfl (fun u4 hu4 => ?_)
    refine ezw_iconst (1) rfl rfl ?_
    refine ezm_iand rfl (fun u5 hu5 ku5 => ?_)
    refine ezw_iconst (1) rfl rfl ?_
    refine ezw_icmp_ne rfl rfl hu5 ⟨by decide, by decide⟩ (fun h26_5 => ?_) (fun h26_5 => ?_)
    · refine ezw_aload_n rfl rfl ?_
      refine ezm_g8 rfl ?_
      have k6 := hT.t8
      refine ezw_if_le rfl rfl ⟨by omega, by omega⟩ (fun h38_6 => ?_) (fun h38_6 => ?_)
      · refine ezw_aload_n rfl rfl ?_
        refine ezw_dup rfl rfl ?_
        refine ezm_g20 rfl ?_
        refine ezw_iconst (1) rfl rfl ?_
        refine ezw_iload_n rfl rfl ?_
        refine ezm_ishl1 rfl (by omega) (by omega) (fun u7 hu7 ku7 => ?_)
        refine ezs_ior rfl (fun u8 hu8 => ?_)
        refine ezm_p20 hT rfl hu8 (fun hT => ?_)
        refine ezw_aload_n rfl rfl ?_
        refine ezw_dup rfl rfl ?_
        refine ezm_g7 rfl ?_
        have k9 := hT.t7
        refine ezw_iconst (1) rfl rfl ?_
        refine ezw_iadd (k := i7 + 1) rfl (by omega) ?_
        refine ezm_p7 hT rfl ⟨by omega, by omega⟩ (fun hT => ?_)
        refine ezw_iload_n rfl rfl ?_
        refine ezw_if_ne rfl rfl hu2 (fun h65_9 => ?_) (fun h65_9 => ?_)
        · refine ezw_iload_n rfl rfl ?_
          refine ezw_iconst (1) rfl rfl ?_
          refine ezw_icmp_ne rfl rfl hu2 ⟨by decide, by decide⟩ (fun h77_9 => ?_) (fun h77_9 => ?_)
          · refine ezw_iload_n rfl rfl ?_
            refine ezw_iconst (2) rfl rfl ?_
            refine ezw_icmp_ne rfl rfl hu2 ⟨by decide, by decide⟩ (fun h118_9 => ?_) (fun h118_9 => ?_)
            · refine ezw_iload_n rfl rfl ?_
              refine ezw_iconst (5) rfl rfl ?_
              refine ezw_icmp_ne rfl rfl hu2 ⟨by decide, by decide⟩ (fun h176_9 => ?_) (fun h176_9 => ?_)
              · refine ezw_iload_n rfl rfl ?_
                refine ezw_bipush (8) rfl rfl ?_
                refine ezw_icmp_ge rfl rfl hu2 ⟨by decide, by decide⟩ (fun h215_9 => ?_) (fun h215_9 => ?_)
                · refine ezw_aload_n rfl rfl ?_
                  refine ezm_gp (p := 78) rfl (fun _ => rfl) ?_
                  refine ezw_bipush (115) rfl rfl ?_
                  refine ezw_iload_n rfl rfl ?_
                  refine ezw_iadd (k := u2 + 115) rfl (by omega) ?_
                  refine ezw_bipush (8) rfl rfl ?_
                  refine ezw_isub (k := u2 + 107) rfl (by omega) ?_
                  refine ezw_aload_n rfl rfl ?_
                  refine ezm_g13 rfl ?_
                  have k10 := hT.t13
                  refine ezm_s78 hT rfl (by omega) (by omega) ⟨⟨by omega, by omega⟩, by omega, by omega, by omega, by omega, by omega, by omega, by omega⟩ (fun r78_11 hT er78_11 fr78_11 => ?_)
                  refine ezw_aload_n rfl rfl ?_
                  refine ezw_iconst (0) rfl rfl ?_
                  refine ezw_call0_1 rfl (by omega) (ezm_at rfl) rfl rfl rfl rfl (ezm_m245_v0 hT (by omega) (by omega) hs (by omega) (by omega)) ?_
                  rintro _ _ ⟨x7_12, x8_12, x13_12, x79_12, x80_12, rfl, hT, p12_0, p12_1, p12_2, fo_12, sg_12, rfl⟩
                  have k13 := hT.t7
                  have k14 := hT.t8
                  have k15 := hT.t13
                  refine ezw_aload_n rfl rfl ?_
                  refine ezw_iconst (0) rfl rfl ?_
                  refine ezw_iconst (0) rfl rfl ?_
                  refine ezw_call0_2 rfl (by omega) (ezm_at rfl) rfl rfl rfl rfl (ezm_m251 hT (by omega) ⟨by decide, by decide⟩ ⟨by decide, by decide⟩ (by omega)) ?_
                  rintro _ _ ⟨x13_16, x79_16, x80_16, rfl, hT, p16_0, fo_16, eo_16, ea_16, rfl⟩
                  have k17 := hT.t13
                  exact ezw_return rfl rfl ⟨x7_12, x8_12, x13_16, u8, r78_11, x79_16, x80_16, rfl, hT, by omega, by omega, fun j hj => by rw [fr78_11 j (by omega)], (ezm_fr_t (fun j hj => fo_12 j (by omega)) fo_16 (by omega)), fun z => ezm_RD_law rd b0.2 b3.2 (by omega) (show 115 ≤ u2 + 107 ∧ u2 + 107 ≤ 116 by omega) er78_11 fr78_11 (ezm_fr_t fo_12 fo_16 (by omega)) (ezm_code_sg (ezm_sg_fr (sg_12 (by omega)) fo_16) eo_16 (by omega) (by omega)) (by omega), rfl⟩
                · refine ezw_aload_n rfl rfl ?_
                  refine ezw_iload_n rfl rfl ?_
                  refine ezw_call0_1 rfl (by omega) (ezm_at rfl) rfl rfl rfl rfl (ezm_m244 hT (by omega) hu2 (by omega) hs (by omega) (by omega) (by omega) rd) ?_
                  rintro _ _ ⟨x7_18, x8_18, x78_18, rfl, hT, p18_0, fb_18, rd_18, rfl⟩
                  have k19 := hT.t7
                  have k20 := hT.t8
                  refine ezw_goto rfl rfl ?_
                  exact ezw_return rfl rfl ⟨x7_18, x8_18, i13, u8, x78_18, r79, r80, rfl, hT, by omega, by omega, fb_18, ezm_fr_r _ _ _, rd_18, rfl⟩
              · refine ezw_aload_n rfl rfl ?_
                refine ezm_gp (p := 78) rfl (fun _ => rfl) ?_
                refine ezw_bipush (111) rfl rfl ?_
                refine ezw_aload_n rfl rfl ?_
                refine ezw_iconst (0) rfl rfl ?_
                refine ezw_bipush (60) rfl rfl ?_
                refine ezw_call0_2 rfl (by omega) (ezm_at rfl) rfl rfl rfl rfl (ezm_m233 hT (by omega) ⟨by decide, by decide⟩ ⟨by decide, by decide⟩ (by omega) hs (by omega)) ?_
                rintro _ _ ⟨x7_21, x8_21, rfl, hT, u22, hu22, p21_0, p21_1, p21_2, rfl⟩
                have k23 := hT.t7
                have k24 := hT.t8
                refine ezm_s78 hT rfl (by omega) (by omega) ⟨hu22, by omega, by omega, by omega, by omega, by omega, by omega, by omega⟩ (fun r78_25 hT er78_25 fr78_25 => ?_)
                refine ezw_aload_n rfl rfl ?_
                refine ezm_gp (p := 78) rfl (fun _ => rfl) ?_
                refine ezw_bipush (112) rfl rfl ?_
                refine ezw_aload_n rfl rfl ?_
                refine ezw_bipush (17) rfl rfl ?_
                refine ezw_iconst (0) rfl rfl ?_
                refine ezw_bipush (60) rfl rfl ?_
                refine ezw_call0_3 rfl (by omega) (ezm_at rfl) rfl rfl rfl rfl (ezm_m230 hT (by omega) ⟨by decide, by decide⟩ ⟨by decide, by decide⟩ ⟨by decide, by decide⟩ (by omega) hs (by omega) (by omega)) ?_
                rintro _ _ ⟨x7_26, x8_26, rfl, hT, u27, hu27, p26_0, p26_1, p26_2, rfl⟩
                have k28 := hT.t7
                have k29 := hT.t8
                refine ezm_s78 hT rfl (by omega) (by omega) ⟨hu27, by omega, by omega, by omega, by omega, by omega, by omega, by omega⟩ (fun r78_30 hT er78_30 fr78_30 => ?_)
                refine ezw_goto rfl rfl ?_
                exact ezw_return rfl rfl ⟨x7_26, x8_26, i13, u8, r78_30, r79, r80, rfl, hT, by omega, by omega, fun j hj => by rw [fr78_30 j (by omega), fr78_25 j (by omega)], ezm_fr_r _ _ _, fun z => ezm_RD_fr rd b0.2 b3.2 (fun j hj => by rw [fr78_30 j (by omega), fr78_25 j (by omega)]), rfl⟩
            · refine ezw_aload_n rfl rfl ?_
              refine ezm_gp (p := 78) rfl (fun _ => rfl) ?_
              refine ezw_bipush (106) rfl rfl ?_
              refine ezw_aload_n rfl rfl ?_
              refine ezw_bipush (30) rfl rfl ?_
              refine ezw_iconst (4) rfl rfl ?_
              refine ezw_call0_2 rfl (by omega) (ezm_at rfl) rfl rfl rfl rfl (ezm_m234 hT (by omega) ⟨by decide, by decide⟩ ⟨by decide, by decide⟩ (by omega) hs (by omega) (by omega)) ?_
              rintro _ _ ⟨x7_31, x8_31, rfl, hT, u32, hu32, p31_0, p31_1, p31_2, rfl⟩
              have k33 := hT.t7
              have k34 := hT.t8
              refine ezm_s78 hT rfl (by omega) (by omega) ⟨hu32, by omega, by omega, by omega, by omega, by omega, by omega, by omega⟩ (fun r78_35 hT er78_35 fr78_35 => ?_)
              refine ezw_aload_n rfl rfl ?_
              refine ezm_gp (p := 78) rfl (fun _ => rfl) ?_
              refine ezw_bipush (107) rfl rfl ?_
              refine ezw_aload_n rfl rfl ?_
              refine ezw_iconst (0) rfl rfl ?_
              refine ezw_bipush (10) rfl rfl ?_
              refine ezw_call0_2 rfl (by omega) (ezm_at rfl) rfl rfl rfl rfl (ezm_m233 hT (by omega) ⟨by decide, by decide⟩ ⟨by decide, by decide⟩ (by omega) hs (by omega)) ?_
              rintro _ _ ⟨x7_36, x8_36, rfl, hT, u37, hu37, p36_0, p36_1, p36_2, rfl⟩
              have k38 := hT.t7
              have k39 := hT.t8
              refine ezm_s78 hT rfl (by omega) (by omega) ⟨hu37, by omega, by omega, by omega, by omega, by omega, by omega, by omega⟩ (fun r78_40 hT er78_40 fr78_40 => ?_)
              refine ezw_aload_n rfl rfl ?_
              refine ezm_gp (p := 78) rfl (fun _ => rfl) ?_
              refine ezw_bipush (108) rfl rfl ?_
              refine ezw_aload_n rfl rfl ?_
              refine ezw_iconst (0) rfl rfl ?_
              refine ezw_bipush (10) rfl rfl ?_
              refine ezw_aload_n rfl rfl ?_
              refine ezm_gp (p := 78) rfl (fun _ => rfl) ?_
              refine ezw_bipush (107) rfl rfl ?_
              refine ezm_l78 rfl (by omega) (by omega) (fun u41 eu41 => ?_)
              have ku41 : ezm_k78 (107) u41 := eu41 ▸ hT.t78 (107)
              refine ezw_isub (k := -u41 + 10) rfl (by omega) ?_
              refine ezw_call0_2 rfl (by omega) (ezm_at rfl) rfl rfl rfl rfl (ezm_m233 hT (by omega) ⟨by decide, by decide⟩ ⟨by omega, by omega⟩ (by omega) hs (by omega)) ?_
              rintro _ _ ⟨x7_42, x8_42, rfl, hT, u43, hu43, p42_0, p42_1, p42_2, rfl⟩
              have k44 := hT.t7
              have k45 := hT.t8
              refine ezm_s78 hT rfl (by omega) (by omega) ⟨hu43, by omega, by omega, by omega, by omega, by omega, by omega, by omega⟩ (fun r78_46 hT er78_46 fr78_46 => ?_)
              refine ezw_goto rfl rfl ?_
              exact ezw_return rfl rfl ⟨x7_42, x8_42, i13, u8, r78_46, r79, r80, rfl, hT, by omega, by omega, fun j hj => by rw [fr78_46 j (by omega), fr78_40 j (by omega), fr78_35 j (by omega)], ezm_fr_r _ _ _, fun z => ezm_RD_fr rd b0.2 b3.2 (fun j hj => by rw [fr78_46 j (by omega), fr78_40 j (by omega), fr78_35 j (by omega)]), rfl⟩
          · refine ezw_aload_n rfl rfl ?_
            refine ezm_gp (p := 78) rfl (fun _ => rfl) ?_
            refine ezw_bipush (104) rfl rfl ?_
            refine ezw_aload_n rfl rfl ?_
            refine ezw_bipush (7) rfl rfl ?_
            refine ezw_iconst (0) rfl rfl ?_
            refine ezw_sipush (999) rfl rfl ?_
            refine ezw_call0_3 rfl (by omega) (ezm_at rfl) rfl rfl rfl rfl (ezm_m230 hT (by omega) ⟨by decide, by decide⟩ ⟨by decide, by decide⟩ ⟨by decide, by decide⟩ (by omega) hs (by omega) (by omega)) ?_
            rintro _ _ ⟨x7_47, x8_47, rfl, hT, u48, hu48, p47_0, p47_1, p47_2, rfl⟩
            have k49 := hT.t7
            have k50 := hT.t8
            refine ezm_s78 hT rfl (by omega) (by omega) ⟨hu48, by omega, by omega, by omega, by omega, by omega, by omega, by omega⟩ (fun r78_51 hT er78_51 fr78_51 => ?_)
            refine ezw_aload_n rfl rfl ?_
            refine ezm_gp (p := 78) rfl (fun _ => rfl) ?_
            refine ezw_bipush (105) rfl rfl ?_
            refine ezw_aload_n rfl rfl ?_
            refine ezw_bipush (8) rfl rfl ?_
            refine ezw_iconst (0) rfl rfl ?_
            refine ezw_bipush (99) rfl rfl ?_
            refine ezw_call0_3 rfl (by omega) (ezm_at rfl) rfl rfl rfl rfl (ezm_m230 hT (by omega) ⟨by decide, by decide⟩ ⟨by decide, by decide⟩ ⟨by decide, by decide⟩ (by omega) hs (by omega) (by omega)) ?_
            rintro _ _ ⟨x7_52, x8_52, rfl, hT, u53, hu53, p52_0, p52_1, p52_2, rfl⟩
            have k54 := hT.t7
            have k55 := hT.t8
            refine ezm_s78 hT rfl (by omega) (by omega) ⟨hu53, by omega, by omega, by omega, by omega, by omega, by omega, by omega⟩ (fun r78_56 hT er78_56 fr78_56 => ?_)
            refine ezw_goto rfl rfl ?_
            exact ezw_return rfl rfl ⟨x7_52, x8_52, i13, u8, r78_56, r79, r80, rfl, hT, by omega, by omega, fun j hj => by rw [fr78_56 j (by omega), fr78_51 j (by omega)], ezm_fr_r _ _ _, fun z => ezm_RD_fr rd b0.2 b3.2 (fun j hj => by rw [fr78_56 j (by omega), fr78_51 j (by omega)]), rfl⟩
        · refine ezw_aload_n rfl rfl ?_
          refine ezw_call0_0 rfl (by omega) (ezm_at rfl) rfl rfl rfl rfl (ezm_m243 hT (by omega) (by omega) hs (by omega) (by omega) (by omega) rd) ?_
          rintro _ _ ⟨x7_57, x8_57, x78_57, rfl, hT, p57_0, fb_57, rd_57, rfl⟩
          have k58 := hT.t7
          have k59 := hT.t8
          refine ezw_goto rfl rfl ?_
          exact ezw_return rfl rfl ⟨x7_57, x8_57, i13, u8, x78_57, r79, r80, rfl, hT, by omega, by omega, fb_57, ezm_fr_r _ _ _, rd_57, rfl⟩
      · exact ezw_return rfl rfl ⟨i7, i8, i13, i20, r78, r79, r80, rfl, hT, by omega, by omega, fun _ _ => rfl, ezm_fr_r _ _ _, fun z => rd, rfl⟩
    · refine ezw_aload_n rfl rfl ?_
      refine ezw_iconst (3) rfl rfl ?_
      refine ezw_call0_1 rfl (by omega) (ezm_at rfl) rfl rfl rfl rfl (ezm_m225 hT (by omega) ⟨by decide, by decide⟩ (by omega) (by omega)) ?_
      rintro _ _ ⟨x8_60, rfl, hT, p60_0, p60_1, rfl⟩
      have k61 := hT.t8
      refine ezw_aload_n rfl rfl ?_
      refine ezm_g8 rfl ?_
      refine ezw_if_le rfl rfl ⟨by omega, by omega⟩ (fun h38_61 => ?_) (fun h38_61 => ?_)
      · refine ezw_aload_n rfl rfl ?_
        refine ezw_dup rfl rfl ?_
        refine ezm_g20 rfl ?_
        refine ezw_iconst (1) rfl rfl ?_
        refine ezw_iload_n rfl rfl ?_
        refine ezm_ishl1 rfl (by omega) (by omega) (fun u62 hu62 ku62 => ?_)
        refine ezs_ior rfl (fun u63 hu63 => ?_)
        refine ezm_p20 hT rfl hu63 (fun hT => ?_)
        refine ezw_aload_n rfl rfl ?_
        refine ezw_dup rfl rfl ?_
        refine ezm_g7 rfl ?_
        have k64 := hT.t7
        refine ezw_iconst (1) rfl rfl ?_
        refine ezw_iadd (k := i7 + 1) rfl (by omega) ?_
        refine ezm_p7 hT rfl ⟨by omega, by omega⟩ (fun hT => ?_)
        refine ezw_iload_n rfl rfl ?_
        refine ezw_if_ne rfl rfl hu2 (fun h65_64 => ?_) (fun h65_64 => ?_)
        · refine ezw_iload_n rfl rfl ?_
          refine ezw_iconst (1) rfl rfl ?_
          refine ezw_icmp_ne rfl rfl hu2 ⟨by decide, by decide⟩ (fun h77_64 => ?_) (fun h77_64 => ?_)
          · refine ezw_iload_n rfl rfl ?_
            refine ezw_iconst (2) rfl rfl ?_
            refine ezw_icmp_ne rfl rfl hu2 ⟨by decide, by decide⟩ (fun h118_64 => ?_) (fun h118_64 => ?_)
            · refine ezw_iload_n rfl rfl ?_
              refine ezw_iconst (5) rfl rfl ?_
              refine ezw_icmp_ne rfl rfl hu2 ⟨by decide, by decide⟩ (fun h176_64 => ?_) (fun h176_64 => ?_)
              · refine ezw_iload_n rfl rfl ?_
                refine ezw_bipush (8) rfl rfl ?_
                refine ezw_icmp_ge rfl rfl hu2 ⟨by decide, by decide⟩ (fun h215_64 => ?_) (fun h215_64 => ?_)
                · refine ezw_aload_n rfl rfl ?_
                  refine ezm_gp (p := 78) rfl (fun _ => rfl) ?_
                  refine ezw_bipush (115) rfl rfl ?_
                  refine ezw_iload_n rfl rfl ?_
                  refine ezw_iadd (k := u2 + 115) rfl (by omega) ?_
                  refine ezw_bipush (8) rfl rfl ?_
                  refine ezw_isub (k := u2 + 107) rfl (by omega) ?_
                  refine ezw_aload_n rfl rfl ?_
                  refine ezm_g13 rfl ?_
                  have k65 := hT.t13
                  refine ezm_s78 hT rfl (by omega) (by omega) ⟨⟨by omega, by omega⟩, by omega, by omega, by omega, by omega, by omega, by omega, by omega⟩ (fun r78_66 hT er78_66 fr78_66 => ?_)
                  refine ezw_aload_n rfl rfl ?_
                  refine ezw_iconst (0) rfl rfl ?_
                  refine ezw_call0_1 rfl (by omega) (ezm_at rfl) rfl rfl rfl rfl (ezm_m245_v0 hT (by omega) (by omega) hs (by omega) (by omega)) ?_
                  rintro _ _ ⟨x7_67, x8_67, x13_67, x79_67, x80_67, rfl, hT, p67_0, p67_1, p67_2, fo_67, sg_67, rfl⟩
                  have k68 := hT.t7
                  have k69 := hT.t8
                  have k70 := hT.t13
                  refine ezw_aload_n rfl rfl ?_
                  refine ezw_iconst (0) rfl rfl ?_
                  refine ezw_iconst (0) rfl rfl ?_
                  refine ezw_call0_2 rfl (by omega) (ezm_at rfl) rfl rfl rfl rfl (ezm_m251 hT (by omega) ⟨by decide, by decide⟩ ⟨by decide, by decide⟩ (by omega)) ?_
                  rintro _ _ ⟨x13_71, x79_71, x80_71, rfl, hT, p71_0, fo_71, eo_71, ea_71, rfl⟩
                  have k72 := hT.t13
                  exact ezw_return rfl rfl ⟨x7_67, x8_67, x13_71, u63, r78_66, x79_71, x80_71, rfl, hT, by omega, by omega, fun j hj => by rw [fr78_66 j (by omega)], (ezm_fr_t (fun j hj => fo_67 j (by omega)) fo_71 (by omega)), fun z => ezm_RD_law rd b0.2 b3.2 (by omega) (show 115 ≤ u2 + 107 ∧ u2 + 107 ≤ 116 by omega) er78_66 fr78_66 (ezm_fr_t fo_67 fo_71 (by omega)) (ezm_code_sg (ezm_sg_fr (sg_67 (by omega)) fo_71) eo_71 (by omega) (by omega)) (by omega), rfl⟩
                · refine ezw_aload_n rfl rfl ?_
                  refine ezw_iload_n rfl rfl ?_
                  refine ezw_call0_1 rfl (by omega) (ezm_at rfl) rfl rfl rfl rfl (ezm_m244 hT (by omega) hu2 (by omega) hs (by omega) (by omega) (by omega) rd) ?_
                  rintro _ _ ⟨x7_73, x8_73, x78_73, rfl, hT, p73_0, fb_73, rd_73, rfl⟩
                  have k74 := hT.t7
                  have k75 := hT.t8
                  refine ezw_goto rfl rfl ?_
                  exact ezw_return rfl rfl ⟨x7_73, x8_73, i13, u63, x78_73, r79, r80, rfl, hT, by omega, by omega, fb_73, ezm_fr_r _ _ _, rd_73, rfl⟩
              · refine ezw_aload_n rfl rfl ?_
                refine ezm_gp (p := 78) rfl (fun _ => rfl) ?_
                refine ezw_bipush (111) rfl rfl ?_
                refine ezw_aload_n rfl rfl ?_
                refine ezw_iconst (0) rfl rfl ?_
                refine ezw_bipush (60) rfl rfl ?_
                refine ezw_call0_2 rfl (by omega) (ezm_at rfl) rfl rfl rfl rfl (ezm_m233 hT (by omega) ⟨by decide, by decide⟩ ⟨by decide, by decide⟩ (by omega) hs (by omega)) ?_
                rintro _ _ ⟨x7_76, x8_76, rfl, hT, u77, hu77, p76_0, p76_1, p76_2, rfl⟩
                have k78 := hT.t7
                have k79 := hT.t8
                refine ezm_s78 hT rfl (by omega) (by omega) ⟨hu77, by omega, by omega, by omega, by omega, by omega, by omega, by omega⟩ (fun r78_80 hT er78_80 fr78_80 => ?_)
                refine ezw_aload_n rfl rfl ?_
                refine ezm_gp (p := 78) rfl (fun _ => rfl) ?_
                refine ezw_bipush (112) rfl rfl ?_
                refine ezw_aload_n rfl rfl ?_
                refine ezw_bipush (17) rfl rfl ?_
                refine ezw_iconst (0) rfl rfl ?_
                refine ezw_bipush (60) rfl rfl ?_
                refine ezw_call0_3 rfl (by omega) (ezm_at rfl) rfl rfl rfl rfl (ezm_m230 hT (by omega) ⟨by decide, by decide⟩ ⟨by decide, by decide⟩ ⟨by decide, by decide⟩ (by omega) hs (by omega) (by omega)) ?_
                rintro _ _ ⟨x7_81, x8_81, rfl, hT, u82, hu82, p81_0, p81_1, p81_2, rfl⟩
                have k83 := hT.t7
                have k84 := hT.t8
                refine ezm_s78 hT rfl (by omega) (by omega) ⟨hu82, by omega, by omega, by omega, by omega, by omega, by omega, by omega⟩ (fun r78_85 hT er78_85 fr78_85 => ?_)
                refine ezw_goto rfl rfl ?_
                exact ezw_return rfl rfl ⟨x7_81, x8_81, i13, u63, r78_85, r79, r80, rfl, hT, by omega, by omega, fun j hj => by rw [fr78_85 j (by omega), fr78_80 j (by omega)], ezm_fr_r _ _ _, fun z => ezm_RD_fr rd b0.2 b3.2 (fun j hj => by rw [fr78_85 j (by omega), fr78_80 j (by omega)]), rfl⟩
            · refine ezw_aload_n rfl rfl ?_
              refine ezm_gp (p := 78) rfl (fun _ => rfl) ?_
              refine ezw_bipush (106) rfl rfl ?_
              refine ezw_aload_n rfl rfl ?_
              refine ezw_bipush (30) rfl rfl ?_
              refine ezw_iconst (4) rfl rfl ?_
              refine ezw_call0_2 rfl (by omega) (ezm_at rfl) rfl rfl rfl rfl (ezm_m234 hT (by omega) ⟨by decide, by decide⟩ ⟨by decide, by decide⟩ (by omega) hs (by omega) (by omega)) ?_
              rintro _ _ ⟨x7_86, x8_86, rfl, hT, u87, hu87, p86_0, p86_1, p86_2, rfl⟩
              have k88 := hT.t7
              have k89 := hT.t8
              refine ezm_s78 hT rfl (by omega) (by omega) ⟨hu87, by omega, by omega, by omega, by omega, by omega, by omega, by omega⟩ (fun r78_90 hT er78_90 fr78_90 => ?_)
              refine ezw_aload_n rfl rfl ?_
              refine ezm_gp (p := 78) rfl (fun _ => rfl) ?_
              refine ezw_bipush (107) rfl rfl ?_
              refine ezw_aload_n rfl rfl ?_
              refine ezw_iconst (0) rfl rfl ?_
              refine ezw_bipush (10) rfl rfl ?_
              refine ezw_call0_2 rfl (by omega) (ezm_at rfl) rfl rfl rfl rfl (ezm_m233 hT (by omega) ⟨by decide, by decide⟩ ⟨by decide, by decide⟩ (by omega) hs (by omega)) ?_
              rintro _ _ ⟨x7_91, x8_91, rfl, hT, u92, hu92, p91_0, p91_1, p91_2, rfl⟩
              have k93 := hT.t7
              have k94 := hT.t8
              refine ezm_s78 hT rfl (by omega) (by omega) ⟨hu92, by omega, by omega, by omega, by omega, by omega, by omega, by omega⟩ (fun r78_95 hT er78_95 fr78_95 => ?_)
              refine ezw_aload_n rfl rfl ?_
              refine ezm_gp (p := 78) rfl (fun _ => rfl) ?_
              refine ezw_bipush (108) rfl rfl ?_
              refine ezw_aload_n rfl rfl ?_
              refine ezw_iconst (0) rfl rfl ?_
              refine ezw_bipush (10) rfl rfl ?_
              refine ezw_aload_n rfl rfl ?_
              refine ezm_gp (p := 78) rfl (fun _ => rfl) ?_
              refine ezw_bipush (107) rfl rfl ?_
              refine ezm_l78 rfl (by omega) (by omega) (fun u96 eu96 => ?_)
              have ku96 : ezm_k78 (107) u96 := eu96 ▸ hT.t78 (107)
              refine ezw_isub (k := -u96 + 10) rfl (by omega) ?_
              refine ezw_call0_2 rfl (by omega) (ezm_at rfl) rfl rfl rfl rfl (ezm_m233 hT (by omega) ⟨by decide, by decide⟩ ⟨by omega, by omega⟩ (by omega) hs (by omega)) ?_
              rintro _ _ ⟨x7_97, x8_97, rfl, hT, u98, hu98, p97_0, p97_1, p97_2, rfl⟩
              have k99 := hT.t7
              have k100 := hT.t8
              refine ezm_s78 hT rfl (by omega) (by omega) ⟨hu98, by omega, by omega, by omega, by omega, by omega, by omega, by omega⟩ (fun r78_101 hT er78_101 fr78_101 => ?_)
              refine ezw_goto rfl rfl ?_
              exact ezw_return rfl rfl ⟨x7_97, x8_97, i13, u63, r78_101, r79, r80, rfl, hT, by omega, by omega, fun j hj => by rw [fr78_101 j (by omega), fr78_95 j (by omega), fr78_90 j (by omega)], ezm_fr_r _ _ _, fun z => ezm_RD_fr rd b0.2 b3.2 (fun j hj => by rw [fr78_101 j (by omega), fr78_95 j (by omega), fr78_90 j (by omega)]), rfl⟩
          · refine ezw_aload_n rfl rfl ?_
            refine ezm_gp (p := 78) rfl (fun _ => rfl) ?_
            refine ezw_bipush (104) rfl rfl ?_
            refine ezw_aload_n rfl rfl ?_
            refine ezw_bipush (7) rfl rfl ?_
            refine ezw_iconst (0) rfl rfl ?_
            refine ezw_sipush (999) rfl rfl ?_
            refine ezw_call0_3 rfl (by omega) (ezm_at rfl) rfl rfl rfl rfl (ezm_m230 hT (by omega) ⟨by decide, by decide⟩ ⟨by decide, by decide⟩ ⟨by decide, by decide⟩ (by omega) hs (by omega) (by omega)) ?_
            rintro _ _ ⟨x7_102, x8_102, rfl, hT, u103, hu103, p102_0, p102_1, p102_2, rfl⟩
            have k104 := hT.t7
            have k105 := hT.t8
            refine ezm_s78 hT rfl (by omega) (by omega) ⟨hu103, by omega, by omega, by omega, by omega, by omega, by omega, by omega⟩ (fun r78_106 hT er78_106 fr78_106 => ?_)
            refine ezw_aload_n rfl rfl ?_
            refine ezm_gp (p := 78) rfl (fun _ => rfl) ?_
            refine ezw_bipush (105) rfl rfl ?_
            refine ezw_aload_n rfl rfl ?_
            refine ezw_bipush (8) rfl rfl ?_
            refine ezw_iconst (0) rfl rfl ?_
            refine ezw_bipush (99) rfl rfl ?_
            refine ezw_call0_3 rfl (by omega) (ezm_at rfl) rfl rfl rfl rfl (ezm_m230 hT (by omega) ⟨by decide, by decide⟩ ⟨by decide, by decide⟩ ⟨by decide, by decide⟩ (by omega) hs (by omega) (by omega)) ?_
            rintro _ _ ⟨x7_107, x8_107, rfl, hT, u108, hu108, p107_0, p107_1, p107_2, rfl⟩
            have k109 := hT.t7
            have k110 := hT.t8
            refine ezm_s78 hT rfl (by omega) (by omega) ⟨hu108, by omega, by omega, by omega, by omega, by omega, by omega, by omega⟩ (fun r78_111 hT er78_111 fr78_111 => ?_)
            refine ezw_goto rfl rfl ?_
            exact ezw_return rfl rfl ⟨x7_107, x8_107, i13, u63, r78_111, r79, r80, rfl, hT, by omega, by omega, fun j hj => by rw [fr78_111 j (by omega), fr78_106 j (by omega)], ezm_fr_r _ _ _, fun z => ezm_RD_fr rd b0.2 b3.2 (fun j hj => by rw [fr78_111 j (by omega), fr78_106 j (by omega)]), rfl⟩
        · refine ezw_aload_n rfl rfl ?_
          refine ezw_call0_0 rfl (by omega) (ezm_at rfl) rfl rfl rfl rfl (ezm_m243 hT (by omega) (by omega) hs (by omega) (by omega) (by omega) rd) ?_
          rintro _ _ ⟨x7_112, x8_112, x78_112, rfl, hT, p112_0, fb_112, rd_112, rfl⟩
          have k113 := hT.t7
          have k114 := hT.t8
          refine ezw_goto rfl rfl ?_
          exact ezw_return rfl rfl ⟨x7_112, x8_112, i13, u63, x78_112, r79, r80, rfl, hT, by omega, by omega, fb_112, ezm_fr_r _ _ _, rd_112, rfl⟩
      · exact ezw_return rfl rfl ⟨i7, x8_60, i13, i20, r78, r79, r80, rfl, hT, by omega, by omega, fun _ _ => rfl, ezm_fr_r _ _ _, fun z => rd, rfl⟩
  · refine ezw_aload_n rfl rfl ?_
    refine ezw_iconst (1) rfl rfl ?_
    refine ezw_call0_1 rfl (by omega) (ezm_at rfl) rfl rfl rfl rfl (ezm_m225 hT (by omega) ⟨by decide, by decide⟩ (by omega) (by omega)) ?_
    rintro _ _ ⟨x8_115, rfl, hT, p115_0, p115_1, rfl⟩
    have k116 := hT.t8
    refine ezw_goto rfl rfl ?_
    refine ezw_aload_n rfl rfl ?_
    refine ezm_g8 rfl ?_
    refine ezw_if_le rfl rfl ⟨by omega, by omega⟩ (fun h38_116 => ?_) (fun h38_116 => ?_)
    · refine ezw_aload_n rfl rfl ?_
      refine ezw_dup rfl rfl ?_
      refine ezm_g20 rfl ?_
      have k117 := hT.t20
      refine ezw_iconst (1) rfl rfl ?_
      refine ezw_iload_n rfl rfl ?_
      refine ezm_ishl1 rfl (by omega) (by omega) (fun u118 hu118 ku118 => ?_)
      refine ezs_ior rfl (fun u119 hu119 => ?_)
      refine ezm_p20 hT rfl hu119 (fun hT => ?_)
      refine ezw_aload_n rfl rfl ?_
      refine ezw_dup rfl rfl ?_
      refine ezm_g7 rfl ?_
      have k120 := hT.t7
      refine ezw_iconst (1) rfl rfl ?_
      refine ezw_iadd (k := i7 + 1) rfl (by omega) ?_
      refine ezm_p7 hT rfl ⟨by omega, by omega⟩ (fun hT => ?_)
      refine ezw_iload_n rfl rfl ?_
      refine ezw_if_ne rfl rfl hu2 (fun h65_120 => ?_) (fun h65_120 => ?_)
      · refine ezw_iload_n rfl rfl ?_
        refine ezw_iconst (1) rfl rfl ?_
        refine ezw_icmp_ne rfl rfl hu2 ⟨by decide, by decide⟩ (fun h77_120 => ?_) (fun h77_120 => ?_)
        · refine ezw_iload_n rfl rfl ?_
          refine ezw_iconst (2) rfl rfl ?_
          refine ezw_icmp_ne rfl rfl hu2 ⟨by decide, by decide⟩ (fun h118_120 => ?_) (fun h118_120 => ?_)
          · refine ezw_iload_n rfl rfl ?_
            refine ezw_iconst (5) rfl rfl ?_
            refine ezw_icmp_ne rfl rfl hu2 ⟨by decide, by decide⟩ (fun h176_120 => ?_) (fun h176_120 => ?_)
            · refine ezw_iload_n rfl rfl ?_
              refine ezw_bipush (8) rfl rfl ?_
              refine ezw_icmp_ge rfl rfl hu2 ⟨by decide, by decide⟩ (fun h215_120 => ?_) (fun h215_120 => ?_)
              · refine ezw_aload_n rfl rfl ?_
                refine ezm_gp (p := 78) rfl (fun _ => rfl) ?_
                refine ezw_bipush (115) rfl rfl ?_
                refine ezw_iload_n rfl rfl ?_
                refine ezw_iadd (k := u2 + 115) rfl (by omega) ?_
                refine ezw_bipush (8) rfl rfl ?_
                refine ezw_isub (k := u2 + 107) rfl (by omega) ?_
                refine ezw_aload_n rfl rfl ?_
                refine ezm_g13 rfl ?_
                have k121 := hT.t13
                refine ezm_s78 hT rfl (by omega) (by omega) ⟨⟨by omega, by omega⟩, by omega, by omega, by omega, by omega, by omega, by omega, by omega⟩ (fun r78_122 hT er78_122 fr78_122 => ?_)
                refine ezw_aload_n rfl rfl ?_
                refine ezw_iconst (0) rfl rfl ?_
                refine ezw_call0_1 rfl (by omega) (ezm_at rfl) rfl rfl rfl rfl (ezm_m245_v0 hT (by omega) (by omega) hs (by omega) (by omega)) ?_
                rintro _ _ ⟨x7_123, x8_123, x13_123, x79_123, x80_123, rfl, hT, p123_0, p123_1, p123_2, fo_123, sg_123, rfl⟩
                have k124 := hT.t7
                have k125 := hT.t8
                have k126 := hT.t13
                refine ezw_aload_n rfl rfl ?_
                refine ezw_iconst (0) rfl rfl ?_
                refine ezw_iconst (0) rfl rfl ?_
                refine ezw_call0_2 rfl (by omega) (ezm_at rfl) rfl rfl rfl rfl (ezm_m251 hT (by omega) ⟨by decide, by decide⟩ ⟨by decide, by decide⟩ (by omega)) ?_
                rintro _ _ ⟨x13_127, x79_127, x80_127, rfl, hT, p127_0, fo_127, eo_127, ea_127, rfl⟩
                have k128 := hT.t13
                exact ezw_return rfl rfl ⟨x7_123, x8_123, x13_127, u119, r78_122, x79_127, x80_127, rfl, hT, by omega, by omega, fun j hj => by rw [fr78_122 j (by omega)], (ezm_fr_t (fun j hj => fo_123 j (by omega)) fo_127 (by omega)), fun z => ezm_RD_law rd b0.2 b3.2 (by omega) (show 115 ≤ u2 + 107 ∧ u2 + 107 ≤ 116 by omega) er78_122 fr78_122 (ezm_fr_t fo_123 fo_127 (by omega)) (ezm_code_sg (ezm_sg_fr (sg_123 (by omega)) fo_127) eo_127 (by omega) (by omega)) (by omega), rfl⟩
              · refine ezw_aload_n rfl rfl ?_
                refine ezw_iload_n rfl rfl ?_
                refine ezw_call0_1 rfl (by omega) (ezm_at rfl) rfl rfl rfl rfl (ezm_m244 hT (by omega) hu2 (by omega) hs (by omega) (by omega) (by omega) rd) ?_
                rintro _ _ ⟨x7_129, x8_129, x78_129, rfl, hT, p129_0, fb_129, rd_129, rfl⟩
                have k130 := hT.t7
                have k131 := hT.t8
                refine ezw_goto rfl rfl ?_
                exact ezw_return rfl rfl ⟨x7_129, x8_129, i13, u119, x78_129, r79, r80, rfl, hT, by omega, by omega, fb_129, ezm_fr_r _ _ _, rd_129, rfl⟩
            · refine ezw_aload_n rfl rfl ?_
              refine ezm_gp (p := 78) rfl (fun _ => rfl) ?_
              refine ezw_bipush (111) rfl rfl ?_
              refine ezw_aload_n rfl rfl ?_
              refine ezw_iconst (0) rfl rfl ?_
              refine ezw_bipush (60) rfl rfl ?_
              refine ezw_call0_2 rfl (by omega) (ezm_at rfl) rfl rfl rfl rfl (ezm_m233 hT (by omega) ⟨by decide, by decide⟩ ⟨by decide, by decide⟩ (by omega) hs (by omega)) ?_
              rintro _ _ ⟨x7_132, x8_132, rfl, hT, u133, hu133, p132_0, p132_1, p132_2, rfl⟩
              have k134 := hT.t7
              have k135 := hT.t8
              refine ezm_s78 hT rfl (by omega) (by omega) ⟨hu133, by omega, by omega, by omega, by omega, by omega, by omega, by omega⟩ (fun r78_136 hT er78_136 fr78_136 => ?_)
              refine ezw_aload_n rfl rfl ?_
              refine ezm_gp (p := 78) rfl (fun _ => rfl) ?_
              refine ezw_bipush (112) rfl rfl ?_
              refine ezw_aload_n rfl rfl ?_
              refine ezw_bipush (17) rfl rfl ?_
              refine ezw_iconst (0) rfl rfl ?_
              refine ezw_bipush (60) rfl rfl ?_
              refine ezw_call0_3 rfl (by omega) (ezm_at rfl) rfl rfl rfl rfl (ezm_m230 hT (by omega) ⟨by decide, by decide⟩ ⟨by decide, by decide⟩ ⟨by decide, by decide⟩ (by omega) hs (by omega) (by omega)) ?_
              rintro _ _ ⟨x7_137, x8_137, rfl, hT, u138, hu138, p137_0, p137_1, p137_2, rfl⟩
              have k139 := hT.t7
              have k140 := hT.t8
              refine ezm_s78 hT rfl (by omega) (by omega) ⟨hu138, by omega, by omega, by omega, by omega, by omega, by omega, by omega⟩ (fun r78_141 hT er78_141 fr78_141 => ?_)
              refine ezw_goto rfl rfl ?_
              exact ezw_return rfl rfl ⟨x7_137, x8_137, i13, u119, r78_141, r79, r80, rfl, hT, by omega, by omega, fun j hj => by rw [fr78_141 j (by omega), fr78_136 j (by omega)], ezm_fr_r _ _ _, fun z => ezm_RD_fr rd b0.2 b3.2 (fun j hj => by rw [fr78_141 j (by omega), fr78_136 j (by omega)]), rfl⟩
          · refine ezw_aload_n rfl rfl ?_
            refine ezm_gp (p := 78) rfl (fun _ => rfl) ?_
            refine ezw_bipush (106) rfl rfl ?_
            refine ezw_aload_n rfl rfl ?_
            refine ezw_bipush (30) rfl rfl ?_
            refine ezw_iconst (4) rfl rfl ?_
            refine ezw_call0_2 rfl (by omega) (ezm_at rfl) rfl rfl rfl rfl (ezm_m234 hT (by omega) ⟨by decide, by decide⟩ ⟨by decide, by decide⟩ (by omega) hs (by omega) (by omega)) ?_
            rintro _ _ ⟨x7_142, x8_142, rfl, hT, u143, hu143, p142_0, p142_1, p142_2, rfl⟩
            have k144 := hT.t7
            have k145 := hT.t8
            refine ezm_s78 hT rfl (by omega) (by omega) ⟨hu143, by omega, by omega, by omega, by omega, by omega, by omega, by omega⟩ (fun r78_146 hT er78_146 fr78_146 => ?_)
            refine ezw_aload_n rfl rfl ?_
            refine ezm_gp (p := 78) rfl (fun _ => rfl) ?_
            refine ezw_bipush (107) rfl rfl ?_
            refine ezw_aload_n rfl rfl ?_
            refine ezw_iconst (0) rfl rfl ?_
            refine ezw_bipush (10) rfl rfl ?_
            refine ezw_call0_2 rfl (by omega) (ezm_at rfl) rfl rfl rfl rfl (ezm_m233 hT (by omega) ⟨by decide, by decide⟩ ⟨by decide, by decide⟩ (by omega) hs (by omega)) ?_
            rintro _ _ ⟨x7_147, x8_147, rfl, hT, u148, hu148, p147_0, p147_1, p147_2, rfl⟩
            have k149 := hT.t7
            have k150 := hT.t8
            refine ezm_s78 hT rfl (by omega) (by omega) ⟨hu148, by omega, by omega, by omega, by omega, by omega, by omega, by omega⟩ (fun r78_151 hT er78_151 fr78_151 => ?_)
            refine ezw_aload_n rfl rfl ?_
            refine ezm_gp (p := 78) rfl (fun _ => rfl) ?_
            refine ezw_bipush (108) rfl rfl ?_
            refine ezw_aload_n rfl rfl ?_
            refine ezw_iconst (0) rfl rfl ?_
            refine ezw_bipush (10) rfl rfl ?_
            refine ezw_aload_n rfl rfl ?_
            refine ezm_gp (p := 78) rfl (fun _ => rfl) ?_
            refine ezw_bipush (107) rfl rfl ?_
            refine ezm_l78 rfl (by omega) (by omega) (fun u152 eu152 => ?_)
            have ku152 : ezm_k78 (107) u152 := eu152 ▸ hT.t78 (107)
            refine ezw_isub (k := -u152 + 10) rfl (by omega) ?_
            refine ezw_call0_2 rfl (by omega) (ezm_at rfl) rfl rfl rfl rfl (ezm_m233 hT (by omega) ⟨by decide, by decide⟩ ⟨by omega, by omega⟩ (by omega) hs (by omega)) ?_
            rintro _ _ ⟨x7_153, x8_153, rfl, hT, u154, hu154, p153_0, p153_1, p153_2, rfl⟩
            have k155 := hT.t7
            have k156 := hT.t8
            refine ezm_s78 hT rfl (by omega) (by omega) ⟨hu154, by omega, by omega, by omega, by omega, by omega, by omega, by omega⟩ (fun r78_157 hT er78_157 fr78_157 => ?_)
            refine ezw_goto rfl rfl ?_
            exact ezw_return rfl rfl ⟨x7_153, x8_153, i13, u119, r78_157, r79, r80, rfl, hT, by omega, by omega, fun j hj => by rw [fr78_157 j (by omega), fr78_151 j (by omega), fr78_146 j (by omega)], ezm_fr_r _ _ _, fun z => ezm_RD_fr rd b0.2 b3.2 (fun j hj => by rw [fr78_157 j (by omega), fr78_151 j (by omega), fr78_146 j (by omega)]), rfl⟩
        · refine ezw_aload_n rfl rfl ?_
          refine ezm_gp (p := 78) rfl (fun _ => rfl) ?_
          refine ezw_bipush (104) rfl rfl ?_
          refine ezw_aload_n rfl rfl ?_
          refine ezw_bipush (7) rfl rfl ?_
          refine ezw_iconst (0) rfl rfl ?_
          refine ezw_sipush (999) rfl rfl ?_
          refine ezw_call0_3 rfl (by omega) (ezm_at rfl) rfl rfl rfl rfl (ezm_m230 hT (by omega) ⟨by decide, by decide⟩ ⟨by decide, by decide⟩ ⟨by decide, by decide⟩ (by omega) hs (by omega) (by omega)) ?_
          rintro _ _ ⟨x7_158, x8_158, rfl, hT, u159, hu159, p158_0, p158_1, p158_2, rfl⟩
          have k160 := hT.t7
          have k161 := hT.t8
          refine ezm_s78 hT rfl (by omega) (by omega) ⟨hu159, by omega, by omega, by omega, by omega, by omega, by omega, by omega⟩ (fun r78_162 hT er78_162 fr78_162 => ?_)
          refine ezw_aload_n rfl rfl ?_
          refine ezm_gp (p := 78) rfl (fun _ => rfl) ?_
          refine ezw_bipush (105) rfl rfl ?_
          refine ezw_aload_n rfl rfl ?_
          refine ezw_bipush (8) rfl rfl ?_
          refine ezw_iconst (0) rfl rfl ?_
          refine ezw_bipush (99) rfl rfl ?_
          refine ezw_call0_3 rfl (by omega) (ezm_at rfl) rfl rfl rfl rfl (ezm_m230 hT (by omega) ⟨by decide, by decide⟩ ⟨by decide, by decide⟩ ⟨by decide, by decide⟩ (by omega) hs (by omega) (by omega)) ?_
          rintro _ _ ⟨x7_163, x8_163, rfl, hT, u164, hu164, p163_0, p163_1, p163_2, rfl⟩
          have k165 := hT.t7
          have k166 := hT.t8
          refine ezm_s78 hT rfl (by omega) (by omega) ⟨hu164, by omega, by omega, by omega, by omega, by omega, by omega, by omega⟩ (fun r78_167 hT er78_167 fr78_167 => ?_)
          refine ezw_goto rfl rfl ?_
          exact ezw_return rfl rfl ⟨x7_163, x8_163, i13, u119, r78_167, r79, r80, rfl, hT, by omega, by omega, fun j hj => by rw [fr78_167 j (by omega), fr78_162 j (by omega)], ezm_fr_r _ _ _, fun z => ezm_RD_fr rd b0.2 b3.2 (fun j hj => by rw [fr78_167 j (by omega), fr78_162 j (by omega)]), rfl⟩
      · refine ezw_aload_n rfl rfl ?_
        refine ezw_call0_0 rfl (by omega) (ezm_at rfl) rfl rfl rfl rfl (ezm_m243 hT (by omega) (by omega) hs (by omega) (by omega) (by omega) rd) ?_
        rintro _ _ ⟨x7_168, x8_168, x78_168, rfl, hT, p168_0, fb_168, rd_168, rfl⟩
        have k169 := hT.t7
        have k170 := hT.t8
        refine ezw_goto rfl rfl ?_
        exact ezw_return rfl rfl ⟨x7_168, x8_168, i13, u119, x78_168, r79, r80, rfl, hT, by omega, by omega, fb_168, ezm_fr_r _ _ _, rd_168, rfl⟩
    · exact ezw_return rfl rfl ⟨i7, x8_115, i13, i20, r78, r79, r80, rfl, hT, by omega, by omega, fun _ _ => rfl, ezm_fr_r _ _ _, fun z => rd, rfl⟩
end KM6
