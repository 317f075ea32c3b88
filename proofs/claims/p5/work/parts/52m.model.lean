/-! ===== the model: maps, rows, afternoons, marks ===== -/
section KM6
variable {l : Launch} {ρ : ezq_E} {B : Nat} {xa : Nat → Option Nat} {Hb : Heap} {D : va_G} {cA : Nat → ClassId} {d : Nat} {e : Bool × Bool} {F : Nat → Nat → Int} {A : Nat → Int → Int} {i0 i2 i3 i7 i8 i13 i18 i19 i20 i25 i29 i30 i31 i36 i37 i38 : Int} {r73 r74 r75 r76 r77 r78 r79 r80 r81 r82 r83 r84 r85 r86 r87 r88 r89 r90 r91 r92 r93 r94 r95 : Int → Int}
def ezm_m328Q (e : Bool × Bool) (F : Nat → Nat → Int) (A : Nat → Int → Int) (i0 i2 i3 i7 i8 i13 i18 i19 i20 i25 i29 i30 i31 i36 i37 i38 : Int) (r73 r74 r75 r76 r77 r78 r79 r80 r81 r82 r83 r84 r85 r86 r87 r88 r89 r90 r91 r92 r93 r94 r95 : Int → Int) (a1 : Int) (a2 : Int) : Option ezq_V → (Nat → ezq_C) → Prop := fun v g' => ezm_h e F A i0 i2 i3 i7 i8 i13 i18 i19 i20 i25 i29 i30 i31 i36 i37 i38 r73 r74 r75 r76 r77 r78 r79 r80 r81 r82 r83 r84 r85 r86 r87 r88 r89 r90 r91 r92 r93 r94 r95 = g' ∧ ∃ u : Int, (0 ≤ u ∧ u ≤ 1) ∧ some (ezw_i u) = v
theorem ezm_m328 {a1 a2 : Int} (hT : ezm_T i0 i2 i3 i7 i8 i13 i18 i19 i20 i25 i29 i30 i31 i36 i37 i38 r73 r74 r75 r76 r77 r78 r79 r80 r81 r82 r83 r84 r85 r86 r87 r88 r89 r90 r91 r92 r93 r94 r95) (hd : 1 ≤ d) (ha1 : ezw_in a1) (ha2 : ezw_in a2) (ga : 0 ≤ a1 ∧ a1 ≤ 7) : ezw_C l ρ B xa Hb D cA 328 d [ezw_p 72, ezw_i a1, ezw_i a2] (ezm_h e F A i0 i2 i3 i7 i8 i13 i18 i19 i20 i25 i29 i30 i31 i36 i37 i38 r73 r74 r75 r76 r77 r78 r79 r80 r81 r82 r83 r84 r85 r86 r87 r88 r89 r90 r91 r92 r93 r94 r95) (ezm_m328Q  e F A i0 i2 i3 i7 i8 i13 i18 i19 i20 i25 i29 i30 i31 i36 i37 i38 r73 r74 r75 r76 r77 r78 r79 r80 r81 r82 r83 r84 r85 r86 r87 r88 r89 r90 r91 r92 r93 r94 r95 a1 a2) := by
  refine ezw_met (k := 2) rfl rfl ?_
  refine ezw_iload_n rfl rfl ?_
  refine ezw_iload_n rfl rfl ?_
  refine ezw_ishrO rfl (fun u1 hu1 => ?_)
  refine ezw_iconst (1) rfl rfl ?_
  refine ezm_iand rfl (fun u2 hu2 ku2 => ?_)
  have J24_4 : ∀ y3 : Int, ezw_in y3 → (y3 = 0 ∨ y3 = 1) → ezw_E l ρ B xa Hb D cA d ezq_re328 (ezm_m328Q  e F A i0 i2 i3 i7 i8 i13 i18 i19 i20 i25 i29 i30 i31 i36 i37 i38 r73 r74 r75 r76 r77 r78 r79 r80 r81 r82 r83 r84 r85 r86 r87 r88 r89 r90 r91 r92 r93 r94 r95 a1 a2) 24 [some (ezw_p 72), some (ezw_i a1), some (ezw_i a2), none, none] [ezw_i y3] (ezm_h e F A i0 i2 i3 i7 i8 i13 i18 i19 i20 i25 i29 i30 i31 i36 i37 i38 r73 r74 r75 r76 r77 r78 r79 r80 r81 r82 r83 r84 r85 r86 r87 r88 r89 r90 r91 r92 r93 r94 r95) := by
    intro y3 hy3 v1_4
    refine ezw_istore_n rfl rfl ?_
    refine ezw_iconst (0) rfl rfl ?_
    refine ezw_istore rfl rfl ?_
    have L28_6 : ∀ c5 : Int, ezw_in c5 → ∀ y7 : Int, ezw_in y7 → ((0) ≤ c5) → (y7 = 0 ∨ y7 = 1) → ezw_E l ρ B xa Hb D cA d ezq_re328 (ezm_m328Q  e F A i0 i2 i3 i7 i8 i13 i18 i19 i20 i25 i29 i30 i31 i36 i37 i38 r73 r74 r75 r76 r77 r78 r79 r80 r81 r82 r83 r84 r85 r86 r87 r88 r89 r90 r91 r92 r93 r94 r95 a1 a2) 28 [some (ezw_p 72), some (ezw_i a1), some (ezw_i a2), some (ezw_i y7), some (ezw_i c5)] [] (ezm_h e F A i0 i2 i3 i7 i8 i13 i18 i19 i20 i25 i29 i30 i31 i36 i37 i38 r73 r74 r75 r76 r77 r78 r79 r80 r81 r82 r83 r84 r85 r86 r87 r88 r89 r90 r91 r92 r93 r94 r95) := by
      refine ezs_up ?_
      intro c5 hc5 ihc5 y7 hy7 g_6 v1_6
      refine ezw_iload rfl rfl ?_
      refine ezw_aload_n rfl rfl ?_
      refine ezw_call0_0 rfl (by omega) (ezm_at rfl) rfl rfl rfl rfl (ezm_m216 hT (by omega)) ?_
      rintro _ _ ⟨rfl, u9, hu9, p8_0, p8_1, rfl⟩
      refine ezw_icmp_ge rfl rfl hc5 hu9 (fun h34_9 => ?_) (fun h34_9 => ?_)
      · refine ezw_iload_n rfl rfl ?_
        exact ezw_ireturn rfl (ezw_zret ⟨by omega, by omega⟩) ⟨rfl, y7, ⟨by omega, by omega⟩, rfl⟩
      · refine ezw_iload_n rfl rfl ?_
        have J70_11 : ∀ y10 : Int, ezw_in y10 → (y10 = 0 ∨ y10 = 1) → ezw_E l ρ B xa Hb D cA d ezq_re328 (ezm_m328Q  e F A i0 i2 i3 i7 i8 i13 i18 i19 i20 i25 i29 i30 i31 i36 i37 i38 r73 r74 r75 r76 r77 r78 r79 r80 r81 r82 r83 r84 r85 r86 r87 r88 r89 r90 r91 r92 r93 r94 r95 a1 a2) 70 [some (ezw_p 72), some (ezw_i a1), some (ezw_i a2), some (ezw_i y7), some (ezw_i c5)] [ezw_i y10] (ezm_h e F A i0 i2 i3 i7 i8 i13 i18 i19 i20 i25 i29 i30 i31 i36 i37 i38 r73 r74 r75 r76 r77 r78 r79 r80 r81 r82 r83 r84 r85 r86 r87 r88 r89 r90 r91 r92 r93 r94 r95) := by
          intro y10 hy10 v1_11
          refine ezw_istore_n rfl rfl ?_
          refine ezw_iinc (k := c5 + 1) (1) rfl rfl rfl (by omega) rfl ?_
          refine ezw_goto rfl rfl ?_
          exact ezw_keepE [true, true, true, true, true] (ihc5 (c5 + 1) (by omega) ⟨by omega, by omega⟩ y10 hy10 (by omega) (by omega))
        refine ezw_if_eq rfl rfl hy7 (fun h38_9 => ?_) (fun h38_9 => ?_)
        · refine ezw_iconst (0) rfl rfl ?_
          exact ezw_keepE [true, true, true, true, true] (J70_11 (0) ⟨by decide, by decide⟩ (by omega))
        · refine ezw_aload_n rfl rfl ?_
          refine ezw_iload rfl rfl ?_
          refine ezw_iconst (3) rfl rfl ?_
          refine ezw_call0_2 rfl (by omega) (ezm_at rfl) rfl rfl rfl rfl (ezm_m263 hT (by omega) hc5 ⟨by decide, by decide⟩ (by omega) (by omega)) ?_
          rintro _ _ ⟨rfl, u13, hu13, rfl⟩
          refine ezw_iload_n rfl rfl ?_
          refine ezw_ishrO rfl (fun u14 hu14 => ?_)
          refine ezw_iconst (1) rfl rfl ?_
          refine ezm_iand rfl (fun u15 hu15 ku15 => ?_)
          refine ezw_if_eq rfl rfl hu15 (fun h52_15 => ?_) (fun h52_15 => ?_)
          · refine ezw_iconst (1) rfl rfl ?_
            refine ezw_goto rfl rfl ?_
            exact ezw_keepE [true, true, true, true, true] (J70_11 (1) ⟨by decide, by decide⟩ (by omega))
          · refine ezw_iload_n rfl rfl ?_
            refine ezw_iload rfl rfl ?_
            refine ezw_ishrO rfl (fun u16 hu16 => ?_)
            refine ezw_iconst (1) rfl rfl ?_
            refine ezm_iand rfl (fun u17 hu17 ku17 => ?_)
            refine ezw_iconst (1) rfl rfl ?_
            refine ezw_icmp_ne rfl rfl hu17 ⟨by decide, by decide⟩ (fun h62_17 => ?_) (fun h62_17 => ?_)
            · refine ezw_iconst (0) rfl rfl ?_
              exact ezw_keepE [true, true, true, true, true] (J70_11 (0) ⟨by decide, by decide⟩ (by omega))
            · refine ezw_iconst (1) rfl rfl ?_
              refine ezw_goto rfl rfl ?_
              exact ezw_keepE [true, true, true, true, true] (J70_11 (1) ⟨by decide, by decide⟩ (by omega))
    exact ezw_keepE [true, true, true, true, true] (L28_6 (0) ⟨by decide, by decide⟩ y3 hy3 (by omega) (by omega))
  refine ezw_if_ne rfl rfl hu2 (fun h5_2 => ?_) (fun h5_2 => ?_)
  · refine ezw_iconst (0) rfl rfl ?_
    exact ezw_keepE [true, true, true, false, false] (J24_4 (0) ⟨by decide, by decide⟩ (by omega))
  · refine ezw_aload_n rfl rfl ?_
    refine ezw_iload_n rfl rfl ?_
    refine ezw_iconst (3) rfl rfl ?_
    refine ezw_call0_2 rfl (by omega) (ezm_at rfl) rfl rfl rfl rfl (ezm_m263 hT (by omega) ha1 ⟨by decide, by decide⟩ (by omega) (by omega)) ?_
    rintro _ _ ⟨rfl, u19, hu19, rfl⟩
    refine ezw_iload_n rfl rfl ?_
    refine ezm_iand rfl (fun u20 hu20 ku20 => ?_)
    refine ezw_if_ne rfl rfl hu20 (fun h16_20 => ?_) (fun h16_20 => ?_)
    · refine ezw_iconst (0) rfl rfl ?_
      exact ezw_keepE [true, true, true, false, false] (J24_4 (0) ⟨by decide, by decide⟩ (by omega))
    · refine ezw_iconst (1) rfl rfl ?_
      refine ezw_goto rfl rfl ?_
      exact ezw_keepE [true, true, true, false, false] (J24_4 (1) ⟨by decide, by decide⟩ (by omega))
def ezm_m327_v4Q (e : Bool × Bool) (F : Nat → Nat → Int) (A : Nat → Int → Int) (i0 i2 i3 i7 i8 i13 i18 i19 i20 i25 i29 i30 i31 i36 i37 i38 : Int) (r73 r74 r75 r76 r77 r78 r79 r80 r81 r82 r83 r84 r85 r86 r87 r88 r89 r90 r91 r92 r93 r94 r95 : Int → Int) (a2 : Int) : Option ezq_V → (Nat → ezq_C) → Prop := fun v g' => ∃ (x36 : Int) (x93 x94 x95 : Int → Int), ezm_h e F A i0 i2 i3 i7 i8 i13 i18 i19 i20 i25 i29 i30 i31 x36 i37 i38 r73 r74 r75 r76 r77 r78 r79 r80 r81 r82 r83 r84 r85 r86 r87 r88 r89 r90 r91 r92 x93 x94 x95 = g' ∧ ezm_T i0 i2 i3 i7 i8 i13 i18 i19 i20 i25 i29 i30 i31 x36 i37 i38 r73 r74 r75 r76 r77 r78 r79 r80 r81 r82 r83 r84 r85 r86 r87 r88 r89 r90 r91 r92 x93 x94 x95 ∧ none = v
theorem ezm_m327_v4 {a2 : Int} (hT : ezm_T i0 i2 i3 i7 i8 i13 i18 i19 i20 i25 i29 i30 i31 i36 i37 i38 r73 r74 r75 r76 r77 r78 r79 r80 r81 r82 r83 r84 r85 r86 r87 r88 r89 r90 r91 r92 r93 r94 r95) (hd : 1 ≤ d) (ha2 : ezw_in a2) (gn : 4 ≤ r78 1) : ezw_C l ρ B xa Hb D cA 327 d [ezw_p 72, ezw_i (4), ezw_i a2] (ezm_h e F A i0 i2 i3 i7 i8 i13 i18 i19 i20 i25 i29 i30 i31 i36 i37 i38 r73 r74 r75 r76 r77 r78 r79 r80 r81 r82 r83 r84 r85 r86 r87 r88 r89 r90 r91 r92 r93 r94 r95) (ezm_m327_v4Q  e F A i0 i2 i3 i7 i8 i13 i18 i19 i20 i25 i29 i30 i31 i36 i37 i38 r73 r74 r75 r76 r77 r78 r79 r80 r81 r82 r83 r84 r85 r86 r87 r88 r89 r90 r91 r92 r93 r94 r95 a2) := by
  refine ezw_met (k := 1) rfl rfl ?_
  refine ezw_iload_n rfl rfl ?_
  refine ezw_aload_n rfl rfl ?_
  refine ezw_call0_0 rfl (by omega) (ezm_at rfl) rfl rfl rfl rfl (ezm_m216 hT (by omega)) ?_
  rintro _ _ ⟨rfl, u2, hu2, p1_0, p1_1, rfl⟩
  refine ezw_icmp_ne rfl rfl ⟨by decide, by decide⟩ hu2 (fun h5_2 => absurd h5_2 (by omega)) (fun h5_2 => ?_)
  refine ezw_iconst (0) rfl rfl ?_
  refine ezw_istore_n rfl rfl ?_
  have L10_4 : ∀ c3 : Int, ezw_in c3 → ∀ x93_4 : Int → Int, ∀ x94_4 : Int → Int, ezm_T i0 i2 i3 i7 i8 i13 i18 i19 i20 i25 i29 i30 i31 i36 i37 i38 r73 r74 r75 r76 r77 r78 r79 r80 r81 r82 r83 r84 r85 r86 r87 r88 r89 r90 r91 r92 x93_4 x94_4 r95 → ((0) ≤ c3) → ezw_E l ρ B xa Hb D cA d ezq_re327 (ezm_m327_v4Q  e F A i0 i2 i3 i7 i8 i13 i18 i19 i20 i25 i29 i30 i31 i36 i37 i38 r73 r74 r75 r76 r77 r78 r79 r80 r81 r82 r83 r84 r85 r86 r87 r88 r89 r90 r91 r92 r93 r94 r95 a2) 10 [some (ezw_p 72), some (ezw_i (4)), some (ezw_i a2), some (ezw_i c3)] [] (ezm_h e F A i0 i2 i3 i7 i8 i13 i18 i19 i20 i25 i29 i30 i31 i36 i37 i38 r73 r74 r75 r76 r77 r78 r79 r80 r81 r82 r83 r84 r85 r86 r87 r88 r89 r90 r91 r92 x93_4 x94_4 r95) := by
    refine ezs_up ?_
    intro c3 hc3 ihc3 x93_4 x94_4 hT g_4
    refine ezw_iload_n rfl rfl ?_
    refine ezw_iload_n rfl rfl ?_
    refine ezw_icmp_ge rfl rfl hc3 ⟨by decide, by decide⟩ (fun h12_4 => ?_) (fun h12_4 => ?_)
    · refine ezw_aload_n rfl rfl ?_
      refine ezw_dup rfl rfl ?_
      refine ezm_g36 rfl ?_
      have k5 := hT.t36
      refine ezw_iconst (1) rfl rfl ?_
      refine ezs_iadd rfl (fun u6 hu6 => ?_)
      refine ezm_p36 hT rfl hu6 (fun hT => ?_)
      exact ezw_return rfl rfl ⟨u6, x93_4, x94_4, r95, rfl, hT, rfl⟩
    · refine ezw_aload_n rfl rfl ?_
      refine ezm_gp (p := 93) rfl (fun _ => rfl) ?_
      refine ezw_aload_n rfl rfl ?_
      refine ezm_gp (p := 95) rfl (fun _ => rfl) ?_
      refine ezw_iload_n rfl rfl ?_
      refine ezm_l95 rfl (by omega) (by omega) (fun u7 eu7 => ?_)
      have ku7 : 0 ≤ u7 ∧ u7 ≤ 3 := eu7 ▸ hT.t95 c3
      refine ezw_aload_n rfl rfl ?_
      refine ezm_g36 rfl ?_
      have k8 := hT.t36
      have J62_10 : ∀ y9 : Int, ezw_in y9 → ezw_E l ρ B xa Hb D cA d ezq_re327 (ezm_m327_v4Q  e F A i0 i2 i3 i7 i8 i13 i18 i19 i20 i25 i29 i30 i31 i36 i37 i38 r73 r74 r75 r76 r77 r78 r79 r80 r81 r82 r83 r84 r85 r86 r87 r88 r89 r90 r91 r92 r93 r94 r95 a2) 62 [some (ezw_p 72), some (ezw_i (4)), some (ezw_i a2), some (ezw_i c3)] [ezw_i y9, ezw_i u7, ezw_p 93] (ezm_h e F A i0 i2 i3 i7 i8 i13 i18 i19 i20 i25 i29 i30 i31 i36 i37 i38 r73 r74 r75 r76 r77 r78 r79 r80 r81 r82 r83 r84 r85 r86 r87 r88 r89 r90 r91 r92 x93_4 x94_4 r95) := by
        intro y9 hy9
        refine ezm_s93 hT rfl (by omega) (by omega) hy9 (fun r93_11 hT er93_11 fr93_11 => ?_)
        refine ezw_aload_n rfl rfl ?_
        refine ezm_gp (p := 94) rfl (fun _ => rfl) ?_
        refine ezw_aload_n rfl rfl ?_
        refine ezm_gp (p := 95) rfl (fun _ => rfl) ?_
        refine ezw_iload_n rfl rfl ?_
        refine ezm_l95 rfl (by omega) (by omega) (fun u12 eu12 => ?_)
        have fu12 : u7 = u12 := eu7.trans eu12.symm
        subst fu12
        refine ezw_aload_n rfl rfl ?_
        refine ezm_g36 rfl ?_
        have J110_14 : ∀ y13 : Int, ezw_in y13 → ezw_E l ρ B xa Hb D cA d ezq_re327 (ezm_m327_v4Q  e F A i0 i2 i3 i7 i8 i13 i18 i19 i20 i25 i29 i30 i31 i36 i37 i38 r73 r74 r75 r76 r77 r78 r79 r80 r81 r82 r83 r84 r85 r86 r87 r88 r89 r90 r91 r92 r93 r94 r95 a2) 110 [some (ezw_p 72), some (ezw_i (4)), some (ezw_i a2), some (ezw_i c3)] [ezw_i y13, ezw_i u7, ezw_p 94] (ezm_h e F A i0 i2 i3 i7 i8 i13 i18 i19 i20 i25 i29 i30 i31 i36 i37 i38 r73 r74 r75 r76 r77 r78 r79 r80 r81 r82 r83 r84 r85 r86 r87 r88 r89 r90 r91 r92 r93_11 x94_4 r95) := by
          intro y13 hy13
          refine ezm_s94 hT rfl (by omega) (by omega) hy13 (fun r94_15 hT er94_15 fr94_15 => ?_)
          refine ezw_iinc (k := c3 + 1) (1) rfl rfl rfl (by omega) rfl ?_
          refine ezw_goto rfl rfl ?_
          exact ezw_keepE [true, true, true, true] (ihc3 (c3 + 1) (by omega) ⟨by omega, by omega⟩ r93_11 r94_15 hT (by omega))
        refine ezw_if_eq rfl rfl hT.t36 (fun h77_12 => ?_) (fun h77_12 => ?_)
        · refine ezw_iload_n rfl rfl ?_
          refine ezw_goto rfl rfl ?_
          exact ezw_keepE [true, true, true, true] (J110_14 c3 hc3)
        · refine ezw_iload_n rfl rfl ?_
          refine ezw_aload_n rfl rfl ?_
          refine ezm_gp (p := 94) rfl (fun _ => rfl) ?_
          refine ezw_aload_n rfl rfl ?_
          refine ezm_gp (p := 95) rfl (fun _ => rfl) ?_
          refine ezw_iload_n rfl rfl ?_
          refine ezm_l95 rfl (by omega) (by omega) (fun u16 eu16 => ?_)
          have fu16 : u7 = u16 := eu7.trans eu16.symm
          subst fu16
          refine ezm_l94 rfl (by omega) (by omega) (fun u17 eu17 => ?_)
          have ku17 : ezw_in u17 := eu17 ▸ hT.t94 u7
          refine ezw_icmp_le rfl rfl hc3 ku17 (fun h92_17 => ?_) (fun h92_17 => ?_)
          · refine ezw_aload_n rfl rfl ?_
            refine ezm_gp (p := 94) rfl (fun _ => rfl) ?_
            refine ezw_aload_n rfl rfl ?_
            refine ezm_gp (p := 95) rfl (fun _ => rfl) ?_
            refine ezw_iload_n rfl rfl ?_
            refine ezm_l95 rfl (by omega) (by omega) (fun u18 eu18 => ?_)
            have fu18 : u7 = u18 := eu7.trans eu18.symm
            subst fu18
            refine ezm_l94 rfl (by omega) (by omega) (fun u19 eu19 => ?_)
            have fu19 : u17 = u19 := eu17.trans eu19.symm
            subst fu19
            exact ezw_keepE [true, true, true, true] (J110_14 u17 ku17)
          · refine ezw_iload_n rfl rfl ?_
            refine ezw_goto rfl rfl ?_
            exact ezw_keepE [true, true, true, true] (J110_14 c3 hc3)
      refine ezw_if_eq rfl rfl hT.t36 (fun h29_8 => ?_) (fun h29_8 => ?_)
      · refine ezw_iload_n rfl rfl ?_
        refine ezw_goto rfl rfl ?_
        exact ezw_keepE [true, true, true, true] (J62_10 c3 hc3)
      · refine ezw_iload_n rfl rfl ?_
        refine ezw_aload_n rfl rfl ?_
        refine ezm_gp (p := 93) rfl (fun _ => rfl) ?_
        refine ezw_aload_n rfl rfl ?_
        refine ezm_gp (p := 95) rfl (fun _ => rfl) ?_
        refine ezw_iload_n rfl rfl ?_
        refine ezm_l95 rfl (by omega) (by omega) (fun u20 eu20 => ?_)
        have fu20 : u7 = u20 := eu7.trans eu20.symm
        subst fu20
        refine ezm_l93 rfl (by omega) (by omega) (fun u21 eu21 => ?_)
        have ku21 : ezw_in u21 := eu21 ▸ hT.t93 u7
        refine ezw_icmp_ge rfl rfl hc3 ku21 (fun h44_21 => ?_) (fun h44_21 => ?_)
        · refine ezw_aload_n rfl rfl ?_
          refine ezm_gp (p := 93) rfl (fun _ => rfl) ?_
          refine ezw_aload_n rfl rfl ?_
          refine ezm_gp (p := 95) rfl (fun _ => rfl) ?_
          refine ezw_iload_n rfl rfl ?_
          refine ezm_l95 rfl (by omega) (by omega) (fun u22 eu22 => ?_)
          have fu22 : u7 = u22 := eu7.trans eu22.symm
          subst fu22
          refine ezm_l93 rfl (by omega) (by omega) (fun u23 eu23 => ?_)
          have fu23 : u21 = u23 := eu21.trans eu23.symm
          subst fu23
          exact ezw_keepE [true, true, true, true] (J62_10 u21 ku21)
        · refine ezw_iload_n rfl rfl ?_
          refine ezw_goto rfl rfl ?_
          exact ezw_keepE [true, true, true, true] (J62_10 c3 hc3)
  exact ezw_keepE [true, true, true, true] (L10_4 (0) ⟨by decide, by decide⟩ r93 r94 hT (by omega))
def ezm_m327_v3Q (e : Bool × Bool) (F : Nat → Nat → Int) (A : Nat → Int → Int) (i0 i2 i3 i7 i8 i13 i18 i19 i20 i25 i29 i30 i31 i36 i37 i38 : Int) (r73 r74 r75 r76 r77 r78 r79 r80 r81 r82 r83 r84 r85 r86 r87 r88 r89 r90 r91 r92 r93 r94 r95 : Int → Int) (a2 : Int) : Option ezq_V → (Nat → ezq_C) → Prop := fun v g' => ∃ (x36 : Int) (x93 x94 x95 : Int → Int), ezm_h e F A i0 i2 i3 i7 i8 i13 i18 i19 i20 i25 i29 i30 i31 x36 i37 i38 r73 r74 r75 r76 r77 r78 r79 r80 r81 r82 r83 r84 r85 r86 r87 r88 r89 r90 r91 r92 x93 x94 x95 = g' ∧ ezm_T i0 i2 i3 i7 i8 i13 i18 i19 i20 i25 i29 i30 i31 x36 i37 i38 r73 r74 r75 r76 r77 r78 r79 r80 r81 r82 r83 r84 r85 r86 r87 r88 r89 r90 r91 r92 x93 x94 x95 ∧ none = v
theorem ezm_m327_v3 {a2 : Int} (hT : ezm_T i0 i2 i3 i7 i8 i13 i18 i19 i20 i25 i29 i30 i31 i36 i37 i38 r73 r74 r75 r76 r77 r78 r79 r80 r81 r82 r83 r84 r85 r86 r87 r88 r89 r90 r91 r92 r93 r94 r95) (hd : 2 ≤ d) (ha2 : ezw_in a2) (gn : 3 ≤ r78 1) : ezw_C l ρ B xa Hb D cA 327 d [ezw_p 72, ezw_i (3), ezw_i a2] (ezm_h e F A i0 i2 i3 i7 i8 i13 i18 i19 i20 i25 i29 i30 i31 i36 i37 i38 r73 r74 r75 r76 r77 r78 r79 r80 r81 r82 r83 r84 r85 r86 r87 r88 r89 r90 r91 r92 r93 r94 r95) (ezm_m327_v3Q  e F A i0 i2 i3 i7 i8 i13 i18 i19 i20 i25 i29 i30 i31 i36 i37 i38 r73 r74 r75 r76 r77 r78 r79 r80 r81 r82 r83 r84 r85 r86 r87 r88 r89 r90 r91 r92 r93 r94 r95 a2) := by
  refine ezw_met (k := 1) rfl rfl ?_
  refine ezw_iload_n rfl rfl ?_
  refine ezw_aload_n rfl rfl ?_
  refine ezw_call0_0 rfl (by omega) (ezm_at rfl) rfl rfl rfl rfl (ezm_m216 hT (by omega)) ?_
  rintro _ _ ⟨rfl, u2, hu2, p1_0, p1_1, rfl⟩
  refine ezw_icmp_ne rfl rfl ⟨by decide, by decide⟩ hu2 (fun h5_2 => ?_) (fun h5_2 => ?_)
  · refine ezw_iconst (0) rfl rfl ?_
    refine ezw_istore_n rfl rfl ?_
    have L130_4 : ∀ c3 : Int, ezw_in c3 → ∀ x36_4 : Int, ∀ x93_4 : Int → Int, ∀ x94_4 : Int → Int, ∀ x95_4 : Int → Int, ezm_T i0 i2 i3 i7 i8 i13 i18 i19 i20 i25 i29 i30 i31 x36_4 i37 i38 r73 r74 r75 r76 r77 r78 r79 r80 r81 r82 r83 r84 r85 r86 r87 r88 r89 r90 r91 r92 x93_4 x94_4 x95_4 → ((0) ≤ c3) → ezw_E l ρ B xa Hb D cA d ezq_re327 (ezm_m327_v3Q  e F A i0 i2 i3 i7 i8 i13 i18 i19 i20 i25 i29 i30 i31 i36 i37 i38 r73 r74 r75 r76 r77 r78 r79 r80 r81 r82 r83 r84 r85 r86 r87 r88 r89 r90 r91 r92 r93 r94 r95 a2) 130 [some (ezw_p 72), some (ezw_i (3)), some (ezw_i a2), some (ezw_i c3)] [] (ezm_h e F A i0 i2 i3 i7 i8 i13 i18 i19 i20 i25 i29 i30 i31 x36_4 i37 i38 r73 r74 r75 r76 r77 r78 r79 r80 r81 r82 r83 r84 r85 r86 r87 r88 r89 r90 r91 r92 x93_4 x94_4 x95_4) := by
      refine ezs_up ?_
      intro c3 hc3 ihc3 x36_4 x93_4 x94_4 x95_4 hT g_4
      have k5 := hT.t36
      refine ezw_iload_n rfl rfl ?_
      refine ezw_aload_n rfl rfl ?_
      refine ezw_call0_0 rfl (by omega) (ezm_at rfl) rfl rfl rfl rfl (ezm_m216 hT (by omega)) ?_
      rintro _ _ ⟨rfl, u7, hu7, p6_0, p6_1, rfl⟩
      refine ezw_icmp_ge rfl rfl hc3 hu7 (fun h135_7 => ?_) (fun h135_7 => ?_)
      · exact ezw_return rfl rfl ⟨x36_4, x93_4, x94_4, x95_4, rfl, hT, rfl⟩
      · refine ezw_aload_n rfl rfl ?_
        refine ezw_iload_n rfl rfl ?_
        refine ezw_iload_n rfl rfl ?_
        refine ezw_call0_2 rfl (by omega) (ezm_at rfl) rfl rfl rfl rfl (ezm_m328 hT (by omega) hc3 ha2 (by omega)) ?_
        rintro _ _ ⟨rfl, u9, hu9, rfl⟩
        refine ezw_if_eq rfl rfl ⟨by omega, by omega⟩ (fun h144_9 => ?_) (fun h144_9 => ?_)
        · refine ezw_iinc (k := c3 + 1) (1) rfl rfl rfl (by omega) rfl ?_
          refine ezw_goto rfl rfl ?_
          exact ezw_keepE [true, true, true, true] (ihc3 (c3 + 1) (by omega) ⟨by omega, by omega⟩ x36_4 x93_4 x94_4 x95_4 hT (by omega))
        · refine ezw_aload_n rfl rfl ?_
          refine ezm_gp (p := 95) rfl (fun _ => rfl) ?_
          refine ezw_iload_n rfl rfl ?_
          refine ezw_iload_n rfl rfl ?_
          refine ezm_s95 hT rfl (by omega) (by omega) ⟨by omega, by omega⟩ (fun r95_10 hT er95_10 fr95_10 => ?_)
          refine ezw_aload_n rfl rfl ?_
          refine ezw_iload_n rfl rfl ?_
          refine ezw_iconst (1) rfl rfl ?_
          refine ezw_iadd (k := (4)) rfl (by omega) ?_
          refine ezw_iload_n rfl rfl ?_
          refine ezw_iconst (1) rfl rfl ?_
          refine ezw_iload_n rfl rfl ?_
          refine ezm_ishl1 rfl (by omega) (by omega) (fun u11 hu11 ku11 => ?_)
          refine ezs_ior rfl (fun u12 hu12 => ?_)
          refine ezw_call0_2 rfl (by omega) (ezm_at rfl) rfl rfl rfl rfl (ezm_m327_v4 hT (by omega) hu12 (by omega)) ?_
          rintro _ _ ⟨x36_13, x93_13, x94_13, x95_13, rfl, hT, rfl⟩
          have k14 := hT.t36
          refine ezw_iinc (k := c3 + 1) (1) rfl rfl rfl (by omega) rfl ?_
          refine ezw_goto rfl rfl ?_
          exact ezw_keepE [true, true, true, true] (ihc3 (c3 + 1) (by omega) ⟨by omega, by omega⟩ x36_13 x93_13 x94_13 x95_13 hT (by omega))
    exact ezw_keepE [true, true, true, true] (L130_4 (0) ⟨by decide, by decide⟩ i36 r93 r94 r95 hT (by omega))
  · refine ezw_iconst (0) rfl rfl ?_
    refine ezw_istore_n rfl rfl ?_
    have L10_16 : ∀ c15 : Int, ezw_in c15 → ∀ x93_16 : Int → Int, ∀ x94_16 : Int → Int, ezm_T i0 i2 i3 i7 i8 i13 i18 i19 i20 i25 i29 i30 i31 i36 i37 i38 r73 r74 r75 r76 r77 r78 r79 r80 r81 r82 r83 r84 r85 r86 r87 r88 r89 r90 r91 r92 x93_16 x94_16 r95 → ((0) ≤ c15) → ezw_E l ρ B xa Hb D cA d ezq_re327 (ezm_m327_v3Q  e F A i0 i2 i3 i7 i8 i13 i18 i19 i20 i25 i29 i30 i31 i36 i37 i38 r73 r74 r75 r76 r77 r78 r79 r80 r81 r82 r83 r84 r85 r86 r87 r88 r89 r90 r91 r92 r93 r94 r95 a2) 10 [some (ezw_p 72), some (ezw_i (3)), some (ezw_i a2), some (ezw_i c15)] [] (ezm_h e F A i0 i2 i3 i7 i8 i13 i18 i19 i20 i25 i29 i30 i31 i36 i37 i38 r73 r74 r75 r76 r77 r78 r79 r80 r81 r82 r83 r84 r85 r86 r87 r88 r89 r90 r91 r92 x93_16 x94_16 r95) := by
      refine ezs_up ?_
      intro c15 hc15 ihc15 x93_16 x94_16 hT g_16
      refine ezw_iload_n rfl rfl ?_
      refine ezw_iload_n rfl rfl ?_
      refine ezw_icmp_ge rfl rfl hc15 ⟨by decide, by decide⟩ (fun h12_16 => ?_) (fun h12_16 => ?_)
      · refine ezw_aload_n rfl rfl ?_
        refine ezw_dup rfl rfl ?_
        refine ezm_g36 rfl ?_
        have k17 := hT.t36
        refine ezw_iconst (1) rfl rfl ?_
        refine ezs_iadd rfl (fun u18 hu18 => ?_)
        refine ezm_p36 hT rfl hu18 (fun hT => ?_)
        exact ezw_return rfl rfl ⟨u18, x93_16, x94_16, r95, rfl, hT, rfl⟩
      · refine ezw_aload_n rfl rfl ?_
        refine ezm_gp (p := 93) rfl (fun _ => rfl) ?_
        refine ezw_aload_n rfl rfl ?_
        refine ezm_gp (p := 95) rfl (fun _ => rfl) ?_
        refine ezw_iload_n rfl rfl ?_
        refine ezm_l95 rfl (by omega) (by omega) (fun u19 eu19 => ?_)
        have ku19 : 0 ≤ u19 ∧ u19 ≤ 3 := eu19 ▸ hT.t95 c15
        refine ezw_aload_n rfl rfl ?_
        refine ezm_g36 rfl ?_
        have k20 := hT.t36
        have J62_22 : ∀ y21 : Int, ezw_in y21 → ezw_E l ρ B xa Hb D cA d ezq_re327 (ezm_m327_v3Q  e F A i0 i2 i3 i7 i8 i13 i18 i19 i20 i25 i29 i30 i31 i36 i37 i38 r73 r74 r75 r76 r77 r78 r79 r80 r81 r82 r83 r84 r85 r86 r87 r88 r89 r90 r91 r92 r93 r94 r95 a2) 62 [some (ezw_p 72), some (ezw_i (3)), some (ezw_i a2), some (ezw_i c15)] [ezw_i y21, ezw_i u19, ezw_p 93] (ezm_h e F A i0 i2 i3 i7 i8 i13 i18 i19 i20 i25 i29 i30 i31 i36 i37 i38 r73 r74 r75 r76 r77 r78 r79 r80 r81 r82 r83 r84 r85 r86 r87 r88 r89 r90 r91 r92 x93_16 x94_16 r95) := by
          intro y21 hy21
          refine ezm_s93 hT rfl (by omega) (by omega) hy21 (fun r93_23 hT er93_23 fr93_23 => ?_)
          refine ezw_aload_n rfl rfl ?_
          refine ezm_gp (p := 94) rfl (fun _ => rfl) ?_
          refine ezw_aload_n rfl rfl ?_
          refine ezm_gp (p := 95) rfl (fun _ => rfl) ?_
          refine ezw_iload_n rfl rfl ?_
          refine ezm_l95 rfl (by omega) (by omega) (fun u24 eu24 => ?_)
          have fu24 : u19 = u24 := eu19.trans eu24.symm
          subst fu24
          refine ezw_aload_n rfl rfl ?_
          refine ezm_g36 rfl ?_
          have J110_26 : ∀ y25 : Int, ezw_in y25 → ezw_E l ρ B xa Hb D cA d ezq_re327 (ezm_m327_v3Q  e F A i0 i2 i3 i7 i8 i13 i18 i19 i20 i25 i29 i30 i31 i36 i37 i38 r73 r74 r75 r76 r77 r78 r79 r80 r81 r82 r83 r84 r85 r86 r87 r88 r89 r90 r91 r92 r93 r94 r95 a2) 110 [some (ezw_p 72), some (ezw_i (3)), some (ezw_i a2), some (ezw_i c15)] [ezw_i y25, ezw_i u19, ezw_p 94] (ezm_h e F A i0 i2 i3 i7 i8 i13 i18 i19 i20 i25 i29 i30 i31 i36 i37 i38 r73 r74 r75 r76 r77 r78 r79 r80 r81 r82 r83 r84 r85 r86 r87 r88 r89 r90 r91 r92 r93_23 x94_16 r95) := by
            intro y25 hy25
            refine ezm_s94 hT rfl (by omega) (by omega) hy25 (fun r94_27 hT er94_27 fr94_27 => ?_)
            refine ezw_iinc (k := c15 + 1) (1) rfl rfl rfl (by omega) rfl ?_
            refine ezw_goto rfl rfl ?_
            exact ezw_keepE [true, true, true, true] (ihc15 (c15 + 1) (by omega) ⟨by omega, by omega⟩ r93_23 r94_27 hT (by omega))
          refine ezw_if_eq rfl rfl hT.t36 (fun h77_24 => ?_) (fun h77_24 => ?_)
          · refine ezw_iload_n rfl rfl ?_
            refine ezw_goto rfl rfl ?_
            exact ezw_keepE [true, true, true, true] (J110_26 c15 hc15)
          · refine ezw_iload_n rfl rfl ?_
            refine ezw_aload_n rfl rfl ?_
            refine ezm_gp (p := 94) rfl (fun _ => rfl) ?_
            refine ezw_aload_n rfl rfl ?_
            refine ezm_gp (p := 95) rfl (fun _ => rfl) ?_
            refine ezw_iload_n rfl rfl ?_
            refine ezm_l95 rfl (by omega) (by omega) (fun u28 eu28 => ?_)
            have fu28 : u19 = u28 := eu19.trans eu28.symm
            subst fu28
            refine ezm_l94 rfl (by omega) (by omega) (fun u29 eu29 => ?_)
            have ku29 : ezw_in u29 := eu29 ▸ hT.t94 u19
            refine ezw_icmp_le rfl rfl hc15 ku29 (fun h92_29 => ?_) (fun h92_29 => ?_)
            · refine ezw_aload_n rfl rfl ?_
              refine ezm_gp (p := 94) rfl (fun _ => rfl) ?_
              refine ezw_aload_n rfl rfl ?_
              refine ezm_gp (p := 95) rfl (fun _ => rfl) ?_
              refine ezw_iload_n rfl rfl ?_
              refine ezm_l95 rfl (by omega) (by omega) (fun u30 eu30 => ?_)
              have fu30 : u19 = u30 := eu19.trans eu30.symm
              subst fu30
              refine ezm_l94 rfl (by omega) (by omega) (fun u31 eu31 => ?_)
              have fu31 : u29 = u31 := eu29.trans eu31.symm
              subst fu31
              exact ezw_keepE [true, true, true, true] (J110_26 u29 ku29)
            · refine ezw_iload_n rfl rfl ?_
              refine ezw_goto rfl rfl ?_
              exact ezw_keepE [true, true, true, true] (J110_26 c15 hc15)
        refine ezw_if_eq rfl rfl hT.t36 (fun h29_20 => ?_) (fun h29_20 => ?_)
        · refine ezw_iload_n rfl rfl ?_
          refine ezw_goto rfl rfl ?_
          exact ezw_keepE [true, true, true, true] (J62_22 c15 hc15)
        · refine ezw_iload_n rfl rfl ?_
          refine ezw_aload_n rfl rfl ?_
          refine ezm_gp (p := 93) rfl (fun _ => rfl) ?_
          refine ezw_aload_n rfl rfl ?_
          refine ezm_gp (p := 95) rfl (fun _ => rfl) ?_
          refine ezw_iload_n rfl rfl ?_
          refine ezm_l95 rfl (by omega) (by omega) (fun u32 eu32 => ?_)
          have fu32 : u19 = u32 := eu19.trans eu32.symm
          subst fu32
          refine ezm_l93 rfl (by omega) (by omega) (fun u33 eu33 => ?_)
          have ku33 : ezw_in u33 := eu33 ▸ hT.t93 u19
          refine ezw_icmp_ge rfl rfl hc15 ku33 (fun h44_33 => ?_) (fun h44_33 => ?_)
          · refine ezw_aload_n rfl rfl ?_
            refine ezm_gp (p := 93) rfl (fun _ => rfl) ?_
            refine ezw_aload_n rfl rfl ?_
            refine ezm_gp (p := 95) rfl (fun _ => rfl) ?_
            refine ezw_iload_n rfl rfl ?_
            refine ezm_l95 rfl (by omega) (by omega) (fun u34 eu34 => ?_)
            have fu34 : u19 = u34 := eu19.trans eu34.symm
            subst fu34
            refine ezm_l93 rfl (by omega) (by omega) (fun u35 eu35 => ?_)
            have fu35 : u33 = u35 := eu33.trans eu35.symm
            subst fu35
            exact ezw_keepE [true, true, true, true] (J62_22 u33 ku33)
          · refine ezw_iload_n rfl rfl ?_
            refine ezw_goto rfl rfl ?_
            exact ezw_keepE [true, true, true, true] (J62_22 c15 hc15)
    exact ezw_keepE [true, true, true, true] (L10_16 (0) ⟨by decide, by decide⟩ r93 r94 hT (by omega))
def ezm_m327_v2Q (e : Bool × Bool) (F : Nat → Nat → Int) (A : Nat → Int → Int) (i0 i2 i3 i7 i8 i13 i18 i19 i20 i25 i29 i30 i31 i36 i37 i38 : Int) (r73 r74 r75 r76 r77 r78 r79 r80 r81 r82 r83 r84 r85 r86 r87 r88 r89 r90 r91 r92 r93 r94 r95 : Int → Int) (a2 : Int) : Option ezq_V → (Nat → ezq_C) → Prop := fun v g' => ∃ (x36 : Int) (x93 x94 x95 : Int → Int), ezm_h e F A i0 i2 i3 i7 i8 i13 i18 i19 i20 i25 i29 i30 i31 x36 i37 i38 r73 r74 r75 r76 r77 r78 r79 r80 r81 r82 r83 r84 r85 r86 r87 r88 r89 r90 r91 r92 x93 x94 x95 = g' ∧ ezm_T i0 i2 i3 i7 i8 i13 i18 i19 i20 i25 i29 i30 i31 x36 i37 i38 r73 r74 r75 r76 r77 r78 r79 r80 r81 r82 r83 r84 r85 r86 r87 r88 r89 r90 r91 r92 x93 x94 x95 ∧ none = v
theorem ezm_m327_v2 {a2 : Int} (hT : ezm_T i0 i2 i3 i7 i8 i13 i18 i19 i20 i25 i29 i30 i31 i36 i37 i38 r73 r74 r75 r76 r77 r78 r79 r80 r81 r82 r83 r84 r85 r86 r87 r88 r89 r90 r91 r92 r93 r94 r95) (hd : 3 ≤ d) (ha2 : ezw_in a2) (gn : 2 ≤ r78 1) : ezw_C l ρ B xa Hb D cA 327 d [ezw_p 72, ezw_i (2), ezw_i a2] (ezm_h e F A i0 i2 i3 i7 i8 i13 i18 i19 i20 i25 i29 i30 i31 i36 i37 i38 r73 r74 r75 r76 r77 r78 r79 r80 r81 r82 r83 r84 r85 r86 r87 r88 r89 r90 r91 r92 r93 r94 r95) (ezm_m327_v2Q  e F A i0 i2 i3 i7 i8 i13 i18 i19 i20 i25 i29 i30 i31 i36 i37 i38 r73 r74 r75 r76 r77 r78 r79 r80 r81 r82 r83 r84 r85 r86 r87 r88 r89 r90 r91 r92 r93 r94 r95 a2) := by
  refine ezw_met (k := 1) rfl rfl ?_
  refine ezw_iload_n rfl rfl ?_
  refine ezw_aload_n rfl rfl ?_
  refine ezw_call0_0 rfl (by omega) (ezm_at rfl) rfl rfl rfl rfl (ezm_m216 hT (by omega)) ?_
  rintro _ _ ⟨rfl, u2, hu2, p1_0, p1_1, rfl⟩
  refine ezw_icmp_ne rfl rfl ⟨by decide, by decide⟩ hu2 (fun h5_2 => ?_) (fun h5_2 => ?_)
  · refine ezw_iconst (0) rfl rfl ?_
    refine ezw_istore_n rfl rfl ?_
    have L130_4 : ∀ c3 : Int, ezw_in c3 → ∀ x36_4 : Int, ∀ x93_4 : Int → Int, ∀ x94_4 : Int → Int, ∀ x95_4 : Int → Int, ezm_T i0 i2 i3 i7 i8 i13 i18 i19 i20 i25 i29 i30 i31 x36_4 i37 i38 r73 r74 r75 r76 r77 r78 r79 r80 r81 r82 r83 r84 r85 r86 r87 r88 r89 r90 r91 r92 x93_4 x94_4 x95_4 → ((0) ≤ c3) → ezw_E l ρ B xa Hb D cA d ezq_re327 (ezm_m327_v2Q  e F A i0 i2 i3 i7 i8 i13 i18 i19 i20 i25 i29 i30 i31 i36 i37 i38 r73 r74 r75 r76 r77 r78 r79 r80 r81 r82 r83 r84 r85 r86 r87 r88 r89 r90 r91 r92 r93 r94 r95 a2) 130 [some (ezw_p 72), some (ezw_i (2)), some (ezw_i a2), some (ezw_i c3)] [] (ezm_h e F A i0 i2 i3 i7 i8 i13 i18 i19 i20 i25 i29 i30 i31 x36_4 i37 i38 r73 r74 r75 r76 r77 r78 r79 r80 r81 r82 r83 r84 r85 r86 r87 r88 r89 r90 r91 r92 x93_4 x94_4 x95_4) := by
      refine ezs_up ?_
      intro c3 hc3 ihc3 x36_4 x93_4 x94_4 x95_4 hT g_4
      have k5 := hT.t36
      refine ezw_iload_n rfl rfl ?_
      refine ezw_aload_n rfl rfl ?_
      refine ezw_call0_0 rfl (by omega) (ezm_at rfl) rfl rfl rfl rfl (ezm_m216 hT (by omega)) ?_
      rintro _ _ ⟨rfl, u7, hu7, p6_0, p6_1, rfl⟩
      refine ezw_icmp_ge rfl rfl hc3 hu7 (fun h135_7 => ?_) (fun h135_7 => ?_)
      · exact ezw_return rfl rfl ⟨x36_4, x93_4, x94_4, x95_4, rfl, hT, rfl⟩
      · refine ezw_aload_n rfl rfl ?_
        refine ezw_iload_n rfl rfl ?_
        refine ezw_iload_n rfl rfl ?_
        refine ezw_call0_2 rfl (by omega) (ezm_at rfl) rfl rfl rfl rfl (ezm_m328 hT (by omega) hc3 ha2 (by omega)) ?_
        rintro _ _ ⟨rfl, u9, hu9, rfl⟩
        refine ezw_if_eq rfl rfl ⟨by omega, by omega⟩ (fun h144_9 => ?_) (fun h144_9 => ?_)
        · refine ezw_iinc (k := c3 + 1) (1) rfl rfl rfl (by omega) rfl ?_
          refine ezw_goto rfl rfl ?_
          exact ezw_keepE [true, true, true, true] (ihc3 (c3 + 1) (by omega) ⟨by omega, by omega⟩ x36_4 x93_4 x94_4 x95_4 hT (by omega))
        · refine ezw_aload_n rfl rfl ?_
          refine ezm_gp (p := 95) rfl (fun _ => rfl) ?_
          refine ezw_iload_n rfl rfl ?_
          refine ezw_iload_n rfl rfl ?_
          refine ezm_s95 hT rfl (by omega) (by omega) ⟨by omega, by omega⟩ (fun r95_10 hT er95_10 fr95_10 => ?_)
          refine ezw_aload_n rfl rfl ?_
          refine ezw_iload_n rfl rfl ?_
          refine ezw_iconst (1) rfl rfl ?_
          refine ezw_iadd (k := (3)) rfl (by omega) ?_
          refine ezw_iload_n rfl rfl ?_
          refine ezw_iconst (1) rfl rfl ?_
          refine ezw_iload_n rfl rfl ?_
          refine ezm_ishl1 rfl (by omega) (by omega) (fun u11 hu11 ku11 => ?_)
          refine ezs_ior rfl (fun u12 hu12 => ?_)
          refine ezw_call0_2 rfl (by omega) (ezm_at rfl) rfl rfl rfl rfl (ezm_m327_v3 hT (by omega) hu12 (by omega)) ?_
          rintro _ _ ⟨x36_13, x93_13, x94_13, x95_13, rfl, hT, rfl⟩
          have k14 := hT.t36
          refine ezw_iinc (k := c3 + 1) (1) rfl rfl rfl (by omega) rfl ?_
          refine ezw_goto rfl rfl ?_
          exact ezw_keepE [true, true, true, true] (ihc3 (c3 + 1) (by omega) ⟨by omega, by omega⟩ x36_13 x93_13 x94_13 x95_13 hT (by omega))
    exact ezw_keepE [true, true, true, true] (L130_4 (0) ⟨by decide, by decide⟩ i36 r93 r94 r95 hT (by omega))
  · refine ezw_iconst (0) rfl rfl ?_
    refine ezw_istore_n rfl rfl ?_
    have L10_16 : ∀ c15 : Int, ezw_in c15 → ∀ x93_16 : Int → Int, ∀ x94_16 : Int → Int, ezm_T i0 i2 i3 i7 i8 i13 i18 i19 i20 i25 i29 i30 i31 i36 i37 i38 r73 r74 r75 r76 r77 r78 r79 r80 r81 r82 r83 r84 r85 r86 r87 r88 r89 r90 r91 r92 x93_16 x94_16 r95 → ((0) ≤ c15) → ezw_E l ρ B xa Hb D cA d ezq_re327 (ezm_m327_v2Q  e F A i0 i2 i3 i7 i8 i13 i18 i19 i20 i25 i29 i30 i31 i36 i37 i38 r73 r74 r75 r76 r77 r78 r79 r80 r81 r82 r83 r84 r85 r86 r87 r88 r89 r90 r91 r92 r93 r94 r95 a2) 10 [some (ezw_p 72), some (ezw_i (2)), some (ezw_i a2), some (ezw_i c15)] [] (ezm_h e F A i0 i2 i3 i7 i8 i13 i18 i19 i20 i25 i29 i30 i31 i36 i37 i38 r73 r74 r75 r76 r77 r78 r79 r80 r81 r82 r83 r84 r85 r86 r87 r88 r89 r90 r91 r92 x93_16 x94_16 r95) := by
      refine ezs_up ?_
      intro c15 hc15 ihc15 x93_16 x94_16 hT g_16
      refine ezw_iload_n rfl rfl ?_
      refine ezw_iload_n rfl rfl ?_
      refine ezw_icmp_ge rfl rfl hc15 ⟨by decide, by decide⟩ (fun h12_16 => ?_) (fun h12_16 => ?_)
      · refine ezw_aload_n rfl rfl ?_
        refine ezw_dup rfl rfl ?_
        refine ezm_g36 rfl ?_
        have k17 := hT.t36
        refine ezw_iconst (1) rfl rfl ?_
        refine ezs_iadd rfl (fun u18 hu18 => ?_)
        refine ezm_p36 hT rfl hu18 (fun hT => ?_)
        exact ezw_return rfl rfl ⟨u18, x93_16, x94_16, r95, rfl, hT, rfl⟩
      · refine ezw_aload_n rfl rfl ?_
        refine ezm_gp (p := 93) rfl (fun _ => rfl) ?_
        refine ezw_aload_n rfl rfl ?_
        refine ezm_gp (p := 95) rfl (fun _ => rfl) ?_
        refine ezw_iload_n rfl rfl ?_
        refine ezm_l95 rfl (by omega) (by omega) (fun u19 eu19 => ?_)
        have ku19 : 0 ≤ u19 ∧ u19 ≤ 3 := eu19 ▸ hT.t95 c15
        refine ezw_aload_n rfl rfl ?_
        refine ezm_g36 rfl ?_
        have k20 := hT.t36
        have J62_22 : ∀ y21 : Int, ezw_in y21 → ezw_E l ρ B xa Hb D cA d ezq_re327 (ezm_m327_v2Q  e F A i0 i2 i3 i7 i8 i13 i18 i19 i20 i25 i29 i30 i31 i36 i37 i38 r73 r74 r75 r76 r77 r78 r79 r80 r81 r82 r83 r84 r85 r86 r87 r88 r89 r90 r91 r92 r93 r94 r95 a2) 62 [some (ezw_p 72), some (ezw_i (2)), some (ezw_i a2), some (ezw_i c15)] [ezw_i y21, ezw_i u19, ezw_p 93] (ezm_h e F A i0 i2 i3 i7 i8 i13 i18 i19 i20 i25 i29 i30 i31 i36 i37 i38 r73 r74 r75 r76 r77 r78 r79 r80 r81 r82 r83 r84 r85 r86 r87 r88 r89 r90 r91 r92 x93_16 x94_16 r95) := by
          intro y21 hy21
          refine ezm_s93 hT rfl (by omega) (by omega) hy21 (fun r93_23 hT er93_23 fr93_23 => ?_)
          refine ezw_aload_n rfl rfl ?_
          refine ezm_gp (p := 94) rfl (fun _ => rfl) ?_
          refine ezw_aload_n rfl rfl ?_
          refine ezm_gp (p := 95) rfl (fun _ => rfl) ?_
          refine ezw_iload_n rfl rfl ?_
          refine ezm_l95 rfl (by omega) (by omega) (fun u24 eu24 => ?_)
          have fu24 : u19 = u24 := eu19.trans eu24.symm
          subst fu24
          refine ezw_aload_n rfl rfl ?_
          refine ezm_g36 rfl ?_
          have J110_26 : ∀ y25 : Int, ezw_in y25 → ezw_E l ρ B xa Hb D cA d ezq_re327 (ezm_m327_v2Q  e F A i0 i2 i3 i7 i8 i13 i18 i19 i20 i25 i29 i30 i31 i36 i37 i38 r73 r74 r75 r76 r77 r78 r79 r80 r81 r82 r83 r84 r85 r86 r87 r88 r89 r90 r91 r92 r93 r94 r95 a2) 110 [some (ezw_p 72), some (ezw_i (2)), some (ezw_i a2), some (ezw_i c15)] [ezw_i y25, ezw_i u19, ezw_p 94] (ezm_h e F A i0 i2 i3 i7 i8 i13 i18 i19 i20 i25 i29 i30 i31 i36 i37 i38 r73 r74 r75 r76 r77 r78 r79 r80 r81 r82 r83 r84 r85 r86 r87 r88 r89 r90 r91 r92 r93_23 x94_16 r95) := by
            intro y25 hy25
            refine ezm_s94 hT rfl (by omega) (by omega) hy25 (fun r94_27 hT er94_27 fr94_27 => ?_)
            refine ezw_iinc (k := c15 + 1) (1) rfl rfl rfl (by omega) rfl ?_
            refine ezw_goto rfl rfl ?_
            exact ezw_keepE [true, true, true, true] (ihc15 (c15 + 1) (by omega) ⟨by omega, by omega⟩ r93_23 r94_27 hT (by omega))
          refine ezw_if_eq rfl rfl hT.t36 (fun h77_24 => ?_) (fun h77_24 => ?_)
          · refine ezw_iload_n rfl rfl ?_
            refine ezw_goto rfl rfl ?_
            exact ezw_keepE [true, true, true, true] (J110_26 c15 hc15)
          · refine ezw_iload_n rfl rfl ?_
            refine ezw_aload_n rfl rfl ?_
            refine ezm_gp (p := 94) rfl (fun _ => rfl) ?_
            refine ezw_aload_n rfl rfl ?_
            refine ezm_gp (p := 95) rfl (fun _ => rfl) ?_
            refine ezw_iload_n rfl rfl ?_
            refine ezm_l95 rfl (by omega) (by omega) (fun u28 eu28 => ?_)
            have fu28 : u19 = u28 := eu19.trans eu28.symm
            subst fu28
            refine ezm_l94 rfl (by omega) (by omega) (fun u29 eu29 => ?_)
            have ku29 : ezw_in u29 := eu29 ▸ hT.t94 u19
            refine ezw_icmp_le rfl rfl hc15 ku29 (fun h92_29 => ?_) (fun h92_29 => ?_)
            · refine ezw_aload_n rfl rfl ?_
              refine ezm_gp (p := 94) rfl (fun _ => rfl) ?_
              refine ezw_aload_n rfl rfl ?_
              refine ezm_gp (p := 95) rfl (fun _ => rfl) ?_
              refine ezw_iload_n rfl rfl ?_
              refine ezm_l95 rfl (by omega) (by omega) (fun u30 eu30 => ?_)
              have fu30 : u19 = u30 := eu19.trans eu30.symm
              subst fu30
              refine ezm_l94 rfl (by omega) (by omega) (fun u31 eu31 => ?_)
              have fu31 : u29 = u31 := eu29.trans eu31.symm
              subst fu31
              exact ezw_keepE [true, true, true, true] (J110_26 u29 ku29)
            · refine ezw_iload_n rfl rfl ?_
              refine ezw_goto rfl rfl ?_
              exact ezw_keepE [true, true, true, true] (J110_26 c15 hc15)
        refine ezw_if_eq rfl rfl hT.t36 (fun h29_20 => ?_) (fun h29_20 => ?_)
        · refine ezw_iload_n rfl rfl ?_
          refine ezw_goto rfl rfl ?_
          exact ezw_keepE [true, true, true, true] (J62_22 c15 hc15)
        · refine ezw_iload_n rfl rfl ?_
          refine ezw_aload_n rfl rfl ?_
          refine ezm_gp (p := 93) rfl (fun _ => rfl) ?_
          refine ezw_aload_n rfl rfl ?_
          refine ezm_gp (p := 95) rfl (fun _ => rfl) ?_
          refine ezw_iload_n rfl rfl ?_
          refine ezm_l95 rfl (by omega) (by omega) (fun u32 eu32 => ?_)
          have fu32 : u19 = u32 := eu19.trans eu32.symm
          subst fu32
          refine ezm_l93 rfl (by omega) (by omega) (fun u33 eu33 => ?_)
          have ku33 : ezw_in u33 := eu33 ▸ hT.t93 u19
          refine ezw_icmp_ge rfl rfl hc15 ku33 (fun h44_33 => ?_) (fun h44_33 => ?_)
          · refine ezw_aload_n rfl rfl ?_
            refine ezm_gp (p := 93) rfl (fun _ => rfl) ?_
            refine ezw_aload_n rfl rfl ?_
            refine ezm_gp (p := 95) rfl (fun _ => rfl) ?_
            refine ezw_iload_n rfl rfl ?_
            refine ezm_l95 rfl (by omega) (by omega) (fun u34 eu34 => ?_)
            have fu34 : u19 = u34 := eu19.trans eu34.symm
            subst fu34
            refine ezm_l93 rfl (by omega) (by omega) (fun u35 eu35 => ?_)
            have fu35 : u33 = u35 := eu33.trans eu35.symm
            subst fu35
            exact ezw_keepE [true, true, true, true] (J62_22 u33 ku33)
          · refine ezw_iload_n rfl rfl ?_
            refine ezw_goto rfl rfl ?_
            exact ezw_keepE [true, true, true, true] (J62_22 c15 hc15)
    exact ezw_keepE [true, true, true, true] (L10_16 (0) ⟨by decide, by decide⟩ r93 r94 hT (by omega))
def ezm_m327_v1Q (e : Bool × Bool) (F : Nat → Nat → Int) (A : Nat → Int → Int) (i0 i2 i3 i7 i8 i13 i18 i19 i20 i25 i29 i30 i31 i36 i37 i38 : Int) (r73 r74 r75 r76 r77 r78 r79 r80 r81 r82 r83 r84 r85 r86 r87 r88 r89 r90 r91 r92 r93 r94 r95 : Int → Int) (a2 : Int) : Option ezq_V → (Nat → ezq_C) → Prop := fun v g' => ∃ (x36 : Int) (x93 x94 x95 : Int → Int), ezm_h e F A i0 i2 i3 i7 i8 i13 i18 i19 i20 i25 i29 i30 i31 x36 i37 i38 r73 r74 r75 r76 r77 r78 r79 r80 r81 r82 r83 r84 r85 r86 r87 r88 r89 r90 r91 r92 x93 x94 x95 = g' ∧ ezm_T i0 i2 i3 i7 i8 i13 i18 i19 i20 i25 i29 i30 i31 x36 i37 i38 r73 r74 r75 r76 r77 r78 r79 r80 r81 r82 r83 r84 r85 r86 r87 r88 r89 r90 r91 r92 x93 x94 x95 ∧ none = v
theorem ezm_m327_v1 {a2 : Int} (hT : ezm_T i0 i2 i3 i7 i8 i13 i18 i19 i20 i25 i29 i30 i31 i36 i37 i38 r73 r74 r75 r76 r77 r78 r79 r80 r81 r82 r83 r84 r85 r86 r87 r88 r89 r90 r91 r92 r93 r94 r95) (hd : 4 ≤ d) (ha2 : ezw_in a2) (gn : 1 ≤ r78 1) : ezw_C l ρ B xa Hb D cA 327 d [ezw_p 72, ezw_i (1), ezw_i a2] (ezm_h e F A i0 i2 i3 i7 i8 i13 i18 i19 i20 i25 i29 i30 i31 i36 i37 i38 r73 r74 r75 r76 r77 r78 r79 r80 r81 r82 r83 r84 r85 r86 r87 r88 r89 r90 r91 r92 r93 r94 r95) (ezm_m327_v1Q  e F A i0 i2 i3 i7 i8 i13 i18 i19 i20 i25 i29 i30 i31 i36 i37 i38 r73 r74 r75 r76 r77 r78 r79 r80 r81 r82 r83 r84 r85 r86 r87 r88 r89 r90 r91 r92 r93 r94 r95 a2) := by
  refine ezw_met (k := 1) rfl rfl ?_
  refine ezw_iload_n rfl rfl ?_
  refine ezw_aload_n rfl rfl ?_
  refine ezw_call0_0 rfl (by omega) (ezm_at rfl) rfl rfl rfl rfl (ezm_m216 hT (by omega)) ?_
  rintro _ _ ⟨rfl, u2, hu2, p1_0, p1_1, rfl⟩
  refine ezw_icmp_ne rfl rfl ⟨by decide, by decide⟩ hu2 (fun h5_2 => ?_) (fun h5_2 => ?_)
  · refine ezw_iconst (0) rfl rfl ?_
    refine ezw_istore_n rfl rfl ?_
    have L130_4 : ∀ c3 : Int, ezw_in c3 → ∀ x36_4 : Int, ∀ x93_4 : Int → Int, ∀ x94_4 : Int → Int, ∀ x95_4 : Int → Int, ezm_T i0 i2 i3 i7 i8 i13 i18 i19 i20 i25 i29 i30 i31 x36_4 i37 i38 r73 r74 r75 r76 r77 r78 r79 r80 r81 r82 r83 r84 r85 r86 r87 r88 r89 r90 r91 r92 x93_4 x94_4 x95_4 → ((0) ≤ c3) → ezw_E l ρ B xa Hb D cA d ezq_re327 (ezm_m327_v1Q  e F A i0 i2 i3 i7 i8 i13 i18 i19 i20 i25 i29 i30 i31 i36 i37 i38 r73 r74 r75 r76 r77 r78 r79 r80 r81 r82 r83 r84 r85 r86 r87 r88 r89 r90 r91 r92 r93 r94 r95 a2) 130 [some (ezw_p 72), some (ezw_i (1)), some (ezw_i a2), some (ezw_i c3)] [] (ezm_h e F A i0 i2 i3 i7 i8 i13 i18 i19 i20 i25 i29 i30 i31 x36_4 i37 i38 r73 r74 r75 r76 r77 r78 r79 r80 r81 r82 r83 r84 r85 r86 r87 r88 r89 r90 r91 r92 x93_4 x94_4 x95_4) := by
      refine ezs_up ?_
      intro c3 hc3 ihc3 x36_4 x93_4 x94_4 x95_4 hT g_4
      have k5 := hT.t36
      refine ezw_iload_n rfl rfl ?_
      refine ezw_aload_n rfl rfl ?_
      refine ezw_call0_0 rfl (by omega) (ezm_at rfl) rfl rfl rfl rfl (ezm_m216 hT (by omega)) ?_
      rintro _ _ ⟨rfl, u7, hu7, p6_0, p6_1, rfl⟩
      refine ezw_icmp_ge rfl rfl hc3 hu7 (fun h135_7 => ?_) (fun h135_7 => ?_)
      · exact ezw_return rfl rfl ⟨x36_4, x93_4, x94_4, x95_4, rfl, hT, rfl⟩
      · refine ezw_aload_n rfl rfl ?_
        refine ezw_iload_n rfl rfl ?_
        refine ezw_iload_n rfl rfl ?_
        refine ezw_call0_2 rfl (by omega) (ezm_at rfl) rfl rfl rfl rfl (ezm_m328 hT (by omega) hc3 ha2 (by omega)) ?_
        rintro _ _ ⟨rfl, u9, hu9, rfl⟩
        refine ezw_if_eq rfl rfl ⟨by omega, by omega⟩ (fun h144_9 => ?_) (fun h144_9 => ?_)
        · refine ezw_iinc (k := c3 + 1) (1) rfl rfl rfl (by omega) rfl ?_
          refine ezw_goto rfl rfl ?_
          exact ezw_keepE [true, true, true, true] (ihc3 (c3 + 1) (by omega) ⟨by omega, by omega⟩ x36_4 x93_4 x94_4 x95_4 hT (by omega))
        · refine ezw_aload_n rfl rfl ?_
          refine ezm_gp (p := 95) rfl (fun _ => rfl) ?_
          refine ezw_iload_n rfl rfl ?_
          refine ezw_iload_n rfl rfl ?_
          refine ezm_s95 hT rfl (by omega) (by omega) ⟨by omega, by omega⟩ (fun r95_10 hT er95_10 fr95_10 => ?_)
          refine ezw_aload_n rfl rfl ?_
          refine ezw_iload_n rfl rfl ?_
          refine ezw_iconst (1) rfl rfl ?_
          refine ezw_iadd (k := (2)) rfl (by omega) ?_
          refine ezw_iload_n rfl rfl ?_
          refine ezw_iconst (1) rfl rfl ?_
          refine ezw_iload_n rfl rfl ?_
          refine ezm_ishl1 rfl (by omega) (by omega) (fun u11 hu11 ku11 => ?_)
          refine ezs_ior rfl (fun u12 hu12 => ?_)
          refine ezw_call0_2 rfl (by omega) (ezm_at rfl) rfl rfl rfl rfl (ezm_m327_v2 hT (by omega) hu12 (by omega)) ?_
          rintro _ _ ⟨x36_13, x93_13, x94_13, x95_13, rfl, hT, rfl⟩
          have k14 := hT.t36
          refine ezw_iinc (k := c3 + 1) (1) rfl rfl rfl (by omega) rfl ?_
          refine ezw_goto rfl rfl ?_
          exact ezw_keepE [true, true, true, true] (ihc3 (c3 + 1) (by omega) ⟨by omega, by omega⟩ x36_13 x93_13 x94_13 x95_13 hT (by omega))
    exact ezw_keepE [true, true, true, true] (L130_4 (0) ⟨by decide, by decide⟩ i36 r93 r94 r95 hT (by omega))
  · refine ezw_iconst (0) rfl rfl ?_
    refine ezw_istore_n rfl rfl ?_
    have L10_16 : ∀ c15 : Int, ezw_in c15 → ∀ x93_16 : Int → Int, ∀ x94_16 : Int → Int, ezm_T i0 i2 i3 i7 i8 i13 i18 i19 i20 i25 i29 i30 i31 i36 i37 i38 r73 r74 r75 r76 r77 r78 r79 r80 r81 r82 r83 r84 r85 r86 r87 r88 r89 r90 r91 r92 x93_16 x94_16 r95 → ((0) ≤ c15) → ezw_E l ρ B xa Hb D cA d ezq_re327 (ezm_m327_v1Q  e F A i0 i2 i3 i7 i8 i13 i18 i19 i20 i25 i29 i30 i31 i36 i37 i38 r73 r74 r75 r76 r77 r78 r79 r80 r81 r82 r83 r84 r85 r86 r87 r88 r89 r90 r91 r92 r93 r94 r95 a2) 10 [some (ezw_p 72), some (ezw_i (1)), some (ezw_i a2), some (ezw_i c15)] [] (ezm_h e F A i0 i2 i3 i7 i8 i13 i18 i19 i20 i25 i29 i30 i31 i36 i37 i38 r73 r74 r75 r76 r77 r78 r79 r80 r81 r82 r83 r84 r85 r86 r87 r88 r89 r90 r91 r92 x93_16 x94_16 r95) := by
      refine ezs_up ?_
      intro c15 hc15 ihc15 x93_16 x94_16 hT g_16
      refine ezw_iload_n rfl rfl ?_
      refine ezw_iload_n rfl rfl ?_
      refine ezw_icmp_ge rfl rfl hc15 ⟨by decide, by decide⟩ (fun h12_16 => ?_) (fun h12_16 => ?_)
      · refine ezw_aload_n rfl rfl ?_
        refine ezw_dup rfl rfl ?_
        refine ezm_g36 rfl ?_
        have k17 := hT.t36
        refine ezw_iconst (1) rfl rfl ?_
        refine ezs_iadd rfl (fun u18 hu18 => ?_)
        refine ezm_p36 hT rfl hu18 (fun hT => ?_)
        exact ezw_return rfl rfl ⟨u18, x93_16, x94_16, r95, rfl, hT, rfl⟩
      · refine ezw_aload_n rfl rfl ?_
        refine ezm_gp (p := 93) rfl (fun _ => rfl) ?_
        refine ezw_aload_n rfl rfl ?_
        refine ezm_gp (p := 95) rfl (fun _ => rfl) ?_
        refine ezw_iload_n rfl rfl ?_
        refine ezm_l95 rfl (by omega) (by omega) (fun u19 eu19 => ?_)
        have ku19 : 0 ≤ u19 ∧ u19 ≤ 3 := eu19 ▸ hT.t95 c15
        refine ezw_aload_n rfl rfl ?_
        refine ezm_g36 rfl ?_
        have k20 := hT.t36
        have J62_22 : ∀ y21 : Int, ezw_in y21 → ezw_E l ρ B xa Hb D cA d ezq_re327 (ezm_m327_v1Q  e F A i0 i2 i3 i7 i8 i13 i18 i19 i20 i25 i29 i30 i31 i36 i37 i38 r73 r74 r75 r76 r77 r78 r79 r80 r81 r82 r83 r84 r85 r86 r87 r88 r89 r90 r91 r92 r93 r94 r95 a2) 62 [some (ezw_p 72), some (ezw_i (1)), some (ezw_i a2), some (ezw_i c15)] [ezw_i y21, ezw_i u19, ezw_p 93] (ezm_h e F A i0 i2 i3 i7 i8 i13 i18 i19 i20 i25 i29 i30 i31 i36 i37 i38 r73 r74 r75 r76 r77 r78 r79 r80 r81 r82 r83 r84 r85 r86 r87 r88 r89 r90 r91 r92 x93_16 x94_16 r95) := by
          intro y21 hy21
          refine ezm_s93 hT rfl (by omega) (by omega) hy21 (fun r93_23 hT er93_23 fr93_23 => ?_)
          refine ezw_aload_n rfl rfl ?_
          refine ezm_gp (p := 94) rfl (fun _ => rfl) ?_
          refine ezw_aload_n rfl rfl ?_
          refine ezm_gp (p := 95) rfl (fun _ => rfl) ?_
          refine ezw_iload_n rfl rfl ?_
          refine ezm_l95 rfl (by omega) (by omega) (fun u24 eu24 => ?_)
          have fu24 : u19 = u24 := eu19.trans eu24.symm
          subst fu24
          refine ezw_aload_n rfl rfl ?_
          refine ezm_g36 rfl ?_
          have J110_26 : ∀ y25 : Int, ezw_in y25 → ezw_E l ρ B xa Hb D cA d ezq_re327 (ezm_m327_v1Q  e F A i0 i2 i3 i7 i8 i13 i18 i19 i20 i25 i29 i30 i31 i36 i37 i38 r73 r74 r75 r76 r77 r78 r79 r80 r81 r82 r83 r84 r85 r86 r87 r88 r89 r90 r91 r92 r93 r94 r95 a2) 110 [some (ezw_p 72), some (ezw_i (1)), some (ezw_i a2), some (ezw_i c15)] [ezw_i y25, ezw_i u19, ezw_p 94] (ezm_h e F A i0 i2 i3 i7 i8 i13 i18 i19 i20 i25 i29 i30 i31 i36 i37 i38 r73 r74 r75 r76 r77 r78 r79 r80 r81 r82 r83 r84 r85 r86 r87 r88 r89 r90 r91 r92 r93_23 x94_16 r95) := by
            intro y25 hy25
            refine ezm_s94 hT rfl (by omega) (by omega) hy25 (fun r94_27 hT er94_27 fr94_27 => ?_)
            refine ezw_iinc (k := c15 + 1) (1) rfl rfl rfl (by omega) rfl ?_
            refine ezw_goto rfl rfl ?_
            exact ezw_keepE [true, true, true, true] (ihc15 (c15 + 1) (by omega) ⟨by omega, by omega⟩ r93_23 r94_27 hT (by omega))
          refine ezw_if_eq rfl rfl hT.t36 (fun h77_24 => ?_) (fun h77_24 => ?_)
          · refine ezw_iload_n rfl rfl ?_
            refine ezw_goto rfl rfl ?_
            exact ezw_keepE [true, true, true, true] (J110_26 c15 hc15)
          · refine ezw_iload_n rfl rfl ?_
            refine ezw_aload_n rfl rfl ?_
            refine ezm_gp (p := 94) rfl (fun _ => rfl) ?_
            refine ezw_aload_n rfl rfl ?_
            refine ezm_gp (p := 95) rfl (fun _ => rfl) ?_
            refine ezw_iload_n rfl rfl ?_
            refine ezm_l95 rfl (by omega) (by omega) (fun u28 eu28 => ?_)
            have fu28 : u19 = u28 := eu19.trans eu28.symm
            subst fu28
            refine ezm_l94 rfl (by omega) (by omega) (fun u29 eu29 => ?_)
            have ku29 : ezw_in u29 := eu29 ▸ hT.t94 u19
            refine ezw_icmp_le rfl rfl hc15 ku29 (fun h92_29 => ?_) (fun h92_29 => ?_)
            · refine ezw_aload_n rfl rfl ?_
              refine ezm_gp (p := 94) rfl (fun _ => rfl) ?_
              refine ezw_aload_n rfl rfl ?_
              refine ezm_gp (p := 95) rfl (fun _ => rfl) ?_
              refine ezw_iload_n rfl rfl ?_
              refine ezm_l95 rfl (by omega) (by omega) (fun u30 eu30 => ?_)
              have fu30 : u19 = u30 := eu19.trans eu30.symm
              subst fu30
              refine ezm_l94 rfl (by omega) (by omega) (fun u31 eu31 => ?_)
              have fu31 : u29 = u31 := eu29.trans eu31.symm
              subst fu31
              exact ezw_keepE [true, true, true, true] (J110_26 u29 ku29)
            · refine ezw_iload_n rfl rfl ?_
              refine ezw_goto rfl rfl ?_
              exact ezw_keepE [true, true, true, true] (J110_26 c15 hc15)
        refine ezw_if_eq rfl rfl hT.t36 (fun h29_20 => ?_) (fun h29_20 => ?_)
        · refine ezw_iload_n rfl rfl ?_
          refine ezw_goto rfl rfl ?_
          exact ezw_keepE [true, true, true, true] (J62_22 c15 hc15)
        · refine ezw_iload_n rfl rfl ?_
          refine ezw_aload_n rfl rfl ?_
          refine ezm_gp (p := 93) rfl (fun _ => rfl) ?_
          refine ezw_aload_n rfl rfl ?_
          refine ezm_gp (p := 95) rfl (fun _ => rfl) ?_
          refine ezw_iload_n rfl rfl ?_
          refine ezm_l95 rfl (by omega) (by omega) (fun u32 eu32 => ?_)
          have fu32 : u19 = u32 := eu19.trans eu32.symm
          subst fu32
          refine ezm_l93 rfl (by omega) (by omega) (fun u33 eu33 => ?_)
          have ku33 : ezw_in u33 := eu33 ▸ hT.t93 u19
          refine ezw_icmp_ge rfl rfl hc15 ku33 (fun h44_33 => ?_) (fun h44_33 => ?_)
          · refine ezw_aload_n rfl rfl ?_
            refine ezm_gp (p := 93) rfl (fun _ => rfl) ?_
            refine ezw_aload_n rfl rfl ?_
            refine ezm_gp (p := 95) rfl (fun _ => rfl) ?_
            refine ezw_iload_n rfl rfl ?_
            refine ezm_l95 rfl (by omega) (by omega) (fun u34 eu34 => ?_)
            have fu34 : u19 = u34 := eu19.trans eu34.symm
            subst fu34
            refine ezm_l93 rfl (by omega) (by omega) (fun u35 eu35 => ?_)
            have fu35 : u33 = u35 := eu33.trans eu35.symm
            subst fu35
            exact ezw_keepE [true, true, true, true] (J62_22 u33 ku33)
          · refine ezw_iload_n rfl rfl ?_
            refine ezw_goto rfl rfl ?_
            exact ezw_keepE [true, true, true, true] (J62_22 c15 hc15)
    exact ezw_keepE [true, true, true, true] (L10_16 (0) ⟨by decide, by decide⟩ r93 r94 hT (by omega))
def ezm_m327_v0Q (e : Bool × Bool) (F : Nat → Nat → Int) (A : Nat → Int → Int) (i0 i2 i3 i7 i8 i13 i18 i19 i20 i25 i29 i30 i31 i36 i37 i38 : Int) (r73 r74 r75 r76 r77 r78 r79 r80 r81 r82 r83 r84 r85 r86 r87 r88 r89 r90 r91 r92 r93 r94 r95 : Int → Int) (a2 : Int) : Option ezq_V → (Nat → ezq_C) → Prop := fun v g' => ∃ (x36 : Int) (x93 x94 x95 : Int → Int), ezm_h e F A i0 i2 i3 i7 i8 i13 i18 i19 i20 i25 i29 i30 i31 x36 i37 i38 r73 r74 r75 r76 r77 r78 r79 r80 r81 r82 r83 r84 r85 r86 r87 r88 r89 r90 r91 r92 x93 x94 x95 = g' ∧ ezm_T i0 i2 i3 i7 i8 i13 i18 i19 i20 i25 i29 i30 i31 x36 i37 i38 r73 r74 r75 r76 r77 r78 r79 r80 r81 r82 r83 r84 r85 r86 r87 r88 r89 r90 r91 r92 x93 x94 x95 ∧ none = v
theorem ezm_m327_v0 {a2 : Int} (hT : ezm_T i0 i2 i3 i7 i8 i13 i18 i19 i20 i25 i29 i30 i31 i36 i37 i38 r73 r74 r75 r76 r77 r78 r79 r80 r81 r82 r83 r84 r85 r86 r87 r88 r89 r90 r91 r92 r93 r94 r95) (hd : 5 ≤ d) (ha2 : ezw_in a2) (gn : 0 ≤ r78 1) : ezw_C l ρ B xa Hb D cA 327 d [ezw_p 72, ezw_i (0), ezw_i a2] (ezm_h e F A i0 i2 i3 i7 i8 i13 i18 i19 i20 i25 i29 i30 i31 i36 i37 i38 r73 r74 r75 r76 r77 r78 r79 r80 r81 r82 r83 r84 r85 r86 r87 r88 r89 r90 r91 r92 r93 r94 r95) (ezm_m327_v0Q  e F A i0 i2 i3 i7 i8 i13 i18 i19 i20 i25 i29 i30 i31 i36 i37 i38 r73 r74 r75 r76 r77 r78 r79 r80 r81 r82 r83 r84 r85 r86 r87 r88 r89 r90 r91 r92 r93 r94 r95 a2) := by
  refine ezw_met (k := 1) rfl rfl ?_
  refine ezw_iload_n rfl rfl ?_
  refine ezw_aload_n rfl rfl ?_
  refine ezw_call0_0 rfl (by omega) (ezm_at rfl) rfl rfl rfl rfl (ezm_m216 hT (by omega)) ?_
  rintro _ _ ⟨rfl, u2, hu2, p1_0, p1_1, rfl⟩
  refine ezw_icmp_ne rfl rfl ⟨by decide, by decide⟩ hu2 (fun h5_2 => ?_) (fun h5_2 => ?_)
  · refine ezw_iconst (0) rfl rfl ?_
    refine ezw_istore_n rfl rfl ?_
    have L130_4 : ∀ c3 : Int, ezw_in c3 → ∀ x36_4 : Int, ∀ x93_4 : Int → Int, ∀ x94_4 : Int → Int, ∀ x95_4 : Int → Int, ezm_T i0 i2 i3 i7 i8 i13 i18 i19 i20 i25 i29 i30 i31 x36_4 i37 i38 r73 r74 r75 r76 r77 r78 r79 r80 r81 r82 r83 r84 r85 r86 r87 r88 r89 r90 r91 r92 x93_4 x94_4 x95_4 → ((0) ≤ c3) → ezw_E l ρ B xa Hb D cA d ezq_re327 (ezm_m327_v0Q  e F A i0 i2 i3 i7 i8 i13 i18 i19 i20 i25 i29 i30 i31 i36 i37 i38 r73 r74 r75 r76 r77 r78 r79 r80 r81 r82 r83 r84 r85 r86 r87 r88 r89 r90 r91 r92 r93 r94 r95 a2) 130 [some (ezw_p 72), some (ezw_i (0)), some (ezw_i a2), some (ezw_i c3)] [] (ezm_h e F A i0 i2 i3 i7 i8 i13 i18 i19 i20 i25 i29 i30 i31 x36_4 i37 i38 r73 r74 r75 r76 r77 r78 r79 r80 r81 r82 r83 r84 r85 r86 r87 r88 r89 r90 r91 r92 x93_4 x94_4 x95_4) := by
      refine ezs_up ?_
      intro c3 hc3 ihc3 x36_4 x93_4 x94_4 x95_4 hT g_4
      have k5 := hT.t36
      refine ezw_iload_n rfl rfl ?_
      refine ezw_aload_n rfl rfl ?_
      refine ezw_call0_0 rfl (by omega) (ezm_at rfl) rfl rfl rfl rfl (ezm_m216 hT (by omega)) ?_
      rintro _ _ ⟨rfl, u7, hu7, p6_0, p6_1, rfl⟩
      refine ezw_icmp_ge rfl rfl hc3 hu7 (fun h135_7 => ?_) (fun h135_7 => ?_)
      · exact ezw_return rfl rfl ⟨x36_4, x93_4, x94_4, x95_4, rfl, hT, rfl⟩
      · refine ezw_aload_n rfl rfl ?_
        refine ezw_iload_n rfl rfl ?_
        refine ezw_iload_n rfl rfl ?_
        refine ezw_call0_2 rfl (by omega) (ezm_at rfl) rfl rfl rfl rfl (ezm_m328 hT (by omega) hc3 ha2 (by omega)) ?_
        rintro _ _ ⟨rfl, u9, hu9, rfl⟩
        refine ezw_if_eq rfl rfl ⟨by omega, by omega⟩ (fun h144_9 => ?_) (fun h144_9 => ?_)
        · refine ezw_iinc (k := c3 + 1) (1) rfl rfl rfl (by omega) rfl ?_
          refine ezw_goto rfl rfl ?_
          exact ezw_keepE [true, true, true, true] (ihc3 (c3 + 1) (by omega) ⟨by omega, by omega⟩ x36_4 x93_4 x94_4 x95_4 hT (by omega))
        · refine ezw_aload_n rfl rfl ?_
          refine ezm_gp (p := 95) rfl (fun _ => rfl) ?_
          refine ezw_iload_n rfl rfl ?_
          refine ezw_iload_n rfl rfl ?_
          refine ezm_s95 hT rfl (by omega) (by omega) ⟨by omega, by omega⟩ (fun r95_10 hT er95_10 fr95_10 => ?_)
          refine ezw_aload_n rfl rfl ?_
          refine ezw_iload_n rfl rfl ?_
          refine ezw_iconst (1) rfl rfl ?_
          refine ezw_iadd (k := (1)) rfl (by omega) ?_
          refine ezw_iload_n rfl rfl ?_
          refine ezw_iconst (1) rfl rfl ?_
          refine ezw_iload_n rfl rfl ?_
          refine ezm_ishl1 rfl (by omega) (by omega) (fun u11 hu11 ku11 => ?_)
          refine ezs_ior rfl (fun u12 hu12 => ?_)
          refine ezw_call0_2 rfl (by omega) (ezm_at rfl) rfl rfl rfl rfl (ezm_m327_v1 hT (by omega) hu12 (by omega)) ?_
          rintro _ _ ⟨x36_13, x93_13, x94_13, x95_13, rfl, hT, rfl⟩
          have k14 := hT.t36
          refine ezw_iinc (k := c3 + 1) (1) rfl rfl rfl (by omega) rfl ?_
          refine ezw_goto rfl rfl ?_
          exact ezw_keepE [true, true, true, true] (ihc3 (c3 + 1) (by omega) ⟨by omega, by omega⟩ x36_13 x93_13 x94_13 x95_13 hT (by omega))
    exact ezw_keepE [true, true, true, true] (L130_4 (0) ⟨by decide, by decide⟩ i36 r93 r94 r95 hT (by omega))
  · refine ezw_iconst (0) rfl rfl ?_
    refine ezw_istore_n rfl rfl ?_
    have L10_16 : ∀ c15 : Int, ezw_in c15 → ∀ x93_16 : Int → Int, ∀ x94_16 : Int → Int, ezm_T i0 i2 i3 i7 i8 i13 i18 i19 i20 i25 i29 i30 i31 i36 i37 i38 r73 r74 r75 r76 r77 r78 r79 r80 r81 r82 r83 r84 r85 r86 r87 r88 r89 r90 r91 r92 x93_16 x94_16 r95 → ((0) ≤ c15) → ezw_E l ρ B xa Hb D cA d ezq_re327 (ezm_m327_v0Q  e F A i0 i2 i3 i7 i8 i13 i18 i19 i20 i25 i29 i30 i31 i36 i37 i38 r73 r74 r75 r76 r77 r78 r79 r80 r81 r82 r83 r84 r85 r86 r87 r88 r89 r90 r91 r92 r93 r94 r95 a2) 10 [some (ezw_p 72), some (ezw_i (0)), some (ezw_i a2), some (ezw_i c15)] [] (ezm_h e F A i0 i2 i3 i7 i8 i13 i18 i19 i20 i25 i29 i30 i31 i36 i37 i38 r73 r74 r75 r76 r77 r78 r79 r80 r81 r82 r83 r84 r85 r86 r87 r88 r89 r90 r91 r92 x93_16 x94_16 r95) := by
      refine ezs_up ?_
      intro c15 hc15 ihc15 x93_16 x94_16 hT g_16
      refine ezw_iload_n rfl rfl ?_
      refine ezw_iload_n rfl rfl ?_
      refine ezw_icmp_ge rfl rfl hc15 ⟨by decide, by decide⟩ (fun h12_16 => ?_) (fun h12_16 => ?_)
      · refine ezw_aload_n rfl rfl ?_
        refine ezw_dup rfl rfl ?_
        refine ezm_g36 rfl ?_
        have k17 := hT.t36
        refine ezw_iconst (1) rfl rfl ?_
        refine ezs_iadd rfl (fun u18 hu18 => ?_)
        refine ezm_p36 hT rfl hu18 (fun hT => ?_)
        exact ezw_return rfl rfl ⟨u18, x93_16, x94_16, r95, rfl, hT, rfl⟩
      · refine ezw_aload_n rfl rfl ?_
        refine ezm_gp (p := 93) rfl (fun _ => rfl) ?_
        refine ezw_aload_n rfl rfl ?_
        refine ezm_gp (p := 95) rfl (fun _ => rfl) ?_
        refine ezw_iload_n rfl rfl ?_
        refine ezm_l95 rfl (by omega) (by omega) (fun u19 eu19 => ?_)
        have ku19 : 0 ≤ u19 ∧ u19 ≤ 3 := eu19 ▸ hT.t95 c15
        refine ezw_aload_n rfl rfl ?_
        refine ezm_g36 rfl ?_
        have k20 := hT.t36
        have J62_22 : ∀ y21 : Int, ezw_in y21 → ezw_E l ρ B xa Hb D cA d ezq_re327 (ezm_m327_v0Q  e F A i0 i2 i3 i7 i8 i13 i18 i19 i20 i25 i29 i30 i31 i36 i37 i38 r73 r74 r75 r76 r77 r78 r79 r80 r81 r82 r83 r84 r85 r86 r87 r88 r89 r90 r91 r92 r93 r94 r95 a2) 62 [some (ezw_p 72), some (ezw_i (0)), some (ezw_i a2), some (ezw_i c15)] [ezw_i y21, ezw_i u19, ezw_p 93] (ezm_h e F A i0 i2 i3 i7 i8 i13 i18 i19 i20 i25 i29 i30 i31 i36 i37 i38 r73 r74 r75 r76 r77 r78 r79 r80 r81 r82 r83 r84 r85 r86 r87 r88 r89 r90 r91 r92 x93_16 x94_16 r95) := by
          intro y21 hy21
          refine ezm_s93 hT rfl (by omega) (by omega) hy21 (fun r93_23 hT er93_23 fr93_23 => ?_)
          refine ezw_aload_n rfl rfl ?_
          refine ezm_gp (p := 94) rfl (fun _ => rfl) ?_
          refine ezw_aload_n rfl rfl ?_
          refine ezm_gp (p := 95) rfl (fun _ => rfl) ?_
          refine ezw_iload_n rfl rfl ?_
          refine ezm_l95 rfl (by omega) (by omega) (fun u24 eu24 => ?_)
          have fu24 : u19 = u24 := eu19.trans eu24.symm
          subst fu24
          refine ezw_aload_n rfl rfl ?_
          refine ezm_g36 rfl ?_
          have J110_26 : ∀ y25 : Int, ezw_in y25 → ezw_E l ρ B xa Hb D cA d ezq_re327 (ezm_m327_v0Q  e F A i0 i2 i3 i7 i8 i13 i18 i19 i20 i25 i29 i30 i31 i36 i37 i38 r73 r74 r75 r76 r77 r78 r79 r80 r81 r82 r83 r84 r85 r86 r87 r88 r89 r90 r91 r92 r93 r94 r95 a2) 110 [some (ezw_p 72), some (ezw_i (0)), some (ezw_i a2), some (ezw_i c15)] [ezw_i y25, ezw_i u19, ezw_p 94] (ezm_h e F A i0 i2 i3 i7 i8 i13 i18 i19 i20 i25 i29 i30 i31 i36 i37 i38 r73 r74 r75 r76 r77 r78 r79 r80 r81 r82 r83 r84 r85 r86 r87 r88 r89 r90 r91 r92 r93_23 x94_16 r95) := by
            intro y25 hy25
            refine ezm_s94 hT rfl (by omega) (by omega) hy25 (fun r94_27 hT er94_27 fr94_27 => ?_)
            refine ezw_iinc (k := c15 + 1) (1) rfl rfl rfl (by omega) rfl ?_
            refine ezw_goto rfl rfl ?_
            exact ezw_keepE [true, true, true, true] (ihc15 (c15 + 1) (by omega) ⟨by omega, by omega⟩ r93_23 r94_27 hT (by omega))
          refine ezw_if_eq rfl rfl hT.t36 (fun h77_24 => ?_) (fun h77_24 => ?_)
          · refine ezw_iload_n rfl rfl ?_
            refine ezw_goto rfl rfl ?_
            exact ezw_keepE [true, true, true, true] (J110_26 c15 hc15)
          · refine ezw_iload_n rfl rfl ?_
            refine ezw_aload_n rfl rfl ?_
            refine ezm_gp (p := 94) rfl (fun _ => rfl) ?_
            refine ezw_aload_n rfl rfl ?_
            refine ezm_gp (p := 95) rfl (fun _ => rfl) ?_
            refine ezw_iload_n rfl rfl ?_
            refine ezm_l95 rfl (by omega) (by omega) (fun u28 eu28 => ?_)
            have fu28 : u19 = u28 := eu19.trans eu28.symm
            subst fu28
            refine ezm_l94 rfl (by omega) (by omega) (fun u29 eu29 => ?_)
            have ku29 : ezw_in u29 := eu29 ▸ hT.t94 u19
            refine ezw_icmp_le rfl rfl hc15 ku29 (fun h92_29 => ?_) (fun h92_29 => ?_)
            · refine ezw_aload_n rfl rfl ?_
              refine ezm_gp (p := 94) rfl (fun _ => rfl) ?_
              refine ezw_aload_n rfl rfl ?_
              refine ezm_gp (p := 95) rfl (fun _ => rfl) ?_
              refine ezw_iload_n rfl rfl ?_
              refine ezm_l95 rfl (by omega) (by omega) (fun u30 eu30 => ?_)
              have fu30 : u19 = u30 := eu19.trans eu30.symm
              subst fu30
              refine ezm_l94 rfl (by omega) (by omega) (fun u31 eu31 => ?_)
              have fu31 : u29 = u31 := eu29.trans eu31.symm
              subst fu31
              exact ezw_keepE [true, true, true, true] (J110_26 u29 ku29)
            · refine ezw_iload_n rfl rfl ?_
              refine ezw_goto rfl rfl ?_
              exact ezw_keepE [true, true, true, true] (J110_26 c15 hc15)
        refine ezw_if_eq rfl rfl hT.t36 (fun h29_20 => ?_) (fun h29_20 => ?_)
        · refine ezw_iload_n rfl rfl ?_
          refine ezw_goto rfl rfl ?_
          exact ezw_keepE [true, true, true, true] (J62_22 c15 hc15)
        · refine ezw_iload_n rfl rfl ?_
          refine ezw_aload_n rfl rfl ?_
          refine ezm_gp (p := 93) rfl (fun _ => rfl) ?_
          refine ezw_aload_n rfl rfl ?_
          refine ezm_gp (p := 95) rfl (fun _ => rfl) ?_
          refine ezw_iload_n rfl rfl ?_
          refine ezm_l95 rfl (by omega) (by omega) (fun u32 eu32 => ?_)
          have fu32 : u19 = u32 := eu19.trans eu32.symm
          subst fu32
          refine ezm_l93 rfl (by omega) (by omega) (fun u33 eu33 => ?_)
          have ku33 : ezw_in u33 := eu33 ▸ hT.t93 u19
          refine ezw_icmp_ge rfl rfl hc15 ku33 (fun h44_33 => ?_) (fun h44_33 => ?_)
          · refine ezw_aload_n rfl rfl ?_
            refine ezm_gp (p := 93) rfl (fun _ => rfl) ?_
            refine ezw_aload_n rfl rfl ?_
            refine ezm_gp (p := 95) rfl (fun _ => rfl) ?_
            refine ezw_iload_n rfl rfl ?_
            refine ezm_l95 rfl (by omega) (by omega) (fun u34 eu34 => ?_)
            have fu34 : u19 = u34 := eu19.trans eu34.symm
            subst fu34
            refine ezm_l93 rfl (by omega) (by omega) (fun u35 eu35 => ?_)
            have fu35 : u33 = u35 := eu33.trans eu35.symm
            subst fu35
            exact ezw_keepE [true, true, true, true] (J62_22 u33 ku33)
          · refine ezw_iload_n rfl rfl ?_
            refine ezw_goto rfl rfl ?_
            exact ezw_keepE [true, true, true, true] (J62_22 c15 hc15)
    exact ezw_keepE [true, true, true, true] (L10_16 (0) ⟨by decide, by decide⟩ r93 r94 hT (by omega))
def ezm_m326Q (e : Bool × Bool) (F : Nat → Nat → Int) (A : Nat → Int → Int) (i0 i2 i3 i7 i8 i13 i18 i19 i20 i25 i29 i30 i31 i36 i37 i38 : Int) (r73 r74 r75 r76 r77 r78 r79 r80 r81 r82 r83 r84 r85 r86 r87 r88 r89 r90 r91 r92 r93 r94 r95 : Int → Int) (a1 : Int) (a2 : Int) : Option ezq_V → (Nat → ezq_C) → Prop := fun v g' => ∃ (x0 x36 : Int) (x93 x94 x95 : Int → Int), ezm_h e F A x0 i2 i3 i7 i8 i13 i18 i19 i20 i25 i29 i30 i31 x36 i37 i38 r73 r74 r75 r76 r77 r78 r79 r80 r81 r82 r83 r84 r85 r86 r87 r88 r89 r90 r91 r92 x93 x94 x95 = g' ∧ ezm_T x0 i2 i3 i7 i8 i13 i18 i19 i20 i25 i29 i30 i31 x36 i37 i38 r73 r74 r75 r76 r77 r78 r79 r80 r81 r82 r83 r84 r85 r86 r87 r88 r89 r90 r91 r92 x93 x94 x95 ∧ ∃ u : Int, (ezw_in u) ∧ some (ezw_i u) = v
theorem ezm_m326 {a1 a2 : Int} (hT : ezm_T i0 i2 i3 i7 i8 i13 i18 i19 i20 i25 i29 i30 i31 i36 i37 i38 r73 r74 r75 r76 r77 r78 r79 r80 r81 r82 r83 r84 r85 r86 r87 r88 r89 r90 r91 r92 r93 r94 r95) (hd : 6 ≤ d) (ha1 : ezw_in a1) (ha2 : ezw_in a2) : ezw_C l ρ B xa Hb D cA 326 d [ezw_p 72, ezw_i a1, ezw_i a2] (ezm_h e F A i0 i2 i3 i7 i8 i13 i18 i19 i20 i25 i29 i30 i31 i36 i37 i38 r73 r74 r75 r76 r77 r78 r79 r80 r81 r82 r83 r84 r85 r86 r87 r88 r89 r90 r91 r92 r93 r94 r95) (ezm_m326Q  e F A i0 i2 i3 i7 i8 i13 i18 i19 i20 i25 i29 i30 i31 i36 i37 i38 r73 r74 r75 r76 r77 r78 r79 r80 r81 r82 r83 r84 r85 r86 r87 r88 r89 r90 r91 r92 r93 r94 r95 a1 a2) := by
  refine ezw_met (k := 0) rfl rfl ?_
  refine ezw_aload_n rfl rfl ?_
  refine ezw_iconst (0) rfl rfl ?_
  refine ezm_p0 hT rfl ⟨by decide, by decide⟩ (fun hT => ?_)
  refine ezw_aload_n rfl rfl ?_
  refine ezw_iconst (0) rfl rfl ?_
  refine ezm_p36 hT rfl ⟨by decide, by decide⟩ (fun hT => ?_)
  have b1 := ezm_za1 (hT.t78 1) (by decide)
  refine ezw_aload_n rfl rfl ?_
  refine ezw_iconst (0) rfl rfl ?_
  refine ezw_iconst (0) rfl rfl ?_
  refine ezw_call0_2 rfl (by omega) (ezm_at rfl) rfl rfl rfl rfl (ezm_m327_v0 hT (by omega) ⟨by decide, by decide⟩ (by omega)) ?_
  rintro _ _ ⟨x36_1, x93_1, x94_1, x95_1, rfl, hT, rfl⟩
  have k2 := hT.t36
  refine ezw_iload_n rfl rfl ?_
  refine ezw_iconst (-1) rfl rfl ?_
  refine ezw_icmp_ne rfl rfl ha1 ⟨by decide, by decide⟩ (fun h18_2 => ?_) (fun h18_2 => ?_)
  · refine ezw_aload_n rfl rfl ?_
    refine ezw_iload_n rfl rfl ?_
    refine ezw_call0_1 rfl (by omega) (ezm_at rfl) rfl rfl rfl rfl (ezm_m262 hT (by omega) ha1) ?_
    rintro _ _ ⟨rfl, u4, hu4, p3_0, rfl⟩
    refine ezw_if_eq rfl rfl ⟨by omega, by omega⟩ (fun h31_4 => ?_) (fun h31_4 => ?_)
    · refine ezw_bipush (-2) rfl rfl ?_
      refine ezw_goto rfl rfl ?_
      exact ezw_ireturn rfl rfl ⟨(0), x36_1, x93_1, x94_1, x95_1, rfl, hT, (-2), ⟨by decide, by decide⟩, rfl⟩
    · refine ezw_iload_n rfl rfl ?_
      refine ezw_iconst (0) rfl rfl ?_
      refine ezw_iconst (1) rfl rfl ?_
      refine ezw_call2_3 rfl (by omega) rfl rfl (ezm_m236 hT (by omega) ha2 ⟨by decide, by decide⟩ ⟨by decide, by decide⟩) ?_
      rintro _ _ ⟨rfl, u6, hu6, p5_0, p5_1, rfl⟩
      refine ezw_if_eq rfl rfl ⟨by omega, by omega⟩ (fun h40_6 => ?_) (fun h40_6 => ?_)
      · refine ezw_bipush (-2) rfl rfl ?_
        refine ezw_goto rfl rfl ?_
        exact ezw_ireturn rfl rfl ⟨(0), x36_1, x93_1, x94_1, x95_1, rfl, hT, (-2), ⟨by decide, by decide⟩, rfl⟩
      · refine ezw_aload_n rfl rfl ?_
        refine ezm_g36 rfl ?_
        refine ezw_if_ne rfl rfl hT.t36 (fun h47_6 => ?_) (fun h47_6 => ?_)
        · refine ezw_iload_n rfl rfl ?_
          refine ezw_if_ne rfl rfl ha2 (fun h56_6 => ?_) (fun h56_6 => ?_)
          · refine ezw_aload_n rfl rfl ?_
            refine ezm_gp (p := 94) rfl (fun _ => rfl) ?_
            refine ezw_iload_n rfl rfl ?_
            refine ezm_l94 rfl (by omega) (by omega) (fun u7 eu7 => ?_)
            have ku7 : ezw_in u7 := eu7 ▸ hT.t94 a1
            exact ezw_ireturn rfl rfl ⟨(0), x36_1, x93_1, x94_1, x95_1, rfl, hT, u7, ku7, rfl⟩
          · refine ezw_aload_n rfl rfl ?_
            refine ezm_gp (p := 93) rfl (fun _ => rfl) ?_
            refine ezw_iload_n rfl rfl ?_
            refine ezm_l93 rfl (by omega) (by omega) (fun u8 eu8 => ?_)
            have ku8 : ezw_in u8 := eu8 ▸ hT.t93 a1
            refine ezw_goto rfl rfl ?_
            exact ezw_ireturn rfl rfl ⟨(0), x36_1, x93_1, x94_1, x95_1, rfl, hT, u8, ku8, rfl⟩
        · refine ezw_bipush (-2) rfl rfl ?_
          refine ezw_goto rfl rfl ?_
          exact ezw_ireturn rfl rfl ⟨(0), x36_1, x93_1, x94_1, x95_1, rfl, hT, (-2), ⟨by decide, by decide⟩, rfl⟩
  · refine ezw_aload_n rfl rfl ?_
    refine ezm_g36 rfl ?_
    exact ezw_ireturn rfl rfl ⟨(0), x36_1, x93_1, x94_1, x95_1, rfl, hT, x36_1, hT.t36, rfl⟩
def ezm_m332Q (e : Bool × Bool) (F : Nat → Nat → Int) (A : Nat → Int → Int) (i0 i2 i3 i7 i8 i13 i18 i19 i20 i25 i29 i30 i31 i36 i37 i38 : Int) (r73 r74 r75 r76 r77 r78 r79 r80 r81 r82 r83 r84 r85 r86 r87 r88 r89 r90 r91 r92 r93 r94 r95 : Int → Int) (a1 : Int) : Option ezq_V → (Nat → ezq_C) → Prop := fun v g' => ∃ (x37 : Int), ezm_h e F A i0 i2 i3 i7 i8 i13 i18 i19 i20 i25 i29 i30 i31 i36 x37 i38 r73 r74 r75 r76 r77 r78 r79 r80 r81 r82 r83 r84 r85 r86 r87 r88 r89 r90 r91 r92 r93 r94 r95 = g' ∧ ezm_T i0 i2 i3 i7 i8 i13 i18 i19 i20 i25 i29 i30 i31 i36 x37 i38 r73 r74 r75 r76 r77 r78 r79 r80 r81 r82 r83 r84 r85 r86 r87 r88 r89 r90 r91 r92 r93 r94 r95 ∧ ∃ u : Int, (ezw_in u) ∧ some (ezw_i u) = v
theorem ezm_m332 {a1 : Int} (hT : ezm_T i0 i2 i3 i7 i8 i13 i18 i19 i20 i25 i29 i30 i31 i36 i37 i38 r73 r74 r75 r76 r77 r78 r79 r80 r81 r82 r83 r84 r85 r86 r87 r88 r89 r90 r91 r92 r93 r94 r95) (hd : 0 ≤ d) (ha1 : ezw_in a1) (ga : 0 < a1) : ezw_C l ρ B xa Hb D cA 332 d [ezw_p 72, ezw_i a1] (ezm_h e F A i0 i2 i3 i7 i8 i13 i18 i19 i20 i25 i29 i30 i31 i36 i37 i38 r73 r74 r75 r76 r77 r78 r79 r80 r81 r82 r83 r84 r85 r86 r87 r88 r89 r90 r91 r92 r93 r94 r95) (ezm_m332Q  e F A i0 i2 i3 i7 i8 i13 i18 i19 i20 i25 i29 i30 i31 i36 i37 i38 r73 r74 r75 r76 r77 r78 r79 r80 r81 r82 r83 r84 r85 r86 r87 r88 r89 r90 r91 r92 r93 r94 r95 a1) := by
  refine ezw_met (k := 0) rfl rfl ?_
  refine ezw_aload_n rfl rfl ?_
  refine ezw_aload_n rfl rfl ?_
  refine ezm_g37 rfl ?_
  refine ezw_ldc2_w (1103515245) rfl rfl ?_
  refine ezs_lmul rfl (fun u1 hu1 => ?_)
  refine ezw_ldc2_w (12345) rfl rfl ?_
  refine ezs_ladd rfl (fun u2 hu2 => ?_)
  refine ezw_ldc2_w (2147483648) rfl rfl ?_
  refine ezs_lrem rfl hu2 ⟨by decide, by decide⟩ (by omega) (fun u3 hu3 => ?_)
  refine ezm_p37 hT rfl hu3 (fun hT => ?_)
  refine ezw_aload_n rfl rfl ?_
  refine ezm_g37 rfl ?_
  refine ezw_ldc2_w (65536) rfl rfl ?_
  refine ezs_ldiv rfl hT.t37 ⟨by decide, by decide⟩ (by omega) (fun u4 hu4 => ?_)
  refine ezw_iload_n rfl rfl ?_
  refine ezw_i2l rfl ha1 rfl ?_
  refine ezs_lrem rfl hu4 (ezw_in_il ha1) (by omega) (fun u5 hu5 => ?_)
  refine ezs_l2i rfl (fun u6 hu6 => ?_)
  exact ezw_ireturn rfl rfl ⟨u3, rfl, hT, u6, hu6, rfl⟩
def ezm_m267_v1100_v0Q (e : Bool × Bool) (F : Nat → Nat → Int) (A : Nat → Int → Int) (i0 i2 i3 i7 i8 i13 i18 i19 i20 i25 i29 i30 i31 i36 i37 i38 : Int) (r73 r74 r75 r76 r77 r78 r79 r80 r81 r82 r83 r84 r85 r86 r87 r88 r89 r90 r91 r92 r93 r94 r95 : Int → Int) (a3 : Int) (a4 : Int) : Option ezq_V → (Nat → ezq_C) → Prop := fun v g' => ∃  (x86 x87 : Int → Int), ezm_h e F A i0 i2 i3 i7 i8 i13 i18 i19 i20 i25 i29 i30 i31 i36 i37 i38 r73 r74 r75 r76 r77 r78 r79 r80 r81 r82 r83 r84 r85 x86 x87 r88 r89 r90 r91 r92 r93 r94 r95 = g' ∧ ezm_T i0 i2 i3 i7 i8 i13 i18 i19 i20 i25 i29 i30 i31 i36 i37 i38 r73 r74 r75 r76 r77 r78 r79 r80 r81 r82 r83 r84 r85 x86 x87 r88 r89 r90 r91 r92 r93 r94 r95 ∧ ∃ u : Int, (ezw_in u) ∧ (0 ≤ u ∧ u ≤ 10) ∧ some (ezw_i u) = v
theorem ezm_m267_v1100_v0 {a3 a4 : Int} (hT : ezm_T i0 i2 i3 i7 i8 i13 i18 i19 i20 i25 i29 i30 i31 i36 i37 i38 r73 r74 r75 r76 r77 r78 r79 r80 r81 r82 r83 r84 r85 r86 r87 r88 r89 r90 r91 r92 r93 r94 r95) (hd : 3 ≤ d) (ha3 : ezw_in a3) (ha4 : ezw_in a4) (tr : ezm_TR r78 r79 r80) : ezw_C l ρ B xa Hb D cA 267 d [ezw_p 72, ezw_i (1100), ezw_i (0), ezw_i a3, ezw_i a4] (ezm_h e F A i0 i2 i3 i7 i8 i13 i18 i19 i20 i25 i29 i30 i31 i36 i37 i38 r73 r74 r75 r76 r77 r78 r79 r80 r81 r82 r83 r84 r85 r86 r87 r88 r89 r90 r91 r92 r93 r94 r95) (ezm_m267_v1100_v0Q  e F A i0 i2 i3 i7 i8 i13 i18 i19 i20 i25 i29 i30 i31 i36 i37 i38 r73 r74 r75 r76 r77 r78 r79 r80 r81 r82 r83 r84 r85 r86 r87 r88 r89 r90 r91 r92 r93 r94 r95 a3 a4) := by
  refine ezw_met (k := 0) rfl rfl ?_
  refine ezw_aload_n rfl rfl ?_
  refine ezw_iload_n rfl rfl ?_
  refine ezw_aload_n rfl rfl ?_
  refine ezw_iload_n rfl rfl ?_
  refine ezw_call0_1 rfl (by omega) (ezm_at rfl) rfl rfl rfl rfl (ezm_m268_v1100 hT (by omega)) ?_
  rintro _ _ ⟨rfl, u2, hu2, p1_0, la_1, rfl⟩
  refine ezw_aload_n rfl rfl ?_
  refine ezm_gp (p := 88) rfl (fun _ => rfl) ?_
  refine ezw_iload_n rfl rfl ?_
  refine ezw_bipush (7) rfl rfl ?_
  refine ezw_iadd (k := (1107)) rfl (by omega) ?_
  refine ezw_aload_n rfl rfl ?_
  refine ezw_iload_n rfl rfl ?_
  refine ezw_call0_1 rfl (by omega) (ezm_at rfl) rfl rfl rfl rfl (ezm_m268_v1100 hT (by omega)) ?_
  rintro _ _ ⟨rfl, u4, hu4, p3_0, la_3, rfl⟩
  refine ezw_iadd (k := u4 + 1107) rfl (by omega) ?_
  refine ezm_l88 rfl (by omega) (by omega) (fun u5 eu5 => ?_)
  have ku5 : ezm_k88 (u4 + 1107) u5 := eu5 ▸ hT.t88 (u4 + 1107)
  have zu5 := ezm_zs7 ku5 (by omega)
  refine ezw_iload_n rfl rfl ?_
  refine ezw_iload rfl rfl ?_
  refine ezw_call0_5 rfl (by omega) (ezm_at rfl) rfl rfl rfl rfl (ezm_m269_v0 hT (by omega) hu2 (ezm_in88 ku5) ha3 ha4 (by omega) tr) ?_
  rintro _ _ ⟨x86_6, x87_6, rfl, hT, u7, hu7, p6_0, rfl⟩
  exact ezw_ireturn rfl rfl ⟨x86_6, x87_6, rfl, hT, u7, hu7, by omega, rfl⟩
def ezm_m267_v1100_v1Q (e : Bool × Bool) (F : Nat → Nat → Int) (A : Nat → Int → Int) (i0 i2 i3 i7 i8 i13 i18 i19 i20 i25 i29 i30 i31 i36 i37 i38 : Int) (r73 r74 r75 r76 r77 r78 r79 r80 r81 r82 r83 r84 r85 r86 r87 r88 r89 r90 r91 r92 r93 r94 r95 : Int → Int) (a3 : Int) (a4 : Int) : Option ezq_V → (Nat → ezq_C) → Prop := fun v g' => ∃  (x86 x87 : Int → Int), ezm_h e F A i0 i2 i3 i7 i8 i13 i18 i19 i20 i25 i29 i30 i31 i36 i37 i38 r73 r74 r75 r76 r77 r78 r79 r80 r81 r82 r83 r84 r85 x86 x87 r88 r89 r90 r91 r92 r93 r94 r95 = g' ∧ ezm_T i0 i2 i3 i7 i8 i13 i18 i19 i20 i25 i29 i30 i31 i36 i37 i38 r73 r74 r75 r76 r77 r78 r79 r80 r81 r82 r83 r84 r85 x86 x87 r88 r89 r90 r91 r92 r93 r94 r95 ∧ ∃ u : Int, (ezw_in u) ∧ (0 ≤ u ∧ u ≤ 10) ∧ some (ezw_i u) = v
theorem ezm_m267_v1100_v1 {a3 a4 : Int} (hT : ezm_T i0 i2 i3 i7 i8 i13 i18 i19 i20 i25 i29 i30 i31 i36 i37 i38 r73 r74 r75 r76 r77 r78 r79 r80 r81 r82 r83 r84 r85 r86 r87 r88 r89 r90 r91 r92 r93 r94 r95) (hd : 3 ≤ d) (ha3 : ezw_in a3) (ha4 : ezw_in a4) (tr : ezm_TR r78 r79 r80) : ezw_C l ρ B xa Hb D cA 267 d [ezw_p 72, ezw_i (1100), ezw_i (1), ezw_i a3, ezw_i a4] (ezm_h e F A i0 i2 i3 i7 i8 i13 i18 i19 i20 i25 i29 i30 i31 i36 i37 i38 r73 r74 r75 r76 r77 r78 r79 r80 r81 r82 r83 r84 r85 r86 r87 r88 r89 r90 r91 r92 r93 r94 r95) (ezm_m267_v1100_v1Q  e F A i0 i2 i3 i7 i8 i13 i18 i19 i20 i25 i29 i30 i31 i36 i37 i38 r73 r74 r75 r76 r77 r78 r79 r80 r81 r82 r83 r84 r85 r86 r87 r88 r89 r90 r91 r92 r93 r94 r95 a3 a4) := by
  refine ezw_met (k := 0) rfl rfl ?_
  refine ezw_aload_n rfl rfl ?_
  refine ezw_iload_n rfl rfl ?_
  refine ezw_aload_n rfl rfl ?_
  refine ezw_iload_n rfl rfl ?_
  refine ezw_call0_1 rfl (by omega) (ezm_at rfl) rfl rfl rfl rfl (ezm_m268_v1100 hT (by omega)) ?_
  rintro _ _ ⟨rfl, u2, hu2, p1_0, la_1, rfl⟩
  refine ezw_aload_n rfl rfl ?_
  refine ezm_gp (p := 88) rfl (fun _ => rfl) ?_
  refine ezw_iload_n rfl rfl ?_
  refine ezw_bipush (7) rfl rfl ?_
  refine ezw_iadd (k := (1107)) rfl (by omega) ?_
  refine ezw_aload_n rfl rfl ?_
  refine ezw_iload_n rfl rfl ?_
  refine ezw_call0_1 rfl (by omega) (ezm_at rfl) rfl rfl rfl rfl (ezm_m268_v1100 hT (by omega)) ?_
  rintro _ _ ⟨rfl, u4, hu4, p3_0, la_3, rfl⟩
  refine ezw_iadd (k := u4 + 1107) rfl (by omega) ?_
  refine ezm_l88 rfl (by omega) (by omega) (fun u5 eu5 => ?_)
  have ku5 : ezm_k88 (u4 + 1107) u5 := eu5 ▸ hT.t88 (u4 + 1107)
  have zu5 := ezm_zs7 ku5 (by omega)
  refine ezw_iload_n rfl rfl ?_
  refine ezw_iload rfl rfl ?_
  refine ezw_call0_5 rfl (by omega) (ezm_at rfl) rfl rfl rfl rfl (ezm_m269_v1 hT (by omega) hu2 (ezm_in88 ku5) ha3 ha4 (by omega) tr) ?_
  rintro _ _ ⟨x86_6, x87_6, rfl, hT, u7, hu7, p6_0, rfl⟩
  exact ezw_ireturn rfl rfl ⟨x86_6, x87_6, rfl, hT, u7, hu7, by omega, rfl⟩
def ezm_m331Q (e : Bool × Bool) (F : Nat → Nat → Int) (A : Nat → Int → Int) (i0 i2 i3 i7 i8 i13 i18 i19 i20 i25 i29 i30 i31 i36 i37 i38 : Int) (r73 r74 r75 r76 r77 r78 r79 r80 r81 r82 r83 r84 r85 r86 r87 r88 r89 r90 r91 r92 r93 r94 r95 : Int → Int) (a1 : Int) (a2 : Int) : Option ezq_V → (Nat → ezq_C) → Prop := fun v g' => ∃ (x37 : Int) (x86 x87 x88 : Int → Int), ezm_h e F A i0 i2 i3 i7 i8 i13 i18 i19 i20 i25 i29 i30 i31 i36 x37 i38 r73 r74 r75 r76 r77 r78 r79 r80 r81 r82 r83 r84 r85 x86 x87 x88 r89 r90 r91 r92 r93 r94 r95 = g' ∧ ezm_T i0 i2 i3 i7 i8 i13 i18 i19 i20 i25 i29 i30 i31 i36 x37 i38 r73 r74 r75 r76 r77 r78 r79 r80 r81 r82 r83 r84 r85 x86 x87 x88 r89 r90 r91 r92 r93 r94 r95 ∧ (∀ j, j < 1100 ∨ 1120 ≤ j → x88 j = r88 j) ∧ (ezm_SV r78 x88 (1100)) ∧ none = v
theorem ezm_m331 {a1 a2 : Int} (hT : ezm_T i0 i2 i3 i7 i8 i13 i18 i19 i20 i25 i29 i30 i31 i36 i37 i38 r73 r74 r75 r76 r77 r78 r79 r80 r81 r82 r83 r84 r85 r86 r87 r88 r89 r90 r91 r92 r93 r94 r95) (hd : 4 ≤ d) (ha1 : ezw_in a1) (ha2 : ezw_in a2) (ga : 0 ≤ a2 ∧ a2 ≤ 1) (tr : ezm_TR r78 r79 r80) (sv : ezm_SV r78 r88 (1100)) : ezw_C l ρ B xa Hb D cA 331 d [ezw_p 72, ezw_i a1, ezw_i a2] (ezm_h e F A i0 i2 i3 i7 i8 i13 i18 i19 i20 i25 i29 i30 i31 i36 i37 i38 r73 r74 r75 r76 r77 r78 r79 r80 r81 r82 r83 r84 r85 r86 r87 r88 r89 r90 r91 r92 r93 r94 r95) (ezm_m331Q  e F A i0 i2 i3 i7 i8 i13 i18 i19 i20 i25 i29 i30 i31 i36 i37 i38 r73 r74 r75 r76 r77 r78 r79 r80 r81 r82 r83 r84 r85 r86 r87 r88 r89 r90 r91 r92 r93 r94 r95 a1 a2) := by
  refine ezw_met (k := 3) rfl rfl ?_
  refine ezw_aload_n rfl rfl ?_
  refine ezw_sipush (1100) rfl rfl ?_
  refine ezw_iconst (0) rfl rfl ?_
  refine ezw_iload_n rfl rfl ?_
  refine ezw_iload_n rfl rfl ?_
  refine ezw_call0_4 rfl (by omega) (ezm_at rfl) rfl rfl rfl rfl (ezm_m267_v1100_v0 hT (by omega) ha1 ha2 tr) ?_
  rintro _ _ ⟨x86_1, x87_1, rfl, hT, u2, hu2, p1_0, rfl⟩
  refine ezw_istore_n rfl rfl ?_
  refine ezw_aload_n rfl rfl ?_
  refine ezw_sipush (1100) rfl rfl ?_
  refine ezw_iconst (1) rfl rfl ?_
  refine ezw_iload_n rfl rfl ?_
  refine ezw_iload_n rfl rfl ?_
  refine ezw_call0_4 rfl (by omega) (ezm_at rfl) rfl rfl rfl rfl (ezm_m267_v1100_v1 hT (by omega) ha1 ha2 tr) ?_
  rintro _ _ ⟨x86_3, x87_3, rfl, hT, u4, hu4, p3_0, rfl⟩
  refine ezw_istore rfl rfl ?_
  refine ezw_aload_n rfl rfl ?_
  refine ezw_bipush (10) rfl rfl ?_
  refine ezw_call0_1 rfl (by omega) (ezm_at rfl) rfl rfl rfl rfl (ezm_m332 hT (by omega) ⟨by decide, by decide⟩ (by omega)) ?_
  rintro _ _ ⟨x37_5, rfl, hT, u6, hu6, rfl⟩
  refine ezw_iload_n rfl rfl ?_
  have J53_8 : ∀ y7 : Int, ezw_in y7 → ∀ x37_8 : Int, ezm_T i0 i2 i3 i7 i8 i13 i18 i19 i20 i25 i29 i30 i31 i36 x37_8 i38 r73 r74 r75 r76 r77 r78 r79 r80 r81 r82 r83 r84 r85 x86_3 x87_3 r88 r89 r90 r91 r92 r93 r94 r95 → ezw_E l ρ B xa Hb D cA d ezq_re331 (ezm_m331Q  e F A i0 i2 i3 i7 i8 i13 i18 i19 i20 i25 i29 i30 i31 i36 i37 i38 r73 r74 r75 r76 r77 r78 r79 r80 r81 r82 r83 r84 r85 r86 r87 r88 r89 r90 r91 r92 r93 r94 r95 a1 a2) 53 [some (ezw_p 72), some (ezw_i a1), some (ezw_i a2), some (ezw_i u2), some (ezw_i u4), none] [ezw_i y7] (ezm_h e F A i0 i2 i3 i7 i8 i13 i18 i19 i20 i25 i29 i30 i31 i36 x37_8 i38 r73 r74 r75 r76 r77 r78 r79 r80 r81 r82 r83 r84 r85 x86_3 x87_3 r88 r89 r90 r91 r92 r93 r94 r95) := by
    intro y7 hy7 x37_8 hT
    refine ezw_istore rfl rfl ?_
    refine ezw_aload_n rfl rfl ?_
    refine ezw_sipush (1100) rfl rfl ?_
    refine ezw_iload_n rfl rfl ?_
    refine ezw_iload rfl rfl ?_
    refine ezw_call0_3 rfl (by omega) (ezm_at rfl) rfl rfl rfl rfl (ezm_m276_v1100 hT (by omega) ha2 hy7 (by omega) sv) ?_
    rintro _ _ ⟨x88_9, rfl, hT, fb_9, sv_9, rfl⟩
    exact ezw_return rfl rfl ⟨x37_8, x86_3, x87_3, x88_9, rfl, hT, fb_9, sv_9, rfl⟩
  refine ezw_icmp_ge rfl rfl hu6 hu2 (fun h30_6 => ?_) (fun h30_6 => ?_)
  · refine ezw_aload_n rfl rfl ?_
    refine ezw_bipush (10) rfl rfl ?_
    refine ezw_call0_1 rfl (by omega) (ezm_at rfl) rfl rfl rfl rfl (ezm_m332 hT (by omega) ⟨by decide, by decide⟩ (by omega)) ?_
    rintro _ _ ⟨x37_10, rfl, hT, u11, hu11, rfl⟩
    refine ezw_iload rfl rfl ?_
    refine ezw_icmp_ge rfl rfl hu11 hu4 (fun h45_11 => ?_) (fun h45_11 => ?_)
    · refine ezw_iconst (1) rfl rfl ?_
      exact ezw_keepE [true, true, true, true, true, false] (J53_8 (1) ⟨by decide, by decide⟩ x37_10 hT)
    · refine ezw_iconst (2) rfl rfl ?_
      refine ezw_goto rfl rfl ?_
      exact ezw_keepE [true, true, true, true, true, false] (J53_8 (2) ⟨by decide, by decide⟩ x37_10 hT)
  · refine ezw_iconst (0) rfl rfl ?_
    refine ezw_goto rfl rfl ?_
    exact ezw_keepE [true, true, true, true, true, false] (J53_8 (0) ⟨by decide, by decide⟩ x37_5 hT)
def ezm_m333Q (e : Bool × Bool) (F : Nat → Nat → Int) (A : Nat → Int → Int) (i0 i2 i3 i7 i8 i13 i18 i19 i20 i25 i29 i30 i31 i36 i37 i38 : Int) (r73 r74 r75 r76 r77 r78 r79 r80 r81 r82 r83 r84 r85 r86 r87 r88 r89 r90 r91 r92 r93 r94 r95 : Int → Int) (a1 : Int) : Option ezq_V → (Nat → ezq_C) → Prop := fun v g' => ∃ (x37 : Int) (x88 : Int → Int), ezm_h e F A i0 i2 i3 i7 i8 i13 i18 i19 i20 i25 i29 i30 i31 i36 x37 i38 r73 r74 r75 r76 r77 r78 r79 r80 r81 r82 r83 r84 r85 r86 r87 x88 r89 r90 r91 r92 r93 r94 r95 = g' ∧ ezm_T i0 i2 i3 i7 i8 i13 i18 i19 i20 i25 i29 i30 i31 i36 x37 i38 r73 r74 r75 r76 r77 r78 r79 r80 r81 r82 r83 r84 r85 r86 r87 x88 r89 r90 r91 r92 r93 r94 r95 ∧ ∃ u : Int, (0 ≤ u ∧ u ≤ 1) ∧ (∀ j, j < 1100 ∨ 1120 ≤ j → x88 j = r88 j) ∧ (ezm_SV r78 x88 (1100)) ∧ some (ezw_i u) = v
theorem ezm_m333 {a1 : Int} (hT : ezm_T i0 i2 i3 i7 i8 i13 i18 i19 i20 i25 i29 i30 i31 i36 i37 i38 r73 r74 r75 r76 r77 r78 r79 r80 r81 r82 r83 r84 r85 r86 r87 r88 r89 r90 r91 r92 r93 r94 r95) (hd : 2 ≤ d) (ha1 : ezw_in a1) (ga : 0 ≤ a1 ∧ a1 ≤ 3) (sv : ezm_SV r78 r88 (1100)) : ezw_C l ρ B xa Hb D cA 333 d [ezw_p 72, ezw_i a1] (ezm_h e F A i0 i2 i3 i7 i8 i13 i18 i19 i20 i25 i29 i30 i31 i36 i37 i38 r73 r74 r75 r76 r77 r78 r79 r80 r81 r82 r83 r84 r85 r86 r87 r88 r89 r90 r91 r92 r93 r94 r95) (ezm_m333Q  e F A i0 i2 i3 i7 i8 i13 i18 i19 i20 i25 i29 i30 i31 i36 i37 i38 r73 r74 r75 r76 r77 r78 r79 r80 r81 r82 r83 r84 r85 r86 r87 r88 r89 r90 r91 r92 r93 r94 r95 a1) := by
  refine ezw_met (k := 2) rfl rfl ?_
  refine ezw_aload_n rfl rfl ?_
  refine ezw_bipush (10) rfl rfl ?_
  refine ezw_call0_1 rfl (by omega) (ezm_at rfl) rfl rfl rfl rfl (ezm_m332 hT (by omega) ⟨by decide, by decide⟩ (by omega)) ?_
  rintro _ _ ⟨x37_1, rfl, hT, u2, hu2, rfl⟩
  refine ezw_istore_n rfl rfl ?_
  refine ezw_iload_n rfl rfl ?_
  refine ezw_aload_n rfl rfl ?_
  refine ezw_iload_n rfl rfl ?_
  refine ezw_iconst (1) rfl rfl ?_
  refine ezw_call0_2 rfl (by omega) (ezm_at rfl) rfl rfl rfl rfl (ezm_m263 hT (by omega) ha1 ⟨by decide, by decide⟩ (by omega) (by omega)) ?_
  rintro _ _ ⟨rfl, u4, hu4, rfl⟩
  have J43_6 : ∀ y5 : Int, ezw_in y5 → ezw_E l ρ B xa Hb D cA d ezq_re333 (ezm_m333Q  e F A i0 i2 i3 i7 i8 i13 i18 i19 i20 i25 i29 i30 i31 i36 i37 i38 r73 r74 r75 r76 r77 r78 r79 r80 r81 r82 r83 r84 r85 r86 r87 r88 r89 r90 r91 r92 r93 r94 r95 a1) 43 [some (ezw_p 72), some (ezw_i a1), some (ezw_i u2), none] [ezw_i y5] (ezm_h e F A i0 i2 i3 i7 i8 i13 i18 i19 i20 i25 i29 i30 i31 i36 x37_1 i38 r73 r74 r75 r76 r77 r78 r79 r80 r81 r82 r83 r84 r85 r86 r87 r88 r89 r90 r91 r92 r93 r94 r95) := by
    intro y5 hy5
    refine ezw_istore_n rfl rfl ?_
    refine ezw_aload_n rfl rfl ?_
    refine ezw_sipush (1100) rfl rfl ?_
    refine ezw_iload_n rfl rfl ?_
    refine ezw_iload_n rfl rfl ?_
    refine ezw_call0_3 rfl (by omega) (ezm_at rfl) rfl rfl rfl rfl (ezm_m284_v1100 hT (by omega) ha1 hy5 (by omega) sv) ?_
    rintro _ _ ⟨x88_7, rfl, hT, fb_7, sv_7, rfl⟩
    refine ezw_iload_n rfl rfl ?_
    refine ezw_iconst (1) rfl rfl ?_
    refine ezw_icmp_ne rfl rfl hy5 ⟨by decide, by decide⟩ (fun h55_7 => ?_) (fun h55_7 => ?_)
    · refine ezw_iconst (0) rfl rfl ?_
      exact ezw_ireturn rfl (ezw_zret ⟨by omega, by omega⟩) ⟨x37_1, x88_7, rfl, hT, (0), ⟨by omega, by omega⟩, fb_7, sv_7, rfl⟩
    · refine ezw_iconst (1) rfl rfl ?_
      refine ezw_goto rfl rfl ?_
      exact ezw_ireturn rfl (ezw_zret ⟨by omega, by omega⟩) ⟨x37_1, x88_7, rfl, hT, (1), ⟨by omega, by omega⟩, fb_7, sv_7, rfl⟩
  refine ezw_icmp_ge rfl rfl hu2 hu4 (fun h14_4 => ?_) (fun h14_4 => ?_)
  · refine ezw_iload_n rfl rfl ?_
    refine ezw_aload_n rfl rfl ?_
    refine ezw_iload_n rfl rfl ?_
    refine ezw_iconst (1) rfl rfl ?_
    refine ezw_call0_2 rfl (by omega) (ezm_at rfl) rfl rfl rfl rfl (ezm_m263 hT (by omega) ha1 ⟨by decide, by decide⟩ (by omega) (by omega)) ?_
    rintro _ _ ⟨rfl, u9, hu9, rfl⟩
    refine ezw_aload_n rfl rfl ?_
    refine ezw_iload_n rfl rfl ?_
    refine ezw_iconst (2) rfl rfl ?_
    refine ezw_call0_2 rfl (by omega) (ezm_at rfl) rfl rfl rfl rfl (ezm_m263 hT (by omega) ha1 ⟨by decide, by decide⟩ (by omega) (by omega)) ?_
    rintro _ _ ⟨rfl, u11, hu11, rfl⟩
    refine ezs_iadd rfl (fun u12 hu12 => ?_)
    refine ezw_icmp_ge rfl rfl hu2 hu12 (fun h35_12 => ?_) (fun h35_12 => ?_)
    · refine ezw_iconst (0) rfl rfl ?_
      exact ezw_keepE [true, true, true, false] (J43_6 (0) ⟨by decide, by decide⟩)
    · refine ezw_iconst (2) rfl rfl ?_
      refine ezw_goto rfl rfl ?_
      exact ezw_keepE [true, true, true, false] (J43_6 (2) ⟨by decide, by decide⟩)
  · refine ezw_iconst (1) rfl rfl ?_
    refine ezw_goto rfl rfl ?_
    exact ezw_keepE [true, true, true, false] (J43_6 (1) ⟨by decide, by decide⟩)
def ezm_m330Q (e : Bool × Bool) (F : Nat → Nat → Int) (A : Nat → Int → Int) (i0 i2 i3 i7 i8 i13 i18 i19 i20 i25 i29 i30 i31 i36 i37 i38 : Int) (r73 r74 r75 r76 r77 r78 r79 r80 r81 r82 r83 r84 r85 r86 r87 r88 r89 r90 r91 r92 r93 r94 r95 : Int → Int) (a1 : Int) : Option ezq_V → (Nat → ezq_C) → Prop := fun v g' => ∃ (x37 x38 : Int) (x86 x87 x88 : Int → Int), ezm_h e F A i0 i2 i3 i7 i8 i13 i18 i19 i20 i25 i29 i30 i31 i36 x37 x38 r73 r74 r75 r76 r77 r78 r79 r80 r81 r82 r83 r84 r85 x86 x87 x88 r89 r90 r91 r92 r93 r94 r95 = g' ∧ ezm_T i0 i2 i3 i7 i8 i13 i18 i19 i20 i25 i29 i30 i31 i36 x37 x38 r73 r74 r75 r76 r77 r78 r79 r80 r81 r82 r83 r84 r85 x86 x87 x88 r89 r90 r91 r92 r93 r94 r95 ∧ (∀ j, j < 1100 ∨ 1120 ≤ j → x88 j = r88 j) ∧ (ezm_SV r78 x88 (1100)) ∧ none = v
theorem ezm_m330 {a1 : Int} (hT : ezm_T i0 i2 i3 i7 i8 i13 i18 i19 i20 i25 i29 i30 i31 i36 i37 i38 r73 r74 r75 r76 r77 r78 r79 r80 r81 r82 r83 r84 r85 r86 r87 r88 r89 r90 r91 r92 r93 r94 r95) (hd : 5 ≤ d) (ha1 : ezw_in a1) (ga : 1 ≤ a1 ∧ a1 ≤ 14) (nt : a1 = 9 → 0 < r88 (ezm_la r88 (1100) + 1107)) (tr : ezm_TR r78 r79 r80) (sv : ezm_SV r78 r88 (1100)) : ezw_C l ρ B xa Hb D cA 330 d [ezw_p 72, ezw_i a1] (ezm_h e F A i0 i2 i3 i7 i8 i13 i18 i19 i20 i25 i29 i30 i31 i36 i37 i38 r73 r74 r75 r76 r77 r78 r79 r80 r81 r82 r83 r84 r85 r86 r87 r88 r89 r90 r91 r92 r93 r94 r95) (ezm_m330Q  e F A i0 i2 i3 i7 i8 i13 i18 i19 i20 i25 i29 i30 i31 i36 i37 i38 r73 r74 r75 r76 r77 r78 r79 r80 r81 r82 r83 r84 r85 r86 r87 r88 r89 r90 r91 r92 r93 r94 r95 a1) := by
  refine ezw_met (k := 0) rfl rfl ?_
  have b0 := ezm_zs0 (hT.t88 (1100)) (by decide)
  refine ezw_iload_n rfl rfl ?_
  refine ezw_bipush (9) rfl rfl ?_
  refine ezw_icmp_ge rfl rfl ha1 ⟨by decide, by decide⟩ (fun h3_0 => ?_) (fun h3_0 => ?_)
  · refine ezw_iload_n rfl rfl ?_
    refine ezw_bipush (9) rfl rfl ?_
    refine ezw_icmp_ne rfl rfl ha1 ⟨by decide, by decide⟩ (fun h26_0 => ?_) (fun h26_0 => ?_)
    · refine ezw_iload_n rfl rfl ?_
      refine ezw_bipush (10) rfl rfl ?_
      refine ezw_icmp_ne rfl rfl ha1 ⟨by decide, by decide⟩ (fun h55_0 => ?_) (fun h55_0 => ?_)
      · refine ezw_aload_n rfl rfl ?_
        refine ezw_dup rfl rfl ?_
        refine ezm_g38 rfl ?_
        have k1 := hT.t38
        refine ezw_aload_n rfl rfl ?_
        refine ezw_iload_n rfl rfl ?_
        refine ezw_bipush (11) rfl rfl ?_
        refine ezw_isub (k := a1 - 11) rfl (by omega) ?_
        refine ezw_call0_1 rfl (by omega) (ezm_at rfl) rfl rfl rfl rfl (ezm_m333 hT (by omega) ⟨by omega, by omega⟩ (by omega) sv) ?_
        rintro _ _ ⟨x37_2, x88_2, rfl, hT, u3, hu3, fb_2, sv_2, rfl⟩
        refine ezw_if_eq rfl rfl ⟨by omega, by omega⟩ (fun h104_3 => ?_) (fun h104_3 => ?_)
        · refine ezw_iconst (0) rfl rfl ?_
          refine ezs_iadd rfl (fun u4 hu4 => ?_)
          refine ezm_p38 hT rfl hu4 (fun hT => ?_)
          exact ezw_return rfl rfl ⟨x37_2, u4, r86, r87, x88_2, rfl, hT, fb_2, sv_2, rfl⟩
        · refine ezw_iconst (1) rfl rfl ?_
          refine ezw_goto rfl rfl ?_
          refine ezs_iadd rfl (fun u5 hu5 => ?_)
          refine ezm_p38 hT rfl hu5 (fun hT => ?_)
          exact ezw_return rfl rfl ⟨x37_2, u5, r86, r87, x88_2, rfl, hT, fb_2, sv_2, rfl⟩
      · refine ezw_aload_n rfl rfl ?_
        refine ezw_bipush (10) rfl rfl ?_
        refine ezw_call0_1 rfl (by omega) (ezm_at rfl) rfl rfl rfl rfl (ezm_m332 hT (by omega) ⟨by decide, by decide⟩ (by omega)) ?_
        rintro _ _ ⟨x37_6, rfl, hT, u7, hu7, rfl⟩
        refine ezw_aload_n rfl rfl ?_
        refine ezm_gp (p := 78) rfl (fun _ => rfl) ?_
        refine ezw_bipush (9) rfl rfl ?_
        refine ezm_l78 rfl (by omega) (by omega) (fun u8 eu8 => ?_)
        have ku8 : ezm_k78 (9) u8 := eu8 ▸ hT.t78 (9)
        refine ezw_icmp_ge rfl rfl hu7 (ezm_in78 ku8) (fun h71_8 => ?_) (fun h71_8 => ?_)
        · exact ezw_return rfl rfl ⟨x37_6, i38, r86, r87, r88, rfl, hT, fun _ _ => rfl, sv, rfl⟩
        · refine ezw_aload_n rfl rfl ?_
          refine ezw_sipush (1100) rfl rfl ?_
          refine ezw_aload_n rfl rfl ?_
          refine ezw_sipush (1100) rfl rfl ?_
          refine ezw_call0_1 rfl (by omega) (ezm_at rfl) rfl rfl rfl rfl (ezm_m268_v1100 hT (by omega)) ?_
          rintro _ _ ⟨rfl, u10, hu10, p9_0, la_9, rfl⟩
          refine ezw_call0_2 rfl (by omega) (ezm_at rfl) rfl rfl rfl rfl (ezm_m277_v1100 hT (by omega) hu10 (by omega) sv) ?_
          rintro _ _ ⟨x88_11, rfl, hT, fb_11, sv_11, rfl⟩
          refine ezw_goto rfl rfl ?_
          exact ezw_return rfl rfl ⟨x37_6, i38, r86, r87, x88_11, rfl, hT, fb_11, sv_11, rfl⟩
    · refine ezw_aload_n rfl rfl ?_
      refine ezm_gp (p := 88) rfl (fun _ => rfl) ?_
      refine ezw_sipush (1107) rfl rfl ?_
      refine ezw_aload_n rfl rfl ?_
      refine ezw_sipush (1100) rfl rfl ?_
      refine ezw_call0_1 rfl (by omega) (ezm_at rfl) rfl rfl rfl rfl (ezm_m268_v1100 hT (by omega)) ?_
      rintro _ _ ⟨rfl, u13, hu13, p12_0, la_12, rfl⟩
      refine ezw_iadd (k := u13 + 1107) rfl (by omega) ?_
      refine ezw_dup2 rfl rfl rfl ?_
      refine ezm_l88 rfl (by omega) (by omega) (fun u14 eu14 => ?_)
      have ku14 : ezm_k88 (u13 + 1107) u14 := eu14 ▸ hT.t88 (u13 + 1107)
      have zu14 := ezm_zs7 ku14 (by omega)
      have hti := nt (by omega)
      rw [← la_12, ← eu14] at hti
      refine ezw_iconst (1) rfl rfl ?_
      refine ezw_isub (k := u14 - 1) rfl (by omega) ?_
      refine ezm_s88 hT rfl (by omega) (by omega) ⟨⟨by omega, by omega⟩, by omega, by omega, by omega, by omega, by omega⟩ (fun r88_15 hT er88_15 fr88_15 => ?_)
      refine ezw_goto rfl rfl ?_
      exact ezw_return rfl rfl ⟨i37, i38, r86, r87, r88_15, rfl, hT, fun j hj => by rw [fr88_15 j (by omega)], ezm_SV_fr2 sv b0.2 (fun j hj => by rw [fr88_15 j (by omega)]), rfl⟩
  · refine ezw_aload_n rfl rfl ?_
    refine ezw_iload_n rfl rfl ?_
    refine ezw_iconst (1) rfl rfl ?_
    refine ezw_isub (k := a1 - 1) rfl (by omega) ?_
    refine ezw_iconst (4) rfl rfl ?_
    refine ezm_irem rfl ⟨by omega, by omega⟩ ⟨by decide, by decide⟩ (by decide) (fun u16 hu16 ku16 => ?_)
    refine ezw_iload_n rfl rfl ?_
    refine ezw_iconst (1) rfl rfl ?_
    refine ezw_isub (k := a1 - 1) rfl (by omega) ?_
    refine ezw_iconst (4) rfl rfl ?_
    refine ezm_idiv rfl ⟨by omega, by omega⟩ ⟨by decide, by decide⟩ (by decide) (fun u17 hu17 ku17 => ?_)
    refine ezw_call0_2 rfl (by omega) (ezm_at rfl) rfl rfl rfl rfl (ezm_m331 hT (by omega) hu16 hu17 (by omega) tr sv) ?_
    rintro _ _ ⟨x37_18, x86_18, x87_18, x88_18, rfl, hT, fb_18, sv_18, rfl⟩
    refine ezw_goto rfl rfl ?_
    exact ezw_return rfl rfl ⟨x37_18, i38, x86_18, x87_18, x88_18, rfl, hT, fb_18, sv_18, rfl⟩
end KM6
