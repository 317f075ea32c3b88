/-! ===== the model: words cut, a tree begun ===== -/
section KM6
variable {l : Launch} {ρ : ezq_E} {B : Nat} {xa : Nat → Option Nat} {Hb : Heap} {D : va_G} {cA : Nat → ClassId} {d : Nat} {e : Bool × Bool} {F : Nat → Nat → Int} {A : Nat → Int → Int} {i0 i2 i3 i7 i8 i13 i18 i19 i20 i25 i29 i30 i31 i36 i37 i38 : Int} {r73 r74 r75 r76 r77 r78 r79 r80 r81 r82 r83 r84 r85 r86 r87 r88 r89 r90 r91 r92 r93 r94 r95 : Int → Int}
def ezm_m218Q (e : Bool × Bool) (F : Nat → Nat → Int) (A : Nat → Int → Int) (i0 i2 i3 i7 i8 i13 i18 i19 i20 i25 i29 i30 i31 i36 i37 i38 : Int) (r73 r74 r75 r76 r77 r78 r79 r80 r81 r82 r83 r84 r85 r86 r87 r88 r89 r90 r91 r92 r93 r94 r95 : Int → Int) : Option ezq_V → (Nat → ezq_C) → Prop := fun v g' => ∃ (x2 x3 x7 x8 : Int) (x74 x75 x76 : Int → Int), ezm_h e F A i0 x2 x3 x7 x8 i13 i18 i19 i20 i25 i29 i30 i31 i36 i37 i38 r73 x74 x75 x76 r77 r78 r79 r80 r81 r82 r83 r84 r85 r86 r87 r88 r89 r90 r91 r92 r93 r94 r95 = g' ∧ ezm_T i0 x2 x3 x7 x8 i13 i18 i19 i20 i25 i29 i30 i31 i36 i37 i38 r73 x74 x75 x76 r77 r78 r79 r80 r81 r82 r83 r84 r85 r86 r87 r88 r89 r90 r91 r92 r93 r94 r95 ∧ (x2 = 0) ∧ (x7 = 0) ∧ (x8 = 0) ∧ (ezm_end x74) ∧ none = v
theorem ezm_m218 (hT : ezm_T i0 i2 i3 i7 i8 i13 i18 i19 i20 i25 i29 i30 i31 i36 i37 i38 r73 r74 r75 r76 r77 r78 r79 r80 r81 r82 r83 r84 r85 r86 r87 r88 r89 r90 r91 r92 r93 r94 r95) (hd : 2 ≤ d) : ezw_C l ρ B xa Hb D cA 218 d [ezw_p 72] (ezm_h e F A i0 i2 i3 i7 i8 i13 i18 i19 i20 i25 i29 i30 i31 i36 i37 i38 r73 r74 r75 r76 r77 r78 r79 r80 r81 r82 r83 r84 r85 r86 r87 r88 r89 r90 r91 r92 r93 r94 r95) (ezm_m218Q  e F A i0 i2 i3 i7 i8 i13 i18 i19 i20 i25 i29 i30 i31 i36 i37 i38 r73 r74 r75 r76 r77 r78 r79 r80 r81 r82 r83 r84 r85 r86 r87 r88 r89 r90 r91 r92 r93 r94 r95) := by
  refine ezw_met (k := 6) rfl rfl ?_
  have b2 := hT.t2
  refine ezw_aload_n rfl rfl ?_
  refine ezw_aload_n rfl rfl ?_
  refine ezm_g2 rfl ?_
  have k1 := hT.t2
  refine ezm_p3 hT rfl ⟨by omega, by omega⟩ (fun hT => ?_)
  refine ezw_aload_n rfl rfl ?_
  refine ezw_iconst (0) rfl rfl ?_
  refine ezm_p2 hT rfl ⟨by omega, by omega⟩ (fun hT => ?_)
  refine ezw_iconst (0) rfl rfl ?_
  refine ezw_istore_n rfl rfl ?_
  refine ezw_iconst (0) rfl rfl ?_
  refine ezw_istore_n rfl rfl ?_
  have L17_3 : ∀ c2 : Int, ezw_in c2 → ∀ y4 : Int, ezw_in y4 → ∀ x74_3 : Int → Int, ∀ x75_3 : Int → Int, ∀ x76_3 : Int → Int, ezm_T i0 (0) i2 i7 i8 i13 i18 i19 i20 i25 i29 i30 i31 i36 i37 i38 r73 x74_3 x75_3 x76_3 r77 r78 r79 r80 r81 r82 r83 r84 r85 r86 r87 r88 r89 r90 r91 r92 r93 r94 r95 → ((0) ≤ c2) → (0 ≤ y4 ∧ y4 ≤ c2 ∧ c2 ≤ i2) → ezw_E l ρ B xa Hb D cA d ezq_re218 (ezm_m218Q  e F A i0 i2 i3 i7 i8 i13 i18 i19 i20 i25 i29 i30 i31 i36 i37 i38 r73 r74 r75 r76 r77 r78 r79 r80 r81 r82 r83 r84 r85 r86 r87 r88 r89 r90 r91 r92 r93 r94 r95) 17 [some (ezw_p 72), some (ezw_i y4), some (ezw_i c2), none, none, none, none] [] (ezm_h e F A i0 (0) i2 i7 i8 i13 i18 i19 i20 i25 i29 i30 i31 i36 i37 i38 r73 x74_3 x75_3 x76_3 r77 r78 r79 r80 r81 r82 r83 r84 r85 r86 r87 r88 r89 r90 r91 r92 r93 r94 r95) := by
    refine ezs_up ?_
    intro c2 hc2 ihc2 y4 hy4 x74_3 x75_3 x76_3 hT g_3 v1_3
    refine ezw_iload_n rfl rfl ?_
    refine ezw_aload_n rfl rfl ?_
    refine ezm_g3 rfl ?_
    have k5 := hT.t3
    refine ezw_icmp_ge rfl rfl hc2 ⟨by omega, by omega⟩ (fun h22_5 => ?_) (fun h22_5 => ?_)
    · refine ezw_aload_n rfl rfl ?_
      refine ezm_gp (p := 74) rfl (fun _ => rfl) ?_
      refine ezw_iload_n rfl rfl ?_
      refine ezw_iconst (0) rfl rfl ?_
      refine ezm_s74 hT rfl (by omega) (by omega) ⟨by decide, by decide⟩ (fun r74_6 hT er74_6 fr74_6 => ?_)
      refine ezw_aload_n rfl rfl ?_
      refine ezm_gp (p := 75) rfl (fun _ => rfl) ?_
      refine ezw_iload_n rfl rfl ?_
      refine ezw_aload_n rfl rfl ?_
      refine ezm_g3 rfl ?_
      refine ezm_s75 hT rfl (by omega) (by omega) ⟨by omega, by omega⟩ (fun r75_7 hT er75_7 fr75_7 => ?_)
      refine ezw_aload_n rfl rfl ?_
      refine ezw_iconst (0) rfl rfl ?_
      refine ezm_p7 hT rfl ⟨by omega, by omega⟩ (fun hT => ?_)
      refine ezw_aload_n rfl rfl ?_
      refine ezw_iconst (0) rfl rfl ?_
      refine ezm_p8 hT rfl ⟨by omega, by omega⟩ (fun hT => ?_)
      exact ezw_return rfl rfl ⟨(0), i2, (0), (0), r74_6, r75_7, x76_3, rfl, hT, by omega, by omega, by omega, ⟨y4, by omega, by omega, er74_6⟩, rfl⟩
    · refine ezw_aload_n rfl rfl ?_
      refine ezm_gp (p := 73) rfl (fun _ => rfl) ?_
      refine ezw_iload_n rfl rfl ?_
      refine ezm_l73 rfl (by omega) (by omega) (fun u8 eu8 => ?_)
      have ku8 : ezw_in u8 := eu8 ▸ hT.t73 c2
      refine ezw_istore_n rfl rfl ?_
      refine ezw_iload_n rfl rfl ?_
      refine ezw_bipush (10) rfl rfl ?_
      refine ezw_icmp_eq rfl rfl ku8 ⟨by decide, by decide⟩ (fun h35_8 => ?_) (fun h35_8 => ?_)
      · refine ezw_iinc (k := c2 + 1) (1) rfl rfl rfl (by omega) rfl ?_
        refine ezw_goto rfl rfl ?_
        exact ezw_keepE [true, true, true, false, false, false, false] (ihc2 (c2 + 1) (by omega) ⟨by omega, by omega⟩ y4 hy4 x74_3 x75_3 x76_3 hT (by omega) (by omega))
      · refine ezw_iload_n rfl rfl ?_
        refine ezw_bipush (32) rfl rfl ?_
        refine ezw_icmp_ne rfl rfl ku8 ⟨by decide, by decide⟩ (fun h41_8 => ?_) (fun h41_8 => ?_)
        · refine ezw_iload_n rfl rfl ?_
          refine ezw_istore rfl rfl ?_
          refine ezw_lconst (0) rfl rfl ?_
          refine ezw_lstore rfl rfl ?_
          refine ezw_aload_n rfl rfl ?_
          refine ezm_gp (p := 75) rfl (fun _ => rfl) ?_
          refine ezw_iload_n rfl rfl ?_
          refine ezw_iload_n rfl rfl ?_
          refine ezm_s75 hT rfl (by omega) (by omega) ⟨by omega, by omega⟩ (fun r75_9 hT er75_9 fr75_9 => ?_)
          refine ezw_iload_n rfl rfl ?_
          refine ezw_call2_1 rfl (by omega) rfl rfl (ezm_m219 hT (by omega) ku8) ?_
          rintro _ _ ⟨rfl, u11, hu11, p10_0, p10_1, rfl⟩
          refine ezw_if_eq rfl rfl ⟨by omega, by omega⟩ (fun h67_11 => ?_) (fun h67_11 => ?_)
          · refine ezw_iload_n rfl rfl ?_
            refine ezw_call2_1 rfl (by omega) rfl rfl (ezm_m221 hT (by omega) ku8) ?_
            rintro _ _ ⟨rfl, u13, hu13, p12_0, p12_1, rfl⟩
            refine ezw_if_eq rfl rfl ⟨by omega, by omega⟩ (fun h156_13 => ?_) (fun h156_13 => ?_)
            · refine ezw_iload_n rfl rfl ?_
              refine ezw_i2l rfl ku8 rfl ?_
              refine ezw_lstore rfl rfl ?_
              refine ezw_aload_n rfl rfl ?_
              refine ezm_gp (p := 74) rfl (fun _ => rfl) ?_
              refine ezw_iload_n rfl rfl ?_
              refine ezw_iload_n rfl rfl ?_
              refine ezw_call2_1 rfl (by omega) rfl rfl (ezm_m222 hT (by omega) ku8) ?_
              rintro _ _ ⟨rfl, u15, hu15, rfl⟩
              refine ezw_if_eq rfl rfl ⟨by omega, by omega⟩ (fun h253_15 => ?_) (fun h253_15 => ?_)
              · refine ezw_iconst (4) rfl rfl ?_
                refine ezm_s74 hT rfl (by omega) (by omega) ⟨by decide, by decide⟩ (fun r74_16 hT er74_16 fr74_16 => ?_)
                refine ezw_iinc (k := c2 + 1) (1) rfl rfl rfl (by omega) rfl ?_
                refine ezw_aload_n rfl rfl ?_
                refine ezm_gp (p := 76) rfl (fun _ => rfl) ?_
                refine ezw_iload_n rfl rfl ?_
                refine ezw_lload rfl rfl ?_
                refine ezm_s76 hT rfl (by omega) (by omega) (ezw_in_il ku8) (fun r76_17 hT er76_17 fr76_17 => ?_)
                refine ezw_iinc (k := y4 + 1) (1) rfl rfl rfl (by omega) rfl ?_
                refine ezw_goto rfl rfl ?_
                exact ezw_keepE [true, true, true, false, false, false, false] (ihc2 (c2 + 1) (by omega) ⟨by omega, by omega⟩ (y4 + 1) ⟨by omega, by omega⟩ r74_16 r75_9 r76_17 hT (by omega) (by omega))
              · refine ezw_iconst (3) rfl rfl ?_
                refine ezw_goto rfl rfl ?_
                refine ezm_s74 hT rfl (by omega) (by omega) ⟨by decide, by decide⟩ (fun r74_18 hT er74_18 fr74_18 => ?_)
                refine ezw_iinc (k := c2 + 1) (1) rfl rfl rfl (by omega) rfl ?_
                refine ezw_aload_n rfl rfl ?_
                refine ezm_gp (p := 76) rfl (fun _ => rfl) ?_
                refine ezw_iload_n rfl rfl ?_
                refine ezw_lload rfl rfl ?_
                refine ezm_s76 hT rfl (by omega) (by omega) (ezw_in_il ku8) (fun r76_19 hT er76_19 fr76_19 => ?_)
                refine ezw_iinc (k := y4 + 1) (1) rfl rfl rfl (by omega) rfl ?_
                refine ezw_goto rfl rfl ?_
                exact ezw_keepE [true, true, true, false, false, false, false] (ihc2 (c2 + 1) (by omega) ⟨by omega, by omega⟩ (y4 + 1) ⟨by omega, by omega⟩ r74_18 r75_9 r76_19 hT (by omega) (by omega))
            · have L159_21 : ∀ c20 : Int, ezw_in c20 → ∀ y22 : Int, ezw_il y22 → (c2 ≤ c20) → (c20 ≤ i2) → ezw_E l ρ B xa Hb D cA d ezq_re218 (ezm_m218Q  e F A i0 i2 i3 i7 i8 i13 i18 i19 i20 i25 i29 i30 i31 i36 i37 i38 r73 r74 r75 r76 r77 r78 r79 r80 r81 r82 r83 r84 r85 r86 r87 r88 r89 r90 r91 r92 r93 r94 r95) 159 [some (ezw_p 72), some (ezw_i y4), some (ezw_i c20), some (ezw_i u8), some (ezw_i c2), some (ezw_l y22), none] [] (ezm_h e F A i0 (0) i2 i7 i8 i13 i18 i19 i20 i25 i29 i30 i31 i36 i37 i38 r73 x74_3 r75_9 x76_3 r77 r78 r79 r80 r81 r82 r83 r84 r85 r86 r87 r88 r89 r90 r91 r92 r93 r94 r95) := by
                refine ezs_up ?_
                intro c20 hc20 ihc20 y22 hy22 g_21 v1_21
                refine ezw_iload_n rfl rfl ?_
                refine ezw_aload_n rfl rfl ?_
                refine ezm_g3 rfl ?_
                refine ezw_icmp_ge rfl rfl hc20 ⟨by omega, by omega⟩ (fun h164_22 => ?_) (fun h164_22 => ?_)
                · have hp : c2 < c20 := by
                    rcases Int.lt_or_eq_of_le (show c2 ≤ c20 by omega) with h | h
                    · exact h
                    · exfalso
                      subst h
                      omega
                  refine ezw_aload_n rfl rfl ?_
                  refine ezm_gp (p := 74) rfl (fun _ => rfl) ?_
                  refine ezw_iload_n rfl rfl ?_
                  refine ezw_iload_n rfl rfl ?_
                  refine ezw_iload rfl rfl ?_
                  refine ezw_isub (k := c20 - c2) rfl (by omega) ?_
                  refine ezw_iconst (4) rfl rfl ?_
                  refine ezw_icmp_le rfl rfl ⟨by omega, by omega⟩ ⟨by decide, by decide⟩ (fun h228_22 => ?_) (fun h228_22 => ?_)
                  · refine ezw_iconst (2) rfl rfl ?_
                    refine ezm_s74 hT rfl (by omega) (by omega) ⟨by decide, by decide⟩ (fun r74_23 hT er74_23 fr74_23 => ?_)
                    refine ezw_goto rfl rfl ?_
                    refine ezw_aload_n rfl rfl ?_
                    refine ezm_gp (p := 76) rfl (fun _ => rfl) ?_
                    refine ezw_iload_n rfl rfl ?_
                    refine ezw_lload rfl rfl ?_
                    refine ezm_s76 hT rfl (by omega) (by omega) hy22 (fun r76_24 hT er76_24 fr76_24 => ?_)
                    refine ezw_iinc (k := y4 + 1) (1) rfl rfl rfl (by omega) rfl ?_
                    refine ezw_goto rfl rfl ?_
                    exact ezw_keepE [true, true, true, false, false, false, false] (ihc2 c20 (by omega) hc20 (y4 + 1) ⟨by omega, by omega⟩ r74_23 r75_9 r76_24 hT (by omega) (by omega))
                  · refine ezw_iconst (4) rfl rfl ?_
                    refine ezw_goto rfl rfl ?_
                    refine ezm_s74 hT rfl (by omega) (by omega) ⟨by decide, by decide⟩ (fun r74_25 hT er74_25 fr74_25 => ?_)
                    refine ezw_goto rfl rfl ?_
                    refine ezw_aload_n rfl rfl ?_
                    refine ezm_gp (p := 76) rfl (fun _ => rfl) ?_
                    refine ezw_iload_n rfl rfl ?_
                    refine ezw_lload rfl rfl ?_
                    refine ezm_s76 hT rfl (by omega) (by omega) hy22 (fun r76_26 hT er76_26 fr76_26 => ?_)
                    refine ezw_iinc (k := y4 + 1) (1) rfl rfl rfl (by omega) rfl ?_
                    refine ezw_goto rfl rfl ?_
                    exact ezw_keepE [true, true, true, false, false, false, false] (ihc2 c20 (by omega) hc20 (y4 + 1) ⟨by omega, by omega⟩ r74_25 r75_9 r76_26 hT (by omega) (by omega))
                · refine ezw_aload_n rfl rfl ?_
                  refine ezm_gp (p := 73) rfl (fun _ => rfl) ?_
                  refine ezw_iload_n rfl rfl ?_
                  refine ezm_l73 rfl (by omega) (by omega) (fun u27 eu27 => ?_)
                  have ku27 : ezw_in u27 := eu27 ▸ hT.t73 c20
                  refine ezw_call2_1 rfl (by omega) rfl rfl (ezm_m221 hT (by omega) ku27) ?_
                  rintro _ _ ⟨rfl, u29, hu29, p28_0, p28_1, rfl⟩
                  refine ezw_if_eq rfl rfl ⟨by omega, by omega⟩ (fun h176_29 => ?_) (fun h176_29 => ?_)
                  · have hp : c2 < c20 := by
                      rcases Int.lt_or_eq_of_le (show c2 ≤ c20 by omega) with h | h
                      · exact h
                      · exfalso
                        subst h
                        omega
                    refine ezw_aload_n rfl rfl ?_
                    refine ezm_gp (p := 74) rfl (fun _ => rfl) ?_
                    refine ezw_iload_n rfl rfl ?_
                    refine ezw_iload_n rfl rfl ?_
                    refine ezw_iload rfl rfl ?_
                    refine ezw_isub (k := c20 - c2) rfl (by omega) ?_
                    refine ezw_iconst (4) rfl rfl ?_
                    refine ezw_icmp_le rfl rfl ⟨by omega, by omega⟩ ⟨by decide, by decide⟩ (fun h228_29 => ?_) (fun h228_29 => ?_)
                    · refine ezw_iconst (2) rfl rfl ?_
                      refine ezm_s74 hT rfl (by omega) (by omega) ⟨by decide, by decide⟩ (fun r74_30 hT er74_30 fr74_30 => ?_)
                      refine ezw_goto rfl rfl ?_
                      refine ezw_aload_n rfl rfl ?_
                      refine ezm_gp (p := 76) rfl (fun _ => rfl) ?_
                      refine ezw_iload_n rfl rfl ?_
                      refine ezw_lload rfl rfl ?_
                      refine ezm_s76 hT rfl (by omega) (by omega) hy22 (fun r76_31 hT er76_31 fr76_31 => ?_)
                      refine ezw_iinc (k := y4 + 1) (1) rfl rfl rfl (by omega) rfl ?_
                      refine ezw_goto rfl rfl ?_
                      exact ezw_keepE [true, true, true, false, false, false, false] (ihc2 c20 (by omega) hc20 (y4 + 1) ⟨by omega, by omega⟩ r74_30 r75_9 r76_31 hT (by omega) (by omega))
                    · refine ezw_iconst (4) rfl rfl ?_
                      refine ezw_goto rfl rfl ?_
                      refine ezm_s74 hT rfl (by omega) (by omega) ⟨by decide, by decide⟩ (fun r74_32 hT er74_32 fr74_32 => ?_)
                      refine ezw_goto rfl rfl ?_
                      refine ezw_aload_n rfl rfl ?_
                      refine ezm_gp (p := 76) rfl (fun _ => rfl) ?_
                      refine ezw_iload_n rfl rfl ?_
                      refine ezw_lload rfl rfl ?_
                      refine ezm_s76 hT rfl (by omega) (by omega) hy22 (fun r76_33 hT er76_33 fr76_33 => ?_)
                      refine ezw_iinc (k := y4 + 1) (1) rfl rfl rfl (by omega) rfl ?_
                      refine ezw_goto rfl rfl ?_
                      exact ezw_keepE [true, true, true, false, false, false, false] (ihc2 c20 (by omega) hc20 (y4 + 1) ⟨by omega, by omega⟩ r74_32 r75_9 r76_33 hT (by omega) (by omega))
                  · refine ezw_iload_n rfl rfl ?_
                    refine ezw_iload rfl rfl ?_
                    refine ezw_isub (k := c20 - c2) rfl (by omega) ?_
                    refine ezw_iconst (4) rfl rfl ?_
                    refine ezw_icmp_ge rfl rfl ⟨by omega, by omega⟩ ⟨by decide, by decide⟩ (fun h184_33 => ?_) (fun h184_33 => ?_)
                    · refine ezw_lload rfl rfl ?_
                      refine ezw_lstore rfl rfl ?_
                      refine ezw_iinc (k := c20 + 1) (1) rfl rfl rfl (by omega) rfl ?_
                      refine ezw_goto rfl rfl ?_
                      exact ezw_keepE [true, true, true, true, true, true, false] (ihc20 (c20 + 1) (by omega) ⟨by omega, by omega⟩ y22 hy22 (by omega) (by omega))
                    · refine ezw_ldc2_w (10) rfl rfl ?_
                      refine ezw_lload rfl rfl ?_
                      refine ezs_lmul rfl (fun u34 hu34 => ?_)
                      refine ezw_aload_n rfl rfl ?_
                      refine ezm_gp (p := 73) rfl (fun _ => rfl) ?_
                      refine ezw_iload_n rfl rfl ?_
                      refine ezm_l73 rfl (by omega) (by omega) (fun u35 eu35 => ?_)
                      have fu35 : u27 = u35 := eu27.trans eu35.symm
                      subst fu35
                      refine ezw_i2l rfl ku27 rfl ?_
                      refine ezs_ladd rfl (fun u36 hu36 => ?_)
                      refine ezw_ldc2_w (48) rfl rfl ?_
                      refine ezs_lsub rfl (fun u37 hu37 => ?_)
                      refine ezw_goto rfl rfl ?_
                      refine ezw_lstore rfl rfl ?_
                      refine ezw_iinc (k := c20 + 1) (1) rfl rfl rfl (by omega) rfl ?_
                      refine ezw_goto rfl rfl ?_
                      exact ezw_keepE [true, true, true, true, true, true, false] (ihc20 (c20 + 1) (by omega) ⟨by omega, by omega⟩ u37 hu37 (by omega) (by omega))
              exact ezw_keepE [true, true, true, true, true, true, false] (L159_21 c2 hc2 (0) ⟨by decide, by decide⟩ (by omega) (by omega))
          · have L70_39 : ∀ c38 : Int, ezw_in c38 → ∀ y40 : Int, ezw_il y40 → (c2 ≤ c38) → (c38 ≤ i2) → ezw_E l ρ B xa Hb D cA d ezq_re218 (ezm_m218Q  e F A i0 i2 i3 i7 i8 i13 i18 i19 i20 i25 i29 i30 i31 i36 i37 i38 r73 r74 r75 r76 r77 r78 r79 r80 r81 r82 r83 r84 r85 r86 r87 r88 r89 r90 r91 r92 r93 r94 r95) 70 [some (ezw_p 72), some (ezw_i y4), some (ezw_i c38), some (ezw_i u8), some (ezw_i c2), some (ezw_l y40), none] [] (ezm_h e F A i0 (0) i2 i7 i8 i13 i18 i19 i20 i25 i29 i30 i31 i36 i37 i38 r73 x74_3 r75_9 x76_3 r77 r78 r79 r80 r81 r82 r83 r84 r85 r86 r87 r88 r89 r90 r91 r92 r93 r94 r95) := by
              refine ezs_up ?_
              intro c38 hc38 ihc38 y40 hy40 g_39 v1_39
              refine ezw_iload_n rfl rfl ?_
              refine ezw_aload_n rfl rfl ?_
              refine ezm_g3 rfl ?_
              refine ezw_icmp_ge rfl rfl hc38 ⟨by omega, by omega⟩ (fun h75_40 => ?_) (fun h75_40 => ?_)
              · have hp : c2 < c38 := by
                  rcases Int.lt_or_eq_of_le (show c2 ≤ c38 by omega) with h | h
                  · exact h
                  · exfalso
                    subst h
                    omega
                refine ezw_aload_n rfl rfl ?_
                refine ezm_gp (p := 74) rfl (fun _ => rfl) ?_
                refine ezw_iload_n rfl rfl ?_
                refine ezw_iload_n rfl rfl ?_
                refine ezw_iload rfl rfl ?_
                refine ezw_isub (k := c38 - c2) rfl (by omega) ?_
                refine ezw_bipush (8) rfl rfl ?_
                refine ezw_icmp_le rfl rfl ⟨by omega, by omega⟩ ⟨by decide, by decide⟩ (fun h140_40 => ?_) (fun h140_40 => ?_)
                · refine ezw_iconst (1) rfl rfl ?_
                  refine ezm_s74 hT rfl (by omega) (by omega) ⟨by decide, by decide⟩ (fun r74_41 hT er74_41 fr74_41 => ?_)
                  refine ezw_goto rfl rfl ?_
                  refine ezw_aload_n rfl rfl ?_
                  refine ezm_gp (p := 76) rfl (fun _ => rfl) ?_
                  refine ezw_iload_n rfl rfl ?_
                  refine ezw_lload rfl rfl ?_
                  refine ezm_s76 hT rfl (by omega) (by omega) hy40 (fun r76_42 hT er76_42 fr76_42 => ?_)
                  refine ezw_iinc (k := y4 + 1) (1) rfl rfl rfl (by omega) rfl ?_
                  refine ezw_goto rfl rfl ?_
                  exact ezw_keepE [true, true, true, false, false, false, false] (ihc2 c38 (by omega) hc38 (y4 + 1) ⟨by omega, by omega⟩ r74_41 r75_9 r76_42 hT (by omega) (by omega))
                · refine ezw_iconst (4) rfl rfl ?_
                  refine ezw_goto rfl rfl ?_
                  refine ezm_s74 hT rfl (by omega) (by omega) ⟨by decide, by decide⟩ (fun r74_43 hT er74_43 fr74_43 => ?_)
                  refine ezw_goto rfl rfl ?_
                  refine ezw_aload_n rfl rfl ?_
                  refine ezm_gp (p := 76) rfl (fun _ => rfl) ?_
                  refine ezw_iload_n rfl rfl ?_
                  refine ezw_lload rfl rfl ?_
                  refine ezm_s76 hT rfl (by omega) (by omega) hy40 (fun r76_44 hT er76_44 fr76_44 => ?_)
                  refine ezw_iinc (k := y4 + 1) (1) rfl rfl rfl (by omega) rfl ?_
                  refine ezw_goto rfl rfl ?_
                  exact ezw_keepE [true, true, true, false, false, false, false] (ihc2 c38 (by omega) hc38 (y4 + 1) ⟨by omega, by omega⟩ r74_43 r75_9 r76_44 hT (by omega) (by omega))
              · refine ezw_aload_n rfl rfl ?_
                refine ezm_gp (p := 73) rfl (fun _ => rfl) ?_
                refine ezw_iload_n rfl rfl ?_
                refine ezm_l73 rfl (by omega) (by omega) (fun u45 eu45 => ?_)
                have ku45 : ezw_in u45 := eu45 ▸ hT.t73 c38
                refine ezw_call2_1 rfl (by omega) rfl rfl (ezm_m219 hT (by omega) ku45) ?_
                rintro _ _ ⟨rfl, u47, hu47, p46_0, p46_1, rfl⟩
                refine ezw_if_eq rfl rfl ⟨by omega, by omega⟩ (fun h87_47 => ?_) (fun h87_47 => ?_)
                · have hp : c2 < c38 := by
                    rcases Int.lt_or_eq_of_le (show c2 ≤ c38 by omega) with h | h
                    · exact h
                    · exfalso
                      subst h
                      omega
                  refine ezw_aload_n rfl rfl ?_
                  refine ezm_gp (p := 74) rfl (fun _ => rfl) ?_
                  refine ezw_iload_n rfl rfl ?_
                  refine ezw_iload_n rfl rfl ?_
                  refine ezw_iload rfl rfl ?_
                  refine ezw_isub (k := c38 - c2) rfl (by omega) ?_
                  refine ezw_bipush (8) rfl rfl ?_
                  refine ezw_icmp_le rfl rfl ⟨by omega, by omega⟩ ⟨by decide, by decide⟩ (fun h140_47 => ?_) (fun h140_47 => ?_)
                  · refine ezw_iconst (1) rfl rfl ?_
                    refine ezm_s74 hT rfl (by omega) (by omega) ⟨by decide, by decide⟩ (fun r74_48 hT er74_48 fr74_48 => ?_)
                    refine ezw_goto rfl rfl ?_
                    refine ezw_aload_n rfl rfl ?_
                    refine ezm_gp (p := 76) rfl (fun _ => rfl) ?_
                    refine ezw_iload_n rfl rfl ?_
                    refine ezw_lload rfl rfl ?_
                    refine ezm_s76 hT rfl (by omega) (by omega) hy40 (fun r76_49 hT er76_49 fr76_49 => ?_)
                    refine ezw_iinc (k := y4 + 1) (1) rfl rfl rfl (by omega) rfl ?_
                    refine ezw_goto rfl rfl ?_
                    exact ezw_keepE [true, true, true, false, false, false, false] (ihc2 c38 (by omega) hc38 (y4 + 1) ⟨by omega, by omega⟩ r74_48 r75_9 r76_49 hT (by omega) (by omega))
                  · refine ezw_iconst (4) rfl rfl ?_
                    refine ezw_goto rfl rfl ?_
                    refine ezm_s74 hT rfl (by omega) (by omega) ⟨by decide, by decide⟩ (fun r74_50 hT er74_50 fr74_50 => ?_)
                    refine ezw_goto rfl rfl ?_
                    refine ezw_aload_n rfl rfl ?_
                    refine ezm_gp (p := 76) rfl (fun _ => rfl) ?_
                    refine ezw_iload_n rfl rfl ?_
                    refine ezw_lload rfl rfl ?_
                    refine ezm_s76 hT rfl (by omega) (by omega) hy40 (fun r76_51 hT er76_51 fr76_51 => ?_)
                    refine ezw_iinc (k := y4 + 1) (1) rfl rfl rfl (by omega) rfl ?_
                    refine ezw_goto rfl rfl ?_
                    exact ezw_keepE [true, true, true, false, false, false, false] (ihc2 c38 (by omega) hc38 (y4 + 1) ⟨by omega, by omega⟩ r74_50 r75_9 r76_51 hT (by omega) (by omega))
                · refine ezw_iload_n rfl rfl ?_
                  refine ezw_iload rfl rfl ?_
                  refine ezw_isub (k := c38 - c2) rfl (by omega) ?_
                  refine ezw_bipush (8) rfl rfl ?_
                  refine ezw_icmp_ge rfl rfl ⟨by omega, by omega⟩ ⟨by decide, by decide⟩ (fun h96_51 => ?_) (fun h96_51 => ?_)
                  · refine ezw_lload rfl rfl ?_
                    refine ezw_lstore rfl rfl ?_
                    refine ezw_iinc (k := c38 + 1) (1) rfl rfl rfl (by omega) rfl ?_
                    refine ezw_goto rfl rfl ?_
                    exact ezw_keepE [true, true, true, true, true, true, false] (ihc38 (c38 + 1) (by omega) ⟨by omega, by omega⟩ y40 hy40 (by omega) (by omega))
                  · refine ezw_ldc2_w (37) rfl rfl ?_
                    refine ezw_lload rfl rfl ?_
                    refine ezs_lmul rfl (fun u52 hu52 => ?_)
                    refine ezw_aload_n rfl rfl ?_
                    refine ezm_gp (p := 73) rfl (fun _ => rfl) ?_
                    refine ezw_iload_n rfl rfl ?_
                    refine ezm_l73 rfl (by omega) (by omega) (fun u53 eu53 => ?_)
                    have fu53 : u45 = u53 := eu45.trans eu53.symm
                    subst fu53
                    refine ezw_call2_1 rfl (by omega) rfl rfl (ezm_m220 hT (by omega) ku45) ?_
                    rintro _ _ ⟨rfl, u55, hu55, rfl⟩
                    refine ezw_i2l rfl hu55 rfl ?_
                    refine ezs_ladd rfl (fun u56 hu56 => ?_)
                    refine ezw_goto rfl rfl ?_
                    refine ezw_lstore rfl rfl ?_
                    refine ezw_iinc (k := c38 + 1) (1) rfl rfl rfl (by omega) rfl ?_
                    refine ezw_goto rfl rfl ?_
                    exact ezw_keepE [true, true, true, true, true, true, false] (ihc38 (c38 + 1) (by omega) ⟨by omega, by omega⟩ u56 hu56 (by omega) (by omega))
            exact ezw_keepE [true, true, true, true, true, true, false] (L70_39 c2 hc2 (0) ⟨by decide, by decide⟩ (by omega) (by omega))
        · refine ezw_iinc (k := c2 + 1) (1) rfl rfl rfl (by omega) rfl ?_
          refine ezw_goto rfl rfl ?_
          exact ezw_keepE [true, true, true, false, false, false, false] (ihc2 (c2 + 1) (by omega) ⟨by omega, by omega⟩ y4 hy4 x74_3 x75_3 x76_3 hT (by omega) (by omega))
  exact ezw_keepE [true, true, true, false, false, false, false] (L17_3 (0) ⟨by decide, by decide⟩ (0) ⟨by decide, by decide⟩ r74 r75 r76 hT (by omega) (by omega))
end KM6
