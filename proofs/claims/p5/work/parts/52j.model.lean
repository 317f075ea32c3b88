/-! ===== the model: what one does by hand ===== -/
section KM6
variable {l : Launch} {ρ : ezq_E} {B : Nat} {xa : Nat → Option Nat} {Hb : Heap} {D : va_G} {cA : Nat → ClassId} {d : Nat} {e : Bool × Bool} {F : Nat → Nat → Int} {A : Nat → Int → Int} {i0 i2 i3 i7 i8 i13 i18 i19 i20 i25 i29 i30 i31 i36 i37 i38 : Int} {r73 r74 r75 r76 r77 r78 r79 r80 r81 r82 r83 r84 r85 r86 r87 r88 r89 r90 r91 r92 r93 r94 r95 : Int → Int}
def ezm_m295Q (e : Bool × Bool) (F : Nat → Nat → Int) (A : Nat → Int → Int) (i0 i2 i3 i7 i8 i13 i18 i19 i20 i25 i29 i30 i31 i36 i37 i38 : Int) (r73 r74 r75 r76 r77 r78 r79 r80 r81 r82 r83 r84 r85 r86 r87 r88 r89 r90 r91 r92 r93 r94 r95 : Int → Int) (a1 : Int) : Option ezq_V → (Nat → ezq_C) → Prop := fun v g' => ∃  (x86 x87 x88 : Int → Int), ezm_h e F A i0 i2 i3 i7 i8 i13 i18 i19 i20 i25 i29 i30 i31 i36 i37 i38 r73 r74 r75 r76 r77 r78 r79 r80 r81 r82 r83 r84 r85 x86 x87 x88 r89 r90 r91 r92 r93 r94 r95 = g' ∧ ezm_T i0 i2 i3 i7 i8 i13 i18 i19 i20 i25 i29 i30 i31 i36 i37 i38 r73 r74 r75 r76 r77 r78 r79 r80 r81 r82 r83 r84 r85 x86 x87 x88 r89 r90 r91 r92 r93 r94 r95 ∧ ∃ u : Int, (0 ≤ u ∧ u ≤ 1) ∧ (∀ j, j < 1050 ∨ 1070 ≤ j → x88 j = r88 j) ∧ (ezm_SV r78 x88 (1050)) ∧ some (ezw_i u) = v
theorem ezm_m295 {a1 : Int} (hT : ezm_T i0 i2 i3 i7 i8 i13 i18 i19 i20 i25 i29 i30 i31 i36 i37 i38 r73 r74 r75 r76 r77 r78 r79 r80 r81 r82 r83 r84 r85 r86 r87 r88 r89 r90 r91 r92 r93 r94 r95) (hd : 5 ≤ d) (ha1 : ezw_in a1) (ga : 1 ≤ a1 ∧ a1 ≤ 93) (tr : ezm_TR r78 r79 r80) (sv : ezm_SV r78 r88 (1050)) : ezw_C l ρ B xa Hb D cA 295 d [ezw_p 72, ezw_i a1] (ezm_h e F A i0 i2 i3 i7 i8 i13 i18 i19 i20 i25 i29 i30 i31 i36 i37 i38 r73 r74 r75 r76 r77 r78 r79 r80 r81 r82 r83 r84 r85 r86 r87 r88 r89 r90 r91 r92 r93 r94 r95) (ezm_m295Q  e F A i0 i2 i3 i7 i8 i13 i18 i19 i20 i25 i29 i30 i31 i36 i37 i38 r73 r74 r75 r76 r77 r78 r79 r80 r81 r82 r83 r84 r85 r86 r87 r88 r89 r90 r91 r92 r93 r94 r95 a1) := by
  refine ezw_met (k := 3) rfl rfl ?_
  have b0 := ezm_zs0 (hT.t88 (1050)) (by decide)
  refine ezw_aload_n rfl rfl ?_
  refine ezm_gp (p := 85) rfl (fun _ => rfl) ?_
  refine ezw_iload_n rfl rfl ?_
  refine ezm_l85 rfl (by omega) (by omega) (fun u1 eu1 => ?_)
  have ku1 : ezm_k85 a1 u1 := eu1 ▸ hT.t85 a1
  have zu1 := ezm_zl1 ku1 (by omega)
  refine ezw_istore_n rfl rfl ?_
  refine ezw_aload_n rfl rfl ?_
  refine ezm_gp (p := 85) rfl (fun _ => rfl) ?_
  refine ezw_iload_n rfl rfl ?_
  refine ezw_iconst (1) rfl rfl ?_
  refine ezw_iadd (k := a1 + 1) rfl (by omega) ?_
  refine ezm_l85 rfl (by omega) (by omega) (fun u2 eu2 => ?_)
  have ku2 : ezm_k85 (a1 + 1) u2 := eu2 ▸ hT.t85 (a1 + 1)
  have zu2 := ezm_zl1 ku2 (by omega)
  refine ezw_istore_n rfl rfl ?_
  refine ezw_iload_n rfl rfl ?_
  have J133_4 : ∀ y3 : Int, ezw_in y3 → ∀ x86_4 : Int → Int, ∀ x87_4 : Int → Int, ezm_T i0 i2 i3 i7 i8 i13 i18 i19 i20 i25 i29 i30 i31 i36 i37 i38 r73 r74 r75 r76 r77 r78 r79 r80 r81 r82 r83 r84 r85 x86_4 x87_4 r88 r89 r90 r91 r92 r93 r94 r95 → (0 ≤ y3 ∧ y3 ≤ 1) → (y3 ≠ 0 → u1 = 1 → 0 < r88 (ezm_la r88 (1050) + 1057)) → ezw_E l ρ B xa Hb D cA d ezq_re295 (ezm_m295Q  e F A i0 i2 i3 i7 i8 i13 i18 i19 i20 i25 i29 i30 i31 i36 i37 i38 r73 r74 r75 r76 r77 r78 r79 r80 r81 r82 r83 r84 r85 r86 r87 r88 r89 r90 r91 r92 r93 r94 r95 a1) 133 [some (ezw_p 72), some (ezw_i a1), some (ezw_i u1), some (ezw_i u2), none] [ezw_i y3] (ezm_h e F A i0 i2 i3 i7 i8 i13 i18 i19 i20 i25 i29 i30 i31 i36 i37 i38 r73 r74 r75 r76 r77 r78 r79 r80 r81 r82 r83 r84 r85 x86_4 x87_4 r88 r89 r90 r91 r92 r93 r94 r95) := by
    intro y3 hy3 x86_4 x87_4 hT c0_4 c1_4
    refine ezw_istore rfl rfl ?_
    refine ezw_iload rfl rfl ?_
    refine ezw_if_eq rfl rfl hy3 (fun h137_4 => ?_) (fun h137_4 => ?_)
    · refine ezw_iload rfl rfl ?_
      refine ezw_if_eq rfl rfl hy3 (fun h172_4 => ?_) (fun h172_4 => ?_)
      · refine ezw_iload rfl rfl ?_
        refine ezw_if_eq rfl rfl hy3 (fun h205_4 => ?_) (fun h205_4 => ?_)
        · refine ezw_iload rfl rfl ?_
          refine ezw_if_eq rfl rfl hy3 (fun h232_4 => ?_) (fun h232_4 => ?_)
          · refine ezw_iload rfl rfl ?_
            refine ezw_if_eq rfl rfl hy3 (fun h261_4 => ?_) (fun h261_4 => ?_)
            · refine ezw_iload rfl rfl ?_
              refine ezw_if_eq rfl rfl hy3 (fun h283_4 => ?_) (fun h283_4 => ?_)
              · refine ezw_iload rfl rfl ?_
                exact ezw_ireturn rfl (ezw_zret ⟨by omega, by omega⟩) ⟨x86_4, x87_4, r88, rfl, hT, y3, ⟨by omega, by omega⟩, fun _ _ => rfl, sv, rfl⟩
              · refine ezw_aload_n rfl rfl ?_
                refine ezw_sipush (1050) rfl rfl ?_
                refine ezw_iload_n rfl rfl ?_
                refine ezw_call0_2 rfl (by omega) (ezm_at rfl) rfl rfl rfl rfl (ezm_m277_v1050 hT (by omega) (ezm_in85 ku2) (by omega) sv) ?_
                rintro _ _ ⟨x88_5, rfl, hT, fb_5, sv_5, rfl⟩
                refine ezw_iload rfl rfl ?_
                exact ezw_ireturn rfl (ezw_zret ⟨by omega, by omega⟩) ⟨x86_4, x87_4, x88_5, rfl, hT, y3, ⟨by omega, by omega⟩, fb_5, sv_5, rfl⟩
            · refine ezw_iload_n rfl rfl ?_
              refine ezw_bipush (6) rfl rfl ?_
              refine ezw_icmp_ne rfl rfl (ezm_in85 ku1) ⟨by decide, by decide⟩ (fun h267_5 => ?_) (fun h267_5 => ?_)
              · refine ezw_iload rfl rfl ?_
                refine ezw_if_eq rfl rfl hy3 (fun h283_5 => ?_) (fun h283_5 => ?_)
                · refine ezw_iload rfl rfl ?_
                  exact ezw_ireturn rfl (ezw_zret ⟨by omega, by omega⟩) ⟨x86_4, x87_4, r88, rfl, hT, y3, ⟨by omega, by omega⟩, fun _ _ => rfl, sv, rfl⟩
                · refine ezw_aload_n rfl rfl ?_
                  refine ezw_sipush (1050) rfl rfl ?_
                  refine ezw_iload_n rfl rfl ?_
                  refine ezw_call0_2 rfl (by omega) (ezm_at rfl) rfl rfl rfl rfl (ezm_m277_v1050 hT (by omega) (ezm_in85 ku2) (by omega) sv) ?_
                  rintro _ _ ⟨x88_6, rfl, hT, fb_6, sv_6, rfl⟩
                  refine ezw_iload rfl rfl ?_
                  exact ezw_ireturn rfl (ezw_zret ⟨by omega, by omega⟩) ⟨x86_4, x87_4, x88_6, rfl, hT, y3, ⟨by omega, by omega⟩, fb_6, sv_6, rfl⟩
              · refine ezw_aload_n rfl rfl ?_
                refine ezw_sipush (1050) rfl rfl ?_
                refine ezw_iload_n rfl rfl ?_
                refine ezw_call0_2 rfl (by omega) (ezm_at rfl) rfl rfl rfl rfl (ezm_m289_v1050 hT (by omega) (ezm_in85 ku2) sv) ?_
                rintro _ _ ⟨x88_7, rfl, hT, fb_7, sv_7, rfl⟩
                refine ezw_goto rfl rfl ?_
                refine ezw_iload rfl rfl ?_
                exact ezw_ireturn rfl (ezw_zret ⟨by omega, by omega⟩) ⟨x86_4, x87_4, x88_7, rfl, hT, y3, ⟨by omega, by omega⟩, fb_7, sv_7, rfl⟩
          · refine ezw_iload_n rfl rfl ?_
            refine ezw_iconst (3) rfl rfl ?_
            refine ezw_icmp_ne rfl rfl (ezm_in85 ku1) ⟨by decide, by decide⟩ (fun h237_7 => ?_) (fun h237_7 => ?_)
            · refine ezw_iload rfl rfl ?_
              refine ezw_if_eq rfl rfl hy3 (fun h261_7 => ?_) (fun h261_7 => ?_)
              · refine ezw_iload rfl rfl ?_
                refine ezw_if_eq rfl rfl hy3 (fun h283_7 => ?_) (fun h283_7 => ?_)
                · refine ezw_iload rfl rfl ?_
                  exact ezw_ireturn rfl (ezw_zret ⟨by omega, by omega⟩) ⟨x86_4, x87_4, r88, rfl, hT, y3, ⟨by omega, by omega⟩, fun _ _ => rfl, sv, rfl⟩
                · refine ezw_aload_n rfl rfl ?_
                  refine ezw_sipush (1050) rfl rfl ?_
                  refine ezw_iload_n rfl rfl ?_
                  refine ezw_call0_2 rfl (by omega) (ezm_at rfl) rfl rfl rfl rfl (ezm_m277_v1050 hT (by omega) (ezm_in85 ku2) (by omega) sv) ?_
                  rintro _ _ ⟨x88_8, rfl, hT, fb_8, sv_8, rfl⟩
                  refine ezw_iload rfl rfl ?_
                  exact ezw_ireturn rfl (ezw_zret ⟨by omega, by omega⟩) ⟨x86_4, x87_4, x88_8, rfl, hT, y3, ⟨by omega, by omega⟩, fb_8, sv_8, rfl⟩
              · refine ezw_iload_n rfl rfl ?_
                refine ezw_bipush (6) rfl rfl ?_
                refine ezw_icmp_ne rfl rfl (ezm_in85 ku1) ⟨by decide, by decide⟩ (fun h267_8 => ?_) (fun h267_8 => ?_)
                · refine ezw_iload rfl rfl ?_
                  refine ezw_if_eq rfl rfl hy3 (fun h283_8 => ?_) (fun h283_8 => ?_)
                  · refine ezw_iload rfl rfl ?_
                    exact ezw_ireturn rfl (ezw_zret ⟨by omega, by omega⟩) ⟨x86_4, x87_4, r88, rfl, hT, y3, ⟨by omega, by omega⟩, fun _ _ => rfl, sv, rfl⟩
                  · refine ezw_aload_n rfl rfl ?_
                    refine ezw_sipush (1050) rfl rfl ?_
                    refine ezw_iload_n rfl rfl ?_
                    refine ezw_call0_2 rfl (by omega) (ezm_at rfl) rfl rfl rfl rfl (ezm_m277_v1050 hT (by omega) (ezm_in85 ku2) (by omega) sv) ?_
                    rintro _ _ ⟨x88_9, rfl, hT, fb_9, sv_9, rfl⟩
                    refine ezw_iload rfl rfl ?_
                    exact ezw_ireturn rfl (ezw_zret ⟨by omega, by omega⟩) ⟨x86_4, x87_4, x88_9, rfl, hT, y3, ⟨by omega, by omega⟩, fb_9, sv_9, rfl⟩
                · refine ezw_aload_n rfl rfl ?_
                  refine ezw_sipush (1050) rfl rfl ?_
                  refine ezw_iload_n rfl rfl ?_
                  refine ezw_call0_2 rfl (by omega) (ezm_at rfl) rfl rfl rfl rfl (ezm_m289_v1050 hT (by omega) (ezm_in85 ku2) sv) ?_
                  rintro _ _ ⟨x88_10, rfl, hT, fb_10, sv_10, rfl⟩
                  refine ezw_goto rfl rfl ?_
                  refine ezw_iload rfl rfl ?_
                  exact ezw_ireturn rfl (ezw_zret ⟨by omega, by omega⟩) ⟨x86_4, x87_4, x88_10, rfl, hT, y3, ⟨by omega, by omega⟩, fb_10, sv_10, rfl⟩
            · refine ezw_aload_n rfl rfl ?_
              refine ezw_sipush (1050) rfl rfl ?_
              refine ezw_iload_n rfl rfl ?_
              refine ezw_aload_n rfl rfl ?_
              refine ezm_gp (p := 85) rfl (fun _ => rfl) ?_
              refine ezw_iload_n rfl rfl ?_
              refine ezw_iconst (2) rfl rfl ?_
              refine ezw_iadd (k := a1 + 2) rfl (by omega) ?_
              refine ezm_l85 rfl (by omega) (by omega) (fun u11 eu11 => ?_)
              have ku11 : ezm_k85 (a1 + 2) u11 := eu11 ▸ hT.t85 (a1 + 2)
              have zu11 := ezm_zl1 ku11 (by omega)
              refine ezw_call0_3 rfl (by omega) (ezm_at rfl) rfl rfl rfl rfl (ezm_m284_v1050 hT (by omega) (ezm_in85 ku2) (ezm_in85 ku11) (by omega) sv) ?_
              rintro _ _ ⟨x88_12, rfl, hT, fb_12, sv_12, rfl⟩
              refine ezw_goto rfl rfl ?_
              refine ezw_iload rfl rfl ?_
              exact ezw_ireturn rfl (ezw_zret ⟨by omega, by omega⟩) ⟨x86_4, x87_4, x88_12, rfl, hT, y3, ⟨by omega, by omega⟩, fb_12, sv_12, rfl⟩
        · refine ezw_iload_n rfl rfl ?_
          refine ezw_iconst (2) rfl rfl ?_
          refine ezw_icmp_ne rfl rfl (ezm_in85 ku1) ⟨by decide, by decide⟩ (fun h210_12 => ?_) (fun h210_12 => ?_)
          · refine ezw_iload rfl rfl ?_
            refine ezw_if_eq rfl rfl hy3 (fun h232_12 => ?_) (fun h232_12 => ?_)
            · refine ezw_iload rfl rfl ?_
              refine ezw_if_eq rfl rfl hy3 (fun h261_12 => ?_) (fun h261_12 => ?_)
              · refine ezw_iload rfl rfl ?_
                refine ezw_if_eq rfl rfl hy3 (fun h283_12 => ?_) (fun h283_12 => ?_)
                · refine ezw_iload rfl rfl ?_
                  exact ezw_ireturn rfl (ezw_zret ⟨by omega, by omega⟩) ⟨x86_4, x87_4, r88, rfl, hT, y3, ⟨by omega, by omega⟩, fun _ _ => rfl, sv, rfl⟩
                · refine ezw_aload_n rfl rfl ?_
                  refine ezw_sipush (1050) rfl rfl ?_
                  refine ezw_iload_n rfl rfl ?_
                  refine ezw_call0_2 rfl (by omega) (ezm_at rfl) rfl rfl rfl rfl (ezm_m277_v1050 hT (by omega) (ezm_in85 ku2) (by omega) sv) ?_
                  rintro _ _ ⟨x88_13, rfl, hT, fb_13, sv_13, rfl⟩
                  refine ezw_iload rfl rfl ?_
                  exact ezw_ireturn rfl (ezw_zret ⟨by omega, by omega⟩) ⟨x86_4, x87_4, x88_13, rfl, hT, y3, ⟨by omega, by omega⟩, fb_13, sv_13, rfl⟩
              · refine ezw_iload_n rfl rfl ?_
                refine ezw_bipush (6) rfl rfl ?_
                refine ezw_icmp_ne rfl rfl (ezm_in85 ku1) ⟨by decide, by decide⟩ (fun h267_13 => ?_) (fun h267_13 => ?_)
                · refine ezw_iload rfl rfl ?_
                  refine ezw_if_eq rfl rfl hy3 (fun h283_13 => ?_) (fun h283_13 => ?_)
                  · refine ezw_iload rfl rfl ?_
                    exact ezw_ireturn rfl (ezw_zret ⟨by omega, by omega⟩) ⟨x86_4, x87_4, r88, rfl, hT, y3, ⟨by omega, by omega⟩, fun _ _ => rfl, sv, rfl⟩
                  · refine ezw_aload_n rfl rfl ?_
                    refine ezw_sipush (1050) rfl rfl ?_
                    refine ezw_iload_n rfl rfl ?_
                    refine ezw_call0_2 rfl (by omega) (ezm_at rfl) rfl rfl rfl rfl (ezm_m277_v1050 hT (by omega) (ezm_in85 ku2) (by omega) sv) ?_
                    rintro _ _ ⟨x88_14, rfl, hT, fb_14, sv_14, rfl⟩
                    refine ezw_iload rfl rfl ?_
                    exact ezw_ireturn rfl (ezw_zret ⟨by omega, by omega⟩) ⟨x86_4, x87_4, x88_14, rfl, hT, y3, ⟨by omega, by omega⟩, fb_14, sv_14, rfl⟩
                · refine ezw_aload_n rfl rfl ?_
                  refine ezw_sipush (1050) rfl rfl ?_
                  refine ezw_iload_n rfl rfl ?_
                  refine ezw_call0_2 rfl (by omega) (ezm_at rfl) rfl rfl rfl rfl (ezm_m289_v1050 hT (by omega) (ezm_in85 ku2) sv) ?_
                  rintro _ _ ⟨x88_15, rfl, hT, fb_15, sv_15, rfl⟩
                  refine ezw_goto rfl rfl ?_
                  refine ezw_iload rfl rfl ?_
                  exact ezw_ireturn rfl (ezw_zret ⟨by omega, by omega⟩) ⟨x86_4, x87_4, x88_15, rfl, hT, y3, ⟨by omega, by omega⟩, fb_15, sv_15, rfl⟩
            · refine ezw_iload_n rfl rfl ?_
              refine ezw_iconst (3) rfl rfl ?_
              refine ezw_icmp_ne rfl rfl (ezm_in85 ku1) ⟨by decide, by decide⟩ (fun h237_15 => ?_) (fun h237_15 => ?_)
              · refine ezw_iload rfl rfl ?_
                refine ezw_if_eq rfl rfl hy3 (fun h261_15 => ?_) (fun h261_15 => ?_)
                · refine ezw_iload rfl rfl ?_
                  refine ezw_if_eq rfl rfl hy3 (fun h283_15 => ?_) (fun h283_15 => ?_)
                  · refine ezw_iload rfl rfl ?_
                    exact ezw_ireturn rfl (ezw_zret ⟨by omega, by omega⟩) ⟨x86_4, x87_4, r88, rfl, hT, y3, ⟨by omega, by omega⟩, fun _ _ => rfl, sv, rfl⟩
                  · refine ezw_aload_n rfl rfl ?_
                    refine ezw_sipush (1050) rfl rfl ?_
                    refine ezw_iload_n rfl rfl ?_
                    refine ezw_call0_2 rfl (by omega) (ezm_at rfl) rfl rfl rfl rfl (ezm_m277_v1050 hT (by omega) (ezm_in85 ku2) (by omega) sv) ?_
                    rintro _ _ ⟨x88_16, rfl, hT, fb_16, sv_16, rfl⟩
                    refine ezw_iload rfl rfl ?_
                    exact ezw_ireturn rfl (ezw_zret ⟨by omega, by omega⟩) ⟨x86_4, x87_4, x88_16, rfl, hT, y3, ⟨by omega, by omega⟩, fb_16, sv_16, rfl⟩
                · refine ezw_iload_n rfl rfl ?_
                  refine ezw_bipush (6) rfl rfl ?_
                  refine ezw_icmp_ne rfl rfl (ezm_in85 ku1) ⟨by decide, by decide⟩ (fun h267_16 => ?_) (fun h267_16 => ?_)
                  · refine ezw_iload rfl rfl ?_
                    refine ezw_if_eq rfl rfl hy3 (fun h283_16 => ?_) (fun h283_16 => ?_)
                    · refine ezw_iload rfl rfl ?_
                      exact ezw_ireturn rfl (ezw_zret ⟨by omega, by omega⟩) ⟨x86_4, x87_4, r88, rfl, hT, y3, ⟨by omega, by omega⟩, fun _ _ => rfl, sv, rfl⟩
                    · refine ezw_aload_n rfl rfl ?_
                      refine ezw_sipush (1050) rfl rfl ?_
                      refine ezw_iload_n rfl rfl ?_
                      refine ezw_call0_2 rfl (by omega) (ezm_at rfl) rfl rfl rfl rfl (ezm_m277_v1050 hT (by omega) (ezm_in85 ku2) (by omega) sv) ?_
                      rintro _ _ ⟨x88_17, rfl, hT, fb_17, sv_17, rfl⟩
                      refine ezw_iload rfl rfl ?_
                      exact ezw_ireturn rfl (ezw_zret ⟨by omega, by omega⟩) ⟨x86_4, x87_4, x88_17, rfl, hT, y3, ⟨by omega, by omega⟩, fb_17, sv_17, rfl⟩
                  · refine ezw_aload_n rfl rfl ?_
                    refine ezw_sipush (1050) rfl rfl ?_
                    refine ezw_iload_n rfl rfl ?_
                    refine ezw_call0_2 rfl (by omega) (ezm_at rfl) rfl rfl rfl rfl (ezm_m289_v1050 hT (by omega) (ezm_in85 ku2) sv) ?_
                    rintro _ _ ⟨x88_18, rfl, hT, fb_18, sv_18, rfl⟩
                    refine ezw_goto rfl rfl ?_
                    refine ezw_iload rfl rfl ?_
                    exact ezw_ireturn rfl (ezw_zret ⟨by omega, by omega⟩) ⟨x86_4, x87_4, x88_18, rfl, hT, y3, ⟨by omega, by omega⟩, fb_18, sv_18, rfl⟩
              · refine ezw_aload_n rfl rfl ?_
                refine ezw_sipush (1050) rfl rfl ?_
                refine ezw_iload_n rfl rfl ?_
                refine ezw_aload_n rfl rfl ?_
                refine ezm_gp (p := 85) rfl (fun _ => rfl) ?_
                refine ezw_iload_n rfl rfl ?_
                refine ezw_iconst (2) rfl rfl ?_
                refine ezw_iadd (k := a1 + 2) rfl (by omega) ?_
                refine ezm_l85 rfl (by omega) (by omega) (fun u19 eu19 => ?_)
                have ku19 : ezm_k85 (a1 + 2) u19 := eu19 ▸ hT.t85 (a1 + 2)
                have zu19 := ezm_zl1 ku19 (by omega)
                refine ezw_call0_3 rfl (by omega) (ezm_at rfl) rfl rfl rfl rfl (ezm_m284_v1050 hT (by omega) (ezm_in85 ku2) (ezm_in85 ku19) (by omega) sv) ?_
                rintro _ _ ⟨x88_20, rfl, hT, fb_20, sv_20, rfl⟩
                refine ezw_goto rfl rfl ?_
                refine ezw_iload rfl rfl ?_
                exact ezw_ireturn rfl (ezw_zret ⟨by omega, by omega⟩) ⟨x86_4, x87_4, x88_20, rfl, hT, y3, ⟨by omega, by omega⟩, fb_20, sv_20, rfl⟩
          · refine ezw_aload_n rfl rfl ?_
            refine ezw_sipush (1050) rfl rfl ?_
            refine ezw_aload_n rfl rfl ?_
            refine ezw_sipush (1050) rfl rfl ?_
            refine ezw_call0_1 rfl (by omega) (ezm_at rfl) rfl rfl rfl rfl (ezm_m268_v1050 hT (by omega)) ?_
            rintro _ _ ⟨rfl, u22, hu22, p21_0, la_21, rfl⟩
            refine ezw_call0_2 rfl (by omega) (ezm_at rfl) rfl rfl rfl rfl (ezm_m277_v1050 hT (by omega) hu22 (by omega) sv) ?_
            rintro _ _ ⟨x88_23, rfl, hT, fb_23, sv_23, rfl⟩
            refine ezw_goto rfl rfl ?_
            refine ezw_iload rfl rfl ?_
            exact ezw_ireturn rfl (ezw_zret ⟨by omega, by omega⟩) ⟨x86_4, x87_4, x88_23, rfl, hT, y3, ⟨by omega, by omega⟩, fb_23, sv_23, rfl⟩
      · refine ezw_iload_n rfl rfl ?_
        refine ezw_iconst (1) rfl rfl ?_
        refine ezw_icmp_ne rfl rfl (ezm_in85 ku1) ⟨by decide, by decide⟩ (fun h177_23 => ?_) (fun h177_23 => ?_)
        · refine ezw_iload rfl rfl ?_
          refine ezw_if_eq rfl rfl hy3 (fun h205_23 => ?_) (fun h205_23 => ?_)
          · refine ezw_iload rfl rfl ?_
            refine ezw_if_eq rfl rfl hy3 (fun h232_23 => ?_) (fun h232_23 => ?_)
            · refine ezw_iload rfl rfl ?_
              refine ezw_if_eq rfl rfl hy3 (fun h261_23 => ?_) (fun h261_23 => ?_)
              · refine ezw_iload rfl rfl ?_
                refine ezw_if_eq rfl rfl hy3 (fun h283_23 => ?_) (fun h283_23 => ?_)
                · refine ezw_iload rfl rfl ?_
                  exact ezw_ireturn rfl (ezw_zret ⟨by omega, by omega⟩) ⟨x86_4, x87_4, r88, rfl, hT, y3, ⟨by omega, by omega⟩, fun _ _ => rfl, sv, rfl⟩
                · refine ezw_aload_n rfl rfl ?_
                  refine ezw_sipush (1050) rfl rfl ?_
                  refine ezw_iload_n rfl rfl ?_
                  refine ezw_call0_2 rfl (by omega) (ezm_at rfl) rfl rfl rfl rfl (ezm_m277_v1050 hT (by omega) (ezm_in85 ku2) (by omega) sv) ?_
                  rintro _ _ ⟨x88_24, rfl, hT, fb_24, sv_24, rfl⟩
                  refine ezw_iload rfl rfl ?_
                  exact ezw_ireturn rfl (ezw_zret ⟨by omega, by omega⟩) ⟨x86_4, x87_4, x88_24, rfl, hT, y3, ⟨by omega, by omega⟩, fb_24, sv_24, rfl⟩
              · refine ezw_iload_n rfl rfl ?_
                refine ezw_bipush (6) rfl rfl ?_
                refine ezw_icmp_ne rfl rfl (ezm_in85 ku1) ⟨by decide, by decide⟩ (fun h267_24 => ?_) (fun h267_24 => ?_)
                · refine ezw_iload rfl rfl ?_
                  refine ezw_if_eq rfl rfl hy3 (fun h283_24 => ?_) (fun h283_24 => ?_)
                  · refine ezw_iload rfl rfl ?_
                    exact ezw_ireturn rfl (ezw_zret ⟨by omega, by omega⟩) ⟨x86_4, x87_4, r88, rfl, hT, y3, ⟨by omega, by omega⟩, fun _ _ => rfl, sv, rfl⟩
                  · refine ezw_aload_n rfl rfl ?_
                    refine ezw_sipush (1050) rfl rfl ?_
                    refine ezw_iload_n rfl rfl ?_
                    refine ezw_call0_2 rfl (by omega) (ezm_at rfl) rfl rfl rfl rfl (ezm_m277_v1050 hT (by omega) (ezm_in85 ku2) (by omega) sv) ?_
                    rintro _ _ ⟨x88_25, rfl, hT, fb_25, sv_25, rfl⟩
                    refine ezw_iload rfl rfl ?_
                    exact ezw_ireturn rfl (ezw_zret ⟨by omega, by omega⟩) ⟨x86_4, x87_4, x88_25, rfl, hT, y3, ⟨by omega, by omega⟩, fb_25, sv_25, rfl⟩
                · refine ezw_aload_n rfl rfl ?_
                  refine ezw_sipush (1050) rfl rfl ?_
                  refine ezw_iload_n rfl rfl ?_
                  refine ezw_call0_2 rfl (by omega) (ezm_at rfl) rfl rfl rfl rfl (ezm_m289_v1050 hT (by omega) (ezm_in85 ku2) sv) ?_
                  rintro _ _ ⟨x88_26, rfl, hT, fb_26, sv_26, rfl⟩
                  refine ezw_goto rfl rfl ?_
                  refine ezw_iload rfl rfl ?_
                  exact ezw_ireturn rfl (ezw_zret ⟨by omega, by omega⟩) ⟨x86_4, x87_4, x88_26, rfl, hT, y3, ⟨by omega, by omega⟩, fb_26, sv_26, rfl⟩
            · refine ezw_iload_n rfl rfl ?_
              refine ezw_iconst (3) rfl rfl ?_
              refine ezw_icmp_ne rfl rfl (ezm_in85 ku1) ⟨by decide, by decide⟩ (fun h237_26 => ?_) (fun h237_26 => ?_)
              · refine ezw_iload rfl rfl ?_
                refine ezw_if_eq rfl rfl hy3 (fun h261_26 => ?_) (fun h261_26 => ?_)
                · refine ezw_iload rfl rfl ?_
                  refine ezw_if_eq rfl rfl hy3 (fun h283_26 => ?_) (fun h283_26 => ?_)
                  · refine ezw_iload rfl rfl ?_
                    exact ezw_ireturn rfl (ezw_zret ⟨by omega, by omega⟩) ⟨x86_4, x87_4, r88, rfl, hT, y3, ⟨by omega, by omega⟩, fun _ _ => rfl, sv, rfl⟩
                  · refine ezw_aload_n rfl rfl ?_
                    refine ezw_sipush (1050) rfl rfl ?_
                    refine ezw_iload_n rfl rfl ?_
                    refine ezw_call0_2 rfl (by omega) (ezm_at rfl) rfl rfl rfl rfl (ezm_m277_v1050 hT (by omega) (ezm_in85 ku2) (by omega) sv) ?_
                    rintro _ _ ⟨x88_27, rfl, hT, fb_27, sv_27, rfl⟩
                    refine ezw_iload rfl rfl ?_
                    exact ezw_ireturn rfl (ezw_zret ⟨by omega, by omega⟩) ⟨x86_4, x87_4, x88_27, rfl, hT, y3, ⟨by omega, by omega⟩, fb_27, sv_27, rfl⟩
                · refine ezw_iload_n rfl rfl ?_
                  refine ezw_bipush (6) rfl rfl ?_
                  refine ezw_icmp_ne rfl rfl (ezm_in85 ku1) ⟨by decide, by decide⟩ (fun h267_27 => ?_) (fun h267_27 => ?_)
                  · refine ezw_iload rfl rfl ?_
                    refine ezw_if_eq rfl rfl hy3 (fun h283_27 => ?_) (fun h283_27 => ?_)
                    · refine ezw_iload rfl rfl ?_
                      exact ezw_ireturn rfl (ezw_zret ⟨by omega, by omega⟩) ⟨x86_4, x87_4, r88, rfl, hT, y3, ⟨by omega, by omega⟩, fun _ _ => rfl, sv, rfl⟩
                    · refine ezw_aload_n rfl rfl ?_
                      refine ezw_sipush (1050) rfl rfl ?_
                      refine ezw_iload_n rfl rfl ?_
                      refine ezw_call0_2 rfl (by omega) (ezm_at rfl) rfl rfl rfl rfl (ezm_m277_v1050 hT (by omega) (ezm_in85 ku2) (by omega) sv) ?_
                      rintro _ _ ⟨x88_28, rfl, hT, fb_28, sv_28, rfl⟩
                      refine ezw_iload rfl rfl ?_
                      exact ezw_ireturn rfl (ezw_zret ⟨by omega, by omega⟩) ⟨x86_4, x87_4, x88_28, rfl, hT, y3, ⟨by omega, by omega⟩, fb_28, sv_28, rfl⟩
                  · refine ezw_aload_n rfl rfl ?_
                    refine ezw_sipush (1050) rfl rfl ?_
                    refine ezw_iload_n rfl rfl ?_
                    refine ezw_call0_2 rfl (by omega) (ezm_at rfl) rfl rfl rfl rfl (ezm_m289_v1050 hT (by omega) (ezm_in85 ku2) sv) ?_
                    rintro _ _ ⟨x88_29, rfl, hT, fb_29, sv_29, rfl⟩
                    refine ezw_goto rfl rfl ?_
                    refine ezw_iload rfl rfl ?_
                    exact ezw_ireturn rfl (ezw_zret ⟨by omega, by omega⟩) ⟨x86_4, x87_4, x88_29, rfl, hT, y3, ⟨by omega, by omega⟩, fb_29, sv_29, rfl⟩
              · refine ezw_aload_n rfl rfl ?_
                refine ezw_sipush (1050) rfl rfl ?_
                refine ezw_iload_n rfl rfl ?_
                refine ezw_aload_n rfl rfl ?_
                refine ezm_gp (p := 85) rfl (fun _ => rfl) ?_
                refine ezw_iload_n rfl rfl ?_
                refine ezw_iconst (2) rfl rfl ?_
                refine ezw_iadd (k := a1 + 2) rfl (by omega) ?_
                refine ezm_l85 rfl (by omega) (by omega) (fun u30 eu30 => ?_)
                have ku30 : ezm_k85 (a1 + 2) u30 := eu30 ▸ hT.t85 (a1 + 2)
                have zu30 := ezm_zl1 ku30 (by omega)
                refine ezw_call0_3 rfl (by omega) (ezm_at rfl) rfl rfl rfl rfl (ezm_m284_v1050 hT (by omega) (ezm_in85 ku2) (ezm_in85 ku30) (by omega) sv) ?_
                rintro _ _ ⟨x88_31, rfl, hT, fb_31, sv_31, rfl⟩
                refine ezw_goto rfl rfl ?_
                refine ezw_iload rfl rfl ?_
                exact ezw_ireturn rfl (ezw_zret ⟨by omega, by omega⟩) ⟨x86_4, x87_4, x88_31, rfl, hT, y3, ⟨by omega, by omega⟩, fb_31, sv_31, rfl⟩
          · refine ezw_iload_n rfl rfl ?_
            refine ezw_iconst (2) rfl rfl ?_
            refine ezw_icmp_ne rfl rfl (ezm_in85 ku1) ⟨by decide, by decide⟩ (fun h210_31 => ?_) (fun h210_31 => ?_)
            · refine ezw_iload rfl rfl ?_
              refine ezw_if_eq rfl rfl hy3 (fun h232_31 => ?_) (fun h232_31 => ?_)
              · refine ezw_iload rfl rfl ?_
                refine ezw_if_eq rfl rfl hy3 (fun h261_31 => ?_) (fun h261_31 => ?_)
                · refine ezw_iload rfl rfl ?_
                  refine ezw_if_eq rfl rfl hy3 (fun h283_31 => ?_) (fun h283_31 => ?_)
                  · refine ezw_iload rfl rfl ?_
                    exact ezw_ireturn rfl (ezw_zret ⟨by omega, by omega⟩) ⟨x86_4, x87_4, r88, rfl, hT, y3, ⟨by omega, by omega⟩, fun _ _ => rfl, sv, rfl⟩
                  · refine ezw_aload_n rfl rfl ?_
                    refine ezw_sipush (1050) rfl rfl ?_
                    refine ezw_iload_n rfl rfl ?_
                    refine ezw_call0_2 rfl (by omega) (ezm_at rfl) rfl rfl rfl rfl (ezm_m277_v1050 hT (by omega) (ezm_in85 ku2) (by omega) sv) ?_
                    rintro _ _ ⟨x88_32, rfl, hT, fb_32, sv_32, rfl⟩
                    refine ezw_iload rfl rfl ?_
                    exact ezw_ireturn rfl (ezw_zret ⟨by omega, by omega⟩) ⟨x86_4, x87_4, x88_32, rfl, hT, y3, ⟨by omega, by omega⟩, fb_32, sv_32, rfl⟩
                · refine ezw_iload_n rfl rfl ?_
                  refine ezw_bipush (6) rfl rfl ?_
                  refine ezw_icmp_ne rfl rfl (ezm_in85 ku1) ⟨by decide, by decide⟩ (fun h267_32 => ?_) (fun h267_32 => ?_)
                  · refine ezw_iload rfl rfl ?_
                    refine ezw_if_eq rfl rfl hy3 (fun h283_32 => ?_) (fun h283_32 => ?_)
                    · refine ezw_iload rfl rfl ?_
                      exact ezw_ireturn rfl (ezw_zret ⟨by omega, by omega⟩) ⟨x86_4, x87_4, r88, rfl, hT, y3, ⟨by omega, by omega⟩, fun _ _ => rfl, sv, rfl⟩
                    · refine ezw_aload_n rfl rfl ?_
                      refine ezw_sipush (1050) rfl rfl ?_
                      refine ezw_iload_n rfl rfl ?_
                      refine ezw_call0_2 rfl (by omega) (ezm_at rfl) rfl rfl rfl rfl (ezm_m277_v1050 hT (by omega) (ezm_in85 ku2) (by omega) sv) ?_
                      rintro _ _ ⟨x88_33, rfl, hT, fb_33, sv_33, rfl⟩
                      refine ezw_iload rfl rfl ?_
                      exact ezw_ireturn rfl (ezw_zret ⟨by omega, by omega⟩) ⟨x86_4, x87_4, x88_33, rfl, hT, y3, ⟨by omega, by omega⟩, fb_33, sv_33, rfl⟩
                  · refine ezw_aload_n rfl rfl ?_
                    refine ezw_sipush (1050) rfl rfl ?_
                    refine ezw_iload_n rfl rfl ?_
                    refine ezw_call0_2 rfl (by omega) (ezm_at rfl) rfl rfl rfl rfl (ezm_m289_v1050 hT (by omega) (ezm_in85 ku2) sv) ?_
                    rintro _ _ ⟨x88_34, rfl, hT, fb_34, sv_34, rfl⟩
                    refine ezw_goto rfl rfl ?_
                    refine ezw_iload rfl rfl ?_
                    exact ezw_ireturn rfl (ezw_zret ⟨by omega, by omega⟩) ⟨x86_4, x87_4, x88_34, rfl, hT, y3, ⟨by omega, by omega⟩, fb_34, sv_34, rfl⟩
              · refine ezw_iload_n rfl rfl ?_
                refine ezw_iconst (3) rfl rfl ?_
                refine ezw_icmp_ne rfl rfl (ezm_in85 ku1) ⟨by decide, by decide⟩ (fun h237_34 => ?_) (fun h237_34 => ?_)
                · refine ezw_iload rfl rfl ?_
                  refine ezw_if_eq rfl rfl hy3 (fun h261_34 => ?_) (fun h261_34 => ?_)
                  · refine ezw_iload rfl rfl ?_
                    refine ezw_if_eq rfl rfl hy3 (fun h283_34 => ?_) (fun h283_34 => ?_)
                    · refine ezw_iload rfl rfl ?_
                      exact ezw_ireturn rfl (ezw_zret ⟨by omega, by omega⟩) ⟨x86_4, x87_4, r88, rfl, hT, y3, ⟨by omega, by omega⟩, fun _ _ => rfl, sv, rfl⟩
                    · refine ezw_aload_n rfl rfl ?_
                      refine ezw_sipush (1050) rfl rfl ?_
                      refine ezw_iload_n rfl rfl ?_
                      refine ezw_call0_2 rfl (by omega) (ezm_at rfl) rfl rfl rfl rfl (ezm_m277_v1050 hT (by omega) (ezm_in85 ku2) (by omega) sv) ?_
                      rintro _ _ ⟨x88_35, rfl, hT, fb_35, sv_35, rfl⟩
                      refine ezw_iload rfl rfl ?_
                      exact ezw_ireturn rfl (ezw_zret ⟨by omega, by omega⟩) ⟨x86_4, x87_4, x88_35, rfl, hT, y3, ⟨by omega, by omega⟩, fb_35, sv_35, rfl⟩
                  · refine ezw_iload_n rfl rfl ?_
                    refine ezw_bipush (6) rfl rfl ?_
                    refine ezw_icmp_ne rfl rfl (ezm_in85 ku1) ⟨by decide, by decide⟩ (fun h267_35 => ?_) (fun h267_35 => ?_)
                    · refine ezw_iload rfl rfl ?_
                      refine ezw_if_eq rfl rfl hy3 (fun h283_35 => ?_) (fun h283_35 => ?_)
                      · refine ezw_iload rfl rfl ?_
                        exact ezw_ireturn rfl (ezw_zret ⟨by omega, by omega⟩) ⟨x86_4, x87_4, r88, rfl, hT, y3, ⟨by omega, by omega⟩, fun _ _ => rfl, sv, rfl⟩
                      · refine ezw_aload_n rfl rfl ?_
                        refine ezw_sipush (1050) rfl rfl ?_
                        refine ezw_iload_n rfl rfl ?_
                        refine ezw_call0_2 rfl (by omega) (ezm_at rfl) rfl rfl rfl rfl (ezm_m277_v1050 hT (by omega) (ezm_in85 ku2) (by omega) sv) ?_
                        rintro _ _ ⟨x88_36, rfl, hT, fb_36, sv_36, rfl⟩
                        refine ezw_iload rfl rfl ?_
                        exact ezw_ireturn rfl (ezw_zret ⟨by omega, by omega⟩) ⟨x86_4, x87_4, x88_36, rfl, hT, y3, ⟨by omega, by omega⟩, fb_36, sv_36, rfl⟩
                    · refine ezw_aload_n rfl rfl ?_
                      refine ezw_sipush (1050) rfl rfl ?_
                      refine ezw_iload_n rfl rfl ?_
                      refine ezw_call0_2 rfl (by omega) (ezm_at rfl) rfl rfl rfl rfl (ezm_m289_v1050 hT (by omega) (ezm_in85 ku2) sv) ?_
                      rintro _ _ ⟨x88_37, rfl, hT, fb_37, sv_37, rfl⟩
                      refine ezw_goto rfl rfl ?_
                      refine ezw_iload rfl rfl ?_
                      exact ezw_ireturn rfl (ezw_zret ⟨by omega, by omega⟩) ⟨x86_4, x87_4, x88_37, rfl, hT, y3, ⟨by omega, by omega⟩, fb_37, sv_37, rfl⟩
                · refine ezw_aload_n rfl rfl ?_
                  refine ezw_sipush (1050) rfl rfl ?_
                  refine ezw_iload_n rfl rfl ?_
                  refine ezw_aload_n rfl rfl ?_
                  refine ezm_gp (p := 85) rfl (fun _ => rfl) ?_
                  refine ezw_iload_n rfl rfl ?_
                  refine ezw_iconst (2) rfl rfl ?_
                  refine ezw_iadd (k := a1 + 2) rfl (by omega) ?_
                  refine ezm_l85 rfl (by omega) (by omega) (fun u38 eu38 => ?_)
                  have ku38 : ezm_k85 (a1 + 2) u38 := eu38 ▸ hT.t85 (a1 + 2)
                  have zu38 := ezm_zl1 ku38 (by omega)
                  refine ezw_call0_3 rfl (by omega) (ezm_at rfl) rfl rfl rfl rfl (ezm_m284_v1050 hT (by omega) (ezm_in85 ku2) (ezm_in85 ku38) (by omega) sv) ?_
                  rintro _ _ ⟨x88_39, rfl, hT, fb_39, sv_39, rfl⟩
                  refine ezw_goto rfl rfl ?_
                  refine ezw_iload rfl rfl ?_
                  exact ezw_ireturn rfl (ezw_zret ⟨by omega, by omega⟩) ⟨x86_4, x87_4, x88_39, rfl, hT, y3, ⟨by omega, by omega⟩, fb_39, sv_39, rfl⟩
            · refine ezw_aload_n rfl rfl ?_
              refine ezw_sipush (1050) rfl rfl ?_
              refine ezw_aload_n rfl rfl ?_
              refine ezw_sipush (1050) rfl rfl ?_
              refine ezw_call0_1 rfl (by omega) (ezm_at rfl) rfl rfl rfl rfl (ezm_m268_v1050 hT (by omega)) ?_
              rintro _ _ ⟨rfl, u41, hu41, p40_0, la_40, rfl⟩
              refine ezw_call0_2 rfl (by omega) (ezm_at rfl) rfl rfl rfl rfl (ezm_m277_v1050 hT (by omega) hu41 (by omega) sv) ?_
              rintro _ _ ⟨x88_42, rfl, hT, fb_42, sv_42, rfl⟩
              refine ezw_goto rfl rfl ?_
              refine ezw_iload rfl rfl ?_
              exact ezw_ireturn rfl (ezw_zret ⟨by omega, by omega⟩) ⟨x86_4, x87_4, x88_42, rfl, hT, y3, ⟨by omega, by omega⟩, fb_42, sv_42, rfl⟩
        · refine ezw_aload_n rfl rfl ?_
          refine ezm_gp (p := 88) rfl (fun _ => rfl) ?_
          refine ezw_sipush (1057) rfl rfl ?_
          refine ezw_aload_n rfl rfl ?_
          refine ezw_sipush (1050) rfl rfl ?_
          refine ezw_call0_1 rfl (by omega) (ezm_at rfl) rfl rfl rfl rfl (ezm_m268_v1050 hT (by omega)) ?_
          rintro _ _ ⟨rfl, u44, hu44, p43_0, la_43, rfl⟩
          refine ezw_iadd (k := u44 + 1057) rfl (by omega) ?_
          refine ezw_dup2 rfl rfl rfl ?_
          refine ezm_l88 rfl (by omega) (by omega) (fun u45 eu45 => ?_)
          have ku45 : ezm_k88 (u44 + 1057) u45 := eu45 ▸ hT.t88 (u44 + 1057)
          have zu45 := ezm_zs7 ku45 (by omega)
          have hti := c1_4 (by omega) (by omega)
          rw [← la_43, ← eu45] at hti
          refine ezw_iconst (1) rfl rfl ?_
          refine ezw_isub (k := u45 - 1) rfl (by omega) ?_
          refine ezm_s88 hT rfl (by omega) (by omega) ⟨⟨by omega, by omega⟩, by omega, by omega, by omega, by omega, by omega⟩ (fun r88_46 hT er88_46 fr88_46 => ?_)
          refine ezw_goto rfl rfl ?_
          refine ezw_iload rfl rfl ?_
          exact ezw_ireturn rfl (ezw_zret ⟨by omega, by omega⟩) ⟨x86_4, x87_4, r88_46, rfl, hT, y3, ⟨by omega, by omega⟩, fun j hj => by rw [fr88_46 j (by omega)], ezm_SV_fr2 sv b0.2 (fun j hj => by rw [fr88_46 j (by omega)]), rfl⟩
    · refine ezw_iload_n rfl rfl ?_
      refine ezw_if_ne rfl rfl (ezm_in85 ku1) (fun h141_46 => ?_) (fun h141_46 => ?_)
      · refine ezw_iload rfl rfl ?_
        refine ezw_if_eq rfl rfl hy3 (fun h172_46 => ?_) (fun h172_46 => ?_)
        · refine ezw_iload rfl rfl ?_
          refine ezw_if_eq rfl rfl hy3 (fun h205_46 => ?_) (fun h205_46 => ?_)
          · refine ezw_iload rfl rfl ?_
            refine ezw_if_eq rfl rfl hy3 (fun h232_46 => ?_) (fun h232_46 => ?_)
            · refine ezw_iload rfl rfl ?_
              refine ezw_if_eq rfl rfl hy3 (fun h261_46 => ?_) (fun h261_46 => ?_)
              · refine ezw_iload rfl rfl ?_
                refine ezw_if_eq rfl rfl hy3 (fun h283_46 => ?_) (fun h283_46 => ?_)
                · refine ezw_iload rfl rfl ?_
                  exact ezw_ireturn rfl (ezw_zret ⟨by omega, by omega⟩) ⟨x86_4, x87_4, r88, rfl, hT, y3, ⟨by omega, by omega⟩, fun _ _ => rfl, sv, rfl⟩
                · refine ezw_aload_n rfl rfl ?_
                  refine ezw_sipush (1050) rfl rfl ?_
                  refine ezw_iload_n rfl rfl ?_
                  refine ezw_call0_2 rfl (by omega) (ezm_at rfl) rfl rfl rfl rfl (ezm_m277_v1050 hT (by omega) (ezm_in85 ku2) (by omega) sv) ?_
                  rintro _ _ ⟨x88_47, rfl, hT, fb_47, sv_47, rfl⟩
                  refine ezw_iload rfl rfl ?_
                  exact ezw_ireturn rfl (ezw_zret ⟨by omega, by omega⟩) ⟨x86_4, x87_4, x88_47, rfl, hT, y3, ⟨by omega, by omega⟩, fb_47, sv_47, rfl⟩
              · refine ezw_iload_n rfl rfl ?_
                refine ezw_bipush (6) rfl rfl ?_
                refine ezw_icmp_ne rfl rfl (ezm_in85 ku1) ⟨by decide, by decide⟩ (fun h267_47 => ?_) (fun h267_47 => ?_)
                · refine ezw_iload rfl rfl ?_
                  refine ezw_if_eq rfl rfl hy3 (fun h283_47 => ?_) (fun h283_47 => ?_)
                  · refine ezw_iload rfl rfl ?_
                    exact ezw_ireturn rfl (ezw_zret ⟨by omega, by omega⟩) ⟨x86_4, x87_4, r88, rfl, hT, y3, ⟨by omega, by omega⟩, fun _ _ => rfl, sv, rfl⟩
                  · refine ezw_aload_n rfl rfl ?_
                    refine ezw_sipush (1050) rfl rfl ?_
                    refine ezw_iload_n rfl rfl ?_
                    refine ezw_call0_2 rfl (by omega) (ezm_at rfl) rfl rfl rfl rfl (ezm_m277_v1050 hT (by omega) (ezm_in85 ku2) (by omega) sv) ?_
                    rintro _ _ ⟨x88_48, rfl, hT, fb_48, sv_48, rfl⟩
                    refine ezw_iload rfl rfl ?_
                    exact ezw_ireturn rfl (ezw_zret ⟨by omega, by omega⟩) ⟨x86_4, x87_4, x88_48, rfl, hT, y3, ⟨by omega, by omega⟩, fb_48, sv_48, rfl⟩
                · refine ezw_aload_n rfl rfl ?_
                  refine ezw_sipush (1050) rfl rfl ?_
                  refine ezw_iload_n rfl rfl ?_
                  refine ezw_call0_2 rfl (by omega) (ezm_at rfl) rfl rfl rfl rfl (ezm_m289_v1050 hT (by omega) (ezm_in85 ku2) sv) ?_
                  rintro _ _ ⟨x88_49, rfl, hT, fb_49, sv_49, rfl⟩
                  refine ezw_goto rfl rfl ?_
                  refine ezw_iload rfl rfl ?_
                  exact ezw_ireturn rfl (ezw_zret ⟨by omega, by omega⟩) ⟨x86_4, x87_4, x88_49, rfl, hT, y3, ⟨by omega, by omega⟩, fb_49, sv_49, rfl⟩
            · refine ezw_iload_n rfl rfl ?_
              refine ezw_iconst (3) rfl rfl ?_
              refine ezw_icmp_ne rfl rfl (ezm_in85 ku1) ⟨by decide, by decide⟩ (fun h237_49 => ?_) (fun h237_49 => ?_)
              · refine ezw_iload rfl rfl ?_
                refine ezw_if_eq rfl rfl hy3 (fun h261_49 => ?_) (fun h261_49 => ?_)
                · refine ezw_iload rfl rfl ?_
                  refine ezw_if_eq rfl rfl hy3 (fun h283_49 => ?_) (fun h283_49 => ?_)
                  · refine ezw_iload rfl rfl ?_
                    exact ezw_ireturn rfl (ezw_zret ⟨by omega, by omega⟩) ⟨x86_4, x87_4, r88, rfl, hT, y3, ⟨by omega, by omega⟩, fun _ _ => rfl, sv, rfl⟩
                  · refine ezw_aload_n rfl rfl ?_
                    refine ezw_sipush (1050) rfl rfl ?_
                    refine ezw_iload_n rfl rfl ?_
                    refine ezw_call0_2 rfl (by omega) (ezm_at rfl) rfl rfl rfl rfl (ezm_m277_v1050 hT (by omega) (ezm_in85 ku2) (by omega) sv) ?_
                    rintro _ _ ⟨x88_50, rfl, hT, fb_50, sv_50, rfl⟩
                    refine ezw_iload rfl rfl ?_
                    exact ezw_ireturn rfl (ezw_zret ⟨by omega, by omega⟩) ⟨x86_4, x87_4, x88_50, rfl, hT, y3, ⟨by omega, by omega⟩, fb_50, sv_50, rfl⟩
                · refine ezw_iload_n rfl rfl ?_
                  refine ezw_bipush (6) rfl rfl ?_
                  refine ezw_icmp_ne rfl rfl (ezm_in85 ku1) ⟨by decide, by decide⟩ (fun h267_50 => ?_) (fun h267_50 => ?_)
                  · refine ezw_iload rfl rfl ?_
                    refine ezw_if_eq rfl rfl hy3 (fun h283_50 => ?_) (fun h283_50 => ?_)
                    · refine ezw_iload rfl rfl ?_
                      exact ezw_ireturn rfl (ezw_zret ⟨by omega, by omega⟩) ⟨x86_4, x87_4, r88, rfl, hT, y3, ⟨by omega, by omega⟩, fun _ _ => rfl, sv, rfl⟩
                    · refine ezw_aload_n rfl rfl ?_
                      refine ezw_sipush (1050) rfl rfl ?_
                      refine ezw_iload_n rfl rfl ?_
                      refine ezw_call0_2 rfl (by omega) (ezm_at rfl) rfl rfl rfl rfl (ezm_m277_v1050 hT (by omega) (ezm_in85 ku2) (by omega) sv) ?_
                      rintro _ _ ⟨x88_51, rfl, hT, fb_51, sv_51, rfl⟩
                      refine ezw_iload rfl rfl ?_
                      exact ezw_ireturn rfl (ezw_zret ⟨by omega, by omega⟩) ⟨x86_4, x87_4, x88_51, rfl, hT, y3, ⟨by omega, by omega⟩, fb_51, sv_51, rfl⟩
                  · refine ezw_aload_n rfl rfl ?_
                    refine ezw_sipush (1050) rfl rfl ?_
                    refine ezw_iload_n rfl rfl ?_
                    refine ezw_call0_2 rfl (by omega) (ezm_at rfl) rfl rfl rfl rfl (ezm_m289_v1050 hT (by omega) (ezm_in85 ku2) sv) ?_
                    rintro _ _ ⟨x88_52, rfl, hT, fb_52, sv_52, rfl⟩
                    refine ezw_goto rfl rfl ?_
                    refine ezw_iload rfl rfl ?_
                    exact ezw_ireturn rfl (ezw_zret ⟨by omega, by omega⟩) ⟨x86_4, x87_4, x88_52, rfl, hT, y3, ⟨by omega, by omega⟩, fb_52, sv_52, rfl⟩
              · refine ezw_aload_n rfl rfl ?_
                refine ezw_sipush (1050) rfl rfl ?_
                refine ezw_iload_n rfl rfl ?_
                refine ezw_aload_n rfl rfl ?_
                refine ezm_gp (p := 85) rfl (fun _ => rfl) ?_
                refine ezw_iload_n rfl rfl ?_
                refine ezw_iconst (2) rfl rfl ?_
                refine ezw_iadd (k := a1 + 2) rfl (by omega) ?_
                refine ezm_l85 rfl (by omega) (by omega) (fun u53 eu53 => ?_)
                have ku53 : ezm_k85 (a1 + 2) u53 := eu53 ▸ hT.t85 (a1 + 2)
                have zu53 := ezm_zl1 ku53 (by omega)
                refine ezw_call0_3 rfl (by omega) (ezm_at rfl) rfl rfl rfl rfl (ezm_m284_v1050 hT (by omega) (ezm_in85 ku2) (ezm_in85 ku53) (by omega) sv) ?_
                rintro _ _ ⟨x88_54, rfl, hT, fb_54, sv_54, rfl⟩
                refine ezw_goto rfl rfl ?_
                refine ezw_iload rfl rfl ?_
                exact ezw_ireturn rfl (ezw_zret ⟨by omega, by omega⟩) ⟨x86_4, x87_4, x88_54, rfl, hT, y3, ⟨by omega, by omega⟩, fb_54, sv_54, rfl⟩
          · refine ezw_iload_n rfl rfl ?_
            refine ezw_iconst (2) rfl rfl ?_
            refine ezw_icmp_ne rfl rfl (ezm_in85 ku1) ⟨by decide, by decide⟩ (fun h210_54 => ?_) (fun h210_54 => ?_)
            · refine ezw_iload rfl rfl ?_
              refine ezw_if_eq rfl rfl hy3 (fun h232_54 => ?_) (fun h232_54 => ?_)
              · refine ezw_iload rfl rfl ?_
                refine ezw_if_eq rfl rfl hy3 (fun h261_54 => ?_) (fun h261_54 => ?_)
                · refine ezw_iload rfl rfl ?_
                  refine ezw_if_eq rfl rfl hy3 (fun h283_54 => ?_) (fun h283_54 => ?_)
                  · refine ezw_iload rfl rfl ?_
                    exact ezw_ireturn rfl (ezw_zret ⟨by omega, by omega⟩) ⟨x86_4, x87_4, r88, rfl, hT, y3, ⟨by omega, by omega⟩, fun _ _ => rfl, sv, rfl⟩
                  · refine ezw_aload_n rfl rfl ?_
                    refine ezw_sipush (1050) rfl rfl ?_
                    refine ezw_iload_n rfl rfl ?_
                    refine ezw_call0_2 rfl (by omega) (ezm_at rfl) rfl rfl rfl rfl (ezm_m277_v1050 hT (by omega) (ezm_in85 ku2) (by omega) sv) ?_
                    rintro _ _ ⟨x88_55, rfl, hT, fb_55, sv_55, rfl⟩
                    refine ezw_iload rfl rfl ?_
                    exact ezw_ireturn rfl (ezw_zret ⟨by omega, by omega⟩) ⟨x86_4, x87_4, x88_55, rfl, hT, y3, ⟨by omega, by omega⟩, fb_55, sv_55, rfl⟩
                · refine ezw_iload_n rfl rfl ?_
                  refine ezw_bipush (6) rfl rfl ?_
                  refine ezw_icmp_ne rfl rfl (ezm_in85 ku1) ⟨by decide, by decide⟩ (fun h267_55 => ?_) (fun h267_55 => ?_)
                  · refine ezw_iload rfl rfl ?_
                    refine ezw_if_eq rfl rfl hy3 (fun h283_55 => ?_) (fun h283_55 => ?_)
                    · refine ezw_iload rfl rfl ?_
                      exact ezw_ireturn rfl (ezw_zret ⟨by omega, by omega⟩) ⟨x86_4, x87_4, r88, rfl, hT, y3, ⟨by omega, by omega⟩, fun _ _ => rfl, sv, rfl⟩
                    · refine ezw_aload_n rfl rfl ?_
                      refine ezw_sipush (1050) rfl rfl ?_
                      refine ezw_iload_n rfl rfl ?_
                      refine ezw_call0_2 rfl (by omega) (ezm_at rfl) rfl rfl rfl rfl (ezm_m277_v1050 hT (by omega) (ezm_in85 ku2) (by omega) sv) ?_
                      rintro _ _ ⟨x88_56, rfl, hT, fb_56, sv_56, rfl⟩
                      refine ezw_iload rfl rfl ?_
                      exact ezw_ireturn rfl (ezw_zret ⟨by omega, by omega⟩) ⟨x86_4, x87_4, x88_56, rfl, hT, y3, ⟨by omega, by omega⟩, fb_56, sv_56, rfl⟩
                  · refine ezw_aload_n rfl rfl ?_
                    refine ezw_sipush (1050) rfl rfl ?_
                    refine ezw_iload_n rfl rfl ?_
                    refine ezw_call0_2 rfl (by omega) (ezm_at rfl) rfl rfl rfl rfl (ezm_m289_v1050 hT (by omega) (ezm_in85 ku2) sv) ?_
                    rintro _ _ ⟨x88_57, rfl, hT, fb_57, sv_57, rfl⟩
                    refine ezw_goto rfl rfl ?_
                    refine ezw_iload rfl rfl ?_
                    exact ezw_ireturn rfl (ezw_zret ⟨by omega, by omega⟩) ⟨x86_4, x87_4, x88_57, rfl, hT, y3, ⟨by omega, by omega⟩, fb_57, sv_57, rfl⟩
              · refine ezw_iload_n rfl rfl ?_
                refine ezw_iconst (3) rfl rfl ?_
                refine ezw_icmp_ne rfl rfl (ezm_in85 ku1) ⟨by decide, by decide⟩ (fun h237_57 => ?_) (fun h237_57 => ?_)
                · refine ezw_iload rfl rfl ?_
                  refine ezw_if_eq rfl rfl hy3 (fun h261_57 => ?_) (fun h261_57 => ?_)
                  · refine ezw_iload rfl rfl ?_
                    refine ezw_if_eq rfl rfl hy3 (fun h283_57 => ?_) (fun h283_57 => ?_)
                    · refine ezw_iload rfl rfl ?_
                      exact ezw_ireturn rfl (ezw_zret ⟨by omega, by omega⟩) ⟨x86_4, x87_4, r88, rfl, hT, y3, ⟨by omega, by omega⟩, fun _ _ => rfl, sv, rfl⟩
                    · refine ezw_aload_n rfl rfl ?_
                      refine ezw_sipush (1050) rfl rfl ?_
                      refine ezw_iload_n rfl rfl ?_
                      refine ezw_call0_2 rfl (by omega) (ezm_at rfl) rfl rfl rfl rfl (ezm_m277_v1050 hT (by omega) (ezm_in85 ku2) (by omega) sv) ?_
                      rintro _ _ ⟨x88_58, rfl, hT, fb_58, sv_58, rfl⟩
                      refine ezw_iload rfl rfl ?_
                      exact ezw_ireturn rfl (ezw_zret ⟨by omega, by omega⟩) ⟨x86_4, x87_4, x88_58, rfl, hT, y3, ⟨by omega, by omega⟩, fb_58, sv_58, rfl⟩
                  · refine ezw_iload_n rfl rfl ?_
                    refine ezw_bipush (6) rfl rfl ?_
                    refine ezw_icmp_ne rfl rfl (ezm_in85 ku1) ⟨by decide, by decide⟩ (fun h267_58 => ?_) (fun h267_58 => ?_)
                    · refine ezw_iload rfl rfl ?_
                      refine ezw_if_eq rfl rfl hy3 (fun h283_58 => ?_) (fun h283_58 => ?_)
                      · refine ezw_iload rfl rfl ?_
                        exact ezw_ireturn rfl (ezw_zret ⟨by omega, by omega⟩) ⟨x86_4, x87_4, r88, rfl, hT, y3, ⟨by omega, by omega⟩, fun _ _ => rfl, sv, rfl⟩
                      · refine ezw_aload_n rfl rfl ?_
                        refine ezw_sipush (1050) rfl rfl ?_
                        refine ezw_iload_n rfl rfl ?_
                        refine ezw_call0_2 rfl (by omega) (ezm_at rfl) rfl rfl rfl rfl (ezm_m277_v1050 hT (by omega) (ezm_in85 ku2) (by omega) sv) ?_
                        rintro _ _ ⟨x88_59, rfl, hT, fb_59, sv_59, rfl⟩
                        refine ezw_iload rfl rfl ?_
                        exact ezw_ireturn rfl (ezw_zret ⟨by omega, by omega⟩) ⟨x86_4, x87_4, x88_59, rfl, hT, y3, ⟨by omega, by omega⟩, fb_59, sv_59, rfl⟩
                    · refine ezw_aload_n rfl rfl ?_
                      refine ezw_sipush (1050) rfl rfl ?_
                      refine ezw_iload_n rfl rfl ?_
                      refine ezw_call0_2 rfl (by omega) (ezm_at rfl) rfl rfl rfl rfl (ezm_m289_v1050 hT (by omega) (ezm_in85 ku2) sv) ?_
                      rintro _ _ ⟨x88_60, rfl, hT, fb_60, sv_60, rfl⟩
                      refine ezw_goto rfl rfl ?_
                      refine ezw_iload rfl rfl ?_
                      exact ezw_ireturn rfl (ezw_zret ⟨by omega, by omega⟩) ⟨x86_4, x87_4, x88_60, rfl, hT, y3, ⟨by omega, by omega⟩, fb_60, sv_60, rfl⟩
                · refine ezw_aload_n rfl rfl ?_
                  refine ezw_sipush (1050) rfl rfl ?_
                  refine ezw_iload_n rfl rfl ?_
                  refine ezw_aload_n rfl rfl ?_
                  refine ezm_gp (p := 85) rfl (fun _ => rfl) ?_
                  refine ezw_iload_n rfl rfl ?_
                  refine ezw_iconst (2) rfl rfl ?_
                  refine ezw_iadd (k := a1 + 2) rfl (by omega) ?_
                  refine ezm_l85 rfl (by omega) (by omega) (fun u61 eu61 => ?_)
                  have ku61 : ezm_k85 (a1 + 2) u61 := eu61 ▸ hT.t85 (a1 + 2)
                  have zu61 := ezm_zl1 ku61 (by omega)
                  refine ezw_call0_3 rfl (by omega) (ezm_at rfl) rfl rfl rfl rfl (ezm_m284_v1050 hT (by omega) (ezm_in85 ku2) (ezm_in85 ku61) (by omega) sv) ?_
                  rintro _ _ ⟨x88_62, rfl, hT, fb_62, sv_62, rfl⟩
                  refine ezw_goto rfl rfl ?_
                  refine ezw_iload rfl rfl ?_
                  exact ezw_ireturn rfl (ezw_zret ⟨by omega, by omega⟩) ⟨x86_4, x87_4, x88_62, rfl, hT, y3, ⟨by omega, by omega⟩, fb_62, sv_62, rfl⟩
            · refine ezw_aload_n rfl rfl ?_
              refine ezw_sipush (1050) rfl rfl ?_
              refine ezw_aload_n rfl rfl ?_
              refine ezw_sipush (1050) rfl rfl ?_
              refine ezw_call0_1 rfl (by omega) (ezm_at rfl) rfl rfl rfl rfl (ezm_m268_v1050 hT (by omega)) ?_
              rintro _ _ ⟨rfl, u64, hu64, p63_0, la_63, rfl⟩
              refine ezw_call0_2 rfl (by omega) (ezm_at rfl) rfl rfl rfl rfl (ezm_m277_v1050 hT (by omega) hu64 (by omega) sv) ?_
              rintro _ _ ⟨x88_65, rfl, hT, fb_65, sv_65, rfl⟩
              refine ezw_goto rfl rfl ?_
              refine ezw_iload rfl rfl ?_
              exact ezw_ireturn rfl (ezw_zret ⟨by omega, by omega⟩) ⟨x86_4, x87_4, x88_65, rfl, hT, y3, ⟨by omega, by omega⟩, fb_65, sv_65, rfl⟩
        · refine ezw_iload_n rfl rfl ?_
          refine ezw_iconst (1) rfl rfl ?_
          refine ezw_icmp_ne rfl rfl (ezm_in85 ku1) ⟨by decide, by decide⟩ (fun h177_65 => ?_) (fun h177_65 => ?_)
          · refine ezw_iload rfl rfl ?_
            refine ezw_if_eq rfl rfl hy3 (fun h205_65 => ?_) (fun h205_65 => ?_)
            · refine ezw_iload rfl rfl ?_
              refine ezw_if_eq rfl rfl hy3 (fun h232_65 => ?_) (fun h232_65 => ?_)
              · refine ezw_iload rfl rfl ?_
                refine ezw_if_eq rfl rfl hy3 (fun h261_65 => ?_) (fun h261_65 => ?_)
                · refine ezw_iload rfl rfl ?_
                  refine ezw_if_eq rfl rfl hy3 (fun h283_65 => ?_) (fun h283_65 => ?_)
                  · refine ezw_iload rfl rfl ?_
                    exact ezw_ireturn rfl (ezw_zret ⟨by omega, by omega⟩) ⟨x86_4, x87_4, r88, rfl, hT, y3, ⟨by omega, by omega⟩, fun _ _ => rfl, sv, rfl⟩
                  · refine ezw_aload_n rfl rfl ?_
                    refine ezw_sipush (1050) rfl rfl ?_
                    refine ezw_iload_n rfl rfl ?_
                    refine ezw_call0_2 rfl (by omega) (ezm_at rfl) rfl rfl rfl rfl (ezm_m277_v1050 hT (by omega) (ezm_in85 ku2) (by omega) sv) ?_
                    rintro _ _ ⟨x88_66, rfl, hT, fb_66, sv_66, rfl⟩
                    refine ezw_iload rfl rfl ?_
                    exact ezw_ireturn rfl (ezw_zret ⟨by omega, by omega⟩) ⟨x86_4, x87_4, x88_66, rfl, hT, y3, ⟨by omega, by omega⟩, fb_66, sv_66, rfl⟩
                · refine ezw_iload_n rfl rfl ?_
                  refine ezw_bipush (6) rfl rfl ?_
                  refine ezw_icmp_ne rfl rfl (ezm_in85 ku1) ⟨by decide, by decide⟩ (fun h267_66 => ?_) (fun h267_66 => ?_)
                  · refine ezw_iload rfl rfl ?_
                    refine ezw_if_eq rfl rfl hy3 (fun h283_66 => ?_) (fun h283_66 => ?_)
                    · refine ezw_iload rfl rfl ?_
                      exact ezw_ireturn rfl (ezw_zret ⟨by omega, by omega⟩) ⟨x86_4, x87_4, r88, rfl, hT, y3, ⟨by omega, by omega⟩, fun _ _ => rfl, sv, rfl⟩
                    · refine ezw_aload_n rfl rfl ?_
                      refine ezw_sipush (1050) rfl rfl ?_
                      refine ezw_iload_n rfl rfl ?_
                      refine ezw_call0_2 rfl (by omega) (ezm_at rfl) rfl rfl rfl rfl (ezm_m277_v1050 hT (by omega) (ezm_in85 ku2) (by omega) sv) ?_
                      rintro _ _ ⟨x88_67, rfl, hT, fb_67, sv_67, rfl⟩
                      refine ezw_iload rfl rfl ?_
                      exact ezw_ireturn rfl (ezw_zret ⟨by omega, by omega⟩) ⟨x86_4, x87_4, x88_67, rfl, hT, y3, ⟨by omega, by omega⟩, fb_67, sv_67, rfl⟩
                  · refine ezw_aload_n rfl rfl ?_
                    refine ezw_sipush (1050) rfl rfl ?_
                    refine ezw_iload_n rfl rfl ?_
                    refine ezw_call0_2 rfl (by omega) (ezm_at rfl) rfl rfl rfl rfl (ezm_m289_v1050 hT (by omega) (ezm_in85 ku2) sv) ?_
                    rintro _ _ ⟨x88_68, rfl, hT, fb_68, sv_68, rfl⟩
                    refine ezw_goto rfl rfl ?_
                    refine ezw_iload rfl rfl ?_
                    exact ezw_ireturn rfl (ezw_zret ⟨by omega, by omega⟩) ⟨x86_4, x87_4, x88_68, rfl, hT, y3, ⟨by omega, by omega⟩, fb_68, sv_68, rfl⟩
              · refine ezw_iload_n rfl rfl ?_
                refine ezw_iconst (3) rfl rfl ?_
                refine ezw_icmp_ne rfl rfl (ezm_in85 ku1) ⟨by decide, by decide⟩ (fun h237_68 => ?_) (fun h237_68 => ?_)
                · refine ezw_iload rfl rfl ?_
                  refine ezw_if_eq rfl rfl hy3 (fun h261_68 => ?_) (fun h261_68 => ?_)
                  · refine ezw_iload rfl rfl ?_
                    refine ezw_if_eq rfl rfl hy3 (fun h283_68 => ?_) (fun h283_68 => ?_)
                    · refine ezw_iload rfl rfl ?_
                      exact ezw_ireturn rfl (ezw_zret ⟨by omega, by omega⟩) ⟨x86_4, x87_4, r88, rfl, hT, y3, ⟨by omega, by omega⟩, fun _ _ => rfl, sv, rfl⟩
                    · refine ezw_aload_n rfl rfl ?_
                      refine ezw_sipush (1050) rfl rfl ?_
                      refine ezw_iload_n rfl rfl ?_
                      refine ezw_call0_2 rfl (by omega) (ezm_at rfl) rfl rfl rfl rfl (ezm_m277_v1050 hT (by omega) (ezm_in85 ku2) (by omega) sv) ?_
                      rintro _ _ ⟨x88_69, rfl, hT, fb_69, sv_69, rfl⟩
                      refine ezw_iload rfl rfl ?_
                      exact ezw_ireturn rfl (ezw_zret ⟨by omega, by omega⟩) ⟨x86_4, x87_4, x88_69, rfl, hT, y3, ⟨by omega, by omega⟩, fb_69, sv_69, rfl⟩
                  · refine ezw_iload_n rfl rfl ?_
                    refine ezw_bipush (6) rfl rfl ?_
                    refine ezw_icmp_ne rfl rfl (ezm_in85 ku1) ⟨by decide, by decide⟩ (fun h267_69 => ?_) (fun h267_69 => ?_)
                    · refine ezw_iload rfl rfl ?_
                      refine ezw_if_eq rfl rfl hy3 (fun h283_69 => ?_) (fun h283_69 => ?_)
                      · refine ezw_iload rfl rfl ?_
                        exact ezw_ireturn rfl (ezw_zret ⟨by omega, by omega⟩) ⟨x86_4, x87_4, r88, rfl, hT, y3, ⟨by omega, by omega⟩, fun _ _ => rfl, sv, rfl⟩
                      · refine ezw_aload_n rfl rfl ?_
                        refine ezw_sipush (1050) rfl rfl ?_
                        refine ezw_iload_n rfl rfl ?_
                        refine ezw_call0_2 rfl (by omega) (ezm_at rfl) rfl rfl rfl rfl (ezm_m277_v1050 hT (by omega) (ezm_in85 ku2) (by omega) sv) ?_
                        rintro _ _ ⟨x88_70, rfl, hT, fb_70, sv_70, rfl⟩
                        refine ezw_iload rfl rfl ?_
                        exact ezw_ireturn rfl (ezw_zret ⟨by omega, by omega⟩) ⟨x86_4, x87_4, x88_70, rfl, hT, y3, ⟨by omega, by omega⟩, fb_70, sv_70, rfl⟩
                    · refine ezw_aload_n rfl rfl ?_
                      refine ezw_sipush (1050) rfl rfl ?_
                      refine ezw_iload_n rfl rfl ?_
                      refine ezw_call0_2 rfl (by omega) (ezm_at rfl) rfl rfl rfl rfl (ezm_m289_v1050 hT (by omega) (ezm_in85 ku2) sv) ?_
                      rintro _ _ ⟨x88_71, rfl, hT, fb_71, sv_71, rfl⟩
                      refine ezw_goto rfl rfl ?_
                      refine ezw_iload rfl rfl ?_
                      exact ezw_ireturn rfl (ezw_zret ⟨by omega, by omega⟩) ⟨x86_4, x87_4, x88_71, rfl, hT, y3, ⟨by omega, by omega⟩, fb_71, sv_71, rfl⟩
                · refine ezw_aload_n rfl rfl ?_
                  refine ezw_sipush (1050) rfl rfl ?_
                  refine ezw_iload_n rfl rfl ?_
                  refine ezw_aload_n rfl rfl ?_
                  refine ezm_gp (p := 85) rfl (fun _ => rfl) ?_
                  refine ezw_iload_n rfl rfl ?_
                  refine ezw_iconst (2) rfl rfl ?_
                  refine ezw_iadd (k := a1 + 2) rfl (by omega) ?_
                  refine ezm_l85 rfl (by omega) (by omega) (fun u72 eu72 => ?_)
                  have ku72 : ezm_k85 (a1 + 2) u72 := eu72 ▸ hT.t85 (a1 + 2)
                  have zu72 := ezm_zl1 ku72 (by omega)
                  refine ezw_call0_3 rfl (by omega) (ezm_at rfl) rfl rfl rfl rfl (ezm_m284_v1050 hT (by omega) (ezm_in85 ku2) (ezm_in85 ku72) (by omega) sv) ?_
                  rintro _ _ ⟨x88_73, rfl, hT, fb_73, sv_73, rfl⟩
                  refine ezw_goto rfl rfl ?_
                  refine ezw_iload rfl rfl ?_
                  exact ezw_ireturn rfl (ezw_zret ⟨by omega, by omega⟩) ⟨x86_4, x87_4, x88_73, rfl, hT, y3, ⟨by omega, by omega⟩, fb_73, sv_73, rfl⟩
            · refine ezw_iload_n rfl rfl ?_
              refine ezw_iconst (2) rfl rfl ?_
              refine ezw_icmp_ne rfl rfl (ezm_in85 ku1) ⟨by decide, by decide⟩ (fun h210_73 => ?_) (fun h210_73 => ?_)
              · refine ezw_iload rfl rfl ?_
                refine ezw_if_eq rfl rfl hy3 (fun h232_73 => ?_) (fun h232_73 => ?_)
                · refine ezw_iload rfl rfl ?_
                  refine ezw_if_eq rfl rfl hy3 (fun h261_73 => ?_) (fun h261_73 => ?_)
                  · refine ezw_iload rfl rfl ?_
                    refine ezw_if_eq rfl rfl hy3 (fun h283_73 => ?_) (fun h283_73 => ?_)
                    · refine ezw_iload rfl rfl ?_
                      exact ezw_ireturn rfl (ezw_zret ⟨by omega, by omega⟩) ⟨x86_4, x87_4, r88, rfl, hT, y3, ⟨by omega, by omega⟩, fun _ _ => rfl, sv, rfl⟩
                    · refine ezw_aload_n rfl rfl ?_
                      refine ezw_sipush (1050) rfl rfl ?_
                      refine ezw_iload_n rfl rfl ?_
                      refine ezw_call0_2 rfl (by omega) (ezm_at rfl) rfl rfl rfl rfl (ezm_m277_v1050 hT (by omega) (ezm_in85 ku2) (by omega) sv) ?_
                      rintro _ _ ⟨x88_74, rfl, hT, fb_74, sv_74, rfl⟩
                      refine ezw_iload rfl rfl ?_
                      exact ezw_ireturn rfl (ezw_zret ⟨by omega, by omega⟩) ⟨x86_4, x87_4, x88_74, rfl, hT, y3, ⟨by omega, by omega⟩, fb_74, sv_74, rfl⟩
                  · refine ezw_iload_n rfl rfl ?_
                    refine ezw_bipush (6) rfl rfl ?_
                    refine ezw_icmp_ne rfl rfl (ezm_in85 ku1) ⟨by decide, by decide⟩ (fun h267_74 => ?_) (fun h267_74 => ?_)
                    · refine ezw_iload rfl rfl ?_
                      refine ezw_if_eq rfl rfl hy3 (fun h283_74 => ?_) (fun h283_74 => ?_)
                      · refine ezw_iload rfl rfl ?_
                        exact ezw_ireturn rfl (ezw_zret ⟨by omega, by omega⟩) ⟨x86_4, x87_4, r88, rfl, hT, y3, ⟨by omega, by omega⟩, fun _ _ => rfl, sv, rfl⟩
                      · refine ezw_aload_n rfl rfl ?_
                        refine ezw_sipush (1050) rfl rfl ?_
                        refine ezw_iload_n rfl rfl ?_
                        refine ezw_call0_2 rfl (by omega) (ezm_at rfl) rfl rfl rfl rfl (ezm_m277_v1050 hT (by omega) (ezm_in85 ku2) (by omega) sv) ?_
                        rintro _ _ ⟨x88_75, rfl, hT, fb_75, sv_75, rfl⟩
                        refine ezw_iload rfl rfl ?_
                        exact ezw_ireturn rfl (ezw_zret ⟨by omega, by omega⟩) ⟨x86_4, x87_4, x88_75, rfl, hT, y3, ⟨by omega, by omega⟩, fb_75, sv_75, rfl⟩
                    · refine ezw_aload_n rfl rfl ?_
                      refine ezw_sipush (1050) rfl rfl ?_
                      refine ezw_iload_n rfl rfl ?_
                      refine ezw_call0_2 rfl (by omega) (ezm_at rfl) rfl rfl rfl rfl (ezm_m289_v1050 hT (by omega) (ezm_in85 ku2) sv) ?_
                      rintro _ _ ⟨x88_76, rfl, hT, fb_76, sv_76, rfl⟩
                      refine ezw_goto rfl rfl ?_
                      refine ezw_iload rfl rfl ?_
                      exact ezw_ireturn rfl (ezw_zret ⟨by omega, by omega⟩) ⟨x86_4, x87_4, x88_76, rfl, hT, y3, ⟨by omega, by omega⟩, fb_76, sv_76, rfl⟩
                · refine ezw_iload_n rfl rfl ?_
                  refine ezw_iconst (3) rfl rfl ?_
                  refine ezw_icmp_ne rfl rfl (ezm_in85 ku1) ⟨by decide, by decide⟩ (fun h237_76 => ?_) (fun h237_76 => ?_)
                  · refine ezw_iload rfl rfl ?_
                    refine ezw_if_eq rfl rfl hy3 (fun h261_76 => ?_) (fun h261_76 => ?_)
                    · refine ezw_iload rfl rfl ?_
                      refine ezw_if_eq rfl rfl hy3 (fun h283_76 => ?_) (fun h283_76 => ?_)
                      · refine ezw_iload rfl rfl ?_
                        exact ezw_ireturn rfl (ezw_zret ⟨by omega, by omega⟩) ⟨x86_4, x87_4, r88, rfl, hT, y3, ⟨by omega, by omega⟩, fun _ _ => rfl, sv, rfl⟩
                      · refine ezw_aload_n rfl rfl ?_
                        refine ezw_sipush (1050) rfl rfl ?_
                        refine ezw_iload_n rfl rfl ?_
                        refine ezw_call0_2 rfl (by omega) (ezm_at rfl) rfl rfl rfl rfl (ezm_m277_v1050 hT (by omega) (ezm_in85 ku2) (by omega) sv) ?_
                        rintro _ _ ⟨x88_77, rfl, hT, fb_77, sv_77, rfl⟩
                        refine ezw_iload rfl rfl ?_
                        exact ezw_ireturn rfl (ezw_zret ⟨by omega, by omega⟩) ⟨x86_4, x87_4, x88_77, rfl, hT, y3, ⟨by omega, by omega⟩, fb_77, sv_77, rfl⟩
                    · refine ezw_iload_n rfl rfl ?_
                      refine ezw_bipush (6) rfl rfl ?_
                      refine ezw_icmp_ne rfl rfl (ezm_in85 ku1) ⟨by decide, by decide⟩ (fun h267_77 => ?_) (fun h267_77 => ?_)
                      · refine ezw_iload rfl rfl ?_
                        refine ezw_if_eq rfl rfl hy3 (fun h283_77 => ?_) (fun h283_77 => ?_)
                        · refine ezw_iload rfl rfl ?_
                          exact ezw_ireturn rfl (ezw_zret ⟨by omega, by omega⟩) ⟨x86_4, x87_4, r88, rfl, hT, y3, ⟨by omega, by omega⟩, fun _ _ => rfl, sv, rfl⟩
                        · refine ezw_aload_n rfl rfl ?_
                          refine ezw_sipush (1050) rfl rfl ?_
                          refine ezw_iload_n rfl rfl ?_
                          refine ezw_call0_2 rfl (by omega) (ezm_at rfl) rfl rfl rfl rfl (ezm_m277_v1050 hT (by omega) (ezm_in85 ku2) (by omega) sv) ?_
                          rintro _ _ ⟨x88_78, rfl, hT, fb_78, sv_78, rfl⟩
                          refine ezw_iload rfl rfl ?_
                          exact ezw_ireturn rfl (ezw_zret ⟨by omega, by omega⟩) ⟨x86_4, x87_4, x88_78, rfl, hT, y3, ⟨by omega, by omega⟩, fb_78, sv_78, rfl⟩
                      · refine ezw_aload_n rfl rfl ?_
                        refine ezw_sipush (1050) rfl rfl ?_
                        refine ezw_iload_n rfl rfl ?_
                        refine ezw_call0_2 rfl (by omega) (ezm_at rfl) rfl rfl rfl rfl (ezm_m289_v1050 hT (by omega) (ezm_in85 ku2) sv) ?_
                        rintro _ _ ⟨x88_79, rfl, hT, fb_79, sv_79, rfl⟩
                        refine ezw_goto rfl rfl ?_
                        refine ezw_iload rfl rfl ?_
                        exact ezw_ireturn rfl (ezw_zret ⟨by omega, by omega⟩) ⟨x86_4, x87_4, x88_79, rfl, hT, y3, ⟨by omega, by omega⟩, fb_79, sv_79, rfl⟩
                  · refine ezw_aload_n rfl rfl ?_
                    refine ezw_sipush (1050) rfl rfl ?_
                    refine ezw_iload_n rfl rfl ?_
                    refine ezw_aload_n rfl rfl ?_
                    refine ezm_gp (p := 85) rfl (fun _ => rfl) ?_
                    refine ezw_iload_n rfl rfl ?_
                    refine ezw_iconst (2) rfl rfl ?_
                    refine ezw_iadd (k := a1 + 2) rfl (by omega) ?_
                    refine ezm_l85 rfl (by omega) (by omega) (fun u80 eu80 => ?_)
                    have ku80 : ezm_k85 (a1 + 2) u80 := eu80 ▸ hT.t85 (a1 + 2)
                    have zu80 := ezm_zl1 ku80 (by omega)
                    refine ezw_call0_3 rfl (by omega) (ezm_at rfl) rfl rfl rfl rfl (ezm_m284_v1050 hT (by omega) (ezm_in85 ku2) (ezm_in85 ku80) (by omega) sv) ?_
                    rintro _ _ ⟨x88_81, rfl, hT, fb_81, sv_81, rfl⟩
                    refine ezw_goto rfl rfl ?_
                    refine ezw_iload rfl rfl ?_
                    exact ezw_ireturn rfl (ezw_zret ⟨by omega, by omega⟩) ⟨x86_4, x87_4, x88_81, rfl, hT, y3, ⟨by omega, by omega⟩, fb_81, sv_81, rfl⟩
              · refine ezw_aload_n rfl rfl ?_
                refine ezw_sipush (1050) rfl rfl ?_
                refine ezw_aload_n rfl rfl ?_
                refine ezw_sipush (1050) rfl rfl ?_
                refine ezw_call0_1 rfl (by omega) (ezm_at rfl) rfl rfl rfl rfl (ezm_m268_v1050 hT (by omega)) ?_
                rintro _ _ ⟨rfl, u83, hu83, p82_0, la_82, rfl⟩
                refine ezw_call0_2 rfl (by omega) (ezm_at rfl) rfl rfl rfl rfl (ezm_m277_v1050 hT (by omega) hu83 (by omega) sv) ?_
                rintro _ _ ⟨x88_84, rfl, hT, fb_84, sv_84, rfl⟩
                refine ezw_goto rfl rfl ?_
                refine ezw_iload rfl rfl ?_
                exact ezw_ireturn rfl (ezw_zret ⟨by omega, by omega⟩) ⟨x86_4, x87_4, x88_84, rfl, hT, y3, ⟨by omega, by omega⟩, fb_84, sv_84, rfl⟩
          · refine ezw_aload_n rfl rfl ?_
            refine ezm_gp (p := 88) rfl (fun _ => rfl) ?_
            refine ezw_sipush (1057) rfl rfl ?_
            refine ezw_aload_n rfl rfl ?_
            refine ezw_sipush (1050) rfl rfl ?_
            refine ezw_call0_1 rfl (by omega) (ezm_at rfl) rfl rfl rfl rfl (ezm_m268_v1050 hT (by omega)) ?_
            rintro _ _ ⟨rfl, u86, hu86, p85_0, la_85, rfl⟩
            refine ezw_iadd (k := u86 + 1057) rfl (by omega) ?_
            refine ezw_dup2 rfl rfl rfl ?_
            refine ezm_l88 rfl (by omega) (by omega) (fun u87 eu87 => ?_)
            have ku87 : ezm_k88 (u86 + 1057) u87 := eu87 ▸ hT.t88 (u86 + 1057)
            have zu87 := ezm_zs7 ku87 (by omega)
            have hti := c1_4 (by omega) (by omega)
            rw [← la_85, ← eu87] at hti
            refine ezw_iconst (1) rfl rfl ?_
            refine ezw_isub (k := u87 - 1) rfl (by omega) ?_
            refine ezm_s88 hT rfl (by omega) (by omega) ⟨⟨by omega, by omega⟩, by omega, by omega, by omega, by omega, by omega⟩ (fun r88_88 hT er88_88 fr88_88 => ?_)
            refine ezw_goto rfl rfl ?_
            refine ezw_iload rfl rfl ?_
            exact ezw_ireturn rfl (ezw_zret ⟨by omega, by omega⟩) ⟨x86_4, x87_4, r88_88, rfl, hT, y3, ⟨by omega, by omega⟩, fun j hj => by rw [fr88_88 j (by omega)], ezm_SV_fr2 sv b0.2 (fun j hj => by rw [fr88_88 j (by omega)]), rfl⟩
      · refine ezw_aload_n rfl rfl ?_
        refine ezw_sipush (1050) rfl rfl ?_
        refine ezw_aload_n rfl rfl ?_
        refine ezm_gp (p := 85) rfl (fun _ => rfl) ?_
        refine ezw_iload_n rfl rfl ?_
        refine ezw_iconst (2) rfl rfl ?_
        refine ezw_iadd (k := a1 + 2) rfl (by omega) ?_
        refine ezm_l85 rfl (by omega) (by omega) (fun u89 eu89 => ?_)
        have ku89 : ezm_k85 (a1 + 2) u89 := eu89 ▸ hT.t85 (a1 + 2)
        have zu89 := ezm_zl1 ku89 (by omega)
        refine ezw_aload_n rfl rfl ?_
        refine ezm_gp (p := 85) rfl (fun _ => rfl) ?_
        refine ezw_iload_n rfl rfl ?_
        refine ezw_iconst (3) rfl rfl ?_
        refine ezw_iadd (k := a1 + 3) rfl (by omega) ?_
        refine ezm_l85 rfl (by omega) (by omega) (fun u90 eu90 => ?_)
        have ku90 : ezm_k85 (a1 + 3) u90 := eu90 ▸ hT.t85 (a1 + 3)
        have zu90 := ezm_zl1 ku90 (by omega)
        refine ezw_call0_3 rfl (by omega) (ezm_at rfl) rfl rfl rfl rfl (ezm_m276_v1050 hT (by omega) (ezm_in85 ku89) (ezm_in85 ku90) (by omega) sv) ?_
        rintro _ _ ⟨x88_91, rfl, hT, fb_91, sv_91, rfl⟩
        refine ezw_goto rfl rfl ?_
        refine ezw_iload rfl rfl ?_
        exact ezw_ireturn rfl (ezw_zret ⟨by omega, by omega⟩) ⟨x86_4, x87_4, x88_91, rfl, hT, y3, ⟨by omega, by omega⟩, fb_91, sv_91, rfl⟩
  refine ezw_if_ne rfl rfl (ezm_in85 ku1) (fun h17_2 => ?_) (fun h17_2 => ?_)
  · refine ezw_iload_n rfl rfl ?_
    refine ezw_iconst (1) rfl rfl ?_
    refine ezw_icmp_ne rfl rfl (ezm_in85 ku1) ⟨by decide, by decide⟩ (fun h49_91 => ?_) (fun h49_91 => ?_)
    · refine ezw_iload_n rfl rfl ?_
      refine ezw_iconst (2) rfl rfl ?_
      refine ezw_icmp_ne rfl rfl (ezm_in85 ku1) ⟨by decide, by decide⟩ (fun h64_91 => ?_) (fun h64_91 => ?_)
      · refine ezw_iload_n rfl rfl ?_
        refine ezw_iconst (3) rfl rfl ?_
        refine ezw_icmp_ne rfl rfl (ezm_in85 ku1) ⟨by decide, by decide⟩ (fun h79_91 => ?_) (fun h79_91 => ?_)
        · refine ezw_iload_n rfl rfl ?_
          refine ezw_bipush (6) rfl rfl ?_
          refine ezw_icmp_eq rfl rfl (ezm_in85 ku1) ⟨by decide, by decide⟩ (fun h104_91 => ?_) (fun h104_91 => ?_)
          · refine ezw_iconst (1) rfl rfl ?_
            refine ezw_goto rfl rfl ?_
            exact ezw_keepE [true, true, true, true, false] (J133_4 (1) ⟨by decide, by decide⟩ r86 r87 hT (by omega) (by omega))
          · refine ezw_aload_n rfl rfl ?_
            refine ezw_sipush (1050) rfl rfl ?_
            refine ezw_iload_n rfl rfl ?_
            refine ezw_iload_n rfl rfl ?_
            refine ezw_iconst (5) rfl rfl ?_
            refine ezw_icmp_ne rfl rfl (ezm_in85 ku1) ⟨by decide, by decide⟩ (fun h114_91 => ?_) (fun h114_91 => ?_)
            · refine ezw_iconst (0) rfl rfl ?_
              refine ezw_call0_3 rfl (by omega) (ezm_at rfl) rfl rfl rfl rfl (ezm_m286_v1050 hT (by omega) (ezm_in85 ku2) ⟨by decide, by decide⟩ (by omega) tr sv) ?_
              rintro _ _ ⟨rfl, u93, hu93, rfl⟩
              refine ezw_if_eq rfl rfl ⟨by omega, by omega⟩ (fun h125_93 => ?_) (fun h125_93 => ?_)
              · refine ezw_iconst (0) rfl rfl ?_
                exact ezw_keepE [true, true, true, true, false] (J133_4 (0) ⟨by decide, by decide⟩ r86 r87 hT (by omega) (by omega))
              · refine ezw_iconst (1) rfl rfl ?_
                refine ezw_goto rfl rfl ?_
                exact ezw_keepE [true, true, true, true, false] (J133_4 (1) ⟨by decide, by decide⟩ r86 r87 hT (by omega) (by omega))
            · refine ezw_iconst (1) rfl rfl ?_
              refine ezw_goto rfl rfl ?_
              refine ezw_call0_3 rfl (by omega) (ezm_at rfl) rfl rfl rfl rfl (ezm_m286_v1050 hT (by omega) (ezm_in85 ku2) ⟨by decide, by decide⟩ (by omega) tr sv) ?_
              rintro _ _ ⟨rfl, u95, hu95, rfl⟩
              refine ezw_if_eq rfl rfl ⟨by omega, by omega⟩ (fun h125_95 => ?_) (fun h125_95 => ?_)
              · refine ezw_iconst (0) rfl rfl ?_
                exact ezw_keepE [true, true, true, true, false] (J133_4 (0) ⟨by decide, by decide⟩ r86 r87 hT (by omega) (by omega))
              · refine ezw_iconst (1) rfl rfl ?_
                refine ezw_goto rfl rfl ?_
                exact ezw_keepE [true, true, true, true, false] (J133_4 (1) ⟨by decide, by decide⟩ r86 r87 hT (by omega) (by omega))
        · refine ezw_aload_n rfl rfl ?_
          refine ezw_sipush (1050) rfl rfl ?_
          refine ezw_iload_n rfl rfl ?_
          refine ezw_aload_n rfl rfl ?_
          refine ezm_gp (p := 85) rfl (fun _ => rfl) ?_
          refine ezw_iload_n rfl rfl ?_
          refine ezw_iconst (2) rfl rfl ?_
          refine ezw_iadd (k := a1 + 2) rfl (by omega) ?_
          refine ezm_l85 rfl (by omega) (by omega) (fun u96 eu96 => ?_)
          have ku96 : ezm_k85 (a1 + 2) u96 := eu96 ▸ hT.t85 (a1 + 2)
          have zu96 := ezm_zl1 ku96 (by omega)
          refine ezw_call0_3 rfl (by omega) (ezm_at rfl) rfl rfl rfl rfl (ezm_m283_v1050 hT (by omega) (ezm_in85 ku2) (ezm_in85 ku96) (by omega) (by omega)) ?_
          rintro _ _ ⟨rfl, u98, hu98, rfl⟩
          refine ezw_goto rfl rfl ?_
          exact ezw_keepE [true, true, true, true, false] (J133_4 u98 ⟨by omega, by omega⟩ r86 r87 hT (by omega) (by omega))
      · refine ezw_aload_n rfl rfl ?_
        refine ezw_sipush (1050) rfl rfl ?_
        refine ezw_call0_1 rfl (by omega) (ezm_at rfl) rfl rfl rfl rfl (ezm_m281_v1050 hT (by omega)) ?_
        rintro _ _ ⟨rfl, u100, hu100, up_99, rfl⟩
        refine ezw_goto rfl rfl ?_
        exact ezw_keepE [true, true, true, true, false] (J133_4 u100 ⟨by omega, by omega⟩ r86 r87 hT (by omega) (by omega))
    · refine ezw_aload_n rfl rfl ?_
      refine ezw_sipush (1050) rfl rfl ?_
      refine ezw_call0_1 rfl (by omega) (ezm_at rfl) rfl rfl rfl rfl (ezm_m279_v1050 hT (by omega)) ?_
      rintro _ _ ⟨rfl, u102, hu102, up_101, ti_101, rfl⟩
      refine ezw_goto rfl rfl ?_
      exact ezw_keepE [true, true, true, true, false] (J133_4 u102 ⟨by omega, by omega⟩ r86 r87 hT (by omega) (fun _ _ => ti_101 (by omega)))
  · refine ezw_aload_n rfl rfl ?_
    refine ezw_sipush (1050) rfl rfl ?_
    refine ezw_iload_n rfl rfl ?_
    refine ezw_aload_n rfl rfl ?_
    refine ezm_gp (p := 85) rfl (fun _ => rfl) ?_
    refine ezw_iload_n rfl rfl ?_
    refine ezw_iconst (2) rfl rfl ?_
    refine ezw_iadd (k := a1 + 2) rfl (by omega) ?_
    refine ezm_l85 rfl (by omega) (by omega) (fun u103 eu103 => ?_)
    have ku103 : ezm_k85 (a1 + 2) u103 := eu103 ▸ hT.t85 (a1 + 2)
    have zu103 := ezm_zl1 ku103 (by omega)
    refine ezw_aload_n rfl rfl ?_
    refine ezm_gp (p := 85) rfl (fun _ => rfl) ?_
    refine ezw_iload_n rfl rfl ?_
    refine ezw_iconst (3) rfl rfl ?_
    refine ezw_iadd (k := a1 + 3) rfl (by omega) ?_
    refine ezm_l85 rfl (by omega) (by omega) (fun u104 eu104 => ?_)
    have ku104 : ezm_k85 (a1 + 3) u104 := eu104 ▸ hT.t85 (a1 + 3)
    have zu104 := ezm_zl1 ku104 (by omega)
    refine ezw_call0_4 rfl (by omega) (ezm_at rfl) rfl rfl rfl rfl (ezm_m273_v1050 hT (by omega) (ezm_in85 ku2) (ezm_in85 ku103) (ezm_in85 ku104) tr) ?_
    rintro _ _ ⟨x86_105, x87_105, rfl, hT, u106, hu106, rfl⟩
    refine ezw_goto rfl rfl ?_
    exact ezw_keepE [true, true, true, true, false] (J133_4 u106 ⟨by omega, by omega⟩ x86_105 x87_105 hT (by omega) (by omega))
end KM6
