/-! ===== the model: what is told, what is waited for ===== -/
section KM6
variable {l : Launch} {ρ : ezq_E} {B : Nat} {xa : Nat → Option Nat} {Hb : Heap} {D : va_G} {cA : Nat → ClassId} {d : Nat} {e : Bool × Bool} {F : Nat → Nat → Int} {A : Nat → Int → Int} {i0 i2 i3 i7 i8 i13 i18 i19 i20 i25 i29 i30 i31 i36 i37 i38 : Int} {r73 r74 r75 r76 r77 r78 r79 r80 r81 r82 r83 r84 r85 r86 r87 r88 r89 r90 r91 r92 r93 r94 r95 : Int → Int}
def ezm_m265bQ (e : Bool × Bool) (F : Nat → Nat → Int) (A : Nat → Int → Int) (i0 i2 i3 i7 i8 i13 i18 i19 i20 i25 i29 i30 i31 i36 i37 i38 : Int) (r73 r74 r75 r76 r77 r78 r79 r80 r81 r82 r83 r84 r85 r86 r87 r88 r89 r90 r91 r92 r93 r94 r95 : Int → Int) (a0 : Int) : Option ezq_V → (Nat → ezq_C) → Prop := fun v g' => ezm_h e F A i0 i2 i3 i7 i8 i13 i18 i19 i20 i25 i29 i30 i31 i36 i37 i38 r73 r74 r75 r76 r77 r78 r79 r80 r81 r82 r83 r84 r85 r86 r87 r88 r89 r90 r91 r92 r93 r94 r95 = g' ∧ ∃ u : Int, (0 ≤ u ∧ u ≤ 1) ∧ (u = 1 → 0 ≤ a0 ∧ a0 ≤ 3) ∧ some (ezw_i u) = v
theorem ezm_m265b {a0 : Int} (hT : ezm_T i0 i2 i3 i7 i8 i13 i18 i19 i20 i25 i29 i30 i31 i36 i37 i38 r73 r74 r75 r76 r77 r78 r79 r80 r81 r82 r83 r84 r85 r86 r87 r88 r89 r90 r91 r92 r93 r94 r95) (hd : 0 ≤ d) (ha0 : ezw_in a0) : ezw_C l ρ B xa Hb D cA 265 d [ezw_i a0] (ezm_h e F A i0 i2 i3 i7 i8 i13 i18 i19 i20 i25 i29 i30 i31 i36 i37 i38 r73 r74 r75 r76 r77 r78 r79 r80 r81 r82 r83 r84 r85 r86 r87 r88 r89 r90 r91 r92 r93 r94 r95) (ezm_m265bQ  e F A i0 i2 i3 i7 i8 i13 i18 i19 i20 i25 i29 i30 i31 i36 i37 i38 r73 r74 r75 r76 r77 r78 r79 r80 r81 r82 r83 r84 r85 r86 r87 r88 r89 r90 r91 r92 r93 r94 r95 a0) := by
  refine ezw_met (k := 0) rfl rfl ?_
  refine ezw_iload_n rfl rfl ?_
  refine ezw_if_lt rfl rfl ha0 (fun h1_0 => ?_) (fun h1_0 => ?_)
  · refine ezw_iconst (0) rfl rfl ?_
    exact ezw_ireturn rfl (ezw_zret ⟨by omega, by omega⟩) ⟨rfl, (0), ⟨by omega, by omega⟩, by omega, rfl⟩
  · refine ezw_iload_n rfl rfl ?_
    refine ezw_iconst (4) rfl rfl ?_
    refine ezw_icmp_ge rfl rfl ha0 ⟨by decide, by decide⟩ (fun h6_0 => ?_) (fun h6_0 => ?_)
    · refine ezw_iconst (0) rfl rfl ?_
      exact ezw_ireturn rfl (ezw_zret ⟨by omega, by omega⟩) ⟨rfl, (0), ⟨by omega, by omega⟩, by omega, rfl⟩
    · refine ezw_iconst (1) rfl rfl ?_
      refine ezw_goto rfl rfl ?_
      exact ezw_ireturn rfl (ezw_zret ⟨by omega, by omega⟩) ⟨rfl, (1), ⟨by omega, by omega⟩, by omega, rfl⟩
def ezm_m311Q (e : Bool × Bool) (F : Nat → Nat → Int) (A : Nat → Int → Int) (i0 i2 i3 i7 i8 i13 i18 i19 i20 i25 i29 i30 i31 i36 i37 i38 : Int) (r73 r74 r75 r76 r77 r78 r79 r80 r81 r82 r83 r84 r85 r86 r87 r88 r89 r90 r91 r92 r93 r94 r95 : Int → Int) (a1 : Int) (a2 : Int) (a3 : Int) : Option ezq_V → (Nat → ezq_C) → Prop := fun v g' => ∃ (x0 : Int), ezm_h e F A x0 i2 i3 i7 i8 i13 i18 i19 i20 i25 i29 i30 i31 i36 i37 i38 r73 r74 r75 r76 r77 r78 r79 r80 r81 r82 r83 r84 r85 r86 r87 r88 r89 r90 r91 r92 r93 r94 r95 = g' ∧ ezm_T x0 i2 i3 i7 i8 i13 i18 i19 i20 i25 i29 i30 i31 i36 i37 i38 r73 r74 r75 r76 r77 r78 r79 r80 r81 r82 r83 r84 r85 r86 r87 r88 r89 r90 r91 r92 r93 r94 r95 ∧ ∃ u : Int, (ezw_in u) ∧ some (ezw_i u) = v
theorem ezm_m311 {a1 a2 a3 : Int} (hT : ezm_T i0 i2 i3 i7 i8 i13 i18 i19 i20 i25 i29 i30 i31 i36 i37 i38 r73 r74 r75 r76 r77 r78 r79 r80 r81 r82 r83 r84 r85 r86 r87 r88 r89 r90 r91 r92 r93 r94 r95) (hd : 1 ≤ d) (ha1 : ezw_in a1) (ha2 : ezw_in a2) (ha3 : ezw_in a3) : ezw_C l ρ B xa Hb D cA 311 d [ezw_p 72, ezw_i a1, ezw_i a2, ezw_i a3] (ezm_h e F A i0 i2 i3 i7 i8 i13 i18 i19 i20 i25 i29 i30 i31 i36 i37 i38 r73 r74 r75 r76 r77 r78 r79 r80 r81 r82 r83 r84 r85 r86 r87 r88 r89 r90 r91 r92 r93 r94 r95) (ezm_m311Q  e F A i0 i2 i3 i7 i8 i13 i18 i19 i20 i25 i29 i30 i31 i36 i37 i38 r73 r74 r75 r76 r77 r78 r79 r80 r81 r82 r83 r84 r85 r86 r87 r88 r89 r90 r91 r92 r93 r94 r95 a1 a2 a3) := by
  refine ezw_met (k := 6) rfl rfl ?_
  refine ezw_aload_n rfl rfl ?_
  refine ezw_iconst (0) rfl rfl ?_
  refine ezm_p0 hT rfl ⟨by decide, by decide⟩ (fun hT => ?_)
  refine ezw_iload_n rfl rfl ?_
  refine ezw_call2_1 rfl (by omega) rfl rfl (ezm_m265b hT (by omega) ha1) ?_
  rintro _ _ ⟨rfl, u2, hu2, p1_0, rfl⟩
  refine ezw_if_eq rfl rfl ⟨by omega, by omega⟩ (fun h9_2 => ?_) (fun h9_2 => ?_)
  · refine ezw_iconst (-1) rfl rfl ?_
    exact ezw_ireturn rfl rfl ⟨(0), rfl, hT, (-1), ⟨by decide, by decide⟩, rfl⟩
  · refine ezw_iload_n rfl rfl ?_
    refine ezw_iconst (0) rfl rfl ?_
    refine ezw_bipush (20) rfl rfl ?_
    refine ezw_call2_3 rfl (by omega) rfl rfl (ezm_m236 hT (by omega) ha2 ⟨by decide, by decide⟩ ⟨by decide, by decide⟩) ?_
    rintro _ _ ⟨rfl, u4, hu4, p3_0, p3_1, rfl⟩
    refine ezw_if_eq rfl rfl ⟨by omega, by omega⟩ (fun h19_4 => ?_) (fun h19_4 => ?_)
    · refine ezw_iconst (-1) rfl rfl ?_
      exact ezw_ireturn rfl rfl ⟨(0), rfl, hT, (-1), ⟨by decide, by decide⟩, rfl⟩
    · refine ezw_iload_n rfl rfl ?_
      refine ezw_iconst (0) rfl rfl ?_
      refine ezw_iconst (1) rfl rfl ?_
      refine ezw_call2_3 rfl (by omega) rfl rfl (ezm_m236 hT (by omega) ha3 ⟨by decide, by decide⟩ ⟨by decide, by decide⟩) ?_
      rintro _ _ ⟨rfl, u6, hu6, p5_0, p5_1, rfl⟩
      refine ezw_if_eq rfl rfl ⟨by omega, by omega⟩ (fun h28_6 => ?_) (fun h28_6 => ?_)
      · refine ezw_iconst (-1) rfl rfl ?_
        exact ezw_ireturn rfl rfl ⟨(0), rfl, hT, (-1), ⟨by decide, by decide⟩, rfl⟩
      · refine ezw_aload_n rfl rfl ?_
        refine ezw_iconst (0) rfl rfl ?_
        refine ezw_call0_1 rfl (by omega) (ezm_at rfl) rfl rfl rfl rfl (ezm_m266_v0 hT (by omega)) ?_
        rintro _ _ ⟨rfl, u8, hu8, p7_0, p7_1, rfl⟩
        refine ezw_if_ne rfl rfl ⟨by omega, by omega⟩ (fun h36_8 => ?_) (fun h36_8 => ?_)
        · refine ezw_aload_n rfl rfl ?_
          refine ezm_gp (p := 88) rfl (fun _ => rfl) ?_
          refine ezw_iconst (0) rfl rfl ?_
          refine ezm_l88 rfl (by omega) (by omega) (fun u9 eu9 => ?_)
          have ku9 : ezm_k88 (0) u9 := eu9 ▸ hT.t88 (0)
          have zu9 := ezm_zs0 ku9 (by omega)
          refine ezw_istore rfl rfl ?_
          refine ezw_iload_n rfl rfl ?_
          refine ezw_istore rfl rfl ?_
          refine ezw_iload_n rfl rfl ?_
          refine ezw_istore rfl rfl ?_
          have L55_11 : ∀ c10 : Int, ezw_in c10 → ∀ y12 : Int, ezw_in y12 → ∀ y13 : Int, ezw_in y13 → (c10 ≤ u9) → (0 ≤ c10 ∧ c10 ≤ 6) → ezw_E l ρ B xa Hb D cA d ezq_re311 (ezm_m311Q  e F A i0 i2 i3 i7 i8 i13 i18 i19 i20 i25 i29 i30 i31 i36 i37 i38 r73 r74 r75 r76 r77 r78 r79 r80 r81 r82 r83 r84 r85 r86 r87 r88 r89 r90 r91 r92 r93 r94 r95 a1 a2 a3) 55 [some (ezw_p 72), some (ezw_i a1), some (ezw_i a2), some (ezw_i a3), some (ezw_i c10), some (ezw_i y12), some (ezw_i y13), none, none, none] [] (ezm_h e F A (0) i2 i3 i7 i8 i13 i18 i19 i20 i25 i29 i30 i31 i36 i37 i38 r73 r74 r75 r76 r77 r78 r79 r80 r81 r82 r83 r84 r85 r86 r87 r88 r89 r90 r91 r92 r93 r94 r95) := by
            refine ezs_dn ?_
            intro c10 hc10 ihc10 y12 hy12 y13 hy13 g_11 v1_11
            refine ezw_iload rfl rfl ?_
            refine ezw_if_le rfl rfl hc10 (fun h57_13 => ?_) (fun h57_13 => ?_)
            · refine ezw_iload rfl rfl ?_
              have J139_15 : ∀ y14 : Int, ezw_in y14 → ezw_E l ρ B xa Hb D cA d ezq_re311 (ezm_m311Q  e F A i0 i2 i3 i7 i8 i13 i18 i19 i20 i25 i29 i30 i31 i36 i37 i38 r73 r74 r75 r76 r77 r78 r79 r80 r81 r82 r83 r84 r85 r86 r87 r88 r89 r90 r91 r92 r93 r94 r95 a1 a2 a3) 139 [some (ezw_p 72), some (ezw_i a1), some (ezw_i a2), some (ezw_i a3), some (ezw_i c10), some (ezw_i y12), some (ezw_i y13), none, none, none] [ezw_i y14] (ezm_h e F A (0) i2 i3 i7 i8 i13 i18 i19 i20 i25 i29 i30 i31 i36 i37 i38 r73 r74 r75 r76 r77 r78 r79 r80 r81 r82 r83 r84 r85 r86 r87 r88 r89 r90 r91 r92 r93 r94 r95) := by
                intro y14 hy14
                refine ezw_istore rfl rfl ?_
                refine ezw_iconst (1) rfl rfl ?_
                refine ezw_istore rfl rfl ?_
                have L144_17 : ∀ c16 : Int, ezw_in c16 → ∀ y18 : Int, ezw_in y18 → ((1) ≤ c16) → ezw_E l ρ B xa Hb D cA d ezq_re311 (ezm_m311Q  e F A i0 i2 i3 i7 i8 i13 i18 i19 i20 i25 i29 i30 i31 i36 i37 i38 r73 r74 r75 r76 r77 r78 r79 r80 r81 r82 r83 r84 r85 r86 r87 r88 r89 r90 r91 r92 r93 r94 r95 a1 a2 a3) 144 [some (ezw_p 72), some (ezw_i a1), some (ezw_i a2), some (ezw_i a3), some (ezw_i c10), some (ezw_i y12), some (ezw_i y13), some (ezw_i y18), some (ezw_i c16), none] [] (ezm_h e F A (0) i2 i3 i7 i8 i13 i18 i19 i20 i25 i29 i30 i31 i36 i37 i38 r73 r74 r75 r76 r77 r78 r79 r80 r81 r82 r83 r84 r85 r86 r87 r88 r89 r90 r91 r92 r93 r94 r95) := by
                  refine ezs_up ?_
                  intro c16 hc16 ihc16 y18 hy18 g_17
                  refine ezw_iload rfl rfl ?_
                  refine ezw_iload rfl rfl ?_
                  refine ezw_icmp_ge rfl rfl hc16 hc10 (fun h148_18 => ?_) (fun h148_18 => ?_)
                  · refine ezw_iload_n rfl rfl ?_
                    refine ezw_if_ne rfl rfl ha3 (fun h209_18 => ?_) (fun h209_18 => ?_)
                    · refine ezw_iload rfl rfl ?_
                      exact ezw_ireturn rfl rfl ⟨(0), rfl, hT, y18, hy18, rfl⟩
                    · refine ezw_iload rfl rfl ?_
                      refine ezw_goto rfl rfl ?_
                      exact ezw_ireturn rfl rfl ⟨(0), rfl, hT, c10, hc10, rfl⟩
                  · refine ezw_aload_n rfl rfl ?_
                    refine ezw_aload_n rfl rfl ?_
                    refine ezm_gp (p := 88) rfl (fun _ => rfl) ?_
                    refine ezw_iconst (1) rfl rfl ?_
                    refine ezw_iload rfl rfl ?_
                    refine ezw_iadd (k := c16 + 1) rfl (by omega) ?_
                    refine ezm_l88 rfl (by omega) (by omega) (fun u19 eu19 => ?_)
                    have ku19 : ezm_k88 (c16 + 1) u19 := eu19 ▸ hT.t88 (c16 + 1)
                    have zu19 := ezm_zs1 ku19 (by omega)
                    refine ezw_iconst (0) rfl rfl ?_
                    refine ezw_call0_2 rfl (by omega) (ezm_at rfl) rfl rfl rfl rfl (ezm_m259_v0 hT (by omega) (ezm_in88 ku19) (by omega)) ?_
                    rintro _ _ ⟨rfl, u21, hu21, tw_20, rfl⟩
                    refine ezw_aload_n rfl rfl ?_
                    refine ezw_aload_n rfl rfl ?_
                    refine ezm_gp (p := 88) rfl (fun _ => rfl) ?_
                    refine ezw_iconst (1) rfl rfl ?_
                    refine ezw_iload rfl rfl ?_
                    refine ezw_iadd (k := c16 + 1) rfl (by omega) ?_
                    refine ezw_iconst (1) rfl rfl ?_
                    refine ezw_isub (k := c16) rfl (by omega) ?_
                    refine ezm_l88 rfl (by omega) (by omega) (fun u22 eu22 => ?_)
                    have ku22 : ezm_k88 c16 u22 := eu22 ▸ hT.t88 c16
                    have zu22 := ezm_z07 ku22 (by omega)
                    refine ezw_iconst (0) rfl rfl ?_
                    refine ezw_call0_2 rfl (by omega) (ezm_at rfl) rfl rfl rfl rfl (ezm_m259_v0 hT (by omega) (ezm_in88 ku22) (by omega)) ?_
                    rintro _ _ ⟨rfl, u24, hu24, tw_23, rfl⟩
                    refine ezs_isub rfl (fun u25 hu25 => ?_)
                    refine ezw_istore rfl rfl ?_
                    refine ezw_iload rfl rfl ?_
                    refine ezw_iload rfl rfl ?_
                    have J199_27 : ∀ y26 : Int, ezw_in y26 → ezw_E l ρ B xa Hb D cA d ezq_re311 (ezm_m311Q  e F A i0 i2 i3 i7 i8 i13 i18 i19 i20 i25 i29 i30 i31 i36 i37 i38 r73 r74 r75 r76 r77 r78 r79 r80 r81 r82 r83 r84 r85 r86 r87 r88 r89 r90 r91 r92 r93 r94 r95 a1 a2 a3) 199 [some (ezw_p 72), some (ezw_i a1), some (ezw_i a2), some (ezw_i a3), some (ezw_i c10), some (ezw_i y12), some (ezw_i y13), some (ezw_i y18), some (ezw_i c16), some (ezw_i u25)] [ezw_i y26, ezw_i y18] (ezm_h e F A (0) i2 i3 i7 i8 i13 i18 i19 i20 i25 i29 i30 i31 i36 i37 i38 r73 r74 r75 r76 r77 r78 r79 r80 r81 r82 r83 r84 r85 r86 r87 r88 r89 r90 r91 r92 r93 r94 r95) := by
                      intro y26 hy26
                      refine ezs_iadd rfl (fun u28 hu28 => ?_)
                      refine ezw_istore rfl rfl ?_
                      refine ezw_iinc (k := c16 + 1) (1) rfl rfl rfl (by omega) rfl ?_
                      refine ezw_goto rfl rfl ?_
                      exact ezw_keepE [true, true, true, true, true, true, true, true, true, false] (ihc16 (c16 + 1) (by omega) ⟨by omega, by omega⟩ u28 hu28 (by omega))
                    refine ezw_if_ge rfl rfl hu25 (fun h188_25 => ?_) (fun h188_25 => ?_)
                    · refine ezw_iload rfl rfl ?_
                      exact ezw_keepE [true, true, true, true, true, true, true, true, true, true] (J199_27 u25 hu25)
                    · refine ezw_iload rfl rfl ?_
                      refine ezs_ineg rfl (fun u29 hu29 => ?_)
                      refine ezw_goto rfl rfl ?_
                      exact ezw_keepE [true, true, true, true, true, true, true, true, true, true] (J199_27 u29 hu29)
                exact ezw_keepE [true, true, true, true, true, true, true, true, true, false] (L144_17 (1) ⟨by decide, by decide⟩ y14 hy14 (by omega))
              refine ezw_if_le rfl rfl hc10 (fun h128_13 => ?_) (fun h128_13 => ?_)
              · refine ezw_iconst (0) rfl rfl ?_
                exact ezw_keepE [true, true, true, true, true, true, true, false, false, false] (J139_15 (0) ⟨by decide, by decide⟩)
              · refine ezw_iload rfl rfl ?_
                refine ezw_iconst (1) rfl rfl ?_
                refine ezw_isub (k := c10 - 1) rfl (by omega) ?_
                refine ezw_goto rfl rfl ?_
                exact ezw_keepE [true, true, true, true, true, true, true, false, false, false] (J139_15 (c10 - 1) ⟨by omega, by omega⟩)
            · refine ezw_iload rfl rfl ?_
              refine ezw_aload_n rfl rfl ?_
              refine ezw_aload_n rfl rfl ?_
              refine ezm_gp (p := 88) rfl (fun _ => rfl) ?_
              refine ezw_iconst (1) rfl rfl ?_
              refine ezw_iload rfl rfl ?_
              refine ezw_iadd (k := c10 + 1) rfl (by omega) ?_
              refine ezw_iconst (1) rfl rfl ?_
              refine ezw_isub (k := c10) rfl (by omega) ?_
              refine ezm_l88 rfl (by omega) (by omega) (fun u30 eu30 => ?_)
              have ku30 : ezm_k88 c10 u30 := eu30 ▸ hT.t88 c10
              have zu30 := ezm_z07 ku30 (by omega)
              refine ezw_iconst (2) rfl rfl ?_
              refine ezw_call0_2 rfl (by omega) (ezm_at rfl) rfl rfl rfl rfl (ezm_m259_v2 hT (by omega) (ezm_in88 ku30) (by omega)) ?_
              rintro _ _ ⟨rfl, u32, hu32, tw_31, rfl⟩
              refine ezw_call2_2 rfl (by omega) rfl rfl (ezm_m312 hT (by omega) hy12 hu32) ?_
              rintro _ _ ⟨rfl, u34, hu34, rfl⟩
              refine ezw_iload rfl rfl ?_
              refine ezw_icmp_gt rfl rfl hu34 hy13 (fun h83_34 => ?_) (fun h83_34 => ?_)
              · refine ezw_iload rfl rfl ?_
                have J139_36 : ∀ y35 : Int, ezw_in y35 → ezw_E l ρ B xa Hb D cA d ezq_re311 (ezm_m311Q  e F A i0 i2 i3 i7 i8 i13 i18 i19 i20 i25 i29 i30 i31 i36 i37 i38 r73 r74 r75 r76 r77 r78 r79 r80 r81 r82 r83 r84 r85 r86 r87 r88 r89 r90 r91 r92 r93 r94 r95 a1 a2 a3) 139 [some (ezw_p 72), some (ezw_i a1), some (ezw_i a2), some (ezw_i a3), some (ezw_i c10), some (ezw_i y12), some (ezw_i y13), none, none, none] [ezw_i y35] (ezm_h e F A (0) i2 i3 i7 i8 i13 i18 i19 i20 i25 i29 i30 i31 i36 i37 i38 r73 r74 r75 r76 r77 r78 r79 r80 r81 r82 r83 r84 r85 r86 r87 r88 r89 r90 r91 r92 r93 r94 r95) := by
                  intro y35 hy35
                  refine ezw_istore rfl rfl ?_
                  refine ezw_iconst (1) rfl rfl ?_
                  refine ezw_istore rfl rfl ?_
                  have L144_38 : ∀ c37 : Int, ezw_in c37 → ∀ y39 : Int, ezw_in y39 → ((1) ≤ c37) → ezw_E l ρ B xa Hb D cA d ezq_re311 (ezm_m311Q  e F A i0 i2 i3 i7 i8 i13 i18 i19 i20 i25 i29 i30 i31 i36 i37 i38 r73 r74 r75 r76 r77 r78 r79 r80 r81 r82 r83 r84 r85 r86 r87 r88 r89 r90 r91 r92 r93 r94 r95 a1 a2 a3) 144 [some (ezw_p 72), some (ezw_i a1), some (ezw_i a2), some (ezw_i a3), some (ezw_i c10), some (ezw_i y12), some (ezw_i y13), some (ezw_i y39), some (ezw_i c37), none] [] (ezm_h e F A (0) i2 i3 i7 i8 i13 i18 i19 i20 i25 i29 i30 i31 i36 i37 i38 r73 r74 r75 r76 r77 r78 r79 r80 r81 r82 r83 r84 r85 r86 r87 r88 r89 r90 r91 r92 r93 r94 r95) := by
                    refine ezs_up ?_
                    intro c37 hc37 ihc37 y39 hy39 g_38
                    refine ezw_iload rfl rfl ?_
                    refine ezw_iload rfl rfl ?_
                    refine ezw_icmp_ge rfl rfl hc37 hc10 (fun h148_39 => ?_) (fun h148_39 => ?_)
                    · refine ezw_iload_n rfl rfl ?_
                      refine ezw_if_ne rfl rfl ha3 (fun h209_39 => ?_) (fun h209_39 => ?_)
                      · refine ezw_iload rfl rfl ?_
                        exact ezw_ireturn rfl rfl ⟨(0), rfl, hT, y39, hy39, rfl⟩
                      · refine ezw_iload rfl rfl ?_
                        refine ezw_goto rfl rfl ?_
                        exact ezw_ireturn rfl rfl ⟨(0), rfl, hT, c10, hc10, rfl⟩
                    · refine ezw_aload_n rfl rfl ?_
                      refine ezw_aload_n rfl rfl ?_
                      refine ezm_gp (p := 88) rfl (fun _ => rfl) ?_
                      refine ezw_iconst (1) rfl rfl ?_
                      refine ezw_iload rfl rfl ?_
                      refine ezw_iadd (k := c37 + 1) rfl (by omega) ?_
                      refine ezm_l88 rfl (by omega) (by omega) (fun u40 eu40 => ?_)
                      have ku40 : ezm_k88 (c37 + 1) u40 := eu40 ▸ hT.t88 (c37 + 1)
                      have zu40 := ezm_zs1 ku40 (by omega)
                      refine ezw_iconst (0) rfl rfl ?_
                      refine ezw_call0_2 rfl (by omega) (ezm_at rfl) rfl rfl rfl rfl (ezm_m259_v0 hT (by omega) (ezm_in88 ku40) (by omega)) ?_
                      rintro _ _ ⟨rfl, u42, hu42, tw_41, rfl⟩
                      refine ezw_aload_n rfl rfl ?_
                      refine ezw_aload_n rfl rfl ?_
                      refine ezm_gp (p := 88) rfl (fun _ => rfl) ?_
                      refine ezw_iconst (1) rfl rfl ?_
                      refine ezw_iload rfl rfl ?_
                      refine ezw_iadd (k := c37 + 1) rfl (by omega) ?_
                      refine ezw_iconst (1) rfl rfl ?_
                      refine ezw_isub (k := c37) rfl (by omega) ?_
                      refine ezm_l88 rfl (by omega) (by omega) (fun u43 eu43 => ?_)
                      have ku43 : ezm_k88 c37 u43 := eu43 ▸ hT.t88 c37
                      have zu43 := ezm_z07 ku43 (by omega)
                      refine ezw_iconst (0) rfl rfl ?_
                      refine ezw_call0_2 rfl (by omega) (ezm_at rfl) rfl rfl rfl rfl (ezm_m259_v0 hT (by omega) (ezm_in88 ku43) (by omega)) ?_
                      rintro _ _ ⟨rfl, u45, hu45, tw_44, rfl⟩
                      refine ezs_isub rfl (fun u46 hu46 => ?_)
                      refine ezw_istore rfl rfl ?_
                      refine ezw_iload rfl rfl ?_
                      refine ezw_iload rfl rfl ?_
                      have J199_48 : ∀ y47 : Int, ezw_in y47 → ezw_E l ρ B xa Hb D cA d ezq_re311 (ezm_m311Q  e F A i0 i2 i3 i7 i8 i13 i18 i19 i20 i25 i29 i30 i31 i36 i37 i38 r73 r74 r75 r76 r77 r78 r79 r80 r81 r82 r83 r84 r85 r86 r87 r88 r89 r90 r91 r92 r93 r94 r95 a1 a2 a3) 199 [some (ezw_p 72), some (ezw_i a1), some (ezw_i a2), some (ezw_i a3), some (ezw_i c10), some (ezw_i y12), some (ezw_i y13), some (ezw_i y39), some (ezw_i c37), some (ezw_i u46)] [ezw_i y47, ezw_i y39] (ezm_h e F A (0) i2 i3 i7 i8 i13 i18 i19 i20 i25 i29 i30 i31 i36 i37 i38 r73 r74 r75 r76 r77 r78 r79 r80 r81 r82 r83 r84 r85 r86 r87 r88 r89 r90 r91 r92 r93 r94 r95) := by
                        intro y47 hy47
                        refine ezs_iadd rfl (fun u49 hu49 => ?_)
                        refine ezw_istore rfl rfl ?_
                        refine ezw_iinc (k := c37 + 1) (1) rfl rfl rfl (by omega) rfl ?_
                        refine ezw_goto rfl rfl ?_
                        exact ezw_keepE [true, true, true, true, true, true, true, true, true, false] (ihc37 (c37 + 1) (by omega) ⟨by omega, by omega⟩ u49 hu49 (by omega))
                      refine ezw_if_ge rfl rfl hu46 (fun h188_46 => ?_) (fun h188_46 => ?_)
                      · refine ezw_iload rfl rfl ?_
                        exact ezw_keepE [true, true, true, true, true, true, true, true, true, true] (J199_48 u46 hu46)
                      · refine ezw_iload rfl rfl ?_
                        refine ezs_ineg rfl (fun u50 hu50 => ?_)
                        refine ezw_goto rfl rfl ?_
                        exact ezw_keepE [true, true, true, true, true, true, true, true, true, true] (J199_48 u50 hu50)
                  exact ezw_keepE [true, true, true, true, true, true, true, true, true, false] (L144_38 (1) ⟨by decide, by decide⟩ y35 hy35 (by omega))
                refine ezw_if_le rfl rfl hc10 (fun h128_34 => ?_) (fun h128_34 => ?_)
                · refine ezw_iconst (0) rfl rfl ?_
                  exact ezw_keepE [true, true, true, true, true, true, true, false, false, false] (J139_36 (0) ⟨by decide, by decide⟩)
                · refine ezw_iload rfl rfl ?_
                  refine ezw_iconst (1) rfl rfl ?_
                  refine ezw_isub (k := c10 - 1) rfl (by omega) ?_
                  refine ezw_goto rfl rfl ?_
                  exact ezw_keepE [true, true, true, true, true, true, true, false, false, false] (J139_36 (c10 - 1) ⟨by omega, by omega⟩)
              · refine ezw_aload_n rfl rfl ?_
                refine ezw_aload_n rfl rfl ?_
                refine ezm_gp (p := 88) rfl (fun _ => rfl) ?_
                refine ezw_iconst (1) rfl rfl ?_
                refine ezw_iload rfl rfl ?_
                refine ezw_iadd (k := c10 + 1) rfl (by omega) ?_
                refine ezw_iconst (1) rfl rfl ?_
                refine ezw_isub (k := c10) rfl (by omega) ?_
                refine ezm_l88 rfl (by omega) (by omega) (fun u51 eu51 => ?_)
                have fu51 : u30 = u51 := eu30.trans eu51.symm
                subst fu51
                refine ezw_iconst (2) rfl rfl ?_
                refine ezw_call0_2 rfl (by omega) (ezm_at rfl) rfl rfl rfl rfl (ezm_m259_v2 hT (by omega) (ezm_in88 ku30) (by omega)) ?_
                rintro _ _ ⟨rfl, u53, hu53, tw_52, rfl⟩
                refine ezw_istore rfl rfl ?_
                refine ezw_iload rfl rfl ?_
                refine ezw_iload rfl rfl ?_
                refine ezw_iload rfl rfl ?_
                refine ezw_call2_2 rfl (by omega) rfl rfl (ezm_m312 hT (by omega) hy12 hu53) ?_
                rintro _ _ ⟨rfl, u55, hu55, rfl⟩
                refine ezs_isub rfl (fun u56 hu56 => ?_)
                refine ezw_istore rfl rfl ?_
                refine ezw_iload rfl rfl ?_
                refine ezw_istore rfl rfl ?_
                refine ezw_iinc (k := c10 - 1) (-1) rfl rfl rfl (by omega) rfl ?_
                refine ezw_goto rfl rfl ?_
                exact ezw_keepE [true, true, true, true, true, true, true, false, false, false] (ihc10 (c10 - 1) (by omega) ⟨by omega, by omega⟩ u53 hu53 u56 hu56 (by omega) (by omega))
          exact ezw_keepE [true, true, true, true, true, true, true, false, false, false] (L55_11 u9 (ezm_in88 ku9) a1 ha1 a2 ha2 (by omega) (by omega))
        · refine ezw_iconst (-1) rfl rfl ?_
          exact ezw_ireturn rfl rfl ⟨(0), rfl, hT, (-1), ⟨by decide, by decide⟩, rfl⟩
def ezm_m314Q (e : Bool × Bool) (F : Nat → Nat → Int) (A : Nat → Int → Int) (i0 i2 i3 i7 i8 i13 i18 i19 i20 i25 i29 i30 i31 i36 i37 i38 : Int) (r73 r74 r75 r76 r77 r78 r79 r80 r81 r82 r83 r84 r85 r86 r87 r88 r89 r90 r91 r92 r93 r94 r95 : Int → Int) (a1 : Int) : Option ezq_V → (Nat → ezq_C) → Prop := fun v g' => ezm_h e F A i0 i2 i3 i7 i8 i13 i18 i19 i20 i25 i29 i30 i31 i36 i37 i38 r73 r74 r75 r76 r77 r78 r79 r80 r81 r82 r83 r84 r85 r86 r87 r88 r89 r90 r91 r92 r93 r94 r95 = g' ∧ ∃ u : Int, (ezw_in u) ∧ some (ezw_i u) = v
theorem ezm_m314 {a1 : Int} (hT : ezm_T i0 i2 i3 i7 i8 i13 i18 i19 i20 i25 i29 i30 i31 i36 i37 i38 r73 r74 r75 r76 r77 r78 r79 r80 r81 r82 r83 r84 r85 r86 r87 r88 r89 r90 r91 r92 r93 r94 r95) (hd : 1 ≤ d) (ha1 : ezw_in a1) (ga : a1 ≤ 48) : ezw_C l ρ B xa Hb D cA 314 d [ezw_p 72, ezw_i a1] (ezm_h e F A i0 i2 i3 i7 i8 i13 i18 i19 i20 i25 i29 i30 i31 i36 i37 i38 r73 r74 r75 r76 r77 r78 r79 r80 r81 r82 r83 r84 r85 r86 r87 r88 r89 r90 r91 r92 r93 r94 r95) (ezm_m314Q  e F A i0 i2 i3 i7 i8 i13 i18 i19 i20 i25 i29 i30 i31 i36 i37 i38 r73 r74 r75 r76 r77 r78 r79 r80 r81 r82 r83 r84 r85 r86 r87 r88 r89 r90 r91 r92 r93 r94 r95 a1) := by
  refine ezw_met (k := 2) rfl rfl ?_
  refine ezw_aload_n rfl rfl ?_
  refine ezm_gp (p := 88) rfl (fun _ => rfl) ?_
  refine ezw_bipush (18) rfl rfl ?_
  refine ezm_l88 rfl (by omega) (by omega) (fun u1 eu1 => ?_)
  have ku1 : ezm_k88 (18) u1 := eu1 ▸ hT.t88 (18)
  refine ezw_istore_n rfl rfl ?_
  refine ezw_iconst (1) rfl rfl ?_
  refine ezw_istore_n rfl rfl ?_
  have L10_3 : ∀ c2 : Int, ezw_in c2 → ∀ y4 : Int, ezw_in y4 → ((1) ≤ c2) → ezw_E l ρ B xa Hb D cA d ezq_re314 (ezm_m314Q  e F A i0 i2 i3 i7 i8 i13 i18 i19 i20 i25 i29 i30 i31 i36 i37 i38 r73 r74 r75 r76 r77 r78 r79 r80 r81 r82 r83 r84 r85 r86 r87 r88 r89 r90 r91 r92 r93 r94 r95 a1) 10 [some (ezw_p 72), some (ezw_i a1), some (ezw_i y4), some (ezw_i c2)] [] (ezm_h e F A i0 i2 i3 i7 i8 i13 i18 i19 i20 i25 i29 i30 i31 i36 i37 i38 r73 r74 r75 r76 r77 r78 r79 r80 r81 r82 r83 r84 r85 r86 r87 r88 r89 r90 r91 r92 r93 r94 r95) := by
    refine ezs_up ?_
    intro c2 hc2 ihc2 y4 hy4 g_3
    refine ezw_iload_n rfl rfl ?_
    refine ezw_iload_n rfl rfl ?_
    refine ezw_icmp_gt rfl rfl hc2 ha1 (fun h12_4 => ?_) (fun h12_4 => ?_)
    · refine ezw_iload_n rfl rfl ?_
      refine ezw_if_ge rfl rfl hy4 (fun h54_4 => ?_) (fun h54_4 => ?_)
      · refine ezw_iload_n rfl rfl ?_
        exact ezw_ireturn rfl rfl ⟨rfl, y4, hy4, rfl⟩
      · refine ezw_iconst (0) rfl rfl ?_
        refine ezw_goto rfl rfl ?_
        exact ezw_ireturn rfl rfl ⟨rfl, (0), ⟨by decide, by decide⟩, rfl⟩
    · refine ezw_iload_n rfl rfl ?_
      refine ezw_aload_n rfl rfl ?_
      refine ezm_gp (p := 88) rfl (fun _ => rfl) ?_
      refine ezw_bipush (15) rfl rfl ?_
      refine ezm_l88 rfl (by omega) (by omega) (fun u5 eu5 => ?_)
      have ku5 : ezm_k88 (15) u5 := eu5 ▸ hT.t88 (15)
      refine ezw_iload_n rfl rfl ?_
      refine ezs_iadd rfl (fun u6 hu6 => ?_)
      refine ezw_bipush (24) rfl rfl ?_
      refine ezm_irem rfl hu6 ⟨by decide, by decide⟩ (by decide) (fun u7 hu7 ku7 => ?_)
      refine ezw_call2_1 rfl (by omega) rfl rfl (ezm_m290 hT (by omega) hu7) ?_
      rintro _ _ ⟨rfl, u9, hu9, rfl⟩
      have J45_11 : ∀ y10 : Int, ezw_in y10 → ezw_E l ρ B xa Hb D cA d ezq_re314 (ezm_m314Q  e F A i0 i2 i3 i7 i8 i13 i18 i19 i20 i25 i29 i30 i31 i36 i37 i38 r73 r74 r75 r76 r77 r78 r79 r80 r81 r82 r83 r84 r85 r86 r87 r88 r89 r90 r91 r92 r93 r94 r95 a1) 45 [some (ezw_p 72), some (ezw_i a1), some (ezw_i y4), some (ezw_i c2)] [ezw_i y10, ezw_i y4] (ezm_h e F A i0 i2 i3 i7 i8 i13 i18 i19 i20 i25 i29 i30 i31 i36 i37 i38 r73 r74 r75 r76 r77 r78 r79 r80 r81 r82 r83 r84 r85 r86 r87 r88 r89 r90 r91 r92 r93 r94 r95) := by
        intro y10 hy10
        refine ezs_isub rfl (fun u12 hu12 => ?_)
        refine ezw_istore_n rfl rfl ?_
        refine ezw_iinc (k := c2 + 1) (1) rfl rfl rfl (by omega) rfl ?_
        refine ezw_goto rfl rfl ?_
        exact ezw_keepE [true, true, true, true] (ihc2 (c2 + 1) (by omega) ⟨by omega, by omega⟩ u12 hu12 (by omega))
      refine ezw_if_eq rfl rfl ⟨by omega, by omega⟩ (fun h31_9 => ?_) (fun h31_9 => ?_)
      · refine ezw_iconst (0) rfl rfl ?_
        exact ezw_keepE [true, true, true, true] (J45_11 (0) ⟨by decide, by decide⟩)
      · refine ezw_aload_n rfl rfl ?_
        refine ezm_gp (p := 78) rfl (fun _ => rfl) ?_
        refine ezw_bipush (10) rfl rfl ?_
        refine ezm_l78 rfl (by omega) (by omega) (fun u13 eu13 => ?_)
        have ku13 : ezm_k78 (10) u13 := eu13 ▸ hT.t78 (10)
        refine ezw_goto rfl rfl ?_
        exact ezw_keepE [true, true, true, true] (J45_11 u13 (ezm_in78 ku13))
  exact ezw_keepE [true, true, true, true] (L10_3 (1) ⟨by decide, by decide⟩ u1 (ezm_in88 ku1) (by omega))
def ezm_m315Q (e : Bool × Bool) (F : Nat → Nat → Int) (A : Nat → Int → Int) (i0 i2 i3 i7 i8 i13 i18 i19 i20 i25 i29 i30 i31 i36 i37 i38 : Int) (r73 r74 r75 r76 r77 r78 r79 r80 r81 r82 r83 r84 r85 r86 r87 r88 r89 r90 r91 r92 r93 r94 r95 : Int → Int) (a1 : Int) (a2 : Int) : Option ezq_V → (Nat → ezq_C) → Prop := fun v g' => ezm_h e F A i0 i2 i3 i7 i8 i13 i18 i19 i20 i25 i29 i30 i31 i36 i37 i38 r73 r74 r75 r76 r77 r78 r79 r80 r81 r82 r83 r84 r85 r86 r87 r88 r89 r90 r91 r92 r93 r94 r95 = g' ∧ ∃ u : Int, (ezw_in u) ∧ some (ezw_i u) = v
theorem ezm_m315 {a1 a2 : Int} (hT : ezm_T i0 i2 i3 i7 i8 i13 i18 i19 i20 i25 i29 i30 i31 i36 i37 i38 r73 r74 r75 r76 r77 r78 r79 r80 r81 r82 r83 r84 r85 r86 r87 r88 r89 r90 r91 r92 r93 r94 r95) (hd : 0 ≤ d) (ha1 : ezw_in a1) (ha2 : ezw_in a2) : ezw_C l ρ B xa Hb D cA 315 d [ezw_p 72, ezw_i a1, ezw_i a2] (ezm_h e F A i0 i2 i3 i7 i8 i13 i18 i19 i20 i25 i29 i30 i31 i36 i37 i38 r73 r74 r75 r76 r77 r78 r79 r80 r81 r82 r83 r84 r85 r86 r87 r88 r89 r90 r91 r92 r93 r94 r95) (ezm_m315Q  e F A i0 i2 i3 i7 i8 i13 i18 i19 i20 i25 i29 i30 i31 i36 i37 i38 r73 r74 r75 r76 r77 r78 r79 r80 r81 r82 r83 r84 r85 r86 r87 r88 r89 r90 r91 r92 r93 r94 r95 a1 a2) := by
  refine ezw_met (k := 3) rfl rfl ?_
  refine ezw_aload_n rfl rfl ?_
  refine ezm_gp (p := 78) rfl (fun _ => rfl) ?_
  refine ezw_bipush (7) rfl rfl ?_
  refine ezm_l78 rfl (by omega) (by omega) (fun u1 eu1 => ?_)
  have ku1 : ezm_k78 (7) u1 := eu1 ▸ hT.t78 (7)
  refine ezw_istore_n rfl rfl ?_
  refine ezw_aload_n rfl rfl ?_
  refine ezm_gp (p := 78) rfl (fun _ => rfl) ?_
  refine ezw_bipush (8) rfl rfl ?_
  refine ezm_l78 rfl (by omega) (by omega) (fun u2 eu2 => ?_)
  have ku2 : ezm_k78 (8) u2 := eu2 ▸ hT.t78 (8)
  refine ezw_istore rfl rfl ?_
  refine ezw_iload_n rfl rfl ?_
  refine ezw_iload_n rfl rfl ?_
  refine ezs_isub rfl (fun u3 hu3 => ?_)
  refine ezw_iconst (4) rfl rfl ?_
  refine ezs_iadd rfl (fun u4 hu4 => ?_)
  refine ezw_iconst (4) rfl rfl ?_
  refine ezm_irem rfl hu4 ⟨by decide, by decide⟩ (by decide) (fun u5 hu5 ku5 => ?_)
  refine ezw_istore rfl rfl ?_
  refine ezw_iload rfl rfl ?_
  refine ezw_if_ne rfl rfl hu5 (fun h28_5 => ?_) (fun h28_5 => ?_)
  · refine ezw_iload rfl rfl ?_
    refine ezw_iconst (1) rfl rfl ?_
    refine ezw_icmp_ne rfl rfl hu5 ⟨by decide, by decide⟩ (fun h44_5 => ?_) (fun h44_5 => ?_)
    · refine ezw_iload rfl rfl ?_
      refine ezw_iconst (3) rfl rfl ?_
      refine ezw_icmp_ne rfl rfl hu5 ⟨by decide, by decide⟩ (fun h54_5 => ?_) (fun h54_5 => ?_)
      · refine ezw_iconst (0) rfl rfl ?_
        exact ezw_ireturn rfl rfl ⟨rfl, (0), ⟨by decide, by decide⟩, rfl⟩
      · refine ezw_iload rfl rfl ?_
        refine ezw_goto rfl rfl ?_
        exact ezw_ireturn rfl rfl ⟨rfl, u2, (ezm_in78 ku2), rfl⟩
    · refine ezw_iload_n rfl rfl ?_
      refine ezw_goto rfl rfl ?_
      exact ezw_ireturn rfl rfl ⟨rfl, u1, (ezm_in78 ku1), rfl⟩
  · refine ezw_bipush (10) rfl rfl ?_
    refine ezw_iload_n rfl rfl ?_
    refine ezs_isub rfl (fun u6 hu6 => ?_)
    refine ezw_iload rfl rfl ?_
    refine ezs_isub rfl (fun u7 hu7 => ?_)
    refine ezw_goto rfl rfl ?_
    exact ezw_ireturn rfl rfl ⟨rfl, u7, hu7, rfl⟩
def ezm_m313Q (e : Bool × Bool) (F : Nat → Nat → Int) (A : Nat → Int → Int) (i0 i2 i3 i7 i8 i13 i18 i19 i20 i25 i29 i30 i31 i36 i37 i38 : Int) (r73 r74 r75 r76 r77 r78 r79 r80 r81 r82 r83 r84 r85 r86 r87 r88 r89 r90 r91 r92 r93 r94 r95 : Int → Int) (a1 : Int) (a2 : Int) : Option ezq_V → (Nat → ezq_C) → Prop := fun v g' => ∃ (x0 : Int) (x92 : Int → Int), ezm_h e F A x0 i2 i3 i7 i8 i13 i18 i19 i20 i25 i29 i30 i31 i36 i37 i38 r73 r74 r75 r76 r77 r78 r79 r80 r81 r82 r83 r84 r85 r86 r87 r88 r89 r90 r91 x92 r93 r94 r95 = g' ∧ ezm_T x0 i2 i3 i7 i8 i13 i18 i19 i20 i25 i29 i30 i31 i36 i37 i38 r73 r74 r75 r76 r77 r78 r79 r80 r81 r82 r83 r84 r85 r86 r87 r88 r89 r90 r91 x92 r93 r94 r95 ∧ ∃ u : Int, (ezw_in u) ∧ some (ezw_i u) = v
theorem ezm_m313 {a1 a2 : Int} (hT : ezm_T i0 i2 i3 i7 i8 i13 i18 i19 i20 i25 i29 i30 i31 i36 i37 i38 r73 r74 r75 r76 r77 r78 r79 r80 r81 r82 r83 r84 r85 r86 r87 r88 r89 r90 r91 r92 r93 r94 r95) (hd : 2 ≤ d) (ha1 : ezw_in a1) (ha2 : ezw_in a2) : ezw_C l ρ B xa Hb D cA 313 d [ezw_p 72, ezw_i a1, ezw_i a2] (ezm_h e F A i0 i2 i3 i7 i8 i13 i18 i19 i20 i25 i29 i30 i31 i36 i37 i38 r73 r74 r75 r76 r77 r78 r79 r80 r81 r82 r83 r84 r85 r86 r87 r88 r89 r90 r91 r92 r93 r94 r95) (ezm_m313Q  e F A i0 i2 i3 i7 i8 i13 i18 i19 i20 i25 i29 i30 i31 i36 i37 i38 r73 r74 r75 r76 r77 r78 r79 r80 r81 r82 r83 r84 r85 r86 r87 r88 r89 r90 r91 r92 r93 r94 r95 a1 a2) := by
  refine ezw_met (k := 6) rfl rfl ?_
  refine ezw_aload_n rfl rfl ?_
  refine ezw_iconst (0) rfl rfl ?_
  refine ezm_p0 hT rfl ⟨by decide, by decide⟩ (fun hT => ?_)
  refine ezw_iload_n rfl rfl ?_
  refine ezw_call2_1 rfl (by omega) rfl rfl (ezm_m265b hT (by omega) ha1) ?_
  rintro _ _ ⟨rfl, u2, hu2, p1_0, rfl⟩
  refine ezw_if_eq rfl rfl ⟨by omega, by omega⟩ (fun h9_2 => ?_) (fun h9_2 => ?_)
  · refine ezw_iconst (-1) rfl rfl ?_
    exact ezw_ireturn rfl rfl ⟨(0), r92, rfl, hT, (-1), ⟨by decide, by decide⟩, rfl⟩
  · refine ezw_iload_n rfl rfl ?_
    refine ezw_iconst (0) rfl rfl ?_
    refine ezw_bipush (48) rfl rfl ?_
    refine ezw_call2_3 rfl (by omega) rfl rfl (ezm_m236 hT (by omega) ha2 ⟨by decide, by decide⟩ ⟨by decide, by decide⟩) ?_
    rintro _ _ ⟨rfl, u4, hu4, p3_0, p3_1, rfl⟩
    refine ezw_if_ne rfl rfl ⟨by omega, by omega⟩ (fun h19_4 => ?_) (fun h19_4 => ?_)
    · refine ezw_aload_n rfl rfl ?_
      refine ezm_gp (p := 88) rfl (fun _ => rfl) ?_
      refine ezw_bipush (18) rfl rfl ?_
      refine ezm_l88 rfl (by omega) (by omega) (fun u5 eu5 => ?_)
      have ku5 : ezm_k88 (18) u5 := eu5 ▸ hT.t88 (18)
      refine ezw_if_ne rfl rfl (ezm_in88 ku5) (fun h31_5 => ?_) (fun h31_5 => ?_)
      · refine ezw_iconst (0) rfl rfl ?_
        refine ezw_istore_n rfl rfl ?_
        have L38_7 : ∀ c6 : Int, ezw_in c6 → ∀ x92_7 : Int → Int, ezm_T (0) i2 i3 i7 i8 i13 i18 i19 i20 i25 i29 i30 i31 i36 i37 i38 r73 r74 r75 r76 r77 r78 r79 r80 r81 r82 r83 r84 r85 r86 r87 r88 r89 r90 r91 x92_7 r93 r94 r95 → ((0) ≤ c6) → ezw_E l ρ B xa Hb D cA d ezq_re313 (ezm_m313Q  e F A i0 i2 i3 i7 i8 i13 i18 i19 i20 i25 i29 i30 i31 i36 i37 i38 r73 r74 r75 r76 r77 r78 r79 r80 r81 r82 r83 r84 r85 r86 r87 r88 r89 r90 r91 r92 r93 r94 r95 a1 a2) 38 [some (ezw_p 72), some (ezw_i a1), some (ezw_i a2), some (ezw_i c6), none, none, none, none, none] [] (ezm_h e F A (0) i2 i3 i7 i8 i13 i18 i19 i20 i25 i29 i30 i31 i36 i37 i38 r73 r74 r75 r76 r77 r78 r79 r80 r81 r82 r83 r84 r85 r86 r87 r88 r89 r90 r91 x92_7 r93 r94 r95) := by
          refine ezs_up ?_
          intro c6 hc6 ihc6 x92_7 hT g_7
          refine ezw_iload_n rfl rfl ?_
          refine ezw_iconst (4) rfl rfl ?_
          refine ezw_icmp_ge rfl rfl hc6 ⟨by decide, by decide⟩ (fun h40_7 => ?_) (fun h40_7 => ?_)
          · refine ezw_aload_n rfl rfl ?_
            refine ezm_gp (p := 92) rfl (fun _ => rfl) ?_
            refine ezw_iload_n rfl rfl ?_
            refine ezm_l92 rfl (by omega) (by omega) (fun u8 eu8 => ?_)
            have ku8 : ezw_in u8 := eu8 ▸ hT.t92 a1
            refine ezw_istore_n rfl rfl ?_
            refine ezw_aload_n rfl rfl ?_
            refine ezm_gp (p := 92) rfl (fun _ => rfl) ?_
            refine ezw_iload_n rfl rfl ?_
            refine ezw_iconst (0) rfl rfl ?_
            refine ezm_s92 hT rfl (by omega) (by omega) ⟨by decide, by decide⟩ (fun r92_9 hT er92_9 fr92_9 => ?_)
            refine ezw_iconst (1) rfl rfl ?_
            refine ezw_istore rfl rfl ?_
            have L90_11 : ∀ c10 : Int, ezw_in c10 → ∀ y12 : Int, ezw_in y12 → ∀ x92_11 : Int → Int, ezm_T (0) i2 i3 i7 i8 i13 i18 i19 i20 i25 i29 i30 i31 i36 i37 i38 r73 r74 r75 r76 r77 r78 r79 r80 r81 r82 r83 r84 r85 r86 r87 r88 r89 r90 r91 x92_11 r93 r94 r95 → ((1) ≤ c10) → ezw_E l ρ B xa Hb D cA d ezq_re313 (ezm_m313Q  e F A i0 i2 i3 i7 i8 i13 i18 i19 i20 i25 i29 i30 i31 i36 i37 i38 r73 r74 r75 r76 r77 r78 r79 r80 r81 r82 r83 r84 r85 r86 r87 r88 r89 r90 r91 r92 r93 r94 r95 a1 a2) 90 [some (ezw_p 72), some (ezw_i a1), some (ezw_i a2), some (ezw_i y12), some (ezw_i c10), none, none, none, none] [] (ezm_h e F A (0) i2 i3 i7 i8 i13 i18 i19 i20 i25 i29 i30 i31 i36 i37 i38 r73 r74 r75 r76 r77 r78 r79 r80 r81 r82 r83 r84 r85 r86 r87 r88 r89 r90 r91 x92_11 r93 r94 r95) := by
              refine ezs_up ?_
              intro c10 hc10 ihc10 y12 hy12 x92_11 hT g_11
              refine ezw_iload rfl rfl ?_
              refine ezw_iload_n rfl rfl ?_
              refine ezw_icmp_gt rfl rfl hc10 ha2 (fun h93_12 => ?_) (fun h93_12 => ?_)
              · refine ezw_iload_n rfl rfl ?_
                exact ezw_ireturn rfl rfl ⟨(0), x92_11, rfl, hT, y12, hy12, rfl⟩
              · refine ezw_aload_n rfl rfl ?_
                refine ezw_iload rfl rfl ?_
                refine ezw_call0_1 rfl (by omega) (ezm_at rfl) rfl rfl rfl rfl (ezm_m314 hT (by omega) hc10 (by omega)) ?_
                rintro _ _ ⟨rfl, u14, hu14, rfl⟩
                refine ezw_if_le rfl rfl hu14 (fun h102_14 => ?_) (fun h102_14 => ?_)
                · refine ezw_iload_n rfl rfl ?_
                  exact ezw_ireturn rfl rfl ⟨(0), x92_11, rfl, hT, y12, hy12, rfl⟩
                · refine ezw_iconst (0) rfl rfl ?_
                  refine ezw_istore rfl rfl ?_
                  have L108_16 : ∀ c15 : Int, ezw_in c15 → ∀ x92_16 : Int → Int, ezm_T (0) i2 i3 i7 i8 i13 i18 i19 i20 i25 i29 i30 i31 i36 i37 i38 r73 r74 r75 r76 r77 r78 r79 r80 r81 r82 r83 r84 r85 r86 r87 r88 r89 r90 r91 x92_16 r93 r94 r95 → ((0) ≤ c15) → ezw_E l ρ B xa Hb D cA d ezq_re313 (ezm_m313Q  e F A i0 i2 i3 i7 i8 i13 i18 i19 i20 i25 i29 i30 i31 i36 i37 i38 r73 r74 r75 r76 r77 r78 r79 r80 r81 r82 r83 r84 r85 r86 r87 r88 r89 r90 r91 r92 r93 r94 r95 a1 a2) 108 [some (ezw_p 72), some (ezw_i a1), some (ezw_i a2), some (ezw_i y12), some (ezw_i c10), some (ezw_i c15), none, none, none] [] (ezm_h e F A (0) i2 i3 i7 i8 i13 i18 i19 i20 i25 i29 i30 i31 i36 i37 i38 r73 r74 r75 r76 r77 r78 r79 r80 r81 r82 r83 r84 r85 r86 r87 r88 r89 r90 r91 x92_16 r93 r94 r95) := by
                    refine ezs_up ?_
                    intro c15 hc15 ihc15 x92_16 hT g_16
                    refine ezw_iload rfl rfl ?_
                    refine ezw_iconst (4) rfl rfl ?_
                    refine ezw_icmp_ge rfl rfl hc15 ⟨by decide, by decide⟩ (fun h111_16 => ?_) (fun h111_16 => ?_)
                    · refine ezw_iconst (0) rfl rfl ?_
                      refine ezw_istore rfl rfl ?_
                      have L180_18 : ∀ c17 : Int, ezw_in c17 → ∀ x92_18 : Int → Int, ezm_T (0) i2 i3 i7 i8 i13 i18 i19 i20 i25 i29 i30 i31 i36 i37 i38 r73 r74 r75 r76 r77 r78 r79 r80 r81 r82 r83 r84 r85 r86 r87 r88 r89 r90 r91 x92_18 r93 r94 r95 → ((0) ≤ c17) → ezw_E l ρ B xa Hb D cA d ezq_re313 (ezm_m313Q  e F A i0 i2 i3 i7 i8 i13 i18 i19 i20 i25 i29 i30 i31 i36 i37 i38 r73 r74 r75 r76 r77 r78 r79 r80 r81 r82 r83 r84 r85 r86 r87 r88 r89 r90 r91 r92 r93 r94 r95 a1 a2) 180 [some (ezw_p 72), some (ezw_i a1), some (ezw_i a2), some (ezw_i y12), some (ezw_i c10), some (ezw_i c17), none, none, none] [] (ezm_h e F A (0) i2 i3 i7 i8 i13 i18 i19 i20 i25 i29 i30 i31 i36 i37 i38 r73 r74 r75 r76 r77 r78 r79 r80 r81 r82 r83 r84 r85 r86 r87 r88 r89 r90 r91 x92_18 r93 r94 r95) := by
                        refine ezs_up ?_
                        intro c17 hc17 ihc17 x92_18 hT g_18
                        refine ezw_iload rfl rfl ?_
                        refine ezw_iconst (4) rfl rfl ?_
                        refine ezw_icmp_ge rfl rfl hc17 ⟨by decide, by decide⟩ (fun h183_18 => ?_) (fun h183_18 => ?_)
                        · refine ezw_iload_n rfl rfl ?_
                          refine ezw_aload_n rfl rfl ?_
                          refine ezm_gp (p := 92) rfl (fun _ => rfl) ?_
                          refine ezw_iload_n rfl rfl ?_
                          refine ezm_l92 rfl (by omega) (by omega) (fun u19 eu19 => ?_)
                          have ku19 : ezw_in u19 := eu19 ▸ hT.t92 a1
                          refine ezs_iadd rfl (fun u20 hu20 => ?_)
                          refine ezw_istore_n rfl rfl ?_
                          refine ezw_aload_n rfl rfl ?_
                          refine ezm_gp (p := 92) rfl (fun _ => rfl) ?_
                          refine ezw_iload_n rfl rfl ?_
                          refine ezw_iconst (0) rfl rfl ?_
                          refine ezm_s92 hT rfl (by omega) (by omega) ⟨by decide, by decide⟩ (fun r92_21 hT er92_21 fr92_21 => ?_)
                          refine ezw_iinc (k := c10 + 1) (1) rfl rfl rfl (by omega) rfl ?_
                          refine ezw_goto rfl rfl ?_
                          exact ezw_keepE [true, true, true, true, true, false, false, false, false] (ihc10 (c10 + 1) (by omega) ⟨by omega, by omega⟩ u20 hu20 r92_21 hT (by omega))
                        · refine ezw_aload_n rfl rfl ?_
                          refine ezm_gp (p := 92) rfl (fun _ => rfl) ?_
                          refine ezw_iload rfl rfl ?_
                          refine ezw_aload_n rfl rfl ?_
                          refine ezm_gp (p := 92) rfl (fun _ => rfl) ?_
                          refine ezw_iconst (4) rfl rfl ?_
                          refine ezw_iload rfl rfl ?_
                          refine ezw_iadd (k := c17 + 4) rfl (by omega) ?_
                          refine ezm_l92 rfl (by omega) (by omega) (fun u22 eu22 => ?_)
                          have ku22 : ezw_in u22 := eu22 ▸ hT.t92 (c17 + 4)
                          refine ezm_s92 hT rfl (by omega) (by omega) ku22 (fun r92_23 hT er92_23 fr92_23 => ?_)
                          refine ezw_iinc (k := c17 + 1) (1) rfl rfl rfl (by omega) rfl ?_
                          refine ezw_goto rfl rfl ?_
                          exact ezw_keepE [true, true, true, true, true, true, false, false, false] (ihc17 (c17 + 1) (by omega) ⟨by omega, by omega⟩ r92_23 hT (by omega))
                      exact ezw_keepE [true, true, true, true, true, true, false, false, false] (L180_18 (0) ⟨by decide, by decide⟩ x92_16 hT (by omega))
                    · refine ezw_lconst (0) rfl rfl ?_
                      refine ezw_lstore rfl rfl ?_
                      refine ezw_iconst (0) rfl rfl ?_
                      refine ezw_istore rfl rfl ?_
                      have L120_25 : ∀ c24 : Int, ezw_in c24 → ∀ y26 : Int, ezw_il y26 → ((0) ≤ c24) → ezw_E l ρ B xa Hb D cA d ezq_re313 (ezm_m313Q  e F A i0 i2 i3 i7 i8 i13 i18 i19 i20 i25 i29 i30 i31 i36 i37 i38 r73 r74 r75 r76 r77 r78 r79 r80 r81 r82 r83 r84 r85 r86 r87 r88 r89 r90 r91 r92 r93 r94 r95 a1 a2) 120 [some (ezw_p 72), some (ezw_i a1), some (ezw_i a2), some (ezw_i y12), some (ezw_i c10), some (ezw_i c15), some (ezw_l y26), none, some (ezw_i c24)] [] (ezm_h e F A (0) i2 i3 i7 i8 i13 i18 i19 i20 i25 i29 i30 i31 i36 i37 i38 r73 r74 r75 r76 r77 r78 r79 r80 r81 r82 r83 r84 r85 r86 r87 r88 r89 r90 r91 x92_16 r93 r94 r95) := by
                        refine ezs_up ?_
                        intro c24 hc24 ihc24 y26 hy26 g_25
                        refine ezw_iload rfl rfl ?_
                        refine ezw_iconst (4) rfl rfl ?_
                        refine ezw_icmp_ge rfl rfl hc24 ⟨by decide, by decide⟩ (fun h123_26 => ?_) (fun h123_26 => ?_)
                        · refine ezw_aload_n rfl rfl ?_
                          refine ezm_gp (p := 92) rfl (fun _ => rfl) ?_
                          refine ezw_iconst (4) rfl rfl ?_
                          refine ezw_iload rfl rfl ?_
                          refine ezw_iadd (k := c15 + 4) rfl (by omega) ?_
                          refine ezw_lload rfl rfl ?_
                          refine ezw_ldc2_w (10) rfl rfl ?_
                          refine ezs_ldiv rfl hy26 ⟨by decide, by decide⟩ (by omega) (fun u27 hu27 => ?_)
                          refine ezs_l2i rfl (fun u28 hu28 => ?_)
                          refine ezm_s92 hT rfl (by omega) (by omega) hu28 (fun r92_29 hT er92_29 fr92_29 => ?_)
                          refine ezw_iinc (k := c15 + 1) (1) rfl rfl rfl (by omega) rfl ?_
                          refine ezw_goto rfl rfl ?_
                          exact ezw_keepE [true, true, true, true, true, true, false, false, false] (ihc15 (c15 + 1) (by omega) ⟨by omega, by omega⟩ r92_29 hT (by omega))
                        · refine ezw_lload rfl rfl ?_
                          refine ezw_aload_n rfl rfl ?_
                          refine ezm_gp (p := 92) rfl (fun _ => rfl) ?_
                          refine ezw_iload rfl rfl ?_
                          refine ezm_l92 rfl (by omega) (by omega) (fun u30 eu30 => ?_)
                          have ku30 : ezw_in u30 := eu30 ▸ hT.t92 c24
                          refine ezw_i2l rfl ku30 rfl ?_
                          refine ezw_aload_n rfl rfl ?_
                          refine ezw_iload rfl rfl ?_
                          refine ezw_iload rfl rfl ?_
                          refine ezw_call0_2 rfl (by omega) (ezm_at rfl) rfl rfl rfl rfl (ezm_m315 hT (by omega) hc24 hc15) ?_
                          rintro _ _ ⟨rfl, u32, hu32, rfl⟩
                          refine ezw_i2l rfl hu32 rfl ?_
                          refine ezs_lmul rfl (fun u33 hu33 => ?_)
                          refine ezs_ladd rfl (fun u34 hu34 => ?_)
                          refine ezw_lstore rfl rfl ?_
                          refine ezw_iinc (k := c24 + 1) (1) rfl rfl rfl (by omega) rfl ?_
                          refine ezw_goto rfl rfl ?_
                          exact ezw_keepE [true, true, true, true, true, true, true, false, true] (ihc24 (c24 + 1) (by omega) ⟨by omega, by omega⟩ u34 hu34 (by omega))
                      exact ezw_keepE [true, true, true, true, true, true, true, false, true] (L120_25 (0) ⟨by decide, by decide⟩ (0) ⟨by decide, by decide⟩ (by omega))
                  exact ezw_keepE [true, true, true, true, true, true, false, false, false] (L108_16 (0) ⟨by decide, by decide⟩ x92_11 hT (by omega))
            exact ezw_keepE [true, true, true, true, true, false, false, false, false] (L90_11 (1) ⟨by decide, by decide⟩ u8 ku8 r92_9 hT (by omega))
          · refine ezw_aload_n rfl rfl ?_
            refine ezm_gp (p := 92) rfl (fun _ => rfl) ?_
            refine ezw_iload_n rfl rfl ?_
            refine ezw_iload_n rfl rfl ?_
            refine ezw_aload_n rfl rfl ?_
            refine ezm_gp (p := 88) rfl (fun _ => rfl) ?_
            refine ezw_bipush (16) rfl rfl ?_
            refine ezm_l88 rfl (by omega) (by omega) (fun u35 eu35 => ?_)
            have ku35 : ezm_k88 (16) u35 := eu35 ▸ hT.t88 (16)
            have J66_37 : ∀ y36 : Int, ezw_in y36 → ezw_E l ρ B xa Hb D cA d ezq_re313 (ezm_m313Q  e F A i0 i2 i3 i7 i8 i13 i18 i19 i20 i25 i29 i30 i31 i36 i37 i38 r73 r74 r75 r76 r77 r78 r79 r80 r81 r82 r83 r84 r85 r86 r87 r88 r89 r90 r91 r92 r93 r94 r95 a1 a2) 66 [some (ezw_p 72), some (ezw_i a1), some (ezw_i a2), some (ezw_i c6), none, none, none, none, none] [ezw_i y36, ezw_i c6, ezw_p 92] (ezm_h e F A (0) i2 i3 i7 i8 i13 i18 i19 i20 i25 i29 i30 i31 i36 i37 i38 r73 r74 r75 r76 r77 r78 r79 r80 r81 r82 r83 r84 r85 r86 r87 r88 r89 r90 r91 x92_7 r93 r94 r95) := by
              intro y36 hy36
              refine ezm_s92 hT rfl (by omega) (by omega) hy36 (fun r92_38 hT er92_38 fr92_38 => ?_)
              refine ezw_iinc (k := c6 + 1) (1) rfl rfl rfl (by omega) rfl ?_
              refine ezw_goto rfl rfl ?_
              exact ezw_keepE [true, true, true, true, false, false, false, false, false] (ihc6 (c6 + 1) (by omega) ⟨by omega, by omega⟩ r92_38 hT (by omega))
            refine ezw_icmp_ne rfl rfl hc6 (ezm_in88 ku35) (fun h56_35 => ?_) (fun h56_35 => ?_)
            · refine ezw_iconst (0) rfl rfl ?_
              exact ezw_keepE [true, true, true, true, false, false, false, false, false] (J66_37 (0) ⟨by decide, by decide⟩)
            · refine ezw_ldc_w (1000000) rfl rfl ?_
              refine ezw_goto rfl rfl ?_
              exact ezw_keepE [true, true, true, true, false, false, false, false, false] (J66_37 (1000000) ⟨by decide, by decide⟩)
        exact ezw_keepE [true, true, true, true, false, false, false, false, false] (L38_7 (0) ⟨by decide, by decide⟩ r92 hT (by omega))
      · refine ezw_iconst (0) rfl rfl ?_
        exact ezw_ireturn rfl rfl ⟨(0), r92, rfl, hT, (0), ⟨by decide, by decide⟩, rfl⟩
    · refine ezw_iconst (-1) rfl rfl ?_
      exact ezw_ireturn rfl rfl ⟨(0), r92, rfl, hT, (-1), ⟨by decide, by decide⟩, rfl⟩
end KM6
