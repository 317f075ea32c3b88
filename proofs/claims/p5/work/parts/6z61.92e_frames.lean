/-! ===== the model: what judging and drawing leave alone ===== -/
section KM6
variable {l : Launch} {ρ : ezq_E} {B : Nat} {xa : Nat → Option Nat} {Hb : Heap} {D : va_G} {cA : Nat → ClassId} {d : Nat} {e : Bool × Bool} {F : Nat → Nat → Int} {A : Nat → Int → Int} {i0 i2 i3 i7 i8 i13 i18 i19 i20 i25 i29 i30 i31 i36 i37 i38 : Int} {r73 r74 r75 r76 r77 r78 r79 r80 r81 r82 r83 r84 r85 r86 r87 r88 r89 r90 r91 r92 r93 r94 r95 : Int → Int}
def ezm_m294nQ (e : Bool × Bool) (F : Nat → Nat → Int) (A : Nat → Int → Int) (i0 i2 i3 i7 i8 i13 i18 i19 i20 i25 i29 i30 i31 i36 i37 i38 : Int) (r73 r74 r75 r76 r77 r78 r79 r80 r81 r82 r83 r84 r85 r86 r87 r88 r89 r90 r91 r92 r93 r94 r95 : Int → Int) (a1 : Int) : Option ezq_V → (Nat → ezq_C) → Prop := fun v g' => ∃ (x0 : Int) (x86 x87 x88 : Int → Int), ezm_h e F A x0 i2 i3 i7 i8 i13 i18 i19 i20 i25 i29 i30 i31 i36 i37 i38 r73 r74 r75 r76 r77 r78 r79 r80 r81 r82 r83 r84 r85 x86 x87 x88 r89 r90 r91 r92 r93 r94 r95 = g' ∧ ezm_T x0 i2 i3 i7 i8 i13 i18 i19 i20 i25 i29 i30 i31 i36 i37 i38 r73 r74 r75 r76 r77 r78 r79 r80 r81 r82 r83 r84 r85 x86 x87 x88 r89 r90 r91 r92 r93 r94 r95 ∧ ∃ u : Int, (ezw_in u) ∧ (ezm_OK r78 x88 r89 i25) ∧ (∀ j, j < 1050 → x88 j = r88 j) ∧ some (ezw_i u) = v
theorem ezm_m294n {a1 : Int} (hT : ezm_T i0 i2 i3 i7 i8 i13 i18 i19 i20 i25 i29 i30 i31 i36 i37 i38 r73 r74 r75 r76 r77 r78 r79 r80 r81 r82 r83 r84 r85 r86 r87 r88 r89 r90 r91 r92 r93 r94 r95) (hd : 6 ≤ d) (ha1 : ezw_in a1) (tr : ezm_TR r78 r79 r80) (ok : ezm_OK r78 r88 r89 i25) : ezw_C l ρ B xa Hb D cA 294 d [ezw_p 72, ezw_i a1] (ezm_h e F A i0 i2 i3 i7 i8 i13 i18 i19 i20 i25 i29 i30 i31 i36 i37 i38 r73 r74 r75 r76 r77 r78 r79 r80 r81 r82 r83 r84 r85 r86 r87 r88 r89 r90 r91 r92 r93 r94 r95) (ezm_m294nQ  e F A i0 i2 i3 i7 i8 i13 i18 i19 i20 i25 i29 i30 i31 i36 i37 i38 r73 r74 r75 r76 r77 r78 r79 r80 r81 r82 r83 r84 r85 r86 r87 r88 r89 r90 r91 r92 r93 r94 r95 a1) := by
  refine ezw_met (k := 3) rfl rfl ?_
  have s6 : ∀ j, j % 50 = 0 → r88 j ≤ 6 := fun j hj => (ezm_zs0 (hT.t88 j) hj).2
  have b25 := hT.t25
  refine ezw_aload_n rfl rfl ?_
  refine ezw_iconst (0) rfl rfl ?_
  refine ezm_p0 hT rfl ⟨by decide, by decide⟩ (fun hT => ?_)
  refine ezw_iload_n rfl rfl ?_
  refine ezw_iconst (0) rfl rfl ?_
  refine ezw_iconst (1) rfl rfl ?_
  refine ezw_call2_3 rfl (by omega) rfl rfl (ezm_m236a hT (by omega) ha1 ⟨by decide, by decide⟩ ⟨by decide, by decide⟩) ?_
  rintro _ _ ⟨rfl, u2, hu2, p1_0, p1_1, rfl⟩
  refine ezw_if_ne rfl rfl ⟨by omega, by omega⟩ (fun h11_2 => ?_) (fun h11_2 => ?_)
  · refine ezw_aload_n rfl rfl ?_
    refine ezw_sipush (1050) rfl rfl ?_
    refine ezw_call0_1 rfl (by omega) (ezm_at rfl) rfl rfl rfl rfl (ezm_m215_v1050 hT (by omega) tr.2.1) ?_
    rintro _ _ ⟨x88_3, rfl, hT, fb_3, sv_3, rfl⟩
    refine ezw_iconst (-1) rfl rfl ?_
    refine ezw_istore_n rfl rfl ?_
    refine ezw_iconst (0) rfl rfl ?_
    refine ezw_istore_n rfl rfl ?_
    have L28_5 : ∀ c4 : Int, ezw_in c4 → ∀ y6 : Int, ezw_in y6 → ∀ x86_5 : Int → Int, ∀ x87_5 : Int → Int, ∀ x88_5 : Int → Int, ezm_T (0) i2 i3 i7 i8 i13 i18 i19 i20 i25 i29 i30 i31 i36 i37 i38 r73 r74 r75 r76 r77 r78 r79 r80 r81 r82 r83 r84 r85 x86_5 x87_5 x88_5 r89 r90 r91 r92 r93 r94 r95 → ((0) ≤ c4) → (∀ j, j < 1050 → x88_5 j = r88 j) → (ezm_SV r78 x88_5 (1050)) → ezw_E l ρ B xa Hb D cA d ezq_re294 (ezm_m294nQ  e F A i0 i2 i3 i7 i8 i13 i18 i19 i20 i25 i29 i30 i31 i36 i37 i38 r73 r74 r75 r76 r77 r78 r79 r80 r81 r82 r83 r84 r85 r86 r87 r88 r89 r90 r91 r92 r93 r94 r95 a1) 28 [some (ezw_p 72), some (ezw_i a1), some (ezw_i y6), some (ezw_i c4), none] [] (ezm_h e F A (0) i2 i3 i7 i8 i13 i18 i19 i20 i25 i29 i30 i31 i36 i37 i38 r73 r74 r75 r76 r77 r78 r79 r80 r81 r82 r83 r84 r85 x86_5 x87_5 x88_5 r89 r90 r91 r92 r93 r94 r95) := by
      refine ezs_up ?_
      intro c4 hc4 ihc4 y6 hy6 x86_5 x87_5 x88_5 hT g_5 fb_5 sv_5
      refine ezw_iload_n rfl rfl ?_
      refine ezw_aload_n rfl rfl ?_
      refine ezm_gp (p := 85) rfl (fun _ => rfl) ?_
      refine ezw_iconst (0) rfl rfl ?_
      refine ezm_l85 rfl (by omega) (by omega) (fun u7 eu7 => ?_)
      have ku7 : ezm_k85 (0) u7 := eu7 ▸ hT.t85 (0)
      have zu7 := ezm_zl0 ku7 (by omega)
      refine ezw_icmp_ge rfl rfl hc4 (ezm_in85 ku7) (fun h35_7 => ?_) (fun h35_7 => ?_)
      · refine ezw_iload_n rfl rfl ?_
        refine ezw_if_ne rfl rfl ha1 (fun h71_7 => ?_) (fun h71_7 => ?_)
        · refine ezw_aload_n rfl rfl ?_
          refine ezw_sipush (1050) rfl rfl ?_
          refine ezw_call0_1 rfl (by omega) (ezm_at rfl) rfl rfl rfl rfl (ezm_m293_v1050 hT (by omega)) ?_
          rintro _ _ ⟨rfl, u9, hu9, rfl⟩
          exact ezw_ireturn rfl rfl ⟨(0), x86_5, x87_5, x88_5, rfl, hT, u9, hu9, ezm_OK_lo ok b25.2 s6 fb_5, fb_5, rfl⟩
        · refine ezw_iload_n rfl rfl ?_
          refine ezw_goto rfl rfl ?_
          exact ezw_ireturn rfl rfl ⟨(0), x86_5, x87_5, x88_5, rfl, hT, y6, hy6, ezm_OK_lo ok b25.2 s6 fb_5, fb_5, rfl⟩
      · refine ezw_aload_n rfl rfl ?_
        refine ezw_iconst (1) rfl rfl ?_
        refine ezw_iconst (4) rfl rfl ?_
        refine ezw_iload_n rfl rfl ?_
        refine ezw_imul (k := 4 * c4) rfl (by omega) ?_
        refine ezw_iadd (k := 4 * c4 + 1) rfl (by omega) ?_
        refine ezw_call0_1 rfl (by omega) (ezm_at rfl) rfl rfl rfl rfl (ezm_m295 hT (by omega) ⟨by omega, by omega⟩ (by omega) tr sv_5) ?_
        rintro _ _ ⟨x86_10, x87_10, x88_10, rfl, hT, u11, hu11, fb_10, sv_10, rfl⟩
        refine ezw_istore rfl rfl ?_
        refine ezw_iload rfl rfl ?_
        refine ezw_if_ne rfl rfl ⟨by omega, by omega⟩ (fun h51_11 => ?_) (fun h51_11 => ?_)
        · refine ezw_iload_n rfl rfl ?_
          refine ezw_istore_n rfl rfl ?_
          refine ezw_iinc (k := c4 + 1) (1) rfl rfl rfl (by omega) rfl ?_
          refine ezw_goto rfl rfl ?_
          exact ezw_keepE [true, true, true, true, false] (ihc4 (c4 + 1) (by omega) ⟨by omega, by omega⟩ y6 hy6 x86_10 x87_10 x88_10 hT (by omega) (fun j hj => by rw [fb_10 j (by omega), fb_5 j hj]) sv_10)
        · refine ezw_iload_n rfl rfl ?_
          refine ezw_if_ge rfl rfl hy6 (fun h55_11 => ?_) (fun h55_11 => ?_)
          · refine ezw_iload_n rfl rfl ?_
            refine ezw_istore_n rfl rfl ?_
            refine ezw_iinc (k := c4 + 1) (1) rfl rfl rfl (by omega) rfl ?_
            refine ezw_goto rfl rfl ?_
            exact ezw_keepE [true, true, true, true, false] (ihc4 (c4 + 1) (by omega) ⟨by omega, by omega⟩ y6 hy6 x86_10 x87_10 x88_10 hT (by omega) (fun j hj => by rw [fb_10 j (by omega), fb_5 j hj]) sv_10)
          · refine ezw_iload_n rfl rfl ?_
            refine ezw_goto rfl rfl ?_
            refine ezw_istore_n rfl rfl ?_
            refine ezw_iinc (k := c4 + 1) (1) rfl rfl rfl (by omega) rfl ?_
            refine ezw_goto rfl rfl ?_
            exact ezw_keepE [true, true, true, true, false] (ihc4 (c4 + 1) (by omega) ⟨by omega, by omega⟩ c4 hc4 x86_10 x87_10 x88_10 hT (by omega) (fun j hj => by rw [fb_10 j (by omega), fb_5 j hj]) sv_10)
    exact ezw_keepE [true, true, true, true, false] (L28_5 (0) ⟨by decide, by decide⟩ (-1) ⟨by decide, by decide⟩ r86 r87 x88_3 hT (by omega) (fun j hj => fb_3 j (by omega)) sv_3)
  · refine ezw_bipush (-2) rfl rfl ?_
    exact ezw_ireturn rfl rfl ⟨(0), r86, r87, r88, rfl, hT, (-2), ⟨by decide, by decide⟩, ok, (fun _ _ => rfl), rfl⟩
def ezm_m329nQ (e : Bool × Bool) (F : Nat → Nat → Int) (A : Nat → Int → Int) (i0 i2 i3 i7 i8 i13 i18 i19 i20 i25 i29 i30 i31 i36 i37 i38 : Int) (r73 r74 r75 r76 r77 r78 r79 r80 r81 r82 r83 r84 r85 r86 r87 r88 r89 r90 r91 r92 r93 r94 r95 : Int → Int) (a1 : Int) (a2 : Int) (a3 : Int) (a4 : Int) : Option ezq_V → (Nat → ezq_C) → Prop := fun v g' => ∃ (x0 x29 x30 x31 x37 x38 : Int) (x86 x87 x88 x90 x91 : Int → Int), ezm_h e F A x0 i2 i3 i7 i8 i13 i18 i19 i20 i25 x29 x30 x31 i36 x37 x38 r73 r74 r75 r76 r77 r78 r79 r80 r81 r82 r83 r84 r85 x86 x87 x88 r89 x90 x91 r92 r93 r94 r95 = g' ∧ ezm_T x0 i2 i3 i7 i8 i13 i18 i19 i20 i25 x29 x30 x31 i36 x37 x38 r73 r74 r75 r76 r77 r78 r79 r80 r81 r82 r83 r84 r85 x86 x87 x88 r89 x90 x91 r92 r93 r94 r95 ∧ ∃ u : Int, (ezw_in u) ∧ (ezm_OK r78 x88 r89 i25) ∧ (∀ j, j < 1100 → x88 j = r88 j) ∧ some (ezw_i u) = v
theorem ezm_m329n {a1 a2 a3 a4 : Int} (hT : ezm_T i0 i2 i3 i7 i8 i13 i18 i19 i20 i25 i29 i30 i31 i36 i37 i38 r73 r74 r75 r76 r77 r78 r79 r80 r81 r82 r83 r84 r85 r86 r87 r88 r89 r90 r91 r92 r93 r94 r95) (hd : 7 ≤ d) (ha1 : ezw_in a1) (ha2 : ezw_in a2) (ha3 : ezw_in a3) (ha4 : ezw_in a4) (tr : ezm_TR r78 r79 r80) (ok : ezm_OK r78 r88 r89 i25) : ezw_C l ρ B xa Hb D cA 329 d [ezw_p 72, ezw_i a1, ezw_i a2, ezw_i a3, ezw_i a4] (ezm_h e F A i0 i2 i3 i7 i8 i13 i18 i19 i20 i25 i29 i30 i31 i36 i37 i38 r73 r74 r75 r76 r77 r78 r79 r80 r81 r82 r83 r84 r85 r86 r87 r88 r89 r90 r91 r92 r93 r94 r95) (ezm_m329nQ  e F A i0 i2 i3 i7 i8 i13 i18 i19 i20 i25 i29 i30 i31 i36 i37 i38 r73 r74 r75 r76 r77 r78 r79 r80 r81 r82 r83 r84 r85 r86 r87 r88 r89 r90 r91 r92 r93 r94 r95 a1 a2 a3 a4) := by
  refine ezw_met (k := 5) rfl rfl ?_
  have s6 : ∀ j, j % 50 = 0 → r88 j ≤ 6 := fun j hj => (ezm_zs0 (hT.t88 j) hj).2
  have b25 := hT.t25
  refine ezw_aload_n rfl rfl ?_
  refine ezw_iconst (0) rfl rfl ?_
  refine ezm_p0 hT rfl ⟨by decide, by decide⟩ (fun hT => ?_)
  refine ezw_iload_n rfl rfl ?_
  refine ezw_iconst (0) rfl rfl ?_
  refine ezw_sipush (9999) rfl rfl ?_
  refine ezw_call2_3 rfl (by omega) rfl rfl (ezm_m236a hT (by omega) ha1 ⟨by decide, by decide⟩ ⟨by decide, by decide⟩) ?_
  rintro _ _ ⟨rfl, u2, hu2, p1_0, p1_1, rfl⟩
  refine ezw_if_eq rfl rfl ⟨by omega, by omega⟩ (fun h13_2 => ?_) (fun h13_2 => ?_)
  · refine ezw_iconst (-1) rfl rfl ?_
    exact ezw_ireturn rfl rfl ⟨(0), i29, i30, i31, i37, i38, r86, r87, r88, r90, r91, rfl, hT, (-1), ⟨by decide, by decide⟩, ok, (fun _ _ => rfl), rfl⟩
  · refine ezw_iload_n rfl rfl ?_
    refine ezw_iconst (1) rfl rfl ?_
    refine ezw_bipush (20) rfl rfl ?_
    refine ezw_call2_3 rfl (by omega) rfl rfl (ezm_m236a hT (by omega) ha2 ⟨by decide, by decide⟩ ⟨by decide, by decide⟩) ?_
    rintro _ _ ⟨rfl, u4, hu4, p3_0, p3_1, rfl⟩
    refine ezw_if_eq rfl rfl ⟨by omega, by omega⟩ (fun h23_4 => ?_) (fun h23_4 => ?_)
    · refine ezw_iconst (-1) rfl rfl ?_
      exact ezw_ireturn rfl rfl ⟨(0), i29, i30, i31, i37, i38, r86, r87, r88, r90, r91, rfl, hT, (-1), ⟨by decide, by decide⟩, ok, (fun _ _ => rfl), rfl⟩
    · refine ezw_iload_n rfl rfl ?_
      refine ezw_iconst (1) rfl rfl ?_
      refine ezw_bipush (6) rfl rfl ?_
      refine ezw_call2_3 rfl (by omega) rfl rfl (ezm_m236a hT (by omega) ha3 ⟨by decide, by decide⟩ ⟨by decide, by decide⟩) ?_
      rintro _ _ ⟨rfl, u6, hu6, p5_0, p5_1, rfl⟩
      refine ezw_if_eq rfl rfl ⟨by omega, by omega⟩ (fun h33_6 => ?_) (fun h33_6 => ?_)
      · refine ezw_iconst (-1) rfl rfl ?_
        exact ezw_ireturn rfl rfl ⟨(0), i29, i30, i31, i37, i38, r86, r87, r88, r90, r91, rfl, hT, (-1), ⟨by decide, by decide⟩, ok, (fun _ _ => rfl), rfl⟩
      · refine ezw_iload rfl rfl ?_
        refine ezw_iconst (0) rfl rfl ?_
        refine ezw_iconst (2) rfl rfl ?_
        refine ezw_call2_3 rfl (by omega) rfl rfl (ezm_m236a hT (by omega) ha4 ⟨by decide, by decide⟩ ⟨by decide, by decide⟩) ?_
        rintro _ _ ⟨rfl, u8, hu8, p7_0, p7_1, rfl⟩
        refine ezw_if_ne rfl rfl ⟨by omega, by omega⟩ (fun h43_8 => ?_) (fun h43_8 => ?_)
        · refine ezw_aload_n rfl rfl ?_
          refine ezw_iload_n rfl rfl ?_
          refine ezw_i2l rfl ha1 rfl ?_
          refine ezm_p37 hT rfl (ezw_in_il ha1) (fun hT => ?_)
          refine ezw_iconst (0) rfl rfl ?_
          refine ezw_istore rfl rfl ?_
          refine ezw_iconst (0) rfl rfl ?_
          refine ezw_istore rfl rfl ?_
          refine ezw_aload_n rfl rfl ?_
          refine ezw_iconst (0) rfl rfl ?_
          refine ezm_p38 hT rfl ⟨by decide, by decide⟩ (fun hT => ?_)
          refine ezw_iconst (0) rfl rfl ?_
          refine ezw_istore rfl rfl ?_
          have L68_10 : ∀ c9 : Int, ezw_in c9 → ∀ y11 : Int, ezw_in y11 → ∀ y12 : Int, ezw_in y12 → ∀ x29_10 : Int, ∀ x30_10 : Int, ∀ x31_10 : Int, ∀ x37_10 : Int, ∀ x38_10 : Int, ∀ x86_10 : Int → Int, ∀ x87_10 : Int → Int, ∀ x88_10 : Int → Int, ∀ x90_10 : Int → Int, ∀ x91_10 : Int → Int, ezm_T (0) i2 i3 i7 i8 i13 i18 i19 i20 i25 x29_10 x30_10 x31_10 i36 x37_10 x38_10 r73 r74 r75 r76 r77 r78 r79 r80 r81 r82 r83 r84 r85 x86_10 x87_10 x88_10 r89 x90_10 x91_10 r92 r93 r94 r95 → ((0) ≤ c9) → (∀ j, j < 1100 → x88_10 j = r88 j) → ezw_E l ρ B xa Hb D cA d ezq_re329 (ezm_m329nQ  e F A i0 i2 i3 i7 i8 i13 i18 i19 i20 i25 i29 i30 i31 i36 i37 i38 r73 r74 r75 r76 r77 r78 r79 r80 r81 r82 r83 r84 r85 r86 r87 r88 r89 r90 r91 r92 r93 r94 r95 a1 a2 a3 a4) 68 [some (ezw_p 72), some (ezw_i a1), some (ezw_i a2), some (ezw_i a3), some (ezw_i a4), some (ezw_i y11), some (ezw_i y12), some (ezw_i c9), none, none] [] (ezm_h e F A (0) i2 i3 i7 i8 i13 i18 i19 i20 i25 x29_10 x30_10 x31_10 i36 x37_10 x38_10 r73 r74 r75 r76 r77 r78 r79 r80 r81 r82 r83 r84 r85 x86_10 x87_10 x88_10 r89 x90_10 x91_10 r92 r93 r94 r95) := by
            refine ezs_up ?_
            intro c9 hc9 ihc9 y11 hy11 y12 hy12 x29_10 x30_10 x31_10 x37_10 x38_10 x86_10 x87_10 x88_10 x90_10 x91_10 hT g_10 fb_10
            have k13 := hT.t29
            have k14 := hT.t30
            have k15 := hT.t31
            have k16 := hT.t38
            refine ezw_iload rfl rfl ?_
            refine ezw_iload_n rfl rfl ?_
            refine ezw_icmp_ge rfl rfl hc9 ha2 (fun h71_16 => ?_) (fun h71_16 => ?_)
            · refine ezw_iload rfl rfl ?_
              refine ezw_if_ne rfl rfl ha4 (fun h209_16 => ?_) (fun h209_16 => ?_)
              · refine ezw_iload rfl rfl ?_
                refine ezw_iconst (1) rfl rfl ?_
                refine ezw_icmp_ne rfl rfl ha4 ⟨by decide, by decide⟩ (fun h220_16 => ?_) (fun h220_16 => ?_)
                · refine ezw_aload_n rfl rfl ?_
                  refine ezm_g38 rfl ?_
                  exact ezw_ireturn rfl rfl ⟨(0), x29_10, x30_10, x31_10, x37_10, x38_10, x86_10, x87_10, x88_10, x90_10, x91_10, rfl, hT, x38_10, hT.t38, ezm_OK_lo ok b25.2 s6 (fun j hj => fb_10 j (by omega)), fb_10, rfl⟩
                · refine ezw_iload rfl rfl ?_
                  refine ezw_goto rfl rfl ?_
                  exact ezw_ireturn rfl rfl ⟨(0), x29_10, x30_10, x31_10, x37_10, x38_10, x86_10, x87_10, x88_10, x90_10, x91_10, rfl, hT, y12, hy12, ezm_OK_lo ok b25.2 s6 (fun j hj => fb_10 j (by omega)), fb_10, rfl⟩
              · refine ezw_iload rfl rfl ?_
                refine ezw_goto rfl rfl ?_
                exact ezw_ireturn rfl rfl ⟨(0), x29_10, x30_10, x31_10, x37_10, x38_10, x86_10, x87_10, x88_10, x90_10, x91_10, rfl, hT, y11, hy11, ezm_OK_lo ok b25.2 s6 (fun j hj => fb_10 j (by omega)), fb_10, rfl⟩
            · have s8 : ∀ j, j % 50 = 0 → x88_10 j ≤ 6 := fun j hj => (ezm_zs0 (hT.t88 j) hj).2
              refine ezw_aload_n rfl rfl ?_
              refine ezw_iconst (0) rfl rfl ?_
              refine ezw_sipush (1100) rfl rfl ?_
              refine ezw_bipush (20) rfl rfl ?_
              refine ezw_call0_3 rfl (by omega) (ezm_at rfl) rfl rfl rfl rfl (ezm_m275 hT (by omega) ⟨by decide, by decide⟩ ⟨by decide, by decide⟩ ⟨by decide, by decide⟩ (by omega) (by omega) (by omega)) ?_
              rintro _ _ ⟨x88_17, rfl, hT, fb_17, cp_17, rfl⟩
              refine ezw_aload_n rfl rfl ?_
              refine ezm_gp (p := 88) rfl (fun _ => rfl) ?_
              refine ezw_bipush (17) rfl rfl ?_
              refine ezm_l88 rfl (by omega) (by omega) (fun u18 eu18 => ?_)
              have ku18 : ezm_k88 (17) u18 := eu18 ▸ hT.t88 (17)
              refine ezw_iconst (2) rfl rfl ?_
              have J100_20 : ∀ y19 : Int, ezw_in y19 → ezw_E l ρ B xa Hb D cA d ezq_re329 (ezm_m329nQ  e F A i0 i2 i3 i7 i8 i13 i18 i19 i20 i25 i29 i30 i31 i36 i37 i38 r73 r74 r75 r76 r77 r78 r79 r80 r81 r82 r83 r84 r85 r86 r87 r88 r89 r90 r91 r92 r93 r94 r95 a1 a2 a3 a4) 100 [some (ezw_p 72), some (ezw_i a1), some (ezw_i a2), some (ezw_i a3), some (ezw_i a4), some (ezw_i y11), some (ezw_i y12), some (ezw_i c9), none, none] [ezw_i y19] (ezm_h e F A (0) i2 i3 i7 i8 i13 i18 i19 i20 i25 x29_10 x30_10 x31_10 i36 x37_10 x38_10 r73 r74 r75 r76 r77 r78 r79 r80 r81 r82 r83 r84 r85 x86_10 x87_10 x88_17 r89 x90_10 x91_10 r92 r93 r94 r95) := by
                intro y19 hy19
                refine ezw_istore rfl rfl ?_
                refine ezw_iload_n rfl rfl ?_
                refine ezw_istore rfl rfl ?_
                have L105_22 : ∀ c21 : Int, ezw_in c21 → ∀ x29_22 : Int, ∀ x30_22 : Int, ∀ x31_22 : Int, ∀ x37_22 : Int, ∀ x38_22 : Int, ∀ x86_22 : Int → Int, ∀ x87_22 : Int → Int, ∀ x88_22 : Int → Int, ∀ x90_22 : Int → Int, ∀ x91_22 : Int → Int, ezm_T (0) i2 i3 i7 i8 i13 i18 i19 i20 i25 x29_22 x30_22 x31_22 i36 x37_22 x38_22 r73 r74 r75 r76 r77 r78 r79 r80 r81 r82 r83 r84 r85 x86_22 x87_22 x88_22 r89 x90_22 x91_22 r92 r93 r94 r95 → (c21 ≤ a3) → (∀ j, j < 1100 ∨ 1120 ≤ j → x88_22 j = x88_17 j) → (ezm_SV r78 x88_22 (1100)) → ezw_E l ρ B xa Hb D cA d ezq_re329 (ezm_m329nQ  e F A i0 i2 i3 i7 i8 i13 i18 i19 i20 i25 i29 i30 i31 i36 i37 i38 r73 r74 r75 r76 r77 r78 r79 r80 r81 r82 r83 r84 r85 r86 r87 r88 r89 r90 r91 r92 r93 r94 r95 a1 a2 a3 a4) 105 [some (ezw_p 72), some (ezw_i a1), some (ezw_i a2), some (ezw_i a3), some (ezw_i a4), some (ezw_i y11), some (ezw_i y12), some (ezw_i c9), some (ezw_i y19), some (ezw_i c21)] [] (ezm_h e F A (0) i2 i3 i7 i8 i13 i18 i19 i20 i25 x29_22 x30_22 x31_22 i36 x37_22 x38_22 r73 r74 r75 r76 r77 r78 r79 r80 r81 r82 r83 r84 r85 x86_22 x87_22 x88_22 r89 x90_22 x91_22 r92 r93 r94 r95) := by
                  refine ezs_dn ?_
                  intro c21 hc21 ihc21 x29_22 x30_22 x31_22 x37_22 x38_22 x86_22 x87_22 x88_22 x90_22 x91_22 hT g_22 fc_22 sv_22
                  have k23 := hT.t29
                  have k24 := hT.t30
                  have k25 := hT.t31
                  have k26 := hT.t38
                  refine ezw_iload rfl rfl ?_
                  refine ezw_if_le rfl rfl hc21 (fun h107_26 => ?_) (fun h107_26 => ?_)
                  · refine ezw_iload rfl rfl ?_
                    refine ezw_aload_n rfl rfl ?_
                    refine ezw_sipush (1100) rfl rfl ?_
                    refine ezw_call0_1 rfl (by omega) (ezm_at rfl) rfl rfl rfl rfl (ezm_m293_v1100 hT (by omega)) ?_
                    rintro _ _ ⟨rfl, u28, hu28, rfl⟩
                    refine ezs_iadd rfl (fun u29 hu29 => ?_)
                    refine ezw_istore rfl rfl ?_
                    refine ezw_iload rfl rfl ?_
                    refine ezw_aload_n rfl rfl ?_
                    refine ezm_gp (p := 88) rfl (fun _ => rfl) ?_
                    refine ezw_sipush (1117) rfl rfl ?_
                    refine ezm_l88 rfl (by omega) (by omega) (fun u30 eu30 => ?_)
                    have ku30 : ezm_k88 (1117) u30 := eu30 ▸ hT.t88 (1117)
                    refine ezw_iconst (2) rfl rfl ?_
                    refine ezw_icmp_ne rfl rfl (ezm_in88 ku30) ⟨by decide, by decide⟩ (fun h187_30 => ?_) (fun h187_30 => ?_)
                    · refine ezw_iconst (0) rfl rfl ?_
                      refine ezw_iload rfl rfl ?_
                      refine ezs_isub rfl (fun u31 hu31 => ?_)
                      refine ezs_iadd rfl (fun u32 hu32 => ?_)
                      refine ezw_istore rfl rfl ?_
                      refine ezw_iinc (k := c9 + 1) (1) rfl rfl rfl (by omega) rfl ?_
                      refine ezw_goto rfl rfl ?_
                      exact ezw_keepE [true, true, true, true, true, true, true, true, false, false] (ihc9 (c9 + 1) (by omega) ⟨by omega, by omega⟩ u29 hu29 u32 hu32 x29_22 x30_22 x31_22 x37_22 x38_22 x86_22 x87_22 x88_22 x90_22 x91_22 hT (by omega) (fun j hj => (fc_22 j (by omega)).trans (by rw [fb_17 j (by omega), fb_10 j hj])))
                    · refine ezw_iconst (1) rfl rfl ?_
                      refine ezw_goto rfl rfl ?_
                      refine ezw_iload rfl rfl ?_
                      refine ezs_isub rfl (fun u33 hu33 => ?_)
                      refine ezs_iadd rfl (fun u34 hu34 => ?_)
                      refine ezw_istore rfl rfl ?_
                      refine ezw_iinc (k := c9 + 1) (1) rfl rfl rfl (by omega) rfl ?_
                      refine ezw_goto rfl rfl ?_
                      exact ezw_keepE [true, true, true, true, true, true, true, true, false, false] (ihc9 (c9 + 1) (by omega) ⟨by omega, by omega⟩ u29 hu29 u34 hu34 x29_22 x30_22 x31_22 x37_22 x38_22 x86_22 x87_22 x88_22 x90_22 x91_22 hT (by omega) (fun j hj => (fc_22 j (by omega)).trans (by rw [fb_17 j (by omega), fb_10 j hj])))
                  · refine ezw_aload_n rfl rfl ?_
                    refine ezw_sipush (1100) rfl rfl ?_
                    refine ezw_call0_1 rfl (by omega) (ezm_at rfl) rfl rfl rfl rfl (ezm_m266_v1100 hT (by omega)) ?_
                    rintro _ _ ⟨rfl, u36, hu36, p35_0, p35_1, rfl⟩
                    refine ezw_if_eq rfl rfl ⟨by omega, by omega⟩ (fun h117_36 => ?_) (fun h117_36 => ?_)
                    · refine ezw_iload rfl rfl ?_
                      refine ezw_aload_n rfl rfl ?_
                      refine ezw_sipush (1100) rfl rfl ?_
                      refine ezw_call0_1 rfl (by omega) (ezm_at rfl) rfl rfl rfl rfl (ezm_m293_v1100 hT (by omega)) ?_
                      rintro _ _ ⟨rfl, u38, hu38, rfl⟩
                      refine ezs_iadd rfl (fun u39 hu39 => ?_)
                      refine ezw_istore rfl rfl ?_
                      refine ezw_iload rfl rfl ?_
                      refine ezw_aload_n rfl rfl ?_
                      refine ezm_gp (p := 88) rfl (fun _ => rfl) ?_
                      refine ezw_sipush (1117) rfl rfl ?_
                      refine ezm_l88 rfl (by omega) (by omega) (fun u40 eu40 => ?_)
                      have ku40 : ezm_k88 (1117) u40 := eu40 ▸ hT.t88 (1117)
                      refine ezw_iconst (2) rfl rfl ?_
                      refine ezw_icmp_ne rfl rfl (ezm_in88 ku40) ⟨by decide, by decide⟩ (fun h187_40 => ?_) (fun h187_40 => ?_)
                      · refine ezw_iconst (0) rfl rfl ?_
                        refine ezw_iload rfl rfl ?_
                        refine ezs_isub rfl (fun u41 hu41 => ?_)
                        refine ezs_iadd rfl (fun u42 hu42 => ?_)
                        refine ezw_istore rfl rfl ?_
                        refine ezw_iinc (k := c9 + 1) (1) rfl rfl rfl (by omega) rfl ?_
                        refine ezw_goto rfl rfl ?_
                        exact ezw_keepE [true, true, true, true, true, true, true, true, false, false] (ihc9 (c9 + 1) (by omega) ⟨by omega, by omega⟩ u39 hu39 u42 hu42 x29_22 x30_22 x31_22 x37_22 x38_22 x86_22 x87_22 x88_22 x90_22 x91_22 hT (by omega) (fun j hj => (fc_22 j (by omega)).trans (by rw [fb_17 j (by omega), fb_10 j hj])))
                      · refine ezw_iconst (1) rfl rfl ?_
                        refine ezw_goto rfl rfl ?_
                        refine ezw_iload rfl rfl ?_
                        refine ezs_isub rfl (fun u43 hu43 => ?_)
                        refine ezs_iadd rfl (fun u44 hu44 => ?_)
                        refine ezw_istore rfl rfl ?_
                        refine ezw_iinc (k := c9 + 1) (1) rfl rfl rfl (by omega) rfl ?_
                        refine ezw_goto rfl rfl ?_
                        exact ezw_keepE [true, true, true, true, true, true, true, true, false, false] (ihc9 (c9 + 1) (by omega) ⟨by omega, by omega⟩ u39 hu39 u44 hu44 x29_22 x30_22 x31_22 x37_22 x38_22 x86_22 x87_22 x88_22 x90_22 x91_22 hT (by omega) (fun j hj => (fc_22 j (by omega)).trans (by rw [fb_17 j (by omega), fb_10 j hj])))
                    · refine ezw_aload_n rfl rfl ?_
                      refine ezw_sipush (1100) rfl rfl ?_
                      refine ezw_iload rfl rfl ?_
                      refine ezw_call0_2 rfl (by omega) (ezm_at rfl) rfl rfl rfl rfl (ezm_m297_v1100 hT (by omega) hc21 (by omega) tr sv_22) ?_
                      rintro _ _ ⟨x29_45, x30_45, x31_45, x86_45, x87_45, x90_45, x91_45, rfl, hT, nt_45, rfl⟩
                      have k46 := hT.t29
                      have k47 := hT.t30
                      have k48 := hT.t31
                      refine ezw_aload_n rfl rfl ?_
                      refine ezm_g29 rfl ?_
                      refine ezw_if_ne rfl rfl ⟨by omega, by omega⟩ (fun h133_48 => ?_) (fun h133_48 => ?_)
                      · refine ezw_iload rfl rfl ?_
                        refine ezw_iconst (1) rfl rfl ?_
                        refine ezw_isub (k := c21 - 1) rfl (by omega) ?_
                        refine ezw_istore rfl rfl ?_
                        refine ezw_aload_n rfl rfl ?_
                        refine ezm_g29 rfl ?_
                        refine ezw_if_le rfl rfl ⟨by omega, by omega⟩ (fun h150_48 => ?_) (fun h150_48 => ?_)
                        · exact ezw_keepE [true, true, true, true, true, true, true, true, true, true] (ihc21 (c21 - 1) (by omega) ⟨by omega, by omega⟩ x29_45 x30_45 x31_45 x37_22 x38_22 x86_45 x87_45 x88_22 x90_45 x91_45 hT (by omega) fc_22 sv_22)
                        · refine ezw_aload_n rfl rfl ?_
                          refine ezw_aload_n rfl rfl ?_
                          refine ezm_g29 rfl ?_
                          refine ezw_call0_1 rfl (by omega) (ezm_at rfl) rfl rfl rfl rfl (ezm_m330 hT (by omega) ⟨by omega, by omega⟩ (by omega) (fun z => nt_45 (by omega)) tr sv_22) ?_
                          rintro _ _ ⟨x37_49, x38_49, x86_49, x87_49, x88_49, rfl, hT, fb_49, sv_49, rfl⟩
                          have k50 := hT.t38
                          refine ezw_goto rfl rfl ?_
                          exact ezw_keepE [true, true, true, true, true, true, true, true, true, true] (ihc21 (c21 - 1) (by omega) ⟨by omega, by omega⟩ x29_45 x30_45 x31_45 x37_49 x38_49 x86_49 x87_49 x88_49 x90_45 x91_45 hT (by omega) (fun j hj => (fb_49 j hj).trans (fc_22 j hj)) sv_49)
                      · refine ezw_iconst (0) rfl rfl ?_
                        refine ezw_goto rfl rfl ?_
                        refine ezw_istore rfl rfl ?_
                        refine ezw_aload_n rfl rfl ?_
                        refine ezm_g29 rfl ?_
                        refine ezw_if_le rfl rfl ⟨by omega, by omega⟩ (fun h150_50 => ?_) (fun h150_50 => ?_)
                        · exact ezw_keepE [true, true, true, true, true, true, true, true, true, true] (ihc21 (0) (by omega) ⟨by decide, by decide⟩ x29_45 x30_45 x31_45 x37_22 x38_22 x86_45 x87_45 x88_22 x90_45 x91_45 hT (by omega) fc_22 sv_22)
                        · refine ezw_aload_n rfl rfl ?_
                          refine ezw_aload_n rfl rfl ?_
                          refine ezm_g29 rfl ?_
                          refine ezw_call0_1 rfl (by omega) (ezm_at rfl) rfl rfl rfl rfl (ezm_m330 hT (by omega) ⟨by omega, by omega⟩ (by omega) (fun z => nt_45 (by omega)) tr sv_22) ?_
                          rintro _ _ ⟨x37_51, x38_51, x86_51, x87_51, x88_51, rfl, hT, fb_51, sv_51, rfl⟩
                          have k52 := hT.t38
                          refine ezw_goto rfl rfl ?_
                          exact ezw_keepE [true, true, true, true, true, true, true, true, true, true] (ihc21 (0) (by omega) ⟨by decide, by decide⟩ x29_45 x30_45 x31_45 x37_51 x38_51 x86_51 x87_51 x88_51 x90_45 x91_45 hT (by omega) (fun j hj => (fb_51 j hj).trans (fc_22 j hj)) sv_51)
                exact ezw_keepE [true, true, true, true, true, true, true, true, true, true] (L105_22 a3 ha3 x29_10 x30_10 x31_10 x37_10 x38_10 x86_10 x87_10 x88_17 x90_10 x91_10 hT (by omega) (fun _ _ => rfl) (ezm_SV_cp2 (ezm_SV_fr ok.1 (s6 _ (by omega)) rfl (fun j _ _ => fb_10 j (by omega))) (s8 _ (by omega)) (m := 20) (by omega) rfl rfl cp_17))
              refine ezw_icmp_ne rfl rfl (ezm_in88 ku18) ⟨by decide, by decide⟩ (fun h92_18 => ?_) (fun h92_18 => ?_)
              · refine ezw_iconst (0) rfl rfl ?_
                exact ezw_keepE [true, true, true, true, true, true, true, true, false, false] (J100_20 (0) ⟨by decide, by decide⟩)
              · refine ezw_iconst (1) rfl rfl ?_
                refine ezw_goto rfl rfl ?_
                exact ezw_keepE [true, true, true, true, true, true, true, true, false, false] (J100_20 (1) ⟨by decide, by decide⟩)
          exact ezw_keepE [true, true, true, true, true, true, true, true, false, false] (L68_10 (0) ⟨by decide, by decide⟩ (0) ⟨by decide, by decide⟩ (0) ⟨by decide, by decide⟩ i29 i30 i31 a1 (0) r86 r87 r88 r90 r91 hT (by omega) (fun _ _ => rfl))
        · refine ezw_iconst (-1) rfl rfl ?_
          exact ezw_ireturn rfl rfl ⟨(0), i29, i30, i31, i37, i38, r86, r87, r88, r90, r91, rfl, hT, (-1), ⟨by decide, by decide⟩, ok, (fun _ _ => rfl), rfl⟩
end KM6
