/-! ===== the model: what to do next ===== -/
section KM6
variable {l : Launch} {ρ : ezq_E} {B : Nat} {xa : Nat → Option Nat} {Hb : Heap} {D : va_G} {cA : Nat → ClassId} {d : Nat} {e : Bool × Bool} {F : Nat → Nat → Int} {A : Nat → Int → Int} {i0 i2 i3 i7 i8 i13 i18 i19 i20 i25 i29 i30 i31 i36 i37 i38 : Int} {r73 r74 r75 r76 r77 r78 r79 r80 r81 r82 r83 r84 r85 r86 r87 r88 r89 r90 r91 r92 r93 r94 r95 : Int → Int}
def ezm_m298_v0Q (e : Bool × Bool) (F : Nat → Nat → Int) (A : Nat → Int → Int) (i0 i2 i3 i7 i8 i13 i18 i19 i20 i25 i29 i30 i31 i36 i37 i38 : Int) (r73 r74 r75 r76 r77 r78 r79 r80 r81 r82 r83 r84 r85 r86 r87 r88 r89 r90 r91 r92 r93 r94 r95 : Int → Int) (a2 : Int) (a3 : Int) : Option ezq_V → (Nat → ezq_C) → Prop := fun v g' => ezm_h e F A i0 i2 i3 i7 i8 i13 i18 i19 i20 i25 i29 i30 i31 i36 i37 i38 r73 r74 r75 r76 r77 r78 r79 r80 r81 r82 r83 r84 r85 r86 r87 r88 r89 r90 r91 r92 r93 r94 r95 = g' ∧ ∃ u : Int, (ezw_in u) ∧ some (ezw_i u) = v
theorem ezm_m298_v0 {a2 a3 : Int} (hT : ezm_T i0 i2 i3 i7 i8 i13 i18 i19 i20 i25 i29 i30 i31 i36 i37 i38 r73 r74 r75 r76 r77 r78 r79 r80 r81 r82 r83 r84 r85 r86 r87 r88 r89 r90 r91 r92 r93 r94 r95) (hd : 1 ≤ d) (ha2 : ezw_in a2) (ha3 : ezw_in a3) : ezw_C l ρ B xa Hb D cA 298 d [ezw_p 72, ezw_i (0), ezw_i a2, ezw_i a3] (ezm_h e F A i0 i2 i3 i7 i8 i13 i18 i19 i20 i25 i29 i30 i31 i36 i37 i38 r73 r74 r75 r76 r77 r78 r79 r80 r81 r82 r83 r84 r85 r86 r87 r88 r89 r90 r91 r92 r93 r94 r95) (ezm_m298_v0Q  e F A i0 i2 i3 i7 i8 i13 i18 i19 i20 i25 i29 i30 i31 i36 i37 i38 r73 r74 r75 r76 r77 r78 r79 r80 r81 r82 r83 r84 r85 r86 r87 r88 r89 r90 r91 r92 r93 r94 r95 a2 a3) := by
  refine ezw_met (k := 2) rfl rfl ?_
  refine ezw_iload_n rfl rfl ?_
  refine ezw_if_eq rfl rfl ha3 (fun h1_0 => ?_) (fun h1_0 => ?_)
  · refine ezw_iconst (0) rfl rfl ?_
    refine ezw_istore rfl rfl ?_
    refine ezw_iconst (0) rfl rfl ?_
    refine ezw_istore rfl rfl ?_
    have L31_2 : ∀ c1 : Int, ezw_in c1 → ∀ y3 : Int, ezw_in y3 → ((0) ≤ c1) → ezw_E l ρ B xa Hb D cA d ezq_re298 (ezm_m298_v0Q  e F A i0 i2 i3 i7 i8 i13 i18 i19 i20 i25 i29 i30 i31 i36 i37 i38 r73 r74 r75 r76 r77 r78 r79 r80 r81 r82 r83 r84 r85 r86 r87 r88 r89 r90 r91 r92 r93 r94 r95 a2 a3) 31 [some (ezw_p 72), some (ezw_i (0)), some (ezw_i a2), some (ezw_i a3), some (ezw_i y3), some (ezw_i c1)] [] (ezm_h e F A i0 i2 i3 i7 i8 i13 i18 i19 i20 i25 i29 i30 i31 i36 i37 i38 r73 r74 r75 r76 r77 r78 r79 r80 r81 r82 r83 r84 r85 r86 r87 r88 r89 r90 r91 r92 r93 r94 r95) := by
      refine ezs_up ?_
      intro c1 hc1 ihc1 y3 hy3 g_2
      refine ezw_iload rfl rfl ?_
      refine ezw_aload_n rfl rfl ?_
      refine ezw_call0_0 rfl (by omega) (ezm_at rfl) rfl rfl rfl rfl (ezm_m216 hT (by omega)) ?_
      rintro _ _ ⟨rfl, u5, hu5, p4_0, p4_1, rfl⟩
      refine ezw_icmp_ge rfl rfl hc1 hu5 (fun h37_5 => ?_) (fun h37_5 => ?_)
      · refine ezw_sipush (1000) rfl rfl ?_
        refine ezw_iload rfl rfl ?_
        refine ezs_imul rfl (fun u6 hu6 => ?_)
        exact ezw_ireturn rfl rfl ⟨rfl, u6, hu6, rfl⟩
      · refine ezw_iload rfl rfl ?_
        refine ezw_iload_n rfl rfl ?_
        refine ezw_iload rfl rfl ?_
        refine ezw_ishrO rfl (fun u7 hu7 => ?_)
        refine ezw_iconst (1) rfl rfl ?_
        refine ezm_iand rfl (fun u8 hu8 ku8 => ?_)
        refine ezw_iconst (1) rfl rfl ?_
        refine ezw_icmp_ne rfl rfl hu8 ⟨by decide, by decide⟩ (fun h49_8 => ?_) (fun h49_8 => ?_)
        · refine ezw_iconst (0) rfl rfl ?_
          refine ezs_iadd rfl (fun u9 hu9 => ?_)
          refine ezw_istore rfl rfl ?_
          refine ezw_iinc (k := c1 + 1) (1) rfl rfl rfl (by omega) rfl ?_
          refine ezw_goto rfl rfl ?_
          exact ezw_keepE [true, true, true, true, true, true] (ihc1 (c1 + 1) (by omega) ⟨by omega, by omega⟩ u9 hu9 (by omega))
        · refine ezw_aload_n rfl rfl ?_
          refine ezw_iload rfl rfl ?_
          refine ezw_iconst (0) rfl rfl ?_
          refine ezw_call0_2 rfl (by omega) (ezm_at rfl) rfl rfl rfl rfl (ezm_m263 hT (by omega) hc1 ⟨by decide, by decide⟩ (by omega) (by omega)) ?_
          rintro _ _ ⟨rfl, u11, hu11, rfl⟩
          refine ezw_goto rfl rfl ?_
          refine ezs_iadd rfl (fun u12 hu12 => ?_)
          refine ezw_istore rfl rfl ?_
          refine ezw_iinc (k := c1 + 1) (1) rfl rfl rfl (by omega) rfl ?_
          refine ezw_goto rfl rfl ?_
          exact ezw_keepE [true, true, true, true, true, true] (ihc1 (c1 + 1) (by omega) ⟨by omega, by omega⟩ u12 hu12 (by omega))
    exact ezw_keepE [true, true, true, true, true, true] (L31_2 (0) ⟨by decide, by decide⟩ (0) ⟨by decide, by decide⟩ (by omega))
  · refine ezw_aload_n rfl rfl ?_
    refine ezm_gp (p := 88) rfl (fun _ => rfl) ?_
    refine ezw_iload_n rfl rfl ?_
    refine ezw_bipush (18) rfl rfl ?_
    refine ezw_iadd (k := (18)) rfl (by omega) ?_
    refine ezm_l88 rfl (by omega) (by omega) (fun u13 eu13 => ?_)
    have ku13 : ezm_k88 (18) u13 := eu13 ▸ hT.t88 (18)
    refine ezw_if_le rfl rfl (ezm_in88 ku13) (fun h13_13 => ?_) (fun h13_13 => ?_)
    · refine ezw_iconst (0) rfl rfl ?_
      refine ezw_istore rfl rfl ?_
      refine ezw_iconst (0) rfl rfl ?_
      refine ezw_istore rfl rfl ?_
      have L31_15 : ∀ c14 : Int, ezw_in c14 → ∀ y16 : Int, ezw_in y16 → ((0) ≤ c14) → ezw_E l ρ B xa Hb D cA d ezq_re298 (ezm_m298_v0Q  e F A i0 i2 i3 i7 i8 i13 i18 i19 i20 i25 i29 i30 i31 i36 i37 i38 r73 r74 r75 r76 r77 r78 r79 r80 r81 r82 r83 r84 r85 r86 r87 r88 r89 r90 r91 r92 r93 r94 r95 a2 a3) 31 [some (ezw_p 72), some (ezw_i (0)), some (ezw_i a2), some (ezw_i a3), some (ezw_i y16), some (ezw_i c14)] [] (ezm_h e F A i0 i2 i3 i7 i8 i13 i18 i19 i20 i25 i29 i30 i31 i36 i37 i38 r73 r74 r75 r76 r77 r78 r79 r80 r81 r82 r83 r84 r85 r86 r87 r88 r89 r90 r91 r92 r93 r94 r95) := by
        refine ezs_up ?_
        intro c14 hc14 ihc14 y16 hy16 g_15
        refine ezw_iload rfl rfl ?_
        refine ezw_aload_n rfl rfl ?_
        refine ezw_call0_0 rfl (by omega) (ezm_at rfl) rfl rfl rfl rfl (ezm_m216 hT (by omega)) ?_
        rintro _ _ ⟨rfl, u18, hu18, p17_0, p17_1, rfl⟩
        refine ezw_icmp_ge rfl rfl hc14 hu18 (fun h37_18 => ?_) (fun h37_18 => ?_)
        · refine ezw_sipush (1000) rfl rfl ?_
          refine ezw_iload rfl rfl ?_
          refine ezs_imul rfl (fun u19 hu19 => ?_)
          exact ezw_ireturn rfl rfl ⟨rfl, u19, hu19, rfl⟩
        · refine ezw_iload rfl rfl ?_
          refine ezw_iload_n rfl rfl ?_
          refine ezw_iload rfl rfl ?_
          refine ezw_ishrO rfl (fun u20 hu20 => ?_)
          refine ezw_iconst (1) rfl rfl ?_
          refine ezm_iand rfl (fun u21 hu21 ku21 => ?_)
          refine ezw_iconst (1) rfl rfl ?_
          refine ezw_icmp_ne rfl rfl hu21 ⟨by decide, by decide⟩ (fun h49_21 => ?_) (fun h49_21 => ?_)
          · refine ezw_iconst (0) rfl rfl ?_
            refine ezs_iadd rfl (fun u22 hu22 => ?_)
            refine ezw_istore rfl rfl ?_
            refine ezw_iinc (k := c14 + 1) (1) rfl rfl rfl (by omega) rfl ?_
            refine ezw_goto rfl rfl ?_
            exact ezw_keepE [true, true, true, true, true, true] (ihc14 (c14 + 1) (by omega) ⟨by omega, by omega⟩ u22 hu22 (by omega))
          · refine ezw_aload_n rfl rfl ?_
            refine ezw_iload rfl rfl ?_
            refine ezw_iconst (0) rfl rfl ?_
            refine ezw_call0_2 rfl (by omega) (ezm_at rfl) rfl rfl rfl rfl (ezm_m263 hT (by omega) hc14 ⟨by decide, by decide⟩ (by omega) (by omega)) ?_
            rintro _ _ ⟨rfl, u24, hu24, rfl⟩
            refine ezw_goto rfl rfl ?_
            refine ezs_iadd rfl (fun u25 hu25 => ?_)
            refine ezw_istore rfl rfl ?_
            refine ezw_iinc (k := c14 + 1) (1) rfl rfl rfl (by omega) rfl ?_
            refine ezw_goto rfl rfl ?_
            exact ezw_keepE [true, true, true, true, true, true] (ihc14 (c14 + 1) (by omega) ⟨by omega, by omega⟩ u25 hu25 (by omega))
      exact ezw_keepE [true, true, true, true, true, true] (L31_15 (0) ⟨by decide, by decide⟩ (0) ⟨by decide, by decide⟩ (by omega))
    · refine ezw_aload_n rfl rfl ?_
      refine ezm_gp (p := 78) rfl (fun _ => rfl) ?_
      refine ezw_iconst (4) rfl rfl ?_
      refine ezm_l78 rfl (by omega) (by omega) (fun u26 eu26 => ?_)
      have ku26 : ezm_k78 (4) u26 := eu26 ▸ hT.t78 (4)
      refine ezw_goto rfl rfl ?_
      refine ezw_istore rfl rfl ?_
      refine ezw_iconst (0) rfl rfl ?_
      refine ezw_istore rfl rfl ?_
      have L31_28 : ∀ c27 : Int, ezw_in c27 → ∀ y29 : Int, ezw_in y29 → ((0) ≤ c27) → ezw_E l ρ B xa Hb D cA d ezq_re298 (ezm_m298_v0Q  e F A i0 i2 i3 i7 i8 i13 i18 i19 i20 i25 i29 i30 i31 i36 i37 i38 r73 r74 r75 r76 r77 r78 r79 r80 r81 r82 r83 r84 r85 r86 r87 r88 r89 r90 r91 r92 r93 r94 r95 a2 a3) 31 [some (ezw_p 72), some (ezw_i (0)), some (ezw_i a2), some (ezw_i a3), some (ezw_i y29), some (ezw_i c27)] [] (ezm_h e F A i0 i2 i3 i7 i8 i13 i18 i19 i20 i25 i29 i30 i31 i36 i37 i38 r73 r74 r75 r76 r77 r78 r79 r80 r81 r82 r83 r84 r85 r86 r87 r88 r89 r90 r91 r92 r93 r94 r95) := by
        refine ezs_up ?_
        intro c27 hc27 ihc27 y29 hy29 g_28
        refine ezw_iload rfl rfl ?_
        refine ezw_aload_n rfl rfl ?_
        refine ezw_call0_0 rfl (by omega) (ezm_at rfl) rfl rfl rfl rfl (ezm_m216 hT (by omega)) ?_
        rintro _ _ ⟨rfl, u31, hu31, p30_0, p30_1, rfl⟩
        refine ezw_icmp_ge rfl rfl hc27 hu31 (fun h37_31 => ?_) (fun h37_31 => ?_)
        · refine ezw_sipush (1000) rfl rfl ?_
          refine ezw_iload rfl rfl ?_
          refine ezs_imul rfl (fun u32 hu32 => ?_)
          exact ezw_ireturn rfl rfl ⟨rfl, u32, hu32, rfl⟩
        · refine ezw_iload rfl rfl ?_
          refine ezw_iload_n rfl rfl ?_
          refine ezw_iload rfl rfl ?_
          refine ezw_ishrO rfl (fun u33 hu33 => ?_)
          refine ezw_iconst (1) rfl rfl ?_
          refine ezm_iand rfl (fun u34 hu34 ku34 => ?_)
          refine ezw_iconst (1) rfl rfl ?_
          refine ezw_icmp_ne rfl rfl hu34 ⟨by decide, by decide⟩ (fun h49_34 => ?_) (fun h49_34 => ?_)
          · refine ezw_iconst (0) rfl rfl ?_
            refine ezs_iadd rfl (fun u35 hu35 => ?_)
            refine ezw_istore rfl rfl ?_
            refine ezw_iinc (k := c27 + 1) (1) rfl rfl rfl (by omega) rfl ?_
            refine ezw_goto rfl rfl ?_
            exact ezw_keepE [true, true, true, true, true, true] (ihc27 (c27 + 1) (by omega) ⟨by omega, by omega⟩ u35 hu35 (by omega))
          · refine ezw_aload_n rfl rfl ?_
            refine ezw_iload rfl rfl ?_
            refine ezw_iconst (0) rfl rfl ?_
            refine ezw_call0_2 rfl (by omega) (ezm_at rfl) rfl rfl rfl rfl (ezm_m263 hT (by omega) hc27 ⟨by decide, by decide⟩ (by omega) (by omega)) ?_
            rintro _ _ ⟨rfl, u37, hu37, rfl⟩
            refine ezw_goto rfl rfl ?_
            refine ezs_iadd rfl (fun u38 hu38 => ?_)
            refine ezw_istore rfl rfl ?_
            refine ezw_iinc (k := c27 + 1) (1) rfl rfl rfl (by omega) rfl ?_
            refine ezw_goto rfl rfl ?_
            exact ezw_keepE [true, true, true, true, true, true] (ihc27 (c27 + 1) (by omega) ⟨by omega, by omega⟩ u38 hu38 (by omega))
      exact ezw_keepE [true, true, true, true, true, true] (L31_28 (0) ⟨by decide, by decide⟩ u26 (ezm_in78 ku26) (by omega))
def ezm_m298_v1100Q (e : Bool × Bool) (F : Nat → Nat → Int) (A : Nat → Int → Int) (i0 i2 i3 i7 i8 i13 i18 i19 i20 i25 i29 i30 i31 i36 i37 i38 : Int) (r73 r74 r75 r76 r77 r78 r79 r80 r81 r82 r83 r84 r85 r86 r87 r88 r89 r90 r91 r92 r93 r94 r95 : Int → Int) (a2 : Int) (a3 : Int) : Option ezq_V → (Nat → ezq_C) → Prop := fun v g' => ezm_h e F A i0 i2 i3 i7 i8 i13 i18 i19 i20 i25 i29 i30 i31 i36 i37 i38 r73 r74 r75 r76 r77 r78 r79 r80 r81 r82 r83 r84 r85 r86 r87 r88 r89 r90 r91 r92 r93 r94 r95 = g' ∧ ∃ u : Int, (ezw_in u) ∧ some (ezw_i u) = v
theorem ezm_m298_v1100 {a2 a3 : Int} (hT : ezm_T i0 i2 i3 i7 i8 i13 i18 i19 i20 i25 i29 i30 i31 i36 i37 i38 r73 r74 r75 r76 r77 r78 r79 r80 r81 r82 r83 r84 r85 r86 r87 r88 r89 r90 r91 r92 r93 r94 r95) (hd : 1 ≤ d) (ha2 : ezw_in a2) (ha3 : ezw_in a3) : ezw_C l ρ B xa Hb D cA 298 d [ezw_p 72, ezw_i (1100), ezw_i a2, ezw_i a3] (ezm_h e F A i0 i2 i3 i7 i8 i13 i18 i19 i20 i25 i29 i30 i31 i36 i37 i38 r73 r74 r75 r76 r77 r78 r79 r80 r81 r82 r83 r84 r85 r86 r87 r88 r89 r90 r91 r92 r93 r94 r95) (ezm_m298_v1100Q  e F A i0 i2 i3 i7 i8 i13 i18 i19 i20 i25 i29 i30 i31 i36 i37 i38 r73 r74 r75 r76 r77 r78 r79 r80 r81 r82 r83 r84 r85 r86 r87 r88 r89 r90 r91 r92 r93 r94 r95 a2 a3) := by
  refine ezw_met (k := 2) rfl rfl ?_
  refine ezw_iload_n rfl rfl ?_
  refine ezw_if_eq rfl rfl ha3 (fun h1_0 => ?_) (fun h1_0 => ?_)
  · refine ezw_iconst (0) rfl rfl ?_
    refine ezw_istore rfl rfl ?_
    refine ezw_iconst (0) rfl rfl ?_
    refine ezw_istore rfl rfl ?_
    have L31_2 : ∀ c1 : Int, ezw_in c1 → ∀ y3 : Int, ezw_in y3 → ((0) ≤ c1) → ezw_E l ρ B xa Hb D cA d ezq_re298 (ezm_m298_v1100Q  e F A i0 i2 i3 i7 i8 i13 i18 i19 i20 i25 i29 i30 i31 i36 i37 i38 r73 r74 r75 r76 r77 r78 r79 r80 r81 r82 r83 r84 r85 r86 r87 r88 r89 r90 r91 r92 r93 r94 r95 a2 a3) 31 [some (ezw_p 72), some (ezw_i (1100)), some (ezw_i a2), some (ezw_i a3), some (ezw_i y3), some (ezw_i c1)] [] (ezm_h e F A i0 i2 i3 i7 i8 i13 i18 i19 i20 i25 i29 i30 i31 i36 i37 i38 r73 r74 r75 r76 r77 r78 r79 r80 r81 r82 r83 r84 r85 r86 r87 r88 r89 r90 r91 r92 r93 r94 r95) := by
      refine ezs_up ?_
      intro c1 hc1 ihc1 y3 hy3 g_2
      refine ezw_iload rfl rfl ?_
      refine ezw_aload_n rfl rfl ?_
      refine ezw_call0_0 rfl (by omega) (ezm_at rfl) rfl rfl rfl rfl (ezm_m216 hT (by omega)) ?_
      rintro _ _ ⟨rfl, u5, hu5, p4_0, p4_1, rfl⟩
      refine ezw_icmp_ge rfl rfl hc1 hu5 (fun h37_5 => ?_) (fun h37_5 => ?_)
      · refine ezw_sipush (1000) rfl rfl ?_
        refine ezw_iload rfl rfl ?_
        refine ezs_imul rfl (fun u6 hu6 => ?_)
        exact ezw_ireturn rfl rfl ⟨rfl, u6, hu6, rfl⟩
      · refine ezw_iload rfl rfl ?_
        refine ezw_iload_n rfl rfl ?_
        refine ezw_iload rfl rfl ?_
        refine ezw_ishrO rfl (fun u7 hu7 => ?_)
        refine ezw_iconst (1) rfl rfl ?_
        refine ezm_iand rfl (fun u8 hu8 ku8 => ?_)
        refine ezw_iconst (1) rfl rfl ?_
        refine ezw_icmp_ne rfl rfl hu8 ⟨by decide, by decide⟩ (fun h49_8 => ?_) (fun h49_8 => ?_)
        · refine ezw_iconst (0) rfl rfl ?_
          refine ezs_iadd rfl (fun u9 hu9 => ?_)
          refine ezw_istore rfl rfl ?_
          refine ezw_iinc (k := c1 + 1) (1) rfl rfl rfl (by omega) rfl ?_
          refine ezw_goto rfl rfl ?_
          exact ezw_keepE [true, true, true, true, true, true] (ihc1 (c1 + 1) (by omega) ⟨by omega, by omega⟩ u9 hu9 (by omega))
        · refine ezw_aload_n rfl rfl ?_
          refine ezw_iload rfl rfl ?_
          refine ezw_iconst (0) rfl rfl ?_
          refine ezw_call0_2 rfl (by omega) (ezm_at rfl) rfl rfl rfl rfl (ezm_m263 hT (by omega) hc1 ⟨by decide, by decide⟩ (by omega) (by omega)) ?_
          rintro _ _ ⟨rfl, u11, hu11, rfl⟩
          refine ezw_goto rfl rfl ?_
          refine ezs_iadd rfl (fun u12 hu12 => ?_)
          refine ezw_istore rfl rfl ?_
          refine ezw_iinc (k := c1 + 1) (1) rfl rfl rfl (by omega) rfl ?_
          refine ezw_goto rfl rfl ?_
          exact ezw_keepE [true, true, true, true, true, true] (ihc1 (c1 + 1) (by omega) ⟨by omega, by omega⟩ u12 hu12 (by omega))
    exact ezw_keepE [true, true, true, true, true, true] (L31_2 (0) ⟨by decide, by decide⟩ (0) ⟨by decide, by decide⟩ (by omega))
  · refine ezw_aload_n rfl rfl ?_
    refine ezm_gp (p := 88) rfl (fun _ => rfl) ?_
    refine ezw_iload_n rfl rfl ?_
    refine ezw_bipush (18) rfl rfl ?_
    refine ezw_iadd (k := (1118)) rfl (by omega) ?_
    refine ezm_l88 rfl (by omega) (by omega) (fun u13 eu13 => ?_)
    have ku13 : ezm_k88 (1118) u13 := eu13 ▸ hT.t88 (1118)
    refine ezw_if_le rfl rfl (ezm_in88 ku13) (fun h13_13 => ?_) (fun h13_13 => ?_)
    · refine ezw_iconst (0) rfl rfl ?_
      refine ezw_istore rfl rfl ?_
      refine ezw_iconst (0) rfl rfl ?_
      refine ezw_istore rfl rfl ?_
      have L31_15 : ∀ c14 : Int, ezw_in c14 → ∀ y16 : Int, ezw_in y16 → ((0) ≤ c14) → ezw_E l ρ B xa Hb D cA d ezq_re298 (ezm_m298_v1100Q  e F A i0 i2 i3 i7 i8 i13 i18 i19 i20 i25 i29 i30 i31 i36 i37 i38 r73 r74 r75 r76 r77 r78 r79 r80 r81 r82 r83 r84 r85 r86 r87 r88 r89 r90 r91 r92 r93 r94 r95 a2 a3) 31 [some (ezw_p 72), some (ezw_i (1100)), some (ezw_i a2), some (ezw_i a3), some (ezw_i y16), some (ezw_i c14)] [] (ezm_h e F A i0 i2 i3 i7 i8 i13 i18 i19 i20 i25 i29 i30 i31 i36 i37 i38 r73 r74 r75 r76 r77 r78 r79 r80 r81 r82 r83 r84 r85 r86 r87 r88 r89 r90 r91 r92 r93 r94 r95) := by
        refine ezs_up ?_
        intro c14 hc14 ihc14 y16 hy16 g_15
        refine ezw_iload rfl rfl ?_
        refine ezw_aload_n rfl rfl ?_
        refine ezw_call0_0 rfl (by omega) (ezm_at rfl) rfl rfl rfl rfl (ezm_m216 hT (by omega)) ?_
        rintro _ _ ⟨rfl, u18, hu18, p17_0, p17_1, rfl⟩
        refine ezw_icmp_ge rfl rfl hc14 hu18 (fun h37_18 => ?_) (fun h37_18 => ?_)
        · refine ezw_sipush (1000) rfl rfl ?_
          refine ezw_iload rfl rfl ?_
          refine ezs_imul rfl (fun u19 hu19 => ?_)
          exact ezw_ireturn rfl rfl ⟨rfl, u19, hu19, rfl⟩
        · refine ezw_iload rfl rfl ?_
          refine ezw_iload_n rfl rfl ?_
          refine ezw_iload rfl rfl ?_
          refine ezw_ishrO rfl (fun u20 hu20 => ?_)
          refine ezw_iconst (1) rfl rfl ?_
          refine ezm_iand rfl (fun u21 hu21 ku21 => ?_)
          refine ezw_iconst (1) rfl rfl ?_
          refine ezw_icmp_ne rfl rfl hu21 ⟨by decide, by decide⟩ (fun h49_21 => ?_) (fun h49_21 => ?_)
          · refine ezw_iconst (0) rfl rfl ?_
            refine ezs_iadd rfl (fun u22 hu22 => ?_)
            refine ezw_istore rfl rfl ?_
            refine ezw_iinc (k := c14 + 1) (1) rfl rfl rfl (by omega) rfl ?_
            refine ezw_goto rfl rfl ?_
            exact ezw_keepE [true, true, true, true, true, true] (ihc14 (c14 + 1) (by omega) ⟨by omega, by omega⟩ u22 hu22 (by omega))
          · refine ezw_aload_n rfl rfl ?_
            refine ezw_iload rfl rfl ?_
            refine ezw_iconst (0) rfl rfl ?_
            refine ezw_call0_2 rfl (by omega) (ezm_at rfl) rfl rfl rfl rfl (ezm_m263 hT (by omega) hc14 ⟨by decide, by decide⟩ (by omega) (by omega)) ?_
            rintro _ _ ⟨rfl, u24, hu24, rfl⟩
            refine ezw_goto rfl rfl ?_
            refine ezs_iadd rfl (fun u25 hu25 => ?_)
            refine ezw_istore rfl rfl ?_
            refine ezw_iinc (k := c14 + 1) (1) rfl rfl rfl (by omega) rfl ?_
            refine ezw_goto rfl rfl ?_
            exact ezw_keepE [true, true, true, true, true, true] (ihc14 (c14 + 1) (by omega) ⟨by omega, by omega⟩ u25 hu25 (by omega))
      exact ezw_keepE [true, true, true, true, true, true] (L31_15 (0) ⟨by decide, by decide⟩ (0) ⟨by decide, by decide⟩ (by omega))
    · refine ezw_aload_n rfl rfl ?_
      refine ezm_gp (p := 78) rfl (fun _ => rfl) ?_
      refine ezw_iconst (4) rfl rfl ?_
      refine ezm_l78 rfl (by omega) (by omega) (fun u26 eu26 => ?_)
      have ku26 : ezm_k78 (4) u26 := eu26 ▸ hT.t78 (4)
      refine ezw_goto rfl rfl ?_
      refine ezw_istore rfl rfl ?_
      refine ezw_iconst (0) rfl rfl ?_
      refine ezw_istore rfl rfl ?_
      have L31_28 : ∀ c27 : Int, ezw_in c27 → ∀ y29 : Int, ezw_in y29 → ((0) ≤ c27) → ezw_E l ρ B xa Hb D cA d ezq_re298 (ezm_m298_v1100Q  e F A i0 i2 i3 i7 i8 i13 i18 i19 i20 i25 i29 i30 i31 i36 i37 i38 r73 r74 r75 r76 r77 r78 r79 r80 r81 r82 r83 r84 r85 r86 r87 r88 r89 r90 r91 r92 r93 r94 r95 a2 a3) 31 [some (ezw_p 72), some (ezw_i (1100)), some (ezw_i a2), some (ezw_i a3), some (ezw_i y29), some (ezw_i c27)] [] (ezm_h e F A i0 i2 i3 i7 i8 i13 i18 i19 i20 i25 i29 i30 i31 i36 i37 i38 r73 r74 r75 r76 r77 r78 r79 r80 r81 r82 r83 r84 r85 r86 r87 r88 r89 r90 r91 r92 r93 r94 r95) := by
        refine ezs_up ?_
        intro c27 hc27 ihc27 y29 hy29 g_28
        refine ezw_iload rfl rfl ?_
        refine ezw_aload_n rfl rfl ?_
        refine ezw_call0_0 rfl (by omega) (ezm_at rfl) rfl rfl rfl rfl (ezm_m216 hT (by omega)) ?_
        rintro _ _ ⟨rfl, u31, hu31, p30_0, p30_1, rfl⟩
        refine ezw_icmp_ge rfl rfl hc27 hu31 (fun h37_31 => ?_) (fun h37_31 => ?_)
        · refine ezw_sipush (1000) rfl rfl ?_
          refine ezw_iload rfl rfl ?_
          refine ezs_imul rfl (fun u32 hu32 => ?_)
          exact ezw_ireturn rfl rfl ⟨rfl, u32, hu32, rfl⟩
        · refine ezw_iload rfl rfl ?_
          refine ezw_iload_n rfl rfl ?_
          refine ezw_iload rfl rfl ?_
          refine ezw_ishrO rfl (fun u33 hu33 => ?_)
          refine ezw_iconst (1) rfl rfl ?_
          refine ezm_iand rfl (fun u34 hu34 ku34 => ?_)
          refine ezw_iconst (1) rfl rfl ?_
          refine ezw_icmp_ne rfl rfl hu34 ⟨by decide, by decide⟩ (fun h49_34 => ?_) (fun h49_34 => ?_)
          · refine ezw_iconst (0) rfl rfl ?_
            refine ezs_iadd rfl (fun u35 hu35 => ?_)
            refine ezw_istore rfl rfl ?_
            refine ezw_iinc (k := c27 + 1) (1) rfl rfl rfl (by omega) rfl ?_
            refine ezw_goto rfl rfl ?_
            exact ezw_keepE [true, true, true, true, true, true] (ihc27 (c27 + 1) (by omega) ⟨by omega, by omega⟩ u35 hu35 (by omega))
          · refine ezw_aload_n rfl rfl ?_
            refine ezw_iload rfl rfl ?_
            refine ezw_iconst (0) rfl rfl ?_
            refine ezw_call0_2 rfl (by omega) (ezm_at rfl) rfl rfl rfl rfl (ezm_m263 hT (by omega) hc27 ⟨by decide, by decide⟩ (by omega) (by omega)) ?_
            rintro _ _ ⟨rfl, u37, hu37, rfl⟩
            refine ezw_goto rfl rfl ?_
            refine ezs_iadd rfl (fun u38 hu38 => ?_)
            refine ezw_istore rfl rfl ?_
            refine ezw_iinc (k := c27 + 1) (1) rfl rfl rfl (by omega) rfl ?_
            refine ezw_goto rfl rfl ?_
            exact ezw_keepE [true, true, true, true, true, true] (ihc27 (c27 + 1) (by omega) ⟨by omega, by omega⟩ u38 hu38 (by omega))
      exact ezw_keepE [true, true, true, true, true, true] (L31_28 (0) ⟨by decide, by decide⟩ u26 (ezm_in78 ku26) (by omega))
def ezm_m303bQ (e : Bool × Bool) (F : Nat → Nat → Int) (A : Nat → Int → Int) (i0 i2 i3 i7 i8 i13 i18 i19 i20 i25 i29 i30 i31 i36 i37 i38 : Int) (r73 r74 r75 r76 r77 r78 r79 r80 r81 r82 r83 r84 r85 r86 r87 r88 r89 r90 r91 r92 r93 r94 r95 : Int → Int) (a0 : Int) (a1 : Int) (a2 : Int) : Option ezq_V → (Nat → ezq_C) → Prop := fun v g' => ezm_h e F A i0 i2 i3 i7 i8 i13 i18 i19 i20 i25 i29 i30 i31 i36 i37 i38 r73 r74 r75 r76 r77 r78 r79 r80 r81 r82 r83 r84 r85 r86 r87 r88 r89 r90 r91 r92 r93 r94 r95 = g' ∧ ∃ u : Int, (ezw_in u) ∧ (u = 160 * a0 + 16 * a1 + a2) ∧ some (ezw_i u) = v
theorem ezm_m303b {a0 a1 a2 : Int} (hT : ezm_T i0 i2 i3 i7 i8 i13 i18 i19 i20 i25 i29 i30 i31 i36 i37 i38 r73 r74 r75 r76 r77 r78 r79 r80 r81 r82 r83 r84 r85 r86 r87 r88 r89 r90 r91 r92 r93 r94 r95) (hd : 0 ≤ d) (ha0 : ezw_in a0) (ha1 : ezw_in a1) (ha2 : ezw_in a2) (ga : 0 ≤ a0 ∧ a0 ≤ 6 ∧ 0 ≤ a1 ∧ a1 ≤ 9 ∧ 0 ≤ a2 ∧ a2 ≤ 15) : ezw_C l ρ B xa Hb D cA 303 d [ezw_i a0, ezw_i a1, ezw_i a2] (ezm_h e F A i0 i2 i3 i7 i8 i13 i18 i19 i20 i25 i29 i30 i31 i36 i37 i38 r73 r74 r75 r76 r77 r78 r79 r80 r81 r82 r83 r84 r85 r86 r87 r88 r89 r90 r91 r92 r93 r94 r95) (ezm_m303bQ  e F A i0 i2 i3 i7 i8 i13 i18 i19 i20 i25 i29 i30 i31 i36 i37 i38 r73 r74 r75 r76 r77 r78 r79 r80 r81 r82 r83 r84 r85 r86 r87 r88 r89 r90 r91 r92 r93 r94 r95 a0 a1 a2) := by
  refine ezw_met (k := 0) rfl rfl ?_
  refine ezw_sipush (160) rfl rfl ?_
  refine ezw_iload_n rfl rfl ?_
  refine ezw_imul (k := 160 * a0) rfl (by omega) ?_
  refine ezw_bipush (16) rfl rfl ?_
  refine ezw_iload_n rfl rfl ?_
  refine ezw_imul (k := 16 * a1) rfl (by omega) ?_
  refine ezw_iadd (k := 160 * a0 + 16 * a1) rfl (by omega) ?_
  refine ezw_iload_n rfl rfl ?_
  refine ezw_iadd (k := 160 * a0 + 16 * a1 + a2) rfl (by omega) ?_
  exact ezw_ireturn rfl rfl ⟨rfl, 160 * a0 + 16 * a1 + a2, ⟨by omega, by omega⟩, by omega, rfl⟩
def ezm_m302_v0Q (e : Bool × Bool) (F : Nat → Nat → Int) (A : Nat → Int → Int) (i0 i2 i3 i7 i8 i13 i18 i19 i20 i25 i29 i30 i31 i36 i37 i38 : Int) (r73 r74 r75 r76 r77 r78 r79 r80 r81 r82 r83 r84 r85 r86 r87 r88 r89 r90 r91 r92 r93 r94 r95 : Int → Int) (a2 : Int) (a3 : Int) (a4 : Int) : Option ezq_V → (Nat → ezq_C) → Prop := fun v g' => ezm_h e F A i0 i2 i3 i7 i8 i13 i18 i19 i20 i25 i29 i30 i31 i36 i37 i38 r73 r74 r75 r76 r77 r78 r79 r80 r81 r82 r83 r84 r85 r86 r87 r88 r89 r90 r91 r92 r93 r94 r95 = g' ∧ ∃ u : Int, (ezw_in u) ∧ some (ezw_i u) = v
theorem ezm_m302_v0 {a2 a3 a4 : Int} (hT : ezm_T i0 i2 i3 i7 i8 i13 i18 i19 i20 i25 i29 i30 i31 i36 i37 i38 r73 r74 r75 r76 r77 r78 r79 r80 r81 r82 r83 r84 r85 r86 r87 r88 r89 r90 r91 r92 r93 r94 r95) (hd : 2 ≤ d) (ha2 : ezw_in a2) (ha3 : ezw_in a3) (ha4 : ezw_in a4) (ga : 0 ≤ a2 ∧ a2 ≤ 6) (gb : 0 ≤ a3 ∧ a3 ≤ 9) (gc : 0 ≤ a4 ∧ a4 ≤ 15) : ezw_C l ρ B xa Hb D cA 302 d [ezw_p 72, ezw_i (0), ezw_i a2, ezw_i a3, ezw_i a4] (ezm_h e F A i0 i2 i3 i7 i8 i13 i18 i19 i20 i25 i29 i30 i31 i36 i37 i38 r73 r74 r75 r76 r77 r78 r79 r80 r81 r82 r83 r84 r85 r86 r87 r88 r89 r90 r91 r92 r93 r94 r95) (ezm_m302_v0Q  e F A i0 i2 i3 i7 i8 i13 i18 i19 i20 i25 i29 i30 i31 i36 i37 i38 r73 r74 r75 r76 r77 r78 r79 r80 r81 r82 r83 r84 r85 r86 r87 r88 r89 r90 r91 r92 r93 r94 r95 a2 a3 a4) := by
  refine ezw_met (k := 0) rfl rfl ?_
  refine ezw_iload_n rfl rfl ?_
  refine ezw_if_ne rfl rfl ha2 (fun h1_0 => ?_) (fun h1_0 => ?_)
  · refine ezw_aload_n rfl rfl ?_
    refine ezm_gp (p := 91) rfl (fun _ => rfl) ?_
    refine ezw_iload_n rfl rfl ?_
    refine ezw_iload_n rfl rfl ?_
    refine ezw_iload rfl rfl ?_
    refine ezw_call2_3 rfl (by omega) rfl rfl (ezm_m303b hT (by omega) ha2 ha3 ha4 (by omega)) ?_
    rintro _ _ ⟨rfl, u2, hu2, p1_0, rfl⟩
    refine ezm_l91 rfl (by omega) (by omega) (fun u3 eu3 => ?_)
    have ku3 : ezw_in u3 := eu3 ▸ hT.t91 u2
    exact ezw_ireturn rfl rfl ⟨rfl, u3, ku3, rfl⟩
  · refine ezw_aload_n rfl rfl ?_
    refine ezw_iload_n rfl rfl ?_
    refine ezw_iload rfl rfl ?_
    refine ezw_iconst (1) rfl rfl ?_
    refine ezw_call0_3 rfl (by omega) (ezm_at rfl) rfl rfl rfl rfl (ezm_m298_v0 hT (by omega) ha4 ⟨by decide, by decide⟩) ?_
    rintro _ _ ⟨rfl, u5, hu5, rfl⟩
    refine ezw_goto rfl rfl ?_
    exact ezw_ireturn rfl rfl ⟨rfl, u5, hu5, rfl⟩
def ezm_m301_v0Q (e : Bool × Bool) (F : Nat → Nat → Int) (A : Nat → Int → Int) (i0 i2 i3 i7 i8 i13 i18 i19 i20 i25 i29 i30 i31 i36 i37 i38 : Int) (r73 r74 r75 r76 r77 r78 r79 r80 r81 r82 r83 r84 r85 r86 r87 r88 r89 r90 r91 r92 r93 r94 r95 : Int → Int) (a2 : Int) (a3 : Int) : Option ezq_V → (Nat → ezq_C) → Prop := fun v g' => ezm_h e F A i0 i2 i3 i7 i8 i13 i18 i19 i20 i25 i29 i30 i31 i36 i37 i38 r73 r74 r75 r76 r77 r78 r79 r80 r81 r82 r83 r84 r85 r86 r87 r88 r89 r90 r91 r92 r93 r94 r95 = g' ∧ ∃ u : Int, (ezw_in u) ∧ some (ezw_i u) = v
theorem ezm_m301_v0 {a2 a3 : Int} (hT : ezm_T i0 i2 i3 i7 i8 i13 i18 i19 i20 i25 i29 i30 i31 i36 i37 i38 r73 r74 r75 r76 r77 r78 r79 r80 r81 r82 r83 r84 r85 r86 r87 r88 r89 r90 r91 r92 r93 r94 r95) (hd : 3 ≤ d) (ha2 : ezw_in a2) (ha3 : ezw_in a3) (ga : 1 ≤ a2 ∧ a2 ≤ 6) (gc : 0 ≤ a3 ∧ a3 ≤ 15) : ezw_C l ρ B xa Hb D cA 301 d [ezw_p 72, ezw_i (0), ezw_i a2, ezw_i a3] (ezm_h e F A i0 i2 i3 i7 i8 i13 i18 i19 i20 i25 i29 i30 i31 i36 i37 i38 r73 r74 r75 r76 r77 r78 r79 r80 r81 r82 r83 r84 r85 r86 r87 r88 r89 r90 r91 r92 r93 r94 r95) (ezm_m301_v0Q  e F A i0 i2 i3 i7 i8 i13 i18 i19 i20 i25 i29 i30 i31 i36 i37 i38 r73 r74 r75 r76 r77 r78 r79 r80 r81 r82 r83 r84 r85 r86 r87 r88 r89 r90 r91 r92 r93 r94 r95 a2 a3) := by
  refine ezw_met (k := 1) rfl rfl ?_
  refine ezw_iload_n rfl rfl ?_
  refine ezw_iconst (1) rfl rfl ?_
  have J31_2 : ∀ y1 : Int, ezw_in y1 → (0 ≤ y1 ∧ y1 ≤ 9) → ezw_E l ρ B xa Hb D cA d ezq_re301 (ezm_m301_v0Q  e F A i0 i2 i3 i7 i8 i13 i18 i19 i20 i25 i29 i30 i31 i36 i37 i38 r73 r74 r75 r76 r77 r78 r79 r80 r81 r82 r83 r84 r85 r86 r87 r88 r89 r90 r91 r92 r93 r94 r95 a2 a3) 31 [some (ezw_p 72), some (ezw_i (0)), some (ezw_i a2), some (ezw_i a3), none] [ezw_i y1] (ezm_h e F A i0 i2 i3 i7 i8 i13 i18 i19 i20 i25 i29 i30 i31 i36 i37 i38 r73 r74 r75 r76 r77 r78 r79 r80 r81 r82 r83 r84 r85 r86 r87 r88 r89 r90 r91 r92 r93 r94 r95) := by
    intro y1 hy1 v1_2
    refine ezw_istore rfl rfl ?_
    refine ezw_aload_n rfl rfl ?_
    refine ezw_iload_n rfl rfl ?_
    refine ezw_iload_n rfl rfl ?_
    refine ezw_iconst (1) rfl rfl ?_
    refine ezw_isub (k := a2 - 1) rfl (by omega) ?_
    refine ezw_iload rfl rfl ?_
    refine ezw_iload_n rfl rfl ?_
    refine ezw_call0_4 rfl (by omega) (ezm_at rfl) rfl rfl rfl rfl (ezm_m302_v0 hT (by omega) ⟨by omega, by omega⟩ hy1 ha3 (by omega) (by omega) (by omega)) ?_
    rintro _ _ ⟨rfl, u4, hu4, rfl⟩
    exact ezw_ireturn rfl rfl ⟨rfl, u4, hu4, rfl⟩
  refine ezw_icmp_ne rfl rfl ha2 ⟨by decide, by decide⟩ (fun h2_0 => ?_) (fun h2_0 => ?_)
  · refine ezw_aload_n rfl rfl ?_
    refine ezm_gp (p := 88) rfl (fun _ => rfl) ?_
    refine ezw_iload_n rfl rfl ?_
    refine ezw_bipush (7) rfl rfl ?_
    refine ezw_iadd (k := (7)) rfl (by omega) ?_
    refine ezw_aload_n rfl rfl ?_
    refine ezm_gp (p := 88) rfl (fun _ => rfl) ?_
    refine ezw_iload_n rfl rfl ?_
    refine ezw_iconst (1) rfl rfl ?_
    refine ezw_iadd (k := (1)) rfl (by omega) ?_
    refine ezw_iload_n rfl rfl ?_
    refine ezw_iadd (k := a2 + 1) rfl (by omega) ?_
    refine ezw_iconst (2) rfl rfl ?_
    refine ezw_isub (k := a2 - 1) rfl (by omega) ?_
    refine ezm_l88 rfl (by omega) (by omega) (fun u5 eu5 => ?_)
    have ku5 : ezm_k88 (a2 - 1) u5 := eu5 ▸ hT.t88 (a2 - 1)
    have zu5 := ezm_zs1 ku5 (by omega)
    refine ezw_iadd (k := u5 + 7) rfl (by omega) ?_
    refine ezm_l88 rfl (by omega) (by omega) (fun u6 eu6 => ?_)
    have ku6 : ezm_k88 (u5 + 7) u6 := eu6 ▸ hT.t88 (u5 + 7)
    have zu6 := ezm_zs7 ku6 (by omega)
    exact ezw_keepE [true, true, true, true, false] (J31_2 u6 (ezm_in88 ku6) (by omega))
  · refine ezw_iconst (0) rfl rfl ?_
    refine ezw_goto rfl rfl ?_
    exact ezw_keepE [true, true, true, true, false] (J31_2 (0) ⟨by decide, by decide⟩ (by omega))
def ezm_m300_v0Q (e : Bool × Bool) (F : Nat → Nat → Int) (A : Nat → Int → Int) (i0 i2 i3 i7 i8 i13 i18 i19 i20 i25 i29 i30 i31 i36 i37 i38 : Int) (r73 r74 r75 r76 r77 r78 r79 r80 r81 r82 r83 r84 r85 r86 r87 r88 r89 r90 r91 r92 r93 r94 r95 : Int → Int) (a2 : Int) (a3 : Int) (a4 : Int) (a5 : Int) (a6 : Int) : Option ezq_V → (Nat → ezq_C) → Prop := fun v g' => ∃  (x86 x87 : Int → Int), ezm_h e F A i0 i2 i3 i7 i8 i13 i18 i19 i20 i25 i29 i30 i31 i36 i37 i38 r73 r74 r75 r76 r77 r78 r79 r80 r81 r82 r83 r84 r85 x86 x87 r88 r89 r90 r91 r92 r93 r94 r95 = g' ∧ ezm_T i0 i2 i3 i7 i8 i13 i18 i19 i20 i25 i29 i30 i31 i36 i37 i38 r73 r74 r75 r76 r77 r78 r79 r80 r81 r82 r83 r84 r85 x86 x87 r88 r89 r90 r91 r92 r93 r94 r95 ∧ ∃ u : Int, (ezw_in u) ∧ some (ezw_i u) = v
theorem ezm_m300_v0 {a2 a3 a4 a5 a6 : Int} (hT : ezm_T i0 i2 i3 i7 i8 i13 i18 i19 i20 i25 i29 i30 i31 i36 i37 i38 r73 r74 r75 r76 r77 r78 r79 r80 r81 r82 r83 r84 r85 r86 r87 r88 r89 r90 r91 r92 r93 r94 r95) (hd : 4 ≤ d) (ha2 : ezw_in a2) (ha3 : ezw_in a3) (ha4 : ezw_in a4) (ha5 : ezw_in a5) (ha6 : ezw_in a6) (ga : 1 ≤ a2 ∧ a2 ≤ 6) (gb : 0 ≤ a3 ∧ a3 ≤ 9) (gc : 0 ≤ a4 ∧ a4 ≤ 15) (gd : 0 ≤ a6 ∧ a6 ≤ 1) (tr : ezm_TR r78 r79 r80) : ezw_C l ρ B xa Hb D cA 300 d [ezw_p 72, ezw_i (0), ezw_i a2, ezw_i a3, ezw_i a4, ezw_i a5, ezw_i a6] (ezm_h e F A i0 i2 i3 i7 i8 i13 i18 i19 i20 i25 i29 i30 i31 i36 i37 i38 r73 r74 r75 r76 r77 r78 r79 r80 r81 r82 r83 r84 r85 r86 r87 r88 r89 r90 r91 r92 r93 r94 r95) (ezm_m300_v0Q  e F A i0 i2 i3 i7 i8 i13 i18 i19 i20 i25 i29 i30 i31 i36 i37 i38 r73 r74 r75 r76 r77 r78 r79 r80 r81 r82 r83 r84 r85 r86 r87 r88 r89 r90 r91 r92 r93 r94 r95 a2 a3 a4 a5 a6) := by
  refine ezw_met (k := 6) rfl rfl ?_
  refine ezw_aload_n rfl rfl ?_
  refine ezm_gp (p := 88) rfl (fun _ => rfl) ?_
  refine ezw_iload_n rfl rfl ?_
  refine ezw_iconst (1) rfl rfl ?_
  refine ezw_iadd (k := (1)) rfl (by omega) ?_
  refine ezw_iload_n rfl rfl ?_
  refine ezw_iadd (k := a2 + 1) rfl (by omega) ?_
  refine ezw_iconst (1) rfl rfl ?_
  refine ezw_isub (k := a2) rfl (by omega) ?_
  refine ezm_l88 rfl (by omega) (by omega) (fun u1 eu1 => ?_)
  have ku1 : ezm_k88 a2 u1 := eu1 ▸ hT.t88 a2
  have zu1 := ezm_z07 ku1 (by omega)
  refine ezw_istore rfl rfl ?_
  refine ezw_aload_n rfl rfl ?_
  refine ezw_iconst (0) rfl rfl ?_
  refine ezw_iload rfl rfl ?_
  refine ezw_iload_n rfl rfl ?_
  refine ezw_iload rfl rfl ?_
  refine ezw_iload rfl rfl ?_
  refine ezw_call0_5 rfl (by omega) (ezm_at rfl) rfl rfl rfl rfl (ezm_m269_v0 hT (by omega) (ezm_in88 ku1) ha3 ha5 ha6 (by omega) tr) ?_
  rintro _ _ ⟨x86_2, x87_2, rfl, hT, u3, hu3, p2_0, rfl⟩
  refine ezw_istore rfl rfl ?_
  refine ezw_aload_n rfl rfl ?_
  refine ezw_iconst (1) rfl rfl ?_
  refine ezw_iload rfl rfl ?_
  refine ezw_iload_n rfl rfl ?_
  refine ezw_iload rfl rfl ?_
  refine ezw_iload rfl rfl ?_
  refine ezw_call0_5 rfl (by omega) (ezm_at rfl) rfl rfl rfl rfl (ezm_m269_v1 hT (by omega) (ezm_in88 ku1) ha3 ha5 ha6 (by omega) tr) ?_
  rintro _ _ ⟨x86_4, x87_4, rfl, hT, u5, hu5, p4_0, rfl⟩
  refine ezw_istore rfl rfl ?_
  refine ezw_iload_n rfl rfl ?_
  refine ezw_iconst (1) rfl rfl ?_
  refine ezw_iadd (k := a3 + 1) rfl (by omega) ?_
  refine ezw_iload rfl rfl ?_
  refine ezw_iadd (k := a3 + a6 + 1) rfl (by omega) ?_
  refine ezw_bipush (9) rfl rfl ?_
  have J64_7 : ∀ y6 : Int, ezw_in y6 → (0 ≤ y6 ∧ y6 ≤ 9) → ezw_E l ρ B xa Hb D cA d ezq_re300 (ezm_m300_v0Q  e F A i0 i2 i3 i7 i8 i13 i18 i19 i20 i25 i29 i30 i31 i36 i37 i38 r73 r74 r75 r76 r77 r78 r79 r80 r81 r82 r83 r84 r85 r86 r87 r88 r89 r90 r91 r92 r93 r94 r95 a2 a3 a4 a5 a6) 64 [some (ezw_p 72), some (ezw_i (0)), some (ezw_i a2), some (ezw_i a3), some (ezw_i a4), some (ezw_i a5), some (ezw_i a6), some (ezw_i u1), some (ezw_i u3), some (ezw_i u5), none, none, none] [ezw_i y6] (ezm_h e F A i0 i2 i3 i7 i8 i13 i18 i19 i20 i25 i29 i30 i31 i36 i37 i38 r73 r74 r75 r76 r77 r78 r79 r80 r81 r82 r83 r84 r85 x86_4 x87_4 r88 r89 r90 r91 r92 r93 r94 r95) := by
    intro y6 hy6 v1_7
    refine ezw_istore rfl rfl ?_
    refine ezw_ldc2_w (10) rfl rfl ?_
    refine ezw_iload rfl rfl ?_
    refine ezw_i2l rfl hu3 rfl ?_
    refine ezs_lmul rfl (fun u8 hu8 => ?_)
    refine ezw_aload_n rfl rfl ?_
    refine ezw_iload_n rfl rfl ?_
    refine ezw_iload_n rfl rfl ?_
    refine ezw_iload rfl rfl ?_
    refine ezw_call0_3 rfl (by omega) (ezm_at rfl) rfl rfl rfl rfl (ezm_m301_v0 hT (by omega) ha2 ha4 (by omega) (by omega)) ?_
    rintro _ _ ⟨rfl, u10, hu10, rfl⟩
    refine ezw_i2l rfl hu10 rfl ?_
    refine ezs_lmul rfl (fun u11 hu11 => ?_)
    refine ezw_bipush (10) rfl rfl ?_
    refine ezw_iload rfl rfl ?_
    refine ezw_isub (k := -u3 + 10) rfl (by omega) ?_
    refine ezw_i2l rfl ⟨by omega, by omega⟩ rfl ?_
    refine ezw_iload rfl rfl ?_
    refine ezw_i2l rfl hu5 rfl ?_
    refine ezs_lmul rfl (fun u12 hu12 => ?_)
    refine ezw_aload_n rfl rfl ?_
    refine ezw_iload_n rfl rfl ?_
    refine ezw_iload rfl rfl ?_
    refine ezw_iconst (0) rfl rfl ?_
    refine ezw_call0_3 rfl (by omega) (ezm_at rfl) rfl rfl rfl rfl (ezm_m298_v0 hT (by omega) ha4 ⟨by decide, by decide⟩) ?_
    rintro _ _ ⟨rfl, u14, hu14, rfl⟩
    refine ezw_i2l rfl hu14 rfl ?_
    refine ezs_lmul rfl (fun u15 hu15 => ?_)
    refine ezs_ladd rfl (fun u16 hu16 => ?_)
    refine ezw_bipush (10) rfl rfl ?_
    refine ezw_iload rfl rfl ?_
    refine ezw_isub (k := -u3 + 10) rfl (by omega) ?_
    refine ezw_i2l rfl ⟨by omega, by omega⟩ rfl ?_
    refine ezw_bipush (10) rfl rfl ?_
    refine ezw_iload rfl rfl ?_
    refine ezw_isub (k := -u5 + 10) rfl (by omega) ?_
    refine ezw_i2l rfl ⟨by omega, by omega⟩ rfl ?_
    refine ezs_lmul rfl (fun u17 hu17 => ?_)
    refine ezw_aload_n rfl rfl ?_
    refine ezw_iload_n rfl rfl ?_
    refine ezw_iload_n rfl rfl ?_
    refine ezw_iload rfl rfl ?_
    refine ezw_iload rfl rfl ?_
    refine ezw_call0_4 rfl (by omega) (ezm_at rfl) rfl rfl rfl rfl (ezm_m302_v0 hT (by omega) ha2 hy6 ha4 (by omega) (by omega) (by omega)) ?_
    rintro _ _ ⟨rfl, u19, hu19, rfl⟩
    refine ezw_i2l rfl hu19 rfl ?_
    refine ezs_lmul rfl (fun u20 hu20 => ?_)
    refine ezs_ladd rfl (fun u21 hu21 => ?_)
    refine ezw_lstore rfl rfl ?_
    refine ezw_lload rfl rfl ?_
    refine ezw_ldc2_w (100) rfl rfl ?_
    refine ezs_ldiv rfl hu21 ⟨by decide, by decide⟩ (by omega) (fun u22 hu22 => ?_)
    refine ezs_l2i rfl (fun u23 hu23 => ?_)
    exact ezw_ireturn rfl rfl ⟨x86_4, x87_4, rfl, hT, u23, hu23, rfl⟩
  refine ezw_icmp_le rfl rfl ⟨by omega, by omega⟩ ⟨by decide, by decide⟩ (fun h50_5 => ?_) (fun h50_5 => ?_)
  · refine ezw_iload_n rfl rfl ?_
    refine ezw_iconst (1) rfl rfl ?_
    refine ezw_iadd (k := a3 + 1) rfl (by omega) ?_
    refine ezw_iload rfl rfl ?_
    refine ezw_iadd (k := a3 + a6 + 1) rfl (by omega) ?_
    exact ezw_keepE [true, true, true, true, true, true, true, true, true, true, false, false, false] (J64_7 (a3 + a6 + 1) ⟨by omega, by omega⟩ (by omega))
  · refine ezw_bipush (9) rfl rfl ?_
    refine ezw_goto rfl rfl ?_
    exact ezw_keepE [true, true, true, true, true, true, true, true, true, true, false, false, false] (J64_7 (9) ⟨by decide, by decide⟩ (by omega))
def ezm_m305_v0Q (e : Bool × Bool) (F : Nat → Nat → Int) (A : Nat → Int → Int) (i0 i2 i3 i7 i8 i13 i18 i19 i20 i25 i29 i30 i31 i36 i37 i38 : Int) (r73 r74 r75 r76 r77 r78 r79 r80 r81 r82 r83 r84 r85 r86 r87 r88 r89 r90 r91 r92 r93 r94 r95 : Int → Int) (a2 : Int) (a3 : Int) (a4 : Int) (a5 : Int) : Option ezq_V → (Nat → ezq_C) → Prop := fun v g' => ezm_h e F A i0 i2 i3 i7 i8 i13 i18 i19 i20 i25 i29 i30 i31 i36 i37 i38 r73 r74 r75 r76 r77 r78 r79 r80 r81 r82 r83 r84 r85 r86 r87 r88 r89 r90 r91 r92 r93 r94 r95 = g' ∧ ∃ u : Int, (ezw_in u) ∧ some (ezw_i u) = v
theorem ezm_m305_v0 {a2 a3 a4 a5 : Int} (hT : ezm_T i0 i2 i3 i7 i8 i13 i18 i19 i20 i25 i29 i30 i31 i36 i37 i38 r73 r74 r75 r76 r77 r78 r79 r80 r81 r82 r83 r84 r85 r86 r87 r88 r89 r90 r91 r92 r93 r94 r95) (hd : 4 ≤ d) (ha2 : ezw_in a2) (ha3 : ezw_in a3) (ha4 : ezw_in a4) (ha5 : ezw_in a5) (ga : 1 ≤ a2 ∧ a2 ≤ 6) (gb : 0 ≤ a3 ∧ a3 ≤ 9) (gc : 0 ≤ a4 ∧ a4 ≤ 15) (gd : 0 ≤ a5 ∧ a5 ≤ 3) : ezw_C l ρ B xa Hb D cA 305 d [ezw_p 72, ezw_i (0), ezw_i a2, ezw_i a3, ezw_i a4, ezw_i a5] (ezm_h e F A i0 i2 i3 i7 i8 i13 i18 i19 i20 i25 i29 i30 i31 i36 i37 i38 r73 r74 r75 r76 r77 r78 r79 r80 r81 r82 r83 r84 r85 r86 r87 r88 r89 r90 r91 r92 r93 r94 r95) (ezm_m305_v0Q  e F A i0 i2 i3 i7 i8 i13 i18 i19 i20 i25 i29 i30 i31 i36 i37 i38 r73 r74 r75 r76 r77 r78 r79 r80 r81 r82 r83 r84 r85 r86 r87 r88 r89 r90 r91 r92 r93 r94 r95 a2 a3 a4 a5) := by
  refine ezw_met (k := 4) rfl rfl ?_
  refine ezw_aload_n rfl rfl ?_
  refine ezw_iload rfl rfl ?_
  refine ezw_iconst (1) rfl rfl ?_
  refine ezw_call0_2 rfl (by omega) (ezm_at rfl) rfl rfl rfl rfl (ezm_m263 hT (by omega) ha5 ⟨by decide, by decide⟩ (by omega) (by omega)) ?_
  rintro _ _ ⟨rfl, u2, hu2, rfl⟩
  refine ezw_istore rfl rfl ?_
  refine ezw_aload_n rfl rfl ?_
  refine ezw_iload rfl rfl ?_
  refine ezw_iconst (2) rfl rfl ?_
  refine ezw_call0_2 rfl (by omega) (ezm_at rfl) rfl rfl rfl rfl (ezm_m263 hT (by omega) ha5 ⟨by decide, by decide⟩ (by omega) (by omega)) ?_
  rintro _ _ ⟨rfl, u4, hu4, rfl⟩
  refine ezw_istore rfl rfl ?_
  refine ezw_bipush (10) rfl rfl ?_
  refine ezw_iload rfl rfl ?_
  refine ezs_isub rfl (fun u5 hu5 => ?_)
  refine ezw_iload rfl rfl ?_
  refine ezs_isub rfl (fun u6 hu6 => ?_)
  refine ezw_i2l rfl hu6 rfl ?_
  refine ezw_aload_n rfl rfl ?_
  refine ezw_iload_n rfl rfl ?_
  refine ezw_iload_n rfl rfl ?_
  refine ezw_iload_n rfl rfl ?_
  refine ezw_iload rfl rfl ?_
  refine ezw_call0_4 rfl (by omega) (ezm_at rfl) rfl rfl rfl rfl (ezm_m302_v0 hT (by omega) ha2 ha3 ha4 (by omega) (by omega) (by omega)) ?_
  rintro _ _ ⟨rfl, u8, hu8, rfl⟩
  refine ezw_i2l rfl hu8 rfl ?_
  refine ezs_lmul rfl (fun u9 hu9 => ?_)
  refine ezw_iload rfl rfl ?_
  refine ezw_i2l rfl hu2 rfl ?_
  refine ezw_aload_n rfl rfl ?_
  refine ezw_iload_n rfl rfl ?_
  refine ezw_iload_n rfl rfl ?_
  refine ezw_iload_n rfl rfl ?_
  refine ezw_iload rfl rfl ?_
  refine ezw_iconst (1) rfl rfl ?_
  refine ezw_iload rfl rfl ?_
  refine ezm_ishl1 rfl (by omega) (by omega) (fun u10 hu10 ku10 => ?_)
  refine ezw_iconst (-1) rfl rfl ?_
  refine ezs_ixor rfl (fun u11 hu11 => ?_)
  refine ezm_iand rfl (fun u12 hu12 ku12 => ?_)
  refine ezw_call0_4 rfl (by omega) (ezm_at rfl) rfl rfl rfl rfl (ezm_m302_v0 hT (by omega) ha2 ha3 hu12 (by omega) (by omega) (by omega)) ?_
  rintro _ _ ⟨rfl, u14, hu14, rfl⟩
  refine ezw_i2l rfl hu14 rfl ?_
  refine ezs_lmul rfl (fun u15 hu15 => ?_)
  refine ezs_ladd rfl (fun u16 hu16 => ?_)
  refine ezw_iload rfl rfl ?_
  refine ezw_i2l rfl hu4 rfl ?_
  refine ezw_aload_n rfl rfl ?_
  refine ezw_iload_n rfl rfl ?_
  refine ezw_iload_n rfl rfl ?_
  refine ezw_iload rfl rfl ?_
  refine ezw_call0_3 rfl (by omega) (ezm_at rfl) rfl rfl rfl rfl (ezm_m301_v0 hT (by omega) ha2 ha4 (by omega) (by omega)) ?_
  rintro _ _ ⟨rfl, u18, hu18, rfl⟩
  refine ezw_i2l rfl hu18 rfl ?_
  refine ezs_lmul rfl (fun u19 hu19 => ?_)
  refine ezs_ladd rfl (fun u20 hu20 => ?_)
  refine ezw_lstore rfl rfl ?_
  refine ezw_lload rfl rfl ?_
  refine ezw_ldc2_w (10) rfl rfl ?_
  refine ezs_ldiv rfl hu20 ⟨by decide, by decide⟩ (by omega) (fun u21 hu21 => ?_)
  refine ezs_l2i rfl (fun u22 hu22 => ?_)
  exact ezw_ireturn rfl rfl ⟨rfl, u22, hu22, rfl⟩
def ezm_m304Q (e : Bool × Bool) (F : Nat → Nat → Int) (A : Nat → Int → Int) (i0 i2 i3 i7 i8 i13 i18 i19 i20 i25 i29 i30 i31 i36 i37 i38 : Int) (r73 r74 r75 r76 r77 r78 r79 r80 r81 r82 r83 r84 r85 r86 r87 r88 r89 r90 r91 r92 r93 r94 r95 : Int → Int) (a1 : Int) (a2 : Int) : Option ezq_V → (Nat → ezq_C) → Prop := fun v g' => ∃ (x29 x30 : Int), ezm_h e F A i0 i2 i3 i7 i8 i13 i18 i19 i20 i25 x29 x30 i31 i36 i37 i38 r73 r74 r75 r76 r77 r78 r79 r80 r81 r82 r83 r84 r85 r86 r87 r88 r89 r90 r91 r92 r93 r94 r95 = g' ∧ ezm_T i0 i2 i3 i7 i8 i13 i18 i19 i20 i25 x29 x30 i31 i36 i37 i38 r73 r74 r75 r76 r77 r78 r79 r80 r81 r82 r83 r84 r85 r86 r87 r88 r89 r90 r91 r92 r93 r94 r95 ∧ (x29 = i29 ∨ x29 = a2) ∧ none = v
theorem ezm_m304 {a1 a2 : Int} (hT : ezm_T i0 i2 i3 i7 i8 i13 i18 i19 i20 i25 i29 i30 i31 i36 i37 i38 r73 r74 r75 r76 r77 r78 r79 r80 r81 r82 r83 r84 r85 r86 r87 r88 r89 r90 r91 r92 r93 r94 r95) (hd : 0 ≤ d) (ha1 : ezw_in a1) (ha2 : ezw_in a2) (ga : 0 ≤ a2 ∧ a2 ≤ 14) : ezw_C l ρ B xa Hb D cA 304 d [ezw_p 72, ezw_i a1, ezw_i a2] (ezm_h e F A i0 i2 i3 i7 i8 i13 i18 i19 i20 i25 i29 i30 i31 i36 i37 i38 r73 r74 r75 r76 r77 r78 r79 r80 r81 r82 r83 r84 r85 r86 r87 r88 r89 r90 r91 r92 r93 r94 r95) (ezm_m304Q  e F A i0 i2 i3 i7 i8 i13 i18 i19 i20 i25 i29 i30 i31 i36 i37 i38 r73 r74 r75 r76 r77 r78 r79 r80 r81 r82 r83 r84 r85 r86 r87 r88 r89 r90 r91 r92 r93 r94 r95 a1 a2) := by
  refine ezw_met (k := 0) rfl rfl ?_
  refine ezw_iload_n rfl rfl ?_
  refine ezw_aload_n rfl rfl ?_
  refine ezm_g30 rfl ?_
  have k1 := hT.t30
  refine ezw_icmp_le rfl rfl ha1 hT.t30 (fun h5_1 => ?_) (fun h5_1 => ?_)
  · exact ezw_return rfl rfl ⟨i29, i30, rfl, hT, by omega, rfl⟩
  · refine ezw_aload_n rfl rfl ?_
    refine ezw_iload_n rfl rfl ?_
    refine ezm_p30 hT rfl ha1 (fun hT => ?_)
    refine ezw_aload_n rfl rfl ?_
    refine ezw_iload_n rfl rfl ?_
    refine ezm_p29 hT rfl ⟨by omega, by omega⟩ (fun hT => ?_)
    exact ezw_return rfl rfl ⟨a2, a1, rfl, hT, by omega, rfl⟩
def ezm_m299_v0Q (e : Bool × Bool) (F : Nat → Nat → Int) (A : Nat → Int → Int) (i0 i2 i3 i7 i8 i13 i18 i19 i20 i25 i29 i30 i31 i36 i37 i38 : Int) (r73 r74 r75 r76 r77 r78 r79 r80 r81 r82 r83 r84 r85 r86 r87 r88 r89 r90 r91 r92 r93 r94 r95 : Int → Int) (a2 : Int) (a3 : Int) (a4 : Int) : Option ezq_V → (Nat → ezq_C) → Prop := fun v g' => ∃ (x29 x30 : Int) (x86 x87 : Int → Int), ezm_h e F A i0 i2 i3 i7 i8 i13 i18 i19 i20 i25 x29 x30 i31 i36 i37 i38 r73 r74 r75 r76 r77 r78 r79 r80 r81 r82 r83 r84 r85 x86 x87 r88 r89 r90 r91 r92 r93 r94 r95 = g' ∧ ezm_T i0 i2 i3 i7 i8 i13 i18 i19 i20 i25 x29 x30 i31 i36 i37 i38 r73 r74 r75 r76 r77 r78 r79 r80 r81 r82 r83 r84 r85 x86 x87 r88 r89 r90 r91 r92 r93 r94 r95 ∧ ∃ u : Int, (ezw_in u) ∧ (x29 = 9 → 0 < a3) ∧ some (ezw_i u) = v
theorem ezm_m299_v0 {a2 a3 a4 : Int} (hT : ezm_T i0 i2 i3 i7 i8 i13 i18 i19 i20 i25 i29 i30 i31 i36 i37 i38 r73 r74 r75 r76 r77 r78 r79 r80 r81 r82 r83 r84 r85 r86 r87 r88 r89 r90 r91 r92 r93 r94 r95) (hd : 5 ≤ d) (ha2 : ezw_in a2) (ha3 : ezw_in a3) (ha4 : ezw_in a4) (ga : 1 ≤ a2 ∧ a2 ≤ 6) (gb : 0 ≤ a3 ∧ a3 ≤ 9) (gc : 0 ≤ a4 ∧ a4 ≤ 15) (tr : ezm_TR r78 r79 r80) : ezw_C l ρ B xa Hb D cA 299 d [ezw_p 72, ezw_i (0), ezw_i a2, ezw_i a3, ezw_i a4] (ezm_h e F A i0 i2 i3 i7 i8 i13 i18 i19 i20 i25 i29 i30 i31 i36 i37 i38 r73 r74 r75 r76 r77 r78 r79 r80 r81 r82 r83 r84 r85 r86 r87 r88 r89 r90 r91 r92 r93 r94 r95) (ezm_m299_v0Q  e F A i0 i2 i3 i7 i8 i13 i18 i19 i20 i25 i29 i30 i31 i36 i37 i38 r73 r74 r75 r76 r77 r78 r79 r80 r81 r82 r83 r84 r85 r86 r87 r88 r89 r90 r91 r92 r93 r94 r95 a2 a3 a4) := by
  refine ezw_met (k := 1) rfl rfl ?_
  refine ezw_aload_n rfl rfl ?_
  refine ezw_aload_n rfl rfl ?_
  refine ezw_iload_n rfl rfl ?_
  refine ezw_iload rfl rfl ?_
  refine ezw_iconst (0) rfl rfl ?_
  refine ezw_call0_3 rfl (by omega) (ezm_at rfl) rfl rfl rfl rfl (ezm_m298_v0 hT (by omega) ha4 ⟨by decide, by decide⟩) ?_
  rintro _ _ ⟨rfl, u2, hu2, rfl⟩
  refine ezm_p30 hT rfl hu2 (fun hT => ?_)
  refine ezw_aload_n rfl rfl ?_
  refine ezw_iconst (0) rfl rfl ?_
  refine ezm_p29 hT rfl ⟨by omega, by omega⟩ (fun hT => ?_)
  refine ezw_iconst (0) rfl rfl ?_
  refine ezw_istore rfl rfl ?_
  have L20_4 : ∀ c3 : Int, ezw_in c3 → ∀ x29_4 : Int, ∀ x30_4 : Int, ∀ x86_4 : Int → Int, ∀ x87_4 : Int → Int, ezm_T i0 i2 i3 i7 i8 i13 i18 i19 i20 i25 x29_4 x30_4 i31 i36 i37 i38 r73 r74 r75 r76 r77 r78 r79 r80 r81 r82 r83 r84 r85 x86_4 x87_4 r88 r89 r90 r91 r92 r93 r94 r95 → ((0) ≤ c3) → (x29_4 ≤ 8) → ezw_E l ρ B xa Hb D cA d ezq_re299 (ezm_m299_v0Q  e F A i0 i2 i3 i7 i8 i13 i18 i19 i20 i25 i29 i30 i31 i36 i37 i38 r73 r74 r75 r76 r77 r78 r79 r80 r81 r82 r83 r84 r85 r86 r87 r88 r89 r90 r91 r92 r93 r94 r95 a2 a3 a4) 20 [some (ezw_p 72), some (ezw_i (0)), some (ezw_i a2), some (ezw_i a3), some (ezw_i a4), some (ezw_i c3)] [] (ezm_h e F A i0 i2 i3 i7 i8 i13 i18 i19 i20 i25 x29_4 x30_4 i31 i36 i37 i38 r73 r74 r75 r76 r77 r78 r79 r80 r81 r82 r83 r84 r85 x86_4 x87_4 r88 r89 r90 r91 r92 r93 r94 r95) := by
    refine ezs_up ?_
    intro c3 hc3 ihc3 x29_4 x30_4 x86_4 x87_4 hT g_4 v1_4
    have k5 := hT.t29
    have k6 := hT.t30
    refine ezw_iload rfl rfl ?_
    refine ezw_bipush (8) rfl rfl ?_
    refine ezw_icmp_ge rfl rfl hc3 ⟨by decide, by decide⟩ (fun h24_6 => ?_) (fun h24_6 => ?_)
    · refine ezw_iload_n rfl rfl ?_
      have J79_7 : ∀ x29_7 : Int, ∀ x30_7 : Int, ezm_T i0 i2 i3 i7 i8 i13 i18 i19 i20 i25 x29_7 x30_7 i31 i36 i37 i38 r73 r74 r75 r76 r77 r78 r79 r80 r81 r82 r83 r84 r85 x86_4 x87_4 r88 r89 r90 r91 r92 r93 r94 r95 → (x29_7 = 9 → 0 < a3) → ezw_E l ρ B xa Hb D cA d ezq_re299 (ezm_m299_v0Q  e F A i0 i2 i3 i7 i8 i13 i18 i19 i20 i25 i29 i30 i31 i36 i37 i38 r73 r74 r75 r76 r77 r78 r79 r80 r81 r82 r83 r84 r85 r86 r87 r88 r89 r90 r91 r92 r93 r94 r95 a2 a3 a4) 79 [some (ezw_p 72), some (ezw_i (0)), some (ezw_i a2), some (ezw_i a3), some (ezw_i a4), some (ezw_i c3)] [] (ezm_h e F A i0 i2 i3 i7 i8 i13 i18 i19 i20 i25 x29_7 x30_7 i31 i36 i37 i38 r73 r74 r75 r76 r77 r78 r79 r80 r81 r82 r83 r84 r85 x86_4 x87_4 r88 r89 r90 r91 r92 r93 r94 r95) := by
        intro x29_7 x30_7 hT nz_7
        refine ezw_iload_n rfl rfl ?_
        have J174_8 : ∀ x29_8 : Int, ∀ x30_8 : Int, ezm_T i0 i2 i3 i7 i8 i13 i18 i19 i20 i25 x29_8 x30_8 i31 i36 i37 i38 r73 r74 r75 r76 r77 r78 r79 r80 r81 r82 r83 r84 r85 x86_4 x87_4 r88 r89 r90 r91 r92 r93 r94 r95 → (x29_8 = 9 → 0 < a3) → ezw_E l ρ B xa Hb D cA d ezq_re299 (ezm_m299_v0Q  e F A i0 i2 i3 i7 i8 i13 i18 i19 i20 i25 i29 i30 i31 i36 i37 i38 r73 r74 r75 r76 r77 r78 r79 r80 r81 r82 r83 r84 r85 r86 r87 r88 r89 r90 r91 r92 r93 r94 r95 a2 a3 a4) 174 [some (ezw_p 72), some (ezw_i (0)), some (ezw_i a2), some (ezw_i a3), some (ezw_i a4), some (ezw_i c3)] [] (ezm_h e F A i0 i2 i3 i7 i8 i13 i18 i19 i20 i25 x29_8 x30_8 i31 i36 i37 i38 r73 r74 r75 r76 r77 r78 r79 r80 r81 r82 r83 r84 r85 x86_4 x87_4 r88 r89 r90 r91 r92 r93 r94 r95) := by
          intro x29_8 x30_8 hT nz_8
          refine ezw_iconst (0) rfl rfl ?_
          refine ezw_istore rfl rfl ?_
          have L177_10 : ∀ c9 : Int, ezw_in c9 → ∀ x29_10 : Int, ∀ x30_10 : Int, ezm_T i0 i2 i3 i7 i8 i13 i18 i19 i20 i25 x29_10 x30_10 i31 i36 i37 i38 r73 r74 r75 r76 r77 r78 r79 r80 r81 r82 r83 r84 r85 x86_4 x87_4 r88 r89 r90 r91 r92 r93 r94 r95 → ((0) ≤ c9) → (x29_10 = 9 → 0 < a3) → ezw_E l ρ B xa Hb D cA d ezq_re299 (ezm_m299_v0Q  e F A i0 i2 i3 i7 i8 i13 i18 i19 i20 i25 i29 i30 i31 i36 i37 i38 r73 r74 r75 r76 r77 r78 r79 r80 r81 r82 r83 r84 r85 r86 r87 r88 r89 r90 r91 r92 r93 r94 r95 a2 a3 a4) 177 [some (ezw_p 72), some (ezw_i (0)), some (ezw_i a2), some (ezw_i a3), some (ezw_i a4), some (ezw_i c9)] [] (ezm_h e F A i0 i2 i3 i7 i8 i13 i18 i19 i20 i25 x29_10 x30_10 i31 i36 i37 i38 r73 r74 r75 r76 r77 r78 r79 r80 r81 r82 r83 r84 r85 x86_4 x87_4 r88 r89 r90 r91 r92 r93 r94 r95) := by
            refine ezs_up ?_
            intro c9 hc9 ihc9 x29_10 x30_10 hT g_10 v1_10
            have k11 := hT.t29
            have k12 := hT.t30
            refine ezw_iload rfl rfl ?_
            refine ezw_aload_n rfl rfl ?_
            refine ezw_call0_0 rfl (by omega) (ezm_at rfl) rfl rfl rfl rfl (ezm_m216 hT (by omega)) ?_
            rintro _ _ ⟨rfl, u14, hu14, p13_0, p13_1, rfl⟩
            refine ezw_icmp_ge rfl rfl hc9 hu14 (fun h183_14 => ?_) (fun h183_14 => ?_)
            · refine ezw_aload_n rfl rfl ?_
              refine ezm_g30 rfl ?_
              exact ezw_ireturn rfl rfl ⟨x29_10, x30_10, x86_4, x87_4, rfl, hT, x30_10, hT.t30, by omega, rfl⟩
            · refine ezw_iload rfl rfl ?_
              refine ezw_iload rfl rfl ?_
              refine ezw_ishrO rfl (fun u15 hu15 => ?_)
              refine ezw_iconst (1) rfl rfl ?_
              refine ezm_iand rfl (fun u16 hu16 ku16 => ?_)
              refine ezw_iconst (1) rfl rfl ?_
              refine ezw_icmp_ne rfl rfl hu16 ⟨by decide, by decide⟩ (fun h194_16 => ?_) (fun h194_16 => ?_)
              · refine ezw_iinc (k := c9 + 1) (1) rfl rfl rfl (by omega) rfl ?_
                refine ezw_goto rfl rfl ?_
                exact ezw_keepE [true, true, true, true, true, true] (ihc9 (c9 + 1) (by omega) ⟨by omega, by omega⟩ x29_10 x30_10 hT (by omega) (by omega))
              · refine ezw_aload_n rfl rfl ?_
                refine ezw_aload_n rfl rfl ?_
                refine ezw_iload_n rfl rfl ?_
                refine ezw_iload_n rfl rfl ?_
                refine ezw_iload_n rfl rfl ?_
                refine ezw_iload rfl rfl ?_
                refine ezw_iload rfl rfl ?_
                refine ezw_call0_5 rfl (by omega) (ezm_at rfl) rfl rfl rfl rfl (ezm_m305_v0 hT (by omega) ha2 ha3 ha4 hc9 (by omega) (by omega) (by omega) (by omega)) ?_
                rintro _ _ ⟨rfl, u18, hu18, rfl⟩
                refine ezw_bipush (11) rfl rfl ?_
                refine ezw_iload rfl rfl ?_
                refine ezw_iadd (k := c9 + 11) rfl (by omega) ?_
                refine ezw_call0_2 rfl (by omega) (ezm_at rfl) rfl rfl rfl rfl (ezm_m304 hT (by omega) hu18 ⟨by omega, by omega⟩ (by omega)) ?_
                rintro _ _ ⟨x29_19, x30_19, rfl, hT, p19_0, rfl⟩
                have k20 := hT.t29
                have k21 := hT.t30
                refine ezw_iinc (k := c9 + 1) (1) rfl rfl rfl (by omega) rfl ?_
                refine ezw_goto rfl rfl ?_
                exact ezw_keepE [true, true, true, true, true, true] (ihc9 (c9 + 1) (by omega) ⟨by omega, by omega⟩ x29_19 x30_19 hT (by omega) (by omega))
          exact ezw_keepE [true, true, true, true, true, true] (L177_10 (0) ⟨by decide, by decide⟩ x29_8 x30_8 hT (by omega) (by omega))
        refine ezw_if_ne rfl rfl ha3 (fun h80_7 => ?_) (fun h80_7 => ?_)
        · exact ezw_keepE [true, true, true, true, true, true] (J174_8 x29_7 x30_7 hT (by omega))
        · refine ezw_aload_n rfl rfl ?_
          refine ezm_gp (p := 78) rfl (fun _ => rfl) ?_
          refine ezw_bipush (9) rfl rfl ?_
          refine ezm_l78 rfl (by omega) (by omega) (fun u22 eu22 => ?_)
          have ku22 : ezm_k78 (9) u22 := eu22 ▸ hT.t78 (9)
          refine ezw_if_le rfl rfl (ezm_in78 ku22) (fun h90_22 => ?_) (fun h90_22 => ?_)
          · exact ezw_keepE [true, true, true, true, true, true] (J174_8 x29_7 x30_7 hT (by omega))
          · refine ezw_aload_n rfl rfl ?_
            refine ezm_gp (p := 88) rfl (fun _ => rfl) ?_
            refine ezw_iload_n rfl rfl ?_
            refine ezw_bipush (16) rfl rfl ?_
            refine ezw_iadd (k := (16)) rfl (by omega) ?_
            refine ezm_l88 rfl (by omega) (by omega) (fun u23 eu23 => ?_)
            have ku23 : ezm_k88 (16) u23 := eu23 ▸ hT.t88 (16)
            refine ezw_aload_n rfl rfl ?_
            refine ezw_aload_n rfl rfl ?_
            refine ezm_gp (p := 88) rfl (fun _ => rfl) ?_
            refine ezw_iload_n rfl rfl ?_
            refine ezw_iconst (1) rfl rfl ?_
            refine ezw_iadd (k := (1)) rfl (by omega) ?_
            refine ezw_iload_n rfl rfl ?_
            refine ezw_iadd (k := a2 + 1) rfl (by omega) ?_
            refine ezw_iconst (1) rfl rfl ?_
            refine ezw_isub (k := a2) rfl (by omega) ?_
            refine ezm_l88 rfl (by omega) (by omega) (fun u24 eu24 => ?_)
            have ku24 : ezm_k88 a2 u24 := eu24 ▸ hT.t88 a2
            have zu24 := ezm_z07 ku24 (by omega)
            refine ezw_iconst (2) rfl rfl ?_
            refine ezw_call0_2 rfl (by omega) (ezm_at rfl) rfl rfl rfl rfl (ezm_m259_v2 hT (by omega) (ezm_in88 ku24) (by omega)) ?_
            rintro _ _ ⟨rfl, u26, hu26, tw_25, rfl⟩
            refine ezw_icmp_ne rfl rfl (ezm_in88 ku23) hu26 (fun h119_26 => ?_) (fun h119_26 => ?_)
            · exact ezw_keepE [true, true, true, true, true, true] (J174_8 x29_7 x30_7 hT (by omega))
            · refine ezw_aload_n rfl rfl ?_
              refine ezw_aload_n rfl rfl ?_
              refine ezm_gp (p := 78) rfl (fun _ => rfl) ?_
              refine ezw_bipush (9) rfl rfl ?_
              refine ezm_l78 rfl (by omega) (by omega) (fun u27 eu27 => ?_)
              have fu27 : u22 = u27 := eu22.trans eu27.symm
              subst fu27
              refine ezw_i2l rfl (ezm_in78 ku22) rfl ?_
              refine ezw_aload_n rfl rfl ?_
              refine ezw_iload_n rfl rfl ?_
              refine ezw_iload_n rfl rfl ?_
              refine ezw_iload rfl rfl ?_
              refine ezw_call0_3 rfl (by omega) (ezm_at rfl) rfl rfl rfl rfl (ezm_m301_v0 hT (by omega) ha2 ha4 (by omega) (by omega)) ?_
              rintro _ _ ⟨rfl, u29, hu29, rfl⟩
              refine ezw_i2l rfl hu29 rfl ?_
              refine ezs_lmul rfl (fun u30 hu30 => ?_)
              refine ezw_bipush (10) rfl rfl ?_
              refine ezw_aload_n rfl rfl ?_
              refine ezm_gp (p := 78) rfl (fun _ => rfl) ?_
              refine ezw_bipush (9) rfl rfl ?_
              refine ezm_l78 rfl (by omega) (by omega) (fun u31 eu31 => ?_)
              have fu31 : u22 = u31 := eu22.trans eu31.symm
              subst fu31
              refine ezs_isub rfl (fun u32 hu32 => ?_)
              refine ezw_i2l rfl hu32 rfl ?_
              refine ezw_aload_n rfl rfl ?_
              refine ezw_iload_n rfl rfl ?_
              refine ezw_iload_n rfl rfl ?_
              refine ezw_iconst (0) rfl rfl ?_
              refine ezw_iload rfl rfl ?_
              refine ezw_call0_4 rfl (by omega) (ezm_at rfl) rfl rfl rfl rfl (ezm_m302_v0 hT (by omega) ha2 ⟨by decide, by decide⟩ ha4 (by omega) (by omega) (by omega)) ?_
              rintro _ _ ⟨rfl, u34, hu34, rfl⟩
              refine ezw_i2l rfl hu34 rfl ?_
              refine ezs_lmul rfl (fun u35 hu35 => ?_)
              refine ezs_ladd rfl (fun u36 hu36 => ?_)
              refine ezw_ldc2_w (10) rfl rfl ?_
              refine ezs_ldiv rfl hu36 ⟨by decide, by decide⟩ (by omega) (fun u37 hu37 => ?_)
              refine ezs_l2i rfl (fun u38 hu38 => ?_)
              refine ezw_bipush (10) rfl rfl ?_
              refine ezw_call0_2 rfl (by omega) (ezm_at rfl) rfl rfl rfl rfl (ezm_m304 hT (by omega) hu38 ⟨by decide, by decide⟩ (by omega)) ?_
              rintro _ _ ⟨x29_39, x30_39, rfl, hT, p39_0, rfl⟩
              have k40 := hT.t29
              have k41 := hT.t30
              exact ezw_keepE [true, true, true, true, true, true] (J174_8 x29_39 x30_39 hT (by omega))
      refine ezw_if_le rfl rfl ha3 (fun h59_6 => ?_) (fun h59_6 => ?_)
      · exact ezw_keepE [true, true, true, true, true, true] (J79_7 x29_4 x30_4 hT (by omega))
      · refine ezw_aload_n rfl rfl ?_
        refine ezw_aload_n rfl rfl ?_
        refine ezw_iload_n rfl rfl ?_
        refine ezw_iload_n rfl rfl ?_
        refine ezw_iload_n rfl rfl ?_
        refine ezw_iconst (1) rfl rfl ?_
        refine ezw_isub (k := a3 - 1) rfl (by omega) ?_
        refine ezw_iload rfl rfl ?_
        refine ezw_call0_4 rfl (by omega) (ezm_at rfl) rfl rfl rfl rfl (ezm_m302_v0 hT (by omega) ha2 ⟨by omega, by omega⟩ ha4 (by omega) (by omega) (by omega)) ?_
        rintro _ _ ⟨rfl, u43, hu43, rfl⟩
        refine ezw_bipush (9) rfl rfl ?_
        refine ezw_call0_2 rfl (by omega) (ezm_at rfl) rfl rfl rfl rfl (ezm_m304 hT (by omega) hu43 ⟨by decide, by decide⟩ (by omega)) ?_
        rintro _ _ ⟨x29_44, x30_44, rfl, hT, p44_0, rfl⟩
        have k45 := hT.t29
        have k46 := hT.t30
        exact ezw_keepE [true, true, true, true, true, true] (J79_7 x29_44 x30_44 hT (by omega))
    · refine ezw_aload_n rfl rfl ?_
      refine ezw_aload_n rfl rfl ?_
      refine ezw_iload_n rfl rfl ?_
      refine ezw_iload_n rfl rfl ?_
      refine ezw_iload_n rfl rfl ?_
      refine ezw_iload rfl rfl ?_
      refine ezw_iload rfl rfl ?_
      refine ezw_iconst (4) rfl rfl ?_
      refine ezm_irem rfl hc3 ⟨by decide, by decide⟩ (by decide) (fun u47 hu47 ku47 => ?_)
      refine ezw_iload rfl rfl ?_
      refine ezw_iconst (4) rfl rfl ?_
      refine ezm_idiv rfl hc3 ⟨by decide, by decide⟩ (by decide) (fun u48 hu48 ku48 => ?_)
      refine ezw_call0_6 rfl (by omega) (ezm_at rfl) rfl rfl rfl rfl (ezm_m300_v0 hT (by omega) ha2 ha3 ha4 hu47 hu48 (by omega) (by omega) (by omega) (by omega) tr) ?_
      rintro _ _ ⟨x86_49, x87_49, rfl, hT, u50, hu50, rfl⟩
      refine ezw_iconst (1) rfl rfl ?_
      refine ezw_iload rfl rfl ?_
      refine ezw_iadd (k := c3 + 1) rfl (by omega) ?_
      refine ezw_call0_2 rfl (by omega) (ezm_at rfl) rfl rfl rfl rfl (ezm_m304 hT (by omega) hu50 ⟨by omega, by omega⟩ (by omega)) ?_
      rintro _ _ ⟨x29_51, x30_51, rfl, hT, p51_0, rfl⟩
      have k52 := hT.t29
      have k53 := hT.t30
      refine ezw_iinc (k := c3 + 1) (1) rfl rfl rfl (by omega) rfl ?_
      refine ezw_goto rfl rfl ?_
      exact ezw_keepE [true, true, true, true, true, true] (ihc3 (c3 + 1) (by omega) ⟨by omega, by omega⟩ x29_51 x30_51 x86_49 x87_49 hT (by omega) (by omega))
  exact ezw_keepE [true, true, true, true, true, true] (L20_4 (0) ⟨by decide, by decide⟩ (0) u2 r86 r87 hT (by omega) (by omega))
def ezm_m302_v1100Q (e : Bool × Bool) (F : Nat → Nat → Int) (A : Nat → Int → Int) (i0 i2 i3 i7 i8 i13 i18 i19 i20 i25 i29 i30 i31 i36 i37 i38 : Int) (r73 r74 r75 r76 r77 r78 r79 r80 r81 r82 r83 r84 r85 r86 r87 r88 r89 r90 r91 r92 r93 r94 r95 : Int → Int) (a2 : Int) (a3 : Int) (a4 : Int) : Option ezq_V → (Nat → ezq_C) → Prop := fun v g' => ezm_h e F A i0 i2 i3 i7 i8 i13 i18 i19 i20 i25 i29 i30 i31 i36 i37 i38 r73 r74 r75 r76 r77 r78 r79 r80 r81 r82 r83 r84 r85 r86 r87 r88 r89 r90 r91 r92 r93 r94 r95 = g' ∧ ∃ u : Int, (ezw_in u) ∧ some (ezw_i u) = v
theorem ezm_m302_v1100 {a2 a3 a4 : Int} (hT : ezm_T i0 i2 i3 i7 i8 i13 i18 i19 i20 i25 i29 i30 i31 i36 i37 i38 r73 r74 r75 r76 r77 r78 r79 r80 r81 r82 r83 r84 r85 r86 r87 r88 r89 r90 r91 r92 r93 r94 r95) (hd : 2 ≤ d) (ha2 : ezw_in a2) (ha3 : ezw_in a3) (ha4 : ezw_in a4) (ga : 0 ≤ a2 ∧ a2 ≤ 6) (gb : 0 ≤ a3 ∧ a3 ≤ 9) (gc : 0 ≤ a4 ∧ a4 ≤ 15) : ezw_C l ρ B xa Hb D cA 302 d [ezw_p 72, ezw_i (1100), ezw_i a2, ezw_i a3, ezw_i a4] (ezm_h e F A i0 i2 i3 i7 i8 i13 i18 i19 i20 i25 i29 i30 i31 i36 i37 i38 r73 r74 r75 r76 r77 r78 r79 r80 r81 r82 r83 r84 r85 r86 r87 r88 r89 r90 r91 r92 r93 r94 r95) (ezm_m302_v1100Q  e F A i0 i2 i3 i7 i8 i13 i18 i19 i20 i25 i29 i30 i31 i36 i37 i38 r73 r74 r75 r76 r77 r78 r79 r80 r81 r82 r83 r84 r85 r86 r87 r88 r89 r90 r91 r92 r93 r94 r95 a2 a3 a4) := by
  refine ezw_met (k := 0) rfl rfl ?_
  refine ezw_iload_n rfl rfl ?_
  refine ezw_if_ne rfl rfl ha2 (fun h1_0 => ?_) (fun h1_0 => ?_)
  · refine ezw_aload_n rfl rfl ?_
    refine ezm_gp (p := 91) rfl (fun _ => rfl) ?_
    refine ezw_iload_n rfl rfl ?_
    refine ezw_iload_n rfl rfl ?_
    refine ezw_iload rfl rfl ?_
    refine ezw_call2_3 rfl (by omega) rfl rfl (ezm_m303b hT (by omega) ha2 ha3 ha4 (by omega)) ?_
    rintro _ _ ⟨rfl, u2, hu2, p1_0, rfl⟩
    refine ezm_l91 rfl (by omega) (by omega) (fun u3 eu3 => ?_)
    have ku3 : ezw_in u3 := eu3 ▸ hT.t91 u2
    exact ezw_ireturn rfl rfl ⟨rfl, u3, ku3, rfl⟩
  · refine ezw_aload_n rfl rfl ?_
    refine ezw_iload_n rfl rfl ?_
    refine ezw_iload rfl rfl ?_
    refine ezw_iconst (1) rfl rfl ?_
    refine ezw_call0_3 rfl (by omega) (ezm_at rfl) rfl rfl rfl rfl (ezm_m298_v1100 hT (by omega) ha4 ⟨by decide, by decide⟩) ?_
    rintro _ _ ⟨rfl, u5, hu5, rfl⟩
    refine ezw_goto rfl rfl ?_
    exact ezw_ireturn rfl rfl ⟨rfl, u5, hu5, rfl⟩
def ezm_m301_v1100Q (e : Bool × Bool) (F : Nat → Nat → Int) (A : Nat → Int → Int) (i0 i2 i3 i7 i8 i13 i18 i19 i20 i25 i29 i30 i31 i36 i37 i38 : Int) (r73 r74 r75 r76 r77 r78 r79 r80 r81 r82 r83 r84 r85 r86 r87 r88 r89 r90 r91 r92 r93 r94 r95 : Int → Int) (a2 : Int) (a3 : Int) : Option ezq_V → (Nat → ezq_C) → Prop := fun v g' => ezm_h e F A i0 i2 i3 i7 i8 i13 i18 i19 i20 i25 i29 i30 i31 i36 i37 i38 r73 r74 r75 r76 r77 r78 r79 r80 r81 r82 r83 r84 r85 r86 r87 r88 r89 r90 r91 r92 r93 r94 r95 = g' ∧ ∃ u : Int, (ezw_in u) ∧ some (ezw_i u) = v
theorem ezm_m301_v1100 {a2 a3 : Int} (hT : ezm_T i0 i2 i3 i7 i8 i13 i18 i19 i20 i25 i29 i30 i31 i36 i37 i38 r73 r74 r75 r76 r77 r78 r79 r80 r81 r82 r83 r84 r85 r86 r87 r88 r89 r90 r91 r92 r93 r94 r95) (hd : 3 ≤ d) (ha2 : ezw_in a2) (ha3 : ezw_in a3) (ga : 1 ≤ a2 ∧ a2 ≤ 6) (gc : 0 ≤ a3 ∧ a3 ≤ 15) : ezw_C l ρ B xa Hb D cA 301 d [ezw_p 72, ezw_i (1100), ezw_i a2, ezw_i a3] (ezm_h e F A i0 i2 i3 i7 i8 i13 i18 i19 i20 i25 i29 i30 i31 i36 i37 i38 r73 r74 r75 r76 r77 r78 r79 r80 r81 r82 r83 r84 r85 r86 r87 r88 r89 r90 r91 r92 r93 r94 r95) (ezm_m301_v1100Q  e F A i0 i2 i3 i7 i8 i13 i18 i19 i20 i25 i29 i30 i31 i36 i37 i38 r73 r74 r75 r76 r77 r78 r79 r80 r81 r82 r83 r84 r85 r86 r87 r88 r89 r90 r91 r92 r93 r94 r95 a2 a3) := by
  refine ezw_met (k := 1) rfl rfl ?_
  refine ezw_iload_n rfl rfl ?_
  refine ezw_iconst (1) rfl rfl ?_
  have J31_2 : ∀ y1 : Int, ezw_in y1 → (0 ≤ y1 ∧ y1 ≤ 9) → ezw_E l ρ B xa Hb D cA d ezq_re301 (ezm_m301_v1100Q  e F A i0 i2 i3 i7 i8 i13 i18 i19 i20 i25 i29 i30 i31 i36 i37 i38 r73 r74 r75 r76 r77 r78 r79 r80 r81 r82 r83 r84 r85 r86 r87 r88 r89 r90 r91 r92 r93 r94 r95 a2 a3) 31 [some (ezw_p 72), some (ezw_i (1100)), some (ezw_i a2), some (ezw_i a3), none] [ezw_i y1] (ezm_h e F A i0 i2 i3 i7 i8 i13 i18 i19 i20 i25 i29 i30 i31 i36 i37 i38 r73 r74 r75 r76 r77 r78 r79 r80 r81 r82 r83 r84 r85 r86 r87 r88 r89 r90 r91 r92 r93 r94 r95) := by
    intro y1 hy1 v1_2
    refine ezw_istore rfl rfl ?_
    refine ezw_aload_n rfl rfl ?_
    refine ezw_iload_n rfl rfl ?_
    refine ezw_iload_n rfl rfl ?_
    refine ezw_iconst (1) rfl rfl ?_
    refine ezw_isub (k := a2 - 1) rfl (by omega) ?_
    refine ezw_iload rfl rfl ?_
    refine ezw_iload_n rfl rfl ?_
    refine ezw_call0_4 rfl (by omega) (ezm_at rfl) rfl rfl rfl rfl (ezm_m302_v1100 hT (by omega) ⟨by omega, by omega⟩ hy1 ha3 (by omega) (by omega) (by omega)) ?_
    rintro _ _ ⟨rfl, u4, hu4, rfl⟩
    exact ezw_ireturn rfl rfl ⟨rfl, u4, hu4, rfl⟩
  refine ezw_icmp_ne rfl rfl ha2 ⟨by decide, by decide⟩ (fun h2_0 => ?_) (fun h2_0 => ?_)
  · refine ezw_aload_n rfl rfl ?_
    refine ezm_gp (p := 88) rfl (fun _ => rfl) ?_
    refine ezw_iload_n rfl rfl ?_
    refine ezw_bipush (7) rfl rfl ?_
    refine ezw_iadd (k := (1107)) rfl (by omega) ?_
    refine ezw_aload_n rfl rfl ?_
    refine ezm_gp (p := 88) rfl (fun _ => rfl) ?_
    refine ezw_iload_n rfl rfl ?_
    refine ezw_iconst (1) rfl rfl ?_
    refine ezw_iadd (k := (1101)) rfl (by omega) ?_
    refine ezw_iload_n rfl rfl ?_
    refine ezw_iadd (k := a2 + 1101) rfl (by omega) ?_
    refine ezw_iconst (2) rfl rfl ?_
    refine ezw_isub (k := a2 + 1099) rfl (by omega) ?_
    refine ezm_l88 rfl (by omega) (by omega) (fun u5 eu5 => ?_)
    have ku5 : ezm_k88 (a2 + 1099) u5 := eu5 ▸ hT.t88 (a2 + 1099)
    have zu5 := ezm_zs1 ku5 (by omega)
    refine ezw_iadd (k := u5 + 1107) rfl (by omega) ?_
    refine ezm_l88 rfl (by omega) (by omega) (fun u6 eu6 => ?_)
    have ku6 : ezm_k88 (u5 + 1107) u6 := eu6 ▸ hT.t88 (u5 + 1107)
    have zu6 := ezm_zs7 ku6 (by omega)
    exact ezw_keepE [true, true, true, true, false] (J31_2 u6 (ezm_in88 ku6) (by omega))
  · refine ezw_iconst (0) rfl rfl ?_
    refine ezw_goto rfl rfl ?_
    exact ezw_keepE [true, true, true, true, false] (J31_2 (0) ⟨by decide, by decide⟩ (by omega))
def ezm_m305_v1100Q (e : Bool × Bool) (F : Nat → Nat → Int) (A : Nat → Int → Int) (i0 i2 i3 i7 i8 i13 i18 i19 i20 i25 i29 i30 i31 i36 i37 i38 : Int) (r73 r74 r75 r76 r77 r78 r79 r80 r81 r82 r83 r84 r85 r86 r87 r88 r89 r90 r91 r92 r93 r94 r95 : Int → Int) (a2 : Int) (a3 : Int) (a4 : Int) (a5 : Int) : Option ezq_V → (Nat → ezq_C) → Prop := fun v g' => ezm_h e F A i0 i2 i3 i7 i8 i13 i18 i19 i20 i25 i29 i30 i31 i36 i37 i38 r73 r74 r75 r76 r77 r78 r79 r80 r81 r82 r83 r84 r85 r86 r87 r88 r89 r90 r91 r92 r93 r94 r95 = g' ∧ ∃ u : Int, (ezw_in u) ∧ some (ezw_i u) = v
theorem ezm_m305_v1100 {a2 a3 a4 a5 : Int} (hT : ezm_T i0 i2 i3 i7 i8 i13 i18 i19 i20 i25 i29 i30 i31 i36 i37 i38 r73 r74 r75 r76 r77 r78 r79 r80 r81 r82 r83 r84 r85 r86 r87 r88 r89 r90 r91 r92 r93 r94 r95) (hd : 4 ≤ d) (ha2 : ezw_in a2) (ha3 : ezw_in a3) (ha4 : ezw_in a4) (ha5 : ezw_in a5) (ga : 1 ≤ a2 ∧ a2 ≤ 6) (gb : 0 ≤ a3 ∧ a3 ≤ 9) (gc : 0 ≤ a4 ∧ a4 ≤ 15) (gd : 0 ≤ a5 ∧ a5 ≤ 3) : ezw_C l ρ B xa Hb D cA 305 d [ezw_p 72, ezw_i (1100), ezw_i a2, ezw_i a3, ezw_i a4, ezw_i a5] (ezm_h e F A i0 i2 i3 i7 i8 i13 i18 i19 i20 i25 i29 i30 i31 i36 i37 i38 r73 r74 r75 r76 r77 r78 r79 r80 r81 r82 r83 r84 r85 r86 r87 r88 r89 r90 r91 r92 r93 r94 r95) (ezm_m305_v1100Q  e F A i0 i2 i3 i7 i8 i13 i18 i19 i20 i25 i29 i30 i31 i36 i37 i38 r73 r74 r75 r76 r77 r78 r79 r80 r81 r82 r83 r84 r85 r86 r87 r88 r89 r90 r91 r92 r93 r94 r95 a2 a3 a4 a5) := by
  refine ezw_met (k := 4) rfl rfl ?_
  refine ezw_aload_n rfl rfl ?_
  refine ezw_iload rfl rfl ?_
  refine ezw_iconst (1) rfl rfl ?_
  refine ezw_call0_2 rfl (by omega) (ezm_at rfl) rfl rfl rfl rfl (ezm_m263 hT (by omega) ha5 ⟨by decide, by decide⟩ (by omega) (by omega)) ?_
  rintro _ _ ⟨rfl, u2, hu2, rfl⟩
  refine ezw_istore rfl rfl ?_
  refine ezw_aload_n rfl rfl ?_
  refine ezw_iload rfl rfl ?_
  refine ezw_iconst (2) rfl rfl ?_
  refine ezw_call0_2 rfl (by omega) (ezm_at rfl) rfl rfl rfl rfl (ezm_m263 hT (by omega) ha5 ⟨by decide, by decide⟩ (by omega) (by omega)) ?_
  rintro _ _ ⟨rfl, u4, hu4, rfl⟩
  refine ezw_istore rfl rfl ?_
  refine ezw_bipush (10) rfl rfl ?_
  refine ezw_iload rfl rfl ?_
  refine ezs_isub rfl (fun u5 hu5 => ?_)
  refine ezw_iload rfl rfl ?_
  refine ezs_isub rfl (fun u6 hu6 => ?_)
  refine ezw_i2l rfl hu6 rfl ?_
  refine ezw_aload_n rfl rfl ?_
  refine ezw_iload_n rfl rfl ?_
  refine ezw_iload_n rfl rfl ?_
  refine ezw_iload_n rfl rfl ?_
  refine ezw_iload rfl rfl ?_
  refine ezw_call0_4 rfl (by omega) (ezm_at rfl) rfl rfl rfl rfl (ezm_m302_v1100 hT (by omega) ha2 ha3 ha4 (by omega) (by omega) (by omega)) ?_
  rintro _ _ ⟨rfl, u8, hu8, rfl⟩
  refine ezw_i2l rfl hu8 rfl ?_
  refine ezs_lmul rfl (fun u9 hu9 => ?_)
  refine ezw_iload rfl rfl ?_
  refine ezw_i2l rfl hu2 rfl ?_
  refine ezw_aload_n rfl rfl ?_
  refine ezw_iload_n rfl rfl ?_
  refine ezw_iload_n rfl rfl ?_
  refine ezw_iload_n rfl rfl ?_
  refine ezw_iload rfl rfl ?_
  refine ezw_iconst (1) rfl rfl ?_
  refine ezw_iload rfl rfl ?_
  refine ezm_ishl1 rfl (by omega) (by omega) (fun u10 hu10 ku10 => ?_)
  refine ezw_iconst (-1) rfl rfl ?_
  refine ezs_ixor rfl (fun u11 hu11 => ?_)
  refine ezm_iand rfl (fun u12 hu12 ku12 => ?_)
  refine ezw_call0_4 rfl (by omega) (ezm_at rfl) rfl rfl rfl rfl (ezm_m302_v1100 hT (by omega) ha2 ha3 hu12 (by omega) (by omega) (by omega)) ?_
  rintro _ _ ⟨rfl, u14, hu14, rfl⟩
  refine ezw_i2l rfl hu14 rfl ?_
  refine ezs_lmul rfl (fun u15 hu15 => ?_)
  refine ezs_ladd rfl (fun u16 hu16 => ?_)
  refine ezw_iload rfl rfl ?_
  refine ezw_i2l rfl hu4 rfl ?_
  refine ezw_aload_n rfl rfl ?_
  refine ezw_iload_n rfl rfl ?_
  refine ezw_iload_n rfl rfl ?_
  refine ezw_iload rfl rfl ?_
  refine ezw_call0_3 rfl (by omega) (ezm_at rfl) rfl rfl rfl rfl (ezm_m301_v1100 hT (by omega) ha2 ha4 (by omega) (by omega)) ?_
  rintro _ _ ⟨rfl, u18, hu18, rfl⟩
  refine ezw_i2l rfl hu18 rfl ?_
  refine ezs_lmul rfl (fun u19 hu19 => ?_)
  refine ezs_ladd rfl (fun u20 hu20 => ?_)
  refine ezw_lstore rfl rfl ?_
  refine ezw_lload rfl rfl ?_
  refine ezw_ldc2_w (10) rfl rfl ?_
  refine ezs_ldiv rfl hu20 ⟨by decide, by decide⟩ (by omega) (fun u21 hu21 => ?_)
  refine ezs_l2i rfl (fun u22 hu22 => ?_)
  exact ezw_ireturn rfl rfl ⟨rfl, u22, hu22, rfl⟩
def ezm_m300_v1100Q (e : Bool × Bool) (F : Nat → Nat → Int) (A : Nat → Int → Int) (i0 i2 i3 i7 i8 i13 i18 i19 i20 i25 i29 i30 i31 i36 i37 i38 : Int) (r73 r74 r75 r76 r77 r78 r79 r80 r81 r82 r83 r84 r85 r86 r87 r88 r89 r90 r91 r92 r93 r94 r95 : Int → Int) (a2 : Int) (a3 : Int) (a4 : Int) (a5 : Int) (a6 : Int) : Option ezq_V → (Nat → ezq_C) → Prop := fun v g' => ∃  (x86 x87 : Int → Int), ezm_h e F A i0 i2 i3 i7 i8 i13 i18 i19 i20 i25 i29 i30 i31 i36 i37 i38 r73 r74 r75 r76 r77 r78 r79 r80 r81 r82 r83 r84 r85 x86 x87 r88 r89 r90 r91 r92 r93 r94 r95 = g' ∧ ezm_T i0 i2 i3 i7 i8 i13 i18 i19 i20 i25 i29 i30 i31 i36 i37 i38 r73 r74 r75 r76 r77 r78 r79 r80 r81 r82 r83 r84 r85 x86 x87 r88 r89 r90 r91 r92 r93 r94 r95 ∧ ∃ u : Int, (ezw_in u) ∧ some (ezw_i u) = v
theorem ezm_m300_v1100 {a2 a3 a4 a5 a6 : Int} (hT : ezm_T i0 i2 i3 i7 i8 i13 i18 i19 i20 i25 i29 i30 i31 i36 i37 i38 r73 r74 r75 r76 r77 r78 r79 r80 r81 r82 r83 r84 r85 r86 r87 r88 r89 r90 r91 r92 r93 r94 r95) (hd : 4 ≤ d) (ha2 : ezw_in a2) (ha3 : ezw_in a3) (ha4 : ezw_in a4) (ha5 : ezw_in a5) (ha6 : ezw_in a6) (ga : 1 ≤ a2 ∧ a2 ≤ 6) (gb : 0 ≤ a3 ∧ a3 ≤ 9) (gc : 0 ≤ a4 ∧ a4 ≤ 15) (gd : 0 ≤ a6 ∧ a6 ≤ 1) (tr : ezm_TR r78 r79 r80) : ezw_C l ρ B xa Hb D cA 300 d [ezw_p 72, ezw_i (1100), ezw_i a2, ezw_i a3, ezw_i a4, ezw_i a5, ezw_i a6] (ezm_h e F A i0 i2 i3 i7 i8 i13 i18 i19 i20 i25 i29 i30 i31 i36 i37 i38 r73 r74 r75 r76 r77 r78 r79 r80 r81 r82 r83 r84 r85 r86 r87 r88 r89 r90 r91 r92 r93 r94 r95) (ezm_m300_v1100Q  e F A i0 i2 i3 i7 i8 i13 i18 i19 i20 i25 i29 i30 i31 i36 i37 i38 r73 r74 r75 r76 r77 r78 r79 r80 r81 r82 r83 r84 r85 r86 r87 r88 r89 r90 r91 r92 r93 r94 r95 a2 a3 a4 a5 a6) := by
  refine ezw_met (k := 6) rfl rfl ?_
  refine ezw_aload_n rfl rfl ?_
  refine ezm_gp (p := 88) rfl (fun _ => rfl) ?_
  refine ezw_iload_n rfl rfl ?_
  refine ezw_iconst (1) rfl rfl ?_
  refine ezw_iadd (k := (1101)) rfl (by omega) ?_
  refine ezw_iload_n rfl rfl ?_
  refine ezw_iadd (k := a2 + 1101) rfl (by omega) ?_
  refine ezw_iconst (1) rfl rfl ?_
  refine ezw_isub (k := a2 + 1100) rfl (by omega) ?_
  refine ezm_l88 rfl (by omega) (by omega) (fun u1 eu1 => ?_)
  have ku1 : ezm_k88 (a2 + 1100) u1 := eu1 ▸ hT.t88 (a2 + 1100)
  have zu1 := ezm_z07 ku1 (by omega)
  refine ezw_istore rfl rfl ?_
  refine ezw_aload_n rfl rfl ?_
  refine ezw_iconst (0) rfl rfl ?_
  refine ezw_iload rfl rfl ?_
  refine ezw_iload_n rfl rfl ?_
  refine ezw_iload rfl rfl ?_
  refine ezw_iload rfl rfl ?_
  refine ezw_call0_5 rfl (by omega) (ezm_at rfl) rfl rfl rfl rfl (ezm_m269_v0 hT (by omega) (ezm_in88 ku1) ha3 ha5 ha6 (by omega) tr) ?_
  rintro _ _ ⟨x86_2, x87_2, rfl, hT, u3, hu3, p2_0, rfl⟩
  refine ezw_istore rfl rfl ?_
  refine ezw_aload_n rfl rfl ?_
  refine ezw_iconst (1) rfl rfl ?_
  refine ezw_iload rfl rfl ?_
  refine ezw_iload_n rfl rfl ?_
  refine ezw_iload rfl rfl ?_
  refine ezw_iload rfl rfl ?_
  refine ezw_call0_5 rfl (by omega) (ezm_at rfl) rfl rfl rfl rfl (ezm_m269_v1 hT (by omega) (ezm_in88 ku1) ha3 ha5 ha6 (by omega) tr) ?_
  rintro _ _ ⟨x86_4, x87_4, rfl, hT, u5, hu5, p4_0, rfl⟩
  refine ezw_istore rfl rfl ?_
  refine ezw_iload_n rfl rfl ?_
  refine ezw_iconst (1) rfl rfl ?_
  refine ezw_iadd (k := a3 + 1) rfl (by omega) ?_
  refine ezw_iload rfl rfl ?_
  refine ezw_iadd (k := a3 + a6 + 1) rfl (by omega) ?_
  refine ezw_bipush (9) rfl rfl ?_
  have J64_7 : ∀ y6 : Int, ezw_in y6 → (0 ≤ y6 ∧ y6 ≤ 9) → ezw_E l ρ B xa Hb D cA d ezq_re300 (ezm_m300_v1100Q  e F A i0 i2 i3 i7 i8 i13 i18 i19 i20 i25 i29 i30 i31 i36 i37 i38 r73 r74 r75 r76 r77 r78 r79 r80 r81 r82 r83 r84 r85 r86 r87 r88 r89 r90 r91 r92 r93 r94 r95 a2 a3 a4 a5 a6) 64 [some (ezw_p 72), some (ezw_i (1100)), some (ezw_i a2), some (ezw_i a3), some (ezw_i a4), some (ezw_i a5), some (ezw_i a6), some (ezw_i u1), some (ezw_i u3), some (ezw_i u5), none, none, none] [ezw_i y6] (ezm_h e F A i0 i2 i3 i7 i8 i13 i18 i19 i20 i25 i29 i30 i31 i36 i37 i38 r73 r74 r75 r76 r77 r78 r79 r80 r81 r82 r83 r84 r85 x86_4 x87_4 r88 r89 r90 r91 r92 r93 r94 r95) := by
    intro y6 hy6 v1_7
    refine ezw_istore rfl rfl ?_
    refine ezw_ldc2_w (10) rfl rfl ?_
    refine ezw_iload rfl rfl ?_
    refine ezw_i2l rfl hu3 rfl ?_
    refine ezs_lmul rfl (fun u8 hu8 => ?_)
    refine ezw_aload_n rfl rfl ?_
    refine ezw_iload_n rfl rfl ?_
    refine ezw_iload_n rfl rfl ?_
    refine ezw_iload rfl rfl ?_
    refine ezw_call0_3 rfl (by omega) (ezm_at rfl) rfl rfl rfl rfl (ezm_m301_v1100 hT (by omega) ha2 ha4 (by omega) (by omega)) ?_
    rintro _ _ ⟨rfl, u10, hu10, rfl⟩
    refine ezw_i2l rfl hu10 rfl ?_
    refine ezs_lmul rfl (fun u11 hu11 => ?_)
    refine ezw_bipush (10) rfl rfl ?_
    refine ezw_iload rfl rfl ?_
    refine ezw_isub (k := -u3 + 10) rfl (by omega) ?_
    refine ezw_i2l rfl ⟨by omega, by omega⟩ rfl ?_
    refine ezw_iload rfl rfl ?_
    refine ezw_i2l rfl hu5 rfl ?_
    refine ezs_lmul rfl (fun u12 hu12 => ?_)
    refine ezw_aload_n rfl rfl ?_
    refine ezw_iload_n rfl rfl ?_
    refine ezw_iload rfl rfl ?_
    refine ezw_iconst (0) rfl rfl ?_
    refine ezw_call0_3 rfl (by omega) (ezm_at rfl) rfl rfl rfl rfl (ezm_m298_v1100 hT (by omega) ha4 ⟨by decide, by decide⟩) ?_
    rintro _ _ ⟨rfl, u14, hu14, rfl⟩
    refine ezw_i2l rfl hu14 rfl ?_
    refine ezs_lmul rfl (fun u15 hu15 => ?_)
    refine ezs_ladd rfl (fun u16 hu16 => ?_)
    refine ezw_bipush (10) rfl rfl ?_
    refine ezw_iload rfl rfl ?_
    refine ezw_isub (k := -u3 + 10) rfl (by omega) ?_
    refine ezw_i2l rfl ⟨by omega, by omega⟩ rfl ?_
    refine ezw_bipush (10) rfl rfl ?_
    refine ezw_iload rfl rfl ?_
    refine ezw_isub (k := -u5 + 10) rfl (by omega) ?_
    refine ezw_i2l rfl ⟨by omega, by omega⟩ rfl ?_
    refine ezs_lmul rfl (fun u17 hu17 => ?_)
    refine ezw_aload_n rfl rfl ?_
    refine ezw_iload_n rfl rfl ?_
    refine ezw_iload_n rfl rfl ?_
    refine ezw_iload rfl rfl ?_
    refine ezw_iload rfl rfl ?_
    refine ezw_call0_4 rfl (by omega) (ezm_at rfl) rfl rfl rfl rfl (ezm_m302_v1100 hT (by omega) ha2 hy6 ha4 (by omega) (by omega) (by omega)) ?_
    rintro _ _ ⟨rfl, u19, hu19, rfl⟩
    refine ezw_i2l rfl hu19 rfl ?_
    refine ezs_lmul rfl (fun u20 hu20 => ?_)
    refine ezs_ladd rfl (fun u21 hu21 => ?_)
    refine ezw_lstore rfl rfl ?_
    refine ezw_lload rfl rfl ?_
    refine ezw_ldc2_w (100) rfl rfl ?_
    refine ezs_ldiv rfl hu21 ⟨by decide, by decide⟩ (by omega) (fun u22 hu22 => ?_)
    refine ezs_l2i rfl (fun u23 hu23 => ?_)
    exact ezw_ireturn rfl rfl ⟨x86_4, x87_4, rfl, hT, u23, hu23, rfl⟩
  refine ezw_icmp_le rfl rfl ⟨by omega, by omega⟩ ⟨by decide, by decide⟩ (fun h50_5 => ?_) (fun h50_5 => ?_)
  · refine ezw_iload_n rfl rfl ?_
    refine ezw_iconst (1) rfl rfl ?_
    refine ezw_iadd (k := a3 + 1) rfl (by omega) ?_
    refine ezw_iload rfl rfl ?_
    refine ezw_iadd (k := a3 + a6 + 1) rfl (by omega) ?_
    exact ezw_keepE [true, true, true, true, true, true, true, true, true, true, false, false, false] (J64_7 (a3 + a6 + 1) ⟨by omega, by omega⟩ (by omega))
  · refine ezw_bipush (9) rfl rfl ?_
    refine ezw_goto rfl rfl ?_
    exact ezw_keepE [true, true, true, true, true, true, true, true, true, true, false, false, false] (J64_7 (9) ⟨by decide, by decide⟩ (by omega))
def ezm_m299_v1100Q (e : Bool × Bool) (F : Nat → Nat → Int) (A : Nat → Int → Int) (i0 i2 i3 i7 i8 i13 i18 i19 i20 i25 i29 i30 i31 i36 i37 i38 : Int) (r73 r74 r75 r76 r77 r78 r79 r80 r81 r82 r83 r84 r85 r86 r87 r88 r89 r90 r91 r92 r93 r94 r95 : Int → Int) (a2 : Int) (a3 : Int) (a4 : Int) : Option ezq_V → (Nat → ezq_C) → Prop := fun v g' => ∃ (x29 x30 : Int) (x86 x87 : Int → Int), ezm_h e F A i0 i2 i3 i7 i8 i13 i18 i19 i20 i25 x29 x30 i31 i36 i37 i38 r73 r74 r75 r76 r77 r78 r79 r80 r81 r82 r83 r84 r85 x86 x87 r88 r89 r90 r91 r92 r93 r94 r95 = g' ∧ ezm_T i0 i2 i3 i7 i8 i13 i18 i19 i20 i25 x29 x30 i31 i36 i37 i38 r73 r74 r75 r76 r77 r78 r79 r80 r81 r82 r83 r84 r85 x86 x87 r88 r89 r90 r91 r92 r93 r94 r95 ∧ ∃ u : Int, (ezw_in u) ∧ (x29 = 9 → 0 < a3) ∧ some (ezw_i u) = v
theorem ezm_m299_v1100 {a2 a3 a4 : Int} (hT : ezm_T i0 i2 i3 i7 i8 i13 i18 i19 i20 i25 i29 i30 i31 i36 i37 i38 r73 r74 r75 r76 r77 r78 r79 r80 r81 r82 r83 r84 r85 r86 r87 r88 r89 r90 r91 r92 r93 r94 r95) (hd : 5 ≤ d) (ha2 : ezw_in a2) (ha3 : ezw_in a3) (ha4 : ezw_in a4) (ga : 1 ≤ a2 ∧ a2 ≤ 6) (gb : 0 ≤ a3 ∧ a3 ≤ 9) (gc : 0 ≤ a4 ∧ a4 ≤ 15) (tr : ezm_TR r78 r79 r80) : ezw_C l ρ B xa Hb D cA 299 d [ezw_p 72, ezw_i (1100), ezw_i a2, ezw_i a3, ezw_i a4] (ezm_h e F A i0 i2 i3 i7 i8 i13 i18 i19 i20 i25 i29 i30 i31 i36 i37 i38 r73 r74 r75 r76 r77 r78 r79 r80 r81 r82 r83 r84 r85 r86 r87 r88 r89 r90 r91 r92 r93 r94 r95) (ezm_m299_v1100Q  e F A i0 i2 i3 i7 i8 i13 i18 i19 i20 i25 i29 i30 i31 i36 i37 i38 r73 r74 r75 r76 r77 r78 r79 r80 r81 r82 r83 r84 r85 r86 r87 r88 r89 r90 r91 r92 r93 r94 r95 a2 a3 a4) := by
  refine ezw_met (k := 1) rfl rfl ?_
  refine ezw_aload_n rfl rfl ?_
  refine ezw_aload_n rfl rfl ?_
  refine ezw_iload_n rfl rfl ?_
  refine ezw_iload rfl rfl ?_
  refine ezw_iconst (0) rfl rfl ?_
  refine ezw_call0_3 rfl (by omega) (ezm_at rfl) rfl rfl rfl rfl (ezm_m298_v1100 hT (by omega) ha4 ⟨by decide, by decide⟩) ?_
  rintro _ _ ⟨rfl, u2, hu2, rfl⟩
  refine ezm_p30 hT rfl hu2 (fun hT => ?_)
  refine ezw_aload_n rfl rfl ?_
  refine ezw_iconst (0) rfl rfl ?_
  refine ezm_p29 hT rfl ⟨by omega, by omega⟩ (fun hT => ?_)
  refine ezw_iconst (0) rfl rfl ?_
  refine ezw_istore rfl rfl ?_
  have L20_4 : ∀ c3 : Int, ezw_in c3 → ∀ x29_4 : Int, ∀ x30_4 : Int, ∀ x86_4 : Int → Int, ∀ x87_4 : Int → Int, ezm_T i0 i2 i3 i7 i8 i13 i18 i19 i20 i25 x29_4 x30_4 i31 i36 i37 i38 r73 r74 r75 r76 r77 r78 r79 r80 r81 r82 r83 r84 r85 x86_4 x87_4 r88 r89 r90 r91 r92 r93 r94 r95 → ((0) ≤ c3) → (x29_4 ≤ 8) → ezw_E l ρ B xa Hb D cA d ezq_re299 (ezm_m299_v1100Q  e F A i0 i2 i3 i7 i8 i13 i18 i19 i20 i25 i29 i30 i31 i36 i37 i38 r73 r74 r75 r76 r77 r78 r79 r80 r81 r82 r83 r84 r85 r86 r87 r88 r89 r90 r91 r92 r93 r94 r95 a2 a3 a4) 20 [some (ezw_p 72), some (ezw_i (1100)), some (ezw_i a2), some (ezw_i a3), some (ezw_i a4), some (ezw_i c3)] [] (ezm_h e F A i0 i2 i3 i7 i8 i13 i18 i19 i20 i25 x29_4 x30_4 i31 i36 i37 i38 r73 r74 r75 r76 r77 r78 r79 r80 r81 r82 r83 r84 r85 x86_4 x87_4 r88 r89 r90 r91 r92 r93 r94 r95) := by
    refine ezs_up ?_
    intro c3 hc3 ihc3 x29_4 x30_4 x86_4 x87_4 hT g_4 v1_4
    have k5 := hT.t29
    have k6 := hT.t30
    refine ezw_iload rfl rfl ?_
    refine ezw_bipush (8) rfl rfl ?_
    refine ezw_icmp_ge rfl rfl hc3 ⟨by decide, by decide⟩ (fun h24_6 => ?_) (fun h24_6 => ?_)
    · refine ezw_iload_n rfl rfl ?_
      have J79_7 : ∀ x29_7 : Int, ∀ x30_7 : Int, ezm_T i0 i2 i3 i7 i8 i13 i18 i19 i20 i25 x29_7 x30_7 i31 i36 i37 i38 r73 r74 r75 r76 r77 r78 r79 r80 r81 r82 r83 r84 r85 x86_4 x87_4 r88 r89 r90 r91 r92 r93 r94 r95 → (x29_7 = 9 → 0 < a3) → ezw_E l ρ B xa Hb D cA d ezq_re299 (ezm_m299_v1100Q  e F A i0 i2 i3 i7 i8 i13 i18 i19 i20 i25 i29 i30 i31 i36 i37 i38 r73 r74 r75 r76 r77 r78 r79 r80 r81 r82 r83 r84 r85 r86 r87 r88 r89 r90 r91 r92 r93 r94 r95 a2 a3 a4) 79 [some (ezw_p 72), some (ezw_i (1100)), some (ezw_i a2), some (ezw_i a3), some (ezw_i a4), some (ezw_i c3)] [] (ezm_h e F A i0 i2 i3 i7 i8 i13 i18 i19 i20 i25 x29_7 x30_7 i31 i36 i37 i38 r73 r74 r75 r76 r77 r78 r79 r80 r81 r82 r83 r84 r85 x86_4 x87_4 r88 r89 r90 r91 r92 r93 r94 r95) := by
        intro x29_7 x30_7 hT nz_7
        refine ezw_iload_n rfl rfl ?_
        have J174_8 : ∀ x29_8 : Int, ∀ x30_8 : Int, ezm_T i0 i2 i3 i7 i8 i13 i18 i19 i20 i25 x29_8 x30_8 i31 i36 i37 i38 r73 r74 r75 r76 r77 r78 r79 r80 r81 r82 r83 r84 r85 x86_4 x87_4 r88 r89 r90 r91 r92 r93 r94 r95 → (x29_8 = 9 → 0 < a3) → ezw_E l ρ B xa Hb D cA d ezq_re299 (ezm_m299_v1100Q  e F A i0 i2 i3 i7 i8 i13 i18 i19 i20 i25 i29 i30 i31 i36 i37 i38 r73 r74 r75 r76 r77 r78 r79 r80 r81 r82 r83 r84 r85 r86 r87 r88 r89 r90 r91 r92 r93 r94 r95 a2 a3 a4) 174 [some (ezw_p 72), some (ezw_i (1100)), some (ezw_i a2), some (ezw_i a3), some (ezw_i a4), some (ezw_i c3)] [] (ezm_h e F A i0 i2 i3 i7 i8 i13 i18 i19 i20 i25 x29_8 x30_8 i31 i36 i37 i38 r73 r74 r75 r76 r77 r78 r79 r80 r81 r82 r83 r84 r85 x86_4 x87_4 r88 r89 r90 r91 r92 r93 r94 r95) := by
          intro x29_8 x30_8 hT nz_8
          refine ezw_iconst (0) rfl rfl ?_
          refine ezw_istore rfl rfl ?_
          have L177_10 : ∀ c9 : Int, ezw_in c9 → ∀ x29_10 : Int, ∀ x30_10 : Int, ezm_T i0 i2 i3 i7 i8 i13 i18 i19 i20 i25 x29_10 x30_10 i31 i36 i37 i38 r73 r74 r75 r76 r77 r78 r79 r80 r81 r82 r83 r84 r85 x86_4 x87_4 r88 r89 r90 r91 r92 r93 r94 r95 → ((0) ≤ c9) → (x29_10 = 9 → 0 < a3) → ezw_E l ρ B xa Hb D cA d ezq_re299 (ezm_m299_v1100Q  e F A i0 i2 i3 i7 i8 i13 i18 i19 i20 i25 i29 i30 i31 i36 i37 i38 r73 r74 r75 r76 r77 r78 r79 r80 r81 r82 r83 r84 r85 r86 r87 r88 r89 r90 r91 r92 r93 r94 r95 a2 a3 a4) 177 [some (ezw_p 72), some (ezw_i (1100)), some (ezw_i a2), some (ezw_i a3), some (ezw_i a4), some (ezw_i c9)] [] (ezm_h e F A i0 i2 i3 i7 i8 i13 i18 i19 i20 i25 x29_10 x30_10 i31 i36 i37 i38 r73 r74 r75 r76 r77 r78 r79 r80 r81 r82 r83 r84 r85 x86_4 x87_4 r88 r89 r90 r91 r92 r93 r94 r95) := by
            refine ezs_up ?_
            intro c9 hc9 ihc9 x29_10 x30_10 hT g_10 v1_10
            have k11 := hT.t29
            have k12 := hT.t30
            refine ezw_iload rfl rfl ?_
            refine ezw_aload_n rfl rfl ?_
            refine ezw_call0_0 rfl (by omega) (ezm_at rfl) rfl rfl rfl rfl (ezm_m216 hT (by omega)) ?_
            rintro _ _ ⟨rfl, u14, hu14, p13_0, p13_1, rfl⟩
            refine ezw_icmp_ge rfl rfl hc9 hu14 (fun h183_14 => ?_) (fun h183_14 => ?_)
            · refine ezw_aload_n rfl rfl ?_
              refine ezm_g30 rfl ?_
              exact ezw_ireturn rfl rfl ⟨x29_10, x30_10, x86_4, x87_4, rfl, hT, x30_10, hT.t30, by omega, rfl⟩
            · refine ezw_iload rfl rfl ?_
              refine ezw_iload rfl rfl ?_
              refine ezw_ishrO rfl (fun u15 hu15 => ?_)
              refine ezw_iconst (1) rfl rfl ?_
              refine ezm_iand rfl (fun u16 hu16 ku16 => ?_)
              refine ezw_iconst (1) rfl rfl ?_
              refine ezw_icmp_ne rfl rfl hu16 ⟨by decide, by decide⟩ (fun h194_16 => ?_) (fun h194_16 => ?_)
              · refine ezw_iinc (k := c9 + 1) (1) rfl rfl rfl (by omega) rfl ?_
                refine ezw_goto rfl rfl ?_
                exact ezw_keepE [true, true, true, true, true, true] (ihc9 (c9 + 1) (by omega) ⟨by omega, by omega⟩ x29_10 x30_10 hT (by omega) (by omega))
              · refine ezw_aload_n rfl rfl ?_
                refine ezw_aload_n rfl rfl ?_
                refine ezw_iload_n rfl rfl ?_
                refine ezw_iload_n rfl rfl ?_
                refine ezw_iload_n rfl rfl ?_
                refine ezw_iload rfl rfl ?_
                refine ezw_iload rfl rfl ?_
                refine ezw_call0_5 rfl (by omega) (ezm_at rfl) rfl rfl rfl rfl (ezm_m305_v1100 hT (by omega) ha2 ha3 ha4 hc9 (by omega) (by omega) (by omega) (by omega)) ?_
                rintro _ _ ⟨rfl, u18, hu18, rfl⟩
                refine ezw_bipush (11) rfl rfl ?_
                refine ezw_iload rfl rfl ?_
                refine ezw_iadd (k := c9 + 11) rfl (by omega) ?_
                refine ezw_call0_2 rfl (by omega) (ezm_at rfl) rfl rfl rfl rfl (ezm_m304 hT (by omega) hu18 ⟨by omega, by omega⟩ (by omega)) ?_
                rintro _ _ ⟨x29_19, x30_19, rfl, hT, p19_0, rfl⟩
                have k20 := hT.t29
                have k21 := hT.t30
                refine ezw_iinc (k := c9 + 1) (1) rfl rfl rfl (by omega) rfl ?_
                refine ezw_goto rfl rfl ?_
                exact ezw_keepE [true, true, true, true, true, true] (ihc9 (c9 + 1) (by omega) ⟨by omega, by omega⟩ x29_19 x30_19 hT (by omega) (by omega))
          exact ezw_keepE [true, true, true, true, true, true] (L177_10 (0) ⟨by decide, by decide⟩ x29_8 x30_8 hT (by omega) (by omega))
        refine ezw_if_ne rfl rfl ha3 (fun h80_7 => ?_) (fun h80_7 => ?_)
        · exact ezw_keepE [true, true, true, true, true, true] (J174_8 x29_7 x30_7 hT (by omega))
        · refine ezw_aload_n rfl rfl ?_
          refine ezm_gp (p := 78) rfl (fun _ => rfl) ?_
          refine ezw_bipush (9) rfl rfl ?_
          refine ezm_l78 rfl (by omega) (by omega) (fun u22 eu22 => ?_)
          have ku22 : ezm_k78 (9) u22 := eu22 ▸ hT.t78 (9)
          refine ezw_if_le rfl rfl (ezm_in78 ku22) (fun h90_22 => ?_) (fun h90_22 => ?_)
          · exact ezw_keepE [true, true, true, true, true, true] (J174_8 x29_7 x30_7 hT (by omega))
          · refine ezw_aload_n rfl rfl ?_
            refine ezm_gp (p := 88) rfl (fun _ => rfl) ?_
            refine ezw_iload_n rfl rfl ?_
            refine ezw_bipush (16) rfl rfl ?_
            refine ezw_iadd (k := (1116)) rfl (by omega) ?_
            refine ezm_l88 rfl (by omega) (by omega) (fun u23 eu23 => ?_)
            have ku23 : ezm_k88 (1116) u23 := eu23 ▸ hT.t88 (1116)
            refine ezw_aload_n rfl rfl ?_
            refine ezw_aload_n rfl rfl ?_
            refine ezm_gp (p := 88) rfl (fun _ => rfl) ?_
            refine ezw_iload_n rfl rfl ?_
            refine ezw_iconst (1) rfl rfl ?_
            refine ezw_iadd (k := (1101)) rfl (by omega) ?_
            refine ezw_iload_n rfl rfl ?_
            refine ezw_iadd (k := a2 + 1101) rfl (by omega) ?_
            refine ezw_iconst (1) rfl rfl ?_
            refine ezw_isub (k := a2 + 1100) rfl (by omega) ?_
            refine ezm_l88 rfl (by omega) (by omega) (fun u24 eu24 => ?_)
            have ku24 : ezm_k88 (a2 + 1100) u24 := eu24 ▸ hT.t88 (a2 + 1100)
            have zu24 := ezm_z07 ku24 (by omega)
            refine ezw_iconst (2) rfl rfl ?_
            refine ezw_call0_2 rfl (by omega) (ezm_at rfl) rfl rfl rfl rfl (ezm_m259_v2 hT (by omega) (ezm_in88 ku24) (by omega)) ?_
            rintro _ _ ⟨rfl, u26, hu26, tw_25, rfl⟩
            refine ezw_icmp_ne rfl rfl (ezm_in88 ku23) hu26 (fun h119_26 => ?_) (fun h119_26 => ?_)
            · exact ezw_keepE [true, true, true, true, true, true] (J174_8 x29_7 x30_7 hT (by omega))
            · refine ezw_aload_n rfl rfl ?_
              refine ezw_aload_n rfl rfl ?_
              refine ezm_gp (p := 78) rfl (fun _ => rfl) ?_
              refine ezw_bipush (9) rfl rfl ?_
              refine ezm_l78 rfl (by omega) (by omega) (fun u27 eu27 => ?_)
              have fu27 : u22 = u27 := eu22.trans eu27.symm
              subst fu27
              refine ezw_i2l rfl (ezm_in78 ku22) rfl ?_
              refine ezw_aload_n rfl rfl ?_
              refine ezw_iload_n rfl rfl ?_
              refine ezw_iload_n rfl rfl ?_
              refine ezw_iload rfl rfl ?_
              refine ezw_call0_3 rfl (by omega) (ezm_at rfl) rfl rfl rfl rfl (ezm_m301_v1100 hT (by omega) ha2 ha4 (by omega) (by omega)) ?_
              rintro _ _ ⟨rfl, u29, hu29, rfl⟩
              refine ezw_i2l rfl hu29 rfl ?_
              refine ezs_lmul rfl (fun u30 hu30 => ?_)
              refine ezw_bipush (10) rfl rfl ?_
              refine ezw_aload_n rfl rfl ?_
              refine ezm_gp (p := 78) rfl (fun _ => rfl) ?_
              refine ezw_bipush (9) rfl rfl ?_
              refine ezm_l78 rfl (by omega) (by omega) (fun u31 eu31 => ?_)
              have fu31 : u22 = u31 := eu22.trans eu31.symm
              subst fu31
              refine ezs_isub rfl (fun u32 hu32 => ?_)
              refine ezw_i2l rfl hu32 rfl ?_
              refine ezw_aload_n rfl rfl ?_
              refine ezw_iload_n rfl rfl ?_
              refine ezw_iload_n rfl rfl ?_
              refine ezw_iconst (0) rfl rfl ?_
              refine ezw_iload rfl rfl ?_
              refine ezw_call0_4 rfl (by omega) (ezm_at rfl) rfl rfl rfl rfl (ezm_m302_v1100 hT (by omega) ha2 ⟨by decide, by decide⟩ ha4 (by omega) (by omega) (by omega)) ?_
              rintro _ _ ⟨rfl, u34, hu34, rfl⟩
              refine ezw_i2l rfl hu34 rfl ?_
              refine ezs_lmul rfl (fun u35 hu35 => ?_)
              refine ezs_ladd rfl (fun u36 hu36 => ?_)
              refine ezw_ldc2_w (10) rfl rfl ?_
              refine ezs_ldiv rfl hu36 ⟨by decide, by decide⟩ (by omega) (fun u37 hu37 => ?_)
              refine ezs_l2i rfl (fun u38 hu38 => ?_)
              refine ezw_bipush (10) rfl rfl ?_
              refine ezw_call0_2 rfl (by omega) (ezm_at rfl) rfl rfl rfl rfl (ezm_m304 hT (by omega) hu38 ⟨by decide, by decide⟩ (by omega)) ?_
              rintro _ _ ⟨x29_39, x30_39, rfl, hT, p39_0, rfl⟩
              have k40 := hT.t29
              have k41 := hT.t30
              exact ezw_keepE [true, true, true, true, true, true] (J174_8 x29_39 x30_39 hT (by omega))
      refine ezw_if_le rfl rfl ha3 (fun h59_6 => ?_) (fun h59_6 => ?_)
      · exact ezw_keepE [true, true, true, true, true, true] (J79_7 x29_4 x30_4 hT (by omega))
      · refine ezw_aload_n rfl rfl ?_
        refine ezw_aload_n rfl rfl ?_
        refine ezw_iload_n rfl rfl ?_
        refine ezw_iload_n rfl rfl ?_
        refine ezw_iload_n rfl rfl ?_
        refine ezw_iconst (1) rfl rfl ?_
        refine ezw_isub (k := a3 - 1) rfl (by omega) ?_
        refine ezw_iload rfl rfl ?_
        refine ezw_call0_4 rfl (by omega) (ezm_at rfl) rfl rfl rfl rfl (ezm_m302_v1100 hT (by omega) ha2 ⟨by omega, by omega⟩ ha4 (by omega) (by omega) (by omega)) ?_
        rintro _ _ ⟨rfl, u43, hu43, rfl⟩
        refine ezw_bipush (9) rfl rfl ?_
        refine ezw_call0_2 rfl (by omega) (ezm_at rfl) rfl rfl rfl rfl (ezm_m304 hT (by omega) hu43 ⟨by decide, by decide⟩ (by omega)) ?_
        rintro _ _ ⟨x29_44, x30_44, rfl, hT, p44_0, rfl⟩
        have k45 := hT.t29
        have k46 := hT.t30
        exact ezw_keepE [true, true, true, true, true, true] (J79_7 x29_44 x30_44 hT (by omega))
    · refine ezw_aload_n rfl rfl ?_
      refine ezw_aload_n rfl rfl ?_
      refine ezw_iload_n rfl rfl ?_
      refine ezw_iload_n rfl rfl ?_
      refine ezw_iload_n rfl rfl ?_
      refine ezw_iload rfl rfl ?_
      refine ezw_iload rfl rfl ?_
      refine ezw_iconst (4) rfl rfl ?_
      refine ezm_irem rfl hc3 ⟨by decide, by decide⟩ (by decide) (fun u47 hu47 ku47 => ?_)
      refine ezw_iload rfl rfl ?_
      refine ezw_iconst (4) rfl rfl ?_
      refine ezm_idiv rfl hc3 ⟨by decide, by decide⟩ (by decide) (fun u48 hu48 ku48 => ?_)
      refine ezw_call0_6 rfl (by omega) (ezm_at rfl) rfl rfl rfl rfl (ezm_m300_v1100 hT (by omega) ha2 ha3 ha4 hu47 hu48 (by omega) (by omega) (by omega) (by omega) tr) ?_
      rintro _ _ ⟨x86_49, x87_49, rfl, hT, u50, hu50, rfl⟩
      refine ezw_iconst (1) rfl rfl ?_
      refine ezw_iload rfl rfl ?_
      refine ezw_iadd (k := c3 + 1) rfl (by omega) ?_
      refine ezw_call0_2 rfl (by omega) (ezm_at rfl) rfl rfl rfl rfl (ezm_m304 hT (by omega) hu50 ⟨by omega, by omega⟩ (by omega)) ?_
      rintro _ _ ⟨x29_51, x30_51, rfl, hT, p51_0, rfl⟩
      have k52 := hT.t29
      have k53 := hT.t30
      refine ezw_iinc (k := c3 + 1) (1) rfl rfl rfl (by omega) rfl ?_
      refine ezw_goto rfl rfl ?_
      exact ezw_keepE [true, true, true, true, true, true] (ihc3 (c3 + 1) (by omega) ⟨by omega, by omega⟩ x29_51 x30_51 x86_49 x87_49 hT (by omega) (by omega))
  exact ezw_keepE [true, true, true, true, true, true] (L20_4 (0) ⟨by decide, by decide⟩ (0) u2 r86 r87 hT (by omega) (by omega))
def ezm_m297_v0Q (e : Bool × Bool) (F : Nat → Nat → Int) (A : Nat → Int → Int) (i0 i2 i3 i7 i8 i13 i18 i19 i20 i25 i29 i30 i31 i36 i37 i38 : Int) (r73 r74 r75 r76 r77 r78 r79 r80 r81 r82 r83 r84 r85 r86 r87 r88 r89 r90 r91 r92 r93 r94 r95 : Int → Int) (a2 : Int) : Option ezq_V → (Nat → ezq_C) → Prop := fun v g' => ∃ (x29 x30 x31 : Int) (x86 x87 x90 x91 : Int → Int), ezm_h e F A i0 i2 i3 i7 i8 i13 i18 i19 i20 i25 x29 x30 x31 i36 i37 i38 r73 r74 r75 r76 r77 r78 r79 r80 r81 r82 r83 r84 r85 x86 x87 r88 r89 x90 x91 r92 r93 r94 r95 = g' ∧ ezm_T i0 i2 i3 i7 i8 i13 i18 i19 i20 i25 x29 x30 x31 i36 i37 i38 r73 r74 r75 r76 r77 r78 r79 r80 r81 r82 r83 r84 r85 x86 x87 r88 r89 x90 x91 r92 r93 r94 r95 ∧ (x29 = 9 → 0 < r88 (ezm_la r88 (0) + 7)) ∧ none = v
theorem ezm_m297_v0 {a2 : Int} (hT : ezm_T i0 i2 i3 i7 i8 i13 i18 i19 i20 i25 i29 i30 i31 i36 i37 i38 r73 r74 r75 r76 r77 r78 r79 r80 r81 r82 r83 r84 r85 r86 r87 r88 r89 r90 r91 r92 r93 r94 r95) (hd : 6 ≤ d) (ha2 : ezw_in a2) (ga : 0 ≤ a2 ∧ a2 ≤ 6) (tr : ezm_TR r78 r79 r80) (sv : ezm_SV r78 r88 (0)) : ezw_C l ρ B xa Hb D cA 297 d [ezw_p 72, ezw_i (0), ezw_i a2] (ezm_h e F A i0 i2 i3 i7 i8 i13 i18 i19 i20 i25 i29 i30 i31 i36 i37 i38 r73 r74 r75 r76 r77 r78 r79 r80 r81 r82 r83 r84 r85 r86 r87 r88 r89 r90 r91 r92 r93 r94 r95) (ezm_m297_v0Q  e F A i0 i2 i3 i7 i8 i13 i18 i19 i20 i25 i29 i30 i31 i36 i37 i38 r73 r74 r75 r76 r77 r78 r79 r80 r81 r82 r83 r84 r85 r86 r87 r88 r89 r90 r91 r92 r93 r94 r95 a2) := by
  refine ezw_met (k := 2) rfl rfl ?_
  refine ezw_aload_n rfl rfl ?_
  refine ezw_iconst (0) rfl rfl ?_
  refine ezm_p29 hT rfl ⟨by omega, by omega⟩ (fun hT => ?_)
  refine ezw_aload_n rfl rfl ?_
  refine ezw_sipush (1000) rfl rfl ?_
  refine ezw_aload_n rfl rfl ?_
  refine ezw_iload_n rfl rfl ?_
  refine ezw_call0_1 rfl (by omega) (ezm_at rfl) rfl rfl rfl rfl (ezm_m293_v0 hT (by omega)) ?_
  rintro _ _ ⟨rfl, u2, hu2, rfl⟩
  refine ezs_imul rfl (fun u3 hu3 => ?_)
  refine ezm_p31 hT rfl hu3 (fun hT => ?_)
  refine ezw_aload_n rfl rfl ?_
  refine ezw_iload_n rfl rfl ?_
  refine ezw_call0_1 rfl (by omega) (ezm_at rfl) rfl rfl rfl rfl (ezm_m266_v0 hT (by omega)) ?_
  rintro _ _ ⟨rfl, u5, hu5, p4_0, p4_1, rfl⟩
  refine ezw_if_eq rfl rfl ⟨by omega, by omega⟩ (fun h23_5 => ?_) (fun h23_5 => ?_)
  · exact ezw_return rfl rfl ⟨(0), i30, u3, r86, r87, r90, r91, rfl, hT, fun z => absurd z (by omega), rfl⟩
  · refine ezw_iload_n rfl rfl ?_
    refine ezw_if_ne rfl rfl ha2 (fun h27_5 => ?_) (fun h27_5 => ?_)
    · have hm : 1 ≤ r88 (0) := sv.1 (show r88 (17) = 0 by omega)
      refine ezw_iconst (0) rfl rfl ?_
      refine ezw_istore_n rfl rfl ?_
      have L33_7 : ∀ c6 : Int, ezw_in c6 → ∀ x91_7 : Int → Int, ezm_T i0 i2 i3 i7 i8 i13 i18 i19 i20 i25 (0) i30 u3 i36 i37 i38 r73 r74 r75 r76 r77 r78 r79 r80 r81 r82 r83 r84 r85 r86 r87 r88 r89 r90 x91_7 r92 r93 r94 r95 → ((0) ≤ c6) → ezw_E l ρ B xa Hb D cA d ezq_re297 (ezm_m297_v0Q  e F A i0 i2 i3 i7 i8 i13 i18 i19 i20 i25 i29 i30 i31 i36 i37 i38 r73 r74 r75 r76 r77 r78 r79 r80 r81 r82 r83 r84 r85 r86 r87 r88 r89 r90 r91 r92 r93 r94 r95 a2) 33 [some (ezw_p 72), some (ezw_i (0)), some (ezw_i a2), some (ezw_i c6), none] [] (ezm_h e F A i0 i2 i3 i7 i8 i13 i18 i19 i20 i25 (0) i30 u3 i36 i37 i38 r73 r74 r75 r76 r77 r78 r79 r80 r81 r82 r83 r84 r85 r86 r87 r88 r89 r90 x91_7 r92 r93 r94 r95) := by
        refine ezs_up ?_
        intro c6 hc6 ihc6 x91_7 hT g_7
        refine ezw_iload_n rfl rfl ?_
        refine ezw_sipush (1120) rfl rfl ?_
        refine ezw_icmp_ge rfl rfl hc6 ⟨by decide, by decide⟩ (fun h37_7 => ?_) (fun h37_7 => ?_)
        · refine ezw_iconst (1) rfl rfl ?_
          refine ezw_istore_n rfl rfl ?_
          have L64_9 : ∀ c8 : Int, ezw_in c8 → ∀ x29_9 : Int, ∀ x30_9 : Int, ∀ x86_9 : Int → Int, ∀ x87_9 : Int → Int, ∀ x90_9 : Int → Int, ∀ x91_9 : Int → Int, ezm_T i0 i2 i3 i7 i8 i13 i18 i19 i20 i25 x29_9 x30_9 u3 i36 i37 i38 r73 r74 r75 r76 r77 r78 r79 r80 r81 r82 r83 r84 r85 x86_9 x87_9 r88 r89 x90_9 x91_9 r92 r93 r94 r95 → ((1) ≤ c8) → ezw_E l ρ B xa Hb D cA d ezq_re297 (ezm_m297_v0Q  e F A i0 i2 i3 i7 i8 i13 i18 i19 i20 i25 i29 i30 i31 i36 i37 i38 r73 r74 r75 r76 r77 r78 r79 r80 r81 r82 r83 r84 r85 r86 r87 r88 r89 r90 r91 r92 r93 r94 r95 a2) 64 [some (ezw_p 72), some (ezw_i (0)), some (ezw_i a2), some (ezw_i c8), none] [] (ezm_h e F A i0 i2 i3 i7 i8 i13 i18 i19 i20 i25 x29_9 x30_9 u3 i36 i37 i38 r73 r74 r75 r76 r77 r78 r79 r80 r81 r82 r83 r84 r85 x86_9 x87_9 r88 r89 x90_9 x91_9 r92 r93 r94 r95) := by
            refine ezs_up ?_
            intro c8 hc8 ihc8 x29_9 x30_9 x86_9 x87_9 x90_9 x91_9 hT g_9
            have k10 := hT.t29
            have k11 := hT.t30
            refine ezw_iload_n rfl rfl ?_
            refine ezw_iload_n rfl rfl ?_
            refine ezw_icmp_ge rfl rfl hc8 ha2 (fun h66_11 => ?_) (fun h66_11 => ?_)
            · refine ezw_aload_n rfl rfl ?_
              refine ezw_aload_n rfl rfl ?_
              refine ezw_iload_n rfl rfl ?_
              refine ezw_aload_n rfl rfl ?_
              refine ezm_gp (p := 88) rfl (fun _ => rfl) ?_
              refine ezw_iload_n rfl rfl ?_
              refine ezw_iconst (0) rfl rfl ?_
              refine ezw_iadd (k := (0)) rfl (by omega) ?_
              refine ezm_l88 rfl (by omega) (by omega) (fun u12 eu12 => ?_)
              have ku12 : ezm_k88 (0) u12 := eu12 ▸ hT.t88 (0)
              have zu12 := ezm_zs0 ku12 (by omega)
              refine ezw_aload_n rfl rfl ?_
              refine ezm_gp (p := 88) rfl (fun _ => rfl) ?_
              refine ezw_iload_n rfl rfl ?_
              refine ezw_bipush (7) rfl rfl ?_
              refine ezw_iadd (k := (7)) rfl (by omega) ?_
              refine ezw_aload_n rfl rfl ?_
              refine ezw_iload_n rfl rfl ?_
              refine ezw_call0_1 rfl (by omega) (ezm_at rfl) rfl rfl rfl rfl (ezm_m268_v0 hT (by omega)) ?_
              rintro _ _ ⟨rfl, u14, hu14, p13_0, la_13, rfl⟩
              refine ezw_iadd (k := u14 + 7) rfl (by omega) ?_
              refine ezm_l88 rfl (by omega) (by omega) (fun u15 eu15 => ?_)
              have ku15 : ezm_k88 (u14 + 7) u15 := eu15 ▸ hT.t88 (u14 + 7)
              have zu15 := ezm_zs7 ku15 (by omega)
              refine ezw_aload_n rfl rfl ?_
              refine ezm_gp (p := 88) rfl (fun _ => rfl) ?_
              refine ezw_iload_n rfl rfl ?_
              refine ezw_bipush (19) rfl rfl ?_
              refine ezw_iadd (k := (19)) rfl (by omega) ?_
              refine ezm_l88 rfl (by omega) (by omega) (fun u16 eu16 => ?_)
              have ku16 : ezm_k88 (19) u16 := eu16 ▸ hT.t88 (19)
              have zu16 := ezm_zs19 ku16 (by omega)
              refine ezw_call0_4 rfl (by omega) (ezm_at rfl) rfl rfl rfl rfl (ezm_m299_v0 hT (by omega) (ezm_in88 ku12) (ezm_in88 ku15) (ezm_in88 ku16) (by omega) (by omega) (by omega) tr) ?_
              rintro _ _ ⟨x29_17, x30_17, x86_17, x87_17, rfl, hT, u18, hu18, p17_0, rfl⟩
              have k19 := hT.t29
              have k20 := hT.t30
              refine ezm_p31 hT rfl hu18 (fun hT => ?_)
              exact ezw_return rfl rfl ⟨x29_17, x30_17, u18, x86_17, x87_17, x90_9, x91_9, rfl, hT, fun z => by rw [← la_13, ← eu15]; omega, rfl⟩
            · refine ezw_sipush (160) rfl rfl ?_
              refine ezw_istore rfl rfl ?_
              have L74_22 : ∀ c21 : Int, ezw_in c21 → ∀ x29_22 : Int, ∀ x30_22 : Int, ∀ x86_22 : Int → Int, ∀ x87_22 : Int → Int, ∀ x90_22 : Int → Int, ezm_T i0 i2 i3 i7 i8 i13 i18 i19 i20 i25 x29_22 x30_22 u3 i36 i37 i38 r73 r74 r75 r76 r77 r78 r79 r80 r81 r82 r83 r84 r85 x86_22 x87_22 r88 r89 x90_22 x91_9 r92 r93 r94 r95 → ((160) ≤ c21) → ezw_E l ρ B xa Hb D cA d ezq_re297 (ezm_m297_v0Q  e F A i0 i2 i3 i7 i8 i13 i18 i19 i20 i25 i29 i30 i31 i36 i37 i38 r73 r74 r75 r76 r77 r78 r79 r80 r81 r82 r83 r84 r85 r86 r87 r88 r89 r90 r91 r92 r93 r94 r95 a2) 74 [some (ezw_p 72), some (ezw_i (0)), some (ezw_i a2), some (ezw_i c8), some (ezw_i c21)] [] (ezm_h e F A i0 i2 i3 i7 i8 i13 i18 i19 i20 i25 x29_22 x30_22 u3 i36 i37 i38 r73 r74 r75 r76 r77 r78 r79 r80 r81 r82 r83 r84 r85 x86_22 x87_22 r88 r89 x90_22 x91_9 r92 r93 r94 r95) := by
                refine ezs_up ?_
                intro c21 hc21 ihc21 x29_22 x30_22 x86_22 x87_22 x90_22 hT g_22
                have k23 := hT.t29
                have k24 := hT.t30
                refine ezw_iload rfl rfl ?_
                refine ezw_sipush (160) rfl rfl ?_
                refine ezw_aload_n rfl rfl ?_
                refine ezm_gp (p := 88) rfl (fun _ => rfl) ?_
                refine ezw_iload_n rfl rfl ?_
                refine ezw_iconst (0) rfl rfl ?_
                refine ezw_iadd (k := (0)) rfl (by omega) ?_
                refine ezm_l88 rfl (by omega) (by omega) (fun u25 eu25 => ?_)
                have ku25 : ezm_k88 (0) u25 := eu25 ▸ hT.t88 (0)
                have zu25 := ezm_zs0 ku25 (by omega)
                refine ezw_iconst (1) rfl rfl ?_
                refine ezw_iadd (k := u25 + 1) rfl (by omega) ?_
                refine ezw_imul (k := 160 * u25 + 160) rfl (by omega) ?_
                refine ezw_icmp_ge rfl rfl hc21 ⟨by omega, by omega⟩ (fun h90_25 => ?_) (fun h90_25 => ?_)
                · refine ezw_sipush (160) rfl rfl ?_
                  refine ezw_istore rfl rfl ?_
                  have L144_27 : ∀ c26 : Int, ezw_in c26 → ∀ x91_27 : Int → Int, ezm_T i0 i2 i3 i7 i8 i13 i18 i19 i20 i25 x29_22 x30_22 u3 i36 i37 i38 r73 r74 r75 r76 r77 r78 r79 r80 r81 r82 r83 r84 r85 x86_22 x87_22 r88 r89 x90_22 x91_27 r92 r93 r94 r95 → ((160) ≤ c26) → ezw_E l ρ B xa Hb D cA d ezq_re297 (ezm_m297_v0Q  e F A i0 i2 i3 i7 i8 i13 i18 i19 i20 i25 i29 i30 i31 i36 i37 i38 r73 r74 r75 r76 r77 r78 r79 r80 r81 r82 r83 r84 r85 r86 r87 r88 r89 r90 r91 r92 r93 r94 r95 a2) 144 [some (ezw_p 72), some (ezw_i (0)), some (ezw_i a2), some (ezw_i c8), some (ezw_i c26)] [] (ezm_h e F A i0 i2 i3 i7 i8 i13 i18 i19 i20 i25 x29_22 x30_22 u3 i36 i37 i38 r73 r74 r75 r76 r77 r78 r79 r80 r81 r82 r83 r84 r85 x86_22 x87_22 r88 r89 x90_22 x91_27 r92 r93 r94 r95) := by
                    refine ezs_up ?_
                    intro c26 hc26 ihc26 x91_27 hT g_27
                    refine ezw_iload rfl rfl ?_
                    refine ezw_sipush (1120) rfl rfl ?_
                    refine ezw_icmp_ge rfl rfl hc26 ⟨by decide, by decide⟩ (fun h149_27 => ?_) (fun h149_27 => ?_)
                    · refine ezw_iinc (k := c8 + 1) (1) rfl rfl rfl (by omega) rfl ?_
                      refine ezw_goto rfl rfl ?_
                      exact ezw_keepE [true, true, true, true, false] (ihc8 (c8 + 1) (by omega) ⟨by omega, by omega⟩ x29_22 x30_22 x86_22 x87_22 x90_22 x91_27 hT (by omega))
                    · refine ezw_aload_n rfl rfl ?_
                      refine ezm_gp (p := 91) rfl (fun _ => rfl) ?_
                      refine ezw_iload rfl rfl ?_
                      refine ezw_aload_n rfl rfl ?_
                      refine ezm_gp (p := 90) rfl (fun _ => rfl) ?_
                      refine ezw_iload rfl rfl ?_
                      refine ezm_l90 rfl (by omega) (by omega) (fun u28 eu28 => ?_)
                      have ku28 : ezw_in u28 := eu28 ▸ hT.t90 c26
                      refine ezm_s91 hT rfl (by omega) (by omega) ku28 (fun r91_29 hT er91_29 fr91_29 => ?_)
                      refine ezw_iinc (k := c26 + 1) (1) rfl rfl rfl (by omega) rfl ?_
                      refine ezw_goto rfl rfl ?_
                      exact ezw_keepE [true, true, true, true, true] (ihc26 (c26 + 1) (by omega) ⟨by omega, by omega⟩ r91_29 hT (by omega))
                  exact ezw_keepE [true, true, true, true, true] (L144_27 (160) ⟨by decide, by decide⟩ x91_9 hT (by omega))
                · refine ezw_aload_n rfl rfl ?_
                  refine ezm_gp (p := 90) rfl (fun _ => rfl) ?_
                  refine ezw_iload rfl rfl ?_
                  refine ezw_aload_n rfl rfl ?_
                  refine ezw_iload_n rfl rfl ?_
                  refine ezw_iload rfl rfl ?_
                  refine ezw_sipush (160) rfl rfl ?_
                  refine ezm_idiv rfl hc21 ⟨by decide, by decide⟩ (by decide) (fun u30 hu30 ku30 => ?_)
                  refine ezw_iload rfl rfl ?_
                  refine ezw_bipush (16) rfl rfl ?_
                  refine ezm_idiv rfl hc21 ⟨by decide, by decide⟩ (by decide) (fun u31 hu31 ku31 => ?_)
                  refine ezw_bipush (10) rfl rfl ?_
                  refine ezm_irem rfl hu31 ⟨by decide, by decide⟩ (by decide) (fun u32 hu32 ku32 => ?_)
                  refine ezw_iload rfl rfl ?_
                  refine ezw_bipush (16) rfl rfl ?_
                  refine ezm_irem rfl hc21 ⟨by decide, by decide⟩ (by decide) (fun u33 hu33 ku33 => ?_)
                  refine ezw_iconst (1) rfl rfl ?_
                  refine ezw_aload_n rfl rfl ?_
                  refine ezw_call0_0 rfl (by omega) (ezm_at rfl) rfl rfl rfl rfl (ezm_m216 hT (by omega)) ?_
                  rintro _ _ ⟨rfl, u35, hu35, p34_0, p34_1, rfl⟩
                  refine ezm_ishl1 rfl (by omega) (by omega) (fun u36 hu36 ku36 => ?_)
                  refine ezw_iconst (1) rfl rfl ?_
                  refine ezw_isub (k := u36 - 1) rfl (by omega) ?_
                  refine ezm_iand rfl (fun u37 hu37 ku37 => ?_)
                  refine ezw_call0_4 rfl (by omega) (ezm_at rfl) rfl rfl rfl rfl (ezm_m299_v0 hT (by omega) hu30 hu32 hu37 (by omega) (by omega) (by omega) tr) ?_
                  rintro _ _ ⟨x29_38, x30_38, x86_38, x87_38, rfl, hT, u39, hu39, p38_0, rfl⟩
                  have k40 := hT.t29
                  have k41 := hT.t30
                  refine ezm_s90 hT rfl (by omega) (by omega) hu39 (fun r90_42 hT er90_42 fr90_42 => ?_)
                  refine ezw_iinc (k := c21 + 1) (1) rfl rfl rfl (by omega) rfl ?_
                  refine ezw_goto rfl rfl ?_
                  exact ezw_keepE [true, true, true, true, true] (ihc21 (c21 + 1) (by omega) ⟨by omega, by omega⟩ x29_38 x30_38 x86_38 x87_38 r90_42 hT (by omega))
              exact ezw_keepE [true, true, true, true, true] (L74_22 (160) ⟨by decide, by decide⟩ x29_9 x30_9 x86_9 x87_9 x90_9 hT (by omega))
          exact ezw_keepE [true, true, true, true, false] (L64_9 (1) ⟨by decide, by decide⟩ (0) i30 r86 r87 r90 x91_7 hT (by omega))
        · refine ezw_aload_n rfl rfl ?_
          refine ezm_gp (p := 91) rfl (fun _ => rfl) ?_
          refine ezw_iload_n rfl rfl ?_
          refine ezw_aload_n rfl rfl ?_
          refine ezw_iload_n rfl rfl ?_
          refine ezw_iload_n rfl rfl ?_
          refine ezw_bipush (16) rfl rfl ?_
          refine ezm_irem rfl hc6 ⟨by decide, by decide⟩ (by decide) (fun u43 hu43 ku43 => ?_)
          refine ezw_iconst (0) rfl rfl ?_
          refine ezw_call0_3 rfl (by omega) (ezm_at rfl) rfl rfl rfl rfl (ezm_m298_v0 hT (by omega) hu43 ⟨by decide, by decide⟩) ?_
          rintro _ _ ⟨rfl, u45, hu45, rfl⟩
          refine ezm_s91 hT rfl (by omega) (by omega) hu45 (fun r91_46 hT er91_46 fr91_46 => ?_)
          refine ezw_iinc (k := c6 + 1) (1) rfl rfl rfl (by omega) rfl ?_
          refine ezw_goto rfl rfl ?_
          exact ezw_keepE [true, true, true, true, false] (ihc6 (c6 + 1) (by omega) ⟨by omega, by omega⟩ r91_46 hT (by omega))
      exact ezw_keepE [true, true, true, true, false] (L33_7 (0) ⟨by decide, by decide⟩ r91 hT (by omega))
    · exact ezw_return rfl rfl ⟨(0), i30, u3, r86, r87, r90, r91, rfl, hT, fun z => absurd z (by omega), rfl⟩
def ezm_m266_v1100Q (e : Bool × Bool) (F : Nat → Nat → Int) (A : Nat → Int → Int) (i0 i2 i3 i7 i8 i13 i18 i19 i20 i25 i29 i30 i31 i36 i37 i38 : Int) (r73 r74 r75 r76 r77 r78 r79 r80 r81 r82 r83 r84 r85 r86 r87 r88 r89 r90 r91 r92 r93 r94 r95 : Int → Int) : Option ezq_V → (Nat → ezq_C) → Prop := fun v g' => ezm_h e F A i0 i2 i3 i7 i8 i13 i18 i19 i20 i25 i29 i30 i31 i36 i37 i38 r73 r74 r75 r76 r77 r78 r79 r80 r81 r82 r83 r84 r85 r86 r87 r88 r89 r90 r91 r92 r93 r94 r95 = g' ∧ ∃ u : Int, (0 ≤ u ∧ u ≤ 1) ∧ (u = 1 → r88 1117 = 0) ∧ (u = 0 → r88 1117 ≠ 0) ∧ some (ezw_i u) = v
theorem ezm_m266_v1100 (hT : ezm_T i0 i2 i3 i7 i8 i13 i18 i19 i20 i25 i29 i30 i31 i36 i37 i38 r73 r74 r75 r76 r77 r78 r79 r80 r81 r82 r83 r84 r85 r86 r87 r88 r89 r90 r91 r92 r93 r94 r95) (hd : 0 ≤ d) : ezw_C l ρ B xa Hb D cA 266 d [ezw_p 72, ezw_i (1100)] (ezm_h e F A i0 i2 i3 i7 i8 i13 i18 i19 i20 i25 i29 i30 i31 i36 i37 i38 r73 r74 r75 r76 r77 r78 r79 r80 r81 r82 r83 r84 r85 r86 r87 r88 r89 r90 r91 r92 r93 r94 r95) (ezm_m266_v1100Q  e F A i0 i2 i3 i7 i8 i13 i18 i19 i20 i25 i29 i30 i31 i36 i37 i38 r73 r74 r75 r76 r77 r78 r79 r80 r81 r82 r83 r84 r85 r86 r87 r88 r89 r90 r91 r92 r93 r94 r95) := by
  refine ezw_met (k := 0) rfl rfl ?_
  refine ezw_aload_n rfl rfl ?_
  refine ezm_gp (p := 88) rfl (fun _ => rfl) ?_
  refine ezw_iload_n rfl rfl ?_
  refine ezw_bipush (17) rfl rfl ?_
  refine ezw_iadd (k := (1117)) rfl (by omega) ?_
  refine ezm_l88 rfl (by omega) (by omega) (fun u1 eu1 => ?_)
  have ku1 : ezm_k88 (1117) u1 := eu1 ▸ hT.t88 (1117)
  refine ezw_if_ne rfl rfl (ezm_in88 ku1) (fun h9_1 => ?_) (fun h9_1 => ?_)
  · refine ezw_iconst (0) rfl rfl ?_
    exact ezw_ireturn rfl (ezw_zret ⟨by omega, by omega⟩) ⟨rfl, (0), ⟨by omega, by omega⟩, by omega, by omega, rfl⟩
  · refine ezw_iconst (1) rfl rfl ?_
    refine ezw_goto rfl rfl ?_
    exact ezw_ireturn rfl (ezw_zret ⟨by omega, by omega⟩) ⟨rfl, (1), ⟨by omega, by omega⟩, by omega, by omega, rfl⟩
def ezm_m297_v1100Q (e : Bool × Bool) (F : Nat → Nat → Int) (A : Nat → Int → Int) (i0 i2 i3 i7 i8 i13 i18 i19 i20 i25 i29 i30 i31 i36 i37 i38 : Int) (r73 r74 r75 r76 r77 r78 r79 r80 r81 r82 r83 r84 r85 r86 r87 r88 r89 r90 r91 r92 r93 r94 r95 : Int → Int) (a2 : Int) : Option ezq_V → (Nat → ezq_C) → Prop := fun v g' => ∃ (x29 x30 x31 : Int) (x86 x87 x90 x91 : Int → Int), ezm_h e F A i0 i2 i3 i7 i8 i13 i18 i19 i20 i25 x29 x30 x31 i36 i37 i38 r73 r74 r75 r76 r77 r78 r79 r80 r81 r82 r83 r84 r85 x86 x87 r88 r89 x90 x91 r92 r93 r94 r95 = g' ∧ ezm_T i0 i2 i3 i7 i8 i13 i18 i19 i20 i25 x29 x30 x31 i36 i37 i38 r73 r74 r75 r76 r77 r78 r79 r80 r81 r82 r83 r84 r85 x86 x87 r88 r89 x90 x91 r92 r93 r94 r95 ∧ (x29 = 9 → 0 < r88 (ezm_la r88 (1100) + 1107)) ∧ none = v
theorem ezm_m297_v1100 {a2 : Int} (hT : ezm_T i0 i2 i3 i7 i8 i13 i18 i19 i20 i25 i29 i30 i31 i36 i37 i38 r73 r74 r75 r76 r77 r78 r79 r80 r81 r82 r83 r84 r85 r86 r87 r88 r89 r90 r91 r92 r93 r94 r95) (hd : 6 ≤ d) (ha2 : ezw_in a2) (ga : 0 ≤ a2 ∧ a2 ≤ 6) (tr : ezm_TR r78 r79 r80) (sv : ezm_SV r78 r88 (1100)) : ezw_C l ρ B xa Hb D cA 297 d [ezw_p 72, ezw_i (1100), ezw_i a2] (ezm_h e F A i0 i2 i3 i7 i8 i13 i18 i19 i20 i25 i29 i30 i31 i36 i37 i38 r73 r74 r75 r76 r77 r78 r79 r80 r81 r82 r83 r84 r85 r86 r87 r88 r89 r90 r91 r92 r93 r94 r95) (ezm_m297_v1100Q  e F A i0 i2 i3 i7 i8 i13 i18 i19 i20 i25 i29 i30 i31 i36 i37 i38 r73 r74 r75 r76 r77 r78 r79 r80 r81 r82 r83 r84 r85 r86 r87 r88 r89 r90 r91 r92 r93 r94 r95 a2) := by
  refine ezw_met (k := 2) rfl rfl ?_
  refine ezw_aload_n rfl rfl ?_
  refine ezw_iconst (0) rfl rfl ?_
  refine ezm_p29 hT rfl ⟨by omega, by omega⟩ (fun hT => ?_)
  refine ezw_aload_n rfl rfl ?_
  refine ezw_sipush (1000) rfl rfl ?_
  refine ezw_aload_n rfl rfl ?_
  refine ezw_iload_n rfl rfl ?_
  refine ezw_call0_1 rfl (by omega) (ezm_at rfl) rfl rfl rfl rfl (ezm_m293_v1100 hT (by omega)) ?_
  rintro _ _ ⟨rfl, u2, hu2, rfl⟩
  refine ezs_imul rfl (fun u3 hu3 => ?_)
  refine ezm_p31 hT rfl hu3 (fun hT => ?_)
  refine ezw_aload_n rfl rfl ?_
  refine ezw_iload_n rfl rfl ?_
  refine ezw_call0_1 rfl (by omega) (ezm_at rfl) rfl rfl rfl rfl (ezm_m266_v1100 hT (by omega)) ?_
  rintro _ _ ⟨rfl, u5, hu5, p4_0, p4_1, rfl⟩
  refine ezw_if_eq rfl rfl ⟨by omega, by omega⟩ (fun h23_5 => ?_) (fun h23_5 => ?_)
  · exact ezw_return rfl rfl ⟨(0), i30, u3, r86, r87, r90, r91, rfl, hT, fun z => absurd z (by omega), rfl⟩
  · refine ezw_iload_n rfl rfl ?_
    refine ezw_if_ne rfl rfl ha2 (fun h27_5 => ?_) (fun h27_5 => ?_)
    · have hm : 1 ≤ r88 (1100) := sv.1 (show r88 (1117) = 0 by omega)
      refine ezw_iconst (0) rfl rfl ?_
      refine ezw_istore_n rfl rfl ?_
      have L33_7 : ∀ c6 : Int, ezw_in c6 → ∀ x91_7 : Int → Int, ezm_T i0 i2 i3 i7 i8 i13 i18 i19 i20 i25 (0) i30 u3 i36 i37 i38 r73 r74 r75 r76 r77 r78 r79 r80 r81 r82 r83 r84 r85 r86 r87 r88 r89 r90 x91_7 r92 r93 r94 r95 → ((0) ≤ c6) → ezw_E l ρ B xa Hb D cA d ezq_re297 (ezm_m297_v1100Q  e F A i0 i2 i3 i7 i8 i13 i18 i19 i20 i25 i29 i30 i31 i36 i37 i38 r73 r74 r75 r76 r77 r78 r79 r80 r81 r82 r83 r84 r85 r86 r87 r88 r89 r90 r91 r92 r93 r94 r95 a2) 33 [some (ezw_p 72), some (ezw_i (1100)), some (ezw_i a2), some (ezw_i c6), none] [] (ezm_h e F A i0 i2 i3 i7 i8 i13 i18 i19 i20 i25 (0) i30 u3 i36 i37 i38 r73 r74 r75 r76 r77 r78 r79 r80 r81 r82 r83 r84 r85 r86 r87 r88 r89 r90 x91_7 r92 r93 r94 r95) := by
        refine ezs_up ?_
        intro c6 hc6 ihc6 x91_7 hT g_7
        refine ezw_iload_n rfl rfl ?_
        refine ezw_sipush (1120) rfl rfl ?_
        refine ezw_icmp_ge rfl rfl hc6 ⟨by decide, by decide⟩ (fun h37_7 => ?_) (fun h37_7 => ?_)
        · refine ezw_iconst (1) rfl rfl ?_
          refine ezw_istore_n rfl rfl ?_
          have L64_9 : ∀ c8 : Int, ezw_in c8 → ∀ x29_9 : Int, ∀ x30_9 : Int, ∀ x86_9 : Int → Int, ∀ x87_9 : Int → Int, ∀ x90_9 : Int → Int, ∀ x91_9 : Int → Int, ezm_T i0 i2 i3 i7 i8 i13 i18 i19 i20 i25 x29_9 x30_9 u3 i36 i37 i38 r73 r74 r75 r76 r77 r78 r79 r80 r81 r82 r83 r84 r85 x86_9 x87_9 r88 r89 x90_9 x91_9 r92 r93 r94 r95 → ((1) ≤ c8) → ezw_E l ρ B xa Hb D cA d ezq_re297 (ezm_m297_v1100Q  e F A i0 i2 i3 i7 i8 i13 i18 i19 i20 i25 i29 i30 i31 i36 i37 i38 r73 r74 r75 r76 r77 r78 r79 r80 r81 r82 r83 r84 r85 r86 r87 r88 r89 r90 r91 r92 r93 r94 r95 a2) 64 [some (ezw_p 72), some (ezw_i (1100)), some (ezw_i a2), some (ezw_i c8), none] [] (ezm_h e F A i0 i2 i3 i7 i8 i13 i18 i19 i20 i25 x29_9 x30_9 u3 i36 i37 i38 r73 r74 r75 r76 r77 r78 r79 r80 r81 r82 r83 r84 r85 x86_9 x87_9 r88 r89 x90_9 x91_9 r92 r93 r94 r95) := by
            refine ezs_up ?_
            intro c8 hc8 ihc8 x29_9 x30_9 x86_9 x87_9 x90_9 x91_9 hT g_9
            have k10 := hT.t29
            have k11 := hT.t30
            refine ezw_iload_n rfl rfl ?_
            refine ezw_iload_n rfl rfl ?_
            refine ezw_icmp_ge rfl rfl hc8 ha2 (fun h66_11 => ?_) (fun h66_11 => ?_)
            · refine ezw_aload_n rfl rfl ?_
              refine ezw_aload_n rfl rfl ?_
              refine ezw_iload_n rfl rfl ?_
              refine ezw_aload_n rfl rfl ?_
              refine ezm_gp (p := 88) rfl (fun _ => rfl) ?_
              refine ezw_iload_n rfl rfl ?_
              refine ezw_iconst (0) rfl rfl ?_
              refine ezw_iadd (k := (1100)) rfl (by omega) ?_
              refine ezm_l88 rfl (by omega) (by omega) (fun u12 eu12 => ?_)
              have ku12 : ezm_k88 (1100) u12 := eu12 ▸ hT.t88 (1100)
              have zu12 := ezm_zs0 ku12 (by omega)
              refine ezw_aload_n rfl rfl ?_
              refine ezm_gp (p := 88) rfl (fun _ => rfl) ?_
              refine ezw_iload_n rfl rfl ?_
              refine ezw_bipush (7) rfl rfl ?_
              refine ezw_iadd (k := (1107)) rfl (by omega) ?_
              refine ezw_aload_n rfl rfl ?_
              refine ezw_iload_n rfl rfl ?_
              refine ezw_call0_1 rfl (by omega) (ezm_at rfl) rfl rfl rfl rfl (ezm_m268_v1100 hT (by omega)) ?_
              rintro _ _ ⟨rfl, u14, hu14, p13_0, la_13, rfl⟩
              refine ezw_iadd (k := u14 + 1107) rfl (by omega) ?_
              refine ezm_l88 rfl (by omega) (by omega) (fun u15 eu15 => ?_)
              have ku15 : ezm_k88 (u14 + 1107) u15 := eu15 ▸ hT.t88 (u14 + 1107)
              have zu15 := ezm_zs7 ku15 (by omega)
              refine ezw_aload_n rfl rfl ?_
              refine ezm_gp (p := 88) rfl (fun _ => rfl) ?_
              refine ezw_iload_n rfl rfl ?_
              refine ezw_bipush (19) rfl rfl ?_
              refine ezw_iadd (k := (1119)) rfl (by omega) ?_
              refine ezm_l88 rfl (by omega) (by omega) (fun u16 eu16 => ?_)
              have ku16 : ezm_k88 (1119) u16 := eu16 ▸ hT.t88 (1119)
              have zu16 := ezm_zs19 ku16 (by omega)
              refine ezw_call0_4 rfl (by omega) (ezm_at rfl) rfl rfl rfl rfl (ezm_m299_v1100 hT (by omega) (ezm_in88 ku12) (ezm_in88 ku15) (ezm_in88 ku16) (by omega) (by omega) (by omega) tr) ?_
              rintro _ _ ⟨x29_17, x30_17, x86_17, x87_17, rfl, hT, u18, hu18, p17_0, rfl⟩
              have k19 := hT.t29
              have k20 := hT.t30
              refine ezm_p31 hT rfl hu18 (fun hT => ?_)
              exact ezw_return rfl rfl ⟨x29_17, x30_17, u18, x86_17, x87_17, x90_9, x91_9, rfl, hT, fun z => by rw [← la_13, ← eu15]; omega, rfl⟩
            · refine ezw_sipush (160) rfl rfl ?_
              refine ezw_istore rfl rfl ?_
              have L74_22 : ∀ c21 : Int, ezw_in c21 → ∀ x29_22 : Int, ∀ x30_22 : Int, ∀ x86_22 : Int → Int, ∀ x87_22 : Int → Int, ∀ x90_22 : Int → Int, ezm_T i0 i2 i3 i7 i8 i13 i18 i19 i20 i25 x29_22 x30_22 u3 i36 i37 i38 r73 r74 r75 r76 r77 r78 r79 r80 r81 r82 r83 r84 r85 x86_22 x87_22 r88 r89 x90_22 x91_9 r92 r93 r94 r95 → ((160) ≤ c21) → ezw_E l ρ B xa Hb D cA d ezq_re297 (ezm_m297_v1100Q  e F A i0 i2 i3 i7 i8 i13 i18 i19 i20 i25 i29 i30 i31 i36 i37 i38 r73 r74 r75 r76 r77 r78 r79 r80 r81 r82 r83 r84 r85 r86 r87 r88 r89 r90 r91 r92 r93 r94 r95 a2) 74 [some (ezw_p 72), some (ezw_i (1100)), some (ezw_i a2), some (ezw_i c8), some (ezw_i c21)] [] (ezm_h e F A i0 i2 i3 i7 i8 i13 i18 i19 i20 i25 x29_22 x30_22 u3 i36 i37 i38 r73 r74 r75 r76 r77 r78 r79 r80 r81 r82 r83 r84 r85 x86_22 x87_22 r88 r89 x90_22 x91_9 r92 r93 r94 r95) := by
                refine ezs_up ?_
                intro c21 hc21 ihc21 x29_22 x30_22 x86_22 x87_22 x90_22 hT g_22
                have k23 := hT.t29
                have k24 := hT.t30
                refine ezw_iload rfl rfl ?_
                refine ezw_sipush (160) rfl rfl ?_
                refine ezw_aload_n rfl rfl ?_
                refine ezm_gp (p := 88) rfl (fun _ => rfl) ?_
                refine ezw_iload_n rfl rfl ?_
                refine ezw_iconst (0) rfl rfl ?_
                refine ezw_iadd (k := (1100)) rfl (by omega) ?_
                refine ezm_l88 rfl (by omega) (by omega) (fun u25 eu25 => ?_)
                have ku25 : ezm_k88 (1100) u25 := eu25 ▸ hT.t88 (1100)
                have zu25 := ezm_zs0 ku25 (by omega)
                refine ezw_iconst (1) rfl rfl ?_
                refine ezw_iadd (k := u25 + 1) rfl (by omega) ?_
                refine ezw_imul (k := 160 * u25 + 160) rfl (by omega) ?_
                refine ezw_icmp_ge rfl rfl hc21 ⟨by omega, by omega⟩ (fun h90_25 => ?_) (fun h90_25 => ?_)
                · refine ezw_sipush (160) rfl rfl ?_
                  refine ezw_istore rfl rfl ?_
                  have L144_27 : ∀ c26 : Int, ezw_in c26 → ∀ x91_27 : Int → Int, ezm_T i0 i2 i3 i7 i8 i13 i18 i19 i20 i25 x29_22 x30_22 u3 i36 i37 i38 r73 r74 r75 r76 r77 r78 r79 r80 r81 r82 r83 r84 r85 x86_22 x87_22 r88 r89 x90_22 x91_27 r92 r93 r94 r95 → ((160) ≤ c26) → ezw_E l ρ B xa Hb D cA d ezq_re297 (ezm_m297_v1100Q  e F A i0 i2 i3 i7 i8 i13 i18 i19 i20 i25 i29 i30 i31 i36 i37 i38 r73 r74 r75 r76 r77 r78 r79 r80 r81 r82 r83 r84 r85 r86 r87 r88 r89 r90 r91 r92 r93 r94 r95 a2) 144 [some (ezw_p 72), some (ezw_i (1100)), some (ezw_i a2), some (ezw_i c8), some (ezw_i c26)] [] (ezm_h e F A i0 i2 i3 i7 i8 i13 i18 i19 i20 i25 x29_22 x30_22 u3 i36 i37 i38 r73 r74 r75 r76 r77 r78 r79 r80 r81 r82 r83 r84 r85 x86_22 x87_22 r88 r89 x90_22 x91_27 r92 r93 r94 r95) := by
                    refine ezs_up ?_
                    intro c26 hc26 ihc26 x91_27 hT g_27
                    refine ezw_iload rfl rfl ?_
                    refine ezw_sipush (1120) rfl rfl ?_
                    refine ezw_icmp_ge rfl rfl hc26 ⟨by decide, by decide⟩ (fun h149_27 => ?_) (fun h149_27 => ?_)
                    · refine ezw_iinc (k := c8 + 1) (1) rfl rfl rfl (by omega) rfl ?_
                      refine ezw_goto rfl rfl ?_
                      exact ezw_keepE [true, true, true, true, false] (ihc8 (c8 + 1) (by omega) ⟨by omega, by omega⟩ x29_22 x30_22 x86_22 x87_22 x90_22 x91_27 hT (by omega))
                    · refine ezw_aload_n rfl rfl ?_
                      refine ezm_gp (p := 91) rfl (fun _ => rfl) ?_
                      refine ezw_iload rfl rfl ?_
                      refine ezw_aload_n rfl rfl ?_
                      refine ezm_gp (p := 90) rfl (fun _ => rfl) ?_
                      refine ezw_iload rfl rfl ?_
                      refine ezm_l90 rfl (by omega) (by omega) (fun u28 eu28 => ?_)
                      have ku28 : ezw_in u28 := eu28 ▸ hT.t90 c26
                      refine ezm_s91 hT rfl (by omega) (by omega) ku28 (fun r91_29 hT er91_29 fr91_29 => ?_)
                      refine ezw_iinc (k := c26 + 1) (1) rfl rfl rfl (by omega) rfl ?_
                      refine ezw_goto rfl rfl ?_
                      exact ezw_keepE [true, true, true, true, true] (ihc26 (c26 + 1) (by omega) ⟨by omega, by omega⟩ r91_29 hT (by omega))
                  exact ezw_keepE [true, true, true, true, true] (L144_27 (160) ⟨by decide, by decide⟩ x91_9 hT (by omega))
                · refine ezw_aload_n rfl rfl ?_
                  refine ezm_gp (p := 90) rfl (fun _ => rfl) ?_
                  refine ezw_iload rfl rfl ?_
                  refine ezw_aload_n rfl rfl ?_
                  refine ezw_iload_n rfl rfl ?_
                  refine ezw_iload rfl rfl ?_
                  refine ezw_sipush (160) rfl rfl ?_
                  refine ezm_idiv rfl hc21 ⟨by decide, by decide⟩ (by decide) (fun u30 hu30 ku30 => ?_)
                  refine ezw_iload rfl rfl ?_
                  refine ezw_bipush (16) rfl rfl ?_
                  refine ezm_idiv rfl hc21 ⟨by decide, by decide⟩ (by decide) (fun u31 hu31 ku31 => ?_)
                  refine ezw_bipush (10) rfl rfl ?_
                  refine ezm_irem rfl hu31 ⟨by decide, by decide⟩ (by decide) (fun u32 hu32 ku32 => ?_)
                  refine ezw_iload rfl rfl ?_
                  refine ezw_bipush (16) rfl rfl ?_
                  refine ezm_irem rfl hc21 ⟨by decide, by decide⟩ (by decide) (fun u33 hu33 ku33 => ?_)
                  refine ezw_iconst (1) rfl rfl ?_
                  refine ezw_aload_n rfl rfl ?_
                  refine ezw_call0_0 rfl (by omega) (ezm_at rfl) rfl rfl rfl rfl (ezm_m216 hT (by omega)) ?_
                  rintro _ _ ⟨rfl, u35, hu35, p34_0, p34_1, rfl⟩
                  refine ezm_ishl1 rfl (by omega) (by omega) (fun u36 hu36 ku36 => ?_)
                  refine ezw_iconst (1) rfl rfl ?_
                  refine ezw_isub (k := u36 - 1) rfl (by omega) ?_
                  refine ezm_iand rfl (fun u37 hu37 ku37 => ?_)
                  refine ezw_call0_4 rfl (by omega) (ezm_at rfl) rfl rfl rfl rfl (ezm_m299_v1100 hT (by omega) hu30 hu32 hu37 (by omega) (by omega) (by omega) tr) ?_
                  rintro _ _ ⟨x29_38, x30_38, x86_38, x87_38, rfl, hT, u39, hu39, p38_0, rfl⟩
                  have k40 := hT.t29
                  have k41 := hT.t30
                  refine ezm_s90 hT rfl (by omega) (by omega) hu39 (fun r90_42 hT er90_42 fr90_42 => ?_)
                  refine ezw_iinc (k := c21 + 1) (1) rfl rfl rfl (by omega) rfl ?_
                  refine ezw_goto rfl rfl ?_
                  exact ezw_keepE [true, true, true, true, true] (ihc21 (c21 + 1) (by omega) ⟨by omega, by omega⟩ x29_38 x30_38 x86_38 x87_38 r90_42 hT (by omega))
              exact ezw_keepE [true, true, true, true, true] (L74_22 (160) ⟨by decide, by decide⟩ x29_9 x30_9 x86_9 x87_9 x90_9 hT (by omega))
          exact ezw_keepE [true, true, true, true, false] (L64_9 (1) ⟨by decide, by decide⟩ (0) i30 r86 r87 r90 x91_7 hT (by omega))
        · refine ezw_aload_n rfl rfl ?_
          refine ezm_gp (p := 91) rfl (fun _ => rfl) ?_
          refine ezw_iload_n rfl rfl ?_
          refine ezw_aload_n rfl rfl ?_
          refine ezw_iload_n rfl rfl ?_
          refine ezw_iload_n rfl rfl ?_
          refine ezw_bipush (16) rfl rfl ?_
          refine ezm_irem rfl hc6 ⟨by decide, by decide⟩ (by decide) (fun u43 hu43 ku43 => ?_)
          refine ezw_iconst (0) rfl rfl ?_
          refine ezw_call0_3 rfl (by omega) (ezm_at rfl) rfl rfl rfl rfl (ezm_m298_v1100 hT (by omega) hu43 ⟨by decide, by decide⟩) ?_
          rintro _ _ ⟨rfl, u45, hu45, rfl⟩
          refine ezm_s91 hT rfl (by omega) (by omega) hu45 (fun r91_46 hT er91_46 fr91_46 => ?_)
          refine ezw_iinc (k := c6 + 1) (1) rfl rfl rfl (by omega) rfl ?_
          refine ezw_goto rfl rfl ?_
          exact ezw_keepE [true, true, true, true, false] (ihc6 (c6 + 1) (by omega) ⟨by omega, by omega⟩ r91_46 hT (by omega))
      exact ezw_keepE [true, true, true, true, false] (L33_7 (0) ⟨by decide, by decide⟩ r91 hT (by omega))
    · exact ezw_return rfl rfl ⟨(0), i30, u3, r86, r87, r90, r91, rfl, hT, fun z => absurd z (by omega), rfl⟩
def ezm_m296Q (e : Bool × Bool) (F : Nat → Nat → Int) (A : Nat → Int → Int) (i0 i2 i3 i7 i8 i13 i18 i19 i20 i25 i29 i30 i31 i36 i37 i38 : Int) (r73 r74 r75 r76 r77 r78 r79 r80 r81 r82 r83 r84 r85 r86 r87 r88 r89 r90 r91 r92 r93 r94 r95 : Int → Int) (a1 : Int) (a2 : Int) : Option ezq_V → (Nat → ezq_C) → Prop := fun v g' => ∃ (x0 x29 x30 x31 : Int) (x86 x87 x90 x91 : Int → Int), ezm_h e F A x0 i2 i3 i7 i8 i13 i18 i19 i20 i25 x29 x30 x31 i36 i37 i38 r73 r74 r75 r76 r77 r78 r79 r80 r81 r82 r83 r84 r85 x86 x87 r88 r89 x90 x91 r92 r93 r94 r95 = g' ∧ ezm_T x0 i2 i3 i7 i8 i13 i18 i19 i20 i25 x29 x30 x31 i36 i37 i38 r73 r74 r75 r76 r77 r78 r79 r80 r81 r82 r83 r84 r85 x86 x87 r88 r89 x90 x91 r92 r93 r94 r95 ∧ ∃ u : Int, (ezw_in u) ∧ some (ezw_i u) = v
theorem ezm_m296 {a1 a2 : Int} (hT : ezm_T i0 i2 i3 i7 i8 i13 i18 i19 i20 i25 i29 i30 i31 i36 i37 i38 r73 r74 r75 r76 r77 r78 r79 r80 r81 r82 r83 r84 r85 r86 r87 r88 r89 r90 r91 r92 r93 r94 r95) (hd : 7 ≤ d) (ha1 : ezw_in a1) (ha2 : ezw_in a2) (tr : ezm_TR r78 r79 r80) (ok : ezm_OK r78 r88 r89 i25) : ezw_C l ρ B xa Hb D cA 296 d [ezw_p 72, ezw_i a1, ezw_i a2] (ezm_h e F A i0 i2 i3 i7 i8 i13 i18 i19 i20 i25 i29 i30 i31 i36 i37 i38 r73 r74 r75 r76 r77 r78 r79 r80 r81 r82 r83 r84 r85 r86 r87 r88 r89 r90 r91 r92 r93 r94 r95) (ezm_m296Q  e F A i0 i2 i3 i7 i8 i13 i18 i19 i20 i25 i29 i30 i31 i36 i37 i38 r73 r74 r75 r76 r77 r78 r79 r80 r81 r82 r83 r84 r85 r86 r87 r88 r89 r90 r91 r92 r93 r94 r95 a1 a2) := by
  refine ezw_met (k := 0) rfl rfl ?_
  refine ezw_aload_n rfl rfl ?_
  refine ezw_iconst (0) rfl rfl ?_
  refine ezm_p0 hT rfl ⟨by decide, by decide⟩ (fun hT => ?_)
  refine ezw_iload_n rfl rfl ?_
  refine ezw_iconst (0) rfl rfl ?_
  refine ezw_bipush (6) rfl rfl ?_
  refine ezw_call2_3 rfl (by omega) rfl rfl (ezm_m236 hT (by omega) ha1 ⟨by decide, by decide⟩ ⟨by decide, by decide⟩) ?_
  rintro _ _ ⟨rfl, u2, hu2, p1_0, p1_1, rfl⟩
  refine ezw_if_eq rfl rfl ⟨by omega, by omega⟩ (fun h12_2 => ?_) (fun h12_2 => ?_)
  · refine ezw_iconst (-1) rfl rfl ?_
    exact ezw_ireturn rfl rfl ⟨(0), i29, i30, i31, r86, r87, r90, r91, rfl, hT, (-1), ⟨by decide, by decide⟩, rfl⟩
  · refine ezw_iload_n rfl rfl ?_
    refine ezw_iconst (0) rfl rfl ?_
    refine ezw_iconst (1) rfl rfl ?_
    refine ezw_call2_3 rfl (by omega) rfl rfl (ezm_m236 hT (by omega) ha2 ⟨by decide, by decide⟩ ⟨by decide, by decide⟩) ?_
    rintro _ _ ⟨rfl, u4, hu4, p3_0, p3_1, rfl⟩
    refine ezw_if_ne rfl rfl ⟨by omega, by omega⟩ (fun h21_4 => ?_) (fun h21_4 => ?_)
    · refine ezw_aload_n rfl rfl ?_
      refine ezw_iconst (0) rfl rfl ?_
      refine ezw_iload_n rfl rfl ?_
      refine ezw_call0_2 rfl (by omega) (ezm_at rfl) rfl rfl rfl rfl (ezm_m297_v0 hT (by omega) ha1 (by omega) tr ok.1) ?_
      rintro _ _ ⟨x29_5, x30_5, x31_5, x86_5, x87_5, x90_5, x91_5, rfl, hT, nt_5, rfl⟩
      have k6 := hT.t29
      have k7 := hT.t30
      have k8 := hT.t31
      refine ezw_iload_n rfl rfl ?_
      refine ezw_if_ne rfl rfl ha2 (fun h33_8 => ?_) (fun h33_8 => ?_)
      · refine ezw_aload_n rfl rfl ?_
        refine ezm_g29 rfl ?_
        exact ezw_ireturn rfl rfl ⟨(0), x29_5, x30_5, x31_5, x86_5, x87_5, x90_5, x91_5, rfl, hT, x29_5, ⟨by omega, by omega⟩, rfl⟩
      · refine ezw_aload_n rfl rfl ?_
        refine ezm_g31 rfl ?_
        refine ezw_goto rfl rfl ?_
        exact ezw_ireturn rfl rfl ⟨(0), x29_5, x30_5, x31_5, x86_5, x87_5, x90_5, x91_5, rfl, hT, x31_5, hT.t31, rfl⟩
    · refine ezw_iconst (-1) rfl rfl ?_
      exact ezw_ireturn rfl rfl ⟨(0), i29, i30, i31, r86, r87, r90, r91, rfl, hT, (-1), ⟨by decide, by decide⟩, rfl⟩
end KM6
