/-! ===== the program, roughly: its own calls ===== -/
section KM
variable {l : Launch} {ρ : ezq_E} {B : Nat} {xa : Nat → Option Nat} {Hb : Heap} {D : va_G} {cA : Nat → ClassId} {d : Nat} {e : Bool × Bool} {fz : Nat → Bool} {F0 : Nat → Nat → Int} {A0 : Nat → Int → Int}
theorem ezs_m146_0_f {b2 : Bool} {a1 a2 : Int} {F : Nat → Nat → Int} {A : Nat → Int → Int} (hI : ezs_I fz F0 A0 F A) (hd : 22 ≤ d) (hzA : ∀ q, 23 ≤ q → q < 26 → fz q = false) (ha1 : ezw_in a1) (ha2 : ezw_in a2) : ezw_C l ρ B xa Hb D cA 146 d [ezw_p 0, ezw_i a1, ezw_i a2] (ezu_g (false, b2) F A) (ezs_P (false, b2) fz F0 A0 ezs_ri) := by
  refine ezw_met (k := 1) rfl rfl ?_
  refine ezw_iload_n rfl rfl ?_
  refine ezw_if_lt rfl rfl ha1 (fun h1_0 => ?_) (fun h1_0 => ?_)
  · refine ezw_iconst (-1) rfl rfl ?_
    exact ezw_ireturn rfl rfl ⟨⟨F, A, rfl, hI⟩, _, ⟨by decide, by decide⟩, rfl⟩
  · refine ezw_iload_n rfl rfl ?_
    refine ezw_bipush (6) rfl rfl ?_
    refine ezw_icmp_gt rfl rfl ha1 ⟨by decide, by decide⟩ (fun h7_0 => ?_) (fun h7_0 => ?_)
    · refine ezw_iconst (-1) rfl rfl ?_
      exact ezw_ireturn rfl rfl ⟨⟨F, A, rfl, hI⟩, _, ⟨by decide, by decide⟩, rfl⟩
    · refine ezw_iload_n rfl rfl ?_
      refine ezw_if_eq rfl rfl ha2 (fun h11_0 => ?_) (fun h11_0 => ?_)
      · refine ezw_aload_n rfl rfl ?_
        refine ezs_getp (p := 13) rfl rfl rfl rfl rfl ?_
        refine ezs_get_i hI rfl rfl rfl rfl rfl rfl (fun u1 hu1 ku1 => ?_)
        refine ezw_if_eq rfl rfl hu1 (fun h28_1 => ?_) (fun h28_1 => ?_)
        · refine ezw_aload_n rfl rfl ?_
          refine ezs_getp (p := 22) rfl rfl rfl rfl rfl ?_
          refine ezs_getp (p := 23) rfl rfl rfl rfl rfl ?_
          refine ezw_aload_n rfl rfl ?_
          refine ezs_getp (p := 30) rfl rfl rfl rfl rfl ?_
          refine ezw_aload_n rfl rfl ?_
          refine ezs_getp (p := 13) rfl rfl rfl rfl rfl ?_
          refine ezw_call0_2 rfl (by omega) (ezu_at rfl) rfl rfl rfl rfl (ezs_m147_23_30_13 hI (by omega) (fun q h0 h1 => hzA q (by omega) (by omega))) ?_
          rintro _ _ ⟨⟨F, A, rfl, hI⟩, rfl⟩
          refine ezw_aload_n rfl rfl ?_
          refine ezs_getp (p := 22) rfl rfl rfl rfl rfl ?_
          refine ezs_getp (p := 23) rfl rfl rfl rfl rfl ?_
          refine ezw_aload_n rfl rfl ?_
          refine ezs_getp (p := 30) rfl rfl rfl rfl rfl ?_
          refine ezw_aload_n rfl rfl ?_
          refine ezs_getp (p := 13) rfl rfl rfl rfl rfl ?_
          refine ezw_iload_n rfl rfl ?_
          refine ezw_call0_3 rfl (by omega) (ezu_at rfl) rfl rfl rfl rfl (ezs_m148_23_30_13 hI (by omega) (fun q h0 h1 => hzA q (by omega) (by omega)) ha1 (by omega)) ?_
          rintro _ _ ⟨⟨F, A, rfl, hI⟩, u2, hu2, rfl⟩
          refine ezw_istore_n rfl rfl ?_
          refine ezw_iload_n rfl rfl ?_
          refine ezw_if_ne rfl rfl ha2 (fun h94_2 => ?_) (fun h94_2 => ?_)
          · refine ezw_iload_n rfl rfl ?_
            refine ezw_call2_1 rfl (by omega) rfl rfl (ezs_m155 hI (by omega) hu2) ?_
            rintro _ _ ⟨rfl, u3, hu3, rfl⟩
            exact ezw_ireturn rfl rfl ⟨⟨F, A, rfl, hI⟩, _, hu3, rfl⟩
          · refine ezw_iload_n rfl rfl ?_
            refine ezw_call2_1 rfl (by omega) rfl rfl (ezs_m152 hI (by omega) hu2) ?_
            rintro _ _ ⟨rfl, u4, hu4, rfl⟩
            refine ezw_goto rfl rfl ?_
            exact ezw_ireturn rfl rfl ⟨⟨F, A, rfl, hI⟩, _, hu4, rfl⟩
        · refine ezw_iload_n rfl rfl ?_
          refine ezw_if_ne rfl rfl ha2 (fun h32_4 => ?_) (fun h32_4 => ?_)
          · refine ezw_iconst (0) rfl rfl ?_
            exact ezw_ireturn rfl rfl ⟨⟨F, A, rfl, hI⟩, _, ⟨by decide, by decide⟩, rfl⟩
          · refine ezw_sipush (1000) rfl rfl ?_
            refine ezw_aload_n rfl rfl ?_
            refine ezs_getp (p := 13) rfl rfl rfl rfl rfl ?_
            refine ezw_aload_n rfl rfl ?_
            refine ezs_getp (p := 30) rfl rfl rfl rfl rfl ?_
            refine ezw_call0_1 rfl (by omega) (ezu_at rfl) rfl rfl rfl rfl (ezs_m143_13_30 hI (by omega)) ?_
            rintro _ _ ⟨rfl, u5, hu5, rfl⟩
            refine ezs_imul rfl (fun u6 hu6 => ?_)
            refine ezw_goto rfl rfl ?_
            exact ezw_ireturn rfl rfl ⟨⟨F, A, rfl, hI⟩, _, hu6, rfl⟩
      · refine ezw_iload_n rfl rfl ?_
        refine ezw_iconst (1) rfl rfl ?_
        refine ezw_icmp_eq rfl rfl ha2 ⟨by decide, by decide⟩ (fun h16_6 => ?_) (fun h16_6 => ?_)
        · refine ezw_aload_n rfl rfl ?_
          refine ezs_getp (p := 13) rfl rfl rfl rfl rfl ?_
          refine ezs_get_i hI rfl rfl rfl rfl rfl rfl (fun u7 hu7 ku7 => ?_)
          refine ezw_if_eq rfl rfl hu7 (fun h28_7 => ?_) (fun h28_7 => ?_)
          · refine ezw_aload_n rfl rfl ?_
            refine ezs_getp (p := 22) rfl rfl rfl rfl rfl ?_
            refine ezs_getp (p := 23) rfl rfl rfl rfl rfl ?_
            refine ezw_aload_n rfl rfl ?_
            refine ezs_getp (p := 30) rfl rfl rfl rfl rfl ?_
            refine ezw_aload_n rfl rfl ?_
            refine ezs_getp (p := 13) rfl rfl rfl rfl rfl ?_
            refine ezw_call0_2 rfl (by omega) (ezu_at rfl) rfl rfl rfl rfl (ezs_m147_23_30_13 hI (by omega) (fun q h0 h1 => hzA q (by omega) (by omega))) ?_
            rintro _ _ ⟨⟨F, A, rfl, hI⟩, rfl⟩
            refine ezw_aload_n rfl rfl ?_
            refine ezs_getp (p := 22) rfl rfl rfl rfl rfl ?_
            refine ezs_getp (p := 23) rfl rfl rfl rfl rfl ?_
            refine ezw_aload_n rfl rfl ?_
            refine ezs_getp (p := 30) rfl rfl rfl rfl rfl ?_
            refine ezw_aload_n rfl rfl ?_
            refine ezs_getp (p := 13) rfl rfl rfl rfl rfl ?_
            refine ezw_iload_n rfl rfl ?_
            refine ezw_call0_3 rfl (by omega) (ezu_at rfl) rfl rfl rfl rfl (ezs_m148_23_30_13 hI (by omega) (fun q h0 h1 => hzA q (by omega) (by omega)) ha1 (by omega)) ?_
            rintro _ _ ⟨⟨F, A, rfl, hI⟩, u8, hu8, rfl⟩
            refine ezw_istore_n rfl rfl ?_
            refine ezw_iload_n rfl rfl ?_
            refine ezw_if_ne rfl rfl ha2 (fun h94_8 => ?_) (fun h94_8 => ?_)
            · refine ezw_iload_n rfl rfl ?_
              refine ezw_call2_1 rfl (by omega) rfl rfl (ezs_m155 hI (by omega) hu8) ?_
              rintro _ _ ⟨rfl, u9, hu9, rfl⟩
              exact ezw_ireturn rfl rfl ⟨⟨F, A, rfl, hI⟩, _, hu9, rfl⟩
            · refine ezw_iload_n rfl rfl ?_
              refine ezw_call2_1 rfl (by omega) rfl rfl (ezs_m152 hI (by omega) hu8) ?_
              rintro _ _ ⟨rfl, u10, hu10, rfl⟩
              refine ezw_goto rfl rfl ?_
              exact ezw_ireturn rfl rfl ⟨⟨F, A, rfl, hI⟩, _, hu10, rfl⟩
          · refine ezw_iload_n rfl rfl ?_
            refine ezw_if_ne rfl rfl ha2 (fun h32_10 => ?_) (fun h32_10 => ?_)
            · refine ezw_iconst (0) rfl rfl ?_
              exact ezw_ireturn rfl rfl ⟨⟨F, A, rfl, hI⟩, _, ⟨by decide, by decide⟩, rfl⟩
            · refine ezw_sipush (1000) rfl rfl ?_
              refine ezw_aload_n rfl rfl ?_
              refine ezs_getp (p := 13) rfl rfl rfl rfl rfl ?_
              refine ezw_aload_n rfl rfl ?_
              refine ezs_getp (p := 30) rfl rfl rfl rfl rfl ?_
              refine ezw_call0_1 rfl (by omega) (ezu_at rfl) rfl rfl rfl rfl (ezs_m143_13_30 hI (by omega)) ?_
              rintro _ _ ⟨rfl, u11, hu11, rfl⟩
              refine ezs_imul rfl (fun u12 hu12 => ?_)
              refine ezw_goto rfl rfl ?_
              exact ezw_ireturn rfl rfl ⟨⟨F, A, rfl, hI⟩, _, hu12, rfl⟩
        · refine ezw_iconst (-1) rfl rfl ?_
          exact ezw_ireturn rfl rfl ⟨⟨F, A, rfl, hI⟩, _, ⟨by decide, by decide⟩, rfl⟩
theorem ezs_m169_0_f {b2 : Bool} {a1 a2 a3 : Int} {F : Nat → Nat → Int} {A : Nat → Int → Int} (hI : ezs_I fz F0 A0 F A) (hd : 3 ≤ d) (ha1 : ezw_in a1) (ha2 : ezw_in a2) (ha3 : ezw_in a3) : ezw_C l ρ B xa Hb D cA 169 d [ezw_p 0, ezw_i a1, ezw_i a2, ezw_i a3] (ezu_g (false, b2) F A) (ezs_Pp (false, b2) F A ezs_ri) := by
  refine ezw_met (k := 1) rfl rfl ?_
  refine ezw_iload_n rfl rfl ?_
  refine ezw_call2_1 rfl (by omega) rfl rfl (ezs_m112 hI (by omega) ha1) ?_
  rintro _ _ ⟨rfl, u1, hu1, rfl⟩
  refine ezw_if_eq rfl rfl ⟨by omega, by omega⟩ (fun h4_1 => ?_) (fun h4_1 => ?_)
  · refine ezw_iconst (-1) rfl rfl ?_
    exact ezw_ireturn rfl rfl ⟨rfl, _, ⟨by decide, by decide⟩, rfl⟩
  · refine ezw_iload_n rfl rfl ?_
    refine ezw_if_lt rfl rfl ha2 (fun h8_1 => ?_) (fun h8_1 => ?_)
    · refine ezw_iconst (-1) rfl rfl ?_
      exact ezw_ireturn rfl rfl ⟨rfl, _, ⟨by decide, by decide⟩, rfl⟩
    · refine ezw_iload_n rfl rfl ?_
      refine ezw_bipush (20) rfl rfl ?_
      refine ezw_icmp_gt rfl rfl ha2 ⟨by decide, by decide⟩ (fun h14_1 => ?_) (fun h14_1 => ?_)
      · refine ezw_iconst (-1) rfl rfl ?_
        exact ezw_ireturn rfl rfl ⟨rfl, _, ⟨by decide, by decide⟩, rfl⟩
      · refine ezw_iload_n rfl rfl ?_
        refine ezw_if_eq rfl rfl ha3 (fun h18_1 => ?_) (fun h18_1 => ?_)
        · refine ezw_aload_n rfl rfl ?_
          refine ezs_getp (p := 13) rfl rfl rfl rfl rfl ?_
          refine ezs_get_i hI rfl rfl rfl rfl rfl rfl (fun u2 hu2 ku2 => ?_)
          refine ezw_if_eq rfl rfl hu2 (fun h33_2 => ?_) (fun h33_2 => ?_)
          · refine ezw_aload_n rfl rfl ?_
            refine ezs_getp (p := 13) rfl rfl rfl rfl rfl ?_
            refine ezw_aload_n rfl rfl ?_
            refine ezs_getp (p := 30) rfl rfl rfl rfl rfl ?_
            refine ezw_iload_n rfl rfl ?_
            refine ezw_iload_n rfl rfl ?_
            refine ezw_call0_3 rfl (by omega) (ezu_at rfl) rfl rfl rfl rfl (ezs_m170_13_30 hI (by omega) ha1 ha2) ?_
            rintro _ _ ⟨rfl, u3, hu3, rfl⟩
            refine ezw_istore rfl rfl ?_
            refine ezw_iload_n rfl rfl ?_
            refine ezw_if_ne rfl rfl ha3 (fun h54_3 => ?_) (fun h54_3 => ?_)
            · refine ezw_aload_n rfl rfl ?_
              refine ezs_getp (p := 30) rfl rfl rfl rfl rfl ?_
              refine ezw_iload rfl rfl ?_
              refine ezw_call0_1 rfl (by omega) (ezu_at rfl) rfl rfl rfl rfl (ezs_m171_30 hI (by omega) hu3) ?_
              rintro _ _ ⟨rfl, u4, hu4, rfl⟩
              exact ezw_ireturn rfl rfl ⟨rfl, _, hu4, rfl⟩
            · refine ezw_iload rfl rfl ?_
              refine ezw_call2_1 rfl (by omega) rfl rfl (ezs_m132 hI (by omega) hu3) ?_
              rintro _ _ ⟨rfl, u5, hu5, rfl⟩
              refine ezw_goto rfl rfl ?_
              exact ezw_ireturn rfl rfl ⟨rfl, _, hu5, rfl⟩
          · refine ezw_iconst (-1) rfl rfl ?_
            exact ezw_ireturn rfl rfl ⟨rfl, _, ⟨by decide, by decide⟩, rfl⟩
        · refine ezw_iload_n rfl rfl ?_
          refine ezw_iconst (1) rfl rfl ?_
          refine ezw_icmp_ne rfl rfl ha3 ⟨by decide, by decide⟩ (fun h23_5 => ?_) (fun h23_5 => ?_)
          · refine ezw_iconst (-1) rfl rfl ?_
            exact ezw_ireturn rfl rfl ⟨rfl, _, ⟨by decide, by decide⟩, rfl⟩
          · refine ezw_aload_n rfl rfl ?_
            refine ezs_getp (p := 13) rfl rfl rfl rfl rfl ?_
            refine ezs_get_i hI rfl rfl rfl rfl rfl rfl (fun u6 hu6 ku6 => ?_)
            refine ezw_if_eq rfl rfl hu6 (fun h33_6 => ?_) (fun h33_6 => ?_)
            · refine ezw_aload_n rfl rfl ?_
              refine ezs_getp (p := 13) rfl rfl rfl rfl rfl ?_
              refine ezw_aload_n rfl rfl ?_
              refine ezs_getp (p := 30) rfl rfl rfl rfl rfl ?_
              refine ezw_iload_n rfl rfl ?_
              refine ezw_iload_n rfl rfl ?_
              refine ezw_call0_3 rfl (by omega) (ezu_at rfl) rfl rfl rfl rfl (ezs_m170_13_30 hI (by omega) ha1 ha2) ?_
              rintro _ _ ⟨rfl, u7, hu7, rfl⟩
              refine ezw_istore rfl rfl ?_
              refine ezw_iload_n rfl rfl ?_
              refine ezw_if_ne rfl rfl ha3 (fun h54_7 => ?_) (fun h54_7 => ?_)
              · refine ezw_aload_n rfl rfl ?_
                refine ezs_getp (p := 30) rfl rfl rfl rfl rfl ?_
                refine ezw_iload rfl rfl ?_
                refine ezw_call0_1 rfl (by omega) (ezu_at rfl) rfl rfl rfl rfl (ezs_m171_30 hI (by omega) hu7) ?_
                rintro _ _ ⟨rfl, u8, hu8, rfl⟩
                exact ezw_ireturn rfl rfl ⟨rfl, _, hu8, rfl⟩
              · refine ezw_iload rfl rfl ?_
                refine ezw_call2_1 rfl (by omega) rfl rfl (ezs_m132 hI (by omega) hu7) ?_
                rintro _ _ ⟨rfl, u9, hu9, rfl⟩
                refine ezw_goto rfl rfl ?_
                exact ezw_ireturn rfl rfl ⟨rfl, _, hu9, rfl⟩
            · refine ezw_iconst (-1) rfl rfl ?_
              exact ezw_ireturn rfl rfl ⟨rfl, _, ⟨by decide, by decide⟩, rfl⟩
theorem ezs_m172_0_f {b2 : Bool} {a1 a2 : Int} {F : Nat → Nat → Int} {A : Nat → Int → Int} (hI : ezs_I fz F0 A0 F A) (hd : 5 ≤ d) (hzA : ∀ q, 14 ≤ q → q < 16 → fz q = false) (ha1 : ezw_in a1) (ha2 : ezw_in a2) : ezw_C l ρ B xa Hb D cA 172 d [ezw_p 0, ezw_i a1, ezw_i a2] (ezu_g (false, b2) F A) (ezs_P (false, b2) fz F0 A0 ezs_ri) := by
  refine ezw_met (k := 0) rfl rfl ?_
  refine ezw_iload_n rfl rfl ?_
  refine ezw_call2_1 rfl (by omega) rfl rfl (ezs_m112 hI (by omega) ha1) ?_
  rintro _ _ ⟨rfl, u1, hu1, rfl⟩
  refine ezw_if_eq rfl rfl ⟨by omega, by omega⟩ (fun h4_1 => ?_) (fun h4_1 => ?_)
  · refine ezw_iconst (-1) rfl rfl ?_
    exact ezw_ireturn rfl rfl ⟨⟨F, A, rfl, hI⟩, _, ⟨by decide, by decide⟩, rfl⟩
  · refine ezw_iload_n rfl rfl ?_
    refine ezw_if_lt rfl rfl ha2 (fun h8_1 => ?_) (fun h8_1 => ?_)
    · refine ezw_iconst (-1) rfl rfl ?_
      exact ezw_ireturn rfl rfl ⟨⟨F, A, rfl, hI⟩, _, ⟨by decide, by decide⟩, rfl⟩
    · refine ezw_iload_n rfl rfl ?_
      refine ezw_bipush (48) rfl rfl ?_
      refine ezw_icmp_le rfl rfl ha2 ⟨by decide, by decide⟩ (fun h14_1 => ?_) (fun h14_1 => ?_)
      · refine ezw_aload_n rfl rfl ?_
        refine ezs_getp (p := 13) rfl rfl rfl rfl rfl ?_
        refine ezw_aload_n rfl rfl ?_
        refine ezs_getp (p := 30) rfl rfl rfl rfl rfl ?_
        refine ezw_iload_n rfl rfl ?_
        refine ezw_iload_n rfl rfl ?_
        refine ezw_call0_3 rfl (by omega) (ezu_at rfl) rfl rfl rfl rfl (ezs_m173_13_30 hI (by omega) (fun q h0 h1 => hzA q (by omega) (by omega)) ha1 ha2) ?_
        rintro _ _ ⟨⟨F, A, rfl, hI⟩, u2, hu2, rfl⟩
        exact ezw_ireturn rfl rfl ⟨⟨F, A, rfl, hI⟩, _, hu2, rfl⟩
      · refine ezw_iconst (-1) rfl rfl ?_
        exact ezw_ireturn rfl rfl ⟨⟨F, A, rfl, hI⟩, _, ⟨by decide, by decide⟩, rfl⟩
theorem ezs_m189_0_f {b2 : Bool} {a1 a2 : Int} {F : Nat → Nat → Int} {A : Nat → Int → Int} (hI : ezs_I fz F0 A0 F A) (hd : 4 ≤ d) (hzA : ∀ q, 29 ≤ q → q < 30 → fz q = false) (ha1 : ezw_in a1) (ha2 : ezw_in a2) : ezw_C l ρ B xa Hb D cA 189 d [ezw_p 0, ezw_i a1, ezw_i a2] (ezu_g (false, b2) F A) (ezs_P (false, b2) fz F0 A0 ezs_ri) := by
  refine ezw_met (k := 1) rfl rfl ?_
  refine ezw_aload_n rfl rfl ?_
  refine ezs_getp (p := 30) rfl rfl rfl rfl rfl ?_
  refine ezw_aload_n rfl rfl ?_
  refine ezs_getp (p := 29) rfl rfl rfl rfl rfl ?_
  refine ezw_call0_1 rfl (by omega) (ezu_at rfl) rfl rfl rfl rfl (ezs_m190_30_29 hI (by omega) (fun q h0 h1 => hzA q (by omega) (by omega))) ?_
  rintro _ _ ⟨⟨F, A, rfl, hI⟩, rfl⟩
  refine ezw_aload_n rfl rfl ?_
  refine ezs_getp (p := 29) rfl rfl rfl rfl rfl ?_
  refine ezw_iconst (1) rfl rfl ?_
  refine ezw_aload_n rfl rfl ?_
  refine ezs_getp (p := 30) rfl rfl rfl rfl rfl ?_
  refine ezs_get_i hI rfl rfl rfl rfl rfl rfl (fun u1 hu1 ku1 => ?_)
  refine ezw_ishlO rfl (fun u2 hu2 => ?_)
  refine ezw_iconst (1) rfl rfl ?_
  refine ezs_isub rfl (fun u3 hu3 => ?_)
  refine ezw_call2_2 rfl (by omega) rfl rfl (ezs_m27_29 hI (by omega) hu3) ?_
  rintro _ _ ⟨rfl, u4, hu4, rfl⟩
  refine ezw_istore_n rfl rfl ?_
  refine ezw_iload_n rfl rfl ?_
  refine ezw_iconst (-1) rfl rfl ?_
  refine ezw_icmp_ne rfl rfl ha1 ⟨by decide, by decide⟩ (fun h32_4 => ?_) (fun h32_4 => ?_)
  · refine ezw_iload_n rfl rfl ?_
    refine ezw_if_lt rfl rfl ha1 (fun h38_4 => ?_) (fun h38_4 => ?_)
    · refine ezw_bipush (-2) rfl rfl ?_
      exact ezw_ireturn rfl rfl ⟨⟨F, A, rfl, hI⟩, _, ⟨by decide, by decide⟩, rfl⟩
    · refine ezw_iload_n rfl rfl ?_
      refine ezw_aload_n rfl rfl ?_
      refine ezs_getp (p := 30) rfl rfl rfl rfl rfl ?_
      refine ezs_get_i hI rfl rfl rfl rfl rfl rfl (fun u5 hu5 ku5 => ?_)
      refine ezw_icmp_ge rfl rfl ha1 hu5 (fun h49_5 => ?_) (fun h49_5 => ?_)
      · refine ezw_bipush (-2) rfl rfl ?_
        exact ezw_ireturn rfl rfl ⟨⟨F, A, rfl, hI⟩, _, ⟨by decide, by decide⟩, rfl⟩
      · refine ezw_iload_n rfl rfl ?_
        refine ezw_if_eq rfl rfl ha2 (fun h53_5 => ?_) (fun h53_5 => ?_)
        · refine ezw_iload_n rfl rfl ?_
          refine ezw_if_ne rfl rfl hu4 (fun h62_5 => ?_) (fun h62_5 => ?_)
          · refine ezw_iload_n rfl rfl ?_
            refine ezw_if_ne rfl rfl ha2 (fun h69_5 => ?_) (fun h69_5 => ?_)
            · refine ezw_aload_n rfl rfl ?_
              refine ezs_getp (p := 30) rfl rfl rfl rfl rfl ?_
              refine ezw_aload_n rfl rfl ?_
              refine ezs_getp (p := 29) rfl rfl rfl rfl rfl ?_
              refine ezw_iload_n rfl rfl ?_
              refine ezw_call0_2 rfl (by omega) (ezu_at rfl) rfl rfl rfl rfl (ezs_m194_30_29 hI (by omega) ha1) ?_
              rintro _ _ ⟨rfl, u6, hu6, rfl⟩
              exact ezw_ireturn rfl rfl ⟨⟨F, A, rfl, hI⟩, _, hu6, rfl⟩
            · refine ezw_aload_n rfl rfl ?_
              refine ezs_getp (p := 30) rfl rfl rfl rfl rfl ?_
              refine ezw_aload_n rfl rfl ?_
              refine ezs_getp (p := 29) rfl rfl rfl rfl rfl ?_
              refine ezw_iload_n rfl rfl ?_
              refine ezw_call0_2 rfl (by omega) (ezu_at rfl) rfl rfl rfl rfl (ezs_m192_30_29 hI (by omega) ha1) ?_
              rintro _ _ ⟨rfl, u7, hu7, rfl⟩
              refine ezw_goto rfl rfl ?_
              exact ezw_ireturn rfl rfl ⟨⟨F, A, rfl, hI⟩, _, hu7, rfl⟩
          · refine ezw_bipush (-2) rfl rfl ?_
            exact ezw_ireturn rfl rfl ⟨⟨F, A, rfl, hI⟩, _, ⟨by decide, by decide⟩, rfl⟩
        · refine ezw_iload_n rfl rfl ?_
          refine ezw_iconst (1) rfl rfl ?_
          refine ezw_icmp_ne rfl rfl ha2 ⟨by decide, by decide⟩ (fun h58_7 => ?_) (fun h58_7 => ?_)
          · refine ezw_bipush (-2) rfl rfl ?_
            exact ezw_ireturn rfl rfl ⟨⟨F, A, rfl, hI⟩, _, ⟨by decide, by decide⟩, rfl⟩
          · refine ezw_iload_n rfl rfl ?_
            refine ezw_if_ne rfl rfl hu4 (fun h62_7 => ?_) (fun h62_7 => ?_)
            · refine ezw_iload_n rfl rfl ?_
              refine ezw_if_ne rfl rfl ha2 (fun h69_7 => ?_) (fun h69_7 => ?_)
              · refine ezw_aload_n rfl rfl ?_
                refine ezs_getp (p := 30) rfl rfl rfl rfl rfl ?_
                refine ezw_aload_n rfl rfl ?_
                refine ezs_getp (p := 29) rfl rfl rfl rfl rfl ?_
                refine ezw_iload_n rfl rfl ?_
                refine ezw_call0_2 rfl (by omega) (ezu_at rfl) rfl rfl rfl rfl (ezs_m194_30_29 hI (by omega) ha1) ?_
                rintro _ _ ⟨rfl, u8, hu8, rfl⟩
                exact ezw_ireturn rfl rfl ⟨⟨F, A, rfl, hI⟩, _, hu8, rfl⟩
              · refine ezw_aload_n rfl rfl ?_
                refine ezs_getp (p := 30) rfl rfl rfl rfl rfl ?_
                refine ezw_aload_n rfl rfl ?_
                refine ezs_getp (p := 29) rfl rfl rfl rfl rfl ?_
                refine ezw_iload_n rfl rfl ?_
                refine ezw_call0_2 rfl (by omega) (ezu_at rfl) rfl rfl rfl rfl (ezs_m192_30_29 hI (by omega) ha1) ?_
                rintro _ _ ⟨rfl, u9, hu9, rfl⟩
                refine ezw_goto rfl rfl ?_
                exact ezw_ireturn rfl rfl ⟨⟨F, A, rfl, hI⟩, _, hu9, rfl⟩
            · refine ezw_bipush (-2) rfl rfl ?_
              exact ezw_ireturn rfl rfl ⟨⟨F, A, rfl, hI⟩, _, ⟨by decide, by decide⟩, rfl⟩
  · refine ezw_iload_n rfl rfl ?_
    exact ezw_ireturn rfl rfl ⟨⟨F, A, rfl, hI⟩, _, hu4, rfl⟩
theorem ezs_m195_0_f {b2 : Bool} {a1 a2 a3 a4 : Int} {F : Nat → Nat → Int} {A : Nat → Int → Int} (hI : ezs_I fz F0 A0 F A) (hd : 23 ≤ d) (hzA : ∀ q, 22 ≤ q → q < 27 → fz q = false) (ha1 : ezw_in a1) (ha2 : ezw_in a2) (ha3 : ezw_in a3) (ha4 : ezw_in a4) : ezw_C l ρ B xa Hb D cA 195 d [ezw_p 0, ezw_i a1, ezw_i a2, ezw_i a3, ezw_i a4] (ezu_g (false, b2) F A) (ezs_P (false, b2) fz F0 A0 ezs_ri) := by
  refine ezw_met (k := 0) rfl rfl ?_
  refine ezw_iload_n rfl rfl ?_
  refine ezw_if_lt rfl rfl ha1 (fun h1_0 => ?_) (fun h1_0 => ?_)
  · refine ezw_iconst (-1) rfl rfl ?_
    exact ezw_ireturn rfl rfl ⟨⟨F, A, rfl, hI⟩, _, ⟨by decide, by decide⟩, rfl⟩
  · refine ezw_iload_n rfl rfl ?_
    refine ezw_sipush (9999) rfl rfl ?_
    refine ezw_icmp_gt rfl rfl ha1 ⟨by decide, by decide⟩ (fun h8_0 => ?_) (fun h8_0 => ?_)
    · refine ezw_iconst (-1) rfl rfl ?_
      exact ezw_ireturn rfl rfl ⟨⟨F, A, rfl, hI⟩, _, ⟨by decide, by decide⟩, rfl⟩
    · refine ezw_iload_n rfl rfl ?_
      refine ezw_iconst (1) rfl rfl ?_
      refine ezw_icmp_lt rfl rfl ha2 ⟨by decide, by decide⟩ (fun h13_0 => ?_) (fun h13_0 => ?_)
      · refine ezw_iconst (-1) rfl rfl ?_
        exact ezw_ireturn rfl rfl ⟨⟨F, A, rfl, hI⟩, _, ⟨by decide, by decide⟩, rfl⟩
      · refine ezw_iload_n rfl rfl ?_
        refine ezw_bipush (20) rfl rfl ?_
        refine ezw_icmp_gt rfl rfl ha2 ⟨by decide, by decide⟩ (fun h19_0 => ?_) (fun h19_0 => ?_)
        · refine ezw_iconst (-1) rfl rfl ?_
          exact ezw_ireturn rfl rfl ⟨⟨F, A, rfl, hI⟩, _, ⟨by decide, by decide⟩, rfl⟩
        · refine ezw_iload_n rfl rfl ?_
          refine ezw_iconst (1) rfl rfl ?_
          refine ezw_icmp_lt rfl rfl ha3 ⟨by decide, by decide⟩ (fun h24_0 => ?_) (fun h24_0 => ?_)
          · refine ezw_iconst (-1) rfl rfl ?_
            exact ezw_ireturn rfl rfl ⟨⟨F, A, rfl, hI⟩, _, ⟨by decide, by decide⟩, rfl⟩
          · refine ezw_iload_n rfl rfl ?_
            refine ezw_bipush (6) rfl rfl ?_
            refine ezw_icmp_le rfl rfl ha3 ⟨by decide, by decide⟩ (fun h30_0 => ?_) (fun h30_0 => ?_)
            · refine ezw_iload rfl rfl ?_
              refine ezw_if_lt rfl rfl ha4 (fun h37_0 => ?_) (fun h37_0 => ?_)
              · refine ezw_iconst (-1) rfl rfl ?_
                exact ezw_ireturn rfl rfl ⟨⟨F, A, rfl, hI⟩, _, ⟨by decide, by decide⟩, rfl⟩
              · refine ezw_iload rfl rfl ?_
                refine ezw_iconst (2) rfl rfl ?_
                refine ezw_icmp_le rfl rfl ha4 ⟨by decide, by decide⟩ (fun h43_0 => ?_) (fun h43_0 => ?_)
                · refine ezw_aload_n rfl rfl ?_
                  refine ezs_getp (p := 22) rfl rfl rfl rfl rfl ?_
                  refine ezw_aload_n rfl rfl ?_
                  refine ezs_getp (p := 30) rfl rfl rfl rfl rfl ?_
                  refine ezw_aload_n rfl rfl ?_
                  refine ezs_getp (p := 13) rfl rfl rfl rfl rfl ?_
                  refine ezw_iload_n rfl rfl ?_
                  refine ezw_iload_n rfl rfl ?_
                  refine ezw_iload_n rfl rfl ?_
                  refine ezw_call0_5 rfl (by omega) (ezu_at rfl) rfl rfl rfl rfl (ezs_m196_22_30_13 hI (by omega) (fun q h0 h1 => hzA q (by omega) (by omega)) ha1 ha2 (by omega) ha3 (by omega)) ?_
                  rintro _ _ ⟨⟨F, A, rfl, hI⟩, rfl⟩
                  refine ezw_iload rfl rfl ?_
                  by_cases q1 : a4 = (0)
                  · refine ezw_lookupswitchE (v := 0) (p := 96) q1 rfl (by rfl) ?_
                    refine ezw_aload_n rfl rfl ?_
                    refine ezs_getp (p := 22) rfl rfl rfl rfl rfl ?_
                    refine ezs_get_i hI rfl rfl rfl rfl rfl rfl (fun u2 hu2 ku2 => ?_)
                    exact ezw_ireturn rfl rfl ⟨⟨F, A, rfl, hI⟩, _, hu2, rfl⟩
                  by_cases q3 : a4 = (1)
                  · refine ezw_lookupswitchE (v := 1) (p := 104) q3 rfl (by rfl) ?_
                    refine ezw_aload_n rfl rfl ?_
                    refine ezs_getp (p := 22) rfl rfl rfl rfl rfl ?_
                    refine ezs_get_i hI rfl rfl rfl rfl rfl rfl (fun u4 hu4 ku4 => ?_)
                    exact ezw_ireturn rfl rfl ⟨⟨F, A, rfl, hI⟩, _, hu4, rfl⟩
                  refine ezw_lookupswitch (p := 112) rfl (ezs_swd ha4 (And.intro (And.intro ⟨by decide, by decide⟩ (fun z => q1 z.symm)) (And.intro (And.intro ⟨by decide, by decide⟩ (fun z => q3 z.symm)) True.intro)) rfl) ?_
                  refine ezw_aload_n rfl rfl ?_
                  refine ezs_getp (p := 22) rfl rfl rfl rfl rfl ?_
                  refine ezs_get_i hI rfl rfl rfl rfl rfl rfl (fun u5 hu5 ku5 => ?_)
                  exact ezw_ireturn rfl rfl ⟨⟨F, A, rfl, hI⟩, _, hu5, rfl⟩
                · refine ezw_iconst (-1) rfl rfl ?_
                  exact ezw_ireturn rfl rfl ⟨⟨F, A, rfl, hI⟩, _, ⟨by decide, by decide⟩, rfl⟩
            · refine ezw_iconst (-1) rfl rfl ?_
              exact ezw_ireturn rfl rfl ⟨⟨F, A, rfl, hI⟩, _, ⟨by decide, by decide⟩, rfl⟩
theorem ezs_m146_0_t {b2 : Bool} {a1 a2 : Int} {F : Nat → Nat → Int} {A : Nat → Int → Int} (hI : ezs_I fz F0 A0 F A) (hd : 22 ≤ d) (hzA : ∀ q, 23 ≤ q → q < 26 → fz q = false) (ha1 : ezw_in a1) (ha2 : ezw_in a2) : ezw_C l ρ B xa Hb D cA 146 d [ezw_p 0, ezw_i a1, ezw_i a2] (ezu_g (true, b2) F A) (ezs_P (true, b2) fz F0 A0 ezs_ri) := by
  refine ezw_met (k := 1) rfl rfl ?_
  refine ezw_iload_n rfl rfl ?_
  refine ezw_if_lt rfl rfl ha1 (fun h1_0 => ?_) (fun h1_0 => ?_)
  · refine ezw_iconst (-1) rfl rfl ?_
    exact ezw_ireturn rfl rfl ⟨⟨F, A, rfl, hI⟩, _, ⟨by decide, by decide⟩, rfl⟩
  · refine ezw_iload_n rfl rfl ?_
    refine ezw_bipush (6) rfl rfl ?_
    refine ezw_icmp_gt rfl rfl ha1 ⟨by decide, by decide⟩ (fun h7_0 => ?_) (fun h7_0 => ?_)
    · refine ezw_iconst (-1) rfl rfl ?_
      exact ezw_ireturn rfl rfl ⟨⟨F, A, rfl, hI⟩, _, ⟨by decide, by decide⟩, rfl⟩
    · refine ezw_iload_n rfl rfl ?_
      refine ezw_if_eq rfl rfl ha2 (fun h11_0 => ?_) (fun h11_0 => ?_)
      · refine ezw_aload_n rfl rfl ?_
        refine ezs_getp (p := 13) rfl rfl rfl rfl rfl ?_
        refine ezs_get_i hI rfl rfl rfl rfl rfl rfl (fun u1 hu1 ku1 => ?_)
        refine ezw_if_eq rfl rfl hu1 (fun h28_1 => ?_) (fun h28_1 => ?_)
        · refine ezw_aload_n rfl rfl ?_
          refine ezs_getp (p := 22) rfl rfl rfl rfl rfl ?_
          refine ezs_getp (p := 23) rfl rfl rfl rfl rfl ?_
          refine ezw_aload_n rfl rfl ?_
          refine ezs_getp (p := 47) rfl rfl rfl rfl rfl ?_
          refine ezw_aload_n rfl rfl ?_
          refine ezs_getp (p := 13) rfl rfl rfl rfl rfl ?_
          refine ezw_call0_2 rfl (by omega) (ezu_at rfl) rfl rfl rfl rfl (ezs_m147_23_47_13 hI (by omega) (fun q h0 h1 => hzA q (by omega) (by omega))) ?_
          rintro _ _ ⟨⟨F, A, rfl, hI⟩, rfl⟩
          refine ezw_aload_n rfl rfl ?_
          refine ezs_getp (p := 22) rfl rfl rfl rfl rfl ?_
          refine ezs_getp (p := 23) rfl rfl rfl rfl rfl ?_
          refine ezw_aload_n rfl rfl ?_
          refine ezs_getp (p := 47) rfl rfl rfl rfl rfl ?_
          refine ezw_aload_n rfl rfl ?_
          refine ezs_getp (p := 13) rfl rfl rfl rfl rfl ?_
          refine ezw_iload_n rfl rfl ?_
          refine ezw_call0_3 rfl (by omega) (ezu_at rfl) rfl rfl rfl rfl (ezs_m148_23_47_13 hI (by omega) (fun q h0 h1 => hzA q (by omega) (by omega)) ha1 (by omega)) ?_
          rintro _ _ ⟨⟨F, A, rfl, hI⟩, u2, hu2, rfl⟩
          refine ezw_istore_n rfl rfl ?_
          refine ezw_iload_n rfl rfl ?_
          refine ezw_if_ne rfl rfl ha2 (fun h94_2 => ?_) (fun h94_2 => ?_)
          · refine ezw_iload_n rfl rfl ?_
            refine ezw_call2_1 rfl (by omega) rfl rfl (ezs_m155 hI (by omega) hu2) ?_
            rintro _ _ ⟨rfl, u3, hu3, rfl⟩
            exact ezw_ireturn rfl rfl ⟨⟨F, A, rfl, hI⟩, _, hu3, rfl⟩
          · refine ezw_iload_n rfl rfl ?_
            refine ezw_call2_1 rfl (by omega) rfl rfl (ezs_m152 hI (by omega) hu2) ?_
            rintro _ _ ⟨rfl, u4, hu4, rfl⟩
            refine ezw_goto rfl rfl ?_
            exact ezw_ireturn rfl rfl ⟨⟨F, A, rfl, hI⟩, _, hu4, rfl⟩
        · refine ezw_iload_n rfl rfl ?_
          refine ezw_if_ne rfl rfl ha2 (fun h32_4 => ?_) (fun h32_4 => ?_)
          · refine ezw_iconst (0) rfl rfl ?_
            exact ezw_ireturn rfl rfl ⟨⟨F, A, rfl, hI⟩, _, ⟨by decide, by decide⟩, rfl⟩
          · refine ezw_sipush (1000) rfl rfl ?_
            refine ezw_aload_n rfl rfl ?_
            refine ezs_getp (p := 13) rfl rfl rfl rfl rfl ?_
            refine ezw_aload_n rfl rfl ?_
            refine ezs_getp (p := 47) rfl rfl rfl rfl rfl ?_
            refine ezw_call0_1 rfl (by omega) (ezu_at rfl) rfl rfl rfl rfl (ezs_m143_13_47 hI (by omega)) ?_
            rintro _ _ ⟨rfl, u5, hu5, rfl⟩
            refine ezs_imul rfl (fun u6 hu6 => ?_)
            refine ezw_goto rfl rfl ?_
            exact ezw_ireturn rfl rfl ⟨⟨F, A, rfl, hI⟩, _, hu6, rfl⟩
      · refine ezw_iload_n rfl rfl ?_
        refine ezw_iconst (1) rfl rfl ?_
        refine ezw_icmp_eq rfl rfl ha2 ⟨by decide, by decide⟩ (fun h16_6 => ?_) (fun h16_6 => ?_)
        · refine ezw_aload_n rfl rfl ?_
          refine ezs_getp (p := 13) rfl rfl rfl rfl rfl ?_
          refine ezs_get_i hI rfl rfl rfl rfl rfl rfl (fun u7 hu7 ku7 => ?_)
          refine ezw_if_eq rfl rfl hu7 (fun h28_7 => ?_) (fun h28_7 => ?_)
          · refine ezw_aload_n rfl rfl ?_
            refine ezs_getp (p := 22) rfl rfl rfl rfl rfl ?_
            refine ezs_getp (p := 23) rfl rfl rfl rfl rfl ?_
            refine ezw_aload_n rfl rfl ?_
            refine ezs_getp (p := 47) rfl rfl rfl rfl rfl ?_
            refine ezw_aload_n rfl rfl ?_
            refine ezs_getp (p := 13) rfl rfl rfl rfl rfl ?_
            refine ezw_call0_2 rfl (by omega) (ezu_at rfl) rfl rfl rfl rfl (ezs_m147_23_47_13 hI (by omega) (fun q h0 h1 => hzA q (by omega) (by omega))) ?_
            rintro _ _ ⟨⟨F, A, rfl, hI⟩, rfl⟩
            refine ezw_aload_n rfl rfl ?_
            refine ezs_getp (p := 22) rfl rfl rfl rfl rfl ?_
            refine ezs_getp (p := 23) rfl rfl rfl rfl rfl ?_
            refine ezw_aload_n rfl rfl ?_
            refine ezs_getp (p := 47) rfl rfl rfl rfl rfl ?_
            refine ezw_aload_n rfl rfl ?_
            refine ezs_getp (p := 13) rfl rfl rfl rfl rfl ?_
            refine ezw_iload_n rfl rfl ?_
            refine ezw_call0_3 rfl (by omega) (ezu_at rfl) rfl rfl rfl rfl (ezs_m148_23_47_13 hI (by omega) (fun q h0 h1 => hzA q (by omega) (by omega)) ha1 (by omega)) ?_
            rintro _ _ ⟨⟨F, A, rfl, hI⟩, u8, hu8, rfl⟩
            refine ezw_istore_n rfl rfl ?_
            refine ezw_iload_n rfl rfl ?_
            refine ezw_if_ne rfl rfl ha2 (fun h94_8 => ?_) (fun h94_8 => ?_)
            · refine ezw_iload_n rfl rfl ?_
              refine ezw_call2_1 rfl (by omega) rfl rfl (ezs_m155 hI (by omega) hu8) ?_
              rintro _ _ ⟨rfl, u9, hu9, rfl⟩
              exact ezw_ireturn rfl rfl ⟨⟨F, A, rfl, hI⟩, _, hu9, rfl⟩
            · refine ezw_iload_n rfl rfl ?_
              refine ezw_call2_1 rfl (by omega) rfl rfl (ezs_m152 hI (by omega) hu8) ?_
              rintro _ _ ⟨rfl, u10, hu10, rfl⟩
              refine ezw_goto rfl rfl ?_
              exact ezw_ireturn rfl rfl ⟨⟨F, A, rfl, hI⟩, _, hu10, rfl⟩
          · refine ezw_iload_n rfl rfl ?_
            refine ezw_if_ne rfl rfl ha2 (fun h32_10 => ?_) (fun h32_10 => ?_)
            · refine ezw_iconst (0) rfl rfl ?_
              exact ezw_ireturn rfl rfl ⟨⟨F, A, rfl, hI⟩, _, ⟨by decide, by decide⟩, rfl⟩
            · refine ezw_sipush (1000) rfl rfl ?_
              refine ezw_aload_n rfl rfl ?_
              refine ezs_getp (p := 13) rfl rfl rfl rfl rfl ?_
              refine ezw_aload_n rfl rfl ?_
              refine ezs_getp (p := 47) rfl rfl rfl rfl rfl ?_
              refine ezw_call0_1 rfl (by omega) (ezu_at rfl) rfl rfl rfl rfl (ezs_m143_13_47 hI (by omega)) ?_
              rintro _ _ ⟨rfl, u11, hu11, rfl⟩
              refine ezs_imul rfl (fun u12 hu12 => ?_)
              refine ezw_goto rfl rfl ?_
              exact ezw_ireturn rfl rfl ⟨⟨F, A, rfl, hI⟩, _, hu12, rfl⟩
        · refine ezw_iconst (-1) rfl rfl ?_
          exact ezw_ireturn rfl rfl ⟨⟨F, A, rfl, hI⟩, _, ⟨by decide, by decide⟩, rfl⟩
theorem ezs_m171_47 {a1 : Int} {F : Nat → Nat → Int} {A : Nat → Int → Int} (hI : ezs_I fz F0 A0 F A) (hd : 2 ≤ d) (ha1 : ezw_in a1) : ezw_C l ρ B xa Hb D cA 171 d [ezw_p 47, ezw_i a1] (ezu_g e F A) (ezs_Pp e F A ezs_ri) := by
  refine ezw_met (k := 4) rfl rfl ?_
  refine ezw_iconst (0) rfl rfl ?_
  refine ezw_istore_n rfl rfl ?_
  refine ezw_iconst (-1) rfl rfl ?_
  refine ezw_istore_n rfl rfl ?_
  refine ezw_iconst (0) rfl rfl ?_
  refine ezw_istore rfl rfl ?_
  have L7_3 : ∀ c3 : Int, ezw_in c3 → (0) ≤ c3 → ∀ y1 : Int, ezw_in y1 → ∀ y2 : Int, ezw_in y2 → ezw_E l ρ B xa Hb D cA d ezq_re171 (ezs_Pp e F A ezs_ri) 7 [some (ezw_p 47), some (ezw_i a1), some (ezw_i y1), some (ezw_i y2), some (ezw_i c3), none] [] (ezu_g e F A) := by
    refine ezs_up ?_
    intro c3 hc3 ihc3 gc3 y1 hy1 y2 hy2 
    refine ezw_iload rfl rfl ?_
    refine ezw_aload_n rfl rfl ?_
    refine ezs_get_i hI rfl rfl rfl rfl rfl rfl (fun u5 hu5 ku5 => ?_)
    refine ezw_icmp_ge rfl rfl hc3 hu5 (fun h13_5 => ?_) (fun h13_5 => ?_)
    · refine ezw_iload_n rfl rfl ?_
      exact ezw_ireturn rfl rfl ⟨rfl, _, hy1, rfl⟩
    · refine ezw_iload_n rfl rfl ?_
      refine ezw_iload rfl rfl ?_
      refine ezw_call3_2 rfl (by omega) rfl rfl (ezs_m49 hI (by omega) ha1 hc3) ?_
      rintro _ _ ⟨rfl, u6, hu6, rfl⟩
      refine ezw_iconst (1) rfl rfl ?_
      refine ezw_icmp_ne rfl rfl hu6 ⟨by decide, by decide⟩ (fun h23_6 => ?_) (fun h23_6 => ?_)
      · refine ezw_iinc (1) rfl rfl rfl rfl rfl ?_
        refine ezw_goto rfl rfl ?_
        exact ezw_keepE [true, true, true, true, true, false] (ihc3 (c3 + (1)) (by omega) ⟨by omega, by omega⟩ (by omega) y1 hy1 y2 hy2)
      · refine ezw_aload_n rfl rfl ?_
        refine ezs_getp (p := 48) rfl rfl rfl rfl rfl ?_
        refine ezw_aload_n rfl rfl ?_
        refine ezw_iload rfl rfl ?_
        refine ezw_call0_1 rfl (by omega) (ezu_at rfl) rfl rfl rfl rfl (ezs_m108_47 hI (by omega) hc3) ?_
        rintro _ _ ⟨rfl, u7, hu7, rfl⟩
        refine ezw_call3_2 rfl (by omega) rfl rfl (ezs_m27_48 hI (by omega) hu7) ?_
        rintro _ _ ⟨rfl, u8, hu8, rfl⟩
        refine ezw_istore rfl rfl ?_
        refine ezw_iload_n rfl rfl ?_
        refine ezw_iconst (-1) rfl rfl ?_
        refine ezw_icmp_eq rfl rfl hy2 ⟨by decide, by decide⟩ (fun h43_8 => ?_) (fun h43_8 => ?_)
        · refine ezw_iload rfl rfl ?_
          refine ezw_istore_n rfl rfl ?_
          refine ezw_iinc (1) rfl rfl rfl rfl rfl ?_
          refine ezw_goto rfl rfl ?_
          exact ezw_keepE [true, true, true, true, true, false] (ihc3 (c3 + (1)) (by omega) ⟨by omega, by omega⟩ (by omega) y1 hy1 u8 hu8)
        · refine ezw_iload_n rfl rfl ?_
          refine ezw_iload rfl rfl ?_
          refine ezw_iload_n rfl rfl ?_
          refine ezs_isub rfl (fun u9 hu9 => ?_)
          refine ezs_mabs rfl hu9 rfl (fun u10 hu10 => ?_)
          refine ezw_iconst (1) rfl rfl ?_
          refine ezs_iadd rfl (fun u11 hu11 => ?_)
          refine ezs_iadd rfl (fun u12 hu12 => ?_)
          refine ezw_istore_n rfl rfl ?_
          refine ezw_iload rfl rfl ?_
          refine ezw_istore_n rfl rfl ?_
          refine ezw_iinc (1) rfl rfl rfl rfl rfl ?_
          refine ezw_goto rfl rfl ?_
          exact ezw_keepE [true, true, true, true, true, false] (ihc3 (c3 + (1)) (by omega) ⟨by omega, by omega⟩ (by omega) u12 hu12 u8 hu8)
  exact ezw_keepE [true, true, true, true, true, false] (L7_3 (0) ⟨by decide, by decide⟩ (by omega) (0) ⟨by decide, by decide⟩ (-1) ⟨by decide, by decide⟩)
theorem ezs_m169_0_t {b2 : Bool} {a1 a2 a3 : Int} {F : Nat → Nat → Int} {A : Nat → Int → Int} (hI : ezs_I fz F0 A0 F A) (hd : 3 ≤ d) (ha1 : ezw_in a1) (ha2 : ezw_in a2) (ha3 : ezw_in a3) : ezw_C l ρ B xa Hb D cA 169 d [ezw_p 0, ezw_i a1, ezw_i a2, ezw_i a3] (ezu_g (true, b2) F A) (ezs_Pp (true, b2) F A ezs_ri) := by
  refine ezw_met (k := 1) rfl rfl ?_
  refine ezw_iload_n rfl rfl ?_
  refine ezw_call2_1 rfl (by omega) rfl rfl (ezs_m112 hI (by omega) ha1) ?_
  rintro _ _ ⟨rfl, u1, hu1, rfl⟩
  refine ezw_if_eq rfl rfl ⟨by omega, by omega⟩ (fun h4_1 => ?_) (fun h4_1 => ?_)
  · refine ezw_iconst (-1) rfl rfl ?_
    exact ezw_ireturn rfl rfl ⟨rfl, _, ⟨by decide, by decide⟩, rfl⟩
  · refine ezw_iload_n rfl rfl ?_
    refine ezw_if_lt rfl rfl ha2 (fun h8_1 => ?_) (fun h8_1 => ?_)
    · refine ezw_iconst (-1) rfl rfl ?_
      exact ezw_ireturn rfl rfl ⟨rfl, _, ⟨by decide, by decide⟩, rfl⟩
    · refine ezw_iload_n rfl rfl ?_
      refine ezw_bipush (20) rfl rfl ?_
      refine ezw_icmp_gt rfl rfl ha2 ⟨by decide, by decide⟩ (fun h14_1 => ?_) (fun h14_1 => ?_)
      · refine ezw_iconst (-1) rfl rfl ?_
        exact ezw_ireturn rfl rfl ⟨rfl, _, ⟨by decide, by decide⟩, rfl⟩
      · refine ezw_iload_n rfl rfl ?_
        refine ezw_if_eq rfl rfl ha3 (fun h18_1 => ?_) (fun h18_1 => ?_)
        · refine ezw_aload_n rfl rfl ?_
          refine ezs_getp (p := 13) rfl rfl rfl rfl rfl ?_
          refine ezs_get_i hI rfl rfl rfl rfl rfl rfl (fun u2 hu2 ku2 => ?_)
          refine ezw_if_eq rfl rfl hu2 (fun h33_2 => ?_) (fun h33_2 => ?_)
          · refine ezw_aload_n rfl rfl ?_
            refine ezs_getp (p := 13) rfl rfl rfl rfl rfl ?_
            refine ezw_aload_n rfl rfl ?_
            refine ezs_getp (p := 47) rfl rfl rfl rfl rfl ?_
            refine ezw_iload_n rfl rfl ?_
            refine ezw_iload_n rfl rfl ?_
            refine ezw_call0_3 rfl (by omega) (ezu_at rfl) rfl rfl rfl rfl (ezs_m170_13_47 hI (by omega) ha1 ha2) ?_
            rintro _ _ ⟨rfl, u3, hu3, rfl⟩
            refine ezw_istore rfl rfl ?_
            refine ezw_iload_n rfl rfl ?_
            refine ezw_if_ne rfl rfl ha3 (fun h54_3 => ?_) (fun h54_3 => ?_)
            · refine ezw_aload_n rfl rfl ?_
              refine ezs_getp (p := 47) rfl rfl rfl rfl rfl ?_
              refine ezw_iload rfl rfl ?_
              refine ezw_call0_1 rfl (by omega) (ezu_at rfl) rfl rfl rfl rfl (ezs_m171_47 hI (by omega) hu3) ?_
              rintro _ _ ⟨rfl, u4, hu4, rfl⟩
              exact ezw_ireturn rfl rfl ⟨rfl, _, hu4, rfl⟩
            · refine ezw_iload rfl rfl ?_
              refine ezw_call2_1 rfl (by omega) rfl rfl (ezs_m132 hI (by omega) hu3) ?_
              rintro _ _ ⟨rfl, u5, hu5, rfl⟩
              refine ezw_goto rfl rfl ?_
              exact ezw_ireturn rfl rfl ⟨rfl, _, hu5, rfl⟩
          · refine ezw_iconst (-1) rfl rfl ?_
            exact ezw_ireturn rfl rfl ⟨rfl, _, ⟨by decide, by decide⟩, rfl⟩
        · refine ezw_iload_n rfl rfl ?_
          refine ezw_iconst (1) rfl rfl ?_
          refine ezw_icmp_ne rfl rfl ha3 ⟨by decide, by decide⟩ (fun h23_5 => ?_) (fun h23_5 => ?_)
          · refine ezw_iconst (-1) rfl rfl ?_
            exact ezw_ireturn rfl rfl ⟨rfl, _, ⟨by decide, by decide⟩, rfl⟩
          · refine ezw_aload_n rfl rfl ?_
            refine ezs_getp (p := 13) rfl rfl rfl rfl rfl ?_
            refine ezs_get_i hI rfl rfl rfl rfl rfl rfl (fun u6 hu6 ku6 => ?_)
            refine ezw_if_eq rfl rfl hu6 (fun h33_6 => ?_) (fun h33_6 => ?_)
            · refine ezw_aload_n rfl rfl ?_
              refine ezs_getp (p := 13) rfl rfl rfl rfl rfl ?_
              refine ezw_aload_n rfl rfl ?_
              refine ezs_getp (p := 47) rfl rfl rfl rfl rfl ?_
              refine ezw_iload_n rfl rfl ?_
              refine ezw_iload_n rfl rfl ?_
              refine ezw_call0_3 rfl (by omega) (ezu_at rfl) rfl rfl rfl rfl (ezs_m170_13_47 hI (by omega) ha1 ha2) ?_
              rintro _ _ ⟨rfl, u7, hu7, rfl⟩
              refine ezw_istore rfl rfl ?_
              refine ezw_iload_n rfl rfl ?_
              refine ezw_if_ne rfl rfl ha3 (fun h54_7 => ?_) (fun h54_7 => ?_)
              · refine ezw_aload_n rfl rfl ?_
                refine ezs_getp (p := 47) rfl rfl rfl rfl rfl ?_
                refine ezw_iload rfl rfl ?_
                refine ezw_call0_1 rfl (by omega) (ezu_at rfl) rfl rfl rfl rfl (ezs_m171_47 hI (by omega) hu7) ?_
                rintro _ _ ⟨rfl, u8, hu8, rfl⟩
                exact ezw_ireturn rfl rfl ⟨rfl, _, hu8, rfl⟩
              · refine ezw_iload rfl rfl ?_
                refine ezw_call2_1 rfl (by omega) rfl rfl (ezs_m132 hI (by omega) hu7) ?_
                rintro _ _ ⟨rfl, u9, hu9, rfl⟩
                refine ezw_goto rfl rfl ?_
                exact ezw_ireturn rfl rfl ⟨rfl, _, hu9, rfl⟩
            · refine ezw_iconst (-1) rfl rfl ?_
              exact ezw_ireturn rfl rfl ⟨rfl, _, ⟨by decide, by decide⟩, rfl⟩
theorem ezs_m172_0_t {b2 : Bool} {a1 a2 : Int} {F : Nat → Nat → Int} {A : Nat → Int → Int} (hI : ezs_I fz F0 A0 F A) (hd : 5 ≤ d) (hzA : ∀ q, 14 ≤ q → q < 16 → fz q = false) (ha1 : ezw_in a1) (ha2 : ezw_in a2) : ezw_C l ρ B xa Hb D cA 172 d [ezw_p 0, ezw_i a1, ezw_i a2] (ezu_g (true, b2) F A) (ezs_P (true, b2) fz F0 A0 ezs_ri) := by
  refine ezw_met (k := 0) rfl rfl ?_
  refine ezw_iload_n rfl rfl ?_
  refine ezw_call2_1 rfl (by omega) rfl rfl (ezs_m112 hI (by omega) ha1) ?_
  rintro _ _ ⟨rfl, u1, hu1, rfl⟩
  refine ezw_if_eq rfl rfl ⟨by omega, by omega⟩ (fun h4_1 => ?_) (fun h4_1 => ?_)
  · refine ezw_iconst (-1) rfl rfl ?_
    exact ezw_ireturn rfl rfl ⟨⟨F, A, rfl, hI⟩, _, ⟨by decide, by decide⟩, rfl⟩
  · refine ezw_iload_n rfl rfl ?_
    refine ezw_if_lt rfl rfl ha2 (fun h8_1 => ?_) (fun h8_1 => ?_)
    · refine ezw_iconst (-1) rfl rfl ?_
      exact ezw_ireturn rfl rfl ⟨⟨F, A, rfl, hI⟩, _, ⟨by decide, by decide⟩, rfl⟩
    · refine ezw_iload_n rfl rfl ?_
      refine ezw_bipush (48) rfl rfl ?_
      refine ezw_icmp_le rfl rfl ha2 ⟨by decide, by decide⟩ (fun h14_1 => ?_) (fun h14_1 => ?_)
      · refine ezw_aload_n rfl rfl ?_
        refine ezs_getp (p := 13) rfl rfl rfl rfl rfl ?_
        refine ezw_aload_n rfl rfl ?_
        refine ezs_getp (p := 47) rfl rfl rfl rfl rfl ?_
        refine ezw_iload_n rfl rfl ?_
        refine ezw_iload_n rfl rfl ?_
        refine ezw_call0_3 rfl (by omega) (ezu_at rfl) rfl rfl rfl rfl (ezs_m173_13_47 hI (by omega) (fun q h0 h1 => hzA q (by omega) (by omega)) ha1 ha2) ?_
        rintro _ _ ⟨⟨F, A, rfl, hI⟩, u2, hu2, rfl⟩
        exact ezw_ireturn rfl rfl ⟨⟨F, A, rfl, hI⟩, _, hu2, rfl⟩
      · refine ezw_iconst (-1) rfl rfl ?_
        exact ezw_ireturn rfl rfl ⟨⟨F, A, rfl, hI⟩, _, ⟨by decide, by decide⟩, rfl⟩
theorem ezs_m191_47 {a1 a2 : Int} {F : Nat → Nat → Int} {A : Nat → Int → Int} (hI : ezs_I fz F0 A0 F A) (hd : 1 ≤ d) (ha1 : ezw_in a1) (ha2 : ezw_in a2) : ezw_C l ρ B xa Hb D cA 191 d [ezw_p 47, ezw_i a1, ezw_i a2] (ezu_g e F A) (ezs_Pp e F A ezs_rz) := by
  refine ezw_met (k := 0) rfl rfl ?_
  refine ezw_aload_n rfl rfl ?_
  refine ezs_getp (p := 59) rfl rfl rfl rfl rfl ?_
  refine ezw_iload_n rfl rfl ?_
  refine ezw_call3_2 rfl (by omega) rfl rfl (ezs_m27_59 hI (by omega) ha1) ?_
  rintro _ _ ⟨rfl, u1, hu1, rfl⟩
  refine ezw_iload_n rfl rfl ?_
  refine ezw_iconst (-1) rfl rfl ?_
  refine ezs_ixor rfl (fun u2 hu2 => ?_)
  refine ezs_iand rfl (fun u3 hu3 => ?_)
  refine ezw_if_ne rfl rfl hu3 (fun h12_3 => ?_) (fun h12_3 => ?_)
  · refine ezw_iconst (0) rfl rfl ?_
    exact ezw_ireturn rfl (ezw_zret ⟨by omega, by omega⟩) ⟨rfl, _, ⟨by omega, by omega⟩, rfl⟩
  · refine ezw_iconst (1) rfl rfl ?_
    refine ezw_goto rfl rfl ?_
    exact ezw_ireturn rfl (ezw_zret ⟨by omega, by omega⟩) ⟨rfl, _, ⟨by omega, by omega⟩, rfl⟩
theorem ezs_m190_47_29 {F : Nat → Nat → Int} {A : Nat → Int → Int} (hI : ezs_I fz F0 A0 F A) (hd : 2 ≤ d) (hzA : ∀ q, 29 ≤ q → q < 30 → fz q = false) : ezw_C l ρ B xa Hb D cA 190 d [ezw_p 47, ezw_p 29] (ezu_g e F A) (ezs_P e fz F0 A0 ezs_rn) := by
  refine ezw_met (k := 4) rfl rfl ?_
  refine ezw_aload_n rfl rfl ?_
  refine ezw_iconst (0) rfl rfl ?_
  refine ezw_iconst (1) rfl rfl ?_
  refine ezw_call3_3 rfl (by omega) rfl rfl (ezs_m21_29 hI (by omega) (fun q h0 h1 => hzA q (by omega) (by omega)) ⟨by decide, by decide⟩ ⟨by decide, by decide⟩) ?_
  rintro _ _ ⟨⟨F, A, rfl, hI⟩, rfl⟩
  refine ezw_iconst (1) rfl rfl ?_
  refine ezw_istore_n rfl rfl ?_
  have L8_1 : ∀ c1 : Int, ezw_in c1 → (1) ≤ c1 → ∀ F A, ezs_I fz F0 A0 F A → ezw_E l ρ B xa Hb D cA d ezq_re190 (ezs_P e fz F0 A0 ezs_rn) 8 [some (ezw_p 47), some (ezw_p 29), some (ezw_i c1), none, none, none] [] (ezu_g e F A) := by
    refine ezs_up ?_
    intro c1 hc1 ihc1 gc1 F A hI
    refine ezw_iload_n rfl rfl ?_
    refine ezw_iconst (1) rfl rfl ?_
    refine ezw_aload_n rfl rfl ?_
    refine ezs_get_i hI rfl rfl rfl rfl rfl rfl (fun u3 hu3 ku3 => ?_)
    refine ezw_ishlO rfl (fun u4 hu4 => ?_)
    refine ezw_icmp_ge rfl rfl hc1 hu4 (fun h15_4 => ?_) (fun h15_4 => ?_)
    · exact ezw_return rfl rfl ⟨⟨F, A, rfl, hI⟩, rfl⟩
    · refine ezw_iconst (0) rfl rfl ?_
      refine ezw_istore_n rfl rfl ?_
      refine ezw_iconst (0) rfl rfl ?_
      refine ezw_istore rfl rfl ?_
      have L23_6 : ∀ c6 : Int, ezw_in c6 → (0) ≤ c6 → ∀ y5 : Int, ezw_in y5 → ∀ F A, ezs_I fz F0 A0 F A → ezw_E l ρ B xa Hb D cA d ezq_re190 (ezs_P e fz F0 A0 ezs_rn) 23 [some (ezw_p 47), some (ezw_p 29), some (ezw_i c1), some (ezw_i y5), some (ezw_i c6), none] [] (ezu_g e F A) := by
        refine ezs_up ?_
        intro c6 hc6 ihc6 gc6 y5 hy5 F A hI
        refine ezw_iload rfl rfl ?_
        refine ezw_aload_n rfl rfl ?_
        refine ezs_get_i hI rfl rfl rfl rfl rfl rfl (fun u8 hu8 ku8 => ?_)
        have J74_10 : ∀ y9 : Int, ezw_in y9 → ∀ y10 : Int, ezw_in y10 → ∀ F A, ezs_I fz F0 A0 F A → ezw_E l ρ B xa Hb D cA d ezq_re190 (ezs_P e fz F0 A0 ezs_rn) 74 [some (ezw_p 47), some (ezw_p 29), some (ezw_i c1), some (ezw_i y9), some (ezw_i y10), none] [] (ezu_g e F A) := by
          intro y9 hy9 y10 hy10 F A hI
          refine ezw_aload_n rfl rfl ?_
          refine ezw_iload_n rfl rfl ?_
          refine ezw_iload_n rfl rfl ?_
          refine ezw_call3_3 rfl (by omega) rfl rfl (ezs_m21_29 hI (by omega) (fun q h0 h1 => hzA q (by omega) (by omega)) hc1 hy9) ?_
          rintro _ _ ⟨⟨F, A, rfl, hI⟩, rfl⟩
          refine ezw_iinc (1) rfl rfl rfl rfl rfl ?_
          refine ezw_goto rfl rfl ?_
          exact ezw_keepE [true, true, true, false, false, false] (ihc1 (c1 + (1)) (by omega) ⟨by omega, by omega⟩ (by omega)  F A hI)
        refine ezw_icmp_ge rfl rfl hc6 hu8 (fun h29_8 => ?_) (fun h29_8 => ?_)
        · exact ezw_keepE [true, true, true, true, true, false] (J74_10 y5 hy5 c6 hc6 F A hI)
        · refine ezw_iload_n rfl rfl ?_
          refine ezw_iconst (1) rfl rfl ?_
          refine ezw_iload rfl rfl ?_
          refine ezw_ishlO rfl (fun u12 hu12 => ?_)
          refine ezw_iconst (-1) rfl rfl ?_
          refine ezs_ixor rfl (fun u13 hu13 => ?_)
          refine ezs_iand rfl (fun u14 hu14 => ?_)
          refine ezw_istore rfl rfl ?_
          refine ezw_iload rfl rfl ?_
          refine ezw_iload_n rfl rfl ?_
          refine ezw_icmp_eq rfl rfl hu14 hc1 (fun h45_14 => ?_) (fun h45_14 => ?_)
          · refine ezw_iinc (1) rfl rfl rfl rfl rfl ?_
            refine ezw_goto rfl rfl ?_
            exact ezw_keepE [true, true, true, true, true, false] (ihc6 (c6 + (1)) (by omega) ⟨by omega, by omega⟩ (by omega) y5 hy5 F A hI)
          · refine ezw_aload_n rfl rfl ?_
            refine ezw_iload rfl rfl ?_
            refine ezw_iload rfl rfl ?_
            refine ezw_call0_2 rfl (by omega) (ezu_at rfl) rfl rfl rfl rfl (ezs_m191_47 hI (by omega) hc6 hu14) ?_
            rintro _ _ ⟨rfl, u15, hu15, rfl⟩
            refine ezw_if_eq rfl rfl ⟨by omega, by omega⟩ (fun h56_15 => ?_) (fun h56_15 => ?_)
            · refine ezw_iinc (1) rfl rfl rfl rfl rfl ?_
              refine ezw_goto rfl rfl ?_
              exact ezw_keepE [true, true, true, true, true, false] (ihc6 (c6 + (1)) (by omega) ⟨by omega, by omega⟩ (by omega) y5 hy5 F A hI)
            · refine ezw_iload_n rfl rfl ?_
              refine ezw_aload_n rfl rfl ?_
              refine ezw_iload rfl rfl ?_
              refine ezw_call3_2 rfl (by omega) rfl rfl (ezs_m27_29 hI (by omega) hu14) ?_
              rintro _ _ ⟨rfl, u16, hu16, rfl⟩
              refine ezs_iadd rfl (fun u17 hu17 => ?_)
              refine ezw_istore_n rfl rfl ?_
              refine ezw_iinc (1) rfl rfl rfl rfl rfl ?_
              refine ezw_goto rfl rfl ?_
              exact ezw_keepE [true, true, true, true, true, false] (ihc6 (c6 + (1)) (by omega) ⟨by omega, by omega⟩ (by omega) u17 hu17 F A hI)
      exact ezw_keepE [true, true, true, true, true, false] (L23_6 (0) ⟨by decide, by decide⟩ (by omega) (0) ⟨by decide, by decide⟩ F A hI)
  exact ezw_keepE [true, true, true, false, false, false] (L8_1 (1) ⟨by decide, by decide⟩ (by omega)  F A hI)
theorem ezs_m193_47_29 {a2 a3 : Int} {F : Nat → Nat → Int} {A : Nat → Int → Int} (hI : ezs_I fz F0 A0 F A) (hd : 2 ≤ d) (ha2 : ezw_in a2) (ha3 : ezw_in a3) : ezw_C l ρ B xa Hb D cA 193 d [ezw_p 47, ezw_p 29, ezw_i a2, ezw_i a3] (ezu_g e F A) (ezs_Pp e F A ezs_rz) := by
  refine ezw_met (k := 0) rfl rfl ?_
  refine ezw_iload_n rfl rfl ?_
  refine ezw_iload_n rfl rfl ?_
  refine ezw_call3_2 rfl (by omega) rfl rfl (ezs_m49 hI (by omega) ha3 ha2) ?_
  rintro _ _ ⟨rfl, u1, hu1, rfl⟩
  refine ezw_if_ne rfl rfl hu1 (fun h5_1 => ?_) (fun h5_1 => ?_)
  · refine ezw_iconst (0) rfl rfl ?_
    exact ezw_ireturn rfl (ezw_zret ⟨by omega, by omega⟩) ⟨rfl, _, ⟨by omega, by omega⟩, rfl⟩
  · refine ezw_aload_n rfl rfl ?_
    refine ezw_iload_n rfl rfl ?_
    refine ezw_call3_2 rfl (by omega) rfl rfl (ezs_m27_29 hI (by omega) ha3) ?_
    rintro _ _ ⟨rfl, u2, hu2, rfl⟩
    refine ezw_if_le rfl rfl hu2 (fun h13_2 => ?_) (fun h13_2 => ?_)
    · refine ezw_iconst (0) rfl rfl ?_
      exact ezw_ireturn rfl (ezw_zret ⟨by omega, by omega⟩) ⟨rfl, _, ⟨by omega, by omega⟩, rfl⟩
    · refine ezw_aload_n rfl rfl ?_
      refine ezw_iload_n rfl rfl ?_
      refine ezw_iload_n rfl rfl ?_
      refine ezw_call0_2 rfl (by omega) (ezu_at rfl) rfl rfl rfl rfl (ezs_m191_47 hI (by omega) ha2 ha3) ?_
      rintro _ _ ⟨rfl, u3, hu3, rfl⟩
      refine ezw_if_eq rfl rfl ⟨by omega, by omega⟩ (fun h22_3 => ?_) (fun h22_3 => ?_)
      · refine ezw_iconst (0) rfl rfl ?_
        exact ezw_ireturn rfl (ezw_zret ⟨by omega, by omega⟩) ⟨rfl, _, ⟨by omega, by omega⟩, rfl⟩
      · refine ezw_iconst (1) rfl rfl ?_
        refine ezw_goto rfl rfl ?_
        exact ezw_ireturn rfl (ezw_zret ⟨by omega, by omega⟩) ⟨rfl, _, ⟨by omega, by omega⟩, rfl⟩
theorem ezs_m194_47_29 {a2 : Int} {F : Nat → Nat → Int} {A : Nat → Int → Int} (hI : ezs_I fz F0 A0 F A) (hd : 3 ≤ d) (ha2 : ezw_in a2) : ezw_C l ρ B xa Hb D cA 194 d [ezw_p 47, ezw_p 29, ezw_i a2] (ezu_g e F A) (ezs_Pp e F A ezs_ri) := by
  refine ezw_met (k := 2) rfl rfl ?_
  refine ezw_iconst (0) rfl rfl ?_
  refine ezw_istore_n rfl rfl ?_
  refine ezw_iconst (0) rfl rfl ?_
  refine ezw_istore rfl rfl ?_
  have L5_2 : ∀ c2 : Int, ezw_in c2 → (0) ≤ c2 → ∀ y1 : Int, ezw_in y1 → ezw_E l ρ B xa Hb D cA d ezq_re194 (ezs_Pp e F A ezs_ri) 5 [some (ezw_p 47), some (ezw_p 29), some (ezw_i a2), some (ezw_i y1), some (ezw_i c2)] [] (ezu_g e F A) := by
    refine ezs_up ?_
    intro c2 hc2 ihc2 gc2 y1 hy1 
    refine ezw_iload rfl rfl ?_
    refine ezw_iconst (1) rfl rfl ?_
    refine ezw_aload_n rfl rfl ?_
    refine ezs_get_i hI rfl rfl rfl rfl rfl rfl (fun u4 hu4 ku4 => ?_)
    refine ezw_ishlO rfl (fun u5 hu5 => ?_)
    refine ezw_icmp_ge rfl rfl hc2 hu5 (fun h13_5 => ?_) (fun h13_5 => ?_)
    · refine ezw_iload_n rfl rfl ?_
      exact ezw_ireturn rfl rfl ⟨rfl, _, hy1, rfl⟩
    · refine ezw_aload_n rfl rfl ?_
      refine ezw_aload_n rfl rfl ?_
      refine ezw_iload_n rfl rfl ?_
      refine ezw_iload rfl rfl ?_
      refine ezw_call0_3 rfl (by omega) (ezu_at rfl) rfl rfl rfl rfl (ezs_m193_47_29 hI (by omega) ha2 hc2) ?_
      rintro _ _ ⟨rfl, u6, hu6, rfl⟩
      refine ezw_if_eq rfl rfl ⟨by omega, by omega⟩ (fun h24_6 => ?_) (fun h24_6 => ?_)
      · refine ezw_iinc (1) rfl rfl rfl rfl rfl ?_
        refine ezw_goto rfl rfl ?_
        exact ezw_keepE [true, true, true, true, true] (ihc2 (c2 + (1)) (by omega) ⟨by omega, by omega⟩ (by omega) y1 hy1)
      · refine ezw_iload_n rfl rfl ?_
        refine ezw_iload rfl rfl ?_
        refine ezw_call2_1 rfl (by omega) rfl rfl (ezs_m132 hI (by omega) hc2) ?_
        rintro _ _ ⟨rfl, u7, hu7, rfl⟩
        refine ezw_mmaxE rfl hy1 hu7 rfl (fun u8 hu8 => ?_)
        refine ezw_istore_n rfl rfl ?_
        refine ezw_iinc (1) rfl rfl rfl rfl rfl ?_
        refine ezw_goto rfl rfl ?_
        exact ezw_keepE [true, true, true, true, true] (ihc2 (c2 + (1)) (by omega) ⟨by omega, by omega⟩ (by omega) u8 ⟨by omega, by omega⟩)
  exact ezw_keepE [true, true, true, true, true] (L5_2 (0) ⟨by decide, by decide⟩ (by omega) (0) ⟨by decide, by decide⟩)
theorem ezs_m192_47_29 {a2 : Int} {F : Nat → Nat → Int} {A : Nat → Int → Int} (hI : ezs_I fz F0 A0 F A) (hd : 3 ≤ d) (ha2 : ezw_in a2) : ezw_C l ρ B xa Hb D cA 192 d [ezw_p 47, ezw_p 29, ezw_i a2] (ezu_g e F A) (ezs_Pp e F A ezs_ri) := by
  refine ezw_met (k := 2) rfl rfl ?_
  refine ezw_aload_n rfl rfl ?_
  refine ezs_get_i hI rfl rfl rfl rfl rfl rfl (fun u1 hu1 ku1 => ?_)
  refine ezw_istore_n rfl rfl ?_
  refine ezw_iconst (0) rfl rfl ?_
  refine ezw_istore rfl rfl ?_
  have L8_3 : ∀ c3 : Int, ezw_in c3 → (0) ≤ c3 → ∀ y2 : Int, ezw_in y2 → ezw_E l ρ B xa Hb D cA d ezq_re192 (ezs_Pp e F A ezs_ri) 8 [some (ezw_p 47), some (ezw_p 29), some (ezw_i a2), some (ezw_i y2), some (ezw_i c3)] [] (ezu_g e F A) := by
    refine ezs_up ?_
    intro c3 hc3 ihc3 gc3 y2 hy2 
    refine ezw_iload rfl rfl ?_
    refine ezw_iconst (1) rfl rfl ?_
    refine ezw_aload_n rfl rfl ?_
    refine ezs_get_i hI rfl rfl rfl rfl rfl rfl (fun u5 hu5 ku5 => ?_)
    refine ezw_ishlO rfl (fun u6 hu6 => ?_)
    refine ezw_icmp_ge rfl rfl hc3 hu6 (fun h16_6 => ?_) (fun h16_6 => ?_)
    · refine ezw_iload_n rfl rfl ?_
      exact ezw_ireturn rfl rfl ⟨rfl, _, hy2, rfl⟩
    · refine ezw_aload_n rfl rfl ?_
      refine ezw_aload_n rfl rfl ?_
      refine ezw_iload_n rfl rfl ?_
      refine ezw_iload rfl rfl ?_
      refine ezw_call0_3 rfl (by omega) (ezu_at rfl) rfl rfl rfl rfl (ezs_m193_47_29 hI (by omega) ha2 hc3) ?_
      rintro _ _ ⟨rfl, u7, hu7, rfl⟩
      refine ezw_if_eq rfl rfl ⟨by omega, by omega⟩ (fun h27_7 => ?_) (fun h27_7 => ?_)
      · refine ezw_iinc (1) rfl rfl rfl rfl rfl ?_
        refine ezw_goto rfl rfl ?_
        exact ezw_keepE [true, true, true, true, true] (ihc3 (c3 + (1)) (by omega) ⟨by omega, by omega⟩ (by omega) y2 hy2)
      · refine ezw_iload_n rfl rfl ?_
        refine ezw_iload rfl rfl ?_
        refine ezw_call2_1 rfl (by omega) rfl rfl (ezs_m132 hI (by omega) hc3) ?_
        rintro _ _ ⟨rfl, u8, hu8, rfl⟩
        refine ezw_mminE rfl hy2 hu8 rfl (fun u9 hu9 => ?_)
        refine ezw_istore_n rfl rfl ?_
        refine ezw_iinc (1) rfl rfl rfl rfl rfl ?_
        refine ezw_goto rfl rfl ?_
        exact ezw_keepE [true, true, true, true, true] (ihc3 (c3 + (1)) (by omega) ⟨by omega, by omega⟩ (by omega) u9 ⟨by omega, by omega⟩)
  exact ezw_keepE [true, true, true, true, true] (L8_3 (0) ⟨by decide, by decide⟩ (by omega) u1 hu1)
theorem ezs_m189_0_t {b2 : Bool} {a1 a2 : Int} {F : Nat → Nat → Int} {A : Nat → Int → Int} (hI : ezs_I fz F0 A0 F A) (hd : 4 ≤ d) (hzA : ∀ q, 29 ≤ q → q < 30 → fz q = false) (ha1 : ezw_in a1) (ha2 : ezw_in a2) : ezw_C l ρ B xa Hb D cA 189 d [ezw_p 0, ezw_i a1, ezw_i a2] (ezu_g (true, b2) F A) (ezs_P (true, b2) fz F0 A0 ezs_ri) := by
  refine ezw_met (k := 1) rfl rfl ?_
  refine ezw_aload_n rfl rfl ?_
  refine ezs_getp (p := 47) rfl rfl rfl rfl rfl ?_
  refine ezw_aload_n rfl rfl ?_
  refine ezs_getp (p := 29) rfl rfl rfl rfl rfl ?_
  refine ezw_call0_1 rfl (by omega) (ezu_at rfl) rfl rfl rfl rfl (ezs_m190_47_29 hI (by omega) (fun q h0 h1 => hzA q (by omega) (by omega))) ?_
  rintro _ _ ⟨⟨F, A, rfl, hI⟩, rfl⟩
  refine ezw_aload_n rfl rfl ?_
  refine ezs_getp (p := 29) rfl rfl rfl rfl rfl ?_
  refine ezw_iconst (1) rfl rfl ?_
  refine ezw_aload_n rfl rfl ?_
  refine ezs_getp (p := 47) rfl rfl rfl rfl rfl ?_
  refine ezs_get_i hI rfl rfl rfl rfl rfl rfl (fun u1 hu1 ku1 => ?_)
  refine ezw_ishlO rfl (fun u2 hu2 => ?_)
  refine ezw_iconst (1) rfl rfl ?_
  refine ezs_isub rfl (fun u3 hu3 => ?_)
  refine ezw_call2_2 rfl (by omega) rfl rfl (ezs_m27_29 hI (by omega) hu3) ?_
  rintro _ _ ⟨rfl, u4, hu4, rfl⟩
  refine ezw_istore_n rfl rfl ?_
  refine ezw_iload_n rfl rfl ?_
  refine ezw_iconst (-1) rfl rfl ?_
  refine ezw_icmp_ne rfl rfl ha1 ⟨by decide, by decide⟩ (fun h32_4 => ?_) (fun h32_4 => ?_)
  · refine ezw_iload_n rfl rfl ?_
    refine ezw_if_lt rfl rfl ha1 (fun h38_4 => ?_) (fun h38_4 => ?_)
    · refine ezw_bipush (-2) rfl rfl ?_
      exact ezw_ireturn rfl rfl ⟨⟨F, A, rfl, hI⟩, _, ⟨by decide, by decide⟩, rfl⟩
    · refine ezw_iload_n rfl rfl ?_
      refine ezw_aload_n rfl rfl ?_
      refine ezs_getp (p := 47) rfl rfl rfl rfl rfl ?_
      refine ezs_get_i hI rfl rfl rfl rfl rfl rfl (fun u5 hu5 ku5 => ?_)
      refine ezw_icmp_ge rfl rfl ha1 hu5 (fun h49_5 => ?_) (fun h49_5 => ?_)
      · refine ezw_bipush (-2) rfl rfl ?_
        exact ezw_ireturn rfl rfl ⟨⟨F, A, rfl, hI⟩, _, ⟨by decide, by decide⟩, rfl⟩
      · refine ezw_iload_n rfl rfl ?_
        refine ezw_if_eq rfl rfl ha2 (fun h53_5 => ?_) (fun h53_5 => ?_)
        · refine ezw_iload_n rfl rfl ?_
          refine ezw_if_ne rfl rfl hu4 (fun h62_5 => ?_) (fun h62_5 => ?_)
          · refine ezw_iload_n rfl rfl ?_
            refine ezw_if_ne rfl rfl ha2 (fun h69_5 => ?_) (fun h69_5 => ?_)
            · refine ezw_aload_n rfl rfl ?_
              refine ezs_getp (p := 47) rfl rfl rfl rfl rfl ?_
              refine ezw_aload_n rfl rfl ?_
              refine ezs_getp (p := 29) rfl rfl rfl rfl rfl ?_
              refine ezw_iload_n rfl rfl ?_
              refine ezw_call0_2 rfl (by omega) (ezu_at rfl) rfl rfl rfl rfl (ezs_m194_47_29 hI (by omega) ha1) ?_
              rintro _ _ ⟨rfl, u6, hu6, rfl⟩
              exact ezw_ireturn rfl rfl ⟨⟨F, A, rfl, hI⟩, _, hu6, rfl⟩
            · refine ezw_aload_n rfl rfl ?_
              refine ezs_getp (p := 47) rfl rfl rfl rfl rfl ?_
              refine ezw_aload_n rfl rfl ?_
              refine ezs_getp (p := 29) rfl rfl rfl rfl rfl ?_
              refine ezw_iload_n rfl rfl ?_
              refine ezw_call0_2 rfl (by omega) (ezu_at rfl) rfl rfl rfl rfl (ezs_m192_47_29 hI (by omega) ha1) ?_
              rintro _ _ ⟨rfl, u7, hu7, rfl⟩
              refine ezw_goto rfl rfl ?_
              exact ezw_ireturn rfl rfl ⟨⟨F, A, rfl, hI⟩, _, hu7, rfl⟩
          · refine ezw_bipush (-2) rfl rfl ?_
            exact ezw_ireturn rfl rfl ⟨⟨F, A, rfl, hI⟩, _, ⟨by decide, by decide⟩, rfl⟩
        · refine ezw_iload_n rfl rfl ?_
          refine ezw_iconst (1) rfl rfl ?_
          refine ezw_icmp_ne rfl rfl ha2 ⟨by decide, by decide⟩ (fun h58_7 => ?_) (fun h58_7 => ?_)
          · refine ezw_bipush (-2) rfl rfl ?_
            exact ezw_ireturn rfl rfl ⟨⟨F, A, rfl, hI⟩, _, ⟨by decide, by decide⟩, rfl⟩
          · refine ezw_iload_n rfl rfl ?_
            refine ezw_if_ne rfl rfl hu4 (fun h62_7 => ?_) (fun h62_7 => ?_)
            · refine ezw_iload_n rfl rfl ?_
              refine ezw_if_ne rfl rfl ha2 (fun h69_7 => ?_) (fun h69_7 => ?_)
              · refine ezw_aload_n rfl rfl ?_
                refine ezs_getp (p := 47) rfl rfl rfl rfl rfl ?_
                refine ezw_aload_n rfl rfl ?_
                refine ezs_getp (p := 29) rfl rfl rfl rfl rfl ?_
                refine ezw_iload_n rfl rfl ?_
                refine ezw_call0_2 rfl (by omega) (ezu_at rfl) rfl rfl rfl rfl (ezs_m194_47_29 hI (by omega) ha1) ?_
                rintro _ _ ⟨rfl, u8, hu8, rfl⟩
                exact ezw_ireturn rfl rfl ⟨⟨F, A, rfl, hI⟩, _, hu8, rfl⟩
              · refine ezw_aload_n rfl rfl ?_
                refine ezs_getp (p := 47) rfl rfl rfl rfl rfl ?_
                refine ezw_aload_n rfl rfl ?_
                refine ezs_getp (p := 29) rfl rfl rfl rfl rfl ?_
                refine ezw_iload_n rfl rfl ?_
                refine ezw_call0_2 rfl (by omega) (ezu_at rfl) rfl rfl rfl rfl (ezs_m192_47_29 hI (by omega) ha1) ?_
                rintro _ _ ⟨rfl, u9, hu9, rfl⟩
                refine ezw_goto rfl rfl ?_
                exact ezw_ireturn rfl rfl ⟨⟨F, A, rfl, hI⟩, _, hu9, rfl⟩
            · refine ezw_bipush (-2) rfl rfl ?_
              exact ezw_ireturn rfl rfl ⟨⟨F, A, rfl, hI⟩, _, ⟨by decide, by decide⟩, rfl⟩
  · refine ezw_iload_n rfl rfl ?_
    exact ezw_ireturn rfl rfl ⟨⟨F, A, rfl, hI⟩, _, hu4, rfl⟩
theorem ezs_m195_0_t {b2 : Bool} {a1 a2 a3 a4 : Int} {F : Nat → Nat → Int} {A : Nat → Int → Int} (hI : ezs_I fz F0 A0 F A) (hd : 23 ≤ d) (hzA : ∀ q, 22 ≤ q → q < 27 → fz q = false) (ha1 : ezw_in a1) (ha2 : ezw_in a2) (ha3 : ezw_in a3) (ha4 : ezw_in a4) : ezw_C l ρ B xa Hb D cA 195 d [ezw_p 0, ezw_i a1, ezw_i a2, ezw_i a3, ezw_i a4] (ezu_g (true, b2) F A) (ezs_P (true, b2) fz F0 A0 ezs_ri) := by
  refine ezw_met (k := 0) rfl rfl ?_
  refine ezw_iload_n rfl rfl ?_
  refine ezw_if_lt rfl rfl ha1 (fun h1_0 => ?_) (fun h1_0 => ?_)
  · refine ezw_iconst (-1) rfl rfl ?_
    exact ezw_ireturn rfl rfl ⟨⟨F, A, rfl, hI⟩, _, ⟨by decide, by decide⟩, rfl⟩
  · refine ezw_iload_n rfl rfl ?_
    refine ezw_sipush (9999) rfl rfl ?_
    refine ezw_icmp_gt rfl rfl ha1 ⟨by decide, by decide⟩ (fun h8_0 => ?_) (fun h8_0 => ?_)
    · refine ezw_iconst (-1) rfl rfl ?_
      exact ezw_ireturn rfl rfl ⟨⟨F, A, rfl, hI⟩, _, ⟨by decide, by decide⟩, rfl⟩
    · refine ezw_iload_n rfl rfl ?_
      refine ezw_iconst (1) rfl rfl ?_
      refine ezw_icmp_lt rfl rfl ha2 ⟨by decide, by decide⟩ (fun h13_0 => ?_) (fun h13_0 => ?_)
      · refine ezw_iconst (-1) rfl rfl ?_
        exact ezw_ireturn rfl rfl ⟨⟨F, A, rfl, hI⟩, _, ⟨by decide, by decide⟩, rfl⟩
      · refine ezw_iload_n rfl rfl ?_
        refine ezw_bipush (20) rfl rfl ?_
        refine ezw_icmp_gt rfl rfl ha2 ⟨by decide, by decide⟩ (fun h19_0 => ?_) (fun h19_0 => ?_)
        · refine ezw_iconst (-1) rfl rfl ?_
          exact ezw_ireturn rfl rfl ⟨⟨F, A, rfl, hI⟩, _, ⟨by decide, by decide⟩, rfl⟩
        · refine ezw_iload_n rfl rfl ?_
          refine ezw_iconst (1) rfl rfl ?_
          refine ezw_icmp_lt rfl rfl ha3 ⟨by decide, by decide⟩ (fun h24_0 => ?_) (fun h24_0 => ?_)
          · refine ezw_iconst (-1) rfl rfl ?_
            exact ezw_ireturn rfl rfl ⟨⟨F, A, rfl, hI⟩, _, ⟨by decide, by decide⟩, rfl⟩
          · refine ezw_iload_n rfl rfl ?_
            refine ezw_bipush (6) rfl rfl ?_
            refine ezw_icmp_le rfl rfl ha3 ⟨by decide, by decide⟩ (fun h30_0 => ?_) (fun h30_0 => ?_)
            · refine ezw_iload rfl rfl ?_
              refine ezw_if_lt rfl rfl ha4 (fun h37_0 => ?_) (fun h37_0 => ?_)
              · refine ezw_iconst (-1) rfl rfl ?_
                exact ezw_ireturn rfl rfl ⟨⟨F, A, rfl, hI⟩, _, ⟨by decide, by decide⟩, rfl⟩
              · refine ezw_iload rfl rfl ?_
                refine ezw_iconst (2) rfl rfl ?_
                refine ezw_icmp_le rfl rfl ha4 ⟨by decide, by decide⟩ (fun h43_0 => ?_) (fun h43_0 => ?_)
                · refine ezw_aload_n rfl rfl ?_
                  refine ezs_getp (p := 22) rfl rfl rfl rfl rfl ?_
                  refine ezw_aload_n rfl rfl ?_
                  refine ezs_getp (p := 47) rfl rfl rfl rfl rfl ?_
                  refine ezw_aload_n rfl rfl ?_
                  refine ezs_getp (p := 13) rfl rfl rfl rfl rfl ?_
                  refine ezw_iload_n rfl rfl ?_
                  refine ezw_iload_n rfl rfl ?_
                  refine ezw_iload_n rfl rfl ?_
                  refine ezw_call0_5 rfl (by omega) (ezu_at rfl) rfl rfl rfl rfl (ezs_m196_22_47_13 hI (by omega) (fun q h0 h1 => hzA q (by omega) (by omega)) ha1 ha2 (by omega) ha3 (by omega)) ?_
                  rintro _ _ ⟨⟨F, A, rfl, hI⟩, rfl⟩
                  refine ezw_iload rfl rfl ?_
                  by_cases q1 : a4 = (0)
                  · refine ezw_lookupswitchE (v := 0) (p := 96) q1 rfl (by rfl) ?_
                    refine ezw_aload_n rfl rfl ?_
                    refine ezs_getp (p := 22) rfl rfl rfl rfl rfl ?_
                    refine ezs_get_i hI rfl rfl rfl rfl rfl rfl (fun u2 hu2 ku2 => ?_)
                    exact ezw_ireturn rfl rfl ⟨⟨F, A, rfl, hI⟩, _, hu2, rfl⟩
                  by_cases q3 : a4 = (1)
                  · refine ezw_lookupswitchE (v := 1) (p := 104) q3 rfl (by rfl) ?_
                    refine ezw_aload_n rfl rfl ?_
                    refine ezs_getp (p := 22) rfl rfl rfl rfl rfl ?_
                    refine ezs_get_i hI rfl rfl rfl rfl rfl rfl (fun u4 hu4 ku4 => ?_)
                    exact ezw_ireturn rfl rfl ⟨⟨F, A, rfl, hI⟩, _, hu4, rfl⟩
                  refine ezw_lookupswitch (p := 112) rfl (ezs_swd ha4 (And.intro (And.intro ⟨by decide, by decide⟩ (fun z => q1 z.symm)) (And.intro (And.intro ⟨by decide, by decide⟩ (fun z => q3 z.symm)) True.intro)) rfl) ?_
                  refine ezw_aload_n rfl rfl ?_
                  refine ezs_getp (p := 22) rfl rfl rfl rfl rfl ?_
                  refine ezs_get_i hI rfl rfl rfl rfl rfl rfl (fun u5 hu5 ku5 => ?_)
                  exact ezw_ireturn rfl rfl ⟨⟨F, A, rfl, hI⟩, _, hu5, rfl⟩
                · refine ezw_iconst (-1) rfl rfl ?_
                  exact ezw_ireturn rfl rfl ⟨⟨F, A, rfl, hI⟩, _, ⟨by decide, by decide⟩, rfl⟩
            · refine ezw_iconst (-1) rfl rfl ?_
              exact ezw_ireturn rfl rfl ⟨⟨F, A, rfl, hI⟩, _, ⟨by decide, by decide⟩, rfl⟩
theorem ezs_m141_0_ff {a1 : Int} {F : Nat → Nat → Int} {A : Nat → Int → Int} (hI : ezs_I fz F0 A0 F A) (hd : 6 ≤ d) (hzA : ∀ q, 26 ≤ q → q < 27 → fz q = false) (ha1 : ezw_in a1) : ezw_C l ρ B xa Hb D cA 141 d [ezw_p 0, ezw_i a1] (ezu_g (false, false) F A) (ezs_P (false, false) fz F0 A0 ezs_ri) := by
  refine ezw_met (k := 1) rfl rfl ?_
  refine ezw_iload_n rfl rfl ?_
  refine ezw_if_eq rfl rfl ha1 (fun h1_0 => ?_) (fun h1_0 => ?_)
  · refine ezw_aload_n rfl rfl ?_
    refine ezs_getp (p := 64) rfl rfl rfl rfl rfl ?_
    refine ezw_aload_n rfl rfl ?_
    refine ezs_getp (p := 30) rfl rfl rfl rfl rfl ?_
    refine ezw_aload_n rfl rfl ?_
    refine ezs_getp (p := 22) rfl rfl rfl rfl rfl ?_
    refine ezs_getp (p := 26) rfl rfl rfl rfl rfl ?_
    refine ezw_call0_2 rfl (by omega) (ezu_at rfl) rfl rfl rfl rfl (ezs_m142_64_30_26 hI (by omega) (fun q h0 h1 => hzA q (by omega) (by omega))) ?_
    rintro _ _ ⟨⟨F, A, rfl, hI⟩, u1, hu1, rfl⟩
    refine ezw_istore_n rfl rfl ?_
    refine ezw_iload_n rfl rfl ?_
    refine ezw_if_ne rfl rfl ha1 (fun h32_1 => ?_) (fun h32_1 => ?_)
    · refine ezw_aload_n rfl rfl ?_
      refine ezs_getp (p := 22) rfl rfl rfl rfl rfl ?_
      refine ezs_getp (p := 26) rfl rfl rfl rfl rfl ?_
      refine ezw_aload_n rfl rfl ?_
      refine ezs_getp (p := 30) rfl rfl rfl rfl rfl ?_
      refine ezw_call0_1 rfl (by omega) (ezu_at rfl) rfl rfl rfl rfl (ezs_m143_26_30 hI (by omega)) ?_
      rintro _ _ ⟨rfl, u2, hu2, rfl⟩
      exact ezw_ireturn rfl rfl ⟨⟨F, A, rfl, hI⟩, _, hu2, rfl⟩
    · refine ezw_iload_n rfl rfl ?_
      refine ezw_goto rfl rfl ?_
      exact ezw_ireturn rfl rfl ⟨⟨F, A, rfl, hI⟩, _, hu1, rfl⟩
  · refine ezw_iload_n rfl rfl ?_
    refine ezw_iconst (1) rfl rfl ?_
    refine ezw_icmp_eq rfl rfl ha1 ⟨by decide, by decide⟩ (fun h6_2 => ?_) (fun h6_2 => ?_)
    · refine ezw_aload_n rfl rfl ?_
      refine ezs_getp (p := 64) rfl rfl rfl rfl rfl ?_
      refine ezw_aload_n rfl rfl ?_
      refine ezs_getp (p := 30) rfl rfl rfl rfl rfl ?_
      refine ezw_aload_n rfl rfl ?_
      refine ezs_getp (p := 22) rfl rfl rfl rfl rfl ?_
      refine ezs_getp (p := 26) rfl rfl rfl rfl rfl ?_
      refine ezw_call0_2 rfl (by omega) (ezu_at rfl) rfl rfl rfl rfl (ezs_m142_64_30_26 hI (by omega) (fun q h0 h1 => hzA q (by omega) (by omega))) ?_
      rintro _ _ ⟨⟨F, A, rfl, hI⟩, u3, hu3, rfl⟩
      refine ezw_istore_n rfl rfl ?_
      refine ezw_iload_n rfl rfl ?_
      refine ezw_if_ne rfl rfl ha1 (fun h32_3 => ?_) (fun h32_3 => ?_)
      · refine ezw_aload_n rfl rfl ?_
        refine ezs_getp (p := 22) rfl rfl rfl rfl rfl ?_
        refine ezs_getp (p := 26) rfl rfl rfl rfl rfl ?_
        refine ezw_aload_n rfl rfl ?_
        refine ezs_getp (p := 30) rfl rfl rfl rfl rfl ?_
        refine ezw_call0_1 rfl (by omega) (ezu_at rfl) rfl rfl rfl rfl (ezs_m143_26_30 hI (by omega)) ?_
        rintro _ _ ⟨rfl, u4, hu4, rfl⟩
        exact ezw_ireturn rfl rfl ⟨⟨F, A, rfl, hI⟩, _, hu4, rfl⟩
      · refine ezw_iload_n rfl rfl ?_
        refine ezw_goto rfl rfl ?_
        exact ezw_ireturn rfl rfl ⟨⟨F, A, rfl, hI⟩, _, hu3, rfl⟩
    · refine ezw_bipush (-2) rfl rfl ?_
      exact ezw_ireturn rfl rfl ⟨⟨F, A, rfl, hI⟩, _, ⟨by decide, by decide⟩, rfl⟩
theorem ezs_m209_0_ff {a1 : Int} {F : Nat → Nat → Int} {A : Nat → Int → Int} (hI : ezs_I fz F0 A0 F A) (hd : 2 ≤ d) (ha1 : ezw_in a1) : ezw_C l ρ B xa Hb D cA 209 d [ezw_p 0, ezw_i a1] (ezu_g (false, false) F A) (ezs_Pp (false, false) F A ezs_ri) := by
  refine ezw_met (k := 0) rfl rfl ?_
  refine ezw_iload_n rfl rfl ?_
  by_cases q1 : a1 = (0)
  · refine ezw_tableswitchE (v := 0) (p := 68) q1 rfl (by rfl) ?_
    refine ezw_aload_n rfl rfl ?_
    refine ezs_getp (p := 30) rfl rfl rfl rfl rfl ?_
    refine ezs_get_i hI rfl rfl rfl rfl rfl rfl (fun u2 hu2 ku2 => ?_)
    exact ezw_ireturn rfl rfl ⟨rfl, _, hu2, rfl⟩
  by_cases q3 : a1 = (1)
  · refine ezw_tableswitchE (v := 1) (p := 76) q3 rfl (by rfl) ?_
    refine ezw_aload_n rfl rfl ?_
    refine ezs_getp (p := 30) rfl rfl rfl rfl rfl ?_
    refine ezs_get_i hI rfl rfl rfl rfl rfl rfl (fun u4 hu4 ku4 => ?_)
    exact ezw_ireturn rfl rfl ⟨rfl, _, hu4, rfl⟩
  by_cases q5 : a1 = (2)
  · refine ezw_tableswitchE (v := 2) (p := 84) q5 rfl (by rfl) ?_
    refine ezw_aload_n rfl rfl ?_
    refine ezs_getp (p := 13) rfl rfl rfl rfl rfl ?_
    refine ezw_call0_0 rfl (by omega) (ezu_at rfl) rfl rfl rfl rfl (ezs_m131_13 hI (by omega)) ?_
    rintro _ _ ⟨rfl, u6, hu6, rfl⟩
    exact ezw_ireturn rfl rfl ⟨rfl, _, hu6, rfl⟩
  by_cases q7 : a1 = (3)
  · refine ezw_tableswitchE (v := 3) (p := 92) q7 rfl (by rfl) ?_
    refine ezw_aload_n rfl rfl ?_
    refine ezs_getp (p := 13) rfl rfl rfl rfl rfl ?_
    refine ezs_get_i hI rfl rfl rfl rfl rfl rfl (fun u8 hu8 ku8 => ?_)
    exact ezw_ireturn rfl rfl ⟨rfl, _, hu8, rfl⟩
  by_cases q9 : a1 = (4)
  · refine ezw_tableswitchE (v := 4) (p := 100) q9 rfl (by rfl) ?_
    refine ezw_aload_n rfl rfl ?_
    refine ezs_getp (p := 13) rfl rfl rfl rfl rfl ?_
    refine ezs_get_i hI rfl rfl rfl rfl rfl rfl (fun u10 hu10 ku10 => ?_)
    exact ezw_ireturn rfl rfl ⟨rfl, _, hu10, rfl⟩
  by_cases q11 : a1 = (5)
  · refine ezw_tableswitchE (v := 5) (p := 108) q11 rfl (by rfl) ?_
    refine ezw_aload_n rfl rfl ?_
    refine ezs_getp (p := 13) rfl rfl rfl rfl rfl ?_
    refine ezs_get_i hI rfl rfl rfl rfl rfl rfl (fun u12 hu12 ku12 => ?_)
    exact ezw_ireturn rfl rfl ⟨rfl, _, hu12, rfl⟩
  by_cases q13 : a1 = (6)
  · refine ezw_tableswitchE (v := 6) (p := 116) q13 rfl (by rfl) ?_
    refine ezw_aload_n rfl rfl ?_
    refine ezs_getp (p := 13) rfl rfl rfl rfl rfl ?_
    refine ezs_get_i hI rfl rfl rfl rfl rfl rfl (fun u14 hu14 ku14 => ?_)
    exact ezw_ireturn rfl rfl ⟨rfl, _, hu14, rfl⟩
  by_cases q15 : a1 = (7)
  · refine ezw_tableswitchE (v := 7) (p := 124) q15 rfl (by rfl) ?_
    refine ezw_aload_n rfl rfl ?_
    refine ezs_getp (p := 30) rfl rfl rfl rfl rfl ?_
    refine ezs_getp (p := 38) rfl rfl rfl rfl rfl ?_
    refine ezs_get_i hI rfl rfl rfl rfl rfl rfl (fun u16 hu16 ku16 => ?_)
    exact ezw_ireturn rfl rfl ⟨rfl, _, hu16, rfl⟩
  by_cases q17 : a1 = (8)
  · refine ezw_tableswitchE (v := 8) (p := 135) q17 rfl (by rfl) ?_
    refine ezw_aload_n rfl rfl ?_
    refine ezs_getp (p := 64) rfl rfl rfl rfl rfl ?_
    refine ezs_get_i hI rfl rfl rfl rfl rfl rfl (fun u18 hu18 ku18 => ?_)
    exact ezw_ireturn rfl rfl ⟨rfl, _, hu18, rfl⟩
  by_cases q19 : a1 = (9)
  · refine ezw_tableswitchE (v := 9) (p := 143) q19 rfl (by rfl) ?_
    refine ezw_aload_n rfl rfl ?_
    refine ezs_getp (p := 16) rfl rfl rfl rfl rfl ?_
    refine ezw_call0_0 rfl (by omega) (ezu_at rfl) rfl rfl rfl rfl (ezs_m157_16 hI (by omega)) ?_
    rintro _ _ ⟨rfl, u20, hu20, rfl⟩
    exact ezw_ireturn rfl rfl ⟨rfl, _, hu20, rfl⟩
  by_cases q21 : a1 = (10)
  · refine ezw_tableswitchE (v := 10) (p := 151) q21 rfl (by rfl) ?_
    refine ezw_aload_n rfl rfl ?_
    refine ezs_getp (p := 18) rfl rfl rfl rfl rfl ?_
    refine ezs_get_i hI rfl rfl rfl rfl rfl rfl (fun u22 hu22 ku22 => ?_)
    exact ezw_ireturn rfl rfl ⟨rfl, _, hu22, rfl⟩
  by_cases q23 : a1 = (11)
  · refine ezw_tableswitchE (v := 11) (p := 159) q23 rfl (by rfl) ?_
    refine ezw_aload_n rfl rfl ?_
    refine ezs_getp (p := 1) rfl rfl rfl rfl rfl ?_
    refine ezs_get_i hI rfl rfl rfl rfl rfl rfl (fun u24 hu24 ku24 => ?_)
    exact ezw_ireturn rfl rfl ⟨rfl, _, hu24, rfl⟩
  by_cases q25 : a1 = (12)
  · refine ezw_tableswitchE (v := 12) (p := 167) q25 rfl (by rfl) ?_
    refine ezw_aload_n rfl rfl ?_
    refine ezs_getp (p := 13) rfl rfl rfl rfl rfl ?_
    refine ezs_get_i hI rfl rfl rfl rfl rfl rfl (fun u26 hu26 ku26 => ?_)
    refine ezw_call2_1 rfl (by omega) rfl rfl (ezs_m132 hI (by omega) hu26) ?_
    rintro _ _ ⟨rfl, u27, hu27, rfl⟩
    exact ezw_ireturn rfl rfl ⟨rfl, _, hu27, rfl⟩
  refine ezw_tableswitch (p := 178) rfl (ezs_swd ha1 (And.intro (And.intro ⟨by decide, by decide⟩ (fun z => q1 z.symm)) (And.intro (And.intro ⟨by decide, by decide⟩ (fun z => q3 z.symm)) (And.intro (And.intro ⟨by decide, by decide⟩ (fun z => q5 z.symm)) (And.intro (And.intro ⟨by decide, by decide⟩ (fun z => q7 z.symm)) (And.intro (And.intro ⟨by decide, by decide⟩ (fun z => q9 z.symm)) (And.intro (And.intro ⟨by decide, by decide⟩ (fun z => q11 z.symm)) (And.intro (And.intro ⟨by decide, by decide⟩ (fun z => q13 z.symm)) (And.intro (And.intro ⟨by decide, by decide⟩ (fun z => q15 z.symm)) (And.intro (And.intro ⟨by decide, by decide⟩ (fun z => q17 z.symm)) (And.intro (And.intro ⟨by decide, by decide⟩ (fun z => q19 z.symm)) (And.intro (And.intro ⟨by decide, by decide⟩ (fun z => q21 z.symm)) (And.intro (And.intro ⟨by decide, by decide⟩ (fun z => q23 z.symm)) (And.intro (And.intro ⟨by decide, by decide⟩ (fun z => q25 z.symm)) True.intro))))))))))))) rfl) ?_
  refine ezw_iconst (-1) rfl rfl ?_
  exact ezw_ireturn rfl rfl ⟨rfl, _, ⟨by decide, by decide⟩, rfl⟩
theorem ezs_m141_0_ft {a1 : Int} {F : Nat → Nat → Int} {A : Nat → Int → Int} (hI : ezs_I fz F0 A0 F A) (hd : 6 ≤ d) (hzA : ∀ q, 26 ≤ q → q < 27 → fz q = false) (ha1 : ezw_in a1) : ezw_C l ρ B xa Hb D cA 141 d [ezw_p 0, ezw_i a1] (ezu_g (false, true) F A) (ezs_P (false, true) fz F0 A0 ezs_ri) := by
  refine ezw_met (k := 1) rfl rfl ?_
  refine ezw_iload_n rfl rfl ?_
  refine ezw_if_eq rfl rfl ha1 (fun h1_0 => ?_) (fun h1_0 => ?_)
  · refine ezw_aload_n rfl rfl ?_
    refine ezs_getp (p := 68) rfl rfl rfl rfl rfl ?_
    refine ezw_aload_n rfl rfl ?_
    refine ezs_getp (p := 30) rfl rfl rfl rfl rfl ?_
    refine ezw_aload_n rfl rfl ?_
    refine ezs_getp (p := 22) rfl rfl rfl rfl rfl ?_
    refine ezs_getp (p := 26) rfl rfl rfl rfl rfl ?_
    refine ezw_call0_2 rfl (by omega) (ezu_at rfl) rfl rfl rfl rfl (ezs_m142_68_30_26 hI (by omega) (fun q h0 h1 => hzA q (by omega) (by omega))) ?_
    rintro _ _ ⟨⟨F, A, rfl, hI⟩, u1, hu1, rfl⟩
    refine ezw_istore_n rfl rfl ?_
    refine ezw_iload_n rfl rfl ?_
    refine ezw_if_ne rfl rfl ha1 (fun h32_1 => ?_) (fun h32_1 => ?_)
    · refine ezw_aload_n rfl rfl ?_
      refine ezs_getp (p := 22) rfl rfl rfl rfl rfl ?_
      refine ezs_getp (p := 26) rfl rfl rfl rfl rfl ?_
      refine ezw_aload_n rfl rfl ?_
      refine ezs_getp (p := 30) rfl rfl rfl rfl rfl ?_
      refine ezw_call0_1 rfl (by omega) (ezu_at rfl) rfl rfl rfl rfl (ezs_m143_26_30 hI (by omega)) ?_
      rintro _ _ ⟨rfl, u2, hu2, rfl⟩
      exact ezw_ireturn rfl rfl ⟨⟨F, A, rfl, hI⟩, _, hu2, rfl⟩
    · refine ezw_iload_n rfl rfl ?_
      refine ezw_goto rfl rfl ?_
      exact ezw_ireturn rfl rfl ⟨⟨F, A, rfl, hI⟩, _, hu1, rfl⟩
  · refine ezw_iload_n rfl rfl ?_
    refine ezw_iconst (1) rfl rfl ?_
    refine ezw_icmp_eq rfl rfl ha1 ⟨by decide, by decide⟩ (fun h6_2 => ?_) (fun h6_2 => ?_)
    · refine ezw_aload_n rfl rfl ?_
      refine ezs_getp (p := 68) rfl rfl rfl rfl rfl ?_
      refine ezw_aload_n rfl rfl ?_
      refine ezs_getp (p := 30) rfl rfl rfl rfl rfl ?_
      refine ezw_aload_n rfl rfl ?_
      refine ezs_getp (p := 22) rfl rfl rfl rfl rfl ?_
      refine ezs_getp (p := 26) rfl rfl rfl rfl rfl ?_
      refine ezw_call0_2 rfl (by omega) (ezu_at rfl) rfl rfl rfl rfl (ezs_m142_68_30_26 hI (by omega) (fun q h0 h1 => hzA q (by omega) (by omega))) ?_
      rintro _ _ ⟨⟨F, A, rfl, hI⟩, u3, hu3, rfl⟩
      refine ezw_istore_n rfl rfl ?_
      refine ezw_iload_n rfl rfl ?_
      refine ezw_if_ne rfl rfl ha1 (fun h32_3 => ?_) (fun h32_3 => ?_)
      · refine ezw_aload_n rfl rfl ?_
        refine ezs_getp (p := 22) rfl rfl rfl rfl rfl ?_
        refine ezs_getp (p := 26) rfl rfl rfl rfl rfl ?_
        refine ezw_aload_n rfl rfl ?_
        refine ezs_getp (p := 30) rfl rfl rfl rfl rfl ?_
        refine ezw_call0_1 rfl (by omega) (ezu_at rfl) rfl rfl rfl rfl (ezs_m143_26_30 hI (by omega)) ?_
        rintro _ _ ⟨rfl, u4, hu4, rfl⟩
        exact ezw_ireturn rfl rfl ⟨⟨F, A, rfl, hI⟩, _, hu4, rfl⟩
      · refine ezw_iload_n rfl rfl ?_
        refine ezw_goto rfl rfl ?_
        exact ezw_ireturn rfl rfl ⟨⟨F, A, rfl, hI⟩, _, hu3, rfl⟩
    · refine ezw_bipush (-2) rfl rfl ?_
      exact ezw_ireturn rfl rfl ⟨⟨F, A, rfl, hI⟩, _, ⟨by decide, by decide⟩, rfl⟩
theorem ezs_m209_0_ft {a1 : Int} {F : Nat → Nat → Int} {A : Nat → Int → Int} (hI : ezs_I fz F0 A0 F A) (hd : 2 ≤ d) (ha1 : ezw_in a1) : ezw_C l ρ B xa Hb D cA 209 d [ezw_p 0, ezw_i a1] (ezu_g (false, true) F A) (ezs_Pp (false, true) F A ezs_ri) := by
  refine ezw_met (k := 0) rfl rfl ?_
  refine ezw_iload_n rfl rfl ?_
  by_cases q1 : a1 = (0)
  · refine ezw_tableswitchE (v := 0) (p := 68) q1 rfl (by rfl) ?_
    refine ezw_aload_n rfl rfl ?_
    refine ezs_getp (p := 30) rfl rfl rfl rfl rfl ?_
    refine ezs_get_i hI rfl rfl rfl rfl rfl rfl (fun u2 hu2 ku2 => ?_)
    exact ezw_ireturn rfl rfl ⟨rfl, _, hu2, rfl⟩
  by_cases q3 : a1 = (1)
  · refine ezw_tableswitchE (v := 1) (p := 76) q3 rfl (by rfl) ?_
    refine ezw_aload_n rfl rfl ?_
    refine ezs_getp (p := 30) rfl rfl rfl rfl rfl ?_
    refine ezs_get_i hI rfl rfl rfl rfl rfl rfl (fun u4 hu4 ku4 => ?_)
    exact ezw_ireturn rfl rfl ⟨rfl, _, hu4, rfl⟩
  by_cases q5 : a1 = (2)
  · refine ezw_tableswitchE (v := 2) (p := 84) q5 rfl (by rfl) ?_
    refine ezw_aload_n rfl rfl ?_
    refine ezs_getp (p := 13) rfl rfl rfl rfl rfl ?_
    refine ezw_call0_0 rfl (by omega) (ezu_at rfl) rfl rfl rfl rfl (ezs_m131_13 hI (by omega)) ?_
    rintro _ _ ⟨rfl, u6, hu6, rfl⟩
    exact ezw_ireturn rfl rfl ⟨rfl, _, hu6, rfl⟩
  by_cases q7 : a1 = (3)
  · refine ezw_tableswitchE (v := 3) (p := 92) q7 rfl (by rfl) ?_
    refine ezw_aload_n rfl rfl ?_
    refine ezs_getp (p := 13) rfl rfl rfl rfl rfl ?_
    refine ezs_get_i hI rfl rfl rfl rfl rfl rfl (fun u8 hu8 ku8 => ?_)
    exact ezw_ireturn rfl rfl ⟨rfl, _, hu8, rfl⟩
  by_cases q9 : a1 = (4)
  · refine ezw_tableswitchE (v := 4) (p := 100) q9 rfl (by rfl) ?_
    refine ezw_aload_n rfl rfl ?_
    refine ezs_getp (p := 13) rfl rfl rfl rfl rfl ?_
    refine ezs_get_i hI rfl rfl rfl rfl rfl rfl (fun u10 hu10 ku10 => ?_)
    exact ezw_ireturn rfl rfl ⟨rfl, _, hu10, rfl⟩
  by_cases q11 : a1 = (5)
  · refine ezw_tableswitchE (v := 5) (p := 108) q11 rfl (by rfl) ?_
    refine ezw_aload_n rfl rfl ?_
    refine ezs_getp (p := 13) rfl rfl rfl rfl rfl ?_
    refine ezs_get_i hI rfl rfl rfl rfl rfl rfl (fun u12 hu12 ku12 => ?_)
    exact ezw_ireturn rfl rfl ⟨rfl, _, hu12, rfl⟩
  by_cases q13 : a1 = (6)
  · refine ezw_tableswitchE (v := 6) (p := 116) q13 rfl (by rfl) ?_
    refine ezw_aload_n rfl rfl ?_
    refine ezs_getp (p := 13) rfl rfl rfl rfl rfl ?_
    refine ezs_get_i hI rfl rfl rfl rfl rfl rfl (fun u14 hu14 ku14 => ?_)
    exact ezw_ireturn rfl rfl ⟨rfl, _, hu14, rfl⟩
  by_cases q15 : a1 = (7)
  · refine ezw_tableswitchE (v := 7) (p := 124) q15 rfl (by rfl) ?_
    refine ezw_aload_n rfl rfl ?_
    refine ezs_getp (p := 30) rfl rfl rfl rfl rfl ?_
    refine ezs_getp (p := 38) rfl rfl rfl rfl rfl ?_
    refine ezs_get_i hI rfl rfl rfl rfl rfl rfl (fun u16 hu16 ku16 => ?_)
    exact ezw_ireturn rfl rfl ⟨rfl, _, hu16, rfl⟩
  by_cases q17 : a1 = (8)
  · refine ezw_tableswitchE (v := 8) (p := 135) q17 rfl (by rfl) ?_
    refine ezw_aload_n rfl rfl ?_
    refine ezs_getp (p := 68) rfl rfl rfl rfl rfl ?_
    refine ezs_get_i hI rfl rfl rfl rfl rfl rfl (fun u18 hu18 ku18 => ?_)
    exact ezw_ireturn rfl rfl ⟨rfl, _, hu18, rfl⟩
  by_cases q19 : a1 = (9)
  · refine ezw_tableswitchE (v := 9) (p := 143) q19 rfl (by rfl) ?_
    refine ezw_aload_n rfl rfl ?_
    refine ezs_getp (p := 16) rfl rfl rfl rfl rfl ?_
    refine ezw_call0_0 rfl (by omega) (ezu_at rfl) rfl rfl rfl rfl (ezs_m157_16 hI (by omega)) ?_
    rintro _ _ ⟨rfl, u20, hu20, rfl⟩
    exact ezw_ireturn rfl rfl ⟨rfl, _, hu20, rfl⟩
  by_cases q21 : a1 = (10)
  · refine ezw_tableswitchE (v := 10) (p := 151) q21 rfl (by rfl) ?_
    refine ezw_aload_n rfl rfl ?_
    refine ezs_getp (p := 18) rfl rfl rfl rfl rfl ?_
    refine ezs_get_i hI rfl rfl rfl rfl rfl rfl (fun u22 hu22 ku22 => ?_)
    exact ezw_ireturn rfl rfl ⟨rfl, _, hu22, rfl⟩
  by_cases q23 : a1 = (11)
  · refine ezw_tableswitchE (v := 11) (p := 159) q23 rfl (by rfl) ?_
    refine ezw_aload_n rfl rfl ?_
    refine ezs_getp (p := 1) rfl rfl rfl rfl rfl ?_
    refine ezs_get_i hI rfl rfl rfl rfl rfl rfl (fun u24 hu24 ku24 => ?_)
    exact ezw_ireturn rfl rfl ⟨rfl, _, hu24, rfl⟩
  by_cases q25 : a1 = (12)
  · refine ezw_tableswitchE (v := 12) (p := 167) q25 rfl (by rfl) ?_
    refine ezw_aload_n rfl rfl ?_
    refine ezs_getp (p := 13) rfl rfl rfl rfl rfl ?_
    refine ezs_get_i hI rfl rfl rfl rfl rfl rfl (fun u26 hu26 ku26 => ?_)
    refine ezw_call2_1 rfl (by omega) rfl rfl (ezs_m132 hI (by omega) hu26) ?_
    rintro _ _ ⟨rfl, u27, hu27, rfl⟩
    exact ezw_ireturn rfl rfl ⟨rfl, _, hu27, rfl⟩
  refine ezw_tableswitch (p := 178) rfl (ezs_swd ha1 (And.intro (And.intro ⟨by decide, by decide⟩ (fun z => q1 z.symm)) (And.intro (And.intro ⟨by decide, by decide⟩ (fun z => q3 z.symm)) (And.intro (And.intro ⟨by decide, by decide⟩ (fun z => q5 z.symm)) (And.intro (And.intro ⟨by decide, by decide⟩ (fun z => q7 z.symm)) (And.intro (And.intro ⟨by decide, by decide⟩ (fun z => q9 z.symm)) (And.intro (And.intro ⟨by decide, by decide⟩ (fun z => q11 z.symm)) (And.intro (And.intro ⟨by decide, by decide⟩ (fun z => q13 z.symm)) (And.intro (And.intro ⟨by decide, by decide⟩ (fun z => q15 z.symm)) (And.intro (And.intro ⟨by decide, by decide⟩ (fun z => q17 z.symm)) (And.intro (And.intro ⟨by decide, by decide⟩ (fun z => q19 z.symm)) (And.intro (And.intro ⟨by decide, by decide⟩ (fun z => q21 z.symm)) (And.intro (And.intro ⟨by decide, by decide⟩ (fun z => q23 z.symm)) (And.intro (And.intro ⟨by decide, by decide⟩ (fun z => q25 z.symm)) True.intro))))))))))))) rfl) ?_
  refine ezw_iconst (-1) rfl rfl ?_
  exact ezw_ireturn rfl rfl ⟨rfl, _, ⟨by decide, by decide⟩, rfl⟩
theorem ezs_m141_0_tf {a1 : Int} {F : Nat → Nat → Int} {A : Nat → Int → Int} (hI : ezs_I fz F0 A0 F A) (hd : 6 ≤ d) (hzA : ∀ q, 26 ≤ q → q < 27 → fz q = false) (ha1 : ezw_in a1) : ezw_C l ρ B xa Hb D cA 141 d [ezw_p 0, ezw_i a1] (ezu_g (true, false) F A) (ezs_P (true, false) fz F0 A0 ezs_ri) := by
  refine ezw_met (k := 1) rfl rfl ?_
  refine ezw_iload_n rfl rfl ?_
  refine ezw_if_eq rfl rfl ha1 (fun h1_0 => ?_) (fun h1_0 => ?_)
  · refine ezw_aload_n rfl rfl ?_
    refine ezs_getp (p := 64) rfl rfl rfl rfl rfl ?_
    refine ezw_aload_n rfl rfl ?_
    refine ezs_getp (p := 47) rfl rfl rfl rfl rfl ?_
    refine ezw_aload_n rfl rfl ?_
    refine ezs_getp (p := 22) rfl rfl rfl rfl rfl ?_
    refine ezs_getp (p := 26) rfl rfl rfl rfl rfl ?_
    refine ezw_call0_2 rfl (by omega) (ezu_at rfl) rfl rfl rfl rfl (ezs_m142_64_47_26 hI (by omega) (fun q h0 h1 => hzA q (by omega) (by omega))) ?_
    rintro _ _ ⟨⟨F, A, rfl, hI⟩, u1, hu1, rfl⟩
    refine ezw_istore_n rfl rfl ?_
    refine ezw_iload_n rfl rfl ?_
    refine ezw_if_ne rfl rfl ha1 (fun h32_1 => ?_) (fun h32_1 => ?_)
    · refine ezw_aload_n rfl rfl ?_
      refine ezs_getp (p := 22) rfl rfl rfl rfl rfl ?_
      refine ezs_getp (p := 26) rfl rfl rfl rfl rfl ?_
      refine ezw_aload_n rfl rfl ?_
      refine ezs_getp (p := 47) rfl rfl rfl rfl rfl ?_
      refine ezw_call0_1 rfl (by omega) (ezu_at rfl) rfl rfl rfl rfl (ezs_m143_26_47 hI (by omega)) ?_
      rintro _ _ ⟨rfl, u2, hu2, rfl⟩
      exact ezw_ireturn rfl rfl ⟨⟨F, A, rfl, hI⟩, _, hu2, rfl⟩
    · refine ezw_iload_n rfl rfl ?_
      refine ezw_goto rfl rfl ?_
      exact ezw_ireturn rfl rfl ⟨⟨F, A, rfl, hI⟩, _, hu1, rfl⟩
  · refine ezw_iload_n rfl rfl ?_
    refine ezw_iconst (1) rfl rfl ?_
    refine ezw_icmp_eq rfl rfl ha1 ⟨by decide, by decide⟩ (fun h6_2 => ?_) (fun h6_2 => ?_)
    · refine ezw_aload_n rfl rfl ?_
      refine ezs_getp (p := 64) rfl rfl rfl rfl rfl ?_
      refine ezw_aload_n rfl rfl ?_
      refine ezs_getp (p := 47) rfl rfl rfl rfl rfl ?_
      refine ezw_aload_n rfl rfl ?_
      refine ezs_getp (p := 22) rfl rfl rfl rfl rfl ?_
      refine ezs_getp (p := 26) rfl rfl rfl rfl rfl ?_
      refine ezw_call0_2 rfl (by omega) (ezu_at rfl) rfl rfl rfl rfl (ezs_m142_64_47_26 hI (by omega) (fun q h0 h1 => hzA q (by omega) (by omega))) ?_
      rintro _ _ ⟨⟨F, A, rfl, hI⟩, u3, hu3, rfl⟩
      refine ezw_istore_n rfl rfl ?_
      refine ezw_iload_n rfl rfl ?_
      refine ezw_if_ne rfl rfl ha1 (fun h32_3 => ?_) (fun h32_3 => ?_)
      · refine ezw_aload_n rfl rfl ?_
        refine ezs_getp (p := 22) rfl rfl rfl rfl rfl ?_
        refine ezs_getp (p := 26) rfl rfl rfl rfl rfl ?_
        refine ezw_aload_n rfl rfl ?_
        refine ezs_getp (p := 47) rfl rfl rfl rfl rfl ?_
        refine ezw_call0_1 rfl (by omega) (ezu_at rfl) rfl rfl rfl rfl (ezs_m143_26_47 hI (by omega)) ?_
        rintro _ _ ⟨rfl, u4, hu4, rfl⟩
        exact ezw_ireturn rfl rfl ⟨⟨F, A, rfl, hI⟩, _, hu4, rfl⟩
      · refine ezw_iload_n rfl rfl ?_
        refine ezw_goto rfl rfl ?_
        exact ezw_ireturn rfl rfl ⟨⟨F, A, rfl, hI⟩, _, hu3, rfl⟩
    · refine ezw_bipush (-2) rfl rfl ?_
      exact ezw_ireturn rfl rfl ⟨⟨F, A, rfl, hI⟩, _, ⟨by decide, by decide⟩, rfl⟩
theorem ezs_m209_0_tf {a1 : Int} {F : Nat → Nat → Int} {A : Nat → Int → Int} (hI : ezs_I fz F0 A0 F A) (hd : 2 ≤ d) (ha1 : ezw_in a1) : ezw_C l ρ B xa Hb D cA 209 d [ezw_p 0, ezw_i a1] (ezu_g (true, false) F A) (ezs_Pp (true, false) F A ezs_ri) := by
  refine ezw_met (k := 0) rfl rfl ?_
  refine ezw_iload_n rfl rfl ?_
  by_cases q1 : a1 = (0)
  · refine ezw_tableswitchE (v := 0) (p := 68) q1 rfl (by rfl) ?_
    refine ezw_aload_n rfl rfl ?_
    refine ezs_getp (p := 47) rfl rfl rfl rfl rfl ?_
    refine ezs_get_i hI rfl rfl rfl rfl rfl rfl (fun u2 hu2 ku2 => ?_)
    exact ezw_ireturn rfl rfl ⟨rfl, _, hu2, rfl⟩
  by_cases q3 : a1 = (1)
  · refine ezw_tableswitchE (v := 1) (p := 76) q3 rfl (by rfl) ?_
    refine ezw_aload_n rfl rfl ?_
    refine ezs_getp (p := 47) rfl rfl rfl rfl rfl ?_
    refine ezs_get_i hI rfl rfl rfl rfl rfl rfl (fun u4 hu4 ku4 => ?_)
    exact ezw_ireturn rfl rfl ⟨rfl, _, hu4, rfl⟩
  by_cases q5 : a1 = (2)
  · refine ezw_tableswitchE (v := 2) (p := 84) q5 rfl (by rfl) ?_
    refine ezw_aload_n rfl rfl ?_
    refine ezs_getp (p := 13) rfl rfl rfl rfl rfl ?_
    refine ezw_call0_0 rfl (by omega) (ezu_at rfl) rfl rfl rfl rfl (ezs_m131_13 hI (by omega)) ?_
    rintro _ _ ⟨rfl, u6, hu6, rfl⟩
    exact ezw_ireturn rfl rfl ⟨rfl, _, hu6, rfl⟩
  by_cases q7 : a1 = (3)
  · refine ezw_tableswitchE (v := 3) (p := 92) q7 rfl (by rfl) ?_
    refine ezw_aload_n rfl rfl ?_
    refine ezs_getp (p := 13) rfl rfl rfl rfl rfl ?_
    refine ezs_get_i hI rfl rfl rfl rfl rfl rfl (fun u8 hu8 ku8 => ?_)
    exact ezw_ireturn rfl rfl ⟨rfl, _, hu8, rfl⟩
  by_cases q9 : a1 = (4)
  · refine ezw_tableswitchE (v := 4) (p := 100) q9 rfl (by rfl) ?_
    refine ezw_aload_n rfl rfl ?_
    refine ezs_getp (p := 13) rfl rfl rfl rfl rfl ?_
    refine ezs_get_i hI rfl rfl rfl rfl rfl rfl (fun u10 hu10 ku10 => ?_)
    exact ezw_ireturn rfl rfl ⟨rfl, _, hu10, rfl⟩
  by_cases q11 : a1 = (5)
  · refine ezw_tableswitchE (v := 5) (p := 108) q11 rfl (by rfl) ?_
    refine ezw_aload_n rfl rfl ?_
    refine ezs_getp (p := 13) rfl rfl rfl rfl rfl ?_
    refine ezs_get_i hI rfl rfl rfl rfl rfl rfl (fun u12 hu12 ku12 => ?_)
    exact ezw_ireturn rfl rfl ⟨rfl, _, hu12, rfl⟩
  by_cases q13 : a1 = (6)
  · refine ezw_tableswitchE (v := 6) (p := 116) q13 rfl (by rfl) ?_
    refine ezw_aload_n rfl rfl ?_
    refine ezs_getp (p := 13) rfl rfl rfl rfl rfl ?_
    refine ezs_get_i hI rfl rfl rfl rfl rfl rfl (fun u14 hu14 ku14 => ?_)
    exact ezw_ireturn rfl rfl ⟨rfl, _, hu14, rfl⟩
  by_cases q15 : a1 = (7)
  · refine ezw_tableswitchE (v := 7) (p := 124) q15 rfl (by rfl) ?_
    refine ezw_aload_n rfl rfl ?_
    refine ezs_getp (p := 47) rfl rfl rfl rfl rfl ?_
    refine ezs_getp (p := 55) rfl rfl rfl rfl rfl ?_
    refine ezs_get_i hI rfl rfl rfl rfl rfl rfl (fun u16 hu16 ku16 => ?_)
    exact ezw_ireturn rfl rfl ⟨rfl, _, hu16, rfl⟩
  by_cases q17 : a1 = (8)
  · refine ezw_tableswitchE (v := 8) (p := 135) q17 rfl (by rfl) ?_
    refine ezw_aload_n rfl rfl ?_
    refine ezs_getp (p := 64) rfl rfl rfl rfl rfl ?_
    refine ezs_get_i hI rfl rfl rfl rfl rfl rfl (fun u18 hu18 ku18 => ?_)
    exact ezw_ireturn rfl rfl ⟨rfl, _, hu18, rfl⟩
  by_cases q19 : a1 = (9)
  · refine ezw_tableswitchE (v := 9) (p := 143) q19 rfl (by rfl) ?_
    refine ezw_aload_n rfl rfl ?_
    refine ezs_getp (p := 16) rfl rfl rfl rfl rfl ?_
    refine ezw_call0_0 rfl (by omega) (ezu_at rfl) rfl rfl rfl rfl (ezs_m157_16 hI (by omega)) ?_
    rintro _ _ ⟨rfl, u20, hu20, rfl⟩
    exact ezw_ireturn rfl rfl ⟨rfl, _, hu20, rfl⟩
  by_cases q21 : a1 = (10)
  · refine ezw_tableswitchE (v := 10) (p := 151) q21 rfl (by rfl) ?_
    refine ezw_aload_n rfl rfl ?_
    refine ezs_getp (p := 18) rfl rfl rfl rfl rfl ?_
    refine ezs_get_i hI rfl rfl rfl rfl rfl rfl (fun u22 hu22 ku22 => ?_)
    exact ezw_ireturn rfl rfl ⟨rfl, _, hu22, rfl⟩
  by_cases q23 : a1 = (11)
  · refine ezw_tableswitchE (v := 11) (p := 159) q23 rfl (by rfl) ?_
    refine ezw_aload_n rfl rfl ?_
    refine ezs_getp (p := 1) rfl rfl rfl rfl rfl ?_
    refine ezs_get_i hI rfl rfl rfl rfl rfl rfl (fun u24 hu24 ku24 => ?_)
    exact ezw_ireturn rfl rfl ⟨rfl, _, hu24, rfl⟩
  by_cases q25 : a1 = (12)
  · refine ezw_tableswitchE (v := 12) (p := 167) q25 rfl (by rfl) ?_
    refine ezw_aload_n rfl rfl ?_
    refine ezs_getp (p := 13) rfl rfl rfl rfl rfl ?_
    refine ezs_get_i hI rfl rfl rfl rfl rfl rfl (fun u26 hu26 ku26 => ?_)
    refine ezw_call2_1 rfl (by omega) rfl rfl (ezs_m132 hI (by omega) hu26) ?_
    rintro _ _ ⟨rfl, u27, hu27, rfl⟩
    exact ezw_ireturn rfl rfl ⟨rfl, _, hu27, rfl⟩
  refine ezw_tableswitch (p := 178) rfl (ezs_swd ha1 (And.intro (And.intro ⟨by decide, by decide⟩ (fun z => q1 z.symm)) (And.intro (And.intro ⟨by decide, by decide⟩ (fun z => q3 z.symm)) (And.intro (And.intro ⟨by decide, by decide⟩ (fun z => q5 z.symm)) (And.intro (And.intro ⟨by decide, by decide⟩ (fun z => q7 z.symm)) (And.intro (And.intro ⟨by decide, by decide⟩ (fun z => q9 z.symm)) (And.intro (And.intro ⟨by decide, by decide⟩ (fun z => q11 z.symm)) (And.intro (And.intro ⟨by decide, by decide⟩ (fun z => q13 z.symm)) (And.intro (And.intro ⟨by decide, by decide⟩ (fun z => q15 z.symm)) (And.intro (And.intro ⟨by decide, by decide⟩ (fun z => q17 z.symm)) (And.intro (And.intro ⟨by decide, by decide⟩ (fun z => q19 z.symm)) (And.intro (And.intro ⟨by decide, by decide⟩ (fun z => q21 z.symm)) (And.intro (And.intro ⟨by decide, by decide⟩ (fun z => q23 z.symm)) (And.intro (And.intro ⟨by decide, by decide⟩ (fun z => q25 z.symm)) True.intro))))))))))))) rfl) ?_
  refine ezw_iconst (-1) rfl rfl ?_
  exact ezw_ireturn rfl rfl ⟨rfl, _, ⟨by decide, by decide⟩, rfl⟩
theorem ezs_m141_0_tt {a1 : Int} {F : Nat → Nat → Int} {A : Nat → Int → Int} (hI : ezs_I fz F0 A0 F A) (hd : 6 ≤ d) (hzA : ∀ q, 26 ≤ q → q < 27 → fz q = false) (ha1 : ezw_in a1) : ezw_C l ρ B xa Hb D cA 141 d [ezw_p 0, ezw_i a1] (ezu_g (true, true) F A) (ezs_P (true, true) fz F0 A0 ezs_ri) := by
  refine ezw_met (k := 1) rfl rfl ?_
  refine ezw_iload_n rfl rfl ?_
  refine ezw_if_eq rfl rfl ha1 (fun h1_0 => ?_) (fun h1_0 => ?_)
  · refine ezw_aload_n rfl rfl ?_
    refine ezs_getp (p := 68) rfl rfl rfl rfl rfl ?_
    refine ezw_aload_n rfl rfl ?_
    refine ezs_getp (p := 47) rfl rfl rfl rfl rfl ?_
    refine ezw_aload_n rfl rfl ?_
    refine ezs_getp (p := 22) rfl rfl rfl rfl rfl ?_
    refine ezs_getp (p := 26) rfl rfl rfl rfl rfl ?_
    refine ezw_call0_2 rfl (by omega) (ezu_at rfl) rfl rfl rfl rfl (ezs_m142_68_47_26 hI (by omega) (fun q h0 h1 => hzA q (by omega) (by omega))) ?_
    rintro _ _ ⟨⟨F, A, rfl, hI⟩, u1, hu1, rfl⟩
    refine ezw_istore_n rfl rfl ?_
    refine ezw_iload_n rfl rfl ?_
    refine ezw_if_ne rfl rfl ha1 (fun h32_1 => ?_) (fun h32_1 => ?_)
    · refine ezw_aload_n rfl rfl ?_
      refine ezs_getp (p := 22) rfl rfl rfl rfl rfl ?_
      refine ezs_getp (p := 26) rfl rfl rfl rfl rfl ?_
      refine ezw_aload_n rfl rfl ?_
      refine ezs_getp (p := 47) rfl rfl rfl rfl rfl ?_
      refine ezw_call0_1 rfl (by omega) (ezu_at rfl) rfl rfl rfl rfl (ezs_m143_26_47 hI (by omega)) ?_
      rintro _ _ ⟨rfl, u2, hu2, rfl⟩
      exact ezw_ireturn rfl rfl ⟨⟨F, A, rfl, hI⟩, _, hu2, rfl⟩
    · refine ezw_iload_n rfl rfl ?_
      refine ezw_goto rfl rfl ?_
      exact ezw_ireturn rfl rfl ⟨⟨F, A, rfl, hI⟩, _, hu1, rfl⟩
  · refine ezw_iload_n rfl rfl ?_
    refine ezw_iconst (1) rfl rfl ?_
    refine ezw_icmp_eq rfl rfl ha1 ⟨by decide, by decide⟩ (fun h6_2 => ?_) (fun h6_2 => ?_)
    · refine ezw_aload_n rfl rfl ?_
      refine ezs_getp (p := 68) rfl rfl rfl rfl rfl ?_
      refine ezw_aload_n rfl rfl ?_
      refine ezs_getp (p := 47) rfl rfl rfl rfl rfl ?_
      refine ezw_aload_n rfl rfl ?_
      refine ezs_getp (p := 22) rfl rfl rfl rfl rfl ?_
      refine ezs_getp (p := 26) rfl rfl rfl rfl rfl ?_
      refine ezw_call0_2 rfl (by omega) (ezu_at rfl) rfl rfl rfl rfl (ezs_m142_68_47_26 hI (by omega) (fun q h0 h1 => hzA q (by omega) (by omega))) ?_
      rintro _ _ ⟨⟨F, A, rfl, hI⟩, u3, hu3, rfl⟩
      refine ezw_istore_n rfl rfl ?_
      refine ezw_iload_n rfl rfl ?_
      refine ezw_if_ne rfl rfl ha1 (fun h32_3 => ?_) (fun h32_3 => ?_)
      · refine ezw_aload_n rfl rfl ?_
        refine ezs_getp (p := 22) rfl rfl rfl rfl rfl ?_
        refine ezs_getp (p := 26) rfl rfl rfl rfl rfl ?_
        refine ezw_aload_n rfl rfl ?_
        refine ezs_getp (p := 47) rfl rfl rfl rfl rfl ?_
        refine ezw_call0_1 rfl (by omega) (ezu_at rfl) rfl rfl rfl rfl (ezs_m143_26_47 hI (by omega)) ?_
        rintro _ _ ⟨rfl, u4, hu4, rfl⟩
        exact ezw_ireturn rfl rfl ⟨⟨F, A, rfl, hI⟩, _, hu4, rfl⟩
      · refine ezw_iload_n rfl rfl ?_
        refine ezw_goto rfl rfl ?_
        exact ezw_ireturn rfl rfl ⟨⟨F, A, rfl, hI⟩, _, hu3, rfl⟩
    · refine ezw_bipush (-2) rfl rfl ?_
      exact ezw_ireturn rfl rfl ⟨⟨F, A, rfl, hI⟩, _, ⟨by decide, by decide⟩, rfl⟩
theorem ezs_m209_0_tt {a1 : Int} {F : Nat → Nat → Int} {A : Nat → Int → Int} (hI : ezs_I fz F0 A0 F A) (hd : 2 ≤ d) (ha1 : ezw_in a1) : ezw_C l ρ B xa Hb D cA 209 d [ezw_p 0, ezw_i a1] (ezu_g (true, true) F A) (ezs_Pp (true, true) F A ezs_ri) := by
  refine ezw_met (k := 0) rfl rfl ?_
  refine ezw_iload_n rfl rfl ?_
  by_cases q1 : a1 = (0)
  · refine ezw_tableswitchE (v := 0) (p := 68) q1 rfl (by rfl) ?_
    refine ezw_aload_n rfl rfl ?_
    refine ezs_getp (p := 47) rfl rfl rfl rfl rfl ?_
    refine ezs_get_i hI rfl rfl rfl rfl rfl rfl (fun u2 hu2 ku2 => ?_)
    exact ezw_ireturn rfl rfl ⟨rfl, _, hu2, rfl⟩
  by_cases q3 : a1 = (1)
  · refine ezw_tableswitchE (v := 1) (p := 76) q3 rfl (by rfl) ?_
    refine ezw_aload_n rfl rfl ?_
    refine ezs_getp (p := 47) rfl rfl rfl rfl rfl ?_
    refine ezs_get_i hI rfl rfl rfl rfl rfl rfl (fun u4 hu4 ku4 => ?_)
    exact ezw_ireturn rfl rfl ⟨rfl, _, hu4, rfl⟩
  by_cases q5 : a1 = (2)
  · refine ezw_tableswitchE (v := 2) (p := 84) q5 rfl (by rfl) ?_
    refine ezw_aload_n rfl rfl ?_
    refine ezs_getp (p := 13) rfl rfl rfl rfl rfl ?_
    refine ezw_call0_0 rfl (by omega) (ezu_at rfl) rfl rfl rfl rfl (ezs_m131_13 hI (by omega)) ?_
    rintro _ _ ⟨rfl, u6, hu6, rfl⟩
    exact ezw_ireturn rfl rfl ⟨rfl, _, hu6, rfl⟩
  by_cases q7 : a1 = (3)
  · refine ezw_tableswitchE (v := 3) (p := 92) q7 rfl (by rfl) ?_
    refine ezw_aload_n rfl rfl ?_
    refine ezs_getp (p := 13) rfl rfl rfl rfl rfl ?_
    refine ezs_get_i hI rfl rfl rfl rfl rfl rfl (fun u8 hu8 ku8 => ?_)
    exact ezw_ireturn rfl rfl ⟨rfl, _, hu8, rfl⟩
  by_cases q9 : a1 = (4)
  · refine ezw_tableswitchE (v := 4) (p := 100) q9 rfl (by rfl) ?_
    refine ezw_aload_n rfl rfl ?_
    refine ezs_getp (p := 13) rfl rfl rfl rfl rfl ?_
    refine ezs_get_i hI rfl rfl rfl rfl rfl rfl (fun u10 hu10 ku10 => ?_)
    exact ezw_ireturn rfl rfl ⟨rfl, _, hu10, rfl⟩
  by_cases q11 : a1 = (5)
  · refine ezw_tableswitchE (v := 5) (p := 108) q11 rfl (by rfl) ?_
    refine ezw_aload_n rfl rfl ?_
    refine ezs_getp (p := 13) rfl rfl rfl rfl rfl ?_
    refine ezs_get_i hI rfl rfl rfl rfl rfl rfl (fun u12 hu12 ku12 => ?_)
    exact ezw_ireturn rfl rfl ⟨rfl, _, hu12, rfl⟩
  by_cases q13 : a1 = (6)
  · refine ezw_tableswitchE (v := 6) (p := 116) q13 rfl (by rfl) ?_
    refine ezw_aload_n rfl rfl ?_
    refine ezs_getp (p := 13) rfl rfl rfl rfl rfl ?_
    refine ezs_get_i hI rfl rfl rfl rfl rfl rfl (fun u14 hu14 ku14 => ?_)
    exact ezw_ireturn rfl rfl ⟨rfl, _, hu14, rfl⟩
  by_cases q15 : a1 = (7)
  · refine ezw_tableswitchE (v := 7) (p := 124) q15 rfl (by rfl) ?_
    refine ezw_aload_n rfl rfl ?_
    refine ezs_getp (p := 47) rfl rfl rfl rfl rfl ?_
    refine ezs_getp (p := 55) rfl rfl rfl rfl rfl ?_
    refine ezs_get_i hI rfl rfl rfl rfl rfl rfl (fun u16 hu16 ku16 => ?_)
    exact ezw_ireturn rfl rfl ⟨rfl, _, hu16, rfl⟩
  by_cases q17 : a1 = (8)
  · refine ezw_tableswitchE (v := 8) (p := 135) q17 rfl (by rfl) ?_
    refine ezw_aload_n rfl rfl ?_
    refine ezs_getp (p := 68) rfl rfl rfl rfl rfl ?_
    refine ezs_get_i hI rfl rfl rfl rfl rfl rfl (fun u18 hu18 ku18 => ?_)
    exact ezw_ireturn rfl rfl ⟨rfl, _, hu18, rfl⟩
  by_cases q19 : a1 = (9)
  · refine ezw_tableswitchE (v := 9) (p := 143) q19 rfl (by rfl) ?_
    refine ezw_aload_n rfl rfl ?_
    refine ezs_getp (p := 16) rfl rfl rfl rfl rfl ?_
    refine ezw_call0_0 rfl (by omega) (ezu_at rfl) rfl rfl rfl rfl (ezs_m157_16 hI (by omega)) ?_
    rintro _ _ ⟨rfl, u20, hu20, rfl⟩
    exact ezw_ireturn rfl rfl ⟨rfl, _, hu20, rfl⟩
  by_cases q21 : a1 = (10)
  · refine ezw_tableswitchE (v := 10) (p := 151) q21 rfl (by rfl) ?_
    refine ezw_aload_n rfl rfl ?_
    refine ezs_getp (p := 18) rfl rfl rfl rfl rfl ?_
    refine ezs_get_i hI rfl rfl rfl rfl rfl rfl (fun u22 hu22 ku22 => ?_)
    exact ezw_ireturn rfl rfl ⟨rfl, _, hu22, rfl⟩
  by_cases q23 : a1 = (11)
  · refine ezw_tableswitchE (v := 11) (p := 159) q23 rfl (by rfl) ?_
    refine ezw_aload_n rfl rfl ?_
    refine ezs_getp (p := 1) rfl rfl rfl rfl rfl ?_
    refine ezs_get_i hI rfl rfl rfl rfl rfl rfl (fun u24 hu24 ku24 => ?_)
    exact ezw_ireturn rfl rfl ⟨rfl, _, hu24, rfl⟩
  by_cases q25 : a1 = (12)
  · refine ezw_tableswitchE (v := 12) (p := 167) q25 rfl (by rfl) ?_
    refine ezw_aload_n rfl rfl ?_
    refine ezs_getp (p := 13) rfl rfl rfl rfl rfl ?_
    refine ezs_get_i hI rfl rfl rfl rfl rfl rfl (fun u26 hu26 ku26 => ?_)
    refine ezw_call2_1 rfl (by omega) rfl rfl (ezs_m132 hI (by omega) hu26) ?_
    rintro _ _ ⟨rfl, u27, hu27, rfl⟩
    exact ezw_ireturn rfl rfl ⟨rfl, _, hu27, rfl⟩
  refine ezw_tableswitch (p := 178) rfl (ezs_swd ha1 (And.intro (And.intro ⟨by decide, by decide⟩ (fun z => q1 z.symm)) (And.intro (And.intro ⟨by decide, by decide⟩ (fun z => q3 z.symm)) (And.intro (And.intro ⟨by decide, by decide⟩ (fun z => q5 z.symm)) (And.intro (And.intro ⟨by decide, by decide⟩ (fun z => q7 z.symm)) (And.intro (And.intro ⟨by decide, by decide⟩ (fun z => q9 z.symm)) (And.intro (And.intro ⟨by decide, by decide⟩ (fun z => q11 z.symm)) (And.intro (And.intro ⟨by decide, by decide⟩ (fun z => q13 z.symm)) (And.intro (And.intro ⟨by decide, by decide⟩ (fun z => q15 z.symm)) (And.intro (And.intro ⟨by decide, by decide⟩ (fun z => q17 z.symm)) (And.intro (And.intro ⟨by decide, by decide⟩ (fun z => q19 z.symm)) (And.intro (And.intro ⟨by decide, by decide⟩ (fun z => q21 z.symm)) (And.intro (And.intro ⟨by decide, by decide⟩ (fun z => q23 z.symm)) (And.intro (And.intro ⟨by decide, by decide⟩ (fun z => q25 z.symm)) True.intro))))))))))))) rfl) ?_
  refine ezw_iconst (-1) rfl rfl ?_
  exact ezw_ireturn rfl rfl ⟨rfl, _, ⟨by decide, by decide⟩, rfl⟩
end KM
