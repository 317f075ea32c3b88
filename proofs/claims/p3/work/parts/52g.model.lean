/-! ===== the model: the tree and the afternoon ===== -/
section KM6
variable {l : Launch} {ρ : ezq_E} {B : Nat} {xa : Nat → Option Nat} {Hb : Heap} {D : va_G} {cA : Nat → ClassId} {d : Nat} {e : Bool × Bool} {F : Nat → Nat → Int} {A : Nat → Int → Int} {i0 i2 i3 i7 i8 i13 i18 i19 i20 i25 i29 i30 i31 i36 i37 i38 : Int} {r73 r74 r75 r76 r77 r78 r79 r80 r81 r82 r83 r84 r85 r86 r87 r88 r89 r90 r91 r92 r93 r94 r95 : Int → Int}
def ezm_m217Q (e : Bool × Bool) (F : Nat → Nat → Int) (A : Nat → Int → Int) (i0 i2 i3 i7 i8 i13 i18 i19 i20 i25 i29 i30 i31 i36 i37 i38 : Int) (r73 r74 r75 r76 r77 r78 r79 r80 r81 r82 r83 r84 r85 r86 r87 r88 r89 r90 r91 r92 r93 r94 r95 : Int → Int) : Option ezq_V → (Nat → ezq_C) → Prop := fun v g' => ∃ (x0 x2 x3 x7 x8 x13 x18 x19 x20 x25 : Int) (x74 x75 x76 x78 x79 x80 x81 x82 x83 x84 x85 x88 x89 : Int → Int), ezm_h e F A x0 x2 x3 x7 x8 x13 x18 x19 x20 x25 i29 i30 i31 i36 i37 i38 r73 x74 x75 x76 r77 x78 x79 x80 x81 x82 x83 x84 x85 r86 r87 x88 x89 r90 r91 r92 r93 r94 r95 = g' ∧ ezm_T x0 x2 x3 x7 x8 x13 x18 x19 x20 x25 i29 i30 i31 i36 i37 i38 r73 x74 x75 x76 r77 x78 x79 x80 x81 x82 x83 x84 x85 r86 r87 x88 x89 r90 r91 r92 r93 r94 r95 ∧ ∃ u : Int, (ezw_in u) ∧ (x2 = 0) ∧ (ezm_TR x78 x79 x80) ∧ (ezm_OK x78 x88 x89 x25) ∧ some (ezw_i u) = v
theorem ezm_m217 (hT : ezm_T i0 i2 i3 i7 i8 i13 i18 i19 i20 i25 i29 i30 i31 i36 i37 i38 r73 r74 r75 r76 r77 r78 r79 r80 r81 r82 r83 r84 r85 r86 r87 r88 r89 r90 r91 r92 r93 r94 r95) (hd : 33 ≤ d) (tr : ezm_TR r78 r79 r80) (ok : ezm_OK r78 r88 r89 i25) : ezw_C l ρ B xa Hb D cA 217 d [ezw_p 72] (ezm_h e F A i0 i2 i3 i7 i8 i13 i18 i19 i20 i25 i29 i30 i31 i36 i37 i38 r73 r74 r75 r76 r77 r78 r79 r80 r81 r82 r83 r84 r85 r86 r87 r88 r89 r90 r91 r92 r93 r94 r95) (ezm_m217Q  e F A i0 i2 i3 i7 i8 i13 i18 i19 i20 i25 i29 i30 i31 i36 i37 i38 r73 r74 r75 r76 r77 r78 r79 r80 r81 r82 r83 r84 r85 r86 r87 r88 r89 r90 r91 r92 r93 r94 r95) := by
  refine ezw_met (k := 1) rfl rfl ?_
  have a0 := (ezm_za0 (hT.t78 0) (by decide)).2
  have a3 := (ezm_za3 (hT.t78 3) (by decide)).2
  have s6 : ∀ j, j % 50 = 0 → r88 j ≤ 6 := fun j hj => (ezm_zs0 (hT.t88 j) hj).2
  refine ezw_aload_n rfl rfl ?_
  refine ezw_iconst (0) rfl rfl ?_
  refine ezm_p0 hT rfl ⟨by decide, by decide⟩ (fun hT => ?_)
  refine ezw_aload_n rfl rfl ?_
  refine ezw_call0_0 rfl (by omega) (ezm_at rfl) rfl rfl rfl rfl (ezm_m218 hT (by omega)) ?_
  rintro _ _ ⟨x2_1, x3_1, x7_1, x8_1, x74_1, x75_1, x76_1, rfl, hT, p1_0, p1_1, p1_2, en_1, rfl⟩
  have k2 := hT.t2
  have k3 := hT.t3
  have k4 := hT.t7
  have k5 := hT.t8
  obtain ⟨n, n0, n1, hs⟩ := en_1
  refine ezw_aload_n rfl rfl ?_
  refine ezw_iconst (0) rfl rfl ?_
  refine ezm_p13 hT rfl ⟨by omega, by omega⟩ (fun hT => ?_)
  refine ezw_aload_n rfl rfl ?_
  refine ezw_iconst (0) rfl rfl ?_
  refine ezm_p19 hT rfl ⟨by omega, by omega⟩ (fun hT => ?_)
  refine ezw_aload_n rfl rfl ?_
  refine ezw_iconst (0) rfl rfl ?_
  refine ezm_p20 hT rfl ⟨by decide, by decide⟩ (fun hT => ?_)
  refine ezw_aload_n rfl rfl ?_
  refine ezw_bipush (100) rfl rfl ?_
  refine ezw_call0_1 rfl (by omega) (ezm_at rfl) rfl rfl rfl rfl (ezm_m213_v100 hT (by omega)) ?_
  rintro _ _ ⟨x78_6, rfl, hT, fb_6, q0_6, q1_6, q3_6, q15_6, q16_6, rfl⟩
  have X30_8 : ∀ c7 : Int, ezw_in c7 → ∀ x8_8 : Int, ∀ x13_8 : Int, ∀ x19_8 : Int, ∀ x20_8 : Int, ∀ x78_8 : Int → Int, ∀ x79_8 : Int → Int, ∀ x80_8 : Int → Int, ∀ x82_8 : Int → Int, ∀ x84_8 : Int → Int, ezm_T (0) x2_1 x3_1 c7 x8_8 x13_8 i18 x19_8 x20_8 i25 i29 i30 i31 i36 i37 i38 r73 x74_1 x75_1 x76_1 r77 x78_8 x79_8 x80_8 r81 x82_8 r83 x84_8 r85 r86 r87 r88 r89 r90 r91 r92 r93 r94 r95 → (0 ≤ c7 ∧ c7 ≤ n ∧ 0 ≤ x13_8 ∧ x13_8 ≤ c7) → (∀ j, j < 100 → x78_8 j = r78 j) → (ezm_fr r79 r80 x79_8 x80_8 1100) → (x8_8 ≠ 0) → ezw_E l ρ B xa Hb D cA d ezq_re217 (ezm_m217Q  e F A i0 i2 i3 i7 i8 i13 i18 i19 i20 i25 i29 i30 i31 i36 i37 i38 r73 r74 r75 r76 r77 r78 r79 r80 r81 r82 r83 r84 r85 r86 r87 r88 r89 r90 r91 r92 r93 r94 r95) 30 [some (ezw_p 72), none] [] (ezm_h e F A (0) x2_1 x3_1 c7 x8_8 x13_8 i18 x19_8 x20_8 i25 i29 i30 i31 i36 i37 i38 r73 x74_1 x75_1 x76_1 r77 x78_8 x79_8 x80_8 r81 x82_8 r83 x84_8 r85 r86 r87 r88 r89 r90 r91 r92 r93 r94 r95) := by
    intro c7 hc7 x8_8 x13_8 x19_8 x20_8 x78_8 x79_8 x80_8 x82_8 x84_8 hT v1_8 fb_8 fo_8 hesc_8
    have k9 := hT.t7
    have k10 := hT.t8
    have k11 := hT.t13
    have k12 := hT.t19
    have k13 := hT.t20
    refine ezw_aload_n rfl rfl ?_
    refine ezm_g8 rfl ?_
    have k14 := hT.t8
    refine ezw_if_ne rfl rfl ⟨by omega, by omega⟩ (fun h34_14 => ?_) (fun h34_14 => absurd h34_14 (by omega))
    refine ezw_aload_n rfl rfl ?_
    refine ezm_g8 rfl ?_
    refine ezw_if_le rfl rfl ⟨by omega, by omega⟩ (fun h129_14 => absurd h129_14 (by omega)) (fun h129_14 => ?_)
    refine ezw_aload_n rfl rfl ?_
    refine ezm_g8 rfl ?_
    exact ezw_ireturn rfl rfl ⟨(0), x2_1, x3_1, c7, x8_8, x13_8, i18, x19_8, x20_8, i25, x74_1, x75_1, x76_1, x78_8, x79_8, x80_8, r81, x82_8, r83, x84_8, r85, r88, r89, rfl, hT, x8_8, ⟨by omega, by omega⟩, by omega, ezm_TR_fr tr a0 a3 fb_8 fo_8, ezm_OK_fr ok s6 (fb_8 0 (by omega)), rfl⟩
  have L30_8 : ∀ c7 : Int, ezw_in c7 → ∀ x8_8 : Int, ∀ x13_8 : Int, ∀ x19_8 : Int, ∀ x20_8 : Int, ∀ x78_8 : Int → Int, ∀ x79_8 : Int → Int, ∀ x80_8 : Int → Int, ∀ x82_8 : Int → Int, ∀ x84_8 : Int → Int, ezm_T (0) x2_1 x3_1 c7 x8_8 x13_8 i18 x19_8 x20_8 i25 i29 i30 i31 i36 i37 i38 r73 x74_1 x75_1 x76_1 r77 x78_8 x79_8 x80_8 r81 x82_8 r83 x84_8 r85 r86 r87 r88 r89 r90 r91 r92 r93 r94 r95 → (x7_1 ≤ c7) → (0 ≤ c7 ∧ c7 ≤ n ∧ 0 ≤ x13_8 ∧ x13_8 ≤ c7) → (∀ j, j < 100 → x78_8 j = r78 j) → (ezm_fr r79 r80 x79_8 x80_8 1100) → (x8_8 = 0) → (ezm_RD x13_8 x19_8 x78_8 x79_8 x80_8 x84_8) → ezw_E l ρ B xa Hb D cA d ezq_re217 (ezm_m217Q  e F A i0 i2 i3 i7 i8 i13 i18 i19 i20 i25 i29 i30 i31 i36 i37 i38 r73 r74 r75 r76 r77 r78 r79 r80 r81 r82 r83 r84 r85 r86 r87 r88 r89 r90 r91 r92 r93 r94 r95) 30 [some (ezw_p 72), none] [] (ezm_h e F A (0) x2_1 x3_1 c7 x8_8 x13_8 i18 x19_8 x20_8 i25 i29 i30 i31 i36 i37 i38 r73 x74_1 x75_1 x76_1 r77 x78_8 x79_8 x80_8 r81 x82_8 r83 x84_8 r85 r86 r87 r88 r89 r90 r91 r92 r93 r94 r95) := by
    refine ezs_up ?_
    intro c7 hc7 ihc7 x8_8 x13_8 x19_8 x20_8 x78_8 x79_8 x80_8 x82_8 x84_8 hT g_8 v1_8 fb_8 fo_8 z_8 rd_8
    have k15 := hT.t7
    have k16 := hT.t8
    have k17 := hT.t13
    have k18 := hT.t19
    have k19 := hT.t20
    refine ezw_aload_n rfl rfl ?_
    refine ezm_g8 rfl ?_
    refine ezw_if_ne rfl rfl ⟨by omega, by omega⟩ (fun h34_19 => absurd h34_19 (by omega)) (fun h34_19 => ?_)
    refine ezw_aload_n rfl rfl ?_
    refine ezm_gp (p := 74) rfl (fun _ => rfl) ?_
    refine ezw_aload_n rfl rfl ?_
    refine ezm_g7 rfl ?_
    refine ezm_l74 rfl (by omega) (by omega) (fun u20 eu20 => ?_)
    have ku20 : ezw_in u20 := eu20 ▸ hT.t74 c7
    refine ezw_if_eq rfl rfl ku20 (fun h46_20 => ?_) (fun h46_20 => ?_)
    · refine ezw_aload_n rfl rfl ?_
      refine ezm_g8 rfl ?_
      refine ezw_if_le rfl rfl ⟨by omega, by omega⟩ (fun h129_20 => ?_) (fun h129_20 => absurd h129_20 (by omega))
      have c0 := (ezm_za0 (hT.t78 100) (by decide)).2
      have c3 := (ezm_za3 (hT.t78 103) (by decide)).2
      refine ezw_iconst (0) rfl rfl ?_
      refine ezw_istore_n rfl rfl ?_
      have L139_22 : ∀ c21 : Int, ezw_in c21 → ∀ x78_22 : Int → Int, ezm_T (0) x2_1 x3_1 c7 x8_8 x13_8 i18 x19_8 x20_8 i25 i29 i30 i31 i36 i37 i38 r73 x74_1 x75_1 x76_1 r77 x78_22 x79_8 x80_8 r81 x82_8 r83 x84_8 r85 r86 r87 r88 r89 r90 r91 r92 r93 r94 r95 → ((0) ≤ c21) → (∀ j, 100 ≤ j → x78_22 j = x78_8 j) → (∀ j, 0 ≤ j → j < c21 → x78_22 j = x78_8 (j + 100)) → ezw_E l ρ B xa Hb D cA d ezq_re217 (ezm_m217Q  e F A i0 i2 i3 i7 i8 i13 i18 i19 i20 i25 i29 i30 i31 i36 i37 i38 r73 r74 r75 r76 r77 r78 r79 r80 r81 r82 r83 r84 r85 r86 r87 r88 r89 r90 r91 r92 r93 r94 r95) 139 [some (ezw_p 72), some (ezw_i c21)] [] (ezm_h e F A (0) x2_1 x3_1 c7 x8_8 x13_8 i18 x19_8 x20_8 i25 i29 i30 i31 i36 i37 i38 r73 x74_1 x75_1 x76_1 r77 x78_22 x79_8 x80_8 r81 x82_8 r83 x84_8 r85 r86 r87 r88 r89 r90 r91 r92 r93 r94 r95) := by
        refine ezs_up ?_
        intro c21 hc21 ihc21 x78_22 hT g_22 hi_22 lo_22
        refine ezw_iload_n rfl rfl ?_
        refine ezw_bipush (100) rfl rfl ?_
        refine ezw_icmp_ge rfl rfl hc21 ⟨by decide, by decide⟩ (fun h142_22 => ?_) (fun h142_22 => ?_)
        · refine ezw_iconst (0) rfl rfl ?_
          refine ezw_istore_n rfl rfl ?_
          have L168_24 : ∀ c23 : Int, ezw_in c23 → ∀ x79_24 : Int → Int, ∀ x80_24 : Int → Int, ezm_T (0) x2_1 x3_1 c7 x8_8 x13_8 i18 x19_8 x20_8 i25 i29 i30 i31 i36 i37 i38 r73 x74_1 x75_1 x76_1 r77 x78_22 x79_24 x80_24 r81 x82_8 r83 x84_8 r85 r86 r87 r88 r89 r90 r91 r92 r93 r94 r95 → ((0) ≤ c23) → (∀ j, 1100 ≤ j → x79_24 j = x79_8 j ∧ x80_24 j = x80_8 j) → (∀ j, 0 ≤ j → j < c23 → x79_24 j = x79_8 (j + 1100) ∧ x80_24 j = x80_8 (j + 1100)) → ezw_E l ρ B xa Hb D cA d ezq_re217 (ezm_m217Q  e F A i0 i2 i3 i7 i8 i13 i18 i19 i20 i25 i29 i30 i31 i36 i37 i38 r73 r74 r75 r76 r77 r78 r79 r80 r81 r82 r83 r84 r85 r86 r87 r88 r89 r90 r91 r92 r93 r94 r95) 168 [some (ezw_p 72), some (ezw_i c23)] [] (ezm_h e F A (0) x2_1 x3_1 c7 x8_8 x13_8 i18 x19_8 x20_8 i25 i29 i30 i31 i36 i37 i38 r73 x74_1 x75_1 x76_1 r77 x78_22 x79_24 x80_24 r81 x82_8 r83 x84_8 r85 r86 r87 r88 r89 r90 r91 r92 r93 r94 r95) := by
            refine ezs_up ?_
            intro c23 hc23 ihc23 x79_24 x80_24 hT g_24 hi_24 lo_24
            refine ezw_iload_n rfl rfl ?_
            refine ezw_aload_n rfl rfl ?_
            refine ezm_g13 rfl ?_
            refine ezw_icmp_ge rfl rfl hc23 ⟨by omega, by omega⟩ (fun h173_24 => ?_) (fun h173_24 => ?_)
            · refine ezw_iconst (0) rfl rfl ?_
              refine ezw_istore_n rfl rfl ?_
              have L216_26 : ∀ c25 : Int, ezw_in c25 → ∀ x81_26 : Int → Int, ∀ x83_26 : Int → Int, ezm_T (0) x2_1 x3_1 c7 x8_8 x13_8 i18 x19_8 x20_8 i25 i29 i30 i31 i36 i37 i38 r73 x74_1 x75_1 x76_1 r77 x78_22 x79_24 x80_24 x81_26 x82_8 x83_26 x84_8 r85 r86 r87 r88 r89 r90 r91 r92 r93 r94 r95 → ((0) ≤ c25) → ezw_E l ρ B xa Hb D cA d ezq_re217 (ezm_m217Q  e F A i0 i2 i3 i7 i8 i13 i18 i19 i20 i25 i29 i30 i31 i36 i37 i38 r73 r74 r75 r76 r77 r78 r79 r80 r81 r82 r83 r84 r85 r86 r87 r88 r89 r90 r91 r92 r93 r94 r95) 216 [some (ezw_p 72), some (ezw_i c25)] [] (ezm_h e F A (0) x2_1 x3_1 c7 x8_8 x13_8 i18 x19_8 x20_8 i25 i29 i30 i31 i36 i37 i38 r73 x74_1 x75_1 x76_1 r77 x78_22 x79_24 x80_24 x81_26 x82_8 x83_26 x84_8 r85 r86 r87 r88 r89 r90 r91 r92 r93 r94 r95) := by
                refine ezs_up ?_
                intro c25 hc25 ihc25 x81_26 x83_26 hT g_26
                refine ezw_iload_n rfl rfl ?_
                refine ezw_aload_n rfl rfl ?_
                refine ezm_g19 rfl ?_
                refine ezw_icmp_ge rfl rfl hc25 ⟨by omega, by omega⟩ (fun h221_26 => ?_) (fun h221_26 => ?_)
                · refine ezw_aload_n rfl rfl ?_
                  refine ezw_aload_n rfl rfl ?_
                  refine ezm_g19 rfl ?_
                  refine ezm_p18 hT rfl ⟨by omega, by omega⟩ (fun hT => ?_)
                  have htr := ezm_TR_of rd_8 c0 c3 (by omega) (fun j j0 j1 => lo_22 j j0 (by omega)) (fun j j0 j1 => lo_24 j j0 (by omega))
                  refine ezw_aload_n rfl rfl ?_
                  refine ezw_call0_0 rfl (by omega) (ezm_at rfl) rfl rfl rfl rfl (ezm_m214 hT (by omega) htr.2.1) ?_
                  rintro _ _ ⟨x25_27, x85_27, x88_27, x89_27, rfl, hT, p27_0, ok_27, rfl⟩
                  have k28 := hT.t25
                  refine ezw_iconst (0) rfl rfl ?_
                  exact ezw_ireturn rfl rfl ⟨(0), x2_1, x3_1, c7, x8_8, x13_8, x19_8, x19_8, x20_8, x25_27, x74_1, x75_1, x76_1, x78_22, x79_24, x80_24, x81_26, x82_8, x83_26, x84_8, x85_27, x88_27, x89_27, rfl, hT, (0), ⟨by decide, by decide⟩, by omega, htr, by rw [show x25_27 = 0 by omega]; exact ok_27, rfl⟩
                · refine ezw_aload_n rfl rfl ?_
                  refine ezm_gp (p := 81) rfl (fun _ => rfl) ?_
                  refine ezw_iload_n rfl rfl ?_
                  refine ezw_aload_n rfl rfl ?_
                  refine ezm_gp (p := 82) rfl (fun _ => rfl) ?_
                  refine ezw_iload_n rfl rfl ?_
                  refine ezm_l82 rfl (by omega) (by omega) (fun u29 eu29 => ?_)
                  have ku29 : ezw_il u29 := eu29 ▸ hT.t82 c25
                  refine ezm_s81 hT rfl (by omega) (by omega) ku29 (fun r81_30 hT er81_30 fr81_30 => ?_)
                  refine ezw_aload_n rfl rfl ?_
                  refine ezm_gp (p := 83) rfl (fun _ => rfl) ?_
                  refine ezw_iload_n rfl rfl ?_
                  refine ezw_aload_n rfl rfl ?_
                  refine ezm_gp (p := 84) rfl (fun _ => rfl) ?_
                  refine ezw_iload_n rfl rfl ?_
                  refine ezm_l84 rfl (by omega) (by omega) (fun u31 eu31 => ?_)
                  have ku31 : 0 ≤ u31 ∧ u31 ≤ 23 := eu31 ▸ hT.t84 c25
                  refine ezm_s83 hT rfl (by omega) (by omega) ⟨by omega, by omega⟩ (fun r83_32 hT er83_32 fr83_32 => ?_)
                  refine ezw_iinc (k := c25 + 1) (1) rfl rfl rfl (by omega) rfl ?_
                  refine ezw_goto rfl rfl ?_
                  exact ezw_keepE [true, true] (ihc25 (c25 + 1) (by omega) ⟨by omega, by omega⟩ r81_30 r83_32 hT (by omega))
              exact ezw_keepE [true, true] (L216_26 (0) ⟨by decide, by decide⟩ r81 r83 hT (by omega))
            · refine ezw_aload_n rfl rfl ?_
              refine ezm_gp (p := 79) rfl (fun _ => rfl) ?_
              refine ezw_iload_n rfl rfl ?_
              refine ezw_aload_n rfl rfl ?_
              refine ezm_gp (p := 79) rfl (fun _ => rfl) ?_
              refine ezw_sipush (1100) rfl rfl ?_
              refine ezw_iload_n rfl rfl ?_
              refine ezw_iadd (k := c23 + 1100) rfl (by omega) ?_
              refine ezm_l79 rfl (by omega) (by omega) (fun u33 eu33 => ?_)
              have ku33 : ezw_in u33 := eu33 ▸ hT.t79 (c23 + 1100)
              refine ezm_s79 hT rfl (by omega) (by omega) ku33 (fun r79_34 hT er79_34 fr79_34 => ?_)
              refine ezw_aload_n rfl rfl ?_
              refine ezm_gp (p := 80) rfl (fun _ => rfl) ?_
              refine ezw_iload_n rfl rfl ?_
              refine ezw_aload_n rfl rfl ?_
              refine ezm_gp (p := 80) rfl (fun _ => rfl) ?_
              refine ezw_sipush (1100) rfl rfl ?_
              refine ezw_iload_n rfl rfl ?_
              refine ezw_iadd (k := c23 + 1100) rfl (by omega) ?_
              refine ezm_l80 rfl (by omega) (by omega) (fun u35 eu35 => ?_)
              have ku35 : ezw_in u35 := eu35 ▸ hT.t80 (c23 + 1100)
              refine ezm_s80 hT rfl (by omega) (by omega) ku35 (fun r80_36 hT er80_36 fr80_36 => ?_)
              refine ezw_iinc (k := c23 + 1) (1) rfl rfl rfl (by omega) rfl ?_
              refine ezw_goto rfl rfl ?_
              exact ezw_keepE [true, true] (ihc23 (c23 + 1) (by omega) ⟨by omega, by omega⟩ r79_34 r80_36 hT (by omega) (fun j hj => by rw [fr79_34 j (by omega), fr80_36 j (by omega)]; exact hi_24 j hj) (fun j j0 j1 => by
                    by_cases hj : j = c23
                    · subst hj
                      rw [er79_34, eu33, er80_36, eu35]
                      exact hi_24 _ (by omega)
                    · rw [fr79_34 j hj, fr80_36 j hj]
                      exact lo_24 j j0 (by omega)))
          exact ezw_keepE [true, true] (L168_24 (0) ⟨by decide, by decide⟩ x79_8 x80_8 hT (by omega) (fun _ _ => ⟨rfl, rfl⟩) (fun j j0 j1 => by omega))
        · refine ezw_aload_n rfl rfl ?_
          refine ezm_gp (p := 78) rfl (fun _ => rfl) ?_
          refine ezw_iload_n rfl rfl ?_
          refine ezw_aload_n rfl rfl ?_
          refine ezm_gp (p := 78) rfl (fun _ => rfl) ?_
          refine ezw_bipush (100) rfl rfl ?_
          refine ezw_iload_n rfl rfl ?_
          refine ezw_iadd (k := c21 + 100) rfl (by omega) ?_
          refine ezm_l78 rfl (by omega) (by omega) (fun u37 eu37 => ?_)
          have ku37 : ezm_k78 (c21 + 100) u37 := eu37 ▸ hT.t78 (c21 + 100)
          refine ezm_s78 hT rfl (by omega) (by omega) (ezm_k78_sh (by omega) ku37) (fun r78_38 hT er78_38 fr78_38 => ?_)
          refine ezw_iinc (k := c21 + 1) (1) rfl rfl rfl (by omega) rfl ?_
          refine ezw_goto rfl rfl ?_
          exact ezw_keepE [true, true] (ihc21 (c21 + 1) (by omega) ⟨by omega, by omega⟩ r78_38 hT (by omega) (fun j hj => by rw [fr78_38 j (by omega), hi_22 j hj]) (fun j j0 j1 => by
                by_cases hj : j = c21
                · subst hj
                  rw [er78_38, eu37, hi_22 _ (by omega)]
                · rw [fr78_38 j hj, lo_22 j j0 (by omega)]))
      exact ezw_keepE [true, true] (L139_22 (0) ⟨by decide, by decide⟩ x78_8 hT (by omega) (fun _ _ => rfl) (fun j j0 j1 => by omega))
    · refine ezw_aload_n rfl rfl ?_
      refine ezw_iconst (0) rfl rfl ?_
      refine ezw_call0_1 rfl (by omega) (ezm_at rfl) rfl rfl rfl rfl (ezm_m223 hT (by omega) ⟨by decide, by decide⟩ (by omega) hs (by omega) (by omega)) ?_
      rintro _ _ ⟨rfl, u40, hu40, f_39, w_39, rfl⟩
      refine ezw_if_eq rfl rfl ⟨by omega, by omega⟩ (fun h54_40 => ?_) (fun h54_40 => ?_)
      · refine ezw_aload_n rfl rfl ?_
        refine ezw_bipush (9) rfl rfl ?_
        refine ezw_call0_1 rfl (by omega) (ezm_at rfl) rfl rfl rfl rfl (ezm_m223 hT (by omega) ⟨by decide, by decide⟩ (by omega) hs (by omega) (by omega)) ?_
        rintro _ _ ⟨rfl, u42, hu42, f_41, w_41, rfl⟩
        refine ezw_if_eq rfl rfl ⟨by omega, by omega⟩ (fun h70_42 => ?_) (fun h70_42 => ?_)
        · refine ezw_aload_n rfl rfl ?_
          refine ezw_bipush (12) rfl rfl ?_
          refine ezw_call0_1 rfl (by omega) (ezm_at rfl) rfl rfl rfl rfl (ezm_m223 hT (by omega) ⟨by decide, by decide⟩ (by omega) hs (by omega) (by omega)) ?_
          rintro _ _ ⟨rfl, u44, hu44, f_43, w_43, rfl⟩
          refine ezw_if_eq rfl rfl ⟨by omega, by omega⟩ (fun h86_44 => ?_) (fun h86_44 => ?_)
          · refine ezw_aload_n rfl rfl ?_
            refine ezw_bipush (20) rfl rfl ?_
            refine ezw_call0_1 rfl (by omega) (ezm_at rfl) rfl rfl rfl rfl (ezm_m223 hT (by omega) ⟨by decide, by decide⟩ (by omega) hs (by omega) (by omega)) ?_
            rintro _ _ ⟨rfl, u46, hu46, f_45, w_45, rfl⟩
            refine ezw_if_eq rfl rfl ⟨by omega, by omega⟩ (fun h102_46 => ?_) (fun h102_46 => ?_)
            · refine ezw_aload_n rfl rfl ?_
              refine ezw_call0_0 rfl (by omega) (ezm_at rfl) rfl rfl rfl rfl (ezm_m241 hT (by omega) (by omega) hs (by omega) (by omega) (by omega) rd_8) ?_
              rintro _ _ ⟨x7_47, x8_47, x13_47, x20_47, x78_47, x79_47, x80_47, rfl, hT, p47_0, p47_1, fb_47, fo_47, rd_47, rfl⟩
              have k48 := hT.t7
              have k49 := hT.t8
              have k50 := hT.t13
              have k51 := hT.t20
              refine ezw_aload_n rfl rfl ?_
              refine ezw_bipush (59) rfl rfl ?_
              refine ezw_call0_1 rfl (by omega) (ezm_at rfl) rfl rfl rfl rfl (ezm_m253 hT (by omega) ⟨by decide, by decide⟩ (by omega) hs (by omega)) ?_
              rintro _ _ ⟨x7_52, x8_52, rfl, hT, p52_0, p52_1, p52_2, rfl⟩
              have k53 := hT.t7
              have k54 := hT.t8
              refine ezw_goto rfl rfl ?_
              by_cases hq212 : x8_52 ≠ 0
              · exact ezw_keepE [true, false] (X30_8 x7_52 ⟨by omega, by omega⟩ x8_52 x13_47 x19_8 x20_47 x78_47 x79_47 x80_47 x82_8 x84_8 hT (by omega) (fun j hj => by rw [fb_47 j hj, fb_8 j hj]) (ezm_fr_t fo_8 fo_47 (by omega)) hq212)
              · exact ezw_keepE [true, false] (ihc7 x7_52 (by omega) ⟨by omega, by omega⟩ x8_52 x13_47 x19_8 x20_47 x78_47 x79_47 x80_47 x82_8 x84_8 hT (by omega) (by omega) (fun j hj => by rw [fb_47 j hj, fb_8 j hj]) (ezm_fr_t fo_8 fo_47 (by omega)) (by omega) (rd_47 (by omega)))
            · refine ezw_aload_n rfl rfl ?_
              refine ezw_call0_0 rfl (by omega) (ezm_at rfl) rfl rfl rfl rfl (ezm_m240 hT (by omega) (by omega) hs (by omega) (by omega) (by omega) rd_8 (by omega)) ?_
              rintro _ _ ⟨x7_55, x8_55, x78_55, rfl, hT, p55_0, fb_55, rd_55, rfl⟩
              have k56 := hT.t7
              have k57 := hT.t8
              refine ezw_goto rfl rfl ?_
              refine ezw_aload_n rfl rfl ?_
              refine ezw_bipush (59) rfl rfl ?_
              refine ezw_call0_1 rfl (by omega) (ezm_at rfl) rfl rfl rfl rfl (ezm_m253 hT (by omega) ⟨by decide, by decide⟩ (by omega) hs (by omega)) ?_
              rintro _ _ ⟨x7_58, x8_58, rfl, hT, p58_0, p58_1, p58_2, rfl⟩
              have k59 := hT.t7
              have k60 := hT.t8
              refine ezw_goto rfl rfl ?_
              by_cases hq228 : x8_58 ≠ 0
              · exact ezw_keepE [true, false] (X30_8 x7_58 ⟨by omega, by omega⟩ x8_58 x13_8 x19_8 x20_8 x78_55 x79_8 x80_8 x82_8 x84_8 hT (by omega) (fun j hj => by rw [fb_55 j hj, fb_8 j hj]) fo_8 hq228)
              · exact ezw_keepE [true, false] (ihc7 x7_58 (by omega) ⟨by omega, by omega⟩ x8_58 x13_8 x19_8 x20_8 x78_55 x79_8 x80_8 x82_8 x84_8 hT (by omega) (by omega) (fun j hj => by rw [fb_55 j hj, fb_8 j hj]) fo_8 (by omega) (rd_55 (by omega)))
          · refine ezw_aload_n rfl rfl ?_
            refine ezw_call0_0 rfl (by omega) (ezm_at rfl) rfl rfl rfl rfl (ezm_m238 hT (by omega) (by omega) hs (by omega) (by omega) (by omega) rd_8 (by omega)) ?_
            rintro _ _ ⟨x7_61, x8_61, x78_61, rfl, hT, p61_0, fb_61, rd_61, rfl⟩
            have k62 := hT.t7
            have k63 := hT.t8
            refine ezw_goto rfl rfl ?_
            refine ezw_aload_n rfl rfl ?_
            refine ezw_bipush (59) rfl rfl ?_
            refine ezw_call0_1 rfl (by omega) (ezm_at rfl) rfl rfl rfl rfl (ezm_m253 hT (by omega) ⟨by decide, by decide⟩ (by omega) hs (by omega)) ?_
            rintro _ _ ⟨x7_64, x8_64, rfl, hT, p64_0, p64_1, p64_2, rfl⟩
            have k65 := hT.t7
            have k66 := hT.t8
            refine ezw_goto rfl rfl ?_
            by_cases hq244 : x8_64 ≠ 0
            · exact ezw_keepE [true, false] (X30_8 x7_64 ⟨by omega, by omega⟩ x8_64 x13_8 x19_8 x20_8 x78_61 x79_8 x80_8 x82_8 x84_8 hT (by omega) (fun j hj => by rw [fb_61 j hj, fb_8 j hj]) fo_8 hq244)
            · exact ezw_keepE [true, false] (ihc7 x7_64 (by omega) ⟨by omega, by omega⟩ x8_64 x13_8 x19_8 x20_8 x78_61 x79_8 x80_8 x82_8 x84_8 hT (by omega) (by omega) (fun j hj => by rw [fb_61 j hj, fb_8 j hj]) fo_8 (by omega) (rd_61 (by omega)))
        · refine ezw_aload_n rfl rfl ?_
          refine ezw_call0_0 rfl (by omega) (ezm_at rfl) rfl rfl rfl rfl (ezm_m237 hT (by omega) (by omega) hs (by omega) (by omega) (by omega) rd_8 (by omega)) ?_
          rintro _ _ ⟨x7_67, x8_67, x19_67, x78_67, x82_67, x84_67, rfl, hT, p67_0, fb_67, rd_67, rfl⟩
          have k68 := hT.t7
          have k69 := hT.t8
          have k70 := hT.t19
          refine ezw_goto rfl rfl ?_
          refine ezw_aload_n rfl rfl ?_
          refine ezw_bipush (59) rfl rfl ?_
          refine ezw_call0_1 rfl (by omega) (ezm_at rfl) rfl rfl rfl rfl (ezm_m253 hT (by omega) ⟨by decide, by decide⟩ (by omega) hs (by omega)) ?_
          rintro _ _ ⟨x7_71, x8_71, rfl, hT, p71_0, p71_1, p71_2, rfl⟩
          have k72 := hT.t7
          have k73 := hT.t8
          refine ezw_goto rfl rfl ?_
          by_cases hq261 : x8_71 ≠ 0
          · exact ezw_keepE [true, false] (X30_8 x7_71 ⟨by omega, by omega⟩ x8_71 x13_8 x19_67 x20_8 x78_67 x79_8 x80_8 x82_67 x84_67 hT (by omega) (fun j hj => by rw [fb_67 j hj, fb_8 j hj]) fo_8 hq261)
          · exact ezw_keepE [true, false] (ihc7 x7_71 (by omega) ⟨by omega, by omega⟩ x8_71 x13_8 x19_67 x20_8 x78_67 x79_8 x80_8 x82_67 x84_67 hT (by omega) (by omega) (fun j hj => by rw [fb_67 j hj, fb_8 j hj]) fo_8 (by omega) (rd_67 (by omega)))
      · refine ezw_aload_n rfl rfl ?_
        refine ezw_call0_0 rfl (by omega) (ezm_at rfl) rfl rfl rfl rfl (ezm_m224 hT (by omega) (by omega) hs (by omega) (by omega) (by omega) rd_8 (by omega)) ?_
        rintro _ _ ⟨x7_74, x8_74, x19_74, x78_74, x82_74, x84_74, rfl, hT, p74_0, fb_74, rd_74, rfl⟩
        have k75 := hT.t7
        have k76 := hT.t8
        have k77 := hT.t19
        refine ezw_goto rfl rfl ?_
        refine ezw_aload_n rfl rfl ?_
        refine ezw_bipush (59) rfl rfl ?_
        refine ezw_call0_1 rfl (by omega) (ezm_at rfl) rfl rfl rfl rfl (ezm_m253 hT (by omega) ⟨by decide, by decide⟩ (by omega) hs (by omega)) ?_
        rintro _ _ ⟨x7_78, x8_78, rfl, hT, p78_0, p78_1, p78_2, rfl⟩
        have k79 := hT.t7
        have k80 := hT.t8
        refine ezw_goto rfl rfl ?_
        by_cases hq278 : x8_78 ≠ 0
        · exact ezw_keepE [true, false] (X30_8 x7_78 ⟨by omega, by omega⟩ x8_78 x13_8 x19_74 x20_8 x78_74 x79_8 x80_8 x82_74 x84_74 hT (by omega) (fun j hj => by rw [fb_74 j hj, fb_8 j hj]) fo_8 hq278)
        · exact ezw_keepE [true, false] (ihc7 x7_78 (by omega) ⟨by omega, by omega⟩ x8_78 x13_8 x19_74 x20_8 x78_74 x79_8 x80_8 x82_74 x84_74 hT (by omega) (by omega) (fun j hj => by rw [fb_74 j hj, fb_8 j hj]) fo_8 (by omega) (rd_74 (by omega)))
  exact ezw_keepE [true, false] (L30_8 x7_1 ⟨by omega, by omega⟩ x8_1 (0) (0) (0) x78_6 r79 r80 r82 r84 hT (by omega) (by omega) fb_6 (ezm_fr_r _ _ _) (by omega) (ezm_RD_0 q0_6 q1_6 q3_6 q15_6 q16_6))
def ezm_m255Q (e : Bool × Bool) (F : Nat → Nat → Int) (A : Nat → Int → Int) (i0 i2 i3 i7 i8 i13 i18 i19 i20 i25 i29 i30 i31 i36 i37 i38 : Int) (r73 r74 r75 r76 r77 r78 r79 r80 r81 r82 r83 r84 r85 r86 r87 r88 r89 r90 r91 r92 r93 r94 r95 : Int → Int) (n : Int) (a1 : Int) (a2 : Int) : Option ezq_V → (Nat → ezq_C) → Prop := fun v g' => ∃ (x7 x8 : Int) (x85 : Int → Int), ezm_h e F A i0 i2 i3 x7 x8 i13 i18 i19 i20 i25 i29 i30 i31 i36 i37 i38 r73 r74 r75 r76 r77 r78 r79 r80 r81 r82 r83 r84 x85 r86 r87 r88 r89 r90 r91 r92 r93 r94 r95 = g' ∧ ezm_T i0 i2 i3 x7 x8 i13 i18 i19 i20 i25 i29 i30 i31 i36 i37 i38 r73 r74 r75 r76 r77 r78 r79 r80 r81 r82 r83 r84 x85 r86 r87 r88 r89 r90 r91 r92 r93 r94 r95 ∧ (i7 ≤ x7 ∧ x7 ≤ n) ∧ (i8 ≠ 0 → x8 ≠ 0) ∧ none = v
theorem ezm_m255 {n a1 a2 : Int} (hT : ezm_T i0 i2 i3 i7 i8 i13 i18 i19 i20 i25 i29 i30 i31 i36 i37 i38 r73 r74 r75 r76 r77 r78 r79 r80 r81 r82 r83 r84 r85 r86 r87 r88 r89 r90 r91 r92 r93 r94 r95) (hd : 5 ≤ d) (ha1 : ezw_in a1) (ha2 : ezw_in a2) (hn : 0 ≤ i7 ∧ i7 ≤ n) (hs : r74 n = 0) (h1 : n ≤ 1000) (ga : 0 ≤ a1 ∧ a1 ≤ 6) (gb : 1 ≤ a2 ∧ a2 ≤ 207) : ezw_C l ρ B xa Hb D cA 255 d [ezw_p 72, ezw_i a1, ezw_i a2] (ezm_h e F A i0 i2 i3 i7 i8 i13 i18 i19 i20 i25 i29 i30 i31 i36 i37 i38 r73 r74 r75 r76 r77 r78 r79 r80 r81 r82 r83 r84 r85 r86 r87 r88 r89 r90 r91 r92 r93 r94 r95) (ezm_m255Q  e F A i0 i2 i3 i7 i8 i13 i18 i19 i20 i25 i29 i30 i31 i36 i37 i38 r73 r74 r75 r76 r77 r78 r79 r80 r81 r82 r83 r84 r85 r86 r87 r88 r89 r90 r91 r92 r93 r94 r95 n a1 a2) := by
  refine ezw_met (k := 0) rfl rfl ?_
  refine ezw_iload_n rfl rfl ?_
  refine ezw_if_ne rfl rfl ha1 (fun h1_0 => ?_) (fun h1_0 => ?_)
  · refine ezw_iload_n rfl rfl ?_
    refine ezw_iconst (3) rfl rfl ?_
    refine ezw_icmp_ne rfl rfl ha1 ⟨by decide, by decide⟩ (fun h52_0 => ?_) (fun h52_0 => ?_)
    · refine ezw_iload_n rfl rfl ?_
      refine ezw_iconst (4) rfl rfl ?_
      refine ezw_icmp_eq rfl rfl ha1 ⟨by decide, by decide⟩ (fun h142_0 => ?_) (fun h142_0 => ?_)
      · refine ezw_aload_n rfl rfl ?_
        refine ezm_gp (p := 85) rfl (fun _ => rfl) ?_
        refine ezw_iload_n rfl rfl ?_
        refine ezw_aload_n rfl rfl ?_
        refine ezw_iconst (0) rfl rfl ?_
        refine ezw_iconst (0) rfl rfl ?_
        refine ezw_bipush (8) rfl rfl ?_
        refine ezw_call0_3 rfl (by omega) (ezm_at rfl) rfl rfl rfl rfl (ezm_m239_v0 hT (by omega) ⟨by decide, by decide⟩ ⟨by decide, by decide⟩ (by omega) hs (by omega) (by omega) (by omega)) ?_
        rintro _ _ ⟨x7_1, x8_1, rfl, hT, u2, hu2, p1_0, p1_1, p1_2, rfl⟩
        have k3 := hT.t7
        have k4 := hT.t8
        refine ezm_s85 hT rfl (by omega) (by omega) ⟨by omega, by omega⟩ (fun r85_5 hT er85_5 fr85_5 => ?_)
        refine ezw_goto rfl rfl ?_
        exact ezw_return rfl rfl ⟨x7_1, x8_1, r85_5, rfl, hT, by omega, by omega, rfl⟩
      · refine ezw_iload_n rfl rfl ?_
        refine ezw_iconst (5) rfl rfl ?_
        refine ezw_icmp_ne rfl rfl ha1 ⟨by decide, by decide⟩ (fun h147_5 => ?_) (fun h147_5 => ?_)
        · refine ezw_iload_n rfl rfl ?_
          refine ezw_bipush (6) rfl rfl ?_
          refine ezw_icmp_ne rfl rfl ha1 ⟨by decide, by decide⟩ (fun h170_5 => ?_) (fun h170_5 => ?_)
          · exact ezw_return rfl rfl ⟨i7, i8, r85, rfl, hT, by omega, by omega, rfl⟩
          · refine ezw_aload_n rfl rfl ?_
            refine ezm_gp (p := 85) rfl (fun _ => rfl) ?_
            refine ezw_iload_n rfl rfl ?_
            refine ezw_aload_n rfl rfl ?_
            refine ezw_bipush (30) rfl rfl ?_
            refine ezw_iconst (4) rfl rfl ?_
            refine ezw_call0_2 rfl (by omega) (ezm_at rfl) rfl rfl rfl rfl (ezm_m234 hT (by omega) ⟨by decide, by decide⟩ ⟨by decide, by decide⟩ (by omega) hs (by omega) (by omega)) ?_
            rintro _ _ ⟨x7_6, x8_6, rfl, hT, u7, hu7, p6_0, p6_1, p6_2, rfl⟩
            have k8 := hT.t7
            have k9 := hT.t8
            refine ezm_s85 hT rfl (by omega) (by omega) ⟨by omega, by omega⟩ (fun r85_10 hT er85_10 fr85_10 => ?_)
            exact ezw_return rfl rfl ⟨x7_6, x8_6, r85_10, rfl, hT, by omega, by omega, rfl⟩
        · refine ezw_aload_n rfl rfl ?_
          refine ezm_gp (p := 85) rfl (fun _ => rfl) ?_
          refine ezw_iload_n rfl rfl ?_
          refine ezw_aload_n rfl rfl ?_
          refine ezw_iconst (0) rfl rfl ?_
          refine ezw_iconst (0) rfl rfl ?_
          refine ezw_bipush (8) rfl rfl ?_
          refine ezw_call0_3 rfl (by omega) (ezm_at rfl) rfl rfl rfl rfl (ezm_m239_v0 hT (by omega) ⟨by decide, by decide⟩ ⟨by decide, by decide⟩ (by omega) hs (by omega) (by omega) (by omega)) ?_
          rintro _ _ ⟨x7_11, x8_11, rfl, hT, u12, hu12, p11_0, p11_1, p11_2, rfl⟩
          have k13 := hT.t7
          have k14 := hT.t8
          refine ezm_s85 hT rfl (by omega) (by omega) ⟨by omega, by omega⟩ (fun r85_15 hT er85_15 fr85_15 => ?_)
          refine ezw_goto rfl rfl ?_
          exact ezw_return rfl rfl ⟨x7_11, x8_11, r85_15, rfl, hT, by omega, by omega, rfl⟩
    · refine ezw_aload_n rfl rfl ?_
      refine ezm_gp (p := 85) rfl (fun _ => rfl) ?_
      refine ezw_iload_n rfl rfl ?_
      refine ezw_aload_n rfl rfl ?_
      refine ezw_iconst (0) rfl rfl ?_
      refine ezw_bipush (20) rfl rfl ?_
      refine ezw_iconst (4) rfl rfl ?_
      refine ezw_call0_3 rfl (by omega) (ezm_at rfl) rfl rfl rfl rfl (ezm_m239_v0 hT (by omega) ⟨by decide, by decide⟩ ⟨by decide, by decide⟩ (by omega) hs (by omega) (by omega) (by omega)) ?_
      rintro _ _ ⟨x7_16, x8_16, rfl, hT, u17, hu17, p16_0, p16_1, p16_2, rfl⟩
      have k18 := hT.t7
      have k19 := hT.t8
      refine ezm_s85 hT rfl (by omega) (by omega) ⟨by omega, by omega⟩ (fun r85_20 hT er85_20 fr85_20 => ?_)
      refine ezw_aload_n rfl rfl ?_
      refine ezm_gp (p := 85) rfl (fun _ => rfl) ?_
      refine ezw_iload_n rfl rfl ?_
      refine ezw_iconst (1) rfl rfl ?_
      refine ezw_iadd (k := a2 + 1) rfl (by omega) ?_
      refine ezw_aload_n rfl rfl ?_
      refine ezm_g8 rfl ?_
      refine ezw_if_ne rfl rfl ⟨by omega, by omega⟩ (fun h80_20 => ?_) (fun h80_20 => ?_)
      · refine ezw_aload_n rfl rfl ?_
        refine ezw_bipush (39) rfl rfl ?_
        refine ezw_iconst (2) rfl rfl ?_
        refine ezw_call0_2 rfl (by omega) (ezm_at rfl) rfl rfl rfl rfl (ezm_m234 hT (by omega) ⟨by decide, by decide⟩ ⟨by decide, by decide⟩ (by omega) hs (by omega) (by omega)) ?_
        rintro _ _ ⟨x7_21, x8_21, rfl, hT, u22, hu22, p21_0, p21_1, p21_2, rfl⟩
        have k23 := hT.t7
        have k24 := hT.t8
        refine ezm_s85 hT rfl (by omega) (by omega) ⟨by omega, by omega⟩ (fun r85_25 hT er85_25 fr85_25 => ?_)
        refine ezw_aload_n rfl rfl ?_
        refine ezw_dup rfl rfl ?_
        refine ezm_g7 rfl ?_
        refine ezw_aload_n rfl rfl ?_
        refine ezm_g8 rfl ?_
        refine ezw_if_ne rfl rfl ⟨by omega, by omega⟩ (fun h113_25 => ?_) (fun h113_25 => ?_)
        · refine ezw_iconst (0) rfl rfl ?_
          refine ezw_iadd (k := x7_21) rfl (by omega) ?_
          refine ezm_p7 hT rfl ⟨by omega, by omega⟩ (fun hT => ?_)
          refine ezw_goto rfl rfl ?_
          exact ezw_return rfl rfl ⟨x7_21, x8_21, r85_25, rfl, hT, by omega, by omega, rfl⟩
        · refine ezw_aload_n rfl rfl ?_
          refine ezm_gp (p := 85) rfl (fun _ => rfl) ?_
          refine ezw_iload_n rfl rfl ?_
          refine ezw_iconst (1) rfl rfl ?_
          refine ezw_iadd (k := a2 + 1) rfl (by omega) ?_
          refine ezm_l85 rfl (by omega) (by omega) (fun u26 eu26 => ?_)
          have ku26 : ezm_k85 (a2 + 1) u26 := eu26 ▸ hT.t85 (a2 + 1)
          have zu26 := ezm_zl1 ku26 (by omega)
          refine ezw_iconst (2) rfl rfl ?_
          refine ezw_icmp_ne rfl rfl (ezm_in85 ku26) ⟨by decide, by decide⟩ (fun h125_26 => ?_) (fun h125_26 => ?_)
          · refine ezw_iconst (0) rfl rfl ?_
            refine ezw_iadd (k := x7_21) rfl (by omega) ?_
            refine ezm_p7 hT rfl ⟨by omega, by omega⟩ (fun hT => ?_)
            refine ezw_goto rfl rfl ?_
            exact ezw_return rfl rfl ⟨x7_21, x8_21, r85_25, rfl, hT, by omega, by omega, rfl⟩
          · refine ezw_iconst (1) rfl rfl ?_
            refine ezw_goto rfl rfl ?_
            refine ezw_iadd (k := x7_21 + 1) rfl (by omega) ?_
            refine ezm_p7 hT rfl ⟨by omega, by omega⟩ (fun hT => ?_)
            refine ezw_goto rfl rfl ?_
            exact ezw_return rfl rfl ⟨(x7_21 + 1), x8_21, r85_25, rfl, hT, by omega, by omega, rfl⟩
      · refine ezw_aload_n rfl rfl ?_
        refine ezw_bipush (11) rfl rfl ?_
        refine ezw_call0_1 rfl (by omega) (ezm_at rfl) rfl rfl rfl rfl (ezm_m223 hT (by omega) ⟨by decide, by decide⟩ (by omega) hs (by omega) (by omega)) ?_
        rintro _ _ ⟨rfl, u28, hu28, f_27, w_27, rfl⟩
        refine ezw_if_eq rfl rfl ⟨by omega, by omega⟩ (fun h89_28 => ?_) (fun h89_28 => ?_)
        · refine ezw_aload_n rfl rfl ?_
          refine ezw_bipush (39) rfl rfl ?_
          refine ezw_iconst (2) rfl rfl ?_
          refine ezw_call0_2 rfl (by omega) (ezm_at rfl) rfl rfl rfl rfl (ezm_m234 hT (by omega) ⟨by decide, by decide⟩ ⟨by decide, by decide⟩ (by omega) hs (by omega) (by omega)) ?_
          rintro _ _ ⟨x7_29, x8_29, rfl, hT, u30, hu30, p29_0, p29_1, p29_2, rfl⟩
          have k31 := hT.t7
          have k32 := hT.t8
          refine ezm_s85 hT rfl (by omega) (by omega) ⟨by omega, by omega⟩ (fun r85_33 hT er85_33 fr85_33 => ?_)
          refine ezw_aload_n rfl rfl ?_
          refine ezw_dup rfl rfl ?_
          refine ezm_g7 rfl ?_
          refine ezw_aload_n rfl rfl ?_
          refine ezm_g8 rfl ?_
          refine ezw_if_ne rfl rfl ⟨by omega, by omega⟩ (fun h113_33 => ?_) (fun h113_33 => ?_)
          · refine ezw_iconst (0) rfl rfl ?_
            refine ezw_iadd (k := x7_29) rfl (by omega) ?_
            refine ezm_p7 hT rfl ⟨by omega, by omega⟩ (fun hT => ?_)
            refine ezw_goto rfl rfl ?_
            exact ezw_return rfl rfl ⟨x7_29, x8_29, r85_33, rfl, hT, by omega, by omega, rfl⟩
          · refine ezw_aload_n rfl rfl ?_
            refine ezm_gp (p := 85) rfl (fun _ => rfl) ?_
            refine ezw_iload_n rfl rfl ?_
            refine ezw_iconst (1) rfl rfl ?_
            refine ezw_iadd (k := a2 + 1) rfl (by omega) ?_
            refine ezm_l85 rfl (by omega) (by omega) (fun u34 eu34 => ?_)
            have ku34 : ezm_k85 (a2 + 1) u34 := eu34 ▸ hT.t85 (a2 + 1)
            have zu34 := ezm_zl1 ku34 (by omega)
            refine ezw_iconst (2) rfl rfl ?_
            refine ezw_icmp_ne rfl rfl (ezm_in85 ku34) ⟨by decide, by decide⟩ (fun h125_34 => ?_) (fun h125_34 => ?_)
            · refine ezw_iconst (0) rfl rfl ?_
              refine ezw_iadd (k := x7_29) rfl (by omega) ?_
              refine ezm_p7 hT rfl ⟨by omega, by omega⟩ (fun hT => ?_)
              refine ezw_goto rfl rfl ?_
              exact ezw_return rfl rfl ⟨x7_29, x8_29, r85_33, rfl, hT, by omega, by omega, rfl⟩
            · refine ezw_iconst (1) rfl rfl ?_
              refine ezw_goto rfl rfl ?_
              refine ezw_iadd (k := x7_29 + 1) rfl (by omega) ?_
              refine ezm_p7 hT rfl ⟨by omega, by omega⟩ (fun hT => ?_)
              refine ezw_goto rfl rfl ?_
              exact ezw_return rfl rfl ⟨(x7_29 + 1), x8_29, r85_33, rfl, hT, by omega, by omega, rfl⟩
        · refine ezw_iconst (2) rfl rfl ?_
          refine ezw_goto rfl rfl ?_
          refine ezm_s85 hT rfl (by omega) (by omega) ⟨by omega, by omega⟩ (fun r85_35 hT er85_35 fr85_35 => ?_)
          refine ezw_aload_n rfl rfl ?_
          refine ezw_dup rfl rfl ?_
          refine ezm_g7 rfl ?_
          refine ezw_aload_n rfl rfl ?_
          refine ezm_g8 rfl ?_
          refine ezw_if_ne rfl rfl ⟨by omega, by omega⟩ (fun h113_35 => ?_) (fun h113_35 => ?_)
          · refine ezw_iconst (0) rfl rfl ?_
            refine ezw_iadd (k := x7_16) rfl (by omega) ?_
            refine ezm_p7 hT rfl ⟨by omega, by omega⟩ (fun hT => ?_)
            refine ezw_goto rfl rfl ?_
            exact ezw_return rfl rfl ⟨x7_16, x8_16, r85_35, rfl, hT, by omega, by omega, rfl⟩
          · refine ezw_aload_n rfl rfl ?_
            refine ezm_gp (p := 85) rfl (fun _ => rfl) ?_
            refine ezw_iload_n rfl rfl ?_
            refine ezw_iconst (1) rfl rfl ?_
            refine ezw_iadd (k := a2 + 1) rfl (by omega) ?_
            refine ezm_l85 rfl (by omega) (by omega) (fun u36 eu36 => ?_)
            have ku36 : ezm_k85 (a2 + 1) u36 := eu36 ▸ hT.t85 (a2 + 1)
            have zu36 := ezm_zl1 ku36 (by omega)
            refine ezw_iconst (2) rfl rfl ?_
            refine ezw_icmp_ne rfl rfl (ezm_in85 ku36) ⟨by decide, by decide⟩ (fun h125_36 => ?_) (fun h125_36 => ?_)
            · refine ezw_iconst (0) rfl rfl ?_
              refine ezw_iadd (k := x7_16) rfl (by omega) ?_
              refine ezm_p7 hT rfl ⟨by omega, by omega⟩ (fun hT => ?_)
              refine ezw_goto rfl rfl ?_
              exact ezw_return rfl rfl ⟨x7_16, x8_16, r85_35, rfl, hT, by omega, by omega, rfl⟩
            · refine ezw_iconst (1) rfl rfl ?_
              refine ezw_goto rfl rfl ?_
              refine ezw_iadd (k := x7_16 + 1) rfl (by omega) ?_
              refine ezm_p7 hT rfl ⟨by omega, by omega⟩ (fun hT => ?_)
              refine ezw_goto rfl rfl ?_
              exact ezw_return rfl rfl ⟨(x7_16 + 1), x8_16, r85_35, rfl, hT, by omega, by omega, rfl⟩
  · refine ezw_aload_n rfl rfl ?_
    refine ezm_gp (p := 85) rfl (fun _ => rfl) ?_
    refine ezw_iload_n rfl rfl ?_
    refine ezw_aload_n rfl rfl ?_
    refine ezw_bipush (30) rfl rfl ?_
    refine ezw_iconst (4) rfl rfl ?_
    refine ezw_call0_2 rfl (by omega) (ezm_at rfl) rfl rfl rfl rfl (ezm_m234 hT (by omega) ⟨by decide, by decide⟩ ⟨by decide, by decide⟩ (by omega) hs (by omega) (by omega)) ?_
    rintro _ _ ⟨x7_37, x8_37, rfl, hT, u38, hu38, p37_0, p37_1, p37_2, rfl⟩
    have k39 := hT.t7
    have k40 := hT.t8
    refine ezm_s85 hT rfl (by omega) (by omega) ⟨by omega, by omega⟩ (fun r85_41 hT er85_41 fr85_41 => ?_)
    refine ezw_aload_n rfl rfl ?_
    refine ezm_gp (p := 85) rfl (fun _ => rfl) ?_
    refine ezw_iload_n rfl rfl ?_
    refine ezw_iconst (1) rfl rfl ?_
    refine ezw_iadd (k := a2 + 1) rfl (by omega) ?_
    refine ezw_aload_n rfl rfl ?_
    refine ezw_bipush (34) rfl rfl ?_
    refine ezw_iconst (2) rfl rfl ?_
    refine ezw_call0_2 rfl (by omega) (ezm_at rfl) rfl rfl rfl rfl (ezm_m234 hT (by omega) ⟨by decide, by decide⟩ ⟨by decide, by decide⟩ (by omega) hs (by omega) (by omega)) ?_
    rintro _ _ ⟨x7_42, x8_42, rfl, hT, u43, hu43, p42_0, p42_1, p42_2, rfl⟩
    have k44 := hT.t7
    have k45 := hT.t8
    refine ezm_s85 hT rfl (by omega) (by omega) ⟨by omega, by omega⟩ (fun r85_46 hT er85_46 fr85_46 => ?_)
    refine ezw_aload_n rfl rfl ?_
    refine ezm_gp (p := 85) rfl (fun _ => rfl) ?_
    refine ezw_iload_n rfl rfl ?_
    refine ezw_iconst (2) rfl rfl ?_
    refine ezw_iadd (k := a2 + 2) rfl (by omega) ?_
    refine ezw_aload_n rfl rfl ?_
    refine ezw_bipush (36) rfl rfl ?_
    refine ezw_iconst (3) rfl rfl ?_
    refine ezw_call0_2 rfl (by omega) (ezm_at rfl) rfl rfl rfl rfl (ezm_m234 hT (by omega) ⟨by decide, by decide⟩ ⟨by decide, by decide⟩ (by omega) hs (by omega) (by omega)) ?_
    rintro _ _ ⟨x7_47, x8_47, rfl, hT, u48, hu48, p47_0, p47_1, p47_2, rfl⟩
    have k49 := hT.t7
    have k50 := hT.t8
    refine ezm_s85 hT rfl (by omega) (by omega) ⟨by omega, by omega⟩ (fun r85_51 hT er85_51 fr85_51 => ?_)
    refine ezw_goto rfl rfl ?_
    exact ezw_return rfl rfl ⟨x7_47, x8_47, r85_51, rfl, hT, by omega, by omega, rfl⟩
def ezm_m254Q (e : Bool × Bool) (F : Nat → Nat → Int) (A : Nat → Int → Int) (i0 i2 i3 i7 i8 i13 i18 i19 i20 i25 i29 i30 i31 i36 i37 i38 : Int) (r73 r74 r75 r76 r77 r78 r79 r80 r81 r82 r83 r84 r85 r86 r87 r88 r89 r90 r91 r92 r93 r94 r95 : Int → Int) : Option ezq_V → (Nat → ezq_C) → Prop := fun v g' => ∃ (x0 x2 x3 x7 x8 : Int) (x74 x75 x76 x85 : Int → Int), ezm_h e F A x0 x2 x3 x7 x8 i13 i18 i19 i20 i25 i29 i30 i31 i36 i37 i38 r73 x74 x75 x76 r77 r78 r79 r80 r81 r82 r83 r84 x85 r86 r87 r88 r89 r90 r91 r92 r93 r94 r95 = g' ∧ ezm_T x0 x2 x3 x7 x8 i13 i18 i19 i20 i25 i29 i30 i31 i36 i37 i38 r73 x74 x75 x76 r77 r78 r79 r80 r81 r82 r83 r84 x85 r86 r87 r88 r89 r90 r91 r92 r93 r94 r95 ∧ ∃ u : Int, (ezw_in u) ∧ (x2 = 0) ∧ some (ezw_i u) = v
theorem ezm_m254 (hT : ezm_T i0 i2 i3 i7 i8 i13 i18 i19 i20 i25 i29 i30 i31 i36 i37 i38 r73 r74 r75 r76 r77 r78 r79 r80 r81 r82 r83 r84 r85 r86 r87 r88 r89 r90 r91 r92 r93 r94 r95) (hd : 6 ≤ d) : ezw_C l ρ B xa Hb D cA 254 d [ezw_p 72] (ezm_h e F A i0 i2 i3 i7 i8 i13 i18 i19 i20 i25 i29 i30 i31 i36 i37 i38 r73 r74 r75 r76 r77 r78 r79 r80 r81 r82 r83 r84 r85 r86 r87 r88 r89 r90 r91 r92 r93 r94 r95) (ezm_m254Q  e F A i0 i2 i3 i7 i8 i13 i18 i19 i20 i25 i29 i30 i31 i36 i37 i38 r73 r74 r75 r76 r77 r78 r79 r80 r81 r82 r83 r84 r85 r86 r87 r88 r89 r90 r91 r92 r93 r94 r95) := by
  refine ezw_met (k := 2) rfl rfl ?_
  refine ezw_aload_n rfl rfl ?_
  refine ezw_iconst (0) rfl rfl ?_
  refine ezm_p0 hT rfl ⟨by decide, by decide⟩ (fun hT => ?_)
  refine ezw_aload_n rfl rfl ?_
  refine ezw_call0_0 rfl (by omega) (ezm_at rfl) rfl rfl rfl rfl (ezm_m218 hT (by omega)) ?_
  rintro _ _ ⟨x2_1, x3_1, x7_1, x8_1, x74_1, x75_1, x76_1, rfl, hT, p1_0, p1_1, p1_2, en_1, rfl⟩
  have k2 := hT.t2
  have k3 := hT.t3
  have k4 := hT.t7
  have k5 := hT.t8
  obtain ⟨n, n0, n1, hs⟩ := en_1
  refine ezw_iconst (0) rfl rfl ?_
  refine ezw_istore_n rfl rfl ?_
  have X11_7 : ∀ c6 : Int, ezw_in c6 → ∀ y8 : Int, ezw_in y8 → ∀ x8_7 : Int, ∀ x85_7 : Int → Int, ezm_T (0) x2_1 x3_1 c6 x8_7 i13 i18 i19 i20 i25 i29 i30 i31 i36 i37 i38 r73 x74_1 x75_1 x76_1 r77 r78 r79 r80 r81 r82 r83 r84 x85_7 r86 r87 r88 r89 r90 r91 r92 r93 r94 r95 → (0 ≤ c6 ∧ c6 ≤ n ∧ 0 ≤ y8 ∧ y8 ≤ 24) → (x8_7 ≠ 0) → ezw_E l ρ B xa Hb D cA d ezq_re254 (ezm_m254Q  e F A i0 i2 i3 i7 i8 i13 i18 i19 i20 i25 i29 i30 i31 i36 i37 i38 r73 r74 r75 r76 r77 r78 r79 r80 r81 r82 r83 r84 r85 r86 r87 r88 r89 r90 r91 r92 r93 r94 r95) 11 [some (ezw_p 72), some (ezw_i y8), none] [] (ezm_h e F A (0) x2_1 x3_1 c6 x8_7 i13 i18 i19 i20 i25 i29 i30 i31 i36 i37 i38 r73 x74_1 x75_1 x76_1 r77 r78 r79 r80 r81 r82 r83 r84 x85_7 r86 r87 r88 r89 r90 r91 r92 r93 r94 r95) := by
    intro c6 hc6 y8 hy8 x8_7 x85_7 hT v1_7 hesc_7
    have k9 := hT.t7
    have k10 := hT.t8
    refine ezw_aload_n rfl rfl ?_
    refine ezm_g8 rfl ?_
    have k11 := hT.t8
    refine ezw_if_ne rfl rfl ⟨by omega, by omega⟩ (fun h15_11 => ?_) (fun h15_11 => absurd h15_11 (by omega))
    refine ezw_aload_n rfl rfl ?_
    refine ezm_g8 rfl ?_
    refine ezw_if_le rfl rfl ⟨by omega, by omega⟩ (fun h114_11 => absurd h114_11 (by omega)) (fun h114_11 => ?_)
    refine ezw_aload_n rfl rfl ?_
    refine ezm_g8 rfl ?_
    exact ezw_ireturn rfl rfl ⟨(0), x2_1, x3_1, c6, x8_7, x74_1, x75_1, x76_1, x85_7, rfl, hT, x8_7, ⟨by omega, by omega⟩, by omega, rfl⟩
  have L11_7 : ∀ c6 : Int, ezw_in c6 → ∀ y8 : Int, ezw_in y8 → ∀ x8_7 : Int, ∀ x85_7 : Int → Int, ezm_T (0) x2_1 x3_1 c6 x8_7 i13 i18 i19 i20 i25 i29 i30 i31 i36 i37 i38 r73 x74_1 x75_1 x76_1 r77 r78 r79 r80 r81 r82 r83 r84 x85_7 r86 r87 r88 r89 r90 r91 r92 r93 r94 r95 → (x7_1 ≤ c6) → (0 ≤ c6 ∧ c6 ≤ n ∧ 0 ≤ y8 ∧ y8 ≤ 24) → (x8_7 = 0) → ezw_E l ρ B xa Hb D cA d ezq_re254 (ezm_m254Q  e F A i0 i2 i3 i7 i8 i13 i18 i19 i20 i25 i29 i30 i31 i36 i37 i38 r73 r74 r75 r76 r77 r78 r79 r80 r81 r82 r83 r84 r85 r86 r87 r88 r89 r90 r91 r92 r93 r94 r95) 11 [some (ezw_p 72), some (ezw_i y8), none] [] (ezm_h e F A (0) x2_1 x3_1 c6 x8_7 i13 i18 i19 i20 i25 i29 i30 i31 i36 i37 i38 r73 x74_1 x75_1 x76_1 r77 r78 r79 r80 r81 r82 r83 r84 x85_7 r86 r87 r88 r89 r90 r91 r92 r93 r94 r95) := by
    refine ezs_up ?_
    intro c6 hc6 ihc6 y8 hy8 x8_7 x85_7 hT g_7 v1_7 z_7
    have k12 := hT.t7
    have k13 := hT.t8
    refine ezw_aload_n rfl rfl ?_
    refine ezm_g8 rfl ?_
    refine ezw_if_ne rfl rfl ⟨by omega, by omega⟩ (fun h15_13 => absurd h15_13 (by omega)) (fun h15_13 => ?_)
    refine ezw_aload_n rfl rfl ?_
    refine ezm_gp (p := 74) rfl (fun _ => rfl) ?_
    refine ezw_aload_n rfl rfl ?_
    refine ezm_g7 rfl ?_
    refine ezm_l74 rfl (by omega) (by omega) (fun u14 eu14 => ?_)
    have ku14 : ezw_in u14 := eu14 ▸ hT.t74 c6
    refine ezw_if_eq rfl rfl ku14 (fun h27_14 => ?_) (fun h27_14 => ?_)
    · refine ezw_aload_n rfl rfl ?_
      refine ezm_g8 rfl ?_
      refine ezw_if_le rfl rfl ⟨by omega, by omega⟩ (fun h114_14 => ?_) (fun h114_14 => absurd h114_14 (by omega))
      refine ezw_aload_n rfl rfl ?_
      refine ezm_gp (p := 85) rfl (fun _ => rfl) ?_
      refine ezw_iconst (0) rfl rfl ?_
      refine ezw_iload_n rfl rfl ?_
      refine ezm_s85 hT rfl (by omega) (by omega) ⟨by omega, by omega⟩ (fun r85_15 hT er85_15 fr85_15 => ?_)
      refine ezw_iconst (0) rfl rfl ?_
      refine ezw_istore_n rfl rfl ?_
      have L131_17 : ∀ c16 : Int, ezw_in c16 → ∀ x85_17 : Int → Int, ezm_T (0) x2_1 x3_1 c6 x8_7 i13 i18 i19 i20 i25 i29 i30 i31 i36 i37 i38 r73 x74_1 x75_1 x76_1 r77 r78 r79 r80 r81 r82 r83 r84 x85_17 r86 r87 r88 r89 r90 r91 r92 r93 r94 r95 → ((0) ≤ c16) → ezw_E l ρ B xa Hb D cA d ezq_re254 (ezm_m254Q  e F A i0 i2 i3 i7 i8 i13 i18 i19 i20 i25 i29 i30 i31 i36 i37 i38 r73 r74 r75 r76 r77 r78 r79 r80 r81 r82 r83 r84 r85 r86 r87 r88 r89 r90 r91 r92 r93 r94 r95) 131 [some (ezw_p 72), some (ezw_i y8), some (ezw_i c16)] [] (ezm_h e F A (0) x2_1 x3_1 c6 x8_7 i13 i18 i19 i20 i25 i29 i30 i31 i36 i37 i38 r73 x74_1 x75_1 x76_1 r77 r78 r79 r80 r81 r82 r83 r84 x85_17 r86 r87 r88 r89 r90 r91 r92 r93 r94 r95) := by
        refine ezs_up ?_
        intro c16 hc16 ihc16 x85_17 hT g_17
        refine ezw_iload_n rfl rfl ?_
        refine ezw_iconst (4) rfl rfl ?_
        refine ezw_iload_n rfl rfl ?_
        refine ezw_imul (k := 4 * y8) rfl (by omega) ?_
        refine ezw_icmp_ge rfl rfl hc16 ⟨by omega, by omega⟩ (fun h135_17 => ?_) (fun h135_17 => ?_)
        · refine ezw_iconst (0) rfl rfl ?_
          exact ezw_ireturn rfl rfl ⟨(0), x2_1, x3_1, c6, x8_7, x74_1, x75_1, x76_1, x85_17, rfl, hT, (0), ⟨by decide, by decide⟩, by omega, rfl⟩
        · refine ezw_aload_n rfl rfl ?_
          refine ezm_gp (p := 85) rfl (fun _ => rfl) ?_
          refine ezw_iconst (1) rfl rfl ?_
          refine ezw_iload_n rfl rfl ?_
          refine ezw_iadd (k := c16 + 1) rfl (by omega) ?_
          refine ezw_aload_n rfl rfl ?_
          refine ezm_gp (p := 85) rfl (fun _ => rfl) ?_
          refine ezw_bipush (110) rfl rfl ?_
          refine ezw_iload_n rfl rfl ?_
          refine ezw_iadd (k := c16 + 110) rfl (by omega) ?_
          refine ezm_l85 rfl (by omega) (by omega) (fun u18 eu18 => ?_)
          have ku18 : ezm_k85 (c16 + 110) u18 := eu18 ▸ hT.t85 (c16 + 110)
          have zu18 := ezm_zl1 ku18 (by omega)
          refine ezm_s85 hT rfl (by omega) (by omega) ⟨by omega, by omega⟩ (fun r85_19 hT er85_19 fr85_19 => ?_)
          refine ezw_iinc (k := c16 + 1) (1) rfl rfl rfl (by omega) rfl ?_
          refine ezw_goto rfl rfl ?_
          exact ezw_keepE [true, true, true] (ihc16 (c16 + 1) (by omega) ⟨by omega, by omega⟩ r85_19 hT (by omega))
      exact ezw_keepE [true, true, true] (L131_17 (0) ⟨by decide, by decide⟩ r85_15 hT (by omega))
    · refine ezw_aload_n rfl rfl ?_
      refine ezw_bipush (23) rfl rfl ?_
      refine ezw_bipush (7) rfl rfl ?_
      refine ezw_call0_2 rfl (by omega) (ezm_at rfl) rfl rfl rfl rfl (ezm_m228 hT (by omega) ⟨by decide, by decide⟩ ⟨by decide, by decide⟩ (by omega) hs (by omega) (by omega)) ?_
      rintro _ _ ⟨rfl, u21, hu21, p20_0, p20_1, p20_2, rfl⟩
      refine ezw_istore_n rfl rfl ?_
      refine ezw_iload_n rfl rfl ?_
      refine ezw_if_ge rfl rfl hu21 (fun h40_21 => ?_) (fun h40_21 => ?_)
      · refine ezw_iload_n rfl rfl ?_
        refine ezw_bipush (24) rfl rfl ?_
        refine ezw_icmp_ne rfl rfl hy8 ⟨by decide, by decide⟩ (fun h54_21 => ?_) (fun h54_21 => ?_)
        · refine ezw_aload_n rfl rfl ?_
          refine ezw_dup rfl rfl ?_
          refine ezm_g7 rfl ?_
          refine ezw_iconst (1) rfl rfl ?_
          refine ezw_iadd (k := c6 + 1) rfl (by omega) ?_
          refine ezm_p7 hT rfl ⟨by omega, by omega⟩ (fun hT => ?_)
          refine ezw_aload_n rfl rfl ?_
          refine ezm_gp (p := 85) rfl (fun _ => rfl) ?_
          refine ezw_bipush (110) rfl rfl ?_
          refine ezw_iconst (4) rfl rfl ?_
          refine ezw_iload_n rfl rfl ?_
          refine ezw_imul (k := 4 * y8) rfl (by omega) ?_
          refine ezw_iadd (k := 4 * y8 + 110) rfl (by omega) ?_
          refine ezw_iload_n rfl rfl ?_
          refine ezm_s85 hT rfl (by omega) (by omega) ⟨by omega, by omega⟩ (fun r85_22 hT er85_22 fr85_22 => ?_)
          refine ezw_aload_n rfl rfl ?_
          refine ezw_iload_n rfl rfl ?_
          refine ezw_bipush (111) rfl rfl ?_
          refine ezw_iconst (4) rfl rfl ?_
          refine ezw_iload_n rfl rfl ?_
          refine ezw_imul (k := 4 * y8) rfl (by omega) ?_
          refine ezw_iadd (k := 4 * y8 + 111) rfl (by omega) ?_
          refine ezw_call0_2 rfl (by omega) (ezm_at rfl) rfl rfl rfl rfl (ezm_m255 hT (by omega) hu21 ⟨by omega, by omega⟩ (by omega) hs (by omega) (by omega) (by omega)) ?_
          rintro _ _ ⟨x7_23, x8_23, x85_23, rfl, hT, p23_0, p23_1, rfl⟩
          have k24 := hT.t7
          have k25 := hT.t8
          refine ezw_iinc (k := y8 + 1) (1) rfl rfl rfl (by omega) rfl ?_
          refine ezw_aload_n rfl rfl ?_
          refine ezw_bipush (59) rfl rfl ?_
          refine ezw_call0_1 rfl (by omega) (ezm_at rfl) rfl rfl rfl rfl (ezm_m253 hT (by omega) ⟨by decide, by decide⟩ (by omega) hs (by omega)) ?_
          rintro _ _ ⟨x7_26, x8_26, rfl, hT, p26_0, p26_1, p26_2, rfl⟩
          have k27 := hT.t7
          have k28 := hT.t8
          refine ezw_goto rfl rfl ?_
          by_cases hq126 : x8_26 ≠ 0
          · exact ezw_keepE [true, true, false] (X11_7 x7_26 ⟨by omega, by omega⟩ (y8 + 1) ⟨by omega, by omega⟩ x8_26 x85_23 hT (by omega) hq126)
          · exact ezw_keepE [true, true, false] (ihc6 x7_26 (by omega) ⟨by omega, by omega⟩ (y8 + 1) ⟨by omega, by omega⟩ x8_26 x85_23 hT (by omega) (by omega) (by omega))
        · refine ezw_aload_n rfl rfl ?_
          refine ezw_iconst (5) rfl rfl ?_
          refine ezw_call0_1 rfl (by omega) (ezm_at rfl) rfl rfl rfl rfl (ezm_m225 hT (by omega) ⟨by decide, by decide⟩ (by omega) (by omega)) ?_
          rintro _ _ ⟨x8_29, rfl, hT, p29_0, p29_1, rfl⟩
          have k30 := hT.t8
          refine ezw_goto rfl rfl ?_
          refine ezw_aload_n rfl rfl ?_
          refine ezw_bipush (59) rfl rfl ?_
          refine ezw_call0_1 rfl (by omega) (ezm_at rfl) rfl rfl rfl rfl (ezm_m253 hT (by omega) ⟨by decide, by decide⟩ (by omega) hs (by omega)) ?_
          rintro _ _ ⟨x7_31, x8_31, rfl, hT, p31_0, p31_1, p31_2, rfl⟩
          have k32 := hT.t7
          have k33 := hT.t8
          refine ezw_goto rfl rfl ?_
          by_cases hq142 : x8_31 ≠ 0
          · exact ezw_keepE [true, true, false] (X11_7 x7_31 ⟨by omega, by omega⟩ y8 hy8 x8_31 x85_7 hT (by omega) hq142)
          · exact ezw_keepE [true, true, false] (ihc6 x7_31 (by omega) ⟨by omega, by omega⟩ y8 hy8 x8_31 x85_7 hT (by omega) (by omega) (by omega))
      · refine ezw_aload_n rfl rfl ?_
        refine ezw_iconst (1) rfl rfl ?_
        refine ezw_call0_1 rfl (by omega) (ezm_at rfl) rfl rfl rfl rfl (ezm_m225 hT (by omega) ⟨by decide, by decide⟩ (by omega) (by omega)) ?_
        rintro _ _ ⟨x8_34, rfl, hT, p34_0, p34_1, rfl⟩
        have k35 := hT.t8
        refine ezw_goto rfl rfl ?_
        refine ezw_aload_n rfl rfl ?_
        refine ezw_bipush (59) rfl rfl ?_
        refine ezw_call0_1 rfl (by omega) (ezm_at rfl) rfl rfl rfl rfl (ezm_m253 hT (by omega) ⟨by decide, by decide⟩ (by omega) hs (by omega)) ?_
        rintro _ _ ⟨x7_36, x8_36, rfl, hT, p36_0, p36_1, p36_2, rfl⟩
        have k37 := hT.t7
        have k38 := hT.t8
        refine ezw_goto rfl rfl ?_
        by_cases hq158 : x8_36 ≠ 0
        · exact ezw_keepE [true, true, false] (X11_7 x7_36 ⟨by omega, by omega⟩ y8 hy8 x8_36 x85_7 hT (by omega) hq158)
        · exact ezw_keepE [true, true, false] (ihc6 x7_36 (by omega) ⟨by omega, by omega⟩ y8 hy8 x8_36 x85_7 hT (by omega) (by omega) (by omega))
  exact ezw_keepE [true, true, false] (L11_7 x7_1 ⟨by omega, by omega⟩ (0) ⟨by decide, by decide⟩ x8_1 r85 hT (by omega) (by omega) (by omega))
end KM6
