/-! ===== the model: words cut, by what they are ===== -/
section KM6
variable {l : Launch} {ρ : ezq_E} {B : Nat} {xa : Nat → Option Nat} {Hb : Heap} {D : va_G} {cA : Nat → ClassId} {d : Nat} {e : Bool × Bool} {F : Nat → Nat → Int} {A : Nat → Int → Int} {i0 i2 i3 i7 i8 i13 i18 i19 i20 i25 i29 i30 i31 i36 i37 i38 : Int} {r73 r74 r75 r76 r77 r78 r79 r80 r81 r82 r83 r84 r85 r86 r87 r88 r89 r90 r91 r92 r93 r94 r95 : Int → Int}
def ezm_m220pQ (e : Bool × Bool) (F : Nat → Nat → Int) (A : Nat → Int → Int) (i0 i2 i3 i7 i8 i13 i18 i19 i20 i25 i29 i30 i31 i36 i37 i38 : Int) (r73 r74 r75 r76 r77 r78 r79 r80 r81 r82 r83 r84 r85 r86 r87 r88 r89 r90 r91 r92 r93 r94 r95 : Int → Int) (a0 : Int) : Option ezq_V → (Nat → ezq_C) → Prop := fun v g' => ezm_h e F A i0 i2 i3 i7 i8 i13 i18 i19 i20 i25 i29 i30 i31 i36 i37 i38 r73 r74 r75 r76 r77 r78 r79 r80 r81 r82 r83 r84 r85 r86 r87 r88 r89 r90 r91 r92 r93 r94 r95 = g' ∧ ∃ u : Int, (ezw_in u) ∧ (97 ≤ a0 ∧ a0 ≤ 122 → u = a0 - 96) ∧ some (ezw_i u) = v
theorem ezm_m220p {a0 : Int} (hT : ezm_T i0 i2 i3 i7 i8 i13 i18 i19 i20 i25 i29 i30 i31 i36 i37 i38 r73 r74 r75 r76 r77 r78 r79 r80 r81 r82 r83 r84 r85 r86 r87 r88 r89 r90 r91 r92 r93 r94 r95) (hd : 1 ≤ d) (ha0 : ezw_in a0) : ezw_C l ρ B xa Hb D cA 220 d [ezw_i a0] (ezm_h e F A i0 i2 i3 i7 i8 i13 i18 i19 i20 i25 i29 i30 i31 i36 i37 i38 r73 r74 r75 r76 r77 r78 r79 r80 r81 r82 r83 r84 r85 r86 r87 r88 r89 r90 r91 r92 r93 r94 r95) (ezm_m220pQ  e F A i0 i2 i3 i7 i8 i13 i18 i19 i20 i25 i29 i30 i31 i36 i37 i38 r73 r74 r75 r76 r77 r78 r79 r80 r81 r82 r83 r84 r85 r86 r87 r88 r89 r90 r91 r92 r93 r94 r95 a0) := by
  refine ezw_met (k := 0) rfl rfl ?_
  refine ezw_iload_n rfl rfl ?_
  refine ezw_call2_1 rfl (by omega) rfl rfl (ezm_m219 hT (by omega) ha0) ?_
  rintro _ _ ⟨rfl, u2, hu2, p1_0, p1_1, rfl⟩
  refine ezw_if_eq rfl rfl ⟨by omega, by omega⟩ (fun h4_2 => ?_) (fun h4_2 => ?_)
  · refine ezw_iload_n rfl rfl ?_
    refine ezw_bipush (21) rfl rfl ?_
    refine ezs_isub rfl (fun u3 hu3 => ?_)
    exact ezw_ireturn rfl rfl ⟨rfl, u3, hu3, by omega, rfl⟩
  · refine ezw_iload_n rfl rfl ?_
    refine ezw_bipush (96) rfl rfl ?_
    refine ezw_isub (k := a0 - 96) rfl (by omega) ?_
    refine ezw_goto rfl rfl ?_
    exact ezw_ireturn rfl rfl ⟨rfl, a0 - 96, ⟨by omega, by omega⟩, by omega, rfl⟩
def ezm_m222pQ (e : Bool × Bool) (F : Nat → Nat → Int) (A : Nat → Int → Int) (i0 i2 i3 i7 i8 i13 i18 i19 i20 i25 i29 i30 i31 i36 i37 i38 : Int) (r73 r74 r75 r76 r77 r78 r79 r80 r81 r82 r83 r84 r85 r86 r87 r88 r89 r90 r91 r92 r93 r94 r95 : Int → Int) (a0 : Int) : Option ezq_V → (Nat → ezq_C) → Prop := fun v g' => ezm_h e F A i0 i2 i3 i7 i8 i13 i18 i19 i20 i25 i29 i30 i31 i36 i37 i38 r73 r74 r75 r76 r77 r78 r79 r80 r81 r82 r83 r84 r85 r86 r87 r88 r89 r90 r91 r92 r93 r94 r95 = g' ∧ ∃ u : Int, (0 ≤ u ∧ u ≤ 1) ∧ (u = 1 → ezp_sg a0 = true) ∧ (u = 0 → ezp_sg a0 = false) ∧ some (ezw_i u) = v
theorem ezm_m222p {a0 : Int} (hT : ezm_T i0 i2 i3 i7 i8 i13 i18 i19 i20 i25 i29 i30 i31 i36 i37 i38 r73 r74 r75 r76 r77 r78 r79 r80 r81 r82 r83 r84 r85 r86 r87 r88 r89 r90 r91 r92 r93 r94 r95) (hd : 0 ≤ d) (ha0 : ezw_in a0) : ezw_C l ρ B xa Hb D cA 222 d [ezw_i a0] (ezm_h e F A i0 i2 i3 i7 i8 i13 i18 i19 i20 i25 i29 i30 i31 i36 i37 i38 r73 r74 r75 r76 r77 r78 r79 r80 r81 r82 r83 r84 r85 r86 r87 r88 r89 r90 r91 r92 r93 r94 r95) (ezm_m222pQ  e F A i0 i2 i3 i7 i8 i13 i18 i19 i20 i25 i29 i30 i31 i36 i37 i38 r73 r74 r75 r76 r77 r78 r79 r80 r81 r82 r83 r84 r85 r86 r87 r88 r89 r90 r91 r92 r93 r94 r95 a0) := by
  refine ezw_met (k := 0) rfl rfl ?_
  refine ezw_iload_n rfl rfl ?_
  refine ezw_bipush (40) rfl rfl ?_
  refine ezw_icmp_eq rfl rfl ha0 ⟨by decide, by decide⟩ (fun h3_0 => ?_) (fun h3_0 => ?_)
  · refine ezw_iconst (1) rfl rfl ?_
    refine ezw_goto rfl rfl ?_
    exact ezw_ireturn rfl (ezw_zret ⟨by omega, by omega⟩) ⟨rfl, (1), ⟨by omega, by omega⟩, fun z => decide_eq_true (by omega), fun z => decide_eq_false (by omega), rfl⟩
  · refine ezw_iload_n rfl rfl ?_
    refine ezw_bipush (41) rfl rfl ?_
    refine ezw_icmp_eq rfl rfl ha0 ⟨by decide, by decide⟩ (fun h9_0 => ?_) (fun h9_0 => ?_)
    · refine ezw_iconst (1) rfl rfl ?_
      refine ezw_goto rfl rfl ?_
      exact ezw_ireturn rfl (ezw_zret ⟨by omega, by omega⟩) ⟨rfl, (1), ⟨by omega, by omega⟩, fun z => decide_eq_true (by omega), fun z => decide_eq_false (by omega), rfl⟩
    · refine ezw_iload_n rfl rfl ?_
      refine ezw_bipush (59) rfl rfl ?_
      refine ezw_icmp_eq rfl rfl ha0 ⟨by decide, by decide⟩ (fun h15_0 => ?_) (fun h15_0 => ?_)
      · refine ezw_iconst (1) rfl rfl ?_
        refine ezw_goto rfl rfl ?_
        exact ezw_ireturn rfl (ezw_zret ⟨by omega, by omega⟩) ⟨rfl, (1), ⟨by omega, by omega⟩, fun z => decide_eq_true (by omega), fun z => decide_eq_false (by omega), rfl⟩
      · refine ezw_iload_n rfl rfl ?_
        refine ezw_bipush (61) rfl rfl ?_
        refine ezw_icmp_eq rfl rfl ha0 ⟨by decide, by decide⟩ (fun h21_0 => ?_) (fun h21_0 => ?_)
        · refine ezw_iconst (1) rfl rfl ?_
          refine ezw_goto rfl rfl ?_
          exact ezw_ireturn rfl (ezw_zret ⟨by omega, by omega⟩) ⟨rfl, (1), ⟨by omega, by omega⟩, fun z => decide_eq_true (by omega), fun z => decide_eq_false (by omega), rfl⟩
        · refine ezw_iload_n rfl rfl ?_
          refine ezw_bipush (60) rfl rfl ?_
          refine ezw_icmp_eq rfl rfl ha0 ⟨by decide, by decide⟩ (fun h27_0 => ?_) (fun h27_0 => ?_)
          · refine ezw_iconst (1) rfl rfl ?_
            refine ezw_goto rfl rfl ?_
            exact ezw_ireturn rfl (ezw_zret ⟨by omega, by omega⟩) ⟨rfl, (1), ⟨by omega, by omega⟩, fun z => decide_eq_true (by omega), fun z => decide_eq_false (by omega), rfl⟩
          · refine ezw_iload_n rfl rfl ?_
            refine ezw_bipush (43) rfl rfl ?_
            refine ezw_icmp_eq rfl rfl ha0 ⟨by decide, by decide⟩ (fun h33_0 => ?_) (fun h33_0 => ?_)
            · refine ezw_iconst (1) rfl rfl ?_
              refine ezw_goto rfl rfl ?_
              exact ezw_ireturn rfl (ezw_zret ⟨by omega, by omega⟩) ⟨rfl, (1), ⟨by omega, by omega⟩, fun z => decide_eq_true (by omega), fun z => decide_eq_false (by omega), rfl⟩
            · refine ezw_iload_n rfl rfl ?_
              refine ezw_bipush (45) rfl rfl ?_
              refine ezw_icmp_eq rfl rfl ha0 ⟨by decide, by decide⟩ (fun h39_0 => ?_) (fun h39_0 => ?_)
              · refine ezw_iconst (1) rfl rfl ?_
                refine ezw_goto rfl rfl ?_
                exact ezw_ireturn rfl (ezw_zret ⟨by omega, by omega⟩) ⟨rfl, (1), ⟨by omega, by omega⟩, fun z => decide_eq_true (by omega), fun z => decide_eq_false (by omega), rfl⟩
              · refine ezw_iload_n rfl rfl ?_
                refine ezw_bipush (42) rfl rfl ?_
                refine ezw_icmp_ne rfl rfl ha0 ⟨by decide, by decide⟩ (fun h45_0 => ?_) (fun h45_0 => ?_)
                · refine ezw_iconst (0) rfl rfl ?_
                  exact ezw_ireturn rfl (ezw_zret ⟨by omega, by omega⟩) ⟨rfl, (0), ⟨by omega, by omega⟩, fun z => decide_eq_true (by omega), fun z => decide_eq_false (by omega), rfl⟩
                · refine ezw_iconst (1) rfl rfl ?_
                  refine ezw_goto rfl rfl ?_
                  exact ezw_ireturn rfl (ezw_zret ⟨by omega, by omega⟩) ⟨rfl, (1), ⟨by omega, by omega⟩, fun z => decide_eq_true (by omega), fun z => decide_eq_false (by omega), rfl⟩
def ezm_m218pQ (e : Bool × Bool) (F : Nat → Nat → Int) (A : Nat → Int → Int) (i0 i2 i3 i7 i8 i13 i18 i19 i20 i25 i29 i30 i31 i36 i37 i38 : Int) (r73 r74 r75 r76 r77 r78 r79 r80 r81 r82 r83 r84 r85 r86 r87 r88 r89 r90 r91 r92 r93 r94 r95 : Int → Int) (c : Int → Int) : Option ezq_V → (Nat → ezq_C) → Prop := fun v g' => ∃ (x2 x3 x7 x8 : Int) (x74 x75 x76 : Int → Int), ezm_h e F A i0 x2 x3 x7 x8 i13 i18 i19 i20 i25 i29 i30 i31 i36 i37 i38 r73 x74 x75 x76 r77 r78 r79 r80 r81 r82 r83 r84 r85 r86 r87 r88 r89 r90 r91 r92 r93 r94 r95 = g' ∧ ezm_T i0 x2 x3 x7 x8 i13 i18 i19 i20 i25 i29 i30 i31 i36 i37 i38 r73 x74 x75 x76 r77 r78 r79 r80 r81 r82 r83 r84 r85 r86 r87 r88 r89 r90 r91 r92 r93 r94 r95 ∧ (x2 = 0) ∧ (x7 = 0) ∧ (x8 = 0) ∧ (∃ n, 0 ≤ n ∧ n ≤ 1000 ∧ x74 n = 0 ∧ ezm_TK c n x74 x75 x76) ∧ none = v
set_option maxHeartbeats 8000000 in
theorem ezm_m218p {c : Int → Int} (hT : ezm_T i0 i2 i3 i7 i8 i13 i18 i19 i20 i25 i29 i30 i31 i36 i37 i38 r73 r74 r75 r76 r77 r78 r79 r80 r81 r82 r83 r84 r85 r86 r87 r88 r89 r90 r91 r92 r93 r94 r95) (hd : 2 ≤ d) (hc : c = ezp_ch r73 i2) (tp : ezp_tp c i2) : ezw_C l ρ B xa Hb D cA 218 d [ezw_p 72] (ezm_h e F A i0 i2 i3 i7 i8 i13 i18 i19 i20 i25 i29 i30 i31 i36 i37 i38 r73 r74 r75 r76 r77 r78 r79 r80 r81 r82 r83 r84 r85 r86 r87 r88 r89 r90 r91 r92 r93 r94 r95) (ezm_m218pQ  e F A i0 i2 i3 i7 i8 i13 i18 i19 i20 i25 i29 i30 i31 i36 i37 i38 r73 r74 r75 r76 r77 r78 r79 r80 r81 r82 r83 r84 r85 r86 r87 r88 r89 r90 r91 r92 r93 r94 r95 c) := by
  refine ezw_met (k := 6) rfl rfl ?_
  have b2 := hT.t2
  refine ezw_aload_n rfl rfl ?_
  refine ezw_aload_n rfl rfl ?_
  refine ezm_g2 rfl ?_
  have k1 := hT.t2
  refine ezm_p3 hT rfl ⟨by omega, by omega⟩ (fun hT => ?_)
  refine ezw_aload_n rfl rfl ?_
  refine ezw_iconst (0) rfl rfl ?_
  refine ezm_p2 hT rfl ⟨by omega, by omega⟩ (fun hT => ?_)
  refine ezw_iconst (0) rfl rfl ?_
  refine ezw_istore_n rfl rfl ?_
  refine ezw_iconst (0) rfl rfl ?_
  refine ezw_istore_n rfl rfl ?_
  have L17_3 : ∀ c2 : Int, ezw_in c2 → ∀ y4 : Int, ezw_in y4 → ∀ x74_3 : Int → Int, ∀ x75_3 : Int → Int, ∀ x76_3 : Int → Int, ezm_T i0 (0) i2 i7 i8 i13 i18 i19 i20 i25 i29 i30 i31 i36 i37 i38 r73 x74_3 x75_3 x76_3 r77 r78 r79 r80 r81 r82 r83 r84 r85 r86 r87 r88 r89 r90 r91 r92 r93 r94 r95 → ((0) ≤ c2) → (0 ≤ y4 ∧ y4 ≤ c2 ∧ c2 ≤ i2) → (ezp_run ezp_bl c 2000 c2 = ezp_P c y4) → (∀ j, 0 ≤ j → j < y4 → ezm_TD c j x74_3 x75_3 x76_3) → ezw_E l ρ B xa Hb D cA d ezq_re218 (ezm_m218pQ  e F A i0 i2 i3 i7 i8 i13 i18 i19 i20 i25 i29 i30 i31 i36 i37 i38 r73 r74 r75 r76 r77 r78 r79 r80 r81 r82 r83 r84 r85 r86 r87 r88 r89 r90 r91 r92 r93 r94 r95 c) 17 [some (ezw_p 72), some (ezw_i y4), some (ezw_i c2), none, none, none, none] [] (ezm_h e F A i0 (0) i2 i7 i8 i13 i18 i19 i20 i25 i29 i30 i31 i36 i37 i38 r73 x74_3 x75_3 x76_3 r77 r78 r79 r80 r81 r82 r83 r84 r85 r86 r87 r88 r89 r90 r91 r92 r93 r94 r95) := by
    refine ezs_up ?_
    intro c2 hc2 ihc2 y4 hy4 x74_3 x75_3 x76_3 hT g_3 v1_3 nx_3 td_3
    refine ezw_iload_n rfl rfl ?_
    refine ezw_aload_n rfl rfl ?_
    refine ezm_g3 rfl ?_
    have k5 := hT.t3
    refine ezw_icmp_ge rfl rfl hc2 ⟨by omega, by omega⟩ (fun h22_5 => ?_) (fun h22_5 => ?_)
    · refine ezw_aload_n rfl rfl ?_
      refine ezm_gp (p := 74) rfl (fun _ => rfl) ?_
      refine ezw_iload_n rfl rfl ?_
      refine ezw_iconst (0) rfl rfl ?_
      refine ezm_s74 hT rfl (by omega) (by omega) ⟨by decide, by decide⟩ (fun r74_6 hT er74_6 fr74_6 => ?_)
      refine ezw_aload_n rfl rfl ?_
      refine ezm_gp (p := 75) rfl (fun _ => rfl) ?_
      refine ezw_iload_n rfl rfl ?_
      refine ezw_aload_n rfl rfl ?_
      refine ezm_g3 rfl ?_
      refine ezm_s75 hT rfl (by omega) (by omega) ⟨by omega, by omega⟩ (fun r75_7 hT er75_7 fr75_7 => ?_)
      refine ezw_aload_n rfl rfl ?_
      refine ezw_iconst (0) rfl rfl ?_
      refine ezm_p7 hT rfl ⟨by omega, by omega⟩ (fun hT => ?_)
      refine ezw_aload_n rfl rfl ?_
      refine ezw_iconst (0) rfl rfl ?_
      refine ezm_p8 hT rfl ⟨by omega, by omega⟩ (fun hT => ?_)
      exact ezw_return rfl rfl ⟨(0), i2, (0), (0), r74_6, r75_7, x76_3, rfl, hT, by omega, by omega, by omega, ⟨y4, by omega, by omega, by rw [er74_6], (fun k => (ezp_Pr tp k).1), fun j j0 j1 => by
            by_cases hj : j = y4
            · rw [hj]
              have hz : c c2 = 0 := ezp_at_n tp (by omega)
              have h7 := nx_3
              rw [ezp_run_b0 (by rw [hz]; rfl)] at h7
              exact ezm_TD_0 (k := c2) (by rw [er74_6]) (by rw [er75_7]; omega) h7.symm hz
            · exact ezm_TD_fr (td_3 j j0 (by omega)) (by rw [fr74_6 j (by omega)]) (by rw [fr75_7 j (by omega)]) rfl⟩, rfl⟩
    · refine ezw_aload_n rfl rfl ?_
      refine ezm_gp (p := 73) rfl (fun _ => rfl) ?_
      refine ezw_iload_n rfl rfl ?_
      refine ezm_l73 rfl (by omega) (by omega) (fun u8 eu8 => ?_)
      have ku8 : ezw_in u8 := eu8 ▸ hT.t73 c2
      refine ezw_istore_n rfl rfl ?_
      have hck : c c2 = u8 := by rw [ezm_chr hc (by omega) (by omega), eu8]
      have htp := tp.2.2.2 c2 (by omega) (by omega)
      refine ezw_iload_n rfl rfl ?_
      refine ezw_bipush (10) rfl rfl ?_
      refine ezw_icmp_eq rfl rfl ku8 ⟨by decide, by decide⟩ (fun h35_8 => ?_) (fun h35_8 => ?_)
      · have hbl : ezp_bl (c c2) = true := ezp_blT (by omega)
        refine ezw_iinc (k := c2 + 1) (1) rfl rfl rfl (by omega) rfl ?_
        refine ezw_goto rfl rfl ?_
        exact ezw_keepE [true, true, true, false, false, false, false] (ihc2 (c2 + 1) (by omega) ⟨by omega, by omega⟩ y4 hy4 x74_3 x75_3 x76_3 hT (by omega) (by omega) (by rw [← ezp_run_bs tp (by omega) (by omega) hbl]; exact nx_3) td_3)
      · refine ezw_iload_n rfl rfl ?_
        refine ezw_bipush (32) rfl rfl ?_
        refine ezw_icmp_ne rfl rfl ku8 ⟨by decide, by decide⟩ (fun h41_8 => ?_) (fun h41_8 => ?_)
        · have hbl : ezp_bl (c c2) = false := ezp_blF (by omega)
          have hPk : ezp_P c y4 = c2 := by
            have h7 := nx_3
            rw [ezp_run_b0 hbl] at h7
            exact h7.symm
          refine ezw_iload_n rfl rfl ?_
          refine ezw_istore rfl rfl ?_
          refine ezw_lconst (0) rfl rfl ?_
          refine ezw_lstore rfl rfl ?_
          refine ezw_aload_n rfl rfl ?_
          refine ezm_gp (p := 75) rfl (fun _ => rfl) ?_
          refine ezw_iload_n rfl rfl ?_
          refine ezw_iload_n rfl rfl ?_
          refine ezm_s75 hT rfl (by omega) (by omega) ⟨by omega, by omega⟩ (fun r75_9 hT er75_9 fr75_9 => ?_)
          refine ezw_iload_n rfl rfl ?_
          refine ezw_call2_1 rfl (by omega) rfl rfl (ezm_m219 hT (by omega) ku8) ?_
          rintro _ _ ⟨rfl, u11, hu11, p10_0, p10_1, rfl⟩
          refine ezw_if_eq rfl rfl ⟨by omega, by omega⟩ (fun h67_11 => ?_) (fun h67_11 => ?_)
          · have hlf : ezp_le (c c2) = false := ezp_leF (by omega)
            refine ezw_iload_n rfl rfl ?_
            refine ezw_call2_1 rfl (by omega) rfl rfl (ezm_m221 hT (by omega) ku8) ?_
            rintro _ _ ⟨rfl, u13, hu13, p12_0, p12_1, rfl⟩
            refine ezw_if_eq rfl rfl ⟨by omega, by omega⟩ (fun h156_13 => ?_) (fun h156_13 => ?_)
            · have hdf : ezp_di (c c2) = false := ezp_diF (by omega)
              have hnz : c c2 ≠ 0 := by omega
              have hnx := ezp_nx1 hlf hdf hnz
              refine ezw_iload_n rfl rfl ?_
              refine ezw_i2l rfl ku8 rfl ?_
              refine ezw_lstore rfl rfl ?_
              refine ezw_aload_n rfl rfl ?_
              refine ezm_gp (p := 74) rfl (fun _ => rfl) ?_
              refine ezw_iload_n rfl rfl ?_
              refine ezw_iload_n rfl rfl ?_
              refine ezw_call2_1 rfl (by omega) rfl rfl (ezm_m222p hT (by omega) ku8) ?_
              rintro _ _ ⟨rfl, u15, hu15, q1_14, q0_14, rfl⟩
              refine ezw_if_eq rfl rfl ⟨by omega, by omega⟩ (fun h253_15 => ?_) (fun h253_15 => ?_)
              · refine ezw_iconst (4) rfl rfl ?_
                refine ezm_s74 hT rfl (by omega) (by omega) ⟨by decide, by decide⟩ (fun r74_16 hT er74_16 fr74_16 => ?_)
                refine ezw_iinc (k := c2 + 1) (1) rfl rfl rfl (by omega) rfl ?_
                refine ezw_aload_n rfl rfl ?_
                refine ezm_gp (p := 76) rfl (fun _ => rfl) ?_
                refine ezw_iload_n rfl rfl ?_
                refine ezw_lload rfl rfl ?_
                refine ezm_s76 hT rfl (by omega) (by omega) (ezw_in_il ku8) (fun r76_17 hT er76_17 fr76_17 => ?_)
                refine ezw_iinc (k := y4 + 1) (1) rfl rfl rfl (by omega) rfl ?_
                refine ezw_goto rfl rfl ?_
                exact ezw_keepE [true, true, true, false, false, false, false] (ihc2 (c2 + 1) (by omega) ⟨by omega, by omega⟩ (y4 + 1) ⟨by omega, by omega⟩ r74_16 r75_9 r76_17 hT (by omega) (by omega) (by rw [ezp_P_s (by omega), hPk, hnx]) (fun j j0 j1 => by
                      by_cases hj : j = y4
                      · rw [hj]
                        exact ezm_TD_s hPk (by rw [er75_9]) hlf hdf hnz (by rw [er76_17]; exact hck.symm) (by first | exact Or.inl ⟨by rw [hck]; exact q1_14 (by omega), by rw [er74_16]⟩ | exact Or.inr ⟨by rw [hck]; exact q0_14 (by omega), by rw [er74_16]⟩)
                      · exact ezm_TD_fr (td_3 j j0 (by omega)) (by rw [fr74_16 j (by omega)]) (by rw [fr75_9 j (by omega)]) (by rw [fr76_17 j (by omega)])))
              · refine ezw_iconst (3) rfl rfl ?_
                refine ezw_goto rfl rfl ?_
                refine ezm_s74 hT rfl (by omega) (by omega) ⟨by decide, by decide⟩ (fun r74_18 hT er74_18 fr74_18 => ?_)
                refine ezw_iinc (k := c2 + 1) (1) rfl rfl rfl (by omega) rfl ?_
                refine ezw_aload_n rfl rfl ?_
                refine ezm_gp (p := 76) rfl (fun _ => rfl) ?_
                refine ezw_iload_n rfl rfl ?_
                refine ezw_lload rfl rfl ?_
                refine ezm_s76 hT rfl (by omega) (by omega) (ezw_in_il ku8) (fun r76_19 hT er76_19 fr76_19 => ?_)
                refine ezw_iinc (k := y4 + 1) (1) rfl rfl rfl (by omega) rfl ?_
                refine ezw_goto rfl rfl ?_
                exact ezw_keepE [true, true, true, false, false, false, false] (ihc2 (c2 + 1) (by omega) ⟨by omega, by omega⟩ (y4 + 1) ⟨by omega, by omega⟩ r74_18 r75_9 r76_19 hT (by omega) (by omega) (by rw [ezp_P_s (by omega), hPk, hnx]) (fun j j0 j1 => by
                      by_cases hj : j = y4
                      · rw [hj]
                        exact ezm_TD_s hPk (by rw [er75_9]) hlf hdf hnz (by rw [er76_19]; exact hck.symm) (by first | exact Or.inl ⟨by rw [hck]; exact q1_14 (by omega), by rw [er74_18]⟩ | exact Or.inr ⟨by rw [hck]; exact q0_14 (by omega), by rw [er74_18]⟩)
                      · exact ezm_TD_fr (td_3 j j0 (by omega)) (by rw [fr74_18 j (by omega)]) (by rw [fr75_9 j (by omega)]) (by rw [fr76_19 j (by omega)])))
            · have L159_21 : ∀ c20 : Int, ezw_in c20 → ∀ y22 : Int, ezw_il y22 → (c2 ≤ c20) → (c20 ≤ i2) → (∀ j, c2 ≤ j → j < c20 → ezp_di (c j) = true) → (c20 - c2 ≤ 4 → y22 = ezp_nu c c2 (c20 - c2).toNat) → ezw_E l ρ B xa Hb D cA d ezq_re218 (ezm_m218pQ  e F A i0 i2 i3 i7 i8 i13 i18 i19 i20 i25 i29 i30 i31 i36 i37 i38 r73 r74 r75 r76 r77 r78 r79 r80 r81 r82 r83 r84 r85 r86 r87 r88 r89 r90 r91 r92 r93 r94 r95 c) 159 [some (ezw_p 72), some (ezw_i y4), some (ezw_i c20), some (ezw_i u8), some (ezw_i c2), some (ezw_l y22), none] [] (ezm_h e F A i0 (0) i2 i7 i8 i13 i18 i19 i20 i25 i29 i30 i31 i36 i37 i38 r73 x74_3 r75_9 x76_3 r77 r78 r79 r80 r81 r82 r83 r84 r85 r86 r87 r88 r89 r90 r91 r92 r93 r94 r95) := by
                refine ezs_up ?_
                intro c20 hc20 ihc20 y22 hy22 g_21 v1_21 di_21 nd_21
                refine ezw_iload_n rfl rfl ?_
                refine ezw_aload_n rfl rfl ?_
                refine ezm_g3 rfl ?_
                refine ezw_icmp_ge rfl rfl hc20 ⟨by omega, by omega⟩ (fun h164_22 => ?_) (fun h164_22 => ?_)
                · have hdi : ezp_di (c c2) = true := ezp_diT (by omega)
                  have hend : ezp_di (c c20) = false := by
                    rw [ezp_at_n tp (by omega)]
                    rfl
                  have hnx : ezp_nx c c2 = c20 := ezp_nxD hlf hdi (by omega) (by omega) di_21 hend
                  have hp := (ezp_nx_r tp (q := c2) (by omega) (by omega)).2.2.1 (by omega)
                  refine ezw_aload_n rfl rfl ?_
                  refine ezm_gp (p := 74) rfl (fun _ => rfl) ?_
                  refine ezw_iload_n rfl rfl ?_
                  refine ezw_iload_n rfl rfl ?_
                  refine ezw_iload rfl rfl ?_
                  refine ezw_isub (k := c20 - c2) rfl (by omega) ?_
                  refine ezw_iconst (4) rfl rfl ?_
                  refine ezw_icmp_le rfl rfl ⟨by omega, by omega⟩ ⟨by decide, by decide⟩ (fun h228_22 => ?_) (fun h228_22 => ?_)
                  · refine ezw_iconst (2) rfl rfl ?_
                    refine ezm_s74 hT rfl (by omega) (by omega) ⟨by decide, by decide⟩ (fun r74_23 hT er74_23 fr74_23 => ?_)
                    refine ezw_goto rfl rfl ?_
                    refine ezw_aload_n rfl rfl ?_
                    refine ezm_gp (p := 76) rfl (fun _ => rfl) ?_
                    refine ezw_iload_n rfl rfl ?_
                    refine ezw_lload rfl rfl ?_
                    refine ezm_s76 hT rfl (by omega) (by omega) hy22 (fun r76_24 hT er76_24 fr76_24 => ?_)
                    refine ezw_iinc (k := y4 + 1) (1) rfl rfl rfl (by omega) rfl ?_
                    refine ezw_goto rfl rfl ?_
                    exact ezw_keepE [true, true, true, false, false, false, false] (ihc2 c20 (by omega) hc20 (y4 + 1) ⟨by omega, by omega⟩ r74_23 r75_9 r76_24 hT (by omega) (by omega) (by rw [ezp_P_s (by omega), hPk, hnx]) (fun j j0 j1 => by
                          by_cases hj : j = y4
                          · rw [hj]
                            exact ezm_TD_n hPk (by rw [er75_9]) hlf hdi hnx (by omega) (fun h8 => absurd h8 (by omega)) (fun h8 => ⟨by rw [er74_23], by rw [er76_24]; exact nd_21 (by omega)⟩)
                          · exact ezm_TD_fr (td_3 j j0 (by omega)) (by rw [fr74_23 j (by omega)]) (by rw [fr75_9 j (by omega)]) (by rw [fr76_24 j (by omega)])))
                  · refine ezw_iconst (4) rfl rfl ?_
                    refine ezw_goto rfl rfl ?_
                    refine ezm_s74 hT rfl (by omega) (by omega) ⟨by decide, by decide⟩ (fun r74_25 hT er74_25 fr74_25 => ?_)
                    refine ezw_goto rfl rfl ?_
                    refine ezw_aload_n rfl rfl ?_
                    refine ezm_gp (p := 76) rfl (fun _ => rfl) ?_
                    refine ezw_iload_n rfl rfl ?_
                    refine ezw_lload rfl rfl ?_
                    refine ezm_s76 hT rfl (by omega) (by omega) hy22 (fun r76_26 hT er76_26 fr76_26 => ?_)
                    refine ezw_iinc (k := y4 + 1) (1) rfl rfl rfl (by omega) rfl ?_
                    refine ezw_goto rfl rfl ?_
                    exact ezw_keepE [true, true, true, false, false, false, false] (ihc2 c20 (by omega) hc20 (y4 + 1) ⟨by omega, by omega⟩ r74_25 r75_9 r76_26 hT (by omega) (by omega) (by rw [ezp_P_s (by omega), hPk, hnx]) (fun j j0 j1 => by
                          by_cases hj : j = y4
                          · rw [hj]
                            exact ezm_TD_n hPk (by rw [er75_9]) hlf hdi hnx (by omega) (fun h8 => by rw [er74_25]) (fun h8 => absurd h8 (by omega))
                          · exact ezm_TD_fr (td_3 j j0 (by omega)) (by rw [fr74_25 j (by omega)]) (by rw [fr75_9 j (by omega)]) (by rw [fr76_26 j (by omega)])))
                · refine ezw_aload_n rfl rfl ?_
                  refine ezm_gp (p := 73) rfl (fun _ => rfl) ?_
                  refine ezw_iload_n rfl rfl ?_
                  refine ezm_l73 rfl (by omega) (by omega) (fun u27 eu27 => ?_)
                  have ku27 : ezw_in u27 := eu27 ▸ hT.t73 c20
                  have hcn : c c20 = u27 := by rw [ezm_chr hc (by omega) (by omega), eu27]
                  refine ezw_call2_1 rfl (by omega) rfl rfl (ezm_m221 hT (by omega) ku27) ?_
                  rintro _ _ ⟨rfl, u29, hu29, p28_0, p28_1, rfl⟩
                  refine ezw_if_eq rfl rfl ⟨by omega, by omega⟩ (fun h176_29 => ?_) (fun h176_29 => ?_)
                  · have hdi : ezp_di (c c2) = true := ezp_diT (by omega)
                    have hend : ezp_di (c c20) = false := by
                      rw [hcn]
                      exact ezp_diF (by omega)
                    have hnx : ezp_nx c c2 = c20 := ezp_nxD hlf hdi (by omega) (by omega) di_21 hend
                    have hp := (ezp_nx_r tp (q := c2) (by omega) (by omega)).2.2.1 (by omega)
                    refine ezw_aload_n rfl rfl ?_
                    refine ezm_gp (p := 74) rfl (fun _ => rfl) ?_
                    refine ezw_iload_n rfl rfl ?_
                    refine ezw_iload_n rfl rfl ?_
                    refine ezw_iload rfl rfl ?_
                    refine ezw_isub (k := c20 - c2) rfl (by omega) ?_
                    refine ezw_iconst (4) rfl rfl ?_
                    refine ezw_icmp_le rfl rfl ⟨by omega, by omega⟩ ⟨by decide, by decide⟩ (fun h228_29 => ?_) (fun h228_29 => ?_)
                    · refine ezw_iconst (2) rfl rfl ?_
                      refine ezm_s74 hT rfl (by omega) (by omega) ⟨by decide, by decide⟩ (fun r74_30 hT er74_30 fr74_30 => ?_)
                      refine ezw_goto rfl rfl ?_
                      refine ezw_aload_n rfl rfl ?_
                      refine ezm_gp (p := 76) rfl (fun _ => rfl) ?_
                      refine ezw_iload_n rfl rfl ?_
                      refine ezw_lload rfl rfl ?_
                      refine ezm_s76 hT rfl (by omega) (by omega) hy22 (fun r76_31 hT er76_31 fr76_31 => ?_)
                      refine ezw_iinc (k := y4 + 1) (1) rfl rfl rfl (by omega) rfl ?_
                      refine ezw_goto rfl rfl ?_
                      exact ezw_keepE [true, true, true, false, false, false, false] (ihc2 c20 (by omega) hc20 (y4 + 1) ⟨by omega, by omega⟩ r74_30 r75_9 r76_31 hT (by omega) (by omega) (by rw [ezp_P_s (by omega), hPk, hnx]) (fun j j0 j1 => by
                            by_cases hj : j = y4
                            · rw [hj]
                              exact ezm_TD_n hPk (by rw [er75_9]) hlf hdi hnx (by omega) (fun h8 => absurd h8 (by omega)) (fun h8 => ⟨by rw [er74_30], by rw [er76_31]; exact nd_21 (by omega)⟩)
                            · exact ezm_TD_fr (td_3 j j0 (by omega)) (by rw [fr74_30 j (by omega)]) (by rw [fr75_9 j (by omega)]) (by rw [fr76_31 j (by omega)])))
                    · refine ezw_iconst (4) rfl rfl ?_
                      refine ezw_goto rfl rfl ?_
                      refine ezm_s74 hT rfl (by omega) (by omega) ⟨by decide, by decide⟩ (fun r74_32 hT er74_32 fr74_32 => ?_)
                      refine ezw_goto rfl rfl ?_
                      refine ezw_aload_n rfl rfl ?_
                      refine ezm_gp (p := 76) rfl (fun _ => rfl) ?_
                      refine ezw_iload_n rfl rfl ?_
                      refine ezw_lload rfl rfl ?_
                      refine ezm_s76 hT rfl (by omega) (by omega) hy22 (fun r76_33 hT er76_33 fr76_33 => ?_)
                      refine ezw_iinc (k := y4 + 1) (1) rfl rfl rfl (by omega) rfl ?_
                      refine ezw_goto rfl rfl ?_
                      exact ezw_keepE [true, true, true, false, false, false, false] (ihc2 c20 (by omega) hc20 (y4 + 1) ⟨by omega, by omega⟩ r74_32 r75_9 r76_33 hT (by omega) (by omega) (by rw [ezp_P_s (by omega), hPk, hnx]) (fun j j0 j1 => by
                            by_cases hj : j = y4
                            · rw [hj]
                              exact ezm_TD_n hPk (by rw [er75_9]) hlf hdi hnx (by omega) (fun h8 => by rw [er74_32]) (fun h8 => absurd h8 (by omega))
                            · exact ezm_TD_fr (td_3 j j0 (by omega)) (by rw [fr74_32 j (by omega)]) (by rw [fr75_9 j (by omega)]) (by rw [fr76_33 j (by omega)])))
                  · refine ezw_iload_n rfl rfl ?_
                    refine ezw_iload rfl rfl ?_
                    refine ezw_isub (k := c20 - c2) rfl (by omega) ?_
                    refine ezw_iconst (4) rfl rfl ?_
                    refine ezw_icmp_ge rfl rfl ⟨by omega, by omega⟩ ⟨by decide, by decide⟩ (fun h184_33 => ?_) (fun h184_33 => ?_)
                    · refine ezw_lload rfl rfl ?_
                      refine ezw_lstore rfl rfl ?_
                      refine ezw_iinc (k := c20 + 1) (1) rfl rfl rfl (by omega) rfl ?_
                      refine ezw_goto rfl rfl ?_
                      exact ezw_keepE [true, true, true, true, true, true, false] (ihc20 (c20 + 1) (by omega) ⟨by omega, by omega⟩ y22 hy22 (by omega) (by omega) (fun j j0 j1 => by
                            by_cases hj : j = c20
                            · rw [hj, hcn]
                              exact ezp_diT (by omega)
                            · exact di_21 j j0 (by omega)) (fun h8 => absurd h8 (by omega)))
                    · have hnr := ezp_nu_r (c := c) (q := c2) (c20 - c2).toNat (fun j j0 j1 => di_21 j j0 (by omega))
                      have hnd := nd_21 (by omega)
                      refine ezw_ldc2_w (10) rfl rfl ?_
                      refine ezw_lload rfl rfl ?_
                      refine ezw_lmul (k := 10 * y22) rfl (by omega) ?_
                      refine ezw_aload_n rfl rfl ?_
                      refine ezm_gp (p := 73) rfl (fun _ => rfl) ?_
                      refine ezw_iload_n rfl rfl ?_
                      refine ezm_l73 rfl (by omega) (by omega) (fun u34 eu34 => ?_)
                      have fu34 : u27 = u34 := eu27.trans eu34.symm
                      subst fu34
                      refine ezw_i2l rfl ku27 rfl ?_
                      refine ezw_ladd (k := 10 * y22 + u27) rfl (by omega) ?_
                      refine ezw_ldc2_w (48) rfl rfl ?_
                      refine ezw_lsub (k := 10 * y22 + u27 - 48) rfl (by omega) ?_
                      refine ezw_goto rfl rfl ?_
                      refine ezw_lstore rfl rfl ?_
                      refine ezw_iinc (k := c20 + 1) (1) rfl rfl rfl (by omega) rfl ?_
                      refine ezw_goto rfl rfl ?_
                      exact ezw_keepE [true, true, true, true, true, true, false] (ihc20 (c20 + 1) (by omega) ⟨by omega, by omega⟩ (10 * y22 + u27 - 48) ⟨by omega, by omega⟩ (by omega) (by omega) (fun j j0 j1 => by
                            by_cases hj : j = c20
                            · rw [hj, hcn]
                              exact ezp_diT (by omega)
                            · exact di_21 j j0 (by omega)) (fun h8 => by
                            rw [show (c20 + 1 - c2).toNat = ((c20 - c2) + 1).toNat by omega, ezp_nu_s (by omega), ← nd_21 (by omega), show c2 + (c20 - c2) = c20 by omega, hcn]
                            omega))
              exact ezw_keepE [true, true, true, true, true, true, false] (L159_21 c2 hc2 (0) ⟨by decide, by decide⟩ (by omega) (by omega) (fun j j0 j1 => by omega) (fun _ => by rw [show (c2 - c2).toNat = 0 by omega]; rfl))
          · have L70_36 : ∀ c35 : Int, ezw_in c35 → ∀ y37 : Int, ezw_il y37 → (c2 ≤ c35) → (c35 ≤ i2) → (∀ j, c2 ≤ j → j < c35 → ezp_le (c j) = true) → (c35 - c2 ≤ 8 → y37 = ezp_v 37 (ezp_lt c c2 (c35 - c2).toNat)) → (0 ≤ y37 ∧ (c35 - c2 ≤ 8 → y37 < ezp_p37 (c35 - c2))) → ezw_E l ρ B xa Hb D cA d ezq_re218 (ezm_m218pQ  e F A i0 i2 i3 i7 i8 i13 i18 i19 i20 i25 i29 i30 i31 i36 i37 i38 r73 r74 r75 r76 r77 r78 r79 r80 r81 r82 r83 r84 r85 r86 r87 r88 r89 r90 r91 r92 r93 r94 r95 c) 70 [some (ezw_p 72), some (ezw_i y4), some (ezw_i c35), some (ezw_i u8), some (ezw_i c2), some (ezw_l y37), none] [] (ezm_h e F A i0 (0) i2 i7 i8 i13 i18 i19 i20 i25 i29 i30 i31 i36 i37 i38 r73 x74_3 r75_9 x76_3 r77 r78 r79 r80 r81 r82 r83 r84 r85 r86 r87 r88 r89 r90 r91 r92 r93 r94 r95) := by
              refine ezs_up ?_
              intro c35 hc35 ihc35 y37 hy37 g_36 v1_36 le_36 wd_36 wb_36
              refine ezw_iload_n rfl rfl ?_
              refine ezw_aload_n rfl rfl ?_
              refine ezm_g3 rfl ?_
              refine ezw_icmp_ge rfl rfl hc35 ⟨by omega, by omega⟩ (fun h75_37 => ?_) (fun h75_37 => ?_)
              · have hle : ezp_le (c c2) = true := ezp_leT (by omega)
                have hend : ezp_le (c c35) = false := by
                  rw [ezp_at_n tp (by omega)]
                  rfl
                have hnx : ezp_nx c c2 = c35 := ezp_nxL hle (by omega) (by omega) le_36 hend
                have hp := (ezp_nx_r tp (q := c2) (by omega) (by omega)).2.2.1 (by omega)
                refine ezw_aload_n rfl rfl ?_
                refine ezm_gp (p := 74) rfl (fun _ => rfl) ?_
                refine ezw_iload_n rfl rfl ?_
                refine ezw_iload_n rfl rfl ?_
                refine ezw_iload rfl rfl ?_
                refine ezw_isub (k := c35 - c2) rfl (by omega) ?_
                refine ezw_bipush (8) rfl rfl ?_
                refine ezw_icmp_le rfl rfl ⟨by omega, by omega⟩ ⟨by decide, by decide⟩ (fun h140_37 => ?_) (fun h140_37 => ?_)
                · refine ezw_iconst (1) rfl rfl ?_
                  refine ezm_s74 hT rfl (by omega) (by omega) ⟨by decide, by decide⟩ (fun r74_38 hT er74_38 fr74_38 => ?_)
                  refine ezw_goto rfl rfl ?_
                  refine ezw_aload_n rfl rfl ?_
                  refine ezm_gp (p := 76) rfl (fun _ => rfl) ?_
                  refine ezw_iload_n rfl rfl ?_
                  refine ezw_lload rfl rfl ?_
                  refine ezm_s76 hT rfl (by omega) (by omega) hy37 (fun r76_39 hT er76_39 fr76_39 => ?_)
                  refine ezw_iinc (k := y4 + 1) (1) rfl rfl rfl (by omega) rfl ?_
                  refine ezw_goto rfl rfl ?_
                  exact ezw_keepE [true, true, true, false, false, false, false] (ihc2 c35 (by omega) hc35 (y4 + 1) ⟨by omega, by omega⟩ r74_38 r75_9 r76_39 hT (by omega) (by omega) (by rw [ezp_P_s (by omega), hPk, hnx]) (fun j j0 j1 => by
                        by_cases hj : j = y4
                        · rw [hj]
                          exact ezm_TD_w hPk (by rw [er75_9]) hle hnx (fun i i0 i1 => le_36 i i0 i1) (by omega) (fun h8 => absurd h8 (by omega)) (fun h8 => ⟨by rw [er74_38], by rw [er76_39]; exact wd_36 (by omega)⟩)
                        · exact ezm_TD_fr (td_3 j j0 (by omega)) (by rw [fr74_38 j (by omega)]) (by rw [fr75_9 j (by omega)]) (by rw [fr76_39 j (by omega)])))
                · refine ezw_iconst (4) rfl rfl ?_
                  refine ezw_goto rfl rfl ?_
                  refine ezm_s74 hT rfl (by omega) (by omega) ⟨by decide, by decide⟩ (fun r74_40 hT er74_40 fr74_40 => ?_)
                  refine ezw_goto rfl rfl ?_
                  refine ezw_aload_n rfl rfl ?_
                  refine ezm_gp (p := 76) rfl (fun _ => rfl) ?_
                  refine ezw_iload_n rfl rfl ?_
                  refine ezw_lload rfl rfl ?_
                  refine ezm_s76 hT rfl (by omega) (by omega) hy37 (fun r76_41 hT er76_41 fr76_41 => ?_)
                  refine ezw_iinc (k := y4 + 1) (1) rfl rfl rfl (by omega) rfl ?_
                  refine ezw_goto rfl rfl ?_
                  exact ezw_keepE [true, true, true, false, false, false, false] (ihc2 c35 (by omega) hc35 (y4 + 1) ⟨by omega, by omega⟩ r74_40 r75_9 r76_41 hT (by omega) (by omega) (by rw [ezp_P_s (by omega), hPk, hnx]) (fun j j0 j1 => by
                        by_cases hj : j = y4
                        · rw [hj]
                          exact ezm_TD_w hPk (by rw [er75_9]) hle hnx (fun i i0 i1 => le_36 i i0 i1) (by omega) (fun h8 => by rw [er74_40]) (fun h8 => absurd h8 (by omega))
                        · exact ezm_TD_fr (td_3 j j0 (by omega)) (by rw [fr74_40 j (by omega)]) (by rw [fr75_9 j (by omega)]) (by rw [fr76_41 j (by omega)])))
              · refine ezw_aload_n rfl rfl ?_
                refine ezm_gp (p := 73) rfl (fun _ => rfl) ?_
                refine ezw_iload_n rfl rfl ?_
                refine ezm_l73 rfl (by omega) (by omega) (fun u42 eu42 => ?_)
                have ku42 : ezw_in u42 := eu42 ▸ hT.t73 c35
                have hcn : c c35 = u42 := by rw [ezm_chr hc (by omega) (by omega), eu42]
                refine ezw_call2_1 rfl (by omega) rfl rfl (ezm_m219 hT (by omega) ku42) ?_
                rintro _ _ ⟨rfl, u44, hu44, p43_0, p43_1, rfl⟩
                refine ezw_if_eq rfl rfl ⟨by omega, by omega⟩ (fun h87_44 => ?_) (fun h87_44 => ?_)
                · have hle : ezp_le (c c2) = true := ezp_leT (by omega)
                  have hend : ezp_le (c c35) = false := by
                    rw [hcn]
                    exact ezp_leF (by omega)
                  have hnx : ezp_nx c c2 = c35 := ezp_nxL hle (by omega) (by omega) le_36 hend
                  have hp := (ezp_nx_r tp (q := c2) (by omega) (by omega)).2.2.1 (by omega)
                  refine ezw_aload_n rfl rfl ?_
                  refine ezm_gp (p := 74) rfl (fun _ => rfl) ?_
                  refine ezw_iload_n rfl rfl ?_
                  refine ezw_iload_n rfl rfl ?_
                  refine ezw_iload rfl rfl ?_
                  refine ezw_isub (k := c35 - c2) rfl (by omega) ?_
                  refine ezw_bipush (8) rfl rfl ?_
                  refine ezw_icmp_le rfl rfl ⟨by omega, by omega⟩ ⟨by decide, by decide⟩ (fun h140_44 => ?_) (fun h140_44 => ?_)
                  · refine ezw_iconst (1) rfl rfl ?_
                    refine ezm_s74 hT rfl (by omega) (by omega) ⟨by decide, by decide⟩ (fun r74_45 hT er74_45 fr74_45 => ?_)
                    refine ezw_goto rfl rfl ?_
                    refine ezw_aload_n rfl rfl ?_
                    refine ezm_gp (p := 76) rfl (fun _ => rfl) ?_
                    refine ezw_iload_n rfl rfl ?_
                    refine ezw_lload rfl rfl ?_
                    refine ezm_s76 hT rfl (by omega) (by omega) hy37 (fun r76_46 hT er76_46 fr76_46 => ?_)
                    refine ezw_iinc (k := y4 + 1) (1) rfl rfl rfl (by omega) rfl ?_
                    refine ezw_goto rfl rfl ?_
                    exact ezw_keepE [true, true, true, false, false, false, false] (ihc2 c35 (by omega) hc35 (y4 + 1) ⟨by omega, by omega⟩ r74_45 r75_9 r76_46 hT (by omega) (by omega) (by rw [ezp_P_s (by omega), hPk, hnx]) (fun j j0 j1 => by
                          by_cases hj : j = y4
                          · rw [hj]
                            exact ezm_TD_w hPk (by rw [er75_9]) hle hnx (fun i i0 i1 => le_36 i i0 i1) (by omega) (fun h8 => absurd h8 (by omega)) (fun h8 => ⟨by rw [er74_45], by rw [er76_46]; exact wd_36 (by omega)⟩)
                          · exact ezm_TD_fr (td_3 j j0 (by omega)) (by rw [fr74_45 j (by omega)]) (by rw [fr75_9 j (by omega)]) (by rw [fr76_46 j (by omega)])))
                  · refine ezw_iconst (4) rfl rfl ?_
                    refine ezw_goto rfl rfl ?_
                    refine ezm_s74 hT rfl (by omega) (by omega) ⟨by decide, by decide⟩ (fun r74_47 hT er74_47 fr74_47 => ?_)
                    refine ezw_goto rfl rfl ?_
                    refine ezw_aload_n rfl rfl ?_
                    refine ezm_gp (p := 76) rfl (fun _ => rfl) ?_
                    refine ezw_iload_n rfl rfl ?_
                    refine ezw_lload rfl rfl ?_
                    refine ezm_s76 hT rfl (by omega) (by omega) hy37 (fun r76_48 hT er76_48 fr76_48 => ?_)
                    refine ezw_iinc (k := y4 + 1) (1) rfl rfl rfl (by omega) rfl ?_
                    refine ezw_goto rfl rfl ?_
                    exact ezw_keepE [true, true, true, false, false, false, false] (ihc2 c35 (by omega) hc35 (y4 + 1) ⟨by omega, by omega⟩ r74_47 r75_9 r76_48 hT (by omega) (by omega) (by rw [ezp_P_s (by omega), hPk, hnx]) (fun j j0 j1 => by
                          by_cases hj : j = y4
                          · rw [hj]
                            exact ezm_TD_w hPk (by rw [er75_9]) hle hnx (fun i i0 i1 => le_36 i i0 i1) (by omega) (fun h8 => by rw [er74_47]) (fun h8 => absurd h8 (by omega))
                          · exact ezm_TD_fr (td_3 j j0 (by omega)) (by rw [fr74_47 j (by omega)]) (by rw [fr75_9 j (by omega)]) (by rw [fr76_48 j (by omega)])))
                · refine ezw_iload_n rfl rfl ?_
                  refine ezw_iload rfl rfl ?_
                  refine ezw_isub (k := c35 - c2) rfl (by omega) ?_
                  refine ezw_bipush (8) rfl rfl ?_
                  refine ezw_icmp_ge rfl rfl ⟨by omega, by omega⟩ ⟨by decide, by decide⟩ (fun h96_48 => ?_) (fun h96_48 => ?_)
                  · refine ezw_lload rfl rfl ?_
                    refine ezw_lstore rfl rfl ?_
                    refine ezw_iinc (k := c35 + 1) (1) rfl rfl rfl (by omega) rfl ?_
                    refine ezw_goto rfl rfl ?_
                    exact ezw_keepE [true, true, true, true, true, true, false] (ihc35 (c35 + 1) (by omega) ⟨by omega, by omega⟩ y37 hy37 (by omega) (by omega) (fun j j0 j1 => by
                          by_cases hj : j = c35
                          · rw [hj, hcn]
                            exact ezp_leT (by omega)
                          · exact le_36 j j0 (by omega)) (fun h8 => absurd h8 (by omega)) (⟨by omega, fun h8 => absurd h8 (by omega)⟩))
                  · have hp37 := ezp_p37_le (k := c35 - c2) (by omega)
                    have hwb := wb_36.2 (by omega)
                    refine ezw_ldc2_w (37) rfl rfl ?_
                    refine ezw_lload rfl rfl ?_
                    refine ezw_lmul (k := 37 * y37) rfl (by omega) ?_
                    refine ezw_aload_n rfl rfl ?_
                    refine ezm_gp (p := 73) rfl (fun _ => rfl) ?_
                    refine ezw_iload_n rfl rfl ?_
                    refine ezm_l73 rfl (by omega) (by omega) (fun u49 eu49 => ?_)
                    have fu49 : u42 = u49 := eu42.trans eu49.symm
                    subst fu49
                    refine ezw_call2_1 rfl (by omega) rfl rfl (ezm_m220p hT (by omega) ku42) ?_
                    rintro _ _ ⟨rfl, u51, hu51, p50_0, rfl⟩
                    refine ezw_i2l rfl hu51 rfl ?_
                    refine ezw_ladd (k := 37 * y37 + u51) rfl (by omega) ?_
                    refine ezw_goto rfl rfl ?_
                    refine ezw_lstore rfl rfl ?_
                    refine ezw_iinc (k := c35 + 1) (1) rfl rfl rfl (by omega) rfl ?_
                    refine ezw_goto rfl rfl ?_
                    exact ezw_keepE [true, true, true, true, true, true, false] (ihc35 (c35 + 1) (by omega) ⟨by omega, by omega⟩ (37 * y37 + u51) ⟨by omega, by omega⟩ (by omega) (by omega) (fun j j0 j1 => by
                          by_cases hj : j = c35
                          · rw [hj, hcn]
                            exact ezp_leT (by omega)
                          · exact le_36 j j0 (by omega)) (fun h8 => by
                          rw [show (c35 + 1 - c2).toNat = ((c35 - c2) + 1).toNat by omega, ezp_lt_s37 (by omega), ← wd_36 (by omega), show c2 + (c35 - c2) = c35 by omega, hcn]
                          omega) (⟨by omega, fun h8 => by
                          rw [show c35 + 1 - c2 = (c35 - c2) + 1 by omega, ezp_p37_s (by omega)]
                          omega⟩))
            exact ezw_keepE [true, true, true, true, true, true, false] (L70_36 c2 hc2 (0) ⟨by decide, by decide⟩ (by omega) (by omega) (fun j j0 j1 => by omega) (fun _ => by rw [show (c2 - c2).toNat = 0 by omega]; rfl) (⟨by omega, fun _ => by rw [show c2 - c2 = 0 by omega, ezp_p37_0]; omega⟩))
        · have hbl : ezp_bl (c c2) = true := ezp_blT (by omega)
          refine ezw_iinc (k := c2 + 1) (1) rfl rfl rfl (by omega) rfl ?_
          refine ezw_goto rfl rfl ?_
          exact ezw_keepE [true, true, true, false, false, false, false] (ihc2 (c2 + 1) (by omega) ⟨by omega, by omega⟩ y4 hy4 x74_3 x75_3 x76_3 hT (by omega) (by omega) (by rw [← ezp_run_bs tp (by omega) (by omega) hbl]; exact nx_3) td_3)
  exact ezw_keepE [true, true, true, false, false, false, false] (L17_3 (0) ⟨by decide, by decide⟩ (0) ⟨by decide, by decide⟩ r74 r75 r76 hT (by omega) (by omega) rfl (fun j j0 j1 => absurd j1 (by omega)))
end KM6
