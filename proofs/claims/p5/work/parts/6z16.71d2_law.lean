/-! ===== the model: laws, a level more ===== -/
section KM6
variable {l : Launch} {ρ : ezq_E} {B : Nat} {xa : Nat → Option Nat} {Hb : Heap} {D : va_G} {cA : Nat → ClassId} {d : Nat} {e : Bool × Bool} {F : Nat → Nat → Int} {A : Nat → Int → Int} {i0 i2 i3 i7 i8 i13 i18 i19 i20 i25 i29 i30 i31 i36 i37 i38 : Int} {r73 r74 r75 r76 r77 r78 r79 r80 r81 r82 r83 r84 r85 r86 r87 r88 r89 r90 r91 r92 r93 r94 r95 : Int → Int}
def ezm_m249_vSpQ (e : Bool × Bool) (F : Nat → Nat → Int) (A : Nat → Int → Int) (i0 i2 i3 i7 i8 i13 i18 i19 i20 i25 i29 i30 i31 i36 i37 i38 : Int) (r73 r74 r75 r76 r77 r78 r79 r80 r81 r82 r83 r84 r85 r86 r87 r88 r89 r90 r91 r92 r93 r94 r95 : Int → Int) (n : Int) (c : Int → Int) (x : ezp_X) (kk : Int) (tpn : Int) (ml : Nat) (mm : Nat) (dd : Int) : Option ezq_V → (Nat → ezq_C) → Prop := fun v g' => ∃ (x7 x8 x13 : Int) (x79 x80 : Int → Int), ezm_h e F A i0 i2 i3 x7 x8 x13 i18 i19 i20 i25 i29 i30 i31 i36 i37 i38 r73 r74 r75 r76 r77 r78 x79 x80 r81 r82 r83 r84 r85 r86 r87 r88 r89 r90 r91 r92 r93 r94 r95 = g' ∧ ezm_T i0 i2 i3 x7 x8 x13 i18 i19 i20 i25 i29 i30 i31 i36 i37 i38 r73 r74 r75 r76 r77 r78 x79 x80 r81 r82 r83 r84 r85 r86 r87 r88 r89 r90 r91 r92 r93 r94 r95 ∧ (i8 ≠ 0 → x8 ≠ 0) ∧ (i7 ≤ x7 ∧ x7 ≤ n) ∧ (i13 ≤ x13 ∧ x13 - i13 ≤ x7 - i7) ∧ (ezm_fr r79 r80 x79 x80 (i13 + 1100)) ∧ (x8 = 0 → ezm_sg x79 x80 (i13 + 1100) (x13 + 1100)) ∧ (ezm_ST ((ezp_pt c ml x).1) x8 x7) ∧ (ezm_LM kk ((ezp_pt c ml x).2) x13 x79 x80) ∧ none = v
set_option maxHeartbeats 8000000 in
theorem ezm_m249_vSp {c : Int → Int} {x : ezp_X} {ml : Nat} {mm : Nat} {n kk tpn dd : Int} (hT : ezm_T i0 i2 i3 i7 i8 i13 i18 i19 i20 i25 i29 i30 i31 i36 i37 i38 r73 r74 r75 r76 r77 r78 r79 r80 r81 r82 r83 r84 r85 r86 r87 r88 r89 r90 r91 r92 r93 r94 r95) (hd : 6 * mm + 7 ≤ d) (hml : ml = mm + 1) (hm4 : mm ≤ 4) (hdd : dd = 5 - (ml : Int)) (i249 : ezm_I249 l ρ B xa Hb D cA mm) (i245 : ezm_I245 l ρ B xa Hb D cA mm) (hc : 0 ≤ i13 ∧ i13 ≤ i7) (hn : 0 ≤ i7 ∧ i7 ≤ n) (hs : r74 n = 0) (h1 : n ≤ 1000) (tk : ezm_TK c n r74 r75 r76) (hM : ∀ w, 0 ≤ w → w < 48 → r77 w = ezl_mw.getD w.toNat 0) (st : ezm_ST x.1 i8 i7) (g1 : 1 ≤ i7) (lm : ezm_LM kk x.2 i13 r79 r80) (tp : ezp_tp c tpn) : ezw_C l ρ B xa Hb D cA 249 d [ezw_p 72, ezw_i dd] (ezm_h e F A i0 i2 i3 i7 i8 i13 i18 i19 i20 i25 i29 i30 i31 i36 i37 i38 r73 r74 r75 r76 r77 r78 r79 r80 r81 r82 r83 r84 r85 r86 r87 r88 r89 r90 r91 r92 r93 r94 r95) (ezm_m249_vSpQ  e F A i0 i2 i3 i7 i8 i13 i18 i19 i20 i25 i29 i30 i31 i36 i37 i38 r73 r74 r75 r76 r77 r78 r79 r80 r81 r82 r83 r84 r85 r86 r87 r88 r89 r90 r91 r92 r93 r94 r95 n c x kk tpn ml mm dd) := by
  refine ezw_met (k := 2) rfl rfl ?_
  obtain ⟨se, sa, sp, hP, sw, sk⟩ := ezm_TKi tk st hn
  refine ezw_aload_n rfl rfl ?_
  refine ezm_g8 rfl ?_
  have k1 := hT.t8
  refine ezw_if_le rfl rfl ⟨by omega, by omega⟩ (fun h4_1 => ?_) (fun h4_1 => ?_)
  · have hix := ezp_ix_48 (ezp_W c x.1.2)
    have z0 : x.1.1 = 0 := by omega
    replace sa := sa z0
    replace sk := sk z0
    clear sp sw
    refine ezw_aload_n rfl rfl ?_
    refine ezm_gp (p := 74) rfl (fun _ => rfl) ?_
    refine ezw_aload_n rfl rfl ?_
    refine ezm_g7 rfl ?_
    have k2 := hT.t7
    refine ezm_l74 rfl (by omega) (by omega) (fun u3 eu3 => ?_)
    have ku3 : ezw_in u3 := eu3 ▸ hT.t74 i7
    refine ezw_iconst (2) rfl rfl ?_
    refine ezw_icmp_ne rfl rfl ku3 ⟨by decide, by decide⟩ (fun h18_3 => ?_) (fun h18_3 => ?_)
    · refine ezw_iconst (0) rfl rfl ?_
      refine ezw_istore_n rfl rfl ?_
      refine ezw_aload_n rfl rfl ?_
      refine ezw_bipush (44) rfl rfl ?_
      refine ezw_iconst (4) rfl rfl ?_
      refine ezw_call0_2 rfl (by omega) (ezm_at rfl) rfl rfl rfl rfl (ezm_m228p hT (by omega) ⟨by decide, by decide⟩ ⟨by decide, by decide⟩ (by omega) (by omega) hs (by omega) tk hM st) ?_
      rintro _ _ ⟨rfl, u5, hu5, p4_0, p4_1, p4_2, wh_4, rfl⟩
      refine ezw_istore_n rfl rfl ?_
      refine ezw_iload_n rfl rfl ?_
      refine ezw_if_ge rfl rfl hu5 (fun h36_5 => ?_) (fun h36_5 => ?_)
      · refine ezw_iload_n rfl rfl ?_
        refine ezw_iconst (5) rfl rfl ?_
        refine ezw_icmp_ne rfl rfl ⟨by omega, by omega⟩ ⟨by decide, by decide⟩ (fun h71_5 => ?_) (fun h71_5 => absurd h71_5 (by omega))
        refine ezw_aload_n rfl rfl ?_
        refine ezm_g8 rfl ?_
        refine ezw_if_le rfl rfl ⟨by omega, by omega⟩ (fun h83_5 => ?_) (fun h83_5 => ?_)
        · have stA : ezm_ST x.1 i8 i7 := ezm_ST_7 st (by omega) (fun _ => by omega)
          refine ezw_aload_n rfl rfl ?_
          refine ezw_bipush (41) rfl rfl ?_
          refine ezw_call0_1 rfl (by omega) (ezm_at rfl) rfl rfl rfl rfl (ezm_m232p hT (by omega) ⟨by decide, by decide⟩ (by omega) hs (by omega) tk hM stA (by omega)) ?_
          rintro _ _ ⟨x7_6, rfl, hT, u7, hu7, p6_0, p6_1, p6_2, p6_3, q1_6, q0_6, st_6, rfl⟩
          have k8 := hT.t7
          refine ezw_if_eq rfl rfl ⟨by omega, by omega⟩ (fun h93_8 => ?_) (fun h93_8 => ?_)
          · have ew : ezm_sn i8 x7_6 r74 r76 40 = ezm_sn i8 i7 r74 r76 40 := by rw [show x7_6 = i7 by omega]
            have stC : ezm_ST x.1 i8 x7_6 := ezm_ST_7 st (by omega) (fun _ => by omega)
            refine ezw_aload_n rfl rfl ?_
            refine ezw_bipush (40) rfl rfl ?_
            refine ezw_call0_1 rfl (by omega) (ezm_at rfl) rfl rfl rfl rfl (ezm_m252p hT (by omega) ⟨by decide, by decide⟩ (by omega) hs (by omega) tk hM stC (by omega)) ?_
            rintro _ _ ⟨x7_9, rfl, hT, u10, hu10, p9_0, p9_1, p9_2, p9_3, q1_9, q0_9, st_9, rfl⟩
            have k11 := hT.t7
            refine ezw_if_eq rfl rfl ⟨by omega, by omega⟩ (fun h118_11 => ?_) (fun h118_11 => ?_)
            · have hlt : i7 < n := by
                first
                  | omega
                  | exact ezm_lt hn.2 hs (show r74 i7 ≠ 0 by omega)
              refine ezw_aload_n rfl rfl ?_
              refine ezw_iload_n rfl rfl ?_
              refine ezw_if_eq rfl rfl ⟨by decide, by decide⟩ (fun h139_11 => ?_) (fun h139_11 => absurd h139_11 (by omega))
              refine ezw_iconst (2) rfl rfl ?_
              refine ezw_iload_n rfl rfl ?_
              refine ezw_if_eq rfl rfl ⟨by decide, by decide⟩ (fun h148_11 => ?_) (fun h148_11 => absurd h148_11 (by omega))
              refine ezw_iload_n rfl rfl ?_
              refine ezw_call0_2 rfl (by omega) (ezm_at rfl) rfl rfl rfl rfl (ezm_m251 hT (by omega) ⟨by decide, by decide⟩ hu5 (by omega)) ?_
              rintro _ _ ⟨x13_12, x79_12, x80_12, rfl, hT, p12_0, fo_12, eo_12, ea_12, rfl⟩
              have k13 := hT.t13
              refine ezw_aload_n rfl rfl ?_
              refine ezw_dup rfl rfl ?_
              refine ezm_g7 rfl ?_
              refine ezw_iconst (1) rfl rfl ?_
              refine ezw_iadd (k := x7_9 + 1) rfl (by omega) ?_
              refine ezm_p7 hT rfl ⟨by omega, by omega⟩ (fun hT => ?_)
              exact ezw_return rfl rfl ⟨(x7_9 + 1), i8, x13_12, x79_12, x80_12, rfl, hT, by omega, by omega, by omega, fo_12, fun z => ezm_sg1 (by first | exact Or.inl eo_12 | exact Or.inr ⟨eo_12, by rw [ea_12]; omega, by rw [ea_12]; omega⟩ | exact absurd z (by omega)) (by omega), by
                    first
                      | (exfalso; omega)
                      | (rw [hml, ezp_pt_s]
                         repeat (first | rw [if_pos (by omega)] | rw [if_neg (by omega)])
                         first
                           | exact ezm_ST_t st (by omega) (fun _ => by omega)
                           | exact st
                           | exact ezm_ST_7 st (by omega) (fun _ => by omega)
                           | (have h9 := st; rw [ezp_wr_n (by omega)] at h9 ⊢; exact ezm_ST_7 st (by omega) (fun _ => by omega))
                           | (rw [ezp_wr_n (by omega)]; exact ezm_ST_7 st (by omega) (fun _ => by omega))), by
                    first
                      | (exfalso; omega)
                      | (rw [hml, ezp_pt_s]
                         repeat (first | rw [if_pos (by omega)] | rw [if_neg (by omega)])
                         exact ezm_LM_em lm fo_12 (by rw [eo_12]; exact (ezm_mo_1 (ezv_V tp (by omega)).1).symm) (by rw [ea_12]; exact (ezm_ma_1 (by omega) (ezv_V tp (by omega)).1).symm) (by omega))
                      | (rw [hml, ezp_pt_s]
                         repeat (first | rw [if_pos (by omega)] | rw [if_neg (by omega)])
                         exact ezm_LM_em lm fo_12 (by rw [eo_12]; exact (ezm_mo_2 (by omega) (by omega)).symm) (by rw [ea_12]; exact (ezm_ma_2 (by omega) (by omega) (by omega)).symm) (by omega)), rfl⟩
            · have stT : ezm_ST (ezp_t x.1) i8 x7_9 := ezm_ST_t st (by omega) (fun _ => by omega)
              refine ezw_aload_n rfl rfl ?_
              refine ezw_iload_n rfl rfl ?_
              refine ezw_iconst (1) rfl rfl ?_
              refine ezw_iadd (k := dd + 1) rfl (by omega) ?_
              refine ezw_call0_1 rfl (by omega) (ezm_at rfl) rfl rfl rfl rfl ((i245 _ _ _ _ _ _ _ _ _ _ _ _ _ _ _ _ _ _ _ _ _ _ _ _ _ _ _ _ _ _ _ _ _ _ _ _ _ _ _ _ _ _ _ _ _ (ezp_t x.1, x.2) _ _ _ hT (by omega) (by omega) (by omega) hs (by omega) tk hM stT (by omega) lm tp (by omega))) ?_
              rintro _ _ ⟨x7_14, x8_14, x13_14, x79_14, x80_14, rfl, hT, p14_0, p14_1, p14_2, fo_14, sg_14, st_14, lm_14, rfl⟩
              have k15 := hT.t7
              have k16 := hT.t8
              have k17 := hT.t13
              refine ezw_aload_n rfl rfl ?_
              refine ezw_bipush (41) rfl rfl ?_
              refine ezw_call0_1 rfl (by omega) (ezm_at rfl) rfl rfl rfl rfl (ezm_m253p hT (by omega) ⟨by decide, by decide⟩ (by omega) hs (by omega) tk hM st_14 (by omega)) ?_
              rintro _ _ ⟨x7_18, x8_18, rfl, hT, p18_0, p18_1, p18_2, st_18, rfl⟩
              have k19 := hT.t7
              have k20 := hT.t8
              refine ezw_goto rfl rfl ?_
              exact ezw_return rfl rfl ⟨x7_18, x8_18, x13_14, x79_14, x80_14, rfl, hT, by omega, by omega, by omega, fo_14, fun z => sg_14 (by omega), by
                    first
                      | (exfalso; omega)
                      | (rw [hml, ezp_pt_s]
                         repeat (first | rw [if_pos (by omega)] | rw [if_neg (by omega)])
                         have h9 := st_18
                         exact h9), by
                    first
                      | (exfalso; omega)
                      | (rw [hml, ezp_pt_s]
                         repeat (first | rw [if_pos (by omega)] | rw [if_neg (by omega)])
                         exact lm_14), rfl⟩
          · have stT : ezm_ST (ezp_t x.1) i8 x7_6 := ezm_ST_t st (by omega) (fun _ => by omega)
            refine ezw_aload_n rfl rfl ?_
            refine ezw_iload_n rfl rfl ?_
            refine ezw_iconst (1) rfl rfl ?_
            refine ezw_iadd (k := dd + 1) rfl (by omega) ?_
            refine ezw_call0_1 rfl (by omega) (ezm_at rfl) rfl rfl rfl rfl ((i249 _ _ _ _ _ _ _ _ _ _ _ _ _ _ _ _ _ _ _ _ _ _ _ _ _ _ _ _ _ _ _ _ _ _ _ _ _ _ _ _ _ _ _ _ _ (ezp_t x.1, x.2) _ _ _ hT (by omega) (by omega) (by omega) hs (by omega) tk hM stT (by omega) lm tp (by omega))) ?_
            rintro _ _ ⟨x7_21, x8_21, x13_21, x79_21, x80_21, rfl, hT, p21_0, p21_1, p21_2, fo_21, sg_21, st_21, lm_21, rfl⟩
            have k22 := hT.t7
            have k23 := hT.t8
            have k24 := hT.t13
            refine ezw_aload_n rfl rfl ?_
            refine ezw_iconst (3) rfl rfl ?_
            refine ezw_iconst (0) rfl rfl ?_
            refine ezw_call0_2 rfl (by omega) (ezm_at rfl) rfl rfl rfl rfl (ezm_m251 hT (by omega) ⟨by decide, by decide⟩ ⟨by decide, by decide⟩ (by omega)) ?_
            rintro _ _ ⟨x13_25, x79_25, x80_25, rfl, hT, p25_0, fo_25, eo_25, ea_25, rfl⟩
            have k26 := hT.t13
            refine ezw_goto rfl rfl ?_
            exact ezw_return rfl rfl ⟨x7_21, x8_21, x13_25, x79_25, x80_25, rfl, hT, by omega, by omega, by omega, (ezm_fr_t fo_21 fo_25 (by omega)), fun z => ezm_sgN (sg_21 (by omega)) fo_25 eo_25 (by omega), by
                  first
                    | (exfalso; omega)
                    | (rw [hml, ezp_pt_s]
                       repeat (first | rw [if_pos (by omega)] | rw [if_neg (by omega)])
                       exact st_21), by
                  first
                    | (exfalso; omega)
                    | (rw [hml, ezp_pt_s]
                       repeat (first | rw [if_pos (by omega)] | rw [if_neg (by omega)])
                       exact ezm_LM_em lm_21 fo_25 (by rw [eo_25]; decide) (by rw [ea_25]; decide) (by omega)), rfl⟩
        · exact ezw_return rfl rfl ⟨i7, i8, i13, r79, r80, rfl, hT, by omega, by omega, by omega, ezm_fr_r _ _ _, fun z => absurd z (by omega), by
                first
                  | (exfalso; omega)
                  | (rw [hml, ezp_pt_s]
                     repeat (first | rw [if_pos (by omega)] | rw [if_neg (by omega)])
                     first
                       | exact ezm_ST_t st (by omega) (fun _ => by omega)
                       | exact st
                       | exact ezm_ST_7 st (by omega) (fun _ => by omega)
                       | (have h9 := st; rw [ezp_wr_n (by omega)] at h9 ⊢; exact ezm_ST_7 st (by omega) (fun _ => by omega))
                       | (rw [ezp_wr_n (by omega)]; exact ezm_ST_7 st (by omega) (fun _ => by omega))), by
                first
                  | (exfalso; omega)
                  | (rw [hml, ezp_pt_s]
                     repeat (first | rw [if_pos (by omega)] | rw [if_neg (by omega)])
                     exact lm), rfl⟩
      · refine ezw_iload_n rfl rfl ?_
        refine ezw_if_ne rfl rfl ⟨by decide, by decide⟩ (fun h40_26 => absurd h40_26 (by omega)) (fun h40_26 => ?_)
        refine ezw_aload_n rfl rfl ?_
        refine ezw_bipush (40) rfl rfl ?_
        refine ezw_call0_1 rfl (by omega) (ezm_at rfl) rfl rfl rfl rfl (ezm_m250p hT (by omega) ⟨by decide, by decide⟩ (by omega) hs (by omega) tk hM st (by omega)) ?_
        rintro _ _ ⟨rfl, u28, hu28, f_27, w_27, q1_27, q0_27, rfl⟩
        refine ezw_if_ne rfl rfl ⟨by omega, by omega⟩ (fun h49_28 => ?_) (fun h49_28 => ?_)
        · refine ezw_iload_n rfl rfl ?_
          refine ezw_iconst (5) rfl rfl ?_
          refine ezw_icmp_ne rfl rfl ⟨by omega, by omega⟩ ⟨by decide, by decide⟩ (fun h71_28 => ?_) (fun h71_28 => absurd h71_28 (by omega))
          refine ezw_aload_n rfl rfl ?_
          refine ezm_g8 rfl ?_
          refine ezw_if_le rfl rfl ⟨by omega, by omega⟩ (fun h83_28 => ?_) (fun h83_28 => ?_)
          · have stA : ezm_ST x.1 i8 i7 := ezm_ST_7 st (by omega) (fun _ => by omega)
            refine ezw_aload_n rfl rfl ?_
            refine ezw_bipush (41) rfl rfl ?_
            refine ezw_call0_1 rfl (by omega) (ezm_at rfl) rfl rfl rfl rfl (ezm_m232p hT (by omega) ⟨by decide, by decide⟩ (by omega) hs (by omega) tk hM stA (by omega)) ?_
            rintro _ _ ⟨x7_29, rfl, hT, u30, hu30, p29_0, p29_1, p29_2, p29_3, q1_29, q0_29, st_29, rfl⟩
            have k31 := hT.t7
            refine ezw_if_eq rfl rfl ⟨by omega, by omega⟩ (fun h93_31 => ?_) (fun h93_31 => ?_)
            · have ew : ezm_sn i8 x7_29 r74 r76 40 = ezm_sn i8 i7 r74 r76 40 := by rw [show x7_29 = i7 by omega]
              have stC : ezm_ST x.1 i8 x7_29 := ezm_ST_7 st (by omega) (fun _ => by omega)
              refine ezw_aload_n rfl rfl ?_
              refine ezw_bipush (40) rfl rfl ?_
              refine ezw_call0_1 rfl (by omega) (ezm_at rfl) rfl rfl rfl rfl (ezm_m252p hT (by omega) ⟨by decide, by decide⟩ (by omega) hs (by omega) tk hM stC (by omega)) ?_
              rintro _ _ ⟨x7_32, rfl, hT, u33, hu33, p32_0, p32_1, p32_2, p32_3, q1_32, q0_32, st_32, rfl⟩
              have k34 := hT.t7
              refine ezw_if_eq rfl rfl ⟨by omega, by omega⟩ (fun h118_34 => ?_) (fun h118_34 => ?_)
              · have hlt : i7 < n := by
                  first
                    | omega
                    | exact ezm_lt hn.2 hs (show r74 i7 ≠ 0 by omega)
                refine ezw_aload_n rfl rfl ?_
                refine ezw_iload_n rfl rfl ?_
                refine ezw_if_eq rfl rfl ⟨by decide, by decide⟩ (fun h139_34 => ?_) (fun h139_34 => absurd h139_34 (by omega))
                refine ezw_iconst (2) rfl rfl ?_
                refine ezw_iload_n rfl rfl ?_
                refine ezw_if_eq rfl rfl ⟨by decide, by decide⟩ (fun h148_34 => ?_) (fun h148_34 => absurd h148_34 (by omega))
                refine ezw_iload_n rfl rfl ?_
                refine ezw_call0_2 rfl (by omega) (ezm_at rfl) rfl rfl rfl rfl (ezm_m251 hT (by omega) ⟨by decide, by decide⟩ hu5 (by omega)) ?_
                rintro _ _ ⟨x13_35, x79_35, x80_35, rfl, hT, p35_0, fo_35, eo_35, ea_35, rfl⟩
                have k36 := hT.t13
                refine ezw_aload_n rfl rfl ?_
                refine ezw_dup rfl rfl ?_
                refine ezm_g7 rfl ?_
                refine ezw_iconst (1) rfl rfl ?_
                refine ezw_iadd (k := x7_32 + 1) rfl (by omega) ?_
                refine ezm_p7 hT rfl ⟨by omega, by omega⟩ (fun hT => ?_)
                exact ezw_return rfl rfl ⟨(x7_32 + 1), i8, x13_35, x79_35, x80_35, rfl, hT, by omega, by omega, by omega, fo_35, fun z => ezm_sg1 (by first | exact Or.inl eo_35 | exact Or.inr ⟨eo_35, by rw [ea_35]; omega, by rw [ea_35]; omega⟩ | exact absurd z (by omega)) (by omega), by
                      first
                        | (exfalso; omega)
                        | (rw [hml, ezp_pt_s]
                           repeat (first | rw [if_pos (by omega)] | rw [if_neg (by omega)])
                           first
                             | exact ezm_ST_t st (by omega) (fun _ => by omega)
                             | exact st
                             | exact ezm_ST_7 st (by omega) (fun _ => by omega)
                             | (have h9 := st; rw [ezp_wr_n (by omega)] at h9 ⊢; exact ezm_ST_7 st (by omega) (fun _ => by omega))
                             | (rw [ezp_wr_n (by omega)]; exact ezm_ST_7 st (by omega) (fun _ => by omega))), by
                      first
                        | (exfalso; omega)
                        | (rw [hml, ezp_pt_s]
                           repeat (first | rw [if_pos (by omega)] | rw [if_neg (by omega)])
                           exact ezm_LM_em lm fo_35 (by rw [eo_35]; exact (ezm_mo_1 (ezv_V tp (by omega)).1).symm) (by rw [ea_35]; exact (ezm_ma_1 (by omega) (ezv_V tp (by omega)).1).symm) (by omega))
                        | (rw [hml, ezp_pt_s]
                           repeat (first | rw [if_pos (by omega)] | rw [if_neg (by omega)])
                           exact ezm_LM_em lm fo_35 (by rw [eo_35]; exact (ezm_mo_2 (by omega) (by omega)).symm) (by rw [ea_35]; exact (ezm_ma_2 (by omega) (by omega) (by omega)).symm) (by omega)), rfl⟩
              · have stT : ezm_ST (ezp_t x.1) i8 x7_32 := ezm_ST_t st (by omega) (fun _ => by omega)
                refine ezw_aload_n rfl rfl ?_
                refine ezw_iload_n rfl rfl ?_
                refine ezw_iconst (1) rfl rfl ?_
                refine ezw_iadd (k := dd + 1) rfl (by omega) ?_
                refine ezw_call0_1 rfl (by omega) (ezm_at rfl) rfl rfl rfl rfl ((i245 _ _ _ _ _ _ _ _ _ _ _ _ _ _ _ _ _ _ _ _ _ _ _ _ _ _ _ _ _ _ _ _ _ _ _ _ _ _ _ _ _ _ _ _ _ (ezp_t x.1, x.2) _ _ _ hT (by omega) (by omega) (by omega) hs (by omega) tk hM stT (by omega) lm tp (by omega))) ?_
                rintro _ _ ⟨x7_37, x8_37, x13_37, x79_37, x80_37, rfl, hT, p37_0, p37_1, p37_2, fo_37, sg_37, st_37, lm_37, rfl⟩
                have k38 := hT.t7
                have k39 := hT.t8
                have k40 := hT.t13
                refine ezw_aload_n rfl rfl ?_
                refine ezw_bipush (41) rfl rfl ?_
                refine ezw_call0_1 rfl (by omega) (ezm_at rfl) rfl rfl rfl rfl (ezm_m253p hT (by omega) ⟨by decide, by decide⟩ (by omega) hs (by omega) tk hM st_37 (by omega)) ?_
                rintro _ _ ⟨x7_41, x8_41, rfl, hT, p41_0, p41_1, p41_2, st_41, rfl⟩
                have k42 := hT.t7
                have k43 := hT.t8
                refine ezw_goto rfl rfl ?_
                exact ezw_return rfl rfl ⟨x7_41, x8_41, x13_37, x79_37, x80_37, rfl, hT, by omega, by omega, by omega, fo_37, fun z => sg_37 (by omega), by
                      first
                        | (exfalso; omega)
                        | (rw [hml, ezp_pt_s]
                           repeat (first | rw [if_pos (by omega)] | rw [if_neg (by omega)])
                           have h9 := st_41
                           exact h9), by
                      first
                        | (exfalso; omega)
                        | (rw [hml, ezp_pt_s]
                           repeat (first | rw [if_pos (by omega)] | rw [if_neg (by omega)])
                           exact lm_37), rfl⟩
            · have stT : ezm_ST (ezp_t x.1) i8 x7_29 := ezm_ST_t st (by omega) (fun _ => by omega)
              refine ezw_aload_n rfl rfl ?_
              refine ezw_iload_n rfl rfl ?_
              refine ezw_iconst (1) rfl rfl ?_
              refine ezw_iadd (k := dd + 1) rfl (by omega) ?_
              refine ezw_call0_1 rfl (by omega) (ezm_at rfl) rfl rfl rfl rfl ((i249 _ _ _ _ _ _ _ _ _ _ _ _ _ _ _ _ _ _ _ _ _ _ _ _ _ _ _ _ _ _ _ _ _ _ _ _ _ _ _ _ _ _ _ _ _ (ezp_t x.1, x.2) _ _ _ hT (by omega) (by omega) (by omega) hs (by omega) tk hM stT (by omega) lm tp (by omega))) ?_
              rintro _ _ ⟨x7_44, x8_44, x13_44, x79_44, x80_44, rfl, hT, p44_0, p44_1, p44_2, fo_44, sg_44, st_44, lm_44, rfl⟩
              have k45 := hT.t7
              have k46 := hT.t8
              have k47 := hT.t13
              refine ezw_aload_n rfl rfl ?_
              refine ezw_iconst (3) rfl rfl ?_
              refine ezw_iconst (0) rfl rfl ?_
              refine ezw_call0_2 rfl (by omega) (ezm_at rfl) rfl rfl rfl rfl (ezm_m251 hT (by omega) ⟨by decide, by decide⟩ ⟨by decide, by decide⟩ (by omega)) ?_
              rintro _ _ ⟨x13_48, x79_48, x80_48, rfl, hT, p48_0, fo_48, eo_48, ea_48, rfl⟩
              have k49 := hT.t13
              refine ezw_goto rfl rfl ?_
              exact ezw_return rfl rfl ⟨x7_44, x8_44, x13_48, x79_48, x80_48, rfl, hT, by omega, by omega, by omega, (ezm_fr_t fo_44 fo_48 (by omega)), fun z => ezm_sgN (sg_44 (by omega)) fo_48 eo_48 (by omega), by
                    first
                      | (exfalso; omega)
                      | (rw [hml, ezp_pt_s]
                         repeat (first | rw [if_pos (by omega)] | rw [if_neg (by omega)])
                         exact st_44), by
                    first
                      | (exfalso; omega)
                      | (rw [hml, ezp_pt_s]
                         repeat (first | rw [if_pos (by omega)] | rw [if_neg (by omega)])
                         exact ezm_LM_em lm_44 fo_48 (by rw [eo_48]; decide) (by rw [ea_48]; decide) (by omega)), rfl⟩
          · exact ezw_return rfl rfl ⟨i7, i8, i13, r79, r80, rfl, hT, by omega, by omega, by omega, ezm_fr_r _ _ _, fun z => absurd z (by omega), by
                  first
                    | (exfalso; omega)
                    | (rw [hml, ezp_pt_s]
                       repeat (first | rw [if_pos (by omega)] | rw [if_neg (by omega)])
                       first
                         | exact ezm_ST_t st (by omega) (fun _ => by omega)
                         | exact st
                         | exact ezm_ST_7 st (by omega) (fun _ => by omega)
                         | (have h9 := st; rw [ezp_wr_n (by omega)] at h9 ⊢; exact ezm_ST_7 st (by omega) (fun _ => by omega))
                         | (rw [ezp_wr_n (by omega)]; exact ezm_ST_7 st (by omega) (fun _ => by omega))), by
                  first
                    | (exfalso; omega)
                    | (rw [hml, ezp_pt_s]
                       repeat (first | rw [if_pos (by omega)] | rw [if_neg (by omega)])
                       exact lm), rfl⟩
        · refine ezw_aload_n rfl rfl ?_
          refine ezw_bipush (41) rfl rfl ?_
          refine ezw_call0_1 rfl (by omega) (ezm_at rfl) rfl rfl rfl rfl (ezm_m223_v41p hT (by omega) (by omega) hs (by omega) tk hM st) ?_
          rintro _ _ ⟨rfl, u51, hu51, f_50, w_50, q1_50, q0_50, rfl⟩
          refine ezw_if_ne rfl rfl ⟨by omega, by omega⟩ (fun h58_51 => ?_) (fun h58_51 => ?_)
          · refine ezw_iload_n rfl rfl ?_
            refine ezw_iconst (5) rfl rfl ?_
            refine ezw_icmp_ne rfl rfl ⟨by omega, by omega⟩ ⟨by decide, by decide⟩ (fun h71_51 => ?_) (fun h71_51 => absurd h71_51 (by omega))
            refine ezw_aload_n rfl rfl ?_
            refine ezm_g8 rfl ?_
            refine ezw_if_le rfl rfl ⟨by omega, by omega⟩ (fun h83_51 => ?_) (fun h83_51 => ?_)
            · have stA : ezm_ST x.1 i8 i7 := ezm_ST_7 st (by omega) (fun _ => by omega)
              refine ezw_aload_n rfl rfl ?_
              refine ezw_bipush (41) rfl rfl ?_
              refine ezw_call0_1 rfl (by omega) (ezm_at rfl) rfl rfl rfl rfl (ezm_m232p hT (by omega) ⟨by decide, by decide⟩ (by omega) hs (by omega) tk hM stA (by omega)) ?_
              rintro _ _ ⟨x7_52, rfl, hT, u53, hu53, p52_0, p52_1, p52_2, p52_3, q1_52, q0_52, st_52, rfl⟩
              have k54 := hT.t7
              refine ezw_if_eq rfl rfl ⟨by omega, by omega⟩ (fun h93_54 => ?_) (fun h93_54 => ?_)
              · have ew : ezm_sn i8 x7_52 r74 r76 40 = ezm_sn i8 i7 r74 r76 40 := by rw [show x7_52 = i7 by omega]
                have stC : ezm_ST x.1 i8 x7_52 := ezm_ST_7 st (by omega) (fun _ => by omega)
                refine ezw_aload_n rfl rfl ?_
                refine ezw_bipush (40) rfl rfl ?_
                refine ezw_call0_1 rfl (by omega) (ezm_at rfl) rfl rfl rfl rfl (ezm_m252p hT (by omega) ⟨by decide, by decide⟩ (by omega) hs (by omega) tk hM stC (by omega)) ?_
                rintro _ _ ⟨x7_55, rfl, hT, u56, hu56, p55_0, p55_1, p55_2, p55_3, q1_55, q0_55, st_55, rfl⟩
                have k57 := hT.t7
                refine ezw_if_eq rfl rfl ⟨by omega, by omega⟩ (fun h118_57 => ?_) (fun h118_57 => ?_)
                · have hlt : i7 < n := by
                    first
                      | omega
                      | exact ezm_lt hn.2 hs (show r74 i7 ≠ 0 by omega)
                  refine ezw_aload_n rfl rfl ?_
                  refine ezw_iload_n rfl rfl ?_
                  refine ezw_if_eq rfl rfl ⟨by decide, by decide⟩ (fun h139_57 => ?_) (fun h139_57 => absurd h139_57 (by omega))
                  refine ezw_iconst (2) rfl rfl ?_
                  refine ezw_iload_n rfl rfl ?_
                  refine ezw_if_eq rfl rfl ⟨by decide, by decide⟩ (fun h148_57 => ?_) (fun h148_57 => absurd h148_57 (by omega))
                  refine ezw_iload_n rfl rfl ?_
                  refine ezw_call0_2 rfl (by omega) (ezm_at rfl) rfl rfl rfl rfl (ezm_m251 hT (by omega) ⟨by decide, by decide⟩ hu5 (by omega)) ?_
                  rintro _ _ ⟨x13_58, x79_58, x80_58, rfl, hT, p58_0, fo_58, eo_58, ea_58, rfl⟩
                  have k59 := hT.t13
                  refine ezw_aload_n rfl rfl ?_
                  refine ezw_dup rfl rfl ?_
                  refine ezm_g7 rfl ?_
                  refine ezw_iconst (1) rfl rfl ?_
                  refine ezw_iadd (k := x7_55 + 1) rfl (by omega) ?_
                  refine ezm_p7 hT rfl ⟨by omega, by omega⟩ (fun hT => ?_)
                  exact ezw_return rfl rfl ⟨(x7_55 + 1), i8, x13_58, x79_58, x80_58, rfl, hT, by omega, by omega, by omega, fo_58, fun z => ezm_sg1 (by first | exact Or.inl eo_58 | exact Or.inr ⟨eo_58, by rw [ea_58]; omega, by rw [ea_58]; omega⟩ | exact absurd z (by omega)) (by omega), by
                        first
                          | (exfalso; omega)
                          | (rw [hml, ezp_pt_s]
                             repeat (first | rw [if_pos (by omega)] | rw [if_neg (by omega)])
                             first
                               | exact ezm_ST_t st (by omega) (fun _ => by omega)
                               | exact st
                               | exact ezm_ST_7 st (by omega) (fun _ => by omega)
                               | (have h9 := st; rw [ezp_wr_n (by omega)] at h9 ⊢; exact ezm_ST_7 st (by omega) (fun _ => by omega))
                               | (rw [ezp_wr_n (by omega)]; exact ezm_ST_7 st (by omega) (fun _ => by omega))), by
                        first
                          | (exfalso; omega)
                          | (rw [hml, ezp_pt_s]
                             repeat (first | rw [if_pos (by omega)] | rw [if_neg (by omega)])
                             exact ezm_LM_em lm fo_58 (by rw [eo_58]; exact (ezm_mo_1 (ezv_V tp (by omega)).1).symm) (by rw [ea_58]; exact (ezm_ma_1 (by omega) (ezv_V tp (by omega)).1).symm) (by omega))
                          | (rw [hml, ezp_pt_s]
                             repeat (first | rw [if_pos (by omega)] | rw [if_neg (by omega)])
                             exact ezm_LM_em lm fo_58 (by rw [eo_58]; exact (ezm_mo_2 (by omega) (by omega)).symm) (by rw [ea_58]; exact (ezm_ma_2 (by omega) (by omega) (by omega)).symm) (by omega)), rfl⟩
                · have stT : ezm_ST (ezp_t x.1) i8 x7_55 := ezm_ST_t st (by omega) (fun _ => by omega)
                  refine ezw_aload_n rfl rfl ?_
                  refine ezw_iload_n rfl rfl ?_
                  refine ezw_iconst (1) rfl rfl ?_
                  refine ezw_iadd (k := dd + 1) rfl (by omega) ?_
                  refine ezw_call0_1 rfl (by omega) (ezm_at rfl) rfl rfl rfl rfl ((i245 _ _ _ _ _ _ _ _ _ _ _ _ _ _ _ _ _ _ _ _ _ _ _ _ _ _ _ _ _ _ _ _ _ _ _ _ _ _ _ _ _ _ _ _ _ (ezp_t x.1, x.2) _ _ _ hT (by omega) (by omega) (by omega) hs (by omega) tk hM stT (by omega) lm tp (by omega))) ?_
                  rintro _ _ ⟨x7_60, x8_60, x13_60, x79_60, x80_60, rfl, hT, p60_0, p60_1, p60_2, fo_60, sg_60, st_60, lm_60, rfl⟩
                  have k61 := hT.t7
                  have k62 := hT.t8
                  have k63 := hT.t13
                  refine ezw_aload_n rfl rfl ?_
                  refine ezw_bipush (41) rfl rfl ?_
                  refine ezw_call0_1 rfl (by omega) (ezm_at rfl) rfl rfl rfl rfl (ezm_m253p hT (by omega) ⟨by decide, by decide⟩ (by omega) hs (by omega) tk hM st_60 (by omega)) ?_
                  rintro _ _ ⟨x7_64, x8_64, rfl, hT, p64_0, p64_1, p64_2, st_64, rfl⟩
                  have k65 := hT.t7
                  have k66 := hT.t8
                  refine ezw_goto rfl rfl ?_
                  exact ezw_return rfl rfl ⟨x7_64, x8_64, x13_60, x79_60, x80_60, rfl, hT, by omega, by omega, by omega, fo_60, fun z => sg_60 (by omega), by
                        first
                          | (exfalso; omega)
                          | (rw [hml, ezp_pt_s]
                             repeat (first | rw [if_pos (by omega)] | rw [if_neg (by omega)])
                             have h9 := st_64
                             exact h9), by
                        first
                          | (exfalso; omega)
                          | (rw [hml, ezp_pt_s]
                             repeat (first | rw [if_pos (by omega)] | rw [if_neg (by omega)])
                             exact lm_60), rfl⟩
              · have stT : ezm_ST (ezp_t x.1) i8 x7_52 := ezm_ST_t st (by omega) (fun _ => by omega)
                refine ezw_aload_n rfl rfl ?_
                refine ezw_iload_n rfl rfl ?_
                refine ezw_iconst (1) rfl rfl ?_
                refine ezw_iadd (k := dd + 1) rfl (by omega) ?_
                refine ezw_call0_1 rfl (by omega) (ezm_at rfl) rfl rfl rfl rfl ((i249 _ _ _ _ _ _ _ _ _ _ _ _ _ _ _ _ _ _ _ _ _ _ _ _ _ _ _ _ _ _ _ _ _ _ _ _ _ _ _ _ _ _ _ _ _ (ezp_t x.1, x.2) _ _ _ hT (by omega) (by omega) (by omega) hs (by omega) tk hM stT (by omega) lm tp (by omega))) ?_
                rintro _ _ ⟨x7_67, x8_67, x13_67, x79_67, x80_67, rfl, hT, p67_0, p67_1, p67_2, fo_67, sg_67, st_67, lm_67, rfl⟩
                have k68 := hT.t7
                have k69 := hT.t8
                have k70 := hT.t13
                refine ezw_aload_n rfl rfl ?_
                refine ezw_iconst (3) rfl rfl ?_
                refine ezw_iconst (0) rfl rfl ?_
                refine ezw_call0_2 rfl (by omega) (ezm_at rfl) rfl rfl rfl rfl (ezm_m251 hT (by omega) ⟨by decide, by decide⟩ ⟨by decide, by decide⟩ (by omega)) ?_
                rintro _ _ ⟨x13_71, x79_71, x80_71, rfl, hT, p71_0, fo_71, eo_71, ea_71, rfl⟩
                have k72 := hT.t13
                refine ezw_goto rfl rfl ?_
                exact ezw_return rfl rfl ⟨x7_67, x8_67, x13_71, x79_71, x80_71, rfl, hT, by omega, by omega, by omega, (ezm_fr_t fo_67 fo_71 (by omega)), fun z => ezm_sgN (sg_67 (by omega)) fo_71 eo_71 (by omega), by
                      first
                        | (exfalso; omega)
                        | (rw [hml, ezp_pt_s]
                           repeat (first | rw [if_pos (by omega)] | rw [if_neg (by omega)])
                           exact st_67), by
                      first
                        | (exfalso; omega)
                        | (rw [hml, ezp_pt_s]
                           repeat (first | rw [if_pos (by omega)] | rw [if_neg (by omega)])
                           exact ezm_LM_em lm_67 fo_71 (by rw [eo_71]; decide) (by rw [ea_71]; decide) (by omega)), rfl⟩
            · exact ezw_return rfl rfl ⟨i7, i8, i13, r79, r80, rfl, hT, by omega, by omega, by omega, ezm_fr_r _ _ _, fun z => absurd z (by omega), by
                    first
                      | (exfalso; omega)
                      | (rw [hml, ezp_pt_s]
                         repeat (first | rw [if_pos (by omega)] | rw [if_neg (by omega)])
                         first
                           | exact ezm_ST_t st (by omega) (fun _ => by omega)
                           | exact st
                           | exact ezm_ST_7 st (by omega) (fun _ => by omega)
                           | (have h9 := st; rw [ezp_wr_n (by omega)] at h9 ⊢; exact ezm_ST_7 st (by omega) (fun _ => by omega))
                           | (rw [ezp_wr_n (by omega)]; exact ezm_ST_7 st (by omega) (fun _ => by omega))), by
                    first
                      | (exfalso; omega)
                      | (rw [hml, ezp_pt_s]
                         repeat (first | rw [if_pos (by omega)] | rw [if_neg (by omega)])
                         exact lm), rfl⟩
          · refine ezw_aload_n rfl rfl ?_
            refine ezw_iconst (1) rfl rfl ?_
            refine ezw_call0_1 rfl (by omega) (ezm_at rfl) rfl rfl rfl rfl (ezm_m225p hT (by omega) ⟨by decide, by decide⟩ (by omega) (by omega) (by omega) hs (by omega) tk hM st) ?_
            rintro _ _ ⟨x8_73, rfl, hT, p73_0, p73_1, st_73, rfl⟩
            have k74 := hT.t8
            refine ezw_goto rfl rfl ?_
            refine ezw_aload_n rfl rfl ?_
            refine ezm_g8 rfl ?_
            refine ezw_if_le rfl rfl ⟨by omega, by omega⟩ (fun h83_74 => ?_) (fun h83_74 => ?_)
            · have stA : ezm_ST x.1 x8_73 i7 := ezm_ST_7 st (by omega) (fun _ => by omega)
              refine ezw_aload_n rfl rfl ?_
              refine ezw_bipush (41) rfl rfl ?_
              refine ezw_call0_1 rfl (by omega) (ezm_at rfl) rfl rfl rfl rfl (ezm_m232p hT (by omega) ⟨by decide, by decide⟩ (by omega) hs (by omega) tk hM stA (by omega)) ?_
              rintro _ _ ⟨x7_75, rfl, hT, u76, hu76, p75_0, p75_1, p75_2, p75_3, q1_75, q0_75, st_75, rfl⟩
              have k77 := hT.t7
              refine ezw_if_eq rfl rfl ⟨by omega, by omega⟩ (fun h93_77 => ?_) (fun h93_77 => ?_)
              · have ew : ezm_sn i8 x7_75 r74 r76 40 = ezm_sn i8 i7 r74 r76 40 := by rw [show x7_75 = i7 by omega]
                have stC : ezm_ST x.1 x8_73 x7_75 := ezm_ST_7 st (by omega) (fun _ => by omega)
                refine ezw_aload_n rfl rfl ?_
                refine ezw_bipush (40) rfl rfl ?_
                refine ezw_call0_1 rfl (by omega) (ezm_at rfl) rfl rfl rfl rfl (ezm_m252p hT (by omega) ⟨by decide, by decide⟩ (by omega) hs (by omega) tk hM stC (by omega)) ?_
                rintro _ _ ⟨x7_78, rfl, hT, u79, hu79, p78_0, p78_1, p78_2, p78_3, q1_78, q0_78, st_78, rfl⟩
                have k80 := hT.t7
                refine ezw_if_eq rfl rfl ⟨by omega, by omega⟩ (fun h118_80 => ?_) (fun h118_80 => ?_)
                · have hlt : i7 < n := by
                    first
                      | omega
                      | exact ezm_lt hn.2 hs (show r74 i7 ≠ 0 by omega)
                  refine ezw_aload_n rfl rfl ?_
                  refine ezw_iload_n rfl rfl ?_
                  refine ezw_if_eq rfl rfl ⟨by decide, by decide⟩ (fun h139_80 => ?_) (fun h139_80 => absurd h139_80 (by omega))
                  refine ezw_iconst (2) rfl rfl ?_
                  refine ezw_iload_n rfl rfl ?_
                  refine ezw_if_eq rfl rfl ⟨by decide, by decide⟩ (fun h148_80 => ?_) (fun h148_80 => absurd h148_80 (by omega))
                  refine ezw_iload_n rfl rfl ?_
                  refine ezw_call0_2 rfl (by omega) (ezm_at rfl) rfl rfl rfl rfl (ezm_m251 hT (by omega) ⟨by decide, by decide⟩ hu5 (by omega)) ?_
                  rintro _ _ ⟨x13_81, x79_81, x80_81, rfl, hT, p81_0, fo_81, eo_81, ea_81, rfl⟩
                  have k82 := hT.t13
                  refine ezw_aload_n rfl rfl ?_
                  refine ezw_dup rfl rfl ?_
                  refine ezm_g7 rfl ?_
                  refine ezw_iconst (1) rfl rfl ?_
                  refine ezw_iadd (k := x7_78 + 1) rfl (by omega) ?_
                  refine ezm_p7 hT rfl ⟨by omega, by omega⟩ (fun hT => ?_)
                  exact ezw_return rfl rfl ⟨(x7_78 + 1), x8_73, x13_81, x79_81, x80_81, rfl, hT, by omega, by omega, by omega, fo_81, fun z => ezm_sg1 (by first | exact Or.inl eo_81 | exact Or.inr ⟨eo_81, by rw [ea_81]; omega, by rw [ea_81]; omega⟩ | exact absurd z (by omega)) (by omega), by
                        first
                          | (exfalso; omega)
                          | (rw [hml, ezp_pt_s]
                             repeat (first | rw [if_pos (by omega)] | rw [if_neg (by omega)])
                             first
                               | exact ezm_ST_t st (by omega) (fun _ => by omega)
                               | exact st_73
                               | exact ezm_ST_7 st (by omega) (fun _ => by omega)
                               | (have h9 := st_73; rw [ezp_wr_n (by omega)] at h9 ⊢; exact ezm_ST_7 st (by omega) (fun _ => by omega))
                               | (rw [ezp_wr_n (by omega)]; exact ezm_ST_7 st (by omega) (fun _ => by omega))), by
                        first
                          | (exfalso; omega)
                          | (rw [hml, ezp_pt_s]
                             repeat (first | rw [if_pos (by omega)] | rw [if_neg (by omega)])
                             exact ezm_LM_em lm fo_81 (by rw [eo_81]; exact (ezm_mo_1 (ezv_V tp (by omega)).1).symm) (by rw [ea_81]; exact (ezm_ma_1 (by omega) (ezv_V tp (by omega)).1).symm) (by omega))
                          | (rw [hml, ezp_pt_s]
                             repeat (first | rw [if_pos (by omega)] | rw [if_neg (by omega)])
                             exact ezm_LM_em lm fo_81 (by rw [eo_81]; exact (ezm_mo_2 (by omega) (by omega)).symm) (by rw [ea_81]; exact (ezm_ma_2 (by omega) (by omega) (by omega)).symm) (by omega)), rfl⟩
                · have stT : ezm_ST (ezp_t x.1) x8_73 x7_78 := ezm_ST_t st (by omega) (fun _ => by omega)
                  refine ezw_aload_n rfl rfl ?_
                  refine ezw_iload_n rfl rfl ?_
                  refine ezw_iconst (1) rfl rfl ?_
                  refine ezw_iadd (k := dd + 1) rfl (by omega) ?_
                  refine ezw_call0_1 rfl (by omega) (ezm_at rfl) rfl rfl rfl rfl ((i245 _ _ _ _ _ _ _ _ _ _ _ _ _ _ _ _ _ _ _ _ _ _ _ _ _ _ _ _ _ _ _ _ _ _ _ _ _ _ _ _ _ _ _ _ _ (ezp_t x.1, x.2) _ _ _ hT (by omega) (by omega) (by omega) hs (by omega) tk hM stT (by omega) lm tp (by omega))) ?_
                  rintro _ _ ⟨x7_83, x8_83, x13_83, x79_83, x80_83, rfl, hT, p83_0, p83_1, p83_2, fo_83, sg_83, st_83, lm_83, rfl⟩
                  have k84 := hT.t7
                  have k85 := hT.t8
                  have k86 := hT.t13
                  refine ezw_aload_n rfl rfl ?_
                  refine ezw_bipush (41) rfl rfl ?_
                  refine ezw_call0_1 rfl (by omega) (ezm_at rfl) rfl rfl rfl rfl (ezm_m253p hT (by omega) ⟨by decide, by decide⟩ (by omega) hs (by omega) tk hM st_83 (by omega)) ?_
                  rintro _ _ ⟨x7_87, x8_87, rfl, hT, p87_0, p87_1, p87_2, st_87, rfl⟩
                  have k88 := hT.t7
                  have k89 := hT.t8
                  refine ezw_goto rfl rfl ?_
                  exact ezw_return rfl rfl ⟨x7_87, x8_87, x13_83, x79_83, x80_83, rfl, hT, by omega, by omega, by omega, fo_83, fun z => sg_83 (by omega), by
                        first
                          | (exfalso; omega)
                          | (rw [hml, ezp_pt_s]
                             repeat (first | rw [if_pos (by omega)] | rw [if_neg (by omega)])
                             have h9 := st_87
                             exact h9), by
                        first
                          | (exfalso; omega)
                          | (rw [hml, ezp_pt_s]
                             repeat (first | rw [if_pos (by omega)] | rw [if_neg (by omega)])
                             exact lm_83), rfl⟩
              · have stT : ezm_ST (ezp_t x.1) x8_73 x7_75 := ezm_ST_t st (by omega) (fun _ => by omega)
                refine ezw_aload_n rfl rfl ?_
                refine ezw_iload_n rfl rfl ?_
                refine ezw_iconst (1) rfl rfl ?_
                refine ezw_iadd (k := dd + 1) rfl (by omega) ?_
                refine ezw_call0_1 rfl (by omega) (ezm_at rfl) rfl rfl rfl rfl ((i249 _ _ _ _ _ _ _ _ _ _ _ _ _ _ _ _ _ _ _ _ _ _ _ _ _ _ _ _ _ _ _ _ _ _ _ _ _ _ _ _ _ _ _ _ _ (ezp_t x.1, x.2) _ _ _ hT (by omega) (by omega) (by omega) hs (by omega) tk hM stT (by omega) lm tp (by omega))) ?_
                rintro _ _ ⟨x7_90, x8_90, x13_90, x79_90, x80_90, rfl, hT, p90_0, p90_1, p90_2, fo_90, sg_90, st_90, lm_90, rfl⟩
                have k91 := hT.t7
                have k92 := hT.t8
                have k93 := hT.t13
                refine ezw_aload_n rfl rfl ?_
                refine ezw_iconst (3) rfl rfl ?_
                refine ezw_iconst (0) rfl rfl ?_
                refine ezw_call0_2 rfl (by omega) (ezm_at rfl) rfl rfl rfl rfl (ezm_m251 hT (by omega) ⟨by decide, by decide⟩ ⟨by decide, by decide⟩ (by omega)) ?_
                rintro _ _ ⟨x13_94, x79_94, x80_94, rfl, hT, p94_0, fo_94, eo_94, ea_94, rfl⟩
                have k95 := hT.t13
                refine ezw_goto rfl rfl ?_
                exact ezw_return rfl rfl ⟨x7_90, x8_90, x13_94, x79_94, x80_94, rfl, hT, by omega, by omega, by omega, (ezm_fr_t fo_90 fo_94 (by omega)), fun z => ezm_sgN (sg_90 (by omega)) fo_94 eo_94 (by omega), by
                      first
                        | (exfalso; omega)
                        | (rw [hml, ezp_pt_s]
                           repeat (first | rw [if_pos (by omega)] | rw [if_neg (by omega)])
                           exact st_90), by
                      first
                        | (exfalso; omega)
                        | (rw [hml, ezp_pt_s]
                           repeat (first | rw [if_pos (by omega)] | rw [if_neg (by omega)])
                           exact ezm_LM_em lm_90 fo_94 (by rw [eo_94]; decide) (by rw [ea_94]; decide) (by omega)), rfl⟩
            · exact ezw_return rfl rfl ⟨i7, x8_73, i13, r79, r80, rfl, hT, by omega, by omega, by omega, ezm_fr_r _ _ _, fun z => absurd z (by omega), by
                    first
                      | (exfalso; omega)
                      | (rw [hml, ezp_pt_s]
                         repeat (first | rw [if_pos (by omega)] | rw [if_neg (by omega)])
                         first
                           | exact ezm_ST_t st (by omega) (fun _ => by omega)
                           | exact st_73
                           | exact ezm_ST_7 st (by omega) (fun _ => by omega)
                           | (have h9 := st_73; rw [ezp_wr_n (by omega)] at h9 ⊢; exact ezm_ST_7 st (by omega) (fun _ => by omega))
                           | (rw [ezp_wr_n (by omega)]; exact ezm_ST_7 st (by omega) (fun _ => by omega))), by
                    first
                      | (exfalso; omega)
                      | (rw [hml, ezp_pt_s]
                         repeat (first | rw [if_pos (by omega)] | rw [if_neg (by omega)])
                         exact lm), rfl⟩
    · refine ezw_iconst (1) rfl rfl ?_
      refine ezw_goto rfl rfl ?_
      refine ezw_istore_n rfl rfl ?_
      refine ezw_aload_n rfl rfl ?_
      refine ezw_bipush (44) rfl rfl ?_
      refine ezw_iconst (4) rfl rfl ?_
      refine ezw_call0_2 rfl (by omega) (ezm_at rfl) rfl rfl rfl rfl (ezm_m228p hT (by omega) ⟨by decide, by decide⟩ ⟨by decide, by decide⟩ (by omega) (by omega) hs (by omega) tk hM st) ?_
      rintro _ _ ⟨rfl, u97, hu97, p96_0, p96_1, p96_2, wh_96, rfl⟩
      refine ezw_istore_n rfl rfl ?_
      refine ezw_iload_n rfl rfl ?_
      refine ezw_if_ge rfl rfl hu97 (fun h36_97 => ?_) (fun h36_97 => ?_)
      · refine ezw_iload_n rfl rfl ?_
        refine ezw_iconst (5) rfl rfl ?_
        refine ezw_icmp_ne rfl rfl ⟨by omega, by omega⟩ ⟨by decide, by decide⟩ (fun h71_97 => ?_) (fun h71_97 => absurd h71_97 (by omega))
        refine ezw_aload_n rfl rfl ?_
        refine ezm_g8 rfl ?_
        refine ezw_if_le rfl rfl ⟨by omega, by omega⟩ (fun h83_97 => ?_) (fun h83_97 => ?_)
        · have stA : ezm_ST x.1 i8 i7 := ezm_ST_7 st (by omega) (fun _ => by omega)
          refine ezw_aload_n rfl rfl ?_
          refine ezw_bipush (41) rfl rfl ?_
          refine ezw_call0_1 rfl (by omega) (ezm_at rfl) rfl rfl rfl rfl (ezm_m232p hT (by omega) ⟨by decide, by decide⟩ (by omega) hs (by omega) tk hM stA (by omega)) ?_
          rintro _ _ ⟨x7_98, rfl, hT, u99, hu99, p98_0, p98_1, p98_2, p98_3, q1_98, q0_98, st_98, rfl⟩
          have k100 := hT.t7
          refine ezw_if_eq rfl rfl ⟨by omega, by omega⟩ (fun h93_100 => ?_) (fun h93_100 => ?_)
          · have ew : ezm_sn i8 x7_98 r74 r76 40 = ezm_sn i8 i7 r74 r76 40 := by rw [show x7_98 = i7 by omega]
            have stC : ezm_ST x.1 i8 x7_98 := ezm_ST_7 st (by omega) (fun _ => by omega)
            refine ezw_aload_n rfl rfl ?_
            refine ezw_bipush (40) rfl rfl ?_
            refine ezw_call0_1 rfl (by omega) (ezm_at rfl) rfl rfl rfl rfl (ezm_m252p hT (by omega) ⟨by decide, by decide⟩ (by omega) hs (by omega) tk hM stC (by omega)) ?_
            rintro _ _ ⟨x7_101, rfl, hT, u102, hu102, p101_0, p101_1, p101_2, p101_3, q1_101, q0_101, st_101, rfl⟩
            have k103 := hT.t7
            refine ezw_if_eq rfl rfl ⟨by omega, by omega⟩ (fun h118_103 => ?_) (fun h118_103 => ?_)
            · have hlt : i7 < n := by
                first
                  | omega
                  | exact ezm_lt hn.2 hs (show r74 i7 ≠ 0 by omega)
              refine ezw_aload_n rfl rfl ?_
              refine ezw_iload_n rfl rfl ?_
              refine ezw_if_eq rfl rfl ⟨by decide, by decide⟩ (fun h139_103 => absurd h139_103 (by omega)) (fun h139_103 => ?_)
              refine ezw_iconst (1) rfl rfl ?_
              refine ezw_goto rfl rfl ?_
              refine ezw_iload_n rfl rfl ?_
              refine ezw_if_eq rfl rfl ⟨by decide, by decide⟩ (fun h148_103 => absurd h148_103 (by omega)) (fun h148_103 => ?_)
              refine ezw_aload_n rfl rfl ?_
              refine ezm_gp (p := 76) rfl (fun _ => rfl) ?_
              refine ezw_aload_n rfl rfl ?_
              refine ezm_g7 rfl ?_
              refine ezm_l76 rfl (by omega) (by omega) (fun u104 eu104 => ?_)
              have ku104 : ezw_il u104 := eu104 ▸ hT.t76 x7_101
              have h76 : r76 x7_101 = r76 i7 := by rw [show x7_101 = i7 by omega]
              have hV := ezv_V (k := x.1.2) tp (by omega)
              refine ezw_l2i rfl rfl ?_
              refine ezw_goto rfl rfl ?_
              refine ezw_call0_2 rfl (by omega) (ezm_at rfl) rfl rfl rfl rfl (ezm_m251 hT (by omega) ⟨by decide, by decide⟩ ⟨by omega, by omega⟩ (by omega)) ?_
              rintro _ _ ⟨x13_105, x79_105, x80_105, rfl, hT, p105_0, fo_105, eo_105, ea_105, rfl⟩
              have k106 := hT.t13
              refine ezw_aload_n rfl rfl ?_
              refine ezw_dup rfl rfl ?_
              refine ezm_g7 rfl ?_
              refine ezw_iconst (1) rfl rfl ?_
              refine ezw_iadd (k := x7_101 + 1) rfl (by omega) ?_
              refine ezm_p7 hT rfl ⟨by omega, by omega⟩ (fun hT => ?_)
              exact ezw_return rfl rfl ⟨(x7_101 + 1), i8, x13_105, x79_105, x80_105, rfl, hT, by omega, by omega, by omega, fo_105, fun z => ezm_sg1 (by first | exact Or.inl eo_105 | exact Or.inr ⟨eo_105, by rw [ea_105]; omega, by rw [ea_105]; omega⟩ | exact absurd z (by omega)) (by omega), by
                    first
                      | (exfalso; omega)
                      | (rw [hml, ezp_pt_s]
                         repeat (first | rw [if_pos (by omega)] | rw [if_neg (by omega)])
                         first
                           | exact ezm_ST_t st (by omega) (fun _ => by omega)
                           | exact st
                           | exact ezm_ST_7 st (by omega) (fun _ => by omega)
                           | (have h9 := st; rw [ezp_wr_n (by omega)] at h9 ⊢; exact ezm_ST_7 st (by omega) (fun _ => by omega))
                           | (rw [ezp_wr_n (by omega)]; exact ezm_ST_7 st (by omega) (fun _ => by omega))), by
                    first
                      | (exfalso; omega)
                      | (rw [hml, ezp_pt_s]
                         repeat (first | rw [if_pos (by omega)] | rw [if_neg (by omega)])
                         exact ezm_LM_em lm fo_105 (by rw [eo_105]; exact (ezm_mo_1 (ezv_V tp (by omega)).1).symm) (by rw [ea_105]; exact (ezm_ma_1 (by omega) (ezv_V tp (by omega)).1).symm) (by omega))
                      | (rw [hml, ezp_pt_s]
                         repeat (first | rw [if_pos (by omega)] | rw [if_neg (by omega)])
                         exact ezm_LM_em lm fo_105 (by rw [eo_105]; exact (ezm_mo_2 (by omega) (by omega)).symm) (by rw [ea_105]; exact (ezm_ma_2 (by omega) (by omega) (by omega)).symm) (by omega)), rfl⟩
            · have stT : ezm_ST (ezp_t x.1) i8 x7_101 := ezm_ST_t st (by omega) (fun _ => by omega)
              refine ezw_aload_n rfl rfl ?_
              refine ezw_iload_n rfl rfl ?_
              refine ezw_iconst (1) rfl rfl ?_
              refine ezw_iadd (k := dd + 1) rfl (by omega) ?_
              refine ezw_call0_1 rfl (by omega) (ezm_at rfl) rfl rfl rfl rfl ((i245 _ _ _ _ _ _ _ _ _ _ _ _ _ _ _ _ _ _ _ _ _ _ _ _ _ _ _ _ _ _ _ _ _ _ _ _ _ _ _ _ _ _ _ _ _ (ezp_t x.1, x.2) _ _ _ hT (by omega) (by omega) (by omega) hs (by omega) tk hM stT (by omega) lm tp (by omega))) ?_
              rintro _ _ ⟨x7_107, x8_107, x13_107, x79_107, x80_107, rfl, hT, p107_0, p107_1, p107_2, fo_107, sg_107, st_107, lm_107, rfl⟩
              have k108 := hT.t7
              have k109 := hT.t8
              have k110 := hT.t13
              refine ezw_aload_n rfl rfl ?_
              refine ezw_bipush (41) rfl rfl ?_
              refine ezw_call0_1 rfl (by omega) (ezm_at rfl) rfl rfl rfl rfl (ezm_m253p hT (by omega) ⟨by decide, by decide⟩ (by omega) hs (by omega) tk hM st_107 (by omega)) ?_
              rintro _ _ ⟨x7_111, x8_111, rfl, hT, p111_0, p111_1, p111_2, st_111, rfl⟩
              have k112 := hT.t7
              have k113 := hT.t8
              refine ezw_goto rfl rfl ?_
              exact ezw_return rfl rfl ⟨x7_111, x8_111, x13_107, x79_107, x80_107, rfl, hT, by omega, by omega, by omega, fo_107, fun z => sg_107 (by omega), by
                    first
                      | (exfalso; omega)
                      | (rw [hml, ezp_pt_s]
                         repeat (first | rw [if_pos (by omega)] | rw [if_neg (by omega)])
                         have h9 := st_111
                         exact h9), by
                    first
                      | (exfalso; omega)
                      | (rw [hml, ezp_pt_s]
                         repeat (first | rw [if_pos (by omega)] | rw [if_neg (by omega)])
                         exact lm_107), rfl⟩
          · have stT : ezm_ST (ezp_t x.1) i8 x7_98 := ezm_ST_t st (by omega) (fun _ => by omega)
            refine ezw_aload_n rfl rfl ?_
            refine ezw_iload_n rfl rfl ?_
            refine ezw_iconst (1) rfl rfl ?_
            refine ezw_iadd (k := dd + 1) rfl (by omega) ?_
            refine ezw_call0_1 rfl (by omega) (ezm_at rfl) rfl rfl rfl rfl ((i249 _ _ _ _ _ _ _ _ _ _ _ _ _ _ _ _ _ _ _ _ _ _ _ _ _ _ _ _ _ _ _ _ _ _ _ _ _ _ _ _ _ _ _ _ _ (ezp_t x.1, x.2) _ _ _ hT (by omega) (by omega) (by omega) hs (by omega) tk hM stT (by omega) lm tp (by omega))) ?_
            rintro _ _ ⟨x7_114, x8_114, x13_114, x79_114, x80_114, rfl, hT, p114_0, p114_1, p114_2, fo_114, sg_114, st_114, lm_114, rfl⟩
            have k115 := hT.t7
            have k116 := hT.t8
            have k117 := hT.t13
            refine ezw_aload_n rfl rfl ?_
            refine ezw_iconst (3) rfl rfl ?_
            refine ezw_iconst (0) rfl rfl ?_
            refine ezw_call0_2 rfl (by omega) (ezm_at rfl) rfl rfl rfl rfl (ezm_m251 hT (by omega) ⟨by decide, by decide⟩ ⟨by decide, by decide⟩ (by omega)) ?_
            rintro _ _ ⟨x13_118, x79_118, x80_118, rfl, hT, p118_0, fo_118, eo_118, ea_118, rfl⟩
            have k119 := hT.t13
            refine ezw_goto rfl rfl ?_
            exact ezw_return rfl rfl ⟨x7_114, x8_114, x13_118, x79_118, x80_118, rfl, hT, by omega, by omega, by omega, (ezm_fr_t fo_114 fo_118 (by omega)), fun z => ezm_sgN (sg_114 (by omega)) fo_118 eo_118 (by omega), by
                  first
                    | (exfalso; omega)
                    | (rw [hml, ezp_pt_s]
                       repeat (first | rw [if_pos (by omega)] | rw [if_neg (by omega)])
                       exact st_114), by
                  first
                    | (exfalso; omega)
                    | (rw [hml, ezp_pt_s]
                       repeat (first | rw [if_pos (by omega)] | rw [if_neg (by omega)])
                       exact ezm_LM_em lm_114 fo_118 (by rw [eo_118]; decide) (by rw [ea_118]; decide) (by omega)), rfl⟩
        · exact ezw_return rfl rfl ⟨i7, i8, i13, r79, r80, rfl, hT, by omega, by omega, by omega, ezm_fr_r _ _ _, fun z => absurd z (by omega), by
                first
                  | (exfalso; omega)
                  | (rw [hml, ezp_pt_s]
                     repeat (first | rw [if_pos (by omega)] | rw [if_neg (by omega)])
                     first
                       | exact ezm_ST_t st (by omega) (fun _ => by omega)
                       | exact st
                       | exact ezm_ST_7 st (by omega) (fun _ => by omega)
                       | (have h9 := st; rw [ezp_wr_n (by omega)] at h9 ⊢; exact ezm_ST_7 st (by omega) (fun _ => by omega))
                       | (rw [ezp_wr_n (by omega)]; exact ezm_ST_7 st (by omega) (fun _ => by omega))), by
                first
                  | (exfalso; omega)
                  | (rw [hml, ezp_pt_s]
                     repeat (first | rw [if_pos (by omega)] | rw [if_neg (by omega)])
                     exact lm), rfl⟩
      · refine ezw_iload_n rfl rfl ?_
        refine ezw_if_ne rfl rfl ⟨by decide, by decide⟩ (fun h40_119 => ?_) (fun h40_119 => absurd h40_119 (by omega))
        refine ezw_iload_n rfl rfl ?_
        refine ezw_iconst (5) rfl rfl ?_
        refine ezw_icmp_ne rfl rfl ⟨by omega, by omega⟩ ⟨by decide, by decide⟩ (fun h71_119 => ?_) (fun h71_119 => absurd h71_119 (by omega))
        refine ezw_aload_n rfl rfl ?_
        refine ezm_g8 rfl ?_
        refine ezw_if_le rfl rfl ⟨by omega, by omega⟩ (fun h83_119 => ?_) (fun h83_119 => ?_)
        · have stA : ezm_ST x.1 i8 i7 := ezm_ST_7 st (by omega) (fun _ => by omega)
          refine ezw_aload_n rfl rfl ?_
          refine ezw_bipush (41) rfl rfl ?_
          refine ezw_call0_1 rfl (by omega) (ezm_at rfl) rfl rfl rfl rfl (ezm_m232p hT (by omega) ⟨by decide, by decide⟩ (by omega) hs (by omega) tk hM stA (by omega)) ?_
          rintro _ _ ⟨x7_120, rfl, hT, u121, hu121, p120_0, p120_1, p120_2, p120_3, q1_120, q0_120, st_120, rfl⟩
          have k122 := hT.t7
          refine ezw_if_eq rfl rfl ⟨by omega, by omega⟩ (fun h93_122 => ?_) (fun h93_122 => ?_)
          · have ew : ezm_sn i8 x7_120 r74 r76 40 = ezm_sn i8 i7 r74 r76 40 := by rw [show x7_120 = i7 by omega]
            have stC : ezm_ST x.1 i8 x7_120 := ezm_ST_7 st (by omega) (fun _ => by omega)
            refine ezw_aload_n rfl rfl ?_
            refine ezw_bipush (40) rfl rfl ?_
            refine ezw_call0_1 rfl (by omega) (ezm_at rfl) rfl rfl rfl rfl (ezm_m252p hT (by omega) ⟨by decide, by decide⟩ (by omega) hs (by omega) tk hM stC (by omega)) ?_
            rintro _ _ ⟨x7_123, rfl, hT, u124, hu124, p123_0, p123_1, p123_2, p123_3, q1_123, q0_123, st_123, rfl⟩
            have k125 := hT.t7
            refine ezw_if_eq rfl rfl ⟨by omega, by omega⟩ (fun h118_125 => ?_) (fun h118_125 => ?_)
            · have hlt : i7 < n := by
                first
                  | omega
                  | exact ezm_lt hn.2 hs (show r74 i7 ≠ 0 by omega)
              refine ezw_aload_n rfl rfl ?_
              refine ezw_iload_n rfl rfl ?_
              refine ezw_if_eq rfl rfl ⟨by decide, by decide⟩ (fun h139_125 => absurd h139_125 (by omega)) (fun h139_125 => ?_)
              refine ezw_iconst (1) rfl rfl ?_
              refine ezw_goto rfl rfl ?_
              refine ezw_iload_n rfl rfl ?_
              refine ezw_if_eq rfl rfl ⟨by decide, by decide⟩ (fun h148_125 => absurd h148_125 (by omega)) (fun h148_125 => ?_)
              refine ezw_aload_n rfl rfl ?_
              refine ezm_gp (p := 76) rfl (fun _ => rfl) ?_
              refine ezw_aload_n rfl rfl ?_
              refine ezm_g7 rfl ?_
              refine ezm_l76 rfl (by omega) (by omega) (fun u126 eu126 => ?_)
              have ku126 : ezw_il u126 := eu126 ▸ hT.t76 x7_123
              have h76 : r76 x7_123 = r76 i7 := by rw [show x7_123 = i7 by omega]
              have hV := ezv_V (k := x.1.2) tp (by omega)
              refine ezw_l2i rfl rfl ?_
              refine ezw_goto rfl rfl ?_
              refine ezw_call0_2 rfl (by omega) (ezm_at rfl) rfl rfl rfl rfl (ezm_m251 hT (by omega) ⟨by decide, by decide⟩ ⟨by omega, by omega⟩ (by omega)) ?_
              rintro _ _ ⟨x13_127, x79_127, x80_127, rfl, hT, p127_0, fo_127, eo_127, ea_127, rfl⟩
              have k128 := hT.t13
              refine ezw_aload_n rfl rfl ?_
              refine ezw_dup rfl rfl ?_
              refine ezm_g7 rfl ?_
              refine ezw_iconst (1) rfl rfl ?_
              refine ezw_iadd (k := x7_123 + 1) rfl (by omega) ?_
              refine ezm_p7 hT rfl ⟨by omega, by omega⟩ (fun hT => ?_)
              exact ezw_return rfl rfl ⟨(x7_123 + 1), i8, x13_127, x79_127, x80_127, rfl, hT, by omega, by omega, by omega, fo_127, fun z => ezm_sg1 (by first | exact Or.inl eo_127 | exact Or.inr ⟨eo_127, by rw [ea_127]; omega, by rw [ea_127]; omega⟩ | exact absurd z (by omega)) (by omega), by
                    first
                      | (exfalso; omega)
                      | (rw [hml, ezp_pt_s]
                         repeat (first | rw [if_pos (by omega)] | rw [if_neg (by omega)])
                         first
                           | exact ezm_ST_t st (by omega) (fun _ => by omega)
                           | exact st
                           | exact ezm_ST_7 st (by omega) (fun _ => by omega)
                           | (have h9 := st; rw [ezp_wr_n (by omega)] at h9 ⊢; exact ezm_ST_7 st (by omega) (fun _ => by omega))
                           | (rw [ezp_wr_n (by omega)]; exact ezm_ST_7 st (by omega) (fun _ => by omega))), by
                    first
                      | (exfalso; omega)
                      | (rw [hml, ezp_pt_s]
                         repeat (first | rw [if_pos (by omega)] | rw [if_neg (by omega)])
                         exact ezm_LM_em lm fo_127 (by rw [eo_127]; exact (ezm_mo_1 (ezv_V tp (by omega)).1).symm) (by rw [ea_127]; exact (ezm_ma_1 (by omega) (ezv_V tp (by omega)).1).symm) (by omega))
                      | (rw [hml, ezp_pt_s]
                         repeat (first | rw [if_pos (by omega)] | rw [if_neg (by omega)])
                         exact ezm_LM_em lm fo_127 (by rw [eo_127]; exact (ezm_mo_2 (by omega) (by omega)).symm) (by rw [ea_127]; exact (ezm_ma_2 (by omega) (by omega) (by omega)).symm) (by omega)), rfl⟩
            · have stT : ezm_ST (ezp_t x.1) i8 x7_123 := ezm_ST_t st (by omega) (fun _ => by omega)
              refine ezw_aload_n rfl rfl ?_
              refine ezw_iload_n rfl rfl ?_
              refine ezw_iconst (1) rfl rfl ?_
              refine ezw_iadd (k := dd + 1) rfl (by omega) ?_
              refine ezw_call0_1 rfl (by omega) (ezm_at rfl) rfl rfl rfl rfl ((i245 _ _ _ _ _ _ _ _ _ _ _ _ _ _ _ _ _ _ _ _ _ _ _ _ _ _ _ _ _ _ _ _ _ _ _ _ _ _ _ _ _ _ _ _ _ (ezp_t x.1, x.2) _ _ _ hT (by omega) (by omega) (by omega) hs (by omega) tk hM stT (by omega) lm tp (by omega))) ?_
              rintro _ _ ⟨x7_129, x8_129, x13_129, x79_129, x80_129, rfl, hT, p129_0, p129_1, p129_2, fo_129, sg_129, st_129, lm_129, rfl⟩
              have k130 := hT.t7
              have k131 := hT.t8
              have k132 := hT.t13
              refine ezw_aload_n rfl rfl ?_
              refine ezw_bipush (41) rfl rfl ?_
              refine ezw_call0_1 rfl (by omega) (ezm_at rfl) rfl rfl rfl rfl (ezm_m253p hT (by omega) ⟨by decide, by decide⟩ (by omega) hs (by omega) tk hM st_129 (by omega)) ?_
              rintro _ _ ⟨x7_133, x8_133, rfl, hT, p133_0, p133_1, p133_2, st_133, rfl⟩
              have k134 := hT.t7
              have k135 := hT.t8
              refine ezw_goto rfl rfl ?_
              exact ezw_return rfl rfl ⟨x7_133, x8_133, x13_129, x79_129, x80_129, rfl, hT, by omega, by omega, by omega, fo_129, fun z => sg_129 (by omega), by
                    first
                      | (exfalso; omega)
                      | (rw [hml, ezp_pt_s]
                         repeat (first | rw [if_pos (by omega)] | rw [if_neg (by omega)])
                         have h9 := st_133
                         exact h9), by
                    first
                      | (exfalso; omega)
                      | (rw [hml, ezp_pt_s]
                         repeat (first | rw [if_pos (by omega)] | rw [if_neg (by omega)])
                         exact lm_129), rfl⟩
          · have stT : ezm_ST (ezp_t x.1) i8 x7_120 := ezm_ST_t st (by omega) (fun _ => by omega)
            refine ezw_aload_n rfl rfl ?_
            refine ezw_iload_n rfl rfl ?_
            refine ezw_iconst (1) rfl rfl ?_
            refine ezw_iadd (k := dd + 1) rfl (by omega) ?_
            refine ezw_call0_1 rfl (by omega) (ezm_at rfl) rfl rfl rfl rfl ((i249 _ _ _ _ _ _ _ _ _ _ _ _ _ _ _ _ _ _ _ _ _ _ _ _ _ _ _ _ _ _ _ _ _ _ _ _ _ _ _ _ _ _ _ _ _ (ezp_t x.1, x.2) _ _ _ hT (by omega) (by omega) (by omega) hs (by omega) tk hM stT (by omega) lm tp (by omega))) ?_
            rintro _ _ ⟨x7_136, x8_136, x13_136, x79_136, x80_136, rfl, hT, p136_0, p136_1, p136_2, fo_136, sg_136, st_136, lm_136, rfl⟩
            have k137 := hT.t7
            have k138 := hT.t8
            have k139 := hT.t13
            refine ezw_aload_n rfl rfl ?_
            refine ezw_iconst (3) rfl rfl ?_
            refine ezw_iconst (0) rfl rfl ?_
            refine ezw_call0_2 rfl (by omega) (ezm_at rfl) rfl rfl rfl rfl (ezm_m251 hT (by omega) ⟨by decide, by decide⟩ ⟨by decide, by decide⟩ (by omega)) ?_
            rintro _ _ ⟨x13_140, x79_140, x80_140, rfl, hT, p140_0, fo_140, eo_140, ea_140, rfl⟩
            have k141 := hT.t13
            refine ezw_goto rfl rfl ?_
            exact ezw_return rfl rfl ⟨x7_136, x8_136, x13_140, x79_140, x80_140, rfl, hT, by omega, by omega, by omega, (ezm_fr_t fo_136 fo_140 (by omega)), fun z => ezm_sgN (sg_136 (by omega)) fo_140 eo_140 (by omega), by
                  first
                    | (exfalso; omega)
                    | (rw [hml, ezp_pt_s]
                       repeat (first | rw [if_pos (by omega)] | rw [if_neg (by omega)])
                       exact st_136), by
                  first
                    | (exfalso; omega)
                    | (rw [hml, ezp_pt_s]
                       repeat (first | rw [if_pos (by omega)] | rw [if_neg (by omega)])
                       exact ezm_LM_em lm_136 fo_140 (by rw [eo_140]; decide) (by rw [ea_140]; decide) (by omega)), rfl⟩
        · exact ezw_return rfl rfl ⟨i7, i8, i13, r79, r80, rfl, hT, by omega, by omega, by omega, ezm_fr_r _ _ _, fun z => absurd z (by omega), by
                first
                  | (exfalso; omega)
                  | (rw [hml, ezp_pt_s]
                     repeat (first | rw [if_pos (by omega)] | rw [if_neg (by omega)])
                     first
                       | exact ezm_ST_t st (by omega) (fun _ => by omega)
                       | exact st
                       | exact ezm_ST_7 st (by omega) (fun _ => by omega)
                       | (have h9 := st; rw [ezp_wr_n (by omega)] at h9 ⊢; exact ezm_ST_7 st (by omega) (fun _ => by omega))
                       | (rw [ezp_wr_n (by omega)]; exact ezm_ST_7 st (by omega) (fun _ => by omega))), by
                first
                  | (exfalso; omega)
                  | (rw [hml, ezp_pt_s]
                     repeat (first | rw [if_pos (by omega)] | rw [if_neg (by omega)])
                     exact lm), rfl⟩
  · exact ezw_return rfl rfl ⟨i7, i8, i13, r79, r80, rfl, hT, by omega, by omega, by omega, ezm_fr_r _ _ _, fun z => absurd z (by omega), by
          first
            | (exfalso; omega)
            | (rw [hml, ezp_pt_s]
               repeat (first | rw [if_pos (by omega)] | rw [if_neg (by omega)])
               first
                 | exact ezm_ST_t st (by omega) (fun _ => by omega)
                 | exact st
                 | exact ezm_ST_7 st (by omega) (fun _ => by omega)
                 | (have h9 := st; rw [ezp_wr_n (by omega)] at h9 ⊢; exact ezm_ST_7 st (by omega) (fun _ => by omega))
                 | (rw [ezp_wr_n (by omega)]; exact ezm_ST_7 st (by omega) (fun _ => by omega))), by
          first
            | (exfalso; omega)
            | (rw [hml, ezp_pt_s]
               repeat (first | rw [if_pos (by omega)] | rw [if_neg (by omega)])
               exact lm), rfl⟩
def ezm_m248_vSpQ (e : Bool × Bool) (F : Nat → Nat → Int) (A : Nat → Int → Int) (i0 i2 i3 i7 i8 i13 i18 i19 i20 i25 i29 i30 i31 i36 i37 i38 : Int) (r73 r74 r75 r76 r77 r78 r79 r80 r81 r82 r83 r84 r85 r86 r87 r88 r89 r90 r91 r92 r93 r94 r95 : Int → Int) (n : Int) (c : Int → Int) (x : ezp_X) (kk : Int) (tpn : Int) (ml : Nat) (mm : Nat) (dd : Int) : Option ezq_V → (Nat → ezq_C) → Prop := fun v g' => ∃ (x7 x8 x13 : Int) (x79 x80 : Int → Int), ezm_h e F A i0 i2 i3 x7 x8 x13 i18 i19 i20 i25 i29 i30 i31 i36 i37 i38 r73 r74 r75 r76 r77 r78 x79 x80 r81 r82 r83 r84 r85 r86 r87 r88 r89 r90 r91 r92 r93 r94 r95 = g' ∧ ezm_T i0 i2 i3 x7 x8 x13 i18 i19 i20 i25 i29 i30 i31 i36 i37 i38 r73 r74 r75 r76 r77 r78 x79 x80 r81 r82 r83 r84 r85 r86 r87 r88 r89 r90 r91 r92 r93 r94 r95 ∧ (i8 ≠ 0 → x8 ≠ 0) ∧ (i7 ≤ x7 ∧ x7 ≤ n) ∧ (i13 ≤ x13 ∧ x13 - i13 ≤ x7 - i7) ∧ (ezm_fr r79 r80 x79 x80 (i13 + 1100)) ∧ (x8 = 0 → ezm_sg x79 x80 (i13 + 1100) (x13 + 1100)) ∧ (ezm_ST ((ezp_rk c (ezp_pt c ml) 1 x).1) x8 x7) ∧ (ezm_LM kk ((ezp_rk c (ezp_pt c ml) 1 x).2) x13 x79 x80) ∧ none = v
set_option maxHeartbeats 8000000 in
theorem ezm_m248_vSp {c : Int → Int} {x : ezp_X} {ml : Nat} {mm : Nat} {n kk tpn dd : Int} (hT : ezm_T i0 i2 i3 i7 i8 i13 i18 i19 i20 i25 i29 i30 i31 i36 i37 i38 r73 r74 r75 r76 r77 r78 r79 r80 r81 r82 r83 r84 r85 r86 r87 r88 r89 r90 r91 r92 r93 r94 r95) (hd : 6 * mm + 8 ≤ d) (hml : ml = mm + 1) (hm4 : mm ≤ 4) (hdd : dd = 5 - (ml : Int)) (i249 : ezm_I249 l ρ B xa Hb D cA mm) (i245 : ezm_I245 l ρ B xa Hb D cA mm) (hc : 0 ≤ i13 ∧ i13 ≤ i7) (hn : 0 ≤ i7 ∧ i7 ≤ n) (hs : r74 n = 0) (h1 : n ≤ 1000) (tk : ezm_TK c n r74 r75 r76) (hM : ∀ w, 0 ≤ w → w < 48 → r77 w = ezl_mw.getD w.toNat 0) (st : ezm_ST x.1 i8 i7) (g1 : 1 ≤ i7) (lm : ezm_LM kk x.2 i13 r79 r80) (tp : ezp_tp c tpn) : ezw_C l ρ B xa Hb D cA 248 d [ezw_p 72, ezw_i dd] (ezm_h e F A i0 i2 i3 i7 i8 i13 i18 i19 i20 i25 i29 i30 i31 i36 i37 i38 r73 r74 r75 r76 r77 r78 r79 r80 r81 r82 r83 r84 r85 r86 r87 r88 r89 r90 r91 r92 r93 r94 r95) (ezm_m248_vSpQ  e F A i0 i2 i3 i7 i8 i13 i18 i19 i20 i25 i29 i30 i31 i36 i37 i38 r73 r74 r75 r76 r77 r78 r79 r80 r81 r82 r83 r84 r85 r86 r87 r88 r89 r90 r91 r92 r93 r94 r95 n c x kk tpn ml mm dd) := by
  refine ezw_met (k := 0) rfl rfl ?_
  refine ezw_aload_n rfl rfl ?_
  refine ezw_iload_n rfl rfl ?_
  refine ezw_call0_1 rfl (by omega) (ezm_at rfl) rfl rfl rfl rfl (ezm_m249_vSp (x := x) hT (by omega) hml hm4 hdd i249 i245 (by omega) (by omega) hs (by omega) tk hM st (by omega) lm tp) ?_
  rintro _ _ ⟨x7_1, x8_1, x13_1, x79_1, x80_1, rfl, hT, p1_0, p1_1, p1_2, fo_1, sg_1, st_1, lm_1, rfl⟩
  have k2 := hT.t7
  have k3 := hT.t8
  have k4 := hT.t13
  have L5_6 : ∀ c5 : Int, ezw_in c5 → ∀ x8_6 : Int, ∀ x13_6 : Int, ∀ x79_6 : Int → Int, ∀ x80_6 : Int → Int, ezm_T i0 i2 i3 c5 x8_6 x13_6 i18 i19 i20 i25 i29 i30 i31 i36 i37 i38 r73 r74 r75 r76 r77 r78 x79_6 x80_6 r81 r82 r83 r84 r85 r86 r87 r88 r89 r90 r91 r92 r93 r94 r95 → (x7_1 ≤ c5) → (i8 ≠ 0 → x8_6 ≠ 0) → (i7 ≤ c5 ∧ c5 ≤ n) → (i13 ≤ x13_6 ∧ x13_6 - i13 ≤ c5 - i7) → (ezm_fr r79 r80 x79_6 x80_6 (i13 + 1100)) → (x8_6 = 0 → ezm_sg x79_6 x80_6 (i13 + 1100) (x13_6 + 1100)) → (∃ (x1 : ezp_X) (m : Nat), ezp_rk c (ezp_pt c ml) 1 x = ezp_lp c 3 (ezp_rk c (ezp_pt c ml) 0) m x1 ∧ ezm_ST x1.1 x8_6 c5 ∧ 1001 ≤ (m : Int) + c5 ∧ ezm_LM kk x1.2 x13_6 x79_6 x80_6) → ezw_E l ρ B xa Hb D cA d ezq_re248 (ezm_m248_vSpQ  e F A i0 i2 i3 i7 i8 i13 i18 i19 i20 i25 i29 i30 i31 i36 i37 i38 r73 r74 r75 r76 r77 r78 r79 r80 r81 r82 r83 r84 r85 r86 r87 r88 r89 r90 r91 r92 r93 r94 r95 n c x kk tpn ml mm dd) 5 [some (ezw_p 72), some (ezw_i dd)] [] (ezm_h e F A i0 i2 i3 c5 x8_6 x13_6 i18 i19 i20 i25 i29 i30 i31 i36 i37 i38 r73 r74 r75 r76 r77 r78 x79_6 x80_6 r81 r82 r83 r84 r85 r86 r87 r88 r89 r90 r91 r92 r93 r94 r95) := by
    refine ezs_up ?_
    intro c5 hc5 ihc5 x8_6 x13_6 x79_6 x80_6 hT g_6 v1_6 v2_6 v3_6 fo_6 sg_6 iv_6
    have k7 := hT.t7
    have k8 := hT.t8
    have k9 := hT.t13
    obtain ⟨x1, m, hq, st1, hm1, lm1⟩ := iv_6
    obtain ⟨se1, sa1, -, -, -, -⟩ := ezm_TKi tk st1 (by omega)
    obtain ⟨m0, rfl⟩ : ∃ m0, m = m0 + 1 := ⟨m - 1, by omega⟩
    refine ezw_aload_n rfl rfl ?_
    refine ezw_bipush (42) rfl rfl ?_
    refine ezw_call0_1 rfl (by omega) (ezm_at rfl) rfl rfl rfl rfl (ezm_m252p hT (by omega) ⟨by decide, by decide⟩ (by omega) hs (by omega) tk hM st1 (by omega)) ?_
    rintro _ _ ⟨x7_10, rfl, hT, u11, hu11, p10_0, p10_1, p10_2, p10_3, q1_10, q0_10, st_10, rfl⟩
    have k12 := hT.t7
    refine ezw_if_eq rfl rfl ⟨by omega, by omega⟩ (fun h11_12 => ?_) (fun h11_12 => ?_)
    · exact ezw_return rfl rfl ⟨x7_10, x8_6, x13_6, x79_6, x80_6, rfl, hT, by omega, by omega, by omega, fo_6, sg_6, by
            rw [hq]
            by_cases z1 : x1.1.1 = 0
            · rw [ezp_lp_0 z1 (by
                unfold ezp_op
                repeat (first | rw [if_pos (by omega)] | rw [if_neg (by omega)]))]
              exact ezm_ST_7 st1 (by omega) (fun _ => by omega)
            · rw [ezp_lp_n z1]
              exact ezm_ST_7 st1 (by omega) (fun _ => by omega), by
            rw [hq]
            by_cases z1 : x1.1.1 = 0
            · rw [ezp_lp_0 z1 (by
                unfold ezp_op
                repeat (first | rw [if_pos (by omega)] | rw [if_neg (by omega)]))]
              exact lm1
            · rw [ezp_lp_n z1]
              exact lm1, rfl⟩
    · have z1 : x1.1.1 = 0 := by omega
      have hop : ezp_op (ezp_K c x1.1.2) 3 ≠ 0 := by
        unfold ezp_op
        repeat (first | rw [if_pos (by omega)] | rw [if_neg (by omega)])
        decide
      have stT : ezm_ST (ezp_t x1.1) x8_6 x7_10 := ezm_ST_t st1 (by omega) (fun _ => by omega)
      refine ezw_aload_n rfl rfl ?_
      refine ezw_iload_n rfl rfl ?_
      refine ezw_call0_1 rfl (by omega) (ezm_at rfl) rfl rfl rfl rfl (ezm_m249_vSp (x := (ezp_t x1.1, x1.2)) hT (by omega) hml hm4 hdd i249 i245 (by omega) (by omega) hs (by omega) tk hM stT (by omega) lm1 tp) ?_
      rintro _ _ ⟨x7_13, x8_13, x13_13, x79_13, x80_13, rfl, hT, p13_0, p13_1, p13_2, fo_13, sg_13, st_13, lm_13, rfl⟩
      have k14 := hT.t7
      have k15 := hT.t8
      have k16 := hT.t13
      refine ezw_aload_n rfl rfl ?_
      refine ezw_bipush (6) rfl rfl ?_
      refine ezw_iconst (0) rfl rfl ?_
      refine ezw_call0_2 rfl (by omega) (ezm_at rfl) rfl rfl rfl rfl (ezm_m251 hT (by omega) ⟨by decide, by decide⟩ ⟨by decide, by decide⟩ (by omega)) ?_
      rintro _ _ ⟨x13_17, x79_17, x80_17, rfl, hT, p17_0, fo_17, eo_17, ea_17, rfl⟩
      have k18 := hT.t13
      refine ezw_goto rfl rfl ?_
      exact ezw_keepE [true, true] (ihc5 x7_13 (by omega) ⟨by omega, by omega⟩ x8_13 x13_17 x79_17 x80_17 hT (by omega) (by omega) (by omega) (by omega) (ezm_fr_t (ezm_fr_t fo_6 fo_13 (by omega)) fo_17 (by omega)) (fun z => ezm_sgB (sg_6 (by omega)) fo_13 (sg_13 (by omega)) fo_17 (by rw [eo_17]; decide) (by omega)) (⟨ezp_l1 c 3 (ezp_rk c (ezp_pt c ml) 0) x1, m0, (by rw [hq, ezp_lp_s z1 hop (by decide)]), st_13, by omega, (ezm_LM_em lm_13 fo_17 (by rw [eo_17]; exact (by
            unfold ezp_op
            repeat (first | rw [if_pos (by omega)] | rw [if_neg (by omega)])
            first | decide | (exfalso; omega))) (by rw [ea_17]; exact (by
            unfold ezp_op
            repeat (first | rw [if_pos (by omega)] | rw [if_neg (by omega)])
            first | decide | (exfalso; omega))) (by omega))⟩))
  exact ezw_keepE [true, true] (L5_6 x7_1 ⟨by omega, by omega⟩ x8_1 x13_1 x79_1 x80_1 hT (by omega) (by omega) (by omega) (by omega) fo_1 sg_1 (⟨(ezp_rk c (ezp_pt c ml) 0) x, 1000, rfl, st_1, by omega, lm_1⟩))
def ezm_m247_vSpQ (e : Bool × Bool) (F : Nat → Nat → Int) (A : Nat → Int → Int) (i0 i2 i3 i7 i8 i13 i18 i19 i20 i25 i29 i30 i31 i36 i37 i38 : Int) (r73 r74 r75 r76 r77 r78 r79 r80 r81 r82 r83 r84 r85 r86 r87 r88 r89 r90 r91 r92 r93 r94 r95 : Int → Int) (n : Int) (c : Int → Int) (x : ezp_X) (kk : Int) (tpn : Int) (ml : Nat) (mm : Nat) (dd : Int) : Option ezq_V → (Nat → ezq_C) → Prop := fun v g' => ∃ (x7 x8 x13 : Int) (x79 x80 : Int → Int), ezm_h e F A i0 i2 i3 x7 x8 x13 i18 i19 i20 i25 i29 i30 i31 i36 i37 i38 r73 r74 r75 r76 r77 r78 x79 x80 r81 r82 r83 r84 r85 r86 r87 r88 r89 r90 r91 r92 r93 r94 r95 = g' ∧ ezm_T i0 i2 i3 x7 x8 x13 i18 i19 i20 i25 i29 i30 i31 i36 i37 i38 r73 r74 r75 r76 r77 r78 x79 x80 r81 r82 r83 r84 r85 r86 r87 r88 r89 r90 r91 r92 r93 r94 r95 ∧ (i8 ≠ 0 → x8 ≠ 0) ∧ (i7 ≤ x7 ∧ x7 ≤ n) ∧ (i13 ≤ x13 ∧ x13 - i13 ≤ x7 - i7) ∧ (ezm_fr r79 r80 x79 x80 (i13 + 1100)) ∧ (x8 = 0 → ezm_sg x79 x80 (i13 + 1100) (x13 + 1100)) ∧ (ezm_ST ((ezp_rk c (ezp_pt c ml) 2 x).1) x8 x7) ∧ (ezm_LM kk ((ezp_rk c (ezp_pt c ml) 2 x).2) x13 x79 x80) ∧ none = v
set_option maxHeartbeats 8000000 in
theorem ezm_m247_vSp {c : Int → Int} {x : ezp_X} {ml : Nat} {mm : Nat} {n kk tpn dd : Int} (hT : ezm_T i0 i2 i3 i7 i8 i13 i18 i19 i20 i25 i29 i30 i31 i36 i37 i38 r73 r74 r75 r76 r77 r78 r79 r80 r81 r82 r83 r84 r85 r86 r87 r88 r89 r90 r91 r92 r93 r94 r95) (hd : 6 * mm + 9 ≤ d) (hml : ml = mm + 1) (hm4 : mm ≤ 4) (hdd : dd = 5 - (ml : Int)) (i249 : ezm_I249 l ρ B xa Hb D cA mm) (i245 : ezm_I245 l ρ B xa Hb D cA mm) (hc : 0 ≤ i13 ∧ i13 ≤ i7) (hn : 0 ≤ i7 ∧ i7 ≤ n) (hs : r74 n = 0) (h1 : n ≤ 1000) (tk : ezm_TK c n r74 r75 r76) (hM : ∀ w, 0 ≤ w → w < 48 → r77 w = ezl_mw.getD w.toNat 0) (st : ezm_ST x.1 i8 i7) (g1 : 1 ≤ i7) (lm : ezm_LM kk x.2 i13 r79 r80) (tp : ezp_tp c tpn) : ezw_C l ρ B xa Hb D cA 247 d [ezw_p 72, ezw_i dd] (ezm_h e F A i0 i2 i3 i7 i8 i13 i18 i19 i20 i25 i29 i30 i31 i36 i37 i38 r73 r74 r75 r76 r77 r78 r79 r80 r81 r82 r83 r84 r85 r86 r87 r88 r89 r90 r91 r92 r93 r94 r95) (ezm_m247_vSpQ  e F A i0 i2 i3 i7 i8 i13 i18 i19 i20 i25 i29 i30 i31 i36 i37 i38 r73 r74 r75 r76 r77 r78 r79 r80 r81 r82 r83 r84 r85 r86 r87 r88 r89 r90 r91 r92 r93 r94 r95 n c x kk tpn ml mm dd) := by
  refine ezw_met (k := 1) rfl rfl ?_
  refine ezw_aload_n rfl rfl ?_
  refine ezw_iload_n rfl rfl ?_
  refine ezw_call0_1 rfl (by omega) (ezm_at rfl) rfl rfl rfl rfl (ezm_m248_vSp (x := x) hT (by omega) hml hm4 hdd i249 i245 (by omega) (by omega) hs (by omega) tk hM st (by omega) lm tp) ?_
  rintro _ _ ⟨x7_1, x8_1, x13_1, x79_1, x80_1, rfl, hT, p1_0, p1_1, p1_2, fo_1, sg_1, st_1, lm_1, rfl⟩
  have k2 := hT.t7
  have k3 := hT.t8
  have k4 := hT.t13
  have L5_6 : ∀ c5 : Int, ezw_in c5 → ∀ x8_6 : Int, ∀ x13_6 : Int, ∀ x79_6 : Int → Int, ∀ x80_6 : Int → Int, ezm_T i0 i2 i3 c5 x8_6 x13_6 i18 i19 i20 i25 i29 i30 i31 i36 i37 i38 r73 r74 r75 r76 r77 r78 x79_6 x80_6 r81 r82 r83 r84 r85 r86 r87 r88 r89 r90 r91 r92 r93 r94 r95 → (x7_1 ≤ c5) → (i8 ≠ 0 → x8_6 ≠ 0) → (i7 ≤ c5 ∧ c5 ≤ n) → (i13 ≤ x13_6 ∧ x13_6 - i13 ≤ c5 - i7) → (ezm_fr r79 r80 x79_6 x80_6 (i13 + 1100)) → (x8_6 = 0 → ezm_sg x79_6 x80_6 (i13 + 1100) (x13_6 + 1100)) → (∃ (x1 : ezp_X) (m : Nat), ezp_rk c (ezp_pt c ml) 2 x = ezp_lp c 2 (ezp_rk c (ezp_pt c ml) 1) m x1 ∧ ezm_ST x1.1 x8_6 c5 ∧ 1001 ≤ (m : Int) + c5 ∧ ezm_LM kk x1.2 x13_6 x79_6 x80_6) → ezw_E l ρ B xa Hb D cA d ezq_re247 (ezm_m247_vSpQ  e F A i0 i2 i3 i7 i8 i13 i18 i19 i20 i25 i29 i30 i31 i36 i37 i38 r73 r74 r75 r76 r77 r78 r79 r80 r81 r82 r83 r84 r85 r86 r87 r88 r89 r90 r91 r92 r93 r94 r95 n c x kk tpn ml mm dd) 5 [some (ezw_p 72), some (ezw_i dd), none] [] (ezm_h e F A i0 i2 i3 c5 x8_6 x13_6 i18 i19 i20 i25 i29 i30 i31 i36 i37 i38 r73 r74 r75 r76 r77 r78 x79_6 x80_6 r81 r82 r83 r84 r85 r86 r87 r88 r89 r90 r91 r92 r93 r94 r95) := by
    refine ezs_up ?_
    intro c5 hc5 ihc5 x8_6 x13_6 x79_6 x80_6 hT g_6 v1_6 v2_6 v3_6 fo_6 sg_6 iv_6
    have k7 := hT.t7
    have k8 := hT.t8
    have k9 := hT.t13
    obtain ⟨x1, m, hq, st1, hm1, lm1⟩ := iv_6
    obtain ⟨se1, sa1, -, -, -, -⟩ := ezm_TKi tk st1 (by omega)
    obtain ⟨m0, rfl⟩ : ∃ m0, m = m0 + 1 := ⟨m - 1, by omega⟩
    refine ezw_aload_n rfl rfl ?_
    refine ezw_bipush (43) rfl rfl ?_
    refine ezw_call0_1 rfl (by omega) (ezm_at rfl) rfl rfl rfl rfl (ezm_m250p hT (by omega) ⟨by decide, by decide⟩ (by omega) hs (by omega) tk hM st1 (by omega)) ?_
    rintro _ _ ⟨rfl, u11, hu11, f_10, w_10, q1_10, q0_10, rfl⟩
    refine ezw_if_ne rfl rfl ⟨by omega, by omega⟩ (fun h11_11 => ?_) (fun h11_11 => ?_)
    · refine ezw_aload_n rfl rfl ?_
      refine ezw_bipush (43) rfl rfl ?_
      refine ezw_call0_1 rfl (by omega) (ezm_at rfl) rfl rfl rfl rfl (ezm_m250p hT (by omega) ⟨by decide, by decide⟩ (by omega) hs (by omega) tk hM st1 (by omega)) ?_
      rintro _ _ ⟨rfl, u13, hu13, f_12, w_12, q1_12, q0_12, rfl⟩
      refine ezw_istore_n rfl rfl ?_
      refine ezw_aload_n rfl rfl ?_
      refine ezw_dup rfl rfl ?_
      refine ezm_g7 rfl ?_
      refine ezw_iconst (1) rfl rfl ?_
      refine ezw_iadd (k := c5 + 1) rfl (by omega) ?_
      refine ezm_p7 hT rfl ⟨by omega, by omega⟩ (fun hT => ?_)
      have z1 : x1.1.1 = 0 := by omega
      have hop : ezp_op (ezp_K c x1.1.2) 2 ≠ 0 := by
        unfold ezp_op
        repeat (first | rw [if_pos (by omega)] | rw [if_neg (by omega)])
        decide
      have stT : ezm_ST (ezp_t x1.1) x8_6 (c5 + 1) := ezm_ST_t st1 (by omega) (fun _ => by omega)
      refine ezw_aload_n rfl rfl ?_
      refine ezw_iload_n rfl rfl ?_
      refine ezw_call0_1 rfl (by omega) (ezm_at rfl) rfl rfl rfl rfl (ezm_m248_vSp (x := (ezp_t x1.1, x1.2)) hT (by omega) hml hm4 hdd i249 i245 (by omega) (by omega) hs (by omega) tk hM stT (by omega) lm1 tp) ?_
      rintro _ _ ⟨x7_14, x8_14, x13_14, x79_14, x80_14, rfl, hT, p14_0, p14_1, p14_2, fo_14, sg_14, st_14, lm_14, rfl⟩
      have k15 := hT.t7
      have k16 := hT.t8
      have k17 := hT.t13
      refine ezw_aload_n rfl rfl ?_
      refine ezw_iload_n rfl rfl ?_
      refine ezw_if_eq rfl rfl ⟨by omega, by omega⟩ (fun h47_17 => ?_) (fun h47_17 => ?_)
      · refine ezw_iconst (5) rfl rfl ?_
        refine ezw_iconst (0) rfl rfl ?_
        refine ezw_call0_2 rfl (by omega) (ezm_at rfl) rfl rfl rfl rfl (ezm_m251 hT (by omega) ⟨by decide, by decide⟩ ⟨by decide, by decide⟩ (by omega)) ?_
        rintro _ _ ⟨x13_18, x79_18, x80_18, rfl, hT, p18_0, fo_18, eo_18, ea_18, rfl⟩
        have k19 := hT.t13
        refine ezw_goto rfl rfl ?_
        exact ezw_keepE [true, true, false] (ihc5 x7_14 (by omega) ⟨by omega, by omega⟩ x8_14 x13_18 x79_18 x80_18 hT (by omega) (by omega) (by omega) (by omega) (ezm_fr_t (ezm_fr_t fo_6 fo_14 (by omega)) fo_18 (by omega)) (fun z => ezm_sgB (sg_6 (by omega)) fo_14 (sg_14 (by omega)) fo_18 (by rw [eo_18]; decide) (by omega)) (⟨ezp_l1 c 2 (ezp_rk c (ezp_pt c ml) 1) x1, m0, (by rw [hq, ezp_lp_s z1 hop (by decide)]), st_14, by omega, (ezm_LM_em lm_14 fo_18 (by rw [eo_18]; exact (by
              unfold ezp_op
              repeat (first | rw [if_pos (by omega)] | rw [if_neg (by omega)])
              first | decide | (exfalso; omega))) (by rw [ea_18]; exact (by
              unfold ezp_op
              repeat (first | rw [if_pos (by omega)] | rw [if_neg (by omega)])
              first | decide | (exfalso; omega))) (by omega))⟩))
      · refine ezw_iconst (4) rfl rfl ?_
        refine ezw_goto rfl rfl ?_
        refine ezw_iconst (0) rfl rfl ?_
        refine ezw_call0_2 rfl (by omega) (ezm_at rfl) rfl rfl rfl rfl (ezm_m251 hT (by omega) ⟨by decide, by decide⟩ ⟨by decide, by decide⟩ (by omega)) ?_
        rintro _ _ ⟨x13_20, x79_20, x80_20, rfl, hT, p20_0, fo_20, eo_20, ea_20, rfl⟩
        have k21 := hT.t13
        refine ezw_goto rfl rfl ?_
        exact ezw_keepE [true, true, false] (ihc5 x7_14 (by omega) ⟨by omega, by omega⟩ x8_14 x13_20 x79_20 x80_20 hT (by omega) (by omega) (by omega) (by omega) (ezm_fr_t (ezm_fr_t fo_6 fo_14 (by omega)) fo_20 (by omega)) (fun z => ezm_sgB (sg_6 (by omega)) fo_14 (sg_14 (by omega)) fo_20 (by rw [eo_20]; decide) (by omega)) (⟨ezp_l1 c 2 (ezp_rk c (ezp_pt c ml) 1) x1, m0, (by rw [hq, ezp_lp_s z1 hop (by decide)]), st_14, by omega, (ezm_LM_em lm_14 fo_20 (by rw [eo_20]; exact (by
              unfold ezp_op
              repeat (first | rw [if_pos (by omega)] | rw [if_neg (by omega)])
              first | decide | (exfalso; omega))) (by rw [ea_20]; exact (by
              unfold ezp_op
              repeat (first | rw [if_pos (by omega)] | rw [if_neg (by omega)])
              first | decide | (exfalso; omega))) (by omega))⟩))
    · refine ezw_aload_n rfl rfl ?_
      refine ezw_bipush (45) rfl rfl ?_
      refine ezw_call0_1 rfl (by omega) (ezm_at rfl) rfl rfl rfl rfl (ezm_m250p hT (by omega) ⟨by decide, by decide⟩ (by omega) hs (by omega) tk hM st1 (by omega)) ?_
      rintro _ _ ⟨rfl, u23, hu23, f_22, w_22, q1_22, q0_22, rfl⟩
      refine ezw_if_eq rfl rfl ⟨by omega, by omega⟩ (fun h20_23 => ?_) (fun h20_23 => ?_)
      · exact ezw_return rfl rfl ⟨c5, x8_6, x13_6, x79_6, x80_6, rfl, hT, by omega, by omega, by omega, fo_6, sg_6, by
              rw [hq]
              by_cases z1 : x1.1.1 = 0
              · rw [ezp_lp_0 z1 (by
                  unfold ezp_op
                  repeat (first | rw [if_pos (by omega)] | rw [if_neg (by omega)]))]
                exact st1
              · rw [ezp_lp_n z1]
                exact st1, by
              rw [hq]
              by_cases z1 : x1.1.1 = 0
              · rw [ezp_lp_0 z1 (by
                  unfold ezp_op
                  repeat (first | rw [if_pos (by omega)] | rw [if_neg (by omega)]))]
                exact lm1
              · rw [ezp_lp_n z1]
                exact lm1, rfl⟩
      · refine ezw_aload_n rfl rfl ?_
        refine ezw_bipush (43) rfl rfl ?_
        refine ezw_call0_1 rfl (by omega) (ezm_at rfl) rfl rfl rfl rfl (ezm_m250p hT (by omega) ⟨by decide, by decide⟩ (by omega) hs (by omega) tk hM st1 (by omega)) ?_
        rintro _ _ ⟨rfl, u25, hu25, f_24, w_24, q1_24, q0_24, rfl⟩
        refine ezw_istore_n rfl rfl ?_
        refine ezw_aload_n rfl rfl ?_
        refine ezw_dup rfl rfl ?_
        refine ezm_g7 rfl ?_
        refine ezw_iconst (1) rfl rfl ?_
        refine ezw_iadd (k := c5 + 1) rfl (by omega) ?_
        refine ezm_p7 hT rfl ⟨by omega, by omega⟩ (fun hT => ?_)
        have z1 : x1.1.1 = 0 := by omega
        have hop : ezp_op (ezp_K c x1.1.2) 2 ≠ 0 := by
          unfold ezp_op
          repeat (first | rw [if_pos (by omega)] | rw [if_neg (by omega)])
          decide
        have stT : ezm_ST (ezp_t x1.1) x8_6 (c5 + 1) := ezm_ST_t st1 (by omega) (fun _ => by omega)
        refine ezw_aload_n rfl rfl ?_
        refine ezw_iload_n rfl rfl ?_
        refine ezw_call0_1 rfl (by omega) (ezm_at rfl) rfl rfl rfl rfl (ezm_m248_vSp (x := (ezp_t x1.1, x1.2)) hT (by omega) hml hm4 hdd i249 i245 (by omega) (by omega) hs (by omega) tk hM stT (by omega) lm1 tp) ?_
        rintro _ _ ⟨x7_26, x8_26, x13_26, x79_26, x80_26, rfl, hT, p26_0, p26_1, p26_2, fo_26, sg_26, st_26, lm_26, rfl⟩
        have k27 := hT.t7
        have k28 := hT.t8
        have k29 := hT.t13
        refine ezw_aload_n rfl rfl ?_
        refine ezw_iload_n rfl rfl ?_
        refine ezw_if_eq rfl rfl ⟨by omega, by omega⟩ (fun h47_29 => ?_) (fun h47_29 => ?_)
        · refine ezw_iconst (5) rfl rfl ?_
          refine ezw_iconst (0) rfl rfl ?_
          refine ezw_call0_2 rfl (by omega) (ezm_at rfl) rfl rfl rfl rfl (ezm_m251 hT (by omega) ⟨by decide, by decide⟩ ⟨by decide, by decide⟩ (by omega)) ?_
          rintro _ _ ⟨x13_30, x79_30, x80_30, rfl, hT, p30_0, fo_30, eo_30, ea_30, rfl⟩
          have k31 := hT.t13
          refine ezw_goto rfl rfl ?_
          exact ezw_keepE [true, true, false] (ihc5 x7_26 (by omega) ⟨by omega, by omega⟩ x8_26 x13_30 x79_30 x80_30 hT (by omega) (by omega) (by omega) (by omega) (ezm_fr_t (ezm_fr_t fo_6 fo_26 (by omega)) fo_30 (by omega)) (fun z => ezm_sgB (sg_6 (by omega)) fo_26 (sg_26 (by omega)) fo_30 (by rw [eo_30]; decide) (by omega)) (⟨ezp_l1 c 2 (ezp_rk c (ezp_pt c ml) 1) x1, m0, (by rw [hq, ezp_lp_s z1 hop (by decide)]), st_26, by omega, (ezm_LM_em lm_26 fo_30 (by rw [eo_30]; exact (by
                unfold ezp_op
                repeat (first | rw [if_pos (by omega)] | rw [if_neg (by omega)])
                first | decide | (exfalso; omega))) (by rw [ea_30]; exact (by
                unfold ezp_op
                repeat (first | rw [if_pos (by omega)] | rw [if_neg (by omega)])
                first | decide | (exfalso; omega))) (by omega))⟩))
        · refine ezw_iconst (4) rfl rfl ?_
          refine ezw_goto rfl rfl ?_
          refine ezw_iconst (0) rfl rfl ?_
          refine ezw_call0_2 rfl (by omega) (ezm_at rfl) rfl rfl rfl rfl (ezm_m251 hT (by omega) ⟨by decide, by decide⟩ ⟨by decide, by decide⟩ (by omega)) ?_
          rintro _ _ ⟨x13_32, x79_32, x80_32, rfl, hT, p32_0, fo_32, eo_32, ea_32, rfl⟩
          have k33 := hT.t13
          refine ezw_goto rfl rfl ?_
          exact ezw_keepE [true, true, false] (ihc5 x7_26 (by omega) ⟨by omega, by omega⟩ x8_26 x13_32 x79_32 x80_32 hT (by omega) (by omega) (by omega) (by omega) (ezm_fr_t (ezm_fr_t fo_6 fo_26 (by omega)) fo_32 (by omega)) (fun z => ezm_sgB (sg_6 (by omega)) fo_26 (sg_26 (by omega)) fo_32 (by rw [eo_32]; decide) (by omega)) (⟨ezp_l1 c 2 (ezp_rk c (ezp_pt c ml) 1) x1, m0, (by rw [hq, ezp_lp_s z1 hop (by decide)]), st_26, by omega, (ezm_LM_em lm_26 fo_32 (by rw [eo_32]; exact (by
                unfold ezp_op
                repeat (first | rw [if_pos (by omega)] | rw [if_neg (by omega)])
                first | decide | (exfalso; omega))) (by rw [ea_32]; exact (by
                unfold ezp_op
                repeat (first | rw [if_pos (by omega)] | rw [if_neg (by omega)])
                first | decide | (exfalso; omega))) (by omega))⟩))
  exact ezw_keepE [true, true, false] (L5_6 x7_1 ⟨by omega, by omega⟩ x8_1 x13_1 x79_1 x80_1 hT (by omega) (by omega) (by omega) (by omega) fo_1 sg_1 (⟨(ezp_rk c (ezp_pt c ml) 1) x, 1000, rfl, st_1, by omega, lm_1⟩))
def ezm_m246_vSpQ (e : Bool × Bool) (F : Nat → Nat → Int) (A : Nat → Int → Int) (i0 i2 i3 i7 i8 i13 i18 i19 i20 i25 i29 i30 i31 i36 i37 i38 : Int) (r73 r74 r75 r76 r77 r78 r79 r80 r81 r82 r83 r84 r85 r86 r87 r88 r89 r90 r91 r92 r93 r94 r95 : Int → Int) (n : Int) (c : Int → Int) (x : ezp_X) (kk : Int) (tpn : Int) (ml : Nat) (mm : Nat) (dd : Int) : Option ezq_V → (Nat → ezq_C) → Prop := fun v g' => ∃ (x7 x8 x13 : Int) (x79 x80 : Int → Int), ezm_h e F A i0 i2 i3 x7 x8 x13 i18 i19 i20 i25 i29 i30 i31 i36 i37 i38 r73 r74 r75 r76 r77 r78 x79 x80 r81 r82 r83 r84 r85 r86 r87 r88 r89 r90 r91 r92 r93 r94 r95 = g' ∧ ezm_T i0 i2 i3 x7 x8 x13 i18 i19 i20 i25 i29 i30 i31 i36 i37 i38 r73 r74 r75 r76 r77 r78 x79 x80 r81 r82 r83 r84 r85 r86 r87 r88 r89 r90 r91 r92 r93 r94 r95 ∧ (i8 ≠ 0 → x8 ≠ 0) ∧ (i7 ≤ x7 ∧ x7 ≤ n) ∧ (i13 ≤ x13 ∧ x13 - i13 ≤ x7 - i7) ∧ (ezm_fr r79 r80 x79 x80 (i13 + 1100)) ∧ (x8 = 0 → ezm_sg x79 x80 (i13 + 1100) (x13 + 1100)) ∧ (ezm_ST ((ezp_rk c (ezp_pt c ml) 3 x).1) x8 x7) ∧ (ezm_LM kk ((ezp_rk c (ezp_pt c ml) 3 x).2) x13 x79 x80) ∧ none = v
set_option maxHeartbeats 8000000 in
theorem ezm_m246_vSp {c : Int → Int} {x : ezp_X} {ml : Nat} {mm : Nat} {n kk tpn dd : Int} (hT : ezm_T i0 i2 i3 i7 i8 i13 i18 i19 i20 i25 i29 i30 i31 i36 i37 i38 r73 r74 r75 r76 r77 r78 r79 r80 r81 r82 r83 r84 r85 r86 r87 r88 r89 r90 r91 r92 r93 r94 r95) (hd : 6 * mm + 10 ≤ d) (hml : ml = mm + 1) (hm4 : mm ≤ 4) (hdd : dd = 5 - (ml : Int)) (i249 : ezm_I249 l ρ B xa Hb D cA mm) (i245 : ezm_I245 l ρ B xa Hb D cA mm) (hc : 0 ≤ i13 ∧ i13 ≤ i7) (hn : 0 ≤ i7 ∧ i7 ≤ n) (hs : r74 n = 0) (h1 : n ≤ 1000) (tk : ezm_TK c n r74 r75 r76) (hM : ∀ w, 0 ≤ w → w < 48 → r77 w = ezl_mw.getD w.toNat 0) (st : ezm_ST x.1 i8 i7) (g1 : 1 ≤ i7) (lm : ezm_LM kk x.2 i13 r79 r80) (tp : ezp_tp c tpn) : ezw_C l ρ B xa Hb D cA 246 d [ezw_p 72, ezw_i dd] (ezm_h e F A i0 i2 i3 i7 i8 i13 i18 i19 i20 i25 i29 i30 i31 i36 i37 i38 r73 r74 r75 r76 r77 r78 r79 r80 r81 r82 r83 r84 r85 r86 r87 r88 r89 r90 r91 r92 r93 r94 r95) (ezm_m246_vSpQ  e F A i0 i2 i3 i7 i8 i13 i18 i19 i20 i25 i29 i30 i31 i36 i37 i38 r73 r74 r75 r76 r77 r78 r79 r80 r81 r82 r83 r84 r85 r86 r87 r88 r89 r90 r91 r92 r93 r94 r95 n c x kk tpn ml mm dd) := by
  refine ezw_met (k := 1) rfl rfl ?_
  refine ezw_aload_n rfl rfl ?_
  refine ezw_iload_n rfl rfl ?_
  refine ezw_call0_1 rfl (by omega) (ezm_at rfl) rfl rfl rfl rfl (ezm_m247_vSp (x := x) hT (by omega) hml hm4 hdd i249 i245 (by omega) (by omega) hs (by omega) tk hM st (by omega) lm tp) ?_
  rintro _ _ ⟨x7_1, x8_1, x13_1, x79_1, x80_1, rfl, hT, p1_0, p1_1, p1_2, fo_1, sg_1, st_1, lm_1, rfl⟩
  have k2 := hT.t7
  have k3 := hT.t8
  have k4 := hT.t13
  obtain ⟨se1, sa1, -, -, -, -⟩ := ezm_TKi tk st_1 (by omega)
  refine ezw_aload_n rfl rfl ?_
  refine ezw_bipush (60) rfl rfl ?_
  refine ezw_call0_1 rfl (by omega) (ezm_at rfl) rfl rfl rfl rfl (ezm_m250p hT (by omega) ⟨by decide, by decide⟩ (by omega) hs (by omega) tk hM st_1 (by omega)) ?_
  rintro _ _ ⟨rfl, u6, hu6, f_5, w_5, q1_5, q0_5, rfl⟩
  refine ezw_istore_n rfl rfl ?_
  refine ezw_aload_n rfl rfl ?_
  refine ezw_bipush (60) rfl rfl ?_
  refine ezw_call0_1 rfl (by omega) (ezm_at rfl) rfl rfl rfl rfl (ezm_m252p hT (by omega) ⟨by decide, by decide⟩ (by omega) hs (by omega) tk hM st_1 (by omega)) ?_
  rintro _ _ ⟨x7_7, rfl, hT, u8, hu8, p7_0, p7_1, p7_2, p7_3, q1_7, q0_7, st_7, rfl⟩
  have k9 := hT.t7
  refine ezw_if_ne rfl rfl ⟨by omega, by omega⟩ (fun h18_9 => ?_) (fun h18_9 => ?_)
  · have z1 : ((ezp_rk c (ezp_pt c ml) 2) x).1.1 = 0 := by omega
    have hop : ezp_op (ezp_K c ((ezp_rk c (ezp_pt c ml) 2) x).1.2) 1 ≠ 0 := by
      unfold ezp_op
      repeat (first | rw [if_pos (by omega)] | rw [if_neg (by omega)])
      decide
    have stT : ezm_ST (ezp_t ((ezp_rk c (ezp_pt c ml) 2) x).1) x8_1 x7_7 := ezm_ST_t st_1 (by omega) (fun _ => by omega)
    refine ezw_aload_n rfl rfl ?_
    refine ezw_iload_n rfl rfl ?_
    refine ezw_call0_1 rfl (by omega) (ezm_at rfl) rfl rfl rfl rfl (ezm_m247_vSp (x := (ezp_t ((ezp_rk c (ezp_pt c ml) 2) x).1, ((ezp_rk c (ezp_pt c ml) 2) x).2)) hT (by omega) hml hm4 hdd i249 i245 (by omega) (by omega) hs (by omega) tk hM stT (by omega) lm_1 tp) ?_
    rintro _ _ ⟨x7_10, x8_10, x13_10, x79_10, x80_10, rfl, hT, p10_0, p10_1, p10_2, fo_10, sg_10, st_10, lm_10, rfl⟩
    have k11 := hT.t7
    have k12 := hT.t8
    have k13 := hT.t13
    refine ezw_aload_n rfl rfl ?_
    refine ezw_iload_n rfl rfl ?_
    refine ezw_if_eq rfl rfl ⟨by omega, by omega⟩ (fun h37_13 => ?_) (fun h37_13 => ?_)
    · refine ezw_bipush (8) rfl rfl ?_
      refine ezw_iconst (0) rfl rfl ?_
      refine ezw_call0_2 rfl (by omega) (ezm_at rfl) rfl rfl rfl rfl (ezm_m251 hT (by omega) ⟨by decide, by decide⟩ ⟨by decide, by decide⟩ (by omega)) ?_
      rintro _ _ ⟨x13_14, x79_14, x80_14, rfl, hT, p14_0, fo_14, eo_14, ea_14, rfl⟩
      have k15 := hT.t13
      exact ezw_return rfl rfl ⟨x7_10, x8_10, x13_14, x79_14, x80_14, rfl, hT, by omega, by omega, by omega, (ezm_fr_t (ezm_fr_t fo_1 fo_10 (by omega)) fo_14 (by omega)), fun z => ezm_sgB (sg_1 (by omega)) fo_10 (sg_10 (by omega)) fo_14 (by rw [eo_14]; decide) (by omega), by
            show ezm_ST (ezp_lp c 1 (ezp_rk c (ezp_pt c ml) 2) 1000 ((ezp_rk c (ezp_pt c ml) 2) x)).1 _ _
            rw [ezp_lp_1 z1 hop rfl]
            exact st_10, by
            show ezm_LM kk (ezp_lp c 1 (ezp_rk c (ezp_pt c ml) 2) 1000 ((ezp_rk c (ezp_pt c ml) 2) x)).2 _ _ _
            rw [ezp_lp_1 z1 hop rfl]
            exact ezm_LM_em lm_10 fo_14 (by rw [eo_14]; exact (by
            unfold ezp_op
            repeat (first | rw [if_pos (by omega)] | rw [if_neg (by omega)])
            first | decide | (exfalso; omega))) (by rw [ea_14]; exact (by
            unfold ezp_op
            repeat (first | rw [if_pos (by omega)] | rw [if_neg (by omega)])
            first | decide | (exfalso; omega))) (by omega), rfl⟩
    · refine ezw_bipush (7) rfl rfl ?_
      refine ezw_goto rfl rfl ?_
      refine ezw_iconst (0) rfl rfl ?_
      refine ezw_call0_2 rfl (by omega) (ezm_at rfl) rfl rfl rfl rfl (ezm_m251 hT (by omega) ⟨by decide, by decide⟩ ⟨by decide, by decide⟩ (by omega)) ?_
      rintro _ _ ⟨x13_16, x79_16, x80_16, rfl, hT, p16_0, fo_16, eo_16, ea_16, rfl⟩
      have k17 := hT.t13
      exact ezw_return rfl rfl ⟨x7_10, x8_10, x13_16, x79_16, x80_16, rfl, hT, by omega, by omega, by omega, (ezm_fr_t (ezm_fr_t fo_1 fo_10 (by omega)) fo_16 (by omega)), fun z => ezm_sgB (sg_1 (by omega)) fo_10 (sg_10 (by omega)) fo_16 (by rw [eo_16]; decide) (by omega), by
            show ezm_ST (ezp_lp c 1 (ezp_rk c (ezp_pt c ml) 2) 1000 ((ezp_rk c (ezp_pt c ml) 2) x)).1 _ _
            rw [ezp_lp_1 z1 hop rfl]
            exact st_10, by
            show ezm_LM kk (ezp_lp c 1 (ezp_rk c (ezp_pt c ml) 2) 1000 ((ezp_rk c (ezp_pt c ml) 2) x)).2 _ _ _
            rw [ezp_lp_1 z1 hop rfl]
            exact ezm_LM_em lm_10 fo_16 (by rw [eo_16]; exact (by
            unfold ezp_op
            repeat (first | rw [if_pos (by omega)] | rw [if_neg (by omega)])
            first | decide | (exfalso; omega))) (by rw [ea_16]; exact (by
            unfold ezp_op
            repeat (first | rw [if_pos (by omega)] | rw [if_neg (by omega)])
            first | decide | (exfalso; omega))) (by omega), rfl⟩
  · have stB_3 := ezm_ST_7 (x8 := x8_1) (x7 := x7_7) st_1 (by omega) (fun _ => by omega)
    refine ezw_aload_n rfl rfl ?_
    refine ezw_bipush (61) rfl rfl ?_
    refine ezw_call0_1 rfl (by omega) (ezm_at rfl) rfl rfl rfl rfl (ezm_m252p hT (by omega) ⟨by decide, by decide⟩ (by omega) hs (by omega) tk hM stB_3 (by omega)) ?_
    rintro _ _ ⟨x7_18, rfl, hT, u19, hu19, p18_0, p18_1, p18_2, p18_3, q1_18, q0_18, st_18, rfl⟩
    have k20 := hT.t7
    refine ezw_if_eq rfl rfl ⟨by omega, by omega⟩ (fun h27_20 => ?_) (fun h27_20 => ?_)
    · exact ezw_return rfl rfl ⟨x7_18, x8_1, x13_1, x79_1, x80_1, rfl, hT, by omega, by omega, by omega, fo_1, sg_1, by
            show ezm_ST (ezp_lp c 1 (ezp_rk c (ezp_pt c ml) 2) 1000 ((ezp_rk c (ezp_pt c ml) 2) x)).1 _ _
            by_cases z1 : ((ezp_rk c (ezp_pt c ml) 2) x).1.1 = 0
            · rw [ezp_lp_0 z1 (by
                unfold ezp_op
                repeat (first | rw [if_pos (by omega)] | rw [if_neg (by omega)]))]
              exact ezm_ST_7 st_1 (by omega) (fun _ => by omega)
            · rw [ezp_lp_n z1]
              exact ezm_ST_7 st_1 (by omega) (fun _ => by omega), by
            show ezm_LM kk (ezp_lp c 1 (ezp_rk c (ezp_pt c ml) 2) 1000 ((ezp_rk c (ezp_pt c ml) 2) x)).2 _ _ _
            by_cases z1 : ((ezp_rk c (ezp_pt c ml) 2) x).1.1 = 0
            · rw [ezp_lp_0 z1 (by
                unfold ezp_op
                repeat (first | rw [if_pos (by omega)] | rw [if_neg (by omega)]))]
              exact lm_1
            · rw [ezp_lp_n z1]
              exact lm_1, rfl⟩
    · have z1 : ((ezp_rk c (ezp_pt c ml) 2) x).1.1 = 0 := by omega
      have hop : ezp_op (ezp_K c ((ezp_rk c (ezp_pt c ml) 2) x).1.2) 1 ≠ 0 := by
        unfold ezp_op
        repeat (first | rw [if_pos (by omega)] | rw [if_neg (by omega)])
        decide
      have stT : ezm_ST (ezp_t ((ezp_rk c (ezp_pt c ml) 2) x).1) x8_1 x7_18 := ezm_ST_t st_1 (by omega) (fun _ => by omega)
      refine ezw_aload_n rfl rfl ?_
      refine ezw_iload_n rfl rfl ?_
      refine ezw_call0_1 rfl (by omega) (ezm_at rfl) rfl rfl rfl rfl (ezm_m247_vSp (x := (ezp_t ((ezp_rk c (ezp_pt c ml) 2) x).1, ((ezp_rk c (ezp_pt c ml) 2) x).2)) hT (by omega) hml hm4 hdd i249 i245 (by omega) (by omega) hs (by omega) tk hM stT (by omega) lm_1 tp) ?_
      rintro _ _ ⟨x7_21, x8_21, x13_21, x79_21, x80_21, rfl, hT, p21_0, p21_1, p21_2, fo_21, sg_21, st_21, lm_21, rfl⟩
      have k22 := hT.t7
      have k23 := hT.t8
      have k24 := hT.t13
      refine ezw_aload_n rfl rfl ?_
      refine ezw_iload_n rfl rfl ?_
      refine ezw_if_eq rfl rfl ⟨by omega, by omega⟩ (fun h37_24 => ?_) (fun h37_24 => ?_)
      · refine ezw_bipush (8) rfl rfl ?_
        refine ezw_iconst (0) rfl rfl ?_
        refine ezw_call0_2 rfl (by omega) (ezm_at rfl) rfl rfl rfl rfl (ezm_m251 hT (by omega) ⟨by decide, by decide⟩ ⟨by decide, by decide⟩ (by omega)) ?_
        rintro _ _ ⟨x13_25, x79_25, x80_25, rfl, hT, p25_0, fo_25, eo_25, ea_25, rfl⟩
        have k26 := hT.t13
        exact ezw_return rfl rfl ⟨x7_21, x8_21, x13_25, x79_25, x80_25, rfl, hT, by omega, by omega, by omega, (ezm_fr_t (ezm_fr_t fo_1 fo_21 (by omega)) fo_25 (by omega)), fun z => ezm_sgB (sg_1 (by omega)) fo_21 (sg_21 (by omega)) fo_25 (by rw [eo_25]; decide) (by omega), by
              show ezm_ST (ezp_lp c 1 (ezp_rk c (ezp_pt c ml) 2) 1000 ((ezp_rk c (ezp_pt c ml) 2) x)).1 _ _
              rw [ezp_lp_1 z1 hop rfl]
              exact st_21, by
              show ezm_LM kk (ezp_lp c 1 (ezp_rk c (ezp_pt c ml) 2) 1000 ((ezp_rk c (ezp_pt c ml) 2) x)).2 _ _ _
              rw [ezp_lp_1 z1 hop rfl]
              exact ezm_LM_em lm_21 fo_25 (by rw [eo_25]; exact (by
              unfold ezp_op
              repeat (first | rw [if_pos (by omega)] | rw [if_neg (by omega)])
              first | decide | (exfalso; omega))) (by rw [ea_25]; exact (by
              unfold ezp_op
              repeat (first | rw [if_pos (by omega)] | rw [if_neg (by omega)])
              first | decide | (exfalso; omega))) (by omega), rfl⟩
      · refine ezw_bipush (7) rfl rfl ?_
        refine ezw_goto rfl rfl ?_
        refine ezw_iconst (0) rfl rfl ?_
        refine ezw_call0_2 rfl (by omega) (ezm_at rfl) rfl rfl rfl rfl (ezm_m251 hT (by omega) ⟨by decide, by decide⟩ ⟨by decide, by decide⟩ (by omega)) ?_
        rintro _ _ ⟨x13_27, x79_27, x80_27, rfl, hT, p27_0, fo_27, eo_27, ea_27, rfl⟩
        have k28 := hT.t13
        exact ezw_return rfl rfl ⟨x7_21, x8_21, x13_27, x79_27, x80_27, rfl, hT, by omega, by omega, by omega, (ezm_fr_t (ezm_fr_t fo_1 fo_21 (by omega)) fo_27 (by omega)), fun z => ezm_sgB (sg_1 (by omega)) fo_21 (sg_21 (by omega)) fo_27 (by rw [eo_27]; decide) (by omega), by
              show ezm_ST (ezp_lp c 1 (ezp_rk c (ezp_pt c ml) 2) 1000 ((ezp_rk c (ezp_pt c ml) 2) x)).1 _ _
              rw [ezp_lp_1 z1 hop rfl]
              exact st_21, by
              show ezm_LM kk (ezp_lp c 1 (ezp_rk c (ezp_pt c ml) 2) 1000 ((ezp_rk c (ezp_pt c ml) 2) x)).2 _ _ _
              rw [ezp_lp_1 z1 hop rfl]
              exact ezm_LM_em lm_21 fo_27 (by rw [eo_27]; exact (by
              unfold ezp_op
              repeat (first | rw [if_pos (by omega)] | rw [if_neg (by omega)])
              first | decide | (exfalso; omega))) (by rw [ea_27]; exact (by
              unfold ezp_op
              repeat (first | rw [if_pos (by omega)] | rw [if_neg (by omega)])
              first | decide | (exfalso; omega))) (by omega), rfl⟩
def ezm_m245_vSpQ (e : Bool × Bool) (F : Nat → Nat → Int) (A : Nat → Int → Int) (i0 i2 i3 i7 i8 i13 i18 i19 i20 i25 i29 i30 i31 i36 i37 i38 : Int) (r73 r74 r75 r76 r77 r78 r79 r80 r81 r82 r83 r84 r85 r86 r87 r88 r89 r90 r91 r92 r93 r94 r95 : Int → Int) (n : Int) (c : Int → Int) (x : ezp_X) (kk : Int) (tpn : Int) (ml : Nat) (mm : Nat) (dd : Int) : Option ezq_V → (Nat → ezq_C) → Prop := fun v g' => ∃ (x7 x8 x13 : Int) (x79 x80 : Int → Int), ezm_h e F A i0 i2 i3 x7 x8 x13 i18 i19 i20 i25 i29 i30 i31 i36 i37 i38 r73 r74 r75 r76 r77 r78 x79 x80 r81 r82 r83 r84 r85 r86 r87 r88 r89 r90 r91 r92 r93 r94 r95 = g' ∧ ezm_T i0 i2 i3 x7 x8 x13 i18 i19 i20 i25 i29 i30 i31 i36 i37 i38 r73 r74 r75 r76 r77 r78 x79 x80 r81 r82 r83 r84 r85 r86 r87 r88 r89 r90 r91 r92 r93 r94 r95 ∧ (i8 ≠ 0 → x8 ≠ 0) ∧ (i7 ≤ x7 ∧ x7 ≤ n) ∧ (i13 ≤ x13 ∧ x13 - i13 ≤ x7 - i7) ∧ (ezm_fr r79 r80 x79 x80 (i13 + 1100)) ∧ (x8 = 0 → ezm_sg x79 x80 (i13 + 1100) (x13 + 1100)) ∧ (ezm_ST ((ezp_rk c (ezp_pt c ml) 4 x).1) x8 x7) ∧ (ezm_LM kk ((ezp_rk c (ezp_pt c ml) 4 x).2) x13 x79 x80) ∧ none = v
set_option maxHeartbeats 8000000 in
theorem ezm_m245_vSp {c : Int → Int} {x : ezp_X} {ml : Nat} {mm : Nat} {n kk tpn dd : Int} (hT : ezm_T i0 i2 i3 i7 i8 i13 i18 i19 i20 i25 i29 i30 i31 i36 i37 i38 r73 r74 r75 r76 r77 r78 r79 r80 r81 r82 r83 r84 r85 r86 r87 r88 r89 r90 r91 r92 r93 r94 r95) (hd : 6 * mm + 11 ≤ d) (hml : ml = mm + 1) (hm4 : mm ≤ 4) (hdd : dd = 5 - (ml : Int)) (i249 : ezm_I249 l ρ B xa Hb D cA mm) (i245 : ezm_I245 l ρ B xa Hb D cA mm) (hc : 0 ≤ i13 ∧ i13 ≤ i7) (hn : 0 ≤ i7 ∧ i7 ≤ n) (hs : r74 n = 0) (h1 : n ≤ 1000) (tk : ezm_TK c n r74 r75 r76) (hM : ∀ w, 0 ≤ w → w < 48 → r77 w = ezl_mw.getD w.toNat 0) (st : ezm_ST x.1 i8 i7) (g1 : 1 ≤ i7) (lm : ezm_LM kk x.2 i13 r79 r80) (tp : ezp_tp c tpn) : ezw_C l ρ B xa Hb D cA 245 d [ezw_p 72, ezw_i dd] (ezm_h e F A i0 i2 i3 i7 i8 i13 i18 i19 i20 i25 i29 i30 i31 i36 i37 i38 r73 r74 r75 r76 r77 r78 r79 r80 r81 r82 r83 r84 r85 r86 r87 r88 r89 r90 r91 r92 r93 r94 r95) (ezm_m245_vSpQ  e F A i0 i2 i3 i7 i8 i13 i18 i19 i20 i25 i29 i30 i31 i36 i37 i38 r73 r74 r75 r76 r77 r78 r79 r80 r81 r82 r83 r84 r85 r86 r87 r88 r89 r90 r91 r92 r93 r94 r95 n c x kk tpn ml mm dd) := by
  refine ezw_met (k := 1) rfl rfl ?_
  refine ezw_aload_n rfl rfl ?_
  refine ezw_iload_n rfl rfl ?_
  refine ezw_call0_1 rfl (by omega) (ezm_at rfl) rfl rfl rfl rfl (ezm_m246_vSp (x := x) hT (by omega) hml hm4 hdd i249 i245 (by omega) (by omega) hs (by omega) tk hM st (by omega) lm tp) ?_
  rintro _ _ ⟨x7_1, x8_1, x13_1, x79_1, x80_1, rfl, hT, p1_0, p1_1, p1_2, fo_1, sg_1, st_1, lm_1, rfl⟩
  have k2 := hT.t7
  have k3 := hT.t8
  have k4 := hT.t13
  have L5_6 : ∀ c5 : Int, ezw_in c5 → ∀ x8_6 : Int, ∀ x13_6 : Int, ∀ x79_6 : Int → Int, ∀ x80_6 : Int → Int, ezm_T i0 i2 i3 c5 x8_6 x13_6 i18 i19 i20 i25 i29 i30 i31 i36 i37 i38 r73 r74 r75 r76 r77 r78 x79_6 x80_6 r81 r82 r83 r84 r85 r86 r87 r88 r89 r90 r91 r92 r93 r94 r95 → (x7_1 ≤ c5) → (i8 ≠ 0 → x8_6 ≠ 0) → (i7 ≤ c5 ∧ c5 ≤ n) → (i13 ≤ x13_6 ∧ x13_6 - i13 ≤ c5 - i7) → (ezm_fr r79 r80 x79_6 x80_6 (i13 + 1100)) → (x8_6 = 0 → ezm_sg x79_6 x80_6 (i13 + 1100) (x13_6 + 1100)) → (∃ (x1 : ezp_X) (m : Nat), ezp_rk c (ezp_pt c ml) 4 x = ezp_lp c 0 (ezp_rk c (ezp_pt c ml) 3) m x1 ∧ ezm_ST x1.1 x8_6 c5 ∧ 1001 ≤ (m : Int) + c5 ∧ ezm_LM kk x1.2 x13_6 x79_6 x80_6) → ezw_E l ρ B xa Hb D cA d ezq_re245 (ezm_m245_vSpQ  e F A i0 i2 i3 i7 i8 i13 i18 i19 i20 i25 i29 i30 i31 i36 i37 i38 r73 r74 r75 r76 r77 r78 r79 r80 r81 r82 r83 r84 r85 r86 r87 r88 r89 r90 r91 r92 r93 r94 r95 n c x kk tpn ml mm dd) 5 [some (ezw_p 72), some (ezw_i dd), none] [] (ezm_h e F A i0 i2 i3 c5 x8_6 x13_6 i18 i19 i20 i25 i29 i30 i31 i36 i37 i38 r73 r74 r75 r76 r77 r78 x79_6 x80_6 r81 r82 r83 r84 r85 r86 r87 r88 r89 r90 r91 r92 r93 r94 r95) := by
    refine ezs_up ?_
    intro c5 hc5 ihc5 x8_6 x13_6 x79_6 x80_6 hT g_6 v1_6 v2_6 v3_6 fo_6 sg_6 iv_6
    have k7 := hT.t7
    have k8 := hT.t8
    have k9 := hT.t13
    obtain ⟨x1, m, hq, st1, hm1, lm1⟩ := iv_6
    obtain ⟨se1, sa1, -, -, -, -⟩ := ezm_TKi tk st1 (by omega)
    obtain ⟨m0, rfl⟩ : ∃ m0, m = m0 + 1 := ⟨m - 1, by omega⟩
    refine ezw_aload_n rfl rfl ?_
    refine ezw_bipush (42) rfl rfl ?_
    refine ezw_call0_1 rfl (by omega) (ezm_at rfl) rfl rfl rfl rfl (ezm_m223_v42p hT (by omega) (by omega) hs (by omega) tk hM st1) ?_
    rintro _ _ ⟨rfl, u11, hu11, f_10, w_10, q1_10, q0_10, rfl⟩
    refine ezw_if_ne rfl rfl ⟨by omega, by omega⟩ (fun h11_11 => ?_) (fun h11_11 => ?_)
    · refine ezw_aload_n rfl rfl ?_
      refine ezw_bipush (42) rfl rfl ?_
      refine ezw_call0_1 rfl (by omega) (ezm_at rfl) rfl rfl rfl rfl (ezm_m223_v42p hT (by omega) (by omega) hs (by omega) tk hM st1) ?_
      rintro _ _ ⟨rfl, u13, hu13, f_12, w_12, q1_12, q0_12, rfl⟩
      refine ezw_istore_n rfl rfl ?_
      refine ezw_aload_n rfl rfl ?_
      refine ezw_dup rfl rfl ?_
      refine ezm_g7 rfl ?_
      refine ezw_iconst (1) rfl rfl ?_
      refine ezw_iadd (k := c5 + 1) rfl (by omega) ?_
      refine ezm_p7 hT rfl ⟨by omega, by omega⟩ (fun hT => ?_)
      have z1 : x1.1.1 = 0 := by omega
      have hop : ezp_op (ezp_K c x1.1.2) 0 ≠ 0 := by
        unfold ezp_op
        repeat (first | rw [if_pos (by omega)] | rw [if_neg (by omega)])
        decide
      have stT : ezm_ST (ezp_t x1.1) x8_6 (c5 + 1) := ezm_ST_t st1 (by omega) (fun _ => by omega)
      refine ezw_aload_n rfl rfl ?_
      refine ezw_iload_n rfl rfl ?_
      refine ezw_call0_1 rfl (by omega) (ezm_at rfl) rfl rfl rfl rfl (ezm_m246_vSp (x := (ezp_t x1.1, x1.2)) hT (by omega) hml hm4 hdd i249 i245 (by omega) (by omega) hs (by omega) tk hM stT (by omega) lm1 tp) ?_
      rintro _ _ ⟨x7_14, x8_14, x13_14, x79_14, x80_14, rfl, hT, p14_0, p14_1, p14_2, fo_14, sg_14, st_14, lm_14, rfl⟩
      have k15 := hT.t7
      have k16 := hT.t8
      have k17 := hT.t13
      refine ezw_aload_n rfl rfl ?_
      refine ezw_iload_n rfl rfl ?_
      refine ezw_if_eq rfl rfl ⟨by omega, by omega⟩ (fun h47_17 => ?_) (fun h47_17 => ?_)
      · refine ezw_bipush (10) rfl rfl ?_
        refine ezw_iconst (0) rfl rfl ?_
        refine ezw_call0_2 rfl (by omega) (ezm_at rfl) rfl rfl rfl rfl (ezm_m251 hT (by omega) ⟨by decide, by decide⟩ ⟨by decide, by decide⟩ (by omega)) ?_
        rintro _ _ ⟨x13_18, x79_18, x80_18, rfl, hT, p18_0, fo_18, eo_18, ea_18, rfl⟩
        have k19 := hT.t13
        refine ezw_goto rfl rfl ?_
        exact ezw_keepE [true, true, false] (ihc5 x7_14 (by omega) ⟨by omega, by omega⟩ x8_14 x13_18 x79_18 x80_18 hT (by omega) (by omega) (by omega) (by omega) (ezm_fr_t (ezm_fr_t fo_6 fo_14 (by omega)) fo_18 (by omega)) (fun z => ezm_sgB (sg_6 (by omega)) fo_14 (sg_14 (by omega)) fo_18 (by rw [eo_18]; decide) (by omega)) (⟨ezp_l1 c 0 (ezp_rk c (ezp_pt c ml) 3) x1, m0, (by rw [hq, ezp_lp_s z1 hop (by decide)]), st_14, by omega, (ezm_LM_em lm_14 fo_18 (by rw [eo_18]; exact (by
              unfold ezp_op
              repeat (first | rw [if_pos (by omega)] | rw [if_neg (by omega)])
              first | decide | (exfalso; omega))) (by rw [ea_18]; exact (by
              unfold ezp_op
              repeat (first | rw [if_pos (by omega)] | rw [if_neg (by omega)])
              first | decide | (exfalso; omega))) (by omega))⟩))
      · refine ezw_bipush (9) rfl rfl ?_
        refine ezw_goto rfl rfl ?_
        refine ezw_iconst (0) rfl rfl ?_
        refine ezw_call0_2 rfl (by omega) (ezm_at rfl) rfl rfl rfl rfl (ezm_m251 hT (by omega) ⟨by decide, by decide⟩ ⟨by decide, by decide⟩ (by omega)) ?_
        rintro _ _ ⟨x13_20, x79_20, x80_20, rfl, hT, p20_0, fo_20, eo_20, ea_20, rfl⟩
        have k21 := hT.t13
        refine ezw_goto rfl rfl ?_
        exact ezw_keepE [true, true, false] (ihc5 x7_14 (by omega) ⟨by omega, by omega⟩ x8_14 x13_20 x79_20 x80_20 hT (by omega) (by omega) (by omega) (by omega) (ezm_fr_t (ezm_fr_t fo_6 fo_14 (by omega)) fo_20 (by omega)) (fun z => ezm_sgB (sg_6 (by omega)) fo_14 (sg_14 (by omega)) fo_20 (by rw [eo_20]; decide) (by omega)) (⟨ezp_l1 c 0 (ezp_rk c (ezp_pt c ml) 3) x1, m0, (by rw [hq, ezp_lp_s z1 hop (by decide)]), st_14, by omega, (ezm_LM_em lm_14 fo_20 (by rw [eo_20]; exact (by
              unfold ezp_op
              repeat (first | rw [if_pos (by omega)] | rw [if_neg (by omega)])
              first | decide | (exfalso; omega))) (by rw [ea_20]; exact (by
              unfold ezp_op
              repeat (first | rw [if_pos (by omega)] | rw [if_neg (by omega)])
              first | decide | (exfalso; omega))) (by omega))⟩))
    · refine ezw_aload_n rfl rfl ?_
      refine ezw_bipush (43) rfl rfl ?_
      refine ezw_call0_1 rfl (by omega) (ezm_at rfl) rfl rfl rfl rfl (ezm_m223_v43p hT (by omega) (by omega) hs (by omega) tk hM st1) ?_
      rintro _ _ ⟨rfl, u23, hu23, f_22, w_22, q1_22, q0_22, rfl⟩
      refine ezw_if_eq rfl rfl ⟨by omega, by omega⟩ (fun h20_23 => ?_) (fun h20_23 => ?_)
      · exact ezw_return rfl rfl ⟨c5, x8_6, x13_6, x79_6, x80_6, rfl, hT, by omega, by omega, by omega, fo_6, sg_6, by
              rw [hq]
              by_cases z1 : x1.1.1 = 0
              · rw [ezp_lp_0 z1 (by
                  unfold ezp_op
                  repeat (first | rw [if_pos (by omega)] | rw [if_neg (by omega)]))]
                exact st1
              · rw [ezp_lp_n z1]
                exact st1, by
              rw [hq]
              by_cases z1 : x1.1.1 = 0
              · rw [ezp_lp_0 z1 (by
                  unfold ezp_op
                  repeat (first | rw [if_pos (by omega)] | rw [if_neg (by omega)]))]
                exact lm1
              · rw [ezp_lp_n z1]
                exact lm1, rfl⟩
      · refine ezw_aload_n rfl rfl ?_
        refine ezw_bipush (42) rfl rfl ?_
        refine ezw_call0_1 rfl (by omega) (ezm_at rfl) rfl rfl rfl rfl (ezm_m223_v42p hT (by omega) (by omega) hs (by omega) tk hM st1) ?_
        rintro _ _ ⟨rfl, u25, hu25, f_24, w_24, q1_24, q0_24, rfl⟩
        refine ezw_istore_n rfl rfl ?_
        refine ezw_aload_n rfl rfl ?_
        refine ezw_dup rfl rfl ?_
        refine ezm_g7 rfl ?_
        refine ezw_iconst (1) rfl rfl ?_
        refine ezw_iadd (k := c5 + 1) rfl (by omega) ?_
        refine ezm_p7 hT rfl ⟨by omega, by omega⟩ (fun hT => ?_)
        have z1 : x1.1.1 = 0 := by omega
        have hop : ezp_op (ezp_K c x1.1.2) 0 ≠ 0 := by
          unfold ezp_op
          repeat (first | rw [if_pos (by omega)] | rw [if_neg (by omega)])
          decide
        have stT : ezm_ST (ezp_t x1.1) x8_6 (c5 + 1) := ezm_ST_t st1 (by omega) (fun _ => by omega)
        refine ezw_aload_n rfl rfl ?_
        refine ezw_iload_n rfl rfl ?_
        refine ezw_call0_1 rfl (by omega) (ezm_at rfl) rfl rfl rfl rfl (ezm_m246_vSp (x := (ezp_t x1.1, x1.2)) hT (by omega) hml hm4 hdd i249 i245 (by omega) (by omega) hs (by omega) tk hM stT (by omega) lm1 tp) ?_
        rintro _ _ ⟨x7_26, x8_26, x13_26, x79_26, x80_26, rfl, hT, p26_0, p26_1, p26_2, fo_26, sg_26, st_26, lm_26, rfl⟩
        have k27 := hT.t7
        have k28 := hT.t8
        have k29 := hT.t13
        refine ezw_aload_n rfl rfl ?_
        refine ezw_iload_n rfl rfl ?_
        refine ezw_if_eq rfl rfl ⟨by omega, by omega⟩ (fun h47_29 => ?_) (fun h47_29 => ?_)
        · refine ezw_bipush (10) rfl rfl ?_
          refine ezw_iconst (0) rfl rfl ?_
          refine ezw_call0_2 rfl (by omega) (ezm_at rfl) rfl rfl rfl rfl (ezm_m251 hT (by omega) ⟨by decide, by decide⟩ ⟨by decide, by decide⟩ (by omega)) ?_
          rintro _ _ ⟨x13_30, x79_30, x80_30, rfl, hT, p30_0, fo_30, eo_30, ea_30, rfl⟩
          have k31 := hT.t13
          refine ezw_goto rfl rfl ?_
          exact ezw_keepE [true, true, false] (ihc5 x7_26 (by omega) ⟨by omega, by omega⟩ x8_26 x13_30 x79_30 x80_30 hT (by omega) (by omega) (by omega) (by omega) (ezm_fr_t (ezm_fr_t fo_6 fo_26 (by omega)) fo_30 (by omega)) (fun z => ezm_sgB (sg_6 (by omega)) fo_26 (sg_26 (by omega)) fo_30 (by rw [eo_30]; decide) (by omega)) (⟨ezp_l1 c 0 (ezp_rk c (ezp_pt c ml) 3) x1, m0, (by rw [hq, ezp_lp_s z1 hop (by decide)]), st_26, by omega, (ezm_LM_em lm_26 fo_30 (by rw [eo_30]; exact (by
                unfold ezp_op
                repeat (first | rw [if_pos (by omega)] | rw [if_neg (by omega)])
                first | decide | (exfalso; omega))) (by rw [ea_30]; exact (by
                unfold ezp_op
                repeat (first | rw [if_pos (by omega)] | rw [if_neg (by omega)])
                first | decide | (exfalso; omega))) (by omega))⟩))
        · refine ezw_bipush (9) rfl rfl ?_
          refine ezw_goto rfl rfl ?_
          refine ezw_iconst (0) rfl rfl ?_
          refine ezw_call0_2 rfl (by omega) (ezm_at rfl) rfl rfl rfl rfl (ezm_m251 hT (by omega) ⟨by decide, by decide⟩ ⟨by decide, by decide⟩ (by omega)) ?_
          rintro _ _ ⟨x13_32, x79_32, x80_32, rfl, hT, p32_0, fo_32, eo_32, ea_32, rfl⟩
          have k33 := hT.t13
          refine ezw_goto rfl rfl ?_
          exact ezw_keepE [true, true, false] (ihc5 x7_26 (by omega) ⟨by omega, by omega⟩ x8_26 x13_32 x79_32 x80_32 hT (by omega) (by omega) (by omega) (by omega) (ezm_fr_t (ezm_fr_t fo_6 fo_26 (by omega)) fo_32 (by omega)) (fun z => ezm_sgB (sg_6 (by omega)) fo_26 (sg_26 (by omega)) fo_32 (by rw [eo_32]; decide) (by omega)) (⟨ezp_l1 c 0 (ezp_rk c (ezp_pt c ml) 3) x1, m0, (by rw [hq, ezp_lp_s z1 hop (by decide)]), st_26, by omega, (ezm_LM_em lm_26 fo_32 (by rw [eo_32]; exact (by
                unfold ezp_op
                repeat (first | rw [if_pos (by omega)] | rw [if_neg (by omega)])
                first | decide | (exfalso; omega))) (by rw [ea_32]; exact (by
                unfold ezp_op
                repeat (first | rw [if_pos (by omega)] | rw [if_neg (by omega)])
                first | decide | (exfalso; omega))) (by omega))⟩))
  exact ezw_keepE [true, true, false] (L5_6 x7_1 ⟨by omega, by omega⟩ x8_1 x13_1 x79_1 x80_1 hT (by omega) (by omega) (by omega) (by omega) fo_1 sg_1 (⟨(ezp_rk c (ezp_pt c ml) 3) x, 1000, rfl, st_1, by omega, lm_1⟩))
end KM6
