/-! ===== the model: laws, where the reader stands ===== -/
section KM6
variable {l : Launch} {ρ : ezq_E} {B : Nat} {xa : Nat → Option Nat} {Hb : Heap} {D : va_G} {cA : Nat → ClassId} {d : Nat} {e : Bool × Bool} {F : Nat → Nat → Int} {A : Nat → Int → Int} {i0 i2 i3 i7 i8 i13 i18 i19 i20 i25 i29 i30 i31 i36 i37 i38 : Int} {r73 r74 r75 r76 r77 r78 r79 r80 r81 r82 r83 r84 r85 r86 r87 r88 r89 r90 r91 r92 r93 r94 r95 : Int → Int}
def ezm_m249_v0pQ (e : Bool × Bool) (F : Nat → Nat → Int) (A : Nat → Int → Int) (i0 i2 i3 i7 i8 i13 i18 i19 i20 i25 i29 i30 i31 i36 i37 i38 : Int) (r73 r74 r75 r76 r77 r78 r79 r80 r81 r82 r83 r84 r85 r86 r87 r88 r89 r90 r91 r92 r93 r94 r95 : Int → Int) (n : Int) (c : Int → Int) (x : ezp_X) : Option ezq_V → (Nat → ezq_C) → Prop := fun v g' => ∃ (x7 x8 x13 : Int) (x79 x80 : Int → Int), ezm_h e F A i0 i2 i3 x7 x8 x13 i18 i19 i20 i25 i29 i30 i31 i36 i37 i38 r73 r74 r75 r76 r77 r78 x79 x80 r81 r82 r83 r84 r85 r86 r87 r88 r89 r90 r91 r92 r93 r94 r95 = g' ∧ ezm_T i0 i2 i3 x7 x8 x13 i18 i19 i20 i25 i29 i30 i31 i36 i37 i38 r73 r74 r75 r76 r77 r78 x79 x80 r81 r82 r83 r84 r85 r86 r87 r88 r89 r90 r91 r92 r93 r94 r95 ∧ (i8 ≠ 0 → x8 ≠ 0) ∧ (i7 ≤ x7 ∧ x7 ≤ n) ∧ (i13 ≤ x13 ∧ x13 - i13 ≤ x7 - i7) ∧ (ezm_fr r79 r80 x79 x80 (i13 + 1100)) ∧ (x8 = 0 → ezm_sg x79 x80 (i13 + 1100) (x13 + 1100)) ∧ (ezm_ST ((ezp_pt c 5 x).1) x8 x7) ∧ none = v
set_option maxHeartbeats 8000000 in
theorem ezm_m249_v0p {c : Int → Int} {x : ezp_X} {n : Int} (hT : ezm_T i0 i2 i3 i7 i8 i13 i18 i19 i20 i25 i29 i30 i31 i36 i37 i38 r73 r74 r75 r76 r77 r78 r79 r80 r81 r82 r83 r84 r85 r86 r87 r88 r89 r90 r91 r92 r93 r94 r95) (hd : 27 ≤ d) (hc : 0 ≤ i13 ∧ i13 ≤ i7) (hn : 0 ≤ i7 ∧ i7 ≤ n) (hs : r74 n = 0) (h1 : n ≤ 1000) (tk : ezm_TK c n r74 r75 r76) (hM : ∀ w, 0 ≤ w → w < 48 → r77 w = ezl_mw.getD w.toNat 0) (st : ezm_ST x.1 i8 i7) (g1 : 1 ≤ i7) : ezw_C l ρ B xa Hb D cA 249 d [ezw_p 72, ezw_i (0)] (ezm_h e F A i0 i2 i3 i7 i8 i13 i18 i19 i20 i25 i29 i30 i31 i36 i37 i38 r73 r74 r75 r76 r77 r78 r79 r80 r81 r82 r83 r84 r85 r86 r87 r88 r89 r90 r91 r92 r93 r94 r95) (ezm_m249_v0pQ  e F A i0 i2 i3 i7 i8 i13 i18 i19 i20 i25 i29 i30 i31 i36 i37 i38 r73 r74 r75 r76 r77 r78 r79 r80 r81 r82 r83 r84 r85 r86 r87 r88 r89 r90 r91 r92 r93 r94 r95 n c x) := by
  refine ezw_met (k := 2) rfl rfl ?_
  obtain ⟨se, sa, sp, hP, sw, sk⟩ := ezm_TKi tk st hn
  refine ezw_aload_n rfl rfl ?_
  refine ezm_g8 rfl ?_
  have k1 := hT.t8
  refine ezw_if_le rfl rfl ⟨by omega, by omega⟩ (fun h4_1 => ?_) (fun h4_1 => ?_)
  · have hix := ezp_ix_48 (ezp_W c x.1.2)
    have z0 : x.1.1 = 0 := by omega
    replace sa := sa z0
    replace sk := sk z0
    clear sp sw
    refine ezw_aload_n rfl rfl ?_
    refine ezm_gp (p := 74) rfl (fun _ => rfl) ?_
    refine ezw_aload_n rfl rfl ?_
    refine ezm_g7 rfl ?_
    have k2 := hT.t7
    refine ezm_l74 rfl (by omega) (by omega) (fun u3 eu3 => ?_)
    have ku3 : ezw_in u3 := eu3 ▸ hT.t74 i7
    refine ezw_iconst (2) rfl rfl ?_
    refine ezw_icmp_ne rfl rfl ku3 ⟨by decide, by decide⟩ (fun h18_3 => ?_) (fun h18_3 => ?_)
    · refine ezw_iconst (0) rfl rfl ?_
      refine ezw_istore_n rfl rfl ?_
      refine ezw_aload_n rfl rfl ?_
      refine ezw_bipush (44) rfl rfl ?_
      refine ezw_iconst (4) rfl rfl ?_
      refine ezw_call0_2 rfl (by omega) (ezm_at rfl) rfl rfl rfl rfl (ezm_m228p hT (by omega) ⟨by decide, by decide⟩ ⟨by decide, by decide⟩ (by omega) (by omega) hs (by omega) tk hM st) ?_
      rintro _ _ ⟨rfl, u5, hu5, p4_0, p4_1, p4_2, wh_4, rfl⟩
      refine ezw_istore_n rfl rfl ?_
      refine ezw_iload_n rfl rfl ?_
      refine ezw_if_ge rfl rfl hu5 (fun h36_5 => ?_) (fun h36_5 => ?_)
      · refine ezw_iload_n rfl rfl ?_
        refine ezw_iconst (5) rfl rfl ?_
        refine ezw_icmp_ne rfl rfl ⟨by decide, by decide⟩ ⟨by decide, by decide⟩ (fun h71_5 => ?_) (fun h71_5 => absurd h71_5 (by omega))
        refine ezw_aload_n rfl rfl ?_
        refine ezm_g8 rfl ?_
        refine ezw_if_le rfl rfl ⟨by omega, by omega⟩ (fun h83_5 => ?_) (fun h83_5 => ?_)
        · have stA : ezm_ST x.1 i8 i7 := ezm_ST_7 st (by omega) (fun _ => by omega)
          refine ezw_aload_n rfl rfl ?_
          refine ezw_bipush (41) rfl rfl ?_
          refine ezw_call0_1 rfl (by omega) (ezm_at rfl) rfl rfl rfl rfl (ezm_m232p hT (by omega) ⟨by decide, by decide⟩ (by omega) hs (by omega) tk hM stA (by omega)) ?_
          rintro _ _ ⟨x7_6, rfl, hT, u7, hu7, p6_0, p6_1, p6_2, p6_3, q1_6, q0_6, st_6, rfl⟩
          have k8 := hT.t7
          refine ezw_if_eq rfl rfl ⟨by omega, by omega⟩ (fun h93_8 => ?_) (fun h93_8 => ?_)
          · have ew : ezm_sn i8 x7_6 r74 r76 40 = ezm_sn i8 i7 r74 r76 40 := by rw [show x7_6 = i7 by omega]
            have stC : ezm_ST x.1 i8 x7_6 := ezm_ST_7 st (by omega) (fun _ => by omega)
            refine ezw_aload_n rfl rfl ?_
            refine ezw_bipush (40) rfl rfl ?_
            refine ezw_call0_1 rfl (by omega) (ezm_at rfl) rfl rfl rfl rfl (ezm_m252p hT (by omega) ⟨by decide, by decide⟩ (by omega) hs (by omega) tk hM stC (by omega)) ?_
            rintro _ _ ⟨x7_9, rfl, hT, u10, hu10, p9_0, p9_1, p9_2, p9_3, q1_9, q0_9, st_9, rfl⟩
            have k11 := hT.t7
            refine ezw_if_eq rfl rfl ⟨by omega, by omega⟩ (fun h118_11 => ?_) (fun h118_11 => ?_)
            · have hlt : i7 < n := by
                first
                  | omega
                  | exact ezm_lt hn.2 hs (show r74 i7 ≠ 0 by omega)
              refine ezw_aload_n rfl rfl ?_
              refine ezw_iload_n rfl rfl ?_
              refine ezw_if_eq rfl rfl ⟨by decide, by decide⟩ (fun h139_11 => ?_) (fun h139_11 => absurd h139_11 (by omega))
              refine ezw_iconst (2) rfl rfl ?_
              refine ezw_iload_n rfl rfl ?_
              refine ezw_if_eq rfl rfl ⟨by decide, by decide⟩ (fun h148_11 => ?_) (fun h148_11 => absurd h148_11 (by omega))
              refine ezw_iload_n rfl rfl ?_
              refine ezw_call0_2 rfl (by omega) (ezm_at rfl) rfl rfl rfl rfl (ezm_m251 hT (by omega) ⟨by decide, by decide⟩ hu5 (by omega)) ?_
              rintro _ _ ⟨x13_12, x79_12, x80_12, rfl, hT, p12_0, fo_12, eo_12, ea_12, rfl⟩
              have k13 := hT.t13
              refine ezw_aload_n rfl rfl ?_
              refine ezw_dup rfl rfl ?_
              refine ezm_g7 rfl ?_
              refine ezw_iconst (1) rfl rfl ?_
              refine ezw_iadd (k := x7_9 + 1) rfl (by omega) ?_
              refine ezm_p7 hT rfl ⟨by omega, by omega⟩ (fun hT => ?_)
              exact ezw_return rfl rfl ⟨(x7_9 + 1), i8, x13_12, x79_12, x80_12, rfl, hT, by omega, by omega, by omega, fo_12, fun z => ezm_sg1 (by first | exact Or.inl eo_12 | exact Or.inr ⟨eo_12, by rw [ea_12]; omega, by rw [ea_12]; omega⟩ | exact absurd z (by omega)) (by omega), by
                    first
                      | (exfalso; omega)
                      | (rw [ezp_pt_s]
                         repeat (first | rw [if_pos (by omega)] | rw [if_neg (by omega)])
                         first
                           | exact ezm_ST_t st (by omega) (fun _ => by omega)
                           | exact st
                           | exact ezm_ST_7 st (by omega) (fun _ => by omega)
                           | (have h9 := st; rw [ezp_wr_n (by omega)] at h9 ⊢; exact ezm_ST_7 st (by omega) (fun _ => by omega))
                           | (rw [ezp_wr_n (by omega)]; exact ezm_ST_7 st (by omega) (fun _ => by omega))), rfl⟩
            · have stT : ezm_ST (ezp_t x.1) i8 x7_9 := ezm_ST_t st (by omega) (fun _ => by omega)
              refine ezw_aload_n rfl rfl ?_
              refine ezw_iload_n rfl rfl ?_
              refine ezw_iconst (1) rfl rfl ?_
              refine ezw_iadd (k := (1)) rfl (by omega) ?_
              refine ezw_call0_1 rfl (by omega) (ezm_at rfl) rfl rfl rfl rfl (ezm_m245_v1p (x := (ezp_t x.1, x.2)) hT (by omega) (by omega) (by omega) hs (by omega) tk hM stT (by omega)) ?_
              rintro _ _ ⟨x7_14, x8_14, x13_14, x79_14, x80_14, rfl, hT, p14_0, p14_1, p14_2, fo_14, sg_14, st_14, rfl⟩
              have k15 := hT.t7
              have k16 := hT.t8
              have k17 := hT.t13
              refine ezw_aload_n rfl rfl ?_
              refine ezw_bipush (41) rfl rfl ?_
              refine ezw_call0_1 rfl (by omega) (ezm_at rfl) rfl rfl rfl rfl (ezm_m253p hT (by omega) ⟨by decide, by decide⟩ (by omega) hs (by omega) tk hM st_14 (by omega)) ?_
              rintro _ _ ⟨x7_18, x8_18, rfl, hT, p18_0, p18_1, p18_2, st_18, rfl⟩
              have k19 := hT.t7
              have k20 := hT.t8
              refine ezw_goto rfl rfl ?_
              exact ezw_return rfl rfl ⟨x7_18, x8_18, x13_14, x79_14, x80_14, rfl, hT, by omega, by omega, by omega, fo_14, fun z => sg_14 (by omega), by
                    first
                      | (exfalso; omega)
                      | (rw [ezp_pt_s]
                         repeat (first | rw [if_pos (by omega)] | rw [if_neg (by omega)])
                         have h9 := st_18
                         exact h9), rfl⟩
          · have stT : ezm_ST (ezp_t x.1) i8 x7_6 := ezm_ST_t st (by omega) (fun _ => by omega)
            refine ezw_aload_n rfl rfl ?_
            refine ezw_iload_n rfl rfl ?_
            refine ezw_iconst (1) rfl rfl ?_
            refine ezw_iadd (k := (1)) rfl (by omega) ?_
            refine ezw_call0_1 rfl (by omega) (ezm_at rfl) rfl rfl rfl rfl (ezm_m249_v1p (x := (ezp_t x.1, x.2)) hT (by omega) (by omega) (by omega) hs (by omega) tk hM stT (by omega)) ?_
            rintro _ _ ⟨x7_21, x8_21, x13_21, x79_21, x80_21, rfl, hT, p21_0, p21_1, p21_2, fo_21, sg_21, st_21, rfl⟩
            have k22 := hT.t7
            have k23 := hT.t8
            have k24 := hT.t13
            refine ezw_aload_n rfl rfl ?_
            refine ezw_iconst (3) rfl rfl ?_
            refine ezw_iconst (0) rfl rfl ?_
            refine ezw_call0_2 rfl (by omega) (ezm_at rfl) rfl rfl rfl rfl (ezm_m251 hT (by omega) ⟨by decide, by decide⟩ ⟨by decide, by decide⟩ (by omega)) ?_
            rintro _ _ ⟨x13_25, x79_25, x80_25, rfl, hT, p25_0, fo_25, eo_25, ea_25, rfl⟩
            have k26 := hT.t13
            refine ezw_goto rfl rfl ?_
            exact ezw_return rfl rfl ⟨x7_21, x8_21, x13_25, x79_25, x80_25, rfl, hT, by omega, by omega, by omega, (ezm_fr_t fo_21 fo_25 (by omega)), fun z => ezm_sgN (sg_21 (by omega)) fo_25 eo_25 (by omega), by
                  first
                    | (exfalso; omega)
                    | (rw [ezp_pt_s]
                       repeat (first | rw [if_pos (by omega)] | rw [if_neg (by omega)])
                       exact st_21), rfl⟩
        · exact ezw_return rfl rfl ⟨i7, i8, i13, r79, r80, rfl, hT, by omega, by omega, by omega, ezm_fr_r _ _ _, fun z => absurd z (by omega), by
                first
                  | (exfalso; omega)
                  | (rw [ezp_pt_s]
                     repeat (first | rw [if_pos (by omega)] | rw [if_neg (by omega)])
                     first
                       | exact ezm_ST_t st (by omega) (fun _ => by omega)
                       | exact st
                       | exact ezm_ST_7 st (by omega) (fun _ => by omega)
                       | (have h9 := st; rw [ezp_wr_n (by omega)] at h9 ⊢; exact ezm_ST_7 st (by omega) (fun _ => by omega))
                       | (rw [ezp_wr_n (by omega)]; exact ezm_ST_7 st (by omega) (fun _ => by omega))), rfl⟩
      · refine ezw_iload_n rfl rfl ?_
        refine ezw_if_ne rfl rfl ⟨by decide, by decide⟩ (fun h40_26 => absurd h40_26 (by omega)) (fun h40_26 => ?_)
        refine ezw_aload_n rfl rfl ?_
        refine ezw_bipush (40) rfl rfl ?_
        refine ezw_call0_1 rfl (by omega) (ezm_at rfl) rfl rfl rfl rfl (ezm_m250p hT (by omega) ⟨by decide, by decide⟩ (by omega) hs (by omega) tk hM st (by omega)) ?_
        rintro _ _ ⟨rfl, u28, hu28, f_27, w_27, q1_27, q0_27, rfl⟩
        refine ezw_if_ne rfl rfl ⟨by omega, by omega⟩ (fun h49_28 => ?_) (fun h49_28 => ?_)
        · refine ezw_iload_n rfl rfl ?_
          refine ezw_iconst (5) rfl rfl ?_
          refine ezw_icmp_ne rfl rfl ⟨by decide, by decide⟩ ⟨by decide, by decide⟩ (fun h71_28 => ?_) (fun h71_28 => absurd h71_28 (by omega))
          refine ezw_aload_n rfl rfl ?_
          refine ezm_g8 rfl ?_
          refine ezw_if_le rfl rfl ⟨by omega, by omega⟩ (fun h83_28 => ?_) (fun h83_28 => ?_)
          · have stA : ezm_ST x.1 i8 i7 := ezm_ST_7 st (by omega) (fun _ => by omega)
            refine ezw_aload_n rfl rfl ?_
            refine ezw_bipush (41) rfl rfl ?_
            refine ezw_call0_1 rfl (by omega) (ezm_at rfl) rfl rfl rfl rfl (ezm_m232p hT (by omega) ⟨by decide, by decide⟩ (by omega) hs (by omega) tk hM stA (by omega)) ?_
            rintro _ _ ⟨x7_29, rfl, hT, u30, hu30, p29_0, p29_1, p29_2, p29_3, q1_29, q0_29, st_29, rfl⟩
            have k31 := hT.t7
            refine ezw_if_eq rfl rfl ⟨by omega, by omega⟩ (fun h93_31 => ?_) (fun h93_31 => ?_)
            · have ew : ezm_sn i8 x7_29 r74 r76 40 = ezm_sn i8 i7 r74 r76 40 := by rw [show x7_29 = i7 by omega]
              have stC : ezm_ST x.1 i8 x7_29 := ezm_ST_7 st (by omega) (fun _ => by omega)
              refine ezw_aload_n rfl rfl ?_
              refine ezw_bipush (40) rfl rfl ?_
              refine ezw_call0_1 rfl (by omega) (ezm_at rfl) rfl rfl rfl rfl (ezm_m252p hT (by omega) ⟨by decide, by decide⟩ (by omega) hs (by omega) tk hM stC (by omega)) ?_
              rintro _ _ ⟨x7_32, rfl, hT, u33, hu33, p32_0, p32_1, p32_2, p32_3, q1_32, q0_32, st_32, rfl⟩
              have k34 := hT.t7
              refine ezw_if_eq rfl rfl ⟨by omega, by omega⟩ (fun h118_34 => ?_) (fun h118_34 => ?_)
              · have hlt : i7 < n := by
                  first
                    | omega
                    | exact ezm_lt hn.2 hs (show r74 i7 ≠ 0 by omega)
                refine ezw_aload_n rfl rfl ?_
                refine ezw_iload_n rfl rfl ?_
                refine ezw_if_eq rfl rfl ⟨by decide, by decide⟩ (fun h139_34 => ?_) (fun h139_34 => absurd h139_34 (by omega))
                refine ezw_iconst (2) rfl rfl ?_
                refine ezw_iload_n rfl rfl ?_
                refine ezw_if_eq rfl rfl ⟨by decide, by decide⟩ (fun h148_34 => ?_) (fun h148_34 => absurd h148_34 (by omega))
                refine ezw_iload_n rfl rfl ?_
                refine ezw_call0_2 rfl (by omega) (ezm_at rfl) rfl rfl rfl rfl (ezm_m251 hT (by omega) ⟨by decide, by decide⟩ hu5 (by omega)) ?_
                rintro _ _ ⟨x13_35, x79_35, x80_35, rfl, hT, p35_0, fo_35, eo_35, ea_35, rfl⟩
                have k36 := hT.t13
                refine ezw_aload_n rfl rfl ?_
                refine ezw_dup rfl rfl ?_
                refine ezm_g7 rfl ?_
                refine ezw_iconst (1) rfl rfl ?_
                refine ezw_iadd (k := x7_32 + 1) rfl (by omega) ?_
                refine ezm_p7 hT rfl ⟨by omega, by omega⟩ (fun hT => ?_)
                exact ezw_return rfl rfl ⟨(x7_32 + 1), i8, x13_35, x79_35, x80_35, rfl, hT, by omega, by omega, by omega, fo_35, fun z => ezm_sg1 (by first | exact Or.inl eo_35 | exact Or.inr ⟨eo_35, by rw [ea_35]; omega, by rw [ea_35]; omega⟩ | exact absurd z (by omega)) (by omega), by
                      first
                        | (exfalso; omega)
                        | (rw [ezp_pt_s]
                           repeat (first | rw [if_pos (by omega)] | rw [if_neg (by omega)])
                           first
                             | exact ezm_ST_t st (by omega) (fun _ => by omega)
                             | exact st
                             | exact ezm_ST_7 st (by omega) (fun _ => by omega)
                             | (have h9 := st; rw [ezp_wr_n (by omega)] at h9 ⊢; exact ezm_ST_7 st (by omega) (fun _ => by omega))
                             | (rw [ezp_wr_n (by omega)]; exact ezm_ST_7 st (by omega) (fun _ => by omega))), rfl⟩
              · have stT : ezm_ST (ezp_t x.1) i8 x7_32 := ezm_ST_t st (by omega) (fun _ => by omega)
                refine ezw_aload_n rfl rfl ?_
                refine ezw_iload_n rfl rfl ?_
                refine ezw_iconst (1) rfl rfl ?_
                refine ezw_iadd (k := (1)) rfl (by omega) ?_
                refine ezw_call0_1 rfl (by omega) (ezm_at rfl) rfl rfl rfl rfl (ezm_m245_v1p (x := (ezp_t x.1, x.2)) hT (by omega) (by omega) (by omega) hs (by omega) tk hM stT (by omega)) ?_
                rintro _ _ ⟨x7_37, x8_37, x13_37, x79_37, x80_37, rfl, hT, p37_0, p37_1, p37_2, fo_37, sg_37, st_37, rfl⟩
                have k38 := hT.t7
                have k39 := hT.t8
                have k40 := hT.t13
                refine ezw_aload_n rfl rfl ?_
                refine ezw_bipush (41) rfl rfl ?_
                refine ezw_call0_1 rfl (by omega) (ezm_at rfl) rfl rfl rfl rfl (ezm_m253p hT (by omega) ⟨by decide, by decide⟩ (by omega) hs (by omega) tk hM st_37 (by omega)) ?_
                rintro _ _ ⟨x7_41, x8_41, rfl, hT, p41_0, p41_1, p41_2, st_41, rfl⟩
                have k42 := hT.t7
                have k43 := hT.t8
                refine ezw_goto rfl rfl ?_
                exact ezw_return rfl rfl ⟨x7_41, x8_41, x13_37, x79_37, x80_37, rfl, hT, by omega, by omega, by omega, fo_37, fun z => sg_37 (by omega), by
                      first
                        | (exfalso; omega)
                        | (rw [ezp_pt_s]
                           repeat (first | rw [if_pos (by omega)] | rw [if_neg (by omega)])
                           have h9 := st_41
                           exact h9), rfl⟩
            · have stT : ezm_ST (ezp_t x.1) i8 x7_29 := ezm_ST_t st (by omega) (fun _ => by omega)
              refine ezw_aload_n rfl rfl ?_
              refine ezw_iload_n rfl rfl ?_
              refine ezw_iconst (1) rfl rfl ?_
              refine ezw_iadd (k := (1)) rfl (by omega) ?_
              refine ezw_call0_1 rfl (by omega) (ezm_at rfl) rfl rfl rfl rfl (ezm_m249_v1p (x := (ezp_t x.1, x.2)) hT (by omega) (by omega) (by omega) hs (by omega) tk hM stT (by omega)) ?_
              rintro _ _ ⟨x7_44, x8_44, x13_44, x79_44, x80_44, rfl, hT, p44_0, p44_1, p44_2, fo_44, sg_44, st_44, rfl⟩
              have k45 := hT.t7
              have k46 := hT.t8
              have k47 := hT.t13
              refine ezw_aload_n rfl rfl ?_
              refine ezw_iconst (3) rfl rfl ?_
              refine ezw_iconst (0) rfl rfl ?_
              refine ezw_call0_2 rfl (by omega) (ezm_at rfl) rfl rfl rfl rfl (ezm_m251 hT (by omega) ⟨by decide, by decide⟩ ⟨by decide, by decide⟩ (by omega)) ?_
              rintro _ _ ⟨x13_48, x79_48, x80_48, rfl, hT, p48_0, fo_48, eo_48, ea_48, rfl⟩
              have k49 := hT.t13
              refine ezw_goto rfl rfl ?_
              exact ezw_return rfl rfl ⟨x7_44, x8_44, x13_48, x79_48, x80_48, rfl, hT, by omega, by omega, by omega, (ezm_fr_t fo_44 fo_48 (by omega)), fun z => ezm_sgN (sg_44 (by omega)) fo_48 eo_48 (by omega), by
                    first
                      | (exfalso; omega)
                      | (rw [ezp_pt_s]
                         repeat (first | rw [if_pos (by omega)] | rw [if_neg (by omega)])
                         exact st_44), rfl⟩
          · exact ezw_return rfl rfl ⟨i7, i8, i13, r79, r80, rfl, hT, by omega, by omega, by omega, ezm_fr_r _ _ _, fun z => absurd z (by omega), by
                  first
                    | (exfalso; omega)
                    | (rw [ezp_pt_s]
                       repeat (first | rw [if_pos (by omega)] | rw [if_neg (by omega)])
                       first
                         | exact ezm_ST_t st (by omega) (fun _ => by omega)
                         | exact st
                         | exact ezm_ST_7 st (by omega) (fun _ => by omega)
                         | (have h9 := st; rw [ezp_wr_n (by omega)] at h9 ⊢; exact ezm_ST_7 st (by omega) (fun _ => by omega))
                         | (rw [ezp_wr_n (by omega)]; exact ezm_ST_7 st (by omega) (fun _ => by omega))), rfl⟩
        · refine ezw_aload_n rfl rfl ?_
          refine ezw_bipush (41) rfl rfl ?_
          refine ezw_call0_1 rfl (by omega) (ezm_at rfl) rfl rfl rfl rfl (ezm_m223_v41p hT (by omega) (by omega) hs (by omega) tk hM st) ?_
          rintro _ _ ⟨rfl, u51, hu51, f_50, w_50, q1_50, q0_50, rfl⟩
          refine ezw_if_ne rfl rfl ⟨by omega, by omega⟩ (fun h58_51 => ?_) (fun h58_51 => ?_)
          · refine ezw_iload_n rfl rfl ?_
            refine ezw_iconst (5) rfl rfl ?_
            refine ezw_icmp_ne rfl rfl ⟨by decide, by decide⟩ ⟨by decide, by decide⟩ (fun h71_51 => ?_) (fun h71_51 => absurd h71_51 (by omega))
            refine ezw_aload_n rfl rfl ?_
            refine ezm_g8 rfl ?_
            refine ezw_if_le rfl rfl ⟨by omega, by omega⟩ (fun h83_51 => ?_) (fun h83_51 => ?_)
            · have stA : ezm_ST x.1 i8 i7 := ezm_ST_7 st (by omega) (fun _ => by omega)
              refine ezw_aload_n rfl rfl ?_
              refine ezw_bipush (41) rfl rfl ?_
              refine ezw_call0_1 rfl (by omega) (ezm_at rfl) rfl rfl rfl rfl (ezm_m232p hT (by omega) ⟨by decide, by decide⟩ (by omega) hs (by omega) tk hM stA (by omega)) ?_
              rintro _ _ ⟨x7_52, rfl, hT, u53, hu53, p52_0, p52_1, p52_2, p52_3, q1_52, q0_52, st_52, rfl⟩
              have k54 := hT.t7
              refine ezw_if_eq rfl rfl ⟨by omega, by omega⟩ (fun h93_54 => ?_) (fun h93_54 => ?_)
              · have ew : ezm_sn i8 x7_52 r74 r76 40 = ezm_sn i8 i7 r74 r76 40 := by rw [show x7_52 = i7 by omega]
                have stC : ezm_ST x.1 i8 x7_52 := ezm_ST_7 st (by omega) (fun _ => by omega)
                refine ezw_aload_n rfl rfl ?_
                refine ezw_bipush (40) rfl rfl ?_
                refine ezw_call0_1 rfl (by omega) (ezm_at rfl) rfl rfl rfl rfl (ezm_m252p hT (by omega) ⟨by decide, by decide⟩ (by omega) hs (by omega) tk hM stC (by omega)) ?_
                rintro _ _ ⟨x7_55, rfl, hT, u56, hu56, p55_0, p55_1, p55_2, p55_3, q1_55, q0_55, st_55, rfl⟩
                have k57 := hT.t7
                refine ezw_if_eq rfl rfl ⟨by omega, by omega⟩ (fun h118_57 => ?_) (fun h118_57 => ?_)
                · have hlt : i7 < n := by
                    first
                      | omega
                      | exact ezm_lt hn.2 hs (show r74 i7 ≠ 0 by omega)
                  refine ezw_aload_n rfl rfl ?_
                  refine ezw_iload_n rfl rfl ?_
                  refine ezw_if_eq rfl rfl ⟨by decide, by decide⟩ (fun h139_57 => ?_) (fun h139_57 => absurd h139_57 (by omega))
                  refine ezw_iconst (2) rfl rfl ?_
                  refine ezw_iload_n rfl rfl ?_
                  refine ezw_if_eq rfl rfl ⟨by decide, by decide⟩ (fun h148_57 => ?_) (fun h148_57 => absurd h148_57 (by omega))
                  refine ezw_iload_n rfl rfl ?_
                  refine ezw_call0_2 rfl (by omega) (ezm_at rfl) rfl rfl rfl rfl (ezm_m251 hT (by omega) ⟨by decide, by decide⟩ hu5 (by omega)) ?_
                  rintro _ _ ⟨x13_58, x79_58, x80_58, rfl, hT, p58_0, fo_58, eo_58, ea_58, rfl⟩
                  have k59 := hT.t13
                  refine ezw_aload_n rfl rfl ?_
                  refine ezw_dup rfl rfl ?_
                  refine ezm_g7 rfl ?_
                  refine ezw_iconst (1) rfl rfl ?_
                  refine ezw_iadd (k := x7_55 + 1) rfl (by omega) ?_
                  refine ezm_p7 hT rfl ⟨by omega, by omega⟩ (fun hT => ?_)
                  exact ezw_return rfl rfl ⟨(x7_55 + 1), i8, x13_58, x79_58, x80_58, rfl, hT, by omega, by omega, by omega, fo_58, fun z => ezm_sg1 (by first | exact Or.inl eo_58 | exact Or.inr ⟨eo_58, by rw [ea_58]; omega, by rw [ea_58]; omega⟩ | exact absurd z (by omega)) (by omega), by
                        first
                          | (exfalso; omega)
                          | (rw [ezp_pt_s]
                             repeat (first | rw [if_pos (by omega)] | rw [if_neg (by omega)])
                             first
                               | exact ezm_ST_t st (by omega) (fun _ => by omega)
                               | exact st
                               | exact ezm_ST_7 st (by omega) (fun _ => by omega)
                               | (have h9 := st; rw [ezp_wr_n (by omega)] at h9 ⊢; exact ezm_ST_7 st (by omega) (fun _ => by omega))
                               | (rw [ezp_wr_n (by omega)]; exact ezm_ST_7 st (by omega) (fun _ => by omega))), rfl⟩
                · have stT : ezm_ST (ezp_t x.1) i8 x7_55 := ezm_ST_t st (by omega) (fun _ => by omega)
                  refine ezw_aload_n rfl rfl ?_
                  refine ezw_iload_n rfl rfl ?_
                  refine ezw_iconst (1) rfl rfl ?_
                  refine ezw_iadd (k := (1)) rfl (by omega) ?_
                  refine ezw_call0_1 rfl (by omega) (ezm_at rfl) rfl rfl rfl rfl (ezm_m245_v1p (x := (ezp_t x.1, x.2)) hT (by omega) (by omega) (by omega) hs (by omega) tk hM stT (by omega)) ?_
                  rintro _ _ ⟨x7_60, x8_60, x13_60, x79_60, x80_60, rfl, hT, p60_0, p60_1, p60_2, fo_60, sg_60, st_60, rfl⟩
                  have k61 := hT.t7
                  have k62 := hT.t8
                  have k63 := hT.t13
                  refine ezw_aload_n rfl rfl ?_
                  refine ezw_bipush (41) rfl rfl ?_
                  refine ezw_call0_1 rfl (by omega) (ezm_at rfl) rfl rfl rfl rfl (ezm_m253p hT (by omega) ⟨by decide, by decide⟩ (by omega) hs (by omega) tk hM st_60 (by omega)) ?_
                  rintro _ _ ⟨x7_64, x8_64, rfl, hT, p64_0, p64_1, p64_2, st_64, rfl⟩
                  have k65 := hT.t7
                  have k66 := hT.t8
                  refine ezw_goto rfl rfl ?_
                  exact ezw_return rfl rfl ⟨x7_64, x8_64, x13_60, x79_60, x80_60, rfl, hT, by omega, by omega, by omega, fo_60, fun z => sg_60 (by omega), by
                        first
                          | (exfalso; omega)
                          | (rw [ezp_pt_s]
                             repeat (first | rw [if_pos (by omega)] | rw [if_neg (by omega)])
                             have h9 := st_64
                             exact h9), rfl⟩
              · have stT : ezm_ST (ezp_t x.1) i8 x7_52 := ezm_ST_t st (by omega) (fun _ => by omega)
                refine ezw_aload_n rfl rfl ?_
                refine ezw_iload_n rfl rfl ?_
                refine ezw_iconst (1) rfl rfl ?_
                refine ezw_iadd (k := (1)) rfl (by omega) ?_
                refine ezw_call0_1 rfl (by omega) (ezm_at rfl) rfl rfl rfl rfl (ezm_m249_v1p (x := (ezp_t x.1, x.2)) hT (by omega) (by omega) (by omega) hs (by omega) tk hM stT (by omega)) ?_
                rintro _ _ ⟨x7_67, x8_67, x13_67, x79_67, x80_67, rfl, hT, p67_0, p67_1, p67_2, fo_67, sg_67, st_67, rfl⟩
                have k68 := hT.t7
                have k69 := hT.t8
                have k70 := hT.t13
                refine ezw_aload_n rfl rfl ?_
                refine ezw_iconst (3) rfl rfl ?_
                refine ezw_iconst (0) rfl rfl ?_
                refine ezw_call0_2 rfl (by omega) (ezm_at rfl) rfl rfl rfl rfl (ezm_m251 hT (by omega) ⟨by decide, by decide⟩ ⟨by decide, by decide⟩ (by omega)) ?_
                rintro _ _ ⟨x13_71, x79_71, x80_71, rfl, hT, p71_0, fo_71, eo_71, ea_71, rfl⟩
                have k72 := hT.t13
                refine ezw_goto rfl rfl ?_
                exact ezw_return rfl rfl ⟨x7_67, x8_67, x13_71, x79_71, x80_71, rfl, hT, by omega, by omega, by omega, (ezm_fr_t fo_67 fo_71 (by omega)), fun z => ezm_sgN (sg_67 (by omega)) fo_71 eo_71 (by omega), by
                      first
                        | (exfalso; omega)
                        | (rw [ezp_pt_s]
                           repeat (first | rw [if_pos (by omega)] | rw [if_neg (by omega)])
                           exact st_67), rfl⟩
            · exact ezw_return rfl rfl ⟨i7, i8, i13, r79, r80, rfl, hT, by omega, by omega, by omega, ezm_fr_r _ _ _, fun z => absurd z (by omega), by
                    first
                      | (exfalso; omega)
                      | (rw [ezp_pt_s]
                         repeat (first | rw [if_pos (by omega)] | rw [if_neg (by omega)])
                         first
                           | exact ezm_ST_t st (by omega) (fun _ => by omega)
                           | exact st
                           | exact ezm_ST_7 st (by omega) (fun _ => by omega)
                           | (have h9 := st; rw [ezp_wr_n (by omega)] at h9 ⊢; exact ezm_ST_7 st (by omega) (fun _ => by omega))
                           | (rw [ezp_wr_n (by omega)]; exact ezm_ST_7 st (by omega) (fun _ => by omega))), rfl⟩
          · refine ezw_aload_n rfl rfl ?_
            refine ezw_iconst (1) rfl rfl ?_
            refine ezw_call0_1 rfl (by omega) (ezm_at rfl) rfl rfl rfl rfl (ezm_m225p hT (by omega) ⟨by decide, by decide⟩ (by omega) (by omega) (by omega) hs (by omega) tk hM st) ?_
            rintro _ _ ⟨x8_73, rfl, hT, p73_0, p73_1, st_73, rfl⟩
            have k74 := hT.t8
            refine ezw_goto rfl rfl ?_
            refine ezw_aload_n rfl rfl ?_
            refine ezm_g8 rfl ?_
            refine ezw_if_le rfl rfl ⟨by omega, by omega⟩ (fun h83_74 => ?_) (fun h83_74 => ?_)
            · have stA : ezm_ST x.1 x8_73 i7 := ezm_ST_7 st (by omega) (fun _ => by omega)
              refine ezw_aload_n rfl rfl ?_
              refine ezw_bipush (41) rfl rfl ?_
              refine ezw_call0_1 rfl (by omega) (ezm_at rfl) rfl rfl rfl rfl (ezm_m232p hT (by omega) ⟨by decide, by decide⟩ (by omega) hs (by omega) tk hM stA (by omega)) ?_
              rintro _ _ ⟨x7_75, rfl, hT, u76, hu76, p75_0, p75_1, p75_2, p75_3, q1_75, q0_75, st_75, rfl⟩
              have k77 := hT.t7
              refine ezw_if_eq rfl rfl ⟨by omega, by omega⟩ (fun h93_77 => ?_) (fun h93_77 => ?_)
              · have ew : ezm_sn i8 x7_75 r74 r76 40 = ezm_sn i8 i7 r74 r76 40 := by rw [show x7_75 = i7 by omega]
                have stC : ezm_ST x.1 x8_73 x7_75 := ezm_ST_7 st (by omega) (fun _ => by omega)
                refine ezw_aload_n rfl rfl ?_
                refine ezw_bipush (40) rfl rfl ?_
                refine ezw_call0_1 rfl (by omega) (ezm_at rfl) rfl rfl rfl rfl (ezm_m252p hT (by omega) ⟨by decide, by decide⟩ (by omega) hs (by omega) tk hM stC (by omega)) ?_
                rintro _ _ ⟨x7_78, rfl, hT, u79, hu79, p78_0, p78_1, p78_2, p78_3, q1_78, q0_78, st_78, rfl⟩
                have k80 := hT.t7
                refine ezw_if_eq rfl rfl ⟨by omega, by omega⟩ (fun h118_80 => ?_) (fun h118_80 => ?_)
                · have hlt : i7 < n := by
                    first
                      | omega
                      | exact ezm_lt hn.2 hs (show r74 i7 ≠ 0 by omega)
                  refine ezw_aload_n rfl rfl ?_
                  refine ezw_iload_n rfl rfl ?_
                  refine ezw_if_eq rfl rfl ⟨by decide, by decide⟩ (fun h139_80 => ?_) (fun h139_80 => absurd h139_80 (by omega))
                  refine ezw_iconst (2) rfl rfl ?_
                  refine ezw_iload_n rfl rfl ?_
                  refine ezw_if_eq rfl rfl ⟨by decide, by decide⟩ (fun h148_80 => ?_) (fun h148_80 => absurd h148_80 (by omega))
                  refine ezw_iload_n rfl rfl ?_
                  refine ezw_call0_2 rfl (by omega) (ezm_at rfl) rfl rfl rfl rfl (ezm_m251 hT (by omega) ⟨by decide, by decide⟩ hu5 (by omega)) ?_
                  rintro _ _ ⟨x13_81, x79_81, x80_81, rfl, hT, p81_0, fo_81, eo_81, ea_81, rfl⟩
                  have k82 := hT.t13
                  refine ezw_aload_n rfl rfl ?_
                  refine ezw_dup rfl rfl ?_
                  refine ezm_g7 rfl ?_
                  refine ezw_iconst (1) rfl rfl ?_
                  refine ezw_iadd (k := x7_78 + 1) rfl (by omega) ?_
                  refine ezm_p7 hT rfl ⟨by omega, by omega⟩ (fun hT => ?_)
                  exact ezw_return rfl rfl ⟨(x7_78 + 1), x8_73, x13_81, x79_81, x80_81, rfl, hT, by omega, by omega, by omega, fo_81, fun z => ezm_sg1 (by first | exact Or.inl eo_81 | exact Or.inr ⟨eo_81, by rw [ea_81]; omega, by rw [ea_81]; omega⟩ | exact absurd z (by omega)) (by omega), by
                        first
                          | (exfalso; omega)
                          | (rw [ezp_pt_s]
                             repeat (first | rw [if_pos (by omega)] | rw [if_neg (by omega)])
                             first
                               | exact ezm_ST_t st (by omega) (fun _ => by omega)
                               | exact st_73
                               | exact ezm_ST_7 st (by omega) (fun _ => by omega)
                               | (have h9 := st_73; rw [ezp_wr_n (by omega)] at h9 ⊢; exact ezm_ST_7 st (by omega) (fun _ => by omega))
                               | (rw [ezp_wr_n (by omega)]; exact ezm_ST_7 st (by omega) (fun _ => by omega))), rfl⟩
                · have stT : ezm_ST (ezp_t x.1) x8_73 x7_78 := ezm_ST_t st (by omega) (fun _ => by omega)
                  refine ezw_aload_n rfl rfl ?_
                  refine ezw_iload_n rfl rfl ?_
                  refine ezw_iconst (1) rfl rfl ?_
                  refine ezw_iadd (k := (1)) rfl (by omega) ?_
                  refine ezw_call0_1 rfl (by omega) (ezm_at rfl) rfl rfl rfl rfl (ezm_m245_v1p (x := (ezp_t x.1, x.2)) hT (by omega) (by omega) (by omega) hs (by omega) tk hM stT (by omega)) ?_
                  rintro _ _ ⟨x7_83, x8_83, x13_83, x79_83, x80_83, rfl, hT, p83_0, p83_1, p83_2, fo_83, sg_83, st_83, rfl⟩
                  have k84 := hT.t7
                  have k85 := hT.t8
                  have k86 := hT.t13
                  refine ezw_aload_n rfl rfl ?_
                  refine ezw_bipush (41) rfl rfl ?_
                  refine ezw_call0_1 rfl (by omega) (ezm_at rfl) rfl rfl rfl rfl (ezm_m253p hT (by omega) ⟨by decide, by decide⟩ (by omega) hs (by omega) tk hM st_83 (by omega)) ?_
                  rintro _ _ ⟨x7_87, x8_87, rfl, hT, p87_0, p87_1, p87_2, st_87, rfl⟩
                  have k88 := hT.t7
                  have k89 := hT.t8
                  refine ezw_goto rfl rfl ?_
                  exact ezw_return rfl rfl ⟨x7_87, x8_87, x13_83, x79_83, x80_83, rfl, hT, by omega, by omega, by omega, fo_83, fun z => sg_83 (by omega), by
                        first
                          | (exfalso; omega)
                          | (rw [ezp_pt_s]
                             repeat (first | rw [if_pos (by omega)] | rw [if_neg (by omega)])
                             have h9 := st_87
                             exact h9), rfl⟩
              · have stT : ezm_ST (ezp_t x.1) x8_73 x7_75 := ezm_ST_t st (by omega) (fun _ => by omega)
                refine ezw_aload_n rfl rfl ?_
                refine ezw_iload_n rfl rfl ?_
                refine ezw_iconst (1) rfl rfl ?_
                refine ezw_iadd (k := (1)) rfl (by omega) ?_
                refine ezw_call0_1 rfl (by omega) (ezm_at rfl) rfl rfl rfl rfl (ezm_m249_v1p (x := (ezp_t x.1, x.2)) hT (by omega) (by omega) (by omega) hs (by omega) tk hM stT (by omega)) ?_
                rintro _ _ ⟨x7_90, x8_90, x13_90, x79_90, x80_90, rfl, hT, p90_0, p90_1, p90_2, fo_90, sg_90, st_90, rfl⟩
                have k91 := hT.t7
                have k92 := hT.t8
                have k93 := hT.t13
                refine ezw_aload_n rfl rfl ?_
                refine ezw_iconst (3) rfl rfl ?_
                refine ezw_iconst (0) rfl rfl ?_
                refine ezw_call0_2 rfl (by omega) (ezm_at rfl) rfl rfl rfl rfl (ezm_m251 hT (by omega) ⟨by decide, by decide⟩ ⟨by decide, by decide⟩ (by omega)) ?_
                rintro _ _ ⟨x13_94, x79_94, x80_94, rfl, hT, p94_0, fo_94, eo_94, ea_94, rfl⟩
                have k95 := hT.t13
                refine ezw_goto rfl rfl ?_
                exact ezw_return rfl rfl ⟨x7_90, x8_90, x13_94, x79_94, x80_94, rfl, hT, by omega, by omega, by omega, (ezm_fr_t fo_90 fo_94 (by omega)), fun z => ezm_sgN (sg_90 (by omega)) fo_94 eo_94 (by omega), by
                      first
                        | (exfalso; omega)
                        | (rw [ezp_pt_s]
                           repeat (first | rw [if_pos (by omega)] | rw [if_neg (by omega)])
                           exact st_90), rfl⟩
            · exact ezw_return rfl rfl ⟨i7, x8_73, i13, r79, r80, rfl, hT, by omega, by omega, by omega, ezm_fr_r _ _ _, fun z => absurd z (by omega), by
                    first
                      | (exfalso; omega)
                      | (rw [ezp_pt_s]
                         repeat (first | rw [if_pos (by omega)] | rw [if_neg (by omega)])
                         first
                           | exact ezm_ST_t st (by omega) (fun _ => by omega)
                           | exact st_73
                           | exact ezm_ST_7 st (by omega) (fun _ => by omega)
                           | (have h9 := st_73; rw [ezp_wr_n (by omega)] at h9 ⊢; exact ezm_ST_7 st (by omega) (fun _ => by omega))
                           | (rw [ezp_wr_n (by omega)]; exact ezm_ST_7 st (by omega) (fun _ => by omega))), rfl⟩
    · refine ezw_iconst (1) rfl rfl ?_
      refine ezw_goto rfl rfl ?_
      refine ezw_istore_n rfl rfl ?_
      refine ezw_aload_n rfl rfl ?_
      refine ezw_bipush (44) rfl rfl ?_
      refine ezw_iconst (4) rfl rfl ?_
      refine ezw_call0_2 rfl (by omega) (ezm_at rfl) rfl rfl rfl rfl (ezm_m228p hT (by omega) ⟨by decide, by decide⟩ ⟨by decide, by decide⟩ (by omega) (by omega) hs (by omega) tk hM st) ?_
      rintro _ _ ⟨rfl, u97, hu97, p96_0, p96_1, p96_2, wh_96, rfl⟩
      refine ezw_istore_n rfl rfl ?_
      refine ezw_iload_n rfl rfl ?_
      refine ezw_if_ge rfl rfl hu97 (fun h36_97 => ?_) (fun h36_97 => ?_)
      · refine ezw_iload_n rfl rfl ?_
        refine ezw_iconst (5) rfl rfl ?_
        refine ezw_icmp_ne rfl rfl ⟨by decide, by decide⟩ ⟨by decide, by decide⟩ (fun h71_97 => ?_) (fun h71_97 => absurd h71_97 (by omega))
        refine ezw_aload_n rfl rfl ?_
        refine ezm_g8 rfl ?_
        refine ezw_if_le rfl rfl ⟨by omega, by omega⟩ (fun h83_97 => ?_) (fun h83_97 => ?_)
        · have stA : ezm_ST x.1 i8 i7 := ezm_ST_7 st (by omega) (fun _ => by omega)
          refine ezw_aload_n rfl rfl ?_
          refine ezw_bipush (41) rfl rfl ?_
          refine ezw_call0_1 rfl (by omega) (ezm_at rfl) rfl rfl rfl rfl (ezm_m232p hT (by omega) ⟨by decide, by decide⟩ (by omega) hs (by omega) tk hM stA (by omega)) ?_
          rintro _ _ ⟨x7_98, rfl, hT, u99, hu99, p98_0, p98_1, p98_2, p98_3, q1_98, q0_98, st_98, rfl⟩
          have k100 := hT.t7
          refine ezw_if_eq rfl rfl ⟨by omega, by omega⟩ (fun h93_100 => ?_) (fun h93_100 => ?_)
          · have ew : ezm_sn i8 x7_98 r74 r76 40 = ezm_sn i8 i7 r74 r76 40 := by rw [show x7_98 = i7 by omega]
            have stC : ezm_ST x.1 i8 x7_98 := ezm_ST_7 st (by omega) (fun _ => by omega)
            refine ezw_aload_n rfl rfl ?_
            refine ezw_bipush (40) rfl rfl ?_
            refine ezw_call0_1 rfl (by omega) (ezm_at rfl) rfl rfl rfl rfl (ezm_m252p hT (by omega) ⟨by decide, by decide⟩ (by omega) hs (by omega) tk hM stC (by omega)) ?_
            rintro _ _ ⟨x7_101, rfl, hT, u102, hu102, p101_0, p101_1, p101_2, p101_3, q1_101, q0_101, st_101, rfl⟩
            have k103 := hT.t7
            refine ezw_if_eq rfl rfl ⟨by omega, by omega⟩ (fun h118_103 => ?_) (fun h118_103 => ?_)
            · have hlt : i7 < n := by
                first
                  | omega
                  | exact ezm_lt hn.2 hs (show r74 i7 ≠ 0 by omega)
              refine ezw_aload_n rfl rfl ?_
              refine ezw_iload_n rfl rfl ?_
              refine ezw_if_eq rfl rfl ⟨by decide, by decide⟩ (fun h139_103 => absurd h139_103 (by omega)) (fun h139_103 => ?_)
              refine ezw_iconst (1) rfl rfl ?_
              refine ezw_goto rfl rfl ?_
              refine ezw_iload_n rfl rfl ?_
              refine ezw_if_eq rfl rfl ⟨by decide, by decide⟩ (fun h148_103 => absurd h148_103 (by omega)) (fun h148_103 => ?_)
              refine ezw_aload_n rfl rfl ?_
              refine ezm_gp (p := 76) rfl (fun _ => rfl) ?_
              refine ezw_aload_n rfl rfl ?_
              refine ezm_g7 rfl ?_
              refine ezm_l76 rfl (by omega) (by omega) (fun u104 eu104 => ?_)
              have ku104 : ezw_il u104 := eu104 ▸ hT.t76 x7_101
              refine ezs_l2i rfl (fun u105 hu105 => ?_)
              refine ezw_goto rfl rfl ?_
              refine ezw_call0_2 rfl (by omega) (ezm_at rfl) rfl rfl rfl rfl (ezm_m251 hT (by omega) ⟨by decide, by decide⟩ hu105 (by omega)) ?_
              rintro _ _ ⟨x13_106, x79_106, x80_106, rfl, hT, p106_0, fo_106, eo_106, ea_106, rfl⟩
              have k107 := hT.t13
              refine ezw_aload_n rfl rfl ?_
              refine ezw_dup rfl rfl ?_
              refine ezm_g7 rfl ?_
              refine ezw_iconst (1) rfl rfl ?_
              refine ezw_iadd (k := x7_101 + 1) rfl (by omega) ?_
              refine ezm_p7 hT rfl ⟨by omega, by omega⟩ (fun hT => ?_)
              exact ezw_return rfl rfl ⟨(x7_101 + 1), i8, x13_106, x79_106, x80_106, rfl, hT, by omega, by omega, by omega, fo_106, fun z => ezm_sg1 (by first | exact Or.inl eo_106 | exact Or.inr ⟨eo_106, by rw [ea_106]; omega, by rw [ea_106]; omega⟩ | exact absurd z (by omega)) (by omega), by
                    first
                      | (exfalso; omega)
                      | (rw [ezp_pt_s]
                         repeat (first | rw [if_pos (by omega)] | rw [if_neg (by omega)])
                         first
                           | exact ezm_ST_t st (by omega) (fun _ => by omega)
                           | exact st
                           | exact ezm_ST_7 st (by omega) (fun _ => by omega)
                           | (have h9 := st; rw [ezp_wr_n (by omega)] at h9 ⊢; exact ezm_ST_7 st (by omega) (fun _ => by omega))
                           | (rw [ezp_wr_n (by omega)]; exact ezm_ST_7 st (by omega) (fun _ => by omega))), rfl⟩
            · have stT : ezm_ST (ezp_t x.1) i8 x7_101 := ezm_ST_t st (by omega) (fun _ => by omega)
              refine ezw_aload_n rfl rfl ?_
              refine ezw_iload_n rfl rfl ?_
              refine ezw_iconst (1) rfl rfl ?_
              refine ezw_iadd (k := (1)) rfl (by omega) ?_
              refine ezw_call0_1 rfl (by omega) (ezm_at rfl) rfl rfl rfl rfl (ezm_m245_v1p (x := (ezp_t x.1, x.2)) hT (by omega) (by omega) (by omega) hs (by omega) tk hM stT (by omega)) ?_
              rintro _ _ ⟨x7_108, x8_108, x13_108, x79_108, x80_108, rfl, hT, p108_0, p108_1, p108_2, fo_108, sg_108, st_108, rfl⟩
              have k109 := hT.t7
              have k110 := hT.t8
              have k111 := hT.t13
              refine ezw_aload_n rfl rfl ?_
              refine ezw_bipush (41) rfl rfl ?_
              refine ezw_call0_1 rfl (by omega) (ezm_at rfl) rfl rfl rfl rfl (ezm_m253p hT (by omega) ⟨by decide, by decide⟩ (by omega) hs (by omega) tk hM st_108 (by omega)) ?_
              rintro _ _ ⟨x7_112, x8_112, rfl, hT, p112_0, p112_1, p112_2, st_112, rfl⟩
              have k113 := hT.t7
              have k114 := hT.t8
              refine ezw_goto rfl rfl ?_
              exact ezw_return rfl rfl ⟨x7_112, x8_112, x13_108, x79_108, x80_108, rfl, hT, by omega, by omega, by omega, fo_108, fun z => sg_108 (by omega), by
                    first
                      | (exfalso; omega)
                      | (rw [ezp_pt_s]
                         repeat (first | rw [if_pos (by omega)] | rw [if_neg (by omega)])
                         have h9 := st_112
                         exact h9), rfl⟩
          · have stT : ezm_ST (ezp_t x.1) i8 x7_98 := ezm_ST_t st (by omega) (fun _ => by omega)
            refine ezw_aload_n rfl rfl ?_
            refine ezw_iload_n rfl rfl ?_
            refine ezw_iconst (1) rfl rfl ?_
            refine ezw_iadd (k := (1)) rfl (by omega) ?_
            refine ezw_call0_1 rfl (by omega) (ezm_at rfl) rfl rfl rfl rfl (ezm_m249_v1p (x := (ezp_t x.1, x.2)) hT (by omega) (by omega) (by omega) hs (by omega) tk hM stT (by omega)) ?_
            rintro _ _ ⟨x7_115, x8_115, x13_115, x79_115, x80_115, rfl, hT, p115_0, p115_1, p115_2, fo_115, sg_115, st_115, rfl⟩
            have k116 := hT.t7
            have k117 := hT.t8
            have k118 := hT.t13
            refine ezw_aload_n rfl rfl ?_
            refine ezw_iconst (3) rfl rfl ?_
            refine ezw_iconst (0) rfl rfl ?_
            refine ezw_call0_2 rfl (by omega) (ezm_at rfl) rfl rfl rfl rfl (ezm_m251 hT (by omega) ⟨by decide, by decide⟩ ⟨by decide, by decide⟩ (by omega)) ?_
            rintro _ _ ⟨x13_119, x79_119, x80_119, rfl, hT, p119_0, fo_119, eo_119, ea_119, rfl⟩
            have k120 := hT.t13
            refine ezw_goto rfl rfl ?_
            exact ezw_return rfl rfl ⟨x7_115, x8_115, x13_119, x79_119, x80_119, rfl, hT, by omega, by omega, by omega, (ezm_fr_t fo_115 fo_119 (by omega)), fun z => ezm_sgN (sg_115 (by omega)) fo_119 eo_119 (by omega), by
                  first
                    | (exfalso; omega)
                    | (rw [ezp_pt_s]
                       repeat (first | rw [if_pos (by omega)] | rw [if_neg (by omega)])
                       exact st_115), rfl⟩
        · exact ezw_return rfl rfl ⟨i7, i8, i13, r79, r80, rfl, hT, by omega, by omega, by omega, ezm_fr_r _ _ _, fun z => absurd z (by omega), by
                first
                  | (exfalso; omega)
                  | (rw [ezp_pt_s]
                     repeat (first | rw [if_pos (by omega)] | rw [if_neg (by omega)])
                     first
                       | exact ezm_ST_t st (by omega) (fun _ => by omega)
                       | exact st
                       | exact ezm_ST_7 st (by omega) (fun _ => by omega)
                       | (have h9 := st; rw [ezp_wr_n (by omega)] at h9 ⊢; exact ezm_ST_7 st (by omega) (fun _ => by omega))
                       | (rw [ezp_wr_n (by omega)]; exact ezm_ST_7 st (by omega) (fun _ => by omega))), rfl⟩
      · refine ezw_iload_n rfl rfl ?_
        refine ezw_if_ne rfl rfl ⟨by decide, by decide⟩ (fun h40_120 => ?_) (fun h40_120 => absurd h40_120 (by omega))
        refine ezw_iload_n rfl rfl ?_
        refine ezw_iconst (5) rfl rfl ?_
        refine ezw_icmp_ne rfl rfl ⟨by decide, by decide⟩ ⟨by decide, by decide⟩ (fun h71_120 => ?_) (fun h71_120 => absurd h71_120 (by omega))
        refine ezw_aload_n rfl rfl ?_
        refine ezm_g8 rfl ?_
        refine ezw_if_le rfl rfl ⟨by omega, by omega⟩ (fun h83_120 => ?_) (fun h83_120 => ?_)
        · have stA : ezm_ST x.1 i8 i7 := ezm_ST_7 st (by omega) (fun _ => by omega)
          refine ezw_aload_n rfl rfl ?_
          refine ezw_bipush (41) rfl rfl ?_
          refine ezw_call0_1 rfl (by omega) (ezm_at rfl) rfl rfl rfl rfl (ezm_m232p hT (by omega) ⟨by decide, by decide⟩ (by omega) hs (by omega) tk hM stA (by omega)) ?_
          rintro _ _ ⟨x7_121, rfl, hT, u122, hu122, p121_0, p121_1, p121_2, p121_3, q1_121, q0_121, st_121, rfl⟩
          have k123 := hT.t7
          refine ezw_if_eq rfl rfl ⟨by omega, by omega⟩ (fun h93_123 => ?_) (fun h93_123 => ?_)
          · have ew : ezm_sn i8 x7_121 r74 r76 40 = ezm_sn i8 i7 r74 r76 40 := by rw [show x7_121 = i7 by omega]
            have stC : ezm_ST x.1 i8 x7_121 := ezm_ST_7 st (by omega) (fun _ => by omega)
            refine ezw_aload_n rfl rfl ?_
            refine ezw_bipush (40) rfl rfl ?_
            refine ezw_call0_1 rfl (by omega) (ezm_at rfl) rfl rfl rfl rfl (ezm_m252p hT (by omega) ⟨by decide, by decide⟩ (by omega) hs (by omega) tk hM stC (by omega)) ?_
            rintro _ _ ⟨x7_124, rfl, hT, u125, hu125, p124_0, p124_1, p124_2, p124_3, q1_124, q0_124, st_124, rfl⟩
            have k126 := hT.t7
            refine ezw_if_eq rfl rfl ⟨by omega, by omega⟩ (fun h118_126 => ?_) (fun h118_126 => ?_)
            · have hlt : i7 < n := by
                first
                  | omega
                  | exact ezm_lt hn.2 hs (show r74 i7 ≠ 0 by omega)
              refine ezw_aload_n rfl rfl ?_
              refine ezw_iload_n rfl rfl ?_
              refine ezw_if_eq rfl rfl ⟨by decide, by decide⟩ (fun h139_126 => absurd h139_126 (by omega)) (fun h139_126 => ?_)
              refine ezw_iconst (1) rfl rfl ?_
              refine ezw_goto rfl rfl ?_
              refine ezw_iload_n rfl rfl ?_
              refine ezw_if_eq rfl rfl ⟨by decide, by decide⟩ (fun h148_126 => absurd h148_126 (by omega)) (fun h148_126 => ?_)
              refine ezw_aload_n rfl rfl ?_
              refine ezm_gp (p := 76) rfl (fun _ => rfl) ?_
              refine ezw_aload_n rfl rfl ?_
              refine ezm_g7 rfl ?_
              refine ezm_l76 rfl (by omega) (by omega) (fun u127 eu127 => ?_)
              have ku127 : ezw_il u127 := eu127 ▸ hT.t76 x7_124
              refine ezs_l2i rfl (fun u128 hu128 => ?_)
              refine ezw_goto rfl rfl ?_
              refine ezw_call0_2 rfl (by omega) (ezm_at rfl) rfl rfl rfl rfl (ezm_m251 hT (by omega) ⟨by decide, by decide⟩ hu128 (by omega)) ?_
              rintro _ _ ⟨x13_129, x79_129, x80_129, rfl, hT, p129_0, fo_129, eo_129, ea_129, rfl⟩
              have k130 := hT.t13
              refine ezw_aload_n rfl rfl ?_
              refine ezw_dup rfl rfl ?_
              refine ezm_g7 rfl ?_
              refine ezw_iconst (1) rfl rfl ?_
              refine ezw_iadd (k := x7_124 + 1) rfl (by omega) ?_
              refine ezm_p7 hT rfl ⟨by omega, by omega⟩ (fun hT => ?_)
              exact ezw_return rfl rfl ⟨(x7_124 + 1), i8, x13_129, x79_129, x80_129, rfl, hT, by omega, by omega, by omega, fo_129, fun z => ezm_sg1 (by first | exact Or.inl eo_129 | exact Or.inr ⟨eo_129, by rw [ea_129]; omega, by rw [ea_129]; omega⟩ | exact absurd z (by omega)) (by omega), by
                    first
                      | (exfalso; omega)
                      | (rw [ezp_pt_s]
                         repeat (first | rw [if_pos (by omega)] | rw [if_neg (by omega)])
                         first
                           | exact ezm_ST_t st (by omega) (fun _ => by omega)
                           | exact st
                           | exact ezm_ST_7 st (by omega) (fun _ => by omega)
                           | (have h9 := st; rw [ezp_wr_n (by omega)] at h9 ⊢; exact ezm_ST_7 st (by omega) (fun _ => by omega))
                           | (rw [ezp_wr_n (by omega)]; exact ezm_ST_7 st (by omega) (fun _ => by omega))), rfl⟩
            · have stT : ezm_ST (ezp_t x.1) i8 x7_124 := ezm_ST_t st (by omega) (fun _ => by omega)
              refine ezw_aload_n rfl rfl ?_
              refine ezw_iload_n rfl rfl ?_
              refine ezw_iconst (1) rfl rfl ?_
              refine ezw_iadd (k := (1)) rfl (by omega) ?_
              refine ezw_call0_1 rfl (by omega) (ezm_at rfl) rfl rfl rfl rfl (ezm_m245_v1p (x := (ezp_t x.1, x.2)) hT (by omega) (by omega) (by omega) hs (by omega) tk hM stT (by omega)) ?_
              rintro _ _ ⟨x7_131, x8_131, x13_131, x79_131, x80_131, rfl, hT, p131_0, p131_1, p131_2, fo_131, sg_131, st_131, rfl⟩
              have k132 := hT.t7
              have k133 := hT.t8
              have k134 := hT.t13
              refine ezw_aload_n rfl rfl ?_
              refine ezw_bipush (41) rfl rfl ?_
              refine ezw_call0_1 rfl (by omega) (ezm_at rfl) rfl rfl rfl rfl (ezm_m253p hT (by omega) ⟨by decide, by decide⟩ (by omega) hs (by omega) tk hM st_131 (by omega)) ?_
              rintro _ _ ⟨x7_135, x8_135, rfl, hT, p135_0, p135_1, p135_2, st_135, rfl⟩
              have k136 := hT.t7
              have k137 := hT.t8
              refine ezw_goto rfl rfl ?_
              exact ezw_return rfl rfl ⟨x7_135, x8_135, x13_131, x79_131, x80_131, rfl, hT, by omega, by omega, by omega, fo_131, fun z => sg_131 (by omega), by
                    first
                      | (exfalso; omega)
                      | (rw [ezp_pt_s]
                         repeat (first | rw [if_pos (by omega)] | rw [if_neg (by omega)])
                         have h9 := st_135
                         exact h9), rfl⟩
          · have stT : ezm_ST (ezp_t x.1) i8 x7_121 := ezm_ST_t st (by omega) (fun _ => by omega)
            refine ezw_aload_n rfl rfl ?_
            refine ezw_iload_n rfl rfl ?_
            refine ezw_iconst (1) rfl rfl ?_
            refine ezw_iadd (k := (1)) rfl (by omega) ?_
            refine ezw_call0_1 rfl (by omega) (ezm_at rfl) rfl rfl rfl rfl (ezm_m249_v1p (x := (ezp_t x.1, x.2)) hT (by omega) (by omega) (by omega) hs (by omega) tk hM stT (by omega)) ?_
            rintro _ _ ⟨x7_138, x8_138, x13_138, x79_138, x80_138, rfl, hT, p138_0, p138_1, p138_2, fo_138, sg_138, st_138, rfl⟩
            have k139 := hT.t7
            have k140 := hT.t8
            have k141 := hT.t13
            refine ezw_aload_n rfl rfl ?_
            refine ezw_iconst (3) rfl rfl ?_
            refine ezw_iconst (0) rfl rfl ?_
            refine ezw_call0_2 rfl (by omega) (ezm_at rfl) rfl rfl rfl rfl (ezm_m251 hT (by omega) ⟨by decide, by decide⟩ ⟨by decide, by decide⟩ (by omega)) ?_
            rintro _ _ ⟨x13_142, x79_142, x80_142, rfl, hT, p142_0, fo_142, eo_142, ea_142, rfl⟩
            have k143 := hT.t13
            refine ezw_goto rfl rfl ?_
            exact ezw_return rfl rfl ⟨x7_138, x8_138, x13_142, x79_142, x80_142, rfl, hT, by omega, by omega, by omega, (ezm_fr_t fo_138 fo_142 (by omega)), fun z => ezm_sgN (sg_138 (by omega)) fo_142 eo_142 (by omega), by
                  first
                    | (exfalso; omega)
                    | (rw [ezp_pt_s]
                       repeat (first | rw [if_pos (by omega)] | rw [if_neg (by omega)])
                       exact st_138), rfl⟩
        · exact ezw_return rfl rfl ⟨i7, i8, i13, r79, r80, rfl, hT, by omega, by omega, by omega, ezm_fr_r _ _ _, fun z => absurd z (by omega), by
                first
                  | (exfalso; omega)
                  | (rw [ezp_pt_s]
                     repeat (first | rw [if_pos (by omega)] | rw [if_neg (by omega)])
                     first
                       | exact ezm_ST_t st (by omega) (fun _ => by omega)
                       | exact st
                       | exact ezm_ST_7 st (by omega) (fun _ => by omega)
                       | (have h9 := st; rw [ezp_wr_n (by omega)] at h9 ⊢; exact ezm_ST_7 st (by omega) (fun _ => by omega))
                       | (rw [ezp_wr_n (by omega)]; exact ezm_ST_7 st (by omega) (fun _ => by omega))), rfl⟩
  · exact ezw_return rfl rfl ⟨i7, i8, i13, r79, r80, rfl, hT, by omega, by omega, by omega, ezm_fr_r _ _ _, fun z => absurd z (by omega), by
          first
            | (exfalso; omega)
            | (rw [ezp_pt_s]
               repeat (first | rw [if_pos (by omega)] | rw [if_neg (by omega)])
               first
                 | exact ezm_ST_t st (by omega) (fun _ => by omega)
                 | exact st
                 | exact ezm_ST_7 st (by omega) (fun _ => by omega)
                 | (have h9 := st; rw [ezp_wr_n (by omega)] at h9 ⊢; exact ezm_ST_7 st (by omega) (fun _ => by omega))
                 | (rw [ezp_wr_n (by omega)]; exact ezm_ST_7 st (by omega) (fun _ => by omega))), rfl⟩
def ezm_m248_v0pQ (e : Bool × Bool) (F : Nat → Nat → Int) (A : Nat → Int → Int) (i0 i2 i3 i7 i8 i13 i18 i19 i20 i25 i29 i30 i31 i36 i37 i38 : Int) (r73 r74 r75 r76 r77 r78 r79 r80 r81 r82 r83 r84 r85 r86 r87 r88 r89 r90 r91 r92 r93 r94 r95 : Int → Int) (n : Int) (c : Int → Int) (x : ezp_X) : Option ezq_V → (Nat → ezq_C) → Prop := fun v g' => ∃ (x7 x8 x13 : Int) (x79 x80 : Int → Int), ezm_h e F A i0 i2 i3 x7 x8 x13 i18 i19 i20 i25 i29 i30 i31 i36 i37 i38 r73 r74 r75 r76 r77 r78 x79 x80 r81 r82 r83 r84 r85 r86 r87 r88 r89 r90 r91 r92 r93 r94 r95 = g' ∧ ezm_T i0 i2 i3 x7 x8 x13 i18 i19 i20 i25 i29 i30 i31 i36 i37 i38 r73 r74 r75 r76 r77 r78 x79 x80 r81 r82 r83 r84 r85 r86 r87 r88 r89 r90 r91 r92 r93 r94 r95 ∧ (i8 ≠ 0 → x8 ≠ 0) ∧ (i7 ≤ x7 ∧ x7 ≤ n) ∧ (i13 ≤ x13 ∧ x13 - i13 ≤ x7 - i7) ∧ (ezm_fr r79 r80 x79 x80 (i13 + 1100)) ∧ (x8 = 0 → ezm_sg x79 x80 (i13 + 1100) (x13 + 1100)) ∧ (ezm_ST ((ezp_rk c (ezp_pt c 5) 1 x).1) x8 x7) ∧ none = v
set_option maxHeartbeats 8000000 in
theorem ezm_m248_v0p {c : Int → Int} {x : ezp_X} {n : Int} (hT : ezm_T i0 i2 i3 i7 i8 i13 i18 i19 i20 i25 i29 i30 i31 i36 i37 i38 r73 r74 r75 r76 r77 r78 r79 r80 r81 r82 r83 r84 r85 r86 r87 r88 r89 r90 r91 r92 r93 r94 r95) (hd : 28 ≤ d) (hc : 0 ≤ i13 ∧ i13 ≤ i7) (hn : 0 ≤ i7 ∧ i7 ≤ n) (hs : r74 n = 0) (h1 : n ≤ 1000) (tk : ezm_TK c n r74 r75 r76) (hM : ∀ w, 0 ≤ w → w < 48 → r77 w = ezl_mw.getD w.toNat 0) (st : ezm_ST x.1 i8 i7) (g1 : 1 ≤ i7) : ezw_C l ρ B xa Hb D cA 248 d [ezw_p 72, ezw_i (0)] (ezm_h e F A i0 i2 i3 i7 i8 i13 i18 i19 i20 i25 i29 i30 i31 i36 i37 i38 r73 r74 r75 r76 r77 r78 r79 r80 r81 r82 r83 r84 r85 r86 r87 r88 r89 r90 r91 r92 r93 r94 r95) (ezm_m248_v0pQ  e F A i0 i2 i3 i7 i8 i13 i18 i19 i20 i25 i29 i30 i31 i36 i37 i38 r73 r74 r75 r76 r77 r78 r79 r80 r81 r82 r83 r84 r85 r86 r87 r88 r89 r90 r91 r92 r93 r94 r95 n c x) := by
  refine ezw_met (k := 0) rfl rfl ?_
  refine ezw_aload_n rfl rfl ?_
  refine ezw_iload_n rfl rfl ?_
  refine ezw_call0_1 rfl (by omega) (ezm_at rfl) rfl rfl rfl rfl (ezm_m249_v0p (x := x) hT (by omega) (by omega) (by omega) hs (by omega) tk hM st (by omega)) ?_
  rintro _ _ ⟨x7_1, x8_1, x13_1, x79_1, x80_1, rfl, hT, p1_0, p1_1, p1_2, fo_1, sg_1, st_1, rfl⟩
  have k2 := hT.t7
  have k3 := hT.t8
  have k4 := hT.t13
  have L5_6 : ∀ c5 : Int, ezw_in c5 → ∀ x8_6 : Int, ∀ x13_6 : Int, ∀ x79_6 : Int → Int, ∀ x80_6 : Int → Int, ezm_T i0 i2 i3 c5 x8_6 x13_6 i18 i19 i20 i25 i29 i30 i31 i36 i37 i38 r73 r74 r75 r76 r77 r78 x79_6 x80_6 r81 r82 r83 r84 r85 r86 r87 r88 r89 r90 r91 r92 r93 r94 r95 → (x7_1 ≤ c5) → (i8 ≠ 0 → x8_6 ≠ 0) → (i7 ≤ c5 ∧ c5 ≤ n) → (i13 ≤ x13_6 ∧ x13_6 - i13 ≤ c5 - i7) → (ezm_fr r79 r80 x79_6 x80_6 (i13 + 1100)) → (x8_6 = 0 → ezm_sg x79_6 x80_6 (i13 + 1100) (x13_6 + 1100)) → (∃ (x1 : ezp_X) (m : Nat), ezp_rk c (ezp_pt c 5) 1 x = ezp_lp c 3 (ezp_rk c (ezp_pt c 5) 0) m x1 ∧ ezm_ST x1.1 x8_6 c5 ∧ 1001 ≤ (m : Int) + c5) → ezw_E l ρ B xa Hb D cA d ezq_re248 (ezm_m248_v0pQ  e F A i0 i2 i3 i7 i8 i13 i18 i19 i20 i25 i29 i30 i31 i36 i37 i38 r73 r74 r75 r76 r77 r78 r79 r80 r81 r82 r83 r84 r85 r86 r87 r88 r89 r90 r91 r92 r93 r94 r95 n c x) 5 [some (ezw_p 72), some (ezw_i (0))] [] (ezm_h e F A i0 i2 i3 c5 x8_6 x13_6 i18 i19 i20 i25 i29 i30 i31 i36 i37 i38 r73 r74 r75 r76 r77 r78 x79_6 x80_6 r81 r82 r83 r84 r85 r86 r87 r88 r89 r90 r91 r92 r93 r94 r95) := by
    refine ezs_up ?_
    intro c5 hc5 ihc5 x8_6 x13_6 x79_6 x80_6 hT g_6 v1_6 v2_6 v3_6 fo_6 sg_6 iv_6
    have k7 := hT.t7
    have k8 := hT.t8
    have k9 := hT.t13
    obtain ⟨x1, m, hq, st1, hm1⟩ := iv_6
    obtain ⟨se1, sa1, -, -, -, -⟩ := ezm_TKi tk st1 (by omega)
    obtain ⟨m0, rfl⟩ : ∃ m0, m = m0 + 1 := ⟨m - 1, by omega⟩
    refine ezw_aload_n rfl rfl ?_
    refine ezw_bipush (42) rfl rfl ?_
    refine ezw_call0_1 rfl (by omega) (ezm_at rfl) rfl rfl rfl rfl (ezm_m252p hT (by omega) ⟨by decide, by decide⟩ (by omega) hs (by omega) tk hM st1 (by omega)) ?_
    rintro _ _ ⟨x7_10, rfl, hT, u11, hu11, p10_0, p10_1, p10_2, p10_3, q1_10, q0_10, st_10, rfl⟩
    have k12 := hT.t7
    refine ezw_if_eq rfl rfl ⟨by omega, by omega⟩ (fun h11_12 => ?_) (fun h11_12 => ?_)
    · exact ezw_return rfl rfl ⟨x7_10, x8_6, x13_6, x79_6, x80_6, rfl, hT, by omega, by omega, by omega, fo_6, sg_6, by
            rw [hq]
            by_cases z1 : x1.1.1 = 0
            · rw [ezp_lp_0 z1 (by
                unfold ezp_op
                repeat (first | rw [if_pos (by omega)] | rw [if_neg (by omega)]))]
              exact ezm_ST_7 st1 (by omega) (fun _ => by omega)
            · rw [ezp_lp_n z1]
              exact ezm_ST_7 st1 (by omega) (fun _ => by omega), rfl⟩
    · have z1 : x1.1.1 = 0 := by omega
      have hop : ezp_op (ezp_K c x1.1.2) 3 ≠ 0 := by
        unfold ezp_op
        repeat (first | rw [if_pos (by omega)] | rw [if_neg (by omega)])
        decide
      have stT : ezm_ST (ezp_t x1.1) x8_6 x7_10 := ezm_ST_t st1 (by omega) (fun _ => by omega)
      refine ezw_aload_n rfl rfl ?_
      refine ezw_iload_n rfl rfl ?_
      refine ezw_call0_1 rfl (by omega) (ezm_at rfl) rfl rfl rfl rfl (ezm_m249_v0p (x := (ezp_t x1.1, x1.2)) hT (by omega) (by omega) (by omega) hs (by omega) tk hM stT (by omega)) ?_
      rintro _ _ ⟨x7_13, x8_13, x13_13, x79_13, x80_13, rfl, hT, p13_0, p13_1, p13_2, fo_13, sg_13, st_13, rfl⟩
      have k14 := hT.t7
      have k15 := hT.t8
      have k16 := hT.t13
      refine ezw_aload_n rfl rfl ?_
      refine ezw_bipush (6) rfl rfl ?_
      refine ezw_iconst (0) rfl rfl ?_
      refine ezw_call0_2 rfl (by omega) (ezm_at rfl) rfl rfl rfl rfl (ezm_m251 hT (by omega) ⟨by decide, by decide⟩ ⟨by decide, by decide⟩ (by omega)) ?_
      rintro _ _ ⟨x13_17, x79_17, x80_17, rfl, hT, p17_0, fo_17, eo_17, ea_17, rfl⟩
      have k18 := hT.t13
      refine ezw_goto rfl rfl ?_
      exact ezw_keepE [true, true] (ihc5 x7_13 (by omega) ⟨by omega, by omega⟩ x8_13 x13_17 x79_17 x80_17 hT (by omega) (by omega) (by omega) (by omega) (ezm_fr_t (ezm_fr_t fo_6 fo_13 (by omega)) fo_17 (by omega)) (fun z => ezm_sgB (sg_6 (by omega)) fo_13 (sg_13 (by omega)) fo_17 (by rw [eo_17]; decide) (by omega)) (⟨ezp_l1 c 3 (ezp_rk c (ezp_pt c 5) 0) x1, m0, (by rw [hq, ezp_lp_s z1 hop (by decide)]), st_13, by omega⟩))
  exact ezw_keepE [true, true] (L5_6 x7_1 ⟨by omega, by omega⟩ x8_1 x13_1 x79_1 x80_1 hT (by omega) (by omega) (by omega) (by omega) fo_1 sg_1 (⟨(ezp_rk c (ezp_pt c 5) 0) x, 1000, rfl, st_1, by omega⟩))
def ezm_m247_v0pQ (e : Bool × Bool) (F : Nat → Nat → Int) (A : Nat → Int → Int) (i0 i2 i3 i7 i8 i13 i18 i19 i20 i25 i29 i30 i31 i36 i37 i38 : Int) (r73 r74 r75 r76 r77 r78 r79 r80 r81 r82 r83 r84 r85 r86 r87 r88 r89 r90 r91 r92 r93 r94 r95 : Int → Int) (n : Int) (c : Int → Int) (x : ezp_X) : Option ezq_V → (Nat → ezq_C) → Prop := fun v g' => ∃ (x7 x8 x13 : Int) (x79 x80 : Int → Int), ezm_h e F A i0 i2 i3 x7 x8 x13 i18 i19 i20 i25 i29 i30 i31 i36 i37 i38 r73 r74 r75 r76 r77 r78 x79 x80 r81 r82 r83 r84 r85 r86 r87 r88 r89 r90 r91 r92 r93 r94 r95 = g' ∧ ezm_T i0 i2 i3 x7 x8 x13 i18 i19 i20 i25 i29 i30 i31 i36 i37 i38 r73 r74 r75 r76 r77 r78 x79 x80 r81 r82 r83 r84 r85 r86 r87 r88 r89 r90 r91 r92 r93 r94 r95 ∧ (i8 ≠ 0 → x8 ≠ 0) ∧ (i7 ≤ x7 ∧ x7 ≤ n) ∧ (i13 ≤ x13 ∧ x13 - i13 ≤ x7 - i7) ∧ (ezm_fr r79 r80 x79 x80 (i13 + 1100)) ∧ (x8 = 0 → ezm_sg x79 x80 (i13 + 1100) (x13 + 1100)) ∧ (ezm_ST ((ezp_rk c (ezp_pt c 5) 2 x).1) x8 x7) ∧ none = v
set_option maxHeartbeats 8000000 in
theorem ezm_m247_v0p {c : Int → Int} {x : ezp_X} {n : Int} (hT : ezm_T i0 i2 i3 i7 i8 i13 i18 i19 i20 i25 i29 i30 i31 i36 i37 i38 r73 r74 r75 r76 r77 r78 r79 r80 r81 r82 r83 r84 r85 r86 r87 r88 r89 r90 r91 r92 r93 r94 r95) (hd : 29 ≤ d) (hc : 0 ≤ i13 ∧ i13 ≤ i7) (hn : 0 ≤ i7 ∧ i7 ≤ n) (hs : r74 n = 0) (h1 : n ≤ 1000) (tk : ezm_TK c n r74 r75 r76) (hM : ∀ w, 0 ≤ w → w < 48 → r77 w = ezl_mw.getD w.toNat 0) (st : ezm_ST x.1 i8 i7) (g1 : 1 ≤ i7) : ezw_C l ρ B xa Hb D cA 247 d [ezw_p 72, ezw_i (0)] (ezm_h e F A i0 i2 i3 i7 i8 i13 i18 i19 i20 i25 i29 i30 i31 i36 i37 i38 r73 r74 r75 r76 r77 r78 r79 r80 r81 r82 r83 r84 r85 r86 r87 r88 r89 r90 r91 r92 r93 r94 r95) (ezm_m247_v0pQ  e F A i0 i2 i3 i7 i8 i13 i18 i19 i20 i25 i29 i30 i31 i36 i37 i38 r73 r74 r75 r76 r77 r78 r79 r80 r81 r82 r83 r84 r85 r86 r87 r88 r89 r90 r91 r92 r93 r94 r95 n c x) := by
  refine ezw_met (k := 1) rfl rfl ?_
  refine ezw_aload_n rfl rfl ?_
  refine ezw_iload_n rfl rfl ?_
  refine ezw_call0_1 rfl (by omega) (ezm_at rfl) rfl rfl rfl rfl (ezm_m248_v0p (x := x) hT (by omega) (by omega) (by omega) hs (by omega) tk hM st (by omega)) ?_
  rintro _ _ ⟨x7_1, x8_1, x13_1, x79_1, x80_1, rfl, hT, p1_0, p1_1, p1_2, fo_1, sg_1, st_1, rfl⟩
  have k2 := hT.t7
  have k3 := hT.t8
  have k4 := hT.t13
  have L5_6 : ∀ c5 : Int, ezw_in c5 → ∀ x8_6 : Int, ∀ x13_6 : Int, ∀ x79_6 : Int → Int, ∀ x80_6 : Int → Int, ezm_T i0 i2 i3 c5 x8_6 x13_6 i18 i19 i20 i25 i29 i30 i31 i36 i37 i38 r73 r74 r75 r76 r77 r78 x79_6 x80_6 r81 r82 r83 r84 r85 r86 r87 r88 r89 r90 r91 r92 r93 r94 r95 → (x7_1 ≤ c5) → (i8 ≠ 0 → x8_6 ≠ 0) → (i7 ≤ c5 ∧ c5 ≤ n) → (i13 ≤ x13_6 ∧ x13_6 - i13 ≤ c5 - i7) → (ezm_fr r79 r80 x79_6 x80_6 (i13 + 1100)) → (x8_6 = 0 → ezm_sg x79_6 x80_6 (i13 + 1100) (x13_6 + 1100)) → (∃ (x1 : ezp_X) (m : Nat), ezp_rk c (ezp_pt c 5) 2 x = ezp_lp c 2 (ezp_rk c (ezp_pt c 5) 1) m x1 ∧ ezm_ST x1.1 x8_6 c5 ∧ 1001 ≤ (m : Int) + c5) → ezw_E l ρ B xa Hb D cA d ezq_re247 (ezm_m247_v0pQ  e F A i0 i2 i3 i7 i8 i13 i18 i19 i20 i25 i29 i30 i31 i36 i37 i38 r73 r74 r75 r76 r77 r78 r79 r80 r81 r82 r83 r84 r85 r86 r87 r88 r89 r90 r91 r92 r93 r94 r95 n c x) 5 [some (ezw_p 72), some (ezw_i (0)), none] [] (ezm_h e F A i0 i2 i3 c5 x8_6 x13_6 i18 i19 i20 i25 i29 i30 i31 i36 i37 i38 r73 r74 r75 r76 r77 r78 x79_6 x80_6 r81 r82 r83 r84 r85 r86 r87 r88 r89 r90 r91 r92 r93 r94 r95) := by
    refine ezs_up ?_
    intro c5 hc5 ihc5 x8_6 x13_6 x79_6 x80_6 hT g_6 v1_6 v2_6 v3_6 fo_6 sg_6 iv_6
    have k7 := hT.t7
    have k8 := hT.t8
    have k9 := hT.t13
    obtain ⟨x1, m, hq, st1, hm1⟩ := iv_6
    obtain ⟨se1, sa1, -, -, -, -⟩ := ezm_TKi tk st1 (by omega)
    obtain ⟨m0, rfl⟩ : ∃ m0, m = m0 + 1 := ⟨m - 1, by omega⟩
    refine ezw_aload_n rfl rfl ?_
    refine ezw_bipush (43) rfl rfl ?_
    refine ezw_call0_1 rfl (by omega) (ezm_at rfl) rfl rfl rfl rfl (ezm_m250p hT (by omega) ⟨by decide, by decide⟩ (by omega) hs (by omega) tk hM st1 (by omega)) ?_
    rintro _ _ ⟨rfl, u11, hu11, f_10, w_10, q1_10, q0_10, rfl⟩
    refine ezw_if_ne rfl rfl ⟨by omega, by omega⟩ (fun h11_11 => ?_) (fun h11_11 => ?_)
    · refine ezw_aload_n rfl rfl ?_
      refine ezw_bipush (43) rfl rfl ?_
      refine ezw_call0_1 rfl (by omega) (ezm_at rfl) rfl rfl rfl rfl (ezm_m250p hT (by omega) ⟨by decide, by decide⟩ (by omega) hs (by omega) tk hM st1 (by omega)) ?_
      rintro _ _ ⟨rfl, u13, hu13, f_12, w_12, q1_12, q0_12, rfl⟩
      refine ezw_istore_n rfl rfl ?_
      refine ezw_aload_n rfl rfl ?_
      refine ezw_dup rfl rfl ?_
      refine ezm_g7 rfl ?_
      refine ezw_iconst (1) rfl rfl ?_
      refine ezw_iadd (k := c5 + 1) rfl (by omega) ?_
      refine ezm_p7 hT rfl ⟨by omega, by omega⟩ (fun hT => ?_)
      have z1 : x1.1.1 = 0 := by omega
      have hop : ezp_op (ezp_K c x1.1.2) 2 ≠ 0 := by
        unfold ezp_op
        repeat (first | rw [if_pos (by omega)] | rw [if_neg (by omega)])
        decide
      have stT : ezm_ST (ezp_t x1.1) x8_6 (c5 + 1) := ezm_ST_t st1 (by omega) (fun _ => by omega)
      refine ezw_aload_n rfl rfl ?_
      refine ezw_iload_n rfl rfl ?_
      refine ezw_call0_1 rfl (by omega) (ezm_at rfl) rfl rfl rfl rfl (ezm_m248_v0p (x := (ezp_t x1.1, x1.2)) hT (by omega) (by omega) (by omega) hs (by omega) tk hM stT (by omega)) ?_
      rintro _ _ ⟨x7_14, x8_14, x13_14, x79_14, x80_14, rfl, hT, p14_0, p14_1, p14_2, fo_14, sg_14, st_14, rfl⟩
      have k15 := hT.t7
      have k16 := hT.t8
      have k17 := hT.t13
      refine ezw_aload_n rfl rfl ?_
      refine ezw_iload_n rfl rfl ?_
      refine ezw_if_eq rfl rfl ⟨by omega, by omega⟩ (fun h47_17 => ?_) (fun h47_17 => ?_)
      · refine ezw_iconst (5) rfl rfl ?_
        refine ezw_iconst (0) rfl rfl ?_
        refine ezw_call0_2 rfl (by omega) (ezm_at rfl) rfl rfl rfl rfl (ezm_m251 hT (by omega) ⟨by decide, by decide⟩ ⟨by decide, by decide⟩ (by omega)) ?_
        rintro _ _ ⟨x13_18, x79_18, x80_18, rfl, hT, p18_0, fo_18, eo_18, ea_18, rfl⟩
        have k19 := hT.t13
        refine ezw_goto rfl rfl ?_
        exact ezw_keepE [true, true, false] (ihc5 x7_14 (by omega) ⟨by omega, by omega⟩ x8_14 x13_18 x79_18 x80_18 hT (by omega) (by omega) (by omega) (by omega) (ezm_fr_t (ezm_fr_t fo_6 fo_14 (by omega)) fo_18 (by omega)) (fun z => ezm_sgB (sg_6 (by omega)) fo_14 (sg_14 (by omega)) fo_18 (by rw [eo_18]; decide) (by omega)) (⟨ezp_l1 c 2 (ezp_rk c (ezp_pt c 5) 1) x1, m0, (by rw [hq, ezp_lp_s z1 hop (by decide)]), st_14, by omega⟩))
      · refine ezw_iconst (4) rfl rfl ?_
        refine ezw_goto rfl rfl ?_
        refine ezw_iconst (0) rfl rfl ?_
        refine ezw_call0_2 rfl (by omega) (ezm_at rfl) rfl rfl rfl rfl (ezm_m251 hT (by omega) ⟨by decide, by decide⟩ ⟨by decide, by decide⟩ (by omega)) ?_
        rintro _ _ ⟨x13_20, x79_20, x80_20, rfl, hT, p20_0, fo_20, eo_20, ea_20, rfl⟩
        have k21 := hT.t13
        refine ezw_goto rfl rfl ?_
        exact ezw_keepE [true, true, false] (ihc5 x7_14 (by omega) ⟨by omega, by omega⟩ x8_14 x13_20 x79_20 x80_20 hT (by omega) (by omega) (by omega) (by omega) (ezm_fr_t (ezm_fr_t fo_6 fo_14 (by omega)) fo_20 (by omega)) (fun z => ezm_sgB (sg_6 (by omega)) fo_14 (sg_14 (by omega)) fo_20 (by rw [eo_20]; decide) (by omega)) (⟨ezp_l1 c 2 (ezp_rk c (ezp_pt c 5) 1) x1, m0, (by rw [hq, ezp_lp_s z1 hop (by decide)]), st_14, by omega⟩))
    · refine ezw_aload_n rfl rfl ?_
      refine ezw_bipush (45) rfl rfl ?_
      refine ezw_call0_1 rfl (by omega) (ezm_at rfl) rfl rfl rfl rfl (ezm_m250p hT (by omega) ⟨by decide, by decide⟩ (by omega) hs (by omega) tk hM st1 (by omega)) ?_
      rintro _ _ ⟨rfl, u23, hu23, f_22, w_22, q1_22, q0_22, rfl⟩
      refine ezw_if_eq rfl rfl ⟨by omega, by omega⟩ (fun h20_23 => ?_) (fun h20_23 => ?_)
      · exact ezw_return rfl rfl ⟨c5, x8_6, x13_6, x79_6, x80_6, rfl, hT, by omega, by omega, by omega, fo_6, sg_6, by
              rw [hq]
              by_cases z1 : x1.1.1 = 0
              · rw [ezp_lp_0 z1 (by
                  unfold ezp_op
                  repeat (first | rw [if_pos (by omega)] | rw [if_neg (by omega)]))]
                exact st1
              · rw [ezp_lp_n z1]
                exact st1, rfl⟩
      · refine ezw_aload_n rfl rfl ?_
        refine ezw_bipush (43) rfl rfl ?_
        refine ezw_call0_1 rfl (by omega) (ezm_at rfl) rfl rfl rfl rfl (ezm_m250p hT (by omega) ⟨by decide, by decide⟩ (by omega) hs (by omega) tk hM st1 (by omega)) ?_
        rintro _ _ ⟨rfl, u25, hu25, f_24, w_24, q1_24, q0_24, rfl⟩
        refine ezw_istore_n rfl rfl ?_
        refine ezw_aload_n rfl rfl ?_
        refine ezw_dup rfl rfl ?_
        refine ezm_g7 rfl ?_
        refine ezw_iconst (1) rfl rfl ?_
        refine ezw_iadd (k := c5 + 1) rfl (by omega) ?_
        refine ezm_p7 hT rfl ⟨by omega, by omega⟩ (fun hT => ?_)
        have z1 : x1.1.1 = 0 := by omega
        have hop : ezp_op (ezp_K c x1.1.2) 2 ≠ 0 := by
          unfold ezp_op
          repeat (first | rw [if_pos (by omega)] | rw [if_neg (by omega)])
          decide
        have stT : ezm_ST (ezp_t x1.1) x8_6 (c5 + 1) := ezm_ST_t st1 (by omega) (fun _ => by omega)
        refine ezw_aload_n rfl rfl ?_
        refine ezw_iload_n rfl rfl ?_
        refine ezw_call0_1 rfl (by omega) (ezm_at rfl) rfl rfl rfl rfl (ezm_m248_v0p (x := (ezp_t x1.1, x1.2)) hT (by omega) (by omega) (by omega) hs (by omega) tk hM stT (by omega)) ?_
        rintro _ _ ⟨x7_26, x8_26, x13_26, x79_26, x80_26, rfl, hT, p26_0, p26_1, p26_2, fo_26, sg_26, st_26, rfl⟩
        have k27 := hT.t7
        have k28 := hT.t8
        have k29 := hT.t13
        refine ezw_aload_n rfl rfl ?_
        refine ezw_iload_n rfl rfl ?_
        refine ezw_if_eq rfl rfl ⟨by omega, by omega⟩ (fun h47_29 => ?_) (fun h47_29 => ?_)
        · refine ezw_iconst (5) rfl rfl ?_
          refine ezw_iconst (0) rfl rfl ?_
          refine ezw_call0_2 rfl (by omega) (ezm_at rfl) rfl rfl rfl rfl (ezm_m251 hT (by omega) ⟨by decide, by decide⟩ ⟨by decide, by decide⟩ (by omega)) ?_
          rintro _ _ ⟨x13_30, x79_30, x80_30, rfl, hT, p30_0, fo_30, eo_30, ea_30, rfl⟩
          have k31 := hT.t13
          refine ezw_goto rfl rfl ?_
          exact ezw_keepE [true, true, false] (ihc5 x7_26 (by omega) ⟨by omega, by omega⟩ x8_26 x13_30 x79_30 x80_30 hT (by omega) (by omega) (by omega) (by omega) (ezm_fr_t (ezm_fr_t fo_6 fo_26 (by omega)) fo_30 (by omega)) (fun z => ezm_sgB (sg_6 (by omega)) fo_26 (sg_26 (by omega)) fo_30 (by rw [eo_30]; decide) (by omega)) (⟨ezp_l1 c 2 (ezp_rk c (ezp_pt c 5) 1) x1, m0, (by rw [hq, ezp_lp_s z1 hop (by decide)]), st_26, by omega⟩))
        · refine ezw_iconst (4) rfl rfl ?_
          refine ezw_goto rfl rfl ?_
          refine ezw_iconst (0) rfl rfl ?_
          refine ezw_call0_2 rfl (by omega) (ezm_at rfl) rfl rfl rfl rfl (ezm_m251 hT (by omega) ⟨by decide, by decide⟩ ⟨by decide, by decide⟩ (by omega)) ?_
          rintro _ _ ⟨x13_32, x79_32, x80_32, rfl, hT, p32_0, fo_32, eo_32, ea_32, rfl⟩
          have k33 := hT.t13
          refine ezw_goto rfl rfl ?_
          exact ezw_keepE [true, true, false] (ihc5 x7_26 (by omega) ⟨by omega, by omega⟩ x8_26 x13_32 x79_32 x80_32 hT (by omega) (by omega) (by omega) (by omega) (ezm_fr_t (ezm_fr_t fo_6 fo_26 (by omega)) fo_32 (by omega)) (fun z => ezm_sgB (sg_6 (by omega)) fo_26 (sg_26 (by omega)) fo_32 (by rw [eo_32]; decide) (by omega)) (⟨ezp_l1 c 2 (ezp_rk c (ezp_pt c 5) 1) x1, m0, (by rw [hq, ezp_lp_s z1 hop (by decide)]), st_26, by omega⟩))
  exact ezw_keepE [true, true, false] (L5_6 x7_1 ⟨by omega, by omega⟩ x8_1 x13_1 x79_1 x80_1 hT (by omega) (by omega) (by omega) (by omega) fo_1 sg_1 (⟨(ezp_rk c (ezp_pt c 5) 1) x, 1000, rfl, st_1, by omega⟩))
def ezm_m246_v0pQ (e : Bool × Bool) (F : Nat → Nat → Int) (A : Nat → Int → Int) (i0 i2 i3 i7 i8 i13 i18 i19 i20 i25 i29 i30 i31 i36 i37 i38 : Int) (r73 r74 r75 r76 r77 r78 r79 r80 r81 r82 r83 r84 r85 r86 r87 r88 r89 r90 r91 r92 r93 r94 r95 : Int → Int) (n : Int) (c : Int → Int) (x : ezp_X) : Option ezq_V → (Nat → ezq_C) → Prop := fun v g' => ∃ (x7 x8 x13 : Int) (x79 x80 : Int → Int), ezm_h e F A i0 i2 i3 x7 x8 x13 i18 i19 i20 i25 i29 i30 i31 i36 i37 i38 r73 r74 r75 r76 r77 r78 x79 x80 r81 r82 r83 r84 r85 r86 r87 r88 r89 r90 r91 r92 r93 r94 r95 = g' ∧ ezm_T i0 i2 i3 x7 x8 x13 i18 i19 i20 i25 i29 i30 i31 i36 i37 i38 r73 r74 r75 r76 r77 r78 x79 x80 r81 r82 r83 r84 r85 r86 r87 r88 r89 r90 r91 r92 r93 r94 r95 ∧ (i8 ≠ 0 → x8 ≠ 0) ∧ (i7 ≤ x7 ∧ x7 ≤ n) ∧ (i13 ≤ x13 ∧ x13 - i13 ≤ x7 - i7) ∧ (ezm_fr r79 r80 x79 x80 (i13 + 1100)) ∧ (x8 = 0 → ezm_sg x79 x80 (i13 + 1100) (x13 + 1100)) ∧ (ezm_ST ((ezp_rk c (ezp_pt c 5) 3 x).1) x8 x7) ∧ none = v
set_option maxHeartbeats 8000000 in
theorem ezm_m246_v0p {c : Int → Int} {x : ezp_X} {n : Int} (hT : ezm_T i0 i2 i3 i7 i8 i13 i18 i19 i20 i25 i29 i30 i31 i36 i37 i38 r73 r74 r75 r76 r77 r78 r79 r80 r81 r82 r83 r84 r85 r86 r87 r88 r89 r90 r91 r92 r93 r94 r95) (hd : 30 ≤ d) (hc : 0 ≤ i13 ∧ i13 ≤ i7) (hn : 0 ≤ i7 ∧ i7 ≤ n) (hs : r74 n = 0) (h1 : n ≤ 1000) (tk : ezm_TK c n r74 r75 r76) (hM : ∀ w, 0 ≤ w → w < 48 → r77 w = ezl_mw.getD w.toNat 0) (st : ezm_ST x.1 i8 i7) (g1 : 1 ≤ i7) : ezw_C l ρ B xa Hb D cA 246 d [ezw_p 72, ezw_i (0)] (ezm_h e F A i0 i2 i3 i7 i8 i13 i18 i19 i20 i25 i29 i30 i31 i36 i37 i38 r73 r74 r75 r76 r77 r78 r79 r80 r81 r82 r83 r84 r85 r86 r87 r88 r89 r90 r91 r92 r93 r94 r95) (ezm_m246_v0pQ  e F A i0 i2 i3 i7 i8 i13 i18 i19 i20 i25 i29 i30 i31 i36 i37 i38 r73 r74 r75 r76 r77 r78 r79 r80 r81 r82 r83 r84 r85 r86 r87 r88 r89 r90 r91 r92 r93 r94 r95 n c x) := by
  refine ezw_met (k := 1) rfl rfl ?_
  refine ezw_aload_n rfl rfl ?_
  refine ezw_iload_n rfl rfl ?_
  refine ezw_call0_1 rfl (by omega) (ezm_at rfl) rfl rfl rfl rfl (ezm_m247_v0p (x := x) hT (by omega) (by omega) (by omega) hs (by omega) tk hM st (by omega)) ?_
  rintro _ _ ⟨x7_1, x8_1, x13_1, x79_1, x80_1, rfl, hT, p1_0, p1_1, p1_2, fo_1, sg_1, st_1, rfl⟩
  have k2 := hT.t7
  have k3 := hT.t8
  have k4 := hT.t13
  obtain ⟨se1, sa1, -, -, -, -⟩ := ezm_TKi tk st_1 (by omega)
  refine ezw_aload_n rfl rfl ?_
  refine ezw_bipush (60) rfl rfl ?_
  refine ezw_call0_1 rfl (by omega) (ezm_at rfl) rfl rfl rfl rfl (ezm_m250p hT (by omega) ⟨by decide, by decide⟩ (by omega) hs (by omega) tk hM st_1 (by omega)) ?_
  rintro _ _ ⟨rfl, u6, hu6, f_5, w_5, q1_5, q0_5, rfl⟩
  refine ezw_istore_n rfl rfl ?_
  refine ezw_aload_n rfl rfl ?_
  refine ezw_bipush (60) rfl rfl ?_
  refine ezw_call0_1 rfl (by omega) (ezm_at rfl) rfl rfl rfl rfl (ezm_m252p hT (by omega) ⟨by decide, by decide⟩ (by omega) hs (by omega) tk hM st_1 (by omega)) ?_
  rintro _ _ ⟨x7_7, rfl, hT, u8, hu8, p7_0, p7_1, p7_2, p7_3, q1_7, q0_7, st_7, rfl⟩
  have k9 := hT.t7
  refine ezw_if_ne rfl rfl ⟨by omega, by omega⟩ (fun h18_9 => ?_) (fun h18_9 => ?_)
  · have z1 : ((ezp_rk c (ezp_pt c 5) 2) x).1.1 = 0 := by omega
    have hop : ezp_op (ezp_K c ((ezp_rk c (ezp_pt c 5) 2) x).1.2) 1 ≠ 0 := by
      unfold ezp_op
      repeat (first | rw [if_pos (by omega)] | rw [if_neg (by omega)])
      decide
    have stT : ezm_ST (ezp_t ((ezp_rk c (ezp_pt c 5) 2) x).1) x8_1 x7_7 := ezm_ST_t st_1 (by omega) (fun _ => by omega)
    refine ezw_aload_n rfl rfl ?_
    refine ezw_iload_n rfl rfl ?_
    refine ezw_call0_1 rfl (by omega) (ezm_at rfl) rfl rfl rfl rfl (ezm_m247_v0p (x := (ezp_t ((ezp_rk c (ezp_pt c 5) 2) x).1, ((ezp_rk c (ezp_pt c 5) 2) x).2)) hT (by omega) (by omega) (by omega) hs (by omega) tk hM stT (by omega)) ?_
    rintro _ _ ⟨x7_10, x8_10, x13_10, x79_10, x80_10, rfl, hT, p10_0, p10_1, p10_2, fo_10, sg_10, st_10, rfl⟩
    have k11 := hT.t7
    have k12 := hT.t8
    have k13 := hT.t13
    refine ezw_aload_n rfl rfl ?_
    refine ezw_iload_n rfl rfl ?_
    refine ezw_if_eq rfl rfl ⟨by omega, by omega⟩ (fun h37_13 => ?_) (fun h37_13 => ?_)
    · refine ezw_bipush (8) rfl rfl ?_
      refine ezw_iconst (0) rfl rfl ?_
      refine ezw_call0_2 rfl (by omega) (ezm_at rfl) rfl rfl rfl rfl (ezm_m251 hT (by omega) ⟨by decide, by decide⟩ ⟨by decide, by decide⟩ (by omega)) ?_
      rintro _ _ ⟨x13_14, x79_14, x80_14, rfl, hT, p14_0, fo_14, eo_14, ea_14, rfl⟩
      have k15 := hT.t13
      exact ezw_return rfl rfl ⟨x7_10, x8_10, x13_14, x79_14, x80_14, rfl, hT, by omega, by omega, by omega, (ezm_fr_t (ezm_fr_t fo_1 fo_10 (by omega)) fo_14 (by omega)), fun z => ezm_sgB (sg_1 (by omega)) fo_10 (sg_10 (by omega)) fo_14 (by rw [eo_14]; decide) (by omega), by
            show ezm_ST (ezp_lp c 1 (ezp_rk c (ezp_pt c 5) 2) 1000 ((ezp_rk c (ezp_pt c 5) 2) x)).1 _ _
            rw [ezp_lp_1 z1 hop rfl]
            exact st_10, rfl⟩
    · refine ezw_bipush (7) rfl rfl ?_
      refine ezw_goto rfl rfl ?_
      refine ezw_iconst (0) rfl rfl ?_
      refine ezw_call0_2 rfl (by omega) (ezm_at rfl) rfl rfl rfl rfl (ezm_m251 hT (by omega) ⟨by decide, by decide⟩ ⟨by decide, by decide⟩ (by omega)) ?_
      rintro _ _ ⟨x13_16, x79_16, x80_16, rfl, hT, p16_0, fo_16, eo_16, ea_16, rfl⟩
      have k17 := hT.t13
      exact ezw_return rfl rfl ⟨x7_10, x8_10, x13_16, x79_16, x80_16, rfl, hT, by omega, by omega, by omega, (ezm_fr_t (ezm_fr_t fo_1 fo_10 (by omega)) fo_16 (by omega)), fun z => ezm_sgB (sg_1 (by omega)) fo_10 (sg_10 (by omega)) fo_16 (by rw [eo_16]; decide) (by omega), by
            show ezm_ST (ezp_lp c 1 (ezp_rk c (ezp_pt c 5) 2) 1000 ((ezp_rk c (ezp_pt c 5) 2) x)).1 _ _
            rw [ezp_lp_1 z1 hop rfl]
            exact st_10, rfl⟩
  · have stB_3 := ezm_ST_7 (x8 := x8_1) (x7 := x7_7) st_1 (by omega) (fun _ => by omega)
    refine ezw_aload_n rfl rfl ?_
    refine ezw_bipush (61) rfl rfl ?_
    refine ezw_call0_1 rfl (by omega) (ezm_at rfl) rfl rfl rfl rfl (ezm_m252p hT (by omega) ⟨by decide, by decide⟩ (by omega) hs (by omega) tk hM stB_3 (by omega)) ?_
    rintro _ _ ⟨x7_18, rfl, hT, u19, hu19, p18_0, p18_1, p18_2, p18_3, q1_18, q0_18, st_18, rfl⟩
    have k20 := hT.t7
    refine ezw_if_eq rfl rfl ⟨by omega, by omega⟩ (fun h27_20 => ?_) (fun h27_20 => ?_)
    · exact ezw_return rfl rfl ⟨x7_18, x8_1, x13_1, x79_1, x80_1, rfl, hT, by omega, by omega, by omega, fo_1, sg_1, by
            show ezm_ST (ezp_lp c 1 (ezp_rk c (ezp_pt c 5) 2) 1000 ((ezp_rk c (ezp_pt c 5) 2) x)).1 _ _
            by_cases z1 : ((ezp_rk c (ezp_pt c 5) 2) x).1.1 = 0
            · rw [ezp_lp_0 z1 (by
                unfold ezp_op
                repeat (first | rw [if_pos (by omega)] | rw [if_neg (by omega)]))]
              exact ezm_ST_7 st_1 (by omega) (fun _ => by omega)
            · rw [ezp_lp_n z1]
              exact ezm_ST_7 st_1 (by omega) (fun _ => by omega), rfl⟩
    · have z1 : ((ezp_rk c (ezp_pt c 5) 2) x).1.1 = 0 := by omega
      have hop : ezp_op (ezp_K c ((ezp_rk c (ezp_pt c 5) 2) x).1.2) 1 ≠ 0 := by
        unfold ezp_op
        repeat (first | rw [if_pos (by omega)] | rw [if_neg (by omega)])
        decide
      have stT : ezm_ST (ezp_t ((ezp_rk c (ezp_pt c 5) 2) x).1) x8_1 x7_18 := ezm_ST_t st_1 (by omega) (fun _ => by omega)
      refine ezw_aload_n rfl rfl ?_
      refine ezw_iload_n rfl rfl ?_
      refine ezw_call0_1 rfl (by omega) (ezm_at rfl) rfl rfl rfl rfl (ezm_m247_v0p (x := (ezp_t ((ezp_rk c (ezp_pt c 5) 2) x).1, ((ezp_rk c (ezp_pt c 5) 2) x).2)) hT (by omega) (by omega) (by omega) hs (by omega) tk hM stT (by omega)) ?_
      rintro _ _ ⟨x7_21, x8_21, x13_21, x79_21, x80_21, rfl, hT, p21_0, p21_1, p21_2, fo_21, sg_21, st_21, rfl⟩
      have k22 := hT.t7
      have k23 := hT.t8
      have k24 := hT.t13
      refine ezw_aload_n rfl rfl ?_
      refine ezw_iload_n rfl rfl ?_
      refine ezw_if_eq rfl rfl ⟨by omega, by omega⟩ (fun h37_24 => ?_) (fun h37_24 => ?_)
      · refine ezw_bipush (8) rfl rfl ?_
        refine ezw_iconst (0) rfl rfl ?_
        refine ezw_call0_2 rfl (by omega) (ezm_at rfl) rfl rfl rfl rfl (ezm_m251 hT (by omega) ⟨by decide, by decide⟩ ⟨by decide, by decide⟩ (by omega)) ?_
        rintro _ _ ⟨x13_25, x79_25, x80_25, rfl, hT, p25_0, fo_25, eo_25, ea_25, rfl⟩
        have k26 := hT.t13
        exact ezw_return rfl rfl ⟨x7_21, x8_21, x13_25, x79_25, x80_25, rfl, hT, by omega, by omega, by omega, (ezm_fr_t (ezm_fr_t fo_1 fo_21 (by omega)) fo_25 (by omega)), fun z => ezm_sgB (sg_1 (by omega)) fo_21 (sg_21 (by omega)) fo_25 (by rw [eo_25]; decide) (by omega), by
              show ezm_ST (ezp_lp c 1 (ezp_rk c (ezp_pt c 5) 2) 1000 ((ezp_rk c (ezp_pt c 5) 2) x)).1 _ _
              rw [ezp_lp_1 z1 hop rfl]
              exact st_21, rfl⟩
      · refine ezw_bipush (7) rfl rfl ?_
        refine ezw_goto rfl rfl ?_
        refine ezw_iconst (0) rfl rfl ?_
        refine ezw_call0_2 rfl (by omega) (ezm_at rfl) rfl rfl rfl rfl (ezm_m251 hT (by omega) ⟨by decide, by decide⟩ ⟨by decide, by decide⟩ (by omega)) ?_
        rintro _ _ ⟨x13_27, x79_27, x80_27, rfl, hT, p27_0, fo_27, eo_27, ea_27, rfl⟩
        have k28 := hT.t13
        exact ezw_return rfl rfl ⟨x7_21, x8_21, x13_27, x79_27, x80_27, rfl, hT, by omega, by omega, by omega, (ezm_fr_t (ezm_fr_t fo_1 fo_21 (by omega)) fo_27 (by omega)), fun z => ezm_sgB (sg_1 (by omega)) fo_21 (sg_21 (by omega)) fo_27 (by rw [eo_27]; decide) (by omega), by
              show ezm_ST (ezp_lp c 1 (ezp_rk c (ezp_pt c 5) 2) 1000 ((ezp_rk c (ezp_pt c 5) 2) x)).1 _ _
              rw [ezp_lp_1 z1 hop rfl]
              exact st_21, rfl⟩
def ezm_m245_v0pQ (e : Bool × Bool) (F : Nat → Nat → Int) (A : Nat → Int → Int) (i0 i2 i3 i7 i8 i13 i18 i19 i20 i25 i29 i30 i31 i36 i37 i38 : Int) (r73 r74 r75 r76 r77 r78 r79 r80 r81 r82 r83 r84 r85 r86 r87 r88 r89 r90 r91 r92 r93 r94 r95 : Int → Int) (n : Int) (c : Int → Int) (x : ezp_X) : Option ezq_V → (Nat → ezq_C) → Prop := fun v g' => ∃ (x7 x8 x13 : Int) (x79 x80 : Int → Int), ezm_h e F A i0 i2 i3 x7 x8 x13 i18 i19 i20 i25 i29 i30 i31 i36 i37 i38 r73 r74 r75 r76 r77 r78 x79 x80 r81 r82 r83 r84 r85 r86 r87 r88 r89 r90 r91 r92 r93 r94 r95 = g' ∧ ezm_T i0 i2 i3 x7 x8 x13 i18 i19 i20 i25 i29 i30 i31 i36 i37 i38 r73 r74 r75 r76 r77 r78 x79 x80 r81 r82 r83 r84 r85 r86 r87 r88 r89 r90 r91 r92 r93 r94 r95 ∧ (i8 ≠ 0 → x8 ≠ 0) ∧ (i7 ≤ x7 ∧ x7 ≤ n) ∧ (i13 ≤ x13 ∧ x13 - i13 ≤ x7 - i7) ∧ (ezm_fr r79 r80 x79 x80 (i13 + 1100)) ∧ (x8 = 0 → ezm_sg x79 x80 (i13 + 1100) (x13 + 1100)) ∧ (ezm_ST ((ezp_rk c (ezp_pt c 5) 4 x).1) x8 x7) ∧ none = v
set_option maxHeartbeats 8000000 in
theorem ezm_m245_v0p {c : Int → Int} {x : ezp_X} {n : Int} (hT : ezm_T i0 i2 i3 i7 i8 i13 i18 i19 i20 i25 i29 i30 i31 i36 i37 i38 r73 r74 r75 r76 r77 r78 r79 r80 r81 r82 r83 r84 r85 r86 r87 r88 r89 r90 r91 r92 r93 r94 r95) (hd : 31 ≤ d) (hc : 0 ≤ i13 ∧ i13 ≤ i7) (hn : 0 ≤ i7 ∧ i7 ≤ n) (hs : r74 n = 0) (h1 : n ≤ 1000) (tk : ezm_TK c n r74 r75 r76) (hM : ∀ w, 0 ≤ w → w < 48 → r77 w = ezl_mw.getD w.toNat 0) (st : ezm_ST x.1 i8 i7) (g1 : 1 ≤ i7) : ezw_C l ρ B xa Hb D cA 245 d [ezw_p 72, ezw_i (0)] (ezm_h e F A i0 i2 i3 i7 i8 i13 i18 i19 i20 i25 i29 i30 i31 i36 i37 i38 r73 r74 r75 r76 r77 r78 r79 r80 r81 r82 r83 r84 r85 r86 r87 r88 r89 r90 r91 r92 r93 r94 r95) (ezm_m245_v0pQ  e F A i0 i2 i3 i7 i8 i13 i18 i19 i20 i25 i29 i30 i31 i36 i37 i38 r73 r74 r75 r76 r77 r78 r79 r80 r81 r82 r83 r84 r85 r86 r87 r88 r89 r90 r91 r92 r93 r94 r95 n c x) := by
  refine ezw_met (k := 1) rfl rfl ?_
  refine ezw_aload_n rfl rfl ?_
  refine ezw_iload_n rfl rfl ?_
  refine ezw_call0_1 rfl (by omega) (ezm_at rfl) rfl rfl rfl rfl (ezm_m246_v0p (x := x) hT (by omega) (by omega) (by omega) hs (by omega) tk hM st (by omega)) ?_
  rintro _ _ ⟨x7_1, x8_1, x13_1, x79_1, x80_1, rfl, hT, p1_0, p1_1, p1_2, fo_1, sg_1, st_1, rfl⟩
  have k2 := hT.t7
  have k3 := hT.t8
  have k4 := hT.t13
  have L5_6 : ∀ c5 : Int, ezw_in c5 → ∀ x8_6 : Int, ∀ x13_6 : Int, ∀ x79_6 : Int → Int, ∀ x80_6 : Int → Int, ezm_T i0 i2 i3 c5 x8_6 x13_6 i18 i19 i20 i25 i29 i30 i31 i36 i37 i38 r73 r74 r75 r76 r77 r78 x79_6 x80_6 r81 r82 r83 r84 r85 r86 r87 r88 r89 r90 r91 r92 r93 r94 r95 → (x7_1 ≤ c5) → (i8 ≠ 0 → x8_6 ≠ 0) → (i7 ≤ c5 ∧ c5 ≤ n) → (i13 ≤ x13_6 ∧ x13_6 - i13 ≤ c5 - i7) → (ezm_fr r79 r80 x79_6 x80_6 (i13 + 1100)) → (x8_6 = 0 → ezm_sg x79_6 x80_6 (i13 + 1100) (x13_6 + 1100)) → (∃ (x1 : ezp_X) (m : Nat), ezp_rk c (ezp_pt c 5) 4 x = ezp_lp c 0 (ezp_rk c (ezp_pt c 5) 3) m x1 ∧ ezm_ST x1.1 x8_6 c5 ∧ 1001 ≤ (m : Int) + c5) → ezw_E l ρ B xa Hb D cA d ezq_re245 (ezm_m245_v0pQ  e F A i0 i2 i3 i7 i8 i13 i18 i19 i20 i25 i29 i30 i31 i36 i37 i38 r73 r74 r75 r76 r77 r78 r79 r80 r81 r82 r83 r84 r85 r86 r87 r88 r89 r90 r91 r92 r93 r94 r95 n c x) 5 [some (ezw_p 72), some (ezw_i (0)), none] [] (ezm_h e F A i0 i2 i3 c5 x8_6 x13_6 i18 i19 i20 i25 i29 i30 i31 i36 i37 i38 r73 r74 r75 r76 r77 r78 x79_6 x80_6 r81 r82 r83 r84 r85 r86 r87 r88 r89 r90 r91 r92 r93 r94 r95) := by
    refine ezs_up ?_
    intro c5 hc5 ihc5 x8_6 x13_6 x79_6 x80_6 hT g_6 v1_6 v2_6 v3_6 fo_6 sg_6 iv_6
    have k7 := hT.t7
    have k8 := hT.t8
    have k9 := hT.t13
    obtain ⟨x1, m, hq, st1, hm1⟩ := iv_6
    obtain ⟨se1, sa1, -, -, -, -⟩ := ezm_TKi tk st1 (by omega)
    obtain ⟨m0, rfl⟩ : ∃ m0, m = m0 + 1 := ⟨m - 1, by omega⟩
    refine ezw_aload_n rfl rfl ?_
    refine ezw_bipush (42) rfl rfl ?_
    refine ezw_call0_1 rfl (by omega) (ezm_at rfl) rfl rfl rfl rfl (ezm_m223_v42p hT (by omega) (by omega) hs (by omega) tk hM st1) ?_
    rintro _ _ ⟨rfl, u11, hu11, f_10, w_10, q1_10, q0_10, rfl⟩
    refine ezw_if_ne rfl rfl ⟨by omega, by omega⟩ (fun h11_11 => ?_) (fun h11_11 => ?_)
    · refine ezw_aload_n rfl rfl ?_
      refine ezw_bipush (42) rfl rfl ?_
      refine ezw_call0_1 rfl (by omega) (ezm_at rfl) rfl rfl rfl rfl (ezm_m223_v42p hT (by omega) (by omega) hs (by omega) tk hM st1) ?_
      rintro _ _ ⟨rfl, u13, hu13, f_12, w_12, q1_12, q0_12, rfl⟩
      refine ezw_istore_n rfl rfl ?_
      refine ezw_aload_n rfl rfl ?_
      refine ezw_dup rfl rfl ?_
      refine ezm_g7 rfl ?_
      refine ezw_iconst (1) rfl rfl ?_
      refine ezw_iadd (k := c5 + 1) rfl (by omega) ?_
      refine ezm_p7 hT rfl ⟨by omega, by omega⟩ (fun hT => ?_)
      have z1 : x1.1.1 = 0 := by omega
      have hop : ezp_op (ezp_K c x1.1.2) 0 ≠ 0 := by
        unfold ezp_op
        repeat (first | rw [if_pos (by omega)] | rw [if_neg (by omega)])
        decide
      have stT : ezm_ST (ezp_t x1.1) x8_6 (c5 + 1) := ezm_ST_t st1 (by omega) (fun _ => by omega)
      refine ezw_aload_n rfl rfl ?_
      refine ezw_iload_n rfl rfl ?_
      refine ezw_call0_1 rfl (by omega) (ezm_at rfl) rfl rfl rfl rfl (ezm_m246_v0p (x := (ezp_t x1.1, x1.2)) hT (by omega) (by omega) (by omega) hs (by omega) tk hM stT (by omega)) ?_
      rintro _ _ ⟨x7_14, x8_14, x13_14, x79_14, x80_14, rfl, hT, p14_0, p14_1, p14_2, fo_14, sg_14, st_14, rfl⟩
      have k15 := hT.t7
      have k16 := hT.t8
      have k17 := hT.t13
      refine ezw_aload_n rfl rfl ?_
      refine ezw_iload_n rfl rfl ?_
      refine ezw_if_eq rfl rfl ⟨by omega, by omega⟩ (fun h47_17 => ?_) (fun h47_17 => ?_)
      · refine ezw_bipush (10) rfl rfl ?_
        refine ezw_iconst (0) rfl rfl ?_
        refine ezw_call0_2 rfl (by omega) (ezm_at rfl) rfl rfl rfl rfl (ezm_m251 hT (by omega) ⟨by decide, by decide⟩ ⟨by decide, by decide⟩ (by omega)) ?_
        rintro _ _ ⟨x13_18, x79_18, x80_18, rfl, hT, p18_0, fo_18, eo_18, ea_18, rfl⟩
        have k19 := hT.t13
        refine ezw_goto rfl rfl ?_
        exact ezw_keepE [true, true, false] (ihc5 x7_14 (by omega) ⟨by omega, by omega⟩ x8_14 x13_18 x79_18 x80_18 hT (by omega) (by omega) (by omega) (by omega) (ezm_fr_t (ezm_fr_t fo_6 fo_14 (by omega)) fo_18 (by omega)) (fun z => ezm_sgB (sg_6 (by omega)) fo_14 (sg_14 (by omega)) fo_18 (by rw [eo_18]; decide) (by omega)) (⟨ezp_l1 c 0 (ezp_rk c (ezp_pt c 5) 3) x1, m0, (by rw [hq, ezp_lp_s z1 hop (by decide)]), st_14, by omega⟩))
      · refine ezw_bipush (9) rfl rfl ?_
        refine ezw_goto rfl rfl ?_
        refine ezw_iconst (0) rfl rfl ?_
        refine ezw_call0_2 rfl (by omega) (ezm_at rfl) rfl rfl rfl rfl (ezm_m251 hT (by omega) ⟨by decide, by decide⟩ ⟨by decide, by decide⟩ (by omega)) ?_
        rintro _ _ ⟨x13_20, x79_20, x80_20, rfl, hT, p20_0, fo_20, eo_20, ea_20, rfl⟩
        have k21 := hT.t13
        refine ezw_goto rfl rfl ?_
        exact ezw_keepE [true, true, false] (ihc5 x7_14 (by omega) ⟨by omega, by omega⟩ x8_14 x13_20 x79_20 x80_20 hT (by omega) (by omega) (by omega) (by omega) (ezm_fr_t (ezm_fr_t fo_6 fo_14 (by omega)) fo_20 (by omega)) (fun z => ezm_sgB (sg_6 (by omega)) fo_14 (sg_14 (by omega)) fo_20 (by rw [eo_20]; decide) (by omega)) (⟨ezp_l1 c 0 (ezp_rk c (ezp_pt c 5) 3) x1, m0, (by rw [hq, ezp_lp_s z1 hop (by decide)]), st_14, by omega⟩))
    · refine ezw_aload_n rfl rfl ?_
      refine ezw_bipush (43) rfl rfl ?_
      refine ezw_call0_1 rfl (by omega) (ezm_at rfl) rfl rfl rfl rfl (ezm_m223_v43p hT (by omega) (by omega) hs (by omega) tk hM st1) ?_
      rintro _ _ ⟨rfl, u23, hu23, f_22, w_22, q1_22, q0_22, rfl⟩
      refine ezw_if_eq rfl rfl ⟨by omega, by omega⟩ (fun h20_23 => ?_) (fun h20_23 => ?_)
      · exact ezw_return rfl rfl ⟨c5, x8_6, x13_6, x79_6, x80_6, rfl, hT, by omega, by omega, by omega, fo_6, sg_6, by
              rw [hq]
              by_cases z1 : x1.1.1 = 0
              · rw [ezp_lp_0 z1 (by
                  unfold ezp_op
                  repeat (first | rw [if_pos (by omega)] | rw [if_neg (by omega)]))]
                exact st1
              · rw [ezp_lp_n z1]
                exact st1, rfl⟩
      · refine ezw_aload_n rfl rfl ?_
        refine ezw_bipush (42) rfl rfl ?_
        refine ezw_call0_1 rfl (by omega) (ezm_at rfl) rfl rfl rfl rfl (ezm_m223_v42p hT (by omega) (by omega) hs (by omega) tk hM st1) ?_
        rintro _ _ ⟨rfl, u25, hu25, f_24, w_24, q1_24, q0_24, rfl⟩
        refine ezw_istore_n rfl rfl ?_
        refine ezw_aload_n rfl rfl ?_
        refine ezw_dup rfl rfl ?_
        refine ezm_g7 rfl ?_
        refine ezw_iconst (1) rfl rfl ?_
        refine ezw_iadd (k := c5 + 1) rfl (by omega) ?_
        refine ezm_p7 hT rfl ⟨by omega, by omega⟩ (fun hT => ?_)
        have z1 : x1.1.1 = 0 := by omega
        have hop : ezp_op (ezp_K c x1.1.2) 0 ≠ 0 := by
          unfold ezp_op
          repeat (first | rw [if_pos (by omega)] | rw [if_neg (by omega)])
          decide
        have stT : ezm_ST (ezp_t x1.1) x8_6 (c5 + 1) := ezm_ST_t st1 (by omega) (fun _ => by omega)
        refine ezw_aload_n rfl rfl ?_
        refine ezw_iload_n rfl rfl ?_
        refine ezw_call0_1 rfl (by omega) (ezm_at rfl) rfl rfl rfl rfl (ezm_m246_v0p (x := (ezp_t x1.1, x1.2)) hT (by omega) (by omega) (by omega) hs (by omega) tk hM stT (by omega)) ?_
        rintro _ _ ⟨x7_26, x8_26, x13_26, x79_26, x80_26, rfl, hT, p26_0, p26_1, p26_2, fo_26, sg_26, st_26, rfl⟩
        have k27 := hT.t7
        have k28 := hT.t8
        have k29 := hT.t13
        refine ezw_aload_n rfl rfl ?_
        refine ezw_iload_n rfl rfl ?_
        refine ezw_if_eq rfl rfl ⟨by omega, by omega⟩ (fun h47_29 => ?_) (fun h47_29 => ?_)
        · refine ezw_bipush (10) rfl rfl ?_
          refine ezw_iconst (0) rfl rfl ?_
          refine ezw_call0_2 rfl (by omega) (ezm_at rfl) rfl rfl rfl rfl (ezm_m251 hT (by omega) ⟨by decide, by decide⟩ ⟨by decide, by decide⟩ (by omega)) ?_
          rintro _ _ ⟨x13_30, x79_30, x80_30, rfl, hT, p30_0, fo_30, eo_30, ea_30, rfl⟩
          have k31 := hT.t13
          refine ezw_goto rfl rfl ?_
          exact ezw_keepE [true, true, false] (ihc5 x7_26 (by omega) ⟨by omega, by omega⟩ x8_26 x13_30 x79_30 x80_30 hT (by omega) (by omega) (by omega) (by omega) (ezm_fr_t (ezm_fr_t fo_6 fo_26 (by omega)) fo_30 (by omega)) (fun z => ezm_sgB (sg_6 (by omega)) fo_26 (sg_26 (by omega)) fo_30 (by rw [eo_30]; decide) (by omega)) (⟨ezp_l1 c 0 (ezp_rk c (ezp_pt c 5) 3) x1, m0, (by rw [hq, ezp_lp_s z1 hop (by decide)]), st_26, by omega⟩))
        · refine ezw_bipush (9) rfl rfl ?_
          refine ezw_goto rfl rfl ?_
          refine ezw_iconst (0) rfl rfl ?_
          refine ezw_call0_2 rfl (by omega) (ezm_at rfl) rfl rfl rfl rfl (ezm_m251 hT (by omega) ⟨by decide, by decide⟩ ⟨by decide, by decide⟩ (by omega)) ?_
          rintro _ _ ⟨x13_32, x79_32, x80_32, rfl, hT, p32_0, fo_32, eo_32, ea_32, rfl⟩
          have k33 := hT.t13
          refine ezw_goto rfl rfl ?_
          exact ezw_keepE [true, true, false] (ihc5 x7_26 (by omega) ⟨by omega, by omega⟩ x8_26 x13_32 x79_32 x80_32 hT (by omega) (by omega) (by omega) (by omega) (ezm_fr_t (ezm_fr_t fo_6 fo_26 (by omega)) fo_32 (by omega)) (fun z => ezm_sgB (sg_6 (by omega)) fo_26 (sg_26 (by omega)) fo_32 (by rw [eo_32]; decide) (by omega)) (⟨ezp_l1 c 0 (ezp_rk c (ezp_pt c 5) 3) x1, m0, (by rw [hq, ezp_lp_s z1 hop (by decide)]), st_26, by omega⟩))
  exact ezw_keepE [true, true, false] (L5_6 x7_1 ⟨by omega, by omega⟩ x8_1 x13_1 x79_1 x80_1 hT (by omega) (by omega) (by omega) (by omega) fo_1 sg_1 (⟨(ezp_rk c (ezp_pt c 5) 3) x, 1000, rfl, st_1, by omega⟩))
end KM6
