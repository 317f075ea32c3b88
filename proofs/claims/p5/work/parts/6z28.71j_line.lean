/-! ===== the model: lines of a kind ===== -/
section KM6
variable {l : Launch} {ρ : ezq_E} {B : Nat} {xa : Nat → Option Nat} {Hb : Heap} {D : va_G} {cA : Nat → ClassId} {d : Nat} {e : Bool × Bool} {F : Nat → Nat → Int} {A : Nat → Int → Int} {i0 i2 i3 i7 i8 i13 i18 i19 i20 i25 i29 i30 i31 i36 i37 i38 : Int} {r73 r74 r75 r76 r77 r78 r79 r80 r81 r82 r83 r84 r85 r86 r87 r88 r89 r90 r91 r92 r93 r94 r95 : Int → Int}
def ezm_m241pQ (e : Bool × Bool) (F : Nat → Nat → Int) (A : Nat → Int → Int) (i0 i2 i3 i7 i8 i13 i18 i19 i20 i25 i29 i30 i31 i36 i37 i38 : Int) (r73 r74 r75 r76 r77 r78 r79 r80 r81 r82 r83 r84 r85 r86 r87 r88 r89 r90 r91 r92 r93 r94 r95 : Int → Int) (n : Int) (c : Int → Int) (s : Int × Int) (t : ezp_D) (tpn : Int) : Option ezq_V → (Nat → ezq_C) → Prop := fun v g' => ∃ (x7 x8 x13 x20 : Int) (x78 x79 x80 : Int → Int), ezm_h e F A i0 i2 i3 x7 x8 x13 i18 i19 x20 i25 i29 i30 i31 i36 i37 i38 r73 r74 r75 r76 r77 x78 x79 x80 r81 r82 r83 r84 r85 r86 r87 r88 r89 r90 r91 r92 r93 r94 r95 = g' ∧ ezm_T i0 i2 i3 x7 x8 x13 i18 i19 x20 i25 i29 i30 i31 i36 i37 i38 r73 r74 r75 r76 r77 x78 x79 x80 r81 r82 r83 r84 r85 r86 r87 r88 r89 r90 r91 r92 r93 r94 r95 ∧ (i7 ≤ x7 ∧ x7 ≤ n) ∧ (i13 ≤ x13 ∧ x13 ≤ x7) ∧ (∀ j, j < 100 → x78 j = r78 j) ∧ (ezm_fr r79 r80 x79 x80 1100) ∧ (x8 = 0 → ezm_RD x13 i19 x78 x79 x80 r84) ∧ (ezm_SB c (ezp_lne c t s).1 x8 x7) ∧ (x8 = 0 → ezm_TRE ((ezp_lne c t s).2) i19 x20 x78 r82 r84) ∧ (∀ L, ezm_ML L r78 r79 r80 i13 → ezm_ML (ezp_lnl c t s L) x78 x79 x80 x13) ∧ none = v
set_option maxHeartbeats 8000000 in
theorem ezm_m241p {c : Int → Int} {s : Int × Int} {t : ezp_D} {n tpn : Int} (hT : ezm_T i0 i2 i3 i7 i8 i13 i18 i19 i20 i25 i29 i30 i31 i36 i37 i38 r73 r74 r75 r76 r77 r78 r79 r80 r81 r82 r83 r84 r85 r86 r87 r88 r89 r90 r91 r92 r93 r94 r95) (hd : 37 ≤ d) (hn : 0 ≤ i7 ∧ i7 ≤ n) (hs : r74 n = 0) (h1 : n ≤ 1000) (h0 : i8 = 0) (hc : 0 ≤ i13 ∧ i13 ≤ i7) (rd : ezm_RD i13 i19 r78 r79 r80 r84) (tk : ezm_TK c n r74 r75 r76) (hM : ∀ w, 0 ≤ w → w < 48 → r77 w = ezl_mw.getD w.toNat 0) (st : ezm_ST s i8 i7) (tr : ezm_TRE t i19 i20 r78 r82 r84) (kw : ezp_K c s.2 ≠ 0 ∧ ezp_K c s.2 ≠ 9 ∧ ezp_K c s.2 ≠ 20 ∧ ezp_K c s.2 ≠ 12) (tp : ezp_tp c tpn) : ezw_C l ρ B xa Hb D cA 241 d [ezw_p 72] (ezm_h e F A i0 i2 i3 i7 i8 i13 i18 i19 i20 i25 i29 i30 i31 i36 i37 i38 r73 r74 r75 r76 r77 r78 r79 r80 r81 r82 r83 r84 r85 r86 r87 r88 r89 r90 r91 r92 r93 r94 r95) (ezm_m241pQ  e F A i0 i2 i3 i7 i8 i13 i18 i19 i20 i25 i29 i30 i31 i36 i37 i38 r73 r74 r75 r76 r77 r78 r79 r80 r81 r82 r83 r84 r85 r86 r87 r88 r89 r90 r91 r92 r93 r94 r95 n c s t tpn) := by
  refine ezw_met (k := 1) rfl rfl ?_
  have b19 := hT.t19
  have bm := rd.1
  have b1 := ezm_za1 (hT.t78 101) (by decide)
  have b0 := ezm_za0 (hT.t78 100) (by decide)
  have b3 := ezm_za3 (hT.t78 103) (by decide)
  obtain ⟨se, sa, -, hP, -, -⟩ := ezm_TKi tk st hn
  replace sa := sa (by omega)
  have tcn := tr.1
  have tbn := tr.2.1
  have tnm := tr.2.2.1
  obtain ⟨-, -, -, -, -, -, -, -, -, -, ts0, to1, ton⟩ := id tr
  obtain ⟨t1, ht1⟩ : ∃ t1, t1 = t.once (ezp_K c s.2) := ⟨_, rfl⟩
  refine ezw_aload_n rfl rfl ?_
  refine ezw_call0_0 rfl (by omega) (ezm_at rfl) rfl rfl rfl rfl (ezm_m242p hT (by omega) (by omega) hs (by omega) tk hM st (by omega)) ?_
  rintro _ _ ⟨rfl, u2, hu2, p1_0, p1_1, lh_1, rfl⟩
  refine ezw_istore_n rfl rfl ?_
  refine ezw_iload_n rfl rfl ?_
  refine ezw_if_ge rfl rfl hu2 (fun h6_2 => ?_) (fun h6_2 => ?_)
  · obtain ⟨hlk, hwd, hu9⟩ := ezm_lkE lh_1 (by omega)
    clear lh_1
    have hon := ton u2 (by omega) hu9
    rw [← hlk] at hon
    have hbt : ezw_and (i20 / 2 ^ (u2).toNat) 1 = ezt_b i20 u2 := ezt_and1 _
    refine ezw_aload_n rfl rfl ?_
    refine ezm_g20 rfl ?_
    have k3 := hT.t20
    refine ezw_iload_n rfl rfl ?_
    refine ezw_ishr rfl hT.t20 (by omega) (by omega) (k := (i20 / 2 ^ (u2).toNat)) (rfl) ?_
    refine ezw_iconst (1) rfl rfl ?_
    refine ezw_iand rfl (k := ezw_and ((i20 / 2 ^ (u2).toNat)) 1) rfl ?_
    refine ezw_iconst (1) rfl rfl ?_
    refine ezw_icmp_ne rfl rfl (by rw [ezt_and1]; exact ⟨by omega, by omega⟩) ⟨by decide, by decide⟩ (fun h26_3 => ?_) (fun h26_3 => ?_)
    · refine ezw_aload_n rfl rfl ?_
      refine ezm_g8 rfl ?_
      have k4 := hT.t8
      refine ezw_if_le rfl rfl ⟨by omega, by omega⟩ (fun h38_4 => ?_) (fun h38_4 => absurd h38_4 (by omega))
      have hz : s.1 = 0 := by omega
      have hdi : t.di (ezp_K c s.2) ≠ 1 := by omega
      have hlb : ezp_lb c t s = ezp_lw c (ezp_K c s.2) t1 (ezp_t s) := by
        rw [ht1]
        exact ezp_lb_0 hz (Or.inr (Or.inr (Or.inr (Or.inr ⟨hwd, hdi⟩))))
      have hor := ezt_or1 (v := i20) (j := u2) 10 (by decide) to1.1 to1.2 (by omega) (by omega)
      refine ezw_aload_n rfl rfl ?_
      refine ezw_dup rfl rfl ?_
      refine ezm_g20 rfl ?_
      refine ezw_iconst (1) rfl rfl ?_
      refine ezw_iload_n rfl rfl ?_
      refine ezw_ishl rfl (by omega) (by omega) (k := (1 * 2 ^ (u2).toNat)) (rfl) ?_
      refine ezw_ior rfl (k := ezw_or i20 ((1 * 2 ^ (u2).toNat))) rfl ?_
      refine ezm_p20 hT rfl ⟨by omega, by omega⟩ (fun hT => ?_)
      refine ezw_aload_n rfl rfl ?_
      refine ezw_dup rfl rfl ?_
      refine ezm_g7 rfl ?_
      have k5 := hT.t7
      refine ezw_iconst (1) rfl rfl ?_
      refine ezw_iadd (k := i7 + 1) rfl (by omega) ?_
      refine ezm_p7 hT rfl ⟨by omega, by omega⟩ (fun hT => ?_)
      have stA : ezm_ST (ezp_t s) i8 (i7 + 1) := ezm_ST_t st (by omega) (fun _ => by omega)
      have trA : ezm_TRE t1 i19 ((ezw_or i20 ((1 * 2 ^ (u2).toNat)))) r78 r82 r84 := by
        rw [ht1, hlk]
        exact ezm_TRE_once tr (by omega) hu9 rfl
      refine ezw_iload_n rfl rfl ?_
      refine ezw_if_ne rfl rfl hu2 (fun h65_5 => ?_) (fun h65_5 => ?_)
      · refine ezw_iload_n rfl rfl ?_
        refine ezw_iconst (1) rfl rfl ?_
        refine ezw_icmp_ne rfl rfl hu2 ⟨by decide, by decide⟩ (fun h77_5 => ?_) (fun h77_5 => ?_)
        · refine ezw_iload_n rfl rfl ?_
          refine ezw_iconst (2) rfl rfl ?_
          refine ezw_icmp_ne rfl rfl hu2 ⟨by decide, by decide⟩ (fun h118_5 => ?_) (fun h118_5 => ?_)
          · refine ezw_iload_n rfl rfl ?_
            refine ezw_iconst (5) rfl rfl ?_
            refine ezw_icmp_ne rfl rfl hu2 ⟨by decide, by decide⟩ (fun h176_5 => ?_) (fun h176_5 => ?_)
            · refine ezw_iload_n rfl rfl ?_
              refine ezw_bipush (8) rfl rfl ?_
              refine ezw_icmp_ge rfl rfl hu2 ⟨by decide, by decide⟩ (fun h215_5 => ?_) (fun h215_5 => ?_)
              · have hq8 : u2 = 8 ∨ u2 = 9 := by omega
                refine ezw_aload_n rfl rfl ?_
                refine ezm_gp (p := 78) rfl (fun _ => rfl) ?_
                refine ezw_bipush (115) rfl rfl ?_
                refine ezw_iload_n rfl rfl ?_
                refine ezw_iadd (k := u2 + 115) rfl (by omega) ?_
                refine ezw_bipush (8) rfl rfl ?_
                refine ezw_isub (k := u2 + 107) rfl (by omega) ?_
                refine ezw_aload_n rfl rfl ?_
                refine ezm_g13 rfl ?_
                have k6 := hT.t13
                refine ezm_s78 hT rfl (by omega) (by omega) ⟨⟨by omega, by omega⟩, by omega, by omega, by omega, by omega, by omega, by omega, by omega⟩ (fun r78_7 hT er78_7 fr78_7 => ?_)
                refine ezw_aload_n rfl rfl ?_
                refine ezw_iconst (0) rfl rfl ?_
                refine ezw_call0_1 rfl (by omega) (ezm_at rfl) rfl rfl rfl rfl (ezm_m245_v0L (x := (ezp_t s, (0, fun _ => 0))) hT (by omega) (by omega) (by omega) hs (by omega) tk hM stA (by omega) ezm_LM_0 tp) ?_
                rintro _ _ ⟨x7_8, x8_8, x13_8, x79_8, x80_8, rfl, hT, p8_0, p8_1, p8_2, fo_8, sg_8, st_8, lm_8, rfl⟩
                have k9 := hT.t7
                have k10 := hT.t8
                have k11 := hT.t13
                refine ezw_aload_n rfl rfl ?_
                refine ezw_iconst (0) rfl rfl ?_
                refine ezw_iconst (0) rfl rfl ?_
                refine ezw_call0_2 rfl (by omega) (ezm_at rfl) rfl rfl rfl rfl (ezm_m251 hT (by omega) ⟨by decide, by decide⟩ ⟨by decide, by decide⟩ (by omega)) ?_
                rintro _ _ ⟨x13_12, x79_12, x80_12, rfl, hT, p12_0, fo_12, eo_12, ea_12, rfl⟩
                have k13 := hT.t13
                exact ezw_return rfl rfl ⟨x7_8, x8_8, x13_12, ((ezw_or i20 ((1 * 2 ^ (u2).toNat)))), r78_7, x79_12, x80_12, rfl, hT, by omega, by omega, fun j hj => by rw [fr78_7 j (by omega)], (ezm_fr_t (fun j hj => fo_8 j (by omega)) fo_12 (by omega)), fun z => ezm_RD_law rd b0.2 b3.2 (by omega) (show 115 ≤ u2 + 107 ∧ u2 + 107 ≤ 116 by omega) er78_7 fr78_7 (ezm_fr_t fo_8 fo_12 (by omega)) (ezm_code_sg (ezm_sg_fr (sg_8 (by omega)) fo_12) eo_12 (by omega) (by omega)) (by omega), by
                      rcases hq8 with h | h
                      · exact ezm_SB_i st_8 (congrArg Prod.fst (hlb.trans (ezp_lw_21 (hlk.trans (by rw [h]; rfl)))))
                      · exact ezm_SB_i st_8 (congrArg Prod.fst (hlb.trans (ezp_lw_22 (hlk.trans (by rw [h]; rfl))))), fun z => by
                      rcases hq8 with h | h
                      · rw [ezp_lne_2', hlb, ezp_lw_21 (hlk.trans (by rw [h]; rfl))]
                        exact ezm_TRE_fr trA (fun j j0 j1 j2 j3 => by rw [fr78_7 j (by omega)])
                      · rw [ezp_lne_2', hlb, ezp_lw_22 (hlk.trans (by rw [h]; rfl))]
                        exact ezm_TRE_fr trA (fun j j0 j1 j2 j3 => by rw [fr78_7 j (by omega)]), (fun L h => by
                      have hcf0 : (ezp_cf c t s).1 = 0 := ezp_cf_z hz (Or.inr (Or.inr (Or.inr (Or.inr ⟨hwd, hdi⟩))))
                      have hfo := ezm_fr_t fo_8 fo_12 (by omega)
                      rcases (show u2 = 8 ∨ u2 = 9 by omega) with h8 | h8
                      · rw [ezp_lnl_21 hcf0 (hlk.trans (by rw [h8]; rfl))]
                        refine ⟨(by rw [show x13_12 = x13_8 + 1 by omega]; exact ezm_M1_n (y := (ezv_lx c (ezp_t s)).2) lm_8 fo_12 eo_12 (by omega) (by rw [show (115 : Int) = u2 + 107 by omega, er78_7])), ezm_M1_fr h.2 (by rw [fr78_7 116 (by omega)]) hfo (by omega)⟩
                      · rw [ezp_lnl_22 hcf0 (hlk.trans (by rw [h8]; rfl))]
                        refine ⟨ezm_M1_fr h.1 (by rw [fr78_7 115 (by omega)]) hfo (by omega), (by rw [show x13_12 = x13_8 + 1 by omega]; exact ezm_M1_n (y := (ezv_lx c (ezp_t s)).2) lm_8 fo_12 eo_12 (by omega) (by rw [show (116 : Int) = u2 + 107 by omega, er78_7]))⟩
                ), rfl⟩
              · have hq4 : u2 = 3 ∨ u2 = 4 ∨ u2 = 6 ∨ u2 = 7 := by omega
                refine ezw_aload_n rfl rfl ?_
                refine ezw_iload_n rfl rfl ?_
                refine ezw_call0_1 rfl (by omega) (ezm_at rfl) rfl rfl rfl rfl (ezm_m244p hT (by omega) hu2 (by omega) hs (by omega) (by omega) (by omega) rd tk hM stA trA (by omega)) ?_
                rintro _ _ ⟨x7_14, x8_14, x78_14, rfl, hT, p14_0, fb_14, rd_14, s3_14, s4_14, s6_14, s7_14, t3_14, t4_14, t6_14, t7_14, l5_14, rfl⟩
                have k15 := hT.t7
                have k16 := hT.t8
                replace s3_14 : ezm_I _ _ := s3_14
                replace s4_14 : ezm_I _ _ := s4_14
                replace s6_14 : ezm_I _ _ := s6_14
                replace s7_14 : ezm_I _ _ := s7_14
                replace t3_14 : ezm_I _ _ := t3_14
                replace t4_14 : ezm_I _ _ := t4_14
                replace t6_14 : ezm_I _ _ := t6_14
                replace t7_14 : ezm_I _ _ := t7_14
                refine ezw_goto rfl rfl ?_
                exact ezw_return rfl rfl ⟨x7_14, x8_14, i13, ((ezw_or i20 ((1 * 2 ^ (u2).toNat)))), x78_14, r79, r80, rfl, hT, by omega, by omega, fb_14, ezm_fr_r _ _ _, rd_14, by
                      rcases hq4 with h | h | h | h
                      · exact ezm_SB_i (s3_14 h) (congrArg Prod.fst (hlb.trans (ezp_lw_14 (hlk.trans (by rw [h]; rfl)))))
                      · exact ezm_SB_i (s4_14 h) (congrArg Prod.fst (hlb.trans (ezp_lw_15 (hlk.trans (by rw [h]; rfl)))))
                      · exact ezm_SB_i (s6_14 h) (congrArg Prod.fst (hlb.trans (ezp_lw_18 (hlk.trans (by rw [h]; rfl)))))
                      · exact ezm_SB_i (s7_14 h) (congrArg Prod.fst (hlb.trans (ezp_lw_19 (hlk.trans (by rw [h]; rfl))))), fun z => by
                      rcases hq4 with h | h | h | h
                      · rw [ezp_lne_2', hlb, ezp_lw_14 (hlk.trans (by rw [h]; rfl))]
                        exact t3_14 h z
                      · rw [ezp_lne_2', hlb, ezp_lw_15 (hlk.trans (by rw [h]; rfl))]
                        exact t4_14 h z
                      · rw [ezp_lne_2', hlb, ezp_lw_18 (hlk.trans (by rw [h]; rfl))]
                        exact t6_14 h z
                      · rw [ezp_lne_2', hlb, ezp_lw_19 (hlk.trans (by rw [h]; rfl))]
                        exact t7_14 h z, (fun L h => by
                      have hk9 : ezp_K c s.2 ≠ 21 ∧ ezp_K c s.2 ≠ 22 := by
                        rcases (show u2 = 0 ∨ u2 = 1 ∨ u2 = 2 ∨ u2 = 3 ∨ u2 = 4 ∨ u2 = 5 ∨ u2 = 6 ∨ u2 = 7 by omega) with h | h | h | h | h | h | h | h <;> (rw [hlk, h]; decide)
                      rw [ezp_lnl_k hk9]
                      exact ezm_ML_78 h (by rw [l5_14 115 (by decide) (by decide)]) (by rw [l5_14 116 (by decide) (by decide)])), rfl⟩
            · refine ezw_aload_n rfl rfl ?_
              refine ezm_gp (p := 78) rfl (fun _ => rfl) ?_
              refine ezw_bipush (111) rfl rfl ?_
              refine ezw_aload_n rfl rfl ?_
              refine ezw_iconst (0) rfl rfl ?_
              refine ezw_bipush (60) rfl rfl ?_
              refine ezw_call0_2 rfl (by omega) (ezm_at rfl) rfl rfl rfl rfl (ezm_m233p hT (by omega) ⟨by decide, by decide⟩ ⟨by decide, by decide⟩ (by omega) hs (by omega) tk hM stA) ?_
              rintro _ _ ⟨x7_17, x8_17, rfl, hT, u18, hu18, p17_0, p17_1, p17_2, st_17, v_17, rfl⟩
              have k19 := hT.t7
              have k20 := hT.t8
              refine ezm_s78 hT rfl (by omega) (by omega) ⟨hu18, by omega, by omega, by omega, by omega, by omega, by omega, by omega⟩ (fun r78_21 hT er78_21 fr78_21 => ?_)
              refine ezw_aload_n rfl rfl ?_
              refine ezm_gp (p := 78) rfl (fun _ => rfl) ?_
              refine ezw_bipush (112) rfl rfl ?_
              refine ezw_aload_n rfl rfl ?_
              refine ezw_bipush (17) rfl rfl ?_
              refine ezw_iconst (0) rfl rfl ?_
              refine ezw_bipush (60) rfl rfl ?_
              refine ezw_call0_3 rfl (by omega) (ezm_at rfl) rfl rfl rfl rfl (ezm_m230p hT (by omega) ⟨by decide, by decide⟩ ⟨by decide, by decide⟩ ⟨by decide, by decide⟩ (by omega) hs (by omega) tk hM st_17 (by omega)) ?_
              rintro _ _ ⟨x7_22, x8_22, rfl, hT, u23, hu23, p22_0, p22_1, p22_2, st_22, v_22, rfl⟩
              have k24 := hT.t7
              have k25 := hT.t8
              refine ezm_s78 hT rfl (by omega) (by omega) ⟨hu23, by omega, by omega, by omega, by omega, by omega, by omega, by omega⟩ (fun r78_26 hT er78_26 fr78_26 => ?_)
              refine ezw_goto rfl rfl ?_
              exact ezw_return rfl rfl ⟨x7_22, x8_22, i13, ((ezw_or i20 ((1 * 2 ^ (u2).toNat)))), r78_26, r79, r80, rfl, hT, by omega, by omega, fun j hj => by rw [fr78_26 j (by omega), fr78_21 j (by omega)], ezm_fr_r _ _ _, fun z => ezm_RD_fr rd b0.2 b3.2 (fun j hj => by rw [fr78_26 j (by omega), fr78_21 j (by omega)]), by
                    exact ezm_SB_i st_22 (congrArg Prod.fst (hlb.trans (ezp_lw_16 (hlk.trans (by rw [show u2 = 5 by omega]; rfl))))), fun z => by
                    rw [ezp_lne_2', hlb, ezp_lw_16 (hlk.trans (by rw [show u2 = 5 by omega]; rfl))]
                    exact (ezm_TRE_say (k := 8) (ezm_TRE_say (k := 7) trA (by decide) (by decide) (er78_21.trans (v_17 (by omega))) (fun j j0 j1 j2 => fr78_21 j (by omega))) (by decide) (by decide) (er78_26.trans (v_22 (by omega))) (fun j j0 j1 j2 => fr78_26 j (by omega))), (fun L h => by
                    have hk9 : ezp_K c s.2 ≠ 21 ∧ ezp_K c s.2 ≠ 22 := by
                      rcases (show u2 = 0 ∨ u2 = 1 ∨ u2 = 2 ∨ u2 = 3 ∨ u2 = 4 ∨ u2 = 5 ∨ u2 = 6 ∨ u2 = 7 by omega) with h | h | h | h | h | h | h | h <;> (rw [hlk, h]; decide)
                    rw [ezp_lnl_k hk9]
                    exact ezm_ML_78 h (by rw [fr78_26 115 (by omega), fr78_21 115 (by omega)]) (by rw [fr78_26 116 (by omega), fr78_21 116 (by omega)])), rfl⟩
          · refine ezw_aload_n rfl rfl ?_
            refine ezm_gp (p := 78) rfl (fun _ => rfl) ?_
            refine ezw_bipush (106) rfl rfl ?_
            refine ezw_aload_n rfl rfl ?_
            refine ezw_bipush (30) rfl rfl ?_
            refine ezw_iconst (4) rfl rfl ?_
            refine ezw_call0_2 rfl (by omega) (ezm_at rfl) rfl rfl rfl rfl (ezm_m234p hT (by omega) ⟨by decide, by decide⟩ ⟨by decide, by decide⟩ (by omega) hs (by omega) tk hM stA (by omega)) ?_
            rintro _ _ ⟨x7_27, x8_27, rfl, hT, u28, hu28, p27_0, p27_1, p27_2, st_27, v_27, rfl⟩
            have k29 := hT.t7
            have k30 := hT.t8
            refine ezm_s78 hT rfl (by omega) (by omega) ⟨hu28, by omega, by omega, by omega, by omega, by omega, by omega, by omega⟩ (fun r78_31 hT er78_31 fr78_31 => ?_)
            refine ezw_aload_n rfl rfl ?_
            refine ezm_gp (p := 78) rfl (fun _ => rfl) ?_
            refine ezw_bipush (107) rfl rfl ?_
            refine ezw_aload_n rfl rfl ?_
            refine ezw_iconst (0) rfl rfl ?_
            refine ezw_bipush (10) rfl rfl ?_
            refine ezw_call0_2 rfl (by omega) (ezm_at rfl) rfl rfl rfl rfl (ezm_m233p hT (by omega) ⟨by decide, by decide⟩ ⟨by decide, by decide⟩ (by omega) hs (by omega) tk hM st_27) ?_
            rintro _ _ ⟨x7_32, x8_32, rfl, hT, u33, hu33, p32_0, p32_1, p32_2, st_32, v_32, rfl⟩
            have k34 := hT.t7
            have k35 := hT.t8
            refine ezm_s78 hT rfl (by omega) (by omega) ⟨hu33, by omega, by omega, by omega, by omega, by omega, by omega, by omega⟩ (fun r78_36 hT er78_36 fr78_36 => ?_)
            refine ezw_aload_n rfl rfl ?_
            refine ezm_gp (p := 78) rfl (fun _ => rfl) ?_
            refine ezw_bipush (108) rfl rfl ?_
            refine ezw_aload_n rfl rfl ?_
            refine ezw_iconst (0) rfl rfl ?_
            refine ezw_bipush (10) rfl rfl ?_
            refine ezw_aload_n rfl rfl ?_
            refine ezm_gp (p := 78) rfl (fun _ => rfl) ?_
            refine ezw_bipush (107) rfl rfl ?_
            refine ezm_l78 rfl (by omega) (by omega) (fun u37 eu37 => ?_)
            have ku37 : ezm_k78 (107) u37 := eu37 ▸ hT.t78 (107)
            refine ezw_isub (k := -u37 + 10) rfl (by omega) ?_
            refine ezw_call0_2 rfl (by omega) (ezm_at rfl) rfl rfl rfl rfl (ezm_m233p hT (by omega) ⟨by decide, by decide⟩ ⟨by omega, by omega⟩ (by omega) hs (by omega) tk hM st_32) ?_
            rintro _ _ ⟨x7_38, x8_38, rfl, hT, u39, hu39, p38_0, p38_1, p38_2, st_38, v_38, rfl⟩
            have k40 := hT.t7
            have k41 := hT.t8
            refine ezm_s78 hT rfl (by omega) (by omega) ⟨hu39, by omega, by omega, by omega, by omega, by omega, by omega, by omega⟩ (fun r78_42 hT er78_42 fr78_42 => ?_)
            refine ezw_goto rfl rfl ?_
            exact ezw_return rfl rfl ⟨x7_38, x8_38, i13, ((ezw_or i20 ((1 * 2 ^ (u2).toNat)))), r78_42, r79, r80, rfl, hT, by omega, by omega, fun j hj => by rw [fr78_42 j (by omega), fr78_36 j (by omega), fr78_31 j (by omega)], ezm_fr_r _ _ _, fun z => ezm_RD_fr rd b0.2 b3.2 (fun j hj => by rw [fr78_42 j (by omega), fr78_36 j (by omega), fr78_31 j (by omega)]), by
                  refine ezm_SB_i st_38 ?_
                  rw [hlb, ezp_lw_13 (hlk.trans (by rw [show u2 = 2 by omega]; rfl))]
                  exact (show ezp_n c 0 (-u37 + 10) (ezp_wi2 c (ezp_t s)) = ezp_wiS c (ezp_t s) from ezp_n_c (fun z => by
                    have h8 : u37 = ezp_V c (ezp_o c 30 4 (ezp_t s)).2 := by
                      rw [eu37, er78_36]
                      exact v_32 (st_32.1.trans z)
                    omega)).symm, fun z => by
                  rw [ezp_lne_2', hlb, ezp_lw_13 (hlk.trans (by rw [show u2 = 2 by omega]; rfl))]
                  exact (ezm_TRE_say (k := 4) (ezm_TRE_say (k := 3) (ezm_TRE_say (k := 2) trA (by decide) (by decide) (er78_31.trans (v_27 (by omega))) (fun j j0 j1 j2 => fr78_31 j (by omega))) (by decide) (by decide) (er78_36.trans (v_32 (by omega))) (fun j j0 j1 j2 => fr78_36 j (by omega))) (by decide) (by decide) (er78_42.trans (v_38 (by omega))) (fun j j0 j1 j2 => fr78_42 j (by omega))), (fun L h => by
                  have hk9 : ezp_K c s.2 ≠ 21 ∧ ezp_K c s.2 ≠ 22 := by
                    rcases (show u2 = 0 ∨ u2 = 1 ∨ u2 = 2 ∨ u2 = 3 ∨ u2 = 4 ∨ u2 = 5 ∨ u2 = 6 ∨ u2 = 7 by omega) with h | h | h | h | h | h | h | h <;> (rw [hlk, h]; decide)
                  rw [ezp_lnl_k hk9]
                  exact ezm_ML_78 h (by rw [fr78_42 115 (by omega), fr78_36 115 (by omega), fr78_31 115 (by omega)]) (by rw [fr78_42 116 (by omega), fr78_36 116 (by omega), fr78_31 116 (by omega)])), rfl⟩
        · refine ezw_aload_n rfl rfl ?_
          refine ezm_gp (p := 78) rfl (fun _ => rfl) ?_
          refine ezw_bipush (104) rfl rfl ?_
          refine ezw_aload_n rfl rfl ?_
          refine ezw_bipush (7) rfl rfl ?_
          refine ezw_iconst (0) rfl rfl ?_
          refine ezw_sipush (999) rfl rfl ?_
          refine ezw_call0_3 rfl (by omega) (ezm_at rfl) rfl rfl rfl rfl (ezm_m230p hT (by omega) ⟨by decide, by decide⟩ ⟨by decide, by decide⟩ ⟨by decide, by decide⟩ (by omega) hs (by omega) tk hM stA (by omega)) ?_
          rintro _ _ ⟨x7_43, x8_43, rfl, hT, u44, hu44, p43_0, p43_1, p43_2, st_43, v_43, rfl⟩
          have k45 := hT.t7
          have k46 := hT.t8
          refine ezm_s78 hT rfl (by omega) (by omega) ⟨hu44, by omega, by omega, by omega, by omega, by omega, by omega, by omega⟩ (fun r78_47 hT er78_47 fr78_47 => ?_)
          refine ezw_aload_n rfl rfl ?_
          refine ezm_gp (p := 78) rfl (fun _ => rfl) ?_
          refine ezw_bipush (105) rfl rfl ?_
          refine ezw_aload_n rfl rfl ?_
          refine ezw_bipush (8) rfl rfl ?_
          refine ezw_iconst (0) rfl rfl ?_
          refine ezw_bipush (99) rfl rfl ?_
          refine ezw_call0_3 rfl (by omega) (ezm_at rfl) rfl rfl rfl rfl (ezm_m230p hT (by omega) ⟨by decide, by decide⟩ ⟨by decide, by decide⟩ ⟨by decide, by decide⟩ (by omega) hs (by omega) tk hM st_43 (by omega)) ?_
          rintro _ _ ⟨x7_48, x8_48, rfl, hT, u49, hu49, p48_0, p48_1, p48_2, st_48, v_48, rfl⟩
          have k50 := hT.t7
          have k51 := hT.t8
          refine ezm_s78 hT rfl (by omega) (by omega) ⟨hu49, by omega, by omega, by omega, by omega, by omega, by omega, by omega⟩ (fun r78_52 hT er78_52 fr78_52 => ?_)
          refine ezw_goto rfl rfl ?_
          exact ezw_return rfl rfl ⟨x7_48, x8_48, i13, ((ezw_or i20 ((1 * 2 ^ (u2).toNat)))), r78_52, r79, r80, rfl, hT, by omega, by omega, fun j hj => by rw [fr78_52 j (by omega), fr78_47 j (by omega)], ezm_fr_r _ _ _, fun z => ezm_RD_fr rd b0.2 b3.2 (fun j hj => by rw [fr78_52 j (by omega), fr78_47 j (by omega)]), by
                exact ezm_SB_i st_48 (congrArg Prod.fst (hlb.trans (ezp_lw_6 (hlk.trans (by rw [show u2 = 1 by omega]; rfl))))), fun z => by
                rw [ezp_lne_2', hlb, ezp_lw_6 (hlk.trans (by rw [show u2 = 1 by omega]; rfl))]
                exact (ezm_TRE_say (k := 1) (ezm_TRE_say (k := 0) trA (by decide) (by decide) (er78_47.trans (v_43 (by omega))) (fun j j0 j1 j2 => fr78_47 j (by omega))) (by decide) (by decide) (er78_52.trans (v_48 (by omega))) (fun j j0 j1 j2 => fr78_52 j (by omega))), (fun L h => by
                have hk9 : ezp_K c s.2 ≠ 21 ∧ ezp_K c s.2 ≠ 22 := by
                  rcases (show u2 = 0 ∨ u2 = 1 ∨ u2 = 2 ∨ u2 = 3 ∨ u2 = 4 ∨ u2 = 5 ∨ u2 = 6 ∨ u2 = 7 by omega) with h | h | h | h | h | h | h | h <;> (rw [hlk, h]; decide)
                rw [ezp_lnl_k hk9]
                exact ezm_ML_78 h (by rw [fr78_52 115 (by omega), fr78_47 115 (by omega)]) (by rw [fr78_52 116 (by omega), fr78_47 116 (by omega)])), rfl⟩
      · refine ezw_aload_n rfl rfl ?_
        refine ezw_call0_0 rfl (by omega) (ezm_at rfl) rfl rfl rfl rfl (ezm_m243p hT (by omega) (by omega) hs (by omega) (by omega) rd tk hM stA trA (by omega) (by rw [ht1]; exact ts0 (by rw [show (5 : Int) = ezp_K c s.2 from (hlk.trans (by rw [show u2 = 0 by omega]; rfl)).symm]; exact hdi)) (by rw [ht1]; show ezp_up t.di (ezp_K c s.2) 1 5 = 1; rw [show (5 : Int) = ezp_K c s.2 from (hlk.trans (by rw [show u2 = 0 by omega]; rfl)).symm]; exact ezp_up_s _ _ _)) ?_
        rintro _ _ ⟨x7_53, x8_53, x78_53, rfl, hT, p53_0, fb_53, rd_53, sb_53, tr_53, l5_53, rfl⟩
        have k54 := hT.t7
        have k55 := hT.t8
        refine ezw_goto rfl rfl ?_
        exact ezw_return rfl rfl ⟨x7_53, x8_53, i13, ((ezw_or i20 ((1 * 2 ^ (u2).toNat)))), x78_53, r79, r80, rfl, hT, by omega, by omega, fb_53, ezm_fr_r _ _ _, rd_53, by
              rw [ezp_lne_1', hlb, ezp_lw_5 (hlk.trans (by rw [show u2 = 0 by omega]; rfl))]
              exact sb_53, fun z => by
              rw [ezp_lne_2', hlb, ezp_lw_5 (hlk.trans (by rw [show u2 = 0 by omega]; rfl))]
              exact tr_53 z, (fun L h => by
              have hk9 : ezp_K c s.2 ≠ 21 ∧ ezp_K c s.2 ≠ 22 := by
                rcases (show u2 = 0 ∨ u2 = 1 ∨ u2 = 2 ∨ u2 = 3 ∨ u2 = 4 ∨ u2 = 5 ∨ u2 = 6 ∨ u2 = 7 by omega) with h | h | h | h | h | h | h | h <;> (rw [hlk, h]; decide)
              rw [ezp_lnl_k hk9]
              exact ezm_ML_78 h (by rw [l5_53 115 (by decide) (by decide)]) (by rw [l5_53 116 (by decide) (by decide)])), rfl⟩
    · refine ezw_aload_n rfl rfl ?_
      refine ezw_iconst (3) rfl rfl ?_
      refine ezw_call0_1 rfl (by omega) (ezm_at rfl) rfl rfl rfl rfl (ezm_m225p hT (by omega) ⟨by decide, by decide⟩ (by omega) (by omega) (by omega) hs (by omega) tk hM st) ?_
      rintro _ _ ⟨x8_56, rfl, hT, p56_0, p56_1, st_56, rfl⟩
      have k57 := hT.t8
      refine ezw_aload_n rfl rfl ?_
      refine ezm_g8 rfl ?_
      refine ezw_if_le rfl rfl ⟨by omega, by omega⟩ (fun h38_57 => absurd h38_57 (by omega)) (fun h38_57 => ?_)
      exact ezw_return rfl rfl ⟨i7, x8_56, i13, i20, r78, r79, r80, rfl, hT, by omega, by omega, fun _ _ => rfl, ezm_fr_r _ _ _, fun z => rd, by
            refine ezm_SB_i st_56 ?_
            rw [ezp_lb_3 hP (by omega) ⟨hwd, by omega⟩], fun z => absurd z (by omega), (fun L h => by rw [ezp_lnl_0 (by rw [ezp_cf_d hwd (by omega)]; exact ezp_wr_f (by decide) hP)]; exact h), rfl⟩
  · refine ezw_aload_n rfl rfl ?_
    refine ezw_iconst (1) rfl rfl ?_
    refine ezw_call0_1 rfl (by omega) (ezm_at rfl) rfl rfl rfl rfl (ezm_m225p hT (by omega) ⟨by decide, by decide⟩ (by omega) (by omega) (by omega) hs (by omega) tk hM st) ?_
    rintro _ _ ⟨x8_58, rfl, hT, p58_0, p58_1, st_58, rfl⟩
    have k59 := hT.t8
    refine ezw_goto rfl rfl ?_
    refine ezw_aload_n rfl rfl ?_
    refine ezm_g8 rfl ?_
    refine ezw_if_le rfl rfl ⟨by omega, by omega⟩ (fun h38_59 => absurd h38_59 (by omega)) (fun h38_59 => ?_)
    exact ezw_return rfl rfl ⟨i7, x8_58, i13, i20, r78, r79, r80, rfl, hT, by omega, by omega, fun _ _ => rfl, ezm_fr_r _ _ _, fun z => rd, by
          refine ezm_SB_i st_58 ?_
          rw [ezp_lb_1 hP (by omega) ⟨kw.1, kw.2.1, kw.2.2.1, kw.2.2.2, fun y => by unfold ezp_wds at y; omega⟩], fun z => absurd z (by omega), (fun L h => by rw [ezp_lnl_k ⟨by omega, by omega⟩]; exact h), rfl⟩
end KM6
