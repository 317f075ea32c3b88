/-! ===== the model: ELM, numbers, STRING ===== -/
section KM6
variable {l : Launch} {ρ : ezq_E} {B : Nat} {xa : Nat → Option Nat} {Hb : Heap} {D : va_G} {cA : Nat → ClassId} {d : Nat} {e : Bool × Bool} {F : Nat → Nat → Int} {A : Nat → Int → Int} {i0 i2 i3 i7 i8 i13 i18 i19 i20 i25 i29 i30 i31 i36 i37 i38 : Int} {r73 r74 r75 r76 r77 r78 r79 r80 r81 r82 r83 r84 r85 r86 r87 r88 r89 r90 r91 r92 r93 r94 r95 : Int → Int}
def ezm_m243pQ (e : Bool × Bool) (F : Nat → Nat → Int) (A : Nat → Int → Int) (i0 i2 i3 i7 i8 i13 i18 i19 i20 i25 i29 i30 i31 i36 i37 i38 : Int) (r73 r74 r75 r76 r77 r78 r79 r80 r81 r82 r83 r84 r85 r86 r87 r88 r89 r90 r91 r92 r93 r94 r95 : Int → Int) (n : Int) (c : Int → Int) (s : Int × Int) (t : ezp_D) : Option ezq_V → (Nat → ezq_C) → Prop := fun v g' => ∃ (x7 x8 : Int) (x78 : Int → Int), ezm_h e F A i0 i2 i3 x7 x8 i13 i18 i19 i20 i25 i29 i30 i31 i36 i37 i38 r73 r74 r75 r76 r77 x78 r79 r80 r81 r82 r83 r84 r85 r86 r87 r88 r89 r90 r91 r92 r93 r94 r95 = g' ∧ ezm_T i0 i2 i3 x7 x8 i13 i18 i19 i20 i25 i29 i30 i31 i36 i37 i38 r73 r74 r75 r76 r77 x78 r79 r80 r81 r82 r83 r84 r85 r86 r87 r88 r89 r90 r91 r92 r93 r94 r95 ∧ (i7 ≤ x7 ∧ x7 ≤ n) ∧ (∀ j, j < 100 → x78 j = r78 j) ∧ (x8 = 0 → ezm_RD i13 i19 x78 r79 r80 r84) ∧ (ezm_SB c (ezp_w c 259 (ezp_sr c 7 true s t).1) x8 x7) ∧ (x8 = 0 → ezm_TRE ((ezp_sr c 7 true s t).2) i19 i20 x78 r82 r84) ∧ (∀ j, 115 ≤ j → j ≤ 116 → x78 j = r78 j) ∧ none = v
set_option maxHeartbeats 8000000 in
theorem ezm_m243p {c : Int → Int} {s : Int × Int} {t : ezp_D} {n : Int} (hT : ezm_T i0 i2 i3 i7 i8 i13 i18 i19 i20 i25 i29 i30 i31 i36 i37 i38 r73 r74 r75 r76 r77 r78 r79 r80 r81 r82 r83 r84 r85 r86 r87 r88 r89 r90 r91 r92 r93 r94 r95) (hd : 4 ≤ d) (hn : 0 ≤ i7 ∧ i7 ≤ n) (hs : r74 n = 0) (h1 : n ≤ 1000) (hc : 0 ≤ i13 ∧ i13 ≤ i7) (rd : ezm_RD i13 i19 r78 r79 r80 r84) (tk : ezm_TK c n r74 r75 r76) (hM : ∀ w, 0 ≤ w → w < 48 → r77 w = ezl_mw.getD w.toNat 0) (st : ezm_ST s i8 i7) (tr : ezm_TRE t i19 i20 r78 r82 r84) (h0 : i8 = 0) (k0 : t.kS = 0) (d5 : t.di 5 = 1) : ezw_C l ρ B xa Hb D cA 243 d [ezw_p 72] (ezm_h e F A i0 i2 i3 i7 i8 i13 i18 i19 i20 i25 i29 i30 i31 i36 i37 i38 r73 r74 r75 r76 r77 r78 r79 r80 r81 r82 r83 r84 r85 r86 r87 r88 r89 r90 r91 r92 r93 r94 r95) (ezm_m243pQ  e F A i0 i2 i3 i7 i8 i13 i18 i19 i20 i25 i29 i30 i31 i36 i37 i38 r73 r74 r75 r76 r77 r78 r79 r80 r81 r82 r83 r84 r85 r86 r87 r88 r89 r90 r91 r92 r93 r94 r95 n c s t) := by
  refine ezw_met (k := 4) rfl rfl ?_
  have tb0 := tr.2.1
  refine ezw_iconst (0) rfl rfl ?_
  refine ezw_istore_n rfl rfl ?_
  refine ezw_iconst (1) rfl rfl ?_
  refine ezw_istore_n rfl rfl ?_
  have L4_2 : ∀ c1 : Int, ezw_in c1 → ∀ y3 : Int, ezw_in y3 → ∀ y4 : Int, ezw_in y4 → ∀ x8_2 : Int, ∀ x78_2 : Int → Int, ezm_T i0 i2 i3 c1 x8_2 i13 i18 i19 i20 i25 i29 i30 i31 i36 i37 i38 r73 r74 r75 r76 r77 x78_2 r79 r80 r81 r82 r83 r84 r85 r86 r87 r88 r89 r90 r91 r92 r93 r94 r95 → (i7 ≤ c1) → (0 ≤ i7 ∧ i7 ≤ c1 ∧ c1 ≤ n ∧ x8_2 = 0) → (∀ j, j < 100 → x78_2 j = r78 j) → (ezm_RD i13 i19 x78_2 r79 r80 r84) → (∃ (s1 : Int × Int) (t1 : ezp_D) (m : Nat), ezm_ST s1 x8_2 c1 ∧ ezm_TRE t1 i19 i20 x78_2 r82 r84 ∧ (t1.nT = t.nT ∧ t1.kT = t.kT ∧ t1.nu = t.nu ∧ t1.di = t.di) ∧ (m : Int) + t1.kS = 6 ∧ (0 ≤ y3 ∧ y3 < 256) ∧ (∀ w, 0 ≤ w → w < 8 → (ezt_b y3 w = 1 ↔ ezp_hs t1.sg w t1.kS.toNat = true)) ∧ (y4 = 0 ∨ y4 = 1) ∧ (y4 ≠ 0 → ∃ b, ezp_sr c 7 true s t = ezp_sr c (m + 1) b s1 t1 ∧ ¬ (b = false ∧ ezp_K c s1.2 = 259)) ∧ (y4 = 0 → (s1.1 = 0 → ezp_K c s1.2 ≠ 100) ∧ ezp_sr c 7 true s t = ezp_sr c (m + 1) false s1 t1)) → (∀ j, 115 ≤ j → j ≤ 116 → x78_2 j = r78 j) → ezw_E l ρ B xa Hb D cA d ezq_re243 (ezm_m243pQ  e F A i0 i2 i3 i7 i8 i13 i18 i19 i20 i25 i29 i30 i31 i36 i37 i38 r73 r74 r75 r76 r77 r78 r79 r80 r81 r82 r83 r84 r85 r86 r87 r88 r89 r90 r91 r92 r93 r94 r95 n c s t) 4 [some (ezw_p 72), some (ezw_i y3), some (ezw_i y4), none, none] [] (ezm_h e F A i0 i2 i3 c1 x8_2 i13 i18 i19 i20 i25 i29 i30 i31 i36 i37 i38 r73 r74 r75 r76 r77 x78_2 r79 r80 r81 r82 r83 r84 r85 r86 r87 r88 r89 r90 r91 r92 r93 r94 r95) := by
    refine ezs_up ?_
    intro c1 hc1 ihc1 y3 hy3 y4 hy4 x8_2 x78_2 hT g_2 v2_2 fb_2 rd_2 iv_2 l5_2
    have k5 := hT.t7
    have k6 := hT.t8
    have b0 := ezm_za0 (hT.t78 100) (by decide)
    have b3 := ezm_za3 (hT.t78 103) (by decide)
    obtain ⟨s1, t1, m, st1, tr1, ⟨ht1, ht2, ht3, ht4⟩, hm, hme, hmb, hl2, hgo, hst⟩ := iv_2
    have tcn := tr1.1
    have tbn := tr1.2.1
    refine ezw_iload_n rfl rfl ?_
    refine ezw_if_eq rfl rfl hy4 (fun h5_6 => ?_) (fun h5_6 => ?_)
    · exact ezw_return rfl rfl ⟨c1, x8_2, x78_2, rfl, hT, by omega, fb_2, fun z => rd_2, by
            obtain ⟨hk, hq⟩ := hst (by omega)
            refine ⟨s1, st1, ?_⟩
            rw [hq]
            by_cases z : s1.1 = 0
            · by_cases k9 : ezp_K c s1.2 = 259
              · rw [ezp_sr_e z ⟨rfl, k9⟩]
              · have hse : ezp_se c t1.nT t1.kT s1 = ezp_wr c 1 s1 := ezp_seE1 (fun y => hk z y.2)
                have hwf := ezp_wr_f (c := c) (h := 1) (s := s1) (by decide) (tk.1 _)
                rw [ezp_sr_f (fun y => k9 y.2) (by rw [hse]; exact hwf), hse]
                show ezp_w c 259 s1 = ezp_w c 259 (ezp_wr c 1 s1)
                rw [ezp_w_n hwf]
                exact if_neg (fun y => k9 y.2)
            · rw [ezp_sr_n z], fun z8 => by
            obtain ⟨hk, hq⟩ := hst (by omega)
            have z : s1.1 = 0 := st1.1.symm.trans z8
            rw [hq]
            by_cases k9 : ezp_K c s1.2 = 259
            · rw [ezp_sr_e z ⟨rfl, k9⟩]
              exact tr1
            · have hse : ezp_se c t1.nT t1.kT s1 = ezp_wr c 1 s1 := ezp_seE1 (fun y => hk z y.2)
              rw [ezp_sr_f (fun y => k9 y.2) (by rw [hse]; exact ezp_wr_f (by decide) (tk.1 _))]
              exact tr1, (fun j j0 j1 => by rw [l5_2 j j0 j1]), rfl⟩
    · obtain ⟨b, hq, hb⟩ := hgo (by omega)
      clear hgo hst
      have tnm := tr1.2.2.1
      obtain ⟨se1, sa1, -, hP1, -, -⟩ := ezm_TKi tk st1 (by omega)
      refine ezw_aload_n rfl rfl ?_
      refine ezm_gp (p := 78) rfl (fun _ => rfl) ?_
      refine ezw_bipush (103) rfl rfl ?_
      refine ezm_l78 rfl (by omega) (by omega) (fun u7 eu7 => ?_)
      have ku7 : ezm_k78 (103) u7 := eu7 ▸ hT.t78 (103)
      have zu7 := ezm_za3 ku7 (by omega)
      refine ezw_istore_n rfl rfl ?_
      refine ezw_aload_n rfl rfl ?_
      refine ezw_iconst (1) rfl rfl ?_
      refine ezw_iconst (0) rfl rfl ?_
      refine ezw_bipush (8) rfl rfl ?_
      refine ezw_call0_3 rfl (by omega) (ezm_at rfl) rfl rfl rfl rfl (ezm_m235_v1_v0p hT (by omega) ⟨by decide, by decide⟩ (by omega) hs (by omega) tk hM st1 (by omega) tnm) ?_
      rintro _ _ ⟨x8_8, rfl, hT, u9, hu9, p8_0, p8_1, p8_2, f_8, st_8, v_8, rfl⟩
      have k10 := hT.t8
      refine ezw_istore rfl rfl ?_
      have hz2 : ezm_I (x8_8 = 0) ((ezp_se c t1.nT t1.kT s1).1 = 0) := fun z => st_8.1.symm.trans z
      have hv := v_8
      refine ezw_aload_n rfl rfl ?_
      refine ezm_g8 rfl ?_
      refine ezw_if_ne rfl rfl ⟨by omega, by omega⟩ (fun h30_10 => ?_) (fun h30_10 => ?_)
      · refine ezw_aload_n rfl rfl ?_
        refine ezm_g8 rfl ?_
        refine ezw_if_ne rfl rfl ⟨by omega, by omega⟩ (fun h55_10 => ?_) (fun h55_10 => absurd h55_10 (by omega))
        refine ezw_aload_n rfl rfl ?_
        refine ezm_g8 rfl ?_
        refine ezw_if_le rfl rfl ⟨by omega, by omega⟩ (fun h73_10 => absurd h73_10 (by omega)) (fun h73_10 => ?_)
        exact ezw_return rfl rfl ⟨c1, x8_8, x78_2, rfl, hT, by omega, fb_2, fun z => absurd z (by omega), by
              refine ⟨_, st_8, ?_⟩
              rw [hq, ezp_sr_f hb (fun y => absurd (st_8.1.trans y) (by omega))], fun z => absurd z (by omega), (fun j j0 j1 => by rw [l5_2 j j0 j1]), rfl⟩
      · refine ezw_iload_n rfl rfl ?_
        refine ezw_iload rfl rfl ?_
        have hv2 := hv (by omega)
        have hbt : ezw_and (y3 / 2 ^ (u9).toNat) 1 = ezt_b y3 u9 := ezt_and1 _
        have huF : u9 = ezp_fi t1.nT t1.kT (ezp_W c s1.2) := hv2.1
        refine ezw_ishr rfl hy3 (by omega) (by omega) (k := (y3 / 2 ^ (u9).toNat)) (rfl) ?_
        refine ezw_iconst (1) rfl rfl ?_
        refine ezw_iand rfl (k := ezw_and ((y3 / 2 ^ (u9).toNat)) 1) rfl ?_
        refine ezw_iconst (1) rfl rfl ?_
        refine ezw_icmp_ne rfl rfl (by rw [ezt_and1]; exact ⟨by omega, by omega⟩) ⟨by decide, by decide⟩ (fun h40_10 => ?_) (fun h40_10 => ?_)
        · refine ezw_aload_n rfl rfl ?_
          refine ezm_g8 rfl ?_
          refine ezw_if_ne rfl rfl ⟨by omega, by omega⟩ (fun h55_10 => absurd h55_10 (by omega)) (fun h55_10 => ?_)
          refine ezw_iload_n rfl rfl ?_
          refine ezw_bipush (6) rfl rfl ?_
          refine ezw_icmp_ne rfl rfl (ezm_in78 ku7) ⟨by decide, by decide⟩ (fun h61_10 => ?_) (fun h61_10 => ?_)
          · refine ezw_aload_n rfl rfl ?_
            refine ezm_g8 rfl ?_
            refine ezw_if_le rfl rfl ⟨by omega, by omega⟩ (fun h73_10 => ?_) (fun h73_10 => absurd h73_10 (by omega))
            refine ezw_iload_n rfl rfl ?_
            refine ezw_iconst (1) rfl rfl ?_
            refine ezw_iload rfl rfl ?_
            refine ezw_ishl rfl (by omega) (by omega) (k := (1 * 2 ^ (u9).toNat)) (rfl) ?_
            refine ezw_ior rfl (k := ezw_or y3 ((1 * 2 ^ (u9).toNat))) rfl ?_
            refine ezw_istore_n rfl rfl ?_
            refine ezw_aload_n rfl rfl ?_
            refine ezw_dup rfl rfl ?_
            refine ezm_g7 rfl ?_
            refine ezw_iconst (1) rfl rfl ?_
            refine ezw_iadd (k := c1 + 1) rfl (by omega) ?_
            refine ezm_p7 hT rfl ⟨by omega, by omega⟩ (fun hT => ?_)
            refine ezw_aload_n rfl rfl ?_
            refine ezm_gp (p := 78) rfl (fun _ => rfl) ?_
            refine ezw_sipush (165) rfl rfl ?_
            refine ezw_iload_n rfl rfl ?_
            refine ezw_iadd (k := u7 + 165) rfl (by omega) ?_
            refine ezw_iload rfl rfl ?_
            refine ezm_s78 hT rfl (by omega) (by omega) ⟨hu9, by omega, by omega, by omega, by omega, by omega, by omega, by omega⟩ (fun r78_11 hT er78_11 fr78_11 => ?_)
            refine ezw_aload_n rfl rfl ?_
            refine ezm_gp (p := 78) rfl (fun _ => rfl) ?_
            refine ezw_bipush (103) rfl rfl ?_
            refine ezw_dup2 rfl rfl rfl ?_
            refine ezm_l78 rfl (by omega) (by omega) (fun u12 eu12 => ?_)
            have ku12 : ezm_k78 (103) u12 := eu12 ▸ hT.t78 (103)
            have zu12 := ezm_za3 ku12 (by omega)
            have qu12 : u12 = u7 := by rw [eu12, fr78_11 (103) (by omega), ← eu7]
            refine ezw_iconst (1) rfl rfl ?_
            refine ezw_iadd (k := u12 + 1) rfl (by omega) ?_
            refine ezm_s78 hT rfl (by omega) (by omega) ⟨⟨by omega, by omega⟩, by omega, by omega, by omega, by omega, by omega, by omega, by omega⟩ (fun r78_13 hT er78_13 fr78_13 => ?_)
            have stG : ezm_ST (ezp_t (ezp_se c t1.nT t1.kT s1)) x8_8 (c1 + 1) := ezm_ST_t st_8 (by omega) (fun _ => by omega)
            refine ezw_aload_n rfl rfl ?_
            refine ezw_call0_0 rfl (by omega) (ezm_at rfl) rfl rfl rfl rfl (ezm_m227p hT (by omega) (by omega) hs (by omega) tk hM stG) ?_
            rintro _ _ ⟨rfl, u15, hu15, f_14, q1_14, q0_14, rfl⟩
            refine ezw_istore_n rfl rfl ?_
            refine ezw_goto rfl rfl ?_
            exact ezw_keepE [true, true, true, false, false] (ihc1 (c1 + 1) (by omega) ⟨by omega, by omega⟩ ((ezw_or y3 ((1 * 2 ^ (u9).toNat)))) (by have hmt := ezm_met hme hmb tbn.2.2.2.2.2.2.1 (w := u9) (by omega) (by omega); exact ⟨by omega, by omega⟩) u15 ⟨by omega, by omega⟩ x8_8 r78_13 hT (by omega) (by omega) (fun j hj => by rw [fr78_13 j (by omega), fr78_11 j (by omega), fb_2 j hj]) (ezm_RD_str rd_2 b0.2 eu7 (by omega) (by omega) (by rw [er78_13]; omega) (by rw [fr78_13 (u7 + 165) (by omega), er78_11]; have := ezm_RD_st rd_2 (f_8 (by omega)) (by omega); omega) (fun j h1 h2 => by rw [fr78_13 j (by omega), fr78_11 j (by omega)])) (by
                  obtain ⟨m0, rfl⟩ : ∃ m0, m = m0 + 1 := ⟨m - 1, by omega⟩
                  have hmt := ezm_met hme hmb tbn.2.2.2.2.2.2.1 (w := u9) (by omega) (by omega)
                  have hsq := (show ezp_sr c 7 true s t = ezp_sr c (m0 + 1) false (ezp_t (ezp_se c t1.nT t1.kT s1)) (t1.strg u9) from by rw [hq, ezp_sr_s hb (hz2 (by omega)) (by
                         cases hh : ezp_hs t1.sg (ezp_fi t1.nT t1.kT (ezp_W c s1.2)) t1.kS.toNat
                         · rfl
                         · exfalso
                           rw [← huF] at hh
                           have h8 := (hmb u9 (by omega) (by omega)).mpr hh
                           omega) (by omega), ← huF])
                  exact ⟨ezp_t (ezp_se c t1.nT t1.kT s1), t1.strg u9, m0, stG, (ezm_TRE_strg tr1 (by omega) (by rw [ht4]; exact d5) (show r78_13 103 = t1.kS + 1 by rw [er78_13]; omega) (show r78_13 (t1.kS + 165) = u9 by rw [show t1.kS = u7 by omega, fr78_13 (u7 + 165) (by omega), er78_11]) (fun j j0 j1 j2 j3 => by rw [fr78_13 j (by omega), fr78_11 j (by omega)])), ⟨ht1, ht2, ht3, ht4⟩, (by show (m0 : Int) + (t1.kS + 1) = 6; omega), hmt.1, hmt.2, by omega, (fun y => ⟨false, hsq, fun y2 => by have h8 := q1_14 (by omega); omega⟩), (fun y => ⟨fun y2 => by have h8 := q0_14 (by omega); omega, hsq⟩)⟩) (fun j j0 j1 => by rw [fr78_13 j (by omega), fr78_11 j (by omega), l5_2 j j0 j1]))
          · refine ezw_aload_n rfl rfl ?_
            refine ezw_iconst (5) rfl rfl ?_
            refine ezw_call0_1 rfl (by omega) (ezm_at rfl) rfl rfl rfl rfl (ezm_m225p hT (by omega) ⟨by decide, by decide⟩ (by omega) (by omega) (by omega) hs (by omega) tk hM st_8) ?_
            rintro _ _ ⟨x8_16, rfl, hT, p16_0, p16_1, st_16, rfl⟩
            have k17 := hT.t8
            refine ezw_aload_n rfl rfl ?_
            refine ezm_g8 rfl ?_
            refine ezw_if_le rfl rfl ⟨by omega, by omega⟩ (fun h73_17 => absurd h73_17 (by omega)) (fun h73_17 => ?_)
            exact ezw_return rfl rfl ⟨c1, x8_16, x78_2, rfl, hT, by omega, fb_2, fun z => absurd z (by omega), by
                  refine ⟨_, st_16, ?_⟩
                  rw [hq, ezp_sr_5 hb (hz2 (by omega)) (by
                    cases hh : ezp_hs t1.sg (ezp_fi t1.nT t1.kT (ezp_W c s1.2)) t1.kS.toNat
                    · rfl
                    · exfalso
                      rw [← huF] at hh
                      have h8 := (hmb u9 (by omega) (by omega)).mpr hh
                      omega) (by omega), ezp_sr_n (ezp_wr_f (by decide) (tk.1 _))], fun z => absurd z (by omega), (fun j j0 j1 => by rw [l5_2 j j0 j1]), rfl⟩
        · refine ezw_aload_n rfl rfl ?_
          refine ezw_iconst (3) rfl rfl ?_
          refine ezw_call0_1 rfl (by omega) (ezm_at rfl) rfl rfl rfl rfl (ezm_m225p hT (by omega) ⟨by decide, by decide⟩ (by omega) (by omega) (by omega) hs (by omega) tk hM st_8) ?_
          rintro _ _ ⟨x8_18, rfl, hT, p18_0, p18_1, st_18, rfl⟩
          have k19 := hT.t8
          refine ezw_goto rfl rfl ?_
          refine ezw_aload_n rfl rfl ?_
          refine ezm_g8 rfl ?_
          refine ezw_if_le rfl rfl ⟨by omega, by omega⟩ (fun h73_19 => absurd h73_19 (by omega)) (fun h73_19 => ?_)
          exact ezw_return rfl rfl ⟨c1, x8_18, x78_2, rfl, hT, by omega, fb_2, fun z => absurd z (by omega), by
                refine ⟨_, st_18, ?_⟩
                rw [hq, ezp_sr_3 hb (hz2 (by omega)) (by rw [← huF]; exact (hmb u9 (by omega) (by omega)).mp (by omega)), ezp_sr_n (ezp_wr_f (by decide) (tk.1 _))], fun z => absurd z (by omega), (fun j j0 j1 => by rw [l5_2 j j0 j1]), rfl⟩
  exact ezw_keepE [true, true, true, false, false] (L4_2 i7 ⟨by omega, by omega⟩ (0) ⟨by decide, by decide⟩ (1) ⟨by decide, by decide⟩ i8 r78 hT (by omega) (by omega) (fun _ _ => rfl) rd (⟨s, t, 6, st, tr, ⟨rfl, rfl, rfl, rfl⟩, by omega, by omega, fun w w0 w1 => by rw [k0]; exact ⟨fun y => absurd y (by rw [ezt_b0]; decide), fun y => absurd (show false = true from y) (by decide)⟩, by omega, fun _ => ⟨true, rfl, fun y => absurd y.1 (by decide)⟩, fun y => absurd y (by decide)⟩) (fun _ _ _ => rfl))
end KM6
