/-! ===== the model: TWIG, THING, OVER ===== -/
section KM6
variable {l : Launch} {ρ : ezq_E} {B : Nat} {xa : Nat → Option Nat} {Hb : Heap} {D : va_G} {cA : Nat → ClassId} {d : Nat} {e : Bool × Bool} {F : Nat → Nat → Int} {A : Nat → Int → Int} {i0 i2 i3 i7 i8 i13 i18 i19 i20 i25 i29 i30 i31 i36 i37 i38 : Int} {r73 r74 r75 r76 r77 r78 r79 r80 r81 r82 r83 r84 r85 r86 r87 r88 r89 r90 r91 r92 r93 r94 r95 : Int → Int}
def ezm_m224pQ (e : Bool × Bool) (F : Nat → Nat → Int) (A : Nat → Int → Int) (i0 i2 i3 i7 i8 i13 i18 i19 i20 i25 i29 i30 i31 i36 i37 i38 : Int) (r73 r74 r75 r76 r77 r78 r79 r80 r81 r82 r83 r84 r85 r86 r87 r88 r89 r90 r91 r92 r93 r94 r95 : Int → Int) (n : Int) (c : Int → Int) (s : Int × Int) (t : ezp_D) : Option ezq_V → (Nat → ezq_C) → Prop := fun v g' => ∃ (x7 x8 x19 : Int) (x78 x82 x84 : Int → Int), ezm_h e F A i0 i2 i3 x7 x8 i13 i18 x19 i20 i25 i29 i30 i31 i36 i37 i38 r73 r74 r75 r76 r77 x78 r79 r80 r81 x82 r83 x84 r85 r86 r87 r88 r89 r90 r91 r92 r93 r94 r95 = g' ∧ ezm_T i0 i2 i3 x7 x8 i13 i18 x19 i20 i25 i29 i30 i31 i36 i37 i38 r73 r74 r75 r76 r77 x78 r79 r80 r81 x82 r83 x84 r85 r86 r87 r88 r89 r90 r91 r92 r93 r94 r95 ∧ (i7 ≤ x7 ∧ x7 ≤ n) ∧ (∀ j, j < 100 → x78 j = r78 j) ∧ (x8 = 0 → ezm_RD i13 x19 x78 r79 r80 x84) ∧ (ezm_SB c (ezp_lne c t s).1 x8 x7) ∧ (x8 = 0 → ezm_TRE ((ezp_lne c t s).2) x19 i20 x78 x82 x84) ∧ (∀ j, 115 ≤ j → j ≤ 116 → x78 j = r78 j) ∧ none = v
set_option maxHeartbeats 8000000 in
theorem ezm_m224p {c : Int → Int} {s : Int × Int} {t : ezp_D} {n : Int} (hT : ezm_T i0 i2 i3 i7 i8 i13 i18 i19 i20 i25 i29 i30 i31 i36 i37 i38 r73 r74 r75 r76 r77 r78 r79 r80 r81 r82 r83 r84 r85 r86 r87 r88 r89 r90 r91 r92 r93 r94 r95) (hd : 4 ≤ d) (gn : i7 < n) (hn : 0 ≤ i7 ∧ i7 ≤ n) (hs : r74 n = 0) (h1 : n ≤ 1000) (h0 : i8 = 0) (hc : 0 ≤ i13 ∧ i13 ≤ i7) (rd : ezm_RD i13 i19 r78 r79 r80 r84) (tk : ezm_TK c n r74 r75 r76) (hM : ∀ w, 0 ≤ w → w < 48 → r77 w = ezl_mw.getD w.toNat 0) (st : ezm_ST s i8 i7) (tr : ezm_TRE t i19 i20 r78 r82 r84) (kw : ezp_K c s.2 = 0) : ezw_C l ρ B xa Hb D cA 224 d [ezw_p 72] (ezm_h e F A i0 i2 i3 i7 i8 i13 i18 i19 i20 i25 i29 i30 i31 i36 i37 i38 r73 r74 r75 r76 r77 r78 r79 r80 r81 r82 r83 r84 r85 r86 r87 r88 r89 r90 r91 r92 r93 r94 r95) (ezm_m224pQ  e F A i0 i2 i3 i7 i8 i13 i18 i19 i20 i25 i29 i30 i31 i36 i37 i38 r73 r74 r75 r76 r77 r78 r79 r80 r81 r82 r83 r84 r85 r86 r87 r88 r89 r90 r91 r92 r93 r94 r95 n c s t) := by
  refine ezw_met (k := 3) rfl rfl ?_
  obtain ⟨t1, ht1⟩ : ∃ t1, t1 = t.once 0 := ⟨_, rfl⟩
  have tr1 : ezm_TRE t1 i19 i20 r78 r82 r84 := by
    rw [ht1]
    exact ezm_TRE_onceX tr (Or.inl rfl)
  have hkT : t1.kT = t.kT := by
    rw [ht1]
    rfl
  have hkH : t1.kH = t.kH := by
    rw [ht1]
    rfl
  have hkE : t1.kE = t.kE := by
    rw [ht1]
    rfl
  obtain ⟨se, sa, -, hP, -, -⟩ := ezm_TKi tk st hn
  replace sa := sa (by omega)
  have tcn := tr1.1
  have tbn := tr1.2.1
  have tnm := tr1.2.2.1
  have hlb : t1.kT < 8 → ezp_lb c t s = ezp_lw c 0 t1 (ezp_t s) := fun hk => by
    rw [ht1]
    exact ezp_lb_w (show s.1 = 0 by omega) (Or.inl ⟨kw, by omega⟩) kw
  refine ezw_aload_n rfl rfl ?_
  refine ezm_gp (p := 78) rfl (fun _ => rfl) ?_
  refine ezw_bipush (100) rfl rfl ?_
  refine ezm_l78 rfl (by omega) (by omega) (fun u1 eu1 => ?_)
  have ku1 : ezm_k78 (100) u1 := eu1 ▸ hT.t78 (100)
  have zu1 := ezm_za0 ku1 (by omega)
  have b19 := hT.t19
  have bm := rd.1
  have b1 := ezm_za1 (hT.t78 101) (by decide)
  have b0 := ezm_za0 (hT.t78 100) (by decide)
  have b3 := ezm_za3 (hT.t78 103) (by decide)
  refine ezw_istore_n rfl rfl ?_
  have hmu : u1 = t1.kT := by omega
  refine ezw_iload_n rfl rfl ?_
  refine ezw_bipush (8) rfl rfl ?_
  refine ezw_icmp_ne rfl rfl (ezm_in78 ku1) ⟨by decide, by decide⟩ (fun h11_1 => ?_) (fun h11_1 => ?_)
  · replace hlb := hlb (by omega)
    refine ezw_aload_n rfl rfl ?_
    refine ezw_iload_n rfl rfl ?_
    refine ezw_call0_1 rfl (by omega) (ezm_at rfl) rfl rfl rfl rfl (ezm_m226p hT (by omega) (ezm_in78 ku1) (by omega) (by omega) (by omega) (by omega) hs (by omega) tk hM st tnm) ?_
    rintro _ _ ⟨x7_2, x8_2, x19_2, x82_2, x84_2, rfl, hT, p2_0, p2_1, p2_2, p2_3, rn_2, rf_2, st_2, n82_2, f82_2, nw_2, rfl⟩
    have k3 := hT.t7
    have k4 := hT.t8
    have k5 := hT.t19
    refine ezw_bipush (117) rfl rfl ?_
    refine ezw_iconst (4) rfl rfl ?_
    refine ezw_iload_n rfl rfl ?_
    refine ezw_imul (k := 4 * u1) rfl (by omega) ?_
    refine ezw_iadd (k := 4 * u1 + 117) rfl (by omega) ?_
    refine ezw_istore_n rfl rfl ?_
    refine ezw_aload_n rfl rfl ?_
    refine ezm_gp (p := 78) rfl (fun _ => rfl) ?_
    refine ezw_iload_n rfl rfl ?_
    refine ezw_aload_n rfl rfl ?_
    refine ezw_iconst (1) rfl rfl ?_
    refine ezw_iconst (1) rfl rfl ?_
    refine ezw_bipush (60) rfl rfl ?_
    refine ezw_call0_3 rfl (by omega) (ezm_at rfl) rfl rfl rfl rfl (ezm_m230p hT (by omega) ⟨by decide, by decide⟩ ⟨by decide, by decide⟩ ⟨by decide, by decide⟩ (by omega) hs (by omega) tk hM st_2 (by omega)) ?_
    rintro _ _ ⟨x7_6, x8_6, rfl, hT, u7, hu7, p6_0, p6_1, p6_2, st_6, v_6, rfl⟩
    have k8 := hT.t7
    have k9 := hT.t8
    refine ezm_s78 hT rfl (by omega) (by omega) ⟨hu7, by omega, by omega, by omega, by omega, by omega, by omega, by omega⟩ (fun r78_10 hT er78_10 fr78_10 => ?_)
    refine ezw_aload_n rfl rfl ?_
    refine ezm_gp (p := 78) rfl (fun _ => rfl) ?_
    refine ezw_iload_n rfl rfl ?_
    refine ezw_iconst (1) rfl rfl ?_
    refine ezw_iadd (k := 4 * u1 + 118) rfl (by omega) ?_
    refine ezw_aload_n rfl rfl ?_
    refine ezw_iconst (2) rfl rfl ?_
    refine ezw_iconst (1) rfl rfl ?_
    refine ezw_bipush (20) rfl rfl ?_
    refine ezw_call0_3 rfl (by omega) (ezm_at rfl) rfl rfl rfl rfl (ezm_m230p hT (by omega) ⟨by decide, by decide⟩ ⟨by decide, by decide⟩ ⟨by decide, by decide⟩ (by omega) hs (by omega) tk hM st_6 (by omega)) ?_
    rintro _ _ ⟨x7_11, x8_11, rfl, hT, u12, hu12, p11_0, p11_1, p11_2, st_11, v_11, rfl⟩
    have k13 := hT.t7
    have k14 := hT.t8
    refine ezm_s78 hT rfl (by omega) (by omega) ⟨hu12, by omega, by omega, by omega, by omega, by omega, by omega, by omega⟩ (fun r78_15 hT er78_15 fr78_15 => ?_)
    refine ezw_aload_n rfl rfl ?_
    refine ezw_iconst (3) rfl rfl ?_
    refine ezw_call0_1 rfl (by omega) (ezm_at rfl) rfl rfl rfl rfl (ezm_m231p hT (by omega) ⟨by decide, by decide⟩ (by omega) hs (by omega) tk hM st_11 (by omega)) ?_
    rintro _ _ ⟨x7_16, x8_16, rfl, hT, p16_0, p16_1, p16_2, st_16, rfl⟩
    have k17 := hT.t7
    have k18 := hT.t8
    refine ezw_aload_n rfl rfl ?_
    refine ezm_gp (p := 78) rfl (fun _ => rfl) ?_
    refine ezw_iload_n rfl rfl ?_
    refine ezw_iconst (2) rfl rfl ?_
    refine ezw_iadd (k := 4 * u1 + 119) rfl (by omega) ?_
    refine ezw_aload_n rfl rfl ?_
    refine ezw_bipush (30) rfl rfl ?_
    refine ezw_iconst (4) rfl rfl ?_
    refine ezw_call0_2 rfl (by omega) (ezm_at rfl) rfl rfl rfl rfl (ezm_m234p hT (by omega) ⟨by decide, by decide⟩ ⟨by decide, by decide⟩ (by omega) hs (by omega) tk hM st_16 (by omega)) ?_
    rintro _ _ ⟨x7_19, x8_19, rfl, hT, u20, hu20, p19_0, p19_1, p19_2, st_19, v_19, rfl⟩
    have k21 := hT.t7
    have k22 := hT.t8
    refine ezm_s78 hT rfl (by omega) (by omega) ⟨hu20, by omega, by omega, by omega, by omega, by omega, by omega, by omega⟩ (fun r78_23 hT er78_23 fr78_23 => ?_)
    refine ezw_aload_n rfl rfl ?_
    refine ezm_gp (p := 78) rfl (fun _ => rfl) ?_
    refine ezw_iload_n rfl rfl ?_
    refine ezw_iconst (3) rfl rfl ?_
    refine ezw_iadd (k := 4 * u1 + 120) rfl (by omega) ?_
    refine ezw_iconst (-1) rfl rfl ?_
    refine ezm_s78 hT rfl (by omega) (by omega) ⟨⟨by decide, by decide⟩, by omega, by omega, by omega, by omega, by omega, by omega, by omega⟩ (fun r78_24 hT er78_24 fr78_24 => ?_)
    refine ezw_aload_n rfl rfl ?_
    refine ezw_iconst (4) rfl rfl ?_
    refine ezw_call0_1 rfl (by omega) (ezm_at rfl) rfl rfl rfl rfl (ezm_m232p hT (by omega) ⟨by decide, by decide⟩ (by omega) hs (by omega) tk hM st_19 (by omega)) ?_
    rintro _ _ ⟨x7_25, rfl, hT, u26, hu26, p25_0, p25_1, p25_2, p25_3, q1_25, q0_25, st_25, rfl⟩
    have k27 := hT.t7
    refine ezw_if_eq rfl rfl ⟨by omega, by omega⟩ (fun h96_27 => ?_) (fun h96_27 => ?_)
    · refine ezw_aload_n rfl rfl ?_
      refine ezm_gp (p := 78) rfl (fun _ => rfl) ?_
      refine ezw_bipush (100) rfl rfl ?_
      refine ezw_dup2 rfl rfl rfl ?_
      refine ezm_l78 rfl (by omega) (by omega) (fun u28 eu28 => ?_)
      have ku28 : ezm_k78 (100) u28 := eu28 ▸ hT.t78 (100)
      have zu28 := ezm_za0 ku28 (by omega)
      have qu28 : u28 = u1 := by rw [eu28, fr78_24 (100) (by omega), fr78_23 (100) (by omega), fr78_15 (100) (by omega), fr78_10 (100) (by omega), ← eu1]
      refine ezw_iconst (1) rfl rfl ?_
      refine ezw_iadd (k := u28 + 1) rfl (by omega) ?_
      refine ezm_s78 hT rfl (by omega) (by omega) ⟨⟨by omega, by omega⟩, by omega, by omega, by omega, by omega, by omega, by omega, by omega⟩ (fun r78_29 hT er78_29 fr78_29 => ?_)
      exact ezw_return rfl rfl ⟨x7_25, x8_19, x19_2, r78_29, x82_2, x84_2, rfl, hT, by omega, fun j hj => by rw [fr78_29 j (by omega), fr78_24 j (by omega), fr78_23 j (by omega), fr78_15 j (by omega), fr78_10 j (by omega)], fun z => by
            exact ezm_RD_twig rd eu1 (by omega) (by omega) (by omega) (by omega) (by rw [er78_29]; omega) (fun j h1 h2 => by rw [fr78_29 j (by omega), fr78_24 j (by omega), fr78_23 j (by omega), fr78_15 j (by omega), fr78_10 j (by omega)]) (by rw [fr78_29 (4 * u1 + 120) (by omega), er78_24]; omega) (rn_2 (by omega)) rf_2, by
            refine ezm_SB_i st_25 ?_
            rw [hlb, ezp_lw_0 rfl]
            show ezp_twS c t1 (ezp_t s) = _
            rw [ezp_twS_0 (q0_25 (by omega))]
            try rfl, fun z => by
            rw [ezp_lne_2', hlb, ezp_lw_0 rfl]
            show ezm_TRE (ezp_twD c t1 (ezp_t s)) _ _ _ _ _
            rw [ezp_twD_0 (t := t1) (q0_25 (by omega)) (st_25.1.symm.trans (by omega))]
            exact ezm_TRE_twig tr1 (show t1.kT < 8 by omega) (show ezm_NM (ezp_up t1.nT t1.kT (ezp_W c (ezp_t s).2)) (t1.kT + 1) t1.nH t1.kH x19_2 x82_2 x84_2 from by
            rw [show x19_2 = i19 + 1 by omega]
            exact ezm_NM_T tnm (by omega) (nw_2 (by omega)).1 (nw_2 (by omega)).2 (n82_2 (by omega)) ((rn_2 (by omega)).trans (by omega)) f82_2 rf_2) (show r78_29 100 = t1.kT + 1 by rw [er78_29]; omega) (show r78_29 (4 * t1.kT + 117) = _ from by
              rw [show (4 * t1.kT + 117 : Int) = 4 * u1 + 117 by omega, fr78_29 (4 * u1 + 117) (by omega), fr78_24 (4 * u1 + 117) (by omega), fr78_23 (4 * u1 + 117) (by omega), fr78_15 (4 * u1 + 117) (by omega), er78_10]
              exact v_6 (by omega)) (show r78_29 (4 * t1.kT + 118) = _ from by
              rw [show (4 * t1.kT + 118 : Int) = 4 * u1 + 118 by omega, fr78_29 (4 * u1 + 118) (by omega), fr78_24 (4 * u1 + 118) (by omega), fr78_23 (4 * u1 + 118) (by omega), er78_15]
              exact v_11 (by omega)) (show r78_29 (4 * t1.kT + 119) = _ from by
              rw [show (4 * t1.kT + 119 : Int) = 4 * u1 + 119 by omega, fr78_29 (4 * u1 + 119) (by omega), fr78_24 (4 * u1 + 119) (by omega), er78_23]
              exact v_19 (by omega)) (show r78_29 (4 * t1.kT + 120) = _ from by
              rw [show (4 * t1.kT + 120 : Int) = 4 * u1 + 120 by omega, fr78_29 (4 * u1 + 120) (by omega), er78_24]) (fun j j0 j1 j2 => by
              have j2 : j < 4 * t1.kT + 117 ∨ 4 * t1.kT + 120 < j := j2
              rw [fr78_29 j (by omega), fr78_24 j (by omega), fr78_23 j (by omega), fr78_15 j (by omega), fr78_10 j (by omega)]), (fun j j0 j1 => by rw [fr78_29 j (by omega), fr78_24 j (by omega), fr78_23 j (by omega), fr78_15 j (by omega), fr78_10 j (by omega)]), rfl⟩
    · have nmA : ezm_NM (ezp_up t1.nT t1.kT (ezp_W c (ezp_t s).2)) (t1.kT + 1) t1.nH t1.kH x19_2 x82_2 x84_2 := (show ezm_NM (ezp_up t1.nT t1.kT (ezp_W c (ezp_t s).2)) (t1.kT + 1) t1.nH t1.kH x19_2 x82_2 x84_2 from by
            rw [show x19_2 = i19 + 1 by omega]
            exact ezm_NM_T tnm (by omega) (nw_2 (by omega)).1 (nw_2 (by omega)).2 (n82_2 (by omega)) ((rn_2 (by omega)).trans (by omega)) f82_2 rf_2)
      refine ezw_aload_n rfl rfl ?_
      refine ezw_iconst (1) rfl rfl ?_
      refine ezw_iconst (0) rfl rfl ?_
      refine ezw_bipush (8) rfl rfl ?_
      refine ezw_call0_3 rfl (by omega) (ezm_at rfl) rfl rfl rfl rfl (ezm_m235_v1_v0p hT (by omega) ⟨by decide, by decide⟩ (by omega) hs (by omega) tk hM st_25 (by omega) nmA) ?_
      rintro _ _ ⟨x8_30, rfl, hT, u31, hu31, p30_0, p30_1, p30_2, f_30, st_30, v_30, rfl⟩
      have k32 := hT.t8
      refine ezw_istore_n rfl rfl ?_
      refine ezw_aload_n rfl rfl ?_
      refine ezm_g8 rfl ?_
      refine ezw_if_ne rfl rfl ⟨by omega, by omega⟩ (fun h112_32 => ?_) (fun h112_32 => ?_)
      · refine ezw_aload_n rfl rfl ?_
        refine ezw_dup rfl rfl ?_
        refine ezm_g7 rfl ?_
        refine ezw_aload_n rfl rfl ?_
        refine ezm_g8 rfl ?_
        refine ezw_if_le rfl rfl ⟨by omega, by omega⟩ (fun h134_32 => ?_) (fun h134_32 => ?_)
        · refine ezw_iconst (1) rfl rfl ?_
          refine ezw_iadd (k := x7_25 + 1) rfl (by omega) ?_
          refine ezm_p7 hT rfl ⟨by omega, by omega⟩ (fun hT => ?_)
          refine ezw_aload_n rfl rfl ?_
          refine ezm_gp (p := 78) rfl (fun _ => rfl) ?_
          refine ezw_iload_n rfl rfl ?_
          refine ezw_iconst (3) rfl rfl ?_
          refine ezw_iadd (k := 4 * u1 + 120) rfl (by omega) ?_
          refine ezw_iload_n rfl rfl ?_
          refine ezm_s78 hT rfl (by omega) (by omega) ⟨hu31, by omega, by omega, by omega, by omega, by omega, by omega, by omega⟩ (fun r78_33 hT er78_33 fr78_33 => ?_)
          refine ezw_aload_n rfl rfl ?_
          refine ezm_gp (p := 78) rfl (fun _ => rfl) ?_
          refine ezw_bipush (100) rfl rfl ?_
          refine ezw_dup2 rfl rfl rfl ?_
          refine ezm_l78 rfl (by omega) (by omega) (fun u34 eu34 => ?_)
          have ku34 : ezm_k78 (100) u34 := eu34 ▸ hT.t78 (100)
          have zu34 := ezm_za0 ku34 (by omega)
          have qu34 : u34 = u1 := by rw [eu34, fr78_33 (100) (by omega), fr78_24 (100) (by omega), fr78_23 (100) (by omega), fr78_15 (100) (by omega), fr78_10 (100) (by omega), ← eu1]
          refine ezw_iconst (1) rfl rfl ?_
          refine ezw_iadd (k := u34 + 1) rfl (by omega) ?_
          refine ezm_s78 hT rfl (by omega) (by omega) ⟨⟨by omega, by omega⟩, by omega, by omega, by omega, by omega, by omega, by omega, by omega⟩ (fun r78_35 hT er78_35 fr78_35 => ?_)
          exact ezw_return rfl rfl ⟨(x7_25 + 1), x8_30, x19_2, r78_35, x82_2, x84_2, rfl, hT, by omega, fun j hj => by rw [fr78_35 j (by omega), fr78_33 j (by omega), fr78_24 j (by omega), fr78_23 j (by omega), fr78_15 j (by omega), fr78_10 j (by omega)], fun z => by
                have hon := ezm_RD_on rd eu1 (show x19_2 = i19 + 1 by omega) (rn_2 (by omega)) rf_2 (f_30 (by omega)) (by omega) (by omega)
                exact ezm_RD_twig rd eu1 (by omega) (by omega) (by omega) (by omega) (by rw [er78_35]; omega) (fun j h1 h2 => by rw [fr78_35 j (by omega), fr78_33 j (by omega), fr78_24 j (by omega), fr78_23 j (by omega), fr78_15 j (by omega), fr78_10 j (by omega)]) (by rw [fr78_35 (4 * u1 + 120) (by omega), er78_33]; omega) (rn_2 (by omega)) rf_2, by
                refine ezm_SB_i (ezm_ST_t (x8 := x8_30) (x7 := x7_25 + 1) st_30 (by omega) (fun _ => by omega)) ?_
                rw [hlb, ezp_lw_0 rfl]
                show ezp_twS c t1 (ezp_t s) = _
                rw [ezp_twS_1 (q1_25 (by omega))]
                unfold ezp_ta
                rw [show ezp_se c t1.nT t1.kT (ezp_tk c 4 (ezp_tw7 c t1 (ezp_t s))) = _ from ((ezm_on (u := u31) tbn.1 st_30 (fun z => by have h7 := v_30 z; exact ⟨h7.1, h7.2.1, h7.2.2.1, by omega, h7.2.2.2.2⟩)).2 (fun z => by omega)).1]
                try rfl, fun z => by
                rw [ezp_lne_2', hlb, ezp_lw_0 rfl]
                show ezm_TRE (ezp_twD c t1 (ezp_t s)) _ _ _ _ _
                rw [ezp_twD_1 (t := t1) (q1_25 (by omega)) (by
                  have h9 : ezp_se c t1.nT t1.kT (ezp_tk c 4 (ezp_tw7 c t1 (ezp_t s))) = _ := ((ezm_on (u := u31) tbn.1 st_30 (fun z => by have h7 := v_30 z; exact ⟨h7.1, h7.2.1, h7.2.2.1, by omega, h7.2.2.2.2⟩)).2 (fun z => by omega)).1
                  show (ezp_ta c t1.nT t1.kT (ezp_tk c 4 (ezp_tw7 c t1 (ezp_t s)))).1 = 0
                  unfold ezp_ta
                  rw [h9, ezp_t1]
                  exact st_30.1.symm.trans (by omega))]
                exact ezm_TRE_twig tr1 (show t1.kT < 8 by omega) nmA (show r78_35 100 = t1.kT + 1 by rw [er78_35]; omega) (show r78_35 (4 * t1.kT + 117) = _ from by
                  rw [show (4 * t1.kT + 117 : Int) = 4 * u1 + 117 by omega, fr78_35 (4 * u1 + 117) (by omega), fr78_33 (4 * u1 + 117) (by omega), fr78_24 (4 * u1 + 117) (by omega), fr78_23 (4 * u1 + 117) (by omega), fr78_15 (4 * u1 + 117) (by omega), er78_10]
                  exact v_6 (by omega)) (show r78_35 (4 * t1.kT + 118) = _ from by
                  rw [show (4 * t1.kT + 118 : Int) = 4 * u1 + 118 by omega, fr78_35 (4 * u1 + 118) (by omega), fr78_33 (4 * u1 + 118) (by omega), fr78_24 (4 * u1 + 118) (by omega), fr78_23 (4 * u1 + 118) (by omega), er78_15]
                  exact v_11 (by omega)) (show r78_35 (4 * t1.kT + 119) = _ from by
                  rw [show (4 * t1.kT + 119 : Int) = 4 * u1 + 119 by omega, fr78_35 (4 * u1 + 119) (by omega), fr78_33 (4 * u1 + 119) (by omega), fr78_24 (4 * u1 + 119) (by omega), er78_23]
                  exact v_19 (by omega)) (show r78_35 (4 * t1.kT + 120) = _ from by
                  rw [show (4 * t1.kT + 120 : Int) = 4 * u1 + 120 by omega, fr78_35 (4 * u1 + 120) (by omega), er78_33]
                  exact (((ezm_on (u := u31) tbn.1 st_30 (fun z => by have h7 := v_30 z; exact ⟨h7.1, h7.2.1, h7.2.2.1, by omega, h7.2.2.2.2⟩)).2 (fun z => by omega)).2 (by omega)).symm) (fun j j0 j1 j2 => by
                  have j2 : j < 4 * t1.kT + 117 ∨ 4 * t1.kT + 120 < j := j2
                  rw [fr78_35 j (by omega), fr78_33 j (by omega), fr78_24 j (by omega), fr78_23 j (by omega), fr78_15 j (by omega), fr78_10 j (by omega)]), (fun j j0 j1 => by rw [fr78_35 j (by omega), fr78_33 j (by omega), fr78_24 j (by omega), fr78_23 j (by omega), fr78_15 j (by omega), fr78_10 j (by omega)]), rfl⟩
        · refine ezw_iconst (0) rfl rfl ?_
          refine ezw_goto rfl rfl ?_
          refine ezw_iadd (k := x7_25) rfl (by omega) ?_
          refine ezm_p7 hT rfl ⟨by omega, by omega⟩ (fun hT => ?_)
          refine ezw_aload_n rfl rfl ?_
          refine ezm_gp (p := 78) rfl (fun _ => rfl) ?_
          refine ezw_iload_n rfl rfl ?_
          refine ezw_iconst (3) rfl rfl ?_
          refine ezw_iadd (k := 4 * u1 + 120) rfl (by omega) ?_
          refine ezw_iload_n rfl rfl ?_
          refine ezm_s78 hT rfl (by omega) (by omega) ⟨hu31, by omega, by omega, by omega, by omega, by omega, by omega, by omega⟩ (fun r78_36 hT er78_36 fr78_36 => ?_)
          refine ezw_aload_n rfl rfl ?_
          refine ezm_gp (p := 78) rfl (fun _ => rfl) ?_
          refine ezw_bipush (100) rfl rfl ?_
          refine ezw_dup2 rfl rfl rfl ?_
          refine ezm_l78 rfl (by omega) (by omega) (fun u37 eu37 => ?_)
          have ku37 : ezm_k78 (100) u37 := eu37 ▸ hT.t78 (100)
          have zu37 := ezm_za0 ku37 (by omega)
          have qu37 : u37 = u1 := by rw [eu37, fr78_36 (100) (by omega), fr78_24 (100) (by omega), fr78_23 (100) (by omega), fr78_15 (100) (by omega), fr78_10 (100) (by omega), ← eu1]
          refine ezw_iconst (1) rfl rfl ?_
          refine ezw_iadd (k := u37 + 1) rfl (by omega) ?_
          refine ezm_s78 hT rfl (by omega) (by omega) ⟨⟨by omega, by omega⟩, by omega, by omega, by omega, by omega, by omega, by omega, by omega⟩ (fun r78_38 hT er78_38 fr78_38 => ?_)
          exact ezw_return rfl rfl ⟨x7_25, x8_30, x19_2, r78_38, x82_2, x84_2, rfl, hT, by omega, fun j hj => by rw [fr78_38 j (by omega), fr78_36 j (by omega), fr78_24 j (by omega), fr78_23 j (by omega), fr78_15 j (by omega), fr78_10 j (by omega)], fun z => by
                have hon := ezm_RD_on rd eu1 (show x19_2 = i19 + 1 by omega) (rn_2 (by omega)) rf_2 (f_30 (by omega)) (by omega) (by omega)
                exact ezm_RD_twig rd eu1 (by omega) (by omega) (by omega) (by omega) (by rw [er78_38]; omega) (fun j h1 h2 => by rw [fr78_38 j (by omega), fr78_36 j (by omega), fr78_24 j (by omega), fr78_23 j (by omega), fr78_15 j (by omega), fr78_10 j (by omega)]) (by rw [fr78_38 (4 * u1 + 120) (by omega), er78_36]; omega) (rn_2 (by omega)) rf_2, by
                refine ezm_SB_i (ezm_ST_t (x8 := x8_30) (x7 := x7_25) st_30 (by omega) (fun _ => by omega)) ?_
                rw [hlb, ezp_lw_0 rfl]
                show ezp_twS c t1 (ezp_t s) = _
                rw [ezp_twS_1 (q1_25 (by omega))]
                unfold ezp_ta
                rw [show ezp_se c t1.nT t1.kT (ezp_tk c 4 (ezp_tw7 c t1 (ezp_t s))) = _ from ((ezm_on (u := u31) tbn.1 st_30 (fun z => by have h7 := v_30 z; exact ⟨h7.1, h7.2.1, h7.2.2.1, by omega, h7.2.2.2.2⟩)).2 (fun z => by omega)).1]
                try rfl, fun z => absurd z (by omega), (fun j j0 j1 => by rw [fr78_38 j (by omega), fr78_36 j (by omega), fr78_24 j (by omega), fr78_23 j (by omega), fr78_15 j (by omega), fr78_10 j (by omega)]), rfl⟩
      · refine ezw_iload_n rfl rfl ?_
        refine ezw_iload_n rfl rfl ?_
        refine ezw_icmp_ne rfl rfl hu31 (ezm_in78 ku1) (fun h117_38 => ?_) (fun h117_38 => ?_)
        · refine ezw_aload_n rfl rfl ?_
          refine ezw_dup rfl rfl ?_
          refine ezm_g7 rfl ?_
          refine ezw_aload_n rfl rfl ?_
          refine ezm_g8 rfl ?_
          refine ezw_if_le rfl rfl ⟨by omega, by omega⟩ (fun h134_38 => ?_) (fun h134_38 => ?_)
          · refine ezw_iconst (1) rfl rfl ?_
            refine ezw_iadd (k := x7_25 + 1) rfl (by omega) ?_
            refine ezm_p7 hT rfl ⟨by omega, by omega⟩ (fun hT => ?_)
            refine ezw_aload_n rfl rfl ?_
            refine ezm_gp (p := 78) rfl (fun _ => rfl) ?_
            refine ezw_iload_n rfl rfl ?_
            refine ezw_iconst (3) rfl rfl ?_
            refine ezw_iadd (k := 4 * u1 + 120) rfl (by omega) ?_
            refine ezw_iload_n rfl rfl ?_
            refine ezm_s78 hT rfl (by omega) (by omega) ⟨hu31, by omega, by omega, by omega, by omega, by omega, by omega, by omega⟩ (fun r78_39 hT er78_39 fr78_39 => ?_)
            refine ezw_aload_n rfl rfl ?_
            refine ezm_gp (p := 78) rfl (fun _ => rfl) ?_
            refine ezw_bipush (100) rfl rfl ?_
            refine ezw_dup2 rfl rfl rfl ?_
            refine ezm_l78 rfl (by omega) (by omega) (fun u40 eu40 => ?_)
            have ku40 : ezm_k78 (100) u40 := eu40 ▸ hT.t78 (100)
            have zu40 := ezm_za0 ku40 (by omega)
            have qu40 : u40 = u1 := by rw [eu40, fr78_39 (100) (by omega), fr78_24 (100) (by omega), fr78_23 (100) (by omega), fr78_15 (100) (by omega), fr78_10 (100) (by omega), ← eu1]
            refine ezw_iconst (1) rfl rfl ?_
            refine ezw_iadd (k := u40 + 1) rfl (by omega) ?_
            refine ezm_s78 hT rfl (by omega) (by omega) ⟨⟨by omega, by omega⟩, by omega, by omega, by omega, by omega, by omega, by omega, by omega⟩ (fun r78_41 hT er78_41 fr78_41 => ?_)
            exact ezw_return rfl rfl ⟨(x7_25 + 1), x8_30, x19_2, r78_41, x82_2, x84_2, rfl, hT, by omega, fun j hj => by rw [fr78_41 j (by omega), fr78_39 j (by omega), fr78_24 j (by omega), fr78_23 j (by omega), fr78_15 j (by omega), fr78_10 j (by omega)], fun z => by
                  have hon := ezm_RD_on rd eu1 (show x19_2 = i19 + 1 by omega) (rn_2 (by omega)) rf_2 (f_30 (by omega)) (by omega) (by omega)
                  exact ezm_RD_twig rd eu1 (by omega) (by omega) (by omega) (by omega) (by rw [er78_41]; omega) (fun j h1 h2 => by rw [fr78_41 j (by omega), fr78_39 j (by omega), fr78_24 j (by omega), fr78_23 j (by omega), fr78_15 j (by omega), fr78_10 j (by omega)]) (by rw [fr78_41 (4 * u1 + 120) (by omega), er78_39]; omega) (rn_2 (by omega)) rf_2, by
                  refine ezm_SB_i (ezm_ST_t (x8 := x8_30) (x7 := x7_25 + 1) st_30 (by omega) (fun _ => by omega)) ?_
                  rw [hlb, ezp_lw_0 rfl]
                  show ezp_twS c t1 (ezp_t s) = _
                  rw [ezp_twS_1 (q1_25 (by omega))]
                  unfold ezp_ta
                  rw [show ezp_se c t1.nT t1.kT (ezp_tk c 4 (ezp_tw7 c t1 (ezp_t s))) = _ from ((ezm_on (u := u31) tbn.1 st_30 (fun z => by have h7 := v_30 z; exact ⟨h7.1, h7.2.1, h7.2.2.1, by omega, h7.2.2.2.2⟩)).2 (fun z => by omega)).1]
                  try rfl, fun z => by
                  rw [ezp_lne_2', hlb, ezp_lw_0 rfl]
                  show ezm_TRE (ezp_twD c t1 (ezp_t s)) _ _ _ _ _
                  rw [ezp_twD_1 (t := t1) (q1_25 (by omega)) (by
                    have h9 : ezp_se c t1.nT t1.kT (ezp_tk c 4 (ezp_tw7 c t1 (ezp_t s))) = _ := ((ezm_on (u := u31) tbn.1 st_30 (fun z => by have h7 := v_30 z; exact ⟨h7.1, h7.2.1, h7.2.2.1, by omega, h7.2.2.2.2⟩)).2 (fun z => by omega)).1
                    show (ezp_ta c t1.nT t1.kT (ezp_tk c 4 (ezp_tw7 c t1 (ezp_t s)))).1 = 0
                    unfold ezp_ta
                    rw [h9, ezp_t1]
                    exact st_30.1.symm.trans (by omega))]
                  exact ezm_TRE_twig tr1 (show t1.kT < 8 by omega) nmA (show r78_41 100 = t1.kT + 1 by rw [er78_41]; omega) (show r78_41 (4 * t1.kT + 117) = _ from by
                    rw [show (4 * t1.kT + 117 : Int) = 4 * u1 + 117 by omega, fr78_41 (4 * u1 + 117) (by omega), fr78_39 (4 * u1 + 117) (by omega), fr78_24 (4 * u1 + 117) (by omega), fr78_23 (4 * u1 + 117) (by omega), fr78_15 (4 * u1 + 117) (by omega), er78_10]
                    exact v_6 (by omega)) (show r78_41 (4 * t1.kT + 118) = _ from by
                    rw [show (4 * t1.kT + 118 : Int) = 4 * u1 + 118 by omega, fr78_41 (4 * u1 + 118) (by omega), fr78_39 (4 * u1 + 118) (by omega), fr78_24 (4 * u1 + 118) (by omega), fr78_23 (4 * u1 + 118) (by omega), er78_15]
                    exact v_11 (by omega)) (show r78_41 (4 * t1.kT + 119) = _ from by
                    rw [show (4 * t1.kT + 119 : Int) = 4 * u1 + 119 by omega, fr78_41 (4 * u1 + 119) (by omega), fr78_39 (4 * u1 + 119) (by omega), fr78_24 (4 * u1 + 119) (by omega), er78_23]
                    exact v_19 (by omega)) (show r78_41 (4 * t1.kT + 120) = _ from by
                    rw [show (4 * t1.kT + 120 : Int) = 4 * u1 + 120 by omega, fr78_41 (4 * u1 + 120) (by omega), er78_39]
                    exact (((ezm_on (u := u31) tbn.1 st_30 (fun z => by have h7 := v_30 z; exact ⟨h7.1, h7.2.1, h7.2.2.1, by omega, h7.2.2.2.2⟩)).2 (fun z => by omega)).2 (by omega)).symm) (fun j j0 j1 j2 => by
                    have j2 : j < 4 * t1.kT + 117 ∨ 4 * t1.kT + 120 < j := j2
                    rw [fr78_41 j (by omega), fr78_39 j (by omega), fr78_24 j (by omega), fr78_23 j (by omega), fr78_15 j (by omega), fr78_10 j (by omega)]), (fun j j0 j1 => by rw [fr78_41 j (by omega), fr78_39 j (by omega), fr78_24 j (by omega), fr78_23 j (by omega), fr78_15 j (by omega), fr78_10 j (by omega)]), rfl⟩
          · refine ezw_iconst (0) rfl rfl ?_
            refine ezw_goto rfl rfl ?_
            refine ezw_iadd (k := x7_25) rfl (by omega) ?_
            refine ezm_p7 hT rfl ⟨by omega, by omega⟩ (fun hT => ?_)
            refine ezw_aload_n rfl rfl ?_
            refine ezm_gp (p := 78) rfl (fun _ => rfl) ?_
            refine ezw_iload_n rfl rfl ?_
            refine ezw_iconst (3) rfl rfl ?_
            refine ezw_iadd (k := 4 * u1 + 120) rfl (by omega) ?_
            refine ezw_iload_n rfl rfl ?_
            refine ezm_s78 hT rfl (by omega) (by omega) ⟨hu31, by omega, by omega, by omega, by omega, by omega, by omega, by omega⟩ (fun r78_42 hT er78_42 fr78_42 => ?_)
            refine ezw_aload_n rfl rfl ?_
            refine ezm_gp (p := 78) rfl (fun _ => rfl) ?_
            refine ezw_bipush (100) rfl rfl ?_
            refine ezw_dup2 rfl rfl rfl ?_
            refine ezm_l78 rfl (by omega) (by omega) (fun u43 eu43 => ?_)
            have ku43 : ezm_k78 (100) u43 := eu43 ▸ hT.t78 (100)
            have zu43 := ezm_za0 ku43 (by omega)
            have qu43 : u43 = u1 := by rw [eu43, fr78_42 (100) (by omega), fr78_24 (100) (by omega), fr78_23 (100) (by omega), fr78_15 (100) (by omega), fr78_10 (100) (by omega), ← eu1]
            refine ezw_iconst (1) rfl rfl ?_
            refine ezw_iadd (k := u43 + 1) rfl (by omega) ?_
            refine ezm_s78 hT rfl (by omega) (by omega) ⟨⟨by omega, by omega⟩, by omega, by omega, by omega, by omega, by omega, by omega, by omega⟩ (fun r78_44 hT er78_44 fr78_44 => ?_)
            exact ezw_return rfl rfl ⟨x7_25, x8_30, x19_2, r78_44, x82_2, x84_2, rfl, hT, by omega, fun j hj => by rw [fr78_44 j (by omega), fr78_42 j (by omega), fr78_24 j (by omega), fr78_23 j (by omega), fr78_15 j (by omega), fr78_10 j (by omega)], fun z => by
                  have hon := ezm_RD_on rd eu1 (show x19_2 = i19 + 1 by omega) (rn_2 (by omega)) rf_2 (f_30 (by omega)) (by omega) (by omega)
                  exact ezm_RD_twig rd eu1 (by omega) (by omega) (by omega) (by omega) (by rw [er78_44]; omega) (fun j h1 h2 => by rw [fr78_44 j (by omega), fr78_42 j (by omega), fr78_24 j (by omega), fr78_23 j (by omega), fr78_15 j (by omega), fr78_10 j (by omega)]) (by rw [fr78_44 (4 * u1 + 120) (by omega), er78_42]; omega) (rn_2 (by omega)) rf_2, by
                  refine ezm_SB_i (ezm_ST_t (x8 := x8_30) (x7 := x7_25) st_30 (by omega) (fun _ => by omega)) ?_
                  rw [hlb, ezp_lw_0 rfl]
                  show ezp_twS c t1 (ezp_t s) = _
                  rw [ezp_twS_1 (q1_25 (by omega))]
                  unfold ezp_ta
                  rw [show ezp_se c t1.nT t1.kT (ezp_tk c 4 (ezp_tw7 c t1 (ezp_t s))) = _ from ((ezm_on (u := u31) tbn.1 st_30 (fun z => by have h7 := v_30 z; exact ⟨h7.1, h7.2.1, h7.2.2.1, by omega, h7.2.2.2.2⟩)).2 (fun z => by omega)).1]
                  try rfl, fun z => absurd z (by omega), (fun j j0 j1 => by rw [fr78_44 j (by omega), fr78_42 j (by omega), fr78_24 j (by omega), fr78_23 j (by omega), fr78_15 j (by omega), fr78_10 j (by omega)]), rfl⟩
        · refine ezw_aload_n rfl rfl ?_
          refine ezw_iconst (2) rfl rfl ?_
          refine ezw_call0_1 rfl (by omega) (ezm_at rfl) rfl rfl rfl rfl (ezm_m225p hT (by omega) ⟨by decide, by decide⟩ (by omega) (by omega) (by omega) hs (by omega) tk hM st_30) ?_
          rintro _ _ ⟨x8_45, rfl, hT, p45_0, p45_1, st_45, rfl⟩
          have k46 := hT.t8
          refine ezw_aload_n rfl rfl ?_
          refine ezw_dup rfl rfl ?_
          refine ezm_g7 rfl ?_
          refine ezw_aload_n rfl rfl ?_
          refine ezm_g8 rfl ?_
          refine ezw_if_le rfl rfl ⟨by omega, by omega⟩ (fun h134_46 => ?_) (fun h134_46 => ?_)
          · refine ezw_iconst (1) rfl rfl ?_
            refine ezw_iadd (k := x7_25 + 1) rfl (by omega) ?_
            refine ezm_p7 hT rfl ⟨by omega, by omega⟩ (fun hT => ?_)
            refine ezw_aload_n rfl rfl ?_
            refine ezm_gp (p := 78) rfl (fun _ => rfl) ?_
            refine ezw_iload_n rfl rfl ?_
            refine ezw_iconst (3) rfl rfl ?_
            refine ezw_iadd (k := 4 * u1 + 120) rfl (by omega) ?_
            refine ezw_iload_n rfl rfl ?_
            refine ezm_s78 hT rfl (by omega) (by omega) ⟨hu31, by omega, by omega, by omega, by omega, by omega, by omega, by omega⟩ (fun r78_47 hT er78_47 fr78_47 => ?_)
            refine ezw_aload_n rfl rfl ?_
            refine ezm_gp (p := 78) rfl (fun _ => rfl) ?_
            refine ezw_bipush (100) rfl rfl ?_
            refine ezw_dup2 rfl rfl rfl ?_
            refine ezm_l78 rfl (by omega) (by omega) (fun u48 eu48 => ?_)
            have ku48 : ezm_k78 (100) u48 := eu48 ▸ hT.t78 (100)
            have zu48 := ezm_za0 ku48 (by omega)
            have qu48 : u48 = u1 := by rw [eu48, fr78_47 (100) (by omega), fr78_24 (100) (by omega), fr78_23 (100) (by omega), fr78_15 (100) (by omega), fr78_10 (100) (by omega), ← eu1]
            refine ezw_iconst (1) rfl rfl ?_
            refine ezw_iadd (k := u48 + 1) rfl (by omega) ?_
            refine ezm_s78 hT rfl (by omega) (by omega) ⟨⟨by omega, by omega⟩, by omega, by omega, by omega, by omega, by omega, by omega, by omega⟩ (fun r78_49 hT er78_49 fr78_49 => ?_)
            exact ezw_return rfl rfl ⟨(x7_25 + 1), x8_45, x19_2, r78_49, x82_2, x84_2, rfl, hT, by omega, fun j hj => by rw [fr78_49 j (by omega), fr78_47 j (by omega), fr78_24 j (by omega), fr78_23 j (by omega), fr78_15 j (by omega), fr78_10 j (by omega)], fun z => by
                  have hon := ezm_RD_on rd eu1 (show x19_2 = i19 + 1 by omega) (rn_2 (by omega)) rf_2 (f_30 (by omega)) (by omega) (by omega)
                  exact ezm_RD_twig rd eu1 (by omega) (by omega) (by omega) (by omega) (by rw [er78_49]; omega) (fun j h1 h2 => by rw [fr78_49 j (by omega), fr78_47 j (by omega), fr78_24 j (by omega), fr78_23 j (by omega), fr78_15 j (by omega), fr78_10 j (by omega)]) (by rw [fr78_49 (4 * u1 + 120) (by omega), er78_47]; omega) (rn_2 (by omega)) rf_2, (by exfalso; omega), fun z => (by exfalso; omega), (fun j j0 j1 => by rw [fr78_49 j (by omega), fr78_47 j (by omega), fr78_24 j (by omega), fr78_23 j (by omega), fr78_15 j (by omega), fr78_10 j (by omega)]), rfl⟩
          · refine ezw_iconst (0) rfl rfl ?_
            refine ezw_goto rfl rfl ?_
            refine ezw_iadd (k := x7_25) rfl (by omega) ?_
            refine ezm_p7 hT rfl ⟨by omega, by omega⟩ (fun hT => ?_)
            refine ezw_aload_n rfl rfl ?_
            refine ezm_gp (p := 78) rfl (fun _ => rfl) ?_
            refine ezw_iload_n rfl rfl ?_
            refine ezw_iconst (3) rfl rfl ?_
            refine ezw_iadd (k := 4 * u1 + 120) rfl (by omega) ?_
            refine ezw_iload_n rfl rfl ?_
            refine ezm_s78 hT rfl (by omega) (by omega) ⟨hu31, by omega, by omega, by omega, by omega, by omega, by omega, by omega⟩ (fun r78_50 hT er78_50 fr78_50 => ?_)
            refine ezw_aload_n rfl rfl ?_
            refine ezm_gp (p := 78) rfl (fun _ => rfl) ?_
            refine ezw_bipush (100) rfl rfl ?_
            refine ezw_dup2 rfl rfl rfl ?_
            refine ezm_l78 rfl (by omega) (by omega) (fun u51 eu51 => ?_)
            have ku51 : ezm_k78 (100) u51 := eu51 ▸ hT.t78 (100)
            have zu51 := ezm_za0 ku51 (by omega)
            have qu51 : u51 = u1 := by rw [eu51, fr78_50 (100) (by omega), fr78_24 (100) (by omega), fr78_23 (100) (by omega), fr78_15 (100) (by omega), fr78_10 (100) (by omega), ← eu1]
            refine ezw_iconst (1) rfl rfl ?_
            refine ezw_iadd (k := u51 + 1) rfl (by omega) ?_
            refine ezm_s78 hT rfl (by omega) (by omega) ⟨⟨by omega, by omega⟩, by omega, by omega, by omega, by omega, by omega, by omega, by omega⟩ (fun r78_52 hT er78_52 fr78_52 => ?_)
            exact ezw_return rfl rfl ⟨x7_25, x8_45, x19_2, r78_52, x82_2, x84_2, rfl, hT, by omega, fun j hj => by rw [fr78_52 j (by omega), fr78_50 j (by omega), fr78_24 j (by omega), fr78_23 j (by omega), fr78_15 j (by omega), fr78_10 j (by omega)], fun z => by
                  have hon := ezm_RD_on rd eu1 (show x19_2 = i19 + 1 by omega) (rn_2 (by omega)) rf_2 (f_30 (by omega)) (by omega) (by omega)
                  exact ezm_RD_twig rd eu1 (by omega) (by omega) (by omega) (by omega) (by rw [er78_52]; omega) (fun j h1 h2 => by rw [fr78_52 j (by omega), fr78_50 j (by omega), fr78_24 j (by omega), fr78_23 j (by omega), fr78_15 j (by omega), fr78_10 j (by omega)]) (by rw [fr78_52 (4 * u1 + 120) (by omega), er78_50]; omega) (rn_2 (by omega)) rf_2, by
                  refine ezm_SB_i (ezm_ST_7 (x7 := x7_25) (by have h9 := st_45; rw [((ezm_on (u := u31) tbn.1 st_30 (fun z => by have h7 := v_30 z; exact ⟨h7.1, h7.2.1, h7.2.2.1, by omega, h7.2.2.2.2⟩)).1 (by omega) (by omega)).2] at h9; exact h9) rfl (fun _ => by omega)) ?_
                  rw [hlb, ezp_lw_0 rfl]
                  show ezp_twS c t1 (ezp_t s) = _
                  rw [ezp_twS_1 (q1_25 (by omega))]
                  unfold ezp_ta
                  rw [show ezp_se c t1.nT t1.kT (ezp_tk c 4 (ezp_tw7 c t1 (ezp_t s))) = ezp_wr c 2 (ezp_tk c 4 (ezp_tw7 c t1 (ezp_t s))) from ((ezm_on (u := u31) tbn.1 st_30 (fun z => by have h7 := v_30 z; exact ⟨h7.1, h7.2.1, h7.2.2.1, by omega, h7.2.2.2.2⟩)).1 (by omega) (by omega)).1]
                  exact ezp_t_n (ezp_wr_f (by decide) (tk.1 _)), fun z => absurd z (by omega), (fun j j0 j1 => by rw [fr78_52 j (by omega), fr78_50 j (by omega), fr78_24 j (by omega), fr78_23 j (by omega), fr78_15 j (by omega), fr78_10 j (by omega)]), rfl⟩
  · refine ezw_aload_n rfl rfl ?_
    refine ezw_iconst (5) rfl rfl ?_
    refine ezw_call0_1 rfl (by omega) (ezm_at rfl) rfl rfl rfl rfl (ezm_m225p hT (by omega) ⟨by decide, by decide⟩ (by omega) (by omega) (by omega) hs (by omega) tk hM st) ?_
    rintro _ _ ⟨x8_53, rfl, hT, p53_0, p53_1, st_53, rfl⟩
    have k54 := hT.t8
    exact ezw_return rfl rfl ⟨i7, x8_53, i19, r78, r82, r84, rfl, hT, by omega, fun _ _ => rfl, fun z => absurd z (by omega), ezm_SB_i st_53 (by rw [ezp_lb_5 hP (by omega) (Or.inl ⟨kw, by omega⟩)]), fun z => absurd z (by omega), (fun _ _ _ => rfl), rfl⟩
end KM6
