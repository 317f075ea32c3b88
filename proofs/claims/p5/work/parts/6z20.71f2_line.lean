/-! ===== the model: TWIG, THING, OVER ===== -/
section KM6
variable {l : Launch} {ρ : ezq_E} {B : Nat} {xa : Nat → Option Nat} {Hb : Heap} {D : va_G} {cA : Nat → ClassId} {d : Nat} {e : Bool × Bool} {F : Nat → Nat → Int} {A : Nat → Int → Int} {i0 i2 i3 i7 i8 i13 i18 i19 i20 i25 i29 i30 i31 i36 i37 i38 : Int} {r73 r74 r75 r76 r77 r78 r79 r80 r81 r82 r83 r84 r85 r86 r87 r88 r89 r90 r91 r92 r93 r94 r95 : Int → Int}
def ezm_m237pQ (e : Bool × Bool) (F : Nat → Nat → Int) (A : Nat → Int → Int) (i0 i2 i3 i7 i8 i13 i18 i19 i20 i25 i29 i30 i31 i36 i37 i38 : Int) (r73 r74 r75 r76 r77 r78 r79 r80 r81 r82 r83 r84 r85 r86 r87 r88 r89 r90 r91 r92 r93 r94 r95 : Int → Int) (n : Int) (c : Int → Int) (s : Int × Int) (t : ezp_D) : Option ezq_V → (Nat → ezq_C) → Prop := fun v g' => ∃ (x7 x8 x19 : Int) (x78 x82 x84 : Int → Int), ezm_h e F A i0 i2 i3 x7 x8 i13 i18 x19 i20 i25 i29 i30 i31 i36 i37 i38 r73 r74 r75 r76 r77 x78 r79 r80 r81 x82 r83 x84 r85 r86 r87 r88 r89 r90 r91 r92 r93 r94 r95 = g' ∧ ezm_T i0 i2 i3 x7 x8 i13 i18 x19 i20 i25 i29 i30 i31 i36 i37 i38 r73 r74 r75 r76 r77 x78 r79 r80 r81 x82 r83 x84 r85 r86 r87 r88 r89 r90 r91 r92 r93 r94 r95 ∧ (i7 ≤ x7 ∧ x7 ≤ n) ∧ (∀ j, j < 100 → x78 j = r78 j) ∧ (x8 = 0 → ezm_RD i13 x19 x78 r79 r80 x84) ∧ (ezm_SB c (ezp_lne c t s).1 x8 x7) ∧ (x8 = 0 → ezm_TRE ((ezp_lne c t s).2) x19 i20 x78 x82 x84) ∧ (∀ j, 115 ≤ j → j ≤ 116 → x78 j = r78 j) ∧ none = v
set_option maxHeartbeats 8000000 in
theorem ezm_m237p {c : Int → Int} {s : Int × Int} {t : ezp_D} {n : Int} (hT : ezm_T i0 i2 i3 i7 i8 i13 i18 i19 i20 i25 i29 i30 i31 i36 i37 i38 r73 r74 r75 r76 r77 r78 r79 r80 r81 r82 r83 r84 r85 r86 r87 r88 r89 r90 r91 r92 r93 r94 r95) (hd : 4 ≤ d) (gn : i7 < n) (hn : 0 ≤ i7 ∧ i7 ≤ n) (hs : r74 n = 0) (h1 : n ≤ 1000) (h0 : i8 = 0) (hc : 0 ≤ i13 ∧ i13 ≤ i7) (rd : ezm_RD i13 i19 r78 r79 r80 r84) (tk : ezm_TK c n r74 r75 r76) (hM : ∀ w, 0 ≤ w → w < 48 → r77 w = ezl_mw.getD w.toNat 0) (st : ezm_ST s i8 i7) (tr : ezm_TRE t i19 i20 r78 r82 r84) (kw : ezp_K c s.2 = 9) : ezw_C l ρ B xa Hb D cA 237 d [ezw_p 72] (ezm_h e F A i0 i2 i3 i7 i8 i13 i18 i19 i20 i25 i29 i30 i31 i36 i37 i38 r73 r74 r75 r76 r77 r78 r79 r80 r81 r82 r83 r84 r85 r86 r87 r88 r89 r90 r91 r92 r93 r94 r95) (ezm_m237pQ  e F A i0 i2 i3 i7 i8 i13 i18 i19 i20 i25 i29 i30 i31 i36 i37 i38 r73 r74 r75 r76 r77 r78 r79 r80 r81 r82 r83 r84 r85 r86 r87 r88 r89 r90 r91 r92 r93 r94 r95 n c s t) := by
  refine ezw_met (k := 2) rfl rfl ?_
  obtain ⟨t1, ht1⟩ : ∃ t1, t1 = t.once 9 := ⟨_, rfl⟩
  have tr1 : ezm_TRE t1 i19 i20 r78 r82 r84 := by
    rw [ht1]
    exact ezm_TRE_onceX tr (Or.inr (Or.inl rfl))
  have hkT : t1.kT = t.kT := by
    rw [ht1]
    rfl
  have hkH : t1.kH = t.kH := by
    rw [ht1]
    rfl
  have hkE : t1.kE = t.kE := by
    rw [ht1]
    rfl
  obtain ⟨se, sa, -, hP, -, -⟩ := ezm_TKi tk st hn
  replace sa := sa (by omega)
  have tcn := tr1.1
  have tbn := tr1.2.1
  have tnm := tr1.2.2.1
  have hlb : t1.kH < 4 → ezp_lb c t s = ezp_lw c 9 t1 (ezp_t s) := fun hk => by
    rw [ht1]
    exact ezp_lb_w (show s.1 = 0 by omega) (Or.inr (Or.inl ⟨kw, by omega⟩)) kw
  refine ezw_aload_n rfl rfl ?_
  refine ezm_gp (p := 78) rfl (fun _ => rfl) ?_
  refine ezw_bipush (101) rfl rfl ?_
  refine ezm_l78 rfl (by omega) (by omega) (fun u1 eu1 => ?_)
  have ku1 : ezm_k78 (101) u1 := eu1 ▸ hT.t78 (101)
  have zu1 := ezm_za1 ku1 (by omega)
  have b19 := hT.t19
  have bm := rd.1
  have b1 := ezm_za1 (hT.t78 101) (by decide)
  have b0 := ezm_za0 (hT.t78 100) (by decide)
  have b3 := ezm_za3 (hT.t78 103) (by decide)
  refine ezw_istore_n rfl rfl ?_
  have hmu : u1 = t1.kH := by omega
  refine ezw_iload_n rfl rfl ?_
  refine ezw_iconst (4) rfl rfl ?_
  refine ezw_icmp_ne rfl rfl (ezm_in78 ku1) ⟨by decide, by decide⟩ (fun h10_1 => ?_) (fun h10_1 => ?_)
  · replace hlb := hlb (by omega)
    refine ezw_aload_n rfl rfl ?_
    refine ezw_bipush (20) rfl rfl ?_
    refine ezw_iload_n rfl rfl ?_
    refine ezw_iadd (k := u1 + 20) rfl (by omega) ?_
    refine ezw_call0_1 rfl (by omega) (ezm_at rfl) rfl rfl rfl rfl (ezm_m226p hT (by omega) ⟨by omega, by omega⟩ (by omega) (by omega) (by omega) (by omega) hs (by omega) tk hM st tnm) ?_
    rintro _ _ ⟨x7_2, x8_2, x19_2, x82_2, x84_2, rfl, hT, p2_0, p2_1, p2_2, p2_3, rn_2, rf_2, st_2, n82_2, f82_2, nw_2, rfl⟩
    have k3 := hT.t7
    have k4 := hT.t8
    have k5 := hT.t19
    refine ezw_sipush (149) rfl rfl ?_
    refine ezw_iconst (4) rfl rfl ?_
    refine ezw_iload_n rfl rfl ?_
    refine ezw_imul (k := 4 * u1) rfl (by omega) ?_
    refine ezw_iadd (k := 4 * u1 + 149) rfl (by omega) ?_
    refine ezw_istore_n rfl rfl ?_
    refine ezw_aload_n rfl rfl ?_
    refine ezm_gp (p := 78) rfl (fun _ => rfl) ?_
    refine ezw_iload_n rfl rfl ?_
    refine ezw_aload_n rfl rfl ?_
    refine ezw_bipush (7) rfl rfl ?_
    refine ezw_iconst (0) rfl rfl ?_
    refine ezw_sipush (999) rfl rfl ?_
    refine ezw_call0_3 rfl (by omega) (ezm_at rfl) rfl rfl rfl rfl (ezm_m230p hT (by omega) ⟨by decide, by decide⟩ ⟨by decide, by decide⟩ ⟨by decide, by decide⟩ (by omega) hs (by omega) tk hM st_2 (by omega)) ?_
    rintro _ _ ⟨x7_6, x8_6, rfl, hT, u7, hu7, p6_0, p6_1, p6_2, st_6, v_6, rfl⟩
    have k8 := hT.t7
    have k9 := hT.t8
    refine ezm_s78 hT rfl (by omega) (by omega) ⟨hu7, by omega, by omega, by omega, by omega, by omega, by omega, by omega⟩ (fun r78_10 hT er78_10 fr78_10 => ?_)
    refine ezw_aload_n rfl rfl ?_
    refine ezm_gp (p := 78) rfl (fun _ => rfl) ?_
    refine ezw_iload_n rfl rfl ?_
    refine ezw_iconst (1) rfl rfl ?_
    refine ezw_iadd (k := 4 * u1 + 150) rfl (by omega) ?_
    refine ezw_aload_n rfl rfl ?_
    refine ezw_bipush (10) rfl rfl ?_
    refine ezw_iconst (0) rfl rfl ?_
    refine ezw_bipush (10) rfl rfl ?_
    refine ezw_call0_3 rfl (by omega) (ezm_at rfl) rfl rfl rfl rfl (ezm_m230p hT (by omega) ⟨by decide, by decide⟩ ⟨by decide, by decide⟩ ⟨by decide, by decide⟩ (by omega) hs (by omega) tk hM st_6 (by omega)) ?_
    rintro _ _ ⟨x7_11, x8_11, rfl, hT, u12, hu12, p11_0, p11_1, p11_2, st_11, v_11, rfl⟩
    have k13 := hT.t7
    have k14 := hT.t8
    refine ezm_s78 hT rfl (by omega) (by omega) ⟨hu12, by omega, by omega, by omega, by omega, by omega, by omega, by omega⟩ (fun r78_15 hT er78_15 fr78_15 => ?_)
    refine ezw_aload_n rfl rfl ?_
    refine ezm_gp (p := 78) rfl (fun _ => rfl) ?_
    refine ezw_iload_n rfl rfl ?_
    refine ezw_iconst (2) rfl rfl ?_
    refine ezw_iadd (k := 4 * u1 + 151) rfl (by omega) ?_
    refine ezw_aload_n rfl rfl ?_
    refine ezw_bipush (11) rfl rfl ?_
    refine ezw_iconst (0) rfl rfl ?_
    refine ezw_bipush (10) rfl rfl ?_
    refine ezw_aload_n rfl rfl ?_
    refine ezm_gp (p := 78) rfl (fun _ => rfl) ?_
    refine ezw_iload_n rfl rfl ?_
    refine ezw_iconst (1) rfl rfl ?_
    refine ezw_iadd (k := 4 * u1 + 150) rfl (by omega) ?_
    refine ezm_l78 rfl (by omega) (by omega) (fun u16 eu16 => ?_)
    have ku16 : ezm_k78 (4 * u1 + 150) u16 := eu16 ▸ hT.t78 (4 * u1 + 150)
    refine ezw_isub (k := -u16 + 10) rfl (by omega) ?_
    refine ezw_call0_3 rfl (by omega) (ezm_at rfl) rfl rfl rfl rfl (ezm_m230p hT (by omega) ⟨by decide, by decide⟩ ⟨by decide, by decide⟩ ⟨by omega, by omega⟩ (by omega) hs (by omega) tk hM st_11 (by omega)) ?_
    rintro _ _ ⟨x7_17, x8_17, rfl, hT, u18, hu18, p17_0, p17_1, p17_2, st_17, v_17, rfl⟩
    have k19 := hT.t7
    have k20 := hT.t8
    refine ezm_s78 hT rfl (by omega) (by omega) ⟨hu18, by omega, by omega, by omega, by omega, by omega, by omega, by omega⟩ (fun r78_21 hT er78_21 fr78_21 => ?_)
    refine ezw_aload_n rfl rfl ?_
    refine ezm_gp (p := 78) rfl (fun _ => rfl) ?_
    refine ezw_bipush (101) rfl rfl ?_
    refine ezw_dup2 rfl rfl rfl ?_
    refine ezm_l78 rfl (by omega) (by omega) (fun u22 eu22 => ?_)
    have ku22 : ezm_k78 (101) u22 := eu22 ▸ hT.t78 (101)
    have zu22 := ezm_za1 ku22 (by omega)
    have qu22 : u22 = u1 := by rw [eu22, fr78_21 (101) (by omega), fr78_15 (101) (by omega), fr78_10 (101) (by omega), ← eu1]
    refine ezw_iconst (1) rfl rfl ?_
    refine ezw_iadd (k := u22 + 1) rfl (by omega) ?_
    refine ezm_s78 hT rfl (by omega) (by omega) ⟨⟨by omega, by omega⟩, by omega, by omega, by omega, by omega, by omega, by omega, by omega⟩ (fun r78_23 hT er78_23 fr78_23 => ?_)
    exact ezw_return rfl rfl ⟨x7_17, x8_17, x19_2, r78_23, x82_2, x84_2, rfl, hT, by omega, fun j hj => by rw [fr78_23 j (by omega), fr78_21 j (by omega), fr78_15 j (by omega), fr78_10 j (by omega)], fun z => ezm_RD_thing rd b0.2 b3.2 (by omega) (by rw [er78_23]; omega) (fun j h1 h2 => by rw [fr78_23 j (by omega), fr78_21 j (by omega), fr78_15 j (by omega), fr78_10 j (by omega)]) (by rw [rn_2 (by omega)]; omega) rf_2, by
          refine ezm_SB_i st_17 ?_
          rw [hlb, ezp_lw_9 rfl]
          show ezp_thS c t1 (ezp_t s) = _
          exact (show ezp_n c 0 (-u16 + 10) (ezp_th6 c t1 (ezp_t s)) = ezp_thS c t1 (ezp_t s) from ezp_n_c (fun z => by
            have h8 : u16 = ezp_V c (ezp_th4 c t1 (ezp_t s)).2 := by
              rw [eu16, er78_15]
              exact v_11 (st_11.1.trans (ezp_0w z))
            omega)).symm, fun z => by
          have hq := (show ezp_n c 0 (-u16 + 10) (ezp_th6 c t1 (ezp_t s)) = ezp_thS c t1 (ezp_t s) from ezp_n_c (fun z => by
            have h8 : u16 = ezp_V c (ezp_th4 c t1 (ezp_t s)).2 := by
              rw [eu16, er78_15]
              exact v_11 (st_11.1.trans (ezp_0w z))
            omega))
          rw [ezp_lne_2', hlb, ezp_lw_9 rfl]
          show ezm_TRE (ezp_thD c t1 (ezp_t s)) _ _ _ _ _
          rw [ezp_thD_1 (t := t1) (by rw [← hq]; exact st_17.1.symm.trans (by omega))]
          exact ezm_TRE_thing tr1 (show t1.kH < 4 by omega) (show ezm_NM t1.nT t1.kT (ezp_up t1.nH t1.kH (ezp_W c (ezp_t s).2)) (t1.kH + 1) x19_2 x82_2 x84_2 from by
            rw [show x19_2 = i19 + 1 by omega]
            exact ezm_NM_H tnm (by omega) (nw_2 (by omega)).1 (nw_2 (by omega)).2 (n82_2 (by omega)) ((rn_2 (by omega)).trans (by omega)) f82_2 rf_2) (show r78_23 101 = t1.kH + 1 by rw [er78_23]; omega) (show r78_23 (4 * t1.kH + 149) = _ from by
            rw [← hmu, fr78_23 (4 * u1 + 149) (by omega), fr78_21 (4 * u1 + 149) (by omega), fr78_15 (4 * u1 + 149) (by omega), er78_10]
            exact v_6 (by omega)) (show r78_23 (4 * t1.kH + 150) = _ from by
            rw [← hmu, fr78_23 (4 * u1 + 150) (by omega), fr78_21 (4 * u1 + 150) (by omega), er78_15]
            exact v_11 (by omega)) (show r78_23 (4 * t1.kH + 151) = _ from by
            rw [← hmu, fr78_23 (4 * u1 + 151) (by omega), er78_21]
            exact v_17 (by omega)) (fun j j0 j1 j2 j3 => by
            have j3 : j < 4 * t1.kH + 149 ∨ 4 * t1.kH + 151 < j := j3
            rw [fr78_23 j (by omega), fr78_21 j (by omega), fr78_15 j (by omega), fr78_10 j (by omega)]), (fun j j0 j1 => by rw [fr78_23 j (by omega), fr78_21 j (by omega), fr78_15 j (by omega), fr78_10 j (by omega)]), rfl⟩
  · refine ezw_aload_n rfl rfl ?_
    refine ezw_iconst (5) rfl rfl ?_
    refine ezw_call0_1 rfl (by omega) (ezm_at rfl) rfl rfl rfl rfl (ezm_m225p hT (by omega) ⟨by decide, by decide⟩ (by omega) (by omega) (by omega) hs (by omega) tk hM st) ?_
    rintro _ _ ⟨x8_24, rfl, hT, p24_0, p24_1, st_24, rfl⟩
    have k25 := hT.t8
    exact ezw_return rfl rfl ⟨i7, x8_24, i19, r78, r82, r84, rfl, hT, by omega, fun _ _ => rfl, fun z => absurd z (by omega), ezm_SB_i st_24 (by rw [ezp_lb_5 hP (by omega) (Or.inr (Or.inl ⟨kw, by omega⟩))]), fun z => absurd z (by omega), (fun _ _ _ => rfl), rfl⟩
end KM6
