/-! ===== the model: TWIG, THING, OVER ===== -/
section KM6
variable {l : Launch} {ρ : ezq_E} {B : Nat} {xa : Nat → Option Nat} {Hb : Heap} {D : va_G} {cA : Nat → ClassId} {d : Nat} {e : Bool × Bool} {F : Nat → Nat → Int} {A : Nat → Int → Int} {i0 i2 i3 i7 i8 i13 i18 i19 i20 i25 i29 i30 i31 i36 i37 i38 : Int} {r73 r74 r75 r76 r77 r78 r79 r80 r81 r82 r83 r84 r85 r86 r87 r88 r89 r90 r91 r92 r93 r94 r95 : Int → Int}
def ezm_m238pQ (e : Bool × Bool) (F : Nat → Nat → Int) (A : Nat → Int → Int) (i0 i2 i3 i7 i8 i13 i18 i19 i20 i25 i29 i30 i31 i36 i37 i38 : Int) (r73 r74 r75 r76 r77 r78 r79 r80 r81 r82 r83 r84 r85 r86 r87 r88 r89 r90 r91 r92 r93 r94 r95 : Int → Int) (n : Int) (c : Int → Int) (s : Int × Int) (t : ezp_D) : Option ezq_V → (Nat → ezq_C) → Prop := fun v g' => ∃ (x7 x8 : Int) (x78 : Int → Int), ezm_h e F A i0 i2 i3 x7 x8 i13 i18 i19 i20 i25 i29 i30 i31 i36 i37 i38 r73 r74 r75 r76 r77 x78 r79 r80 r81 r82 r83 r84 r85 r86 r87 r88 r89 r90 r91 r92 r93 r94 r95 = g' ∧ ezm_T i0 i2 i3 x7 x8 i13 i18 i19 i20 i25 i29 i30 i31 i36 i37 i38 r73 r74 r75 r76 r77 x78 r79 r80 r81 r82 r83 r84 r85 r86 r87 r88 r89 r90 r91 r92 r93 r94 r95 ∧ (i7 ≤ x7 ∧ x7 ≤ n) ∧ (∀ j, j < 100 → x78 j = r78 j) ∧ (x8 = 0 → ezm_RD i13 i19 x78 r79 r80 r84) ∧ (ezm_SB c (ezp_lne c t s).1 x8 x7) ∧ (x8 = 0 → ezm_TRE ((ezp_lne c t s).2) i19 i20 x78 r82 r84) ∧ (∀ j, 115 ≤ j → j ≤ 116 → x78 j = r78 j) ∧ none = v
set_option maxHeartbeats 8000000 in
theorem ezm_m238p {c : Int → Int} {s : Int × Int} {t : ezp_D} {n : Int} (hT : ezm_T i0 i2 i3 i7 i8 i13 i18 i19 i20 i25 i29 i30 i31 i36 i37 i38 r73 r74 r75 r76 r77 r78 r79 r80 r81 r82 r83 r84 r85 r86 r87 r88 r89 r90 r91 r92 r93 r94 r95) (hd : 5 ≤ d) (gn : i7 < n) (hn : 0 ≤ i7 ∧ i7 ≤ n) (hs : r74 n = 0) (h1 : n ≤ 1000) (h0 : i8 = 0) (hc : 0 ≤ i13 ∧ i13 ≤ i7) (rd : ezm_RD i13 i19 r78 r79 r80 r84) (tk : ezm_TK c n r74 r75 r76) (hM : ∀ w, 0 ≤ w → w < 48 → r77 w = ezl_mw.getD w.toNat 0) (st : ezm_ST s i8 i7) (tr : ezm_TRE t i19 i20 r78 r82 r84) (kw : ezp_K c s.2 = 12) : ezw_C l ρ B xa Hb D cA 238 d [ezw_p 72] (ezm_h e F A i0 i2 i3 i7 i8 i13 i18 i19 i20 i25 i29 i30 i31 i36 i37 i38 r73 r74 r75 r76 r77 r78 r79 r80 r81 r82 r83 r84 r85 r86 r87 r88 r89 r90 r91 r92 r93 r94 r95) (ezm_m238pQ  e F A i0 i2 i3 i7 i8 i13 i18 i19 i20 i25 i29 i30 i31 i36 i37 i38 r73 r74 r75 r76 r77 r78 r79 r80 r81 r82 r83 r84 r85 r86 r87 r88 r89 r90 r91 r92 r93 r94 r95 n c s t) := by
  refine ezw_met (k := 2) rfl rfl ?_
  have b19 := hT.t19
  have bm := rd.1
  have b1 := ezm_za1 (hT.t78 101) (by decide)
  have b0 := ezm_za0 (hT.t78 100) (by decide)
  have b3 := ezm_za3 (hT.t78 103) (by decide)
  obtain ⟨t1, ht1⟩ : ∃ t1, t1 = t.once 12 := ⟨_, rfl⟩
  have tr1 : ezm_TRE t1 i19 i20 r78 r82 r84 := by
    rw [ht1]
    exact ezm_TRE_onceX tr (Or.inr (Or.inr (Or.inl rfl)))
  have hkT : t1.kT = t.kT := by
    rw [ht1]
    rfl
  have hkH : t1.kH = t.kH := by
    rw [ht1]
    rfl
  have hkE : t1.kE = t.kE := by
    rw [ht1]
    rfl
  obtain ⟨se, sa, -, hP, -, -⟩ := ezm_TKi tk st hn
  replace sa := sa (by omega)
  have tcn := tr1.1
  have tbn := tr1.2.1
  have tnm := tr1.2.2.1
  have hlb : ezp_lb c t s = ezp_lw c 12 t1 (ezp_t s) := by
    rw [ht1]
    exact ezp_lb_w (show s.1 = 0 by omega) (Or.inr (Or.inr (Or.inr (Or.inl kw)))) kw
  have tov := tr1.2.2.2.2.2.1
  refine ezw_aload_n rfl rfl ?_
  refine ezw_dup rfl rfl ?_
  refine ezm_g7 rfl ?_
  have k1 := hT.t7
  refine ezw_iconst (1) rfl rfl ?_
  refine ezw_iadd (k := i7 + 1) rfl (by omega) ?_
  refine ezm_p7 hT rfl ⟨by omega, by omega⟩ (fun hT => ?_)
  have stA : ezm_ST (ezp_t s) i8 (i7 + 1) := ezm_ST_t st rfl (fun _ => rfl)
  refine ezw_aload_n rfl rfl ?_
  refine ezw_iconst (1) rfl rfl ?_
  refine ezw_bipush (20) rfl rfl ?_
  refine ezw_iconst (4) rfl rfl ?_
  refine ezw_call0_3 rfl (by omega) (ezm_at rfl) rfl rfl rfl rfl (ezm_m239_v1_v20p hT (by omega) ⟨by decide, by decide⟩ (by omega) hs (by omega) tk hM stA (by omega) tnm) ?_
  rintro _ _ ⟨x7_2, x8_2, rfl, hT, u3, hu3, p2_0, p2_1, p2_2, st_2, v_2, rfl⟩
  have k4 := hT.t7
  have k5 := hT.t8
  refine ezw_istore_n rfl rfl ?_
  refine ezw_aload_n rfl rfl ?_
  refine ezw_iconst (1) rfl rfl ?_
  refine ezw_bipush (20) rfl rfl ?_
  refine ezw_iconst (4) rfl rfl ?_
  refine ezw_call0_3 rfl (by omega) (ezm_at rfl) rfl rfl rfl rfl (ezm_m235_v1_v20p hT (by omega) ⟨by decide, by decide⟩ (by omega) hs (by omega) tk hM st_2 (by omega) tnm) ?_
  rintro _ _ ⟨x8_6, rfl, hT, u7, hu7, p6_0, p6_1, p6_2, f_6, st_6, v_6, rfl⟩
  have k8 := hT.t8
  refine ezw_istore_n rfl rfl ?_
  have hva : ezm_I (x8_6 = 0) (u3 = ezp_ova c t1 (ezp_t s) ∧ 0 ≤ u3 ∧ u3 < t1.kH ∧ u7 = ezp_ovb c t1 (ezp_t s) ∧ 0 ≤ u7 ∧ u7 < t1.kH) := fun z => by
    have h1 := v_2 (by omega)
    have h2 := v_6 (by omega)
    exact ⟨h1.1, h1.2.2.1, h1.2.2.2.1, h2.1, h2.2.2.1, h2.2.2.2.1⟩
  have hz2 : ezm_I (x8_6 = 0) ((ezp_ov2 c t1 (ezp_t s)).1 = 0) := fun z => st_6.1.symm.trans z
  refine ezw_aload_n rfl rfl ?_
  refine ezm_g8 rfl ?_
  refine ezw_if_ne rfl rfl ⟨by omega, by omega⟩ (fun h32_8 => ?_) (fun h32_8 => ?_)
  · refine ezw_aload_n rfl rfl ?_
    refine ezm_g8 rfl ?_
    refine ezw_if_ne rfl rfl ⟨by omega, by omega⟩ (fun h71_8 => ?_) (fun h71_8 => ?_)
    · exact ezw_return rfl rfl ⟨x7_2, x8_6, r78, rfl, hT, by omega, fun _ _ => rfl, fun z => rd, by
            refine ezm_SB_i st_6 ?_
            rw [hlb, ezp_lw_12 rfl]
            show ezp_ovS c t1 (ezp_t s) = _
            rw [(ezp_ov_n2 (fun z => by have h8 := st_6.1.trans z; omega)).1]
            try rfl, fun z => absurd z (by omega), (fun _ _ _ => rfl), rfl⟩
    · refine ezw_aload_n rfl rfl ?_
      refine ezw_dup rfl rfl ?_
      refine ezm_g7 rfl ?_
      refine ezw_iconst (1) rfl rfl ?_
      refine ezw_iadd (k := x7_2 + 1) rfl (by omega) ?_
      refine ezm_p7 hT rfl ⟨by omega, by omega⟩ (fun hT => ?_)
      refine ezw_aload_n rfl rfl ?_
      refine ezm_gp (p := 78) rfl (fun _ => rfl) ?_
      refine ezw_sipush (149) rfl rfl ?_
      refine ezw_iconst (4) rfl rfl ?_
      refine ezw_iload_n rfl rfl ?_
      refine ezw_imul (k := 4 * u3) rfl (by omega) ?_
      refine ezw_iadd (k := 4 * u3 + 149) rfl (by omega) ?_
      refine ezw_iconst (3) rfl rfl ?_
      refine ezw_iadd (k := 4 * u3 + 152) rfl (by omega) ?_
      refine ezw_dup2 rfl rfl rfl ?_
      refine ezm_l78 rfl (by omega) (by omega) (fun u9 eu9 => ?_)
      have ku9 : ezm_k78 (4 * u3 + 152) u9 := eu9 ▸ hT.t78 (4 * u3 + 152)
      have hva2b := hva (by omega)
      have hovb := tov u3 (by omega) (by omega)
      rw [← eu9] at hovb
      have hor := ezt_or1 (v := u9) (j := u7) 4 (by decide) hovb.1.1 hovb.1.2 (by omega) (by omega)
      refine ezw_iconst (1) rfl rfl ?_
      refine ezw_iload_n rfl rfl ?_
      refine ezw_ishl rfl (by omega) (by omega) (k := (1 * 2 ^ (u7).toNat)) (rfl) ?_
      refine ezw_ior rfl (k := ezw_or u9 ((1 * 2 ^ (u7).toNat))) rfl ?_
      refine ezm_s78 hT rfl (by omega) (by omega) ⟨⟨by omega, by omega⟩, by omega, by omega, by omega, by omega, by omega, by omega, by omega⟩ (fun r78_10 hT er78_10 fr78_10 => ?_)
      exact ezw_return rfl rfl ⟨(x7_2 + 1), x8_6, r78_10, rfl, hT, by omega, fun j hj => by rw [fr78_10 j (by omega)], fun z => ezm_RD_fr rd b0.2 b3.2 (fun j hj => by rw [fr78_10 j (by omega)]), by
            have hva3 := hva (by omega)
            refine ezm_SB_i (ezm_ST_t (x8 := x8_6) (x7 := x7_2 + 1) st_6 (by omega) (fun _ => by omega)) ?_
            rw [hlb, ezp_lw_12 rfl]
            show ezp_ovS c t1 (ezp_t s) = _
            rw [(ezp_ov_0 (hz2 (by omega)) (by rw [← hva3.1, ← hva3.2.2.2.1]; exact ⟨by omega, by omega⟩)).1]
            try rfl, fun z => by
            have hva3 := hva (by omega)
            rw [ezp_lne_2', hlb, ezp_lw_12 rfl]
            show ezm_TRE (ezp_ovD c t1 (ezp_t s)) _ _ _ _ _
            rw [(ezp_ov_0 (t := t1) (hz2 (by omega)) (show ezp_ova c t1 (ezp_t s) ≠ ezp_ovb c t1 (ezp_t s) ∧ t1.ah (ezp_ovb c t1 (ezp_t s)) (ezp_ova c t1 (ezp_t s)) ≠ 1 from (by rw [← hva3.1, ← hva3.2.2.2.1]; exact ⟨by omega, by omega⟩))).2]
            show ezm_TRE (t1.over (ezp_ova c t1 (ezp_t s)) (ezp_ovb c t1 (ezp_t s))) _ _ _ _ _
            rw [← hva3.1, ← hva3.2.2.2.1]
            exact ezm_TRE_over tr1 (by omega) (by omega) (by omega) (show u7 < t1.kH by omega) (by rw [er78_10, eu9]) (fun j j0 j1 j2 => by rw [fr78_10 j (by omega)]), (fun j j0 j1 => by rw [fr78_10 j (by omega)]), rfl⟩
  · refine ezw_iload_n rfl rfl ?_
    refine ezw_iload_n rfl rfl ?_
    refine ezw_icmp_eq rfl rfl hu3 hu7 (fun h37_10 => ?_) (fun h37_10 => ?_)
    · refine ezw_aload_n rfl rfl ?_
      refine ezw_iconst (3) rfl rfl ?_
      refine ezw_call0_1 rfl (by omega) (ezm_at rfl) rfl rfl rfl rfl (ezm_m225p hT (by omega) ⟨by decide, by decide⟩ (by omega) (by omega) (by omega) hs (by omega) tk hM st_6) ?_
      rintro _ _ ⟨x8_11, rfl, hT, p11_0, p11_1, st_11, rfl⟩
      have k12 := hT.t8
      refine ezw_aload_n rfl rfl ?_
      refine ezm_g8 rfl ?_
      refine ezw_if_ne rfl rfl ⟨by omega, by omega⟩ (fun h71_12 => ?_) (fun h71_12 => ?_)
      · exact ezw_return rfl rfl ⟨x7_2, x8_11, r78, rfl, hT, by omega, fun _ _ => rfl, fun z => rd, by
              have hva3 := hva (by omega)
              refine ezm_SB_i st_11 ?_
              rw [hlb, ezp_lw_12 rfl]
              show ezp_ovS c t1 (ezp_t s) = _
              rw [(ezp_ov_1 (hz2 (by omega)) (by rw [← hva3.1, ← hva3.2.2.2.1]; first | exact Or.inl (by omega) | exact Or.inr (by omega))).1]
              try rfl, fun z => absurd z (by omega), (fun _ _ _ => rfl), rfl⟩
      · refine ezw_aload_n rfl rfl ?_
        refine ezw_dup rfl rfl ?_
        refine ezm_g7 rfl ?_
        refine ezw_iconst (1) rfl rfl ?_
        refine ezw_iadd (k := x7_2 + 1) rfl (by omega) ?_
        refine ezm_p7 hT rfl ⟨by omega, by omega⟩ (fun hT => ?_)
        refine ezw_aload_n rfl rfl ?_
        refine ezm_gp (p := 78) rfl (fun _ => rfl) ?_
        refine ezw_sipush (149) rfl rfl ?_
        refine ezw_iconst (4) rfl rfl ?_
        refine ezw_iload_n rfl rfl ?_
        refine ezw_imul (k := 4 * u3) rfl (by omega) ?_
        refine ezw_iadd (k := 4 * u3 + 149) rfl (by omega) ?_
        refine ezw_iconst (3) rfl rfl ?_
        refine ezw_iadd (k := 4 * u3 + 152) rfl (by omega) ?_
        refine ezw_dup2 rfl rfl rfl ?_
        refine ezm_l78 rfl (by omega) (by omega) (fun u13 eu13 => ?_)
        have ku13 : ezm_k78 (4 * u3 + 152) u13 := eu13 ▸ hT.t78 (4 * u3 + 152)
        have hva2b := hva (by omega)
        have hovb := tov u3 (by omega) (by omega)
        rw [← eu13] at hovb
        have hor := ezt_or1 (v := u13) (j := u7) 4 (by decide) hovb.1.1 hovb.1.2 (by omega) (by omega)
        refine ezw_iconst (1) rfl rfl ?_
        refine ezw_iload_n rfl rfl ?_
        refine ezw_ishl rfl (by omega) (by omega) (k := (1 * 2 ^ (u7).toNat)) (rfl) ?_
        refine ezw_ior rfl (k := ezw_or u13 ((1 * 2 ^ (u7).toNat))) rfl ?_
        refine ezm_s78 hT rfl (by omega) (by omega) ⟨⟨by omega, by omega⟩, by omega, by omega, by omega, by omega, by omega, by omega, by omega⟩ (fun r78_14 hT er78_14 fr78_14 => ?_)
        exact ezw_return rfl rfl ⟨(x7_2 + 1), x8_11, r78_14, rfl, hT, by omega, fun j hj => by rw [fr78_14 j (by omega)], fun z => ezm_RD_fr rd b0.2 b3.2 (fun j hj => by rw [fr78_14 j (by omega)]), (by exfalso; omega), fun z => absurd z (by omega), (fun j j0 j1 => by rw [fr78_14 j (by omega)]), rfl⟩
    · refine ezw_aload_n rfl rfl ?_
      refine ezm_gp (p := 78) rfl (fun _ => rfl) ?_
      refine ezw_sipush (149) rfl rfl ?_
      refine ezw_iconst (4) rfl rfl ?_
      refine ezw_iload_n rfl rfl ?_
      refine ezw_imul (k := 4 * u3) rfl (by omega) ?_
      refine ezw_iadd (k := 4 * u3 + 149) rfl (by omega) ?_
      refine ezw_iconst (3) rfl rfl ?_
      refine ezw_iadd (k := 4 * u3 + 152) rfl (by omega) ?_
      refine ezm_l78 rfl (by omega) (by omega) (fun u15 eu15 => ?_)
      have ku15 : ezm_k78 (4 * u3 + 152) u15 := eu15 ▸ hT.t78 (4 * u3 + 152)
      have hva2 := hva (by omega)
      have hov := tov u3 (by omega) (by omega)
      have hov2 := hov.2 u7 (by omega) (by omega)
      rw [← eu15] at hov hov2
      have hbt : ezw_and (u15 / 2 ^ (u7).toNat) 1 = ezt_b u15 u7 := ezt_and1 _
      refine ezw_iload_n rfl rfl ?_
      refine ezw_ishr rfl (ezm_in78 ku15) (by omega) (by omega) (k := (u15 / 2 ^ (u7).toNat)) (rfl) ?_
      refine ezw_iconst (1) rfl rfl ?_
      refine ezw_iand rfl (k := ezw_and ((u15 / 2 ^ (u7).toNat)) 1) rfl ?_
      refine ezw_iconst (1) rfl rfl ?_
      refine ezw_icmp_ne rfl rfl (by rw [ezt_and1]; exact ⟨by omega, by omega⟩) ⟨by decide, by decide⟩ (fun h59_15 => ?_) (fun h59_15 => ?_)
      · refine ezw_aload_n rfl rfl ?_
        refine ezm_g8 rfl ?_
        refine ezw_if_ne rfl rfl ⟨by omega, by omega⟩ (fun h71_15 => ?_) (fun h71_15 => ?_)
        · exact ezw_return rfl rfl ⟨x7_2, x8_6, r78, rfl, hT, by omega, fun _ _ => rfl, fun z => rd, by
                refine ezm_SB_i st_6 ?_
                rw [hlb, ezp_lw_12 rfl]
                show ezp_ovS c t1 (ezp_t s) = _
                rw [(ezp_ov_n2 (fun z => by have h8 := st_6.1.trans z; omega)).1]
                try rfl, fun z => absurd z (by omega), (fun _ _ _ => rfl), rfl⟩
        · refine ezw_aload_n rfl rfl ?_
          refine ezw_dup rfl rfl ?_
          refine ezm_g7 rfl ?_
          refine ezw_iconst (1) rfl rfl ?_
          refine ezw_iadd (k := x7_2 + 1) rfl (by omega) ?_
          refine ezm_p7 hT rfl ⟨by omega, by omega⟩ (fun hT => ?_)
          refine ezw_aload_n rfl rfl ?_
          refine ezm_gp (p := 78) rfl (fun _ => rfl) ?_
          refine ezw_sipush (149) rfl rfl ?_
          refine ezw_iconst (4) rfl rfl ?_
          refine ezw_iload_n rfl rfl ?_
          refine ezw_imul (k := 4 * u3) rfl (by omega) ?_
          refine ezw_iadd (k := 4 * u3 + 149) rfl (by omega) ?_
          refine ezw_iconst (3) rfl rfl ?_
          refine ezw_iadd (k := 4 * u3 + 152) rfl (by omega) ?_
          refine ezw_dup2 rfl rfl rfl ?_
          refine ezm_l78 rfl (by omega) (by omega) (fun u16 eu16 => ?_)
          have fu16 : u15 = u16 := eu15.trans eu16.symm
          subst fu16
          have hva2b := hva (by omega)
          have hovb := tov u3 (by omega) (by omega)
          rw [← eu15] at hovb
          have hor := ezt_or1 (v := u15) (j := u7) 4 (by decide) hovb.1.1 hovb.1.2 (by omega) (by omega)
          refine ezw_iconst (1) rfl rfl ?_
          refine ezw_iload_n rfl rfl ?_
          refine ezw_ishl rfl (by omega) (by omega) (k := (1 * 2 ^ (u7).toNat)) (rfl) ?_
          refine ezw_ior rfl (k := ezw_or u15 ((1 * 2 ^ (u7).toNat))) rfl ?_
          refine ezm_s78 hT rfl (by omega) (by omega) ⟨⟨by omega, by omega⟩, by omega, by omega, by omega, by omega, by omega, by omega, by omega⟩ (fun r78_17 hT er78_17 fr78_17 => ?_)
          exact ezw_return rfl rfl ⟨(x7_2 + 1), x8_6, r78_17, rfl, hT, by omega, fun j hj => by rw [fr78_17 j (by omega)], fun z => ezm_RD_fr rd b0.2 b3.2 (fun j hj => by rw [fr78_17 j (by omega)]), by
                have hva3 := hva (by omega)
                refine ezm_SB_i (ezm_ST_t (x8 := x8_6) (x7 := x7_2 + 1) st_6 (by omega) (fun _ => by omega)) ?_
                rw [hlb, ezp_lw_12 rfl]
                show ezp_ovS c t1 (ezp_t s) = _
                rw [(ezp_ov_0 (hz2 (by omega)) (by rw [← hva3.1, ← hva3.2.2.2.1]; exact ⟨by omega, by omega⟩)).1]
                try rfl, fun z => by
                have hva3 := hva (by omega)
                rw [ezp_lne_2', hlb, ezp_lw_12 rfl]
                show ezm_TRE (ezp_ovD c t1 (ezp_t s)) _ _ _ _ _
                rw [(ezp_ov_0 (t := t1) (hz2 (by omega)) (show ezp_ova c t1 (ezp_t s) ≠ ezp_ovb c t1 (ezp_t s) ∧ t1.ah (ezp_ovb c t1 (ezp_t s)) (ezp_ova c t1 (ezp_t s)) ≠ 1 from (by rw [← hva3.1, ← hva3.2.2.2.1]; exact ⟨by omega, by omega⟩))).2]
                show ezm_TRE (t1.over (ezp_ova c t1 (ezp_t s)) (ezp_ovb c t1 (ezp_t s))) _ _ _ _ _
                rw [← hva3.1, ← hva3.2.2.2.1]
                exact ezm_TRE_over tr1 (by omega) (by omega) (by omega) (show u7 < t1.kH by omega) (by rw [er78_17, eu15]) (fun j j0 j1 j2 => by rw [fr78_17 j (by omega)]), (fun j j0 j1 => by rw [fr78_17 j (by omega)]), rfl⟩
      · refine ezw_aload_n rfl rfl ?_
        refine ezw_iconst (3) rfl rfl ?_
        refine ezw_call0_1 rfl (by omega) (ezm_at rfl) rfl rfl rfl rfl (ezm_m225p hT (by omega) ⟨by decide, by decide⟩ (by omega) (by omega) (by omega) hs (by omega) tk hM st_6) ?_
        rintro _ _ ⟨x8_18, rfl, hT, p18_0, p18_1, st_18, rfl⟩
        have k19 := hT.t8
        refine ezw_aload_n rfl rfl ?_
        refine ezm_g8 rfl ?_
        refine ezw_if_ne rfl rfl ⟨by omega, by omega⟩ (fun h71_19 => ?_) (fun h71_19 => ?_)
        · exact ezw_return rfl rfl ⟨x7_2, x8_18, r78, rfl, hT, by omega, fun _ _ => rfl, fun z => rd, by
                have hva3 := hva (by omega)
                refine ezm_SB_i st_18 ?_
                rw [hlb, ezp_lw_12 rfl]
                show ezp_ovS c t1 (ezp_t s) = _
                rw [(ezp_ov_1 (hz2 (by omega)) (by rw [← hva3.1, ← hva3.2.2.2.1]; first | exact Or.inl (by omega) | exact Or.inr (by omega))).1]
                try rfl, fun z => absurd z (by omega), (fun _ _ _ => rfl), rfl⟩
        · refine ezw_aload_n rfl rfl ?_
          refine ezw_dup rfl rfl ?_
          refine ezm_g7 rfl ?_
          refine ezw_iconst (1) rfl rfl ?_
          refine ezw_iadd (k := x7_2 + 1) rfl (by omega) ?_
          refine ezm_p7 hT rfl ⟨by omega, by omega⟩ (fun hT => ?_)
          refine ezw_aload_n rfl rfl ?_
          refine ezm_gp (p := 78) rfl (fun _ => rfl) ?_
          refine ezw_sipush (149) rfl rfl ?_
          refine ezw_iconst (4) rfl rfl ?_
          refine ezw_iload_n rfl rfl ?_
          refine ezw_imul (k := 4 * u3) rfl (by omega) ?_
          refine ezw_iadd (k := 4 * u3 + 149) rfl (by omega) ?_
          refine ezw_iconst (3) rfl rfl ?_
          refine ezw_iadd (k := 4 * u3 + 152) rfl (by omega) ?_
          refine ezw_dup2 rfl rfl rfl ?_
          refine ezm_l78 rfl (by omega) (by omega) (fun u20 eu20 => ?_)
          have fu20 : u15 = u20 := eu15.trans eu20.symm
          subst fu20
          have hva2b := hva (by omega)
          have hovb := tov u3 (by omega) (by omega)
          rw [← eu15] at hovb
          have hor := ezt_or1 (v := u15) (j := u7) 4 (by decide) hovb.1.1 hovb.1.2 (by omega) (by omega)
          refine ezw_iconst (1) rfl rfl ?_
          refine ezw_iload_n rfl rfl ?_
          refine ezw_ishl rfl (by omega) (by omega) (k := (1 * 2 ^ (u7).toNat)) (rfl) ?_
          refine ezw_ior rfl (k := ezw_or u15 ((1 * 2 ^ (u7).toNat))) rfl ?_
          refine ezm_s78 hT rfl (by omega) (by omega) ⟨⟨by omega, by omega⟩, by omega, by omega, by omega, by omega, by omega, by omega, by omega⟩ (fun r78_21 hT er78_21 fr78_21 => ?_)
          exact ezw_return rfl rfl ⟨(x7_2 + 1), x8_18, r78_21, rfl, hT, by omega, fun j hj => by rw [fr78_21 j (by omega)], fun z => ezm_RD_fr rd b0.2 b3.2 (fun j hj => by rw [fr78_21 j (by omega)]), (by exfalso; omega), fun z => absurd z (by omega), (fun j j0 j1 => by rw [fr78_21 j (by omega)]), rfl⟩
end KM6
