/-! ===== the model: ELM, numbers, STRING ===== -/
theorem ezp_el2_n {c : Int → Int} {s : Int × Int} : ezp_n c 0 15 (ezp_n c 0 15 s) = ezp_t (ezp_el2 c s) := by
  unfold ezp_el2
  rw [show ezp_n c 0 15 (ezp_n c 0 15 s) = ezp_t (ezp_sn c 0 15 (ezp_n c 0 15 s)) by unfold ezp_n; rfl]
theorem ezm_el2 {c : Int → Int} {s : Int × Int} {i8 i7 : Int} (h : ezm_ST (ezp_n c 0 15 (ezp_n c 0 15 s)) i8 i7) : ezm_ST (ezp_t (ezp_el2 c s)) i8 i7 := by
  rw [← ezp_el2_n]
  exact h
section KM6
variable {l : Launch} {ρ : ezq_E} {B : Nat} {xa : Nat → Option Nat} {Hb : Heap} {D : va_G} {cA : Nat → ClassId} {d : Nat} {e : Bool × Bool} {F : Nat → Nat → Int} {A : Nat → Int → Int} {i0 i2 i3 i7 i8 i13 i18 i19 i20 i25 i29 i30 i31 i36 i37 i38 : Int} {r73 r74 r75 r76 r77 r78 r79 r80 r81 r82 r83 r84 r85 r86 r87 r88 r89 r90 r91 r92 r93 r94 r95 : Int → Int}
def ezm_m240pQ (e : Bool × Bool) (F : Nat → Nat → Int) (A : Nat → Int → Int) (i0 i2 i3 i7 i8 i13 i18 i19 i20 i25 i29 i30 i31 i36 i37 i38 : Int) (r73 r74 r75 r76 r77 r78 r79 r80 r81 r82 r83 r84 r85 r86 r87 r88 r89 r90 r91 r92 r93 r94 r95 : Int → Int) (n : Int) (c : Int → Int) (s : Int × Int) (t : ezp_D) : Option ezq_V → (Nat → ezq_C) → Prop := fun v g' => ∃ (x7 x8 : Int) (x78 : Int → Int), ezm_h e F A i0 i2 i3 x7 x8 i13 i18 i19 i20 i25 i29 i30 i31 i36 i37 i38 r73 r74 r75 r76 r77 x78 r79 r80 r81 r82 r83 r84 r85 r86 r87 r88 r89 r90 r91 r92 r93 r94 r95 = g' ∧ ezm_T i0 i2 i3 x7 x8 i13 i18 i19 i20 i25 i29 i30 i31 i36 i37 i38 r73 r74 r75 r76 r77 x78 r79 r80 r81 r82 r83 r84 r85 r86 r87 r88 r89 r90 r91 r92 r93 r94 r95 ∧ (i7 ≤ x7 ∧ x7 ≤ n) ∧ (∀ j, j < 100 → x78 j = r78 j) ∧ (x8 = 0 → ezm_RD i13 i19 x78 r79 r80 r84) ∧ (ezm_SB c (ezp_lne c t s).1 x8 x7) ∧ (x8 = 0 → ezm_TRE ((ezp_lne c t s).2) i19 i20 x78 r82 r84) ∧ (∀ j, 115 ≤ j → j ≤ 116 → x78 j = r78 j) ∧ none = v
set_option maxHeartbeats 8000000 in
theorem ezm_m240p {c : Int → Int} {s : Int × Int} {t : ezp_D} {n : Int} (hT : ezm_T i0 i2 i3 i7 i8 i13 i18 i19 i20 i25 i29 i30 i31 i36 i37 i38 r73 r74 r75 r76 r77 r78 r79 r80 r81 r82 r83 r84 r85 r86 r87 r88 r89 r90 r91 r92 r93 r94 r95) (hd : 2 ≤ d) (gn : i7 < n) (hn : 0 ≤ i7 ∧ i7 ≤ n) (hs : r74 n = 0) (h1 : n ≤ 1000) (h0 : i8 = 0) (hc : 0 ≤ i13 ∧ i13 ≤ i7) (rd : ezm_RD i13 i19 r78 r79 r80 r84) (tk : ezm_TK c n r74 r75 r76) (hM : ∀ w, 0 ≤ w → w < 48 → r77 w = ezl_mw.getD w.toNat 0) (st : ezm_ST s i8 i7) (tr : ezm_TRE t i19 i20 r78 r82 r84) (kw : ezp_K c s.2 = 20) : ezw_C l ρ B xa Hb D cA 240 d [ezw_p 72] (ezm_h e F A i0 i2 i3 i7 i8 i13 i18 i19 i20 i25 i29 i30 i31 i36 i37 i38 r73 r74 r75 r76 r77 r78 r79 r80 r81 r82 r83 r84 r85 r86 r87 r88 r89 r90 r91 r92 r93 r94 r95) (ezm_m240pQ  e F A i0 i2 i3 i7 i8 i13 i18 i19 i20 i25 i29 i30 i31 i36 i37 i38 r73 r74 r75 r76 r77 r78 r79 r80 r81 r82 r83 r84 r85 r86 r87 r88 r89 r90 r91 r92 r93 r94 r95 n c s t) := by
  refine ezw_met (k := 4) rfl rfl ?_
  have b19 := hT.t19
  have bm := rd.1
  have b1 := ezm_za1 (hT.t78 101) (by decide)
  have b0 := ezm_za0 (hT.t78 100) (by decide)
  have b3 := ezm_za3 (hT.t78 103) (by decide)
  obtain ⟨t1, ht1⟩ : ∃ t1, t1 = t.once 20 := ⟨_, rfl⟩
  have tr1 : ezm_TRE t1 i19 i20 r78 r82 r84 := by
    rw [ht1]
    exact ezm_TRE_onceX tr (Or.inr (Or.inr (Or.inr rfl)))
  have hkT : t1.kT = t.kT := by
    rw [ht1]
    rfl
  have hkH : t1.kH = t.kH := by
    rw [ht1]
    rfl
  have hkE : t1.kE = t.kE := by
    rw [ht1]
    rfl
  obtain ⟨se, sa, -, hP, -, -⟩ := ezm_TKi tk st hn
  replace sa := sa (by omega)
  have tcn := tr1.1
  have tbn := tr1.2.1
  have tnm := tr1.2.2.1
  have hlb : t1.kE < 8 → ezp_lb c t s = ezp_lw c 20 t1 (ezp_t s) := fun hk => by
    rw [ht1]
    exact ezp_lb_w (show s.1 = 0 by omega) (Or.inr (Or.inr (Or.inl ⟨kw, by omega⟩))) kw
  have tel := tr1.2.2.2.2.2.2.2.2.1
  refine ezw_aload_n rfl rfl ?_
  refine ezm_gp (p := 78) rfl (fun _ => rfl) ?_
  refine ezw_bipush (102) rfl rfl ?_
  refine ezm_l78 rfl (by omega) (by omega) (fun u1 eu1 => ?_)
  have ku1 : ezm_k78 (102) u1 := eu1 ▸ hT.t78 (102)
  have zu1 := ezm_za2 ku1 (by omega)
  refine ezw_istore_n rfl rfl ?_
  have hmu : u1 = t1.kE := by omega
  refine ezw_iload_n rfl rfl ?_
  refine ezw_bipush (8) rfl rfl ?_
  refine ezw_icmp_ne rfl rfl (ezm_in78 ku1) ⟨by decide, by decide⟩ (fun h11_1 => ?_) (fun h11_1 => ?_)
  · replace hlb := hlb (by omega)
    refine ezw_aload_n rfl rfl ?_
    refine ezw_dup rfl rfl ?_
    refine ezm_g7 rfl ?_
    have k2 := hT.t7
    refine ezw_iconst (1) rfl rfl ?_
    refine ezw_iadd (k := i7 + 1) rfl (by omega) ?_
    refine ezm_p7 hT rfl ⟨by omega, by omega⟩ (fun hT => ?_)
    have stA : ezm_ST (ezp_t s) i8 (i7 + 1) := ezm_ST_t st rfl (fun _ => rfl)
    refine ezw_aload_n rfl rfl ?_
    refine ezw_iconst (0) rfl rfl ?_
    refine ezw_bipush (15) rfl rfl ?_
    refine ezw_call0_2 rfl (by omega) (ezm_at rfl) rfl rfl rfl rfl (ezm_m233p hT (by omega) ⟨by decide, by decide⟩ ⟨by decide, by decide⟩ (by omega) hs (by omega) tk hM stA) ?_
    rintro _ _ ⟨x7_3, x8_3, rfl, hT, u4, hu4, p3_0, p3_1, p3_2, st_3, v_3, rfl⟩
    have k5 := hT.t7
    have k6 := hT.t8
    refine ezw_istore_n rfl rfl ?_
    refine ezw_aload_n rfl rfl ?_
    refine ezw_iconst (0) rfl rfl ?_
    refine ezw_bipush (15) rfl rfl ?_
    refine ezw_call0_2 rfl (by omega) (ezm_at rfl) rfl rfl rfl rfl (ezm_m233p hT (by omega) ⟨by decide, by decide⟩ ⟨by decide, by decide⟩ (by omega) hs (by omega) tk hM st_3) ?_
    rintro _ _ ⟨x7_7, x8_7, rfl, hT, u8, hu8, p7_0, p7_1, p7_2, st_7, v_7, rfl⟩
    have k9 := hT.t7
    have k10 := hT.t8
    refine ezw_istore_n rfl rfl ?_
    have hvx : ezm_I (x8_7 = 0) (u4 = (ezp_V c (ezp_t s).2) ∧ u8 = (ezp_V c (ezp_n c 0 15 (ezp_t s)).2)) := fun z => ⟨v_3 (by omega), v_7 (by omega)⟩
    have stE : ezm_ST (ezp_el2 c (ezp_t s)) x8_7 (x7_7 - 1) := ezm_ST_b (ezm_el2 st_7) rfl
    have hPe := tk.1 ((ezp_el2 c (ezp_t s))).2
    have hrx : ezm_I (x8_7 = 0) (0 ≤ u4 ∧ u4 ≤ 15 ∧ 0 ≤ u8 ∧ u8 ≤ 15) := fun z => ⟨by omega, by omega, by omega, by omega⟩
    refine ezw_iconst (0) rfl rfl ?_
    refine ezw_istore rfl rfl ?_
    have L49_12 : ∀ c11 : Int, ezw_in c11 → ∀ x7_12 : Int, ∀ x8_12 : Int, ezm_T i0 i2 i3 x7_12 x8_12 i13 i18 i19 i20 i25 i29 i30 i31 i36 i37 i38 r73 r74 r75 r76 r77 r78 r79 r80 r81 r82 r83 r84 r85 r86 r87 r88 r89 r90 r91 r92 r93 r94 r95 → ((0) ≤ c11) → (0 ≤ x7_12 ∧ x7_12 ≤ n ∧ i7 ≤ x7_12) → (x8_12 = 0 → i7 + 1 < x7_12) → (ezm_I True ((x8_12 = x8_7 ∧ x7_12 = x7_7 ∧ (x8_7 = 0 → ∀ i, 0 ≤ i → i < c11 → ¬ (r78 (2 * i + 171) = u4 ∧ r78 (2 * i + 172) = u8))) ∨ (x8_12 ≠ 0 ∧ x8_7 = 0 ∧ (∃ i, 0 ≤ i ∧ i < t1.kE ∧ r78 (2 * i + 171) = u4 ∧ r78 (2 * i + 172) = u8) ∧ ezm_ST (ezp_wr c 3 (ezp_el2 c (ezp_t s))) x8_12 x7_12))) → ezw_E l ρ B xa Hb D cA d ezq_re240 (ezm_m240pQ  e F A i0 i2 i3 i7 i8 i13 i18 i19 i20 i25 i29 i30 i31 i36 i37 i38 r73 r74 r75 r76 r77 r78 r79 r80 r81 r82 r83 r84 r85 r86 r87 r88 r89 r90 r91 r92 r93 r94 r95 n c s t) 49 [some (ezw_p 72), some (ezw_i u1), some (ezw_i u4), some (ezw_i u8), some (ezw_i c11)] [] (ezm_h e F A i0 i2 i3 x7_12 x8_12 i13 i18 i19 i20 i25 i29 i30 i31 i36 i37 i38 r73 r74 r75 r76 r77 r78 r79 r80 r81 r82 r83 r84 r85 r86 r87 r88 r89 r90 r91 r92 r93 r94 r95) := by
      refine ezs_up ?_
      intro c11 hc11 ihc11 x7_12 x8_12 hT g_12 v1_12 v2_12 iv_12
      have k13 := hT.t7
      have k14 := hT.t8
      refine ezw_iload rfl rfl ?_
      refine ezw_iload_n rfl rfl ?_
      refine ezw_icmp_ge rfl rfl hc11 (ezm_in78 ku1) (fun h52_14 => ?_) (fun h52_14 => ?_)
      · refine ezw_aload_n rfl rfl ?_
        refine ezm_gp (p := 78) rfl (fun _ => rfl) ?_
        refine ezw_sipush (171) rfl rfl ?_
        refine ezw_iconst (2) rfl rfl ?_
        refine ezw_iload_n rfl rfl ?_
        refine ezw_imul (k := 2 * u1) rfl (by omega) ?_
        refine ezw_iadd (k := 2 * u1 + 171) rfl (by omega) ?_
        refine ezw_iload_n rfl rfl ?_
        refine ezm_s78 hT rfl (by omega) (by omega) ⟨hu4, by omega, by omega, by omega, by omega, by omega, by omega, by omega⟩ (fun r78_15 hT er78_15 fr78_15 => ?_)
        refine ezw_aload_n rfl rfl ?_
        refine ezm_gp (p := 78) rfl (fun _ => rfl) ?_
        refine ezw_sipush (171) rfl rfl ?_
        refine ezw_iconst (2) rfl rfl ?_
        refine ezw_iload_n rfl rfl ?_
        refine ezw_imul (k := 2 * u1) rfl (by omega) ?_
        refine ezw_iadd (k := 2 * u1 + 171) rfl (by omega) ?_
        refine ezw_iconst (1) rfl rfl ?_
        refine ezw_iadd (k := 2 * u1 + 172) rfl (by omega) ?_
        refine ezw_iload_n rfl rfl ?_
        refine ezm_s78 hT rfl (by omega) (by omega) ⟨hu8, by omega, by omega, by omega, by omega, by omega, by omega, by omega⟩ (fun r78_16 hT er78_16 fr78_16 => ?_)
        refine ezw_aload_n rfl rfl ?_
        refine ezm_gp (p := 78) rfl (fun _ => rfl) ?_
        refine ezw_bipush (102) rfl rfl ?_
        refine ezw_dup2 rfl rfl rfl ?_
        refine ezm_l78 rfl (by omega) (by omega) (fun u17 eu17 => ?_)
        have ku17 : ezm_k78 (102) u17 := eu17 ▸ hT.t78 (102)
        have zu17 := ezm_za2 ku17 (by omega)
        have qu17 : u17 = u1 := by rw [eu17, fr78_16 (102) (by omega), fr78_15 (102) (by omega), ← eu1]
        refine ezw_iconst (1) rfl rfl ?_
        refine ezw_iadd (k := u17 + 1) rfl (by omega) ?_
        refine ezm_s78 hT rfl (by omega) (by omega) ⟨⟨by omega, by omega⟩, by omega, by omega, by omega, by omega, by omega, by omega, by omega⟩ (fun r78_18 hT er78_18 fr78_18 => ?_)
        exact ezw_return rfl rfl ⟨x7_12, x8_12, r78_18, rfl, hT, by omega, fun j hj => by rw [fr78_18 j (by omega), fr78_16 j (by omega), fr78_15 j (by omega)], fun z => ezm_RD_fr rd b0.2 b3.2 (fun j hj => by rw [fr78_18 j (by omega), fr78_16 j (by omega), fr78_15 j (by omega)]), by
              rcases iv_12 trivial with ⟨g1, g2, g3⟩ | ⟨g1, g2, g3, g4⟩
              · by_cases z : x8_7 = 0
                · obtain ⟨hx, hy⟩ := hvx z
                  have hz2 : ((ezp_el2 c (ezp_t s))).1 = 0 := stE.1.symm.trans z
                  have hv1 := hrx z
                  refine ezm_SB_i (ezm_ST_7 (x8 := x8_12) (x7 := x7_12) st_7 (by omega) (fun _ => by omega)) ?_
                  rw [hlb, ezp_lw_20 rfl]
                  show ezp_elS c t1 (ezp_t s) = _
                  rw [(ezp_el_0 hz2 (by
                    rw [← hx, ← hy]
                    exact ezm_ELX tel (by omega) (by omega) (by omega) (by omega) (fun i i0 i1 => g3 z i i0 (by omega)))).1]
                  try rfl
                · refine ezm_SB_i (ezm_ST_7 (x8 := x8_12) (x7 := x7_12) (ezm_ST_x (x7 := x7_12) stE z) (by omega) (fun _ => by omega)) ?_
                  rw [hlb, ezp_lw_20 rfl]
                  show ezp_elS c t1 (ezp_t s) = _
                  rw [(ezp_el_n (fun y => z (stE.1.trans y))).1]
              · obtain ⟨hx, hy⟩ := hvx g2
                have hz2 : ((ezp_el2 c (ezp_t s))).1 = 0 := stE.1.symm.trans g2
                have hv1 := hrx g2
                refine ezm_SB_i g4 ?_
                rw [hlb, ezp_lw_20 rfl]
                show ezp_elS c t1 (ezp_t s) = _
                rw [(ezp_el_1 hz2 (by
                  rw [← hx, ← hy]
                  exact (tel _ _).mpr g3)).1], fun z => by
              rcases iv_12 trivial with ⟨g1, g2, g3⟩ | ⟨g1, g2, g3, g4⟩
              · have zo : x8_7 = 0 := by omega
                obtain ⟨hx, hy⟩ := hvx zo
                have hz2 : ((ezp_el2 c (ezp_t s))).1 = 0 := stE.1.symm.trans zo
                have hv1 := hrx zo
                rw [ezp_lne_2', hlb, ezp_lw_20 rfl]
                show ezm_TRE (ezp_elD c t1 (ezp_t s)) _ _ _ _ _
                rw [(ezp_el_0 (t := t1) hz2 (show t1.el _ _ ≠ 1 from by
                  rw [← hx, ← hy]
                  exact ezm_ELX tel (by omega) (by omega) (by omega) (by omega) (fun i i0 i1 => g3 zo i i0 (by omega)))).2]
                show ezm_TRE (t1.elm (ezp_V c (ezp_t s).2) (ezp_V c (ezp_n c 0 15 (ezp_t s)).2)) _ _ _ _ _
                rw [← hx, ← hy]
                exact ezm_TRE_elm tr1 (show t1.kE < 8 by omega) (show r78_18 102 = t1.kE + 1 by rw [er78_18]; omega) (show r78_18 (2 * t1.kE + 171) = _ from by
                     rw [show (2 * t1.kE + 171 : Int) = 2 * u1 + 171 by omega, fr78_18 (2 * u1 + 171) (by omega), fr78_16 (2 * u1 + 171) (by omega), er78_15]) (show r78_18 (2 * t1.kE + 172) = _ from by
                     rw [show (2 * t1.kE + 172 : Int) = 2 * u1 + 172 by omega, fr78_18 (2 * u1 + 172) (by omega), er78_16]) (fun j j0 j1 j2 j3 j4 => by
                  have j3 : j ≠ 2 * t1.kE + 171 := j3
                  have j4 : j ≠ 2 * t1.kE + 172 := j4
                  rw [fr78_18 j (by omega), fr78_16 j (by omega), fr78_15 j (by omega)])
              · exact absurd z (by omega), (fun j j0 j1 => by rw [fr78_18 j (by omega), fr78_16 j (by omega), fr78_15 j (by omega)]), rfl⟩
      · refine ezw_aload_n rfl rfl ?_
        refine ezm_g8 rfl ?_
        refine ezw_if_ne rfl rfl ⟨by omega, by omega⟩ (fun h59_18 => ?_) (fun h59_18 => ?_)
        · refine ezw_aload_n rfl rfl ?_
          refine ezm_gp (p := 78) rfl (fun _ => rfl) ?_
          refine ezw_sipush (171) rfl rfl ?_
          refine ezw_iconst (2) rfl rfl ?_
          refine ezw_iload_n rfl rfl ?_
          refine ezw_imul (k := 2 * u1) rfl (by omega) ?_
          refine ezw_iadd (k := 2 * u1 + 171) rfl (by omega) ?_
          refine ezw_iload_n rfl rfl ?_
          refine ezm_s78 hT rfl (by omega) (by omega) ⟨hu4, by omega, by omega, by omega, by omega, by omega, by omega, by omega⟩ (fun r78_19 hT er78_19 fr78_19 => ?_)
          refine ezw_aload_n rfl rfl ?_
          refine ezm_gp (p := 78) rfl (fun _ => rfl) ?_
          refine ezw_sipush (171) rfl rfl ?_
          refine ezw_iconst (2) rfl rfl ?_
          refine ezw_iload_n rfl rfl ?_
          refine ezw_imul (k := 2 * u1) rfl (by omega) ?_
          refine ezw_iadd (k := 2 * u1 + 171) rfl (by omega) ?_
          refine ezw_iconst (1) rfl rfl ?_
          refine ezw_iadd (k := 2 * u1 + 172) rfl (by omega) ?_
          refine ezw_iload_n rfl rfl ?_
          refine ezm_s78 hT rfl (by omega) (by omega) ⟨hu8, by omega, by omega, by omega, by omega, by omega, by omega, by omega⟩ (fun r78_20 hT er78_20 fr78_20 => ?_)
          refine ezw_aload_n rfl rfl ?_
          refine ezm_gp (p := 78) rfl (fun _ => rfl) ?_
          refine ezw_bipush (102) rfl rfl ?_
          refine ezw_dup2 rfl rfl rfl ?_
          refine ezm_l78 rfl (by omega) (by omega) (fun u21 eu21 => ?_)
          have ku21 : ezm_k78 (102) u21 := eu21 ▸ hT.t78 (102)
          have zu21 := ezm_za2 ku21 (by omega)
          have qu21 : u21 = u1 := by rw [eu21, fr78_20 (102) (by omega), fr78_19 (102) (by omega), ← eu1]
          refine ezw_iconst (1) rfl rfl ?_
          refine ezw_iadd (k := u21 + 1) rfl (by omega) ?_
          refine ezm_s78 hT rfl (by omega) (by omega) ⟨⟨by omega, by omega⟩, by omega, by omega, by omega, by omega, by omega, by omega, by omega⟩ (fun r78_22 hT er78_22 fr78_22 => ?_)
          exact ezw_return rfl rfl ⟨x7_12, x8_12, r78_22, rfl, hT, by omega, fun j hj => by rw [fr78_22 j (by omega), fr78_20 j (by omega), fr78_19 j (by omega)], fun z => ezm_RD_fr rd b0.2 b3.2 (fun j hj => by rw [fr78_22 j (by omega), fr78_20 j (by omega), fr78_19 j (by omega)]), by
                rcases iv_12 trivial with ⟨g1, g2, g3⟩ | ⟨g1, g2, g3, g4⟩
                · by_cases z : x8_7 = 0
                  · obtain ⟨hx, hy⟩ := hvx z
                    have hz2 : ((ezp_el2 c (ezp_t s))).1 = 0 := stE.1.symm.trans z
                    have hv1 := hrx z
                    refine ezm_SB_i (ezm_ST_7 (x8 := x8_12) (x7 := x7_12) st_7 (by omega) (fun _ => by omega)) ?_
                    rw [hlb, ezp_lw_20 rfl]
                    show ezp_elS c t1 (ezp_t s) = _
                    rw [(ezp_el_0 hz2 (by
                      rw [← hx, ← hy]
                      exact ezm_ELX tel (by omega) (by omega) (by omega) (by omega) (fun i i0 i1 => g3 z i i0 (by omega)))).1]
                    try rfl
                  · refine ezm_SB_i (ezm_ST_7 (x8 := x8_12) (x7 := x7_12) (ezm_ST_x (x7 := x7_12) stE z) (by omega) (fun _ => by omega)) ?_
                    rw [hlb, ezp_lw_20 rfl]
                    show ezp_elS c t1 (ezp_t s) = _
                    rw [(ezp_el_n (fun y => z (stE.1.trans y))).1]
                · obtain ⟨hx, hy⟩ := hvx g2
                  have hz2 : ((ezp_el2 c (ezp_t s))).1 = 0 := stE.1.symm.trans g2
                  have hv1 := hrx g2
                  refine ezm_SB_i g4 ?_
                  rw [hlb, ezp_lw_20 rfl]
                  show ezp_elS c t1 (ezp_t s) = _
                  rw [(ezp_el_1 hz2 (by
                    rw [← hx, ← hy]
                    exact (tel _ _).mpr g3)).1], fun z => by
                rcases iv_12 trivial with ⟨g1, g2, g3⟩ | ⟨g1, g2, g3, g4⟩
                · have zo : x8_7 = 0 := by omega
                  obtain ⟨hx, hy⟩ := hvx zo
                  have hz2 : ((ezp_el2 c (ezp_t s))).1 = 0 := stE.1.symm.trans zo
                  have hv1 := hrx zo
                  rw [ezp_lne_2', hlb, ezp_lw_20 rfl]
                  show ezm_TRE (ezp_elD c t1 (ezp_t s)) _ _ _ _ _
                  rw [(ezp_el_0 (t := t1) hz2 (show t1.el _ _ ≠ 1 from by
                    rw [← hx, ← hy]
                    exact ezm_ELX tel (by omega) (by omega) (by omega) (by omega) (fun i i0 i1 => g3 zo i i0 (by omega)))).2]
                  show ezm_TRE (t1.elm (ezp_V c (ezp_t s).2) (ezp_V c (ezp_n c 0 15 (ezp_t s)).2)) _ _ _ _ _
                  rw [← hx, ← hy]
                  exact ezm_TRE_elm tr1 (show t1.kE < 8 by omega) (show r78_22 102 = t1.kE + 1 by rw [er78_22]; omega) (show r78_22 (2 * t1.kE + 171) = _ from by
                       rw [show (2 * t1.kE + 171 : Int) = 2 * u1 + 171 by omega, fr78_22 (2 * u1 + 171) (by omega), fr78_20 (2 * u1 + 171) (by omega), er78_19]) (show r78_22 (2 * t1.kE + 172) = _ from by
                       rw [show (2 * t1.kE + 172 : Int) = 2 * u1 + 172 by omega, fr78_22 (2 * u1 + 172) (by omega), er78_20]) (fun j j0 j1 j2 j3 j4 => by
                    have j3 : j ≠ 2 * t1.kE + 171 := j3
                    have j4 : j ≠ 2 * t1.kE + 172 := j4
                    rw [fr78_22 j (by omega), fr78_20 j (by omega), fr78_19 j (by omega)])
                · exact absurd z (by omega), (fun j j0 j1 => by rw [fr78_22 j (by omega), fr78_20 j (by omega), fr78_19 j (by omega)]), rfl⟩
        · have iv1 := (iv_12 trivial).resolve_right (fun h => absurd h.1 (by omega))
          refine ezw_aload_n rfl rfl ?_
          refine ezm_gp (p := 78) rfl (fun _ => rfl) ?_
          refine ezw_sipush (171) rfl rfl ?_
          refine ezw_iconst (2) rfl rfl ?_
          refine ezw_iload rfl rfl ?_
          refine ezw_imul (k := 2 * c11) rfl (by omega) ?_
          refine ezw_iadd (k := 2 * c11 + 171) rfl (by omega) ?_
          refine ezm_l78 rfl (by omega) (by omega) (fun u23 eu23 => ?_)
          have ku23 : ezm_k78 (2 * c11 + 171) u23 := eu23 ▸ hT.t78 (2 * c11 + 171)
          refine ezw_iload_n rfl rfl ?_
          refine ezw_icmp_ne rfl rfl (ezm_in78 ku23) hu4 (fun h76_23 => ?_) (fun h76_23 => ?_)
          · refine ezw_iinc (k := c11 + 1) (1) rfl rfl rfl (by omega) rfl ?_
            refine ezw_goto rfl rfl ?_
            exact ezw_keepE [true, true, true, true, true] (ihc11 (c11 + 1) (by omega) ⟨by omega, by omega⟩ x7_12 x8_12 hT (by omega) (by omega) (by omega) (fun _ => Or.inl ⟨by omega, by omega, fun z => (fun i i0 i1 => by
                  by_cases hi : i = c11
                  · rw [hi]
                    intro hxy
                    have g1 := hxy.1
                    rw [← eu23] at g1
                    omega
                  · exact (iv1.2.2 z) i i0 (by omega))⟩))
          · refine ezw_aload_n rfl rfl ?_
            refine ezm_gp (p := 78) rfl (fun _ => rfl) ?_
            refine ezw_sipush (171) rfl rfl ?_
            refine ezw_iconst (2) rfl rfl ?_
            refine ezw_iload rfl rfl ?_
            refine ezw_imul (k := 2 * c11) rfl (by omega) ?_
            refine ezw_iadd (k := 2 * c11 + 171) rfl (by omega) ?_
            refine ezw_iconst (1) rfl rfl ?_
            refine ezw_iadd (k := 2 * c11 + 172) rfl (by omega) ?_
            refine ezm_l78 rfl (by omega) (by omega) (fun u24 eu24 => ?_)
            have ku24 : ezm_k78 (2 * c11 + 172) u24 := eu24 ▸ hT.t78 (2 * c11 + 172)
            refine ezw_iload_n rfl rfl ?_
            refine ezw_icmp_ne rfl rfl (ezm_in78 ku24) hu8 (fun h95_24 => ?_) (fun h95_24 => ?_)
            · refine ezw_iinc (k := c11 + 1) (1) rfl rfl rfl (by omega) rfl ?_
              refine ezw_goto rfl rfl ?_
              exact ezw_keepE [true, true, true, true, true] (ihc11 (c11 + 1) (by omega) ⟨by omega, by omega⟩ x7_12 x8_12 hT (by omega) (by omega) (by omega) (fun _ => Or.inl ⟨by omega, by omega, fun z => (fun i i0 i1 => by
                    by_cases hi : i = c11
                    · rw [hi]
                      intro hxy
                      have g1 := hxy.1
                      have g2 := hxy.2
                      rw [← eu23] at g1
                      rw [← eu24] at g2
                      omega
                    · exact (iv1.2.2 z) i i0 (by omega))⟩))
            · refine ezw_aload_n rfl rfl ?_
              refine ezw_dup rfl rfl ?_
              refine ezm_g7 rfl ?_
              refine ezw_iconst (1) rfl rfl ?_
              refine ezw_isub (k := x7_12 - 1) rfl (by omega) ?_
              refine ezm_p7 hT rfl ⟨by omega, by omega⟩ (fun hT => ?_)
              have stF : ezm_ST (ezp_el2 c (ezp_t s)) x8_12 (x7_12 - 1) := ezm_ST_7 stE (by omega) (fun _ => by omega)
              refine ezw_aload_n rfl rfl ?_
              refine ezw_iconst (3) rfl rfl ?_
              refine ezw_call0_1 rfl (by omega) (ezm_at rfl) rfl rfl rfl rfl (ezm_m225p hT (by omega) ⟨by decide, by decide⟩ (by omega) (by omega) (by omega) hs (by omega) tk hM stF) ?_
              rintro _ _ ⟨x8_25, rfl, hT, p25_0, p25_1, st_25, rfl⟩
              have k26 := hT.t8
              refine ezw_iinc (k := c11 + 1) (1) rfl rfl rfl (by omega) rfl ?_
              refine ezw_goto rfl rfl ?_
              exact ezw_keepE [true, true, true, true, true] (ihc11 (c11 + 1) (by omega) ⟨by omega, by omega⟩ (x7_12 - 1) x8_25 hT (by omega) (by omega) (by omega) (fun _ => Or.inr ⟨by omega, by omega, ⟨c11, by omega, by omega, by rw [← eu23]; omega, by rw [← eu24]; omega⟩, by have h9 := st_25; exact h9⟩))
    exact ezw_keepE [true, true, true, true, true] (L49_12 (0) ⟨by decide, by decide⟩ x7_7 x8_7 hT (by omega) (by omega) (by omega) (fun _ => Or.inl ⟨rfl, rfl, fun _ i i0 i1 => absurd i1 (by omega)⟩))
  · refine ezw_aload_n rfl rfl ?_
    refine ezw_iconst (5) rfl rfl ?_
    refine ezw_call0_1 rfl (by omega) (ezm_at rfl) rfl rfl rfl rfl (ezm_m225p hT (by omega) ⟨by decide, by decide⟩ (by omega) (by omega) (by omega) hs (by omega) tk hM st) ?_
    rintro _ _ ⟨x8_27, rfl, hT, p27_0, p27_1, st_27, rfl⟩
    have k28 := hT.t8
    exact ezw_return rfl rfl ⟨i7, x8_27, r78, rfl, hT, by omega, fun _ _ => rfl, fun z => rd, ezm_SB_i st_27 (by rw [ezp_lb_5 hP (by omega) (Or.inr (Or.inr ⟨kw, by omega⟩))]), fun z => absurd z (by omega), (fun _ _ _ => rfl), rfl⟩
end KM6
