/-! ===== the model: ELM, numbers, STRING ===== -/
section KM6
variable {l : Launch} {ρ : ezq_E} {B : Nat} {xa : Nat → Option Nat} {Hb : Heap} {D : va_G} {cA : Nat → ClassId} {d : Nat} {e : Bool × Bool} {F : Nat → Nat → Int} {A : Nat → Int → Int} {i0 i2 i3 i7 i8 i13 i18 i19 i20 i25 i29 i30 i31 i36 i37 i38 : Int} {r73 r74 r75 r76 r77 r78 r79 r80 r81 r82 r83 r84 r85 r86 r87 r88 r89 r90 r91 r92 r93 r94 r95 : Int → Int}
def ezm_m244pQ (e : Bool × Bool) (F : Nat → Nat → Int) (A : Nat → Int → Int) (i0 i2 i3 i7 i8 i13 i18 i19 i20 i25 i29 i30 i31 i36 i37 i38 : Int) (r73 r74 r75 r76 r77 r78 r79 r80 r81 r82 r83 r84 r85 r86 r87 r88 r89 r90 r91 r92 r93 r94 r95 : Int → Int) (n : Int) (c : Int → Int) (s : Int × Int) (t : ezp_D) (a1 : Int) : Option ezq_V → (Nat → ezq_C) → Prop := fun v g' => ∃ (x7 x8 : Int) (x78 : Int → Int), ezm_h e F A i0 i2 i3 x7 x8 i13 i18 i19 i20 i25 i29 i30 i31 i36 i37 i38 r73 r74 r75 r76 r77 x78 r79 r80 r81 r82 r83 r84 r85 r86 r87 r88 r89 r90 r91 r92 r93 r94 r95 = g' ∧ ezm_T i0 i2 i3 x7 x8 i13 i18 i19 i20 i25 i29 i30 i31 i36 i37 i38 r73 r74 r75 r76 r77 x78 r79 r80 r81 r82 r83 r84 r85 r86 r87 r88 r89 r90 r91 r92 r93 r94 r95 ∧ (i7 ≤ x7 ∧ x7 ≤ n) ∧ (∀ j, j < 100 → x78 j = r78 j) ∧ (x8 = 0 → ezm_RD i13 i19 x78 r79 r80 r84) ∧ (a1 = 3 → ezm_ST (ezp_n c 0 10 s) x8 x7) ∧ (a1 = 4 → ezm_ST (ezp_n c 0 9 s) x8 x7) ∧ (a1 = 6 → ezm_ST (ezp_n c 1 99 s) x8 x7) ∧ (a1 = 7 → ezm_ST (ezp_n c 1 15 s) x8 x7) ∧ (a1 = 3 → x8 = 0 → ezm_TRE (t.say 5 (ezp_V c s.2)) i19 i20 x78 r82 r84) ∧ (a1 = 4 → x8 = 0 → ezm_TRE (t.say 6 (ezp_V c s.2)) i19 i20 x78 r82 r84) ∧ (a1 = 6 → x8 = 0 → ezm_TRE (t.say 9 (ezp_V c s.2)) i19 i20 x78 r82 r84) ∧ (a1 = 7 → x8 = 0 → ezm_TRE (t.say 10 (ezp_V c s.2)) i19 i20 x78 r82 r84) ∧ (∀ j, 115 ≤ j → j ≤ 116 → x78 j = r78 j) ∧ none = v
set_option maxHeartbeats 8000000 in
theorem ezm_m244p {c : Int → Int} {s : Int × Int} {t : ezp_D} {n a1 : Int} (hT : ezm_T i0 i2 i3 i7 i8 i13 i18 i19 i20 i25 i29 i30 i31 i36 i37 i38 r73 r74 r75 r76 r77 r78 r79 r80 r81 r82 r83 r84 r85 r86 r87 r88 r89 r90 r91 r92 r93 r94 r95) (hd : 2 ≤ d) (ha1 : ezw_in a1) (hn : 0 ≤ i7 ∧ i7 ≤ n) (hs : r74 n = 0) (h1 : n ≤ 1000) (h0 : i8 = 0) (hc : 0 ≤ i13 ∧ i13 ≤ i7) (rd : ezm_RD i13 i19 r78 r79 r80 r84) (tk : ezm_TK c n r74 r75 r76) (hM : ∀ w, 0 ≤ w → w < 48 → r77 w = ezl_mw.getD w.toNat 0) (st : ezm_ST s i8 i7) (tr : ezm_TRE t i19 i20 r78 r82 r84) (ga : 3 ≤ a1 ∧ a1 ≤ 7 ∧ a1 ≠ 5) : ezw_C l ρ B xa Hb D cA 244 d [ezw_p 72, ezw_i a1] (ezm_h e F A i0 i2 i3 i7 i8 i13 i18 i19 i20 i25 i29 i30 i31 i36 i37 i38 r73 r74 r75 r76 r77 r78 r79 r80 r81 r82 r83 r84 r85 r86 r87 r88 r89 r90 r91 r92 r93 r94 r95) (ezm_m244pQ  e F A i0 i2 i3 i7 i8 i13 i18 i19 i20 i25 i29 i30 i31 i36 i37 i38 r73 r74 r75 r76 r77 r78 r79 r80 r81 r82 r83 r84 r85 r86 r87 r88 r89 r90 r91 r92 r93 r94 r95 n c s t a1) := by
  refine ezw_met (k := 0) rfl rfl ?_
  have b19 := hT.t19
  have bm := rd.1
  have b1 := ezm_za1 (hT.t78 101) (by decide)
  have b0 := ezm_za0 (hT.t78 100) (by decide)
  have b3 := ezm_za3 (hT.t78 103) (by decide)
  obtain ⟨se, sa, -, hP, -, -⟩ := ezm_TKi tk st hn
  replace sa := sa (by omega)
  have tcn := tr.1
  have tbn := tr.2.1
  have tnm := tr.2.2.1
  refine ezw_iload_n rfl rfl ?_
  refine ezw_iconst (3) rfl rfl ?_
  refine ezw_icmp_ne rfl rfl ha1 ⟨by decide, by decide⟩ (fun h2_0 => ?_) (fun h2_0 => ?_)
  · refine ezw_iload_n rfl rfl ?_
    refine ezw_iconst (4) rfl rfl ?_
    refine ezw_icmp_ne rfl rfl ha1 ⟨by decide, by decide⟩ (fun h24_0 => ?_) (fun h24_0 => ?_)
    · refine ezw_iload_n rfl rfl ?_
      refine ezw_bipush (6) rfl rfl ?_
      refine ezw_icmp_ne rfl rfl ha1 ⟨by decide, by decide⟩ (fun h47_0 => ?_) (fun h47_0 => ?_)
      · refine ezw_aload_n rfl rfl ?_
        refine ezm_gp (p := 78) rfl (fun _ => rfl) ?_
        refine ezw_bipush (114) rfl rfl ?_
        refine ezw_aload_n rfl rfl ?_
        refine ezw_iconst (1) rfl rfl ?_
        refine ezw_bipush (15) rfl rfl ?_
        refine ezw_call0_2 rfl (by omega) (ezm_at rfl) rfl rfl rfl rfl (ezm_m233p hT (by omega) ⟨by decide, by decide⟩ ⟨by decide, by decide⟩ (by omega) hs (by omega) tk hM st) ?_
        rintro _ _ ⟨x7_1, x8_1, rfl, hT, u2, hu2, p1_0, p1_1, p1_2, st_1, v_1, rfl⟩
        have k3 := hT.t7
        have k4 := hT.t8
        refine ezm_s78 hT rfl (by omega) (by omega) ⟨hu2, by omega, by omega, by omega, by omega, by omega, by omega, by omega⟩ (fun r78_5 hT er78_5 fr78_5 => ?_)
        exact ezw_return rfl rfl ⟨x7_1, x8_1, r78_5, rfl, hT, by omega, fun j hj => by rw [fr78_5 j (by omega)], fun z => ezm_RD_fr rd b0.2 b3.2 (fun j hj => by rw [fr78_5 j (by omega)]), fun z => by
              first
                | exact absurd z (by omega)
                | exact st_1, fun z => by
              first
                | exact absurd z (by omega)
                | exact st_1, fun z => by
              first
                | exact absurd z (by omega)
                | exact st_1, fun z => by
              first
                | exact absurd z (by omega)
                | exact st_1, fun z z8 => by
              first
                | exact absurd z (by omega)
                | exact ezm_TRE_say tr (by decide) (by decide) (show r78_5 109 = _ by rw [er78_5]; exact v_1 z8) (fun j j0 j1 j2 => by rw [fr78_5 j (by omega)]), fun z z8 => by
              first
                | exact absurd z (by omega)
                | exact ezm_TRE_say tr (by decide) (by decide) (show r78_5 110 = _ by rw [er78_5]; exact v_1 z8) (fun j j0 j1 j2 => by rw [fr78_5 j (by omega)]), fun z z8 => by
              first
                | exact absurd z (by omega)
                | exact ezm_TRE_say tr (by decide) (by decide) (show r78_5 113 = _ by rw [er78_5]; exact v_1 z8) (fun j j0 j1 j2 => by rw [fr78_5 j (by omega)]), fun z z8 => by
              first
                | exact absurd z (by omega)
                | exact ezm_TRE_say tr (by decide) (by decide) (show r78_5 114 = _ by rw [er78_5]; exact v_1 z8) (fun j j0 j1 j2 => by rw [fr78_5 j (by omega)]), (fun j j0 j1 => by rw [fr78_5 j (by omega)]), rfl⟩
      · refine ezw_aload_n rfl rfl ?_
        refine ezm_gp (p := 78) rfl (fun _ => rfl) ?_
        refine ezw_bipush (113) rfl rfl ?_
        refine ezw_aload_n rfl rfl ?_
        refine ezw_iconst (1) rfl rfl ?_
        refine ezw_bipush (99) rfl rfl ?_
        refine ezw_call0_2 rfl (by omega) (ezm_at rfl) rfl rfl rfl rfl (ezm_m233p hT (by omega) ⟨by decide, by decide⟩ ⟨by decide, by decide⟩ (by omega) hs (by omega) tk hM st) ?_
        rintro _ _ ⟨x7_6, x8_6, rfl, hT, u7, hu7, p6_0, p6_1, p6_2, st_6, v_6, rfl⟩
        have k8 := hT.t7
        have k9 := hT.t8
        refine ezm_s78 hT rfl (by omega) (by omega) ⟨hu7, by omega, by omega, by omega, by omega, by omega, by omega, by omega⟩ (fun r78_10 hT er78_10 fr78_10 => ?_)
        refine ezw_goto rfl rfl ?_
        exact ezw_return rfl rfl ⟨x7_6, x8_6, r78_10, rfl, hT, by omega, fun j hj => by rw [fr78_10 j (by omega)], fun z => ezm_RD_fr rd b0.2 b3.2 (fun j hj => by rw [fr78_10 j (by omega)]), fun z => by
              first
                | exact absurd z (by omega)
                | exact st_6, fun z => by
              first
                | exact absurd z (by omega)
                | exact st_6, fun z => by
              first
                | exact absurd z (by omega)
                | exact st_6, fun z => by
              first
                | exact absurd z (by omega)
                | exact st_6, fun z z8 => by
              first
                | exact absurd z (by omega)
                | exact ezm_TRE_say tr (by decide) (by decide) (show r78_10 109 = _ by rw [er78_10]; exact v_6 z8) (fun j j0 j1 j2 => by rw [fr78_10 j (by omega)]), fun z z8 => by
              first
                | exact absurd z (by omega)
                | exact ezm_TRE_say tr (by decide) (by decide) (show r78_10 110 = _ by rw [er78_10]; exact v_6 z8) (fun j j0 j1 j2 => by rw [fr78_10 j (by omega)]), fun z z8 => by
              first
                | exact absurd z (by omega)
                | exact ezm_TRE_say tr (by decide) (by decide) (show r78_10 113 = _ by rw [er78_10]; exact v_6 z8) (fun j j0 j1 j2 => by rw [fr78_10 j (by omega)]), fun z z8 => by
              first
                | exact absurd z (by omega)
                | exact ezm_TRE_say tr (by decide) (by decide) (show r78_10 114 = _ by rw [er78_10]; exact v_6 z8) (fun j j0 j1 j2 => by rw [fr78_10 j (by omega)]), (fun j j0 j1 => by rw [fr78_10 j (by omega)]), rfl⟩
    · refine ezw_aload_n rfl rfl ?_
      refine ezm_gp (p := 78) rfl (fun _ => rfl) ?_
      refine ezw_bipush (110) rfl rfl ?_
      refine ezw_aload_n rfl rfl ?_
      refine ezw_iconst (0) rfl rfl ?_
      refine ezw_bipush (9) rfl rfl ?_
      refine ezw_call0_2 rfl (by omega) (ezm_at rfl) rfl rfl rfl rfl (ezm_m233p hT (by omega) ⟨by decide, by decide⟩ ⟨by decide, by decide⟩ (by omega) hs (by omega) tk hM st) ?_
      rintro _ _ ⟨x7_11, x8_11, rfl, hT, u12, hu12, p11_0, p11_1, p11_2, st_11, v_11, rfl⟩
      have k13 := hT.t7
      have k14 := hT.t8
      refine ezm_s78 hT rfl (by omega) (by omega) ⟨hu12, by omega, by omega, by omega, by omega, by omega, by omega, by omega⟩ (fun r78_15 hT er78_15 fr78_15 => ?_)
      refine ezw_goto rfl rfl ?_
      exact ezw_return rfl rfl ⟨x7_11, x8_11, r78_15, rfl, hT, by omega, fun j hj => by rw [fr78_15 j (by omega)], fun z => ezm_RD_fr rd b0.2 b3.2 (fun j hj => by rw [fr78_15 j (by omega)]), fun z => by
            first
              | exact absurd z (by omega)
              | exact st_11, fun z => by
            first
              | exact absurd z (by omega)
              | exact st_11, fun z => by
            first
              | exact absurd z (by omega)
              | exact st_11, fun z => by
            first
              | exact absurd z (by omega)
              | exact st_11, fun z z8 => by
            first
              | exact absurd z (by omega)
              | exact ezm_TRE_say tr (by decide) (by decide) (show r78_15 109 = _ by rw [er78_15]; exact v_11 z8) (fun j j0 j1 j2 => by rw [fr78_15 j (by omega)]), fun z z8 => by
            first
              | exact absurd z (by omega)
              | exact ezm_TRE_say tr (by decide) (by decide) (show r78_15 110 = _ by rw [er78_15]; exact v_11 z8) (fun j j0 j1 j2 => by rw [fr78_15 j (by omega)]), fun z z8 => by
            first
              | exact absurd z (by omega)
              | exact ezm_TRE_say tr (by decide) (by decide) (show r78_15 113 = _ by rw [er78_15]; exact v_11 z8) (fun j j0 j1 j2 => by rw [fr78_15 j (by omega)]), fun z z8 => by
            first
              | exact absurd z (by omega)
              | exact ezm_TRE_say tr (by decide) (by decide) (show r78_15 114 = _ by rw [er78_15]; exact v_11 z8) (fun j j0 j1 j2 => by rw [fr78_15 j (by omega)]), (fun j j0 j1 => by rw [fr78_15 j (by omega)]), rfl⟩
  · refine ezw_aload_n rfl rfl ?_
    refine ezm_gp (p := 78) rfl (fun _ => rfl) ?_
    refine ezw_bipush (109) rfl rfl ?_
    refine ezw_aload_n rfl rfl ?_
    refine ezw_iconst (0) rfl rfl ?_
    refine ezw_bipush (10) rfl rfl ?_
    refine ezw_call0_2 rfl (by omega) (ezm_at rfl) rfl rfl rfl rfl (ezm_m233p hT (by omega) ⟨by decide, by decide⟩ ⟨by decide, by decide⟩ (by omega) hs (by omega) tk hM st) ?_
    rintro _ _ ⟨x7_16, x8_16, rfl, hT, u17, hu17, p16_0, p16_1, p16_2, st_16, v_16, rfl⟩
    have k18 := hT.t7
    have k19 := hT.t8
    refine ezm_s78 hT rfl (by omega) (by omega) ⟨hu17, by omega, by omega, by omega, by omega, by omega, by omega, by omega⟩ (fun r78_20 hT er78_20 fr78_20 => ?_)
    refine ezw_goto rfl rfl ?_
    exact ezw_return rfl rfl ⟨x7_16, x8_16, r78_20, rfl, hT, by omega, fun j hj => by rw [fr78_20 j (by omega)], fun z => ezm_RD_fr rd b0.2 b3.2 (fun j hj => by rw [fr78_20 j (by omega)]), fun z => by
          first
            | exact absurd z (by omega)
            | exact st_16, fun z => by
          first
            | exact absurd z (by omega)
            | exact st_16, fun z => by
          first
            | exact absurd z (by omega)
            | exact st_16, fun z => by
          first
            | exact absurd z (by omega)
            | exact st_16, fun z z8 => by
          first
            | exact absurd z (by omega)
            | exact ezm_TRE_say tr (by decide) (by decide) (show r78_20 109 = _ by rw [er78_20]; exact v_16 z8) (fun j j0 j1 j2 => by rw [fr78_20 j (by omega)]), fun z z8 => by
          first
            | exact absurd z (by omega)
            | exact ezm_TRE_say tr (by decide) (by decide) (show r78_20 110 = _ by rw [er78_20]; exact v_16 z8) (fun j j0 j1 j2 => by rw [fr78_20 j (by omega)]), fun z z8 => by
          first
            | exact absurd z (by omega)
            | exact ezm_TRE_say tr (by decide) (by decide) (show r78_20 113 = _ by rw [er78_20]; exact v_16 z8) (fun j j0 j1 j2 => by rw [fr78_20 j (by omega)]), fun z z8 => by
          first
            | exact absurd z (by omega)
            | exact ezm_TRE_say tr (by decide) (by decide) (show r78_20 114 = _ by rw [er78_20]; exact v_16 z8) (fun j j0 j1 j2 => by rw [fr78_20 j (by omega)]), (fun j j0 j1 => by rw [fr78_20 j (by omega)]), rfl⟩
end KM6
