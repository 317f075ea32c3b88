/-! ===== the model: what is told, reckoned ===== -/
section KM6
variable {l : Launch} {ρ : ezq_E} {B : Nat} {xa : Nat → Option Nat} {Hb : Heap} {D : va_G} {cA : Nat → ClassId} {d : Nat} {e : Bool × Bool} {F : Nat → Nat → Int} {A : Nat → Int → Int} {i0 i2 i3 i7 i8 i13 i18 i19 i20 i25 i29 i30 i31 i36 i37 i38 : Int} {r73 r74 r75 r76 r77 r78 r79 r80 r81 r82 r83 r84 r85 r86 r87 r88 r89 r90 r91 r92 r93 r94 r95 : Int → Int}
def ezm_m308nQ (e : Bool × Bool) (F : Nat → Nat → Int) (A : Nat → Int → Int) (i0 i2 i3 i7 i8 i13 i18 i19 i20 i25 i29 i30 i31 i36 i37 i38 : Int) (r73 r74 r75 r76 r77 r78 r79 r80 r81 r82 r83 r84 r85 r86 r87 r88 r89 r90 r91 r92 r93 r94 r95 : Int → Int) (z : ezp_D) (L : ezv_LL) (c : Int → Int) (a1 : Int) : Option ezq_V → (Nat → ezq_C) → Prop := fun v g' => ∃  (x86 x87 : Int → Int), ezm_h e F A i0 i2 i3 i7 i8 i13 i18 i19 i20 i25 i29 i30 i31 i36 i37 i38 r73 r74 r75 r76 r77 r78 r79 r80 r81 r82 r83 r84 r85 x86 x87 r88 r89 r90 r91 r92 r93 r94 r95 = g' ∧ ezm_T i0 i2 i3 i7 i8 i13 i18 i19 i20 i25 i29 i30 i31 i36 i37 i38 r73 r74 r75 r76 r77 r78 r79 r80 r81 r82 r83 r84 r85 x86 x87 r88 r89 r90 r91 r92 r93 r94 r95 ∧ ∃ u : Int, (ezw_il u) ∧ (u = ezn_pd (ezn_qc L z) z c a1) ∧ some (ezw_l u) = v
theorem ezm_m308n {z : ezp_D} {L : ezv_LL} {c : Int → Int} {a1 : Int} (hT : ezm_T i0 i2 i3 i7 i8 i13 i18 i19 i20 i25 i29 i30 i31 i36 i37 i38 r73 r74 r75 r76 r77 r78 r79 r80 r81 r82 r83 r84 r85 r86 r87 r88 r89 r90 r91 r92 r93 r94 r95) (hd : 3 ≤ d) (ha1 : ezw_in a1) (tf : ezm_TRF z i18 r78 r81 r83) (hB : ezp_B z) (mf : ezm_MF L r78 r79 r80) (lo : ezv_LO L) (td : ezn_TD c 0 r88) (tb : ezn_TB c) (ga : 0 ≤ a1 ∧ a1 < z.kT) : ezw_C l ρ B xa Hb D cA 308 d [ezw_p 72, ezw_i a1] (ezm_h e F A i0 i2 i3 i7 i8 i13 i18 i19 i20 i25 i29 i30 i31 i36 i37 i38 r73 r74 r75 r76 r77 r78 r79 r80 r81 r82 r83 r84 r85 r86 r87 r88 r89 r90 r91 r92 r93 r94 r95) (ezm_m308nQ  e F A i0 i2 i3 i7 i8 i13 i18 i19 i20 i25 i29 i30 i31 i36 i37 i38 r73 r74 r75 r76 r77 r78 r79 r80 r81 r82 r83 r84 r85 r86 r87 r88 r89 r90 r91 r92 r93 r94 r95 z L c a1) := by
  refine ezw_met (k := 4) rfl rfl ?_
  have d0 : 0 ≤ r88 (20) := td.1.1
  have d1 : r88 (20) = ezn_tm c := td.1.2.1
  have d2 := td.1.2.2
  refine ezw_lconst (1) rfl rfl ?_
  refine ezw_lstore_n rfl rfl ?_
  refine ezw_iconst (0) rfl rfl ?_
  refine ezw_istore rfl rfl ?_
  have L5_2 : ∀ c1 : Int, ezw_in c1 → ∀ y3 : Int, ezw_il y3 → ∀ x86_2 : Int → Int, ∀ x87_2 : Int → Int, ezm_T i0 i2 i3 i7 i8 i13 i18 i19 i20 i25 i29 i30 i31 i36 i37 i38 r73 r74 r75 r76 r77 r78 r79 r80 r81 r82 r83 r84 r85 x86_2 x87_2 r88 r89 r90 r91 r92 r93 r94 r95 → ((0) ≤ c1) → (c1 ≤ r88 (20)) → (y3 = ezn_sq (ezn_g8 (ezn_qc L z) z a1) (ezn_sf 0 r88) (c1).toNat) → ezw_E l ρ B xa Hb D cA d ezq_re308 (ezm_m308nQ  e F A i0 i2 i3 i7 i8 i13 i18 i19 i20 i25 i29 i30 i31 i36 i37 i38 r73 r74 r75 r76 r77 r78 r79 r80 r81 r82 r83 r84 r85 r86 r87 r88 r89 r90 r91 r92 r93 r94 r95 z L c a1) 5 [some (ezw_p 72), some (ezw_i a1), some (ezw_l y3), none, some (ezw_i c1), none] [] (ezm_h e F A i0 i2 i3 i7 i8 i13 i18 i19 i20 i25 i29 i30 i31 i36 i37 i38 r73 r74 r75 r76 r77 r78 r79 r80 r81 r82 r83 r84 r85 x86_2 x87_2 r88 r89 r90 r91 r92 r93 r94 r95) := by
    refine ezs_up ?_
    intro c1 hc1 ihc1 y3 hy3 x86_2 x87_2 hT g_2 cb_2 sq_2
    refine ezw_iload rfl rfl ?_
    refine ezw_aload_n rfl rfl ?_
    refine ezm_gp (p := 88) rfl (fun _ => rfl) ?_
    refine ezw_bipush (20) rfl rfl ?_
    refine ezm_l88 rfl (by omega) (by omega) (fun u4 eu4 => ?_)
    have ku4 : ezm_k88 (20) u4 := eu4 ▸ hT.t88 (20)
    have zu4 := ezm_zs20 ku4 (by omega)
    refine ezw_icmp_ge rfl rfl hc1 (ezm_in88 ku4) (fun h14_4 => ?_) (fun h14_4 => ?_)
    · refine ezw_lload_n rfl rfl ?_
      exact ezw_lreturn rfl rfl ⟨x86_2, x87_2, rfl, hT, y3, hy3, (by
            rw [sq_2, ← ezn_pd_sq (b := 0) td]
            congr 1
            show _ = (r88 (20)).toNat
            omega), rfl⟩
    · refine ezw_aload_n rfl rfl ?_
      refine ezw_iconst (0) rfl rfl ?_
      refine ezw_iload_n rfl rfl ?_
      refine ezw_iconst (0) rfl rfl ?_
      refine ezw_aload_n rfl rfl ?_
      refine ezm_gp (p := 88) rfl (fun _ => rfl) ?_
      refine ezw_bipush (21) rfl rfl ?_
      refine ezw_iconst (2) rfl rfl ?_
      refine ezw_iload rfl rfl ?_
      refine ezw_imul (k := 2 * c1) rfl (by omega) ?_
      refine ezw_iadd (k := 2 * c1 + 21) rfl (by omega) ?_
      have s1 : 0 ≤ r88 (2 * c1 + 21) ∧ r88 (2 * c1 + 21) < 4 := (td.2.1 c1 (by omega) (show c1 < r88 (20) by omega)).1
      have s2 : 0 ≤ r88 (2 * c1 + 22) ∧ r88 (2 * c1 + 22) ≤ 1 := (td.2.1 c1 (by omega) (show c1 < r88 (20) by omega)).2
      refine ezm_l88 rfl (by omega) (by omega) (fun u5 eu5 => ?_)
      have ku5 : ezm_k88 (2 * c1 + 21) u5 := eu5 ▸ hT.t88 (2 * c1 + 21)
      refine ezw_iconst (0) rfl rfl ?_
      refine ezw_call0_5 rfl (by omega) (ezm_at rfl) rfl rfl rfl rfl (ezm_m269n hT (by omega) ⟨by decide, by decide⟩ ha1 ⟨by decide, by decide⟩ (ezm_in88 ku5) ⟨by decide, by decide⟩ (by omega) tf hB mf lo) ?_
      rintro _ _ ⟨x86_6, x87_6, rfl, hT, u7, hu7, an_6, rfl⟩
      refine ezw_istore rfl rfl ?_
      have hr9 : u7 = ezn_r0 (ezn_qc L z) z a1 (r88 (2 * c1 + 21)) := by
        rw [an_6]
        show _ = ezn_r0 _ _ _ _
        unfold ezn_r0
        congr 2 <;> omega
      have hq9 : 0 ≤ ezn_r0 (ezn_qc L z) z a1 (r88 (2 * c1 + 21)) ∧ ezn_r0 (ezn_qc L z) z a1 (r88 (2 * c1 + 21)) ≤ 10 := ezn_qc_r L z _ _ _ _ _
      have hsf : ezn_sf 0 r88 c1 = 2 * r88 (2 * c1 + 21) + r88 (2 * c1 + 22) := rfl
      have b1 := ezn_sq_b (y := z) (t := a1) (i := c1) (f := ezn_sf 0 r88) (ezn_qc_r L z) (by omega)
      have b2 := ezn_sq_b (y := z) (t := a1) (i := c1 + 1) (f := ezn_sf 0 r88) (ezn_qc_r L z) (by omega)
      rw [ezn_sq_s (by omega)] at b2
      rw [← sq_2] at b1 b2
      refine ezw_lload_n rfl rfl ?_
      refine ezw_aload_n rfl rfl ?_
      refine ezm_gp (p := 88) rfl (fun _ => rfl) ?_
      refine ezw_bipush (21) rfl rfl ?_
      refine ezw_iconst (2) rfl rfl ?_
      refine ezw_iload rfl rfl ?_
      refine ezw_imul (k := 2 * c1) rfl (by omega) ?_
      refine ezw_iadd (k := 2 * c1 + 21) rfl (by omega) ?_
      refine ezw_iconst (1) rfl rfl ?_
      refine ezw_iadd (k := 2 * c1 + 22) rfl (by omega) ?_
      refine ezm_l88 rfl (by omega) (by omega) (fun u8 eu8 => ?_)
      have ku8 : ezm_k88 (2 * c1 + 22) u8 := eu8 ▸ hT.t88 (2 * c1 + 22)
      refine ezw_iconst (1) rfl rfl ?_
      have J68_10 : ∀ y9 : Int, ezw_in y9 → (y9 = ezn_g8 (ezn_qc L z) z a1 (ezn_sf 0 r88 c1)) → ezw_E l ρ B xa Hb D cA d ezq_re308 (ezm_m308nQ  e F A i0 i2 i3 i7 i8 i13 i18 i19 i20 i25 i29 i30 i31 i36 i37 i38 r73 r74 r75 r76 r77 r78 r79 r80 r81 r82 r83 r84 r85 r86 r87 r88 r89 r90 r91 r92 r93 r94 r95 z L c a1) 68 [some (ezw_p 72), some (ezw_i a1), some (ezw_l y3), none, some (ezw_i c1), some (ezw_i u7)] [ezw_i y9, ezw_l y3] (ezm_h e F A i0 i2 i3 i7 i8 i13 i18 i19 i20 i25 i29 i30 i31 i36 i37 i38 r73 r74 r75 r76 r77 r78 r79 r80 r81 r82 r83 r84 r85 x86_6 x87_6 r88 r89 r90 r91 r92 r93 r94 r95) := by
        intro y9 hy9 gv_10
        refine ezw_i2l rfl hy9 rfl ?_
        refine ezw_lmul (k := (y3 * y9)) rfl rfl ?_
        refine ezw_lstore_n rfl rfl ?_
        refine ezw_iinc (k := c1 + 1) (1) rfl rfl rfl (by omega) rfl ?_
        refine ezw_goto rfl rfl ?_
        exact ezw_keepE [true, true, true, false, true, false] (ihc1 (c1 + 1) (by omega) ⟨by omega, by omega⟩ (y3 * y9) (by rw [gv_10]; exact ⟨by omega, by omega⟩) x86_6 x87_6 hT (by omega) (by omega) (by rw [ezn_sq_s (by omega), ← sq_2, gv_10]))
      refine ezw_icmp_ne rfl rfl (ezm_in88 ku8) ⟨by decide, by decide⟩ (fun h55_8 => ?_) (fun h55_8 => ?_)
      · refine ezw_bipush (10) rfl rfl ?_
        refine ezw_iload rfl rfl ?_
        refine ezw_isub (k := -u7 + 10) rfl (by omega) ?_
        exact ezw_keepE [true, true, true, false, true, true] (J68_10 (-u7 + 10) ⟨by omega, by omega⟩ (by
              unfold ezn_g8
              rw [hsf]
              first
                | (rw [if_pos (by omega), show (2 * r88 (2 * c1 + 21) + r88 (2 * c1 + 22)) / 2 = r88 (2 * c1 + 21) by omega]; omega)
                | (rw [if_neg (by omega), show (2 * r88 (2 * c1 + 21) + r88 (2 * c1 + 22)) / 2 = r88 (2 * c1 + 21) by omega]; omega)))
      · refine ezw_iload rfl rfl ?_
        refine ezw_goto rfl rfl ?_
        exact ezw_keepE [true, true, true, false, true, true] (J68_10 u7 hu7 (by
              unfold ezn_g8
              rw [hsf]
              first
                | (rw [if_pos (by omega), show (2 * r88 (2 * c1 + 21) + r88 (2 * c1 + 22)) / 2 = r88 (2 * c1 + 21) by omega]; omega)
                | (rw [if_neg (by omega), show (2 * r88 (2 * c1 + 21) + r88 (2 * c1 + 22)) / 2 = r88 (2 * c1 + 21) by omega]; omega)))
  exact ezw_keepE [true, true, true, false, true, false] (L5_2 (0) ⟨by decide, by decide⟩ (1) ⟨by decide, by decide⟩ r86 r87 hT (by omega) (by omega) rfl)
def ezm_m307nQ (e : Bool × Bool) (F : Nat → Nat → Int) (A : Nat → Int → Int) (i0 i2 i3 i7 i8 i13 i18 i19 i20 i25 i29 i30 i31 i36 i37 i38 : Int) (r73 r74 r75 r76 r77 r78 r79 r80 r81 r82 r83 r84 r85 r86 r87 r88 r89 r90 r91 r92 r93 r94 r95 : Int → Int) (z : ezp_D) (L : ezv_LL) (c : Int → Int) : Option ezq_V → (Nat → ezq_C) → Prop := fun v g' => ∃ (x0 : Int) (x86 x87 : Int → Int), ezm_h e F A x0 i2 i3 i7 i8 i13 i18 i19 i20 i25 i29 i30 i31 i36 i37 i38 r73 r74 r75 r76 r77 r78 r79 r80 r81 r82 r83 r84 r85 x86 x87 r88 r89 r90 r91 r92 r93 r94 r95 = g' ∧ ezm_T x0 i2 i3 i7 i8 i13 i18 i19 i20 i25 i29 i30 i31 i36 i37 i38 r73 r74 r75 r76 r77 r78 r79 r80 r81 r82 r83 r84 r85 x86 x87 r88 r89 r90 r91 r92 r93 r94 r95 ∧ ∃ u : Int, (ezw_in u) ∧ (u = ezn_ft (ezn_pd (ezn_qc L z) z c) z.kT.toNat) ∧ some (ezw_i u) = v
theorem ezm_m307n {z : ezp_D} {L : ezv_LL} {c : Int → Int} (hT : ezm_T i0 i2 i3 i7 i8 i13 i18 i19 i20 i25 i29 i30 i31 i36 i37 i38 r73 r74 r75 r76 r77 r78 r79 r80 r81 r82 r83 r84 r85 r86 r87 r88 r89 r90 r91 r92 r93 r94 r95) (hd : 4 ≤ d) (tf : ezm_TRF z i18 r78 r81 r83) (hB : ezp_B z) (mf : ezm_MF L r78 r79 r80) (lo : ezv_LO L) (td : ezn_TD c 0 r88) (tb : ezn_TB c) : ezw_C l ρ B xa Hb D cA 307 d [ezw_p 72] (ezm_h e F A i0 i2 i3 i7 i8 i13 i18 i19 i20 i25 i29 i30 i31 i36 i37 i38 r73 r74 r75 r76 r77 r78 r79 r80 r81 r82 r83 r84 r85 r86 r87 r88 r89 r90 r91 r92 r93 r94 r95) (ezm_m307nQ  e F A i0 i2 i3 i7 i8 i13 i18 i19 i20 i25 i29 i30 i31 i36 i37 i38 r73 r74 r75 r76 r77 r78 r79 r80 r81 r82 r83 r84 r85 r86 r87 r88 r89 r90 r91 r92 r93 r94 r95 z L c) := by
  refine ezw_met (k := 2) rfl rfl ?_
  obtain ⟨⟨k0, k1, k2, k3⟩, ktw, kth, kov, ksg, kel, knu, knm⟩ := ezm_TRFi tf
  obtain ⟨b1, b2, b3, b4, b5, b6, b7, ⟨b8, b8'⟩, b9⟩ := id hB
  refine ezw_aload_n rfl rfl ?_
  refine ezw_iconst (0) rfl rfl ?_
  refine ezm_p0 hT rfl ⟨by decide, by decide⟩ (fun hT => ?_)
  refine ezw_iconst (0) rfl rfl ?_
  refine ezw_istore_n rfl rfl ?_
  refine ezw_iconst (0) rfl rfl ?_
  refine ezw_istore_n rfl rfl ?_
  have L9_2 : ∀ c1 : Int, ezw_in c1 → ∀ y3 : Int, ezw_in y3 → ∀ x86_2 : Int → Int, ∀ x87_2 : Int → Int, ezm_T (0) i2 i3 i7 i8 i13 i18 i19 i20 i25 i29 i30 i31 i36 i37 i38 r73 r74 r75 r76 r77 r78 r79 r80 r81 r82 r83 r84 r85 x86_2 x87_2 r88 r89 r90 r91 r92 r93 r94 r95 → ((0) ≤ c1) → (c1 ≤ z.kT) → (y3 = ezn_ft (ezn_pd (ezn_qc L z) z c) (c1).toNat) → (0 ≤ y3 ∧ y3 < 256) → ezw_E l ρ B xa Hb D cA d ezq_re307 (ezm_m307nQ  e F A i0 i2 i3 i7 i8 i13 i18 i19 i20 i25 i29 i30 i31 i36 i37 i38 r73 r74 r75 r76 r77 r78 r79 r80 r81 r82 r83 r84 r85 r86 r87 r88 r89 r90 r91 r92 r93 r94 r95 z L c) 9 [some (ezw_p 72), some (ezw_i y3), some (ezw_i c1)] [] (ezm_h e F A (0) i2 i3 i7 i8 i13 i18 i19 i20 i25 i29 i30 i31 i36 i37 i38 r73 r74 r75 r76 r77 r78 r79 r80 r81 r82 r83 r84 r85 x86_2 x87_2 r88 r89 r90 r91 r92 r93 r94 r95) := by
    refine ezs_up ?_
    intro c1 hc1 ihc1 y3 hy3 x86_2 x87_2 hT g_2 cb_2 ft_2 fr_2
    refine ezw_iload_n rfl rfl ?_
    refine ezw_aload_n rfl rfl ?_
    refine ezw_call0_0 rfl (by omega) (ezm_at rfl) rfl rfl rfl rfl (ezm_m258 hT (by omega)) ?_
    rintro _ _ ⟨rfl, u5, hu5, p4_0, p4_1, rfl⟩
    refine ezw_icmp_ge rfl rfl hc1 hu5 (fun h14_5 => ?_) (fun h14_5 => ?_)
    · refine ezw_iload_n rfl rfl ?_
      exact ezw_ireturn rfl rfl ⟨(0), x86_2, x87_2, rfl, hT, y3, hy3, (by rw [ft_2, show c1 = z.kT by omega]), rfl⟩
    · refine ezw_iload_n rfl rfl ?_
      refine ezw_aload_n rfl rfl ?_
      refine ezw_iload_n rfl rfl ?_
      refine ezw_call0_1 rfl (by omega) (ezm_at rfl) rfl rfl rfl rfl (ezm_m308n hT (by omega) hc1 tf hB mf lo td tb (by omega)) ?_
      rintro _ _ ⟨x86_6, x87_6, rfl, hT, u7, hu7, an_6, rfl⟩
      have hp9 := an_6
      have pb9 := ezn_pd_b (y := z) (c := c) (ezn_qc_r L z) tb c1
      have hf9 := ezn_ft_r (ezn_pd (ezn_qc L z) z c) (c1).toNat (by omega)
      have ho9 := ezt_or1 (v := y3) (j := c1) 8 (by decide) (by omega) (by omega) (by omega) (by omega)
      refine ezw_lconst (0) rfl rfl ?_
      refine ezw_lcmpE rfl hu7 ⟨by decide, by decide⟩ (fun u8 hu8 => ?_)
      refine ezw_if_le rfl rfl ⟨by omega, by omega⟩ (fun h25_8 => ?_) (fun h25_8 => ?_)
      · refine ezw_iconst (0) rfl rfl ?_
        refine ezw_ior rfl (k := ezw_or y3 (0)) rfl ?_
        refine ezw_istore_n rfl rfl ?_
        refine ezw_iinc (k := c1 + 1) (1) rfl rfl rfl (by omega) rfl ?_
        refine ezw_goto rfl rfl ?_
        exact ezw_keepE [true, true, true] (ihc1 (c1 + 1) (by omega) ⟨by omega, by omega⟩ ((ezw_or y3 (0))) (by
              first
                | exact ⟨by omega, by omega⟩
                | (rw [ezn_or0 (by omega) (by omega)]; exact ⟨by omega, by omega⟩)) x86_6 x87_6 hT (by omega) (by omega) (by
              rw [ezn_ft_s (by omega), ← ft_2]
              first
                | (rw [if_pos (by omega)])
                | (rw [if_neg (by omega)]; exact ezn_or0 (by omega) (by omega))) (by first | omega | (rw [ezn_or0 (by omega) (by omega)]; omega)))
      · refine ezw_iconst (1) rfl rfl ?_
        refine ezw_iload_n rfl rfl ?_
        refine ezw_ishl rfl (by omega) (by omega) (k := (1 * 2 ^ (c1).toNat)) (rfl) ?_
        refine ezw_goto rfl rfl ?_
        refine ezw_ior rfl (k := ezw_or y3 ((1 * 2 ^ (c1).toNat))) rfl ?_
        refine ezw_istore_n rfl rfl ?_
        refine ezw_iinc (k := c1 + 1) (1) rfl rfl rfl (by omega) rfl ?_
        refine ezw_goto rfl rfl ?_
        exact ezw_keepE [true, true, true] (ihc1 (c1 + 1) (by omega) ⟨by omega, by omega⟩ ((ezw_or y3 ((1 * 2 ^ (c1).toNat)))) (by
              first
                | exact ⟨by omega, by omega⟩
                | (rw [ezn_or0 (by omega) (by omega)]; exact ⟨by omega, by omega⟩)) x86_6 x87_6 hT (by omega) (by omega) (by
              rw [ezn_ft_s (by omega), ← ft_2]
              first
                | (rw [if_pos (by omega)])
                | (rw [if_neg (by omega)]; exact ezn_or0 (by omega) (by omega))) (by first | omega | (rw [ezn_or0 (by omega) (by omega)]; omega)))
  exact ezw_keepE [true, true, true] (L9_2 (0) ⟨by decide, by decide⟩ (0) ⟨by decide, by decide⟩ r86 r87 hT (by omega) (by omega) rfl (by omega))
def ezm_m309nQ (e : Bool × Bool) (F : Nat → Nat → Int) (A : Nat → Int → Int) (i0 i2 i3 i7 i8 i13 i18 i19 i20 i25 i29 i30 i31 i36 i37 i38 : Int) (r73 r74 r75 r76 r77 r78 r79 r80 r81 r82 r83 r84 r85 r86 r87 r88 r89 r90 r91 r92 r93 r94 r95 : Int → Int) (z : ezp_D) (L : ezv_LL) (c : Int → Int) (a1 : Int) : Option ezq_V → (Nat → ezq_C) → Prop := fun v g' => ∃ (x0 : Int) (x86 x87 : Int → Int), ezm_h e F A x0 i2 i3 i7 i8 i13 i18 i19 i20 i25 i29 i30 i31 i36 i37 i38 r73 r74 r75 r76 r77 r78 r79 r80 r81 r82 r83 r84 r85 x86 x87 r88 r89 r90 r91 r92 r93 r94 r95 = g' ∧ ezm_T x0 i2 i3 i7 i8 i13 i18 i19 i20 i25 i29 i30 i31 i36 i37 i38 r73 r74 r75 r76 r77 r78 r79 r80 r81 r82 r83 r84 r85 x86 x87 r88 r89 r90 r91 r92 r93 r94 r95 ∧ ∃ u : Int, (ezw_in u) ∧ (u = ezn_li (ezn_qc L z) z c a1) ∧ some (ezw_i u) = v
theorem ezm_m309n {z : ezp_D} {L : ezv_LL} {c : Int → Int} {a1 : Int} (hT : ezm_T i0 i2 i3 i7 i8 i13 i18 i19 i20 i25 i29 i30 i31 i36 i37 i38 r73 r74 r75 r76 r77 r78 r79 r80 r81 r82 r83 r84 r85 r86 r87 r88 r89 r90 r91 r92 r93 r94 r95) (hd : 4 ≤ d) (ha1 : ezw_in a1) (tf : ezm_TRF z i18 r78 r81 r83) (hB : ezp_B z) (mf : ezm_MF L r78 r79 r80) (lo : ezv_LO L) (td : ezn_TD c 0 r88) (tb : ezn_TB c) : ezw_C l ρ B xa Hb D cA 309 d [ezw_p 72, ezw_i a1] (ezm_h e F A i0 i2 i3 i7 i8 i13 i18 i19 i20 i25 i29 i30 i31 i36 i37 i38 r73 r74 r75 r76 r77 r78 r79 r80 r81 r82 r83 r84 r85 r86 r87 r88 r89 r90 r91 r92 r93 r94 r95) (ezm_m309nQ  e F A i0 i2 i3 i7 i8 i13 i18 i19 i20 i25 i29 i30 i31 i36 i37 i38 r73 r74 r75 r76 r77 r78 r79 r80 r81 r82 r83 r84 r85 r86 r87 r88 r89 r90 r91 r92 r93 r94 r95 z L c a1) := by
  refine ezw_met (k := 8) rfl rfl ?_
  obtain ⟨⟨k0, k1, k2, k3⟩, ktw, kth, kov, ksg, kel, knu, knm⟩ := ezm_TRFi tf
  obtain ⟨b1, b2, b3, b4, b5, b6, b7, ⟨b8, b8'⟩, b9⟩ := id hB
  refine ezw_aload_n rfl rfl ?_
  refine ezw_iconst (0) rfl rfl ?_
  refine ezm_p0 hT rfl ⟨by decide, by decide⟩ (fun hT => ?_)
  refine ezw_iconst (-1) rfl rfl ?_
  refine ezw_istore_n rfl rfl ?_
  refine ezw_lconst (0) rfl rfl ?_
  refine ezw_lstore_n rfl rfl ?_
  refine ezw_lconst (0) rfl rfl ?_
  refine ezw_lstore rfl rfl ?_
  refine ezw_iconst (0) rfl rfl ?_
  refine ezw_istore rfl rfl ?_
  have L15_2 : ∀ c1 : Int, ezw_in c1 → ∀ y3 : Int, ezw_in y3 → ∀ y4 : Int, ezw_il y4 → ∀ y5 : Int, ezw_il y5 → ∀ x86_2 : Int → Int, ∀ x87_2 : Int → Int, ezm_T (0) i2 i3 i7 i8 i13 i18 i19 i20 i25 i29 i30 i31 i36 i37 i38 r73 r74 r75 r76 r77 r78 r79 r80 r81 r82 r83 r84 r85 x86_2 x87_2 r88 r89 r90 r91 r92 r93 r94 r95 → ((0) ≤ c1) → (c1 ≤ z.kT) → (y4 = ezn_gr (ezn_pd (ezn_qc L z) z c) (c1).toNat) → (y3 = ezn_bs (ezn_pd (ezn_qc L z) z c) (c1).toNat) → (y5 = ezp_sm (ezn_pd (ezn_qc L z) z c) (c1).toNat) → (-1 ≤ y3 ∧ y3 ≤ 8 ∧ 0 ≤ y4 ∧ y4 ≤ 1000000000000 ∧ 0 ≤ y5 ∧ y5 ≤ 1000000000000 * c1) → ezw_E l ρ B xa Hb D cA d ezq_re309 (ezm_m309nQ  e F A i0 i2 i3 i7 i8 i13 i18 i19 i20 i25 i29 i30 i31 i36 i37 i38 r73 r74 r75 r76 r77 r78 r79 r80 r81 r82 r83 r84 r85 r86 r87 r88 r89 r90 r91 r92 r93 r94 r95 z L c a1) 15 [some (ezw_p 72), some (ezw_i a1), some (ezw_i y3), some (ezw_l y4), none, some (ezw_l y5), none, some (ezw_i c1), none, none] [] (ezm_h e F A (0) i2 i3 i7 i8 i13 i18 i19 i20 i25 i29 i30 i31 i36 i37 i38 r73 r74 r75 r76 r77 r78 r79 r80 r81 r82 r83 r84 r85 x86_2 x87_2 r88 r89 r90 r91 r92 r93 r94 r95) := by
    refine ezs_up ?_
    intro c1 hc1 ihc1 y3 hy3 y4 hy4 y5 hy5 x86_2 x87_2 hT g_2 cb_2 gr_2 bs_2 sm_2 br_2
    refine ezw_iload rfl rfl ?_
    refine ezw_aload_n rfl rfl ?_
    refine ezw_call0_0 rfl (by omega) (ezm_at rfl) rfl rfl rfl rfl (ezm_m258 hT (by omega)) ?_
    rintro _ _ ⟨rfl, u7, hu7, p6_0, p6_1, rfl⟩
    refine ezw_icmp_ge rfl rfl hc1 hu7 (fun h21_7 => ?_) (fun h21_7 => ?_)
    · have hn9 : c1 = z.kT := by omega
      have hbr := ezn_bs_r (ezn_pd (ezn_qc L z) z c) z.kT.toNat
      have hsb := ezn_sm_b (f := (ezn_pd (ezn_qc L z) z c)) (fun k => ezn_pd_b (y := z) (c := c) (ezn_qc_r L z) tb k) z.kT.toNat
      have e1 : y3 = ezn_bs (ezn_pd (ezn_qc L z) z c) z.kT.toNat := by rw [bs_2, hn9]
      have e2 : y4 = ezn_gr (ezn_pd (ezn_qc L z) z c) z.kT.toNat := by rw [gr_2, hn9]
      have e3 : y5 = ezp_sm (ezn_pd (ezn_qc L z) z c) z.kT.toNat := by rw [sm_2, hn9]
      rw [← e1, ← e2] at hbr
      rw [← e3] at hsb
      refine ezw_iload_n rfl rfl ?_
      refine ezw_if_lt rfl rfl hy3 (fun h74_7 => ?_) (fun h74_7 => ?_)
      · refine ezw_iconst (-1) rfl rfl ?_
        exact ezw_ireturn rfl rfl ⟨(0), x86_2, x87_2, rfl, hT, (-1), ⟨by decide, by decide⟩, (by
              unfold ezn_li
              rw [← e1]
              (repeat (first | rw [if_pos (by omega)] | rw [if_neg (by omega)]))
              try first | omega | (unfold ezn_ml; rw [← e2, ← e3]; congr 1; omega)), rfl⟩
      · refine ezw_iload_n rfl rfl ?_
        refine ezw_iconst (0) rfl rfl ?_
        refine ezw_iconst (1) rfl rfl ?_
        refine ezw_call2_3 rfl (by omega) rfl rfl (ezm_m236a hT (by omega) ha1 ⟨by decide, by decide⟩ ⟨by decide, by decide⟩) ?_
        rintro _ _ ⟨rfl, u9, hu9, p8_0, p8_1, rfl⟩
        refine ezw_if_ne rfl rfl ⟨by omega, by omega⟩ (fun h83_9 => ?_) (fun h83_9 => ?_)
        · refine ezw_iload_n rfl rfl ?_
          refine ezw_if_ne rfl rfl ha1 (fun h89_9 => ?_) (fun h89_9 => ?_)
          · have hga := hbr.2.2.2.2.1 (by omega)
            have hle := hsb.2.2 y3 (by omega) (by omega)
            have hdv : (1000000 * y4) / y5 ≤ 1000000 ∧ 0 ≤ (1000000 * y4) / y5 := by
              constructor
              · exact Int.ediv_le_of_le_mul (by omega) (by omega)
              · exact Int.ediv_nonneg (by omega) (by omega)
            refine ezw_lload_n rfl rfl ?_
            refine ezw_ldc2_w (1000000) rfl rfl ?_
            refine ezw_lmul (k := 1000000 * y4) rfl (by omega) ?_
            refine ezw_lload rfl rfl ?_
            refine ezw_ldiv rfl ⟨by omega, by omega⟩ hy5 (by omega) (k := ((1000000 * y4) / y5)) (Int.tdiv_eq_ediv_of_nonneg (by omega)) ?_
            refine ezw_l2i rfl rfl ?_
            exact ezw_ireturn rfl rfl ⟨(0), x86_2, x87_2, rfl, hT, ((1000000 * y4) / y5), ⟨by omega, by omega⟩, (by
                  unfold ezn_li
                  rw [← e1]
                  (repeat (first | rw [if_pos (by omega)] | rw [if_neg (by omega)]))
                  try first | omega | (unfold ezn_ml; rw [← e2, ← e3]; congr 1; omega)), rfl⟩
          · refine ezw_iload_n rfl rfl ?_
            refine ezw_goto rfl rfl ?_
            exact ezw_ireturn rfl rfl ⟨(0), x86_2, x87_2, rfl, hT, y3, hy3, (by
                  unfold ezn_li
                  rw [← e1]
                  (repeat (first | rw [if_pos (by omega)] | rw [if_neg (by omega)]))
                  try first | omega | (unfold ezn_ml; rw [← e2, ← e3]; congr 1; omega)), rfl⟩
        · refine ezw_iconst (-1) rfl rfl ?_
          exact ezw_ireturn rfl rfl ⟨(0), x86_2, x87_2, rfl, hT, (-1), ⟨by decide, by decide⟩, (by
                unfold ezn_li
                rw [← e1]
                (repeat (first | rw [if_pos (by omega)] | rw [if_neg (by omega)]))
                try first | omega | (unfold ezn_ml; rw [← e2, ← e3]; congr 1; omega)), rfl⟩
    · refine ezw_aload_n rfl rfl ?_
      refine ezw_iload rfl rfl ?_
      refine ezw_call0_1 rfl (by omega) (ezm_at rfl) rfl rfl rfl rfl (ezm_m308n hT (by omega) hc1 tf hB mf lo td tb (by omega)) ?_
      rintro _ _ ⟨x86_10, x87_10, rfl, hT, u11, hu11, an_10, rfl⟩
      have hp9 := an_10
      have pb9 := ezn_pd_b (y := z) (c := c) (ezn_qc_r L z) tb c1
      have g1 := ezn_gr_s (f := (ezn_pd (ezn_qc L z) z c)) (i := c1) (by omega)
      have g2 := ezn_bs_s (f := (ezn_pd (ezn_qc L z) z c)) (i := c1) (by omega)
      have g3 := ezp_sm_n (f := (ezn_pd (ezn_qc L z) z c)) (k := c1) (by omega)
      rw [← hp9] at g1 g2 g3
      rw [← gr_2] at g1 g2
      refine ezw_lstore rfl rfl ?_
      refine ezw_lload rfl rfl ?_
      refine ezw_lload rfl rfl ?_
      refine ezw_ladd (k := y5 + u11) rfl (by omega) ?_
      refine ezw_lstore rfl rfl ?_
      refine ezw_lload rfl rfl ?_
      refine ezw_lload_n rfl rfl ?_
      refine ezw_lcmpE rfl hu11 hy4 (fun u12 hu12 => ?_)
      refine ezw_if_le rfl rfl ⟨by omega, by omega⟩ (fun h43_12 => ?_) (fun h43_12 => ?_)
      · refine ezw_iload_n rfl rfl ?_
        refine ezw_istore_n rfl rfl ?_
        refine ezw_lload rfl rfl ?_
        refine ezw_lload_n rfl rfl ?_
        refine ezw_lcmpE rfl hu11 hy4 (fun u13 hu13 => ?_)
        refine ezw_if_le rfl rfl ⟨by omega, by omega⟩ (fun h57_13 => ?_) (fun h57_13 => ?_)
        · refine ezw_lload_n rfl rfl ?_
          refine ezw_lstore_n rfl rfl ?_
          refine ezw_iinc (k := c1 + 1) (1) rfl rfl rfl (by omega) rfl ?_
          refine ezw_goto rfl rfl ?_
          exact ezw_keepE [true, true, true, true, false, true, false, true, false, false] (ihc1 (c1 + 1) (by omega) ⟨by omega, by omega⟩ y3 hy3 y4 hy4 (y5 + u11) ⟨by omega, by omega⟩ x86_10 x87_10 hT (by omega) (by omega) (by
                rw [g1]
                first
                  | (exfalso; omega)
                  | (rw [if_pos (by omega)])
                  | (rw [if_neg (by omega)])) (by
                rw [g2, ← bs_2]
                first
                  | (exfalso; omega)
                  | (rw [if_pos (by omega)])
                  | (rw [if_neg (by omega)])) (by rw [g3, ← sm_2]; try omega) (by omega))
        · refine ezw_lload rfl rfl ?_
          refine ezw_goto rfl rfl ?_
          refine ezw_lstore_n rfl rfl ?_
          refine ezw_iinc (k := c1 + 1) (1) rfl rfl rfl (by omega) rfl ?_
          refine ezw_goto rfl rfl ?_
          exact ezw_keepE [true, true, true, true, false, true, false, true, false, false] (ihc1 (c1 + 1) (by omega) ⟨by omega, by omega⟩ y3 hy3 u11 hu11 (y5 + u11) ⟨by omega, by omega⟩ x86_10 x87_10 hT (by omega) (by omega) (by
                rw [g1]
                first
                  | (exfalso; omega)
                  | (rw [if_pos (by omega)])
                  | (rw [if_neg (by omega)])) (by
                rw [g2, ← bs_2]
                first
                  | (exfalso; omega)
                  | (rw [if_pos (by omega)])
                  | (rw [if_neg (by omega)])) (by rw [g3, ← sm_2]; try omega) (by omega))
      · refine ezw_iload rfl rfl ?_
        refine ezw_goto rfl rfl ?_
        refine ezw_istore_n rfl rfl ?_
        refine ezw_lload rfl rfl ?_
        refine ezw_lload_n rfl rfl ?_
        refine ezw_lcmpE rfl hu11 hy4 (fun u14 hu14 => ?_)
        refine ezw_if_le rfl rfl ⟨by omega, by omega⟩ (fun h57_14 => ?_) (fun h57_14 => ?_)
        · refine ezw_lload_n rfl rfl ?_
          refine ezw_lstore_n rfl rfl ?_
          refine ezw_iinc (k := c1 + 1) (1) rfl rfl rfl (by omega) rfl ?_
          refine ezw_goto rfl rfl ?_
          exact ezw_keepE [true, true, true, true, false, true, false, true, false, false] (ihc1 (c1 + 1) (by omega) ⟨by omega, by omega⟩ c1 hc1 y4 hy4 (y5 + u11) ⟨by omega, by omega⟩ x86_10 x87_10 hT (by omega) (by omega) (by
                rw [g1]
                first
                  | (exfalso; omega)
                  | (rw [if_pos (by omega)])
                  | (rw [if_neg (by omega)])) (by
                rw [g2, ← bs_2]
                first
                  | (exfalso; omega)
                  | (rw [if_pos (by omega)])
                  | (rw [if_neg (by omega)])) (by rw [g3, ← sm_2]; try omega) (by omega))
        · refine ezw_lload rfl rfl ?_
          refine ezw_goto rfl rfl ?_
          refine ezw_lstore_n rfl rfl ?_
          refine ezw_iinc (k := c1 + 1) (1) rfl rfl rfl (by omega) rfl ?_
          refine ezw_goto rfl rfl ?_
          exact ezw_keepE [true, true, true, true, false, true, false, true, false, false] (ihc1 (c1 + 1) (by omega) ⟨by omega, by omega⟩ c1 hc1 u11 hu11 (y5 + u11) ⟨by omega, by omega⟩ x86_10 x87_10 hT (by omega) (by omega) (by
                rw [g1]
                first
                  | (exfalso; omega)
                  | (rw [if_pos (by omega)])
                  | (rw [if_neg (by omega)])) (by
                rw [g2, ← bs_2]
                first
                  | (exfalso; omega)
                  | (rw [if_pos (by omega)])
                  | (rw [if_neg (by omega)])) (by rw [g3, ← sm_2]; try omega) (by omega))
  exact ezw_keepE [true, true, true, true, false, true, false, true, false, false] (L15_2 (0) ⟨by decide, by decide⟩ (-1) ⟨by decide, by decide⟩ (0) ⟨by decide, by decide⟩ (0) ⟨by decide, by decide⟩ r86 r87 hT (by omega) (by omega) rfl rfl rfl (by omega))
def ezm_m310nQ (e : Bool × Bool) (F : Nat → Nat → Int) (A : Nat → Int → Int) (i0 i2 i3 i7 i8 i13 i18 i19 i20 i25 i29 i30 i31 i36 i37 i38 : Int) (r73 r74 r75 r76 r77 r78 r79 r80 r81 r82 r83 r84 r85 r86 r87 r88 r89 r90 r91 r92 r93 r94 r95 : Int → Int) (z : ezp_D) (L : ezv_LL) (c : Int → Int) : Option ezq_V → (Nat → ezq_C) → Prop := fun v g' => ∃ (x0 : Int) (x86 x87 : Int → Int), ezm_h e F A x0 i2 i3 i7 i8 i13 i18 i19 i20 i25 i29 i30 i31 i36 i37 i38 r73 r74 r75 r76 r77 r78 r79 r80 r81 r82 r83 r84 r85 x86 x87 r88 r89 r90 r91 r92 r93 r94 r95 = g' ∧ ezm_T x0 i2 i3 i7 i8 i13 i18 i19 i20 i25 i29 i30 i31 i36 i37 i38 r73 r74 r75 r76 r77 r78 r79 r80 r81 r82 r83 r84 r85 x86 x87 r88 r89 r90 r91 r92 r93 r94 r95 ∧ ∃ u : Int, (ezw_in u) ∧ (u = ezn_te (ezn_qc L z) z c) ∧ some (ezw_i u) = v
theorem ezm_m310n {z : ezp_D} {L : ezv_LL} {c : Int → Int} (hT : ezm_T i0 i2 i3 i7 i8 i13 i18 i19 i20 i25 i29 i30 i31 i36 i37 i38 r73 r74 r75 r76 r77 r78 r79 r80 r81 r82 r83 r84 r85 r86 r87 r88 r89 r90 r91 r92 r93 r94 r95) (hd : 4 ≤ d) (tf : ezm_TRF z i18 r78 r81 r83) (hB : ezp_B z) (mf : ezm_MF L r78 r79 r80) (lo : ezv_LO L) (td : ezn_TD c 0 r88) (tb : ezn_TB c) : ezw_C l ρ B xa Hb D cA 310 d [ezw_p 72] (ezm_h e F A i0 i2 i3 i7 i8 i13 i18 i19 i20 i25 i29 i30 i31 i36 i37 i38 r73 r74 r75 r76 r77 r78 r79 r80 r81 r82 r83 r84 r85 r86 r87 r88 r89 r90 r91 r92 r93 r94 r95) (ezm_m310nQ  e F A i0 i2 i3 i7 i8 i13 i18 i19 i20 i25 i29 i30 i31 i36 i37 i38 r73 r74 r75 r76 r77 r78 r79 r80 r81 r82 r83 r84 r85 r86 r87 r88 r89 r90 r91 r92 r93 r94 r95 z L c) := by
  refine ezw_met (k := 12) rfl rfl ?_
  obtain ⟨⟨k0, k1, k2, k3⟩, ktw, kth, kov, ksg, kel, knu, knm⟩ := ezm_TRFi tf
  obtain ⟨b1, b2, b3, b4, b5, b6, b7, ⟨b8, b8'⟩, b9⟩ := id hB
  refine ezw_aload_n rfl rfl ?_
  refine ezw_iconst (0) rfl rfl ?_
  refine ezm_p0 hT rfl ⟨by decide, by decide⟩ (fun hT => ?_)
  refine ezw_iconst (-1) rfl rfl ?_
  refine ezw_istore_n rfl rfl ?_
  refine ezw_lconst (0) rfl rfl ?_
  refine ezw_lstore_n rfl rfl ?_
  refine ezw_iconst (0) rfl rfl ?_
  refine ezw_istore rfl rfl ?_
  have L12_2 : ∀ c1 : Int, ezw_in c1 → ∀ y3 : Int, ezw_in y3 → ∀ y4 : Int, ezw_il y4 → ∀ x86_2 : Int → Int, ∀ x87_2 : Int → Int, ezm_T (0) i2 i3 i7 i8 i13 i18 i19 i20 i25 i29 i30 i31 i36 i37 i38 r73 r74 r75 r76 r77 r78 r79 r80 r81 r82 r83 r84 r85 x86_2 x87_2 r88 r89 r90 r91 r92 r93 r94 r95 → ((0) ≤ c1) → (c1 ≤ 4) → (y3 = ezn_bs (ezn_sh (ezn_qc L z) z c) (c1).toNat) → (y4 = ezn_gr (ezn_sh (ezn_qc L z) z c) (c1).toNat) → (-1 ≤ y3 ∧ y3 ≤ 4 ∧ 0 ≤ y4 ∧ y4 ≤ 20000000000000) → ezw_E l ρ B xa Hb D cA d ezq_re310 (ezm_m310nQ  e F A i0 i2 i3 i7 i8 i13 i18 i19 i20 i25 i29 i30 i31 i36 i37 i38 r73 r74 r75 r76 r77 r78 r79 r80 r81 r82 r83 r84 r85 r86 r87 r88 r89 r90 r91 r92 r93 r94 r95 z L c) 12 [some (ezw_p 72), some (ezw_i y3), some (ezw_l y4), none, some (ezw_i c1), none, none, none, none, none, none, none, none] [] (ezm_h e F A (0) i2 i3 i7 i8 i13 i18 i19 i20 i25 i29 i30 i31 i36 i37 i38 r73 r74 r75 r76 r77 r78 r79 r80 r81 r82 r83 r84 r85 x86_2 x87_2 r88 r89 r90 r91 r92 r93 r94 r95) := by
    refine ezs_up ?_
    intro c1 hc1 ihc1 y3 hy3 y4 hy4 x86_2 x87_2 hT g_2 cb_2 ob_2 og_2 or_2
    refine ezw_iload rfl rfl ?_
    refine ezw_iconst (4) rfl rfl ?_
    refine ezw_icmp_ge rfl rfl hc1 ⟨by decide, by decide⟩ (fun h15_4 => ?_) (fun h15_4 => ?_)
    · refine ezw_iload_n rfl rfl ?_
      exact ezw_ireturn rfl rfl ⟨(0), x86_2, x87_2, rfl, hT, y3, hy3, (by
            rw [ob_2, show c1 = 4 by omega]
            rfl), rfl⟩
    · refine ezw_lconst (0) rfl rfl ?_
      refine ezw_lstore rfl rfl ?_
      refine ezw_lconst (0) rfl rfl ?_
      refine ezw_lstore rfl rfl ?_
      refine ezw_iconst (0) rfl rfl ?_
      refine ezw_istore rfl rfl ?_
      have L27_6 : ∀ c5 : Int, ezw_in c5 → ∀ y7 : Int, ezw_il y7 → ∀ y8 : Int, ezw_il y8 → ∀ x86_6 : Int → Int, ∀ x87_6 : Int → Int, ezm_T (0) i2 i3 i7 i8 i13 i18 i19 i20 i25 i29 i30 i31 i36 i37 i38 r73 r74 r75 r76 r77 r78 r79 r80 r81 r82 r83 r84 r85 x86_6 x87_6 r88 r89 r90 r91 r92 r93 r94 r95 → ((0) ≤ c5) → (c5 ≤ z.kT) → (y7 = ezn_gr (fun t => ezn_pd (ezn_qc L z) z c t * ezn_r0 (ezn_qc L z) z t c1) (c5).toNat) → (y8 = ezn_gr (fun t => ezn_pd (ezn_qc L z) z c t * (10 - ezn_r0 (ezn_qc L z) z t c1)) (c5).toNat) → (0 ≤ y7 ∧ y7 ≤ 10000000000000 ∧ 0 ≤ y8 ∧ y8 ≤ 10000000000000) → ezw_E l ρ B xa Hb D cA d ezq_re310 (ezm_m310nQ  e F A i0 i2 i3 i7 i8 i13 i18 i19 i20 i25 i29 i30 i31 i36 i37 i38 r73 r74 r75 r76 r77 r78 r79 r80 r81 r82 r83 r84 r85 r86 r87 r88 r89 r90 r91 r92 r93 r94 r95 z L c) 27 [some (ezw_p 72), some (ezw_i y3), some (ezw_l y4), none, some (ezw_i c1), some (ezw_l y7), none, some (ezw_l y8), none, some (ezw_i c5), none, none, none] [] (ezm_h e F A (0) i2 i3 i7 i8 i13 i18 i19 i20 i25 i29 i30 i31 i36 i37 i38 r73 r74 r75 r76 r77 r78 r79 r80 r81 r82 r83 r84 r85 x86_6 x87_6 r88 r89 r90 r91 r92 r93 r94 r95) := by
        refine ezs_up ?_
        intro c5 hc5 ihc5 y7 hy7 y8 hy8 x86_6 x87_6 hT g_6 cb_6 gr_6 gn_6 br_6
        refine ezw_iload rfl rfl ?_
        refine ezw_aload_n rfl rfl ?_
        refine ezw_call0_0 rfl (by omega) (ezm_at rfl) rfl rfl rfl rfl (ezm_m258 hT (by omega)) ?_
        rintro _ _ ⟨rfl, u10, hu10, p9_0, p9_1, rfl⟩
        refine ezw_icmp_ge rfl rfl hc5 hu10 (fun h33_10 => ?_) (fun h33_10 => ?_)
        · have hsh : y7 + y8 = ezn_sh (ezn_qc L z) z c c1 := by
            unfold ezn_sh
            rw [gr_6, gn_6, show c5 = z.kT by omega]
          have k1 := ezn_gr_s (f := (ezn_sh (ezn_qc L z) z c)) (i := c1) (by omega)
          have k2 := ezn_bs_s (f := (ezn_sh (ezn_qc L z) z c)) (i := c1) (by omega)
          rw [← hsh, ← og_2] at k1 k2
          refine ezw_lload rfl rfl ?_
          refine ezw_lload rfl rfl ?_
          refine ezw_ladd (k := y7 + y8) rfl (by omega) ?_
          refine ezw_lload_n rfl rfl ?_
          refine ezw_lcmpE rfl ⟨by omega, by omega⟩ hy4 (fun u11 hu11 => ?_)
          refine ezw_if_le rfl rfl ⟨by omega, by omega⟩ (fun h126_11 => ?_) (fun h126_11 => ?_)
          · refine ezw_iload_n rfl rfl ?_
            refine ezw_istore_n rfl rfl ?_
            refine ezw_lload rfl rfl ?_
            refine ezw_lload rfl rfl ?_
            refine ezw_ladd (k := y7 + y8) rfl (by omega) ?_
            refine ezw_lload_n rfl rfl ?_
            refine ezw_lcmpE rfl ⟨by omega, by omega⟩ hy4 (fun u12 hu12 => ?_)
            refine ezw_if_le rfl rfl ⟨by omega, by omega⟩ (fun h143_12 => ?_) (fun h143_12 => ?_)
            · refine ezw_lload_n rfl rfl ?_
              refine ezw_lstore_n rfl rfl ?_
              refine ezw_iinc (k := c1 + 1) (1) rfl rfl rfl (by omega) rfl ?_
              refine ezw_goto rfl rfl ?_
              exact ezw_keepE [true, true, true, false, true, false, false, false, false, false, false, false, false] (ihc1 (c1 + 1) (by omega) ⟨by omega, by omega⟩ y3 hy3 y4 hy4 x86_6 x87_6 hT (by omega) (by omega) (by
                    rw [k2]
                    first
                      | (exfalso; omega)
                      | (rw [if_pos (by omega)])
                      | (rw [if_neg (by omega), ← ob_2])) (by
                    rw [k1]
                    first
                      | (exfalso; omega)
                      | (rw [if_pos (by omega)])
                      | (rw [if_neg (by omega)])) (by omega))
            · refine ezw_lload rfl rfl ?_
              refine ezw_lload rfl rfl ?_
              refine ezw_ladd (k := y7 + y8) rfl (by omega) ?_
              refine ezw_goto rfl rfl ?_
              refine ezw_lstore_n rfl rfl ?_
              refine ezw_iinc (k := c1 + 1) (1) rfl rfl rfl (by omega) rfl ?_
              refine ezw_goto rfl rfl ?_
              exact ezw_keepE [true, true, true, false, true, false, false, false, false, false, false, false, false] (ihc1 (c1 + 1) (by omega) ⟨by omega, by omega⟩ y3 hy3 (y7 + y8) ⟨by omega, by omega⟩ x86_6 x87_6 hT (by omega) (by omega) (by
                    rw [k2]
                    first
                      | (exfalso; omega)
                      | (rw [if_pos (by omega)])
                      | (rw [if_neg (by omega), ← ob_2])) (by
                    rw [k1]
                    first
                      | (exfalso; omega)
                      | (rw [if_pos (by omega)])
                      | (rw [if_neg (by omega)])) (by omega))
          · refine ezw_iload rfl rfl ?_
            refine ezw_goto rfl rfl ?_
            refine ezw_istore_n rfl rfl ?_
            refine ezw_lload rfl rfl ?_
            refine ezw_lload rfl rfl ?_
            refine ezw_ladd (k := y7 + y8) rfl (by omega) ?_
            refine ezw_lload_n rfl rfl ?_
            refine ezw_lcmpE rfl ⟨by omega, by omega⟩ hy4 (fun u13 hu13 => ?_)
            refine ezw_if_le rfl rfl ⟨by omega, by omega⟩ (fun h143_13 => ?_) (fun h143_13 => ?_)
            · refine ezw_lload_n rfl rfl ?_
              refine ezw_lstore_n rfl rfl ?_
              refine ezw_iinc (k := c1 + 1) (1) rfl rfl rfl (by omega) rfl ?_
              refine ezw_goto rfl rfl ?_
              exact ezw_keepE [true, true, true, false, true, false, false, false, false, false, false, false, false] (ihc1 (c1 + 1) (by omega) ⟨by omega, by omega⟩ c1 hc1 y4 hy4 x86_6 x87_6 hT (by omega) (by omega) (by
                    rw [k2]
                    first
                      | (exfalso; omega)
                      | (rw [if_pos (by omega)])
                      | (rw [if_neg (by omega), ← ob_2])) (by
                    rw [k1]
                    first
                      | (exfalso; omega)
                      | (rw [if_pos (by omega)])
                      | (rw [if_neg (by omega)])) (by omega))
            · refine ezw_lload rfl rfl ?_
              refine ezw_lload rfl rfl ?_
              refine ezw_ladd (k := y7 + y8) rfl (by omega) ?_
              refine ezw_goto rfl rfl ?_
              refine ezw_lstore_n rfl rfl ?_
              refine ezw_iinc (k := c1 + 1) (1) rfl rfl rfl (by omega) rfl ?_
              refine ezw_goto rfl rfl ?_
              exact ezw_keepE [true, true, true, false, true, false, false, false, false, false, false, false, false] (ihc1 (c1 + 1) (by omega) ⟨by omega, by omega⟩ c1 hc1 (y7 + y8) ⟨by omega, by omega⟩ x86_6 x87_6 hT (by omega) (by omega) (by
                    rw [k2]
                    first
                      | (exfalso; omega)
                      | (rw [if_pos (by omega)])
                      | (rw [if_neg (by omega), ← ob_2])) (by
                    rw [k1]
                    first
                      | (exfalso; omega)
                      | (rw [if_pos (by omega)])
                      | (rw [if_neg (by omega)])) (by omega))
        · refine ezw_aload_n rfl rfl ?_
          refine ezw_iconst (0) rfl rfl ?_
          refine ezw_iload rfl rfl ?_
          refine ezw_iconst (0) rfl rfl ?_
          refine ezw_iload rfl rfl ?_
          refine ezw_iconst (0) rfl rfl ?_
          refine ezw_call0_5 rfl (by omega) (ezm_at rfl) rfl rfl rfl rfl (ezm_m269n hT (by omega) ⟨by decide, by decide⟩ hc5 ⟨by decide, by decide⟩ hc1 ⟨by decide, by decide⟩ (by omega) tf hB mf lo) ?_
          rintro _ _ ⟨x86_14, x87_14, rfl, hT, u15, hu15, an_14, rfl⟩
          refine ezw_istore rfl rfl ?_
          refine ezw_aload_n rfl rfl ?_
          refine ezw_iload rfl rfl ?_
          refine ezw_call0_1 rfl (by omega) (ezm_at rfl) rfl rfl rfl rfl (ezm_m308n hT (by omega) hc5 tf hB mf lo td tb (by omega)) ?_
          rintro _ _ ⟨x86_16, x87_16, rfl, hT, u17, hu17, an_16, rfl⟩
          refine ezw_lstore rfl rfl ?_
          have hp9 := an_16
          have hr9 : u15 = ezn_r0 (ezn_qc L z) z c5 c1 := an_14
          have pb9 := ezn_pd_b (y := z) (c := c) (ezn_qc_r L z) tb c5
          have hq9 : 0 ≤ ezn_r0 (ezn_qc L z) z c5 c1 ∧ ezn_r0 (ezn_qc L z) z c5 c1 ≤ 10 := ezn_qc_r L z _ _ _ _ _
          have m1 : 0 ≤ u17 * u15 ∧ u17 * u15 ≤ 10000000000000 := by
            constructor
            · exact Int.mul_nonneg (by omega) (by omega)
            · exact Int.le_trans (Int.mul_le_mul (c := 1000000000000) (d := 10) (by omega) (by omega) (by omega) (by decide)) (by decide)
          have m2 : 0 ≤ u17 * (10 - u15) ∧ u17 * (10 - u15) ≤ 10000000000000 := by
            constructor
            · exact Int.mul_nonneg (by omega) (by omega)
            · exact Int.le_trans (Int.mul_le_mul (c := 1000000000000) (d := 10) (by omega) (by omega) (by omega) (by decide)) (by decide)
          have g1 := ezn_gr_s (f := (fun t => ezn_pd (ezn_qc L z) z c t * ezn_r0 (ezn_qc L z) z t c1)) (i := c5) (by omega)
          have g2 := ezn_gr_s (f := (fun t => ezn_pd (ezn_qc L z) z c t * (10 - ezn_r0 (ezn_qc L z) z t c1))) (i := c5) (by omega)
          simp only [← hp9, ← hr9] at g1 g2
          rw [show (10 - u15 : Int) = -u15 + 10 by omega] at m2 g2
          rw [← gr_6] at g1
          rw [← gn_6] at g2
          refine ezw_lload rfl rfl ?_
          refine ezw_iload rfl rfl ?_
          refine ezw_i2l rfl hu15 rfl ?_
          refine ezw_lmul (k := (u17 * u15)) rfl rfl ?_
          refine ezw_lload rfl rfl ?_
          refine ezw_lcmpE rfl ⟨by omega, by omega⟩ hy7 (fun u18 hu18 => ?_)
          refine ezw_if_le rfl rfl ⟨by omega, by omega⟩ (fun h66_18 => ?_) (fun h66_18 => ?_)
          · refine ezw_lload rfl rfl ?_
            refine ezw_lstore rfl rfl ?_
            refine ezw_lload rfl rfl ?_
            refine ezw_bipush (10) rfl rfl ?_
            refine ezw_iload rfl rfl ?_
            refine ezw_isub (k := -u15 + 10) rfl (by omega) ?_
            refine ezw_i2l rfl ⟨by omega, by omega⟩ rfl ?_
            refine ezw_lmul (k := (u17 * (-u15 + 10))) rfl rfl ?_
            refine ezw_lload rfl rfl ?_
            refine ezw_lcmpE rfl ⟨by omega, by omega⟩ hy8 (fun u19 hu19 => ?_)
            refine ezw_if_le rfl rfl ⟨by omega, by omega⟩ (fun h94_19 => ?_) (fun h94_19 => ?_)
            · refine ezw_lload rfl rfl ?_
              refine ezw_lstore rfl rfl ?_
              refine ezw_iinc (k := c5 + 1) (1) rfl rfl rfl (by omega) rfl ?_
              refine ezw_goto rfl rfl ?_
              exact ezw_keepE [true, true, true, false, true, true, false, true, false, true, false, false, false] (ihc5 (c5 + 1) (by omega) ⟨by omega, by omega⟩ y7 hy7 y8 hy8 x86_16 x87_16 hT (by omega) (by omega) (by
                    rw [g1]
                    first
                      | (exfalso; omega)
                      | (rw [if_pos (by omega)])
                      | (rw [if_neg (by omega)])) (by
                    rw [g2]
                    first
                      | (exfalso; omega)
                      | (rw [if_pos (by omega)])
                      | (rw [if_neg (by omega)])) (by omega))
            · refine ezw_lload rfl rfl ?_
              refine ezw_bipush (10) rfl rfl ?_
              refine ezw_iload rfl rfl ?_
              refine ezw_isub (k := -u15 + 10) rfl (by omega) ?_
              refine ezw_i2l rfl ⟨by omega, by omega⟩ rfl ?_
              refine ezw_lmul (k := (u17 * (-u15 + 10))) rfl rfl ?_
              refine ezw_goto rfl rfl ?_
              refine ezw_lstore rfl rfl ?_
              refine ezw_iinc (k := c5 + 1) (1) rfl rfl rfl (by omega) rfl ?_
              refine ezw_goto rfl rfl ?_
              exact ezw_keepE [true, true, true, false, true, true, false, true, false, true, false, false, false] (ihc5 (c5 + 1) (by omega) ⟨by omega, by omega⟩ y7 hy7 ((u17 * (-u15 + 10))) ⟨by omega, by omega⟩ x86_16 x87_16 hT (by omega) (by omega) (by
                    rw [g1]
                    first
                      | (exfalso; omega)
                      | (rw [if_pos (by omega)])
                      | (rw [if_neg (by omega)])) (by
                    rw [g2]
                    first
                      | (exfalso; omega)
                      | (rw [if_pos (by omega)])
                      | (rw [if_neg (by omega)])) (by omega))
          · refine ezw_lload rfl rfl ?_
            refine ezw_iload rfl rfl ?_
            refine ezw_i2l rfl hu15 rfl ?_
            refine ezw_lmul (k := (u17 * u15)) rfl rfl ?_
            refine ezw_goto rfl rfl ?_
            refine ezw_lstore rfl rfl ?_
            refine ezw_lload rfl rfl ?_
            refine ezw_bipush (10) rfl rfl ?_
            refine ezw_iload rfl rfl ?_
            refine ezw_isub (k := -u15 + 10) rfl (by omega) ?_
            refine ezw_i2l rfl ⟨by omega, by omega⟩ rfl ?_
            refine ezw_lmul (k := (u17 * (-u15 + 10))) rfl rfl ?_
            refine ezw_lload rfl rfl ?_
            refine ezw_lcmpE rfl ⟨by omega, by omega⟩ hy8 (fun u20 hu20 => ?_)
            refine ezw_if_le rfl rfl ⟨by omega, by omega⟩ (fun h94_20 => ?_) (fun h94_20 => ?_)
            · refine ezw_lload rfl rfl ?_
              refine ezw_lstore rfl rfl ?_
              refine ezw_iinc (k := c5 + 1) (1) rfl rfl rfl (by omega) rfl ?_
              refine ezw_goto rfl rfl ?_
              exact ezw_keepE [true, true, true, false, true, true, false, true, false, true, false, false, false] (ihc5 (c5 + 1) (by omega) ⟨by omega, by omega⟩ (u17 * u15) ⟨by omega, by omega⟩ y8 hy8 x86_16 x87_16 hT (by omega) (by omega) (by
                    rw [g1]
                    first
                      | (exfalso; omega)
                      | (rw [if_pos (by omega)])
                      | (rw [if_neg (by omega)])) (by
                    rw [g2]
                    first
                      | (exfalso; omega)
                      | (rw [if_pos (by omega)])
                      | (rw [if_neg (by omega)])) (by omega))
            · refine ezw_lload rfl rfl ?_
              refine ezw_bipush (10) rfl rfl ?_
              refine ezw_iload rfl rfl ?_
              refine ezw_isub (k := -u15 + 10) rfl (by omega) ?_
              refine ezw_i2l rfl ⟨by omega, by omega⟩ rfl ?_
              refine ezw_lmul (k := (u17 * (-u15 + 10))) rfl rfl ?_
              refine ezw_goto rfl rfl ?_
              refine ezw_lstore rfl rfl ?_
              refine ezw_iinc (k := c5 + 1) (1) rfl rfl rfl (by omega) rfl ?_
              refine ezw_goto rfl rfl ?_
              exact ezw_keepE [true, true, true, false, true, true, false, true, false, true, false, false, false] (ihc5 (c5 + 1) (by omega) ⟨by omega, by omega⟩ (u17 * u15) ⟨by omega, by omega⟩ ((u17 * (-u15 + 10))) ⟨by omega, by omega⟩ x86_16 x87_16 hT (by omega) (by omega) (by
                    rw [g1]
                    first
                      | (exfalso; omega)
                      | (rw [if_pos (by omega)])
                      | (rw [if_neg (by omega)])) (by
                    rw [g2]
                    first
                      | (exfalso; omega)
                      | (rw [if_pos (by omega)])
                      | (rw [if_neg (by omega)])) (by omega))
      exact ezw_keepE [true, true, true, false, true, true, false, true, false, true, false, false, false] (L27_6 (0) ⟨by decide, by decide⟩ (0) ⟨by decide, by decide⟩ (0) ⟨by decide, by decide⟩ x86_2 x87_2 hT (by omega) (by omega) rfl rfl (by omega))
  exact ezw_keepE [true, true, true, false, true, false, false, false, false, false, false, false, false] (L12_2 (0) ⟨by decide, by decide⟩ (-1) ⟨by decide, by decide⟩ (0) ⟨by decide, by decide⟩ r86 r87 hT (by omega) (by omega) rfl rfl (by omega))
end KM6
