/-! ===== the model: told, marks ===== -/
section KM6
variable {l : Launch} {ρ : ezq_E} {B : Nat} {xa : Nat → Option Nat} {Hb : Heap} {D : va_G} {cA : Nat → ClassId} {d : Nat} {e : Bool × Bool} {F : Nat → Nat → Int} {A : Nat → Int → Int} {i0 i2 i3 i7 i8 i13 i18 i19 i20 i25 i29 i30 i31 i36 i37 i38 : Int} {r73 r74 r75 r76 r77 r78 r79 r80 r81 r82 r83 r84 r85 r86 r87 r88 r89 r90 r91 r92 r93 r94 r95 : Int → Int}
def ezm_m306nQ (e : Bool × Bool) (F : Nat → Nat → Int) (A : Nat → Int → Int) (i0 i2 i3 i7 i8 i13 i18 i19 i20 i25 i29 i30 i31 i36 i37 i38 : Int) (r73 r74 r75 r76 r77 r78 r79 r80 r81 r82 r83 r84 r85 r86 r87 r88 r89 r90 r91 r92 r93 r94 r95 : Int → Int) (c : Int → Int) (a1 : Int) (a2 : Int) : Option ezq_V → (Nat → ezq_C) → Prop := fun v g' => ∃ (x0 : Int) (x88 : Int → Int), ezm_h e F A x0 i2 i3 i7 i8 i13 i18 i19 i20 i25 i29 i30 i31 i36 i37 i38 r73 r74 r75 r76 r77 r78 r79 r80 r81 r82 r83 r84 r85 r86 r87 x88 r89 r90 r91 r92 r93 r94 r95 = g' ∧ ezm_T x0 i2 i3 i7 i8 i13 i18 i19 i20 i25 i29 i30 i31 i36 i37 i38 r73 r74 r75 r76 r77 r78 r79 r80 r81 r82 r83 r84 r85 r86 r87 x88 r89 r90 r91 r92 r93 r94 r95 ∧ ∃ u : Int, (0 ≤ u ∧ u ≤ 1) ∧ (0 ≤ a1 ∧ a1 < 4 ∧ ezn_tm c < 12 → u = 1 ∧ ezn_TD (ezn_ad c a1 a2) 0 x88) ∧ (¬ (0 ≤ a1 ∧ a1 < 4 ∧ ezn_tm c < 12) → u = 0 ∧ x88 = r88) ∧ (∀ j, ¬ (20 ≤ j ∧ j < 50) → x88 j = r88 j) ∧ some (ezw_i u) = v
theorem ezm_m306n {c : Int → Int} {a1 a2 : Int} (hT : ezm_T i0 i2 i3 i7 i8 i13 i18 i19 i20 i25 i29 i30 i31 i36 i37 i38 r73 r74 r75 r76 r77 r78 r79 r80 r81 r82 r83 r84 r85 r86 r87 r88 r89 r90 r91 r92 r93 r94 r95) (hd : 1 ≤ d) (ha1 : ezw_in a1) (ha2 : ezw_in a2) (td : ezn_TD c 0 r88) (tb : ezn_TB c) (gb : 0 ≤ a2 ∧ a2 ≤ 1) : ezw_C l ρ B xa Hb D cA 306 d [ezw_p 72, ezw_i a1, ezw_i a2] (ezm_h e F A i0 i2 i3 i7 i8 i13 i18 i19 i20 i25 i29 i30 i31 i36 i37 i38 r73 r74 r75 r76 r77 r78 r79 r80 r81 r82 r83 r84 r85 r86 r87 r88 r89 r90 r91 r92 r93 r94 r95) (ezm_m306nQ  e F A i0 i2 i3 i7 i8 i13 i18 i19 i20 i25 i29 i30 i31 i36 i37 i38 r73 r74 r75 r76 r77 r78 r79 r80 r81 r82 r83 r84 r85 r86 r87 r88 r89 r90 r91 r92 r93 r94 r95 c a1 a2) := by
  refine ezw_met (k := 0) rfl rfl ?_
  have d0 : 0 ≤ r88 (20) := td.1.1
  have d1 : r88 (20) = ezn_tm c := td.1.2.1
  have d2 := td.1.2.2
  refine ezw_aload_n rfl rfl ?_
  refine ezw_iconst (0) rfl rfl ?_
  refine ezm_p0 hT rfl ⟨by decide, by decide⟩ (fun hT => ?_)
  refine ezw_iload_n rfl rfl ?_
  refine ezw_call2_1 rfl (by omega) rfl rfl (ezm_m265n hT (by omega) ha1) ?_
  rintro _ _ ⟨rfl, u2, hu2, p1_0, p1_1, rfl⟩
  refine ezw_if_eq rfl rfl ⟨by omega, by omega⟩ (fun h9_2 => ?_) (fun h9_2 => ?_)
  · refine ezw_iconst (0) rfl rfl ?_
    exact ezw_ireturn rfl (ezw_zret ⟨by omega, by omega⟩) ⟨(0), r88, rfl, hT, (0), ⟨by omega, by omega⟩, (fun h => by have h9 := p1_1; omega), (fun _ => ⟨rfl, rfl⟩), (fun _ _ => rfl), rfl⟩
  · refine ezw_aload_n rfl rfl ?_
    refine ezm_gp (p := 88) rfl (fun _ => rfl) ?_
    refine ezw_bipush (20) rfl rfl ?_
    refine ezm_l88 rfl (by omega) (by omega) (fun u3 eu3 => ?_)
    have ku3 : ezm_k88 (20) u3 := eu3 ▸ hT.t88 (20)
    have zu3 := ezm_zs20 ku3 (by omega)
    refine ezw_bipush (12) rfl rfl ?_
    refine ezw_icmp_ne rfl rfl (ezm_in88 ku3) ⟨by decide, by decide⟩ (fun h21_3 => ?_) (fun h21_3 => ?_)
    · refine ezw_aload_n rfl rfl ?_
      refine ezm_gp (p := 88) rfl (fun _ => rfl) ?_
      refine ezw_bipush (21) rfl rfl ?_
      refine ezw_iconst (2) rfl rfl ?_
      refine ezw_aload_n rfl rfl ?_
      refine ezm_gp (p := 88) rfl (fun _ => rfl) ?_
      refine ezw_bipush (20) rfl rfl ?_
      refine ezm_l88 rfl (by omega) (by omega) (fun u4 eu4 => ?_)
      have fu4 : u3 = u4 := eu3.trans eu4.symm
      subst fu4
      refine ezw_imul (k := 2 * u3) rfl (by omega) ?_
      refine ezw_iadd (k := 2 * u3 + 21) rfl (by omega) ?_
      refine ezw_iload_n rfl rfl ?_
      refine ezm_s88 hT rfl (by omega) (by omega) ⟨ha1, by omega, by omega, by omega, by omega, by omega⟩ (fun r88_5 hT er88_5 fr88_5 => ?_)
      refine ezw_aload_n rfl rfl ?_
      refine ezm_gp (p := 88) rfl (fun _ => rfl) ?_
      refine ezw_bipush (21) rfl rfl ?_
      refine ezw_iconst (2) rfl rfl ?_
      refine ezw_aload_n rfl rfl ?_
      refine ezm_gp (p := 88) rfl (fun _ => rfl) ?_
      refine ezw_bipush (20) rfl rfl ?_
      refine ezm_l88 rfl (by omega) (by omega) (fun u6 eu6 => ?_)
      have ku6 : ezm_k88 (20) u6 := eu6 ▸ hT.t88 (20)
      have zu6 := ezm_zs20 ku6 (by omega)
      have qu6 : u6 = r88 20 := by
        rw [eu6, fr88_5 20 (by omega)]
      refine ezw_imul (k := 2 * u6) rfl (by omega) ?_
      refine ezw_iadd (k := 2 * u6 + 21) rfl (by omega) ?_
      refine ezw_iconst (1) rfl rfl ?_
      refine ezw_iadd (k := 2 * u6 + 22) rfl (by omega) ?_
      refine ezw_iload_n rfl rfl ?_
      have J71_8 : ∀ y7 : Int, ezw_in y7 → (y7 = a2) → ezw_E l ρ B xa Hb D cA d ezq_re306 (ezm_m306nQ  e F A i0 i2 i3 i7 i8 i13 i18 i19 i20 i25 i29 i30 i31 i36 i37 i38 r73 r74 r75 r76 r77 r78 r79 r80 r81 r82 r83 r84 r85 r86 r87 r88 r89 r90 r91 r92 r93 r94 r95 c a1 a2) 71 [some (ezw_p 72), some (ezw_i a1), some (ezw_i a2)] [ezw_i y7, ezw_i (2 * u6 + 22), ezw_p 88] (ezm_h e F A (0) i2 i3 i7 i8 i13 i18 i19 i20 i25 i29 i30 i31 i36 i37 i38 r73 r74 r75 r76 r77 r78 r79 r80 r81 r82 r83 r84 r85 r86 r87 r88_5 r89 r90 r91 r92 r93 r94 r95) := by
        intro y7 hy7 v_8
        refine ezm_s88 hT rfl (by omega) (by omega) ⟨hy7, by omega, by omega, by omega, by omega, by omega⟩ (fun r88_9 hT er88_9 fr88_9 => ?_)
        refine ezw_aload_n rfl rfl ?_
        refine ezm_gp (p := 88) rfl (fun _ => rfl) ?_
        refine ezw_bipush (20) rfl rfl ?_
        refine ezw_dup2 rfl rfl rfl ?_
        refine ezm_l88 rfl (by omega) (by omega) (fun u10 eu10 => ?_)
        have ku10 : ezm_k88 (20) u10 := eu10 ▸ hT.t88 (20)
        have zu10 := ezm_zs20 ku10 (by omega)
        have qu10 : u10 = r88 20 := by
          rw [eu10, fr88_9 20 (by omega), fr88_5 20 (by omega)]
        refine ezw_iconst (1) rfl rfl ?_
        refine ezw_iadd (k := u10 + 1) rfl (by omega) ?_
        refine ezm_s88 hT rfl (by omega) (by omega) ⟨⟨by omega, by omega⟩, by omega, by omega, by omega, by omega, by omega⟩ (fun r88_11 hT er88_11 fr88_11 => ?_)
        refine ezw_iconst (1) rfl rfl ?_
        exact ezw_ireturn rfl (ezw_zret ⟨by omega, by omega⟩) ⟨(0), r88_11, rfl, hT, (1), ⟨by omega, by omega⟩, (fun h => ⟨rfl, ezn_TD_ad td h.2.2 h.1 h.2.1 (by omega) (by omega) (by show r88_11 (20) = r88 (20) + 1; rw [er88_11]; omega) (by show r88_11 (2 * r88 (20) + 21) = a1; rw [fr88_11 _ (by omega), fr88_9 _ (by omega), show 2 * r88 (20) + 21 = 2 * u3 + 21 by omega, er88_5]) (by show r88_11 (2 * r88 (20) + 22) = a2; rw [fr88_11 _ (by omega), show 2 * r88 (20) + 22 = 2 * u6 + 22 by omega, er88_9]; exact v_8) (fun j j0 j1 => by
              have j1 : j < 2 * r88 (20) + 21 := j1
              rw [fr88_11 _ (by omega), fr88_9 _ (by omega), fr88_5 _ (by omega)])⟩), (fun h => absurd (by have h9 := p1_0 (by omega); omega) h), (fun j hj => by rw [fr88_11 _ (by omega), fr88_9 _ (by omega), fr88_5 _ (by omega)]), rfl⟩
      refine ezw_if_eq rfl rfl ha2 (fun h63_6 => ?_) (fun h63_6 => ?_)
      · refine ezw_iconst (0) rfl rfl ?_
        exact ezw_keepE [true, true, true] (J71_8 (0) ⟨by decide, by decide⟩ (by omega))
      · refine ezw_iconst (1) rfl rfl ?_
        refine ezw_goto rfl rfl ?_
        exact ezw_keepE [true, true, true] (J71_8 (1) ⟨by decide, by decide⟩ (by omega))
    · refine ezw_iconst (0) rfl rfl ?_
      exact ezw_ireturn rfl (ezw_zret ⟨by omega, by omega⟩) ⟨(0), r88, rfl, hT, (0), ⟨by omega, by omega⟩, (fun h => by have h9 := p1_1; omega), (fun _ => ⟨rfl, rfl⟩), (fun _ _ => rfl), rfl⟩
def ezm_m334nQ (e : Bool × Bool) (F : Nat → Nat → Int) (A : Nat → Int → Int) (i0 i2 i3 i7 i8 i13 i18 i19 i20 i25 i29 i30 i31 i36 i37 i38 : Int) (r73 r74 r75 r76 r77 r78 r79 r80 r81 r82 r83 r84 r85 r86 r87 r88 r89 r90 r91 r92 r93 r94 r95 : Int → Int) (z : ezp_D) (w : ezn_N) (c : Int → Int) (ml : Int → Int) (mN : Int → ezn_N) (mT : Int → Int → Int) (a1 : Int) (a2 : Int) : Option ezq_V → (Nat → ezq_C) → Prop := fun v g' => ∃ (x0 x25 : Int) (x88 x89 : Int → Int), ezm_h e F A x0 i2 i3 i7 i8 i13 i18 i19 i20 x25 i29 i30 i31 i36 i37 i38 r73 r74 r75 r76 r77 r78 r79 r80 r81 r82 r83 r84 r85 r86 r87 x88 x89 r90 r91 r92 r93 r94 r95 = g' ∧ ezm_T x0 i2 i3 i7 i8 i13 i18 i19 i20 x25 i29 i30 i31 i36 i37 i38 r73 r74 r75 r76 r77 r78 r79 r80 r81 r82 r83 r84 r85 r86 r87 x88 x89 r90 r91 r92 r93 r94 r95 ∧ ∃ u : Int, (0 ≤ u ∧ u ≤ 1) ∧ (0 ≤ a1 ∧ a1 < 4 ∧ (a2 = 0 ∨ ml a1 = 1) → u = 1) ∧ (¬ (0 ≤ a1 ∧ a1 < 4 ∧ (a2 = 0 ∨ ml a1 = 1)) → u = 0 ∧ x88 = r88 ∧ x89 = r89 ∧ x25 = i25) ∧ (0 ≤ a1 ∧ a1 < 4 ∧ a2 = 0 → ezn_NW z w (50 * a1 + 50) x88 ∧ ezn_TD c (50 * a1 + 50) x88 ∧ (∀ j, j < 50 * a1 + 50 ∨ 50 * a1 + 100 ≤ j → x88 j = r88 j) ∧ x25 = i25 ∧ ∀ m, 0 ≤ m → m < 4 → x89 m = (if m = a1 then 1 else ml m)) ∧ (0 ≤ a1 ∧ a1 < 4 ∧ a2 = 1 ∧ ml a1 = 1 → ezn_NW z (mN a1) 0 x88 ∧ ezn_TD (mT a1) 0 x88 ∧ (∀ j, 50 ≤ j → x88 j = r88 j) ∧ x25 = 0 ∧ ∀ m, 0 ≤ m → m < 4 → x89 m = ml m) ∧ some (ezw_i u) = v
theorem ezm_m334n {z : ezp_D} {w : ezn_N} {c : Int → Int} {ml : Int → Int} {mN : Int → ezn_N} {mT : Int → Int → Int} {a1 a2 : Int} (hT : ezm_T i0 i2 i3 i7 i8 i13 i18 i19 i20 i25 i29 i30 i31 i36 i37 i38 r73 r74 r75 r76 r77 r78 r79 r80 r81 r82 r83 r84 r85 r86 r87 r88 r89 r90 r91 r92 r93 r94 r95) (hd : 1 ≤ d) (ha1 : ezw_in a1) (ha2 : ezw_in a2) (nw : ezn_NW z w 0 r88) (wb : ezn_B z w) (td : ezn_TD c 0 r88) (mk : ∀ m, 0 ≤ m → m < 4 → r89 m = ml m ∧ (ml m = 1 → ezn_NW z (mN m) (50 * m + 50) r88 ∧ ezn_TD (mT m) (50 * m + 50) r88 ∧ ezn_B z (mN m))) (gb : 0 ≤ a2 ∧ a2 ≤ 1) : ezw_C l ρ B xa Hb D cA 334 d [ezw_p 72, ezw_i a1, ezw_i a2] (ezm_h e F A i0 i2 i3 i7 i8 i13 i18 i19 i20 i25 i29 i30 i31 i36 i37 i38 r73 r74 r75 r76 r77 r78 r79 r80 r81 r82 r83 r84 r85 r86 r87 r88 r89 r90 r91 r92 r93 r94 r95) (ezm_m334nQ  e F A i0 i2 i3 i7 i8 i13 i18 i19 i20 i25 i29 i30 i31 i36 i37 i38 r73 r74 r75 r76 r77 r78 r79 r80 r81 r82 r83 r84 r85 r86 r87 r88 r89 r90 r91 r92 r93 r94 r95 z w c ml mN mT a1 a2) := by
  refine ezw_met (k := 0) rfl rfl ?_
  have b25 := hT.t25
  refine ezw_aload_n rfl rfl ?_
  refine ezw_iconst (0) rfl rfl ?_
  refine ezm_p0 hT rfl ⟨by decide, by decide⟩ (fun hT => ?_)
  refine ezw_iload_n rfl rfl ?_
  refine ezw_iconst (0) rfl rfl ?_
  refine ezw_iconst (3) rfl rfl ?_
  refine ezw_call2_3 rfl (by omega) rfl rfl (ezm_m236a hT (by omega) ha1 ⟨by decide, by decide⟩ ⟨by decide, by decide⟩) ?_
  rintro _ _ ⟨rfl, u2, hu2, p1_0, p1_1, rfl⟩
  refine ezw_if_eq rfl rfl ⟨by omega, by omega⟩ (fun h11_2 => ?_) (fun h11_2 => ?_)
  · refine ezw_iconst (0) rfl rfl ?_
    exact ezw_ireturn rfl (ezw_zret ⟨by omega, by omega⟩) ⟨(0), i25, r88, r89, rfl, hT, (0), ⟨by omega, by omega⟩, (fun h => by
          have h9 := p1_1
          omega), (fun _ => ⟨rfl, rfl, rfl, rfl⟩), (fun h => by
          have h9 := p1_1
          omega), (fun h => by
          have h9 := p1_1
          omega), rfl⟩
  · refine ezw_iload_n rfl rfl ?_
    refine ezw_if_eq rfl rfl ha2 (fun h15_2 => ?_) (fun h15_2 => ?_)
    · refine ezw_aload_n rfl rfl ?_
      refine ezm_gp (p := 89) rfl (fun _ => rfl) ?_
      refine ezw_iload_n rfl rfl ?_
      refine ezw_iconst (1) rfl rfl ?_
      refine ezm_s89 hT rfl (by omega) (by omega) ⟨by omega, by omega⟩ ⟨by omega, by omega⟩ (fun r89_3 hT er89_3 fr89_3 => ?_)
      refine ezw_aload_n rfl rfl ?_
      refine ezw_iload_n rfl rfl ?_
      refine ezw_if_eq rfl rfl ha2 (fun h38_3 => ?_) (fun h38_3 => ?_)
      · refine ezw_iconst (0) rfl rfl ?_
        refine ezw_iload_n rfl rfl ?_
        refine ezw_if_eq rfl rfl ha2 (fun h52_3 => ?_) (fun h52_3 => ?_)
        · refine ezw_bipush (50) rfl rfl ?_
          refine ezw_iconst (1) rfl rfl ?_
          refine ezw_iload_n rfl rfl ?_
          refine ezw_iadd (k := a1 + 1) rfl (by omega) ?_
          refine ezw_imul (k := 50 * a1 + 50) rfl (by omega) ?_
          refine ezw_bipush (50) rfl rfl ?_
          refine ezw_call0_3 rfl (by omega) (ezm_at rfl) rfl rfl rfl rfl (ezm_m275 hT (by omega) ⟨by decide, by decide⟩ ⟨by omega, by omega⟩ ⟨by decide, by decide⟩ (by omega) (by omega) (by omega)) ?_
          rintro _ _ ⟨x88_4, rfl, hT, fb_4, cp_4, rfl⟩
          refine ezw_aload_n rfl rfl ?_
          refine ezw_iload_n rfl rfl ?_
          refine ezw_if_eq rfl rfl ha2 (fun h72_4 => ?_) (fun h72_4 => ?_)
          · refine ezw_aload_n rfl rfl ?_
            refine ezm_g25 rfl ?_
            have k5 := hT.t25
            refine ezm_p25 hT rfl ⟨by omega, by omega⟩ (fun hT => ?_)
            refine ezw_iconst (1) rfl rfl ?_
            exact ezw_ireturn rfl (ezw_zret ⟨by omega, by omega⟩) ⟨(0), i25, x88_4, r89_3, rfl, hT, (1), ⟨by omega, by omega⟩, (fun _ => rfl), (fun h => absurd ⟨by omega, by omega, Or.inl (by omega)⟩ h), (fun _ => ⟨ezn_NW_c (b := 0) nw wb (fun k k0 k1 => by
                  have h9 := cp_4 k (by omega) (by omega)
                  rw [show 50 * a1 + 50 + k = 50 * a1 + 50 + k by omega, h9]), ezn_TD_c (b := 0) td (fun k k0 k1 => by
                  have h9 := cp_4 k (by omega) (by omega)
                  rw [show 50 * a1 + 50 + k = 50 * a1 + 50 + k by omega, h9]), (fun j hj => fb_4 j (by omega)), by omega, (fun m m0 m1 => by
                  by_cases hm : m = a1
                  · rw [hm, er89_3, if_pos rfl]
                  · rw [fr89_3 m (by omega), if_neg hm]
                    exact (mk m m0 m1).1)⟩), (fun h => by omega), rfl⟩
          · refine ezw_iconst (0) rfl rfl ?_
            refine ezw_goto rfl rfl ?_
            refine ezm_p25 hT rfl ⟨by omega, by omega⟩ (fun hT => ?_)
            refine ezw_iconst (1) rfl rfl ?_
            exact ezw_ireturn rfl (ezw_zret ⟨by omega, by omega⟩) ⟨(0), (0), x88_4, r89_3, rfl, hT, (1), ⟨by omega, by omega⟩, (fun _ => rfl), (fun h => absurd ⟨by omega, by omega, Or.inl (by omega)⟩ h), (fun _ => ⟨ezn_NW_c (b := 0) nw wb (fun k k0 k1 => by
                  have h9 := cp_4 k (by omega) (by omega)
                  rw [show 50 * a1 + 50 + k = 50 * a1 + 50 + k by omega, h9]), ezn_TD_c (b := 0) td (fun k k0 k1 => by
                  have h9 := cp_4 k (by omega) (by omega)
                  rw [show 50 * a1 + 50 + k = 50 * a1 + 50 + k by omega, h9]), (fun j hj => fb_4 j (by omega)), by omega, (fun m m0 m1 => by
                  by_cases hm : m = a1
                  · rw [hm, er89_3, if_pos rfl]
                  · rw [fr89_3 m (by omega), if_neg hm]
                    exact (mk m m0 m1).1)⟩), (fun h => by omega), rfl⟩
        · refine ezw_iconst (0) rfl rfl ?_
          refine ezw_goto rfl rfl ?_
          refine ezw_bipush (50) rfl rfl ?_
          refine ezw_call0_3 rfl (by omega) (ezm_at rfl) rfl rfl rfl rfl (ezm_m275 hT (by omega) ⟨by decide, by decide⟩ ⟨by decide, by decide⟩ ⟨by decide, by decide⟩ (by omega) (by omega) (by omega)) ?_
          rintro _ _ ⟨x88_6, rfl, hT, fb_6, cp_6, rfl⟩
          refine ezw_aload_n rfl rfl ?_
          refine ezw_iload_n rfl rfl ?_
          refine ezw_if_eq rfl rfl ha2 (fun h72_6 => ?_) (fun h72_6 => ?_)
          · refine ezw_aload_n rfl rfl ?_
            refine ezm_g25 rfl ?_
            have k7 := hT.t25
            refine ezm_p25 hT rfl ⟨by omega, by omega⟩ (fun hT => ?_)
            refine ezw_iconst (1) rfl rfl ?_
            exact ezw_ireturn rfl (ezw_zret ⟨by omega, by omega⟩) ⟨(0), i25, x88_6, r89_3, rfl, hT, (1), ⟨by omega, by omega⟩, (fun _ => rfl), (fun h => absurd ⟨by omega, by omega, Or.inl (by omega)⟩ h), (fun _ => ⟨ezn_NW_c (b := 0) nw wb (fun k k0 k1 => by
                  have h9 := cp_6 k (by omega) (by omega)
                  rw [show 50 * a1 + 50 + k = (0) + k by omega, h9]), ezn_TD_c (b := 0) td (fun k k0 k1 => by
                  have h9 := cp_6 k (by omega) (by omega)
                  rw [show 50 * a1 + 50 + k = (0) + k by omega, h9]), (fun j hj => fb_6 j (by omega)), by omega, (fun m m0 m1 => by
                  by_cases hm : m = a1
                  · rw [hm, er89_3, if_pos rfl]
                  · rw [fr89_3 m (by omega), if_neg hm]
                    exact (mk m m0 m1).1)⟩), (fun h => by omega), rfl⟩
          · refine ezw_iconst (0) rfl rfl ?_
            refine ezw_goto rfl rfl ?_
            refine ezm_p25 hT rfl ⟨by omega, by omega⟩ (fun hT => ?_)
            refine ezw_iconst (1) rfl rfl ?_
            exact ezw_ireturn rfl (ezw_zret ⟨by omega, by omega⟩) ⟨(0), (0), x88_6, r89_3, rfl, hT, (1), ⟨by omega, by omega⟩, (fun _ => rfl), (fun h => absurd ⟨by omega, by omega, Or.inl (by omega)⟩ h), (fun _ => ⟨ezn_NW_c (b := 0) nw wb (fun k k0 k1 => by
                  have h9 := cp_6 k (by omega) (by omega)
                  rw [show 50 * a1 + 50 + k = (0) + k by omega, h9]), ezn_TD_c (b := 0) td (fun k k0 k1 => by
                  have h9 := cp_6 k (by omega) (by omega)
                  rw [show 50 * a1 + 50 + k = (0) + k by omega, h9]), (fun j hj => fb_6 j (by omega)), by omega, (fun m m0 m1 => by
                  by_cases hm : m = a1
                  · rw [hm, er89_3, if_pos rfl]
                  · rw [fr89_3 m (by omega), if_neg hm]
                    exact (mk m m0 m1).1)⟩), (fun h => by omega), rfl⟩
      · refine ezw_bipush (50) rfl rfl ?_
        refine ezw_iconst (1) rfl rfl ?_
        refine ezw_iload_n rfl rfl ?_
        refine ezw_iadd (k := a1 + 1) rfl (by omega) ?_
        refine ezw_imul (k := 50 * a1 + 50) rfl (by omega) ?_
        refine ezw_goto rfl rfl ?_
        refine ezw_iload_n rfl rfl ?_
        refine ezw_if_eq rfl rfl ha2 (fun h52_7 => ?_) (fun h52_7 => ?_)
        · refine ezw_bipush (50) rfl rfl ?_
          refine ezw_iconst (1) rfl rfl ?_
          refine ezw_iload_n rfl rfl ?_
          refine ezw_iadd (k := a1 + 1) rfl (by omega) ?_
          refine ezw_imul (k := 50 * a1 + 50) rfl (by omega) ?_
          refine ezw_bipush (50) rfl rfl ?_
          refine ezw_call0_3 rfl (by omega) (ezm_at rfl) rfl rfl rfl rfl (ezm_m275 hT (by omega) ⟨by omega, by omega⟩ ⟨by omega, by omega⟩ ⟨by decide, by decide⟩ (by omega) (by omega) (by omega)) ?_
          rintro _ _ ⟨x88_8, rfl, hT, fb_8, cp_8, rfl⟩
          refine ezw_aload_n rfl rfl ?_
          refine ezw_iload_n rfl rfl ?_
          refine ezw_if_eq rfl rfl ha2 (fun h72_8 => ?_) (fun h72_8 => ?_)
          · refine ezw_aload_n rfl rfl ?_
            refine ezm_g25 rfl ?_
            have k9 := hT.t25
            refine ezm_p25 hT rfl ⟨by omega, by omega⟩ (fun hT => ?_)
            refine ezw_iconst (1) rfl rfl ?_
            exact ezw_ireturn rfl (ezw_zret ⟨by omega, by omega⟩) ⟨(0), i25, x88_8, r89_3, rfl, hT, (1), ⟨by omega, by omega⟩, (fun _ => rfl), (fun h => absurd ⟨by omega, by omega, Or.inl (by omega)⟩ h), (fun h => by omega), (fun h => by
                  obtain ⟨q1, q2, q3⟩ := (mk a1 (by omega) (by omega)).2 h.2.2.2
                  exact ⟨ezn_NW_c (b := 50 * a1 + 50) q1 q3 (fun k k0 k1 => by
                  have h9 := cp_8 k (by omega) (by omega)
                  rw [show (0 : Int) + k = 50 * a1 + 50 + k by omega, h9]
                  first
                    | done
                    | (congr 1; omega)), ezn_TD_c (b := 50 * a1 + 50) q2 (fun k k0 k1 => by
                  have h9 := cp_8 k (by omega) (by omega)
                  rw [show (0 : Int) + k = 50 * a1 + 50 + k by omega, h9]
                  first
                    | done
                    | (congr 1; omega)), (fun j hj => fb_8 j (by omega)), by omega, (fun m m0 m1 => by
                    by_cases hm : m = a1
                    · rw [hm, er89_3]
                      exact h.2.2.2.symm
                    · rw [fr89_3 m (by omega)]
                      exact (mk m m0 m1).1)⟩), rfl⟩
          · refine ezw_iconst (0) rfl rfl ?_
            refine ezw_goto rfl rfl ?_
            refine ezm_p25 hT rfl ⟨by omega, by omega⟩ (fun hT => ?_)
            refine ezw_iconst (1) rfl rfl ?_
            exact ezw_ireturn rfl (ezw_zret ⟨by omega, by omega⟩) ⟨(0), (0), x88_8, r89_3, rfl, hT, (1), ⟨by omega, by omega⟩, (fun _ => rfl), (fun h => absurd ⟨by omega, by omega, Or.inl (by omega)⟩ h), (fun h => by omega), (fun h => by
                  obtain ⟨q1, q2, q3⟩ := (mk a1 (by omega) (by omega)).2 h.2.2.2
                  exact ⟨ezn_NW_c (b := 50 * a1 + 50) q1 q3 (fun k k0 k1 => by
                  have h9 := cp_8 k (by omega) (by omega)
                  rw [show (0 : Int) + k = 50 * a1 + 50 + k by omega, h9]
                  first
                    | done
                    | (congr 1; omega)), ezn_TD_c (b := 50 * a1 + 50) q2 (fun k k0 k1 => by
                  have h9 := cp_8 k (by omega) (by omega)
                  rw [show (0 : Int) + k = 50 * a1 + 50 + k by omega, h9]
                  first
                    | done
                    | (congr 1; omega)), (fun j hj => fb_8 j (by omega)), by omega, (fun m m0 m1 => by
                    by_cases hm : m = a1
                    · rw [hm, er89_3]
                      exact h.2.2.2.symm
                    · rw [fr89_3 m (by omega)]
                      exact (mk m m0 m1).1)⟩), rfl⟩
        · refine ezw_iconst (0) rfl rfl ?_
          refine ezw_goto rfl rfl ?_
          refine ezw_bipush (50) rfl rfl ?_
          refine ezw_call0_3 rfl (by omega) (ezm_at rfl) rfl rfl rfl rfl (ezm_m275 hT (by omega) ⟨by omega, by omega⟩ ⟨by decide, by decide⟩ ⟨by decide, by decide⟩ (by omega) (by omega) (by omega)) ?_
          rintro _ _ ⟨x88_10, rfl, hT, fb_10, cp_10, rfl⟩
          refine ezw_aload_n rfl rfl ?_
          refine ezw_iload_n rfl rfl ?_
          refine ezw_if_eq rfl rfl ha2 (fun h72_10 => ?_) (fun h72_10 => ?_)
          · refine ezw_aload_n rfl rfl ?_
            refine ezm_g25 rfl ?_
            have k11 := hT.t25
            refine ezm_p25 hT rfl ⟨by omega, by omega⟩ (fun hT => ?_)
            refine ezw_iconst (1) rfl rfl ?_
            exact ezw_ireturn rfl (ezw_zret ⟨by omega, by omega⟩) ⟨(0), i25, x88_10, r89_3, rfl, hT, (1), ⟨by omega, by omega⟩, (fun _ => rfl), (fun h => absurd ⟨by omega, by omega, Or.inl (by omega)⟩ h), (fun h => by omega), (fun h => by
                  obtain ⟨q1, q2, q3⟩ := (mk a1 (by omega) (by omega)).2 h.2.2.2
                  exact ⟨ezn_NW_c (b := 50 * a1 + 50) q1 q3 (fun k k0 k1 => by
                  have h9 := cp_10 k (by omega) (by omega)
                  rw [show (0 : Int) + k = (0) + k by omega, h9]
                  first
                    | done
                    | (congr 1; omega)), ezn_TD_c (b := 50 * a1 + 50) q2 (fun k k0 k1 => by
                  have h9 := cp_10 k (by omega) (by omega)
                  rw [show (0 : Int) + k = (0) + k by omega, h9]
                  first
                    | done
                    | (congr 1; omega)), (fun j hj => fb_10 j (by omega)), by omega, (fun m m0 m1 => by
                    by_cases hm : m = a1
                    · rw [hm, er89_3]
                      exact h.2.2.2.symm
                    · rw [fr89_3 m (by omega)]
                      exact (mk m m0 m1).1)⟩), rfl⟩
          · refine ezw_iconst (0) rfl rfl ?_
            refine ezw_goto rfl rfl ?_
            refine ezm_p25 hT rfl ⟨by omega, by omega⟩ (fun hT => ?_)
            refine ezw_iconst (1) rfl rfl ?_
            exact ezw_ireturn rfl (ezw_zret ⟨by omega, by omega⟩) ⟨(0), (0), x88_10, r89_3, rfl, hT, (1), ⟨by omega, by omega⟩, (fun _ => rfl), (fun h => absurd ⟨by omega, by omega, Or.inl (by omega)⟩ h), (fun h => by omega), (fun h => by
                  obtain ⟨q1, q2, q3⟩ := (mk a1 (by omega) (by omega)).2 h.2.2.2
                  exact ⟨ezn_NW_c (b := 50 * a1 + 50) q1 q3 (fun k k0 k1 => by
                  have h9 := cp_10 k (by omega) (by omega)
                  rw [show (0 : Int) + k = (0) + k by omega, h9]
                  first
                    | done
                    | (congr 1; omega)), ezn_TD_c (b := 50 * a1 + 50) q2 (fun k k0 k1 => by
                  have h9 := cp_10 k (by omega) (by omega)
                  rw [show (0 : Int) + k = (0) + k by omega, h9]
                  first
                    | done
                    | (congr 1; omega)), (fun j hj => fb_10 j (by omega)), by omega, (fun m m0 m1 => by
                    by_cases hm : m = a1
                    · rw [hm, er89_3]
                      exact h.2.2.2.symm
                    · rw [fr89_3 m (by omega)]
                      exact (mk m m0 m1).1)⟩), rfl⟩
    · refine ezw_aload_n rfl rfl ?_
      refine ezm_gp (p := 89) rfl (fun _ => rfl) ?_
      refine ezw_iload_n rfl rfl ?_
      refine ezm_l89 rfl (by omega) (by omega) (fun u12 eu12 => ?_)
      have ku12 : 0 ≤ u12 ∧ u12 ≤ 1 := eu12 ▸ hT.t89 a1
      have hml := (mk a1 (by omega) (by omega)).1
      refine ezw_if_ne rfl rfl ⟨by omega, by omega⟩ (fun h24_12 => ?_) (fun h24_12 => ?_)
      · refine ezw_aload_n rfl rfl ?_
        refine ezm_gp (p := 89) rfl (fun _ => rfl) ?_
        refine ezw_iload_n rfl rfl ?_
        refine ezw_iconst (1) rfl rfl ?_
        refine ezm_s89 hT rfl (by omega) (by omega) ⟨by omega, by omega⟩ ⟨by omega, by omega⟩ (fun r89_13 hT er89_13 fr89_13 => ?_)
        refine ezw_aload_n rfl rfl ?_
        refine ezw_iload_n rfl rfl ?_
        refine ezw_if_eq rfl rfl ha2 (fun h38_13 => ?_) (fun h38_13 => ?_)
        · refine ezw_iconst (0) rfl rfl ?_
          refine ezw_iload_n rfl rfl ?_
          refine ezw_if_eq rfl rfl ha2 (fun h52_13 => ?_) (fun h52_13 => ?_)
          · refine ezw_bipush (50) rfl rfl ?_
            refine ezw_iconst (1) rfl rfl ?_
            refine ezw_iload_n rfl rfl ?_
            refine ezw_iadd (k := a1 + 1) rfl (by omega) ?_
            refine ezw_imul (k := 50 * a1 + 50) rfl (by omega) ?_
            refine ezw_bipush (50) rfl rfl ?_
            refine ezw_call0_3 rfl (by omega) (ezm_at rfl) rfl rfl rfl rfl (ezm_m275 hT (by omega) ⟨by decide, by decide⟩ ⟨by omega, by omega⟩ ⟨by decide, by decide⟩ (by omega) (by omega) (by omega)) ?_
            rintro _ _ ⟨x88_14, rfl, hT, fb_14, cp_14, rfl⟩
            refine ezw_aload_n rfl rfl ?_
            refine ezw_iload_n rfl rfl ?_
            refine ezw_if_eq rfl rfl ha2 (fun h72_14 => ?_) (fun h72_14 => ?_)
            · refine ezw_aload_n rfl rfl ?_
              refine ezm_g25 rfl ?_
              have k15 := hT.t25
              refine ezm_p25 hT rfl ⟨by omega, by omega⟩ (fun hT => ?_)
              refine ezw_iconst (1) rfl rfl ?_
              exact ezw_ireturn rfl (ezw_zret ⟨by omega, by omega⟩) ⟨(0), i25, x88_14, r89_13, rfl, hT, (1), ⟨by omega, by omega⟩, (fun _ => rfl), (fun h => absurd ⟨by omega, by omega, Or.inr (by omega)⟩ h), (fun _ => ⟨ezn_NW_c (b := 0) nw wb (fun k k0 k1 => by
                    have h9 := cp_14 k (by omega) (by omega)
                    rw [show 50 * a1 + 50 + k = 50 * a1 + 50 + k by omega, h9]), ezn_TD_c (b := 0) td (fun k k0 k1 => by
                    have h9 := cp_14 k (by omega) (by omega)
                    rw [show 50 * a1 + 50 + k = 50 * a1 + 50 + k by omega, h9]), (fun j hj => fb_14 j (by omega)), by omega, (fun m m0 m1 => by
                    by_cases hm : m = a1
                    · rw [hm, er89_13, if_pos rfl]
                    · rw [fr89_13 m (by omega), if_neg hm]
                      exact (mk m m0 m1).1)⟩), (fun h => by omega), rfl⟩
            · refine ezw_iconst (0) rfl rfl ?_
              refine ezw_goto rfl rfl ?_
              refine ezm_p25 hT rfl ⟨by omega, by omega⟩ (fun hT => ?_)
              refine ezw_iconst (1) rfl rfl ?_
              exact ezw_ireturn rfl (ezw_zret ⟨by omega, by omega⟩) ⟨(0), (0), x88_14, r89_13, rfl, hT, (1), ⟨by omega, by omega⟩, (fun _ => rfl), (fun h => absurd ⟨by omega, by omega, Or.inr (by omega)⟩ h), (fun _ => ⟨ezn_NW_c (b := 0) nw wb (fun k k0 k1 => by
                    have h9 := cp_14 k (by omega) (by omega)
                    rw [show 50 * a1 + 50 + k = 50 * a1 + 50 + k by omega, h9]), ezn_TD_c (b := 0) td (fun k k0 k1 => by
                    have h9 := cp_14 k (by omega) (by omega)
                    rw [show 50 * a1 + 50 + k = 50 * a1 + 50 + k by omega, h9]), (fun j hj => fb_14 j (by omega)), by omega, (fun m m0 m1 => by
                    by_cases hm : m = a1
                    · rw [hm, er89_13, if_pos rfl]
                    · rw [fr89_13 m (by omega), if_neg hm]
                      exact (mk m m0 m1).1)⟩), (fun h => by omega), rfl⟩
          · refine ezw_iconst (0) rfl rfl ?_
            refine ezw_goto rfl rfl ?_
            refine ezw_bipush (50) rfl rfl ?_
            refine ezw_call0_3 rfl (by omega) (ezm_at rfl) rfl rfl rfl rfl (ezm_m275 hT (by omega) ⟨by decide, by decide⟩ ⟨by decide, by decide⟩ ⟨by decide, by decide⟩ (by omega) (by omega) (by omega)) ?_
            rintro _ _ ⟨x88_16, rfl, hT, fb_16, cp_16, rfl⟩
            refine ezw_aload_n rfl rfl ?_
            refine ezw_iload_n rfl rfl ?_
            refine ezw_if_eq rfl rfl ha2 (fun h72_16 => ?_) (fun h72_16 => ?_)
            · refine ezw_aload_n rfl rfl ?_
              refine ezm_g25 rfl ?_
              have k17 := hT.t25
              refine ezm_p25 hT rfl ⟨by omega, by omega⟩ (fun hT => ?_)
              refine ezw_iconst (1) rfl rfl ?_
              exact ezw_ireturn rfl (ezw_zret ⟨by omega, by omega⟩) ⟨(0), i25, x88_16, r89_13, rfl, hT, (1), ⟨by omega, by omega⟩, (fun _ => rfl), (fun h => absurd ⟨by omega, by omega, Or.inr (by omega)⟩ h), (fun _ => ⟨ezn_NW_c (b := 0) nw wb (fun k k0 k1 => by
                    have h9 := cp_16 k (by omega) (by omega)
                    rw [show 50 * a1 + 50 + k = (0) + k by omega, h9]), ezn_TD_c (b := 0) td (fun k k0 k1 => by
                    have h9 := cp_16 k (by omega) (by omega)
                    rw [show 50 * a1 + 50 + k = (0) + k by omega, h9]), (fun j hj => fb_16 j (by omega)), by omega, (fun m m0 m1 => by
                    by_cases hm : m = a1
                    · rw [hm, er89_13, if_pos rfl]
                    · rw [fr89_13 m (by omega), if_neg hm]
                      exact (mk m m0 m1).1)⟩), (fun h => by omega), rfl⟩
            · refine ezw_iconst (0) rfl rfl ?_
              refine ezw_goto rfl rfl ?_
              refine ezm_p25 hT rfl ⟨by omega, by omega⟩ (fun hT => ?_)
              refine ezw_iconst (1) rfl rfl ?_
              exact ezw_ireturn rfl (ezw_zret ⟨by omega, by omega⟩) ⟨(0), (0), x88_16, r89_13, rfl, hT, (1), ⟨by omega, by omega⟩, (fun _ => rfl), (fun h => absurd ⟨by omega, by omega, Or.inr (by omega)⟩ h), (fun _ => ⟨ezn_NW_c (b := 0) nw wb (fun k k0 k1 => by
                    have h9 := cp_16 k (by omega) (by omega)
                    rw [show 50 * a1 + 50 + k = (0) + k by omega, h9]), ezn_TD_c (b := 0) td (fun k k0 k1 => by
                    have h9 := cp_16 k (by omega) (by omega)
                    rw [show 50 * a1 + 50 + k = (0) + k by omega, h9]), (fun j hj => fb_16 j (by omega)), by omega, (fun m m0 m1 => by
                    by_cases hm : m = a1
                    · rw [hm, er89_13, if_pos rfl]
                    · rw [fr89_13 m (by omega), if_neg hm]
                      exact (mk m m0 m1).1)⟩), (fun h => by omega), rfl⟩
        · refine ezw_bipush (50) rfl rfl ?_
          refine ezw_iconst (1) rfl rfl ?_
          refine ezw_iload_n rfl rfl ?_
          refine ezw_iadd (k := a1 + 1) rfl (by omega) ?_
          refine ezw_imul (k := 50 * a1 + 50) rfl (by omega) ?_
          refine ezw_goto rfl rfl ?_
          refine ezw_iload_n rfl rfl ?_
          refine ezw_if_eq rfl rfl ha2 (fun h52_17 => ?_) (fun h52_17 => ?_)
          · refine ezw_bipush (50) rfl rfl ?_
            refine ezw_iconst (1) rfl rfl ?_
            refine ezw_iload_n rfl rfl ?_
            refine ezw_iadd (k := a1 + 1) rfl (by omega) ?_
            refine ezw_imul (k := 50 * a1 + 50) rfl (by omega) ?_
            refine ezw_bipush (50) rfl rfl ?_
            refine ezw_call0_3 rfl (by omega) (ezm_at rfl) rfl rfl rfl rfl (ezm_m275 hT (by omega) ⟨by omega, by omega⟩ ⟨by omega, by omega⟩ ⟨by decide, by decide⟩ (by omega) (by omega) (by omega)) ?_
            rintro _ _ ⟨x88_18, rfl, hT, fb_18, cp_18, rfl⟩
            refine ezw_aload_n rfl rfl ?_
            refine ezw_iload_n rfl rfl ?_
            refine ezw_if_eq rfl rfl ha2 (fun h72_18 => ?_) (fun h72_18 => ?_)
            · refine ezw_aload_n rfl rfl ?_
              refine ezm_g25 rfl ?_
              have k19 := hT.t25
              refine ezm_p25 hT rfl ⟨by omega, by omega⟩ (fun hT => ?_)
              refine ezw_iconst (1) rfl rfl ?_
              exact ezw_ireturn rfl (ezw_zret ⟨by omega, by omega⟩) ⟨(0), i25, x88_18, r89_13, rfl, hT, (1), ⟨by omega, by omega⟩, (fun _ => rfl), (fun h => absurd ⟨by omega, by omega, Or.inr (by omega)⟩ h), (fun h => by omega), (fun h => by
                    obtain ⟨q1, q2, q3⟩ := (mk a1 (by omega) (by omega)).2 h.2.2.2
                    exact ⟨ezn_NW_c (b := 50 * a1 + 50) q1 q3 (fun k k0 k1 => by
                    have h9 := cp_18 k (by omega) (by omega)
                    rw [show (0 : Int) + k = 50 * a1 + 50 + k by omega, h9]
                    first
                      | done
                      | (congr 1; omega)), ezn_TD_c (b := 50 * a1 + 50) q2 (fun k k0 k1 => by
                    have h9 := cp_18 k (by omega) (by omega)
                    rw [show (0 : Int) + k = 50 * a1 + 50 + k by omega, h9]
                    first
                      | done
                      | (congr 1; omega)), (fun j hj => fb_18 j (by omega)), by omega, (fun m m0 m1 => by
                      by_cases hm : m = a1
                      · rw [hm, er89_13]
                        exact h.2.2.2.symm
                      · rw [fr89_13 m (by omega)]
                        exact (mk m m0 m1).1)⟩), rfl⟩
            · refine ezw_iconst (0) rfl rfl ?_
              refine ezw_goto rfl rfl ?_
              refine ezm_p25 hT rfl ⟨by omega, by omega⟩ (fun hT => ?_)
              refine ezw_iconst (1) rfl rfl ?_
              exact ezw_ireturn rfl (ezw_zret ⟨by omega, by omega⟩) ⟨(0), (0), x88_18, r89_13, rfl, hT, (1), ⟨by omega, by omega⟩, (fun _ => rfl), (fun h => absurd ⟨by omega, by omega, Or.inr (by omega)⟩ h), (fun h => by omega), (fun h => by
                    obtain ⟨q1, q2, q3⟩ := (mk a1 (by omega) (by omega)).2 h.2.2.2
                    exact ⟨ezn_NW_c (b := 50 * a1 + 50) q1 q3 (fun k k0 k1 => by
                    have h9 := cp_18 k (by omega) (by omega)
                    rw [show (0 : Int) + k = 50 * a1 + 50 + k by omega, h9]
                    first
                      | done
                      | (congr 1; omega)), ezn_TD_c (b := 50 * a1 + 50) q2 (fun k k0 k1 => by
                    have h9 := cp_18 k (by omega) (by omega)
                    rw [show (0 : Int) + k = 50 * a1 + 50 + k by omega, h9]
                    first
                      | done
                      | (congr 1; omega)), (fun j hj => fb_18 j (by omega)), by omega, (fun m m0 m1 => by
                      by_cases hm : m = a1
                      · rw [hm, er89_13]
                        exact h.2.2.2.symm
                      · rw [fr89_13 m (by omega)]
                        exact (mk m m0 m1).1)⟩), rfl⟩
          · refine ezw_iconst (0) rfl rfl ?_
            refine ezw_goto rfl rfl ?_
            refine ezw_bipush (50) rfl rfl ?_
            refine ezw_call0_3 rfl (by omega) (ezm_at rfl) rfl rfl rfl rfl (ezm_m275 hT (by omega) ⟨by omega, by omega⟩ ⟨by decide, by decide⟩ ⟨by decide, by decide⟩ (by omega) (by omega) (by omega)) ?_
            rintro _ _ ⟨x88_20, rfl, hT, fb_20, cp_20, rfl⟩
            refine ezw_aload_n rfl rfl ?_
            refine ezw_iload_n rfl rfl ?_
            refine ezw_if_eq rfl rfl ha2 (fun h72_20 => ?_) (fun h72_20 => ?_)
            · refine ezw_aload_n rfl rfl ?_
              refine ezm_g25 rfl ?_
              have k21 := hT.t25
              refine ezm_p25 hT rfl ⟨by omega, by omega⟩ (fun hT => ?_)
              refine ezw_iconst (1) rfl rfl ?_
              exact ezw_ireturn rfl (ezw_zret ⟨by omega, by omega⟩) ⟨(0), i25, x88_20, r89_13, rfl, hT, (1), ⟨by omega, by omega⟩, (fun _ => rfl), (fun h => absurd ⟨by omega, by omega, Or.inr (by omega)⟩ h), (fun h => by omega), (fun h => by
                    obtain ⟨q1, q2, q3⟩ := (mk a1 (by omega) (by omega)).2 h.2.2.2
                    exact ⟨ezn_NW_c (b := 50 * a1 + 50) q1 q3 (fun k k0 k1 => by
                    have h9 := cp_20 k (by omega) (by omega)
                    rw [show (0 : Int) + k = (0) + k by omega, h9]
                    first
                      | done
                      | (congr 1; omega)), ezn_TD_c (b := 50 * a1 + 50) q2 (fun k k0 k1 => by
                    have h9 := cp_20 k (by omega) (by omega)
                    rw [show (0 : Int) + k = (0) + k by omega, h9]
                    first
                      | done
                      | (congr 1; omega)), (fun j hj => fb_20 j (by omega)), by omega, (fun m m0 m1 => by
                      by_cases hm : m = a1
                      · rw [hm, er89_13]
                        exact h.2.2.2.symm
                      · rw [fr89_13 m (by omega)]
                        exact (mk m m0 m1).1)⟩), rfl⟩
            · refine ezw_iconst (0) rfl rfl ?_
              refine ezw_goto rfl rfl ?_
              refine ezm_p25 hT rfl ⟨by omega, by omega⟩ (fun hT => ?_)
              refine ezw_iconst (1) rfl rfl ?_
              exact ezw_ireturn rfl (ezw_zret ⟨by omega, by omega⟩) ⟨(0), (0), x88_20, r89_13, rfl, hT, (1), ⟨by omega, by omega⟩, (fun _ => rfl), (fun h => absurd ⟨by omega, by omega, Or.inr (by omega)⟩ h), (fun h => by omega), (fun h => by
                    obtain ⟨q1, q2, q3⟩ := (mk a1 (by omega) (by omega)).2 h.2.2.2
                    exact ⟨ezn_NW_c (b := 50 * a1 + 50) q1 q3 (fun k k0 k1 => by
                    have h9 := cp_20 k (by omega) (by omega)
                    rw [show (0 : Int) + k = (0) + k by omega, h9]
                    first
                      | done
                      | (congr 1; omega)), ezn_TD_c (b := 50 * a1 + 50) q2 (fun k k0 k1 => by
                    have h9 := cp_20 k (by omega) (by omega)
                    rw [show (0 : Int) + k = (0) + k by omega, h9]
                    first
                      | done
                      | (congr 1; omega)), (fun j hj => fb_20 j (by omega)), by omega, (fun m m0 m1 => by
                      by_cases hm : m = a1
                      · rw [hm, er89_13]
                        exact h.2.2.2.symm
                      · rw [fr89_13 m (by omega)]
                        exact (mk m m0 m1).1)⟩), rfl⟩
      · refine ezw_iconst (0) rfl rfl ?_
        exact ezw_ireturn rfl (ezw_zret ⟨by omega, by omega⟩) ⟨(0), i25, r88, r89, rfl, hT, (0), ⟨by omega, by omega⟩, (fun h => by
              have h9 := p1_1
              have h8 := (mk a1 (by omega) (by omega)).1
              omega), (fun _ => ⟨rfl, rfl, rfl, rfl⟩), (fun h => by
              have h9 := p1_1
              omega), (fun h => by
              have h9 := p1_1
              have h8 := (mk a1 (by omega) (by omega)).1
              omega), rfl⟩
end KM6
