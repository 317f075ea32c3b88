/-! ===== the model: calls ===== -/
section KM6
variable {l : Launch} {ρ : ezq_E} {B : Nat} {xa : Nat → Option Nat} {Hb : Heap} {D : va_G} {cA : Nat → ClassId} {d : Nat} {e : Bool × Bool} {F : Nat → Nat → Int} {A : Nat → Int → Int} {i0 i2 i3 i7 i8 i13 i18 i19 i20 i25 i29 i30 i31 i36 i37 i38 : Int} {r73 r74 r75 r76 r77 r78 r79 r80 r81 r82 r83 r84 r85 r86 r87 r88 r89 r90 r91 r92 r93 r94 r95 : Int → Int}
def ezm_m274nQ (e : Bool × Bool) (F : Nat → Nat → Int) (A : Nat → Int → Int) (i0 i2 i3 i7 i8 i13 i18 i19 i20 i25 i29 i30 i31 i36 i37 i38 : Int) (r73 r74 r75 r76 r77 r78 r79 r80 r81 r82 r83 r84 r85 r86 r87 r88 r89 r90 r91 r92 r93 r94 r95 : Int → Int) (z : ezp_D) (w : ezn_N) (U : Int → ezn_N) : Option ezq_V → (Nat → ezq_C) → Prop := fun v g' => ∃ (x25 : Int) (x88 : Int → Int), ezm_h e F A i0 i2 i3 i7 i8 i13 i18 i19 i20 x25 i29 i30 i31 i36 i37 i38 r73 r74 r75 r76 r77 r78 r79 r80 r81 r82 r83 r84 r85 r86 r87 x88 r89 r90 r91 r92 r93 r94 r95 = g' ∧ ezm_T i0 i2 i3 i7 i8 i13 i18 i19 i20 x25 i29 i30 i31 i36 i37 i38 r73 r74 r75 r76 r77 r78 r79 r80 r81 r82 r83 r84 r85 r86 r87 x88 r89 r90 r91 r92 r93 r94 r95 ∧ (∀ j, j < 250 → x88 j = r88 j) ∧ (∀ k, 0 ≤ k → k < ezn_pn i25 → ezn_NW z (ezn_pu i25 U w k) (50 * k + 250) x88) ∧ (x25 = ezn_pn i25) ∧ none = v
theorem ezm_m274n {z : ezp_D} {w : ezn_N} {U : Int → ezn_N} (hT : ezm_T i0 i2 i3 i7 i8 i13 i18 i19 i20 i25 i29 i30 i31 i36 i37 i38 r73 r74 r75 r76 r77 r78 r79 r80 r81 r82 r83 r84 r85 r86 r87 r88 r89 r90 r91 r92 r93 r94 r95) (hd : 1 ≤ d) (nw : ezn_NW z w 0 r88) (wb : ezn_B z w) (us : ∀ k, 0 ≤ k → k < i25 → ezn_NW z (U k) (50 * k + 250) r88) (ub : ∀ k, 0 ≤ k → k < i25 → ezn_B z (U k)) : ezw_C l ρ B xa Hb D cA 274 d [ezw_p 72] (ezm_h e F A i0 i2 i3 i7 i8 i13 i18 i19 i20 i25 i29 i30 i31 i36 i37 i38 r73 r74 r75 r76 r77 r78 r79 r80 r81 r82 r83 r84 r85 r86 r87 r88 r89 r90 r91 r92 r93 r94 r95) (ezm_m274nQ  e F A i0 i2 i3 i7 i8 i13 i18 i19 i20 i25 i29 i30 i31 i36 i37 i38 r73 r74 r75 r76 r77 r78 r79 r80 r81 r82 r83 r84 r85 r86 r87 r88 r89 r90 r91 r92 r93 r94 r95 z w U) := by
  refine ezw_met (k := 1) rfl rfl ?_
  have b25 := hT.t25
  refine ezw_aload_n rfl rfl ?_
  refine ezm_g25 rfl ?_
  have k1 := hT.t25
  refine ezw_bipush (16) rfl rfl ?_
  refine ezw_icmp_ne rfl rfl ⟨by omega, by omega⟩ ⟨by decide, by decide⟩ (fun h6_1 => ?_) (fun h6_1 => ?_)
  · refine ezw_aload_n rfl rfl ?_
    refine ezw_iconst (0) rfl rfl ?_
    refine ezw_bipush (50) rfl rfl ?_
    refine ezw_iconst (5) rfl rfl ?_
    refine ezw_aload_n rfl rfl ?_
    refine ezm_g25 rfl ?_
    refine ezw_iadd (k := i25 + 5) rfl (by omega) ?_
    refine ezw_imul (k := 50 * i25 + 250) rfl (by omega) ?_
    refine ezw_bipush (20) rfl rfl ?_
    refine ezw_call0_3 rfl (by omega) (ezm_at rfl) rfl rfl rfl rfl (ezm_m275 hT (by omega) ⟨by decide, by decide⟩ ⟨by omega, by omega⟩ ⟨by decide, by decide⟩ (by omega) (by omega) (by omega)) ?_
    rintro _ _ ⟨x88_2, rfl, hT, fb_2, cp_2, rfl⟩
    refine ezw_aload_n rfl rfl ?_
    refine ezw_dup rfl rfl ?_
    refine ezm_g25 rfl ?_
    refine ezw_iconst (1) rfl rfl ?_
    refine ezw_iadd (k := i25 + 1) rfl (by omega) ?_
    refine ezm_p25 hT rfl ⟨by omega, by omega⟩ (fun hT => ?_)
    exact ezw_return rfl rfl ⟨(i25 + 1), x88_2, rfl, hT, (fun j hj => fb_2 j (by omega)), (fun k k0 k1 => by
          unfold ezn_pn at k1
          unfold ezn_pu
          rw [if_neg (by omega)] at k1 ⊢
          by_cases hk : k = i25
          · rw [if_pos hk, hk]
            refine ezn_NW_c (b := 0) nw wb (fun j j0 j1 => ?_)
            have h9 := cp_2 j j0 (by omega)
            rw [show 50 * i25 + 250 + j = 50 * i25 + 250 + j by omega, h9]
          · rw [if_neg hk]
            exact ezn_NW_f (us k k0 (by omega)) (ub _ k0 (by omega)) (fun j j0 j1 => fb_2 j (by omega))), (by
          unfold ezn_pn
          first
            | (rw [if_pos (by omega)]; omega)
            | (rw [if_neg (by omega)])), rfl⟩
  · refine ezw_iconst (1) rfl rfl ?_
    refine ezw_istore_n rfl rfl ?_
    have L11_4 : ∀ c3 : Int, ezw_in c3 → ∀ x88_4 : Int → Int, ezm_T i0 i2 i3 i7 i8 i13 i18 i19 i20 i25 i29 i30 i31 i36 i37 i38 r73 r74 r75 r76 r77 r78 r79 r80 r81 r82 r83 r84 r85 r86 r87 x88_4 r89 r90 r91 r92 r93 r94 r95 → ((1) ≤ c3) → (c3 ≤ 16) → (∀ k, 0 ≤ k → k < c3 - 1 → ezn_NW z (U (k + 1)) (50 * k + 250) x88_4) → (∀ k, c3 - 1 ≤ k → k < 16 → ezn_NW z (U k) (50 * k + 250) x88_4) → (∀ j, j < 250 → x88_4 j = r88 j) → ezw_E l ρ B xa Hb D cA d ezq_re274 (ezm_m274nQ  e F A i0 i2 i3 i7 i8 i13 i18 i19 i20 i25 i29 i30 i31 i36 i37 i38 r73 r74 r75 r76 r77 r78 r79 r80 r81 r82 r83 r84 r85 r86 r87 r88 r89 r90 r91 r92 r93 r94 r95 z w U) 11 [some (ezw_p 72), some (ezw_i c3)] [] (ezm_h e F A i0 i2 i3 i7 i8 i13 i18 i19 i20 i25 i29 i30 i31 i36 i37 i38 r73 r74 r75 r76 r77 r78 r79 r80 r81 r82 r83 r84 r85 r86 r87 x88_4 r89 r90 r91 r92 r93 r94 r95) := by
      refine ezs_up ?_
      intro c3 hc3 ihc3 x88_4 hT g_4 cb_4 lo_4 hi_4 fb_4
      refine ezw_iload_n rfl rfl ?_
      refine ezw_bipush (16) rfl rfl ?_
      refine ezw_icmp_ge rfl rfl hc3 ⟨by decide, by decide⟩ (fun h14_4 => ?_) (fun h14_4 => ?_)
      · refine ezw_aload_n rfl rfl ?_
        refine ezw_dup rfl rfl ?_
        refine ezm_g25 rfl ?_
        refine ezw_iconst (1) rfl rfl ?_
        refine ezw_isub (k := i25 - 1) rfl (by omega) ?_
        refine ezm_p25 hT rfl ⟨by omega, by omega⟩ (fun hT => ?_)
        refine ezw_aload_n rfl rfl ?_
        refine ezw_iconst (0) rfl rfl ?_
        refine ezw_bipush (50) rfl rfl ?_
        refine ezw_iconst (5) rfl rfl ?_
        refine ezw_aload_n rfl rfl ?_
        refine ezm_g25 rfl ?_
        have k5 := hT.t25
        refine ezw_iadd (k := i25 + 4) rfl (by omega) ?_
        refine ezw_imul (k := 50 * i25 + 200) rfl (by omega) ?_
        refine ezw_bipush (20) rfl rfl ?_
        refine ezw_call0_3 rfl (by omega) (ezm_at rfl) rfl rfl rfl rfl (ezm_m275 hT (by omega) ⟨by decide, by decide⟩ ⟨by omega, by omega⟩ ⟨by decide, by decide⟩ (by omega) (by omega) (by omega)) ?_
        rintro _ _ ⟨x88_6, rfl, hT, fb_6, cp_6, rfl⟩
        refine ezw_aload_n rfl rfl ?_
        refine ezw_dup rfl rfl ?_
        refine ezm_g25 rfl ?_
        refine ezw_iconst (1) rfl rfl ?_
        refine ezw_iadd (k := i25) rfl (by omega) ?_
        refine ezm_p25 hT rfl ⟨by omega, by omega⟩ (fun hT => ?_)
        exact ezw_return rfl rfl ⟨i25, x88_6, rfl, hT, (fun j hj => by rw [fb_6 j (by omega)]; exact fb_4 j hj), (fun k k0 k1 => by
              unfold ezn_pn at k1
              unfold ezn_pu
              rw [if_pos (by omega)] at k1 ⊢
              by_cases hk : k = 15
              · rw [if_pos hk, hk]
                refine ezn_NW_c (b := 0) (ezn_NW_f nw wb (fun j j0 j1 => fb_4 j (by omega))) wb (fun j j0 j1 => ?_)
                have h9 := cp_6 j j0 (by omega)
                rw [show (50 : Int) * 15 + 250 + j = 50 * i25 + 200 + j by omega, h9]
              · rw [if_neg hk]
                exact ezn_NW_f (lo_4 k k0 (by omega)) (ub _ (by omega) (by omega)) (fun j j0 j1 => fb_6 j (by omega))), (by
              unfold ezn_pn
              first
                | (rw [if_pos (by omega)]; omega)
                | (rw [if_neg (by omega)])), rfl⟩
      · refine ezw_aload_n rfl rfl ?_
        refine ezw_bipush (50) rfl rfl ?_
        refine ezw_iconst (5) rfl rfl ?_
        refine ezw_iload_n rfl rfl ?_
        refine ezw_iadd (k := c3 + 5) rfl (by omega) ?_
        refine ezw_imul (k := 50 * c3 + 250) rfl (by omega) ?_
        refine ezw_bipush (50) rfl rfl ?_
        refine ezw_iconst (5) rfl rfl ?_
        refine ezw_iload_n rfl rfl ?_
        refine ezw_iadd (k := c3 + 5) rfl (by omega) ?_
        refine ezw_iconst (1) rfl rfl ?_
        refine ezw_isub (k := c3 + 4) rfl (by omega) ?_
        refine ezw_imul (k := 50 * c3 + 200) rfl (by omega) ?_
        refine ezw_bipush (20) rfl rfl ?_
        refine ezw_call0_3 rfl (by omega) (ezm_at rfl) rfl rfl rfl rfl (ezm_m275 hT (by omega) ⟨by omega, by omega⟩ ⟨by omega, by omega⟩ ⟨by decide, by decide⟩ (by omega) (by omega) (by omega)) ?_
        rintro _ _ ⟨x88_7, rfl, hT, fb_7, cp_7, rfl⟩
        refine ezw_iinc (k := c3 + 1) (1) rfl rfl rfl (by omega) rfl ?_
        refine ezw_goto rfl rfl ?_
        exact ezw_keepE [true, true] (ihc3 (c3 + 1) (by omega) ⟨by omega, by omega⟩ x88_7 hT (by omega) (by omega) (fun k k0 k1 => by
              by_cases hk : k = c3 - 1
              · rw [show 50 * k + 250 = 50 * c3 + 200 by omega, show k + 1 = c3 by omega]
                refine ezn_NW_c (b := 50 * c3 + 250) (hi_4 c3 (by omega) (by omega)) (ub _ (by omega) (by omega)) (fun j j0 j1 => ?_)
                have h9 := cp_7 j j0 (by omega)
                rw [show 50 * c3 + 200 + j = 50 * c3 + 200 + j by omega, h9]
                first
                  | done
                  | (congr 1; omega)
              · exact ezn_NW_f (lo_4 k k0 (by omega)) (ub _ (by omega) (by omega)) (fun j j0 j1 => fb_7 j (by omega))) (fun k k0 k1 => ezn_NW_f (hi_4 k (by omega) k1) (ub _ (by omega) (by omega)) (fun j j0 j1 => fb_7 j (by omega))) (fun j hj => by rw [fb_7 j (by omega)]; exact fb_4 j hj))
    exact ezw_keepE [true, true] (L11_4 (1) ⟨by decide, by decide⟩ r88 hT (by omega) (by omega) (fun k k0 k1 => by omega) (fun k k0 k1 => us k (by omega) (by omega)) (fun _ _ => rfl))
def ezm_m265nQ (e : Bool × Bool) (F : Nat → Nat → Int) (A : Nat → Int → Int) (i0 i2 i3 i7 i8 i13 i18 i19 i20 i25 i29 i30 i31 i36 i37 i38 : Int) (r73 r74 r75 r76 r77 r78 r79 r80 r81 r82 r83 r84 r85 r86 r87 r88 r89 r90 r91 r92 r93 r94 r95 : Int → Int) (a0 : Int) : Option ezq_V → (Nat → ezq_C) → Prop := fun v g' => ezm_h e F A i0 i2 i3 i7 i8 i13 i18 i19 i20 i25 i29 i30 i31 i36 i37 i38 r73 r74 r75 r76 r77 r78 r79 r80 r81 r82 r83 r84 r85 r86 r87 r88 r89 r90 r91 r92 r93 r94 r95 = g' ∧ ∃ u : Int, (0 ≤ u ∧ u ≤ 1) ∧ (u = 1 → 0 ≤ a0 ∧ a0 < 4) ∧ (u = 0 → ¬ (0 ≤ a0 ∧ a0 < 4)) ∧ some (ezw_i u) = v
theorem ezm_m265n {a0 : Int} (hT : ezm_T i0 i2 i3 i7 i8 i13 i18 i19 i20 i25 i29 i30 i31 i36 i37 i38 r73 r74 r75 r76 r77 r78 r79 r80 r81 r82 r83 r84 r85 r86 r87 r88 r89 r90 r91 r92 r93 r94 r95) (hd : 0 ≤ d) (ha0 : ezw_in a0) : ezw_C l ρ B xa Hb D cA 265 d [ezw_i a0] (ezm_h e F A i0 i2 i3 i7 i8 i13 i18 i19 i20 i25 i29 i30 i31 i36 i37 i38 r73 r74 r75 r76 r77 r78 r79 r80 r81 r82 r83 r84 r85 r86 r87 r88 r89 r90 r91 r92 r93 r94 r95) (ezm_m265nQ  e F A i0 i2 i3 i7 i8 i13 i18 i19 i20 i25 i29 i30 i31 i36 i37 i38 r73 r74 r75 r76 r77 r78 r79 r80 r81 r82 r83 r84 r85 r86 r87 r88 r89 r90 r91 r92 r93 r94 r95 a0) := by
  refine ezw_met (k := 0) rfl rfl ?_
  refine ezw_iload_n rfl rfl ?_
  refine ezw_if_lt rfl rfl ha0 (fun h1_0 => ?_) (fun h1_0 => ?_)
  · refine ezw_iconst (0) rfl rfl ?_
    exact ezw_ireturn rfl (ezw_zret ⟨by omega, by omega⟩) ⟨rfl, (0), ⟨by omega, by omega⟩, by omega, by omega, rfl⟩
  · refine ezw_iload_n rfl rfl ?_
    refine ezw_iconst (4) rfl rfl ?_
    refine ezw_icmp_ge rfl rfl ha0 ⟨by decide, by decide⟩ (fun h6_0 => ?_) (fun h6_0 => ?_)
    · refine ezw_iconst (0) rfl rfl ?_
      exact ezw_ireturn rfl (ezw_zret ⟨by omega, by omega⟩) ⟨rfl, (0), ⟨by omega, by omega⟩, by omega, by omega, rfl⟩
    · refine ezw_iconst (1) rfl rfl ?_
      refine ezw_goto rfl rfl ?_
      exact ezw_ireturn rfl (ezw_zret ⟨by omega, by omega⟩) ⟨rfl, (1), ⟨by omega, by omega⟩, by omega, by omega, rfl⟩
def ezm_m272nQ (e : Bool × Bool) (F : Nat → Nat → Int) (A : Nat → Int → Int) (i0 i2 i3 i7 i8 i13 i18 i19 i20 i25 i29 i30 i31 i36 i37 i38 : Int) (r73 r74 r75 r76 r77 r78 r79 r80 r81 r82 r83 r84 r85 r86 r87 r88 r89 r90 r91 r92 r93 r94 r95 : Int → Int) (z : ezp_D) (w : ezn_N) (L : ezv_LL) (U : Int → ezn_N) (a1 : Int) (a2 : Int) (a3 : Int) : Option ezq_V → (Nat → ezq_C) → Prop := fun v g' => ∃ (x0 x25 : Int) (x86 x87 x88 : Int → Int), ezm_h e F A x0 i2 i3 i7 i8 i13 i18 i19 i20 x25 i29 i30 i31 i36 i37 i38 r73 r74 r75 r76 r77 r78 r79 r80 r81 r82 r83 r84 r85 x86 x87 x88 r89 r90 r91 r92 r93 r94 r95 = g' ∧ ezm_T x0 i2 i3 i7 i8 i13 i18 i19 i20 x25 i29 i30 i31 i36 i37 i38 r73 r74 r75 r76 r77 r78 r79 r80 r81 r82 r83 r84 r85 x86 x87 x88 r89 r90 r91 r92 r93 r94 r95 ∧ ∃ u : Int, (ezw_in u) ∧ (ezn_cP (ezn_qc L z) z w a1 a2 a3 → u = ezn_cn (ezn_tP w a2 a3).ov) ∧ (¬ ezn_cP (ezn_qc L z) z w a1 a2 a3 → u = -1) ∧ (ezn_cP (ezn_qc L z) z w a1 a2 a3 → ezn_NW z (ezn_tP w a2 a3) 0 x88 ∧ x25 = ezn_pn i25 ∧ ∀ k, 0 ≤ k → k < ezn_pn i25 → ezn_NW z (ezn_pu i25 U w k) (50 * k + 250) x88) ∧ (¬ ezn_cP (ezn_qc L z) z w a1 a2 a3 → x88 = r88 ∧ x25 = i25) ∧ (∀ j, 20 ≤ j → j < 250 → x88 j = r88 j) ∧ some (ezw_i u) = v
theorem ezm_m272n {z : ezp_D} {w : ezn_N} {L : ezv_LL} {U : Int → ezn_N} {a1 a2 a3 : Int} (hT : ezm_T i0 i2 i3 i7 i8 i13 i18 i19 i20 i25 i29 i30 i31 i36 i37 i38 r73 r74 r75 r76 r77 r78 r79 r80 r81 r82 r83 r84 r85 r86 r87 r88 r89 r90 r91 r92 r93 r94 r95) (hd : 5 ≤ d) (ha1 : ezw_in a1) (ha2 : ezw_in a2) (ha3 : ezw_in a3) (gb : 0 ≤ a2 ∧ a2 ≤ 1) (nw : ezn_NW z w 0 r88) (wb : ezn_B z w) (us : ∀ k, 0 ≤ k → k < i25 → ezn_NW z (U k) (50 * k + 250) r88) (ub : ∀ k, 0 ≤ k → k < i25 → ezn_B z (U k)) (tf : ezm_TRF z i18 r78 r81 r83) (hB : ezp_B z) (mf : ezm_MF L r78 r79 r80) (lo : ezv_LO L) : ezw_C l ρ B xa Hb D cA 272 d [ezw_p 72, ezw_i a1, ezw_i a2, ezw_i a3] (ezm_h e F A i0 i2 i3 i7 i8 i13 i18 i19 i20 i25 i29 i30 i31 i36 i37 i38 r73 r74 r75 r76 r77 r78 r79 r80 r81 r82 r83 r84 r85 r86 r87 r88 r89 r90 r91 r92 r93 r94 r95) (ezm_m272nQ  e F A i0 i2 i3 i7 i8 i13 i18 i19 i20 i25 i29 i30 i31 i36 i37 i38 r73 r74 r75 r76 r77 r78 r79 r80 r81 r82 r83 r84 r85 r86 r87 r88 r89 r90 r91 r92 r93 r94 r95 z w L U a1 a2 a3) := by
  refine ezw_met (k := 1) rfl rfl ?_
  have hT25 := hT.t25
  
  refine ezw_aload_n rfl rfl ?_
  refine ezw_iconst (0) rfl rfl ?_
  refine ezm_p0 hT rfl ⟨by decide, by decide⟩ (fun hT => ?_)
  refine ezw_iload_n rfl rfl ?_
  refine ezw_if_eq rfl rfl ha2 (fun h6_0 => ?_) (fun h6_0 => ?_)
  · refine ezw_iconst (0) rfl rfl ?_
    refine ezw_istore rfl rfl ?_
    refine ezw_iload_n rfl rfl ?_
    refine ezw_call2_1 rfl (by omega) rfl rfl (ezm_m265n hT (by omega) ha1) ?_
    rintro _ _ ⟨rfl, u2, hu2, p1_0, p1_1, rfl⟩
    refine ezw_if_eq rfl rfl ⟨by omega, by omega⟩ (fun h20_2 => ?_) (fun h20_2 => ?_)
    · refine ezw_iconst (-1) rfl rfl ?_
      exact ezw_ireturn rfl rfl ⟨(0), i25, r86, r87, r88, rfl, hT, (-1), ⟨by decide, by decide⟩, (fun hc => absurd hc (fun hz => by
            obtain ⟨y1, y2, y3⟩ := hz
            have h9 := p1_1
            omega)), (fun _ => rfl), (fun hc => absurd hc (fun hz => by
            obtain ⟨y1, y2, y3⟩ := hz
            have h9 := p1_1
            omega)), (fun _ => ⟨rfl, rfl⟩), (fun _ _ _ => rfl), rfl⟩
    · refine ezw_iload_n rfl rfl ?_
      refine ezw_iconst (0) rfl rfl ?_
      refine ezw_iconst (2) rfl rfl ?_
      refine ezw_call2_3 rfl (by omega) rfl rfl (ezm_m236a hT (by omega) ha3 ⟨by decide, by decide⟩ ⟨by decide, by decide⟩) ?_
      rintro _ _ ⟨rfl, u4, hu4, p3_0, p3_1, rfl⟩
      refine ezw_if_eq rfl rfl ⟨by omega, by omega⟩ (fun h29_4 => ?_) (fun h29_4 => ?_)
      · refine ezw_iconst (-1) rfl rfl ?_
        exact ezw_ireturn rfl rfl ⟨(0), i25, r86, r87, r88, rfl, hT, (-1), ⟨by decide, by decide⟩, (fun hc => absurd hc (fun hz => by
              obtain ⟨y1, y2, y3⟩ := hz
              have h9 := p1_1
              have h8 := p3_1
              omega)), (fun _ => rfl), (fun hc => absurd hc (fun hz => by
              obtain ⟨y1, y2, y3⟩ := hz
              have h9 := p1_1
              have h8 := p3_1
              omega)), (fun _ => ⟨rfl, rfl⟩), (fun _ _ _ => rfl), rfl⟩
      · refine ezw_aload_n rfl rfl ?_
        refine ezw_iconst (0) rfl rfl ?_
        refine ezw_iload_n rfl rfl ?_
        refine ezw_iload rfl rfl ?_
        refine ezw_iload_n rfl rfl ?_
        refine ezw_call0_4 rfl (by omega) (ezm_at rfl) rfl rfl rfl rfl (ezm_m273_v0n hT (by omega) ha1 ⟨by decide, by decide⟩ ha3 (by omega) nw wb tf hB mf lo) ?_
        rintro _ _ ⟨x86_5, x87_5, rfl, hT, u6, hu6, c1_5, c0_5, rfl⟩
        refine ezw_if_ne rfl rfl ⟨by omega, by omega⟩ (fun h41_6 => ?_) (fun h41_6 => ?_)
        · have hcan : ezn_cP (ezn_qc L z) z w a1 a2 a3 := by
            rw [show a2 = (0) by omega]
            exact c1_5 (by omega)
          refine ezw_aload_n rfl rfl ?_
          refine ezw_call0_0 rfl (by omega) (ezm_at rfl) rfl rfl rfl rfl (ezm_m274n hT (by omega) nw wb us ub) ?_
          rintro _ _ ⟨x25_7, x88_7, rfl, hT, fb_7, un_7, n_7, rfl⟩
          have k8 := hT.t25
          refine ezw_aload_n rfl rfl ?_
          refine ezw_iconst (0) rfl rfl ?_
          refine ezw_iload rfl rfl ?_
          refine ezw_iload_n rfl rfl ?_
          refine ezw_call0_3 rfl (by omega) (ezm_at rfl) rfl rfl rfl rfl (ezm_m276_v0n hT (by omega) ⟨by decide, by decide⟩ ha3 (by omega) (ezn_NW_f nw wb (fun j j0 j1 => fb_7 j (by omega))) wb hB hcan.1) ?_
          rintro _ _ ⟨x88_9, rfl, hT, fb_9, nw_9, rfl⟩
          refine ezw_aload_n rfl rfl ?_
          refine ezm_gp (p := 88) rfl (fun _ => rfl) ?_
          refine ezw_iconst (0) rfl rfl ?_
          refine ezm_l88 rfl (by omega) (by omega) (fun u10 eu10 => ?_)
          have ku10 : ezm_k88 (0) u10 := eu10 ▸ hT.t88 (0)
          have zu10 := ezm_zs0 ku10 (by omega)
          exact ezw_ireturn rfl rfl ⟨(0), x25_7, x86_5, x87_5, x88_9, rfl, hT, u10, (ezm_in88 ku10), (fun _ => by rw [eu10, show a2 = (0) by omega]; exact nw_9.1), (fun hn => absurd hcan hn), (fun _ => ⟨(by rw [show a2 = (0) by omega]; exact nw_9), n_7, fun k k0 k1 => ezn_NW_f (un_7 k k0 k1) (ezn_B_pu wb ub hT25 k0 k1) (fun j j0 j1 => fb_9 j (by omega))⟩), (fun hn => absurd hcan hn), (fun j j0 j1 => by
                have h9 : x88_9 j = x88_7 j := fb_9 j (by omega)
                rw [h9]
                exact fb_7 j (by omega)), rfl⟩
        · refine ezw_iconst (-1) rfl rfl ?_
          exact ezw_ireturn rfl rfl ⟨(0), i25, x86_5, x87_5, r88, rfl, hT, (-1), ⟨by decide, by decide⟩, (fun hc => absurd hc (by rw [show a2 = (0) by omega]; exact c0_5 (by omega))), (fun _ => rfl), (fun hc => absurd hc (by rw [show a2 = (0) by omega]; exact c0_5 (by omega))), (fun _ => ⟨rfl, rfl⟩), (fun _ _ _ => rfl), rfl⟩
  · refine ezw_iconst (1) rfl rfl ?_
    refine ezw_goto rfl rfl ?_
    refine ezw_istore rfl rfl ?_
    refine ezw_iload_n rfl rfl ?_
    refine ezw_call2_1 rfl (by omega) rfl rfl (ezm_m265n hT (by omega) ha1) ?_
    rintro _ _ ⟨rfl, u12, hu12, p11_0, p11_1, rfl⟩
    refine ezw_if_eq rfl rfl ⟨by omega, by omega⟩ (fun h20_12 => ?_) (fun h20_12 => ?_)
    · refine ezw_iconst (-1) rfl rfl ?_
      exact ezw_ireturn rfl rfl ⟨(0), i25, r86, r87, r88, rfl, hT, (-1), ⟨by decide, by decide⟩, (fun hc => absurd hc (fun hz => by
            obtain ⟨y1, y2, y3⟩ := hz
            have h9 := p11_1
            omega)), (fun _ => rfl), (fun hc => absurd hc (fun hz => by
            obtain ⟨y1, y2, y3⟩ := hz
            have h9 := p11_1
            omega)), (fun _ => ⟨rfl, rfl⟩), (fun _ _ _ => rfl), rfl⟩
    · refine ezw_iload_n rfl rfl ?_
      refine ezw_iconst (0) rfl rfl ?_
      refine ezw_iconst (2) rfl rfl ?_
      refine ezw_call2_3 rfl (by omega) rfl rfl (ezm_m236a hT (by omega) ha3 ⟨by decide, by decide⟩ ⟨by decide, by decide⟩) ?_
      rintro _ _ ⟨rfl, u14, hu14, p13_0, p13_1, rfl⟩
      refine ezw_if_eq rfl rfl ⟨by omega, by omega⟩ (fun h29_14 => ?_) (fun h29_14 => ?_)
      · refine ezw_iconst (-1) rfl rfl ?_
        exact ezw_ireturn rfl rfl ⟨(0), i25, r86, r87, r88, rfl, hT, (-1), ⟨by decide, by decide⟩, (fun hc => absurd hc (fun hz => by
              obtain ⟨y1, y2, y3⟩ := hz
              have h9 := p11_1
              have h8 := p13_1
              omega)), (fun _ => rfl), (fun hc => absurd hc (fun hz => by
              obtain ⟨y1, y2, y3⟩ := hz
              have h9 := p11_1
              have h8 := p13_1
              omega)), (fun _ => ⟨rfl, rfl⟩), (fun _ _ _ => rfl), rfl⟩
      · refine ezw_aload_n rfl rfl ?_
        refine ezw_iconst (0) rfl rfl ?_
        refine ezw_iload_n rfl rfl ?_
        refine ezw_iload rfl rfl ?_
        refine ezw_iload_n rfl rfl ?_
        refine ezw_call0_4 rfl (by omega) (ezm_at rfl) rfl rfl rfl rfl (ezm_m273_v0n hT (by omega) ha1 ⟨by decide, by decide⟩ ha3 (by omega) nw wb tf hB mf lo) ?_
        rintro _ _ ⟨x86_15, x87_15, rfl, hT, u16, hu16, c1_15, c0_15, rfl⟩
        refine ezw_if_ne rfl rfl ⟨by omega, by omega⟩ (fun h41_16 => ?_) (fun h41_16 => ?_)
        · have hcan : ezn_cP (ezn_qc L z) z w a1 a2 a3 := by
            rw [show a2 = (1) by omega]
            exact c1_15 (by omega)
          refine ezw_aload_n rfl rfl ?_
          refine ezw_call0_0 rfl (by omega) (ezm_at rfl) rfl rfl rfl rfl (ezm_m274n hT (by omega) nw wb us ub) ?_
          rintro _ _ ⟨x25_17, x88_17, rfl, hT, fb_17, un_17, n_17, rfl⟩
          have k18 := hT.t25
          refine ezw_aload_n rfl rfl ?_
          refine ezw_iconst (0) rfl rfl ?_
          refine ezw_iload rfl rfl ?_
          refine ezw_iload_n rfl rfl ?_
          refine ezw_call0_3 rfl (by omega) (ezm_at rfl) rfl rfl rfl rfl (ezm_m276_v0n hT (by omega) ⟨by decide, by decide⟩ ha3 (by omega) (ezn_NW_f nw wb (fun j j0 j1 => fb_17 j (by omega))) wb hB hcan.1) ?_
          rintro _ _ ⟨x88_19, rfl, hT, fb_19, nw_19, rfl⟩
          refine ezw_aload_n rfl rfl ?_
          refine ezm_gp (p := 88) rfl (fun _ => rfl) ?_
          refine ezw_iconst (0) rfl rfl ?_
          refine ezm_l88 rfl (by omega) (by omega) (fun u20 eu20 => ?_)
          have ku20 : ezm_k88 (0) u20 := eu20 ▸ hT.t88 (0)
          have zu20 := ezm_zs0 ku20 (by omega)
          exact ezw_ireturn rfl rfl ⟨(0), x25_17, x86_15, x87_15, x88_19, rfl, hT, u20, (ezm_in88 ku20), (fun _ => by rw [eu20, show a2 = (1) by omega]; exact nw_19.1), (fun hn => absurd hcan hn), (fun _ => ⟨(by rw [show a2 = (1) by omega]; exact nw_19), n_17, fun k k0 k1 => ezn_NW_f (un_17 k k0 k1) (ezn_B_pu wb ub hT25 k0 k1) (fun j j0 j1 => fb_19 j (by omega))⟩), (fun hn => absurd hcan hn), (fun j j0 j1 => by
                have h9 : x88_19 j = x88_17 j := fb_19 j (by omega)
                rw [h9]
                exact fb_17 j (by omega)), rfl⟩
        · refine ezw_iconst (-1) rfl rfl ?_
          exact ezw_ireturn rfl rfl ⟨(0), i25, x86_15, x87_15, r88, rfl, hT, (-1), ⟨by decide, by decide⟩, (fun hc => absurd hc (by rw [show a2 = (1) by omega]; exact c0_15 (by omega))), (fun _ => rfl), (fun hc => absurd hc (by rw [show a2 = (1) by omega]; exact c0_15 (by omega))), (fun _ => ⟨rfl, rfl⟩), (fun _ _ _ => rfl), rfl⟩
def ezm_m280nQ (e : Bool × Bool) (F : Nat → Nat → Int) (A : Nat → Int → Int) (i0 i2 i3 i7 i8 i13 i18 i19 i20 i25 i29 i30 i31 i36 i37 i38 : Int) (r73 r74 r75 r76 r77 r78 r79 r80 r81 r82 r83 r84 r85 r86 r87 r88 r89 r90 r91 r92 r93 r94 r95 : Int → Int) (z : ezp_D) (w : ezn_N) (L : ezv_LL) (U : Int → ezn_N) : Option ezq_V → (Nat → ezq_C) → Prop := fun v g' => ∃ (x0 x25 : Int) (x88 : Int → Int), ezm_h e F A x0 i2 i3 i7 i8 i13 i18 i19 i20 x25 i29 i30 i31 i36 i37 i38 r73 r74 r75 r76 r77 r78 r79 r80 r81 r82 r83 r84 r85 r86 r87 x88 r89 r90 r91 r92 r93 r94 r95 = g' ∧ ezm_T x0 i2 i3 i7 i8 i13 i18 i19 i20 x25 i29 i30 i31 i36 i37 i38 r73 r74 r75 r76 r77 r78 r79 r80 r81 r82 r83 r84 r85 r86 r87 x88 r89 r90 r91 r92 r93 r94 r95 ∧ ∃ u : Int, (0 ≤ u ∧ u ≤ 1) ∧ (ezn_cL z w → u = 1) ∧ (¬ ezn_cL z w → u = 0) ∧ (ezn_cL z w → ezn_NW z (ezn_off w (ezn_lo w.ov)) 0 x88 ∧ x25 = ezn_pn i25 ∧ ∀ k, 0 ≤ k → k < ezn_pn i25 → ezn_NW z (ezn_pu i25 U w k) (50 * k + 250) x88) ∧ (¬ ezn_cL z w → x88 = r88 ∧ x25 = i25) ∧ (∀ j, 20 ≤ j → j < 250 → x88 j = r88 j) ∧ some (ezw_i u) = v
theorem ezm_m280n {z : ezp_D} {w : ezn_N} {L : ezv_LL} {U : Int → ezn_N} (hT : ezm_T i0 i2 i3 i7 i8 i13 i18 i19 i20 i25 i29 i30 i31 i36 i37 i38 r73 r74 r75 r76 r77 r78 r79 r80 r81 r82 r83 r84 r85 r86 r87 r88 r89 r90 r91 r92 r93 r94 r95) (hd : 2 ≤ d) (nw : ezn_NW z w 0 r88) (wb : ezn_B z w) (us : ∀ k, 0 ≤ k → k < i25 → ezn_NW z (U k) (50 * k + 250) r88) (ub : ∀ k, 0 ≤ k → k < i25 → ezn_B z (U k)) (tf : ezm_TRF z i18 r78 r81 r83) (hB : ezp_B z) (mf : ezm_MF L r78 r79 r80) (lo : ezv_LO L) : ezw_C l ρ B xa Hb D cA 280 d [ezw_p 72] (ezm_h e F A i0 i2 i3 i7 i8 i13 i18 i19 i20 i25 i29 i30 i31 i36 i37 i38 r73 r74 r75 r76 r77 r78 r79 r80 r81 r82 r83 r84 r85 r86 r87 r88 r89 r90 r91 r92 r93 r94 r95) (ezm_m280nQ  e F A i0 i2 i3 i7 i8 i13 i18 i19 i20 i25 i29 i30 i31 i36 i37 i38 r73 r74 r75 r76 r77 r78 r79 r80 r81 r82 r83 r84 r85 r86 r87 r88 r89 r90 r91 r92 r93 r94 r95 z w L U) := by
  refine ezw_met (k := 0) rfl rfl ?_
  have hT25 := hT.t25
  
  refine ezw_aload_n rfl rfl ?_
  refine ezw_iconst (0) rfl rfl ?_
  refine ezm_p0 hT rfl ⟨by decide, by decide⟩ (fun hT => ?_)
  refine ezw_aload_n rfl rfl ?_
  refine ezw_iconst (0) rfl rfl ?_
  refine ezw_call0_1 rfl (by omega) (ezm_at rfl) rfl rfl rfl rfl (ezm_m281_v0n hT (by omega) nw wb tf hB) ?_
  rintro _ _ ⟨rfl, u2, hu2, c1_1, c0_1, rfl⟩
  refine ezw_if_ne rfl rfl ⟨by omega, by omega⟩ (fun h10_2 => ?_) (fun h10_2 => ?_)
  · have hcan := c1_1 (by omega)
    have lr := ezn_lo_r wb.1.1 wb.1.2 (wb.2.2.2.2.2.2.2.2.2.1 hcan.1)
    have hls : ezn_la z w = z.sg (ezn_lo w.ov) := if_neg (wb.2.2.2.2.2.2.2.2.2.1 hcan.1)
    have hla := ezn_la_r hB wb hcan.1
    have hT8 := hB.2.2.2.2.2.2.2.2
    refine ezw_aload_n rfl rfl ?_
    refine ezw_call0_0 rfl (by omega) (ezm_at rfl) rfl rfl rfl rfl (ezm_m274n hT (by omega) nw wb us ub) ?_
    rintro _ _ ⟨x25_3, x88_3, rfl, hT, fb_3, un_3, n_3, rfl⟩
    have k4 := hT.t25
    refine ezw_aload_n rfl rfl ?_
    refine ezw_iconst (0) rfl rfl ?_
    refine ezw_aload_n rfl rfl ?_
    refine ezw_iconst (0) rfl rfl ?_
    refine ezw_call0_1 rfl (by omega) (ezm_at rfl) rfl rfl rfl rfl (ezm_m268_v0n hT (by omega) (ezn_NW_f nw wb (fun j j0 j1 => fb_3 j (by omega))) wb hcan.1) ?_
    rintro _ _ ⟨rfl, u6, hu6, la_5, rfl⟩
    have hl2 := la_5
    refine ezw_call0_2 rfl (by omega) (ezm_at rfl) rfl rfl rfl rfl (ezm_m277_v0n (p := (ezn_lo w.ov)) hT (by omega) hu6 (ezn_NW_f nw wb (fun j j0 j1 => fb_3 j (by omega))) wb hB hcan.1 ⟨lr.1.1, lr.1.2, lr.2.1, by omega⟩) ?_
    rintro _ _ ⟨x88_7, rfl, hT, fb_7, nw_7, rfl⟩
    refine ezw_iconst (1) rfl rfl ?_
    exact ezw_ireturn rfl (ezw_zret ⟨by omega, by omega⟩) ⟨(0), x25_3, x88_7, rfl, hT, (1), ⟨by omega, by omega⟩, (fun _ => by rfl), (fun hn => absurd hcan hn), (fun _ => ⟨nw_7, n_3, fun k k0 k1 => ezn_NW_f (un_3 k k0 k1) (ezn_B_pu wb ub hT25 k0 k1) (fun j j0 j1 => fb_7 j (by omega))⟩), (fun hn => absurd hcan hn), (fun j j0 j1 => by
          have h9 : x88_7 j = x88_3 j := fb_7 j (by omega)
          rw [h9]
          exact fb_3 j (by omega)), rfl⟩
  · refine ezw_iconst (0) rfl rfl ?_
    exact ezw_ireturn rfl (ezw_zret ⟨by omega, by omega⟩) ⟨(0), i25, r88, rfl, hT, (0), ⟨by omega, by omega⟩, (fun hc => absurd hc (c0_1 (by omega))), (fun _ => rfl), (fun hc => absurd hc (c0_1 (by omega))), (fun _ => ⟨rfl, rfl⟩), (fun _ _ _ => rfl), rfl⟩
def ezm_m282nQ (e : Bool × Bool) (F : Nat → Nat → Int) (A : Nat → Int → Int) (i0 i2 i3 i7 i8 i13 i18 i19 i20 i25 i29 i30 i31 i36 i37 i38 : Int) (r73 r74 r75 r76 r77 r78 r79 r80 r81 r82 r83 r84 r85 r86 r87 r88 r89 r90 r91 r92 r93 r94 r95 : Int → Int) (z : ezp_D) (w : ezn_N) (L : ezv_LL) (U : Int → ezn_N) (a1 : Int) (a2 : Int) : Option ezq_V → (Nat → ezq_C) → Prop := fun v g' => ∃ (x0 x25 : Int) (x88 : Int → Int), ezm_h e F A x0 i2 i3 i7 i8 i13 i18 i19 i20 x25 i29 i30 i31 i36 i37 i38 r73 r74 r75 r76 r77 r78 r79 r80 r81 r82 r83 r84 r85 r86 r87 x88 r89 r90 r91 r92 r93 r94 r95 = g' ∧ ezm_T x0 i2 i3 i7 i8 i13 i18 i19 i20 x25 i29 i30 i31 i36 i37 i38 r73 r74 r75 r76 r77 r78 r79 r80 r81 r82 r83 r84 r85 r86 r87 x88 r89 r90 r91 r92 r93 r94 r95 ∧ ∃ u : Int, (ezw_in u) ∧ (ezn_cH z w a1 a2 → u = ezn_cn (ezn_tH w a1 a2).ov) ∧ (¬ ezn_cH z w a1 a2 → u = -1) ∧ (ezn_cH z w a1 a2 → ezn_NW z (ezn_tH w a1 a2) 0 x88 ∧ x25 = ezn_pn i25 ∧ ∀ k, 0 ≤ k → k < ezn_pn i25 → ezn_NW z (ezn_pu i25 U w k) (50 * k + 250) x88) ∧ (¬ ezn_cH z w a1 a2 → x88 = r88 ∧ x25 = i25) ∧ (∀ j, 20 ≤ j → j < 250 → x88 j = r88 j) ∧ some (ezw_i u) = v
theorem ezm_m282n {z : ezp_D} {w : ezn_N} {L : ezv_LL} {U : Int → ezn_N} {a1 a2 : Int} (hT : ezm_T i0 i2 i3 i7 i8 i13 i18 i19 i20 i25 i29 i30 i31 i36 i37 i38 r73 r74 r75 r76 r77 r78 r79 r80 r81 r82 r83 r84 r85 r86 r87 r88 r89 r90 r91 r92 r93 r94 r95) (hd : 2 ≤ d) (ha1 : ezw_in a1) (ha2 : ezw_in a2) (nw : ezn_NW z w 0 r88) (wb : ezn_B z w) (us : ∀ k, 0 ≤ k → k < i25 → ezn_NW z (U k) (50 * k + 250) r88) (ub : ∀ k, 0 ≤ k → k < i25 → ezn_B z (U k)) (tf : ezm_TRF z i18 r78 r81 r83) (hB : ezp_B z) (mf : ezm_MF L r78 r79 r80) (lo : ezv_LO L) : ezw_C l ρ B xa Hb D cA 282 d [ezw_p 72, ezw_i a1, ezw_i a2] (ezm_h e F A i0 i2 i3 i7 i8 i13 i18 i19 i20 i25 i29 i30 i31 i36 i37 i38 r73 r74 r75 r76 r77 r78 r79 r80 r81 r82 r83 r84 r85 r86 r87 r88 r89 r90 r91 r92 r93 r94 r95) (ezm_m282nQ  e F A i0 i2 i3 i7 i8 i13 i18 i19 i20 i25 i29 i30 i31 i36 i37 i38 r73 r74 r75 r76 r77 r78 r79 r80 r81 r82 r83 r84 r85 r86 r87 r88 r89 r90 r91 r92 r93 r94 r95 z w L U a1 a2) := by
  refine ezw_met (k := 0) rfl rfl ?_
  have hT25 := hT.t25
  obtain ⟨⟨k0, k1, k2, k3⟩, ktw, kth, kov, ksg, kel, knu, knm⟩ := ezm_TRFi tf
  obtain ⟨b1, b2, b3, b4, b5, b6, b7, ⟨b8, b8'⟩, b9⟩ := id hB
  refine ezw_aload_n rfl rfl ?_
  refine ezw_iconst (0) rfl rfl ?_
  refine ezm_p0 hT rfl ⟨by decide, by decide⟩ (fun hT => ?_)
  refine ezw_aload_n rfl rfl ?_
  refine ezw_iload_n rfl rfl ?_
  refine ezw_call0_1 rfl (by omega) (ezm_at rfl) rfl rfl rfl rfl (ezm_m262n hT (by omega) ha1) ?_
  rintro _ _ ⟨rfl, u2, hu2, p1_0, p1_1, rfl⟩
  refine ezw_if_eq rfl rfl ⟨by omega, by omega⟩ (fun h10_2 => ?_) (fun h10_2 => ?_)
  · refine ezw_iconst (-1) rfl rfl ?_
    exact ezw_ireturn rfl rfl ⟨(0), i25, r88, rfl, hT, (-1), ⟨by decide, by decide⟩, (fun hc => absurd hc (fun hz => by
          obtain ⟨y1, y2, y3⟩ := hz
          have h9 := p1_1
          omega)), (fun _ => rfl), (fun hc => absurd hc (fun hz => by
          obtain ⟨y1, y2, y3⟩ := hz
          have h9 := p1_1
          omega)), (fun _ => ⟨rfl, rfl⟩), (fun _ _ _ => rfl), rfl⟩
  · refine ezw_iload_n rfl rfl ?_
    refine ezw_iconst (0) rfl rfl ?_
    refine ezw_iconst (2) rfl rfl ?_
    refine ezw_call2_3 rfl (by omega) rfl rfl (ezm_m236a hT (by omega) ha2 ⟨by decide, by decide⟩ ⟨by decide, by decide⟩) ?_
    rintro _ _ ⟨rfl, u4, hu4, p3_0, p3_1, rfl⟩
    refine ezw_if_eq rfl rfl ⟨by omega, by omega⟩ (fun h19_4 => ?_) (fun h19_4 => ?_)
    · refine ezw_iconst (-1) rfl rfl ?_
      exact ezw_ireturn rfl rfl ⟨(0), i25, r88, rfl, hT, (-1), ⟨by decide, by decide⟩, (fun hc => absurd hc (fun hz => by
            obtain ⟨y1, y2, y3⟩ := hz
            have h9 := p1_1
            have h8 := p3_1
            omega)), (fun _ => rfl), (fun hc => absurd hc (fun hz => by
            obtain ⟨y1, y2, y3⟩ := hz
            have h9 := p1_1
            have h8 := p3_1
            omega)), (fun _ => ⟨rfl, rfl⟩), (fun _ _ _ => rfl), rfl⟩
    · refine ezw_aload_n rfl rfl ?_
      refine ezw_iconst (0) rfl rfl ?_
      refine ezw_iload_n rfl rfl ?_
      refine ezw_iload_n rfl rfl ?_
      refine ezw_call0_3 rfl (by omega) (ezm_at rfl) rfl rfl rfl rfl (ezm_m283_v0n hT (by omega) ha1 ha2 (by omega) nw wb tf hB) ?_
      rintro _ _ ⟨rfl, u6, hu6, c1_5, c0_5, rfl⟩
      refine ezw_if_ne rfl rfl ⟨by omega, by omega⟩ (fun h29_6 => ?_) (fun h29_6 => ?_)
      · have hcan := c1_5 (by omega)
        refine ezw_aload_n rfl rfl ?_
        refine ezw_call0_0 rfl (by omega) (ezm_at rfl) rfl rfl rfl rfl (ezm_m274n hT (by omega) nw wb us ub) ?_
        rintro _ _ ⟨x25_7, x88_7, rfl, hT, fb_7, un_7, n_7, rfl⟩
        have k8 := hT.t25
        refine ezw_aload_n rfl rfl ?_
        refine ezw_iconst (0) rfl rfl ?_
        refine ezw_iload_n rfl rfl ?_
        refine ezw_iload_n rfl rfl ?_
        refine ezw_call0_3 rfl (by omega) (ezm_at rfl) rfl rfl rfl rfl (ezm_m284_v0n hT (by omega) ha1 ha2 (by omega) (ezn_NW_f nw wb (fun j j0 j1 => fb_7 j (by omega))) wb hB hcan.1 hcan.2.1.2.2) ?_
        rintro _ _ ⟨x88_9, rfl, hT, fb_9, nw_9, rfl⟩
        refine ezw_aload_n rfl rfl ?_
        refine ezm_gp (p := 88) rfl (fun _ => rfl) ?_
        refine ezw_iconst (0) rfl rfl ?_
        refine ezm_l88 rfl (by omega) (by omega) (fun u10 eu10 => ?_)
        have ku10 : ezm_k88 (0) u10 := eu10 ▸ hT.t88 (0)
        have zu10 := ezm_zs0 ku10 (by omega)
        exact ezw_ireturn rfl rfl ⟨(0), x25_7, x88_9, rfl, hT, u10, (ezm_in88 ku10), (fun _ => by rw [eu10]; exact nw_9.1), (fun hn => absurd hcan hn), (fun _ => ⟨nw_9, n_7, fun k k0 k1 => ezn_NW_f (un_7 k k0 k1) (ezn_B_pu wb ub hT25 k0 k1) (fun j j0 j1 => fb_9 j (by omega))⟩), (fun hn => absurd hcan hn), (fun j j0 j1 => by
              have h9 : x88_9 j = x88_7 j := fb_9 j (by omega)
              rw [h9]
              exact fb_7 j (by omega)), rfl⟩
      · refine ezw_iconst (-1) rfl rfl ?_
        exact ezw_ireturn rfl rfl ⟨(0), i25, r88, rfl, hT, (-1), ⟨by decide, by decide⟩, (fun hc => absurd hc (c0_5 (by omega))), (fun _ => rfl), (fun hc => absurd hc (c0_5 (by omega))), (fun _ => ⟨rfl, rfl⟩), (fun _ _ _ => rfl), rfl⟩
def ezm_m285nQ (e : Bool × Bool) (F : Nat → Nat → Int) (A : Nat → Int → Int) (i0 i2 i3 i7 i8 i13 i18 i19 i20 i25 i29 i30 i31 i36 i37 i38 : Int) (r73 r74 r75 r76 r77 r78 r79 r80 r81 r82 r83 r84 r85 r86 r87 r88 r89 r90 r91 r92 r93 r94 r95 : Int → Int) (z : ezp_D) (w : ezn_N) (L : ezv_LL) (U : Int → ezn_N) (a1 : Int) (a2 : Int) : Option ezq_V → (Nat → ezq_C) → Prop := fun v g' => ∃ (x0 x25 : Int) (x88 : Int → Int), ezm_h e F A x0 i2 i3 i7 i8 i13 i18 i19 i20 x25 i29 i30 i31 i36 i37 i38 r73 r74 r75 r76 r77 r78 r79 r80 r81 r82 r83 r84 r85 r86 r87 x88 r89 r90 r91 r92 r93 r94 r95 = g' ∧ ezm_T x0 i2 i3 i7 i8 i13 i18 i19 i20 x25 i29 i30 i31 i36 i37 i38 r73 r74 r75 r76 r77 r78 r79 r80 r81 r82 r83 r84 r85 r86 r87 x88 r89 r90 r91 r92 r93 r94 r95 ∧ ∃ u : Int, (0 ≤ u ∧ u ≤ 1) ∧ (ezn_cC z w a1 a2 → u = 1) ∧ (¬ ezn_cC z w a1 a2 → u = 0) ∧ (ezn_cC z w a1 a2 → ezn_NW z (ezn_off w (ezn_ps z w a1 6)) 0 x88 ∧ x25 = ezn_pn i25 ∧ ∀ k, 0 ≤ k → k < ezn_pn i25 → ezn_NW z (ezn_pu i25 U w k) (50 * k + 250) x88) ∧ (¬ ezn_cC z w a1 a2 → x88 = r88 ∧ x25 = i25) ∧ (∀ j, 20 ≤ j → j < 250 → x88 j = r88 j) ∧ some (ezw_i u) = v
theorem ezm_m285n {z : ezp_D} {w : ezn_N} {L : ezv_LL} {U : Int → ezn_N} {a1 a2 : Int} (hT : ezm_T i0 i2 i3 i7 i8 i13 i18 i19 i20 i25 i29 i30 i31 i36 i37 i38 r73 r74 r75 r76 r77 r78 r79 r80 r81 r82 r83 r84 r85 r86 r87 r88 r89 r90 r91 r92 r93 r94 r95) (hd : 3 ≤ d) (ha1 : ezw_in a1) (ha2 : ezw_in a2) (gb : 0 ≤ a2 ∧ a2 ≤ 1) (nw : ezn_NW z w 0 r88) (wb : ezn_B z w) (us : ∀ k, 0 ≤ k → k < i25 → ezn_NW z (U k) (50 * k + 250) r88) (ub : ∀ k, 0 ≤ k → k < i25 → ezn_B z (U k)) (tf : ezm_TRF z i18 r78 r81 r83) (hB : ezp_B z) (mf : ezm_MF L r78 r79 r80) (lo : ezv_LO L) : ezw_C l ρ B xa Hb D cA 285 d [ezw_p 72, ezw_i a1, ezw_i a2] (ezm_h e F A i0 i2 i3 i7 i8 i13 i18 i19 i20 i25 i29 i30 i31 i36 i37 i38 r73 r74 r75 r76 r77 r78 r79 r80 r81 r82 r83 r84 r85 r86 r87 r88 r89 r90 r91 r92 r93 r94 r95) (ezm_m285nQ  e F A i0 i2 i3 i7 i8 i13 i18 i19 i20 i25 i29 i30 i31 i36 i37 i38 r73 r74 r75 r76 r77 r78 r79 r80 r81 r82 r83 r84 r85 r86 r87 r88 r89 r90 r91 r92 r93 r94 r95 z w L U a1 a2) := by
  refine ezw_met (k := 0) rfl rfl ?_
  have hT25 := hT.t25
  obtain ⟨⟨k0, k1, k2, k3⟩, ktw, kth, kov, ksg, kel, knu, knm⟩ := ezm_TRFi tf
  obtain ⟨b1, b2, b3, b4, b5, b6, b7, ⟨b8, b8'⟩, b9⟩ := id hB
  refine ezw_aload_n rfl rfl ?_
  refine ezw_iconst (0) rfl rfl ?_
  refine ezm_p0 hT rfl ⟨by decide, by decide⟩ (fun hT => ?_)
  refine ezw_aload_n rfl rfl ?_
  refine ezw_iload_n rfl rfl ?_
  refine ezw_call0_1 rfl (by omega) (ezm_at rfl) rfl rfl rfl rfl (ezm_m257a hT (by omega) ha1) ?_
  rintro _ _ ⟨rfl, u2, hu2, p1_0, p1_1, rfl⟩
  refine ezw_if_eq rfl rfl ⟨by omega, by omega⟩ (fun h10_2 => ?_) (fun h10_2 => ?_)
  · refine ezw_iconst (0) rfl rfl ?_
    exact ezw_ireturn rfl (ezw_zret ⟨by omega, by omega⟩) ⟨(0), i25, r88, rfl, hT, (0), ⟨by omega, by omega⟩, (fun hc => absurd hc (fun hz => by
          have h9 := p1_1 (by omega)
          have h8 := ezn_ps_r hB wb hz.1
          omega)), (fun _ => rfl), (fun hc => absurd hc (fun hz => by
          have h9 := p1_1 (by omega)
          have h8 := ezn_ps_r hB wb hz.1
          omega)), (fun _ => ⟨rfl, rfl⟩), (fun _ _ _ => rfl), rfl⟩
  · refine ezw_aload_n rfl rfl ?_
    refine ezw_iconst (0) rfl rfl ?_
    refine ezw_iload_n rfl rfl ?_
    refine ezw_iload_n rfl rfl ?_
    refine ezw_call0_3 rfl (by omega) (ezm_at rfl) rfl rfl rfl rfl (ezm_m286_v0n hT (by omega) ha1 ha2 (by omega) nw wb tf hB) ?_
    rintro _ _ ⟨rfl, u4, hu4, c1_3, c0_3, rfl⟩
    refine ezw_if_ne rfl rfl ⟨by omega, by omega⟩ (fun h20_4 => ?_) (fun h20_4 => ?_)
    · have hcan := c1_3 (by omega)
      have hpr := ezn_ps_r hB wb hcan.1
      have hki : w.ki = 0 := wb.2.2.2.2.2.2.2.2.2.2.1 (fun z9 => by
        have h8 := hpr.1.2.2
        rw [z9, ezt_b0] at h8
        exact absurd h8 (by decide))
      refine ezw_aload_n rfl rfl ?_
      refine ezw_call0_0 rfl (by omega) (ezm_at rfl) rfl rfl rfl rfl (ezm_m274n hT (by omega) nw wb us ub) ?_
      rintro _ _ ⟨x25_5, x88_5, rfl, hT, fb_5, un_5, n_5, rfl⟩
      have k6 := hT.t25
      refine ezw_aload_n rfl rfl ?_
      refine ezw_iconst (0) rfl rfl ?_
      refine ezw_iload_n rfl rfl ?_
      refine ezw_call0_2 rfl (by omega) (ezm_at rfl) rfl rfl rfl rfl (ezm_m277_v0n (p := (ezn_ps z w a1 6)) hT (by omega) ha1 (ezn_NW_f nw wb (fun j j0 j1 => fb_5 j (by omega))) wb hB hki ⟨hpr.1.1, hpr.1.2.1, hpr.1.2.2, hpr.2.1⟩) ?_
      rintro _ _ ⟨x88_7, rfl, hT, fb_7, nw_7, rfl⟩
      refine ezw_iconst (1) rfl rfl ?_
      exact ezw_ireturn rfl (ezw_zret ⟨by omega, by omega⟩) ⟨(0), x25_5, x88_7, rfl, hT, (1), ⟨by omega, by omega⟩, (fun _ => by rfl), (fun hn => absurd hcan hn), (fun _ => ⟨nw_7, n_5, fun k k0 k1 => ezn_NW_f (un_5 k k0 k1) (ezn_B_pu wb ub hT25 k0 k1) (fun j j0 j1 => fb_7 j (by omega))⟩), (fun hn => absurd hcan hn), (fun j j0 j1 => by
            have h9 : x88_7 j = x88_5 j := fb_7 j (by omega)
            rw [h9]
            exact fb_5 j (by omega)), rfl⟩
    · refine ezw_iconst (0) rfl rfl ?_
      exact ezw_ireturn rfl (ezw_zret ⟨by omega, by omega⟩) ⟨(0), i25, r88, rfl, hT, (0), ⟨by omega, by omega⟩, (fun hc => absurd hc (c0_3 (by omega))), (fun _ => rfl), (fun hc => absurd hc (c0_3 (by omega))), (fun _ => ⟨rfl, rfl⟩), (fun _ _ _ => rfl), rfl⟩
def ezm_m288nQ (e : Bool × Bool) (F : Nat → Nat → Int) (A : Nat → Int → Int) (i0 i2 i3 i7 i8 i13 i18 i19 i20 i25 i29 i30 i31 i36 i37 i38 : Int) (r73 r74 r75 r76 r77 r78 r79 r80 r81 r82 r83 r84 r85 r86 r87 r88 r89 r90 r91 r92 r93 r94 r95 : Int → Int) (z : ezp_D) (w : ezn_N) (L : ezv_LL) (U : Int → ezn_N) (a1 : Int) : Option ezq_V → (Nat → ezq_C) → Prop := fun v g' => ∃ (x0 x25 : Int) (x88 : Int → Int), ezm_h e F A x0 i2 i3 i7 i8 i13 i18 i19 i20 x25 i29 i30 i31 i36 i37 i38 r73 r74 r75 r76 r77 r78 r79 r80 r81 r82 r83 r84 r85 r86 r87 x88 r89 r90 r91 r92 r93 r94 r95 = g' ∧ ezm_T x0 i2 i3 i7 i8 i13 i18 i19 i20 x25 i29 i30 i31 i36 i37 i38 r73 r74 r75 r76 r77 r78 r79 r80 r81 r82 r83 r84 r85 r86 r87 x88 r89 r90 r91 r92 r93 r94 r95 ∧ ∃ u : Int, (ezw_in u) ∧ ((0 ≤ a1 ∧ a1 < 4) → u = (ezn_hr z w a1).ho) ∧ (¬ (0 ≤ a1 ∧ a1 < 4) → u = -1) ∧ ((0 ≤ a1 ∧ a1 < 4) → ezn_NW z (ezn_hr z w a1) 0 x88 ∧ x25 = ezn_pn i25 ∧ ∀ k, 0 ≤ k → k < ezn_pn i25 → ezn_NW z (ezn_pu i25 U w k) (50 * k + 250) x88) ∧ (¬ (0 ≤ a1 ∧ a1 < 4) → x88 = r88 ∧ x25 = i25) ∧ (∀ j, 20 ≤ j → j < 250 → x88 j = r88 j) ∧ some (ezw_i u) = v
theorem ezm_m288n {z : ezp_D} {w : ezn_N} {L : ezv_LL} {U : Int → ezn_N} {a1 : Int} (hT : ezm_T i0 i2 i3 i7 i8 i13 i18 i19 i20 i25 i29 i30 i31 i36 i37 i38 r73 r74 r75 r76 r77 r78 r79 r80 r81 r82 r83 r84 r85 r86 r87 r88 r89 r90 r91 r92 r93 r94 r95) (hd : 2 ≤ d) (ha1 : ezw_in a1) (nw : ezn_NW z w 0 r88) (wb : ezn_B z w) (us : ∀ k, 0 ≤ k → k < i25 → ezn_NW z (U k) (50 * k + 250) r88) (ub : ∀ k, 0 ≤ k → k < i25 → ezn_B z (U k)) (tf : ezm_TRF z i18 r78 r81 r83) (hB : ezp_B z) (mf : ezm_MF L r78 r79 r80) (lo : ezv_LO L) : ezw_C l ρ B xa Hb D cA 288 d [ezw_p 72, ezw_i a1] (ezm_h e F A i0 i2 i3 i7 i8 i13 i18 i19 i20 i25 i29 i30 i31 i36 i37 i38 r73 r74 r75 r76 r77 r78 r79 r80 r81 r82 r83 r84 r85 r86 r87 r88 r89 r90 r91 r92 r93 r94 r95) (ezm_m288nQ  e F A i0 i2 i3 i7 i8 i13 i18 i19 i20 i25 i29 i30 i31 i36 i37 i38 r73 r74 r75 r76 r77 r78 r79 r80 r81 r82 r83 r84 r85 r86 r87 r88 r89 r90 r91 r92 r93 r94 r95 z w L U a1) := by
  refine ezw_met (k := 0) rfl rfl ?_
  have hT25 := hT.t25
  
  refine ezw_aload_n rfl rfl ?_
  refine ezw_iconst (0) rfl rfl ?_
  refine ezm_p0 hT rfl ⟨by decide, by decide⟩ (fun hT => ?_)
  refine ezw_iload_n rfl rfl ?_
  refine ezw_call2_1 rfl (by omega) rfl rfl (ezm_m265n hT (by omega) ha1) ?_
  rintro _ _ ⟨rfl, u2, hu2, p1_0, p1_1, rfl⟩
  refine ezw_if_ne rfl rfl ⟨by omega, by omega⟩ (fun h9_2 => ?_) (fun h9_2 => ?_)
  · have hcan := p1_0 (by omega)
    refine ezw_aload_n rfl rfl ?_
    refine ezw_call0_0 rfl (by omega) (ezm_at rfl) rfl rfl rfl rfl (ezm_m274n hT (by omega) nw wb us ub) ?_
    rintro _ _ ⟨x25_3, x88_3, rfl, hT, fb_3, un_3, n_3, rfl⟩
    have k4 := hT.t25
    refine ezw_aload_n rfl rfl ?_
    refine ezw_iconst (0) rfl rfl ?_
    refine ezw_iload_n rfl rfl ?_
    refine ezw_call0_2 rfl (by omega) (ezm_at rfl) rfl rfl rfl rfl (ezm_m289_v0n hT (by omega) ha1 hcan (ezn_NW_f nw wb (fun j j0 j1 => fb_3 j (by omega))) wb tf hB) ?_
    rintro _ _ ⟨x88_5, rfl, hT, fb_5, nw_5, rfl⟩
    refine ezw_aload_n rfl rfl ?_
    refine ezm_gp (p := 88) rfl (fun _ => rfl) ?_
    refine ezw_bipush (15) rfl rfl ?_
    refine ezm_l88 rfl (by omega) (by omega) (fun u6 eu6 => ?_)
    have ku6 : ezm_k88 (15) u6 := eu6 ▸ hT.t88 (15)
    exact ezw_ireturn rfl rfl ⟨(0), x25_3, x88_5, rfl, hT, u6, (ezm_in88 ku6), (fun _ => by rw [eu6]; exact nw_5.2.2.2.1), (fun hn => absurd hcan hn), (fun _ => ⟨nw_5, n_3, fun k k0 k1 => ezn_NW_f (un_3 k k0 k1) (ezn_B_pu wb ub hT25 k0 k1) (fun j j0 j1 => fb_5 j (by omega))⟩), (fun hn => absurd hcan hn), (fun j j0 j1 => by
          have h9 : x88_5 j = x88_3 j := fb_5 j (by omega)
          rw [h9]
          exact fb_3 j (by omega)), rfl⟩
  · refine ezw_iconst (-1) rfl rfl ?_
    exact ezw_ireturn rfl rfl ⟨(0), i25, r88, rfl, hT, (-1), ⟨by decide, by decide⟩, (fun hc => absurd hc (p1_1 (by omega))), (fun _ => rfl), (fun hc => absurd hc (p1_1 (by omega))), (fun _ => ⟨rfl, rfl⟩), (fun _ _ _ => rfl), rfl⟩
def ezm_m278nQ (e : Bool × Bool) (F : Nat → Nat → Int) (A : Nat → Int → Int) (i0 i2 i3 i7 i8 i13 i18 i19 i20 i25 i29 i30 i31 i36 i37 i38 : Int) (r73 r74 r75 r76 r77 r78 r79 r80 r81 r82 r83 r84 r85 r86 r87 r88 r89 r90 r91 r92 r93 r94 r95 : Int → Int) (z : ezp_D) (w : ezn_N) (L : ezv_LL) (U : Int → ezn_N) : Option ezq_V → (Nat → ezq_C) → Prop := fun v g' => ∃ (x0 x25 : Int) (x88 : Int → Int), ezm_h e F A x0 i2 i3 i7 i8 i13 i18 i19 i20 x25 i29 i30 i31 i36 i37 i38 r73 r74 r75 r76 r77 r78 r79 r80 r81 r82 r83 r84 r85 r86 r87 x88 r89 r90 r91 r92 r93 r94 r95 = g' ∧ ezm_T x0 i2 i3 i7 i8 i13 i18 i19 i20 x25 i29 i30 i31 i36 i37 i38 r73 r74 r75 r76 r77 r78 r79 r80 r81 r82 r83 r84 r85 r86 r87 x88 r89 r90 r91 r92 r93 r94 r95 ∧ ∃ u : Int, (ezw_in u) ∧ (ezn_cS w → u = (ezn_sl w).ti) ∧ (¬ ezn_cS w → u = -1) ∧ (ezn_cS w → ezn_NW z (ezn_sl w) 0 x88 ∧ x25 = ezn_pn i25 ∧ ∀ k, 0 ≤ k → k < ezn_pn i25 → ezn_NW z (ezn_pu i25 U w k) (50 * k + 250) x88) ∧ (¬ ezn_cS w → x88 = r88 ∧ x25 = i25) ∧ (∀ j, 20 ≤ j → j < 250 → x88 j = r88 j) ∧ some (ezw_i u) = v
theorem ezm_m278n {z : ezp_D} {w : ezn_N} {L : ezv_LL} {U : Int → ezn_N} (hT : ezm_T i0 i2 i3 i7 i8 i13 i18 i19 i20 i25 i29 i30 i31 i36 i37 i38 r73 r74 r75 r76 r77 r78 r79 r80 r81 r82 r83 r84 r85 r86 r87 r88 r89 r90 r91 r92 r93 r94 r95) (hd : 2 ≤ d) (nw : ezn_NW z w 0 r88) (wb : ezn_B z w) (us : ∀ k, 0 ≤ k → k < i25 → ezn_NW z (U k) (50 * k + 250) r88) (ub : ∀ k, 0 ≤ k → k < i25 → ezn_B z (U k)) (tf : ezm_TRF z i18 r78 r81 r83) (hB : ezp_B z) (mf : ezm_MF L r78 r79 r80) (lo : ezv_LO L) : ezw_C l ρ B xa Hb D cA 278 d [ezw_p 72] (ezm_h e F A i0 i2 i3 i7 i8 i13 i18 i19 i20 i25 i29 i30 i31 i36 i37 i38 r73 r74 r75 r76 r77 r78 r79 r80 r81 r82 r83 r84 r85 r86 r87 r88 r89 r90 r91 r92 r93 r94 r95) (ezm_m278nQ  e F A i0 i2 i3 i7 i8 i13 i18 i19 i20 i25 i29 i30 i31 i36 i37 i38 r73 r74 r75 r76 r77 r78 r79 r80 r81 r82 r83 r84 r85 r86 r87 r88 r89 r90 r91 r92 r93 r94 r95 z w L U) := by
  refine ezw_met (k := 0) rfl rfl ?_
  have hT25 := hT.t25
  
  refine ezw_aload_n rfl rfl ?_
  refine ezw_iconst (0) rfl rfl ?_
  refine ezm_p0 hT rfl ⟨by decide, by decide⟩ (fun hT => ?_)
  refine ezw_aload_n rfl rfl ?_
  refine ezw_iconst (0) rfl rfl ?_
  refine ezw_call0_1 rfl (by omega) (ezm_at rfl) rfl rfl rfl rfl (ezm_m279_v0n hT (by omega) nw wb hB) ?_
  rintro _ _ ⟨rfl, u2, hu2, c1_1, c0_1, rfl⟩
  refine ezw_if_ne rfl rfl ⟨by omega, by omega⟩ (fun h10_2 => ?_) (fun h10_2 => ?_)
  · have hcan := c1_1 (by omega)
    have hla := ezn_la_r hB wb hcan.1
    have hT8 := hB.2.2.2.2.2.2.2.2
    have hc2 := hcan.2
    have hx3 := wb.2.2.1
    refine ezw_aload_n rfl rfl ?_
    refine ezw_call0_0 rfl (by omega) (ezm_at rfl) rfl rfl rfl rfl (ezm_m274n hT (by omega) nw wb us ub) ?_
    rintro _ _ ⟨x25_3, x88_3, rfl, hT, fb_3, un_3, n_3, rfl⟩
    have k4 := hT.t25
    refine ezw_aload_n rfl rfl ?_
    refine ezm_gp (p := 88) rfl (fun _ => rfl) ?_
    refine ezw_bipush (7) rfl rfl ?_
    refine ezw_aload_n rfl rfl ?_
    refine ezw_iconst (0) rfl rfl ?_
    refine ezw_call0_1 rfl (by omega) (ezm_at rfl) rfl rfl rfl rfl (ezm_m268_v0n hT (by omega) (ezn_NW_f nw wb (fun j j0 j1 => fb_3 j (by omega))) wb hcan.1) ?_
    rintro _ _ ⟨rfl, u6, hu6, la_5, rfl⟩
    have hl2 := la_5
    refine ezw_iadd (k := u6 + 7) rfl (by omega) ?_
    refine ezw_dup2 rfl rfl rfl ?_
    refine ezm_l88 rfl (by omega) (by omega) (fun u7 eu7 => ?_)
    have ku7 : ezm_k88 (u6 + 7) u7 := eu7 ▸ hT.t88 (u6 + 7)
    have zu7 := ezm_zs7 ku7 (by omega)
    have hti : u7 = w.ti := by
      have h9 := (ezn_NW_f nw wb (fun j j0 j1 => fb_3 j (by omega))).2.2.1 (ezn_la z w) (by omega) (by omega)
      rw [if_pos rfl] at h9
      rw [eu7, ← h9]
      congr 1
      omega
    refine ezw_iconst (1) rfl rfl ?_
    refine ezw_isub (k := u7 - 1) rfl (by omega) ?_
    refine ezm_s88 hT rfl (by omega) (by omega) ⟨⟨by omega, by omega⟩, by omega, by omega, by omega, by omega, by omega⟩ (fun r88_8 hT er88_8 fr88_8 => ?_)
    refine ezw_aload_n rfl rfl ?_
    refine ezm_gp (p := 88) rfl (fun _ => rfl) ?_
    refine ezw_bipush (7) rfl rfl ?_
    refine ezw_aload_n rfl rfl ?_
    refine ezw_iconst (0) rfl rfl ?_
    refine ezw_call0_1 rfl (by omega) (ezm_at rfl) rfl rfl rfl rfl (ezm_m268_v0n (w := (ezn_sl w)) hT (by omega) (ezn_NW_ti (ezn_NW_f nw wb (fun j j0 j1 => fb_3 j (by omega))) wb rfl rfl rfl rfl rfl rfl (fun j j0 j1 j2 => fr88_8 j (by omega)) (by
          rw [show ezn_la z w + (0 + 7) = u6 + 7 by omega, er88_8]
          show _ = w.ti - 1
          omega) (by omega)) (ezn_B_sl wb hcan.1 hcan.2) hcan.1) ?_
    rintro _ _ ⟨rfl, u10, hu10, la_9, rfl⟩
    have hl3 : u10 = ezn_la z w := la_9
    refine ezw_iadd (k := u10 + 7) rfl (by omega) ?_
    refine ezm_l88 rfl (by omega) (by omega) (fun u11 eu11 => ?_)
    have ku11 : ezm_k88 (u10 + 7) u11 := eu11 ▸ hT.t88 (u10 + 7)
    have zu11 := ezm_zs7 ku11 (by omega)
    exact ezw_ireturn rfl rfl ⟨(0), x25_3, r88_8, rfl, hT, u11, (ezm_in88 ku11), (fun _ => by 
          have h8 : ezn_NW z (ezn_sl w) 0 r88_8 := (ezn_NW_ti (ezn_NW_f nw wb (fun j j0 j1 => fb_3 j (by omega))) wb rfl rfl rfl rfl rfl rfl (fun j j0 j1 j2 => fr88_8 j (by omega)) (by
          rw [show ezn_la z w + (0 + 7) = u6 + 7 by omega, er88_8]
          show _ = w.ti - 1
          omega) (by omega))
          have h9 := h8.2.2.1 (ezn_la z w) (by omega) (by omega)
          rw [if_pos (show ezn_la z w = ezn_la z (ezn_sl w) from rfl)] at h9
          rw [eu11, ← h9]
          congr 1
          omega), (fun hn => absurd hcan hn), (fun _ => ⟨(ezn_NW_ti (ezn_NW_f nw wb (fun j j0 j1 => fb_3 j (by omega))) wb rfl rfl rfl rfl rfl rfl (fun j j0 j1 j2 => fr88_8 j (by omega)) (by
          rw [show ezn_la z w + (0 + 7) = u6 + 7 by omega, er88_8]
          show _ = w.ti - 1
          omega) (by omega)), n_3, fun k k0 k1 => ezn_NW_f (un_3 k k0 k1) (ezn_B_pu wb ub hT25 k0 k1) (fun j j0 j1 => fr88_8 j (by omega))⟩), (fun hn => absurd hcan hn), (fun j j0 j1 => by
          have h9 : r88_8 j = x88_3 j := fr88_8 j (by omega)
          rw [h9]
          exact fb_3 j (by omega)), rfl⟩
  · refine ezw_iconst (-1) rfl rfl ?_
    exact ezw_ireturn rfl rfl ⟨(0), i25, r88, rfl, hT, (-1), ⟨by decide, by decide⟩, (fun hc => absurd hc (c0_1 (by omega))), (fun _ => rfl), (fun hc => absurd hc (c0_1 (by omega))), (fun _ => ⟨rfl, rfl⟩), (fun _ _ _ => rfl), rfl⟩
def ezm_m291nQ (e : Bool × Bool) (F : Nat → Nat → Int) (A : Nat → Int → Int) (i0 i2 i3 i7 i8 i13 i18 i19 i20 i25 i29 i30 i31 i36 i37 i38 : Int) (r73 r74 r75 r76 r77 r78 r79 r80 r81 r82 r83 r84 r85 r86 r87 r88 r89 r90 r91 r92 r93 r94 r95 : Int → Int) (z : ezp_D) (w : ezn_N) (U : Int → ezn_N) : Option ezq_V → (Nat → ezq_C) → Prop := fun v g' => ∃ (x0 x25 : Int) (x88 : Int → Int), ezm_h e F A x0 i2 i3 i7 i8 i13 i18 i19 i20 x25 i29 i30 i31 i36 i37 i38 r73 r74 r75 r76 r77 r78 r79 r80 r81 r82 r83 r84 r85 r86 r87 x88 r89 r90 r91 r92 r93 r94 r95 = g' ∧ ezm_T x0 i2 i3 i7 i8 i13 i18 i19 i20 x25 i29 i30 i31 i36 i37 i38 r73 r74 r75 r76 r77 r78 r79 r80 r81 r82 r83 r84 r85 r86 r87 x88 r89 r90 r91 r92 r93 r94 r95 ∧ ∃ u : Int, (0 ≤ u ∧ u ≤ 1) ∧ (0 < i25 → u = 1 ∧ ezn_NW z (U (i25 - 1)) 0 x88 ∧ x25 = i25 - 1) ∧ (i25 = 0 → u = 0 ∧ x88 = r88 ∧ x25 = i25) ∧ (∀ j, 20 ≤ j → x88 j = r88 j) ∧ some (ezw_i u) = v
theorem ezm_m291n {z : ezp_D} {w : ezn_N} {U : Int → ezn_N} (hT : ezm_T i0 i2 i3 i7 i8 i13 i18 i19 i20 i25 i29 i30 i31 i36 i37 i38 r73 r74 r75 r76 r77 r78 r79 r80 r81 r82 r83 r84 r85 r86 r87 r88 r89 r90 r91 r92 r93 r94 r95) (hd : 1 ≤ d) (nw : ezn_NW z w 0 r88) (wb : ezn_B z w) (us : ∀ k, 0 ≤ k → k < i25 → ezn_NW z (U k) (50 * k + 250) r88) (ub : ∀ k, 0 ≤ k → k < i25 → ezn_B z (U k)) : ezw_C l ρ B xa Hb D cA 291 d [ezw_p 72] (ezm_h e F A i0 i2 i3 i7 i8 i13 i18 i19 i20 i25 i29 i30 i31 i36 i37 i38 r73 r74 r75 r76 r77 r78 r79 r80 r81 r82 r83 r84 r85 r86 r87 r88 r89 r90 r91 r92 r93 r94 r95) (ezm_m291nQ  e F A i0 i2 i3 i7 i8 i13 i18 i19 i20 i25 i29 i30 i31 i36 i37 i38 r73 r74 r75 r76 r77 r78 r79 r80 r81 r82 r83 r84 r85 r86 r87 r88 r89 r90 r91 r92 r93 r94 r95 z w U) := by
  refine ezw_met (k := 0) rfl rfl ?_
  have b25 := hT.t25
  refine ezw_aload_n rfl rfl ?_
  refine ezw_iconst (0) rfl rfl ?_
  refine ezm_p0 hT rfl ⟨by decide, by decide⟩ (fun hT => ?_)
  refine ezw_aload_n rfl rfl ?_
  refine ezm_g25 rfl ?_
  have k1 := hT.t25
  refine ezw_if_ne rfl rfl ⟨by omega, by omega⟩ (fun h9_1 => ?_) (fun h9_1 => ?_)
  · refine ezw_aload_n rfl rfl ?_
    refine ezw_dup rfl rfl ?_
    refine ezm_g25 rfl ?_
    refine ezw_iconst (1) rfl rfl ?_
    refine ezw_isub (k := i25 - 1) rfl (by omega) ?_
    refine ezm_p25 hT rfl ⟨by omega, by omega⟩ (fun hT => ?_)
    refine ezw_aload_n rfl rfl ?_
    refine ezw_bipush (50) rfl rfl ?_
    refine ezw_iconst (5) rfl rfl ?_
    refine ezw_aload_n rfl rfl ?_
    refine ezm_g25 rfl ?_
    have k2 := hT.t25
    refine ezw_iadd (k := i25 + 4) rfl (by omega) ?_
    refine ezw_imul (k := 50 * i25 + 200) rfl (by omega) ?_
    refine ezw_iconst (0) rfl rfl ?_
    refine ezw_bipush (20) rfl rfl ?_
    refine ezw_call0_3 rfl (by omega) (ezm_at rfl) rfl rfl rfl rfl (ezm_m275 hT (by omega) ⟨by omega, by omega⟩ ⟨by decide, by decide⟩ ⟨by decide, by decide⟩ (by omega) (by omega) (by omega)) ?_
    rintro _ _ ⟨x88_3, rfl, hT, fb_3, cp_3, rfl⟩
    refine ezw_iconst (1) rfl rfl ?_
    exact ezw_ireturn rfl (ezw_zret ⟨by omega, by omega⟩) ⟨(0), (i25 - 1), x88_3, rfl, hT, (1), ⟨by omega, by omega⟩, (fun _ => ⟨rfl, ezn_NW_c (b := 50 * (i25 - 1) + 250) (us _ (by omega) (by omega)) (ub _ (by omega) (by omega)) (fun j j0 j1 => by
          have h9 := cp_3 j j0 (by omega)
          rw [h9]
          first
            | done
            | (congr 1; omega)), rfl⟩), (fun h => by omega), (fun j j0 => fb_3 j (by omega)), rfl⟩
  · refine ezw_iconst (0) rfl rfl ?_
    exact ezw_ireturn rfl (ezw_zret ⟨by omega, by omega⟩) ⟨(0), i25, r88, rfl, hT, (0), ⟨by omega, by omega⟩, (fun h => by omega), (fun _ => ⟨rfl, rfl, rfl⟩), (fun _ _ => rfl), rfl⟩
def ezm_m263_v0nQ (e : Bool × Bool) (F : Nat → Nat → Int) (A : Nat → Int → Int) (i0 i2 i3 i7 i8 i13 i18 i19 i20 i25 i29 i30 i31 i36 i37 i38 : Int) (r73 r74 r75 r76 r77 r78 r79 r80 r81 r82 r83 r84 r85 r86 r87 r88 r89 r90 r91 r92 r93 r94 r95 : Int → Int) (a1 : Int) : Option ezq_V → (Nat → ezq_C) → Prop := fun v g' => ezm_h e F A i0 i2 i3 i7 i8 i13 i18 i19 i20 i25 i29 i30 i31 i36 i37 i38 r73 r74 r75 r76 r77 r78 r79 r80 r81 r82 r83 r84 r85 r86 r87 r88 r89 r90 r91 r92 r93 r94 r95 = g' ∧ ∃ u : Int, (ezw_in u) ∧ (u = r78 (4 * a1 + 49)) ∧ some (ezw_i u) = v
theorem ezm_m263_v0n {a1 : Int} (hT : ezm_T i0 i2 i3 i7 i8 i13 i18 i19 i20 i25 i29 i30 i31 i36 i37 i38 r73 r74 r75 r76 r77 r78 r79 r80 r81 r82 r83 r84 r85 r86 r87 r88 r89 r90 r91 r92 r93 r94 r95) (hd : 0 ≤ d) (ha1 : ezw_in a1) (ga : 0 ≤ a1 ∧ a1 ≤ 7) : ezw_C l ρ B xa Hb D cA 263 d [ezw_p 72, ezw_i a1, ezw_i (0)] (ezm_h e F A i0 i2 i3 i7 i8 i13 i18 i19 i20 i25 i29 i30 i31 i36 i37 i38 r73 r74 r75 r76 r77 r78 r79 r80 r81 r82 r83 r84 r85 r86 r87 r88 r89 r90 r91 r92 r93 r94 r95) (ezm_m263_v0nQ  e F A i0 i2 i3 i7 i8 i13 i18 i19 i20 i25 i29 i30 i31 i36 i37 i38 r73 r74 r75 r76 r77 r78 r79 r80 r81 r82 r83 r84 r85 r86 r87 r88 r89 r90 r91 r92 r93 r94 r95 a1) := by
  refine ezw_met (k := 0) rfl rfl ?_
  refine ezw_aload_n rfl rfl ?_
  refine ezm_gp (p := 78) rfl (fun _ => rfl) ?_
  refine ezw_bipush (49) rfl rfl ?_
  refine ezw_iconst (4) rfl rfl ?_
  refine ezw_iload_n rfl rfl ?_
  refine ezw_imul (k := 4 * a1) rfl (by omega) ?_
  refine ezw_iadd (k := 4 * a1 + 49) rfl (by omega) ?_
  refine ezw_iload_n rfl rfl ?_
  refine ezw_iadd (k := 4 * a1 + 49) rfl (by omega) ?_
  refine ezm_l78 rfl (by omega) (by omega) (fun u1 eu1 => ?_)
  have ku1 : ezm_k78 (4 * a1 + 49) u1 := eu1 ▸ hT.t78 (4 * a1 + 49)
  exact ezw_ireturn rfl rfl ⟨rfl, u1, (ezm_in78 ku1), eu1, rfl⟩
def ezm_m293_v0nQ (e : Bool × Bool) (F : Nat → Nat → Int) (A : Nat → Int → Int) (i0 i2 i3 i7 i8 i13 i18 i19 i20 i25 i29 i30 i31 i36 i37 i38 : Int) (r73 r74 r75 r76 r77 r78 r79 r80 r81 r82 r83 r84 r85 r86 r87 r88 r89 r90 r91 r92 r93 r94 r95 : Int → Int) (z : ezp_D) (w : ezn_N) : Option ezq_V → (Nat → ezq_C) → Prop := fun v g' => ezm_h e F A i0 i2 i3 i7 i8 i13 i18 i19 i20 i25 i29 i30 i31 i36 i37 i38 r73 r74 r75 r76 r77 r78 r79 r80 r81 r82 r83 r84 r85 r86 r87 r88 r89 r90 r91 r92 r93 r94 r95 = g' ∧ ∃ u : Int, (ezw_in u) ∧ (u = ezn_wr z w) ∧ some (ezw_i u) = v
theorem ezm_m293_v0n {z : ezp_D} {w : ezn_N} (hT : ezm_T i0 i2 i3 i7 i8 i13 i18 i19 i20 i25 i29 i30 i31 i36 i37 i38 r73 r74 r75 r76 r77 r78 r79 r80 r81 r82 r83 r84 r85 r86 r87 r88 r89 r90 r91 r92 r93 r94 r95) (hd : 1 ≤ d) (nw : ezn_NW z w 0 r88) (wb : ezn_B z w) (tf : ezm_TRF z i18 r78 r81 r83) (hB : ezp_B z) : ezw_C l ρ B xa Hb D cA 293 d [ezw_p 72, ezw_i (0)] (ezm_h e F A i0 i2 i3 i7 i8 i13 i18 i19 i20 i25 i29 i30 i31 i36 i37 i38 r73 r74 r75 r76 r77 r78 r79 r80 r81 r82 r83 r84 r85 r86 r87 r88 r89 r90 r91 r92 r93 r94 r95) (ezm_m293_v0nQ  e F A i0 i2 i3 i7 i8 i13 i18 i19 i20 i25 i29 i30 i31 i36 i37 i38 r73 r74 r75 r76 r77 r78 r79 r80 r81 r82 r83 r84 r85 r86 r87 r88 r89 r90 r91 r92 r93 r94 r95 z w) := by
  refine ezw_met (k := 2) rfl rfl ?_
  obtain ⟨⟨k0, k1, k2, k3⟩, ktw, kth, kov, ksg, kel, knu, knm⟩ := ezm_TRFi tf
  obtain ⟨b1, b2, b3, b4, b5, b6, b7, ⟨b8, b8'⟩, b9⟩ := id hB
  have n0 : r78 4 = z.nu 0 := knu 0 (by decide) (by decide)
  have nb0 : 0 ≤ z.nu 0 ∧ z.nu 0 ≤ 999 := b8 0 (by decide) (by decide)
  obtain ⟨n0, n1, n2, n3, n4, n5, n6, n7⟩ := (ezn_NW_i 0 1 7 15 16 17 18 19 (by decide) (by decide) (by decide) (by decide) (by decide) (by decide) (by decide)).mp nw
  obtain ⟨⟨x0, x1⟩, x2, x3, x4, x5, x6, x7, x8, x9, x10, x11, x12⟩ := id wb
  have xc := ezn_cn_r x0 x1
  refine ezw_aload_n rfl rfl ?_
  refine ezm_gp (p := 88) rfl (fun _ => rfl) ?_
  refine ezw_iload_n rfl rfl ?_
  refine ezw_bipush (17) rfl rfl ?_
  refine ezw_iadd (k := (17)) rfl (by omega) ?_
  refine ezm_l88 rfl (by omega) (by omega) (fun u1 eu1 => ?_)
  have ku1 : ezm_k88 (17) u1 := eu1 ▸ hT.t88 (17)
  refine ezw_iconst (1) rfl rfl ?_
  have J35_3 : ∀ y2 : Int, ezw_in y2 → (y2 = (if w.ki = 1 ∧ 0 < w.pa then z.nu 0 else 0)) → (0 ≤ y2 ∧ y2 ≤ 999) → ezw_E l ρ B xa Hb D cA d ezq_re293 (ezm_m293_v0nQ  e F A i0 i2 i3 i7 i8 i13 i18 i19 i20 i25 i29 i30 i31 i36 i37 i38 r73 r74 r75 r76 r77 r78 r79 r80 r81 r82 r83 r84 r85 r86 r87 r88 r89 r90 r91 r92 r93 r94 r95 z w) 35 [some (ezw_p 72), some (ezw_i (0)), none, none] [ezw_i y2] (ezm_h e F A i0 i2 i3 i7 i8 i13 i18 i19 i20 i25 i29 i30 i31 i36 i37 i38 r73 r74 r75 r76 r77 r78 r79 r80 r81 r82 r83 r84 r85 r86 r87 r88 r89 r90 r91 r92 r93 r94 r95) := by
    intro y2 hy2 k_3 kr_3
    refine ezw_istore_n rfl rfl ?_
    refine ezw_iconst (0) rfl rfl ?_
    refine ezw_istore_n rfl rfl ?_
    have L38_5 : ∀ c4 : Int, ezw_in c4 → ∀ y6 : Int, ezw_in y6 → ((0) ≤ c4) → (c4 ≤ z.kH) → (y6 = y2 + ezp_sm (fun t => if ezt_b w.ha t = 1 then z.wo t else 0) (c4).toNat) → (0 ≤ y6 ∧ y6 ≤ 999 + 999 * c4) → ezw_E l ρ B xa Hb D cA d ezq_re293 (ezm_m293_v0nQ  e F A i0 i2 i3 i7 i8 i13 i18 i19 i20 i25 i29 i30 i31 i36 i37 i38 r73 r74 r75 r76 r77 r78 r79 r80 r81 r82 r83 r84 r85 r86 r87 r88 r89 r90 r91 r92 r93 r94 r95 z w) 38 [some (ezw_p 72), some (ezw_i (0)), some (ezw_i y6), some (ezw_i c4)] [] (ezm_h e F A i0 i2 i3 i7 i8 i13 i18 i19 i20 i25 i29 i30 i31 i36 i37 i38 r73 r74 r75 r76 r77 r78 r79 r80 r81 r82 r83 r84 r85 r86 r87 r88 r89 r90 r91 r92 r93 r94 r95) := by
      refine ezs_up ?_
      intro c4 hc4 ihc4 y6 hy6 g_5 cb_5 sm_5 sr_5
      refine ezw_iload_n rfl rfl ?_
      refine ezw_aload_n rfl rfl ?_
      refine ezw_call0_0 rfl (by omega) (ezm_at rfl) rfl rfl rfl rfl (ezm_m216 hT (by omega)) ?_
      rintro _ _ ⟨rfl, u8, hu8, p7_0, p7_1, rfl⟩
      refine ezw_icmp_ge rfl rfl hc4 hu8 (fun h43_8 => ?_) (fun h43_8 => ?_)
      · refine ezw_iload_n rfl rfl ?_
        exact ezw_ireturn rfl rfl ⟨rfl, y6, hy6, (by
              have h9 := sm_5
              rw [k_3, show c4 = z.kH by omega] at h9
              unfold ezn_wr ezn_hw
              rw [h9]
              split <;> omega), rfl⟩
      · refine ezw_iload_n rfl rfl ?_
        refine ezw_aload_n rfl rfl ?_
        refine ezm_gp (p := 88) rfl (fun _ => rfl) ?_
        refine ezw_iload_n rfl rfl ?_
        refine ezw_bipush (19) rfl rfl ?_
        refine ezw_iadd (k := (19)) rfl (by omega) ?_
        refine ezm_l88 rfl (by omega) (by omega) (fun u9 eu9 => ?_)
        have ku9 : ezm_k88 (19) u9 := eu9 ▸ hT.t88 (19)
        have zu9 := ezm_zs19 ku9 (by omega)
        refine ezw_iload_n rfl rfl ?_
        refine ezw_ishr rfl (ezm_in88 ku9) (by omega) (by omega) (k := (u9 / 2 ^ (c4).toNat)) (rfl) ?_
        refine ezw_iconst (1) rfl rfl ?_
        refine ezw_iand rfl (k := ezw_and ((u9 / 2 ^ (c4).toNat)) 1) rfl ?_
        have hbt : (ezw_and ((u9 / 2 ^ (c4).toNat)) 1) = 1 ↔ ezt_b w.ha c4 = 1 := by
          rw [ezt_and1]
          unfold ezt_b
          rw [show u9 = w.ha by omega]
        refine ezw_iconst (1) rfl rfl ?_
        refine ezw_icmp_ne rfl rfl (by rw [ezt_and1]; exact ⟨by omega, by omega⟩) ⟨by decide, by decide⟩ (fun h61_9 => ?_) (fun h61_9 => ?_)
        · refine ezw_iconst (0) rfl rfl ?_
          refine ezw_iadd (k := y6) rfl (by omega) ?_
          refine ezw_istore_n rfl rfl ?_
          refine ezw_iinc (k := c4 + 1) (1) rfl rfl rfl (by omega) rfl ?_
          refine ezw_goto rfl rfl ?_
          exact ezw_keepE [true, true, true, true] (ihc4 (c4 + 1) (by omega) ⟨by omega, by omega⟩ y6 ⟨by omega, by omega⟩ (by omega) (by omega) (by
                rw [ezp_sm_n (by omega)]
                rw [if_neg (fun h9 => absurd (hbt.mpr h9) (by omega))]
                omega) (by omega))
        · refine ezw_aload_n rfl rfl ?_
          refine ezw_iload_n rfl rfl ?_
          refine ezw_iconst (0) rfl rfl ?_
          refine ezw_call0_2 rfl (by omega) (ezm_at rfl) rfl rfl rfl rfl (ezm_m263_v0n hT (by omega) hc4 (by omega)) ?_
          rintro _ _ ⟨rfl, u11, hu11, th_10, rfl⟩
          have hw9 : u11 = z.wo c4 := by
            rw [th_10]
            exact (kth c4 (by omega) (by omega)).1
          have hw8 := (b2 c4 (by omega) (by omega)).1
          refine ezw_goto rfl rfl ?_
          refine ezw_iadd (k := y6 + u11) rfl (by omega) ?_
          refine ezw_istore_n rfl rfl ?_
          refine ezw_iinc (k := c4 + 1) (1) rfl rfl rfl (by omega) rfl ?_
          refine ezw_goto rfl rfl ?_
          exact ezw_keepE [true, true, true, true] (ihc4 (c4 + 1) (by omega) ⟨by omega, by omega⟩ (y6 + u11) ⟨by omega, by omega⟩ (by omega) (by omega) (by
                rw [ezp_sm_n (by omega)]
                rw [if_pos (hbt.mp (by omega))]
                omega) (by omega))
    exact ezw_keepE [true, true, true, true] (L38_5 (0) ⟨by decide, by decide⟩ y2 hy2 (by omega) (by omega) (Int.add_zero _).symm (by omega))
  refine ezw_icmp_ne rfl rfl (ezm_in88 ku1) ⟨by decide, by decide⟩ (fun h10_1 => ?_) (fun h10_1 => ?_)
  · refine ezw_iconst (0) rfl rfl ?_
    exact ezw_keepE [true, true, false, false] (J35_3 (0) ⟨by decide, by decide⟩ (by
          first
            | (rw [if_pos (by omega)]; omega)
            | (rw [if_neg (by omega)])) (by omega))
  · refine ezw_aload_n rfl rfl ?_
    refine ezm_gp (p := 88) rfl (fun _ => rfl) ?_
    refine ezw_iload_n rfl rfl ?_
    refine ezw_bipush (18) rfl rfl ?_
    refine ezw_iadd (k := (18)) rfl (by omega) ?_
    refine ezm_l88 rfl (by omega) (by omega) (fun u12 eu12 => ?_)
    have ku12 : ezm_k88 (18) u12 := eu12 ▸ hT.t88 (18)
    refine ezw_if_le rfl rfl (ezm_in88 ku12) (fun h22_12 => ?_) (fun h22_12 => ?_)
    · refine ezw_iconst (0) rfl rfl ?_
      exact ezw_keepE [true, true, false, false] (J35_3 (0) ⟨by decide, by decide⟩ (by
            first
              | (rw [if_pos (by omega)]; omega)
              | (rw [if_neg (by omega)])) (by omega))
    · refine ezw_aload_n rfl rfl ?_
      refine ezm_gp (p := 78) rfl (fun _ => rfl) ?_
      refine ezw_iconst (4) rfl rfl ?_
      refine ezm_l78 rfl (by omega) (by omega) (fun u13 eu13 => ?_)
      have ku13 : ezm_k78 (4) u13 := eu13 ▸ hT.t78 (4)
      refine ezw_goto rfl rfl ?_
      exact ezw_keepE [true, true, false, false] (J35_3 u13 (ezm_in78 ku13) (by
            first
              | (rw [if_pos (by omega)]; omega)
              | (rw [if_neg (by omega)])) (by omega))
def ezm_m292nQ (e : Bool × Bool) (F : Nat → Nat → Int) (A : Nat → Int → Int) (i0 i2 i3 i7 i8 i13 i18 i19 i20 i25 i29 i30 i31 i36 i37 i38 : Int) (r73 r74 r75 r76 r77 r78 r79 r80 r81 r82 r83 r84 r85 r86 r87 r88 r89 r90 r91 r92 r93 r94 r95 : Int → Int) (z : ezp_D) (w : ezn_N) : Option ezq_V → (Nat → ezq_C) → Prop := fun v g' => ∃ (x0 : Int), ezm_h e F A x0 i2 i3 i7 i8 i13 i18 i19 i20 i25 i29 i30 i31 i36 i37 i38 r73 r74 r75 r76 r77 r78 r79 r80 r81 r82 r83 r84 r85 r86 r87 r88 r89 r90 r91 r92 r93 r94 r95 = g' ∧ ezm_T x0 i2 i3 i7 i8 i13 i18 i19 i20 i25 i29 i30 i31 i36 i37 i38 r73 r74 r75 r76 r77 r78 r79 r80 r81 r82 r83 r84 r85 r86 r87 r88 r89 r90 r91 r92 r93 r94 r95 ∧ ∃ u : Int, (ezw_in u) ∧ (u = ezn_wr z w) ∧ some (ezw_i u) = v
theorem ezm_m292n {z : ezp_D} {w : ezn_N} (hT : ezm_T i0 i2 i3 i7 i8 i13 i18 i19 i20 i25 i29 i30 i31 i36 i37 i38 r73 r74 r75 r76 r77 r78 r79 r80 r81 r82 r83 r84 r85 r86 r87 r88 r89 r90 r91 r92 r93 r94 r95) (hd : 2 ≤ d) (nw : ezn_NW z w 0 r88) (wb : ezn_B z w) (tf : ezm_TRF z i18 r78 r81 r83) (hB : ezp_B z) : ezw_C l ρ B xa Hb D cA 292 d [ezw_p 72] (ezm_h e F A i0 i2 i3 i7 i8 i13 i18 i19 i20 i25 i29 i30 i31 i36 i37 i38 r73 r74 r75 r76 r77 r78 r79 r80 r81 r82 r83 r84 r85 r86 r87 r88 r89 r90 r91 r92 r93 r94 r95) (ezm_m292nQ  e F A i0 i2 i3 i7 i8 i13 i18 i19 i20 i25 i29 i30 i31 i36 i37 i38 r73 r74 r75 r76 r77 r78 r79 r80 r81 r82 r83 r84 r85 r86 r87 r88 r89 r90 r91 r92 r93 r94 r95 z w) := by
  refine ezw_met (k := 0) rfl rfl ?_
  refine ezw_aload_n rfl rfl ?_
  refine ezw_iconst (0) rfl rfl ?_
  refine ezm_p0 hT rfl ⟨by decide, by decide⟩ (fun hT => ?_)
  refine ezw_aload_n rfl rfl ?_
  refine ezw_iconst (0) rfl rfl ?_
  refine ezw_call0_1 rfl (by omega) (ezm_at rfl) rfl rfl rfl rfl (ezm_m293_v0n hT (by omega) nw wb tf hB) ?_
  rintro _ _ ⟨rfl, u2, hu2, an_1, rfl⟩
  exact ezw_ireturn rfl rfl ⟨(0), rfl, hT, u2, hu2, an_1, rfl⟩
end KM6
