/-! ===== the model: laws, the deepest ===== -/
section KM6
variable {l : Launch} {ρ : ezq_E} {B : Nat} {xa : Nat → Option Nat} {Hb : Heap} {D : va_G} {cA : Nat → ClassId} {d : Nat} {e : Bool × Bool} {F : Nat → Nat → Int} {A : Nat → Int → Int} {i0 i2 i3 i7 i8 i13 i18 i19 i20 i25 i29 i30 i31 i36 i37 i38 : Int} {r73 r74 r75 r76 r77 r78 r79 r80 r81 r82 r83 r84 r85 r86 r87 r88 r89 r90 r91 r92 r93 r94 r95 : Int → Int}
def ezm_m223_v41pQ (e : Bool × Bool) (F : Nat → Nat → Int) (A : Nat → Int → Int) (i0 i2 i3 i7 i8 i13 i18 i19 i20 i25 i29 i30 i31 i36 i37 i38 : Int) (r73 r74 r75 r76 r77 r78 r79 r80 r81 r82 r83 r84 r85 r86 r87 r88 r89 r90 r91 r92 r93 r94 r95 : Int → Int) (n : Int) (c : Int → Int) (s : Int × Int) : Option ezq_V → (Nat → ezq_C) → Prop := fun v g' => ezm_h e F A i0 i2 i3 i7 i8 i13 i18 i19 i20 i25 i29 i30 i31 i36 i37 i38 r73 r74 r75 r76 r77 r78 r79 r80 r81 r82 r83 r84 r85 r86 r87 r88 r89 r90 r91 r92 r93 r94 r95 = g' ∧ ∃ u : Int, (0 ≤ u ∧ u ≤ 1) ∧ (u = 1 → i8 = 0 ∧ i7 < n) ∧ (u = ezm_w i8 i7 r74 r76 r77 (41)) ∧ (u = 1 → s.1 = 0 ∧ ezp_K c s.2 = 41) ∧ (u = 0 → s.1 ≠ 0 ∨ ezp_K c s.2 ≠ 41) ∧ some (ezw_i u) = v
set_option maxHeartbeats 8000000 in
theorem ezm_m223_v41p {c : Int → Int} {s : Int × Int} {n : Int} (hT : ezm_T i0 i2 i3 i7 i8 i13 i18 i19 i20 i25 i29 i30 i31 i36 i37 i38 r73 r74 r75 r76 r77 r78 r79 r80 r81 r82 r83 r84 r85 r86 r87 r88 r89 r90 r91 r92 r93 r94 r95) (hd : 0 ≤ d) (hn : 0 ≤ i7 ∧ i7 ≤ n) (hs : r74 n = 0) (h1 : n ≤ 1000) (tk : ezm_TK c n r74 r75 r76) (hM : ∀ w, 0 ≤ w → w < 48 → r77 w = ezl_mw.getD w.toNat 0) (st : ezm_ST s i8 i7) : ezw_C l ρ B xa Hb D cA 223 d [ezw_p 72, ezw_i (41)] (ezm_h e F A i0 i2 i3 i7 i8 i13 i18 i19 i20 i25 i29 i30 i31 i36 i37 i38 r73 r74 r75 r76 r77 r78 r79 r80 r81 r82 r83 r84 r85 r86 r87 r88 r89 r90 r91 r92 r93 r94 r95) (ezm_m223_v41pQ  e F A i0 i2 i3 i7 i8 i13 i18 i19 i20 i25 i29 i30 i31 i36 i37 i38 r73 r74 r75 r76 r77 r78 r79 r80 r81 r82 r83 r84 r85 r86 r87 r88 r89 r90 r91 r92 r93 r94 r95 n c s) := by
  refine ezw_met (k := 0) rfl rfl ?_
  obtain ⟨se, sa, sp, hP, sw, sk⟩ := ezm_TKi tk st hn
  refine ezw_aload_n rfl rfl ?_
  refine ezm_g8 rfl ?_
  have k1 := hT.t8
  refine ezw_if_ne rfl rfl ⟨by omega, by omega⟩ (fun h4_1 => ?_) (fun h4_1 => ?_)
  · refine ezw_iconst (0) rfl rfl ?_
    exact ezw_ireturn rfl (ezw_zret ⟨by omega, by omega⟩) ⟨rfl, (0), ⟨by omega, by omega⟩, by omega, by unfold ezm_w; first | exact (if_pos ⟨by omega, by omega, by omega⟩).symm | exact (if_neg (fun h => by omega)).symm, by omega, fun _ => by
          by_cases z0 : s.1 = 0
          · by_cases z1 : r74 i7 = 1
            · have hx := ezm_ixw (a := 41) hM (sw z0 z1) ⟨by decide, by decide⟩
              by_cases z2 : r76 i7 = r77 (41)
              · exfalso
                omega
              · have z3 : ezp_ix (ezp_W c s.2) ≠ 41 := fun y => z2 (hx.mpr y)
                omega
            · omega
          · exact Or.inl z0, rfl⟩
  · refine ezw_aload_n rfl rfl ?_
    refine ezm_gp (p := 74) rfl (fun _ => rfl) ?_
    refine ezw_aload_n rfl rfl ?_
    refine ezm_g7 rfl ?_
    have k2 := hT.t7
    refine ezm_l74 rfl (by omega) (by omega) (fun u3 eu3 => ?_)
    have ku3 : ezw_in u3 := eu3 ▸ hT.t74 i7
    refine ezw_iconst (1) rfl rfl ?_
    refine ezw_icmp_ne rfl rfl ku3 ⟨by decide, by decide⟩ (fun h17_3 => ?_) (fun h17_3 => ?_)
    · refine ezw_iconst (0) rfl rfl ?_
      exact ezw_ireturn rfl (ezw_zret ⟨by omega, by omega⟩) ⟨rfl, (0), ⟨by omega, by omega⟩, by omega, by unfold ezm_w; first | exact (if_pos ⟨by omega, by omega, by omega⟩).symm | exact (if_neg (fun h => by omega)).symm, by omega, fun _ => by
            by_cases z0 : s.1 = 0
            · by_cases z1 : r74 i7 = 1
              · have hx := ezm_ixw (a := 41) hM (sw z0 z1) ⟨by decide, by decide⟩
                by_cases z2 : r76 i7 = r77 (41)
                · exfalso
                  omega
                · have z3 : ezp_ix (ezp_W c s.2) ≠ 41 := fun y => z2 (hx.mpr y)
                  omega
              · omega
            · exact Or.inl z0, rfl⟩
    · refine ezw_aload_n rfl rfl ?_
      refine ezm_gp (p := 76) rfl (fun _ => rfl) ?_
      refine ezw_aload_n rfl rfl ?_
      refine ezm_g7 rfl ?_
      refine ezm_l76 rfl (by omega) (by omega) (fun u4 eu4 => ?_)
      have ku4 : ezw_il u4 := eu4 ▸ hT.t76 i7
      refine ezw_aload_n rfl rfl ?_
      refine ezm_gp (p := 77) rfl (fun _ => rfl) ?_
      refine ezw_iload_n rfl rfl ?_
      refine ezm_l77 rfl (by omega) (by omega) (fun u5 eu5 => ?_)
      have ku5 : ezw_il u5 := eu5 ▸ hT.t77 (41)
      refine ezw_lcmpE rfl ku4 ku5 (fun u6 hu6 => ?_)
      refine ezw_if_ne rfl rfl ⟨by omega, by omega⟩ (fun h36_6 => ?_) (fun h36_6 => ?_)
      · refine ezw_iconst (0) rfl rfl ?_
        exact ezw_ireturn rfl (ezw_zret ⟨by omega, by omega⟩) ⟨rfl, (0), ⟨by omega, by omega⟩, by omega, by unfold ezm_w; first | exact (if_pos ⟨by omega, by omega, by omega⟩).symm | exact (if_neg (fun h => by omega)).symm, by omega, fun _ => by
              by_cases z0 : s.1 = 0
              · by_cases z1 : r74 i7 = 1
                · have hx := ezm_ixw (a := 41) hM (sw z0 z1) ⟨by decide, by decide⟩
                  by_cases z2 : r76 i7 = r77 (41)
                  · exfalso
                    omega
                  · have z3 : ezp_ix (ezp_W c s.2) ≠ 41 := fun y => z2 (hx.mpr y)
                    omega
                · omega
              · exact Or.inl z0, rfl⟩
      · refine ezw_iconst (1) rfl rfl ?_
        refine ezw_goto rfl rfl ?_
        exact ezw_ireturn rfl (ezw_zret ⟨by omega, by omega⟩) ⟨rfl, (1), ⟨by omega, by omega⟩, fun _ => ⟨by omega, ezm_lt (by omega) hs (by omega)⟩, by unfold ezm_w; first | exact (if_pos ⟨by omega, by omega, by omega⟩).symm | exact (if_neg (fun h => by omega)).symm, fun _ => by
              have hx := (ezm_ixw (a := 41) hM (sw (by omega) (by omega)) ⟨by decide, by decide⟩).mp (by omega)
              omega, by omega, rfl⟩
def ezm_m249_v5pQ (e : Bool × Bool) (F : Nat → Nat → Int) (A : Nat → Int → Int) (i0 i2 i3 i7 i8 i13 i18 i19 i20 i25 i29 i30 i31 i36 i37 i38 : Int) (r73 r74 r75 r76 r77 r78 r79 r80 r81 r82 r83 r84 r85 r86 r87 r88 r89 r90 r91 r92 r93 r94 r95 : Int → Int) (n : Int) (c : Int → Int) (x : ezp_X) (kk : Int) (tpn : Int) : Option ezq_V → (Nat → ezq_C) → Prop := fun v g' => ∃ (x7 x8 x13 : Int) (x79 x80 : Int → Int), ezm_h e F A i0 i2 i3 x7 x8 x13 i18 i19 i20 i25 i29 i30 i31 i36 i37 i38 r73 r74 r75 r76 r77 r78 x79 x80 r81 r82 r83 r84 r85 r86 r87 r88 r89 r90 r91 r92 r93 r94 r95 = g' ∧ ezm_T i0 i2 i3 x7 x8 x13 i18 i19 i20 i25 i29 i30 i31 i36 i37 i38 r73 r74 r75 r76 r77 r78 x79 x80 r81 r82 r83 r84 r85 r86 r87 r88 r89 r90 r91 r92 r93 r94 r95 ∧ (i8 ≠ 0 → x8 ≠ 0) ∧ (i7 ≤ x7 ∧ x7 ≤ n) ∧ (i13 ≤ x13 ∧ x13 - i13 ≤ x7 - i7) ∧ (ezm_fr r79 r80 x79 x80 (i13 + 1100)) ∧ (x8 = 0 → ezm_sg x79 x80 (i13 + 1100) (x13 + 1100)) ∧ (ezm_ST ((ezp_pt c 0 x).1) x8 x7) ∧ (ezm_LM kk ((ezp_pt c 0 x).2) x13 x79 x80) ∧ none = v
set_option maxHeartbeats 8000000 in
theorem ezm_m249_v5p {c : Int → Int} {x : ezp_X} {n kk tpn : Int} (hT : ezm_T i0 i2 i3 i7 i8 i13 i18 i19 i20 i25 i29 i30 i31 i36 i37 i38 r73 r74 r75 r76 r77 r78 r79 r80 r81 r82 r83 r84 r85 r86 r87 r88 r89 r90 r91 r92 r93 r94 r95) (hd : 2 ≤ d) (hc : 0 ≤ i13 ∧ i13 ≤ i7) (hn : 0 ≤ i7 ∧ i7 ≤ n) (hs : r74 n = 0) (h1 : n ≤ 1000) (tk : ezm_TK c n r74 r75 r76) (hM : ∀ w, 0 ≤ w → w < 48 → r77 w = ezl_mw.getD w.toNat 0) (st : ezm_ST x.1 i8 i7) (g1 : 1 ≤ i7) (lm : ezm_LM kk x.2 i13 r79 r80) (tp : ezp_tp c tpn) : ezw_C l ρ B xa Hb D cA 249 d [ezw_p 72, ezw_i (5)] (ezm_h e F A i0 i2 i3 i7 i8 i13 i18 i19 i20 i25 i29 i30 i31 i36 i37 i38 r73 r74 r75 r76 r77 r78 r79 r80 r81 r82 r83 r84 r85 r86 r87 r88 r89 r90 r91 r92 r93 r94 r95) (ezm_m249_v5pQ  e F A i0 i2 i3 i7 i8 i13 i18 i19 i20 i25 i29 i30 i31 i36 i37 i38 r73 r74 r75 r76 r77 r78 r79 r80 r81 r82 r83 r84 r85 r86 r87 r88 r89 r90 r91 r92 r93 r94 r95 n c x kk tpn) := by
  refine ezw_met (k := 2) rfl rfl ?_
  obtain ⟨se, sa, sp, hP, sw, sk⟩ := ezm_TKi tk st hn
  refine ezw_aload_n rfl rfl ?_
  refine ezm_g8 rfl ?_
  have k1 := hT.t8
  refine ezw_if_le rfl rfl ⟨by omega, by omega⟩ (fun h4_1 => ?_) (fun h4_1 => ?_)
  · have hix := ezp_ix_48 (ezp_W c x.1.2)
    have z0 : x.1.1 = 0 := by omega
    replace sa := sa z0
    replace sk := sk z0
    clear sp sw
    refine ezw_aload_n rfl rfl ?_
    refine ezm_gp (p := 74) rfl (fun _ => rfl) ?_
    refine ezw_aload_n rfl rfl ?_
    refine ezm_g7 rfl ?_
    have k2 := hT.t7
    refine ezm_l74 rfl (by omega) (by omega) (fun u3 eu3 => ?_)
    have ku3 : ezw_in u3 := eu3 ▸ hT.t74 i7
    refine ezw_iconst (2) rfl rfl ?_
    refine ezw_icmp_ne rfl rfl ku3 ⟨by decide, by decide⟩ (fun h18_3 => ?_) (fun h18_3 => ?_)
    · refine ezw_iconst (0) rfl rfl ?_
      refine ezw_istore_n rfl rfl ?_
      refine ezw_aload_n rfl rfl ?_
      refine ezw_bipush (44) rfl rfl ?_
      refine ezw_iconst (4) rfl rfl ?_
      refine ezw_call0_2 rfl (by omega) (ezm_at rfl) rfl rfl rfl rfl (ezm_m228p hT (by omega) ⟨by decide, by decide⟩ ⟨by decide, by decide⟩ (by omega) (by omega) hs (by omega) tk hM st) ?_
      rintro _ _ ⟨rfl, u5, hu5, p4_0, p4_1, p4_2, wh_4, rfl⟩
      refine ezw_istore_n rfl rfl ?_
      refine ezw_iload_n rfl rfl ?_
      refine ezw_if_ge rfl rfl hu5 (fun h36_5 => ?_) (fun h36_5 => ?_)
      · refine ezw_iload_n rfl rfl ?_
        refine ezw_iconst (5) rfl rfl ?_
        refine ezw_icmp_ne rfl rfl ⟨by decide, by decide⟩ ⟨by decide, by decide⟩ (fun h71_5 => absurd h71_5 (by omega)) (fun h71_5 => ?_)
        refine ezw_aload_n rfl rfl ?_
        refine ezw_iconst (5) rfl rfl ?_
        refine ezw_call0_1 rfl (by omega) (ezm_at rfl) rfl rfl rfl rfl (ezm_m225p hT (by omega) ⟨by decide, by decide⟩ (by omega) (by omega) (by omega) hs (by omega) tk hM st) ?_
        rintro _ _ ⟨x8_6, rfl, hT, p6_0, p6_1, st_6, rfl⟩
        have k7 := hT.t8
        refine ezw_aload_n rfl rfl ?_
        refine ezm_g8 rfl ?_
        refine ezw_if_le rfl rfl ⟨by omega, by omega⟩ (fun h83_7 => absurd h83_7 (by omega)) (fun h83_7 => ?_)
        exact ezw_return rfl rfl ⟨i7, x8_6, i13, r79, r80, rfl, hT, by omega, by omega, by omega, ezm_fr_r _ _ _, fun z => absurd z (by omega), by
              first
                | (exfalso; omega)
                | (rw [ezp_pt_0]
                   repeat (first | rw [if_pos (by omega)] | rw [if_neg (by omega)])
                   first
                     | exact ezm_ST_t st (by omega) (fun _ => by omega)
                     | exact st_6
                     | exact ezm_ST_7 st (by omega) (fun _ => by omega)
                     | (have h9 := st_6; rw [ezp_wr_n (by omega)] at h9 ⊢; exact ezm_ST_7 st (by omega) (fun _ => by omega))
                     | (rw [ezp_wr_n (by omega)]; exact ezm_ST_7 st (by omega) (fun _ => by omega))), by
              first
                | (exfalso; omega)
                | (rw [ezp_pt_0]
                   repeat (first | rw [if_pos (by omega)] | rw [if_neg (by omega)])
                   exact lm), rfl⟩
      · refine ezw_iload_n rfl rfl ?_
        refine ezw_if_ne rfl rfl ⟨by decide, by decide⟩ (fun h40_7 => absurd h40_7 (by omega)) (fun h40_7 => ?_)
        refine ezw_aload_n rfl rfl ?_
        refine ezw_bipush (40) rfl rfl ?_
        refine ezw_call0_1 rfl (by omega) (ezm_at rfl) rfl rfl rfl rfl (ezm_m250p hT (by omega) ⟨by decide, by decide⟩ (by omega) hs (by omega) tk hM st (by omega)) ?_
        rintro _ _ ⟨rfl, u9, hu9, f_8, w_8, q1_8, q0_8, rfl⟩
        refine ezw_if_ne rfl rfl ⟨by omega, by omega⟩ (fun h49_9 => ?_) (fun h49_9 => ?_)
        · refine ezw_iload_n rfl rfl ?_
          refine ezw_iconst (5) rfl rfl ?_
          refine ezw_icmp_ne rfl rfl ⟨by decide, by decide⟩ ⟨by decide, by decide⟩ (fun h71_9 => absurd h71_9 (by omega)) (fun h71_9 => ?_)
          refine ezw_aload_n rfl rfl ?_
          refine ezw_iconst (5) rfl rfl ?_
          refine ezw_call0_1 rfl (by omega) (ezm_at rfl) rfl rfl rfl rfl (ezm_m225p hT (by omega) ⟨by decide, by decide⟩ (by omega) (by omega) (by omega) hs (by omega) tk hM st) ?_
          rintro _ _ ⟨x8_10, rfl, hT, p10_0, p10_1, st_10, rfl⟩
          have k11 := hT.t8
          refine ezw_aload_n rfl rfl ?_
          refine ezm_g8 rfl ?_
          refine ezw_if_le rfl rfl ⟨by omega, by omega⟩ (fun h83_11 => absurd h83_11 (by omega)) (fun h83_11 => ?_)
          exact ezw_return rfl rfl ⟨i7, x8_10, i13, r79, r80, rfl, hT, by omega, by omega, by omega, ezm_fr_r _ _ _, fun z => absurd z (by omega), by
                first
                  | (exfalso; omega)
                  | (rw [ezp_pt_0]
                     repeat (first | rw [if_pos (by omega)] | rw [if_neg (by omega)])
                     first
                       | exact ezm_ST_t st (by omega) (fun _ => by omega)
                       | exact st_10
                       | exact ezm_ST_7 st (by omega) (fun _ => by omega)
                       | (have h9 := st_10; rw [ezp_wr_n (by omega)] at h9 ⊢; exact ezm_ST_7 st (by omega) (fun _ => by omega))
                       | (rw [ezp_wr_n (by omega)]; exact ezm_ST_7 st (by omega) (fun _ => by omega))), by
                first
                  | (exfalso; omega)
                  | (rw [ezp_pt_0]
                     repeat (first | rw [if_pos (by omega)] | rw [if_neg (by omega)])
                     exact lm), rfl⟩
        · refine ezw_aload_n rfl rfl ?_
          refine ezw_bipush (41) rfl rfl ?_
          refine ezw_call0_1 rfl (by omega) (ezm_at rfl) rfl rfl rfl rfl (ezm_m223_v41p hT (by omega) (by omega) hs (by omega) tk hM st) ?_
          rintro _ _ ⟨rfl, u13, hu13, f_12, w_12, q1_12, q0_12, rfl⟩
          refine ezw_if_ne rfl rfl ⟨by omega, by omega⟩ (fun h58_13 => ?_) (fun h58_13 => ?_)
          · refine ezw_iload_n rfl rfl ?_
            refine ezw_iconst (5) rfl rfl ?_
            refine ezw_icmp_ne rfl rfl ⟨by decide, by decide⟩ ⟨by decide, by decide⟩ (fun h71_13 => absurd h71_13 (by omega)) (fun h71_13 => ?_)
            refine ezw_aload_n rfl rfl ?_
            refine ezw_iconst (5) rfl rfl ?_
            refine ezw_call0_1 rfl (by omega) (ezm_at rfl) rfl rfl rfl rfl (ezm_m225p hT (by omega) ⟨by decide, by decide⟩ (by omega) (by omega) (by omega) hs (by omega) tk hM st) ?_
            rintro _ _ ⟨x8_14, rfl, hT, p14_0, p14_1, st_14, rfl⟩
            have k15 := hT.t8
            refine ezw_aload_n rfl rfl ?_
            refine ezm_g8 rfl ?_
            refine ezw_if_le rfl rfl ⟨by omega, by omega⟩ (fun h83_15 => absurd h83_15 (by omega)) (fun h83_15 => ?_)
            exact ezw_return rfl rfl ⟨i7, x8_14, i13, r79, r80, rfl, hT, by omega, by omega, by omega, ezm_fr_r _ _ _, fun z => absurd z (by omega), by
                  first
                    | (exfalso; omega)
                    | (rw [ezp_pt_0]
                       repeat (first | rw [if_pos (by omega)] | rw [if_neg (by omega)])
                       first
                         | exact ezm_ST_t st (by omega) (fun _ => by omega)
                         | exact st_14
                         | exact ezm_ST_7 st (by omega) (fun _ => by omega)
                         | (have h9 := st_14; rw [ezp_wr_n (by omega)] at h9 ⊢; exact ezm_ST_7 st (by omega) (fun _ => by omega))
                         | (rw [ezp_wr_n (by omega)]; exact ezm_ST_7 st (by omega) (fun _ => by omega))), by
                  first
                    | (exfalso; omega)
                    | (rw [ezp_pt_0]
                       repeat (first | rw [if_pos (by omega)] | rw [if_neg (by omega)])
                       exact lm), rfl⟩
          · refine ezw_aload_n rfl rfl ?_
            refine ezw_iconst (1) rfl rfl ?_
            refine ezw_call0_1 rfl (by omega) (ezm_at rfl) rfl rfl rfl rfl (ezm_m225p hT (by omega) ⟨by decide, by decide⟩ (by omega) (by omega) (by omega) hs (by omega) tk hM st) ?_
            rintro _ _ ⟨x8_16, rfl, hT, p16_0, p16_1, st_16, rfl⟩
            have k17 := hT.t8
            refine ezw_goto rfl rfl ?_
            refine ezw_aload_n rfl rfl ?_
            refine ezm_g8 rfl ?_
            refine ezw_if_le rfl rfl ⟨by omega, by omega⟩ (fun h83_17 => absurd h83_17 (by omega)) (fun h83_17 => ?_)
            exact ezw_return rfl rfl ⟨i7, x8_16, i13, r79, r80, rfl, hT, by omega, by omega, by omega, ezm_fr_r _ _ _, fun z => absurd z (by omega), by
                  first
                    | (exfalso; omega)
                    | (rw [ezp_pt_0]
                       repeat (first | rw [if_pos (by omega)] | rw [if_neg (by omega)])
                       first
                         | exact ezm_ST_t st (by omega) (fun _ => by omega)
                         | exact st_16
                         | exact ezm_ST_7 st (by omega) (fun _ => by omega)
                         | (have h9 := st_16; rw [ezp_wr_n (by omega)] at h9 ⊢; exact ezm_ST_7 st (by omega) (fun _ => by omega))
                         | (rw [ezp_wr_n (by omega)]; exact ezm_ST_7 st (by omega) (fun _ => by omega))), by
                  first
                    | (exfalso; omega)
                    | (rw [ezp_pt_0]
                       repeat (first | rw [if_pos (by omega)] | rw [if_neg (by omega)])
                       exact lm), rfl⟩
    · refine ezw_iconst (1) rfl rfl ?_
      refine ezw_goto rfl rfl ?_
      refine ezw_istore_n rfl rfl ?_
      refine ezw_aload_n rfl rfl ?_
      refine ezw_bipush (44) rfl rfl ?_
      refine ezw_iconst (4) rfl rfl ?_
      refine ezw_call0_2 rfl (by omega) (ezm_at rfl) rfl rfl rfl rfl (ezm_m228p hT (by omega) ⟨by decide, by decide⟩ ⟨by decide, by decide⟩ (by omega) (by omega) hs (by omega) tk hM st) ?_
      rintro _ _ ⟨rfl, u19, hu19, p18_0, p18_1, p18_2, wh_18, rfl⟩
      refine ezw_istore_n rfl rfl ?_
      refine ezw_iload_n rfl rfl ?_
      refine ezw_if_ge rfl rfl hu19 (fun h36_19 => ?_) (fun h36_19 => ?_)
      · refine ezw_iload_n rfl rfl ?_
        refine ezw_iconst (5) rfl rfl ?_
        refine ezw_icmp_ne rfl rfl ⟨by decide, by decide⟩ ⟨by decide, by decide⟩ (fun h71_19 => absurd h71_19 (by omega)) (fun h71_19 => ?_)
        refine ezw_aload_n rfl rfl ?_
        refine ezw_iconst (5) rfl rfl ?_
        refine ezw_call0_1 rfl (by omega) (ezm_at rfl) rfl rfl rfl rfl (ezm_m225p hT (by omega) ⟨by decide, by decide⟩ (by omega) (by omega) (by omega) hs (by omega) tk hM st) ?_
        rintro _ _ ⟨x8_20, rfl, hT, p20_0, p20_1, st_20, rfl⟩
        have k21 := hT.t8
        refine ezw_aload_n rfl rfl ?_
        refine ezm_g8 rfl ?_
        refine ezw_if_le rfl rfl ⟨by omega, by omega⟩ (fun h83_21 => absurd h83_21 (by omega)) (fun h83_21 => ?_)
        exact ezw_return rfl rfl ⟨i7, x8_20, i13, r79, r80, rfl, hT, by omega, by omega, by omega, ezm_fr_r _ _ _, fun z => absurd z (by omega), by
              first
                | (exfalso; omega)
                | (rw [ezp_pt_0]
                   repeat (first | rw [if_pos (by omega)] | rw [if_neg (by omega)])
                   first
                     | exact ezm_ST_t st (by omega) (fun _ => by omega)
                     | exact st_20
                     | exact ezm_ST_7 st (by omega) (fun _ => by omega)
                     | (have h9 := st_20; rw [ezp_wr_n (by omega)] at h9 ⊢; exact ezm_ST_7 st (by omega) (fun _ => by omega))
                     | (rw [ezp_wr_n (by omega)]; exact ezm_ST_7 st (by omega) (fun _ => by omega))), by
              first
                | (exfalso; omega)
                | (rw [ezp_pt_0]
                   repeat (first | rw [if_pos (by omega)] | rw [if_neg (by omega)])
                   exact lm), rfl⟩
      · refine ezw_iload_n rfl rfl ?_
        refine ezw_if_ne rfl rfl ⟨by decide, by decide⟩ (fun h40_21 => ?_) (fun h40_21 => absurd h40_21 (by omega))
        refine ezw_iload_n rfl rfl ?_
        refine ezw_iconst (5) rfl rfl ?_
        refine ezw_icmp_ne rfl rfl ⟨by decide, by decide⟩ ⟨by decide, by decide⟩ (fun h71_21 => absurd h71_21 (by omega)) (fun h71_21 => ?_)
        refine ezw_aload_n rfl rfl ?_
        refine ezw_iconst (5) rfl rfl ?_
        refine ezw_call0_1 rfl (by omega) (ezm_at rfl) rfl rfl rfl rfl (ezm_m225p hT (by omega) ⟨by decide, by decide⟩ (by omega) (by omega) (by omega) hs (by omega) tk hM st) ?_
        rintro _ _ ⟨x8_22, rfl, hT, p22_0, p22_1, st_22, rfl⟩
        have k23 := hT.t8
        refine ezw_aload_n rfl rfl ?_
        refine ezm_g8 rfl ?_
        refine ezw_if_le rfl rfl ⟨by omega, by omega⟩ (fun h83_23 => absurd h83_23 (by omega)) (fun h83_23 => ?_)
        exact ezw_return rfl rfl ⟨i7, x8_22, i13, r79, r80, rfl, hT, by omega, by omega, by omega, ezm_fr_r _ _ _, fun z => absurd z (by omega), by
              first
                | (exfalso; omega)
                | (rw [ezp_pt_0]
                   repeat (first | rw [if_pos (by omega)] | rw [if_neg (by omega)])
                   first
                     | exact ezm_ST_t st (by omega) (fun _ => by omega)
                     | exact st_22
                     | exact ezm_ST_7 st (by omega) (fun _ => by omega)
                     | (have h9 := st_22; rw [ezp_wr_n (by omega)] at h9 ⊢; exact ezm_ST_7 st (by omega) (fun _ => by omega))
                     | (rw [ezp_wr_n (by omega)]; exact ezm_ST_7 st (by omega) (fun _ => by omega))), by
              first
                | (exfalso; omega)
                | (rw [ezp_pt_0]
                   repeat (first | rw [if_pos (by omega)] | rw [if_neg (by omega)])
                   exact lm), rfl⟩
  · exact ezw_return rfl rfl ⟨i7, i8, i13, r79, r80, rfl, hT, by omega, by omega, by omega, ezm_fr_r _ _ _, fun z => absurd z (by omega), by
          first
            | (exfalso; omega)
            | (rw [ezp_pt_0]
               repeat (first | rw [if_pos (by omega)] | rw [if_neg (by omega)])
               first
                 | exact ezm_ST_t st (by omega) (fun _ => by omega)
                 | exact st
                 | exact ezm_ST_7 st (by omega) (fun _ => by omega)
                 | (have h9 := st; rw [ezp_wr_n (by omega)] at h9 ⊢; exact ezm_ST_7 st (by omega) (fun _ => by omega))
                 | (rw [ezp_wr_n (by omega)]; exact ezm_ST_7 st (by omega) (fun _ => by omega))), by
          first
            | (exfalso; omega)
            | (rw [ezp_pt_0]
               repeat (first | rw [if_pos (by omega)] | rw [if_neg (by omega)])
               exact lm), rfl⟩
def ezm_m248_v5pQ (e : Bool × Bool) (F : Nat → Nat → Int) (A : Nat → Int → Int) (i0 i2 i3 i7 i8 i13 i18 i19 i20 i25 i29 i30 i31 i36 i37 i38 : Int) (r73 r74 r75 r76 r77 r78 r79 r80 r81 r82 r83 r84 r85 r86 r87 r88 r89 r90 r91 r92 r93 r94 r95 : Int → Int) (n : Int) (c : Int → Int) (x : ezp_X) (kk : Int) (tpn : Int) : Option ezq_V → (Nat → ezq_C) → Prop := fun v g' => ∃ (x7 x8 x13 : Int) (x79 x80 : Int → Int), ezm_h e F A i0 i2 i3 x7 x8 x13 i18 i19 i20 i25 i29 i30 i31 i36 i37 i38 r73 r74 r75 r76 r77 r78 x79 x80 r81 r82 r83 r84 r85 r86 r87 r88 r89 r90 r91 r92 r93 r94 r95 = g' ∧ ezm_T i0 i2 i3 x7 x8 x13 i18 i19 i20 i25 i29 i30 i31 i36 i37 i38 r73 r74 r75 r76 r77 r78 x79 x80 r81 r82 r83 r84 r85 r86 r87 r88 r89 r90 r91 r92 r93 r94 r95 ∧ (i8 ≠ 0 → x8 ≠ 0) ∧ (i7 ≤ x7 ∧ x7 ≤ n) ∧ (i13 ≤ x13 ∧ x13 - i13 ≤ x7 - i7) ∧ (ezm_fr r79 r80 x79 x80 (i13 + 1100)) ∧ (x8 = 0 → ezm_sg x79 x80 (i13 + 1100) (x13 + 1100)) ∧ (ezm_ST ((ezp_rk c (ezp_pt c 0) 1 x).1) x8 x7) ∧ (ezm_LM kk ((ezp_rk c (ezp_pt c 0) 1 x).2) x13 x79 x80) ∧ none = v
set_option maxHeartbeats 8000000 in
theorem ezm_m248_v5p {c : Int → Int} {x : ezp_X} {n kk tpn : Int} (hT : ezm_T i0 i2 i3 i7 i8 i13 i18 i19 i20 i25 i29 i30 i31 i36 i37 i38 r73 r74 r75 r76 r77 r78 r79 r80 r81 r82 r83 r84 r85 r86 r87 r88 r89 r90 r91 r92 r93 r94 r95) (hd : 3 ≤ d) (hc : 0 ≤ i13 ∧ i13 ≤ i7) (hn : 0 ≤ i7 ∧ i7 ≤ n) (hs : r74 n = 0) (h1 : n ≤ 1000) (tk : ezm_TK c n r74 r75 r76) (hM : ∀ w, 0 ≤ w → w < 48 → r77 w = ezl_mw.getD w.toNat 0) (st : ezm_ST x.1 i8 i7) (g1 : 1 ≤ i7) (lm : ezm_LM kk x.2 i13 r79 r80) (tp : ezp_tp c tpn) : ezw_C l ρ B xa Hb D cA 248 d [ezw_p 72, ezw_i (5)] (ezm_h e F A i0 i2 i3 i7 i8 i13 i18 i19 i20 i25 i29 i30 i31 i36 i37 i38 r73 r74 r75 r76 r77 r78 r79 r80 r81 r82 r83 r84 r85 r86 r87 r88 r89 r90 r91 r92 r93 r94 r95) (ezm_m248_v5pQ  e F A i0 i2 i3 i7 i8 i13 i18 i19 i20 i25 i29 i30 i31 i36 i37 i38 r73 r74 r75 r76 r77 r78 r79 r80 r81 r82 r83 r84 r85 r86 r87 r88 r89 r90 r91 r92 r93 r94 r95 n c x kk tpn) := by
  refine ezw_met (k := 0) rfl rfl ?_
  refine ezw_aload_n rfl rfl ?_
  refine ezw_iload_n rfl rfl ?_
  refine ezw_call0_1 rfl (by omega) (ezm_at rfl) rfl rfl rfl rfl (ezm_m249_v5p (x := x) hT (by omega) (by omega) (by omega) hs (by omega) tk hM st (by omega) lm tp) ?_
  rintro _ _ ⟨x7_1, x8_1, x13_1, x79_1, x80_1, rfl, hT, p1_0, p1_1, p1_2, fo_1, sg_1, st_1, lm_1, rfl⟩
  have k2 := hT.t7
  have k3 := hT.t8
  have k4 := hT.t13
  have L5_6 : ∀ c5 : Int, ezw_in c5 → ∀ x8_6 : Int, ∀ x13_6 : Int, ∀ x79_6 : Int → Int, ∀ x80_6 : Int → Int, ezm_T i0 i2 i3 c5 x8_6 x13_6 i18 i19 i20 i25 i29 i30 i31 i36 i37 i38 r73 r74 r75 r76 r77 r78 x79_6 x80_6 r81 r82 r83 r84 r85 r86 r87 r88 r89 r90 r91 r92 r93 r94 r95 → (x7_1 ≤ c5) → (i8 ≠ 0 → x8_6 ≠ 0) → (i7 ≤ c5 ∧ c5 ≤ n) → (i13 ≤ x13_6 ∧ x13_6 - i13 ≤ c5 - i7) → (ezm_fr r79 r80 x79_6 x80_6 (i13 + 1100)) → (x8_6 = 0 → ezm_sg x79_6 x80_6 (i13 + 1100) (x13_6 + 1100)) → (∃ (x1 : ezp_X) (m : Nat), ezp_rk c (ezp_pt c 0) 1 x = ezp_lp c 3 (ezp_rk c (ezp_pt c 0) 0) m x1 ∧ ezm_ST x1.1 x8_6 c5 ∧ 1001 ≤ (m : Int) + c5 ∧ ezm_LM kk x1.2 x13_6 x79_6 x80_6) → ezw_E l ρ B xa Hb D cA d ezq_re248 (ezm_m248_v5pQ  e F A i0 i2 i3 i7 i8 i13 i18 i19 i20 i25 i29 i30 i31 i36 i37 i38 r73 r74 r75 r76 r77 r78 r79 r80 r81 r82 r83 r84 r85 r86 r87 r88 r89 r90 r91 r92 r93 r94 r95 n c x kk tpn) 5 [some (ezw_p 72), some (ezw_i (5))] [] (ezm_h e F A i0 i2 i3 c5 x8_6 x13_6 i18 i19 i20 i25 i29 i30 i31 i36 i37 i38 r73 r74 r75 r76 r77 r78 x79_6 x80_6 r81 r82 r83 r84 r85 r86 r87 r88 r89 r90 r91 r92 r93 r94 r95) := by
    refine ezs_up ?_
    intro c5 hc5 ihc5 x8_6 x13_6 x79_6 x80_6 hT g_6 v1_6 v2_6 v3_6 fo_6 sg_6 iv_6
    have k7 := hT.t7
    have k8 := hT.t8
    have k9 := hT.t13
    obtain ⟨x1, m, hq, st1, hm1, lm1⟩ := iv_6
    obtain ⟨se1, sa1, -, -, -, -⟩ := ezm_TKi tk st1 (by omega)
    obtain ⟨m0, rfl⟩ : ∃ m0, m = m0 + 1 := ⟨m - 1, by omega⟩
    refine ezw_aload_n rfl rfl ?_
    refine ezw_bipush (42) rfl rfl ?_
    refine ezw_call0_1 rfl (by omega) (ezm_at rfl) rfl rfl rfl rfl (ezm_m252p hT (by omega) ⟨by decide, by decide⟩ (by omega) hs (by omega) tk hM st1 (by omega)) ?_
    rintro _ _ ⟨x7_10, rfl, hT, u11, hu11, p10_0, p10_1, p10_2, p10_3, q1_10, q0_10, st_10, rfl⟩
    have k12 := hT.t7
    refine ezw_if_eq rfl rfl ⟨by omega, by omega⟩ (fun h11_12 => ?_) (fun h11_12 => ?_)
    · exact ezw_return rfl rfl ⟨x7_10, x8_6, x13_6, x79_6, x80_6, rfl, hT, by omega, by omega, by omega, fo_6, sg_6, by
            rw [hq]
            by_cases z1 : x1.1.1 = 0
            · rw [ezp_lp_0 z1 (by
                unfold ezp_op
                repeat (first | rw [if_pos (by omega)] | rw [if_neg (by omega)]))]
              exact ezm_ST_7 st1 (by omega) (fun _ => by omega)
            · rw [ezp_lp_n z1]
              exact ezm_ST_7 st1 (by omega) (fun _ => by omega), by
            rw [hq]
            by_cases z1 : x1.1.1 = 0
            · rw [ezp_lp_0 z1 (by
                unfold ezp_op
                repeat (first | rw [if_pos (by omega)] | rw [if_neg (by omega)]))]
              exact lm1
            · rw [ezp_lp_n z1]
              exact lm1, rfl⟩
    · have z1 : x1.1.1 = 0 := by omega
      have hop : ezp_op (ezp_K c x1.1.2) 3 ≠ 0 := by
        unfold ezp_op
        repeat (first | rw [if_pos (by omega)] | rw [if_neg (by omega)])
        decide
      have stT : ezm_ST (ezp_t x1.1) x8_6 x7_10 := ezm_ST_t st1 (by omega) (fun _ => by omega)
      refine ezw_aload_n rfl rfl ?_
      refine ezw_iload_n rfl rfl ?_
      refine ezw_call0_1 rfl (by omega) (ezm_at rfl) rfl rfl rfl rfl (ezm_m249_v5p (x := (ezp_t x1.1, x1.2)) hT (by omega) (by omega) (by omega) hs (by omega) tk hM stT (by omega) lm1 tp) ?_
      rintro _ _ ⟨x7_13, x8_13, x13_13, x79_13, x80_13, rfl, hT, p13_0, p13_1, p13_2, fo_13, sg_13, st_13, lm_13, rfl⟩
      have k14 := hT.t7
      have k15 := hT.t8
      have k16 := hT.t13
      refine ezw_aload_n rfl rfl ?_
      refine ezw_bipush (6) rfl rfl ?_
      refine ezw_iconst (0) rfl rfl ?_
      refine ezw_call0_2 rfl (by omega) (ezm_at rfl) rfl rfl rfl rfl (ezm_m251 hT (by omega) ⟨by decide, by decide⟩ ⟨by decide, by decide⟩ (by omega)) ?_
      rintro _ _ ⟨x13_17, x79_17, x80_17, rfl, hT, p17_0, fo_17, eo_17, ea_17, rfl⟩
      have k18 := hT.t13
      refine ezw_goto rfl rfl ?_
      exact ezw_keepE [true, true] (ihc5 x7_13 (by omega) ⟨by omega, by omega⟩ x8_13 x13_17 x79_17 x80_17 hT (by omega) (by omega) (by omega) (by omega) (ezm_fr_t (ezm_fr_t fo_6 fo_13 (by omega)) fo_17 (by omega)) (fun z => ezm_sgB (sg_6 (by omega)) fo_13 (sg_13 (by omega)) fo_17 (by rw [eo_17]; decide) (by omega)) (⟨ezp_l1 c 3 (ezp_rk c (ezp_pt c 0) 0) x1, m0, (by rw [hq, ezp_lp_s z1 hop (by decide)]), st_13, by omega, (ezm_LM_em lm_13 fo_17 (by rw [eo_17]; exact (by
            unfold ezp_op
            repeat (first | rw [if_pos (by omega)] | rw [if_neg (by omega)])
            first | decide | (exfalso; omega))) (by rw [ea_17]; exact (by
            unfold ezp_op
            repeat (first | rw [if_pos (by omega)] | rw [if_neg (by omega)])
            first | decide | (exfalso; omega))) (by omega))⟩))
  exact ezw_keepE [true, true] (L5_6 x7_1 ⟨by omega, by omega⟩ x8_1 x13_1 x79_1 x80_1 hT (by omega) (by omega) (by omega) (by omega) fo_1 sg_1 (⟨(ezp_rk c (ezp_pt c 0) 0) x, 1000, rfl, st_1, by omega, lm_1⟩))
def ezm_m247_v5pQ (e : Bool × Bool) (F : Nat → Nat → Int) (A : Nat → Int → Int) (i0 i2 i3 i7 i8 i13 i18 i19 i20 i25 i29 i30 i31 i36 i37 i38 : Int) (r73 r74 r75 r76 r77 r78 r79 r80 r81 r82 r83 r84 r85 r86 r87 r88 r89 r90 r91 r92 r93 r94 r95 : Int → Int) (n : Int) (c : Int → Int) (x : ezp_X) (kk : Int) (tpn : Int) : Option ezq_V → (Nat → ezq_C) → Prop := fun v g' => ∃ (x7 x8 x13 : Int) (x79 x80 : Int → Int), ezm_h e F A i0 i2 i3 x7 x8 x13 i18 i19 i20 i25 i29 i30 i31 i36 i37 i38 r73 r74 r75 r76 r77 r78 x79 x80 r81 r82 r83 r84 r85 r86 r87 r88 r89 r90 r91 r92 r93 r94 r95 = g' ∧ ezm_T i0 i2 i3 x7 x8 x13 i18 i19 i20 i25 i29 i30 i31 i36 i37 i38 r73 r74 r75 r76 r77 r78 x79 x80 r81 r82 r83 r84 r85 r86 r87 r88 r89 r90 r91 r92 r93 r94 r95 ∧ (i8 ≠ 0 → x8 ≠ 0) ∧ (i7 ≤ x7 ∧ x7 ≤ n) ∧ (i13 ≤ x13 ∧ x13 - i13 ≤ x7 - i7) ∧ (ezm_fr r79 r80 x79 x80 (i13 + 1100)) ∧ (x8 = 0 → ezm_sg x79 x80 (i13 + 1100) (x13 + 1100)) ∧ (ezm_ST ((ezp_rk c (ezp_pt c 0) 2 x).1) x8 x7) ∧ (ezm_LM kk ((ezp_rk c (ezp_pt c 0) 2 x).2) x13 x79 x80) ∧ none = v
set_option maxHeartbeats 8000000 in
theorem ezm_m247_v5p {c : Int → Int} {x : ezp_X} {n kk tpn : Int} (hT : ezm_T i0 i2 i3 i7 i8 i13 i18 i19 i20 i25 i29 i30 i31 i36 i37 i38 r73 r74 r75 r76 r77 r78 r79 r80 r81 r82 r83 r84 r85 r86 r87 r88 r89 r90 r91 r92 r93 r94 r95) (hd : 4 ≤ d) (hc : 0 ≤ i13 ∧ i13 ≤ i7) (hn : 0 ≤ i7 ∧ i7 ≤ n) (hs : r74 n = 0) (h1 : n ≤ 1000) (tk : ezm_TK c n r74 r75 r76) (hM : ∀ w, 0 ≤ w → w < 48 → r77 w = ezl_mw.getD w.toNat 0) (st : ezm_ST x.1 i8 i7) (g1 : 1 ≤ i7) (lm : ezm_LM kk x.2 i13 r79 r80) (tp : ezp_tp c tpn) : ezw_C l ρ B xa Hb D cA 247 d [ezw_p 72, ezw_i (5)] (ezm_h e F A i0 i2 i3 i7 i8 i13 i18 i19 i20 i25 i29 i30 i31 i36 i37 i38 r73 r74 r75 r76 r77 r78 r79 r80 r81 r82 r83 r84 r85 r86 r87 r88 r89 r90 r91 r92 r93 r94 r95) (ezm_m247_v5pQ  e F A i0 i2 i3 i7 i8 i13 i18 i19 i20 i25 i29 i30 i31 i36 i37 i38 r73 r74 r75 r76 r77 r78 r79 r80 r81 r82 r83 r84 r85 r86 r87 r88 r89 r90 r91 r92 r93 r94 r95 n c x kk tpn) := by
  refine ezw_met (k := 1) rfl rfl ?_
  refine ezw_aload_n rfl rfl ?_
  refine ezw_iload_n rfl rfl ?_
  refine ezw_call0_1 rfl (by omega) (ezm_at rfl) rfl rfl rfl rfl (ezm_m248_v5p (x := x) hT (by omega) (by omega) (by omega) hs (by omega) tk hM st (by omega) lm tp) ?_
  rintro _ _ ⟨x7_1, x8_1, x13_1, x79_1, x80_1, rfl, hT, p1_0, p1_1, p1_2, fo_1, sg_1, st_1, lm_1, rfl⟩
  have k2 := hT.t7
  have k3 := hT.t8
  have k4 := hT.t13
  have L5_6 : ∀ c5 : Int, ezw_in c5 → ∀ x8_6 : Int, ∀ x13_6 : Int, ∀ x79_6 : Int → Int, ∀ x80_6 : Int → Int, ezm_T i0 i2 i3 c5 x8_6 x13_6 i18 i19 i20 i25 i29 i30 i31 i36 i37 i38 r73 r74 r75 r76 r77 r78 x79_6 x80_6 r81 r82 r83 r84 r85 r86 r87 r88 r89 r90 r91 r92 r93 r94 r95 → (x7_1 ≤ c5) → (i8 ≠ 0 → x8_6 ≠ 0) → (i7 ≤ c5 ∧ c5 ≤ n) → (i13 ≤ x13_6 ∧ x13_6 - i13 ≤ c5 - i7) → (ezm_fr r79 r80 x79_6 x80_6 (i13 + 1100)) → (x8_6 = 0 → ezm_sg x79_6 x80_6 (i13 + 1100) (x13_6 + 1100)) → (∃ (x1 : ezp_X) (m : Nat), ezp_rk c (ezp_pt c 0) 2 x = ezp_lp c 2 (ezp_rk c (ezp_pt c 0) 1) m x1 ∧ ezm_ST x1.1 x8_6 c5 ∧ 1001 ≤ (m : Int) + c5 ∧ ezm_LM kk x1.2 x13_6 x79_6 x80_6) → ezw_E l ρ B xa Hb D cA d ezq_re247 (ezm_m247_v5pQ  e F A i0 i2 i3 i7 i8 i13 i18 i19 i20 i25 i29 i30 i31 i36 i37 i38 r73 r74 r75 r76 r77 r78 r79 r80 r81 r82 r83 r84 r85 r86 r87 r88 r89 r90 r91 r92 r93 r94 r95 n c x kk tpn) 5 [some (ezw_p 72), some (ezw_i (5)), none] [] (ezm_h e F A i0 i2 i3 c5 x8_6 x13_6 i18 i19 i20 i25 i29 i30 i31 i36 i37 i38 r73 r74 r75 r76 r77 r78 x79_6 x80_6 r81 r82 r83 r84 r85 r86 r87 r88 r89 r90 r91 r92 r93 r94 r95) := by
    refine ezs_up ?_
    intro c5 hc5 ihc5 x8_6 x13_6 x79_6 x80_6 hT g_6 v1_6 v2_6 v3_6 fo_6 sg_6 iv_6
    have k7 := hT.t7
    have k8 := hT.t8
    have k9 := hT.t13
    obtain ⟨x1, m, hq, st1, hm1, lm1⟩ := iv_6
    obtain ⟨se1, sa1, -, -, -, -⟩ := ezm_TKi tk st1 (by omega)
    obtain ⟨m0, rfl⟩ : ∃ m0, m = m0 + 1 := ⟨m - 1, by omega⟩
    refine ezw_aload_n rfl rfl ?_
    refine ezw_bipush (43) rfl rfl ?_
    refine ezw_call0_1 rfl (by omega) (ezm_at rfl) rfl rfl rfl rfl (ezm_m250p hT (by omega) ⟨by decide, by decide⟩ (by omega) hs (by omega) tk hM st1 (by omega)) ?_
    rintro _ _ ⟨rfl, u11, hu11, f_10, w_10, q1_10, q0_10, rfl⟩
    refine ezw_if_ne rfl rfl ⟨by omega, by omega⟩ (fun h11_11 => ?_) (fun h11_11 => ?_)
    · refine ezw_aload_n rfl rfl ?_
      refine ezw_bipush (43) rfl rfl ?_
      refine ezw_call0_1 rfl (by omega) (ezm_at rfl) rfl rfl rfl rfl (ezm_m250p hT (by omega) ⟨by decide, by decide⟩ (by omega) hs (by omega) tk hM st1 (by omega)) ?_
      rintro _ _ ⟨rfl, u13, hu13, f_12, w_12, q1_12, q0_12, rfl⟩
      refine ezw_istore_n rfl rfl ?_
      refine ezw_aload_n rfl rfl ?_
      refine ezw_dup rfl rfl ?_
      refine ezm_g7 rfl ?_
      refine ezw_iconst (1) rfl rfl ?_
      refine ezw_iadd (k := c5 + 1) rfl (by omega) ?_
      refine ezm_p7 hT rfl ⟨by omega, by omega⟩ (fun hT => ?_)
      have z1 : x1.1.1 = 0 := by omega
      have hop : ezp_op (ezp_K c x1.1.2) 2 ≠ 0 := by
        unfold ezp_op
        repeat (first | rw [if_pos (by omega)] | rw [if_neg (by omega)])
        decide
      have stT : ezm_ST (ezp_t x1.1) x8_6 (c5 + 1) := ezm_ST_t st1 (by omega) (fun _ => by omega)
      refine ezw_aload_n rfl rfl ?_
      refine ezw_iload_n rfl rfl ?_
      refine ezw_call0_1 rfl (by omega) (ezm_at rfl) rfl rfl rfl rfl (ezm_m248_v5p (x := (ezp_t x1.1, x1.2)) hT (by omega) (by omega) (by omega) hs (by omega) tk hM stT (by omega) lm1 tp) ?_
      rintro _ _ ⟨x7_14, x8_14, x13_14, x79_14, x80_14, rfl, hT, p14_0, p14_1, p14_2, fo_14, sg_14, st_14, lm_14, rfl⟩
      have k15 := hT.t7
      have k16 := hT.t8
      have k17 := hT.t13
      refine ezw_aload_n rfl rfl ?_
      refine ezw_iload_n rfl rfl ?_
      refine ezw_if_eq rfl rfl ⟨by omega, by omega⟩ (fun h47_17 => ?_) (fun h47_17 => ?_)
      · refine ezw_iconst (5) rfl rfl ?_
        refine ezw_iconst (0) rfl rfl ?_
        refine ezw_call0_2 rfl (by omega) (ezm_at rfl) rfl rfl rfl rfl (ezm_m251 hT (by omega) ⟨by decide, by decide⟩ ⟨by decide, by decide⟩ (by omega)) ?_
        rintro _ _ ⟨x13_18, x79_18, x80_18, rfl, hT, p18_0, fo_18, eo_18, ea_18, rfl⟩
        have k19 := hT.t13
        refine ezw_goto rfl rfl ?_
        exact ezw_keepE [true, true, false] (ihc5 x7_14 (by omega) ⟨by omega, by omega⟩ x8_14 x13_18 x79_18 x80_18 hT (by omega) (by omega) (by omega) (by omega) (ezm_fr_t (ezm_fr_t fo_6 fo_14 (by omega)) fo_18 (by omega)) (fun z => ezm_sgB (sg_6 (by omega)) fo_14 (sg_14 (by omega)) fo_18 (by rw [eo_18]; decide) (by omega)) (⟨ezp_l1 c 2 (ezp_rk c (ezp_pt c 0) 1) x1, m0, (by rw [hq, ezp_lp_s z1 hop (by decide)]), st_14, by omega, (ezm_LM_em lm_14 fo_18 (by rw [eo_18]; exact (by
              unfold ezp_op
              repeat (first | rw [if_pos (by omega)] | rw [if_neg (by omega)])
              first | decide | (exfalso; omega))) (by rw [ea_18]; exact (by
              unfold ezp_op
              repeat (first | rw [if_pos (by omega)] | rw [if_neg (by omega)])
              first | decide | (exfalso; omega))) (by omega))⟩))
      · refine ezw_iconst (4) rfl rfl ?_
        refine ezw_goto rfl rfl ?_
        refine ezw_iconst (0) rfl rfl ?_
        refine ezw_call0_2 rfl (by omega) (ezm_at rfl) rfl rfl rfl rfl (ezm_m251 hT (by omega) ⟨by decide, by decide⟩ ⟨by decide, by decide⟩ (by omega)) ?_
        rintro _ _ ⟨x13_20, x79_20, x80_20, rfl, hT, p20_0, fo_20, eo_20, ea_20, rfl⟩
        have k21 := hT.t13
        refine ezw_goto rfl rfl ?_
        exact ezw_keepE [true, true, false] (ihc5 x7_14 (by omega) ⟨by omega, by omega⟩ x8_14 x13_20 x79_20 x80_20 hT (by omega) (by omega) (by omega) (by omega) (ezm_fr_t (ezm_fr_t fo_6 fo_14 (by omega)) fo_20 (by omega)) (fun z => ezm_sgB (sg_6 (by omega)) fo_14 (sg_14 (by omega)) fo_20 (by rw [eo_20]; decide) (by omega)) (⟨ezp_l1 c 2 (ezp_rk c (ezp_pt c 0) 1) x1, m0, (by rw [hq, ezp_lp_s z1 hop (by decide)]), st_14, by omega, (ezm_LM_em lm_14 fo_20 (by rw [eo_20]; exact (by
              unfold ezp_op
              repeat (first | rw [if_pos (by omega)] | rw [if_neg (by omega)])
              first | decide | (exfalso; omega))) (by rw [ea_20]; exact (by
              unfold ezp_op
              repeat (first | rw [if_pos (by omega)] | rw [if_neg (by omega)])
              first | decide | (exfalso; omega))) (by omega))⟩))
    · refine ezw_aload_n rfl rfl ?_
      refine ezw_bipush (45) rfl rfl ?_
      refine ezw_call0_1 rfl (by omega) (ezm_at rfl) rfl rfl rfl rfl (ezm_m250p hT (by omega) ⟨by decide, by decide⟩ (by omega) hs (by omega) tk hM st1 (by omega)) ?_
      rintro _ _ ⟨rfl, u23, hu23, f_22, w_22, q1_22, q0_22, rfl⟩
      refine ezw_if_eq rfl rfl ⟨by omega, by omega⟩ (fun h20_23 => ?_) (fun h20_23 => ?_)
      · exact ezw_return rfl rfl ⟨c5, x8_6, x13_6, x79_6, x80_6, rfl, hT, by omega, by omega, by omega, fo_6, sg_6, by
              rw [hq]
              by_cases z1 : x1.1.1 = 0
              · rw [ezp_lp_0 z1 (by
                  unfold ezp_op
                  repeat (first | rw [if_pos (by omega)] | rw [if_neg (by omega)]))]
                exact st1
              · rw [ezp_lp_n z1]
                exact st1, by
              rw [hq]
              by_cases z1 : x1.1.1 = 0
              · rw [ezp_lp_0 z1 (by
                  unfold ezp_op
                  repeat (first | rw [if_pos (by omega)] | rw [if_neg (by omega)]))]
                exact lm1
              · rw [ezp_lp_n z1]
                exact lm1, rfl⟩
      · refine ezw_aload_n rfl rfl ?_
        refine ezw_bipush (43) rfl rfl ?_
        refine ezw_call0_1 rfl (by omega) (ezm_at rfl) rfl rfl rfl rfl (ezm_m250p hT (by omega) ⟨by decide, by decide⟩ (by omega) hs (by omega) tk hM st1 (by omega)) ?_
        rintro _ _ ⟨rfl, u25, hu25, f_24, w_24, q1_24, q0_24, rfl⟩
        refine ezw_istore_n rfl rfl ?_
        refine ezw_aload_n rfl rfl ?_
        refine ezw_dup rfl rfl ?_
        refine ezm_g7 rfl ?_
        refine ezw_iconst (1) rfl rfl ?_
        refine ezw_iadd (k := c5 + 1) rfl (by omega) ?_
        refine ezm_p7 hT rfl ⟨by omega, by omega⟩ (fun hT => ?_)
        have z1 : x1.1.1 = 0 := by omega
        have hop : ezp_op (ezp_K c x1.1.2) 2 ≠ 0 := by
          unfold ezp_op
          repeat (first | rw [if_pos (by omega)] | rw [if_neg (by omega)])
          decide
        have stT : ezm_ST (ezp_t x1.1) x8_6 (c5 + 1) := ezm_ST_t st1 (by omega) (fun _ => by omega)
        refine ezw_aload_n rfl rfl ?_
        refine ezw_iload_n rfl rfl ?_
        refine ezw_call0_1 rfl (by omega) (ezm_at rfl) rfl rfl rfl rfl (ezm_m248_v5p (x := (ezp_t x1.1, x1.2)) hT (by omega) (by omega) (by omega) hs (by omega) tk hM stT (by omega) lm1 tp) ?_
        rintro _ _ ⟨x7_26, x8_26, x13_26, x79_26, x80_26, rfl, hT, p26_0, p26_1, p26_2, fo_26, sg_26, st_26, lm_26, rfl⟩
        have k27 := hT.t7
        have k28 := hT.t8
        have k29 := hT.t13
        refine ezw_aload_n rfl rfl ?_
        refine ezw_iload_n rfl rfl ?_
        refine ezw_if_eq rfl rfl ⟨by omega, by omega⟩ (fun h47_29 => ?_) (fun h47_29 => ?_)
        · refine ezw_iconst (5) rfl rfl ?_
          refine ezw_iconst (0) rfl rfl ?_
          refine ezw_call0_2 rfl (by omega) (ezm_at rfl) rfl rfl rfl rfl (ezm_m251 hT (by omega) ⟨by decide, by decide⟩ ⟨by decide, by decide⟩ (by omega)) ?_
          rintro _ _ ⟨x13_30, x79_30, x80_30, rfl, hT, p30_0, fo_30, eo_30, ea_30, rfl⟩
          have k31 := hT.t13
          refine ezw_goto rfl rfl ?_
          exact ezw_keepE [true, true, false] (ihc5 x7_26 (by omega) ⟨by omega, by omega⟩ x8_26 x13_30 x79_30 x80_30 hT (by omega) (by omega) (by omega) (by omega) (ezm_fr_t (ezm_fr_t fo_6 fo_26 (by omega)) fo_30 (by omega)) (fun z => ezm_sgB (sg_6 (by omega)) fo_26 (sg_26 (by omega)) fo_30 (by rw [eo_30]; decide) (by omega)) (⟨ezp_l1 c 2 (ezp_rk c (ezp_pt c 0) 1) x1, m0, (by rw [hq, ezp_lp_s z1 hop (by decide)]), st_26, by omega, (ezm_LM_em lm_26 fo_30 (by rw [eo_30]; exact (by
                unfold ezp_op
                repeat (first | rw [if_pos (by omega)] | rw [if_neg (by omega)])
                first | decide | (exfalso; omega))) (by rw [ea_30]; exact (by
                unfold ezp_op
                repeat (first | rw [if_pos (by omega)] | rw [if_neg (by omega)])
                first | decide | (exfalso; omega))) (by omega))⟩))
        · refine ezw_iconst (4) rfl rfl ?_
          refine ezw_goto rfl rfl ?_
          refine ezw_iconst (0) rfl rfl ?_
          refine ezw_call0_2 rfl (by omega) (ezm_at rfl) rfl rfl rfl rfl (ezm_m251 hT (by omega) ⟨by decide, by decide⟩ ⟨by decide, by decide⟩ (by omega)) ?_
          rintro _ _ ⟨x13_32, x79_32, x80_32, rfl, hT, p32_0, fo_32, eo_32, ea_32, rfl⟩
          have k33 := hT.t13
          refine ezw_goto rfl rfl ?_
          exact ezw_keepE [true, true, false] (ihc5 x7_26 (by omega) ⟨by omega, by omega⟩ x8_26 x13_32 x79_32 x80_32 hT (by omega) (by omega) (by omega) (by omega) (ezm_fr_t (ezm_fr_t fo_6 fo_26 (by omega)) fo_32 (by omega)) (fun z => ezm_sgB (sg_6 (by omega)) fo_26 (sg_26 (by omega)) fo_32 (by rw [eo_32]; decide) (by omega)) (⟨ezp_l1 c 2 (ezp_rk c (ezp_pt c 0) 1) x1, m0, (by rw [hq, ezp_lp_s z1 hop (by decide)]), st_26, by omega, (ezm_LM_em lm_26 fo_32 (by rw [eo_32]; exact (by
                unfold ezp_op
                repeat (first | rw [if_pos (by omega)] | rw [if_neg (by omega)])
                first | decide | (exfalso; omega))) (by rw [ea_32]; exact (by
                unfold ezp_op
                repeat (first | rw [if_pos (by omega)] | rw [if_neg (by omega)])
                first | decide | (exfalso; omega))) (by omega))⟩))
  exact ezw_keepE [true, true, false] (L5_6 x7_1 ⟨by omega, by omega⟩ x8_1 x13_1 x79_1 x80_1 hT (by omega) (by omega) (by omega) (by omega) fo_1 sg_1 (⟨(ezp_rk c (ezp_pt c 0) 1) x, 1000, rfl, st_1, by omega, lm_1⟩))
def ezm_m246_v5pQ (e : Bool × Bool) (F : Nat → Nat → Int) (A : Nat → Int → Int) (i0 i2 i3 i7 i8 i13 i18 i19 i20 i25 i29 i30 i31 i36 i37 i38 : Int) (r73 r74 r75 r76 r77 r78 r79 r80 r81 r82 r83 r84 r85 r86 r87 r88 r89 r90 r91 r92 r93 r94 r95 : Int → Int) (n : Int) (c : Int → Int) (x : ezp_X) (kk : Int) (tpn : Int) : Option ezq_V → (Nat → ezq_C) → Prop := fun v g' => ∃ (x7 x8 x13 : Int) (x79 x80 : Int → Int), ezm_h e F A i0 i2 i3 x7 x8 x13 i18 i19 i20 i25 i29 i30 i31 i36 i37 i38 r73 r74 r75 r76 r77 r78 x79 x80 r81 r82 r83 r84 r85 r86 r87 r88 r89 r90 r91 r92 r93 r94 r95 = g' ∧ ezm_T i0 i2 i3 x7 x8 x13 i18 i19 i20 i25 i29 i30 i31 i36 i37 i38 r73 r74 r75 r76 r77 r78 x79 x80 r81 r82 r83 r84 r85 r86 r87 r88 r89 r90 r91 r92 r93 r94 r95 ∧ (i8 ≠ 0 → x8 ≠ 0) ∧ (i7 ≤ x7 ∧ x7 ≤ n) ∧ (i13 ≤ x13 ∧ x13 - i13 ≤ x7 - i7) ∧ (ezm_fr r79 r80 x79 x80 (i13 + 1100)) ∧ (x8 = 0 → ezm_sg x79 x80 (i13 + 1100) (x13 + 1100)) ∧ (ezm_ST ((ezp_rk c (ezp_pt c 0) 3 x).1) x8 x7) ∧ (ezm_LM kk ((ezp_rk c (ezp_pt c 0) 3 x).2) x13 x79 x80) ∧ none = v
set_option maxHeartbeats 8000000 in
theorem ezm_m246_v5p {c : Int → Int} {x : ezp_X} {n kk tpn : Int} (hT : ezm_T i0 i2 i3 i7 i8 i13 i18 i19 i20 i25 i29 i30 i31 i36 i37 i38 r73 r74 r75 r76 r77 r78 r79 r80 r81 r82 r83 r84 r85 r86 r87 r88 r89 r90 r91 r92 r93 r94 r95) (hd : 5 ≤ d) (hc : 0 ≤ i13 ∧ i13 ≤ i7) (hn : 0 ≤ i7 ∧ i7 ≤ n) (hs : r74 n = 0) (h1 : n ≤ 1000) (tk : ezm_TK c n r74 r75 r76) (hM : ∀ w, 0 ≤ w → w < 48 → r77 w = ezl_mw.getD w.toNat 0) (st : ezm_ST x.1 i8 i7) (g1 : 1 ≤ i7) (lm : ezm_LM kk x.2 i13 r79 r80) (tp : ezp_tp c tpn) : ezw_C l ρ B xa Hb D cA 246 d [ezw_p 72, ezw_i (5)] (ezm_h e F A i0 i2 i3 i7 i8 i13 i18 i19 i20 i25 i29 i30 i31 i36 i37 i38 r73 r74 r75 r76 r77 r78 r79 r80 r81 r82 r83 r84 r85 r86 r87 r88 r89 r90 r91 r92 r93 r94 r95) (ezm_m246_v5pQ  e F A i0 i2 i3 i7 i8 i13 i18 i19 i20 i25 i29 i30 i31 i36 i37 i38 r73 r74 r75 r76 r77 r78 r79 r80 r81 r82 r83 r84 r85 r86 r87 r88 r89 r90 r91 r92 r93 r94 r95 n c x kk tpn) := by
  refine ezw_met (k := 1) rfl rfl ?_
  refine ezw_aload_n rfl rfl ?_
  refine ezw_iload_n rfl rfl ?_
  refine ezw_call0_1 rfl (by omega) (ezm_at rfl) rfl rfl rfl rfl (ezm_m247_v5p (x := x) hT (by omega) (by omega) (by omega) hs (by omega) tk hM st (by omega) lm tp) ?_
  rintro _ _ ⟨x7_1, x8_1, x13_1, x79_1, x80_1, rfl, hT, p1_0, p1_1, p1_2, fo_1, sg_1, st_1, lm_1, rfl⟩
  have k2 := hT.t7
  have k3 := hT.t8
  have k4 := hT.t13
  obtain ⟨se1, sa1, -, -, -, -⟩ := ezm_TKi tk st_1 (by omega)
  refine ezw_aload_n rfl rfl ?_
  refine ezw_bipush (60) rfl rfl ?_
  refine ezw_call0_1 rfl (by omega) (ezm_at rfl) rfl rfl rfl rfl (ezm_m250p hT (by omega) ⟨by decide, by decide⟩ (by omega) hs (by omega) tk hM st_1 (by omega)) ?_
  rintro _ _ ⟨rfl, u6, hu6, f_5, w_5, q1_5, q0_5, rfl⟩
  refine ezw_istore_n rfl rfl ?_
  refine ezw_aload_n rfl rfl ?_
  refine ezw_bipush (60) rfl rfl ?_
  refine ezw_call0_1 rfl (by omega) (ezm_at rfl) rfl rfl rfl rfl (ezm_m252p hT (by omega) ⟨by decide, by decide⟩ (by omega) hs (by omega) tk hM st_1 (by omega)) ?_
  rintro _ _ ⟨x7_7, rfl, hT, u8, hu8, p7_0, p7_1, p7_2, p7_3, q1_7, q0_7, st_7, rfl⟩
  have k9 := hT.t7
  refine ezw_if_ne rfl rfl ⟨by omega, by omega⟩ (fun h18_9 => ?_) (fun h18_9 => ?_)
  · have z1 : ((ezp_rk c (ezp_pt c 0) 2) x).1.1 = 0 := by omega
    have hop : ezp_op (ezp_K c ((ezp_rk c (ezp_pt c 0) 2) x).1.2) 1 ≠ 0 := by
      unfold ezp_op
      repeat (first | rw [if_pos (by omega)] | rw [if_neg (by omega)])
      decide
    have stT : ezm_ST (ezp_t ((ezp_rk c (ezp_pt c 0) 2) x).1) x8_1 x7_7 := ezm_ST_t st_1 (by omega) (fun _ => by omega)
    refine ezw_aload_n rfl rfl ?_
    refine ezw_iload_n rfl rfl ?_
    refine ezw_call0_1 rfl (by omega) (ezm_at rfl) rfl rfl rfl rfl (ezm_m247_v5p (x := (ezp_t ((ezp_rk c (ezp_pt c 0) 2) x).1, ((ezp_rk c (ezp_pt c 0) 2) x).2)) hT (by omega) (by omega) (by omega) hs (by omega) tk hM stT (by omega) lm_1 tp) ?_
    rintro _ _ ⟨x7_10, x8_10, x13_10, x79_10, x80_10, rfl, hT, p10_0, p10_1, p10_2, fo_10, sg_10, st_10, lm_10, rfl⟩
    have k11 := hT.t7
    have k12 := hT.t8
    have k13 := hT.t13
    refine ezw_aload_n rfl rfl ?_
    refine ezw_iload_n rfl rfl ?_
    refine ezw_if_eq rfl rfl ⟨by omega, by omega⟩ (fun h37_13 => ?_) (fun h37_13 => ?_)
    · refine ezw_bipush (8) rfl rfl ?_
      refine ezw_iconst (0) rfl rfl ?_
      refine ezw_call0_2 rfl (by omega) (ezm_at rfl) rfl rfl rfl rfl (ezm_m251 hT (by omega) ⟨by decide, by decide⟩ ⟨by decide, by decide⟩ (by omega)) ?_
      rintro _ _ ⟨x13_14, x79_14, x80_14, rfl, hT, p14_0, fo_14, eo_14, ea_14, rfl⟩
      have k15 := hT.t13
      exact ezw_return rfl rfl ⟨x7_10, x8_10, x13_14, x79_14, x80_14, rfl, hT, by omega, by omega, by omega, (ezm_fr_t (ezm_fr_t fo_1 fo_10 (by omega)) fo_14 (by omega)), fun z => ezm_sgB (sg_1 (by omega)) fo_10 (sg_10 (by omega)) fo_14 (by rw [eo_14]; decide) (by omega), by
            show ezm_ST (ezp_lp c 1 (ezp_rk c (ezp_pt c 0) 2) 1000 ((ezp_rk c (ezp_pt c 0) 2) x)).1 _ _
            rw [ezp_lp_1 z1 hop rfl]
            exact st_10, by
            show ezm_LM kk (ezp_lp c 1 (ezp_rk c (ezp_pt c 0) 2) 1000 ((ezp_rk c (ezp_pt c 0) 2) x)).2 _ _ _
            rw [ezp_lp_1 z1 hop rfl]
            exact ezm_LM_em lm_10 fo_14 (by rw [eo_14]; exact (by
            unfold ezp_op
            repeat (first | rw [if_pos (by omega)] | rw [if_neg (by omega)])
            first | decide | (exfalso; omega))) (by rw [ea_14]; exact (by
            unfold ezp_op
            repeat (first | rw [if_pos (by omega)] | rw [if_neg (by omega)])
            first | decide | (exfalso; omega))) (by omega), rfl⟩
    · refine ezw_bipush (7) rfl rfl ?_
      refine ezw_goto rfl rfl ?_
      refine ezw_iconst (0) rfl rfl ?_
      refine ezw_call0_2 rfl (by omega) (ezm_at rfl) rfl rfl rfl rfl (ezm_m251 hT (by omega) ⟨by decide, by decide⟩ ⟨by decide, by decide⟩ (by omega)) ?_
      rintro _ _ ⟨x13_16, x79_16, x80_16, rfl, hT, p16_0, fo_16, eo_16, ea_16, rfl⟩
      have k17 := hT.t13
      exact ezw_return rfl rfl ⟨x7_10, x8_10, x13_16, x79_16, x80_16, rfl, hT, by omega, by omega, by omega, (ezm_fr_t (ezm_fr_t fo_1 fo_10 (by omega)) fo_16 (by omega)), fun z => ezm_sgB (sg_1 (by omega)) fo_10 (sg_10 (by omega)) fo_16 (by rw [eo_16]; decide) (by omega), by
            show ezm_ST (ezp_lp c 1 (ezp_rk c (ezp_pt c 0) 2) 1000 ((ezp_rk c (ezp_pt c 0) 2) x)).1 _ _
            rw [ezp_lp_1 z1 hop rfl]
            exact st_10, by
            show ezm_LM kk (ezp_lp c 1 (ezp_rk c (ezp_pt c 0) 2) 1000 ((ezp_rk c (ezp_pt c 0) 2) x)).2 _ _ _
            rw [ezp_lp_1 z1 hop rfl]
            exact ezm_LM_em lm_10 fo_16 (by rw [eo_16]; exact (by
            unfold ezp_op
            repeat (first | rw [if_pos (by omega)] | rw [if_neg (by omega)])
            first | decide | (exfalso; omega))) (by rw [ea_16]; exact (by
            unfold ezp_op
            repeat (first | rw [if_pos (by omega)] | rw [if_neg (by omega)])
            first | decide | (exfalso; omega))) (by omega), rfl⟩
  · have stB_3 := ezm_ST_7 (x8 := x8_1) (x7 := x7_7) st_1 (by omega) (fun _ => by omega)
    refine ezw_aload_n rfl rfl ?_
    refine ezw_bipush (61) rfl rfl ?_
    refine ezw_call0_1 rfl (by omega) (ezm_at rfl) rfl rfl rfl rfl (ezm_m252p hT (by omega) ⟨by decide, by decide⟩ (by omega) hs (by omega) tk hM stB_3 (by omega)) ?_
    rintro _ _ ⟨x7_18, rfl, hT, u19, hu19, p18_0, p18_1, p18_2, p18_3, q1_18, q0_18, st_18, rfl⟩
    have k20 := hT.t7
    refine ezw_if_eq rfl rfl ⟨by omega, by omega⟩ (fun h27_20 => ?_) (fun h27_20 => ?_)
    · exact ezw_return rfl rfl ⟨x7_18, x8_1, x13_1, x79_1, x80_1, rfl, hT, by omega, by omega, by omega, fo_1, sg_1, by
            show ezm_ST (ezp_lp c 1 (ezp_rk c (ezp_pt c 0) 2) 1000 ((ezp_rk c (ezp_pt c 0) 2) x)).1 _ _
            by_cases z1 : ((ezp_rk c (ezp_pt c 0) 2) x).1.1 = 0
            · rw [ezp_lp_0 z1 (by
                unfold ezp_op
                repeat (first | rw [if_pos (by omega)] | rw [if_neg (by omega)]))]
              exact ezm_ST_7 st_1 (by omega) (fun _ => by omega)
            · rw [ezp_lp_n z1]
              exact ezm_ST_7 st_1 (by omega) (fun _ => by omega), by
            show ezm_LM kk (ezp_lp c 1 (ezp_rk c (ezp_pt c 0) 2) 1000 ((ezp_rk c (ezp_pt c 0) 2) x)).2 _ _ _
            by_cases z1 : ((ezp_rk c (ezp_pt c 0) 2) x).1.1 = 0
            · rw [ezp_lp_0 z1 (by
                unfold ezp_op
                repeat (first | rw [if_pos (by omega)] | rw [if_neg (by omega)]))]
              exact lm_1
            · rw [ezp_lp_n z1]
              exact lm_1, rfl⟩
    · have z1 : ((ezp_rk c (ezp_pt c 0) 2) x).1.1 = 0 := by omega
      have hop : ezp_op (ezp_K c ((ezp_rk c (ezp_pt c 0) 2) x).1.2) 1 ≠ 0 := by
        unfold ezp_op
        repeat (first | rw [if_pos (by omega)] | rw [if_neg (by omega)])
        decide
      have stT : ezm_ST (ezp_t ((ezp_rk c (ezp_pt c 0) 2) x).1) x8_1 x7_18 := ezm_ST_t st_1 (by omega) (fun _ => by omega)
      refine ezw_aload_n rfl rfl ?_
      refine ezw_iload_n rfl rfl ?_
      refine ezw_call0_1 rfl (by omega) (ezm_at rfl) rfl rfl rfl rfl (ezm_m247_v5p (x := (ezp_t ((ezp_rk c (ezp_pt c 0) 2) x).1, ((ezp_rk c (ezp_pt c 0) 2) x).2)) hT (by omega) (by omega) (by omega) hs (by omega) tk hM stT (by omega) lm_1 tp) ?_
      rintro _ _ ⟨x7_21, x8_21, x13_21, x79_21, x80_21, rfl, hT, p21_0, p21_1, p21_2, fo_21, sg_21, st_21, lm_21, rfl⟩
      have k22 := hT.t7
      have k23 := hT.t8
      have k24 := hT.t13
      refine ezw_aload_n rfl rfl ?_
      refine ezw_iload_n rfl rfl ?_
      refine ezw_if_eq rfl rfl ⟨by omega, by omega⟩ (fun h37_24 => ?_) (fun h37_24 => ?_)
      · refine ezw_bipush (8) rfl rfl ?_
        refine ezw_iconst (0) rfl rfl ?_
        refine ezw_call0_2 rfl (by omega) (ezm_at rfl) rfl rfl rfl rfl (ezm_m251 hT (by omega) ⟨by decide, by decide⟩ ⟨by decide, by decide⟩ (by omega)) ?_
        rintro _ _ ⟨x13_25, x79_25, x80_25, rfl, hT, p25_0, fo_25, eo_25, ea_25, rfl⟩
        have k26 := hT.t13
        exact ezw_return rfl rfl ⟨x7_21, x8_21, x13_25, x79_25, x80_25, rfl, hT, by omega, by omega, by omega, (ezm_fr_t (ezm_fr_t fo_1 fo_21 (by omega)) fo_25 (by omega)), fun z => ezm_sgB (sg_1 (by omega)) fo_21 (sg_21 (by omega)) fo_25 (by rw [eo_25]; decide) (by omega), by
              show ezm_ST (ezp_lp c 1 (ezp_rk c (ezp_pt c 0) 2) 1000 ((ezp_rk c (ezp_pt c 0) 2) x)).1 _ _
              rw [ezp_lp_1 z1 hop rfl]
              exact st_21, by
              show ezm_LM kk (ezp_lp c 1 (ezp_rk c (ezp_pt c 0) 2) 1000 ((ezp_rk c (ezp_pt c 0) 2) x)).2 _ _ _
              rw [ezp_lp_1 z1 hop rfl]
              exact ezm_LM_em lm_21 fo_25 (by rw [eo_25]; exact (by
              unfold ezp_op
              repeat (first | rw [if_pos (by omega)] | rw [if_neg (by omega)])
              first | decide | (exfalso; omega))) (by rw [ea_25]; exact (by
              unfold ezp_op
              repeat (first | rw [if_pos (by omega)] | rw [if_neg (by omega)])
              first | decide | (exfalso; omega))) (by omega), rfl⟩
      · refine ezw_bipush (7) rfl rfl ?_
        refine ezw_goto rfl rfl ?_
        refine ezw_iconst (0) rfl rfl ?_
        refine ezw_call0_2 rfl (by omega) (ezm_at rfl) rfl rfl rfl rfl (ezm_m251 hT (by omega) ⟨by decide, by decide⟩ ⟨by decide, by decide⟩ (by omega)) ?_
        rintro _ _ ⟨x13_27, x79_27, x80_27, rfl, hT, p27_0, fo_27, eo_27, ea_27, rfl⟩
        have k28 := hT.t13
        exact ezw_return rfl rfl ⟨x7_21, x8_21, x13_27, x79_27, x80_27, rfl, hT, by omega, by omega, by omega, (ezm_fr_t (ezm_fr_t fo_1 fo_21 (by omega)) fo_27 (by omega)), fun z => ezm_sgB (sg_1 (by omega)) fo_21 (sg_21 (by omega)) fo_27 (by rw [eo_27]; decide) (by omega), by
              show ezm_ST (ezp_lp c 1 (ezp_rk c (ezp_pt c 0) 2) 1000 ((ezp_rk c (ezp_pt c 0) 2) x)).1 _ _
              rw [ezp_lp_1 z1 hop rfl]
              exact st_21, by
              show ezm_LM kk (ezp_lp c 1 (ezp_rk c (ezp_pt c 0) 2) 1000 ((ezp_rk c (ezp_pt c 0) 2) x)).2 _ _ _
              rw [ezp_lp_1 z1 hop rfl]
              exact ezm_LM_em lm_21 fo_27 (by rw [eo_27]; exact (by
              unfold ezp_op
              repeat (first | rw [if_pos (by omega)] | rw [if_neg (by omega)])
              first | decide | (exfalso; omega))) (by rw [ea_27]; exact (by
              unfold ezp_op
              repeat (first | rw [if_pos (by omega)] | rw [if_neg (by omega)])
              first | decide | (exfalso; omega))) (by omega), rfl⟩
def ezm_m223_v42pQ (e : Bool × Bool) (F : Nat → Nat → Int) (A : Nat → Int → Int) (i0 i2 i3 i7 i8 i13 i18 i19 i20 i25 i29 i30 i31 i36 i37 i38 : Int) (r73 r74 r75 r76 r77 r78 r79 r80 r81 r82 r83 r84 r85 r86 r87 r88 r89 r90 r91 r92 r93 r94 r95 : Int → Int) (n : Int) (c : Int → Int) (s : Int × Int) : Option ezq_V → (Nat → ezq_C) → Prop := fun v g' => ezm_h e F A i0 i2 i3 i7 i8 i13 i18 i19 i20 i25 i29 i30 i31 i36 i37 i38 r73 r74 r75 r76 r77 r78 r79 r80 r81 r82 r83 r84 r85 r86 r87 r88 r89 r90 r91 r92 r93 r94 r95 = g' ∧ ∃ u : Int, (0 ≤ u ∧ u ≤ 1) ∧ (u = 1 → i8 = 0 ∧ i7 < n) ∧ (u = ezm_w i8 i7 r74 r76 r77 (42)) ∧ (u = 1 → s.1 = 0 ∧ ezp_K c s.2 = 42) ∧ (u = 0 → s.1 ≠ 0 ∨ ezp_K c s.2 ≠ 42) ∧ some (ezw_i u) = v
set_option maxHeartbeats 8000000 in
theorem ezm_m223_v42p {c : Int → Int} {s : Int × Int} {n : Int} (hT : ezm_T i0 i2 i3 i7 i8 i13 i18 i19 i20 i25 i29 i30 i31 i36 i37 i38 r73 r74 r75 r76 r77 r78 r79 r80 r81 r82 r83 r84 r85 r86 r87 r88 r89 r90 r91 r92 r93 r94 r95) (hd : 0 ≤ d) (hn : 0 ≤ i7 ∧ i7 ≤ n) (hs : r74 n = 0) (h1 : n ≤ 1000) (tk : ezm_TK c n r74 r75 r76) (hM : ∀ w, 0 ≤ w → w < 48 → r77 w = ezl_mw.getD w.toNat 0) (st : ezm_ST s i8 i7) : ezw_C l ρ B xa Hb D cA 223 d [ezw_p 72, ezw_i (42)] (ezm_h e F A i0 i2 i3 i7 i8 i13 i18 i19 i20 i25 i29 i30 i31 i36 i37 i38 r73 r74 r75 r76 r77 r78 r79 r80 r81 r82 r83 r84 r85 r86 r87 r88 r89 r90 r91 r92 r93 r94 r95) (ezm_m223_v42pQ  e F A i0 i2 i3 i7 i8 i13 i18 i19 i20 i25 i29 i30 i31 i36 i37 i38 r73 r74 r75 r76 r77 r78 r79 r80 r81 r82 r83 r84 r85 r86 r87 r88 r89 r90 r91 r92 r93 r94 r95 n c s) := by
  refine ezw_met (k := 0) rfl rfl ?_
  obtain ⟨se, sa, sp, hP, sw, sk⟩ := ezm_TKi tk st hn
  refine ezw_aload_n rfl rfl ?_
  refine ezm_g8 rfl ?_
  have k1 := hT.t8
  refine ezw_if_ne rfl rfl ⟨by omega, by omega⟩ (fun h4_1 => ?_) (fun h4_1 => ?_)
  · refine ezw_iconst (0) rfl rfl ?_
    exact ezw_ireturn rfl (ezw_zret ⟨by omega, by omega⟩) ⟨rfl, (0), ⟨by omega, by omega⟩, by omega, by unfold ezm_w; first | exact (if_pos ⟨by omega, by omega, by omega⟩).symm | exact (if_neg (fun h => by omega)).symm, by omega, fun _ => by
          by_cases z0 : s.1 = 0
          · by_cases z1 : r74 i7 = 1
            · have hx := ezm_ixw (a := 42) hM (sw z0 z1) ⟨by decide, by decide⟩
              by_cases z2 : r76 i7 = r77 (42)
              · exfalso
                omega
              · have z3 : ezp_ix (ezp_W c s.2) ≠ 42 := fun y => z2 (hx.mpr y)
                omega
            · omega
          · exact Or.inl z0, rfl⟩
  · refine ezw_aload_n rfl rfl ?_
    refine ezm_gp (p := 74) rfl (fun _ => rfl) ?_
    refine ezw_aload_n rfl rfl ?_
    refine ezm_g7 rfl ?_
    have k2 := hT.t7
    refine ezm_l74 rfl (by omega) (by omega) (fun u3 eu3 => ?_)
    have ku3 : ezw_in u3 := eu3 ▸ hT.t74 i7
    refine ezw_iconst (1) rfl rfl ?_
    refine ezw_icmp_ne rfl rfl ku3 ⟨by decide, by decide⟩ (fun h17_3 => ?_) (fun h17_3 => ?_)
    · refine ezw_iconst (0) rfl rfl ?_
      exact ezw_ireturn rfl (ezw_zret ⟨by omega, by omega⟩) ⟨rfl, (0), ⟨by omega, by omega⟩, by omega, by unfold ezm_w; first | exact (if_pos ⟨by omega, by omega, by omega⟩).symm | exact (if_neg (fun h => by omega)).symm, by omega, fun _ => by
            by_cases z0 : s.1 = 0
            · by_cases z1 : r74 i7 = 1
              · have hx := ezm_ixw (a := 42) hM (sw z0 z1) ⟨by decide, by decide⟩
                by_cases z2 : r76 i7 = r77 (42)
                · exfalso
                  omega
                · have z3 : ezp_ix (ezp_W c s.2) ≠ 42 := fun y => z2 (hx.mpr y)
                  omega
              · omega
            · exact Or.inl z0, rfl⟩
    · refine ezw_aload_n rfl rfl ?_
      refine ezm_gp (p := 76) rfl (fun _ => rfl) ?_
      refine ezw_aload_n rfl rfl ?_
      refine ezm_g7 rfl ?_
      refine ezm_l76 rfl (by omega) (by omega) (fun u4 eu4 => ?_)
      have ku4 : ezw_il u4 := eu4 ▸ hT.t76 i7
      refine ezw_aload_n rfl rfl ?_
      refine ezm_gp (p := 77) rfl (fun _ => rfl) ?_
      refine ezw_iload_n rfl rfl ?_
      refine ezm_l77 rfl (by omega) (by omega) (fun u5 eu5 => ?_)
      have ku5 : ezw_il u5 := eu5 ▸ hT.t77 (42)
      refine ezw_lcmpE rfl ku4 ku5 (fun u6 hu6 => ?_)
      refine ezw_if_ne rfl rfl ⟨by omega, by omega⟩ (fun h36_6 => ?_) (fun h36_6 => ?_)
      · refine ezw_iconst (0) rfl rfl ?_
        exact ezw_ireturn rfl (ezw_zret ⟨by omega, by omega⟩) ⟨rfl, (0), ⟨by omega, by omega⟩, by omega, by unfold ezm_w; first | exact (if_pos ⟨by omega, by omega, by omega⟩).symm | exact (if_neg (fun h => by omega)).symm, by omega, fun _ => by
              by_cases z0 : s.1 = 0
              · by_cases z1 : r74 i7 = 1
                · have hx := ezm_ixw (a := 42) hM (sw z0 z1) ⟨by decide, by decide⟩
                  by_cases z2 : r76 i7 = r77 (42)
                  · exfalso
                    omega
                  · have z3 : ezp_ix (ezp_W c s.2) ≠ 42 := fun y => z2 (hx.mpr y)
                    omega
                · omega
              · exact Or.inl z0, rfl⟩
      · refine ezw_iconst (1) rfl rfl ?_
        refine ezw_goto rfl rfl ?_
        exact ezw_ireturn rfl (ezw_zret ⟨by omega, by omega⟩) ⟨rfl, (1), ⟨by omega, by omega⟩, fun _ => ⟨by omega, ezm_lt (by omega) hs (by omega)⟩, by unfold ezm_w; first | exact (if_pos ⟨by omega, by omega, by omega⟩).symm | exact (if_neg (fun h => by omega)).symm, fun _ => by
              have hx := (ezm_ixw (a := 42) hM (sw (by omega) (by omega)) ⟨by decide, by decide⟩).mp (by omega)
              omega, by omega, rfl⟩
def ezm_m223_v43pQ (e : Bool × Bool) (F : Nat → Nat → Int) (A : Nat → Int → Int) (i0 i2 i3 i7 i8 i13 i18 i19 i20 i25 i29 i30 i31 i36 i37 i38 : Int) (r73 r74 r75 r76 r77 r78 r79 r80 r81 r82 r83 r84 r85 r86 r87 r88 r89 r90 r91 r92 r93 r94 r95 : Int → Int) (n : Int) (c : Int → Int) (s : Int × Int) : Option ezq_V → (Nat → ezq_C) → Prop := fun v g' => ezm_h e F A i0 i2 i3 i7 i8 i13 i18 i19 i20 i25 i29 i30 i31 i36 i37 i38 r73 r74 r75 r76 r77 r78 r79 r80 r81 r82 r83 r84 r85 r86 r87 r88 r89 r90 r91 r92 r93 r94 r95 = g' ∧ ∃ u : Int, (0 ≤ u ∧ u ≤ 1) ∧ (u = 1 → i8 = 0 ∧ i7 < n) ∧ (u = ezm_w i8 i7 r74 r76 r77 (43)) ∧ (u = 1 → s.1 = 0 ∧ ezp_K c s.2 = 43) ∧ (u = 0 → s.1 ≠ 0 ∨ ezp_K c s.2 ≠ 43) ∧ some (ezw_i u) = v
set_option maxHeartbeats 8000000 in
theorem ezm_m223_v43p {c : Int → Int} {s : Int × Int} {n : Int} (hT : ezm_T i0 i2 i3 i7 i8 i13 i18 i19 i20 i25 i29 i30 i31 i36 i37 i38 r73 r74 r75 r76 r77 r78 r79 r80 r81 r82 r83 r84 r85 r86 r87 r88 r89 r90 r91 r92 r93 r94 r95) (hd : 0 ≤ d) (hn : 0 ≤ i7 ∧ i7 ≤ n) (hs : r74 n = 0) (h1 : n ≤ 1000) (tk : ezm_TK c n r74 r75 r76) (hM : ∀ w, 0 ≤ w → w < 48 → r77 w = ezl_mw.getD w.toNat 0) (st : ezm_ST s i8 i7) : ezw_C l ρ B xa Hb D cA 223 d [ezw_p 72, ezw_i (43)] (ezm_h e F A i0 i2 i3 i7 i8 i13 i18 i19 i20 i25 i29 i30 i31 i36 i37 i38 r73 r74 r75 r76 r77 r78 r79 r80 r81 r82 r83 r84 r85 r86 r87 r88 r89 r90 r91 r92 r93 r94 r95) (ezm_m223_v43pQ  e F A i0 i2 i3 i7 i8 i13 i18 i19 i20 i25 i29 i30 i31 i36 i37 i38 r73 r74 r75 r76 r77 r78 r79 r80 r81 r82 r83 r84 r85 r86 r87 r88 r89 r90 r91 r92 r93 r94 r95 n c s) := by
  refine ezw_met (k := 0) rfl rfl ?_
  obtain ⟨se, sa, sp, hP, sw, sk⟩ := ezm_TKi tk st hn
  refine ezw_aload_n rfl rfl ?_
  refine ezm_g8 rfl ?_
  have k1 := hT.t8
  refine ezw_if_ne rfl rfl ⟨by omega, by omega⟩ (fun h4_1 => ?_) (fun h4_1 => ?_)
  · refine ezw_iconst (0) rfl rfl ?_
    exact ezw_ireturn rfl (ezw_zret ⟨by omega, by omega⟩) ⟨rfl, (0), ⟨by omega, by omega⟩, by omega, by unfold ezm_w; first | exact (if_pos ⟨by omega, by omega, by omega⟩).symm | exact (if_neg (fun h => by omega)).symm, by omega, fun _ => by
          by_cases z0 : s.1 = 0
          · by_cases z1 : r74 i7 = 1
            · have hx := ezm_ixw (a := 43) hM (sw z0 z1) ⟨by decide, by decide⟩
              by_cases z2 : r76 i7 = r77 (43)
              · exfalso
                omega
              · have z3 : ezp_ix (ezp_W c s.2) ≠ 43 := fun y => z2 (hx.mpr y)
                omega
            · omega
          · exact Or.inl z0, rfl⟩
  · refine ezw_aload_n rfl rfl ?_
    refine ezm_gp (p := 74) rfl (fun _ => rfl) ?_
    refine ezw_aload_n rfl rfl ?_
    refine ezm_g7 rfl ?_
    have k2 := hT.t7
    refine ezm_l74 rfl (by omega) (by omega) (fun u3 eu3 => ?_)
    have ku3 : ezw_in u3 := eu3 ▸ hT.t74 i7
    refine ezw_iconst (1) rfl rfl ?_
    refine ezw_icmp_ne rfl rfl ku3 ⟨by decide, by decide⟩ (fun h17_3 => ?_) (fun h17_3 => ?_)
    · refine ezw_iconst (0) rfl rfl ?_
      exact ezw_ireturn rfl (ezw_zret ⟨by omega, by omega⟩) ⟨rfl, (0), ⟨by omega, by omega⟩, by omega, by unfold ezm_w; first | exact (if_pos ⟨by omega, by omega, by omega⟩).symm | exact (if_neg (fun h => by omega)).symm, by omega, fun _ => by
            by_cases z0 : s.1 = 0
            · by_cases z1 : r74 i7 = 1
              · have hx := ezm_ixw (a := 43) hM (sw z0 z1) ⟨by decide, by decide⟩
                by_cases z2 : r76 i7 = r77 (43)
                · exfalso
                  omega
                · have z3 : ezp_ix (ezp_W c s.2) ≠ 43 := fun y => z2 (hx.mpr y)
                  omega
              · omega
            · exact Or.inl z0, rfl⟩
    · refine ezw_aload_n rfl rfl ?_
      refine ezm_gp (p := 76) rfl (fun _ => rfl) ?_
      refine ezw_aload_n rfl rfl ?_
      refine ezm_g7 rfl ?_
      refine ezm_l76 rfl (by omega) (by omega) (fun u4 eu4 => ?_)
      have ku4 : ezw_il u4 := eu4 ▸ hT.t76 i7
      refine ezw_aload_n rfl rfl ?_
      refine ezm_gp (p := 77) rfl (fun _ => rfl) ?_
      refine ezw_iload_n rfl rfl ?_
      refine ezm_l77 rfl (by omega) (by omega) (fun u5 eu5 => ?_)
      have ku5 : ezw_il u5 := eu5 ▸ hT.t77 (43)
      refine ezw_lcmpE rfl ku4 ku5 (fun u6 hu6 => ?_)
      refine ezw_if_ne rfl rfl ⟨by omega, by omega⟩ (fun h36_6 => ?_) (fun h36_6 => ?_)
      · refine ezw_iconst (0) rfl rfl ?_
        exact ezw_ireturn rfl (ezw_zret ⟨by omega, by omega⟩) ⟨rfl, (0), ⟨by omega, by omega⟩, by omega, by unfold ezm_w; first | exact (if_pos ⟨by omega, by omega, by omega⟩).symm | exact (if_neg (fun h => by omega)).symm, by omega, fun _ => by
              by_cases z0 : s.1 = 0
              · by_cases z1 : r74 i7 = 1
                · have hx := ezm_ixw (a := 43) hM (sw z0 z1) ⟨by decide, by decide⟩
                  by_cases z2 : r76 i7 = r77 (43)
                  · exfalso
                    omega
                  · have z3 : ezp_ix (ezp_W c s.2) ≠ 43 := fun y => z2 (hx.mpr y)
                    omega
                · omega
              · exact Or.inl z0, rfl⟩
      · refine ezw_iconst (1) rfl rfl ?_
        refine ezw_goto rfl rfl ?_
        exact ezw_ireturn rfl (ezw_zret ⟨by omega, by omega⟩) ⟨rfl, (1), ⟨by omega, by omega⟩, fun _ => ⟨by omega, ezm_lt (by omega) hs (by omega)⟩, by unfold ezm_w; first | exact (if_pos ⟨by omega, by omega, by omega⟩).symm | exact (if_neg (fun h => by omega)).symm, fun _ => by
              have hx := (ezm_ixw (a := 43) hM (sw (by omega) (by omega)) ⟨by decide, by decide⟩).mp (by omega)
              omega, by omega, rfl⟩
def ezm_m245_v5pQ (e : Bool × Bool) (F : Nat → Nat → Int) (A : Nat → Int → Int) (i0 i2 i3 i7 i8 i13 i18 i19 i20 i25 i29 i30 i31 i36 i37 i38 : Int) (r73 r74 r75 r76 r77 r78 r79 r80 r81 r82 r83 r84 r85 r86 r87 r88 r89 r90 r91 r92 r93 r94 r95 : Int → Int) (n : Int) (c : Int → Int) (x : ezp_X) (kk : Int) (tpn : Int) : Option ezq_V → (Nat → ezq_C) → Prop := fun v g' => ∃ (x7 x8 x13 : Int) (x79 x80 : Int → Int), ezm_h e F A i0 i2 i3 x7 x8 x13 i18 i19 i20 i25 i29 i30 i31 i36 i37 i38 r73 r74 r75 r76 r77 r78 x79 x80 r81 r82 r83 r84 r85 r86 r87 r88 r89 r90 r91 r92 r93 r94 r95 = g' ∧ ezm_T i0 i2 i3 x7 x8 x13 i18 i19 i20 i25 i29 i30 i31 i36 i37 i38 r73 r74 r75 r76 r77 r78 x79 x80 r81 r82 r83 r84 r85 r86 r87 r88 r89 r90 r91 r92 r93 r94 r95 ∧ (i8 ≠ 0 → x8 ≠ 0) ∧ (i7 ≤ x7 ∧ x7 ≤ n) ∧ (i13 ≤ x13 ∧ x13 - i13 ≤ x7 - i7) ∧ (ezm_fr r79 r80 x79 x80 (i13 + 1100)) ∧ (x8 = 0 → ezm_sg x79 x80 (i13 + 1100) (x13 + 1100)) ∧ (ezm_ST ((ezp_rk c (ezp_pt c 0) 4 x).1) x8 x7) ∧ (ezm_LM kk ((ezp_rk c (ezp_pt c 0) 4 x).2) x13 x79 x80) ∧ none = v
set_option maxHeartbeats 8000000 in
theorem ezm_m245_v5p {c : Int → Int} {x : ezp_X} {n kk tpn : Int} (hT : ezm_T i0 i2 i3 i7 i8 i13 i18 i19 i20 i25 i29 i30 i31 i36 i37 i38 r73 r74 r75 r76 r77 r78 r79 r80 r81 r82 r83 r84 r85 r86 r87 r88 r89 r90 r91 r92 r93 r94 r95) (hd : 6 ≤ d) (hc : 0 ≤ i13 ∧ i13 ≤ i7) (hn : 0 ≤ i7 ∧ i7 ≤ n) (hs : r74 n = 0) (h1 : n ≤ 1000) (tk : ezm_TK c n r74 r75 r76) (hM : ∀ w, 0 ≤ w → w < 48 → r77 w = ezl_mw.getD w.toNat 0) (st : ezm_ST x.1 i8 i7) (g1 : 1 ≤ i7) (lm : ezm_LM kk x.2 i13 r79 r80) (tp : ezp_tp c tpn) : ezw_C l ρ B xa Hb D cA 245 d [ezw_p 72, ezw_i (5)] (ezm_h e F A i0 i2 i3 i7 i8 i13 i18 i19 i20 i25 i29 i30 i31 i36 i37 i38 r73 r74 r75 r76 r77 r78 r79 r80 r81 r82 r83 r84 r85 r86 r87 r88 r89 r90 r91 r92 r93 r94 r95) (ezm_m245_v5pQ  e F A i0 i2 i3 i7 i8 i13 i18 i19 i20 i25 i29 i30 i31 i36 i37 i38 r73 r74 r75 r76 r77 r78 r79 r80 r81 r82 r83 r84 r85 r86 r87 r88 r89 r90 r91 r92 r93 r94 r95 n c x kk tpn) := by
  refine ezw_met (k := 1) rfl rfl ?_
  refine ezw_aload_n rfl rfl ?_
  refine ezw_iload_n rfl rfl ?_
  refine ezw_call0_1 rfl (by omega) (ezm_at rfl) rfl rfl rfl rfl (ezm_m246_v5p (x := x) hT (by omega) (by omega) (by omega) hs (by omega) tk hM st (by omega) lm tp) ?_
  rintro _ _ ⟨x7_1, x8_1, x13_1, x79_1, x80_1, rfl, hT, p1_0, p1_1, p1_2, fo_1, sg_1, st_1, lm_1, rfl⟩
  have k2 := hT.t7
  have k3 := hT.t8
  have k4 := hT.t13
  have L5_6 : ∀ c5 : Int, ezw_in c5 → ∀ x8_6 : Int, ∀ x13_6 : Int, ∀ x79_6 : Int → Int, ∀ x80_6 : Int → Int, ezm_T i0 i2 i3 c5 x8_6 x13_6 i18 i19 i20 i25 i29 i30 i31 i36 i37 i38 r73 r74 r75 r76 r77 r78 x79_6 x80_6 r81 r82 r83 r84 r85 r86 r87 r88 r89 r90 r91 r92 r93 r94 r95 → (x7_1 ≤ c5) → (i8 ≠ 0 → x8_6 ≠ 0) → (i7 ≤ c5 ∧ c5 ≤ n) → (i13 ≤ x13_6 ∧ x13_6 - i13 ≤ c5 - i7) → (ezm_fr r79 r80 x79_6 x80_6 (i13 + 1100)) → (x8_6 = 0 → ezm_sg x79_6 x80_6 (i13 + 1100) (x13_6 + 1100)) → (∃ (x1 : ezp_X) (m : Nat), ezp_rk c (ezp_pt c 0) 4 x = ezp_lp c 0 (ezp_rk c (ezp_pt c 0) 3) m x1 ∧ ezm_ST x1.1 x8_6 c5 ∧ 1001 ≤ (m : Int) + c5 ∧ ezm_LM kk x1.2 x13_6 x79_6 x80_6) → ezw_E l ρ B xa Hb D cA d ezq_re245 (ezm_m245_v5pQ  e F A i0 i2 i3 i7 i8 i13 i18 i19 i20 i25 i29 i30 i31 i36 i37 i38 r73 r74 r75 r76 r77 r78 r79 r80 r81 r82 r83 r84 r85 r86 r87 r88 r89 r90 r91 r92 r93 r94 r95 n c x kk tpn) 5 [some (ezw_p 72), some (ezw_i (5)), none] [] (ezm_h e F A i0 i2 i3 c5 x8_6 x13_6 i18 i19 i20 i25 i29 i30 i31 i36 i37 i38 r73 r74 r75 r76 r77 r78 x79_6 x80_6 r81 r82 r83 r84 r85 r86 r87 r88 r89 r90 r91 r92 r93 r94 r95) := by
    refine ezs_up ?_
    intro c5 hc5 ihc5 x8_6 x13_6 x79_6 x80_6 hT g_6 v1_6 v2_6 v3_6 fo_6 sg_6 iv_6
    have k7 := hT.t7
    have k8 := hT.t8
    have k9 := hT.t13
    obtain ⟨x1, m, hq, st1, hm1, lm1⟩ := iv_6
    obtain ⟨se1, sa1, -, -, -, -⟩ := ezm_TKi tk st1 (by omega)
    obtain ⟨m0, rfl⟩ : ∃ m0, m = m0 + 1 := ⟨m - 1, by omega⟩
    refine ezw_aload_n rfl rfl ?_
    refine ezw_bipush (42) rfl rfl ?_
    refine ezw_call0_1 rfl (by omega) (ezm_at rfl) rfl rfl rfl rfl (ezm_m223_v42p hT (by omega) (by omega) hs (by omega) tk hM st1) ?_
    rintro _ _ ⟨rfl, u11, hu11, f_10, w_10, q1_10, q0_10, rfl⟩
    refine ezw_if_ne rfl rfl ⟨by omega, by omega⟩ (fun h11_11 => ?_) (fun h11_11 => ?_)
    · refine ezw_aload_n rfl rfl ?_
      refine ezw_bipush (42) rfl rfl ?_
      refine ezw_call0_1 rfl (by omega) (ezm_at rfl) rfl rfl rfl rfl (ezm_m223_v42p hT (by omega) (by omega) hs (by omega) tk hM st1) ?_
      rintro _ _ ⟨rfl, u13, hu13, f_12, w_12, q1_12, q0_12, rfl⟩
      refine ezw_istore_n rfl rfl ?_
      refine ezw_aload_n rfl rfl ?_
      refine ezw_dup rfl rfl ?_
      refine ezm_g7 rfl ?_
      refine ezw_iconst (1) rfl rfl ?_
      refine ezw_iadd (k := c5 + 1) rfl (by omega) ?_
      refine ezm_p7 hT rfl ⟨by omega, by omega⟩ (fun hT => ?_)
      have z1 : x1.1.1 = 0 := by omega
      have hop : ezp_op (ezp_K c x1.1.2) 0 ≠ 0 := by
        unfold ezp_op
        repeat (first | rw [if_pos (by omega)] | rw [if_neg (by omega)])
        decide
      have stT : ezm_ST (ezp_t x1.1) x8_6 (c5 + 1) := ezm_ST_t st1 (by omega) (fun _ => by omega)
      refine ezw_aload_n rfl rfl ?_
      refine ezw_iload_n rfl rfl ?_
      refine ezw_call0_1 rfl (by omega) (ezm_at rfl) rfl rfl rfl rfl (ezm_m246_v5p (x := (ezp_t x1.1, x1.2)) hT (by omega) (by omega) (by omega) hs (by omega) tk hM stT (by omega) lm1 tp) ?_
      rintro _ _ ⟨x7_14, x8_14, x13_14, x79_14, x80_14, rfl, hT, p14_0, p14_1, p14_2, fo_14, sg_14, st_14, lm_14, rfl⟩
      have k15 := hT.t7
      have k16 := hT.t8
      have k17 := hT.t13
      refine ezw_aload_n rfl rfl ?_
      refine ezw_iload_n rfl rfl ?_
      refine ezw_if_eq rfl rfl ⟨by omega, by omega⟩ (fun h47_17 => ?_) (fun h47_17 => ?_)
      · refine ezw_bipush (10) rfl rfl ?_
        refine ezw_iconst (0) rfl rfl ?_
        refine ezw_call0_2 rfl (by omega) (ezm_at rfl) rfl rfl rfl rfl (ezm_m251 hT (by omega) ⟨by decide, by decide⟩ ⟨by decide, by decide⟩ (by omega)) ?_
        rintro _ _ ⟨x13_18, x79_18, x80_18, rfl, hT, p18_0, fo_18, eo_18, ea_18, rfl⟩
        have k19 := hT.t13
        refine ezw_goto rfl rfl ?_
        exact ezw_keepE [true, true, false] (ihc5 x7_14 (by omega) ⟨by omega, by omega⟩ x8_14 x13_18 x79_18 x80_18 hT (by omega) (by omega) (by omega) (by omega) (ezm_fr_t (ezm_fr_t fo_6 fo_14 (by omega)) fo_18 (by omega)) (fun z => ezm_sgB (sg_6 (by omega)) fo_14 (sg_14 (by omega)) fo_18 (by rw [eo_18]; decide) (by omega)) (⟨ezp_l1 c 0 (ezp_rk c (ezp_pt c 0) 3) x1, m0, (by rw [hq, ezp_lp_s z1 hop (by decide)]), st_14, by omega, (ezm_LM_em lm_14 fo_18 (by rw [eo_18]; exact (by
              unfold ezp_op
              repeat (first | rw [if_pos (by omega)] | rw [if_neg (by omega)])
              first | decide | (exfalso; omega))) (by rw [ea_18]; exact (by
              unfold ezp_op
              repeat (first | rw [if_pos (by omega)] | rw [if_neg (by omega)])
              first | decide | (exfalso; omega))) (by omega))⟩))
      · refine ezw_bipush (9) rfl rfl ?_
        refine ezw_goto rfl rfl ?_
        refine ezw_iconst (0) rfl rfl ?_
        refine ezw_call0_2 rfl (by omega) (ezm_at rfl) rfl rfl rfl rfl (ezm_m251 hT (by omega) ⟨by decide, by decide⟩ ⟨by decide, by decide⟩ (by omega)) ?_
        rintro _ _ ⟨x13_20, x79_20, x80_20, rfl, hT, p20_0, fo_20, eo_20, ea_20, rfl⟩
        have k21 := hT.t13
        refine ezw_goto rfl rfl ?_
        exact ezw_keepE [true, true, false] (ihc5 x7_14 (by omega) ⟨by omega, by omega⟩ x8_14 x13_20 x79_20 x80_20 hT (by omega) (by omega) (by omega) (by omega) (ezm_fr_t (ezm_fr_t fo_6 fo_14 (by omega)) fo_20 (by omega)) (fun z => ezm_sgB (sg_6 (by omega)) fo_14 (sg_14 (by omega)) fo_20 (by rw [eo_20]; decide) (by omega)) (⟨ezp_l1 c 0 (ezp_rk c (ezp_pt c 0) 3) x1, m0, (by rw [hq, ezp_lp_s z1 hop (by decide)]), st_14, by omega, (ezm_LM_em lm_14 fo_20 (by rw [eo_20]; exact (by
              unfold ezp_op
              repeat (first | rw [if_pos (by omega)] | rw [if_neg (by omega)])
              first | decide | (exfalso; omega))) (by rw [ea_20]; exact (by
              unfold ezp_op
              repeat (first | rw [if_pos (by omega)] | rw [if_neg (by omega)])
              first | decide | (exfalso; omega))) (by omega))⟩))
    · refine ezw_aload_n rfl rfl ?_
      refine ezw_bipush (43) rfl rfl ?_
      refine ezw_call0_1 rfl (by omega) (ezm_at rfl) rfl rfl rfl rfl (ezm_m223_v43p hT (by omega) (by omega) hs (by omega) tk hM st1) ?_
      rintro _ _ ⟨rfl, u23, hu23, f_22, w_22, q1_22, q0_22, rfl⟩
      refine ezw_if_eq rfl rfl ⟨by omega, by omega⟩ (fun h20_23 => ?_) (fun h20_23 => ?_)
      · exact ezw_return rfl rfl ⟨c5, x8_6, x13_6, x79_6, x80_6, rfl, hT, by omega, by omega, by omega, fo_6, sg_6, by
              rw [hq]
              by_cases z1 : x1.1.1 = 0
              · rw [ezp_lp_0 z1 (by
                  unfold ezp_op
                  repeat (first | rw [if_pos (by omega)] | rw [if_neg (by omega)]))]
                exact st1
              · rw [ezp_lp_n z1]
                exact st1, by
              rw [hq]
              by_cases z1 : x1.1.1 = 0
              · rw [ezp_lp_0 z1 (by
                  unfold ezp_op
                  repeat (first | rw [if_pos (by omega)] | rw [if_neg (by omega)]))]
                exact lm1
              · rw [ezp_lp_n z1]
                exact lm1, rfl⟩
      · refine ezw_aload_n rfl rfl ?_
        refine ezw_bipush (42) rfl rfl ?_
        refine ezw_call0_1 rfl (by omega) (ezm_at rfl) rfl rfl rfl rfl (ezm_m223_v42p hT (by omega) (by omega) hs (by omega) tk hM st1) ?_
        rintro _ _ ⟨rfl, u25, hu25, f_24, w_24, q1_24, q0_24, rfl⟩
        refine ezw_istore_n rfl rfl ?_
        refine ezw_aload_n rfl rfl ?_
        refine ezw_dup rfl rfl ?_
        refine ezm_g7 rfl ?_
        refine ezw_iconst (1) rfl rfl ?_
        refine ezw_iadd (k := c5 + 1) rfl (by omega) ?_
        refine ezm_p7 hT rfl ⟨by omega, by omega⟩ (fun hT => ?_)
        have z1 : x1.1.1 = 0 := by omega
        have hop : ezp_op (ezp_K c x1.1.2) 0 ≠ 0 := by
          unfold ezp_op
          repeat (first | rw [if_pos (by omega)] | rw [if_neg (by omega)])
          decide
        have stT : ezm_ST (ezp_t x1.1) x8_6 (c5 + 1) := ezm_ST_t st1 (by omega) (fun _ => by omega)
        refine ezw_aload_n rfl rfl ?_
        refine ezw_iload_n rfl rfl ?_
        refine ezw_call0_1 rfl (by omega) (ezm_at rfl) rfl rfl rfl rfl (ezm_m246_v5p (x := (ezp_t x1.1, x1.2)) hT (by omega) (by omega) (by omega) hs (by omega) tk hM stT (by omega) lm1 tp) ?_
        rintro _ _ ⟨x7_26, x8_26, x13_26, x79_26, x80_26, rfl, hT, p26_0, p26_1, p26_2, fo_26, sg_26, st_26, lm_26, rfl⟩
        have k27 := hT.t7
        have k28 := hT.t8
        have k29 := hT.t13
        refine ezw_aload_n rfl rfl ?_
        refine ezw_iload_n rfl rfl ?_
        refine ezw_if_eq rfl rfl ⟨by omega, by omega⟩ (fun h47_29 => ?_) (fun h47_29 => ?_)
        · refine ezw_bipush (10) rfl rfl ?_
          refine ezw_iconst (0) rfl rfl ?_
          refine ezw_call0_2 rfl (by omega) (ezm_at rfl) rfl rfl rfl rfl (ezm_m251 hT (by omega) ⟨by decide, by decide⟩ ⟨by decide, by decide⟩ (by omega)) ?_
          rintro _ _ ⟨x13_30, x79_30, x80_30, rfl, hT, p30_0, fo_30, eo_30, ea_30, rfl⟩
          have k31 := hT.t13
          refine ezw_goto rfl rfl ?_
          exact ezw_keepE [true, true, false] (ihc5 x7_26 (by omega) ⟨by omega, by omega⟩ x8_26 x13_30 x79_30 x80_30 hT (by omega) (by omega) (by omega) (by omega) (ezm_fr_t (ezm_fr_t fo_6 fo_26 (by omega)) fo_30 (by omega)) (fun z => ezm_sgB (sg_6 (by omega)) fo_26 (sg_26 (by omega)) fo_30 (by rw [eo_30]; decide) (by omega)) (⟨ezp_l1 c 0 (ezp_rk c (ezp_pt c 0) 3) x1, m0, (by rw [hq, ezp_lp_s z1 hop (by decide)]), st_26, by omega, (ezm_LM_em lm_26 fo_30 (by rw [eo_30]; exact (by
                unfold ezp_op
                repeat (first | rw [if_pos (by omega)] | rw [if_neg (by omega)])
                first | decide | (exfalso; omega))) (by rw [ea_30]; exact (by
                unfold ezp_op
                repeat (first | rw [if_pos (by omega)] | rw [if_neg (by omega)])
                first | decide | (exfalso; omega))) (by omega))⟩))
        · refine ezw_bipush (9) rfl rfl ?_
          refine ezw_goto rfl rfl ?_
          refine ezw_iconst (0) rfl rfl ?_
          refine ezw_call0_2 rfl (by omega) (ezm_at rfl) rfl rfl rfl rfl (ezm_m251 hT (by omega) ⟨by decide, by decide⟩ ⟨by decide, by decide⟩ (by omega)) ?_
          rintro _ _ ⟨x13_32, x79_32, x80_32, rfl, hT, p32_0, fo_32, eo_32, ea_32, rfl⟩
          have k33 := hT.t13
          refine ezw_goto rfl rfl ?_
          exact ezw_keepE [true, true, false] (ihc5 x7_26 (by omega) ⟨by omega, by omega⟩ x8_26 x13_32 x79_32 x80_32 hT (by omega) (by omega) (by omega) (by omega) (ezm_fr_t (ezm_fr_t fo_6 fo_26 (by omega)) fo_32 (by omega)) (fun z => ezm_sgB (sg_6 (by omega)) fo_26 (sg_26 (by omega)) fo_32 (by rw [eo_32]; decide) (by omega)) (⟨ezp_l1 c 0 (ezp_rk c (ezp_pt c 0) 3) x1, m0, (by rw [hq, ezp_lp_s z1 hop (by decide)]), st_26, by omega, (ezm_LM_em lm_26 fo_32 (by rw [eo_32]; exact (by
                unfold ezp_op
                repeat (first | rw [if_pos (by omega)] | rw [if_neg (by omega)])
                first | decide | (exfalso; omega))) (by rw [ea_32]; exact (by
                unfold ezp_op
                repeat (first | rw [if_pos (by omega)] | rw [if_neg (by omega)])
                first | decide | (exfalso; omega))) (by omega))⟩))
  exact ezw_keepE [true, true, false] (L5_6 x7_1 ⟨by omega, by omega⟩ x8_1 x13_1 x79_1 x80_1 hT (by omega) (by omega) (by omega) (by omega) fo_1 sg_1 (⟨(ezp_rk c (ezp_pt c 0) 3) x, 1000, rfl, st_1, by omega, lm_1⟩))
end KM6
