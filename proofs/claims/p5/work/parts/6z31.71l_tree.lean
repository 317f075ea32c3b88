/-! ===== the model: a tree ===== -/
section KM6
variable {l : Launch} {ρ : ezq_E} {B : Nat} {xa : Nat → Option Nat} {Hb : Heap} {D : va_G} {cA : Nat → ClassId} {d : Nat} {e : Bool × Bool} {F : Nat → Nat → Int} {A : Nat → Int → Int} {i0 i2 i3 i7 i8 i13 i18 i19 i20 i25 i29 i30 i31 i36 i37 i38 : Int} {r73 r74 r75 r76 r77 r78 r79 r80 r81 r82 r83 r84 r85 r86 r87 r88 r89 r90 r91 r92 r93 r94 r95 : Int → Int}
def ezm_m213_v100pQ (e : Bool × Bool) (F : Nat → Nat → Int) (A : Nat → Int → Int) (i0 i2 i3 i7 i8 i13 i18 i19 i20 i25 i29 i30 i31 i36 i37 i38 : Int) (r73 r74 r75 r76 r77 r78 r79 r80 r81 r82 r83 r84 r85 r86 r87 r88 r89 r90 r91 r92 r93 r94 r95 : Int → Int) : Option ezq_V → (Nat → ezq_C) → Prop := fun v g' => ∃  (x78 : Int → Int), ezm_h e F A i0 i2 i3 i7 i8 i13 i18 i19 i20 i25 i29 i30 i31 i36 i37 i38 r73 r74 r75 r76 r77 x78 r79 r80 r81 r82 r83 r84 r85 r86 r87 r88 r89 r90 r91 r92 r93 r94 r95 = g' ∧ ezm_T i0 i2 i3 i7 i8 i13 i18 i19 i20 i25 i29 i30 i31 i36 i37 i38 r73 r74 r75 r76 r77 x78 r79 r80 r81 r82 r83 r84 r85 r86 r87 r88 r89 r90 r91 r92 r93 r94 r95 ∧ (∀ j, j < 100 → x78 j = r78 j) ∧ (x78 100 = 0) ∧ (x78 101 = 0) ∧ (x78 103 = 0) ∧ (x78 115 = -1) ∧ (x78 116 = -1) ∧ (∀ j, 100 ≤ j → j ≤ 186 → j ≠ 105 → j ≠ 113 → j ≠ 114 → j ≠ 115 → j ≠ 116 → x78 j = 0) ∧ (x78 105 = 9) ∧ (x78 113 = 10) ∧ (x78 114 = 5) ∧ none = v
theorem ezm_m213_v100p (hT : ezm_T i0 i2 i3 i7 i8 i13 i18 i19 i20 i25 i29 i30 i31 i36 i37 i38 r73 r74 r75 r76 r77 r78 r79 r80 r81 r82 r83 r84 r85 r86 r87 r88 r89 r90 r91 r92 r93 r94 r95) (hd : 0 ≤ d) : ezw_C l ρ B xa Hb D cA 213 d [ezw_p 72, ezw_i (100)] (ezm_h e F A i0 i2 i3 i7 i8 i13 i18 i19 i20 i25 i29 i30 i31 i36 i37 i38 r73 r74 r75 r76 r77 r78 r79 r80 r81 r82 r83 r84 r85 r86 r87 r88 r89 r90 r91 r92 r93 r94 r95) (ezm_m213_v100pQ  e F A i0 i2 i3 i7 i8 i13 i18 i19 i20 i25 i29 i30 i31 i36 i37 i38 r73 r74 r75 r76 r77 r78 r79 r80 r81 r82 r83 r84 r85 r86 r87 r88 r89 r90 r91 r92 r93 r94 r95) := by
  refine ezw_met (k := 1) rfl rfl ?_
  refine ezw_iconst (0) rfl rfl ?_
  refine ezw_istore_n rfl rfl ?_
  have L2_2 : ∀ c1 : Int, ezw_in c1 → ∀ x78_2 : Int → Int, ezm_T i0 i2 i3 i7 i8 i13 i18 i19 i20 i25 i29 i30 i31 i36 i37 i38 r73 r74 r75 r76 r77 x78_2 r79 r80 r81 r82 r83 r84 r85 r86 r87 r88 r89 r90 r91 r92 r93 r94 r95 → ((0) ≤ c1) → (∀ j, j < 100 → x78_2 j = r78 j) → (∀ j, 100 ≤ j → j < 100 + c1 → x78_2 j = 0) → ezw_E l ρ B xa Hb D cA d ezq_re213 (ezm_m213_v100pQ  e F A i0 i2 i3 i7 i8 i13 i18 i19 i20 i25 i29 i30 i31 i36 i37 i38 r73 r74 r75 r76 r77 r78 r79 r80 r81 r82 r83 r84 r85 r86 r87 r88 r89 r90 r91 r92 r93 r94 r95) 2 [some (ezw_p 72), some (ezw_i (100)), some (ezw_i c1)] [] (ezm_h e F A i0 i2 i3 i7 i8 i13 i18 i19 i20 i25 i29 i30 i31 i36 i37 i38 r73 r74 r75 r76 r77 x78_2 r79 r80 r81 r82 r83 r84 r85 r86 r87 r88 r89 r90 r91 r92 r93 r94 r95) := by
    refine ezs_up ?_
    intro c1 hc1 ihc1 x78_2 hT g_2 fb_2 z_2
    refine ezw_iload_n rfl rfl ?_
    refine ezw_bipush (100) rfl rfl ?_
    refine ezw_icmp_ge rfl rfl hc1 ⟨by decide, by decide⟩ (fun h5_2 => ?_) (fun h5_2 => ?_)
    · refine ezw_aload_n rfl rfl ?_
      refine ezm_gp (p := 78) rfl (fun _ => rfl) ?_
      refine ezw_iload_n rfl rfl ?_
      refine ezw_iconst (5) rfl rfl ?_
      refine ezw_iadd (k := (105)) rfl (by omega) ?_
      refine ezw_bipush (9) rfl rfl ?_
      refine ezm_s78 hT rfl (by omega) (by omega) ⟨⟨by decide, by decide⟩, by omega, by omega, by omega, by omega, by omega, by omega, by omega⟩ (fun r78_3 hT er78_3 fr78_3 => ?_)
      refine ezw_aload_n rfl rfl ?_
      refine ezm_gp (p := 78) rfl (fun _ => rfl) ?_
      refine ezw_iload_n rfl rfl ?_
      refine ezw_bipush (13) rfl rfl ?_
      refine ezw_iadd (k := (113)) rfl (by omega) ?_
      refine ezw_bipush (10) rfl rfl ?_
      refine ezm_s78 hT rfl (by omega) (by omega) ⟨⟨by decide, by decide⟩, by omega, by omega, by omega, by omega, by omega, by omega, by omega⟩ (fun r78_4 hT er78_4 fr78_4 => ?_)
      refine ezw_aload_n rfl rfl ?_
      refine ezm_gp (p := 78) rfl (fun _ => rfl) ?_
      refine ezw_iload_n rfl rfl ?_
      refine ezw_bipush (14) rfl rfl ?_
      refine ezw_iadd (k := (114)) rfl (by omega) ?_
      refine ezw_iconst (5) rfl rfl ?_
      refine ezm_s78 hT rfl (by omega) (by omega) ⟨⟨by decide, by decide⟩, by omega, by omega, by omega, by omega, by omega, by omega, by omega⟩ (fun r78_5 hT er78_5 fr78_5 => ?_)
      refine ezw_aload_n rfl rfl ?_
      refine ezm_gp (p := 78) rfl (fun _ => rfl) ?_
      refine ezw_iload_n rfl rfl ?_
      refine ezw_bipush (15) rfl rfl ?_
      refine ezw_iadd (k := (115)) rfl (by omega) ?_
      refine ezw_iconst (-1) rfl rfl ?_
      refine ezm_s78 hT rfl (by omega) (by omega) ⟨⟨by decide, by decide⟩, by omega, by omega, by omega, by omega, by omega, by omega, by omega⟩ (fun r78_6 hT er78_6 fr78_6 => ?_)
      refine ezw_aload_n rfl rfl ?_
      refine ezm_gp (p := 78) rfl (fun _ => rfl) ?_
      refine ezw_iload_n rfl rfl ?_
      refine ezw_bipush (15) rfl rfl ?_
      refine ezw_iadd (k := (115)) rfl (by omega) ?_
      refine ezw_iconst (1) rfl rfl ?_
      refine ezw_iadd (k := (116)) rfl (by omega) ?_
      refine ezw_iconst (-1) rfl rfl ?_
      refine ezm_s78 hT rfl (by omega) (by omega) ⟨⟨by decide, by decide⟩, by omega, by omega, by omega, by omega, by omega, by omega, by omega⟩ (fun r78_7 hT er78_7 fr78_7 => ?_)
      exact ezw_return rfl rfl ⟨r78_7, rfl, hT, fun j hj => by rw [fr78_7 j (by omega), fr78_6 j (by omega), fr78_5 j (by omega), fr78_4 j (by omega), fr78_3 j (by omega), fb_2 j hj], by rw [fr78_7 (100) (by omega), fr78_6 (100) (by omega), fr78_5 (100) (by omega), fr78_4 (100) (by omega), fr78_3 (100) (by omega), z_2 100 (by omega) (by omega)], by rw [fr78_7 (101) (by omega), fr78_6 (101) (by omega), fr78_5 (101) (by omega), fr78_4 (101) (by omega), fr78_3 (101) (by omega), z_2 101 (by omega) (by omega)], by rw [fr78_7 (103) (by omega), fr78_6 (103) (by omega), fr78_5 (103) (by omega), fr78_4 (103) (by omega), fr78_3 (103) (by omega), z_2 103 (by omega) (by omega)], by rw [fr78_7 (115) (by omega), er78_6], by rw [er78_7], fun j j0 j1 j2 j3 j4 j5 j6 => by rw [fr78_7 j (by omega), fr78_6 j (by omega), fr78_5 j (by omega), fr78_4 j (by omega), fr78_3 j (by omega), z_2 j (by omega) (by omega)], by rw [fr78_7 (105) (by omega), fr78_6 (105) (by omega), fr78_5 (105) (by omega), fr78_4 (105) (by omega), er78_3], by rw [fr78_7 (113) (by omega), fr78_6 (113) (by omega), fr78_5 (113) (by omega), er78_4], by rw [fr78_7 (114) (by omega), fr78_6 (114) (by omega), er78_5], rfl⟩
    · refine ezw_aload_n rfl rfl ?_
      refine ezm_gp (p := 78) rfl (fun _ => rfl) ?_
      refine ezw_iload_n rfl rfl ?_
      refine ezw_iload_n rfl rfl ?_
      refine ezw_iadd (k := c1 + 100) rfl (by omega) ?_
      refine ezw_iconst (0) rfl rfl ?_
      refine ezm_s78 hT rfl (by omega) (by omega) (ezm_k78_z _) (fun r78_8 hT er78_8 fr78_8 => ?_)
      refine ezw_iinc (k := c1 + 1) (1) rfl rfl rfl (by omega) rfl ?_
      refine ezw_goto rfl rfl ?_
      exact ezw_keepE [true, true, true] (ihc1 (c1 + 1) (by omega) ⟨by omega, by omega⟩ r78_8 hT (by omega) (fun j hj => by rw [fr78_8 j (by omega), fb_2 j hj]) (fun j h1 h2 => by
            by_cases hj : j = c1 + 100
            · rw [hj, er78_8]
            · rw [fr78_8 j hj, z_2 j h1 (by omega)]))
  exact ezw_keepE [true, true, true] (L2_2 (0) ⟨by decide, by decide⟩ r78 hT (by omega) (fun _ _ => rfl) (fun j h1 h2 => by omega))
def ezm_m223_v0pQ (e : Bool × Bool) (F : Nat → Nat → Int) (A : Nat → Int → Int) (i0 i2 i3 i7 i8 i13 i18 i19 i20 i25 i29 i30 i31 i36 i37 i38 : Int) (r73 r74 r75 r76 r77 r78 r79 r80 r81 r82 r83 r84 r85 r86 r87 r88 r89 r90 r91 r92 r93 r94 r95 : Int → Int) (n : Int) (c : Int → Int) (s : Int × Int) : Option ezq_V → (Nat → ezq_C) → Prop := fun v g' => ezm_h e F A i0 i2 i3 i7 i8 i13 i18 i19 i20 i25 i29 i30 i31 i36 i37 i38 r73 r74 r75 r76 r77 r78 r79 r80 r81 r82 r83 r84 r85 r86 r87 r88 r89 r90 r91 r92 r93 r94 r95 = g' ∧ ∃ u : Int, (0 ≤ u ∧ u ≤ 1) ∧ (u = 1 → i8 = 0 ∧ i7 < n) ∧ (u = ezm_w i8 i7 r74 r76 r77 (0)) ∧ (u = 1 → s.1 = 0 ∧ ezp_K c s.2 = 0) ∧ (u = 0 → s.1 ≠ 0 ∨ ezp_K c s.2 ≠ 0) ∧ some (ezw_i u) = v
set_option maxHeartbeats 8000000 in
theorem ezm_m223_v0p {c : Int → Int} {s : Int × Int} {n : Int} (hT : ezm_T i0 i2 i3 i7 i8 i13 i18 i19 i20 i25 i29 i30 i31 i36 i37 i38 r73 r74 r75 r76 r77 r78 r79 r80 r81 r82 r83 r84 r85 r86 r87 r88 r89 r90 r91 r92 r93 r94 r95) (hd : 0 ≤ d) (hn : 0 ≤ i7 ∧ i7 ≤ n) (hs : r74 n = 0) (h1 : n ≤ 1000) (tk : ezm_TK c n r74 r75 r76) (hM : ∀ w, 0 ≤ w → w < 48 → r77 w = ezl_mw.getD w.toNat 0) (st : ezm_ST s i8 i7) : ezw_C l ρ B xa Hb D cA 223 d [ezw_p 72, ezw_i (0)] (ezm_h e F A i0 i2 i3 i7 i8 i13 i18 i19 i20 i25 i29 i30 i31 i36 i37 i38 r73 r74 r75 r76 r77 r78 r79 r80 r81 r82 r83 r84 r85 r86 r87 r88 r89 r90 r91 r92 r93 r94 r95) (ezm_m223_v0pQ  e F A i0 i2 i3 i7 i8 i13 i18 i19 i20 i25 i29 i30 i31 i36 i37 i38 r73 r74 r75 r76 r77 r78 r79 r80 r81 r82 r83 r84 r85 r86 r87 r88 r89 r90 r91 r92 r93 r94 r95 n c s) := by
  refine ezw_met (k := 0) rfl rfl ?_
  obtain ⟨se, sa, sp, hP, sw, sk⟩ := ezm_TKi tk st hn
  refine ezw_aload_n rfl rfl ?_
  refine ezm_g8 rfl ?_
  have k1 := hT.t8
  refine ezw_if_ne rfl rfl ⟨by omega, by omega⟩ (fun h4_1 => ?_) (fun h4_1 => ?_)
  · refine ezw_iconst (0) rfl rfl ?_
    exact ezw_ireturn rfl (ezw_zret ⟨by omega, by omega⟩) ⟨rfl, (0), ⟨by omega, by omega⟩, by omega, by unfold ezm_w; first | exact (if_pos ⟨by omega, by omega, by omega⟩).symm | exact (if_neg (fun h => by omega)).symm, by omega, fun _ => by
          by_cases z0 : s.1 = 0
          · by_cases z1 : r74 i7 = 1
            · have hx := ezm_ixw (a := 0) hM (sw z0 z1) ⟨by decide, by decide⟩
              by_cases z2 : r76 i7 = r77 (0)
              · exfalso
                omega
              · have z3 : ezp_ix (ezp_W c s.2) ≠ 0 := fun y => z2 (hx.mpr y)
                omega
            · omega
          · exact Or.inl z0, rfl⟩
  · refine ezw_aload_n rfl rfl ?_
    refine ezm_gp (p := 74) rfl (fun _ => rfl) ?_
    refine ezw_aload_n rfl rfl ?_
    refine ezm_g7 rfl ?_
    have k2 := hT.t7
    refine ezm_l74 rfl (by omega) (by omega) (fun u3 eu3 => ?_)
    have ku3 : ezw_in u3 := eu3 ▸ hT.t74 i7
    refine ezw_iconst (1) rfl rfl ?_
    refine ezw_icmp_ne rfl rfl ku3 ⟨by decide, by decide⟩ (fun h17_3 => ?_) (fun h17_3 => ?_)
    · refine ezw_iconst (0) rfl rfl ?_
      exact ezw_ireturn rfl (ezw_zret ⟨by omega, by omega⟩) ⟨rfl, (0), ⟨by omega, by omega⟩, by omega, by unfold ezm_w; first | exact (if_pos ⟨by omega, by omega, by omega⟩).symm | exact (if_neg (fun h => by omega)).symm, by omega, fun _ => by
            by_cases z0 : s.1 = 0
            · by_cases z1 : r74 i7 = 1
              · have hx := ezm_ixw (a := 0) hM (sw z0 z1) ⟨by decide, by decide⟩
                by_cases z2 : r76 i7 = r77 (0)
                · exfalso
                  omega
                · have z3 : ezp_ix (ezp_W c s.2) ≠ 0 := fun y => z2 (hx.mpr y)
                  omega
              · omega
            · exact Or.inl z0, rfl⟩
    · refine ezw_aload_n rfl rfl ?_
      refine ezm_gp (p := 76) rfl (fun _ => rfl) ?_
      refine ezw_aload_n rfl rfl ?_
      refine ezm_g7 rfl ?_
      refine ezm_l76 rfl (by omega) (by omega) (fun u4 eu4 => ?_)
      have ku4 : ezw_il u4 := eu4 ▸ hT.t76 i7
      refine ezw_aload_n rfl rfl ?_
      refine ezm_gp (p := 77) rfl (fun _ => rfl) ?_
      refine ezw_iload_n rfl rfl ?_
      refine ezm_l77 rfl (by omega) (by omega) (fun u5 eu5 => ?_)
      have ku5 : ezw_il u5 := eu5 ▸ hT.t77 (0)
      refine ezw_lcmpE rfl ku4 ku5 (fun u6 hu6 => ?_)
      refine ezw_if_ne rfl rfl ⟨by omega, by omega⟩ (fun h36_6 => ?_) (fun h36_6 => ?_)
      · refine ezw_iconst (0) rfl rfl ?_
        exact ezw_ireturn rfl (ezw_zret ⟨by omega, by omega⟩) ⟨rfl, (0), ⟨by omega, by omega⟩, by omega, by unfold ezm_w; first | exact (if_pos ⟨by omega, by omega, by omega⟩).symm | exact (if_neg (fun h => by omega)).symm, by omega, fun _ => by
              by_cases z0 : s.1 = 0
              · by_cases z1 : r74 i7 = 1
                · have hx := ezm_ixw (a := 0) hM (sw z0 z1) ⟨by decide, by decide⟩
                  by_cases z2 : r76 i7 = r77 (0)
                  · exfalso
                    omega
                  · have z3 : ezp_ix (ezp_W c s.2) ≠ 0 := fun y => z2 (hx.mpr y)
                    omega
                · omega
              · exact Or.inl z0, rfl⟩
      · refine ezw_iconst (1) rfl rfl ?_
        refine ezw_goto rfl rfl ?_
        exact ezw_ireturn rfl (ezw_zret ⟨by omega, by omega⟩) ⟨rfl, (1), ⟨by omega, by omega⟩, fun _ => ⟨by omega, ezm_lt (by omega) hs (by omega)⟩, by unfold ezm_w; first | exact (if_pos ⟨by omega, by omega, by omega⟩).symm | exact (if_neg (fun h => by omega)).symm, fun _ => by
              have hx := (ezm_ixw (a := 0) hM (sw (by omega) (by omega)) ⟨by decide, by decide⟩).mp (by omega)
              omega, by omega, rfl⟩
def ezm_m223_v9pQ (e : Bool × Bool) (F : Nat → Nat → Int) (A : Nat → Int → Int) (i0 i2 i3 i7 i8 i13 i18 i19 i20 i25 i29 i30 i31 i36 i37 i38 : Int) (r73 r74 r75 r76 r77 r78 r79 r80 r81 r82 r83 r84 r85 r86 r87 r88 r89 r90 r91 r92 r93 r94 r95 : Int → Int) (n : Int) (c : Int → Int) (s : Int × Int) : Option ezq_V → (Nat → ezq_C) → Prop := fun v g' => ezm_h e F A i0 i2 i3 i7 i8 i13 i18 i19 i20 i25 i29 i30 i31 i36 i37 i38 r73 r74 r75 r76 r77 r78 r79 r80 r81 r82 r83 r84 r85 r86 r87 r88 r89 r90 r91 r92 r93 r94 r95 = g' ∧ ∃ u : Int, (0 ≤ u ∧ u ≤ 1) ∧ (u = 1 → i8 = 0 ∧ i7 < n) ∧ (u = ezm_w i8 i7 r74 r76 r77 (9)) ∧ (u = 1 → s.1 = 0 ∧ ezp_K c s.2 = 9) ∧ (u = 0 → s.1 ≠ 0 ∨ ezp_K c s.2 ≠ 9) ∧ some (ezw_i u) = v
set_option maxHeartbeats 8000000 in
theorem ezm_m223_v9p {c : Int → Int} {s : Int × Int} {n : Int} (hT : ezm_T i0 i2 i3 i7 i8 i13 i18 i19 i20 i25 i29 i30 i31 i36 i37 i38 r73 r74 r75 r76 r77 r78 r79 r80 r81 r82 r83 r84 r85 r86 r87 r88 r89 r90 r91 r92 r93 r94 r95) (hd : 0 ≤ d) (hn : 0 ≤ i7 ∧ i7 ≤ n) (hs : r74 n = 0) (h1 : n ≤ 1000) (tk : ezm_TK c n r74 r75 r76) (hM : ∀ w, 0 ≤ w → w < 48 → r77 w = ezl_mw.getD w.toNat 0) (st : ezm_ST s i8 i7) : ezw_C l ρ B xa Hb D cA 223 d [ezw_p 72, ezw_i (9)] (ezm_h e F A i0 i2 i3 i7 i8 i13 i18 i19 i20 i25 i29 i30 i31 i36 i37 i38 r73 r74 r75 r76 r77 r78 r79 r80 r81 r82 r83 r84 r85 r86 r87 r88 r89 r90 r91 r92 r93 r94 r95) (ezm_m223_v9pQ  e F A i0 i2 i3 i7 i8 i13 i18 i19 i20 i25 i29 i30 i31 i36 i37 i38 r73 r74 r75 r76 r77 r78 r79 r80 r81 r82 r83 r84 r85 r86 r87 r88 r89 r90 r91 r92 r93 r94 r95 n c s) := by
  refine ezw_met (k := 0) rfl rfl ?_
  obtain ⟨se, sa, sp, hP, sw, sk⟩ := ezm_TKi tk st hn
  refine ezw_aload_n rfl rfl ?_
  refine ezm_g8 rfl ?_
  have k1 := hT.t8
  refine ezw_if_ne rfl rfl ⟨by omega, by omega⟩ (fun h4_1 => ?_) (fun h4_1 => ?_)
  · refine ezw_iconst (0) rfl rfl ?_
    exact ezw_ireturn rfl (ezw_zret ⟨by omega, by omega⟩) ⟨rfl, (0), ⟨by omega, by omega⟩, by omega, by unfold ezm_w; first | exact (if_pos ⟨by omega, by omega, by omega⟩).symm | exact (if_neg (fun h => by omega)).symm, by omega, fun _ => by
          by_cases z0 : s.1 = 0
          · by_cases z1 : r74 i7 = 1
            · have hx := ezm_ixw (a := 9) hM (sw z0 z1) ⟨by decide, by decide⟩
              by_cases z2 : r76 i7 = r77 (9)
              · exfalso
                omega
              · have z3 : ezp_ix (ezp_W c s.2) ≠ 9 := fun y => z2 (hx.mpr y)
                omega
            · omega
          · exact Or.inl z0, rfl⟩
  · refine ezw_aload_n rfl rfl ?_
    refine ezm_gp (p := 74) rfl (fun _ => rfl) ?_
    refine ezw_aload_n rfl rfl ?_
    refine ezm_g7 rfl ?_
    have k2 := hT.t7
    refine ezm_l74 rfl (by omega) (by omega) (fun u3 eu3 => ?_)
    have ku3 : ezw_in u3 := eu3 ▸ hT.t74 i7
    refine ezw_iconst (1) rfl rfl ?_
    refine ezw_icmp_ne rfl rfl ku3 ⟨by decide, by decide⟩ (fun h17_3 => ?_) (fun h17_3 => ?_)
    · refine ezw_iconst (0) rfl rfl ?_
      exact ezw_ireturn rfl (ezw_zret ⟨by omega, by omega⟩) ⟨rfl, (0), ⟨by omega, by omega⟩, by omega, by unfold ezm_w; first | exact (if_pos ⟨by omega, by omega, by omega⟩).symm | exact (if_neg (fun h => by omega)).symm, by omega, fun _ => by
            by_cases z0 : s.1 = 0
            · by_cases z1 : r74 i7 = 1
              · have hx := ezm_ixw (a := 9) hM (sw z0 z1) ⟨by decide, by decide⟩
                by_cases z2 : r76 i7 = r77 (9)
                · exfalso
                  omega
                · have z3 : ezp_ix (ezp_W c s.2) ≠ 9 := fun y => z2 (hx.mpr y)
                  omega
              · omega
            · exact Or.inl z0, rfl⟩
    · refine ezw_aload_n rfl rfl ?_
      refine ezm_gp (p := 76) rfl (fun _ => rfl) ?_
      refine ezw_aload_n rfl rfl ?_
      refine ezm_g7 rfl ?_
      refine ezm_l76 rfl (by omega) (by omega) (fun u4 eu4 => ?_)
      have ku4 : ezw_il u4 := eu4 ▸ hT.t76 i7
      refine ezw_aload_n rfl rfl ?_
      refine ezm_gp (p := 77) rfl (fun _ => rfl) ?_
      refine ezw_iload_n rfl rfl ?_
      refine ezm_l77 rfl (by omega) (by omega) (fun u5 eu5 => ?_)
      have ku5 : ezw_il u5 := eu5 ▸ hT.t77 (9)
      refine ezw_lcmpE rfl ku4 ku5 (fun u6 hu6 => ?_)
      refine ezw_if_ne rfl rfl ⟨by omega, by omega⟩ (fun h36_6 => ?_) (fun h36_6 => ?_)
      · refine ezw_iconst (0) rfl rfl ?_
        exact ezw_ireturn rfl (ezw_zret ⟨by omega, by omega⟩) ⟨rfl, (0), ⟨by omega, by omega⟩, by omega, by unfold ezm_w; first | exact (if_pos ⟨by omega, by omega, by omega⟩).symm | exact (if_neg (fun h => by omega)).symm, by omega, fun _ => by
              by_cases z0 : s.1 = 0
              · by_cases z1 : r74 i7 = 1
                · have hx := ezm_ixw (a := 9) hM (sw z0 z1) ⟨by decide, by decide⟩
                  by_cases z2 : r76 i7 = r77 (9)
                  · exfalso
                    omega
                  · have z3 : ezp_ix (ezp_W c s.2) ≠ 9 := fun y => z2 (hx.mpr y)
                    omega
                · omega
              · exact Or.inl z0, rfl⟩
      · refine ezw_iconst (1) rfl rfl ?_
        refine ezw_goto rfl rfl ?_
        exact ezw_ireturn rfl (ezw_zret ⟨by omega, by omega⟩) ⟨rfl, (1), ⟨by omega, by omega⟩, fun _ => ⟨by omega, ezm_lt (by omega) hs (by omega)⟩, by unfold ezm_w; first | exact (if_pos ⟨by omega, by omega, by omega⟩).symm | exact (if_neg (fun h => by omega)).symm, fun _ => by
              have hx := (ezm_ixw (a := 9) hM (sw (by omega) (by omega)) ⟨by decide, by decide⟩).mp (by omega)
              omega, by omega, rfl⟩
def ezm_m223_v12pQ (e : Bool × Bool) (F : Nat → Nat → Int) (A : Nat → Int → Int) (i0 i2 i3 i7 i8 i13 i18 i19 i20 i25 i29 i30 i31 i36 i37 i38 : Int) (r73 r74 r75 r76 r77 r78 r79 r80 r81 r82 r83 r84 r85 r86 r87 r88 r89 r90 r91 r92 r93 r94 r95 : Int → Int) (n : Int) (c : Int → Int) (s : Int × Int) : Option ezq_V → (Nat → ezq_C) → Prop := fun v g' => ezm_h e F A i0 i2 i3 i7 i8 i13 i18 i19 i20 i25 i29 i30 i31 i36 i37 i38 r73 r74 r75 r76 r77 r78 r79 r80 r81 r82 r83 r84 r85 r86 r87 r88 r89 r90 r91 r92 r93 r94 r95 = g' ∧ ∃ u : Int, (0 ≤ u ∧ u ≤ 1) ∧ (u = 1 → i8 = 0 ∧ i7 < n) ∧ (u = ezm_w i8 i7 r74 r76 r77 (12)) ∧ (u = 1 → s.1 = 0 ∧ ezp_K c s.2 = 12) ∧ (u = 0 → s.1 ≠ 0 ∨ ezp_K c s.2 ≠ 12) ∧ some (ezw_i u) = v
set_option maxHeartbeats 8000000 in
theorem ezm_m223_v12p {c : Int → Int} {s : Int × Int} {n : Int} (hT : ezm_T i0 i2 i3 i7 i8 i13 i18 i19 i20 i25 i29 i30 i31 i36 i37 i38 r73 r74 r75 r76 r77 r78 r79 r80 r81 r82 r83 r84 r85 r86 r87 r88 r89 r90 r91 r92 r93 r94 r95) (hd : 0 ≤ d) (hn : 0 ≤ i7 ∧ i7 ≤ n) (hs : r74 n = 0) (h1 : n ≤ 1000) (tk : ezm_TK c n r74 r75 r76) (hM : ∀ w, 0 ≤ w → w < 48 → r77 w = ezl_mw.getD w.toNat 0) (st : ezm_ST s i8 i7) : ezw_C l ρ B xa Hb D cA 223 d [ezw_p 72, ezw_i (12)] (ezm_h e F A i0 i2 i3 i7 i8 i13 i18 i19 i20 i25 i29 i30 i31 i36 i37 i38 r73 r74 r75 r76 r77 r78 r79 r80 r81 r82 r83 r84 r85 r86 r87 r88 r89 r90 r91 r92 r93 r94 r95) (ezm_m223_v12pQ  e F A i0 i2 i3 i7 i8 i13 i18 i19 i20 i25 i29 i30 i31 i36 i37 i38 r73 r74 r75 r76 r77 r78 r79 r80 r81 r82 r83 r84 r85 r86 r87 r88 r89 r90 r91 r92 r93 r94 r95 n c s) := by
  refine ezw_met (k := 0) rfl rfl ?_
  obtain ⟨se, sa, sp, hP, sw, sk⟩ := ezm_TKi tk st hn
  refine ezw_aload_n rfl rfl ?_
  refine ezm_g8 rfl ?_
  have k1 := hT.t8
  refine ezw_if_ne rfl rfl ⟨by omega, by omega⟩ (fun h4_1 => ?_) (fun h4_1 => ?_)
  · refine ezw_iconst (0) rfl rfl ?_
    exact ezw_ireturn rfl (ezw_zret ⟨by omega, by omega⟩) ⟨rfl, (0), ⟨by omega, by omega⟩, by omega, by unfold ezm_w; first | exact (if_pos ⟨by omega, by omega, by omega⟩).symm | exact (if_neg (fun h => by omega)).symm, by omega, fun _ => by
          by_cases z0 : s.1 = 0
          · by_cases z1 : r74 i7 = 1
            · have hx := ezm_ixw (a := 12) hM (sw z0 z1) ⟨by decide, by decide⟩
              by_cases z2 : r76 i7 = r77 (12)
              · exfalso
                omega
              · have z3 : ezp_ix (ezp_W c s.2) ≠ 12 := fun y => z2 (hx.mpr y)
                omega
            · omega
          · exact Or.inl z0, rfl⟩
  · refine ezw_aload_n rfl rfl ?_
    refine ezm_gp (p := 74) rfl (fun _ => rfl) ?_
    refine ezw_aload_n rfl rfl ?_
    refine ezm_g7 rfl ?_
    have k2 := hT.t7
    refine ezm_l74 rfl (by omega) (by omega) (fun u3 eu3 => ?_)
    have ku3 : ezw_in u3 := eu3 ▸ hT.t74 i7
    refine ezw_iconst (1) rfl rfl ?_
    refine ezw_icmp_ne rfl rfl ku3 ⟨by decide, by decide⟩ (fun h17_3 => ?_) (fun h17_3 => ?_)
    · refine ezw_iconst (0) rfl rfl ?_
      exact ezw_ireturn rfl (ezw_zret ⟨by omega, by omega⟩) ⟨rfl, (0), ⟨by omega, by omega⟩, by omega, by unfold ezm_w; first | exact (if_pos ⟨by omega, by omega, by omega⟩).symm | exact (if_neg (fun h => by omega)).symm, by omega, fun _ => by
            by_cases z0 : s.1 = 0
            · by_cases z1 : r74 i7 = 1
              · have hx := ezm_ixw (a := 12) hM (sw z0 z1) ⟨by decide, by decide⟩
                by_cases z2 : r76 i7 = r77 (12)
                · exfalso
                  omega
                · have z3 : ezp_ix (ezp_W c s.2) ≠ 12 := fun y => z2 (hx.mpr y)
                  omega
              · omega
            · exact Or.inl z0, rfl⟩
    · refine ezw_aload_n rfl rfl ?_
      refine ezm_gp (p := 76) rfl (fun _ => rfl) ?_
      refine ezw_aload_n rfl rfl ?_
      refine ezm_g7 rfl ?_
      refine ezm_l76 rfl (by omega) (by omega) (fun u4 eu4 => ?_)
      have ku4 : ezw_il u4 := eu4 ▸ hT.t76 i7
      refine ezw_aload_n rfl rfl ?_
      refine ezm_gp (p := 77) rfl (fun _ => rfl) ?_
      refine ezw_iload_n rfl rfl ?_
      refine ezm_l77 rfl (by omega) (by omega) (fun u5 eu5 => ?_)
      have ku5 : ezw_il u5 := eu5 ▸ hT.t77 (12)
      refine ezw_lcmpE rfl ku4 ku5 (fun u6 hu6 => ?_)
      refine ezw_if_ne rfl rfl ⟨by omega, by omega⟩ (fun h36_6 => ?_) (fun h36_6 => ?_)
      · refine ezw_iconst (0) rfl rfl ?_
        exact ezw_ireturn rfl (ezw_zret ⟨by omega, by omega⟩) ⟨rfl, (0), ⟨by omega, by omega⟩, by omega, by unfold ezm_w; first | exact (if_pos ⟨by omega, by omega, by omega⟩).symm | exact (if_neg (fun h => by omega)).symm, by omega, fun _ => by
              by_cases z0 : s.1 = 0
              · by_cases z1 : r74 i7 = 1
                · have hx := ezm_ixw (a := 12) hM (sw z0 z1) ⟨by decide, by decide⟩
                  by_cases z2 : r76 i7 = r77 (12)
                  · exfalso
                    omega
                  · have z3 : ezp_ix (ezp_W c s.2) ≠ 12 := fun y => z2 (hx.mpr y)
                    omega
                · omega
              · exact Or.inl z0, rfl⟩
      · refine ezw_iconst (1) rfl rfl ?_
        refine ezw_goto rfl rfl ?_
        exact ezw_ireturn rfl (ezw_zret ⟨by omega, by omega⟩) ⟨rfl, (1), ⟨by omega, by omega⟩, fun _ => ⟨by omega, ezm_lt (by omega) hs (by omega)⟩, by unfold ezm_w; first | exact (if_pos ⟨by omega, by omega, by omega⟩).symm | exact (if_neg (fun h => by omega)).symm, fun _ => by
              have hx := (ezm_ixw (a := 12) hM (sw (by omega) (by omega)) ⟨by decide, by decide⟩).mp (by omega)
              omega, by omega, rfl⟩
def ezm_m223_v20pQ (e : Bool × Bool) (F : Nat → Nat → Int) (A : Nat → Int → Int) (i0 i2 i3 i7 i8 i13 i18 i19 i20 i25 i29 i30 i31 i36 i37 i38 : Int) (r73 r74 r75 r76 r77 r78 r79 r80 r81 r82 r83 r84 r85 r86 r87 r88 r89 r90 r91 r92 r93 r94 r95 : Int → Int) (n : Int) (c : Int → Int) (s : Int × Int) : Option ezq_V → (Nat → ezq_C) → Prop := fun v g' => ezm_h e F A i0 i2 i3 i7 i8 i13 i18 i19 i20 i25 i29 i30 i31 i36 i37 i38 r73 r74 r75 r76 r77 r78 r79 r80 r81 r82 r83 r84 r85 r86 r87 r88 r89 r90 r91 r92 r93 r94 r95 = g' ∧ ∃ u : Int, (0 ≤ u ∧ u ≤ 1) ∧ (u = 1 → i8 = 0 ∧ i7 < n) ∧ (u = ezm_w i8 i7 r74 r76 r77 (20)) ∧ (u = 1 → s.1 = 0 ∧ ezp_K c s.2 = 20) ∧ (u = 0 → s.1 ≠ 0 ∨ ezp_K c s.2 ≠ 20) ∧ some (ezw_i u) = v
set_option maxHeartbeats 8000000 in
theorem ezm_m223_v20p {c : Int → Int} {s : Int × Int} {n : Int} (hT : ezm_T i0 i2 i3 i7 i8 i13 i18 i19 i20 i25 i29 i30 i31 i36 i37 i38 r73 r74 r75 r76 r77 r78 r79 r80 r81 r82 r83 r84 r85 r86 r87 r88 r89 r90 r91 r92 r93 r94 r95) (hd : 0 ≤ d) (hn : 0 ≤ i7 ∧ i7 ≤ n) (hs : r74 n = 0) (h1 : n ≤ 1000) (tk : ezm_TK c n r74 r75 r76) (hM : ∀ w, 0 ≤ w → w < 48 → r77 w = ezl_mw.getD w.toNat 0) (st : ezm_ST s i8 i7) : ezw_C l ρ B xa Hb D cA 223 d [ezw_p 72, ezw_i (20)] (ezm_h e F A i0 i2 i3 i7 i8 i13 i18 i19 i20 i25 i29 i30 i31 i36 i37 i38 r73 r74 r75 r76 r77 r78 r79 r80 r81 r82 r83 r84 r85 r86 r87 r88 r89 r90 r91 r92 r93 r94 r95) (ezm_m223_v20pQ  e F A i0 i2 i3 i7 i8 i13 i18 i19 i20 i25 i29 i30 i31 i36 i37 i38 r73 r74 r75 r76 r77 r78 r79 r80 r81 r82 r83 r84 r85 r86 r87 r88 r89 r90 r91 r92 r93 r94 r95 n c s) := by
  refine ezw_met (k := 0) rfl rfl ?_
  obtain ⟨se, sa, sp, hP, sw, sk⟩ := ezm_TKi tk st hn
  refine ezw_aload_n rfl rfl ?_
  refine ezm_g8 rfl ?_
  have k1 := hT.t8
  refine ezw_if_ne rfl rfl ⟨by omega, by omega⟩ (fun h4_1 => ?_) (fun h4_1 => ?_)
  · refine ezw_iconst (0) rfl rfl ?_
    exact ezw_ireturn rfl (ezw_zret ⟨by omega, by omega⟩) ⟨rfl, (0), ⟨by omega, by omega⟩, by omega, by unfold ezm_w; first | exact (if_pos ⟨by omega, by omega, by omega⟩).symm | exact (if_neg (fun h => by omega)).symm, by omega, fun _ => by
          by_cases z0 : s.1 = 0
          · by_cases z1 : r74 i7 = 1
            · have hx := ezm_ixw (a := 20) hM (sw z0 z1) ⟨by decide, by decide⟩
              by_cases z2 : r76 i7 = r77 (20)
              · exfalso
                omega
              · have z3 : ezp_ix (ezp_W c s.2) ≠ 20 := fun y => z2 (hx.mpr y)
                omega
            · omega
          · exact Or.inl z0, rfl⟩
  · refine ezw_aload_n rfl rfl ?_
    refine ezm_gp (p := 74) rfl (fun _ => rfl) ?_
    refine ezw_aload_n rfl rfl ?_
    refine ezm_g7 rfl ?_
    have k2 := hT.t7
    refine ezm_l74 rfl (by omega) (by omega) (fun u3 eu3 => ?_)
    have ku3 : ezw_in u3 := eu3 ▸ hT.t74 i7
    refine ezw_iconst (1) rfl rfl ?_
    refine ezw_icmp_ne rfl rfl ku3 ⟨by decide, by decide⟩ (fun h17_3 => ?_) (fun h17_3 => ?_)
    · refine ezw_iconst (0) rfl rfl ?_
      exact ezw_ireturn rfl (ezw_zret ⟨by omega, by omega⟩) ⟨rfl, (0), ⟨by omega, by omega⟩, by omega, by unfold ezm_w; first | exact (if_pos ⟨by omega, by omega, by omega⟩).symm | exact (if_neg (fun h => by omega)).symm, by omega, fun _ => by
            by_cases z0 : s.1 = 0
            · by_cases z1 : r74 i7 = 1
              · have hx := ezm_ixw (a := 20) hM (sw z0 z1) ⟨by decide, by decide⟩
                by_cases z2 : r76 i7 = r77 (20)
                · exfalso
                  omega
                · have z3 : ezp_ix (ezp_W c s.2) ≠ 20 := fun y => z2 (hx.mpr y)
                  omega
              · omega
            · exact Or.inl z0, rfl⟩
    · refine ezw_aload_n rfl rfl ?_
      refine ezm_gp (p := 76) rfl (fun _ => rfl) ?_
      refine ezw_aload_n rfl rfl ?_
      refine ezm_g7 rfl ?_
      refine ezm_l76 rfl (by omega) (by omega) (fun u4 eu4 => ?_)
      have ku4 : ezw_il u4 := eu4 ▸ hT.t76 i7
      refine ezw_aload_n rfl rfl ?_
      refine ezm_gp (p := 77) rfl (fun _ => rfl) ?_
      refine ezw_iload_n rfl rfl ?_
      refine ezm_l77 rfl (by omega) (by omega) (fun u5 eu5 => ?_)
      have ku5 : ezw_il u5 := eu5 ▸ hT.t77 (20)
      refine ezw_lcmpE rfl ku4 ku5 (fun u6 hu6 => ?_)
      refine ezw_if_ne rfl rfl ⟨by omega, by omega⟩ (fun h36_6 => ?_) (fun h36_6 => ?_)
      · refine ezw_iconst (0) rfl rfl ?_
        exact ezw_ireturn rfl (ezw_zret ⟨by omega, by omega⟩) ⟨rfl, (0), ⟨by omega, by omega⟩, by omega, by unfold ezm_w; first | exact (if_pos ⟨by omega, by omega, by omega⟩).symm | exact (if_neg (fun h => by omega)).symm, by omega, fun _ => by
              by_cases z0 : s.1 = 0
              · by_cases z1 : r74 i7 = 1
                · have hx := ezm_ixw (a := 20) hM (sw z0 z1) ⟨by decide, by decide⟩
                  by_cases z2 : r76 i7 = r77 (20)
                  · exfalso
                    omega
                  · have z3 : ezp_ix (ezp_W c s.2) ≠ 20 := fun y => z2 (hx.mpr y)
                    omega
                · omega
              · exact Or.inl z0, rfl⟩
      · refine ezw_iconst (1) rfl rfl ?_
        refine ezw_goto rfl rfl ?_
        exact ezw_ireturn rfl (ezw_zret ⟨by omega, by omega⟩) ⟨rfl, (1), ⟨by omega, by omega⟩, fun _ => ⟨by omega, ezm_lt (by omega) hs (by omega)⟩, by unfold ezm_w; first | exact (if_pos ⟨by omega, by omega, by omega⟩).symm | exact (if_neg (fun h => by omega)).symm, fun _ => by
              have hx := (ezm_ixw (a := 20) hM (sw (by omega) (by omega)) ⟨by decide, by decide⟩).mp (by omega)
              omega, by omega, rfl⟩
end KM6
