/-! ===== the model: ELM, numbers, STRING ===== -/
section KM6
variable {l : Launch} {ρ : ezq_E} {B : Nat} {xa : Nat → Option Nat} {Hb : Heap} {D : va_G} {cA : Nat → ClassId} {d : Nat} {e : Bool × Bool} {F : Nat → Nat → Int} {A : Nat → Int → Int} {i0 i2 i3 i7 i8 i13 i18 i19 i20 i25 i29 i30 i31 i36 i37 i38 : Int} {r73 r74 r75 r76 r77 r78 r79 r80 r81 r82 r83 r84 r85 r86 r87 r88 r89 r90 r91 r92 r93 r94 r95 : Int → Int}
def ezm_m223_v5pQ (e : Bool × Bool) (F : Nat → Nat → Int) (A : Nat → Int → Int) (i0 i2 i3 i7 i8 i13 i18 i19 i20 i25 i29 i30 i31 i36 i37 i38 : Int) (r73 r74 r75 r76 r77 r78 r79 r80 r81 r82 r83 r84 r85 r86 r87 r88 r89 r90 r91 r92 r93 r94 r95 : Int → Int) (n : Int) (c : Int → Int) (s : Int × Int) : Option ezq_V → (Nat → ezq_C) → Prop := fun v g' => ezm_h e F A i0 i2 i3 i7 i8 i13 i18 i19 i20 i25 i29 i30 i31 i36 i37 i38 r73 r74 r75 r76 r77 r78 r79 r80 r81 r82 r83 r84 r85 r86 r87 r88 r89 r90 r91 r92 r93 r94 r95 = g' ∧ ∃ u : Int, (0 ≤ u ∧ u ≤ 1) ∧ (u = 1 → i8 = 0 ∧ i7 < n) ∧ (u = ezm_w i8 i7 r74 r76 r77 (5)) ∧ (u = 1 → s.1 = 0 ∧ ezp_K c s.2 = 5) ∧ (u = 0 → s.1 ≠ 0 ∨ ezp_K c s.2 ≠ 5) ∧ some (ezw_i u) = v
set_option maxHeartbeats 8000000 in
theorem ezm_m223_v5p {c : Int → Int} {s : Int × Int} {n : Int} (hT : ezm_T i0 i2 i3 i7 i8 i13 i18 i19 i20 i25 i29 i30 i31 i36 i37 i38 r73 r74 r75 r76 r77 r78 r79 r80 r81 r82 r83 r84 r85 r86 r87 r88 r89 r90 r91 r92 r93 r94 r95) (hd : 0 ≤ d) (hn : 0 ≤ i7 ∧ i7 ≤ n) (hs : r74 n = 0) (h1 : n ≤ 1000) (tk : ezm_TK c n r74 r75 r76) (hM : ∀ w, 0 ≤ w → w < 48 → r77 w = ezl_mw.getD w.toNat 0) (st : ezm_ST s i8 i7) : ezw_C l ρ B xa Hb D cA 223 d [ezw_p 72, ezw_i (5)] (ezm_h e F A i0 i2 i3 i7 i8 i13 i18 i19 i20 i25 i29 i30 i31 i36 i37 i38 r73 r74 r75 r76 r77 r78 r79 r80 r81 r82 r83 r84 r85 r86 r87 r88 r89 r90 r91 r92 r93 r94 r95) (ezm_m223_v5pQ  e F A i0 i2 i3 i7 i8 i13 i18 i19 i20 i25 i29 i30 i31 i36 i37 i38 r73 r74 r75 r76 r77 r78 r79 r80 r81 r82 r83 r84 r85 r86 r87 r88 r89 r90 r91 r92 r93 r94 r95 n c s) := by
  refine ezw_met (k := 0) rfl rfl ?_
  obtain ⟨se, sa, sp, hP, sw, sk⟩ := ezm_TKi tk st hn
  refine ezw_aload_n rfl rfl ?_
  refine ezm_g8 rfl ?_
  have k1 := hT.t8
  refine ezw_if_ne rfl rfl ⟨by omega, by omega⟩ (fun h4_1 => ?_) (fun h4_1 => ?_)
  · refine ezw_iconst (0) rfl rfl ?_
    exact ezw_ireturn rfl (ezw_zret ⟨by omega, by omega⟩) ⟨rfl, (0), ⟨by omega, by omega⟩, by omega, by unfold ezm_w; first | exact (if_pos ⟨by omega, by omega, by omega⟩).symm | exact (if_neg (fun h => by omega)).symm, by omega, fun _ => by
          by_cases z0 : s.1 = 0
          · by_cases z1 : r74 i7 = 1
            · have hx := ezm_ixw (a := 5) hM (sw z0 z1) ⟨by decide, by decide⟩
              by_cases z2 : r76 i7 = r77 (5)
              · exfalso
                omega
              · have z3 : ezp_ix (ezp_W c s.2) ≠ 5 := fun y => z2 (hx.mpr y)
                omega
            · omega
          · exact Or.inl z0, rfl⟩
  · refine ezw_aload_n rfl rfl ?_
    refine ezm_gp (p := 74) rfl (fun _ => rfl) ?_
    refine ezw_aload_n rfl rfl ?_
    refine ezm_g7 rfl ?_
    have k2 := hT.t7
    refine ezm_l74 rfl (by omega) (by omega) (fun u3 eu3 => ?_)
    have ku3 : ezw_in u3 := eu3 ▸ hT.t74 i7
    refine ezw_iconst (1) rfl rfl ?_
    refine ezw_icmp_ne rfl rfl ku3 ⟨by decide, by decide⟩ (fun h17_3 => ?_) (fun h17_3 => ?_)
    · refine ezw_iconst (0) rfl rfl ?_
      exact ezw_ireturn rfl (ezw_zret ⟨by omega, by omega⟩) ⟨rfl, (0), ⟨by omega, by omega⟩, by omega, by unfold ezm_w; first | exact (if_pos ⟨by omega, by omega, by omega⟩).symm | exact (if_neg (fun h => by omega)).symm, by omega, fun _ => by
            by_cases z0 : s.1 = 0
            · by_cases z1 : r74 i7 = 1
              · have hx := ezm_ixw (a := 5) hM (sw z0 z1) ⟨by decide, by decide⟩
                by_cases z2 : r76 i7 = r77 (5)
                · exfalso
                  omega
                · have z3 : ezp_ix (ezp_W c s.2) ≠ 5 := fun y => z2 (hx.mpr y)
                  omega
              · omega
            · exact Or.inl z0, rfl⟩
    · refine ezw_aload_n rfl rfl ?_
      refine ezm_gp (p := 76) rfl (fun _ => rfl) ?_
      refine ezw_aload_n rfl rfl ?_
      refine ezm_g7 rfl ?_
      refine ezm_l76 rfl (by omega) (by omega) (fun u4 eu4 => ?_)
      have ku4 : ezw_il u4 := eu4 ▸ hT.t76 i7
      refine ezw_aload_n rfl rfl ?_
      refine ezm_gp (p := 77) rfl (fun _ => rfl) ?_
      refine ezw_iload_n rfl rfl ?_
      refine ezm_l77 rfl (by omega) (by omega) (fun u5 eu5 => ?_)
      have ku5 : ezw_il u5 := eu5 ▸ hT.t77 (5)
      refine ezw_lcmpE rfl ku4 ku5 (fun u6 hu6 => ?_)
      refine ezw_if_ne rfl rfl ⟨by omega, by omega⟩ (fun h36_6 => ?_) (fun h36_6 => ?_)
      · refine ezw_iconst (0) rfl rfl ?_
        exact ezw_ireturn rfl (ezw_zret ⟨by omega, by omega⟩) ⟨rfl, (0), ⟨by omega, by omega⟩, by omega, by unfold ezm_w; first | exact (if_pos ⟨by omega, by omega, by omega⟩).symm | exact (if_neg (fun h => by omega)).symm, by omega, fun _ => by
              by_cases z0 : s.1 = 0
              · by_cases z1 : r74 i7 = 1
                · have hx := ezm_ixw (a := 5) hM (sw z0 z1) ⟨by decide, by decide⟩
                  by_cases z2 : r76 i7 = r77 (5)
                  · exfalso
                    omega
                  · have z3 : ezp_ix (ezp_W c s.2) ≠ 5 := fun y => z2 (hx.mpr y)
                    omega
                · omega
              · exact Or.inl z0, rfl⟩
      · refine ezw_iconst (1) rfl rfl ?_
        refine ezw_goto rfl rfl ?_
        exact ezw_ireturn rfl (ezw_zret ⟨by omega, by omega⟩) ⟨rfl, (1), ⟨by omega, by omega⟩, fun _ => ⟨by omega, ezm_lt (by omega) hs (by omega)⟩, by unfold ezm_w; first | exact (if_pos ⟨by omega, by omega, by omega⟩).symm | exact (if_neg (fun h => by omega)).symm, fun _ => by
              have hx := (ezm_ixw (a := 5) hM (sw (by omega) (by omega)) ⟨by decide, by decide⟩).mp (by omega)
              omega, by omega, rfl⟩
def ezm_m223_v6pQ (e : Bool × Bool) (F : Nat → Nat → Int) (A : Nat → Int → Int) (i0 i2 i3 i7 i8 i13 i18 i19 i20 i25 i29 i30 i31 i36 i37 i38 : Int) (r73 r74 r75 r76 r77 r78 r79 r80 r81 r82 r83 r84 r85 r86 r87 r88 r89 r90 r91 r92 r93 r94 r95 : Int → Int) (n : Int) (c : Int → Int) (s : Int × Int) : Option ezq_V → (Nat → ezq_C) → Prop := fun v g' => ezm_h e F A i0 i2 i3 i7 i8 i13 i18 i19 i20 i25 i29 i30 i31 i36 i37 i38 r73 r74 r75 r76 r77 r78 r79 r80 r81 r82 r83 r84 r85 r86 r87 r88 r89 r90 r91 r92 r93 r94 r95 = g' ∧ ∃ u : Int, (0 ≤ u ∧ u ≤ 1) ∧ (u = 1 → i8 = 0 ∧ i7 < n) ∧ (u = ezm_w i8 i7 r74 r76 r77 (6)) ∧ (u = 1 → s.1 = 0 ∧ ezp_K c s.2 = 6) ∧ (u = 0 → s.1 ≠ 0 ∨ ezp_K c s.2 ≠ 6) ∧ some (ezw_i u) = v
set_option maxHeartbeats 8000000 in
theorem ezm_m223_v6p {c : Int → Int} {s : Int × Int} {n : Int} (hT : ezm_T i0 i2 i3 i7 i8 i13 i18 i19 i20 i25 i29 i30 i31 i36 i37 i38 r73 r74 r75 r76 r77 r78 r79 r80 r81 r82 r83 r84 r85 r86 r87 r88 r89 r90 r91 r92 r93 r94 r95) (hd : 0 ≤ d) (hn : 0 ≤ i7 ∧ i7 ≤ n) (hs : r74 n = 0) (h1 : n ≤ 1000) (tk : ezm_TK c n r74 r75 r76) (hM : ∀ w, 0 ≤ w → w < 48 → r77 w = ezl_mw.getD w.toNat 0) (st : ezm_ST s i8 i7) : ezw_C l ρ B xa Hb D cA 223 d [ezw_p 72, ezw_i (6)] (ezm_h e F A i0 i2 i3 i7 i8 i13 i18 i19 i20 i25 i29 i30 i31 i36 i37 i38 r73 r74 r75 r76 r77 r78 r79 r80 r81 r82 r83 r84 r85 r86 r87 r88 r89 r90 r91 r92 r93 r94 r95) (ezm_m223_v6pQ  e F A i0 i2 i3 i7 i8 i13 i18 i19 i20 i25 i29 i30 i31 i36 i37 i38 r73 r74 r75 r76 r77 r78 r79 r80 r81 r82 r83 r84 r85 r86 r87 r88 r89 r90 r91 r92 r93 r94 r95 n c s) := by
  refine ezw_met (k := 0) rfl rfl ?_
  obtain ⟨se, sa, sp, hP, sw, sk⟩ := ezm_TKi tk st hn
  refine ezw_aload_n rfl rfl ?_
  refine ezm_g8 rfl ?_
  have k1 := hT.t8
  refine ezw_if_ne rfl rfl ⟨by omega, by omega⟩ (fun h4_1 => ?_) (fun h4_1 => ?_)
  · refine ezw_iconst (0) rfl rfl ?_
    exact ezw_ireturn rfl (ezw_zret ⟨by omega, by omega⟩) ⟨rfl, (0), ⟨by omega, by omega⟩, by omega, by unfold ezm_w; first | exact (if_pos ⟨by omega, by omega, by omega⟩).symm | exact (if_neg (fun h => by omega)).symm, by omega, fun _ => by
          by_cases z0 : s.1 = 0
          · by_cases z1 : r74 i7 = 1
            · have hx := ezm_ixw (a := 6) hM (sw z0 z1) ⟨by decide, by decide⟩
              by_cases z2 : r76 i7 = r77 (6)
              · exfalso
                omega
              · have z3 : ezp_ix (ezp_W c s.2) ≠ 6 := fun y => z2 (hx.mpr y)
                omega
            · omega
          · exact Or.inl z0, rfl⟩
  · refine ezw_aload_n rfl rfl ?_
    refine ezm_gp (p := 74) rfl (fun _ => rfl) ?_
    refine ezw_aload_n rfl rfl ?_
    refine ezm_g7 rfl ?_
    have k2 := hT.t7
    refine ezm_l74 rfl (by omega) (by omega) (fun u3 eu3 => ?_)
    have ku3 : ezw_in u3 := eu3 ▸ hT.t74 i7
    refine ezw_iconst (1) rfl rfl ?_
    refine ezw_icmp_ne rfl rfl ku3 ⟨by decide, by decide⟩ (fun h17_3 => ?_) (fun h17_3 => ?_)
    · refine ezw_iconst (0) rfl rfl ?_
      exact ezw_ireturn rfl (ezw_zret ⟨by omega, by omega⟩) ⟨rfl, (0), ⟨by omega, by omega⟩, by omega, by unfold ezm_w; first | exact (if_pos ⟨by omega, by omega, by omega⟩).symm | exact (if_neg (fun h => by omega)).symm, by omega, fun _ => by
            by_cases z0 : s.1 = 0
            · by_cases z1 : r74 i7 = 1
              · have hx := ezm_ixw (a := 6) hM (sw z0 z1) ⟨by decide, by decide⟩
                by_cases z2 : r76 i7 = r77 (6)
                · exfalso
                  omega
                · have z3 : ezp_ix (ezp_W c s.2) ≠ 6 := fun y => z2 (hx.mpr y)
                  omega
              · omega
            · exact Or.inl z0, rfl⟩
    · refine ezw_aload_n rfl rfl ?_
      refine ezm_gp (p := 76) rfl (fun _ => rfl) ?_
      refine ezw_aload_n rfl rfl ?_
      refine ezm_g7 rfl ?_
      refine ezm_l76 rfl (by omega) (by omega) (fun u4 eu4 => ?_)
      have ku4 : ezw_il u4 := eu4 ▸ hT.t76 i7
      refine ezw_aload_n rfl rfl ?_
      refine ezm_gp (p := 77) rfl (fun _ => rfl) ?_
      refine ezw_iload_n rfl rfl ?_
      refine ezm_l77 rfl (by omega) (by omega) (fun u5 eu5 => ?_)
      have ku5 : ezw_il u5 := eu5 ▸ hT.t77 (6)
      refine ezw_lcmpE rfl ku4 ku5 (fun u6 hu6 => ?_)
      refine ezw_if_ne rfl rfl ⟨by omega, by omega⟩ (fun h36_6 => ?_) (fun h36_6 => ?_)
      · refine ezw_iconst (0) rfl rfl ?_
        exact ezw_ireturn rfl (ezw_zret ⟨by omega, by omega⟩) ⟨rfl, (0), ⟨by omega, by omega⟩, by omega, by unfold ezm_w; first | exact (if_pos ⟨by omega, by omega, by omega⟩).symm | exact (if_neg (fun h => by omega)).symm, by omega, fun _ => by
              by_cases z0 : s.1 = 0
              · by_cases z1 : r74 i7 = 1
                · have hx := ezm_ixw (a := 6) hM (sw z0 z1) ⟨by decide, by decide⟩
                  by_cases z2 : r76 i7 = r77 (6)
                  · exfalso
                    omega
                  · have z3 : ezp_ix (ezp_W c s.2) ≠ 6 := fun y => z2 (hx.mpr y)
                    omega
                · omega
              · exact Or.inl z0, rfl⟩
      · refine ezw_iconst (1) rfl rfl ?_
        refine ezw_goto rfl rfl ?_
        exact ezw_ireturn rfl (ezw_zret ⟨by omega, by omega⟩) ⟨rfl, (1), ⟨by omega, by omega⟩, fun _ => ⟨by omega, ezm_lt (by omega) hs (by omega)⟩, by unfold ezm_w; first | exact (if_pos ⟨by omega, by omega, by omega⟩).symm | exact (if_neg (fun h => by omega)).symm, fun _ => by
              have hx := (ezm_ixw (a := 6) hM (sw (by omega) (by omega)) ⟨by decide, by decide⟩).mp (by omega)
              omega, by omega, rfl⟩
def ezm_m223_v13pQ (e : Bool × Bool) (F : Nat → Nat → Int) (A : Nat → Int → Int) (i0 i2 i3 i7 i8 i13 i18 i19 i20 i25 i29 i30 i31 i36 i37 i38 : Int) (r73 r74 r75 r76 r77 r78 r79 r80 r81 r82 r83 r84 r85 r86 r87 r88 r89 r90 r91 r92 r93 r94 r95 : Int → Int) (n : Int) (c : Int → Int) (s : Int × Int) : Option ezq_V → (Nat → ezq_C) → Prop := fun v g' => ezm_h e F A i0 i2 i3 i7 i8 i13 i18 i19 i20 i25 i29 i30 i31 i36 i37 i38 r73 r74 r75 r76 r77 r78 r79 r80 r81 r82 r83 r84 r85 r86 r87 r88 r89 r90 r91 r92 r93 r94 r95 = g' ∧ ∃ u : Int, (0 ≤ u ∧ u ≤ 1) ∧ (u = 1 → i8 = 0 ∧ i7 < n) ∧ (u = ezm_w i8 i7 r74 r76 r77 (13)) ∧ (u = 1 → s.1 = 0 ∧ ezp_K c s.2 = 13) ∧ (u = 0 → s.1 ≠ 0 ∨ ezp_K c s.2 ≠ 13) ∧ some (ezw_i u) = v
set_option maxHeartbeats 8000000 in
theorem ezm_m223_v13p {c : Int → Int} {s : Int × Int} {n : Int} (hT : ezm_T i0 i2 i3 i7 i8 i13 i18 i19 i20 i25 i29 i30 i31 i36 i37 i38 r73 r74 r75 r76 r77 r78 r79 r80 r81 r82 r83 r84 r85 r86 r87 r88 r89 r90 r91 r92 r93 r94 r95) (hd : 0 ≤ d) (hn : 0 ≤ i7 ∧ i7 ≤ n) (hs : r74 n = 0) (h1 : n ≤ 1000) (tk : ezm_TK c n r74 r75 r76) (hM : ∀ w, 0 ≤ w → w < 48 → r77 w = ezl_mw.getD w.toNat 0) (st : ezm_ST s i8 i7) : ezw_C l ρ B xa Hb D cA 223 d [ezw_p 72, ezw_i (13)] (ezm_h e F A i0 i2 i3 i7 i8 i13 i18 i19 i20 i25 i29 i30 i31 i36 i37 i38 r73 r74 r75 r76 r77 r78 r79 r80 r81 r82 r83 r84 r85 r86 r87 r88 r89 r90 r91 r92 r93 r94 r95) (ezm_m223_v13pQ  e F A i0 i2 i3 i7 i8 i13 i18 i19 i20 i25 i29 i30 i31 i36 i37 i38 r73 r74 r75 r76 r77 r78 r79 r80 r81 r82 r83 r84 r85 r86 r87 r88 r89 r90 r91 r92 r93 r94 r95 n c s) := by
  refine ezw_met (k := 0) rfl rfl ?_
  obtain ⟨se, sa, sp, hP, sw, sk⟩ := ezm_TKi tk st hn
  refine ezw_aload_n rfl rfl ?_
  refine ezm_g8 rfl ?_
  have k1 := hT.t8
  refine ezw_if_ne rfl rfl ⟨by omega, by omega⟩ (fun h4_1 => ?_) (fun h4_1 => ?_)
  · refine ezw_iconst (0) rfl rfl ?_
    exact ezw_ireturn rfl (ezw_zret ⟨by omega, by omega⟩) ⟨rfl, (0), ⟨by omega, by omega⟩, by omega, by unfold ezm_w; first | exact (if_pos ⟨by omega, by omega, by omega⟩).symm | exact (if_neg (fun h => by omega)).symm, by omega, fun _ => by
          by_cases z0 : s.1 = 0
          · by_cases z1 : r74 i7 = 1
            · have hx := ezm_ixw (a := 13) hM (sw z0 z1) ⟨by decide, by decide⟩
              by_cases z2 : r76 i7 = r77 (13)
              · exfalso
                omega
              · have z3 : ezp_ix (ezp_W c s.2) ≠ 13 := fun y => z2 (hx.mpr y)
                omega
            · omega
          · exact Or.inl z0, rfl⟩
  · refine ezw_aload_n rfl rfl ?_
    refine ezm_gp (p := 74) rfl (fun _ => rfl) ?_
    refine ezw_aload_n rfl rfl ?_
    refine ezm_g7 rfl ?_
    have k2 := hT.t7
    refine ezm_l74 rfl (by omega) (by omega) (fun u3 eu3 => ?_)
    have ku3 : ezw_in u3 := eu3 ▸ hT.t74 i7
    refine ezw_iconst (1) rfl rfl ?_
    refine ezw_icmp_ne rfl rfl ku3 ⟨by decide, by decide⟩ (fun h17_3 => ?_) (fun h17_3 => ?_)
    · refine ezw_iconst (0) rfl rfl ?_
      exact ezw_ireturn rfl (ezw_zret ⟨by omega, by omega⟩) ⟨rfl, (0), ⟨by omega, by omega⟩, by omega, by unfold ezm_w; first | exact (if_pos ⟨by omega, by omega, by omega⟩).symm | exact (if_neg (fun h => by omega)).symm, by omega, fun _ => by
            by_cases z0 : s.1 = 0
            · by_cases z1 : r74 i7 = 1
              · have hx := ezm_ixw (a := 13) hM (sw z0 z1) ⟨by decide, by decide⟩
                by_cases z2 : r76 i7 = r77 (13)
                · exfalso
                  omega
                · have z3 : ezp_ix (ezp_W c s.2) ≠ 13 := fun y => z2 (hx.mpr y)
                  omega
              · omega
            · exact Or.inl z0, rfl⟩
    · refine ezw_aload_n rfl rfl ?_
      refine ezm_gp (p := 76) rfl (fun _ => rfl) ?_
      refine ezw_aload_n rfl rfl ?_
      refine ezm_g7 rfl ?_
      refine ezm_l76 rfl (by omega) (by omega) (fun u4 eu4 => ?_)
      have ku4 : ezw_il u4 := eu4 ▸ hT.t76 i7
      refine ezw_aload_n rfl rfl ?_
      refine ezm_gp (p := 77) rfl (fun _ => rfl) ?_
      refine ezw_iload_n rfl rfl ?_
      refine ezm_l77 rfl (by omega) (by omega) (fun u5 eu5 => ?_)
      have ku5 : ezw_il u5 := eu5 ▸ hT.t77 (13)
      refine ezw_lcmpE rfl ku4 ku5 (fun u6 hu6 => ?_)
      refine ezw_if_ne rfl rfl ⟨by omega, by omega⟩ (fun h36_6 => ?_) (fun h36_6 => ?_)
      · refine ezw_iconst (0) rfl rfl ?_
        exact ezw_ireturn rfl (ezw_zret ⟨by omega, by omega⟩) ⟨rfl, (0), ⟨by omega, by omega⟩, by omega, by unfold ezm_w; first | exact (if_pos ⟨by omega, by omega, by omega⟩).symm | exact (if_neg (fun h => by omega)).symm, by omega, fun _ => by
              by_cases z0 : s.1 = 0
              · by_cases z1 : r74 i7 = 1
                · have hx := ezm_ixw (a := 13) hM (sw z0 z1) ⟨by decide, by decide⟩
                  by_cases z2 : r76 i7 = r77 (13)
                  · exfalso
                    omega
                  · have z3 : ezp_ix (ezp_W c s.2) ≠ 13 := fun y => z2 (hx.mpr y)
                    omega
                · omega
              · exact Or.inl z0, rfl⟩
      · refine ezw_iconst (1) rfl rfl ?_
        refine ezw_goto rfl rfl ?_
        exact ezw_ireturn rfl (ezw_zret ⟨by omega, by omega⟩) ⟨rfl, (1), ⟨by omega, by omega⟩, fun _ => ⟨by omega, ezm_lt (by omega) hs (by omega)⟩, by unfold ezm_w; first | exact (if_pos ⟨by omega, by omega, by omega⟩).symm | exact (if_neg (fun h => by omega)).symm, fun _ => by
              have hx := (ezm_ixw (a := 13) hM (sw (by omega) (by omega)) ⟨by decide, by decide⟩).mp (by omega)
              omega, by omega, rfl⟩
def ezm_m223_v14pQ (e : Bool × Bool) (F : Nat → Nat → Int) (A : Nat → Int → Int) (i0 i2 i3 i7 i8 i13 i18 i19 i20 i25 i29 i30 i31 i36 i37 i38 : Int) (r73 r74 r75 r76 r77 r78 r79 r80 r81 r82 r83 r84 r85 r86 r87 r88 r89 r90 r91 r92 r93 r94 r95 : Int → Int) (n : Int) (c : Int → Int) (s : Int × Int) : Option ezq_V → (Nat → ezq_C) → Prop := fun v g' => ezm_h e F A i0 i2 i3 i7 i8 i13 i18 i19 i20 i25 i29 i30 i31 i36 i37 i38 r73 r74 r75 r76 r77 r78 r79 r80 r81 r82 r83 r84 r85 r86 r87 r88 r89 r90 r91 r92 r93 r94 r95 = g' ∧ ∃ u : Int, (0 ≤ u ∧ u ≤ 1) ∧ (u = 1 → i8 = 0 ∧ i7 < n) ∧ (u = ezm_w i8 i7 r74 r76 r77 (14)) ∧ (u = 1 → s.1 = 0 ∧ ezp_K c s.2 = 14) ∧ (u = 0 → s.1 ≠ 0 ∨ ezp_K c s.2 ≠ 14) ∧ some (ezw_i u) = v
set_option maxHeartbeats 8000000 in
theorem ezm_m223_v14p {c : Int → Int} {s : Int × Int} {n : Int} (hT : ezm_T i0 i2 i3 i7 i8 i13 i18 i19 i20 i25 i29 i30 i31 i36 i37 i38 r73 r74 r75 r76 r77 r78 r79 r80 r81 r82 r83 r84 r85 r86 r87 r88 r89 r90 r91 r92 r93 r94 r95) (hd : 0 ≤ d) (hn : 0 ≤ i7 ∧ i7 ≤ n) (hs : r74 n = 0) (h1 : n ≤ 1000) (tk : ezm_TK c n r74 r75 r76) (hM : ∀ w, 0 ≤ w → w < 48 → r77 w = ezl_mw.getD w.toNat 0) (st : ezm_ST s i8 i7) : ezw_C l ρ B xa Hb D cA 223 d [ezw_p 72, ezw_i (14)] (ezm_h e F A i0 i2 i3 i7 i8 i13 i18 i19 i20 i25 i29 i30 i31 i36 i37 i38 r73 r74 r75 r76 r77 r78 r79 r80 r81 r82 r83 r84 r85 r86 r87 r88 r89 r90 r91 r92 r93 r94 r95) (ezm_m223_v14pQ  e F A i0 i2 i3 i7 i8 i13 i18 i19 i20 i25 i29 i30 i31 i36 i37 i38 r73 r74 r75 r76 r77 r78 r79 r80 r81 r82 r83 r84 r85 r86 r87 r88 r89 r90 r91 r92 r93 r94 r95 n c s) := by
  refine ezw_met (k := 0) rfl rfl ?_
  obtain ⟨se, sa, sp, hP, sw, sk⟩ := ezm_TKi tk st hn
  refine ezw_aload_n rfl rfl ?_
  refine ezm_g8 rfl ?_
  have k1 := hT.t8
  refine ezw_if_ne rfl rfl ⟨by omega, by omega⟩ (fun h4_1 => ?_) (fun h4_1 => ?_)
  · refine ezw_iconst (0) rfl rfl ?_
    exact ezw_ireturn rfl (ezw_zret ⟨by omega, by omega⟩) ⟨rfl, (0), ⟨by omega, by omega⟩, by omega, by unfold ezm_w; first | exact (if_pos ⟨by omega, by omega, by omega⟩).symm | exact (if_neg (fun h => by omega)).symm, by omega, fun _ => by
          by_cases z0 : s.1 = 0
          · by_cases z1 : r74 i7 = 1
            · have hx := ezm_ixw (a := 14) hM (sw z0 z1) ⟨by decide, by decide⟩
              by_cases z2 : r76 i7 = r77 (14)
              · exfalso
                omega
              · have z3 : ezp_ix (ezp_W c s.2) ≠ 14 := fun y => z2 (hx.mpr y)
                omega
            · omega
          · exact Or.inl z0, rfl⟩
  · refine ezw_aload_n rfl rfl ?_
    refine ezm_gp (p := 74) rfl (fun _ => rfl) ?_
    refine ezw_aload_n rfl rfl ?_
    refine ezm_g7 rfl ?_
    have k2 := hT.t7
    refine ezm_l74 rfl (by omega) (by omega) (fun u3 eu3 => ?_)
    have ku3 : ezw_in u3 := eu3 ▸ hT.t74 i7
    refine ezw_iconst (1) rfl rfl ?_
    refine ezw_icmp_ne rfl rfl ku3 ⟨by decide, by decide⟩ (fun h17_3 => ?_) (fun h17_3 => ?_)
    · refine ezw_iconst (0) rfl rfl ?_
      exact ezw_ireturn rfl (ezw_zret ⟨by omega, by omega⟩) ⟨rfl, (0), ⟨by omega, by omega⟩, by omega, by unfold ezm_w; first | exact (if_pos ⟨by omega, by omega, by omega⟩).symm | exact (if_neg (fun h => by omega)).symm, by omega, fun _ => by
            by_cases z0 : s.1 = 0
            · by_cases z1 : r74 i7 = 1
              · have hx := ezm_ixw (a := 14) hM (sw z0 z1) ⟨by decide, by decide⟩
                by_cases z2 : r76 i7 = r77 (14)
                · exfalso
                  omega
                · have z3 : ezp_ix (ezp_W c s.2) ≠ 14 := fun y => z2 (hx.mpr y)
                  omega
              · omega
            · exact Or.inl z0, rfl⟩
    · refine ezw_aload_n rfl rfl ?_
      refine ezm_gp (p := 76) rfl (fun _ => rfl) ?_
      refine ezw_aload_n rfl rfl ?_
      refine ezm_g7 rfl ?_
      refine ezm_l76 rfl (by omega) (by omega) (fun u4 eu4 => ?_)
      have ku4 : ezw_il u4 := eu4 ▸ hT.t76 i7
      refine ezw_aload_n rfl rfl ?_
      refine ezm_gp (p := 77) rfl (fun _ => rfl) ?_
      refine ezw_iload_n rfl rfl ?_
      refine ezm_l77 rfl (by omega) (by omega) (fun u5 eu5 => ?_)
      have ku5 : ezw_il u5 := eu5 ▸ hT.t77 (14)
      refine ezw_lcmpE rfl ku4 ku5 (fun u6 hu6 => ?_)
      refine ezw_if_ne rfl rfl ⟨by omega, by omega⟩ (fun h36_6 => ?_) (fun h36_6 => ?_)
      · refine ezw_iconst (0) rfl rfl ?_
        exact ezw_ireturn rfl (ezw_zret ⟨by omega, by omega⟩) ⟨rfl, (0), ⟨by omega, by omega⟩, by omega, by unfold ezm_w; first | exact (if_pos ⟨by omega, by omega, by omega⟩).symm | exact (if_neg (fun h => by omega)).symm, by omega, fun _ => by
              by_cases z0 : s.1 = 0
              · by_cases z1 : r74 i7 = 1
                · have hx := ezm_ixw (a := 14) hM (sw z0 z1) ⟨by decide, by decide⟩
                  by_cases z2 : r76 i7 = r77 (14)
                  · exfalso
                    omega
                  · have z3 : ezp_ix (ezp_W c s.2) ≠ 14 := fun y => z2 (hx.mpr y)
                    omega
                · omega
              · exact Or.inl z0, rfl⟩
      · refine ezw_iconst (1) rfl rfl ?_
        refine ezw_goto rfl rfl ?_
        exact ezw_ireturn rfl (ezw_zret ⟨by omega, by omega⟩) ⟨rfl, (1), ⟨by omega, by omega⟩, fun _ => ⟨by omega, ezm_lt (by omega) hs (by omega)⟩, by unfold ezm_w; first | exact (if_pos ⟨by omega, by omega, by omega⟩).symm | exact (if_neg (fun h => by omega)).symm, fun _ => by
              have hx := (ezm_ixw (a := 14) hM (sw (by omega) (by omega)) ⟨by decide, by decide⟩).mp (by omega)
              omega, by omega, rfl⟩
def ezm_m223_v15pQ (e : Bool × Bool) (F : Nat → Nat → Int) (A : Nat → Int → Int) (i0 i2 i3 i7 i8 i13 i18 i19 i20 i25 i29 i30 i31 i36 i37 i38 : Int) (r73 r74 r75 r76 r77 r78 r79 r80 r81 r82 r83 r84 r85 r86 r87 r88 r89 r90 r91 r92 r93 r94 r95 : Int → Int) (n : Int) (c : Int → Int) (s : Int × Int) : Option ezq_V → (Nat → ezq_C) → Prop := fun v g' => ezm_h e F A i0 i2 i3 i7 i8 i13 i18 i19 i20 i25 i29 i30 i31 i36 i37 i38 r73 r74 r75 r76 r77 r78 r79 r80 r81 r82 r83 r84 r85 r86 r87 r88 r89 r90 r91 r92 r93 r94 r95 = g' ∧ ∃ u : Int, (0 ≤ u ∧ u ≤ 1) ∧ (u = 1 → i8 = 0 ∧ i7 < n) ∧ (u = ezm_w i8 i7 r74 r76 r77 (15)) ∧ (u = 1 → s.1 = 0 ∧ ezp_K c s.2 = 15) ∧ (u = 0 → s.1 ≠ 0 ∨ ezp_K c s.2 ≠ 15) ∧ some (ezw_i u) = v
set_option maxHeartbeats 8000000 in
theorem ezm_m223_v15p {c : Int → Int} {s : Int × Int} {n : Int} (hT : ezm_T i0 i2 i3 i7 i8 i13 i18 i19 i20 i25 i29 i30 i31 i36 i37 i38 r73 r74 r75 r76 r77 r78 r79 r80 r81 r82 r83 r84 r85 r86 r87 r88 r89 r90 r91 r92 r93 r94 r95) (hd : 0 ≤ d) (hn : 0 ≤ i7 ∧ i7 ≤ n) (hs : r74 n = 0) (h1 : n ≤ 1000) (tk : ezm_TK c n r74 r75 r76) (hM : ∀ w, 0 ≤ w → w < 48 → r77 w = ezl_mw.getD w.toNat 0) (st : ezm_ST s i8 i7) : ezw_C l ρ B xa Hb D cA 223 d [ezw_p 72, ezw_i (15)] (ezm_h e F A i0 i2 i3 i7 i8 i13 i18 i19 i20 i25 i29 i30 i31 i36 i37 i38 r73 r74 r75 r76 r77 r78 r79 r80 r81 r82 r83 r84 r85 r86 r87 r88 r89 r90 r91 r92 r93 r94 r95) (ezm_m223_v15pQ  e F A i0 i2 i3 i7 i8 i13 i18 i19 i20 i25 i29 i30 i31 i36 i37 i38 r73 r74 r75 r76 r77 r78 r79 r80 r81 r82 r83 r84 r85 r86 r87 r88 r89 r90 r91 r92 r93 r94 r95 n c s) := by
  refine ezw_met (k := 0) rfl rfl ?_
  obtain ⟨se, sa, sp, hP, sw, sk⟩ := ezm_TKi tk st hn
  refine ezw_aload_n rfl rfl ?_
  refine ezm_g8 rfl ?_
  have k1 := hT.t8
  refine ezw_if_ne rfl rfl ⟨by omega, by omega⟩ (fun h4_1 => ?_) (fun h4_1 => ?_)
  · refine ezw_iconst (0) rfl rfl ?_
    exact ezw_ireturn rfl (ezw_zret ⟨by omega, by omega⟩) ⟨rfl, (0), ⟨by omega, by omega⟩, by omega, by unfold ezm_w; first | exact (if_pos ⟨by omega, by omega, by omega⟩).symm | exact (if_neg (fun h => by omega)).symm, by omega, fun _ => by
          by_cases z0 : s.1 = 0
          · by_cases z1 : r74 i7 = 1
            · have hx := ezm_ixw (a := 15) hM (sw z0 z1) ⟨by decide, by decide⟩
              by_cases z2 : r76 i7 = r77 (15)
              · exfalso
                omega
              · have z3 : ezp_ix (ezp_W c s.2) ≠ 15 := fun y => z2 (hx.mpr y)
                omega
            · omega
          · exact Or.inl z0, rfl⟩
  · refine ezw_aload_n rfl rfl ?_
    refine ezm_gp (p := 74) rfl (fun _ => rfl) ?_
    refine ezw_aload_n rfl rfl ?_
    refine ezm_g7 rfl ?_
    have k2 := hT.t7
    refine ezm_l74 rfl (by omega) (by omega) (fun u3 eu3 => ?_)
    have ku3 : ezw_in u3 := eu3 ▸ hT.t74 i7
    refine ezw_iconst (1) rfl rfl ?_
    refine ezw_icmp_ne rfl rfl ku3 ⟨by decide, by decide⟩ (fun h17_3 => ?_) (fun h17_3 => ?_)
    · refine ezw_iconst (0) rfl rfl ?_
      exact ezw_ireturn rfl (ezw_zret ⟨by omega, by omega⟩) ⟨rfl, (0), ⟨by omega, by omega⟩, by omega, by unfold ezm_w; first | exact (if_pos ⟨by omega, by omega, by omega⟩).symm | exact (if_neg (fun h => by omega)).symm, by omega, fun _ => by
            by_cases z0 : s.1 = 0
            · by_cases z1 : r74 i7 = 1
              · have hx := ezm_ixw (a := 15) hM (sw z0 z1) ⟨by decide, by decide⟩
                by_cases z2 : r76 i7 = r77 (15)
                · exfalso
                  omega
                · have z3 : ezp_ix (ezp_W c s.2) ≠ 15 := fun y => z2 (hx.mpr y)
                  omega
              · omega
            · exact Or.inl z0, rfl⟩
    · refine ezw_aload_n rfl rfl ?_
      refine ezm_gp (p := 76) rfl (fun _ => rfl) ?_
      refine ezw_aload_n rfl rfl ?_
      refine ezm_g7 rfl ?_
      refine ezm_l76 rfl (by omega) (by omega) (fun u4 eu4 => ?_)
      have ku4 : ezw_il u4 := eu4 ▸ hT.t76 i7
      refine ezw_aload_n rfl rfl ?_
      refine ezm_gp (p := 77) rfl (fun _ => rfl) ?_
      refine ezw_iload_n rfl rfl ?_
      refine ezm_l77 rfl (by omega) (by omega) (fun u5 eu5 => ?_)
      have ku5 : ezw_il u5 := eu5 ▸ hT.t77 (15)
      refine ezw_lcmpE rfl ku4 ku5 (fun u6 hu6 => ?_)
      refine ezw_if_ne rfl rfl ⟨by omega, by omega⟩ (fun h36_6 => ?_) (fun h36_6 => ?_)
      · refine ezw_iconst (0) rfl rfl ?_
        exact ezw_ireturn rfl (ezw_zret ⟨by omega, by omega⟩) ⟨rfl, (0), ⟨by omega, by omega⟩, by omega, by unfold ezm_w; first | exact (if_pos ⟨by omega, by omega, by omega⟩).symm | exact (if_neg (fun h => by omega)).symm, by omega, fun _ => by
              by_cases z0 : s.1 = 0
              · by_cases z1 : r74 i7 = 1
                · have hx := ezm_ixw (a := 15) hM (sw z0 z1) ⟨by decide, by decide⟩
                  by_cases z2 : r76 i7 = r77 (15)
                  · exfalso
                    omega
                  · have z3 : ezp_ix (ezp_W c s.2) ≠ 15 := fun y => z2 (hx.mpr y)
                    omega
                · omega
              · exact Or.inl z0, rfl⟩
      · refine ezw_iconst (1) rfl rfl ?_
        refine ezw_goto rfl rfl ?_
        exact ezw_ireturn rfl (ezw_zret ⟨by omega, by omega⟩) ⟨rfl, (1), ⟨by omega, by omega⟩, fun _ => ⟨by omega, ezm_lt (by omega) hs (by omega)⟩, by unfold ezm_w; first | exact (if_pos ⟨by omega, by omega, by omega⟩).symm | exact (if_neg (fun h => by omega)).symm, fun _ => by
              have hx := (ezm_ixw (a := 15) hM (sw (by omega) (by omega)) ⟨by decide, by decide⟩).mp (by omega)
              omega, by omega, rfl⟩
def ezm_m223_v16pQ (e : Bool × Bool) (F : Nat → Nat → Int) (A : Nat → Int → Int) (i0 i2 i3 i7 i8 i13 i18 i19 i20 i25 i29 i30 i31 i36 i37 i38 : Int) (r73 r74 r75 r76 r77 r78 r79 r80 r81 r82 r83 r84 r85 r86 r87 r88 r89 r90 r91 r92 r93 r94 r95 : Int → Int) (n : Int) (c : Int → Int) (s : Int × Int) : Option ezq_V → (Nat → ezq_C) → Prop := fun v g' => ezm_h e F A i0 i2 i3 i7 i8 i13 i18 i19 i20 i25 i29 i30 i31 i36 i37 i38 r73 r74 r75 r76 r77 r78 r79 r80 r81 r82 r83 r84 r85 r86 r87 r88 r89 r90 r91 r92 r93 r94 r95 = g' ∧ ∃ u : Int, (0 ≤ u ∧ u ≤ 1) ∧ (u = 1 → i8 = 0 ∧ i7 < n) ∧ (u = ezm_w i8 i7 r74 r76 r77 (16)) ∧ (u = 1 → s.1 = 0 ∧ ezp_K c s.2 = 16) ∧ (u = 0 → s.1 ≠ 0 ∨ ezp_K c s.2 ≠ 16) ∧ some (ezw_i u) = v
set_option maxHeartbeats 8000000 in
theorem ezm_m223_v16p {c : Int → Int} {s : Int × Int} {n : Int} (hT : ezm_T i0 i2 i3 i7 i8 i13 i18 i19 i20 i25 i29 i30 i31 i36 i37 i38 r73 r74 r75 r76 r77 r78 r79 r80 r81 r82 r83 r84 r85 r86 r87 r88 r89 r90 r91 r92 r93 r94 r95) (hd : 0 ≤ d) (hn : 0 ≤ i7 ∧ i7 ≤ n) (hs : r74 n = 0) (h1 : n ≤ 1000) (tk : ezm_TK c n r74 r75 r76) (hM : ∀ w, 0 ≤ w → w < 48 → r77 w = ezl_mw.getD w.toNat 0) (st : ezm_ST s i8 i7) : ezw_C l ρ B xa Hb D cA 223 d [ezw_p 72, ezw_i (16)] (ezm_h e F A i0 i2 i3 i7 i8 i13 i18 i19 i20 i25 i29 i30 i31 i36 i37 i38 r73 r74 r75 r76 r77 r78 r79 r80 r81 r82 r83 r84 r85 r86 r87 r88 r89 r90 r91 r92 r93 r94 r95) (ezm_m223_v16pQ  e F A i0 i2 i3 i7 i8 i13 i18 i19 i20 i25 i29 i30 i31 i36 i37 i38 r73 r74 r75 r76 r77 r78 r79 r80 r81 r82 r83 r84 r85 r86 r87 r88 r89 r90 r91 r92 r93 r94 r95 n c s) := by
  refine ezw_met (k := 0) rfl rfl ?_
  obtain ⟨se, sa, sp, hP, sw, sk⟩ := ezm_TKi tk st hn
  refine ezw_aload_n rfl rfl ?_
  refine ezm_g8 rfl ?_
  have k1 := hT.t8
  refine ezw_if_ne rfl rfl ⟨by omega, by omega⟩ (fun h4_1 => ?_) (fun h4_1 => ?_)
  · refine ezw_iconst (0) rfl rfl ?_
    exact ezw_ireturn rfl (ezw_zret ⟨by omega, by omega⟩) ⟨rfl, (0), ⟨by omega, by omega⟩, by omega, by unfold ezm_w; first | exact (if_pos ⟨by omega, by omega, by omega⟩).symm | exact (if_neg (fun h => by omega)).symm, by omega, fun _ => by
          by_cases z0 : s.1 = 0
          · by_cases z1 : r74 i7 = 1
            · have hx := ezm_ixw (a := 16) hM (sw z0 z1) ⟨by decide, by decide⟩
              by_cases z2 : r76 i7 = r77 (16)
              · exfalso
                omega
              · have z3 : ezp_ix (ezp_W c s.2) ≠ 16 := fun y => z2 (hx.mpr y)
                omega
            · omega
          · exact Or.inl z0, rfl⟩
  · refine ezw_aload_n rfl rfl ?_
    refine ezm_gp (p := 74) rfl (fun _ => rfl) ?_
    refine ezw_aload_n rfl rfl ?_
    refine ezm_g7 rfl ?_
    have k2 := hT.t7
    refine ezm_l74 rfl (by omega) (by omega) (fun u3 eu3 => ?_)
    have ku3 : ezw_in u3 := eu3 ▸ hT.t74 i7
    refine ezw_iconst (1) rfl rfl ?_
    refine ezw_icmp_ne rfl rfl ku3 ⟨by decide, by decide⟩ (fun h17_3 => ?_) (fun h17_3 => ?_)
    · refine ezw_iconst (0) rfl rfl ?_
      exact ezw_ireturn rfl (ezw_zret ⟨by omega, by omega⟩) ⟨rfl, (0), ⟨by omega, by omega⟩, by omega, by unfold ezm_w; first | exact (if_pos ⟨by omega, by omega, by omega⟩).symm | exact (if_neg (fun h => by omega)).symm, by omega, fun _ => by
            by_cases z0 : s.1 = 0
            · by_cases z1 : r74 i7 = 1
              · have hx := ezm_ixw (a := 16) hM (sw z0 z1) ⟨by decide, by decide⟩
                by_cases z2 : r76 i7 = r77 (16)
                · exfalso
                  omega
                · have z3 : ezp_ix (ezp_W c s.2) ≠ 16 := fun y => z2 (hx.mpr y)
                  omega
              · omega
            · exact Or.inl z0, rfl⟩
    · refine ezw_aload_n rfl rfl ?_
      refine ezm_gp (p := 76) rfl (fun _ => rfl) ?_
      refine ezw_aload_n rfl rfl ?_
      refine ezm_g7 rfl ?_
      refine ezm_l76 rfl (by omega) (by omega) (fun u4 eu4 => ?_)
      have ku4 : ezw_il u4 := eu4 ▸ hT.t76 i7
      refine ezw_aload_n rfl rfl ?_
      refine ezm_gp (p := 77) rfl (fun _ => rfl) ?_
      refine ezw_iload_n rfl rfl ?_
      refine ezm_l77 rfl (by omega) (by omega) (fun u5 eu5 => ?_)
      have ku5 : ezw_il u5 := eu5 ▸ hT.t77 (16)
      refine ezw_lcmpE rfl ku4 ku5 (fun u6 hu6 => ?_)
      refine ezw_if_ne rfl rfl ⟨by omega, by omega⟩ (fun h36_6 => ?_) (fun h36_6 => ?_)
      · refine ezw_iconst (0) rfl rfl ?_
        exact ezw_ireturn rfl (ezw_zret ⟨by omega, by omega⟩) ⟨rfl, (0), ⟨by omega, by omega⟩, by omega, by unfold ezm_w; first | exact (if_pos ⟨by omega, by omega, by omega⟩).symm | exact (if_neg (fun h => by omega)).symm, by omega, fun _ => by
              by_cases z0 : s.1 = 0
              · by_cases z1 : r74 i7 = 1
                · have hx := ezm_ixw (a := 16) hM (sw z0 z1) ⟨by decide, by decide⟩
                  by_cases z2 : r76 i7 = r77 (16)
                  · exfalso
                    omega
                  · have z3 : ezp_ix (ezp_W c s.2) ≠ 16 := fun y => z2 (hx.mpr y)
                    omega
                · omega
              · exact Or.inl z0, rfl⟩
      · refine ezw_iconst (1) rfl rfl ?_
        refine ezw_goto rfl rfl ?_
        exact ezw_ireturn rfl (ezw_zret ⟨by omega, by omega⟩) ⟨rfl, (1), ⟨by omega, by omega⟩, fun _ => ⟨by omega, ezm_lt (by omega) hs (by omega)⟩, by unfold ezm_w; first | exact (if_pos ⟨by omega, by omega, by omega⟩).symm | exact (if_neg (fun h => by omega)).symm, fun _ => by
              have hx := (ezm_ixw (a := 16) hM (sw (by omega) (by omega)) ⟨by decide, by decide⟩).mp (by omega)
              omega, by omega, rfl⟩
def ezm_m223_v18pQ (e : Bool × Bool) (F : Nat → Nat → Int) (A : Nat → Int → Int) (i0 i2 i3 i7 i8 i13 i18 i19 i20 i25 i29 i30 i31 i36 i37 i38 : Int) (r73 r74 r75 r76 r77 r78 r79 r80 r81 r82 r83 r84 r85 r86 r87 r88 r89 r90 r91 r92 r93 r94 r95 : Int → Int) (n : Int) (c : Int → Int) (s : Int × Int) : Option ezq_V → (Nat → ezq_C) → Prop := fun v g' => ezm_h e F A i0 i2 i3 i7 i8 i13 i18 i19 i20 i25 i29 i30 i31 i36 i37 i38 r73 r74 r75 r76 r77 r78 r79 r80 r81 r82 r83 r84 r85 r86 r87 r88 r89 r90 r91 r92 r93 r94 r95 = g' ∧ ∃ u : Int, (0 ≤ u ∧ u ≤ 1) ∧ (u = 1 → i8 = 0 ∧ i7 < n) ∧ (u = ezm_w i8 i7 r74 r76 r77 (18)) ∧ (u = 1 → s.1 = 0 ∧ ezp_K c s.2 = 18) ∧ (u = 0 → s.1 ≠ 0 ∨ ezp_K c s.2 ≠ 18) ∧ some (ezw_i u) = v
set_option maxHeartbeats 8000000 in
theorem ezm_m223_v18p {c : Int → Int} {s : Int × Int} {n : Int} (hT : ezm_T i0 i2 i3 i7 i8 i13 i18 i19 i20 i25 i29 i30 i31 i36 i37 i38 r73 r74 r75 r76 r77 r78 r79 r80 r81 r82 r83 r84 r85 r86 r87 r88 r89 r90 r91 r92 r93 r94 r95) (hd : 0 ≤ d) (hn : 0 ≤ i7 ∧ i7 ≤ n) (hs : r74 n = 0) (h1 : n ≤ 1000) (tk : ezm_TK c n r74 r75 r76) (hM : ∀ w, 0 ≤ w → w < 48 → r77 w = ezl_mw.getD w.toNat 0) (st : ezm_ST s i8 i7) : ezw_C l ρ B xa Hb D cA 223 d [ezw_p 72, ezw_i (18)] (ezm_h e F A i0 i2 i3 i7 i8 i13 i18 i19 i20 i25 i29 i30 i31 i36 i37 i38 r73 r74 r75 r76 r77 r78 r79 r80 r81 r82 r83 r84 r85 r86 r87 r88 r89 r90 r91 r92 r93 r94 r95) (ezm_m223_v18pQ  e F A i0 i2 i3 i7 i8 i13 i18 i19 i20 i25 i29 i30 i31 i36 i37 i38 r73 r74 r75 r76 r77 r78 r79 r80 r81 r82 r83 r84 r85 r86 r87 r88 r89 r90 r91 r92 r93 r94 r95 n c s) := by
  refine ezw_met (k := 0) rfl rfl ?_
  obtain ⟨se, sa, sp, hP, sw, sk⟩ := ezm_TKi tk st hn
  refine ezw_aload_n rfl rfl ?_
  refine ezm_g8 rfl ?_
  have k1 := hT.t8
  refine ezw_if_ne rfl rfl ⟨by omega, by omega⟩ (fun h4_1 => ?_) (fun h4_1 => ?_)
  · refine ezw_iconst (0) rfl rfl ?_
    exact ezw_ireturn rfl (ezw_zret ⟨by omega, by omega⟩) ⟨rfl, (0), ⟨by omega, by omega⟩, by omega, by unfold ezm_w; first | exact (if_pos ⟨by omega, by omega, by omega⟩).symm | exact (if_neg (fun h => by omega)).symm, by omega, fun _ => by
          by_cases z0 : s.1 = 0
          · by_cases z1 : r74 i7 = 1
            · have hx := ezm_ixw (a := 18) hM (sw z0 z1) ⟨by decide, by decide⟩
              by_cases z2 : r76 i7 = r77 (18)
              · exfalso
                omega
              · have z3 : ezp_ix (ezp_W c s.2) ≠ 18 := fun y => z2 (hx.mpr y)
                omega
            · omega
          · exact Or.inl z0, rfl⟩
  · refine ezw_aload_n rfl rfl ?_
    refine ezm_gp (p := 74) rfl (fun _ => rfl) ?_
    refine ezw_aload_n rfl rfl ?_
    refine ezm_g7 rfl ?_
    have k2 := hT.t7
    refine ezm_l74 rfl (by omega) (by omega) (fun u3 eu3 => ?_)
    have ku3 : ezw_in u3 := eu3 ▸ hT.t74 i7
    refine ezw_iconst (1) rfl rfl ?_
    refine ezw_icmp_ne rfl rfl ku3 ⟨by decide, by decide⟩ (fun h17_3 => ?_) (fun h17_3 => ?_)
    · refine ezw_iconst (0) rfl rfl ?_
      exact ezw_ireturn rfl (ezw_zret ⟨by omega, by omega⟩) ⟨rfl, (0), ⟨by omega, by omega⟩, by omega, by unfold ezm_w; first | exact (if_pos ⟨by omega, by omega, by omega⟩).symm | exact (if_neg (fun h => by omega)).symm, by omega, fun _ => by
            by_cases z0 : s.1 = 0
            · by_cases z1 : r74 i7 = 1
              · have hx := ezm_ixw (a := 18) hM (sw z0 z1) ⟨by decide, by decide⟩
                by_cases z2 : r76 i7 = r77 (18)
                · exfalso
                  omega
                · have z3 : ezp_ix (ezp_W c s.2) ≠ 18 := fun y => z2 (hx.mpr y)
                  omega
              · omega
            · exact Or.inl z0, rfl⟩
    · refine ezw_aload_n rfl rfl ?_
      refine ezm_gp (p := 76) rfl (fun _ => rfl) ?_
      refine ezw_aload_n rfl rfl ?_
      refine ezm_g7 rfl ?_
      refine ezm_l76 rfl (by omega) (by omega) (fun u4 eu4 => ?_)
      have ku4 : ezw_il u4 := eu4 ▸ hT.t76 i7
      refine ezw_aload_n rfl rfl ?_
      refine ezm_gp (p := 77) rfl (fun _ => rfl) ?_
      refine ezw_iload_n rfl rfl ?_
      refine ezm_l77 rfl (by omega) (by omega) (fun u5 eu5 => ?_)
      have ku5 : ezw_il u5 := eu5 ▸ hT.t77 (18)
      refine ezw_lcmpE rfl ku4 ku5 (fun u6 hu6 => ?_)
      refine ezw_if_ne rfl rfl ⟨by omega, by omega⟩ (fun h36_6 => ?_) (fun h36_6 => ?_)
      · refine ezw_iconst (0) rfl rfl ?_
        exact ezw_ireturn rfl (ezw_zret ⟨by omega, by omega⟩) ⟨rfl, (0), ⟨by omega, by omega⟩, by omega, by unfold ezm_w; first | exact (if_pos ⟨by omega, by omega, by omega⟩).symm | exact (if_neg (fun h => by omega)).symm, by omega, fun _ => by
              by_cases z0 : s.1 = 0
              · by_cases z1 : r74 i7 = 1
                · have hx := ezm_ixw (a := 18) hM (sw z0 z1) ⟨by decide, by decide⟩
                  by_cases z2 : r76 i7 = r77 (18)
                  · exfalso
                    omega
                  · have z3 : ezp_ix (ezp_W c s.2) ≠ 18 := fun y => z2 (hx.mpr y)
                    omega
                · omega
              · exact Or.inl z0, rfl⟩
      · refine ezw_iconst (1) rfl rfl ?_
        refine ezw_goto rfl rfl ?_
        exact ezw_ireturn rfl (ezw_zret ⟨by omega, by omega⟩) ⟨rfl, (1), ⟨by omega, by omega⟩, fun _ => ⟨by omega, ezm_lt (by omega) hs (by omega)⟩, by unfold ezm_w; first | exact (if_pos ⟨by omega, by omega, by omega⟩).symm | exact (if_neg (fun h => by omega)).symm, fun _ => by
              have hx := (ezm_ixw (a := 18) hM (sw (by omega) (by omega)) ⟨by decide, by decide⟩).mp (by omega)
              omega, by omega, rfl⟩
def ezm_m223_v19pQ (e : Bool × Bool) (F : Nat → Nat → Int) (A : Nat → Int → Int) (i0 i2 i3 i7 i8 i13 i18 i19 i20 i25 i29 i30 i31 i36 i37 i38 : Int) (r73 r74 r75 r76 r77 r78 r79 r80 r81 r82 r83 r84 r85 r86 r87 r88 r89 r90 r91 r92 r93 r94 r95 : Int → Int) (n : Int) (c : Int → Int) (s : Int × Int) : Option ezq_V → (Nat → ezq_C) → Prop := fun v g' => ezm_h e F A i0 i2 i3 i7 i8 i13 i18 i19 i20 i25 i29 i30 i31 i36 i37 i38 r73 r74 r75 r76 r77 r78 r79 r80 r81 r82 r83 r84 r85 r86 r87 r88 r89 r90 r91 r92 r93 r94 r95 = g' ∧ ∃ u : Int, (0 ≤ u ∧ u ≤ 1) ∧ (u = 1 → i8 = 0 ∧ i7 < n) ∧ (u = ezm_w i8 i7 r74 r76 r77 (19)) ∧ (u = 1 → s.1 = 0 ∧ ezp_K c s.2 = 19) ∧ (u = 0 → s.1 ≠ 0 ∨ ezp_K c s.2 ≠ 19) ∧ some (ezw_i u) = v
set_option maxHeartbeats 8000000 in
theorem ezm_m223_v19p {c : Int → Int} {s : Int × Int} {n : Int} (hT : ezm_T i0 i2 i3 i7 i8 i13 i18 i19 i20 i25 i29 i30 i31 i36 i37 i38 r73 r74 r75 r76 r77 r78 r79 r80 r81 r82 r83 r84 r85 r86 r87 r88 r89 r90 r91 r92 r93 r94 r95) (hd : 0 ≤ d) (hn : 0 ≤ i7 ∧ i7 ≤ n) (hs : r74 n = 0) (h1 : n ≤ 1000) (tk : ezm_TK c n r74 r75 r76) (hM : ∀ w, 0 ≤ w → w < 48 → r77 w = ezl_mw.getD w.toNat 0) (st : ezm_ST s i8 i7) : ezw_C l ρ B xa Hb D cA 223 d [ezw_p 72, ezw_i (19)] (ezm_h e F A i0 i2 i3 i7 i8 i13 i18 i19 i20 i25 i29 i30 i31 i36 i37 i38 r73 r74 r75 r76 r77 r78 r79 r80 r81 r82 r83 r84 r85 r86 r87 r88 r89 r90 r91 r92 r93 r94 r95) (ezm_m223_v19pQ  e F A i0 i2 i3 i7 i8 i13 i18 i19 i20 i25 i29 i30 i31 i36 i37 i38 r73 r74 r75 r76 r77 r78 r79 r80 r81 r82 r83 r84 r85 r86 r87 r88 r89 r90 r91 r92 r93 r94 r95 n c s) := by
  refine ezw_met (k := 0) rfl rfl ?_
  obtain ⟨se, sa, sp, hP, sw, sk⟩ := ezm_TKi tk st hn
  refine ezw_aload_n rfl rfl ?_
  refine ezm_g8 rfl ?_
  have k1 := hT.t8
  refine ezw_if_ne rfl rfl ⟨by omega, by omega⟩ (fun h4_1 => ?_) (fun h4_1 => ?_)
  · refine ezw_iconst (0) rfl rfl ?_
    exact ezw_ireturn rfl (ezw_zret ⟨by omega, by omega⟩) ⟨rfl, (0), ⟨by omega, by omega⟩, by omega, by unfold ezm_w; first | exact (if_pos ⟨by omega, by omega, by omega⟩).symm | exact (if_neg (fun h => by omega)).symm, by omega, fun _ => by
          by_cases z0 : s.1 = 0
          · by_cases z1 : r74 i7 = 1
            · have hx := ezm_ixw (a := 19) hM (sw z0 z1) ⟨by decide, by decide⟩
              by_cases z2 : r76 i7 = r77 (19)
              · exfalso
                omega
              · have z3 : ezp_ix (ezp_W c s.2) ≠ 19 := fun y => z2 (hx.mpr y)
                omega
            · omega
          · exact Or.inl z0, rfl⟩
  · refine ezw_aload_n rfl rfl ?_
    refine ezm_gp (p := 74) rfl (fun _ => rfl) ?_
    refine ezw_aload_n rfl rfl ?_
    refine ezm_g7 rfl ?_
    have k2 := hT.t7
    refine ezm_l74 rfl (by omega) (by omega) (fun u3 eu3 => ?_)
    have ku3 : ezw_in u3 := eu3 ▸ hT.t74 i7
    refine ezw_iconst (1) rfl rfl ?_
    refine ezw_icmp_ne rfl rfl ku3 ⟨by decide, by decide⟩ (fun h17_3 => ?_) (fun h17_3 => ?_)
    · refine ezw_iconst (0) rfl rfl ?_
      exact ezw_ireturn rfl (ezw_zret ⟨by omega, by omega⟩) ⟨rfl, (0), ⟨by omega, by omega⟩, by omega, by unfold ezm_w; first | exact (if_pos ⟨by omega, by omega, by omega⟩).symm | exact (if_neg (fun h => by omega)).symm, by omega, fun _ => by
            by_cases z0 : s.1 = 0
            · by_cases z1 : r74 i7 = 1
              · have hx := ezm_ixw (a := 19) hM (sw z0 z1) ⟨by decide, by decide⟩
                by_cases z2 : r76 i7 = r77 (19)
                · exfalso
                  omega
                · have z3 : ezp_ix (ezp_W c s.2) ≠ 19 := fun y => z2 (hx.mpr y)
                  omega
              · omega
            · exact Or.inl z0, rfl⟩
    · refine ezw_aload_n rfl rfl ?_
      refine ezm_gp (p := 76) rfl (fun _ => rfl) ?_
      refine ezw_aload_n rfl rfl ?_
      refine ezm_g7 rfl ?_
      refine ezm_l76 rfl (by omega) (by omega) (fun u4 eu4 => ?_)
      have ku4 : ezw_il u4 := eu4 ▸ hT.t76 i7
      refine ezw_aload_n rfl rfl ?_
      refine ezm_gp (p := 77) rfl (fun _ => rfl) ?_
      refine ezw_iload_n rfl rfl ?_
      refine ezm_l77 rfl (by omega) (by omega) (fun u5 eu5 => ?_)
      have ku5 : ezw_il u5 := eu5 ▸ hT.t77 (19)
      refine ezw_lcmpE rfl ku4 ku5 (fun u6 hu6 => ?_)
      refine ezw_if_ne rfl rfl ⟨by omega, by omega⟩ (fun h36_6 => ?_) (fun h36_6 => ?_)
      · refine ezw_iconst (0) rfl rfl ?_
        exact ezw_ireturn rfl (ezw_zret ⟨by omega, by omega⟩) ⟨rfl, (0), ⟨by omega, by omega⟩, by omega, by unfold ezm_w; first | exact (if_pos ⟨by omega, by omega, by omega⟩).symm | exact (if_neg (fun h => by omega)).symm, by omega, fun _ => by
              by_cases z0 : s.1 = 0
              · by_cases z1 : r74 i7 = 1
                · have hx := ezm_ixw (a := 19) hM (sw z0 z1) ⟨by decide, by decide⟩
                  by_cases z2 : r76 i7 = r77 (19)
                  · exfalso
                    omega
                  · have z3 : ezp_ix (ezp_W c s.2) ≠ 19 := fun y => z2 (hx.mpr y)
                    omega
                · omega
              · exact Or.inl z0, rfl⟩
      · refine ezw_iconst (1) rfl rfl ?_
        refine ezw_goto rfl rfl ?_
        exact ezw_ireturn rfl (ezw_zret ⟨by omega, by omega⟩) ⟨rfl, (1), ⟨by omega, by omega⟩, fun _ => ⟨by omega, ezm_lt (by omega) hs (by omega)⟩, by unfold ezm_w; first | exact (if_pos ⟨by omega, by omega, by omega⟩).symm | exact (if_neg (fun h => by omega)).symm, fun _ => by
              have hx := (ezm_ixw (a := 19) hM (sw (by omega) (by omega)) ⟨by decide, by decide⟩).mp (by omega)
              omega, by omega, rfl⟩
def ezm_m223_v21pQ (e : Bool × Bool) (F : Nat → Nat → Int) (A : Nat → Int → Int) (i0 i2 i3 i7 i8 i13 i18 i19 i20 i25 i29 i30 i31 i36 i37 i38 : Int) (r73 r74 r75 r76 r77 r78 r79 r80 r81 r82 r83 r84 r85 r86 r87 r88 r89 r90 r91 r92 r93 r94 r95 : Int → Int) (n : Int) (c : Int → Int) (s : Int × Int) : Option ezq_V → (Nat → ezq_C) → Prop := fun v g' => ezm_h e F A i0 i2 i3 i7 i8 i13 i18 i19 i20 i25 i29 i30 i31 i36 i37 i38 r73 r74 r75 r76 r77 r78 r79 r80 r81 r82 r83 r84 r85 r86 r87 r88 r89 r90 r91 r92 r93 r94 r95 = g' ∧ ∃ u : Int, (0 ≤ u ∧ u ≤ 1) ∧ (u = 1 → i8 = 0 ∧ i7 < n) ∧ (u = ezm_w i8 i7 r74 r76 r77 (21)) ∧ (u = 1 → s.1 = 0 ∧ ezp_K c s.2 = 21) ∧ (u = 0 → s.1 ≠ 0 ∨ ezp_K c s.2 ≠ 21) ∧ some (ezw_i u) = v
set_option maxHeartbeats 8000000 in
theorem ezm_m223_v21p {c : Int → Int} {s : Int × Int} {n : Int} (hT : ezm_T i0 i2 i3 i7 i8 i13 i18 i19 i20 i25 i29 i30 i31 i36 i37 i38 r73 r74 r75 r76 r77 r78 r79 r80 r81 r82 r83 r84 r85 r86 r87 r88 r89 r90 r91 r92 r93 r94 r95) (hd : 0 ≤ d) (hn : 0 ≤ i7 ∧ i7 ≤ n) (hs : r74 n = 0) (h1 : n ≤ 1000) (tk : ezm_TK c n r74 r75 r76) (hM : ∀ w, 0 ≤ w → w < 48 → r77 w = ezl_mw.getD w.toNat 0) (st : ezm_ST s i8 i7) : ezw_C l ρ B xa Hb D cA 223 d [ezw_p 72, ezw_i (21)] (ezm_h e F A i0 i2 i3 i7 i8 i13 i18 i19 i20 i25 i29 i30 i31 i36 i37 i38 r73 r74 r75 r76 r77 r78 r79 r80 r81 r82 r83 r84 r85 r86 r87 r88 r89 r90 r91 r92 r93 r94 r95) (ezm_m223_v21pQ  e F A i0 i2 i3 i7 i8 i13 i18 i19 i20 i25 i29 i30 i31 i36 i37 i38 r73 r74 r75 r76 r77 r78 r79 r80 r81 r82 r83 r84 r85 r86 r87 r88 r89 r90 r91 r92 r93 r94 r95 n c s) := by
  refine ezw_met (k := 0) rfl rfl ?_
  obtain ⟨se, sa, sp, hP, sw, sk⟩ := ezm_TKi tk st hn
  refine ezw_aload_n rfl rfl ?_
  refine ezm_g8 rfl ?_
  have k1 := hT.t8
  refine ezw_if_ne rfl rfl ⟨by omega, by omega⟩ (fun h4_1 => ?_) (fun h4_1 => ?_)
  · refine ezw_iconst (0) rfl rfl ?_
    exact ezw_ireturn rfl (ezw_zret ⟨by omega, by omega⟩) ⟨rfl, (0), ⟨by omega, by omega⟩, by omega, by unfold ezm_w; first | exact (if_pos ⟨by omega, by omega, by omega⟩).symm | exact (if_neg (fun h => by omega)).symm, by omega, fun _ => by
          by_cases z0 : s.1 = 0
          · by_cases z1 : r74 i7 = 1
            · have hx := ezm_ixw (a := 21) hM (sw z0 z1) ⟨by decide, by decide⟩
              by_cases z2 : r76 i7 = r77 (21)
              · exfalso
                omega
              · have z3 : ezp_ix (ezp_W c s.2) ≠ 21 := fun y => z2 (hx.mpr y)
                omega
            · omega
          · exact Or.inl z0, rfl⟩
  · refine ezw_aload_n rfl rfl ?_
    refine ezm_gp (p := 74) rfl (fun _ => rfl) ?_
    refine ezw_aload_n rfl rfl ?_
    refine ezm_g7 rfl ?_
    have k2 := hT.t7
    refine ezm_l74 rfl (by omega) (by omega) (fun u3 eu3 => ?_)
    have ku3 : ezw_in u3 := eu3 ▸ hT.t74 i7
    refine ezw_iconst (1) rfl rfl ?_
    refine ezw_icmp_ne rfl rfl ku3 ⟨by decide, by decide⟩ (fun h17_3 => ?_) (fun h17_3 => ?_)
    · refine ezw_iconst (0) rfl rfl ?_
      exact ezw_ireturn rfl (ezw_zret ⟨by omega, by omega⟩) ⟨rfl, (0), ⟨by omega, by omega⟩, by omega, by unfold ezm_w; first | exact (if_pos ⟨by omega, by omega, by omega⟩).symm | exact (if_neg (fun h => by omega)).symm, by omega, fun _ => by
            by_cases z0 : s.1 = 0
            · by_cases z1 : r74 i7 = 1
              · have hx := ezm_ixw (a := 21) hM (sw z0 z1) ⟨by decide, by decide⟩
                by_cases z2 : r76 i7 = r77 (21)
                · exfalso
                  omega
                · have z3 : ezp_ix (ezp_W c s.2) ≠ 21 := fun y => z2 (hx.mpr y)
                  omega
              · omega
            · exact Or.inl z0, rfl⟩
    · refine ezw_aload_n rfl rfl ?_
      refine ezm_gp (p := 76) rfl (fun _ => rfl) ?_
      refine ezw_aload_n rfl rfl ?_
      refine ezm_g7 rfl ?_
      refine ezm_l76 rfl (by omega) (by omega) (fun u4 eu4 => ?_)
      have ku4 : ezw_il u4 := eu4 ▸ hT.t76 i7
      refine ezw_aload_n rfl rfl ?_
      refine ezm_gp (p := 77) rfl (fun _ => rfl) ?_
      refine ezw_iload_n rfl rfl ?_
      refine ezm_l77 rfl (by omega) (by omega) (fun u5 eu5 => ?_)
      have ku5 : ezw_il u5 := eu5 ▸ hT.t77 (21)
      refine ezw_lcmpE rfl ku4 ku5 (fun u6 hu6 => ?_)
      refine ezw_if_ne rfl rfl ⟨by omega, by omega⟩ (fun h36_6 => ?_) (fun h36_6 => ?_)
      · refine ezw_iconst (0) rfl rfl ?_
        exact ezw_ireturn rfl (ezw_zret ⟨by omega, by omega⟩) ⟨rfl, (0), ⟨by omega, by omega⟩, by omega, by unfold ezm_w; first | exact (if_pos ⟨by omega, by omega, by omega⟩).symm | exact (if_neg (fun h => by omega)).symm, by omega, fun _ => by
              by_cases z0 : s.1 = 0
              · by_cases z1 : r74 i7 = 1
                · have hx := ezm_ixw (a := 21) hM (sw z0 z1) ⟨by decide, by decide⟩
                  by_cases z2 : r76 i7 = r77 (21)
                  · exfalso
                    omega
                  · have z3 : ezp_ix (ezp_W c s.2) ≠ 21 := fun y => z2 (hx.mpr y)
                    omega
                · omega
              · exact Or.inl z0, rfl⟩
      · refine ezw_iconst (1) rfl rfl ?_
        refine ezw_goto rfl rfl ?_
        exact ezw_ireturn rfl (ezw_zret ⟨by omega, by omega⟩) ⟨rfl, (1), ⟨by omega, by omega⟩, fun _ => ⟨by omega, ezm_lt (by omega) hs (by omega)⟩, by unfold ezm_w; first | exact (if_pos ⟨by omega, by omega, by omega⟩).symm | exact (if_neg (fun h => by omega)).symm, fun _ => by
              have hx := (ezm_ixw (a := 21) hM (sw (by omega) (by omega)) ⟨by decide, by decide⟩).mp (by omega)
              omega, by omega, rfl⟩
def ezm_m223_v22pQ (e : Bool × Bool) (F : Nat → Nat → Int) (A : Nat → Int → Int) (i0 i2 i3 i7 i8 i13 i18 i19 i20 i25 i29 i30 i31 i36 i37 i38 : Int) (r73 r74 r75 r76 r77 r78 r79 r80 r81 r82 r83 r84 r85 r86 r87 r88 r89 r90 r91 r92 r93 r94 r95 : Int → Int) (n : Int) (c : Int → Int) (s : Int × Int) : Option ezq_V → (Nat → ezq_C) → Prop := fun v g' => ezm_h e F A i0 i2 i3 i7 i8 i13 i18 i19 i20 i25 i29 i30 i31 i36 i37 i38 r73 r74 r75 r76 r77 r78 r79 r80 r81 r82 r83 r84 r85 r86 r87 r88 r89 r90 r91 r92 r93 r94 r95 = g' ∧ ∃ u : Int, (0 ≤ u ∧ u ≤ 1) ∧ (u = 1 → i8 = 0 ∧ i7 < n) ∧ (u = ezm_w i8 i7 r74 r76 r77 (22)) ∧ (u = 1 → s.1 = 0 ∧ ezp_K c s.2 = 22) ∧ (u = 0 → s.1 ≠ 0 ∨ ezp_K c s.2 ≠ 22) ∧ some (ezw_i u) = v
set_option maxHeartbeats 8000000 in
theorem ezm_m223_v22p {c : Int → Int} {s : Int × Int} {n : Int} (hT : ezm_T i0 i2 i3 i7 i8 i13 i18 i19 i20 i25 i29 i30 i31 i36 i37 i38 r73 r74 r75 r76 r77 r78 r79 r80 r81 r82 r83 r84 r85 r86 r87 r88 r89 r90 r91 r92 r93 r94 r95) (hd : 0 ≤ d) (hn : 0 ≤ i7 ∧ i7 ≤ n) (hs : r74 n = 0) (h1 : n ≤ 1000) (tk : ezm_TK c n r74 r75 r76) (hM : ∀ w, 0 ≤ w → w < 48 → r77 w = ezl_mw.getD w.toNat 0) (st : ezm_ST s i8 i7) : ezw_C l ρ B xa Hb D cA 223 d [ezw_p 72, ezw_i (22)] (ezm_h e F A i0 i2 i3 i7 i8 i13 i18 i19 i20 i25 i29 i30 i31 i36 i37 i38 r73 r74 r75 r76 r77 r78 r79 r80 r81 r82 r83 r84 r85 r86 r87 r88 r89 r90 r91 r92 r93 r94 r95) (ezm_m223_v22pQ  e F A i0 i2 i3 i7 i8 i13 i18 i19 i20 i25 i29 i30 i31 i36 i37 i38 r73 r74 r75 r76 r77 r78 r79 r80 r81 r82 r83 r84 r85 r86 r87 r88 r89 r90 r91 r92 r93 r94 r95 n c s) := by
  refine ezw_met (k := 0) rfl rfl ?_
  obtain ⟨se, sa, sp, hP, sw, sk⟩ := ezm_TKi tk st hn
  refine ezw_aload_n rfl rfl ?_
  refine ezm_g8 rfl ?_
  have k1 := hT.t8
  refine ezw_if_ne rfl rfl ⟨by omega, by omega⟩ (fun h4_1 => ?_) (fun h4_1 => ?_)
  · refine ezw_iconst (0) rfl rfl ?_
    exact ezw_ireturn rfl (ezw_zret ⟨by omega, by omega⟩) ⟨rfl, (0), ⟨by omega, by omega⟩, by omega, by unfold ezm_w; first | exact (if_pos ⟨by omega, by omega, by omega⟩).symm | exact (if_neg (fun h => by omega)).symm, by omega, fun _ => by
          by_cases z0 : s.1 = 0
          · by_cases z1 : r74 i7 = 1
            · have hx := ezm_ixw (a := 22) hM (sw z0 z1) ⟨by decide, by decide⟩
              by_cases z2 : r76 i7 = r77 (22)
              · exfalso
                omega
              · have z3 : ezp_ix (ezp_W c s.2) ≠ 22 := fun y => z2 (hx.mpr y)
                omega
            · omega
          · exact Or.inl z0, rfl⟩
  · refine ezw_aload_n rfl rfl ?_
    refine ezm_gp (p := 74) rfl (fun _ => rfl) ?_
    refine ezw_aload_n rfl rfl ?_
    refine ezm_g7 rfl ?_
    have k2 := hT.t7
    refine ezm_l74 rfl (by omega) (by omega) (fun u3 eu3 => ?_)
    have ku3 : ezw_in u3 := eu3 ▸ hT.t74 i7
    refine ezw_iconst (1) rfl rfl ?_
    refine ezw_icmp_ne rfl rfl ku3 ⟨by decide, by decide⟩ (fun h17_3 => ?_) (fun h17_3 => ?_)
    · refine ezw_iconst (0) rfl rfl ?_
      exact ezw_ireturn rfl (ezw_zret ⟨by omega, by omega⟩) ⟨rfl, (0), ⟨by omega, by omega⟩, by omega, by unfold ezm_w; first | exact (if_pos ⟨by omega, by omega, by omega⟩).symm | exact (if_neg (fun h => by omega)).symm, by omega, fun _ => by
            by_cases z0 : s.1 = 0
            · by_cases z1 : r74 i7 = 1
              · have hx := ezm_ixw (a := 22) hM (sw z0 z1) ⟨by decide, by decide⟩
                by_cases z2 : r76 i7 = r77 (22)
                · exfalso
                  omega
                · have z3 : ezp_ix (ezp_W c s.2) ≠ 22 := fun y => z2 (hx.mpr y)
                  omega
              · omega
            · exact Or.inl z0, rfl⟩
    · refine ezw_aload_n rfl rfl ?_
      refine ezm_gp (p := 76) rfl (fun _ => rfl) ?_
      refine ezw_aload_n rfl rfl ?_
      refine ezm_g7 rfl ?_
      refine ezm_l76 rfl (by omega) (by omega) (fun u4 eu4 => ?_)
      have ku4 : ezw_il u4 := eu4 ▸ hT.t76 i7
      refine ezw_aload_n rfl rfl ?_
      refine ezm_gp (p := 77) rfl (fun _ => rfl) ?_
      refine ezw_iload_n rfl rfl ?_
      refine ezm_l77 rfl (by omega) (by omega) (fun u5 eu5 => ?_)
      have ku5 : ezw_il u5 := eu5 ▸ hT.t77 (22)
      refine ezw_lcmpE rfl ku4 ku5 (fun u6 hu6 => ?_)
      refine ezw_if_ne rfl rfl ⟨by omega, by omega⟩ (fun h36_6 => ?_) (fun h36_6 => ?_)
      · refine ezw_iconst (0) rfl rfl ?_
        exact ezw_ireturn rfl (ezw_zret ⟨by omega, by omega⟩) ⟨rfl, (0), ⟨by omega, by omega⟩, by omega, by unfold ezm_w; first | exact (if_pos ⟨by omega, by omega, by omega⟩).symm | exact (if_neg (fun h => by omega)).symm, by omega, fun _ => by
              by_cases z0 : s.1 = 0
              · by_cases z1 : r74 i7 = 1
                · have hx := ezm_ixw (a := 22) hM (sw z0 z1) ⟨by decide, by decide⟩
                  by_cases z2 : r76 i7 = r77 (22)
                  · exfalso
                    omega
                  · have z3 : ezp_ix (ezp_W c s.2) ≠ 22 := fun y => z2 (hx.mpr y)
                    omega
                · omega
              · exact Or.inl z0, rfl⟩
      · refine ezw_iconst (1) rfl rfl ?_
        refine ezw_goto rfl rfl ?_
        exact ezw_ireturn rfl (ezw_zret ⟨by omega, by omega⟩) ⟨rfl, (1), ⟨by omega, by omega⟩, fun _ => ⟨by omega, ezm_lt (by omega) hs (by omega)⟩, by unfold ezm_w; first | exact (if_pos ⟨by omega, by omega, by omega⟩).symm | exact (if_neg (fun h => by omega)).symm, fun _ => by
              have hx := (ezm_ixw (a := 22) hM (sw (by omega) (by omega)) ⟨by decide, by decide⟩).mp (by omega)
              omega, by omega, rfl⟩
def ezm_m242pQ (e : Bool × Bool) (F : Nat → Nat → Int) (A : Nat → Int → Int) (i0 i2 i3 i7 i8 i13 i18 i19 i20 i25 i29 i30 i31 i36 i37 i38 : Int) (r73 r74 r75 r76 r77 r78 r79 r80 r81 r82 r83 r84 r85 r86 r87 r88 r89 r90 r91 r92 r93 r94 r95 : Int → Int) (n : Int) (c : Int → Int) (s : Int × Int) : Option ezq_V → (Nat → ezq_C) → Prop := fun v g' => ezm_h e F A i0 i2 i3 i7 i8 i13 i18 i19 i20 i25 i29 i30 i31 i36 i37 i38 r73 r74 r75 r76 r77 r78 r79 r80 r81 r82 r83 r84 r85 r86 r87 r88 r89 r90 r91 r92 r93 r94 r95 = g' ∧ ∃ u : Int, (ezw_in u) ∧ (-1 ≤ u ∧ u ≤ 9) ∧ (0 ≤ u → i8 = 0 ∧ i7 < n) ∧ ((u = 0 ∧ ezp_K c s.2 = 5 ∨ u = 1 ∧ ezp_K c s.2 = 6 ∨ u = 2 ∧ ezp_K c s.2 = 13 ∨ u = 3 ∧ ezp_K c s.2 = 14 ∨ u = 4 ∧ ezp_K c s.2 = 15 ∨ u = 5 ∧ ezp_K c s.2 = 16 ∨ u = 6 ∧ ezp_K c s.2 = 18 ∨ u = 7 ∧ ezp_K c s.2 = 19 ∨ u = 8 ∧ ezp_K c s.2 = 21 ∨ u = 9 ∧ ezp_K c s.2 = 22 ∨ u = -1 ∧ ezp_K c s.2 ≠ 5 ∧ ezp_K c s.2 ≠ 6 ∧ ezp_K c s.2 ≠ 13 ∧ ezp_K c s.2 ≠ 14 ∧ ezp_K c s.2 ≠ 15 ∧ ezp_K c s.2 ≠ 16 ∧ ezp_K c s.2 ≠ 18 ∧ ezp_K c s.2 ≠ 19 ∧ ezp_K c s.2 ≠ 21 ∧ ezp_K c s.2 ≠ 22)) ∧ some (ezw_i u) = v
set_option maxHeartbeats 8000000 in
theorem ezm_m242p {c : Int → Int} {s : Int × Int} {n : Int} (hT : ezm_T i0 i2 i3 i7 i8 i13 i18 i19 i20 i25 i29 i30 i31 i36 i37 i38 r73 r74 r75 r76 r77 r78 r79 r80 r81 r82 r83 r84 r85 r86 r87 r88 r89 r90 r91 r92 r93 r94 r95) (hd : 1 ≤ d) (hn : 0 ≤ i7 ∧ i7 ≤ n) (hs : r74 n = 0) (h1 : n ≤ 1000) (tk : ezm_TK c n r74 r75 r76) (hM : ∀ w, 0 ≤ w → w < 48 → r77 w = ezl_mw.getD w.toNat 0) (st : ezm_ST s i8 i7) (h0 : i8 = 0) : ezw_C l ρ B xa Hb D cA 242 d [ezw_p 72] (ezm_h e F A i0 i2 i3 i7 i8 i13 i18 i19 i20 i25 i29 i30 i31 i36 i37 i38 r73 r74 r75 r76 r77 r78 r79 r80 r81 r82 r83 r84 r85 r86 r87 r88 r89 r90 r91 r92 r93 r94 r95) (ezm_m242pQ  e F A i0 i2 i3 i7 i8 i13 i18 i19 i20 i25 i29 i30 i31 i36 i37 i38 r73 r74 r75 r76 r77 r78 r79 r80 r81 r82 r83 r84 r85 r86 r87 r88 r89 r90 r91 r92 r93 r94 r95 n c s) := by
  refine ezw_met (k := 1) rfl rfl ?_
  have z0 : s.1 = 0 := st.1.symm.trans h0
  refine ezw_aload_n rfl rfl ?_
  refine ezw_iconst (5) rfl rfl ?_
  refine ezw_call0_1 rfl (by omega) (ezm_at rfl) rfl rfl rfl rfl (ezm_m223_v5p hT (by omega) (by omega) hs (by omega) tk hM st) ?_
  rintro _ _ ⟨rfl, u2, hu2, f_1, w_1, q1_1, q0_1, rfl⟩
  refine ezw_if_eq rfl rfl ⟨by omega, by omega⟩ (fun h5_2 => ?_) (fun h5_2 => ?_)
  · have hn5 : ezp_K c s.2 ≠ 5 := (q0_1 (by omega)).resolve_left (fun y => y z0)
    clear q1_1 q0_1 w_1 f_1
    refine ezw_aload_n rfl rfl ?_
    refine ezw_bipush (6) rfl rfl ?_
    refine ezw_call0_1 rfl (by omega) (ezm_at rfl) rfl rfl rfl rfl (ezm_m223_v6p hT (by omega) (by omega) hs (by omega) tk hM st) ?_
    rintro _ _ ⟨rfl, u4, hu4, f_3, w_3, q1_3, q0_3, rfl⟩
    refine ezw_if_eq rfl rfl ⟨by omega, by omega⟩ (fun h18_4 => ?_) (fun h18_4 => ?_)
    · have hn6 : ezp_K c s.2 ≠ 6 := (q0_3 (by omega)).resolve_left (fun y => y z0)
      clear q1_3 q0_3 w_3 f_3
      refine ezw_aload_n rfl rfl ?_
      refine ezw_bipush (13) rfl rfl ?_
      refine ezw_call0_1 rfl (by omega) (ezm_at rfl) rfl rfl rfl rfl (ezm_m223_v13p hT (by omega) (by omega) hs (by omega) tk hM st) ?_
      rintro _ _ ⟨rfl, u6, hu6, f_5, w_5, q1_5, q0_5, rfl⟩
      refine ezw_if_eq rfl rfl ⟨by omega, by omega⟩ (fun h31_6 => ?_) (fun h31_6 => ?_)
      · have hn13 : ezp_K c s.2 ≠ 13 := (q0_5 (by omega)).resolve_left (fun y => y z0)
        clear q1_5 q0_5 w_5 f_5
        refine ezw_aload_n rfl rfl ?_
        refine ezw_bipush (14) rfl rfl ?_
        refine ezw_call0_1 rfl (by omega) (ezm_at rfl) rfl rfl rfl rfl (ezm_m223_v14p hT (by omega) (by omega) hs (by omega) tk hM st) ?_
        rintro _ _ ⟨rfl, u8, hu8, f_7, w_7, q1_7, q0_7, rfl⟩
        refine ezw_if_eq rfl rfl ⟨by omega, by omega⟩ (fun h44_8 => ?_) (fun h44_8 => ?_)
        · have hn14 : ezp_K c s.2 ≠ 14 := (q0_7 (by omega)).resolve_left (fun y => y z0)
          clear q1_7 q0_7 w_7 f_7
          refine ezw_aload_n rfl rfl ?_
          refine ezw_bipush (15) rfl rfl ?_
          refine ezw_call0_1 rfl (by omega) (ezm_at rfl) rfl rfl rfl rfl (ezm_m223_v15p hT (by omega) (by omega) hs (by omega) tk hM st) ?_
          rintro _ _ ⟨rfl, u10, hu10, f_9, w_9, q1_9, q0_9, rfl⟩
          refine ezw_if_eq rfl rfl ⟨by omega, by omega⟩ (fun h57_10 => ?_) (fun h57_10 => ?_)
          · have hn15 : ezp_K c s.2 ≠ 15 := (q0_9 (by omega)).resolve_left (fun y => y z0)
            clear q1_9 q0_9 w_9 f_9
            refine ezw_aload_n rfl rfl ?_
            refine ezw_bipush (16) rfl rfl ?_
            refine ezw_call0_1 rfl (by omega) (ezm_at rfl) rfl rfl rfl rfl (ezm_m223_v16p hT (by omega) (by omega) hs (by omega) tk hM st) ?_
            rintro _ _ ⟨rfl, u12, hu12, f_11, w_11, q1_11, q0_11, rfl⟩
            refine ezw_if_eq rfl rfl ⟨by omega, by omega⟩ (fun h70_12 => ?_) (fun h70_12 => ?_)
            · have hn16 : ezp_K c s.2 ≠ 16 := (q0_11 (by omega)).resolve_left (fun y => y z0)
              clear q1_11 q0_11 w_11 f_11
              refine ezw_iconst (-1) rfl rfl ?_
              refine ezw_istore_n rfl rfl ?_
              refine ezw_iload_n rfl rfl ?_
              refine ezw_if_lt rfl rfl ⟨by decide, by decide⟩ (fun h80_12 => ?_) (fun h80_12 => absurd h80_12 (by omega))
              refine ezw_aload_n rfl rfl ?_
              refine ezw_bipush (18) rfl rfl ?_
              refine ezw_call0_1 rfl (by omega) (ezm_at rfl) rfl rfl rfl rfl (ezm_m223_v18p hT (by omega) (by omega) hs (by omega) tk hM st) ?_
              rintro _ _ ⟨rfl, u14, hu14, f_13, w_13, q1_13, q0_13, rfl⟩
              refine ezw_if_eq rfl rfl ⟨by omega, by omega⟩ (fun h93_14 => ?_) (fun h93_14 => ?_)
              · have hn18 : ezp_K c s.2 ≠ 18 := (q0_13 (by omega)).resolve_left (fun y => y z0)
                clear q1_13 q0_13 w_13 f_13
                refine ezw_aload_n rfl rfl ?_
                refine ezw_bipush (19) rfl rfl ?_
                refine ezw_call0_1 rfl (by omega) (ezm_at rfl) rfl rfl rfl rfl (ezm_m223_v19p hT (by omega) (by omega) hs (by omega) tk hM st) ?_
                rintro _ _ ⟨rfl, u16, hu16, f_15, w_15, q1_15, q0_15, rfl⟩
                refine ezw_if_eq rfl rfl ⟨by omega, by omega⟩ (fun h107_16 => ?_) (fun h107_16 => ?_)
                · have hn19 : ezp_K c s.2 ≠ 19 := (q0_15 (by omega)).resolve_left (fun y => y z0)
                  clear q1_15 q0_15 w_15 f_15
                  refine ezw_aload_n rfl rfl ?_
                  refine ezw_bipush (21) rfl rfl ?_
                  refine ezw_call0_1 rfl (by omega) (ezm_at rfl) rfl rfl rfl rfl (ezm_m223_v21p hT (by omega) (by omega) hs (by omega) tk hM st) ?_
                  rintro _ _ ⟨rfl, u18, hu18, f_17, w_17, q1_17, q0_17, rfl⟩
                  refine ezw_if_eq rfl rfl ⟨by omega, by omega⟩ (fun h121_18 => ?_) (fun h121_18 => ?_)
                  · have hn21 : ezp_K c s.2 ≠ 21 := (q0_17 (by omega)).resolve_left (fun y => y z0)
                    clear q1_17 q0_17 w_17 f_17
                    refine ezw_aload_n rfl rfl ?_
                    refine ezw_bipush (22) rfl rfl ?_
                    refine ezw_call0_1 rfl (by omega) (ezm_at rfl) rfl rfl rfl rfl (ezm_m223_v22p hT (by omega) (by omega) hs (by omega) tk hM st) ?_
                    rintro _ _ ⟨rfl, u20, hu20, f_19, w_19, q1_19, q0_19, rfl⟩
                    refine ezw_if_eq rfl rfl ⟨by omega, by omega⟩ (fun h135_20 => ?_) (fun h135_20 => ?_)
                    · have hn22 : ezp_K c s.2 ≠ 22 := (q0_19 (by omega)).resolve_left (fun y => y z0)
                      clear q1_19 q0_19 w_19 f_19
                      refine ezw_iconst (-1) rfl rfl ?_
                      exact ezw_ireturn rfl rfl ⟨rfl, (-1), ⟨by decide, by decide⟩, by omega, by omega, (Or.inr (Or.inr (Or.inr (Or.inr (Or.inr (Or.inr (Or.inr (Or.inr (Or.inr (Or.inr ⟨rfl, hn5, hn6, hn13, hn14, hn15, hn16, hn18, hn19, hn21, hn22⟩)))))))))), rfl⟩
                    · have hk := (q1_19 (by omega)).2
                      clear q1_19 q0_19 w_19
                      refine ezw_bipush (9) rfl rfl ?_
                      refine ezw_goto rfl rfl ?_
                      exact ezw_ireturn rfl rfl ⟨rfl, (9), ⟨by decide, by decide⟩, by omega, by omega, (Or.inr (Or.inr (Or.inr (Or.inr (Or.inr (Or.inr (Or.inr (Or.inr (Or.inr (Or.inl ⟨rfl, hk⟩)))))))))), rfl⟩
                  · have hk := (q1_17 (by omega)).2
                    clear q1_17 q0_17 w_17
                    refine ezw_bipush (8) rfl rfl ?_
                    refine ezw_goto rfl rfl ?_
                    exact ezw_ireturn rfl rfl ⟨rfl, (8), ⟨by decide, by decide⟩, by omega, by omega, (Or.inr (Or.inr (Or.inr (Or.inr (Or.inr (Or.inr (Or.inr (Or.inr (Or.inl ⟨rfl, hk⟩))))))))), rfl⟩
                · have hk := (q1_15 (by omega)).2
                  clear q1_15 q0_15 w_15
                  refine ezw_bipush (7) rfl rfl ?_
                  refine ezw_goto rfl rfl ?_
                  exact ezw_ireturn rfl rfl ⟨rfl, (7), ⟨by decide, by decide⟩, by omega, by omega, (Or.inr (Or.inr (Or.inr (Or.inr (Or.inr (Or.inr (Or.inr (Or.inl ⟨rfl, hk⟩)))))))), rfl⟩
              · have hk := (q1_13 (by omega)).2
                clear q1_13 q0_13 w_13
                refine ezw_bipush (6) rfl rfl ?_
                refine ezw_goto rfl rfl ?_
                exact ezw_ireturn rfl rfl ⟨rfl, (6), ⟨by decide, by decide⟩, by omega, by omega, (Or.inr (Or.inr (Or.inr (Or.inr (Or.inr (Or.inr (Or.inl ⟨rfl, hk⟩))))))), rfl⟩
            · have hk := (q1_11 (by omega)).2
              clear q1_11 q0_11 w_11
              refine ezw_iconst (5) rfl rfl ?_
              refine ezw_goto rfl rfl ?_
              refine ezw_istore_n rfl rfl ?_
              refine ezw_iload_n rfl rfl ?_
              refine ezw_if_lt rfl rfl ⟨by decide, by decide⟩ (fun h80_20 => absurd h80_20 (by omega)) (fun h80_20 => ?_)
              refine ezw_iload_n rfl rfl ?_
              refine ezw_goto rfl rfl ?_
              exact ezw_ireturn rfl rfl ⟨rfl, (5), ⟨by decide, by decide⟩, by omega, by omega, (Or.inr (Or.inr (Or.inr (Or.inr (Or.inr (Or.inl ⟨rfl, hk⟩)))))), rfl⟩
          · have hk := (q1_9 (by omega)).2
            clear q1_9 q0_9 w_9
            refine ezw_iconst (4) rfl rfl ?_
            refine ezw_goto rfl rfl ?_
            refine ezw_istore_n rfl rfl ?_
            refine ezw_iload_n rfl rfl ?_
            refine ezw_if_lt rfl rfl ⟨by decide, by decide⟩ (fun h80_20 => absurd h80_20 (by omega)) (fun h80_20 => ?_)
            refine ezw_iload_n rfl rfl ?_
            refine ezw_goto rfl rfl ?_
            exact ezw_ireturn rfl rfl ⟨rfl, (4), ⟨by decide, by decide⟩, by omega, by omega, (Or.inr (Or.inr (Or.inr (Or.inr (Or.inl ⟨rfl, hk⟩))))), rfl⟩
        · have hk := (q1_7 (by omega)).2
          clear q1_7 q0_7 w_7
          refine ezw_iconst (3) rfl rfl ?_
          refine ezw_goto rfl rfl ?_
          refine ezw_istore_n rfl rfl ?_
          refine ezw_iload_n rfl rfl ?_
          refine ezw_if_lt rfl rfl ⟨by decide, by decide⟩ (fun h80_20 => absurd h80_20 (by omega)) (fun h80_20 => ?_)
          refine ezw_iload_n rfl rfl ?_
          refine ezw_goto rfl rfl ?_
          exact ezw_ireturn rfl rfl ⟨rfl, (3), ⟨by decide, by decide⟩, by omega, by omega, (Or.inr (Or.inr (Or.inr (Or.inl ⟨rfl, hk⟩)))), rfl⟩
      · have hk := (q1_5 (by omega)).2
        clear q1_5 q0_5 w_5
        refine ezw_iconst (2) rfl rfl ?_
        refine ezw_goto rfl rfl ?_
        refine ezw_istore_n rfl rfl ?_
        refine ezw_iload_n rfl rfl ?_
        refine ezw_if_lt rfl rfl ⟨by decide, by decide⟩ (fun h80_20 => absurd h80_20 (by omega)) (fun h80_20 => ?_)
        refine ezw_iload_n rfl rfl ?_
        refine ezw_goto rfl rfl ?_
        exact ezw_ireturn rfl rfl ⟨rfl, (2), ⟨by decide, by decide⟩, by omega, by omega, (Or.inr (Or.inr (Or.inl ⟨rfl, hk⟩))), rfl⟩
    · have hk := (q1_3 (by omega)).2
      clear q1_3 q0_3 w_3
      refine ezw_iconst (1) rfl rfl ?_
      refine ezw_goto rfl rfl ?_
      refine ezw_istore_n rfl rfl ?_
      refine ezw_iload_n rfl rfl ?_
      refine ezw_if_lt rfl rfl ⟨by decide, by decide⟩ (fun h80_20 => absurd h80_20 (by omega)) (fun h80_20 => ?_)
      refine ezw_iload_n rfl rfl ?_
      refine ezw_goto rfl rfl ?_
      exact ezw_ireturn rfl rfl ⟨rfl, (1), ⟨by decide, by decide⟩, by omega, by omega, (Or.inr (Or.inl ⟨rfl, hk⟩)), rfl⟩
  · have hk := (q1_1 (by omega)).2
    clear q1_1 q0_1 w_1
    refine ezw_iconst (0) rfl rfl ?_
    refine ezw_goto rfl rfl ?_
    refine ezw_istore_n rfl rfl ?_
    refine ezw_iload_n rfl rfl ?_
    refine ezw_if_lt rfl rfl ⟨by decide, by decide⟩ (fun h80_20 => absurd h80_20 (by omega)) (fun h80_20 => ?_)
    refine ezw_iload_n rfl rfl ?_
    refine ezw_goto rfl rfl ?_
    exact ezw_ireturn rfl rfl ⟨rfl, (0), ⟨by decide, by decide⟩, by omega, by omega, (Or.inl ⟨rfl, hk⟩), rfl⟩
end KM6
