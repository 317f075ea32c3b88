/-! ===== the model: words, numbers, names, by what they tell ===== -/
section KM6
variable {l : Launch} {ρ : ezq_E} {B : Nat} {xa : Nat → Option Nat} {Hb : Heap} {D : va_G} {cA : Nat → ClassId} {d : Nat} {e : Bool × Bool} {F : Nat → Nat → Int} {A : Nat → Int → Int} {i0 i2 i3 i7 i8 i13 i18 i19 i20 i25 i29 i30 i31 i36 i37 i38 : Int} {r73 r74 r75 r76 r77 r78 r79 r80 r81 r82 r83 r84 r85 r86 r87 r88 r89 r90 r91 r92 r93 r94 r95 : Int → Int}
def ezm_m225pQ (e : Bool × Bool) (F : Nat → Nat → Int) (A : Nat → Int → Int) (i0 i2 i3 i7 i8 i13 i18 i19 i20 i25 i29 i30 i31 i36 i37 i38 : Int) (r73 r74 r75 r76 r77 r78 r79 r80 r81 r82 r83 r84 r85 r86 r87 r88 r89 r90 r91 r92 r93 r94 r95 : Int → Int) (n : Int) (c : Int → Int) (s : Int × Int) (a1 : Int) : Option ezq_V → (Nat → ezq_C) → Prop := fun v g' => ∃ (x8 : Int), ezm_h e F A i0 i2 i3 i7 x8 i13 i18 i19 i20 i25 i29 i30 i31 i36 i37 i38 r73 r74 r75 r76 r77 r78 r79 r80 r81 r82 r83 r84 r85 r86 r87 r88 r89 r90 r91 r92 r93 r94 r95 = g' ∧ ezm_T i0 i2 i3 i7 x8 i13 i18 i19 i20 i25 i29 i30 i31 i36 i37 i38 r73 r74 r75 r76 r77 r78 r79 r80 r81 r82 r83 r84 r85 r86 r87 r88 r89 r90 r91 r92 r93 r94 r95 ∧ (i8 = 0 → 0 < x8) ∧ (i8 ≠ 0 → x8 = i8) ∧ (ezm_ST (ezp_wr c a1 s) x8 i7) ∧ none = v
set_option maxHeartbeats 8000000 in
theorem ezm_m225p {c : Int → Int} {s : Int × Int} {n a1 : Int} (hT : ezm_T i0 i2 i3 i7 i8 i13 i18 i19 i20 i25 i29 i30 i31 i36 i37 i38 r73 r74 r75 r76 r77 r78 r79 r80 r81 r82 r83 r84 r85 r86 r87 r88 r89 r90 r91 r92 r93 r94 r95) (hd : 0 ≤ d) (ha1 : ezw_in a1) (ga : 1 ≤ a1 ∧ a1 ≤ 9) (gx : 0 ≤ i7 ∧ i7 ≤ 1001) (hn : 0 ≤ i7 ∧ i7 ≤ n) (hs : r74 n = 0) (h1 : n ≤ 1000) (tk : ezm_TK c n r74 r75 r76) (hM : ∀ w, 0 ≤ w → w < 48 → r77 w = ezl_mw.getD w.toNat 0) (st : ezm_ST s i8 i7) : ezw_C l ρ B xa Hb D cA 225 d [ezw_p 72, ezw_i a1] (ezm_h e F A i0 i2 i3 i7 i8 i13 i18 i19 i20 i25 i29 i30 i31 i36 i37 i38 r73 r74 r75 r76 r77 r78 r79 r80 r81 r82 r83 r84 r85 r86 r87 r88 r89 r90 r91 r92 r93 r94 r95) (ezm_m225pQ  e F A i0 i2 i3 i7 i8 i13 i18 i19 i20 i25 i29 i30 i31 i36 i37 i38 r73 r74 r75 r76 r77 r78 r79 r80 r81 r82 r83 r84 r85 r86 r87 r88 r89 r90 r91 r92 r93 r94 r95 n c s a1) := by
  refine ezw_met (k := 0) rfl rfl ?_
  obtain ⟨se, sa, sp, hP, sw, sk⟩ := ezm_TKi tk st hn
  refine ezw_aload_n rfl rfl ?_
  refine ezm_g8 rfl ?_
  have k1 := hT.t8
  refine ezw_if_ne rfl rfl ⟨by omega, by omega⟩ (fun h4_1 => ?_) (fun h4_1 => ?_)
  · exact ezw_return rfl rfl ⟨i8, rfl, hT, by omega, by omega, ezm_ST_wr st (by omega) hP (fun z => by omega) (fun z => by omega), rfl⟩
  · refine ezw_aload_n rfl rfl ?_
    refine ezw_iload_n rfl rfl ?_
    refine ezw_bipush (16) rfl rfl ?_
    refine ezw_aload_n rfl rfl ?_
    refine ezm_gp (p := 75) rfl (fun _ => rfl) ?_
    refine ezw_aload_n rfl rfl ?_
    refine ezm_g7 rfl ?_
    have k2 := hT.t7
    refine ezm_l75 rfl (by omega) (by omega) (fun u3 eu3 => ?_)
    have ku3 : 0 ≤ u3 ∧ u3 ≤ 1000 := eu3 ▸ hT.t75 i7
    refine ezw_imul (k := 16 * u3) rfl (by omega) ?_
    refine ezw_iadd (k := a1 + 16 * u3) rfl (by omega) ?_
    refine ezm_p8 hT rfl ⟨by omega, by omega⟩ (fun hT => ?_)
    exact ezw_return rfl rfl ⟨(a1 + 16 * u3), rfl, hT, by omega, by omega, ezm_ST_wr st (by omega) hP (fun z => by omega) (fun z => by omega), rfl⟩
def ezm_m223pQ (e : Bool × Bool) (F : Nat → Nat → Int) (A : Nat → Int → Int) (i0 i2 i3 i7 i8 i13 i18 i19 i20 i25 i29 i30 i31 i36 i37 i38 : Int) (r73 r74 r75 r76 r77 r78 r79 r80 r81 r82 r83 r84 r85 r86 r87 r88 r89 r90 r91 r92 r93 r94 r95 : Int → Int) (n : Int) (c : Int → Int) (s : Int × Int) (a1 : Int) : Option ezq_V → (Nat → ezq_C) → Prop := fun v g' => ezm_h e F A i0 i2 i3 i7 i8 i13 i18 i19 i20 i25 i29 i30 i31 i36 i37 i38 r73 r74 r75 r76 r77 r78 r79 r80 r81 r82 r83 r84 r85 r86 r87 r88 r89 r90 r91 r92 r93 r94 r95 = g' ∧ ∃ u : Int, (0 ≤ u ∧ u ≤ 1) ∧ (u = 1 → i8 = 0 ∧ i7 < n) ∧ (u = ezm_w i8 i7 r74 r76 r77 a1) ∧ (u = 1 → s.1 = 0 ∧ r74 i7 = 1 ∧ ezp_ix (ezp_W c s.2) = a1) ∧ (u = 0 → s.1 ≠ 0 ∨ r74 i7 ≠ 1 ∨ ezp_ix (ezp_W c s.2) ≠ a1) ∧ some (ezw_i u) = v
set_option maxHeartbeats 8000000 in
theorem ezm_m223p {c : Int → Int} {s : Int × Int} {n a1 : Int} (hT : ezm_T i0 i2 i3 i7 i8 i13 i18 i19 i20 i25 i29 i30 i31 i36 i37 i38 r73 r74 r75 r76 r77 r78 r79 r80 r81 r82 r83 r84 r85 r86 r87 r88 r89 r90 r91 r92 r93 r94 r95) (hd : 0 ≤ d) (ha1 : ezw_in a1) (ga : 0 ≤ a1 ∧ a1 ≤ 47) (hn : 0 ≤ i7 ∧ i7 ≤ n) (hs : r74 n = 0) (h1 : n ≤ 1000) (tk : ezm_TK c n r74 r75 r76) (hM : ∀ w, 0 ≤ w → w < 48 → r77 w = ezl_mw.getD w.toNat 0) (st : ezm_ST s i8 i7) : ezw_C l ρ B xa Hb D cA 223 d [ezw_p 72, ezw_i a1] (ezm_h e F A i0 i2 i3 i7 i8 i13 i18 i19 i20 i25 i29 i30 i31 i36 i37 i38 r73 r74 r75 r76 r77 r78 r79 r80 r81 r82 r83 r84 r85 r86 r87 r88 r89 r90 r91 r92 r93 r94 r95) (ezm_m223pQ  e F A i0 i2 i3 i7 i8 i13 i18 i19 i20 i25 i29 i30 i31 i36 i37 i38 r73 r74 r75 r76 r77 r78 r79 r80 r81 r82 r83 r84 r85 r86 r87 r88 r89 r90 r91 r92 r93 r94 r95 n c s a1) := by
  refine ezw_met (k := 0) rfl rfl ?_
  obtain ⟨se, sa, sp, hP, sw, sk⟩ := ezm_TKi tk st hn
  refine ezw_aload_n rfl rfl ?_
  refine ezm_g8 rfl ?_
  have k1 := hT.t8
  refine ezw_if_ne rfl rfl ⟨by omega, by omega⟩ (fun h4_1 => ?_) (fun h4_1 => ?_)
  · refine ezw_iconst (0) rfl rfl ?_
    exact ezw_ireturn rfl (ezw_zret ⟨by omega, by omega⟩) ⟨rfl, (0), ⟨by omega, by omega⟩, by omega, by unfold ezm_w; first | exact (if_pos ⟨by omega, by omega, by omega⟩).symm | exact (if_neg (fun h => by omega)).symm, by omega, fun _ => by
          by_cases z0 : s.1 = 0
          · by_cases z1 : r74 i7 = 1
            · have hx := ezm_ixw hM (sw z0 z1) ga
              by_cases z2 : r76 i7 = r77 a1
              · exfalso
                omega
              · exact Or.inr (Or.inr (fun y => z2 (hx.mpr y)))
            · exact Or.inr (Or.inl z1)
          · exact Or.inl z0, rfl⟩
  · refine ezw_aload_n rfl rfl ?_
    refine ezm_gp (p := 74) rfl (fun _ => rfl) ?_
    refine ezw_aload_n rfl rfl ?_
    refine ezm_g7 rfl ?_
    have k2 := hT.t7
    refine ezm_l74 rfl (by omega) (by omega) (fun u3 eu3 => ?_)
    have ku3 : ezw_in u3 := eu3 ▸ hT.t74 i7
    refine ezw_iconst (1) rfl rfl ?_
    refine ezw_icmp_ne rfl rfl ku3 ⟨by decide, by decide⟩ (fun h17_3 => ?_) (fun h17_3 => ?_)
    · refine ezw_iconst (0) rfl rfl ?_
      exact ezw_ireturn rfl (ezw_zret ⟨by omega, by omega⟩) ⟨rfl, (0), ⟨by omega, by omega⟩, by omega, by unfold ezm_w; first | exact (if_pos ⟨by omega, by omega, by omega⟩).symm | exact (if_neg (fun h => by omega)).symm, by omega, fun _ => by
            by_cases z0 : s.1 = 0
            · by_cases z1 : r74 i7 = 1
              · have hx := ezm_ixw hM (sw z0 z1) ga
                by_cases z2 : r76 i7 = r77 a1
                · exfalso
                  omega
                · exact Or.inr (Or.inr (fun y => z2 (hx.mpr y)))
              · exact Or.inr (Or.inl z1)
            · exact Or.inl z0, rfl⟩
    · refine ezw_aload_n rfl rfl ?_
      refine ezm_gp (p := 76) rfl (fun _ => rfl) ?_
      refine ezw_aload_n rfl rfl ?_
      refine ezm_g7 rfl ?_
      refine ezm_l76 rfl (by omega) (by omega) (fun u4 eu4 => ?_)
      have ku4 : ezw_il u4 := eu4 ▸ hT.t76 i7
      refine ezw_aload_n rfl rfl ?_
      refine ezm_gp (p := 77) rfl (fun _ => rfl) ?_
      refine ezw_iload_n rfl rfl ?_
      refine ezm_l77 rfl (by omega) (by omega) (fun u5 eu5 => ?_)
      have ku5 : ezw_il u5 := eu5 ▸ hT.t77 a1
      refine ezw_lcmpE rfl ku4 ku5 (fun u6 hu6 => ?_)
      refine ezw_if_ne rfl rfl ⟨by omega, by omega⟩ (fun h36_6 => ?_) (fun h36_6 => ?_)
      · refine ezw_iconst (0) rfl rfl ?_
        exact ezw_ireturn rfl (ezw_zret ⟨by omega, by omega⟩) ⟨rfl, (0), ⟨by omega, by omega⟩, by omega, by unfold ezm_w; first | exact (if_pos ⟨by omega, by omega, by omega⟩).symm | exact (if_neg (fun h => by omega)).symm, by omega, fun _ => by
              by_cases z0 : s.1 = 0
              · by_cases z1 : r74 i7 = 1
                · have hx := ezm_ixw hM (sw z0 z1) ga
                  by_cases z2 : r76 i7 = r77 a1
                  · exfalso
                    omega
                  · exact Or.inr (Or.inr (fun y => z2 (hx.mpr y)))
                · exact Or.inr (Or.inl z1)
              · exact Or.inl z0, rfl⟩
      · refine ezw_iconst (1) rfl rfl ?_
        refine ezw_goto rfl rfl ?_
        exact ezw_ireturn rfl (ezw_zret ⟨by omega, by omega⟩) ⟨rfl, (1), ⟨by omega, by omega⟩, fun _ => ⟨by omega, ezm_lt (by omega) hs (by omega)⟩, by unfold ezm_w; first | exact (if_pos ⟨by omega, by omega, by omega⟩).symm | exact (if_neg (fun h => by omega)).symm, fun _ => ⟨by omega, by omega, (ezm_ixw hM (sw (by omega) (by omega)) ga).mp (by omega)⟩, by omega, rfl⟩
def ezm_m250pQ (e : Bool × Bool) (F : Nat → Nat → Int) (A : Nat → Int → Int) (i0 i2 i3 i7 i8 i13 i18 i19 i20 i25 i29 i30 i31 i36 i37 i38 : Int) (r73 r74 r75 r76 r77 r78 r79 r80 r81 r82 r83 r84 r85 r86 r87 r88 r89 r90 r91 r92 r93 r94 r95 : Int → Int) (n : Int) (c : Int → Int) (s : Int × Int) (a1 : Int) : Option ezq_V → (Nat → ezq_C) → Prop := fun v g' => ezm_h e F A i0 i2 i3 i7 i8 i13 i18 i19 i20 i25 i29 i30 i31 i36 i37 i38 r73 r74 r75 r76 r77 r78 r79 r80 r81 r82 r83 r84 r85 r86 r87 r88 r89 r90 r91 r92 r93 r94 r95 = g' ∧ ∃ u : Int, (0 ≤ u ∧ u ≤ 1) ∧ (u = 1 → i8 = 0 ∧ i7 < n) ∧ (u = ezm_sn i8 i7 r74 r76 a1) ∧ (u = 1 → s.1 = 0 ∧ ezp_K c s.2 = 200 + a1) ∧ (u = 0 → s.1 ≠ 0 ∨ ezp_K c s.2 ≠ 200 + a1) ∧ some (ezw_i u) = v
set_option maxHeartbeats 8000000 in
theorem ezm_m250p {c : Int → Int} {s : Int × Int} {n a1 : Int} (hT : ezm_T i0 i2 i3 i7 i8 i13 i18 i19 i20 i25 i29 i30 i31 i36 i37 i38 r73 r74 r75 r76 r77 r78 r79 r80 r81 r82 r83 r84 r85 r86 r87 r88 r89 r90 r91 r92 r93 r94 r95) (hd : 0 ≤ d) (ha1 : ezw_in a1) (hn : 0 ≤ i7 ∧ i7 ≤ n) (hs : r74 n = 0) (h1 : n ≤ 1000) (tk : ezm_TK c n r74 r75 r76) (hM : ∀ w, 0 ≤ w → w < 48 → r77 w = ezl_mw.getD w.toNat 0) (st : ezm_ST s i8 i7) (ga : 40 ≤ a1 ∧ a1 ≤ 61) : ezw_C l ρ B xa Hb D cA 250 d [ezw_p 72, ezw_i a1] (ezm_h e F A i0 i2 i3 i7 i8 i13 i18 i19 i20 i25 i29 i30 i31 i36 i37 i38 r73 r74 r75 r76 r77 r78 r79 r80 r81 r82 r83 r84 r85 r86 r87 r88 r89 r90 r91 r92 r93 r94 r95) (ezm_m250pQ  e F A i0 i2 i3 i7 i8 i13 i18 i19 i20 i25 i29 i30 i31 i36 i37 i38 r73 r74 r75 r76 r77 r78 r79 r80 r81 r82 r83 r84 r85 r86 r87 r88 r89 r90 r91 r92 r93 r94 r95 n c s a1) := by
  refine ezw_met (k := 0) rfl rfl ?_
  obtain ⟨se, sa, sp, hP, sw, sk⟩ := ezm_TKi tk st hn
  refine ezw_aload_n rfl rfl ?_
  refine ezm_g8 rfl ?_
  have k1 := hT.t8
  refine ezw_if_ne rfl rfl ⟨by omega, by omega⟩ (fun h4_1 => ?_) (fun h4_1 => ?_)
  · refine ezw_iconst (0) rfl rfl ?_
    exact ezw_ireturn rfl (ezw_zret ⟨by omega, by omega⟩) ⟨rfl, (0), ⟨by omega, by omega⟩, by omega, by unfold ezm_sn; first | exact (if_pos ⟨by omega, by omega, by omega⟩).symm | exact (if_neg (fun h => by omega)).symm, by omega, by omega, rfl⟩
  · refine ezw_aload_n rfl rfl ?_
    refine ezm_gp (p := 74) rfl (fun _ => rfl) ?_
    refine ezw_aload_n rfl rfl ?_
    refine ezm_g7 rfl ?_
    have k2 := hT.t7
    refine ezm_l74 rfl (by omega) (by omega) (fun u3 eu3 => ?_)
    have ku3 : ezw_in u3 := eu3 ▸ hT.t74 i7
    refine ezw_iconst (3) rfl rfl ?_
    refine ezw_icmp_ne rfl rfl ku3 ⟨by decide, by decide⟩ (fun h17_3 => ?_) (fun h17_3 => ?_)
    · refine ezw_iconst (0) rfl rfl ?_
      exact ezw_ireturn rfl (ezw_zret ⟨by omega, by omega⟩) ⟨rfl, (0), ⟨by omega, by omega⟩, by omega, by unfold ezm_sn; first | exact (if_pos ⟨by omega, by omega, by omega⟩).symm | exact (if_neg (fun h => by omega)).symm, by omega, by omega, rfl⟩
    · refine ezw_aload_n rfl rfl ?_
      refine ezm_gp (p := 76) rfl (fun _ => rfl) ?_
      refine ezw_aload_n rfl rfl ?_
      refine ezm_g7 rfl ?_
      refine ezm_l76 rfl (by omega) (by omega) (fun u4 eu4 => ?_)
      have ku4 : ezw_il u4 := eu4 ▸ hT.t76 i7
      refine ezw_iload_n rfl rfl ?_
      refine ezw_i2l rfl ha1 rfl ?_
      refine ezw_lcmpE rfl ku4 (ezw_in_il ha1) (fun u5 hu5 => ?_)
      refine ezw_if_ne rfl rfl ⟨by omega, by omega⟩ (fun h32_5 => ?_) (fun h32_5 => ?_)
      · refine ezw_iconst (0) rfl rfl ?_
        exact ezw_ireturn rfl (ezw_zret ⟨by omega, by omega⟩) ⟨rfl, (0), ⟨by omega, by omega⟩, by omega, by unfold ezm_sn; first | exact (if_pos ⟨by omega, by omega, by omega⟩).symm | exact (if_neg (fun h => by omega)).symm, by omega, by omega, rfl⟩
      · refine ezw_iconst (1) rfl rfl ?_
        refine ezw_goto rfl rfl ?_
        exact ezw_ireturn rfl (ezw_zret ⟨by omega, by omega⟩) ⟨rfl, (1), ⟨by omega, by omega⟩, fun _ => ⟨by omega, ezm_lt (by omega) hs (by omega)⟩, by unfold ezm_sn; first | exact (if_pos ⟨by omega, by omega, by omega⟩).symm | exact (if_neg (fun h => by omega)).symm, by omega, by omega, rfl⟩
def ezm_m253pQ (e : Bool × Bool) (F : Nat → Nat → Int) (A : Nat → Int → Int) (i0 i2 i3 i7 i8 i13 i18 i19 i20 i25 i29 i30 i31 i36 i37 i38 : Int) (r73 r74 r75 r76 r77 r78 r79 r80 r81 r82 r83 r84 r85 r86 r87 r88 r89 r90 r91 r92 r93 r94 r95 : Int → Int) (n : Int) (c : Int → Int) (s : Int × Int) (a1 : Int) : Option ezq_V → (Nat → ezq_C) → Prop := fun v g' => ∃ (x7 x8 : Int), ezm_h e F A i0 i2 i3 x7 x8 i13 i18 i19 i20 i25 i29 i30 i31 i36 i37 i38 r73 r74 r75 r76 r77 r78 r79 r80 r81 r82 r83 r84 r85 r86 r87 r88 r89 r90 r91 r92 r93 r94 r95 = g' ∧ ezm_T i0 i2 i3 x7 x8 i13 i18 i19 i20 i25 i29 i30 i31 i36 i37 i38 r73 r74 r75 r76 r77 r78 r79 r80 r81 r82 r83 r84 r85 r86 r87 r88 r89 r90 r91 r92 r93 r94 r95 ∧ (i8 ≠ 0 → x8 = i8 ∧ x7 = i7) ∧ (x8 = 0 → i8 = 0 ∧ x7 = i7 + 1) ∧ (i7 ≤ x7 ∧ x7 ≤ n) ∧ (ezm_ST (ezp_w c (200 + a1) s) x8 x7) ∧ none = v
set_option maxHeartbeats 8000000 in
theorem ezm_m253p {c : Int → Int} {s : Int × Int} {n a1 : Int} (hT : ezm_T i0 i2 i3 i7 i8 i13 i18 i19 i20 i25 i29 i30 i31 i36 i37 i38 r73 r74 r75 r76 r77 r78 r79 r80 r81 r82 r83 r84 r85 r86 r87 r88 r89 r90 r91 r92 r93 r94 r95) (hd : 1 ≤ d) (ha1 : ezw_in a1) (hn : 0 ≤ i7 ∧ i7 ≤ n) (hs : r74 n = 0) (h1 : n ≤ 1000) (tk : ezm_TK c n r74 r75 r76) (hM : ∀ w, 0 ≤ w → w < 48 → r77 w = ezl_mw.getD w.toNat 0) (st : ezm_ST s i8 i7) (ga : 40 ≤ a1 ∧ a1 ≤ 61) : ezw_C l ρ B xa Hb D cA 253 d [ezw_p 72, ezw_i a1] (ezm_h e F A i0 i2 i3 i7 i8 i13 i18 i19 i20 i25 i29 i30 i31 i36 i37 i38 r73 r74 r75 r76 r77 r78 r79 r80 r81 r82 r83 r84 r85 r86 r87 r88 r89 r90 r91 r92 r93 r94 r95) (ezm_m253pQ  e F A i0 i2 i3 i7 i8 i13 i18 i19 i20 i25 i29 i30 i31 i36 i37 i38 r73 r74 r75 r76 r77 r78 r79 r80 r81 r82 r83 r84 r85 r86 r87 r88 r89 r90 r91 r92 r93 r94 r95 n c s a1) := by
  refine ezw_met (k := 0) rfl rfl ?_
  obtain ⟨se, sa, sp, hP, sw, sk⟩ := ezm_TKi tk st hn
  refine ezw_aload_n rfl rfl ?_
  refine ezw_iload_n rfl rfl ?_
  refine ezw_call0_1 rfl (by omega) (ezm_at rfl) rfl rfl rfl rfl (ezm_m250p hT (by omega) ha1 (by omega) hs (by omega) tk hM st (by omega)) ?_
  rintro _ _ ⟨rfl, u2, hu2, f_1, w_1, q1_1, q0_1, rfl⟩
  refine ezw_if_eq rfl rfl ⟨by omega, by omega⟩ (fun h5_2 => ?_) (fun h5_2 => ?_)
  · refine ezw_aload_n rfl rfl ?_
    refine ezw_iconst (1) rfl rfl ?_
    refine ezw_call0_1 rfl (by omega) (ezm_at rfl) rfl rfl rfl rfl (ezm_m225p hT (by omega) ⟨by decide, by decide⟩ (by omega) (by omega) (by omega) hs (by omega) tk hM st) ?_
    rintro _ _ ⟨x8_3, rfl, hT, p3_0, p3_1, st_3, rfl⟩
    have k4 := hT.t8
    exact ezw_return rfl rfl ⟨i7, x8_3, rfl, hT, by omega, by omega, by omega, by
          first
            | (exfalso; omega)
            | (unfold ezp_w; rw [if_neg (by omega)]; exact st_3), rfl⟩
  · refine ezw_aload_n rfl rfl ?_
    refine ezw_dup rfl rfl ?_
    refine ezm_g7 rfl ?_
    have k5 := hT.t7
    refine ezw_iconst (1) rfl rfl ?_
    refine ezw_iadd (k := i7 + 1) rfl (by omega) ?_
    refine ezm_p7 hT rfl ⟨by omega, by omega⟩ (fun hT => ?_)
    refine ezw_goto rfl rfl ?_
    exact ezw_return rfl rfl ⟨(i7 + 1), i8, rfl, hT, by omega, by omega, by omega, by
          first
            | (exfalso; omega)
            | (unfold ezp_w; rw [if_pos ⟨by omega, by omega⟩]; exact ezm_ST_t st (by omega) (fun _ => by omega)), rfl⟩
def ezm_m252pQ (e : Bool × Bool) (F : Nat → Nat → Int) (A : Nat → Int → Int) (i0 i2 i3 i7 i8 i13 i18 i19 i20 i25 i29 i30 i31 i36 i37 i38 : Int) (r73 r74 r75 r76 r77 r78 r79 r80 r81 r82 r83 r84 r85 r86 r87 r88 r89 r90 r91 r92 r93 r94 r95 : Int → Int) (n : Int) (c : Int → Int) (s : Int × Int) (a1 : Int) : Option ezq_V → (Nat → ezq_C) → Prop := fun v g' => ∃ (x7 : Int), ezm_h e F A i0 i2 i3 x7 i8 i13 i18 i19 i20 i25 i29 i30 i31 i36 i37 i38 r73 r74 r75 r76 r77 r78 r79 r80 r81 r82 r83 r84 r85 r86 r87 r88 r89 r90 r91 r92 r93 r94 r95 = g' ∧ ezm_T i0 i2 i3 x7 i8 i13 i18 i19 i20 i25 i29 i30 i31 i36 i37 i38 r73 r74 r75 r76 r77 r78 r79 r80 r81 r82 r83 r84 r85 r86 r87 r88 r89 r90 r91 r92 r93 r94 r95 ∧ ∃ u : Int, (0 ≤ u ∧ u ≤ 1) ∧ (x7 = i7 + u) ∧ (u = 1 → i8 = 0) ∧ (x7 ≤ n) ∧ (u = ezm_sn i8 i7 r74 r76 a1) ∧ (u = 1 → s.1 = 0 ∧ ezp_K c s.2 = 200 + a1) ∧ (u = 0 → s.1 ≠ 0 ∨ ezp_K c s.2 ≠ 200 + a1) ∧ (ezm_ST (ezp_tk c (200 + a1) s) i8 x7) ∧ some (ezw_i u) = v
set_option maxHeartbeats 8000000 in
theorem ezm_m252p {c : Int → Int} {s : Int × Int} {n a1 : Int} (hT : ezm_T i0 i2 i3 i7 i8 i13 i18 i19 i20 i25 i29 i30 i31 i36 i37 i38 r73 r74 r75 r76 r77 r78 r79 r80 r81 r82 r83 r84 r85 r86 r87 r88 r89 r90 r91 r92 r93 r94 r95) (hd : 1 ≤ d) (ha1 : ezw_in a1) (hn : 0 ≤ i7 ∧ i7 ≤ n) (hs : r74 n = 0) (h1 : n ≤ 1000) (tk : ezm_TK c n r74 r75 r76) (hM : ∀ w, 0 ≤ w → w < 48 → r77 w = ezl_mw.getD w.toNat 0) (st : ezm_ST s i8 i7) (ga : 40 ≤ a1 ∧ a1 ≤ 61) : ezw_C l ρ B xa Hb D cA 252 d [ezw_p 72, ezw_i a1] (ezm_h e F A i0 i2 i3 i7 i8 i13 i18 i19 i20 i25 i29 i30 i31 i36 i37 i38 r73 r74 r75 r76 r77 r78 r79 r80 r81 r82 r83 r84 r85 r86 r87 r88 r89 r90 r91 r92 r93 r94 r95) (ezm_m252pQ  e F A i0 i2 i3 i7 i8 i13 i18 i19 i20 i25 i29 i30 i31 i36 i37 i38 r73 r74 r75 r76 r77 r78 r79 r80 r81 r82 r83 r84 r85 r86 r87 r88 r89 r90 r91 r92 r93 r94 r95 n c s a1) := by
  refine ezw_met (k := 1) rfl rfl ?_
  obtain ⟨se, sa, sp, hP, sw, sk⟩ := ezm_TKi tk st hn
  refine ezw_aload_n rfl rfl ?_
  refine ezw_iload_n rfl rfl ?_
  refine ezw_call0_1 rfl (by omega) (ezm_at rfl) rfl rfl rfl rfl (ezm_m250p hT (by omega) ha1 (by omega) hs (by omega) tk hM st (by omega)) ?_
  rintro _ _ ⟨rfl, u2, hu2, f_1, w_1, q1_1, q0_1, rfl⟩
  refine ezw_istore_n rfl rfl ?_
  refine ezw_aload_n rfl rfl ?_
  refine ezw_dup rfl rfl ?_
  refine ezm_g7 rfl ?_
  have k3 := hT.t7
  refine ezw_iload_n rfl rfl ?_
  refine ezw_if_eq rfl rfl ⟨by omega, by omega⟩ (fun h12_3 => ?_) (fun h12_3 => ?_)
  · refine ezw_iconst (0) rfl rfl ?_
    refine ezw_iadd (k := i7) rfl (by omega) ?_
    refine ezm_p7 hT rfl ⟨by omega, by omega⟩ (fun hT => ?_)
    refine ezw_iload_n rfl rfl ?_
    exact ezw_ireturn rfl (ezw_zret ⟨by omega, by omega⟩) ⟨i7, rfl, hT, u2, ⟨by omega, by omega⟩, by omega, by omega, by omega, by omega, by omega, by omega, by
          first
            | (exfalso; omega)
            | (unfold ezp_tk; rw [if_pos ⟨by omega, by omega⟩]; exact ezm_ST_t st (by omega) (fun _ => by omega))
            | (unfold ezp_tk; rw [if_neg (by omega)]; exact ezm_ST_7 st (by omega) (fun _ => by omega)), rfl⟩
  · refine ezw_iconst (1) rfl rfl ?_
    refine ezw_goto rfl rfl ?_
    refine ezw_iadd (k := i7 + 1) rfl (by omega) ?_
    refine ezm_p7 hT rfl ⟨by omega, by omega⟩ (fun hT => ?_)
    refine ezw_iload_n rfl rfl ?_
    exact ezw_ireturn rfl (ezw_zret ⟨by omega, by omega⟩) ⟨(i7 + 1), rfl, hT, u2, ⟨by omega, by omega⟩, by omega, by omega, by omega, by omega, by omega, by omega, by
          first
            | (exfalso; omega)
            | (unfold ezp_tk; rw [if_pos ⟨by omega, by omega⟩]; exact ezm_ST_t st (by omega) (fun _ => by omega))
            | (unfold ezp_tk; rw [if_neg (by omega)]; exact ezm_ST_7 st (by omega) (fun _ => by omega)), rfl⟩
def ezm_m232pQ (e : Bool × Bool) (F : Nat → Nat → Int) (A : Nat → Int → Int) (i0 i2 i3 i7 i8 i13 i18 i19 i20 i25 i29 i30 i31 i36 i37 i38 : Int) (r73 r74 r75 r76 r77 r78 r79 r80 r81 r82 r83 r84 r85 r86 r87 r88 r89 r90 r91 r92 r93 r94 r95 : Int → Int) (n : Int) (c : Int → Int) (s : Int × Int) (a1 : Int) : Option ezq_V → (Nat → ezq_C) → Prop := fun v g' => ∃ (x7 : Int), ezm_h e F A i0 i2 i3 x7 i8 i13 i18 i19 i20 i25 i29 i30 i31 i36 i37 i38 r73 r74 r75 r76 r77 r78 r79 r80 r81 r82 r83 r84 r85 r86 r87 r88 r89 r90 r91 r92 r93 r94 r95 = g' ∧ ezm_T i0 i2 i3 x7 i8 i13 i18 i19 i20 i25 i29 i30 i31 i36 i37 i38 r73 r74 r75 r76 r77 r78 r79 r80 r81 r82 r83 r84 r85 r86 r87 r88 r89 r90 r91 r92 r93 r94 r95 ∧ ∃ u : Int, (0 ≤ u ∧ u ≤ 1) ∧ (x7 = i7 + u) ∧ (u = 1 → i8 = 0) ∧ (x7 ≤ n) ∧ (u = ezm_w i8 i7 r74 r76 r77 a1) ∧ (u = 1 → s.1 = 0 ∧ ezp_K c s.2 = a1) ∧ (u = 0 → s.1 ≠ 0 ∨ ezp_K c s.2 ≠ a1) ∧ (ezm_ST (ezp_tk c a1 s) i8 x7) ∧ some (ezw_i u) = v
set_option maxHeartbeats 8000000 in
theorem ezm_m232p {c : Int → Int} {s : Int × Int} {n a1 : Int} (hT : ezm_T i0 i2 i3 i7 i8 i13 i18 i19 i20 i25 i29 i30 i31 i36 i37 i38 r73 r74 r75 r76 r77 r78 r79 r80 r81 r82 r83 r84 r85 r86 r87 r88 r89 r90 r91 r92 r93 r94 r95) (hd : 1 ≤ d) (ha1 : ezw_in a1) (hn : 0 ≤ i7 ∧ i7 ≤ n) (hs : r74 n = 0) (h1 : n ≤ 1000) (tk : ezm_TK c n r74 r75 r76) (hM : ∀ w, 0 ≤ w → w < 48 → r77 w = ezl_mw.getD w.toNat 0) (st : ezm_ST s i8 i7) (ga : 0 ≤ a1 ∧ a1 ≤ 43) : ezw_C l ρ B xa Hb D cA 232 d [ezw_p 72, ezw_i a1] (ezm_h e F A i0 i2 i3 i7 i8 i13 i18 i19 i20 i25 i29 i30 i31 i36 i37 i38 r73 r74 r75 r76 r77 r78 r79 r80 r81 r82 r83 r84 r85 r86 r87 r88 r89 r90 r91 r92 r93 r94 r95) (ezm_m232pQ  e F A i0 i2 i3 i7 i8 i13 i18 i19 i20 i25 i29 i30 i31 i36 i37 i38 r73 r74 r75 r76 r77 r78 r79 r80 r81 r82 r83 r84 r85 r86 r87 r88 r89 r90 r91 r92 r93 r94 r95 n c s a1) := by
  refine ezw_met (k := 1) rfl rfl ?_
  obtain ⟨se, sa, sp, hP, sw, sk⟩ := ezm_TKi tk st hn
  refine ezw_aload_n rfl rfl ?_
  refine ezw_iload_n rfl rfl ?_
  refine ezw_call0_1 rfl (by omega) (ezm_at rfl) rfl rfl rfl rfl (ezm_m223p hT (by omega) ha1 (by omega) (by omega) hs (by omega) tk hM st) ?_
  rintro _ _ ⟨rfl, u2, hu2, f_1, w_1, q1_1, q0_1, rfl⟩
  refine ezw_istore_n rfl rfl ?_
  refine ezw_aload_n rfl rfl ?_
  refine ezw_dup rfl rfl ?_
  refine ezm_g7 rfl ?_
  have k3 := hT.t7
  refine ezw_iload_n rfl rfl ?_
  refine ezw_if_eq rfl rfl ⟨by omega, by omega⟩ (fun h12_3 => ?_) (fun h12_3 => ?_)
  · refine ezw_iconst (0) rfl rfl ?_
    refine ezw_iadd (k := i7) rfl (by omega) ?_
    refine ezm_p7 hT rfl ⟨by omega, by omega⟩ (fun hT => ?_)
    refine ezw_iload_n rfl rfl ?_
    exact ezw_ireturn rfl (ezw_zret ⟨by omega, by omega⟩) ⟨i7, rfl, hT, u2, ⟨by omega, by omega⟩, by omega, by omega, by omega, by omega, by omega, by omega, by
          first
            | (exfalso; omega)
            | (unfold ezp_tk; rw [if_pos ⟨by omega, by omega⟩]; exact ezm_ST_t st (by omega) (fun _ => by omega))
            | (unfold ezp_tk; rw [if_neg (by omega)]; exact ezm_ST_7 st (by omega) (fun _ => by omega)), rfl⟩
  · refine ezw_iconst (1) rfl rfl ?_
    refine ezw_goto rfl rfl ?_
    refine ezw_iadd (k := i7 + 1) rfl (by omega) ?_
    refine ezm_p7 hT rfl ⟨by omega, by omega⟩ (fun hT => ?_)
    refine ezw_iload_n rfl rfl ?_
    exact ezw_ireturn rfl (ezw_zret ⟨by omega, by omega⟩) ⟨(i7 + 1), rfl, hT, u2, ⟨by omega, by omega⟩, by omega, by omega, by omega, by omega, by omega, by omega, by
          first
            | (exfalso; omega)
            | (unfold ezp_tk; rw [if_pos ⟨by omega, by omega⟩]; exact ezm_ST_t st (by omega) (fun _ => by omega))
            | (unfold ezp_tk; rw [if_neg (by omega)]; exact ezm_ST_7 st (by omega) (fun _ => by omega)), rfl⟩
def ezm_m231pQ (e : Bool × Bool) (F : Nat → Nat → Int) (A : Nat → Int → Int) (i0 i2 i3 i7 i8 i13 i18 i19 i20 i25 i29 i30 i31 i36 i37 i38 : Int) (r73 r74 r75 r76 r77 r78 r79 r80 r81 r82 r83 r84 r85 r86 r87 r88 r89 r90 r91 r92 r93 r94 r95 : Int → Int) (n : Int) (c : Int → Int) (s : Int × Int) (a1 : Int) : Option ezq_V → (Nat → ezq_C) → Prop := fun v g' => ∃ (x7 x8 : Int), ezm_h e F A i0 i2 i3 x7 x8 i13 i18 i19 i20 i25 i29 i30 i31 i36 i37 i38 r73 r74 r75 r76 r77 r78 r79 r80 r81 r82 r83 r84 r85 r86 r87 r88 r89 r90 r91 r92 r93 r94 r95 = g' ∧ ezm_T i0 i2 i3 x7 x8 i13 i18 i19 i20 i25 i29 i30 i31 i36 i37 i38 r73 r74 r75 r76 r77 r78 r79 r80 r81 r82 r83 r84 r85 r86 r87 r88 r89 r90 r91 r92 r93 r94 r95 ∧ (i8 ≠ 0 → x8 = i8 ∧ x7 = i7) ∧ (x8 = 0 → i8 = 0 ∧ x7 = i7 + 1) ∧ (i7 ≤ x7 ∧ x7 ≤ n) ∧ (ezm_ST (ezp_w c a1 s) x8 x7) ∧ none = v
set_option maxHeartbeats 8000000 in
theorem ezm_m231p {c : Int → Int} {s : Int × Int} {n a1 : Int} (hT : ezm_T i0 i2 i3 i7 i8 i13 i18 i19 i20 i25 i29 i30 i31 i36 i37 i38 r73 r74 r75 r76 r77 r78 r79 r80 r81 r82 r83 r84 r85 r86 r87 r88 r89 r90 r91 r92 r93 r94 r95) (hd : 2 ≤ d) (ha1 : ezw_in a1) (hn : 0 ≤ i7 ∧ i7 ≤ n) (hs : r74 n = 0) (h1 : n ≤ 1000) (tk : ezm_TK c n r74 r75 r76) (hM : ∀ w, 0 ≤ w → w < 48 → r77 w = ezl_mw.getD w.toNat 0) (st : ezm_ST s i8 i7) (ga : 0 ≤ a1 ∧ a1 ≤ 43) : ezw_C l ρ B xa Hb D cA 231 d [ezw_p 72, ezw_i a1] (ezm_h e F A i0 i2 i3 i7 i8 i13 i18 i19 i20 i25 i29 i30 i31 i36 i37 i38 r73 r74 r75 r76 r77 r78 r79 r80 r81 r82 r83 r84 r85 r86 r87 r88 r89 r90 r91 r92 r93 r94 r95) (ezm_m231pQ  e F A i0 i2 i3 i7 i8 i13 i18 i19 i20 i25 i29 i30 i31 i36 i37 i38 r73 r74 r75 r76 r77 r78 r79 r80 r81 r82 r83 r84 r85 r86 r87 r88 r89 r90 r91 r92 r93 r94 r95 n c s a1) := by
  refine ezw_met (k := 0) rfl rfl ?_
  obtain ⟨se, sa, sp, hP, sw, sk⟩ := ezm_TKi tk st hn
  refine ezw_aload_n rfl rfl ?_
  refine ezw_iload_n rfl rfl ?_
  refine ezw_call0_1 rfl (by omega) (ezm_at rfl) rfl rfl rfl rfl (ezm_m232p hT (by omega) ha1 (by omega) hs (by omega) tk hM st (by omega)) ?_
  rintro _ _ ⟨x7_1, rfl, hT, u2, hu2, p1_0, p1_1, p1_2, p1_3, q1_1, q0_1, st_1, rfl⟩
  have k3 := hT.t7
  refine ezw_if_ne rfl rfl ⟨by omega, by omega⟩ (fun h5_3 => ?_) (fun h5_3 => ?_)
  · exact ezw_return rfl rfl ⟨x7_1, i8, rfl, hT, by omega, by omega, by omega, by
          first
            | (exfalso; omega)
            | (unfold ezp_w; rw [if_pos ⟨by omega, by omega⟩]
               have h7 := st_1
               rw [ezp_tk_1 ⟨by omega, by omega⟩] at h7
               exact h7), rfl⟩
  · refine ezw_aload_n rfl rfl ?_
    refine ezw_iconst (1) rfl rfl ?_
    refine ezw_call0_1 rfl (by omega) (ezm_at rfl) rfl rfl rfl rfl (ezm_m225p hT (by omega) ⟨by decide, by decide⟩ (by omega) (by omega) (by omega) hs (by omega) tk hM st_1) ?_
    rintro _ _ ⟨x8_4, rfl, hT, p4_0, p4_1, st_4, rfl⟩
    have k5 := hT.t8
    exact ezw_return rfl rfl ⟨x7_1, x8_4, rfl, hT, by omega, by omega, by omega, by
          first
            | (exfalso; omega)
            | (unfold ezp_w; rw [if_neg (by omega)]
               have h7 := st_4
               rw [ezp_tk_0 (by omega)] at h7
               exact h7), rfl⟩
def ezm_m233pQ (e : Bool × Bool) (F : Nat → Nat → Int) (A : Nat → Int → Int) (i0 i2 i3 i7 i8 i13 i18 i19 i20 i25 i29 i30 i31 i36 i37 i38 : Int) (r73 r74 r75 r76 r77 r78 r79 r80 r81 r82 r83 r84 r85 r86 r87 r88 r89 r90 r91 r92 r93 r94 r95 : Int → Int) (n : Int) (c : Int → Int) (s : Int × Int) (a1 : Int) (a2 : Int) : Option ezq_V → (Nat → ezq_C) → Prop := fun v g' => ∃ (x7 x8 : Int), ezm_h e F A i0 i2 i3 x7 x8 i13 i18 i19 i20 i25 i29 i30 i31 i36 i37 i38 r73 r74 r75 r76 r77 r78 r79 r80 r81 r82 r83 r84 r85 r86 r87 r88 r89 r90 r91 r92 r93 r94 r95 = g' ∧ ezm_T i0 i2 i3 x7 x8 i13 i18 i19 i20 i25 i29 i30 i31 i36 i37 i38 r73 r74 r75 r76 r77 r78 r79 r80 r81 r82 r83 r84 r85 r86 r87 r88 r89 r90 r91 r92 r93 r94 r95 ∧ ∃ u : Int, (ezw_in u) ∧ (i8 ≠ 0 → x8 = i8) ∧ (x8 = 0 → a1 ≤ u ∧ u ≤ a2 ∧ i8 = 0 ∧ x7 = i7 + 1 ∧ x7 ≤ n) ∧ (x8 ≠ 0 → u = 0 ∧ x7 = i7) ∧ (ezm_ST (ezp_n c a1 a2 s) x8 x7) ∧ (ezm_I (x8 = 0) (u = ezp_V c s.2)) ∧ some (ezw_i u) = v
set_option maxHeartbeats 8000000 in
theorem ezm_m233p {c : Int → Int} {s : Int × Int} {n a1 a2 : Int} (hT : ezm_T i0 i2 i3 i7 i8 i13 i18 i19 i20 i25 i29 i30 i31 i36 i37 i38 r73 r74 r75 r76 r77 r78 r79 r80 r81 r82 r83 r84 r85 r86 r87 r88 r89 r90 r91 r92 r93 r94 r95) (hd : 1 ≤ d) (ha1 : ezw_in a1) (ha2 : ezw_in a2) (hn : 0 ≤ i7 ∧ i7 ≤ n) (hs : r74 n = 0) (h1 : n ≤ 1000) (tk : ezm_TK c n r74 r75 r76) (hM : ∀ w, 0 ≤ w → w < 48 → r77 w = ezl_mw.getD w.toNat 0) (st : ezm_ST s i8 i7) : ezw_C l ρ B xa Hb D cA 233 d [ezw_p 72, ezw_i a1, ezw_i a2] (ezm_h e F A i0 i2 i3 i7 i8 i13 i18 i19 i20 i25 i29 i30 i31 i36 i37 i38 r73 r74 r75 r76 r77 r78 r79 r80 r81 r82 r83 r84 r85 r86 r87 r88 r89 r90 r91 r92 r93 r94 r95) (ezm_m233pQ  e F A i0 i2 i3 i7 i8 i13 i18 i19 i20 i25 i29 i30 i31 i36 i37 i38 r73 r74 r75 r76 r77 r78 r79 r80 r81 r82 r83 r84 r85 r86 r87 r88 r89 r90 r91 r92 r93 r94 r95 n c s a1 a2) := by
  refine ezw_met (k := 0) rfl rfl ?_
  obtain ⟨se, sa, sp, hP, sw, sk⟩ := ezm_TKi tk st hn
  refine ezw_aload_n rfl rfl ?_
  refine ezm_g8 rfl ?_
  have k1 := hT.t8
  refine ezw_if_ne rfl rfl ⟨by omega, by omega⟩ (fun h4_1 => ?_) (fun h4_1 => ?_)
  · refine ezw_aload_n rfl rfl ?_
    refine ezm_g8 rfl ?_
    refine ezw_if_ne rfl rfl ⟨by omega, by omega⟩ (fun h32_1 => ?_) (fun h32_1 => ?_)
    · refine ezw_aload_n rfl rfl ?_
      refine ezm_g8 rfl ?_
      refine ezw_if_le rfl rfl ⟨by omega, by omega⟩ (fun h74_1 => ?_) (fun h74_1 => ?_)
      · have hlt := ezm_lt hn.2 hs (show r74 i7 ≠ 0 by omega)
        refine ezw_aload_n rfl rfl ?_
        refine ezw_dup rfl rfl ?_
        refine ezm_g7 rfl ?_
        have k2 := hT.t7
        refine ezw_iconst (1) rfl rfl ?_
        refine ezw_iadd (k := i7 + 1) rfl (by omega) ?_
        refine ezm_p7 hT rfl ⟨by omega, by omega⟩ (fun hT => ?_)
        refine ezw_aload_n rfl rfl ?_
        refine ezm_gp (p := 76) rfl (fun _ => rfl) ?_
        refine ezw_aload_n rfl rfl ?_
        refine ezm_g7 rfl ?_
        have k3 := hT.t7
        refine ezw_iconst (1) rfl rfl ?_
        refine ezw_isub (k := i7) rfl (by omega) ?_
        refine ezm_l76 rfl (by omega) (by omega) (fun u4 eu4 => ?_)
        have ku4 : ezw_il u4 := eu4 ▸ hT.t76 i7
        refine ezw_l2i rfl rfl ?_
        exact ezw_ireturn rfl rfl ⟨(i7 + 1), i8, rfl, hT, u4, ⟨by omega, by omega⟩, by omega, by omega, by omega, by
              first
                | (exfalso; omega)
                | (rw [ezp_n_n (by omega)]; exact st)
                | (rw [ezp_nE0 ⟨by omega, by omega⟩ (by omega)]; exact ezm_ST_t st (by omega) (fun _ => by omega)), fun z => by omega, rfl⟩
      · refine ezw_iconst (0) rfl rfl ?_
        exact ezw_ireturn rfl rfl ⟨i7, i8, rfl, hT, (0), ⟨by decide, by decide⟩, by omega, by omega, by omega, by
              first
                | (exfalso; omega)
                | (rw [ezp_n_n (by omega)]; exact st)
                | (rw [ezp_nE0 ⟨by omega, by omega⟩ (by omega)]; exact ezm_ST_t st (by omega) (fun _ => by omega)), fun z => by omega, rfl⟩
    · refine ezw_aload_n rfl rfl ?_
      refine ezm_gp (p := 76) rfl (fun _ => rfl) ?_
      refine ezw_aload_n rfl rfl ?_
      refine ezm_g7 rfl ?_
      have k5 := hT.t7
      refine ezm_l76 rfl (by omega) (by omega) (fun u6 eu6 => ?_)
      have ku6 : ezw_il u6 := eu6 ▸ hT.t76 i7
      refine ezw_iload_n rfl rfl ?_
      refine ezw_i2l rfl ha1 rfl ?_
      refine ezw_lcmpE rfl ku6 (ezw_in_il ha1) (fun u7 hu7 => ?_)
      refine ezw_if_lt rfl rfl ⟨by omega, by omega⟩ (fun h47_7 => ?_) (fun h47_7 => ?_)
      · refine ezw_aload_n rfl rfl ?_
        refine ezw_iconst (4) rfl rfl ?_
        refine ezw_call0_1 rfl (by omega) (ezm_at rfl) rfl rfl rfl rfl (ezm_m225p hT (by omega) ⟨by decide, by decide⟩ (by omega) (by omega) (by omega) hs (by omega) tk hM st) ?_
        rintro _ _ ⟨x8_8, rfl, hT, p8_0, p8_1, st_8, rfl⟩
        have k9 := hT.t8
        refine ezw_aload_n rfl rfl ?_
        refine ezm_g8 rfl ?_
        refine ezw_if_le rfl rfl ⟨by omega, by omega⟩ (fun h74_9 => ?_) (fun h74_9 => ?_)
        · have hlt := ezm_lt hn.2 hs (show r74 i7 ≠ 0 by omega)
          refine ezw_aload_n rfl rfl ?_
          refine ezw_dup rfl rfl ?_
          refine ezm_g7 rfl ?_
          refine ezw_iconst (1) rfl rfl ?_
          refine ezw_iadd (k := i7 + 1) rfl (by omega) ?_
          refine ezm_p7 hT rfl ⟨by omega, by omega⟩ (fun hT => ?_)
          refine ezw_aload_n rfl rfl ?_
          refine ezm_gp (p := 76) rfl (fun _ => rfl) ?_
          refine ezw_aload_n rfl rfl ?_
          refine ezm_g7 rfl ?_
          have k10 := hT.t7
          refine ezw_iconst (1) rfl rfl ?_
          refine ezw_isub (k := i7) rfl (by omega) ?_
          refine ezm_l76 rfl (by omega) (by omega) (fun u11 eu11 => ?_)
          have fu11 : u6 = u11 := eu6.trans eu11.symm
          subst fu11
          refine ezw_l2i rfl rfl ?_
          exact ezw_ireturn rfl rfl ⟨(i7 + 1), x8_8, rfl, hT, u6, ⟨by omega, by omega⟩, by omega, by omega, by omega, by
                first
                  | (exfalso; omega)
                  | (rw [ezp_nE4 ⟨by omega, by omega⟩ (by omega) hP]; exact ezm_ST_7 st_8 (by omega) (fun _ => by omega)), fun z => by omega, rfl⟩
        · refine ezw_iconst (0) rfl rfl ?_
          exact ezw_ireturn rfl rfl ⟨i7, x8_8, rfl, hT, (0), ⟨by decide, by decide⟩, by omega, by omega, by omega, by
                first
                  | (exfalso; omega)
                  | (rw [ezp_nE4 ⟨by omega, by omega⟩ (by omega) hP]; exact ezm_ST_7 st_8 (by omega) (fun _ => by omega)), fun z => by omega, rfl⟩
      · refine ezw_aload_n rfl rfl ?_
        refine ezm_gp (p := 76) rfl (fun _ => rfl) ?_
        refine ezw_aload_n rfl rfl ?_
        refine ezm_g7 rfl ?_
        refine ezm_l76 rfl (by omega) (by omega) (fun u12 eu12 => ?_)
        have fu12 : u6 = u12 := eu6.trans eu12.symm
        subst fu12
        refine ezw_iload_n rfl rfl ?_
        refine ezw_i2l rfl ha2 rfl ?_
        refine ezw_lcmpE rfl ku6 (ezw_in_il ha2) (fun u13 hu13 => ?_)
        refine ezw_if_le rfl rfl ⟨by omega, by omega⟩ (fun h62_13 => ?_) (fun h62_13 => ?_)
        · refine ezw_aload_n rfl rfl ?_
          refine ezm_g8 rfl ?_
          refine ezw_if_le rfl rfl ⟨by omega, by omega⟩ (fun h74_13 => ?_) (fun h74_13 => ?_)
          · have hlt := ezm_lt hn.2 hs (show r74 i7 ≠ 0 by omega)
            refine ezw_aload_n rfl rfl ?_
            refine ezw_dup rfl rfl ?_
            refine ezm_g7 rfl ?_
            refine ezw_iconst (1) rfl rfl ?_
            refine ezw_iadd (k := i7 + 1) rfl (by omega) ?_
            refine ezm_p7 hT rfl ⟨by omega, by omega⟩ (fun hT => ?_)
            refine ezw_aload_n rfl rfl ?_
            refine ezm_gp (p := 76) rfl (fun _ => rfl) ?_
            refine ezw_aload_n rfl rfl ?_
            refine ezm_g7 rfl ?_
            have k14 := hT.t7
            refine ezw_iconst (1) rfl rfl ?_
            refine ezw_isub (k := i7) rfl (by omega) ?_
            refine ezm_l76 rfl (by omega) (by omega) (fun u15 eu15 => ?_)
            have fu15 : u6 = u15 := eu6.trans eu15.symm
            subst fu15
            refine ezw_l2i rfl rfl ?_
            exact ezw_ireturn rfl rfl ⟨(i7 + 1), i8, rfl, hT, u6, ⟨by omega, by omega⟩, by omega, by omega, by omega, by
                  first
                    | (exfalso; omega)
                    | (rw [ezp_n_n (by omega)]; exact st)
                    | (rw [ezp_nE0 ⟨by omega, by omega⟩ (by omega)]; exact ezm_ST_t st (by omega) (fun _ => by omega)), fun z => by omega, rfl⟩
          · refine ezw_iconst (0) rfl rfl ?_
            exact ezw_ireturn rfl rfl ⟨i7, i8, rfl, hT, (0), ⟨by decide, by decide⟩, by omega, by omega, by omega, by
                  first
                    | (exfalso; omega)
                    | (rw [ezp_n_n (by omega)]; exact st)
                    | (rw [ezp_nE0 ⟨by omega, by omega⟩ (by omega)]; exact ezm_ST_t st (by omega) (fun _ => by omega)), fun z => by omega, rfl⟩
        · refine ezw_aload_n rfl rfl ?_
          refine ezw_iconst (4) rfl rfl ?_
          refine ezw_call0_1 rfl (by omega) (ezm_at rfl) rfl rfl rfl rfl (ezm_m225p hT (by omega) ⟨by decide, by decide⟩ (by omega) (by omega) (by omega) hs (by omega) tk hM st) ?_
          rintro _ _ ⟨x8_16, rfl, hT, p16_0, p16_1, st_16, rfl⟩
          have k17 := hT.t8
          refine ezw_aload_n rfl rfl ?_
          refine ezm_g8 rfl ?_
          refine ezw_if_le rfl rfl ⟨by omega, by omega⟩ (fun h74_17 => ?_) (fun h74_17 => ?_)
          · have hlt := ezm_lt hn.2 hs (show r74 i7 ≠ 0 by omega)
            refine ezw_aload_n rfl rfl ?_
            refine ezw_dup rfl rfl ?_
            refine ezm_g7 rfl ?_
            refine ezw_iconst (1) rfl rfl ?_
            refine ezw_iadd (k := i7 + 1) rfl (by omega) ?_
            refine ezm_p7 hT rfl ⟨by omega, by omega⟩ (fun hT => ?_)
            refine ezw_aload_n rfl rfl ?_
            refine ezm_gp (p := 76) rfl (fun _ => rfl) ?_
            refine ezw_aload_n rfl rfl ?_
            refine ezm_g7 rfl ?_
            have k18 := hT.t7
            refine ezw_iconst (1) rfl rfl ?_
            refine ezw_isub (k := i7) rfl (by omega) ?_
            refine ezm_l76 rfl (by omega) (by omega) (fun u19 eu19 => ?_)
            have fu19 : u6 = u19 := eu6.trans eu19.symm
            subst fu19
            refine ezw_l2i rfl rfl ?_
            exact ezw_ireturn rfl rfl ⟨(i7 + 1), x8_16, rfl, hT, u6, ⟨by omega, by omega⟩, by omega, by omega, by omega, by
                  first
                    | (exfalso; omega)
                    | (rw [ezp_nE4 ⟨by omega, by omega⟩ (by omega) hP]; exact ezm_ST_7 st_16 (by omega) (fun _ => by omega)), fun z => by omega, rfl⟩
          · refine ezw_iconst (0) rfl rfl ?_
            exact ezw_ireturn rfl rfl ⟨i7, x8_16, rfl, hT, (0), ⟨by decide, by decide⟩, by omega, by omega, by omega, by
                  first
                    | (exfalso; omega)
                    | (rw [ezp_nE4 ⟨by omega, by omega⟩ (by omega) hP]; exact ezm_ST_7 st_16 (by omega) (fun _ => by omega)), fun z => by omega, rfl⟩
  · refine ezw_aload_n rfl rfl ?_
    refine ezm_gp (p := 74) rfl (fun _ => rfl) ?_
    refine ezw_aload_n rfl rfl ?_
    refine ezm_g7 rfl ?_
    have k20 := hT.t7
    refine ezm_l74 rfl (by omega) (by omega) (fun u21 eu21 => ?_)
    have ku21 : ezw_in u21 := eu21 ▸ hT.t74 i7
    refine ezw_iconst (2) rfl rfl ?_
    refine ezw_icmp_eq rfl rfl ku21 ⟨by decide, by decide⟩ (fun h17_21 => ?_) (fun h17_21 => ?_)
    · refine ezw_aload_n rfl rfl ?_
      refine ezm_g8 rfl ?_
      refine ezw_if_ne rfl rfl ⟨by omega, by omega⟩ (fun h32_21 => ?_) (fun h32_21 => ?_)
      · refine ezw_aload_n rfl rfl ?_
        refine ezm_g8 rfl ?_
        refine ezw_if_le rfl rfl ⟨by omega, by omega⟩ (fun h74_21 => ?_) (fun h74_21 => ?_)
        · have hlt := ezm_lt hn.2 hs (show r74 i7 ≠ 0 by omega)
          refine ezw_aload_n rfl rfl ?_
          refine ezw_dup rfl rfl ?_
          refine ezm_g7 rfl ?_
          refine ezw_iconst (1) rfl rfl ?_
          refine ezw_iadd (k := i7 + 1) rfl (by omega) ?_
          refine ezm_p7 hT rfl ⟨by omega, by omega⟩ (fun hT => ?_)
          refine ezw_aload_n rfl rfl ?_
          refine ezm_gp (p := 76) rfl (fun _ => rfl) ?_
          refine ezw_aload_n rfl rfl ?_
          refine ezm_g7 rfl ?_
          have k22 := hT.t7
          refine ezw_iconst (1) rfl rfl ?_
          refine ezw_isub (k := i7) rfl (by omega) ?_
          refine ezm_l76 rfl (by omega) (by omega) (fun u23 eu23 => ?_)
          have ku23 : ezw_il u23 := eu23 ▸ hT.t76 i7
          refine ezw_l2i rfl rfl ?_
          exact ezw_ireturn rfl rfl ⟨(i7 + 1), i8, rfl, hT, u23, ⟨by omega, by omega⟩, by omega, by omega, by omega, by
                first
                  | (exfalso; omega)
                  | (rw [ezp_n_n (by omega)]; exact st)
                  | (rw [ezp_nE0 ⟨by omega, by omega⟩ (by omega)]; exact ezm_ST_t st (by omega) (fun _ => by omega)), fun z => by omega, rfl⟩
        · refine ezw_iconst (0) rfl rfl ?_
          exact ezw_ireturn rfl rfl ⟨i7, i8, rfl, hT, (0), ⟨by decide, by decide⟩, by omega, by omega, by omega, by
                first
                  | (exfalso; omega)
                  | (rw [ezp_n_n (by omega)]; exact st)
                  | (rw [ezp_nE0 ⟨by omega, by omega⟩ (by omega)]; exact ezm_ST_t st (by omega) (fun _ => by omega)), fun z => by omega, rfl⟩
      · refine ezw_aload_n rfl rfl ?_
        refine ezm_gp (p := 76) rfl (fun _ => rfl) ?_
        refine ezw_aload_n rfl rfl ?_
        refine ezm_g7 rfl ?_
        refine ezm_l76 rfl (by omega) (by omega) (fun u24 eu24 => ?_)
        have ku24 : ezw_il u24 := eu24 ▸ hT.t76 i7
        refine ezw_iload_n rfl rfl ?_
        refine ezw_i2l rfl ha1 rfl ?_
        refine ezw_lcmpE rfl ku24 (ezw_in_il ha1) (fun u25 hu25 => ?_)
        refine ezw_if_lt rfl rfl ⟨by omega, by omega⟩ (fun h47_25 => ?_) (fun h47_25 => ?_)
        · refine ezw_aload_n rfl rfl ?_
          refine ezw_iconst (4) rfl rfl ?_
          refine ezw_call0_1 rfl (by omega) (ezm_at rfl) rfl rfl rfl rfl (ezm_m225p hT (by omega) ⟨by decide, by decide⟩ (by omega) (by omega) (by omega) hs (by omega) tk hM st) ?_
          rintro _ _ ⟨x8_26, rfl, hT, p26_0, p26_1, st_26, rfl⟩
          have k27 := hT.t8
          refine ezw_aload_n rfl rfl ?_
          refine ezm_g8 rfl ?_
          refine ezw_if_le rfl rfl ⟨by omega, by omega⟩ (fun h74_27 => ?_) (fun h74_27 => ?_)
          · have hlt := ezm_lt hn.2 hs (show r74 i7 ≠ 0 by omega)
            refine ezw_aload_n rfl rfl ?_
            refine ezw_dup rfl rfl ?_
            refine ezm_g7 rfl ?_
            refine ezw_iconst (1) rfl rfl ?_
            refine ezw_iadd (k := i7 + 1) rfl (by omega) ?_
            refine ezm_p7 hT rfl ⟨by omega, by omega⟩ (fun hT => ?_)
            refine ezw_aload_n rfl rfl ?_
            refine ezm_gp (p := 76) rfl (fun _ => rfl) ?_
            refine ezw_aload_n rfl rfl ?_
            refine ezm_g7 rfl ?_
            have k28 := hT.t7
            refine ezw_iconst (1) rfl rfl ?_
            refine ezw_isub (k := i7) rfl (by omega) ?_
            refine ezm_l76 rfl (by omega) (by omega) (fun u29 eu29 => ?_)
            have fu29 : u24 = u29 := eu24.trans eu29.symm
            subst fu29
            refine ezw_l2i rfl rfl ?_
            exact ezw_ireturn rfl rfl ⟨(i7 + 1), x8_26, rfl, hT, u24, ⟨by omega, by omega⟩, by omega, by omega, by omega, by
                  first
                    | (exfalso; omega)
                    | (rw [ezp_nE4 ⟨by omega, by omega⟩ (by omega) hP]; exact ezm_ST_7 st_26 (by omega) (fun _ => by omega)), fun z => by omega, rfl⟩
          · refine ezw_iconst (0) rfl rfl ?_
            exact ezw_ireturn rfl rfl ⟨i7, x8_26, rfl, hT, (0), ⟨by decide, by decide⟩, by omega, by omega, by omega, by
                  first
                    | (exfalso; omega)
                    | (rw [ezp_nE4 ⟨by omega, by omega⟩ (by omega) hP]; exact ezm_ST_7 st_26 (by omega) (fun _ => by omega)), fun z => by omega, rfl⟩
        · refine ezw_aload_n rfl rfl ?_
          refine ezm_gp (p := 76) rfl (fun _ => rfl) ?_
          refine ezw_aload_n rfl rfl ?_
          refine ezm_g7 rfl ?_
          refine ezm_l76 rfl (by omega) (by omega) (fun u30 eu30 => ?_)
          have fu30 : u24 = u30 := eu24.trans eu30.symm
          subst fu30
          refine ezw_iload_n rfl rfl ?_
          refine ezw_i2l rfl ha2 rfl ?_
          refine ezw_lcmpE rfl ku24 (ezw_in_il ha2) (fun u31 hu31 => ?_)
          refine ezw_if_le rfl rfl ⟨by omega, by omega⟩ (fun h62_31 => ?_) (fun h62_31 => ?_)
          · refine ezw_aload_n rfl rfl ?_
            refine ezm_g8 rfl ?_
            refine ezw_if_le rfl rfl ⟨by omega, by omega⟩ (fun h74_31 => ?_) (fun h74_31 => ?_)
            · have hlt := ezm_lt hn.2 hs (show r74 i7 ≠ 0 by omega)
              refine ezw_aload_n rfl rfl ?_
              refine ezw_dup rfl rfl ?_
              refine ezm_g7 rfl ?_
              refine ezw_iconst (1) rfl rfl ?_
              refine ezw_iadd (k := i7 + 1) rfl (by omega) ?_
              refine ezm_p7 hT rfl ⟨by omega, by omega⟩ (fun hT => ?_)
              refine ezw_aload_n rfl rfl ?_
              refine ezm_gp (p := 76) rfl (fun _ => rfl) ?_
              refine ezw_aload_n rfl rfl ?_
              refine ezm_g7 rfl ?_
              have k32 := hT.t7
              refine ezw_iconst (1) rfl rfl ?_
              refine ezw_isub (k := i7) rfl (by omega) ?_
              refine ezm_l76 rfl (by omega) (by omega) (fun u33 eu33 => ?_)
              have fu33 : u24 = u33 := eu24.trans eu33.symm
              subst fu33
              refine ezw_l2i rfl rfl ?_
              exact ezw_ireturn rfl rfl ⟨(i7 + 1), i8, rfl, hT, u24, ⟨by omega, by omega⟩, by omega, by omega, by omega, by
                    first
                      | (exfalso; omega)
                      | (rw [ezp_n_n (by omega)]; exact st)
                      | (rw [ezp_nE0 ⟨by omega, by omega⟩ (by omega)]; exact ezm_ST_t st (by omega) (fun _ => by omega)), fun z => by omega, rfl⟩
            · refine ezw_iconst (0) rfl rfl ?_
              exact ezw_ireturn rfl rfl ⟨i7, i8, rfl, hT, (0), ⟨by decide, by decide⟩, by omega, by omega, by omega, by
                    first
                      | (exfalso; omega)
                      | (rw [ezp_n_n (by omega)]; exact st)
                      | (rw [ezp_nE0 ⟨by omega, by omega⟩ (by omega)]; exact ezm_ST_t st (by omega) (fun _ => by omega)), fun z => by omega, rfl⟩
          · refine ezw_aload_n rfl rfl ?_
            refine ezw_iconst (4) rfl rfl ?_
            refine ezw_call0_1 rfl (by omega) (ezm_at rfl) rfl rfl rfl rfl (ezm_m225p hT (by omega) ⟨by decide, by decide⟩ (by omega) (by omega) (by omega) hs (by omega) tk hM st) ?_
            rintro _ _ ⟨x8_34, rfl, hT, p34_0, p34_1, st_34, rfl⟩
            have k35 := hT.t8
            refine ezw_aload_n rfl rfl ?_
            refine ezm_g8 rfl ?_
            refine ezw_if_le rfl rfl ⟨by omega, by omega⟩ (fun h74_35 => ?_) (fun h74_35 => ?_)
            · have hlt := ezm_lt hn.2 hs (show r74 i7 ≠ 0 by omega)
              refine ezw_aload_n rfl rfl ?_
              refine ezw_dup rfl rfl ?_
              refine ezm_g7 rfl ?_
              refine ezw_iconst (1) rfl rfl ?_
              refine ezw_iadd (k := i7 + 1) rfl (by omega) ?_
              refine ezm_p7 hT rfl ⟨by omega, by omega⟩ (fun hT => ?_)
              refine ezw_aload_n rfl rfl ?_
              refine ezm_gp (p := 76) rfl (fun _ => rfl) ?_
              refine ezw_aload_n rfl rfl ?_
              refine ezm_g7 rfl ?_
              have k36 := hT.t7
              refine ezw_iconst (1) rfl rfl ?_
              refine ezw_isub (k := i7) rfl (by omega) ?_
              refine ezm_l76 rfl (by omega) (by omega) (fun u37 eu37 => ?_)
              have fu37 : u24 = u37 := eu24.trans eu37.symm
              subst fu37
              refine ezw_l2i rfl rfl ?_
              exact ezw_ireturn rfl rfl ⟨(i7 + 1), x8_34, rfl, hT, u24, ⟨by omega, by omega⟩, by omega, by omega, by omega, by
                    first
                      | (exfalso; omega)
                      | (rw [ezp_nE4 ⟨by omega, by omega⟩ (by omega) hP]; exact ezm_ST_7 st_34 (by omega) (fun _ => by omega)), fun z => by omega, rfl⟩
            · refine ezw_iconst (0) rfl rfl ?_
              exact ezw_ireturn rfl rfl ⟨i7, x8_34, rfl, hT, (0), ⟨by decide, by decide⟩, by omega, by omega, by omega, by
                    first
                      | (exfalso; omega)
                      | (rw [ezp_nE4 ⟨by omega, by omega⟩ (by omega) hP]; exact ezm_ST_7 st_34 (by omega) (fun _ => by omega)), fun z => by omega, rfl⟩
    · refine ezw_aload_n rfl rfl ?_
      refine ezw_iconst (1) rfl rfl ?_
      refine ezw_call0_1 rfl (by omega) (ezm_at rfl) rfl rfl rfl rfl (ezm_m225p hT (by omega) ⟨by decide, by decide⟩ (by omega) (by omega) (by omega) hs (by omega) tk hM st) ?_
      rintro _ _ ⟨x8_38, rfl, hT, p38_0, p38_1, st_38, rfl⟩
      have k39 := hT.t8
      refine ezw_goto rfl rfl ?_
      refine ezw_aload_n rfl rfl ?_
      refine ezm_g8 rfl ?_
      refine ezw_if_le rfl rfl ⟨by omega, by omega⟩ (fun h74_39 => ?_) (fun h74_39 => ?_)
      · have hlt := ezm_lt hn.2 hs (show r74 i7 ≠ 0 by omega)
        refine ezw_aload_n rfl rfl ?_
        refine ezw_dup rfl rfl ?_
        refine ezm_g7 rfl ?_
        refine ezw_iconst (1) rfl rfl ?_
        refine ezw_iadd (k := i7 + 1) rfl (by omega) ?_
        refine ezm_p7 hT rfl ⟨by omega, by omega⟩ (fun hT => ?_)
        refine ezw_aload_n rfl rfl ?_
        refine ezm_gp (p := 76) rfl (fun _ => rfl) ?_
        refine ezw_aload_n rfl rfl ?_
        refine ezm_g7 rfl ?_
        have k40 := hT.t7
        refine ezw_iconst (1) rfl rfl ?_
        refine ezw_isub (k := i7) rfl (by omega) ?_
        refine ezm_l76 rfl (by omega) (by omega) (fun u41 eu41 => ?_)
        have ku41 : ezw_il u41 := eu41 ▸ hT.t76 i7
        refine ezw_l2i rfl rfl ?_
        exact ezw_ireturn rfl rfl ⟨(i7 + 1), x8_38, rfl, hT, u41, ⟨by omega, by omega⟩, by omega, by omega, by omega, by
              first
                | (exfalso; omega)
                | (rw [ezp_nE1 (by omega) hP]; exact ezm_ST_7 st_38 (by omega) (fun _ => by omega)), fun z => by omega, rfl⟩
      · refine ezw_iconst (0) rfl rfl ?_
        exact ezw_ireturn rfl rfl ⟨i7, x8_38, rfl, hT, (0), ⟨by decide, by decide⟩, by omega, by omega, by omega, by
              first
                | (exfalso; omega)
                | (rw [ezp_nE1 (by omega) hP]; exact ezm_ST_7 st_38 (by omega) (fun _ => by omega)), fun z => by omega, rfl⟩
def ezm_m230pQ (e : Bool × Bool) (F : Nat → Nat → Int) (A : Nat → Int → Int) (i0 i2 i3 i7 i8 i13 i18 i19 i20 i25 i29 i30 i31 i36 i37 i38 : Int) (r73 r74 r75 r76 r77 r78 r79 r80 r81 r82 r83 r84 r85 r86 r87 r88 r89 r90 r91 r92 r93 r94 r95 : Int → Int) (n : Int) (c : Int → Int) (s : Int × Int) (a1 : Int) (a2 : Int) (a3 : Int) : Option ezq_V → (Nat → ezq_C) → Prop := fun v g' => ∃ (x7 x8 : Int), ezm_h e F A i0 i2 i3 x7 x8 i13 i18 i19 i20 i25 i29 i30 i31 i36 i37 i38 r73 r74 r75 r76 r77 r78 r79 r80 r81 r82 r83 r84 r85 r86 r87 r88 r89 r90 r91 r92 r93 r94 r95 = g' ∧ ezm_T i0 i2 i3 x7 x8 i13 i18 i19 i20 i25 i29 i30 i31 i36 i37 i38 r73 r74 r75 r76 r77 r78 r79 r80 r81 r82 r83 r84 r85 r86 r87 r88 r89 r90 r91 r92 r93 r94 r95 ∧ ∃ u : Int, (ezw_in u) ∧ (i8 ≠ 0 → x8 = i8) ∧ (x8 = 0 → a2 ≤ u ∧ u ≤ a3 ∧ i8 = 0 ∧ x7 = i7 + 2 ∧ x7 ≤ n) ∧ (x8 ≠ 0 → u = 0 ∧ i7 ≤ x7 ∧ x7 ≤ n) ∧ (ezm_ST (ezp_n c a2 a3 (ezp_w c a1 s)) x8 x7) ∧ (ezm_I (x8 = 0) (u = ezp_V c (ezp_w c a1 s).2)) ∧ some (ezw_i u) = v
set_option maxHeartbeats 8000000 in
theorem ezm_m230p {c : Int → Int} {s : Int × Int} {n a1 a2 a3 : Int} (hT : ezm_T i0 i2 i3 i7 i8 i13 i18 i19 i20 i25 i29 i30 i31 i36 i37 i38 r73 r74 r75 r76 r77 r78 r79 r80 r81 r82 r83 r84 r85 r86 r87 r88 r89 r90 r91 r92 r93 r94 r95) (hd : 3 ≤ d) (ha1 : ezw_in a1) (ha2 : ezw_in a2) (ha3 : ezw_in a3) (hn : 0 ≤ i7 ∧ i7 ≤ n) (hs : r74 n = 0) (h1 : n ≤ 1000) (tk : ezm_TK c n r74 r75 r76) (hM : ∀ w, 0 ≤ w → w < 48 → r77 w = ezl_mw.getD w.toNat 0) (st : ezm_ST s i8 i7) (ga : 0 ≤ a1 ∧ a1 ≤ 43) : ezw_C l ρ B xa Hb D cA 230 d [ezw_p 72, ezw_i a1, ezw_i a2, ezw_i a3] (ezm_h e F A i0 i2 i3 i7 i8 i13 i18 i19 i20 i25 i29 i30 i31 i36 i37 i38 r73 r74 r75 r76 r77 r78 r79 r80 r81 r82 r83 r84 r85 r86 r87 r88 r89 r90 r91 r92 r93 r94 r95) (ezm_m230pQ  e F A i0 i2 i3 i7 i8 i13 i18 i19 i20 i25 i29 i30 i31 i36 i37 i38 r73 r74 r75 r76 r77 r78 r79 r80 r81 r82 r83 r84 r85 r86 r87 r88 r89 r90 r91 r92 r93 r94 r95 n c s a1 a2 a3) := by
  refine ezw_met (k := 0) rfl rfl ?_
  obtain ⟨se, sa, sp, hP, sw, sk⟩ := ezm_TKi tk st hn
  refine ezw_aload_n rfl rfl ?_
  refine ezw_iload_n rfl rfl ?_
  refine ezw_call0_1 rfl (by omega) (ezm_at rfl) rfl rfl rfl rfl (ezm_m231p hT (by omega) ha1 (by omega) hs (by omega) tk hM st (by omega)) ?_
  rintro _ _ ⟨x7_1, x8_1, rfl, hT, p1_0, p1_1, p1_2, st_1, rfl⟩
  have k2 := hT.t7
  have k3 := hT.t8
  refine ezw_aload_n rfl rfl ?_
  refine ezw_iload_n rfl rfl ?_
  refine ezw_iload_n rfl rfl ?_
  refine ezw_call0_2 rfl (by omega) (ezm_at rfl) rfl rfl rfl rfl (ezm_m233p hT (by omega) ha2 ha3 (by omega) hs (by omega) tk hM st_1) ?_
  rintro _ _ ⟨x7_4, x8_4, rfl, hT, u5, hu5, p4_0, p4_1, p4_2, st_4, v_4, rfl⟩
  have k6 := hT.t7
  have k7 := hT.t8
  exact ezw_ireturn rfl rfl ⟨x7_4, x8_4, rfl, hT, u5, hu5, by omega, by omega, by omega, st_4, v_4, rfl⟩
def ezm_m228pQ (e : Bool × Bool) (F : Nat → Nat → Int) (A : Nat → Int → Int) (i0 i2 i3 i7 i8 i13 i18 i19 i20 i25 i29 i30 i31 i36 i37 i38 : Int) (r73 r74 r75 r76 r77 r78 r79 r80 r81 r82 r83 r84 r85 r86 r87 r88 r89 r90 r91 r92 r93 r94 r95 : Int → Int) (n : Int) (c : Int → Int) (s : Int × Int) (a1 : Int) (a2 : Int) : Option ezq_V → (Nat → ezq_C) → Prop := fun v g' => ezm_h e F A i0 i2 i3 i7 i8 i13 i18 i19 i20 i25 i29 i30 i31 i36 i37 i38 r73 r74 r75 r76 r77 r78 r79 r80 r81 r82 r83 r84 r85 r86 r87 r88 r89 r90 r91 r92 r93 r94 r95 = g' ∧ ∃ u : Int, (ezw_in u) ∧ (-1 ≤ u) ∧ (u = -1 ∨ u < a2) ∧ (0 ≤ u → i8 = 0 ∧ i7 < n) ∧ ((s.1 = 0 ∧ r74 i7 = 1 → (a1 ≤ ezp_ix (ezp_W c s.2) ∧ ezp_ix (ezp_W c s.2) < a1 + a2 → u = ezp_ix (ezp_W c s.2) - a1) ∧ (¬ (a1 ≤ ezp_ix (ezp_W c s.2) ∧ ezp_ix (ezp_W c s.2) < a1 + a2) → u = -1)) ∧ (¬ (s.1 = 0 ∧ r74 i7 = 1) → u = -1)) ∧ some (ezw_i u) = v
set_option maxHeartbeats 8000000 in
theorem ezm_m228p {c : Int → Int} {s : Int × Int} {n a1 a2 : Int} (hT : ezm_T i0 i2 i3 i7 i8 i13 i18 i19 i20 i25 i29 i30 i31 i36 i37 i38 r73 r74 r75 r76 r77 r78 r79 r80 r81 r82 r83 r84 r85 r86 r87 r88 r89 r90 r91 r92 r93 r94 r95) (hd : 1 ≤ d) (ha1 : ezw_in a1) (ha2 : ezw_in a2) (ga : 0 ≤ a1 ∧ 0 ≤ a2 ∧ a1 + a2 ≤ 48) (hn : 0 ≤ i7 ∧ i7 ≤ n) (hs : r74 n = 0) (h1 : n ≤ 1000) (tk : ezm_TK c n r74 r75 r76) (hM : ∀ w, 0 ≤ w → w < 48 → r77 w = ezl_mw.getD w.toNat 0) (st : ezm_ST s i8 i7) : ezw_C l ρ B xa Hb D cA 228 d [ezw_p 72, ezw_i a1, ezw_i a2] (ezm_h e F A i0 i2 i3 i7 i8 i13 i18 i19 i20 i25 i29 i30 i31 i36 i37 i38 r73 r74 r75 r76 r77 r78 r79 r80 r81 r82 r83 r84 r85 r86 r87 r88 r89 r90 r91 r92 r93 r94 r95) (ezm_m228pQ  e F A i0 i2 i3 i7 i8 i13 i18 i19 i20 i25 i29 i30 i31 i36 i37 i38 r73 r74 r75 r76 r77 r78 r79 r80 r81 r82 r83 r84 r85 r86 r87 r88 r89 r90 r91 r92 r93 r94 r95 n c s a1 a2) := by
  refine ezw_met (k := 2) rfl rfl ?_
  obtain ⟨se, sa, sp, hP, sw, sk⟩ := ezm_TKi tk st hn
  refine ezw_iconst (-1) rfl rfl ?_
  refine ezw_istore_n rfl rfl ?_
  refine ezw_iconst (0) rfl rfl ?_
  refine ezw_istore rfl rfl ?_
  have L5_2 : ∀ c1 : Int, ezw_in c1 → ∀ y3 : Int, ezw_in y3 → ((0) ≤ c1) → (-1 ≤ y3) → (y3 = -1 ∨ y3 < a2) → (0 ≤ y3 → i8 = 0 ∧ i7 < n) → ((s.1 = 0 ∧ r74 i7 = 1 → (a1 ≤ ezp_ix (ezp_W c s.2) ∧ ezp_ix (ezp_W c s.2) < a1 + c1 → y3 = ezp_ix (ezp_W c s.2) - a1) ∧ (¬ (a1 ≤ ezp_ix (ezp_W c s.2) ∧ ezp_ix (ezp_W c s.2) < a1 + c1) → y3 = -1)) ∧ (¬ (s.1 = 0 ∧ r74 i7 = 1) → y3 = -1)) → ezw_E l ρ B xa Hb D cA d ezq_re228 (ezm_m228pQ  e F A i0 i2 i3 i7 i8 i13 i18 i19 i20 i25 i29 i30 i31 i36 i37 i38 r73 r74 r75 r76 r77 r78 r79 r80 r81 r82 r83 r84 r85 r86 r87 r88 r89 r90 r91 r92 r93 r94 r95 n c s a1 a2) 5 [some (ezw_p 72), some (ezw_i a1), some (ezw_i a2), some (ezw_i y3), some (ezw_i c1)] [] (ezm_h e F A i0 i2 i3 i7 i8 i13 i18 i19 i20 i25 i29 i30 i31 i36 i37 i38 r73 r74 r75 r76 r77 r78 r79 r80 r81 r82 r83 r84 r85 r86 r87 r88 r89 r90 r91 r92 r93 r94 r95) := by
    refine ezs_up ?_
    intro c1 hc1 ihc1 y3 hy3 g_2 v1_2 v2_2 v3_2 wh_2
    refine ezw_iload rfl rfl ?_
    refine ezw_iload_n rfl rfl ?_
    refine ezw_icmp_ge rfl rfl hc1 ha2 (fun h8_3 => ?_) (fun h8_3 => ?_)
    · refine ezw_iload_n rfl rfl ?_
      exact ezw_ireturn rfl rfl ⟨rfl, y3, hy3, by omega, by omega, by omega, by omega, rfl⟩
    · refine ezw_aload_n rfl rfl ?_
      refine ezw_iload_n rfl rfl ?_
      refine ezw_iload rfl rfl ?_
      refine ezw_iadd (k := a1 + c1) rfl (by omega) ?_
      refine ezw_call0_1 rfl (by omega) (ezm_at rfl) rfl rfl rfl rfl (ezm_m223p hT (by omega) ⟨by omega, by omega⟩ (by omega) (by omega) hs (by omega) tk hM st) ?_
      rintro _ _ ⟨rfl, u5, hu5, f_4, w_4, q1_4, q0_4, rfl⟩
      refine ezw_if_eq rfl rfl ⟨by omega, by omega⟩ (fun h19_5 => ?_) (fun h19_5 => ?_)
      · refine ezw_iload_n rfl rfl ?_
        refine ezw_istore_n rfl rfl ?_
        refine ezw_iinc (k := c1 + 1) (1) rfl rfl rfl (by omega) rfl ?_
        refine ezw_goto rfl rfl ?_
        exact ezw_keepE [true, true, true, true, true] (ihc1 (c1 + 1) (by omega) ⟨by omega, by omega⟩ y3 hy3 (by omega) (by omega) (by omega) (by omega) (by omega))
      · refine ezw_iload rfl rfl ?_
        refine ezw_goto rfl rfl ?_
        refine ezw_istore_n rfl rfl ?_
        refine ezw_iinc (k := c1 + 1) (1) rfl rfl rfl (by omega) rfl ?_
        refine ezw_goto rfl rfl ?_
        exact ezw_keepE [true, true, true, true, true] (ihc1 (c1 + 1) (by omega) ⟨by omega, by omega⟩ c1 hc1 (by omega) (by omega) (by omega) (by omega) (by omega))
  exact ezw_keepE [true, true, true, true, true] (L5_2 (0) ⟨by decide, by decide⟩ (-1) ⟨by decide, by decide⟩ (by omega) (by omega) (by omega) (by omega) (by omega))
def ezm_m227pQ (e : Bool × Bool) (F : Nat → Nat → Int) (A : Nat → Int → Int) (i0 i2 i3 i7 i8 i13 i18 i19 i20 i25 i29 i30 i31 i36 i37 i38 : Int) (r73 r74 r75 r76 r77 r78 r79 r80 r81 r82 r83 r84 r85 r86 r87 r88 r89 r90 r91 r92 r93 r94 r95 : Int → Int) (n : Int) (c : Int → Int) (s : Int × Int) : Option ezq_V → (Nat → ezq_C) → Prop := fun v g' => ezm_h e F A i0 i2 i3 i7 i8 i13 i18 i19 i20 i25 i29 i30 i31 i36 i37 i38 r73 r74 r75 r76 r77 r78 r79 r80 r81 r82 r83 r84 r85 r86 r87 r88 r89 r90 r91 r92 r93 r94 r95 = g' ∧ ∃ u : Int, (0 ≤ u ∧ u ≤ 1) ∧ (u = 1 → i8 = 0 ∧ i7 < n) ∧ (u = 1 → s.1 = 0 ∧ ezp_K c s.2 = 100) ∧ (u = 0 → s.1 ≠ 0 ∨ ezp_K c s.2 ≠ 100) ∧ some (ezw_i u) = v
set_option maxHeartbeats 8000000 in
theorem ezm_m227p {c : Int → Int} {s : Int × Int} {n : Int} (hT : ezm_T i0 i2 i3 i7 i8 i13 i18 i19 i20 i25 i29 i30 i31 i36 i37 i38 r73 r74 r75 r76 r77 r78 r79 r80 r81 r82 r83 r84 r85 r86 r87 r88 r89 r90 r91 r92 r93 r94 r95) (hd : 2 ≤ d) (hn : 0 ≤ i7 ∧ i7 ≤ n) (hs : r74 n = 0) (h1 : n ≤ 1000) (tk : ezm_TK c n r74 r75 r76) (hM : ∀ w, 0 ≤ w → w < 48 → r77 w = ezl_mw.getD w.toNat 0) (st : ezm_ST s i8 i7) : ezw_C l ρ B xa Hb D cA 227 d [ezw_p 72] (ezm_h e F A i0 i2 i3 i7 i8 i13 i18 i19 i20 i25 i29 i30 i31 i36 i37 i38 r73 r74 r75 r76 r77 r78 r79 r80 r81 r82 r83 r84 r85 r86 r87 r88 r89 r90 r91 r92 r93 r94 r95) (ezm_m227pQ  e F A i0 i2 i3 i7 i8 i13 i18 i19 i20 i25 i29 i30 i31 i36 i37 i38 r73 r74 r75 r76 r77 r78 r79 r80 r81 r82 r83 r84 r85 r86 r87 r88 r89 r90 r91 r92 r93 r94 r95 n c s) := by
  refine ezw_met (k := 0) rfl rfl ?_
  obtain ⟨se, sa, sp, hP, sw, sk⟩ := ezm_TKi tk st hn
  refine ezw_aload_n rfl rfl ?_
  refine ezm_g8 rfl ?_
  have k1 := hT.t8
  refine ezw_if_ne rfl rfl ⟨by omega, by omega⟩ (fun h4_1 => ?_) (fun h4_1 => ?_)
  · refine ezw_iconst (0) rfl rfl ?_
    exact ezw_ireturn rfl (ezw_zret ⟨by omega, by omega⟩) ⟨rfl, (0), ⟨by omega, by omega⟩, by omega, by omega, by omega, rfl⟩
  · refine ezw_aload_n rfl rfl ?_
    refine ezm_gp (p := 74) rfl (fun _ => rfl) ?_
    refine ezw_aload_n rfl rfl ?_
    refine ezm_g7 rfl ?_
    have k2 := hT.t7
    refine ezm_l74 rfl (by omega) (by omega) (fun u3 eu3 => ?_)
    have ku3 : ezw_in u3 := eu3 ▸ hT.t74 i7
    refine ezw_iconst (1) rfl rfl ?_
    refine ezw_icmp_ne rfl rfl ku3 ⟨by decide, by decide⟩ (fun h17_3 => ?_) (fun h17_3 => ?_)
    · refine ezw_iconst (0) rfl rfl ?_
      exact ezw_ireturn rfl (ezw_zret ⟨by omega, by omega⟩) ⟨rfl, (0), ⟨by omega, by omega⟩, by omega, by omega, by omega, rfl⟩
    · refine ezw_aload_n rfl rfl ?_
      refine ezw_iconst (0) rfl rfl ?_
      refine ezw_bipush (44) rfl rfl ?_
      refine ezw_call0_2 rfl (by omega) (ezm_at rfl) rfl rfl rfl rfl (ezm_m228p hT (by omega) ⟨by decide, by decide⟩ ⟨by decide, by decide⟩ (by omega) (by omega) hs (by omega) tk hM st) ?_
      rintro _ _ ⟨rfl, u5, hu5, p4_0, p4_1, p4_2, wh_4, rfl⟩
      refine ezw_if_ge rfl rfl hu5 (fun h27_5 => ?_) (fun h27_5 => ?_)
      · refine ezw_iconst (0) rfl rfl ?_
        exact ezw_ireturn rfl (ezw_zret ⟨by omega, by omega⟩) ⟨rfl, (0), ⟨by omega, by omega⟩, by omega, by omega, by omega, rfl⟩
      · refine ezw_iconst (1) rfl rfl ?_
        refine ezw_goto rfl rfl ?_
        exact ezw_ireturn rfl (ezw_zret ⟨by omega, by omega⟩) ⟨rfl, (1), ⟨by omega, by omega⟩, fun _ => ⟨by omega, ezm_lt (by omega) hs (by omega)⟩, by omega, by omega, rfl⟩
def ezm_m234pQ (e : Bool × Bool) (F : Nat → Nat → Int) (A : Nat → Int → Int) (i0 i2 i3 i7 i8 i13 i18 i19 i20 i25 i29 i30 i31 i36 i37 i38 : Int) (r73 r74 r75 r76 r77 r78 r79 r80 r81 r82 r83 r84 r85 r86 r87 r88 r89 r90 r91 r92 r93 r94 r95 : Int → Int) (n : Int) (c : Int → Int) (s : Int × Int) (a1 : Int) (a2 : Int) : Option ezq_V → (Nat → ezq_C) → Prop := fun v g' => ∃ (x7 x8 : Int), ezm_h e F A i0 i2 i3 x7 x8 i13 i18 i19 i20 i25 i29 i30 i31 i36 i37 i38 r73 r74 r75 r76 r77 r78 r79 r80 r81 r82 r83 r84 r85 r86 r87 r88 r89 r90 r91 r92 r93 r94 r95 = g' ∧ ezm_T i0 i2 i3 x7 x8 i13 i18 i19 i20 i25 i29 i30 i31 i36 i37 i38 r73 r74 r75 r76 r77 r78 r79 r80 r81 r82 r83 r84 r85 r86 r87 r88 r89 r90 r91 r92 r93 r94 r95 ∧ ∃ u : Int, (ezw_in u) ∧ (i8 ≠ 0 → x8 = i8) ∧ (x8 = 0 → 0 ≤ u ∧ u < a2 ∧ i8 = 0 ∧ x7 = i7 + 1 ∧ x7 ≤ n) ∧ (x8 ≠ 0 → u = 0 ∧ x7 = i7) ∧ (ezm_ST (ezp_o c a1 a2 s) x8 x7) ∧ (ezm_I (x8 = 0) (u = ezp_K c s.2 - a1)) ∧ some (ezw_i u) = v
set_option maxHeartbeats 8000000 in
theorem ezm_m234p {c : Int → Int} {s : Int × Int} {n a1 a2 : Int} (hT : ezm_T i0 i2 i3 i7 i8 i13 i18 i19 i20 i25 i29 i30 i31 i36 i37 i38 r73 r74 r75 r76 r77 r78 r79 r80 r81 r82 r83 r84 r85 r86 r87 r88 r89 r90 r91 r92 r93 r94 r95) (hd : 2 ≤ d) (ha1 : ezw_in a1) (ha2 : ezw_in a2) (hn : 0 ≤ i7 ∧ i7 ≤ n) (hs : r74 n = 0) (h1 : n ≤ 1000) (tk : ezm_TK c n r74 r75 r76) (hM : ∀ w, 0 ≤ w → w < 48 → r77 w = ezl_mw.getD w.toNat 0) (st : ezm_ST s i8 i7) (ga : 0 ≤ a1 ∧ 1 ≤ a2 ∧ a1 + a2 ≤ 44) : ezw_C l ρ B xa Hb D cA 234 d [ezw_p 72, ezw_i a1, ezw_i a2] (ezm_h e F A i0 i2 i3 i7 i8 i13 i18 i19 i20 i25 i29 i30 i31 i36 i37 i38 r73 r74 r75 r76 r77 r78 r79 r80 r81 r82 r83 r84 r85 r86 r87 r88 r89 r90 r91 r92 r93 r94 r95) (ezm_m234pQ  e F A i0 i2 i3 i7 i8 i13 i18 i19 i20 i25 i29 i30 i31 i36 i37 i38 r73 r74 r75 r76 r77 r78 r79 r80 r81 r82 r83 r84 r85 r86 r87 r88 r89 r90 r91 r92 r93 r94 r95 n c s a1 a2) := by
  refine ezw_met (k := 1) rfl rfl ?_
  obtain ⟨se, sa, sp, hP, sw, sk⟩ := ezm_TKi tk st hn
  refine ezw_aload_n rfl rfl ?_
  refine ezm_g8 rfl ?_
  have k1 := hT.t8
  refine ezw_if_le rfl rfl ⟨by omega, by omega⟩ (fun h4_1 => ?_) (fun h4_1 => ?_)
  · refine ezw_aload_n rfl rfl ?_
    refine ezw_iload_n rfl rfl ?_
    refine ezw_iload_n rfl rfl ?_
    refine ezw_call0_2 rfl (by omega) (ezm_at rfl) rfl rfl rfl rfl (ezm_m228p hT (by omega) ha1 ha2 (by omega) (by omega) hs (by omega) tk hM st) ?_
    rintro _ _ ⟨rfl, u3, hu3, p2_0, p2_1, p2_2, wh_2, rfl⟩
    refine ezw_istore_n rfl rfl ?_
    refine ezw_aload_n rfl rfl ?_
    refine ezm_g8 rfl ?_
    refine ezw_if_ne rfl rfl ⟨by omega, by omega⟩ (fun h22_3 => ?_) (fun h22_3 => ?_)
    · refine ezw_aload_n rfl rfl ?_
      refine ezw_dup rfl rfl ?_
      refine ezm_g7 rfl ?_
      have k4 := hT.t7
      refine ezw_aload_n rfl rfl ?_
      refine ezm_g8 rfl ?_
      refine ezw_if_le rfl rfl ⟨by omega, by omega⟩ (fun h43_4 => ?_) (fun h43_4 => ?_)
      · refine ezw_iconst (1) rfl rfl ?_
        refine ezw_iadd (k := i7 + 1) rfl (by omega) ?_
        refine ezm_p7 hT rfl ⟨by omega, by omega⟩ (fun hT => ?_)
        refine ezw_aload_n rfl rfl ?_
        refine ezm_g8 rfl ?_
        refine ezw_if_le rfl rfl ⟨by omega, by omega⟩ (fun h59_4 => ?_) (fun h59_4 => ?_)
        · refine ezw_iload_n rfl rfl ?_
          exact ezw_ireturn rfl rfl ⟨(i7 + 1), i8, rfl, hT, u3, hu3, by omega, by omega, by omega, by
                first
                  | (exfalso; omega)
                  | (rw [ezp_o_n (by omega)]; exact ezm_ST_7 st (by omega) (fun _ => by omega))
                  | (rw [ezp_oE0 ⟨by omega, by omega, by omega⟩]; exact ezm_ST_t st (by omega) (fun _ => by omega)), fun z => by omega, rfl⟩
        · refine ezw_iconst (0) rfl rfl ?_
          refine ezw_goto rfl rfl ?_
          exact ezw_ireturn rfl rfl ⟨(i7 + 1), i8, rfl, hT, (0), ⟨by decide, by decide⟩, by omega, by omega, by omega, by
                first
                  | (exfalso; omega)
                  | (rw [ezp_o_n (by omega)]; exact ezm_ST_7 st (by omega) (fun _ => by omega))
                  | (rw [ezp_oE0 ⟨by omega, by omega, by omega⟩]; exact ezm_ST_t st (by omega) (fun _ => by omega)), fun z => by omega, rfl⟩
      · refine ezw_iconst (0) rfl rfl ?_
        refine ezw_goto rfl rfl ?_
        refine ezw_iadd (k := i7) rfl (by omega) ?_
        refine ezm_p7 hT rfl ⟨by omega, by omega⟩ (fun hT => ?_)
        refine ezw_aload_n rfl rfl ?_
        refine ezm_g8 rfl ?_
        refine ezw_if_le rfl rfl ⟨by omega, by omega⟩ (fun h59_4 => ?_) (fun h59_4 => ?_)
        · refine ezw_iload_n rfl rfl ?_
          exact ezw_ireturn rfl rfl ⟨i7, i8, rfl, hT, u3, hu3, by omega, by omega, by omega, by
                first
                  | (exfalso; omega)
                  | (rw [ezp_o_n (by omega)]; exact ezm_ST_7 st (by omega) (fun _ => by omega))
                  | (rw [ezp_oE0 ⟨by omega, by omega, by omega⟩]; exact ezm_ST_t st (by omega) (fun _ => by omega)), fun z => by omega, rfl⟩
        · refine ezw_iconst (0) rfl rfl ?_
          refine ezw_goto rfl rfl ?_
          exact ezw_ireturn rfl rfl ⟨i7, i8, rfl, hT, (0), ⟨by decide, by decide⟩, by omega, by omega, by omega, by
                first
                  | (exfalso; omega)
                  | (rw [ezp_o_n (by omega)]; exact ezm_ST_7 st (by omega) (fun _ => by omega))
                  | (rw [ezp_oE0 ⟨by omega, by omega, by omega⟩]; exact ezm_ST_t st (by omega) (fun _ => by omega)), fun z => by omega, rfl⟩
    · refine ezw_iload_n rfl rfl ?_
      refine ezw_if_ge rfl rfl hu3 (fun h26_4 => ?_) (fun h26_4 => ?_)
      · refine ezw_aload_n rfl rfl ?_
        refine ezw_dup rfl rfl ?_
        refine ezm_g7 rfl ?_
        have k5 := hT.t7
        refine ezw_aload_n rfl rfl ?_
        refine ezm_g8 rfl ?_
        refine ezw_if_le rfl rfl ⟨by omega, by omega⟩ (fun h43_5 => ?_) (fun h43_5 => ?_)
        · refine ezw_iconst (1) rfl rfl ?_
          refine ezw_iadd (k := i7 + 1) rfl (by omega) ?_
          refine ezm_p7 hT rfl ⟨by omega, by omega⟩ (fun hT => ?_)
          refine ezw_aload_n rfl rfl ?_
          refine ezm_g8 rfl ?_
          refine ezw_if_le rfl rfl ⟨by omega, by omega⟩ (fun h59_5 => ?_) (fun h59_5 => ?_)
          · refine ezw_iload_n rfl rfl ?_
            exact ezw_ireturn rfl rfl ⟨(i7 + 1), i8, rfl, hT, u3, hu3, by omega, by omega, by omega, by
                  first
                    | (exfalso; omega)
                    | (rw [ezp_o_n (by omega)]; exact ezm_ST_7 st (by omega) (fun _ => by omega))
                    | (rw [ezp_oE0 ⟨by omega, by omega, by omega⟩]; exact ezm_ST_t st (by omega) (fun _ => by omega)), fun z => by omega, rfl⟩
          · refine ezw_iconst (0) rfl rfl ?_
            refine ezw_goto rfl rfl ?_
            exact ezw_ireturn rfl rfl ⟨(i7 + 1), i8, rfl, hT, (0), ⟨by decide, by decide⟩, by omega, by omega, by omega, by
                  first
                    | (exfalso; omega)
                    | (rw [ezp_o_n (by omega)]; exact ezm_ST_7 st (by omega) (fun _ => by omega))
                    | (rw [ezp_oE0 ⟨by omega, by omega, by omega⟩]; exact ezm_ST_t st (by omega) (fun _ => by omega)), fun z => by omega, rfl⟩
        · refine ezw_iconst (0) rfl rfl ?_
          refine ezw_goto rfl rfl ?_
          refine ezw_iadd (k := i7) rfl (by omega) ?_
          refine ezm_p7 hT rfl ⟨by omega, by omega⟩ (fun hT => ?_)
          refine ezw_aload_n rfl rfl ?_
          refine ezm_g8 rfl ?_
          refine ezw_if_le rfl rfl ⟨by omega, by omega⟩ (fun h59_5 => ?_) (fun h59_5 => ?_)
          · refine ezw_iload_n rfl rfl ?_
            exact ezw_ireturn rfl rfl ⟨i7, i8, rfl, hT, u3, hu3, by omega, by omega, by omega, by
                  first
                    | (exfalso; omega)
                    | (rw [ezp_o_n (by omega)]; exact ezm_ST_7 st (by omega) (fun _ => by omega))
                    | (rw [ezp_oE0 ⟨by omega, by omega, by omega⟩]; exact ezm_ST_t st (by omega) (fun _ => by omega)), fun z => by omega, rfl⟩
          · refine ezw_iconst (0) rfl rfl ?_
            refine ezw_goto rfl rfl ?_
            exact ezw_ireturn rfl rfl ⟨i7, i8, rfl, hT, (0), ⟨by decide, by decide⟩, by omega, by omega, by omega, by
                  first
                    | (exfalso; omega)
                    | (rw [ezp_o_n (by omega)]; exact ezm_ST_7 st (by omega) (fun _ => by omega))
                    | (rw [ezp_oE0 ⟨by omega, by omega, by omega⟩]; exact ezm_ST_t st (by omega) (fun _ => by omega)), fun z => by omega, rfl⟩
      · refine ezw_aload_n rfl rfl ?_
        refine ezw_iconst (1) rfl rfl ?_
        refine ezw_call0_1 rfl (by omega) (ezm_at rfl) rfl rfl rfl rfl (ezm_m225p hT (by omega) ⟨by decide, by decide⟩ (by omega) (by omega) (by omega) hs (by omega) tk hM st) ?_
        rintro _ _ ⟨x8_6, rfl, hT, p6_0, p6_1, st_6, rfl⟩
        have k7 := hT.t8
        refine ezw_aload_n rfl rfl ?_
        refine ezw_dup rfl rfl ?_
        refine ezm_g7 rfl ?_
        have k8 := hT.t7
        refine ezw_aload_n rfl rfl ?_
        refine ezm_g8 rfl ?_
        refine ezw_if_le rfl rfl ⟨by omega, by omega⟩ (fun h43_8 => ?_) (fun h43_8 => ?_)
        · refine ezw_iconst (1) rfl rfl ?_
          refine ezw_iadd (k := i7 + 1) rfl (by omega) ?_
          refine ezm_p7 hT rfl ⟨by omega, by omega⟩ (fun hT => ?_)
          refine ezw_aload_n rfl rfl ?_
          refine ezm_g8 rfl ?_
          refine ezw_if_le rfl rfl ⟨by omega, by omega⟩ (fun h59_8 => ?_) (fun h59_8 => ?_)
          · refine ezw_iload_n rfl rfl ?_
            exact ezw_ireturn rfl rfl ⟨(i7 + 1), x8_6, rfl, hT, u3, hu3, by omega, by omega, by omega, by
                  first
                    | (exfalso; omega)
                    | (rw [ezp_oE1 (by omega)]; exact ezm_ST_7 st_6 (by omega) (fun _ => by omega)), fun z => by omega, rfl⟩
          · refine ezw_iconst (0) rfl rfl ?_
            refine ezw_goto rfl rfl ?_
            exact ezw_ireturn rfl rfl ⟨(i7 + 1), x8_6, rfl, hT, (0), ⟨by decide, by decide⟩, by omega, by omega, by omega, by
                  first
                    | (exfalso; omega)
                    | (rw [ezp_oE1 (by omega)]; exact ezm_ST_7 st_6 (by omega) (fun _ => by omega)), fun z => by omega, rfl⟩
        · refine ezw_iconst (0) rfl rfl ?_
          refine ezw_goto rfl rfl ?_
          refine ezw_iadd (k := i7) rfl (by omega) ?_
          refine ezm_p7 hT rfl ⟨by omega, by omega⟩ (fun hT => ?_)
          refine ezw_aload_n rfl rfl ?_
          refine ezm_g8 rfl ?_
          refine ezw_if_le rfl rfl ⟨by omega, by omega⟩ (fun h59_8 => ?_) (fun h59_8 => ?_)
          · refine ezw_iload_n rfl rfl ?_
            exact ezw_ireturn rfl rfl ⟨i7, x8_6, rfl, hT, u3, hu3, by omega, by omega, by omega, by
                  first
                    | (exfalso; omega)
                    | (rw [ezp_oE1 (by omega)]; exact ezm_ST_7 st_6 (by omega) (fun _ => by omega)), fun z => by omega, rfl⟩
          · refine ezw_iconst (0) rfl rfl ?_
            refine ezw_goto rfl rfl ?_
            exact ezw_ireturn rfl rfl ⟨i7, x8_6, rfl, hT, (0), ⟨by decide, by decide⟩, by omega, by omega, by omega, by
                  first
                    | (exfalso; omega)
                    | (rw [ezp_oE1 (by omega)]; exact ezm_ST_7 st_6 (by omega) (fun _ => by omega)), fun z => by omega, rfl⟩
  · refine ezw_iconst (-1) rfl rfl ?_
    refine ezw_goto rfl rfl ?_
    refine ezw_istore_n rfl rfl ?_
    refine ezw_aload_n rfl rfl ?_
    refine ezm_g8 rfl ?_
    refine ezw_if_ne rfl rfl ⟨by omega, by omega⟩ (fun h22_8 => ?_) (fun h22_8 => ?_)
    · refine ezw_aload_n rfl rfl ?_
      refine ezw_dup rfl rfl ?_
      refine ezm_g7 rfl ?_
      have k9 := hT.t7
      refine ezw_aload_n rfl rfl ?_
      refine ezm_g8 rfl ?_
      refine ezw_if_le rfl rfl ⟨by omega, by omega⟩ (fun h43_9 => ?_) (fun h43_9 => ?_)
      · refine ezw_iconst (1) rfl rfl ?_
        refine ezw_iadd (k := i7 + 1) rfl (by omega) ?_
        refine ezm_p7 hT rfl ⟨by omega, by omega⟩ (fun hT => ?_)
        refine ezw_aload_n rfl rfl ?_
        refine ezm_g8 rfl ?_
        refine ezw_if_le rfl rfl ⟨by omega, by omega⟩ (fun h59_9 => ?_) (fun h59_9 => ?_)
        · refine ezw_iload_n rfl rfl ?_
          exact ezw_ireturn rfl rfl ⟨(i7 + 1), i8, rfl, hT, (-1), ⟨by decide, by decide⟩, by omega, by omega, by omega, by
                first
                  | (exfalso; omega)
                  | (rw [ezp_o_n (by omega)]; exact ezm_ST_7 st (by omega) (fun _ => by omega))
                  | (rw [ezp_oE0 ⟨by omega, by omega, by omega⟩]; exact ezm_ST_t st (by omega) (fun _ => by omega)), fun z => by omega, rfl⟩
        · refine ezw_iconst (0) rfl rfl ?_
          refine ezw_goto rfl rfl ?_
          exact ezw_ireturn rfl rfl ⟨(i7 + 1), i8, rfl, hT, (0), ⟨by decide, by decide⟩, by omega, by omega, by omega, by
                first
                  | (exfalso; omega)
                  | (rw [ezp_o_n (by omega)]; exact ezm_ST_7 st (by omega) (fun _ => by omega))
                  | (rw [ezp_oE0 ⟨by omega, by omega, by omega⟩]; exact ezm_ST_t st (by omega) (fun _ => by omega)), fun z => by omega, rfl⟩
      · refine ezw_iconst (0) rfl rfl ?_
        refine ezw_goto rfl rfl ?_
        refine ezw_iadd (k := i7) rfl (by omega) ?_
        refine ezm_p7 hT rfl ⟨by omega, by omega⟩ (fun hT => ?_)
        refine ezw_aload_n rfl rfl ?_
        refine ezm_g8 rfl ?_
        refine ezw_if_le rfl rfl ⟨by omega, by omega⟩ (fun h59_9 => ?_) (fun h59_9 => ?_)
        · refine ezw_iload_n rfl rfl ?_
          exact ezw_ireturn rfl rfl ⟨i7, i8, rfl, hT, (-1), ⟨by decide, by decide⟩, by omega, by omega, by omega, by
                first
                  | (exfalso; omega)
                  | (rw [ezp_o_n (by omega)]; exact ezm_ST_7 st (by omega) (fun _ => by omega))
                  | (rw [ezp_oE0 ⟨by omega, by omega, by omega⟩]; exact ezm_ST_t st (by omega) (fun _ => by omega)), fun z => by omega, rfl⟩
        · refine ezw_iconst (0) rfl rfl ?_
          refine ezw_goto rfl rfl ?_
          exact ezw_ireturn rfl rfl ⟨i7, i8, rfl, hT, (0), ⟨by decide, by decide⟩, by omega, by omega, by omega, by
                first
                  | (exfalso; omega)
                  | (rw [ezp_o_n (by omega)]; exact ezm_ST_7 st (by omega) (fun _ => by omega))
                  | (rw [ezp_oE0 ⟨by omega, by omega, by omega⟩]; exact ezm_ST_t st (by omega) (fun _ => by omega)), fun z => by omega, rfl⟩
    · refine ezw_iload_n rfl rfl ?_
      refine ezw_if_ge rfl rfl ⟨by decide, by decide⟩ (fun h26_9 => absurd h26_9 (by omega)) (fun h26_9 => ?_)
      refine ezw_aload_n rfl rfl ?_
      refine ezw_iconst (1) rfl rfl ?_
      refine ezw_call0_1 rfl (by omega) (ezm_at rfl) rfl rfl rfl rfl (ezm_m225p hT (by omega) ⟨by decide, by decide⟩ (by omega) (by omega) (by omega) hs (by omega) tk hM st) ?_
      rintro _ _ ⟨x8_10, rfl, hT, p10_0, p10_1, st_10, rfl⟩
      have k11 := hT.t8
      refine ezw_aload_n rfl rfl ?_
      refine ezw_dup rfl rfl ?_
      refine ezm_g7 rfl ?_
      have k12 := hT.t7
      refine ezw_aload_n rfl rfl ?_
      refine ezm_g8 rfl ?_
      refine ezw_if_le rfl rfl ⟨by omega, by omega⟩ (fun h43_12 => ?_) (fun h43_12 => ?_)
      · refine ezw_iconst (1) rfl rfl ?_
        refine ezw_iadd (k := i7 + 1) rfl (by omega) ?_
        refine ezm_p7 hT rfl ⟨by omega, by omega⟩ (fun hT => ?_)
        refine ezw_aload_n rfl rfl ?_
        refine ezm_g8 rfl ?_
        refine ezw_if_le rfl rfl ⟨by omega, by omega⟩ (fun h59_12 => ?_) (fun h59_12 => ?_)
        · refine ezw_iload_n rfl rfl ?_
          exact ezw_ireturn rfl rfl ⟨(i7 + 1), x8_10, rfl, hT, (-1), ⟨by decide, by decide⟩, by omega, by omega, by omega, by
                first
                  | (exfalso; omega)
                  | (rw [ezp_oE1 (by omega)]; exact ezm_ST_7 st_10 (by omega) (fun _ => by omega)), fun z => by omega, rfl⟩
        · refine ezw_iconst (0) rfl rfl ?_
          refine ezw_goto rfl rfl ?_
          exact ezw_ireturn rfl rfl ⟨(i7 + 1), x8_10, rfl, hT, (0), ⟨by decide, by decide⟩, by omega, by omega, by omega, by
                first
                  | (exfalso; omega)
                  | (rw [ezp_oE1 (by omega)]; exact ezm_ST_7 st_10 (by omega) (fun _ => by omega)), fun z => by omega, rfl⟩
      · refine ezw_iconst (0) rfl rfl ?_
        refine ezw_goto rfl rfl ?_
        refine ezw_iadd (k := i7) rfl (by omega) ?_
        refine ezm_p7 hT rfl ⟨by omega, by omega⟩ (fun hT => ?_)
        refine ezw_aload_n rfl rfl ?_
        refine ezm_g8 rfl ?_
        refine ezw_if_le rfl rfl ⟨by omega, by omega⟩ (fun h59_12 => ?_) (fun h59_12 => ?_)
        · refine ezw_iload_n rfl rfl ?_
          exact ezw_ireturn rfl rfl ⟨i7, x8_10, rfl, hT, (-1), ⟨by decide, by decide⟩, by omega, by omega, by omega, by
                first
                  | (exfalso; omega)
                  | (rw [ezp_oE1 (by omega)]; exact ezm_ST_7 st_10 (by omega) (fun _ => by omega)), fun z => by omega, rfl⟩
        · refine ezw_iconst (0) rfl rfl ?_
          refine ezw_goto rfl rfl ?_
          exact ezw_ireturn rfl rfl ⟨i7, x8_10, rfl, hT, (0), ⟨by decide, by decide⟩, by omega, by omega, by omega, by
                first
                  | (exfalso; omega)
                  | (rw [ezp_oE1 (by omega)]; exact ezm_ST_7 st_10 (by omega) (fun _ => by omega)), fun z => by omega, rfl⟩
def ezm_m229_v1pQ (e : Bool × Bool) (F : Nat → Nat → Int) (A : Nat → Int → Int) (i0 i2 i3 i7 i8 i13 i18 i19 i20 i25 i29 i30 i31 i36 i37 i38 : Int) (r73 r74 r75 r76 r77 r78 r79 r80 r81 r82 r83 r84 r85 r86 r87 r88 r89 r90 r91 r92 r93 r94 r95 : Int → Int) (nT : Int → List Int) (kT : Int) (nH : Int → List Int) (kH : Int) : Option ezq_V → (Nat → ezq_C) → Prop := fun v g' => ezm_h e F A i0 i2 i3 i7 i8 i13 i18 i19 i20 i25 i29 i30 i31 i36 i37 i38 r73 r74 r75 r76 r77 r78 r79 r80 r81 r82 r83 r84 r85 r86 r87 r88 r89 r90 r91 r92 r93 r94 r95 = g' ∧ ∃ u : Int, (ezw_in u) ∧ (-1 ≤ u ∧ u ≤ 23) ∧ (u = -1 ∨ ezm_ex r84 i19 u) ∧ (∀ l, ezp_ok l → r76 i7 = ezp_v 37 l → u = ezp_fa nT kT nH kH l) ∧ some (ezw_i u) = v
set_option maxHeartbeats 8000000 in
theorem ezm_m229_v1p {nT : Int → List Int} {nH : Int → List Int} {kT kH : Int} (hT : ezm_T i0 i2 i3 i7 i8 i13 i18 i19 i20 i25 i29 i30 i31 i36 i37 i38 r73 r74 r75 r76 r77 r78 r79 r80 r81 r82 r83 r84 r85 r86 r87 r88 r89 r90 r91 r92 r93 r94 r95) (hd : 0 ≤ d) (gx : 0 ≤ i7 ∧ i7 ≤ 1001) (nm : ezm_NM nT kT nH kH i19 r82 r84) : ezw_C l ρ B xa Hb D cA 229 d [ezw_p 72, ezw_i (1)] (ezm_h e F A i0 i2 i3 i7 i8 i13 i18 i19 i20 i25 i29 i30 i31 i36 i37 i38 r73 r74 r75 r76 r77 r78 r79 r80 r81 r82 r83 r84 r85 r86 r87 r88 r89 r90 r91 r92 r93 r94 r95) (ezm_m229_v1pQ  e F A i0 i2 i3 i7 i8 i13 i18 i19 i20 i25 i29 i30 i31 i36 i37 i38 r73 r74 r75 r76 r77 r78 r79 r80 r81 r82 r83 r84 r85 r86 r87 r88 r89 r90 r91 r92 r93 r94 r95 nT kT nH kH) := by
  refine ezw_met (k := 1) rfl rfl ?_
  refine ezw_iconst (0) rfl rfl ?_
  refine ezw_istore_n rfl rfl ?_
  have L2_2 : ∀ c1 : Int, ezw_in c1 → ((0) ≤ c1) → (∀ i, 0 ≤ i → i < c1 → r82 i ≠ r76 i7) → ezw_E l ρ B xa Hb D cA d ezq_re229 (ezm_m229_v1pQ  e F A i0 i2 i3 i7 i8 i13 i18 i19 i20 i25 i29 i30 i31 i36 i37 i38 r73 r74 r75 r76 r77 r78 r79 r80 r81 r82 r83 r84 r85 r86 r87 r88 r89 r90 r91 r92 r93 r94 r95 nT kT nH kH) 2 [some (ezw_p 72), some (ezw_i (1)), some (ezw_i c1)] [] (ezm_h e F A i0 i2 i3 i7 i8 i13 i18 i19 i20 i25 i29 i30 i31 i36 i37 i38 r73 r74 r75 r76 r77 r78 r79 r80 r81 r82 r83 r84 r85 r86 r87 r88 r89 r90 r91 r92 r93 r94 r95) := by
    refine ezs_up ?_
    intro c1 hc1 ihc1 g_2 no_2
    refine ezw_iload_n rfl rfl ?_
    refine ezw_iload_n rfl rfl ?_
    refine ezw_if_eq rfl rfl ⟨by decide, by decide⟩ (fun h4_2 => absurd h4_2 (by omega)) (fun h4_2 => ?_)
    refine ezw_aload_n rfl rfl ?_
    refine ezm_g19 rfl ?_
    have k3 := hT.t19
    refine ezw_goto rfl rfl ?_
    refine ezw_icmp_ge rfl rfl hc1 ⟨by omega, by omega⟩ (fun h18_3 => ?_) (fun h18_3 => ?_)
    · refine ezw_iconst (-1) rfl rfl ?_
      exact ezw_ireturn rfl rfl ⟨rfl, (-1), ⟨by decide, by decide⟩, by omega, Or.inl rfl, fun l hl hv => (ezm_NM_no nm (fun k k0 k1 => by rw [← hv]; exact no_2 k k0 (by omega))).symm, rfl⟩
    · refine ezw_iload_n rfl rfl ?_
      refine ezw_if_eq rfl rfl ⟨by decide, by decide⟩ (fun h22_3 => absurd h22_3 (by omega)) (fun h22_3 => ?_)
      refine ezw_aload_n rfl rfl ?_
      refine ezm_gp (p := 82) rfl (fun _ => rfl) ?_
      refine ezw_iload_n rfl rfl ?_
      refine ezm_l82 rfl (by omega) (by omega) (fun u4 eu4 => ?_)
      have ku4 : ezw_il u4 := eu4 ▸ hT.t82 c1
      refine ezw_goto rfl rfl ?_
      refine ezw_aload_n rfl rfl ?_
      refine ezm_gp (p := 76) rfl (fun _ => rfl) ?_
      refine ezw_aload_n rfl rfl ?_
      refine ezm_g7 rfl ?_
      have k5 := hT.t7
      refine ezm_l76 rfl (by omega) (by omega) (fun u6 eu6 => ?_)
      have ku6 : ezw_il u6 := eu6 ▸ hT.t76 i7
      refine ezw_lcmpE rfl ku4 ku6 (fun u7 hu7 => ?_)
      refine ezw_if_ne rfl rfl ⟨by omega, by omega⟩ (fun h50_7 => ?_) (fun h50_7 => ?_)
      · refine ezw_iinc (k := c1 + 1) (1) rfl rfl rfl (by omega) rfl ?_
        refine ezw_goto rfl rfl ?_
        exact ezw_keepE [true, true, true] (ihc1 (c1 + 1) (by omega) ⟨by omega, by omega⟩ (by omega) (fun i i0 i1 => by
              by_cases hi : i = c1
              · rw [hi, ← eu4, ← eu6]
                omega
              · exact no_2 i i0 (by omega)))
      · refine ezw_iload_n rfl rfl ?_
        refine ezw_if_eq rfl rfl ⟨by decide, by decide⟩ (fun h54_7 => absurd h54_7 (by omega)) (fun h54_7 => ?_)
        refine ezw_aload_n rfl rfl ?_
        refine ezm_gp (p := 84) rfl (fun _ => rfl) ?_
        refine ezw_iload_n rfl rfl ?_
        refine ezm_l84 rfl (by omega) (by omega) (fun u8 eu8 => ?_)
        have ku8 : 0 ≤ u8 ∧ u8 ≤ 23 := eu8 ▸ hT.t84 c1
        refine ezw_goto rfl rfl ?_
        exact ezw_ireturn rfl rfl ⟨rfl, u8, ⟨by omega, by omega⟩, by omega, Or.inr ⟨c1, by omega, by omega, eu8⟩, fun l hl hv => by
              rw [eu8]
              exact ezm_NM_hit nm (by omega) (by omega) hl (by omega), rfl⟩
  exact ezw_keepE [true, true, true] (L2_2 (0) ⟨by decide, by decide⟩ (by omega) (fun i i0 i1 => by omega))
def ezm_m235_v1_v0pQ (e : Bool × Bool) (F : Nat → Nat → Int) (A : Nat → Int → Int) (i0 i2 i3 i7 i8 i13 i18 i19 i20 i25 i29 i30 i31 i36 i37 i38 : Int) (r73 r74 r75 r76 r77 r78 r79 r80 r81 r82 r83 r84 r85 r86 r87 r88 r89 r90 r91 r92 r93 r94 r95 : Int → Int) (n : Int) (c : Int → Int) (s : Int × Int) (nT : Int → List Int) (kT : Int) (nH : Int → List Int) (kH : Int) (a3 : Int) : Option ezq_V → (Nat → ezq_C) → Prop := fun v g' => ∃ (x8 : Int), ezm_h e F A i0 i2 i3 i7 x8 i13 i18 i19 i20 i25 i29 i30 i31 i36 i37 i38 r73 r74 r75 r76 r77 r78 r79 r80 r81 r82 r83 r84 r85 r86 r87 r88 r89 r90 r91 r92 r93 r94 r95 = g' ∧ ezm_T i0 i2 i3 i7 x8 i13 i18 i19 i20 i25 i29 i30 i31 i36 i37 i38 r73 r74 r75 r76 r77 r78 r79 r80 r81 r82 r83 r84 r85 r86 r87 r88 r89 r90 r91 r92 r93 r94 r95 ∧ ∃ u : Int, (ezw_in u) ∧ (i8 ≠ 0 → x8 = i8) ∧ (x8 = 0 → 0 ≤ u ∧ u < a3 ∧ i8 = 0 ∧ i7 < n) ∧ (-21 ≤ u ∧ u ≤ 23) ∧ (x8 = 0 → ezm_ex r84 i19 (u + 0)) ∧ (ezm_ST (ezp_se c nT kT s) x8 i7) ∧ (ezm_I (x8 = 0) (u = ezp_fi nT kT (ezp_W c s.2) ∧ ezp_K c s.2 = 100 ∧ 0 ≤ u ∧ u < kT ∧ s.1 = 0)) ∧ some (ezw_i u) = v
theorem ezm_m235_v1_v0p {c : Int → Int} {s : Int × Int} {nT : Int → List Int} {nH : Int → List Int} {n kT kH a3 : Int} (hT : ezm_T i0 i2 i3 i7 i8 i13 i18 i19 i20 i25 i29 i30 i31 i36 i37 i38 r73 r74 r75 r76 r77 r78 r79 r80 r81 r82 r83 r84 r85 r86 r87 r88 r89 r90 r91 r92 r93 r94 r95) (hd : 3 ≤ d) (ha3 : ezw_in a3) (hn : 0 ≤ i7 ∧ i7 ≤ n) (hs : r74 n = 0) (h1 : n ≤ 1000) (tk : ezm_TK c n r74 r75 r76) (hM : ∀ w, 0 ≤ w → w < 48 → r77 w = ezl_mw.getD w.toNat 0) (st : ezm_ST s i8 i7) (gb : a3 = 8) (nm : ezm_NM nT kT nH kH i19 r82 r84) : ezw_C l ρ B xa Hb D cA 235 d [ezw_p 72, ezw_i (1), ezw_i (0), ezw_i a3] (ezm_h e F A i0 i2 i3 i7 i8 i13 i18 i19 i20 i25 i29 i30 i31 i36 i37 i38 r73 r74 r75 r76 r77 r78 r79 r80 r81 r82 r83 r84 r85 r86 r87 r88 r89 r90 r91 r92 r93 r94 r95) (ezm_m235_v1_v0pQ  e F A i0 i2 i3 i7 i8 i13 i18 i19 i20 i25 i29 i30 i31 i36 i37 i38 r73 r74 r75 r76 r77 r78 r79 r80 r81 r82 r83 r84 r85 r86 r87 r88 r89 r90 r91 r92 r93 r94 r95 n c s nT kT nH kH a3) := by
  refine ezw_met (k := 1) rfl rfl ?_
  obtain ⟨se, sa, sp, hP, sw, sk⟩ := ezm_TKi tk st hn
  refine ezw_aload_n rfl rfl ?_
  refine ezm_g8 rfl ?_
  have k1 := hT.t8
  refine ezw_if_ne rfl rfl ⟨by omega, by omega⟩ (fun h4_1 => ?_) (fun h4_1 => ?_)
  · refine ezw_aload_n rfl rfl ?_
    refine ezm_g8 rfl ?_
    refine ezw_if_le rfl rfl ⟨by omega, by omega⟩ (fun h23_1 => ?_) (fun h23_1 => ?_)
    · refine ezw_aload_n rfl rfl ?_
      refine ezw_iload_n rfl rfl ?_
      refine ezw_call0_1 rfl (by omega) (ezm_at rfl) rfl rfl rfl rfl (ezm_m229_v1p hT (by omega) (by omega) nm) ?_
      rintro _ _ ⟨rfl, u3, hu3, p2_0, f_2, fa_2, rfl⟩
      have hsw := sw (by omega) (by omega)
      have hfa := fa_2 _ hsw.1 hsw.2
      have hft := ezm_NM_fT (l := ezp_W c s.2) nm
      have hnk := nm.1
      refine ezw_iload_n rfl rfl ?_
      refine ezw_isub (k := u3) rfl (by omega) ?_
      refine ezw_istore rfl rfl ?_
      refine ezw_aload_n rfl rfl ?_
      refine ezm_g8 rfl ?_
      refine ezw_if_ne rfl rfl ⟨by omega, by omega⟩ (fun h43_3 => ?_) (fun h43_3 => ?_)
      · refine ezw_iload rfl rfl ?_
        exact ezw_ireturn rfl rfl ⟨i8, rfl, hT, u3, ⟨by omega, by omega⟩, by omega, by omega, by omega, by
              intro z
              first
                | exact absurd z (by omega)
                | (rcases f_2 with h | ⟨k, k0, k1, k2⟩
                   · exact absurd h (by omega)
                   · exact ⟨k, k0, k1, by omega⟩), by
              first
                | (exfalso; omega)
                | (rw [ezp_se_n (by omega)]; exact st)
                | (rw [ezp_seE0 ⟨by omega, by omega⟩ (by omega)]; exact st), fun z => by omega, rfl⟩
      · refine ezw_iload rfl rfl ?_
        refine ezw_iconst (0) rfl rfl ?_
        refine ezw_iload_n rfl rfl ?_
        refine ezw_iconst (1) rfl rfl ?_
        refine ezw_isub (k := a3 - 1) rfl (by omega) ?_
        refine ezw_call2_3 rfl (by omega) rfl rfl (ezm_m236 hT (by omega) ⟨by omega, by omega⟩ ⟨by decide, by decide⟩ ⟨by omega, by omega⟩) ?_
        rintro _ _ ⟨rfl, u5, hu5, p4_0, p4_1, rfl⟩
        refine ezw_if_ne rfl rfl ⟨by omega, by omega⟩ (fun h55_5 => ?_) (fun h55_5 => ?_)
        · refine ezw_iload rfl rfl ?_
          exact ezw_ireturn rfl rfl ⟨i8, rfl, hT, u3, ⟨by omega, by omega⟩, by omega, by omega, by omega, by
                intro z
                first
                  | exact absurd z (by omega)
                  | (rcases f_2 with h | ⟨k, k0, k1, k2⟩
                     · exact absurd h (by omega)
                     · exact ⟨k, k0, k1, by omega⟩), by
                first
                  | (exfalso; omega)
                  | (rw [ezp_se_n (by omega)]; exact st)
                  | (rw [ezp_seE0 ⟨by omega, by omega⟩ (by omega)]; exact st), fun z => by omega, rfl⟩
        · refine ezw_aload_n rfl rfl ?_
          refine ezw_iconst (2) rfl rfl ?_
          refine ezw_call0_1 rfl (by omega) (ezm_at rfl) rfl rfl rfl rfl (ezm_m225p hT (by omega) ⟨by decide, by decide⟩ (by omega) (by omega) (by omega) hs (by omega) tk hM st) ?_
          rintro _ _ ⟨x8_6, rfl, hT, p6_0, p6_1, st_6, rfl⟩
          have k7 := hT.t8
          refine ezw_iload rfl rfl ?_
          exact ezw_ireturn rfl rfl ⟨x8_6, rfl, hT, u3, ⟨by omega, by omega⟩, by omega, by omega, by omega, by
                intro z
                first
                  | exact absurd z (by omega)
                  | (rcases f_2 with h | ⟨k, k0, k1, k2⟩
                     · exact absurd h (by omega)
                     · exact ⟨k, k0, k1, by omega⟩), by
                first
                  | (exfalso; omega)
                  | (rw [ezp_seE2 ⟨by omega, by omega⟩ (by omega)]; exact st_6), fun z => by omega, rfl⟩
    · refine ezw_iconst (-1) rfl rfl ?_
      refine ezw_goto rfl rfl ?_
      refine ezw_istore rfl rfl ?_
      refine ezw_aload_n rfl rfl ?_
      refine ezm_g8 rfl ?_
      refine ezw_if_ne rfl rfl ⟨by omega, by omega⟩ (fun h43_7 => ?_) (fun h43_7 => ?_)
      · refine ezw_iload rfl rfl ?_
        exact ezw_ireturn rfl rfl ⟨i8, rfl, hT, (-1), ⟨by decide, by decide⟩, by omega, by omega, by omega, by
              intro z
              first
                | exact absurd z (by omega)
                | (rcases f_None with h | ⟨k, k0, k1, k2⟩
                   · exact absurd h (by omega)
                   · exact ⟨k, k0, k1, by omega⟩), by
              first
                | (exfalso; omega)
                | (rw [ezp_se_n (by omega)]; exact st)
                | (rw [ezp_seE0 ⟨by omega, by omega⟩ (by omega)]; exact st), fun z => by omega, rfl⟩
      · refine ezw_iload rfl rfl ?_
        refine ezw_iconst (0) rfl rfl ?_
        refine ezw_iload_n rfl rfl ?_
        refine ezw_iconst (1) rfl rfl ?_
        refine ezw_isub (k := a3 - 1) rfl (by omega) ?_
        refine ezw_call2_3 rfl (by omega) rfl rfl (ezm_m236 hT (by omega) ⟨by decide, by decide⟩ ⟨by decide, by decide⟩ ⟨by omega, by omega⟩) ?_
        rintro _ _ ⟨rfl, u9, hu9, p8_0, p8_1, rfl⟩
        refine ezw_if_ne rfl rfl ⟨by omega, by omega⟩ (fun h55_9 => ?_) (fun h55_9 => ?_)
        · refine ezw_iload rfl rfl ?_
          exact ezw_ireturn rfl rfl ⟨i8, rfl, hT, (-1), ⟨by decide, by decide⟩, by omega, by omega, by omega, by
                intro z
                first
                  | exact absurd z (by omega)
                  | (rcases f_None with h | ⟨k, k0, k1, k2⟩
                     · exact absurd h (by omega)
                     · exact ⟨k, k0, k1, by omega⟩), by
                first
                  | (exfalso; omega)
                  | (rw [ezp_se_n (by omega)]; exact st)
                  | (rw [ezp_seE0 ⟨by omega, by omega⟩ (by omega)]; exact st), fun z => by omega, rfl⟩
        · refine ezw_aload_n rfl rfl ?_
          refine ezw_iconst (2) rfl rfl ?_
          refine ezw_call0_1 rfl (by omega) (ezm_at rfl) rfl rfl rfl rfl (ezm_m225p hT (by omega) ⟨by decide, by decide⟩ (by omega) (by omega) (by omega) hs (by omega) tk hM st) ?_
          rintro _ _ ⟨x8_10, rfl, hT, p10_0, p10_1, st_10, rfl⟩
          have k11 := hT.t8
          refine ezw_iload rfl rfl ?_
          exact ezw_ireturn rfl rfl ⟨x8_10, rfl, hT, (-1), ⟨by decide, by decide⟩, by omega, by omega, by omega, by
                intro z
                first
                  | exact absurd z (by omega)
                  | (rcases f_None with h | ⟨k, k0, k1, k2⟩
                     · exact absurd h (by omega)
                     · exact ⟨k, k0, k1, by omega⟩), by
                first
                  | (exfalso; omega)
                  | (rw [ezp_seE2 ⟨by omega, by omega⟩ (by omega)]; exact st_10), fun z => by omega, rfl⟩
  · refine ezw_aload_n rfl rfl ?_
    refine ezw_call0_0 rfl (by omega) (ezm_at rfl) rfl rfl rfl rfl (ezm_m227p hT (by omega) (by omega) hs (by omega) tk hM st) ?_
    rintro _ _ ⟨rfl, u13, hu13, f_12, q1_12, q0_12, rfl⟩
    refine ezw_if_ne rfl rfl ⟨by omega, by omega⟩ (fun h11_13 => ?_) (fun h11_13 => ?_)
    · refine ezw_aload_n rfl rfl ?_
      refine ezm_g8 rfl ?_
      refine ezw_if_le rfl rfl ⟨by omega, by omega⟩ (fun h23_13 => ?_) (fun h23_13 => ?_)
      · refine ezw_aload_n rfl rfl ?_
        refine ezw_iload_n rfl rfl ?_
        refine ezw_call0_1 rfl (by omega) (ezm_at rfl) rfl rfl rfl rfl (ezm_m229_v1p hT (by omega) (by omega) nm) ?_
        rintro _ _ ⟨rfl, u15, hu15, p14_0, f_14, fa_14, rfl⟩
        have hsw := sw (by omega) (by omega)
        have hfa := fa_14 _ hsw.1 hsw.2
        have hft := ezm_NM_fT (l := ezp_W c s.2) nm
        have hnk := nm.1
        refine ezw_iload_n rfl rfl ?_
        refine ezw_isub (k := u15) rfl (by omega) ?_
        refine ezw_istore rfl rfl ?_
        refine ezw_aload_n rfl rfl ?_
        refine ezm_g8 rfl ?_
        refine ezw_if_ne rfl rfl ⟨by omega, by omega⟩ (fun h43_15 => ?_) (fun h43_15 => ?_)
        · refine ezw_iload rfl rfl ?_
          exact ezw_ireturn rfl rfl ⟨i8, rfl, hT, u15, ⟨by omega, by omega⟩, by omega, by omega, by omega, by
                intro z
                first
                  | exact absurd z (by omega)
                  | (rcases f_14 with h | ⟨k, k0, k1, k2⟩
                     · exact absurd h (by omega)
                     · exact ⟨k, k0, k1, by omega⟩), by
                first
                  | (exfalso; omega)
                  | (rw [ezp_se_n (by omega)]; exact st)
                  | (rw [ezp_seE0 ⟨by omega, by omega⟩ (by omega)]; exact st), fun z => by omega, rfl⟩
        · refine ezw_iload rfl rfl ?_
          refine ezw_iconst (0) rfl rfl ?_
          refine ezw_iload_n rfl rfl ?_
          refine ezw_iconst (1) rfl rfl ?_
          refine ezw_isub (k := a3 - 1) rfl (by omega) ?_
          refine ezw_call2_3 rfl (by omega) rfl rfl (ezm_m236 hT (by omega) ⟨by omega, by omega⟩ ⟨by decide, by decide⟩ ⟨by omega, by omega⟩) ?_
          rintro _ _ ⟨rfl, u17, hu17, p16_0, p16_1, rfl⟩
          refine ezw_if_ne rfl rfl ⟨by omega, by omega⟩ (fun h55_17 => ?_) (fun h55_17 => ?_)
          · refine ezw_iload rfl rfl ?_
            exact ezw_ireturn rfl rfl ⟨i8, rfl, hT, u15, ⟨by omega, by omega⟩, by omega, by omega, by omega, by
                  intro z
                  first
                    | exact absurd z (by omega)
                    | (rcases f_14 with h | ⟨k, k0, k1, k2⟩
                       · exact absurd h (by omega)
                       · exact ⟨k, k0, k1, by omega⟩), by
                  first
                    | (exfalso; omega)
                    | (rw [ezp_se_n (by omega)]; exact st)
                    | (rw [ezp_seE0 ⟨by omega, by omega⟩ (by omega)]; exact st), fun z => by omega, rfl⟩
          · refine ezw_aload_n rfl rfl ?_
            refine ezw_iconst (2) rfl rfl ?_
            refine ezw_call0_1 rfl (by omega) (ezm_at rfl) rfl rfl rfl rfl (ezm_m225p hT (by omega) ⟨by decide, by decide⟩ (by omega) (by omega) (by omega) hs (by omega) tk hM st) ?_
            rintro _ _ ⟨x8_18, rfl, hT, p18_0, p18_1, st_18, rfl⟩
            have k19 := hT.t8
            refine ezw_iload rfl rfl ?_
            exact ezw_ireturn rfl rfl ⟨x8_18, rfl, hT, u15, ⟨by omega, by omega⟩, by omega, by omega, by omega, by
                  intro z
                  first
                    | exact absurd z (by omega)
                    | (rcases f_14 with h | ⟨k, k0, k1, k2⟩
                       · exact absurd h (by omega)
                       · exact ⟨k, k0, k1, by omega⟩), by
                  first
                    | (exfalso; omega)
                    | (rw [ezp_seE2 ⟨by omega, by omega⟩ (by omega)]; exact st_18), fun z => by omega, rfl⟩
      · refine ezw_iconst (-1) rfl rfl ?_
        refine ezw_goto rfl rfl ?_
        refine ezw_istore rfl rfl ?_
        refine ezw_aload_n rfl rfl ?_
        refine ezm_g8 rfl ?_
        refine ezw_if_ne rfl rfl ⟨by omega, by omega⟩ (fun h43_19 => ?_) (fun h43_19 => ?_)
        · refine ezw_iload rfl rfl ?_
          exact ezw_ireturn rfl rfl ⟨i8, rfl, hT, (-1), ⟨by decide, by decide⟩, by omega, by omega, by omega, by
                intro z
                first
                  | exact absurd z (by omega)
                  | (rcases f_None with h | ⟨k, k0, k1, k2⟩
                     · exact absurd h (by omega)
                     · exact ⟨k, k0, k1, by omega⟩), by
                first
                  | (exfalso; omega)
                  | (rw [ezp_se_n (by omega)]; exact st)
                  | (rw [ezp_seE0 ⟨by omega, by omega⟩ (by omega)]; exact st), fun z => by omega, rfl⟩
        · refine ezw_iload rfl rfl ?_
          refine ezw_iconst (0) rfl rfl ?_
          refine ezw_iload_n rfl rfl ?_
          refine ezw_iconst (1) rfl rfl ?_
          refine ezw_isub (k := a3 - 1) rfl (by omega) ?_
          refine ezw_call2_3 rfl (by omega) rfl rfl (ezm_m236 hT (by omega) ⟨by decide, by decide⟩ ⟨by decide, by decide⟩ ⟨by omega, by omega⟩) ?_
          rintro _ _ ⟨rfl, u21, hu21, p20_0, p20_1, rfl⟩
          refine ezw_if_ne rfl rfl ⟨by omega, by omega⟩ (fun h55_21 => ?_) (fun h55_21 => ?_)
          · refine ezw_iload rfl rfl ?_
            exact ezw_ireturn rfl rfl ⟨i8, rfl, hT, (-1), ⟨by decide, by decide⟩, by omega, by omega, by omega, by
                  intro z
                  first
                    | exact absurd z (by omega)
                    | (rcases f_None with h | ⟨k, k0, k1, k2⟩
                       · exact absurd h (by omega)
                       · exact ⟨k, k0, k1, by omega⟩), by
                  first
                    | (exfalso; omega)
                    | (rw [ezp_se_n (by omega)]; exact st)
                    | (rw [ezp_seE0 ⟨by omega, by omega⟩ (by omega)]; exact st), fun z => by omega, rfl⟩
          · refine ezw_aload_n rfl rfl ?_
            refine ezw_iconst (2) rfl rfl ?_
            refine ezw_call0_1 rfl (by omega) (ezm_at rfl) rfl rfl rfl rfl (ezm_m225p hT (by omega) ⟨by decide, by decide⟩ (by omega) (by omega) (by omega) hs (by omega) tk hM st) ?_
            rintro _ _ ⟨x8_22, rfl, hT, p22_0, p22_1, st_22, rfl⟩
            have k23 := hT.t8
            refine ezw_iload rfl rfl ?_
            exact ezw_ireturn rfl rfl ⟨x8_22, rfl, hT, (-1), ⟨by decide, by decide⟩, by omega, by omega, by omega, by
                  intro z
                  first
                    | exact absurd z (by omega)
                    | (rcases f_None with h | ⟨k, k0, k1, k2⟩
                       · exact absurd h (by omega)
                       · exact ⟨k, k0, k1, by omega⟩), by
                  first
                    | (exfalso; omega)
                    | (rw [ezp_seE2 ⟨by omega, by omega⟩ (by omega)]; exact st_22), fun z => by omega, rfl⟩
    · refine ezw_aload_n rfl rfl ?_
      refine ezw_iconst (1) rfl rfl ?_
      refine ezw_call0_1 rfl (by omega) (ezm_at rfl) rfl rfl rfl rfl (ezm_m225p hT (by omega) ⟨by decide, by decide⟩ (by omega) (by omega) (by omega) hs (by omega) tk hM st) ?_
      rintro _ _ ⟨x8_24, rfl, hT, p24_0, p24_1, st_24, rfl⟩
      have k25 := hT.t8
      refine ezw_aload_n rfl rfl ?_
      refine ezm_g8 rfl ?_
      refine ezw_if_le rfl rfl ⟨by omega, by omega⟩ (fun h23_25 => ?_) (fun h23_25 => ?_)
      · refine ezw_aload_n rfl rfl ?_
        refine ezw_iload_n rfl rfl ?_
        refine ezw_call0_1 rfl (by omega) (ezm_at rfl) rfl rfl rfl rfl (ezm_m229_v1p hT (by omega) (by omega) nm) ?_
        rintro _ _ ⟨rfl, u27, hu27, p26_0, f_26, fa_26, rfl⟩
        have hsw := sw (by omega) (by omega)
        have hfa := fa_26 _ hsw.1 hsw.2
        have hft := ezm_NM_fT (l := ezp_W c s.2) nm
        have hnk := nm.1
        refine ezw_iload_n rfl rfl ?_
        refine ezw_isub (k := u27) rfl (by omega) ?_
        refine ezw_istore rfl rfl ?_
        refine ezw_aload_n rfl rfl ?_
        refine ezm_g8 rfl ?_
        refine ezw_if_ne rfl rfl ⟨by omega, by omega⟩ (fun h43_27 => ?_) (fun h43_27 => ?_)
        · refine ezw_iload rfl rfl ?_
          exact ezw_ireturn rfl rfl ⟨x8_24, rfl, hT, u27, ⟨by omega, by omega⟩, by omega, by omega, by omega, by
                intro z
                first
                  | exact absurd z (by omega)
                  | (rcases f_26 with h | ⟨k, k0, k1, k2⟩
                     · exact absurd h (by omega)
                     · exact ⟨k, k0, k1, by omega⟩), by
                first
                  | (exfalso; omega)
                  | (rw [ezp_seE1 (by omega)]; exact ezm_ST_7 st_24 (by omega) (fun _ => by omega)), fun z => by omega, rfl⟩
        · refine ezw_iload rfl rfl ?_
          refine ezw_iconst (0) rfl rfl ?_
          refine ezw_iload_n rfl rfl ?_
          refine ezw_iconst (1) rfl rfl ?_
          refine ezw_isub (k := a3 - 1) rfl (by omega) ?_
          refine ezw_call2_3 rfl (by omega) rfl rfl (ezm_m236 hT (by omega) ⟨by omega, by omega⟩ ⟨by decide, by decide⟩ ⟨by omega, by omega⟩) ?_
          rintro _ _ ⟨rfl, u29, hu29, p28_0, p28_1, rfl⟩
          refine ezw_if_ne rfl rfl ⟨by omega, by omega⟩ (fun h55_29 => ?_) (fun h55_29 => ?_)
          · refine ezw_iload rfl rfl ?_
            exact ezw_ireturn rfl rfl ⟨x8_24, rfl, hT, u27, ⟨by omega, by omega⟩, by omega, by omega, by omega, by
                  intro z
                  first
                    | exact absurd z (by omega)
                    | (rcases f_26 with h | ⟨k, k0, k1, k2⟩
                       · exact absurd h (by omega)
                       · exact ⟨k, k0, k1, by omega⟩), by
                  first
                    | (exfalso; omega)
                    | (rw [ezp_seE1 (by omega)]; exact ezm_ST_7 st_24 (by omega) (fun _ => by omega)), fun z => by omega, rfl⟩
          · refine ezw_aload_n rfl rfl ?_
            refine ezw_iconst (2) rfl rfl ?_
            refine ezw_call0_1 rfl (by omega) (ezm_at rfl) rfl rfl rfl rfl (ezm_m225p hT (by omega) ⟨by decide, by decide⟩ (by omega) (by omega) (by omega) hs (by omega) tk hM st_24) ?_
            rintro _ _ ⟨x8_30, rfl, hT, p30_0, p30_1, st_30, rfl⟩
            have k31 := hT.t8
            refine ezw_iload rfl rfl ?_
            exact ezw_ireturn rfl rfl ⟨x8_30, rfl, hT, u27, ⟨by omega, by omega⟩, by omega, by omega, by omega, by
                  intro z
                  first
                    | exact absurd z (by omega)
                    | (rcases f_26 with h | ⟨k, k0, k1, k2⟩
                       · exact absurd h (by omega)
                       · exact ⟨k, k0, k1, by omega⟩), by
                  first
                    | (exfalso; omega)
                    | (rw [ezp_seE2 ⟨by omega, by omega⟩ (by omega)]; exact st_30), fun z => by omega, rfl⟩
      · refine ezw_iconst (-1) rfl rfl ?_
        refine ezw_goto rfl rfl ?_
        refine ezw_istore rfl rfl ?_
        refine ezw_aload_n rfl rfl ?_
        refine ezm_g8 rfl ?_
        refine ezw_if_ne rfl rfl ⟨by omega, by omega⟩ (fun h43_31 => ?_) (fun h43_31 => ?_)
        · refine ezw_iload rfl rfl ?_
          exact ezw_ireturn rfl rfl ⟨x8_24, rfl, hT, (-1), ⟨by decide, by decide⟩, by omega, by omega, by omega, by
                intro z
                first
                  | exact absurd z (by omega)
                  | (rcases f_None with h | ⟨k, k0, k1, k2⟩
                     · exact absurd h (by omega)
                     · exact ⟨k, k0, k1, by omega⟩), by
                first
                  | (exfalso; omega)
                  | (rw [ezp_seE1 (by omega)]; exact ezm_ST_7 st_24 (by omega) (fun _ => by omega)), fun z => by omega, rfl⟩
        · refine ezw_iload rfl rfl ?_
          refine ezw_iconst (0) rfl rfl ?_
          refine ezw_iload_n rfl rfl ?_
          refine ezw_iconst (1) rfl rfl ?_
          refine ezw_isub (k := a3 - 1) rfl (by omega) ?_
          refine ezw_call2_3 rfl (by omega) rfl rfl (ezm_m236 hT (by omega) ⟨by decide, by decide⟩ ⟨by decide, by decide⟩ ⟨by omega, by omega⟩) ?_
          rintro _ _ ⟨rfl, u33, hu33, p32_0, p32_1, rfl⟩
          refine ezw_if_ne rfl rfl ⟨by omega, by omega⟩ (fun h55_33 => ?_) (fun h55_33 => ?_)
          · refine ezw_iload rfl rfl ?_
            exact ezw_ireturn rfl rfl ⟨x8_24, rfl, hT, (-1), ⟨by decide, by decide⟩, by omega, by omega, by omega, by
                  intro z
                  first
                    | exact absurd z (by omega)
                    | (rcases f_None with h | ⟨k, k0, k1, k2⟩
                       · exact absurd h (by omega)
                       · exact ⟨k, k0, k1, by omega⟩), by
                  first
                    | (exfalso; omega)
                    | (rw [ezp_seE1 (by omega)]; exact ezm_ST_7 st_24 (by omega) (fun _ => by omega)), fun z => by omega, rfl⟩
          · refine ezw_aload_n rfl rfl ?_
            refine ezw_iconst (2) rfl rfl ?_
            refine ezw_call0_1 rfl (by omega) (ezm_at rfl) rfl rfl rfl rfl (ezm_m225p hT (by omega) ⟨by decide, by decide⟩ (by omega) (by omega) (by omega) hs (by omega) tk hM st_24) ?_
            rintro _ _ ⟨x8_34, rfl, hT, p34_0, p34_1, st_34, rfl⟩
            have k35 := hT.t8
            refine ezw_iload rfl rfl ?_
            exact ezw_ireturn rfl rfl ⟨x8_34, rfl, hT, (-1), ⟨by decide, by decide⟩, by omega, by omega, by omega, by
                  intro z
                  first
                    | exact absurd z (by omega)
                    | (rcases f_None with h | ⟨k, k0, k1, k2⟩
                       · exact absurd h (by omega)
                       · exact ⟨k, k0, k1, by omega⟩), by
                  first
                    | (exfalso; omega)
                    | (rw [ezp_seE2 ⟨by omega, by omega⟩ (by omega)]; exact st_34), fun z => by omega, rfl⟩
def ezm_m235_v1_v20pQ (e : Bool × Bool) (F : Nat → Nat → Int) (A : Nat → Int → Int) (i0 i2 i3 i7 i8 i13 i18 i19 i20 i25 i29 i30 i31 i36 i37 i38 : Int) (r73 r74 r75 r76 r77 r78 r79 r80 r81 r82 r83 r84 r85 r86 r87 r88 r89 r90 r91 r92 r93 r94 r95 : Int → Int) (n : Int) (c : Int → Int) (s : Int × Int) (nT : Int → List Int) (kT : Int) (nH : Int → List Int) (kH : Int) (a3 : Int) : Option ezq_V → (Nat → ezq_C) → Prop := fun v g' => ∃ (x8 : Int), ezm_h e F A i0 i2 i3 i7 x8 i13 i18 i19 i20 i25 i29 i30 i31 i36 i37 i38 r73 r74 r75 r76 r77 r78 r79 r80 r81 r82 r83 r84 r85 r86 r87 r88 r89 r90 r91 r92 r93 r94 r95 = g' ∧ ezm_T i0 i2 i3 i7 x8 i13 i18 i19 i20 i25 i29 i30 i31 i36 i37 i38 r73 r74 r75 r76 r77 r78 r79 r80 r81 r82 r83 r84 r85 r86 r87 r88 r89 r90 r91 r92 r93 r94 r95 ∧ ∃ u : Int, (ezw_in u) ∧ (i8 ≠ 0 → x8 = i8) ∧ (x8 = 0 → 0 ≤ u ∧ u < a3 ∧ i8 = 0 ∧ i7 < n) ∧ (-21 ≤ u ∧ u ≤ 23) ∧ (x8 = 0 → ezm_ex r84 i19 (u + 20)) ∧ (ezm_ST (ezp_se c nH kH s) x8 i7) ∧ (ezm_I (x8 = 0) (u = ezp_fi nH kH (ezp_W c s.2) ∧ ezp_K c s.2 = 100 ∧ 0 ≤ u ∧ u < kH ∧ s.1 = 0)) ∧ some (ezw_i u) = v
theorem ezm_m235_v1_v20p {c : Int → Int} {s : Int × Int} {nT : Int → List Int} {nH : Int → List Int} {n kT kH a3 : Int} (hT : ezm_T i0 i2 i3 i7 i8 i13 i18 i19 i20 i25 i29 i30 i31 i36 i37 i38 r73 r74 r75 r76 r77 r78 r79 r80 r81 r82 r83 r84 r85 r86 r87 r88 r89 r90 r91 r92 r93 r94 r95) (hd : 3 ≤ d) (ha3 : ezw_in a3) (hn : 0 ≤ i7 ∧ i7 ≤ n) (hs : r74 n = 0) (h1 : n ≤ 1000) (tk : ezm_TK c n r74 r75 r76) (hM : ∀ w, 0 ≤ w → w < 48 → r77 w = ezl_mw.getD w.toNat 0) (st : ezm_ST s i8 i7) (gb : a3 = 4) (nm : ezm_NM nT kT nH kH i19 r82 r84) : ezw_C l ρ B xa Hb D cA 235 d [ezw_p 72, ezw_i (1), ezw_i (20), ezw_i a3] (ezm_h e F A i0 i2 i3 i7 i8 i13 i18 i19 i20 i25 i29 i30 i31 i36 i37 i38 r73 r74 r75 r76 r77 r78 r79 r80 r81 r82 r83 r84 r85 r86 r87 r88 r89 r90 r91 r92 r93 r94 r95) (ezm_m235_v1_v20pQ  e F A i0 i2 i3 i7 i8 i13 i18 i19 i20 i25 i29 i30 i31 i36 i37 i38 r73 r74 r75 r76 r77 r78 r79 r80 r81 r82 r83 r84 r85 r86 r87 r88 r89 r90 r91 r92 r93 r94 r95 n c s nT kT nH kH a3) := by
  refine ezw_met (k := 1) rfl rfl ?_
  obtain ⟨se, sa, sp, hP, sw, sk⟩ := ezm_TKi tk st hn
  refine ezw_aload_n rfl rfl ?_
  refine ezm_g8 rfl ?_
  have k1 := hT.t8
  refine ezw_if_ne rfl rfl ⟨by omega, by omega⟩ (fun h4_1 => ?_) (fun h4_1 => ?_)
  · refine ezw_aload_n rfl rfl ?_
    refine ezm_g8 rfl ?_
    refine ezw_if_le rfl rfl ⟨by omega, by omega⟩ (fun h23_1 => ?_) (fun h23_1 => ?_)
    · refine ezw_aload_n rfl rfl ?_
      refine ezw_iload_n rfl rfl ?_
      refine ezw_call0_1 rfl (by omega) (ezm_at rfl) rfl rfl rfl rfl (ezm_m229_v1p hT (by omega) (by omega) nm) ?_
      rintro _ _ ⟨rfl, u3, hu3, p2_0, f_2, fa_2, rfl⟩
      have hsw := sw (by omega) (by omega)
      have hfa := fa_2 _ hsw.1 hsw.2
      have hft := ezm_NM_fH (l := ezp_W c s.2) nm
      have hnk := nm.1
      refine ezw_iload_n rfl rfl ?_
      refine ezw_isub (k := u3 - 20) rfl (by omega) ?_
      refine ezw_istore rfl rfl ?_
      refine ezw_aload_n rfl rfl ?_
      refine ezm_g8 rfl ?_
      refine ezw_if_ne rfl rfl ⟨by omega, by omega⟩ (fun h43_3 => ?_) (fun h43_3 => ?_)
      · refine ezw_iload rfl rfl ?_
        exact ezw_ireturn rfl rfl ⟨i8, rfl, hT, u3 - 20, ⟨by omega, by omega⟩, by omega, by omega, by omega, by
              intro z
              first
                | exact absurd z (by omega)
                | (rcases f_2 with h | ⟨k, k0, k1, k2⟩
                   · exact absurd h (by omega)
                   · exact ⟨k, k0, k1, by omega⟩), by
              first
                | (exfalso; omega)
                | (rw [ezp_se_n (by omega)]; exact st)
                | (rw [ezp_seE0 ⟨by omega, by omega⟩ (by omega)]; exact st), fun z => by omega, rfl⟩
      · refine ezw_iload rfl rfl ?_
        refine ezw_iconst (0) rfl rfl ?_
        refine ezw_iload_n rfl rfl ?_
        refine ezw_iconst (1) rfl rfl ?_
        refine ezw_isub (k := a3 - 1) rfl (by omega) ?_
        refine ezw_call2_3 rfl (by omega) rfl rfl (ezm_m236 hT (by omega) ⟨by omega, by omega⟩ ⟨by decide, by decide⟩ ⟨by omega, by omega⟩) ?_
        rintro _ _ ⟨rfl, u5, hu5, p4_0, p4_1, rfl⟩
        refine ezw_if_ne rfl rfl ⟨by omega, by omega⟩ (fun h55_5 => ?_) (fun h55_5 => ?_)
        · refine ezw_iload rfl rfl ?_
          exact ezw_ireturn rfl rfl ⟨i8, rfl, hT, u3 - 20, ⟨by omega, by omega⟩, by omega, by omega, by omega, by
                intro z
                first
                  | exact absurd z (by omega)
                  | (rcases f_2 with h | ⟨k, k0, k1, k2⟩
                     · exact absurd h (by omega)
                     · exact ⟨k, k0, k1, by omega⟩), by
                first
                  | (exfalso; omega)
                  | (rw [ezp_se_n (by omega)]; exact st)
                  | (rw [ezp_seE0 ⟨by omega, by omega⟩ (by omega)]; exact st), fun z => by omega, rfl⟩
        · refine ezw_aload_n rfl rfl ?_
          refine ezw_iconst (2) rfl rfl ?_
          refine ezw_call0_1 rfl (by omega) (ezm_at rfl) rfl rfl rfl rfl (ezm_m225p hT (by omega) ⟨by decide, by decide⟩ (by omega) (by omega) (by omega) hs (by omega) tk hM st) ?_
          rintro _ _ ⟨x8_6, rfl, hT, p6_0, p6_1, st_6, rfl⟩
          have k7 := hT.t8
          refine ezw_iload rfl rfl ?_
          exact ezw_ireturn rfl rfl ⟨x8_6, rfl, hT, u3 - 20, ⟨by omega, by omega⟩, by omega, by omega, by omega, by
                intro z
                first
                  | exact absurd z (by omega)
                  | (rcases f_2 with h | ⟨k, k0, k1, k2⟩
                     · exact absurd h (by omega)
                     · exact ⟨k, k0, k1, by omega⟩), by
                first
                  | (exfalso; omega)
                  | (rw [ezp_seE2 ⟨by omega, by omega⟩ (by omega)]; exact st_6), fun z => by omega, rfl⟩
    · refine ezw_iconst (-1) rfl rfl ?_
      refine ezw_goto rfl rfl ?_
      refine ezw_istore rfl rfl ?_
      refine ezw_aload_n rfl rfl ?_
      refine ezm_g8 rfl ?_
      refine ezw_if_ne rfl rfl ⟨by omega, by omega⟩ (fun h43_7 => ?_) (fun h43_7 => ?_)
      · refine ezw_iload rfl rfl ?_
        exact ezw_ireturn rfl rfl ⟨i8, rfl, hT, (-1), ⟨by decide, by decide⟩, by omega, by omega, by omega, by
              intro z
              first
                | exact absurd z (by omega)
                | (rcases f_None with h | ⟨k, k0, k1, k2⟩
                   · exact absurd h (by omega)
                   · exact ⟨k, k0, k1, by omega⟩), by
              first
                | (exfalso; omega)
                | (rw [ezp_se_n (by omega)]; exact st)
                | (rw [ezp_seE0 ⟨by omega, by omega⟩ (by omega)]; exact st), fun z => by omega, rfl⟩
      · refine ezw_iload rfl rfl ?_
        refine ezw_iconst (0) rfl rfl ?_
        refine ezw_iload_n rfl rfl ?_
        refine ezw_iconst (1) rfl rfl ?_
        refine ezw_isub (k := a3 - 1) rfl (by omega) ?_
        refine ezw_call2_3 rfl (by omega) rfl rfl (ezm_m236 hT (by omega) ⟨by decide, by decide⟩ ⟨by decide, by decide⟩ ⟨by omega, by omega⟩) ?_
        rintro _ _ ⟨rfl, u9, hu9, p8_0, p8_1, rfl⟩
        refine ezw_if_ne rfl rfl ⟨by omega, by omega⟩ (fun h55_9 => ?_) (fun h55_9 => ?_)
        · refine ezw_iload rfl rfl ?_
          exact ezw_ireturn rfl rfl ⟨i8, rfl, hT, (-1), ⟨by decide, by decide⟩, by omega, by omega, by omega, by
                intro z
                first
                  | exact absurd z (by omega)
                  | (rcases f_None with h | ⟨k, k0, k1, k2⟩
                     · exact absurd h (by omega)
                     · exact ⟨k, k0, k1, by omega⟩), by
                first
                  | (exfalso; omega)
                  | (rw [ezp_se_n (by omega)]; exact st)
                  | (rw [ezp_seE0 ⟨by omega, by omega⟩ (by omega)]; exact st), fun z => by omega, rfl⟩
        · refine ezw_aload_n rfl rfl ?_
          refine ezw_iconst (2) rfl rfl ?_
          refine ezw_call0_1 rfl (by omega) (ezm_at rfl) rfl rfl rfl rfl (ezm_m225p hT (by omega) ⟨by decide, by decide⟩ (by omega) (by omega) (by omega) hs (by omega) tk hM st) ?_
          rintro _ _ ⟨x8_10, rfl, hT, p10_0, p10_1, st_10, rfl⟩
          have k11 := hT.t8
          refine ezw_iload rfl rfl ?_
          exact ezw_ireturn rfl rfl ⟨x8_10, rfl, hT, (-1), ⟨by decide, by decide⟩, by omega, by omega, by omega, by
                intro z
                first
                  | exact absurd z (by omega)
                  | (rcases f_None with h | ⟨k, k0, k1, k2⟩
                     · exact absurd h (by omega)
                     · exact ⟨k, k0, k1, by omega⟩), by
                first
                  | (exfalso; omega)
                  | (rw [ezp_seE2 ⟨by omega, by omega⟩ (by omega)]; exact st_10), fun z => by omega, rfl⟩
  · refine ezw_aload_n rfl rfl ?_
    refine ezw_call0_0 rfl (by omega) (ezm_at rfl) rfl rfl rfl rfl (ezm_m227p hT (by omega) (by omega) hs (by omega) tk hM st) ?_
    rintro _ _ ⟨rfl, u13, hu13, f_12, q1_12, q0_12, rfl⟩
    refine ezw_if_ne rfl rfl ⟨by omega, by omega⟩ (fun h11_13 => ?_) (fun h11_13 => ?_)
    · refine ezw_aload_n rfl rfl ?_
      refine ezm_g8 rfl ?_
      refine ezw_if_le rfl rfl ⟨by omega, by omega⟩ (fun h23_13 => ?_) (fun h23_13 => ?_)
      · refine ezw_aload_n rfl rfl ?_
        refine ezw_iload_n rfl rfl ?_
        refine ezw_call0_1 rfl (by omega) (ezm_at rfl) rfl rfl rfl rfl (ezm_m229_v1p hT (by omega) (by omega) nm) ?_
        rintro _ _ ⟨rfl, u15, hu15, p14_0, f_14, fa_14, rfl⟩
        have hsw := sw (by omega) (by omega)
        have hfa := fa_14 _ hsw.1 hsw.2
        have hft := ezm_NM_fH (l := ezp_W c s.2) nm
        have hnk := nm.1
        refine ezw_iload_n rfl rfl ?_
        refine ezw_isub (k := u15 - 20) rfl (by omega) ?_
        refine ezw_istore rfl rfl ?_
        refine ezw_aload_n rfl rfl ?_
        refine ezm_g8 rfl ?_
        refine ezw_if_ne rfl rfl ⟨by omega, by omega⟩ (fun h43_15 => ?_) (fun h43_15 => ?_)
        · refine ezw_iload rfl rfl ?_
          exact ezw_ireturn rfl rfl ⟨i8, rfl, hT, u15 - 20, ⟨by omega, by omega⟩, by omega, by omega, by omega, by
                intro z
                first
                  | exact absurd z (by omega)
                  | (rcases f_14 with h | ⟨k, k0, k1, k2⟩
                     · exact absurd h (by omega)
                     · exact ⟨k, k0, k1, by omega⟩), by
                first
                  | (exfalso; omega)
                  | (rw [ezp_se_n (by omega)]; exact st)
                  | (rw [ezp_seE0 ⟨by omega, by omega⟩ (by omega)]; exact st), fun z => by omega, rfl⟩
        · refine ezw_iload rfl rfl ?_
          refine ezw_iconst (0) rfl rfl ?_
          refine ezw_iload_n rfl rfl ?_
          refine ezw_iconst (1) rfl rfl ?_
          refine ezw_isub (k := a3 - 1) rfl (by omega) ?_
          refine ezw_call2_3 rfl (by omega) rfl rfl (ezm_m236 hT (by omega) ⟨by omega, by omega⟩ ⟨by decide, by decide⟩ ⟨by omega, by omega⟩) ?_
          rintro _ _ ⟨rfl, u17, hu17, p16_0, p16_1, rfl⟩
          refine ezw_if_ne rfl rfl ⟨by omega, by omega⟩ (fun h55_17 => ?_) (fun h55_17 => ?_)
          · refine ezw_iload rfl rfl ?_
            exact ezw_ireturn rfl rfl ⟨i8, rfl, hT, u15 - 20, ⟨by omega, by omega⟩, by omega, by omega, by omega, by
                  intro z
                  first
                    | exact absurd z (by omega)
                    | (rcases f_14 with h | ⟨k, k0, k1, k2⟩
                       · exact absurd h (by omega)
                       · exact ⟨k, k0, k1, by omega⟩), by
                  first
                    | (exfalso; omega)
                    | (rw [ezp_se_n (by omega)]; exact st)
                    | (rw [ezp_seE0 ⟨by omega, by omega⟩ (by omega)]; exact st), fun z => by omega, rfl⟩
          · refine ezw_aload_n rfl rfl ?_
            refine ezw_iconst (2) rfl rfl ?_
            refine ezw_call0_1 rfl (by omega) (ezm_at rfl) rfl rfl rfl rfl (ezm_m225p hT (by omega) ⟨by decide, by decide⟩ (by omega) (by omega) (by omega) hs (by omega) tk hM st) ?_
            rintro _ _ ⟨x8_18, rfl, hT, p18_0, p18_1, st_18, rfl⟩
            have k19 := hT.t8
            refine ezw_iload rfl rfl ?_
            exact ezw_ireturn rfl rfl ⟨x8_18, rfl, hT, u15 - 20, ⟨by omega, by omega⟩, by omega, by omega, by omega, by
                  intro z
                  first
                    | exact absurd z (by omega)
                    | (rcases f_14 with h | ⟨k, k0, k1, k2⟩
                       · exact absurd h (by omega)
                       · exact ⟨k, k0, k1, by omega⟩), by
                  first
                    | (exfalso; omega)
                    | (rw [ezp_seE2 ⟨by omega, by omega⟩ (by omega)]; exact st_18), fun z => by omega, rfl⟩
      · refine ezw_iconst (-1) rfl rfl ?_
        refine ezw_goto rfl rfl ?_
        refine ezw_istore rfl rfl ?_
        refine ezw_aload_n rfl rfl ?_
        refine ezm_g8 rfl ?_
        refine ezw_if_ne rfl rfl ⟨by omega, by omega⟩ (fun h43_19 => ?_) (fun h43_19 => ?_)
        · refine ezw_iload rfl rfl ?_
          exact ezw_ireturn rfl rfl ⟨i8, rfl, hT, (-1), ⟨by decide, by decide⟩, by omega, by omega, by omega, by
                intro z
                first
                  | exact absurd z (by omega)
                  | (rcases f_None with h | ⟨k, k0, k1, k2⟩
                     · exact absurd h (by omega)
                     · exact ⟨k, k0, k1, by omega⟩), by
                first
                  | (exfalso; omega)
                  | (rw [ezp_se_n (by omega)]; exact st)
                  | (rw [ezp_seE0 ⟨by omega, by omega⟩ (by omega)]; exact st), fun z => by omega, rfl⟩
        · refine ezw_iload rfl rfl ?_
          refine ezw_iconst (0) rfl rfl ?_
          refine ezw_iload_n rfl rfl ?_
          refine ezw_iconst (1) rfl rfl ?_
          refine ezw_isub (k := a3 - 1) rfl (by omega) ?_
          refine ezw_call2_3 rfl (by omega) rfl rfl (ezm_m236 hT (by omega) ⟨by decide, by decide⟩ ⟨by decide, by decide⟩ ⟨by omega, by omega⟩) ?_
          rintro _ _ ⟨rfl, u21, hu21, p20_0, p20_1, rfl⟩
          refine ezw_if_ne rfl rfl ⟨by omega, by omega⟩ (fun h55_21 => ?_) (fun h55_21 => ?_)
          · refine ezw_iload rfl rfl ?_
            exact ezw_ireturn rfl rfl ⟨i8, rfl, hT, (-1), ⟨by decide, by decide⟩, by omega, by omega, by omega, by
                  intro z
                  first
                    | exact absurd z (by omega)
                    | (rcases f_None with h | ⟨k, k0, k1, k2⟩
                       · exact absurd h (by omega)
                       · exact ⟨k, k0, k1, by omega⟩), by
                  first
                    | (exfalso; omega)
                    | (rw [ezp_se_n (by omega)]; exact st)
                    | (rw [ezp_seE0 ⟨by omega, by omega⟩ (by omega)]; exact st), fun z => by omega, rfl⟩
          · refine ezw_aload_n rfl rfl ?_
            refine ezw_iconst (2) rfl rfl ?_
            refine ezw_call0_1 rfl (by omega) (ezm_at rfl) rfl rfl rfl rfl (ezm_m225p hT (by omega) ⟨by decide, by decide⟩ (by omega) (by omega) (by omega) hs (by omega) tk hM st) ?_
            rintro _ _ ⟨x8_22, rfl, hT, p22_0, p22_1, st_22, rfl⟩
            have k23 := hT.t8
            refine ezw_iload rfl rfl ?_
            exact ezw_ireturn rfl rfl ⟨x8_22, rfl, hT, (-1), ⟨by decide, by decide⟩, by omega, by omega, by omega, by
                  intro z
                  first
                    | exact absurd z (by omega)
                    | (rcases f_None with h | ⟨k, k0, k1, k2⟩
                       · exact absurd h (by omega)
                       · exact ⟨k, k0, k1, by omega⟩), by
                  first
                    | (exfalso; omega)
                    | (rw [ezp_seE2 ⟨by omega, by omega⟩ (by omega)]; exact st_22), fun z => by omega, rfl⟩
    · refine ezw_aload_n rfl rfl ?_
      refine ezw_iconst (1) rfl rfl ?_
      refine ezw_call0_1 rfl (by omega) (ezm_at rfl) rfl rfl rfl rfl (ezm_m225p hT (by omega) ⟨by decide, by decide⟩ (by omega) (by omega) (by omega) hs (by omega) tk hM st) ?_
      rintro _ _ ⟨x8_24, rfl, hT, p24_0, p24_1, st_24, rfl⟩
      have k25 := hT.t8
      refine ezw_aload_n rfl rfl ?_
      refine ezm_g8 rfl ?_
      refine ezw_if_le rfl rfl ⟨by omega, by omega⟩ (fun h23_25 => ?_) (fun h23_25 => ?_)
      · refine ezw_aload_n rfl rfl ?_
        refine ezw_iload_n rfl rfl ?_
        refine ezw_call0_1 rfl (by omega) (ezm_at rfl) rfl rfl rfl rfl (ezm_m229_v1p hT (by omega) (by omega) nm) ?_
        rintro _ _ ⟨rfl, u27, hu27, p26_0, f_26, fa_26, rfl⟩
        have hsw := sw (by omega) (by omega)
        have hfa := fa_26 _ hsw.1 hsw.2
        have hft := ezm_NM_fH (l := ezp_W c s.2) nm
        have hnk := nm.1
        refine ezw_iload_n rfl rfl ?_
        refine ezw_isub (k := u27 - 20) rfl (by omega) ?_
        refine ezw_istore rfl rfl ?_
        refine ezw_aload_n rfl rfl ?_
        refine ezm_g8 rfl ?_
        refine ezw_if_ne rfl rfl ⟨by omega, by omega⟩ (fun h43_27 => ?_) (fun h43_27 => ?_)
        · refine ezw_iload rfl rfl ?_
          exact ezw_ireturn rfl rfl ⟨x8_24, rfl, hT, u27 - 20, ⟨by omega, by omega⟩, by omega, by omega, by omega, by
                intro z
                first
                  | exact absurd z (by omega)
                  | (rcases f_26 with h | ⟨k, k0, k1, k2⟩
                     · exact absurd h (by omega)
                     · exact ⟨k, k0, k1, by omega⟩), by
                first
                  | (exfalso; omega)
                  | (rw [ezp_seE1 (by omega)]; exact ezm_ST_7 st_24 (by omega) (fun _ => by omega)), fun z => by omega, rfl⟩
        · refine ezw_iload rfl rfl ?_
          refine ezw_iconst (0) rfl rfl ?_
          refine ezw_iload_n rfl rfl ?_
          refine ezw_iconst (1) rfl rfl ?_
          refine ezw_isub (k := a3 - 1) rfl (by omega) ?_
          refine ezw_call2_3 rfl (by omega) rfl rfl (ezm_m236 hT (by omega) ⟨by omega, by omega⟩ ⟨by decide, by decide⟩ ⟨by omega, by omega⟩) ?_
          rintro _ _ ⟨rfl, u29, hu29, p28_0, p28_1, rfl⟩
          refine ezw_if_ne rfl rfl ⟨by omega, by omega⟩ (fun h55_29 => ?_) (fun h55_29 => ?_)
          · refine ezw_iload rfl rfl ?_
            exact ezw_ireturn rfl rfl ⟨x8_24, rfl, hT, u27 - 20, ⟨by omega, by omega⟩, by omega, by omega, by omega, by
                  intro z
                  first
                    | exact absurd z (by omega)
                    | (rcases f_26 with h | ⟨k, k0, k1, k2⟩
                       · exact absurd h (by omega)
                       · exact ⟨k, k0, k1, by omega⟩), by
                  first
                    | (exfalso; omega)
                    | (rw [ezp_seE1 (by omega)]; exact ezm_ST_7 st_24 (by omega) (fun _ => by omega)), fun z => by omega, rfl⟩
          · refine ezw_aload_n rfl rfl ?_
            refine ezw_iconst (2) rfl rfl ?_
            refine ezw_call0_1 rfl (by omega) (ezm_at rfl) rfl rfl rfl rfl (ezm_m225p hT (by omega) ⟨by decide, by decide⟩ (by omega) (by omega) (by omega) hs (by omega) tk hM st_24) ?_
            rintro _ _ ⟨x8_30, rfl, hT, p30_0, p30_1, st_30, rfl⟩
            have k31 := hT.t8
            refine ezw_iload rfl rfl ?_
            exact ezw_ireturn rfl rfl ⟨x8_30, rfl, hT, u27 - 20, ⟨by omega, by omega⟩, by omega, by omega, by omega, by
                  intro z
                  first
                    | exact absurd z (by omega)
                    | (rcases f_26 with h | ⟨k, k0, k1, k2⟩
                       · exact absurd h (by omega)
                       · exact ⟨k, k0, k1, by omega⟩), by
                  first
                    | (exfalso; omega)
                    | (rw [ezp_seE2 ⟨by omega, by omega⟩ (by omega)]; exact st_30), fun z => by omega, rfl⟩
      · refine ezw_iconst (-1) rfl rfl ?_
        refine ezw_goto rfl rfl ?_
        refine ezw_istore rfl rfl ?_
        refine ezw_aload_n rfl rfl ?_
        refine ezm_g8 rfl ?_
        refine ezw_if_ne rfl rfl ⟨by omega, by omega⟩ (fun h43_31 => ?_) (fun h43_31 => ?_)
        · refine ezw_iload rfl rfl ?_
          exact ezw_ireturn rfl rfl ⟨x8_24, rfl, hT, (-1), ⟨by decide, by decide⟩, by omega, by omega, by omega, by
                intro z
                first
                  | exact absurd z (by omega)
                  | (rcases f_None with h | ⟨k, k0, k1, k2⟩
                     · exact absurd h (by omega)
                     · exact ⟨k, k0, k1, by omega⟩), by
                first
                  | (exfalso; omega)
                  | (rw [ezp_seE1 (by omega)]; exact ezm_ST_7 st_24 (by omega) (fun _ => by omega)), fun z => by omega, rfl⟩
        · refine ezw_iload rfl rfl ?_
          refine ezw_iconst (0) rfl rfl ?_
          refine ezw_iload_n rfl rfl ?_
          refine ezw_iconst (1) rfl rfl ?_
          refine ezw_isub (k := a3 - 1) rfl (by omega) ?_
          refine ezw_call2_3 rfl (by omega) rfl rfl (ezm_m236 hT (by omega) ⟨by decide, by decide⟩ ⟨by decide, by decide⟩ ⟨by omega, by omega⟩) ?_
          rintro _ _ ⟨rfl, u33, hu33, p32_0, p32_1, rfl⟩
          refine ezw_if_ne rfl rfl ⟨by omega, by omega⟩ (fun h55_33 => ?_) (fun h55_33 => ?_)
          · refine ezw_iload rfl rfl ?_
            exact ezw_ireturn rfl rfl ⟨x8_24, rfl, hT, (-1), ⟨by decide, by decide⟩, by omega, by omega, by omega, by
                  intro z
                  first
                    | exact absurd z (by omega)
                    | (rcases f_None with h | ⟨k, k0, k1, k2⟩
                       · exact absurd h (by omega)
                       · exact ⟨k, k0, k1, by omega⟩), by
                  first
                    | (exfalso; omega)
                    | (rw [ezp_seE1 (by omega)]; exact ezm_ST_7 st_24 (by omega) (fun _ => by omega)), fun z => by omega, rfl⟩
          · refine ezw_aload_n rfl rfl ?_
            refine ezw_iconst (2) rfl rfl ?_
            refine ezw_call0_1 rfl (by omega) (ezm_at rfl) rfl rfl rfl rfl (ezm_m225p hT (by omega) ⟨by decide, by decide⟩ (by omega) (by omega) (by omega) hs (by omega) tk hM st_24) ?_
            rintro _ _ ⟨x8_34, rfl, hT, p34_0, p34_1, st_34, rfl⟩
            have k35 := hT.t8
            refine ezw_iload rfl rfl ?_
            exact ezw_ireturn rfl rfl ⟨x8_34, rfl, hT, (-1), ⟨by decide, by decide⟩, by omega, by omega, by omega, by
                  intro z
                  first
                    | exact absurd z (by omega)
                    | (rcases f_None with h | ⟨k, k0, k1, k2⟩
                       · exact absurd h (by omega)
                       · exact ⟨k, k0, k1, by omega⟩), by
                  first
                    | (exfalso; omega)
                    | (rw [ezp_seE2 ⟨by omega, by omega⟩ (by omega)]; exact st_34), fun z => by omega, rfl⟩
def ezm_m239_v1_v20pQ (e : Bool × Bool) (F : Nat → Nat → Int) (A : Nat → Int → Int) (i0 i2 i3 i7 i8 i13 i18 i19 i20 i25 i29 i30 i31 i36 i37 i38 : Int) (r73 r74 r75 r76 r77 r78 r79 r80 r81 r82 r83 r84 r85 r86 r87 r88 r89 r90 r91 r92 r93 r94 r95 : Int → Int) (n : Int) (c : Int → Int) (s : Int × Int) (nT : Int → List Int) (kT : Int) (nH : Int → List Int) (kH : Int) (a3 : Int) : Option ezq_V → (Nat → ezq_C) → Prop := fun v g' => ∃ (x7 x8 : Int), ezm_h e F A i0 i2 i3 x7 x8 i13 i18 i19 i20 i25 i29 i30 i31 i36 i37 i38 r73 r74 r75 r76 r77 r78 r79 r80 r81 r82 r83 r84 r85 r86 r87 r88 r89 r90 r91 r92 r93 r94 r95 = g' ∧ ezm_T i0 i2 i3 x7 x8 i13 i18 i19 i20 i25 i29 i30 i31 i36 i37 i38 r73 r74 r75 r76 r77 r78 r79 r80 r81 r82 r83 r84 r85 r86 r87 r88 r89 r90 r91 r92 r93 r94 r95 ∧ ∃ u : Int, (ezw_in u) ∧ (i8 ≠ 0 → x8 = i8) ∧ (x8 = 0 → 0 ≤ u ∧ u < a3 ∧ i8 = 0 ∧ x7 = i7 + 1 ∧ x7 ≤ n) ∧ (x8 ≠ 0 → u = 0 ∧ x7 = i7) ∧ (ezm_ST (ezp_ta c nH kH s) x8 x7) ∧ (ezm_I (x8 = 0) (u = ezp_fi nH kH (ezp_W c s.2) ∧ ezp_K c s.2 = 100 ∧ 0 ≤ u ∧ u < kH ∧ s.1 = 0)) ∧ some (ezw_i u) = v
theorem ezm_m239_v1_v20p {c : Int → Int} {s : Int × Int} {nT : Int → List Int} {nH : Int → List Int} {n kT kH a3 : Int} (hT : ezm_T i0 i2 i3 i7 i8 i13 i18 i19 i20 i25 i29 i30 i31 i36 i37 i38 r73 r74 r75 r76 r77 r78 r79 r80 r81 r82 r83 r84 r85 r86 r87 r88 r89 r90 r91 r92 r93 r94 r95) (hd : 4 ≤ d) (ha3 : ezw_in a3) (hn : 0 ≤ i7 ∧ i7 ≤ n) (hs : r74 n = 0) (h1 : n ≤ 1000) (tk : ezm_TK c n r74 r75 r76) (hM : ∀ w, 0 ≤ w → w < 48 → r77 w = ezl_mw.getD w.toNat 0) (st : ezm_ST s i8 i7) (gb : a3 = 4) (nm : ezm_NM nT kT nH kH i19 r82 r84) : ezw_C l ρ B xa Hb D cA 239 d [ezw_p 72, ezw_i (1), ezw_i (20), ezw_i a3] (ezm_h e F A i0 i2 i3 i7 i8 i13 i18 i19 i20 i25 i29 i30 i31 i36 i37 i38 r73 r74 r75 r76 r77 r78 r79 r80 r81 r82 r83 r84 r85 r86 r87 r88 r89 r90 r91 r92 r93 r94 r95) (ezm_m239_v1_v20pQ  e F A i0 i2 i3 i7 i8 i13 i18 i19 i20 i25 i29 i30 i31 i36 i37 i38 r73 r74 r75 r76 r77 r78 r79 r80 r81 r82 r83 r84 r85 r86 r87 r88 r89 r90 r91 r92 r93 r94 r95 n c s nT kT nH kH a3) := by
  refine ezw_met (k := 1) rfl rfl ?_
  obtain ⟨se, sa, sp, hP, sw, sk⟩ := ezm_TKi tk st hn
  refine ezw_aload_n rfl rfl ?_
  refine ezw_iload_n rfl rfl ?_
  refine ezw_iload_n rfl rfl ?_
  refine ezw_iload_n rfl rfl ?_
  refine ezw_call0_3 rfl (by omega) (ezm_at rfl) rfl rfl rfl rfl (ezm_m235_v1_v20p hT (by omega) ha3 (by omega) hs (by omega) tk hM st (by omega) nm) ?_
  rintro _ _ ⟨x8_1, rfl, hT, u2, hu2, p1_0, p1_1, p1_2, f_1, st_1, v_1, rfl⟩
  have k3 := hT.t8
  refine ezw_istore rfl rfl ?_
  refine ezw_aload_n rfl rfl ?_
  refine ezw_dup rfl rfl ?_
  refine ezm_g7 rfl ?_
  have k4 := hT.t7
  refine ezw_aload_n rfl rfl ?_
  refine ezm_g8 rfl ?_
  refine ezw_if_le rfl rfl ⟨by omega, by omega⟩ (fun h18_4 => ?_) (fun h18_4 => ?_)
  · refine ezw_iconst (1) rfl rfl ?_
    refine ezw_iadd (k := i7 + 1) rfl (by omega) ?_
    refine ezm_p7 hT rfl ⟨by omega, by omega⟩ (fun hT => ?_)
    refine ezw_aload_n rfl rfl ?_
    refine ezm_g8 rfl ?_
    refine ezw_if_le rfl rfl ⟨by omega, by omega⟩ (fun h34_4 => ?_) (fun h34_4 => ?_)
    · refine ezw_iload rfl rfl ?_
      exact ezw_ireturn rfl rfl ⟨(i7 + 1), x8_1, rfl, hT, u2, hu2, by omega, by omega, by omega, ezm_ST_t st_1 rfl (fun _ => by omega), fun z => by
            first
              | (exfalso; omega)
              | exact v_1 z, rfl⟩
    · refine ezw_iconst (0) rfl rfl ?_
      refine ezw_goto rfl rfl ?_
      exact ezw_ireturn rfl rfl ⟨(i7 + 1), x8_1, rfl, hT, (0), ⟨by decide, by decide⟩, by omega, by omega, by omega, ezm_ST_t st_1 rfl (fun _ => by omega), fun z => by
            first
              | (exfalso; omega)
              | exact v_1 z, rfl⟩
  · refine ezw_iconst (0) rfl rfl ?_
    refine ezw_goto rfl rfl ?_
    refine ezw_iadd (k := i7) rfl (by omega) ?_
    refine ezm_p7 hT rfl ⟨by omega, by omega⟩ (fun hT => ?_)
    refine ezw_aload_n rfl rfl ?_
    refine ezm_g8 rfl ?_
    refine ezw_if_le rfl rfl ⟨by omega, by omega⟩ (fun h34_4 => ?_) (fun h34_4 => ?_)
    · refine ezw_iload rfl rfl ?_
      exact ezw_ireturn rfl rfl ⟨i7, x8_1, rfl, hT, u2, hu2, by omega, by omega, by omega, ezm_ST_t st_1 rfl (fun _ => by omega), fun z => by
            first
              | (exfalso; omega)
              | exact v_1 z, rfl⟩
    · refine ezw_iconst (0) rfl rfl ?_
      refine ezw_goto rfl rfl ?_
      exact ezw_ireturn rfl rfl ⟨i7, x8_1, rfl, hT, (0), ⟨by decide, by decide⟩, by omega, by omega, by omega, ezm_ST_t st_1 rfl (fun _ => by omega), fun z => by
            first
              | (exfalso; omega)
              | exact v_1 z, rfl⟩
def ezm_m226pQ (e : Bool × Bool) (F : Nat → Nat → Int) (A : Nat → Int → Int) (i0 i2 i3 i7 i8 i13 i18 i19 i20 i25 i29 i30 i31 i36 i37 i38 : Int) (r73 r74 r75 r76 r77 r78 r79 r80 r81 r82 r83 r84 r85 r86 r87 r88 r89 r90 r91 r92 r93 r94 r95 : Int → Int) (n : Int) (c : Int → Int) (s : Int × Int) (nT : Int → List Int) (kT : Int) (nH : Int → List Int) (kH : Int) (a1 : Int) : Option ezq_V → (Nat → ezq_C) → Prop := fun v g' => ∃ (x7 x8 x19 : Int) (x82 x84 : Int → Int), ezm_h e F A i0 i2 i3 x7 x8 i13 i18 x19 i20 i25 i29 i30 i31 i36 i37 i38 r73 r74 r75 r76 r77 r78 r79 r80 r81 x82 r83 x84 r85 r86 r87 r88 r89 r90 r91 r92 r93 r94 r95 = g' ∧ ezm_T i0 i2 i3 x7 x8 i13 i18 x19 i20 i25 i29 i30 i31 i36 i37 i38 r73 r74 r75 r76 r77 r78 r79 r80 r81 x82 r83 x84 r85 r86 r87 r88 r89 r90 r91 r92 r93 r94 r95 ∧ (x8 = 0 → i8 = 0 ∧ x19 = i19 + 1 ∧ x7 = i7 + 2) ∧ (i7 ≤ x7 ∧ x7 ≤ n) ∧ (i8 ≠ 0 → x8 ≠ 0) ∧ (x8 ≠ 0 → x19 = i19) ∧ (x8 = 0 → x84 i19 = a1) ∧ (∀ j, j ≠ i19 → x84 j = r84 j) ∧ (ezm_ST (ezp_nn c nT kT nH kH (ezp_t s)) x8 x7) ∧ (ezm_I (x8 = 0) (x82 i19 = ezp_v 37 (ezp_W c (ezp_t s).2))) ∧ (∀ j, j ≠ i19 → x82 j = r82 j) ∧ (ezm_I (x8 = 0) (ezp_ok (ezp_W c (ezp_t s).2) ∧ ezp_fi nT kT (ezp_W c (ezp_t s).2) = -1 ∧ ezp_fi nH kH (ezp_W c (ezp_t s).2) = -1)) ∧ none = v
set_option maxHeartbeats 8000000 in
theorem ezm_m226p {c : Int → Int} {s : Int × Int} {nT : Int → List Int} {nH : Int → List Int} {n kT kH a1 : Int} (hT : ezm_T i0 i2 i3 i7 i8 i13 i18 i19 i20 i25 i29 i30 i31 i36 i37 i38 r73 r74 r75 r76 r77 r78 r79 r80 r81 r82 r83 r84 r85 r86 r87 r88 r89 r90 r91 r92 r93 r94 r95) (hd : 3 ≤ d) (ha1 : ezw_in a1) (gn : i7 < n) (ga : 0 ≤ a1 ∧ a1 ≤ 23) (gm : 0 ≤ i19 ∧ i19 ≤ 11) (hn : 0 ≤ i7 ∧ i7 ≤ n) (hs : r74 n = 0) (h1 : n ≤ 1000) (tk : ezm_TK c n r74 r75 r76) (hM : ∀ w, 0 ≤ w → w < 48 → r77 w = ezl_mw.getD w.toNat 0) (st : ezm_ST s i8 i7) (nm : ezm_NM nT kT nH kH i19 r82 r84) : ezw_C l ρ B xa Hb D cA 226 d [ezw_p 72, ezw_i a1] (ezm_h e F A i0 i2 i3 i7 i8 i13 i18 i19 i20 i25 i29 i30 i31 i36 i37 i38 r73 r74 r75 r76 r77 r78 r79 r80 r81 r82 r83 r84 r85 r86 r87 r88 r89 r90 r91 r92 r93 r94 r95) (ezm_m226pQ  e F A i0 i2 i3 i7 i8 i13 i18 i19 i20 i25 i29 i30 i31 i36 i37 i38 r73 r74 r75 r76 r77 r78 r79 r80 r81 r82 r83 r84 r85 r86 r87 r88 r89 r90 r91 r92 r93 r94 r95 n c s nT kT nH kH a1) := by
  refine ezw_met (k := 0) rfl rfl ?_
  obtain ⟨se, sa, sp, hP, sw, sk⟩ := ezm_TKi tk st hn
  refine ezw_aload_n rfl rfl ?_
  refine ezw_dup rfl rfl ?_
  refine ezm_g7 rfl ?_
  have k1 := hT.t7
  refine ezw_iconst (1) rfl rfl ?_
  refine ezw_iadd (k := i7 + 1) rfl (by omega) ?_
  refine ezm_p7 hT rfl ⟨by omega, by omega⟩ (fun hT => ?_)
  have stA : ezm_ST (ezp_t s) i8 (i7 + 1) := ezm_ST_t st rfl (fun _ => rfl)
  obtain ⟨se2, sa2, sp2, hP2, sw2, sk2⟩ := ezm_TKi tk stA (by omega)
  have hnk := nm.1
  refine ezw_aload_n rfl rfl ?_
  refine ezw_call0_0 rfl (by omega) (ezm_at rfl) rfl rfl rfl rfl (ezm_m227p hT (by omega) (by omega) hs (by omega) tk hM stA) ?_
  rintro _ _ ⟨rfl, u3, hu3, f_2, q1_2, q0_2, rfl⟩
  refine ezw_if_ne rfl rfl ⟨by omega, by omega⟩ (fun h14_3 => ?_) (fun h14_3 => ?_)
  · refine ezw_aload_n rfl rfl ?_
    refine ezw_iconst (1) rfl rfl ?_
    refine ezw_call0_1 rfl (by omega) (ezm_at rfl) rfl rfl rfl rfl (ezm_m229_v1p hT (by omega) (by omega) nm) ?_
    rintro _ _ ⟨rfl, u5, hu5, p4_0, f_4, fa_4, rfl⟩
    have hsw := sw2 (by omega) (by omega)
    have hfa := fa_4 _ hsw.1 hsw.2
    have hft := ezm_NM_fN (l := (ezp_W c (ezp_t s).2)) nm
    refine ezw_if_lt rfl rfl hu5 (fun h30_5 => ?_) (fun h30_5 => ?_)
    · refine ezw_aload_n rfl rfl ?_
      refine ezm_g8 rfl ?_
      have k6 := hT.t8
      refine ezw_if_ne rfl rfl ⟨by omega, by omega⟩ (fun h42_6 => ?_) (fun h42_6 => ?_)
      · exact ezw_return rfl rfl ⟨(i7 + 1), i8, i19, r82, r84, rfl, hT, by omega, by omega, by omega, by omega, fun z => absurd z (by omega), fun _ _ => rfl, by
              first
                | (exfalso; omega)
                | (rw [ezp_nnE0 ⟨by omega, by omega⟩ (hft.1 (by omega))]; exact ezm_ST_t stA (by omega) (fun _ => by omega)), fun z => absurd z (by omega), fun _ _ => rfl, fun z => by
              first
                | exact absurd z (by omega)
                | exact ⟨hsw.1, (hft.1 (by omega)).1, (hft.1 (by omega)).2⟩, rfl⟩
      · refine ezw_aload_n rfl rfl ?_
        refine ezm_gp (p := 82) rfl (fun _ => rfl) ?_
        refine ezw_aload_n rfl rfl ?_
        refine ezm_g19 rfl ?_
        have k7 := hT.t19
        refine ezw_aload_n rfl rfl ?_
        refine ezm_gp (p := 76) rfl (fun _ => rfl) ?_
        refine ezw_aload_n rfl rfl ?_
        refine ezm_g7 rfl ?_
        have k8 := hT.t7
        refine ezm_l76 rfl (by omega) (by omega) (fun u9 eu9 => ?_)
        have ku9 : ezw_il u9 := eu9 ▸ hT.t76 (i7 + 1)
        refine ezm_s82 hT rfl (by omega) (by omega) ku9 (fun r82_10 hT er82_10 fr82_10 => ?_)
        refine ezw_aload_n rfl rfl ?_
        refine ezm_gp (p := 84) rfl (fun _ => rfl) ?_
        refine ezw_aload_n rfl rfl ?_
        refine ezm_g19 rfl ?_
        refine ezw_iload_n rfl rfl ?_
        refine ezm_s84 hT rfl (by omega) (by omega) ⟨by omega, by omega⟩ (fun r84_11 hT er84_11 fr84_11 => ?_)
        refine ezw_aload_n rfl rfl ?_
        refine ezw_dup rfl rfl ?_
        refine ezm_g19 rfl ?_
        refine ezw_iconst (1) rfl rfl ?_
        refine ezw_iadd (k := i19 + 1) rfl (by omega) ?_
        refine ezm_p19 hT rfl ⟨by omega, by omega⟩ (fun hT => ?_)
        refine ezw_aload_n rfl rfl ?_
        refine ezw_dup rfl rfl ?_
        refine ezm_g7 rfl ?_
        refine ezw_iconst (1) rfl rfl ?_
        refine ezw_iadd (k := i7 + 2) rfl (by omega) ?_
        refine ezm_p7 hT rfl ⟨by omega, by omega⟩ (fun hT => ?_)
        exact ezw_return rfl rfl ⟨(i7 + 2), i8, (i19 + 1), r82_10, r84_11, rfl, hT, by omega, by omega, by omega, by omega, fun z => er84_11, fr84_11, by
              first
                | (exfalso; omega)
                | (rw [ezp_nnE0 ⟨by omega, by omega⟩ (hft.1 (by omega))]; exact ezm_ST_t stA (by omega) (fun _ => by omega)), fun z => by
              rw [er82_10]
              omega, fr82_10, fun z => by
              first
                | exact absurd z (by omega)
                | exact ⟨hsw.1, (hft.1 (by omega)).1, (hft.1 (by omega)).2⟩, rfl⟩
    · refine ezw_aload_n rfl rfl ?_
      refine ezw_iconst (3) rfl rfl ?_
      refine ezw_call0_1 rfl (by omega) (ezm_at rfl) rfl rfl rfl rfl (ezm_m225p hT (by omega) ⟨by decide, by decide⟩ (by omega) (by omega) (by omega) hs (by omega) tk hM stA) ?_
      rintro _ _ ⟨x8_12, rfl, hT, p12_0, p12_1, st_12, rfl⟩
      have k13 := hT.t8
      refine ezw_aload_n rfl rfl ?_
      refine ezm_g8 rfl ?_
      refine ezw_if_ne rfl rfl ⟨by omega, by omega⟩ (fun h42_13 => ?_) (fun h42_13 => ?_)
      · exact ezw_return rfl rfl ⟨(i7 + 1), x8_12, i19, r82, r84, rfl, hT, by omega, by omega, by omega, by omega, fun z => absurd z (by omega), fun _ _ => rfl, by
              first
                | (exfalso; omega)
                | (rw [ezp_nnE3 ⟨by omega, by omega⟩ (hft.2 (by omega))]; exact ezm_ST_7 st_12 (by omega) (fun _ => by omega)), fun z => absurd z (by omega), fun _ _ => rfl, fun z => by
              first
                | exact absurd z (by omega)
                | exact ⟨hsw.1, (hft.1 (by omega)).1, (hft.1 (by omega)).2⟩, rfl⟩
      · refine ezw_aload_n rfl rfl ?_
        refine ezm_gp (p := 82) rfl (fun _ => rfl) ?_
        refine ezw_aload_n rfl rfl ?_
        refine ezm_g19 rfl ?_
        have k14 := hT.t19
        refine ezw_aload_n rfl rfl ?_
        refine ezm_gp (p := 76) rfl (fun _ => rfl) ?_
        refine ezw_aload_n rfl rfl ?_
        refine ezm_g7 rfl ?_
        have k15 := hT.t7
        refine ezm_l76 rfl (by omega) (by omega) (fun u16 eu16 => ?_)
        have ku16 : ezw_il u16 := eu16 ▸ hT.t76 (i7 + 1)
        refine ezm_s82 hT rfl (by omega) (by omega) ku16 (fun r82_17 hT er82_17 fr82_17 => ?_)
        refine ezw_aload_n rfl rfl ?_
        refine ezm_gp (p := 84) rfl (fun _ => rfl) ?_
        refine ezw_aload_n rfl rfl ?_
        refine ezm_g19 rfl ?_
        refine ezw_iload_n rfl rfl ?_
        refine ezm_s84 hT rfl (by omega) (by omega) ⟨by omega, by omega⟩ (fun r84_18 hT er84_18 fr84_18 => ?_)
        refine ezw_aload_n rfl rfl ?_
        refine ezw_dup rfl rfl ?_
        refine ezm_g19 rfl ?_
        refine ezw_iconst (1) rfl rfl ?_
        refine ezw_iadd (k := i19 + 1) rfl (by omega) ?_
        refine ezm_p19 hT rfl ⟨by omega, by omega⟩ (fun hT => ?_)
        refine ezw_aload_n rfl rfl ?_
        refine ezw_dup rfl rfl ?_
        refine ezm_g7 rfl ?_
        refine ezw_iconst (1) rfl rfl ?_
        refine ezw_iadd (k := i7 + 2) rfl (by omega) ?_
        refine ezm_p7 hT rfl ⟨by omega, by omega⟩ (fun hT => ?_)
        exact ezw_return rfl rfl ⟨(i7 + 2), x8_12, (i19 + 1), r82_17, r84_18, rfl, hT, by omega, by omega, by omega, by omega, fun z => er84_18, fr84_18, by
              first
                | (exfalso; omega)
                | (rw [ezp_nnE3 ⟨by omega, by omega⟩ (hft.2 (by omega))]; exact ezm_ST_7 st_12 (by omega) (fun _ => by omega)), fun z => by
              rw [er82_17]
              omega, fr82_17, fun z => by
              first
                | exact absurd z (by omega)
                | exact ⟨hsw.1, (hft.1 (by omega)).1, (hft.1 (by omega)).2⟩, rfl⟩
  · refine ezw_aload_n rfl rfl ?_
    refine ezw_iconst (1) rfl rfl ?_
    refine ezw_call0_1 rfl (by omega) (ezm_at rfl) rfl rfl rfl rfl (ezm_m225p hT (by omega) ⟨by decide, by decide⟩ (by omega) (by omega) (by omega) hs (by omega) tk hM stA) ?_
    rintro _ _ ⟨x8_19, rfl, hT, p19_0, p19_1, st_19, rfl⟩
    have k20 := hT.t8
    refine ezw_goto rfl rfl ?_
    refine ezw_aload_n rfl rfl ?_
    refine ezm_g8 rfl ?_
    refine ezw_if_ne rfl rfl ⟨by omega, by omega⟩ (fun h42_20 => ?_) (fun h42_20 => ?_)
    · exact ezw_return rfl rfl ⟨(i7 + 1), x8_19, i19, r82, r84, rfl, hT, by omega, by omega, by omega, by omega, fun z => absurd z (by omega), fun _ _ => rfl, by
            first
              | (exfalso; omega)
              | (rw [ezp_nnE1 (by omega)]; exact ezm_ST_7 st_19 (by omega) (fun _ => by omega)), fun z => absurd z (by omega), fun _ _ => rfl, fun z => by
            first
              | exact absurd z (by omega)
              | exact ⟨hsw.1, (hft.1 (by omega)).1, (hft.1 (by omega)).2⟩, rfl⟩
    · refine ezw_aload_n rfl rfl ?_
      refine ezm_gp (p := 82) rfl (fun _ => rfl) ?_
      refine ezw_aload_n rfl rfl ?_
      refine ezm_g19 rfl ?_
      have k21 := hT.t19
      refine ezw_aload_n rfl rfl ?_
      refine ezm_gp (p := 76) rfl (fun _ => rfl) ?_
      refine ezw_aload_n rfl rfl ?_
      refine ezm_g7 rfl ?_
      have k22 := hT.t7
      refine ezm_l76 rfl (by omega) (by omega) (fun u23 eu23 => ?_)
      have ku23 : ezw_il u23 := eu23 ▸ hT.t76 (i7 + 1)
      refine ezm_s82 hT rfl (by omega) (by omega) ku23 (fun r82_24 hT er82_24 fr82_24 => ?_)
      refine ezw_aload_n rfl rfl ?_
      refine ezm_gp (p := 84) rfl (fun _ => rfl) ?_
      refine ezw_aload_n rfl rfl ?_
      refine ezm_g19 rfl ?_
      refine ezw_iload_n rfl rfl ?_
      refine ezm_s84 hT rfl (by omega) (by omega) ⟨by omega, by omega⟩ (fun r84_25 hT er84_25 fr84_25 => ?_)
      refine ezw_aload_n rfl rfl ?_
      refine ezw_dup rfl rfl ?_
      refine ezm_g19 rfl ?_
      refine ezw_iconst (1) rfl rfl ?_
      refine ezw_iadd (k := i19 + 1) rfl (by omega) ?_
      refine ezm_p19 hT rfl ⟨by omega, by omega⟩ (fun hT => ?_)
      refine ezw_aload_n rfl rfl ?_
      refine ezw_dup rfl rfl ?_
      refine ezm_g7 rfl ?_
      refine ezw_iconst (1) rfl rfl ?_
      refine ezw_iadd (k := i7 + 2) rfl (by omega) ?_
      refine ezm_p7 hT rfl ⟨by omega, by omega⟩ (fun hT => ?_)
      exact ezw_return rfl rfl ⟨(i7 + 2), x8_19, (i19 + 1), r82_24, r84_25, rfl, hT, by omega, by omega, by omega, by omega, fun z => er84_25, fr84_25, by
            first
              | (exfalso; omega)
              | (rw [ezp_nnE1 (by omega)]; exact ezm_ST_7 st_19 (by omega) (fun _ => by omega)), fun z => by
            rw [er82_24]
            omega, fr82_24, fun z => by
            first
              | exact absurd z (by omega)
              | exact ⟨hsw.1, (hft.1 (by omega)).1, (hft.1 (by omega)).2⟩, rfl⟩
end KM6
