/-! ===== the model: what is looked at ===== -/
section KM6
variable {l : Launch} {ρ : ezq_E} {B : Nat} {xa : Nat → Option Nat} {Hb : Heap} {D : va_G} {cA : Nat → ClassId} {d : Nat} {e : Bool × Bool} {F : Nat → Nat → Int} {A : Nat → Int → Int} {i0 i2 i3 i7 i8 i13 i18 i19 i20 i25 i29 i30 i31 i36 i37 i38 : Int} {r73 r74 r75 r76 r77 r78 r79 r80 r81 r82 r83 r84 r85 r86 r87 r88 r89 r90 r91 r92 r93 r94 r95 : Int → Int}
def ezm_m262Q (e : Bool × Bool) (F : Nat → Nat → Int) (A : Nat → Int → Int) (i0 i2 i3 i7 i8 i13 i18 i19 i20 i25 i29 i30 i31 i36 i37 i38 : Int) (r73 r74 r75 r76 r77 r78 r79 r80 r81 r82 r83 r84 r85 r86 r87 r88 r89 r90 r91 r92 r93 r94 r95 : Int → Int) (a1 : Int) : Option ezq_V → (Nat → ezq_C) → Prop := fun v g' => ezm_h e F A i0 i2 i3 i7 i8 i13 i18 i19 i20 i25 i29 i30 i31 i36 i37 i38 r73 r74 r75 r76 r77 r78 r79 r80 r81 r82 r83 r84 r85 r86 r87 r88 r89 r90 r91 r92 r93 r94 r95 = g' ∧ ∃ u : Int, (0 ≤ u ∧ u ≤ 1) ∧ (u = 1 → 0 ≤ a1 ∧ a1 < r78 1 ∧ a1 ≤ 3) ∧ some (ezw_i u) = v
theorem ezm_m262 {a1 : Int} (hT : ezm_T i0 i2 i3 i7 i8 i13 i18 i19 i20 i25 i29 i30 i31 i36 i37 i38 r73 r74 r75 r76 r77 r78 r79 r80 r81 r82 r83 r84 r85 r86 r87 r88 r89 r90 r91 r92 r93 r94 r95) (hd : 1 ≤ d) (ha1 : ezw_in a1) : ezw_C l ρ B xa Hb D cA 262 d [ezw_p 72, ezw_i a1] (ezm_h e F A i0 i2 i3 i7 i8 i13 i18 i19 i20 i25 i29 i30 i31 i36 i37 i38 r73 r74 r75 r76 r77 r78 r79 r80 r81 r82 r83 r84 r85 r86 r87 r88 r89 r90 r91 r92 r93 r94 r95) (ezm_m262Q  e F A i0 i2 i3 i7 i8 i13 i18 i19 i20 i25 i29 i30 i31 i36 i37 i38 r73 r74 r75 r76 r77 r78 r79 r80 r81 r82 r83 r84 r85 r86 r87 r88 r89 r90 r91 r92 r93 r94 r95 a1) := by
  refine ezw_met (k := 0) rfl rfl ?_
  refine ezw_iload_n rfl rfl ?_
  refine ezw_if_lt rfl rfl ha1 (fun h1_0 => ?_) (fun h1_0 => ?_)
  · refine ezw_iconst (0) rfl rfl ?_
    exact ezw_ireturn rfl (ezw_zret ⟨by omega, by omega⟩) ⟨rfl, (0), ⟨by omega, by omega⟩, by omega, rfl⟩
  · refine ezw_iload_n rfl rfl ?_
    refine ezw_aload_n rfl rfl ?_
    refine ezw_call0_0 rfl (by omega) (ezm_at rfl) rfl rfl rfl rfl (ezm_m216 hT (by omega)) ?_
    rintro _ _ ⟨rfl, u2, hu2, p1_0, p1_1, rfl⟩
    refine ezw_icmp_ge rfl rfl ha1 hu2 (fun h9_2 => ?_) (fun h9_2 => ?_)
    · refine ezw_iconst (0) rfl rfl ?_
      exact ezw_ireturn rfl (ezw_zret ⟨by omega, by omega⟩) ⟨rfl, (0), ⟨by omega, by omega⟩, by omega, rfl⟩
    · refine ezw_iconst (1) rfl rfl ?_
      refine ezw_goto rfl rfl ?_
      exact ezw_ireturn rfl (ezw_zret ⟨by omega, by omega⟩) ⟨rfl, (1), ⟨by omega, by omega⟩, by omega, rfl⟩
def ezm_m266_v0Q (e : Bool × Bool) (F : Nat → Nat → Int) (A : Nat → Int → Int) (i0 i2 i3 i7 i8 i13 i18 i19 i20 i25 i29 i30 i31 i36 i37 i38 : Int) (r73 r74 r75 r76 r77 r78 r79 r80 r81 r82 r83 r84 r85 r86 r87 r88 r89 r90 r91 r92 r93 r94 r95 : Int → Int) : Option ezq_V → (Nat → ezq_C) → Prop := fun v g' => ezm_h e F A i0 i2 i3 i7 i8 i13 i18 i19 i20 i25 i29 i30 i31 i36 i37 i38 r73 r74 r75 r76 r77 r78 r79 r80 r81 r82 r83 r84 r85 r86 r87 r88 r89 r90 r91 r92 r93 r94 r95 = g' ∧ ∃ u : Int, (0 ≤ u ∧ u ≤ 1) ∧ (u = 1 → r88 17 = 0) ∧ (u = 0 → r88 17 ≠ 0) ∧ some (ezw_i u) = v
theorem ezm_m266_v0 (hT : ezm_T i0 i2 i3 i7 i8 i13 i18 i19 i20 i25 i29 i30 i31 i36 i37 i38 r73 r74 r75 r76 r77 r78 r79 r80 r81 r82 r83 r84 r85 r86 r87 r88 r89 r90 r91 r92 r93 r94 r95) (hd : 0 ≤ d) : ezw_C l ρ B xa Hb D cA 266 d [ezw_p 72, ezw_i (0)] (ezm_h e F A i0 i2 i3 i7 i8 i13 i18 i19 i20 i25 i29 i30 i31 i36 i37 i38 r73 r74 r75 r76 r77 r78 r79 r80 r81 r82 r83 r84 r85 r86 r87 r88 r89 r90 r91 r92 r93 r94 r95) (ezm_m266_v0Q  e F A i0 i2 i3 i7 i8 i13 i18 i19 i20 i25 i29 i30 i31 i36 i37 i38 r73 r74 r75 r76 r77 r78 r79 r80 r81 r82 r83 r84 r85 r86 r87 r88 r89 r90 r91 r92 r93 r94 r95) := by
  refine ezw_met (k := 0) rfl rfl ?_
  refine ezw_aload_n rfl rfl ?_
  refine ezm_gp (p := 88) rfl (fun _ => rfl) ?_
  refine ezw_iload_n rfl rfl ?_
  refine ezw_bipush (17) rfl rfl ?_
  refine ezw_iadd (k := (17)) rfl (by omega) ?_
  refine ezm_l88 rfl (by omega) (by omega) (fun u1 eu1 => ?_)
  have ku1 : ezm_k88 (17) u1 := eu1 ▸ hT.t88 (17)
  refine ezw_if_ne rfl rfl (ezm_in88 ku1) (fun h9_1 => ?_) (fun h9_1 => ?_)
  · refine ezw_iconst (0) rfl rfl ?_
    exact ezw_ireturn rfl (ezw_zret ⟨by omega, by omega⟩) ⟨rfl, (0), ⟨by omega, by omega⟩, by omega, by omega, rfl⟩
  · refine ezw_iconst (1) rfl rfl ?_
    refine ezw_goto rfl rfl ?_
    exact ezw_ireturn rfl (ezw_zret ⟨by omega, by omega⟩) ⟨rfl, (1), ⟨by omega, by omega⟩, by omega, by omega, rfl⟩
def ezm_m268_v0Q (e : Bool × Bool) (F : Nat → Nat → Int) (A : Nat → Int → Int) (i0 i2 i3 i7 i8 i13 i18 i19 i20 i25 i29 i30 i31 i36 i37 i38 : Int) (r73 r74 r75 r76 r77 r78 r79 r80 r81 r82 r83 r84 r85 r86 r87 r88 r89 r90 r91 r92 r93 r94 r95 : Int → Int) : Option ezq_V → (Nat → ezq_C) → Prop := fun v g' => ezm_h e F A i0 i2 i3 i7 i8 i13 i18 i19 i20 i25 i29 i30 i31 i36 i37 i38 r73 r74 r75 r76 r77 r78 r79 r80 r81 r82 r83 r84 r85 r86 r87 r88 r89 r90 r91 r92 r93 r94 r95 = g' ∧ ∃ u : Int, (ezw_in u) ∧ (0 ≤ u ∧ u ≤ 7) ∧ (u = ezm_la r88 0) ∧ some (ezw_i u) = v
theorem ezm_m268_v0 (hT : ezm_T i0 i2 i3 i7 i8 i13 i18 i19 i20 i25 i29 i30 i31 i36 i37 i38 r73 r74 r75 r76 r77 r78 r79 r80 r81 r82 r83 r84 r85 r86 r87 r88 r89 r90 r91 r92 r93 r94 r95) (hd : 0 ≤ d) : ezw_C l ρ B xa Hb D cA 268 d [ezw_p 72, ezw_i (0)] (ezm_h e F A i0 i2 i3 i7 i8 i13 i18 i19 i20 i25 i29 i30 i31 i36 i37 i38 r73 r74 r75 r76 r77 r78 r79 r80 r81 r82 r83 r84 r85 r86 r87 r88 r89 r90 r91 r92 r93 r94 r95) (ezm_m268_v0Q  e F A i0 i2 i3 i7 i8 i13 i18 i19 i20 i25 i29 i30 i31 i36 i37 i38 r73 r74 r75 r76 r77 r78 r79 r80 r81 r82 r83 r84 r85 r86 r87 r88 r89 r90 r91 r92 r93 r94 r95) := by
  refine ezw_met (k := 0) rfl rfl ?_
  refine ezw_aload_n rfl rfl ?_
  refine ezm_gp (p := 88) rfl (fun _ => rfl) ?_
  refine ezw_iload_n rfl rfl ?_
  refine ezw_iconst (1) rfl rfl ?_
  refine ezw_iadd (k := (1)) rfl (by omega) ?_
  refine ezw_aload_n rfl rfl ?_
  refine ezm_gp (p := 88) rfl (fun _ => rfl) ?_
  refine ezw_iload_n rfl rfl ?_
  refine ezw_iconst (0) rfl rfl ?_
  refine ezw_iadd (k := (0)) rfl (by omega) ?_
  refine ezm_l88 rfl (by omega) (by omega) (fun u1 eu1 => ?_)
  have ku1 : ezm_k88 (0) u1 := eu1 ▸ hT.t88 (0)
  have zu1 := ezm_zs0 ku1 (by omega)
  refine ezw_iadd (k := u1 + 1) rfl (by omega) ?_
  refine ezw_iconst (1) rfl rfl ?_
  refine ezw_isub (k := u1) rfl (by omega) ?_
  refine ezm_l88 rfl (by omega) (by omega) (fun u2 eu2 => ?_)
  have ku2 : ezm_k88 u1 u2 := eu2 ▸ hT.t88 u1
  have zu2 := ezm_z07 ku2 (by omega)
  exact ezw_ireturn rfl rfl ⟨rfl, u2, (ezm_in88 ku2), by omega, by
        unfold ezm_la
        rw [← eu1]
        first
          | exact eu2
          | (rw [Int.add_zero]; exact eu2), rfl⟩
def ezm_m270Q (e : Bool × Bool) (F : Nat → Nat → Int) (A : Nat → Int → Int) (i0 i2 i3 i7 i8 i13 i18 i19 i20 i25 i29 i30 i31 i36 i37 i38 : Int) (r73 r74 r75 r76 r77 r78 r79 r80 r81 r82 r83 r84 r85 r86 r87 r88 r89 r90 r91 r92 r93 r94 r95 : Int → Int) (a1 : Int) : Option ezq_V → (Nat → ezq_C) → Prop := fun v g' => ∃  (x87 : Int → Int), ezm_h e F A i0 i2 i3 i7 i8 i13 i18 i19 i20 i25 i29 i30 i31 i36 i37 i38 r73 r74 r75 r76 r77 r78 r79 r80 r81 r82 r83 r84 r85 r86 x87 r88 r89 r90 r91 r92 r93 r94 r95 = g' ∧ ezm_T i0 i2 i3 i7 i8 i13 i18 i19 i20 i25 i29 i30 i31 i36 i37 i38 r73 r74 r75 r76 r77 r78 r79 r80 r81 r82 r83 r84 r85 r86 x87 r88 r89 r90 r91 r92 r93 r94 r95 ∧ ∃ u : Int, (ezw_in u) ∧ some (ezw_i u) = v
theorem ezm_m270 {a1 : Int} (hT : ezm_T i0 i2 i3 i7 i8 i13 i18 i19 i20 i25 i29 i30 i31 i36 i37 i38 r73 r74 r75 r76 r77 r78 r79 r80 r81 r82 r83 r84 r85 r86 r87 r88 r89 r90 r91 r92 r93 r94 r95) (hd : 1 ≤ d) (ha1 : ezw_in a1) (ga : 0 ≤ a1) (co : ezm_code r79 r80 a1 1100) : ezw_C l ρ B xa Hb D cA 270 d [ezw_p 72, ezw_i a1] (ezm_h e F A i0 i2 i3 i7 i8 i13 i18 i19 i20 i25 i29 i30 i31 i36 i37 i38 r73 r74 r75 r76 r77 r78 r79 r80 r81 r82 r83 r84 r85 r86 r87 r88 r89 r90 r91 r92 r93 r94 r95) (ezm_m270Q  e F A i0 i2 i3 i7 i8 i13 i18 i19 i20 i25 i29 i30 i31 i36 i37 i38 r73 r74 r75 r76 r77 r78 r79 r80 r81 r82 r83 r84 r85 r86 r87 r88 r89 r90 r91 r92 r93 r94 r95 a1) := by
  refine ezw_met (k := 3) rfl rfl ?_
  refine ezw_iconst (0) rfl rfl ?_
  refine ezw_istore_n rfl rfl ?_
  refine ezw_iload_n rfl rfl ?_
  refine ezw_istore_n rfl rfl ?_
  have L4_2 : ∀ c1 : Int, ezw_in c1 → ∀ y3 : Int, ezw_in y3 → ∀ x87_2 : Int → Int, ezm_T i0 i2 i3 i7 i8 i13 i18 i19 i20 i25 i29 i30 i31 i36 i37 i38 r73 r74 r75 r76 r77 r78 r79 r80 r81 r82 r83 r84 r85 r86 x87_2 r88 r89 r90 r91 r92 r93 r94 r95 → (a1 ≤ c1) → (0 ≤ y3) → (ezm_co2 r79 r80 c1 y3) → ezw_E l ρ B xa Hb D cA d ezq_re270 (ezm_m270Q  e F A i0 i2 i3 i7 i8 i13 i18 i19 i20 i25 i29 i30 i31 i36 i37 i38 r73 r74 r75 r76 r77 r78 r79 r80 r81 r82 r83 r84 r85 r86 r87 r88 r89 r90 r91 r92 r93 r94 r95 a1) 4 [some (ezw_p 72), some (ezw_i a1), some (ezw_i y3), some (ezw_i c1), none] [] (ezm_h e F A i0 i2 i3 i7 i8 i13 i18 i19 i20 i25 i29 i30 i31 i36 i37 i38 r73 r74 r75 r76 r77 r78 r79 r80 r81 r82 r83 r84 r85 r86 x87_2 r88 r89 r90 r91 r92 r93 r94 r95) := by
    refine ezs_up ?_
    intro c1 hc1 ihc1 y3 hy3 x87_2 hT g_2 v_2 co_2
    have hlt := ezm_co2_lt co_2
    refine ezw_aload_n rfl rfl ?_
    refine ezm_gp (p := 79) rfl (fun _ => rfl) ?_
    refine ezw_iload_n rfl rfl ?_
    refine ezm_l79 rfl (by omega) (by omega) (fun u4 eu4 => ?_)
    have ku4 : ezw_in u4 := eu4 ▸ hT.t79 c1
    refine ezw_if_eq rfl rfl ku4 (fun h10_4 => ?_) (fun h10_4 => ?_)
    · refine ezw_aload_n rfl rfl ?_
      refine ezm_gp (p := 87) rfl (fun _ => rfl) ?_
      refine ezw_iconst (0) rfl rfl ?_
      refine ezm_l87 rfl (by omega) (by omega) (fun u5 eu5 => ?_)
      have ku5 : ezw_in u5 := eu5 ▸ hT.t87 (0)
      exact ezw_ireturn rfl rfl ⟨x87_2, rfl, hT, u5, ku5, rfl⟩
    · refine ezw_aload_n rfl rfl ?_
      refine ezm_gp (p := 79) rfl (fun _ => rfl) ?_
      refine ezw_iload_n rfl rfl ?_
      refine ezm_l79 rfl (by omega) (by omega) (fun u6 eu6 => ?_)
      have fu6 : u4 = u6 := eu4.trans eu6.symm
      subst fu6
      refine ezw_istore rfl rfl ?_
      refine ezw_iload rfl rfl ?_
      refine ezw_iconst (1) rfl rfl ?_
      refine ezw_icmp_eq rfl rfl ku4 ⟨by decide, by decide⟩ (fun h24_6 => ?_) (fun h24_6 => ?_)
      · have hn := ezm_co2_1 co_2 (by omega)
        refine ezw_aload_n rfl rfl ?_
        refine ezm_gp (p := 87) rfl (fun _ => rfl) ?_
        refine ezw_iload_n rfl rfl ?_
        refine ezw_iload rfl rfl ?_
        refine ezw_iconst (1) rfl rfl ?_
        refine ezw_icmp_ne rfl rfl ku4 ⟨by decide, by decide⟩ (fun h41_6 => ?_) (fun h41_6 => ?_)
        · refine ezw_aload_n rfl rfl ?_
          refine ezm_gp (p := 86) rfl (fun _ => rfl) ?_
          refine ezw_aload_n rfl rfl ?_
          refine ezm_gp (p := 80) rfl (fun _ => rfl) ?_
          refine ezw_iload_n rfl rfl ?_
          refine ezm_l80 rfl (by omega) (by omega) (fun u7 eu7 => ?_)
          have ku7 : ezw_in u7 := eu7 ▸ hT.t80 c1
          refine ezm_l86 rfl (by omega) (by omega) (fun u8 eu8 => ?_)
          have ku8 : ezw_in u8 := eu8 ▸ hT.t86 u7
          refine ezm_s87 hT rfl (by omega) (by omega) ku8 (fun r87_9 hT er87_9 fr87_9 => ?_)
          refine ezw_iinc (k := y3 + 1) (1) rfl rfl rfl (by omega) rfl ?_
          refine ezw_goto rfl rfl ?_
          refine ezw_iinc (k := c1 + 1) (1) rfl rfl rfl (by omega) rfl ?_
          refine ezw_goto rfl rfl ?_
          exact ezw_keepE [true, true, true, true, false] (ihc1 (c1 + 1) (by omega) ⟨by omega, by omega⟩ (y3 + 1) ⟨by omega, by omega⟩ r87_9 hT (by omega) (by omega) hn.2.2)
        · refine ezw_aload_n rfl rfl ?_
          refine ezm_gp (p := 80) rfl (fun _ => rfl) ?_
          refine ezw_iload_n rfl rfl ?_
          refine ezm_l80 rfl (by omega) (by omega) (fun u10 eu10 => ?_)
          have ku10 : ezw_in u10 := eu10 ▸ hT.t80 c1
          refine ezw_goto rfl rfl ?_
          refine ezm_s87 hT rfl (by omega) (by omega) ku10 (fun r87_11 hT er87_11 fr87_11 => ?_)
          refine ezw_iinc (k := y3 + 1) (1) rfl rfl rfl (by omega) rfl ?_
          refine ezw_goto rfl rfl ?_
          refine ezw_iinc (k := c1 + 1) (1) rfl rfl rfl (by omega) rfl ?_
          refine ezw_goto rfl rfl ?_
          exact ezw_keepE [true, true, true, true, false] (ihc1 (c1 + 1) (by omega) ⟨by omega, by omega⟩ (y3 + 1) ⟨by omega, by omega⟩ r87_11 hT (by omega) (by omega) hn.2.2)
      · refine ezw_iload rfl rfl ?_
        refine ezw_iconst (2) rfl rfl ?_
        refine ezw_icmp_ne rfl rfl ku4 ⟨by decide, by decide⟩ (fun h30_11 => ?_) (fun h30_11 => ?_)
        · refine ezw_iload rfl rfl ?_
          refine ezw_iconst (3) rfl rfl ?_
          refine ezw_icmp_ne rfl rfl ku4 ⟨by decide, by decide⟩ (fun h74_11 => ?_) (fun h74_11 => ?_)
          · have hn := ezm_co2_4 co_2 (by omega) (by omega) (by omega) (by omega)
            refine ezw_iinc (k := y3 - 1) (-1) rfl rfl rfl (by omega) rfl ?_
            refine ezw_aload_n rfl rfl ?_
            refine ezm_gp (p := 87) rfl (fun _ => rfl) ?_
            refine ezw_iload_n rfl rfl ?_
            refine ezw_iconst (1) rfl rfl ?_
            refine ezw_isub (k := y3 - 2) rfl (by omega) ?_
            refine ezw_iload rfl rfl ?_
            refine ezw_aload_n rfl rfl ?_
            refine ezm_gp (p := 87) rfl (fun _ => rfl) ?_
            refine ezw_iload_n rfl rfl ?_
            refine ezw_iconst (1) rfl rfl ?_
            refine ezw_isub (k := y3 - 2) rfl (by omega) ?_
            refine ezm_l87 rfl (by omega) (by omega) (fun u12 eu12 => ?_)
            have ku12 : ezw_in u12 := eu12 ▸ hT.t87 (y3 - 2)
            refine ezw_aload_n rfl rfl ?_
            refine ezm_gp (p := 87) rfl (fun _ => rfl) ?_
            refine ezw_iload_n rfl rfl ?_
            refine ezm_l87 rfl (by omega) (by omega) (fun u13 eu13 => ?_)
            have ku13 : ezw_in u13 := eu13 ▸ hT.t87 (y3 - 1)
            refine ezw_call2_3 rfl (by omega) rfl rfl (ezm_m271 hT (by omega) ku4 ku12 ku13) ?_
            rintro _ _ ⟨rfl, u15, hu15, rfl⟩
            refine ezm_s87 hT rfl (by omega) (by omega) hu15 (fun r87_16 hT er87_16 fr87_16 => ?_)
            refine ezw_iinc (k := c1 + 1) (1) rfl rfl rfl (by omega) rfl ?_
            refine ezw_goto rfl rfl ?_
            exact ezw_keepE [true, true, true, true, false] (ihc1 (c1 + 1) (by omega) ⟨by omega, by omega⟩ (y3 - 1) ⟨by omega, by omega⟩ r87_16 hT (by omega) (by omega) hn.2.2)
          · have hn := ezm_co2_3 co_2 (by omega)
            refine ezw_aload_n rfl rfl ?_
            refine ezm_gp (p := 87) rfl (fun _ => rfl) ?_
            refine ezw_iload_n rfl rfl ?_
            refine ezw_iconst (1) rfl rfl ?_
            refine ezw_isub (k := y3 - 1) rfl (by omega) ?_
            refine ezw_aload_n rfl rfl ?_
            refine ezm_gp (p := 87) rfl (fun _ => rfl) ?_
            refine ezw_iload_n rfl rfl ?_
            refine ezw_iconst (1) rfl rfl ?_
            refine ezw_isub (k := y3 - 1) rfl (by omega) ?_
            refine ezm_l87 rfl (by omega) (by omega) (fun u17 eu17 => ?_)
            have ku17 : ezw_in u17 := eu17 ▸ hT.t87 (y3 - 1)
            refine ezw_if_ne rfl rfl ku17 (fun h92_17 => ?_) (fun h92_17 => ?_)
            · refine ezw_iconst (0) rfl rfl ?_
              refine ezm_s87 hT rfl (by omega) (by omega) ⟨by decide, by decide⟩ (fun r87_18 hT er87_18 fr87_18 => ?_)
              refine ezw_goto rfl rfl ?_
              refine ezw_iinc (k := c1 + 1) (1) rfl rfl rfl (by omega) rfl ?_
              refine ezw_goto rfl rfl ?_
              exact ezw_keepE [true, true, true, true, false] (ihc1 (c1 + 1) (by omega) ⟨by omega, by omega⟩ y3 hy3 r87_18 hT (by omega) (by omega) hn.2.2)
            · refine ezw_iconst (1) rfl rfl ?_
              refine ezw_goto rfl rfl ?_
              refine ezm_s87 hT rfl (by omega) (by omega) ⟨by decide, by decide⟩ (fun r87_19 hT er87_19 fr87_19 => ?_)
              refine ezw_goto rfl rfl ?_
              refine ezw_iinc (k := c1 + 1) (1) rfl rfl rfl (by omega) rfl ?_
              refine ezw_goto rfl rfl ?_
              exact ezw_keepE [true, true, true, true, false] (ihc1 (c1 + 1) (by omega) ⟨by omega, by omega⟩ y3 hy3 r87_19 hT (by omega) (by omega) hn.2.2)
        · have hn := ezm_co2_1 co_2 (by omega)
          refine ezw_aload_n rfl rfl ?_
          refine ezm_gp (p := 87) rfl (fun _ => rfl) ?_
          refine ezw_iload_n rfl rfl ?_
          refine ezw_iload rfl rfl ?_
          refine ezw_iconst (1) rfl rfl ?_
          refine ezw_icmp_ne rfl rfl ku4 ⟨by decide, by decide⟩ (fun h41_19 => ?_) (fun h41_19 => ?_)
          · refine ezw_aload_n rfl rfl ?_
            refine ezm_gp (p := 86) rfl (fun _ => rfl) ?_
            refine ezw_aload_n rfl rfl ?_
            refine ezm_gp (p := 80) rfl (fun _ => rfl) ?_
            refine ezw_iload_n rfl rfl ?_
            refine ezm_l80 rfl (by omega) (by omega) (fun u20 eu20 => ?_)
            have ku20 : ezw_in u20 := eu20 ▸ hT.t80 c1
            refine ezm_l86 rfl (by omega) (by omega) (fun u21 eu21 => ?_)
            have ku21 : ezw_in u21 := eu21 ▸ hT.t86 u20
            refine ezm_s87 hT rfl (by omega) (by omega) ku21 (fun r87_22 hT er87_22 fr87_22 => ?_)
            refine ezw_iinc (k := y3 + 1) (1) rfl rfl rfl (by omega) rfl ?_
            refine ezw_goto rfl rfl ?_
            refine ezw_iinc (k := c1 + 1) (1) rfl rfl rfl (by omega) rfl ?_
            refine ezw_goto rfl rfl ?_
            exact ezw_keepE [true, true, true, true, false] (ihc1 (c1 + 1) (by omega) ⟨by omega, by omega⟩ (y3 + 1) ⟨by omega, by omega⟩ r87_22 hT (by omega) (by omega) hn.2.2)
          · refine ezw_aload_n rfl rfl ?_
            refine ezm_gp (p := 80) rfl (fun _ => rfl) ?_
            refine ezw_iload_n rfl rfl ?_
            refine ezm_l80 rfl (by omega) (by omega) (fun u23 eu23 => ?_)
            have ku23 : ezw_in u23 := eu23 ▸ hT.t80 c1
            refine ezw_goto rfl rfl ?_
            refine ezm_s87 hT rfl (by omega) (by omega) ku23 (fun r87_24 hT er87_24 fr87_24 => ?_)
            refine ezw_iinc (k := y3 + 1) (1) rfl rfl rfl (by omega) rfl ?_
            refine ezw_goto rfl rfl ?_
            refine ezw_iinc (k := c1 + 1) (1) rfl rfl rfl (by omega) rfl ?_
            refine ezw_goto rfl rfl ?_
            exact ezw_keepE [true, true, true, true, false] (ihc1 (c1 + 1) (by omega) ⟨by omega, by omega⟩ (y3 + 1) ⟨by omega, by omega⟩ r87_24 hT (by omega) (by omega) hn.2.2)
  exact ezw_keepE [true, true, true, true, false] (L4_2 a1 ha1 (0) ⟨by decide, by decide⟩ r87 hT (by omega) (by omega) (ezm_co2_of co))
def ezm_m263Q (e : Bool × Bool) (F : Nat → Nat → Int) (A : Nat → Int → Int) (i0 i2 i3 i7 i8 i13 i18 i19 i20 i25 i29 i30 i31 i36 i37 i38 : Int) (r73 r74 r75 r76 r77 r78 r79 r80 r81 r82 r83 r84 r85 r86 r87 r88 r89 r90 r91 r92 r93 r94 r95 : Int → Int) (a1 : Int) (a2 : Int) : Option ezq_V → (Nat → ezq_C) → Prop := fun v g' => ezm_h e F A i0 i2 i3 i7 i8 i13 i18 i19 i20 i25 i29 i30 i31 i36 i37 i38 r73 r74 r75 r76 r77 r78 r79 r80 r81 r82 r83 r84 r85 r86 r87 r88 r89 r90 r91 r92 r93 r94 r95 = g' ∧ ∃ u : Int, (ezw_in u) ∧ some (ezw_i u) = v
theorem ezm_m263 {a1 a2 : Int} (hT : ezm_T i0 i2 i3 i7 i8 i13 i18 i19 i20 i25 i29 i30 i31 i36 i37 i38 r73 r74 r75 r76 r77 r78 r79 r80 r81 r82 r83 r84 r85 r86 r87 r88 r89 r90 r91 r92 r93 r94 r95) (hd : 0 ≤ d) (ha1 : ezw_in a1) (ha2 : ezw_in a2) (ga : 0 ≤ a1 ∧ a1 ≤ 7) (gb : 0 ≤ a2 ∧ a2 ≤ 7) : ezw_C l ρ B xa Hb D cA 263 d [ezw_p 72, ezw_i a1, ezw_i a2] (ezm_h e F A i0 i2 i3 i7 i8 i13 i18 i19 i20 i25 i29 i30 i31 i36 i37 i38 r73 r74 r75 r76 r77 r78 r79 r80 r81 r82 r83 r84 r85 r86 r87 r88 r89 r90 r91 r92 r93 r94 r95) (ezm_m263Q  e F A i0 i2 i3 i7 i8 i13 i18 i19 i20 i25 i29 i30 i31 i36 i37 i38 r73 r74 r75 r76 r77 r78 r79 r80 r81 r82 r83 r84 r85 r86 r87 r88 r89 r90 r91 r92 r93 r94 r95 a1 a2) := by
  refine ezw_met (k := 0) rfl rfl ?_
  refine ezw_aload_n rfl rfl ?_
  refine ezm_gp (p := 78) rfl (fun _ => rfl) ?_
  refine ezw_bipush (49) rfl rfl ?_
  refine ezw_iconst (4) rfl rfl ?_
  refine ezw_iload_n rfl rfl ?_
  refine ezw_imul (k := 4 * a1) rfl (by omega) ?_
  refine ezw_iadd (k := 4 * a1 + 49) rfl (by omega) ?_
  refine ezw_iload_n rfl rfl ?_
  refine ezw_iadd (k := 4 * a1 + a2 + 49) rfl (by omega) ?_
  refine ezm_l78 rfl (by omega) (by omega) (fun u1 eu1 => ?_)
  have ku1 : ezm_k78 (4 * a1 + a2 + 49) u1 := eu1 ▸ hT.t78 (4 * a1 + a2 + 49)
  exact ezw_ireturn rfl rfl ⟨rfl, u1, (ezm_in78 ku1), rfl⟩
def ezm_m259_v2Q (e : Bool × Bool) (F : Nat → Nat → Int) (A : Nat → Int → Int) (i0 i2 i3 i7 i8 i13 i18 i19 i20 i25 i29 i30 i31 i36 i37 i38 : Int) (r73 r74 r75 r76 r77 r78 r79 r80 r81 r82 r83 r84 r85 r86 r87 r88 r89 r90 r91 r92 r93 r94 r95 : Int → Int) (a1 : Int) : Option ezq_V → (Nat → ezq_C) → Prop := fun v g' => ezm_h e F A i0 i2 i3 i7 i8 i13 i18 i19 i20 i25 i29 i30 i31 i36 i37 i38 r73 r74 r75 r76 r77 r78 r79 r80 r81 r82 r83 r84 r85 r86 r87 r88 r89 r90 r91 r92 r93 r94 r95 = g' ∧ ∃ u : Int, (ezw_in u) ∧ (u = r78 (4 * a1 + 19)) ∧ some (ezw_i u) = v
theorem ezm_m259_v2 {a1 : Int} (hT : ezm_T i0 i2 i3 i7 i8 i13 i18 i19 i20 i25 i29 i30 i31 i36 i37 i38 r73 r74 r75 r76 r77 r78 r79 r80 r81 r82 r83 r84 r85 r86 r87 r88 r89 r90 r91 r92 r93 r94 r95) (hd : 0 ≤ d) (ha1 : ezw_in a1) (ga : 0 ≤ a1 ∧ a1 ≤ 7) : ezw_C l ρ B xa Hb D cA 259 d [ezw_p 72, ezw_i a1, ezw_i (2)] (ezm_h e F A i0 i2 i3 i7 i8 i13 i18 i19 i20 i25 i29 i30 i31 i36 i37 i38 r73 r74 r75 r76 r77 r78 r79 r80 r81 r82 r83 r84 r85 r86 r87 r88 r89 r90 r91 r92 r93 r94 r95) (ezm_m259_v2Q  e F A i0 i2 i3 i7 i8 i13 i18 i19 i20 i25 i29 i30 i31 i36 i37 i38 r73 r74 r75 r76 r77 r78 r79 r80 r81 r82 r83 r84 r85 r86 r87 r88 r89 r90 r91 r92 r93 r94 r95 a1) := by
  refine ezw_met (k := 0) rfl rfl ?_
  refine ezw_aload_n rfl rfl ?_
  refine ezm_gp (p := 78) rfl (fun _ => rfl) ?_
  refine ezw_bipush (17) rfl rfl ?_
  refine ezw_iconst (4) rfl rfl ?_
  refine ezw_iload_n rfl rfl ?_
  refine ezw_imul (k := 4 * a1) rfl (by omega) ?_
  refine ezw_iadd (k := 4 * a1 + 17) rfl (by omega) ?_
  refine ezw_iload_n rfl rfl ?_
  refine ezw_iadd (k := 4 * a1 + 19) rfl (by omega) ?_
  refine ezm_l78 rfl (by omega) (by omega) (fun u1 eu1 => ?_)
  have ku1 : ezm_k78 (4 * a1 + 19) u1 := eu1 ▸ hT.t78 (4 * a1 + 19)
  exact ezw_ireturn rfl rfl ⟨rfl, u1, (ezm_in78 ku1), eu1, rfl⟩
def ezm_m259_v1Q (e : Bool × Bool) (F : Nat → Nat → Int) (A : Nat → Int → Int) (i0 i2 i3 i7 i8 i13 i18 i19 i20 i25 i29 i30 i31 i36 i37 i38 : Int) (r73 r74 r75 r76 r77 r78 r79 r80 r81 r82 r83 r84 r85 r86 r87 r88 r89 r90 r91 r92 r93 r94 r95 : Int → Int) (a1 : Int) : Option ezq_V → (Nat → ezq_C) → Prop := fun v g' => ezm_h e F A i0 i2 i3 i7 i8 i13 i18 i19 i20 i25 i29 i30 i31 i36 i37 i38 r73 r74 r75 r76 r77 r78 r79 r80 r81 r82 r83 r84 r85 r86 r87 r88 r89 r90 r91 r92 r93 r94 r95 = g' ∧ ∃ u : Int, (ezw_in u) ∧ (u = r78 (4 * a1 + 18)) ∧ some (ezw_i u) = v
theorem ezm_m259_v1 {a1 : Int} (hT : ezm_T i0 i2 i3 i7 i8 i13 i18 i19 i20 i25 i29 i30 i31 i36 i37 i38 r73 r74 r75 r76 r77 r78 r79 r80 r81 r82 r83 r84 r85 r86 r87 r88 r89 r90 r91 r92 r93 r94 r95) (hd : 0 ≤ d) (ha1 : ezw_in a1) (ga : 0 ≤ a1 ∧ a1 ≤ 7) : ezw_C l ρ B xa Hb D cA 259 d [ezw_p 72, ezw_i a1, ezw_i (1)] (ezm_h e F A i0 i2 i3 i7 i8 i13 i18 i19 i20 i25 i29 i30 i31 i36 i37 i38 r73 r74 r75 r76 r77 r78 r79 r80 r81 r82 r83 r84 r85 r86 r87 r88 r89 r90 r91 r92 r93 r94 r95) (ezm_m259_v1Q  e F A i0 i2 i3 i7 i8 i13 i18 i19 i20 i25 i29 i30 i31 i36 i37 i38 r73 r74 r75 r76 r77 r78 r79 r80 r81 r82 r83 r84 r85 r86 r87 r88 r89 r90 r91 r92 r93 r94 r95 a1) := by
  refine ezw_met (k := 0) rfl rfl ?_
  refine ezw_aload_n rfl rfl ?_
  refine ezm_gp (p := 78) rfl (fun _ => rfl) ?_
  refine ezw_bipush (17) rfl rfl ?_
  refine ezw_iconst (4) rfl rfl ?_
  refine ezw_iload_n rfl rfl ?_
  refine ezw_imul (k := 4 * a1) rfl (by omega) ?_
  refine ezw_iadd (k := 4 * a1 + 17) rfl (by omega) ?_
  refine ezw_iload_n rfl rfl ?_
  refine ezw_iadd (k := 4 * a1 + 18) rfl (by omega) ?_
  refine ezm_l78 rfl (by omega) (by omega) (fun u1 eu1 => ?_)
  have ku1 : ezm_k78 (4 * a1 + 18) u1 := eu1 ▸ hT.t78 (4 * a1 + 18)
  exact ezw_ireturn rfl rfl ⟨rfl, u1, (ezm_in78 ku1), eu1, rfl⟩
end KM6
