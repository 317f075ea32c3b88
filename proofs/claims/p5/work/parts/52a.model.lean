/-! ===== the model: small ones ===== -/
section KM6
variable {l : Launch} {ρ : ezq_E} {B : Nat} {xa : Nat → Option Nat} {Hb : Heap} {D : va_G} {cA : Nat → ClassId} {d : Nat} {e : Bool × Bool} {F : Nat → Nat → Int} {A : Nat → Int → Int} {i0 i2 i3 i7 i8 i13 i18 i19 i20 i25 i29 i30 i31 i36 i37 i38 : Int} {r73 r74 r75 r76 r77 r78 r79 r80 r81 r82 r83 r84 r85 r86 r87 r88 r89 r90 r91 r92 r93 r94 r95 : Int → Int}
def ezm_m219Q (e : Bool × Bool) (F : Nat → Nat → Int) (A : Nat → Int → Int) (i0 i2 i3 i7 i8 i13 i18 i19 i20 i25 i29 i30 i31 i36 i37 i38 : Int) (r73 r74 r75 r76 r77 r78 r79 r80 r81 r82 r83 r84 r85 r86 r87 r88 r89 r90 r91 r92 r93 r94 r95 : Int → Int) (a0 : Int) : Option ezq_V → (Nat → ezq_C) → Prop := fun v g' => ezm_h e F A i0 i2 i3 i7 i8 i13 i18 i19 i20 i25 i29 i30 i31 i36 i37 i38 r73 r74 r75 r76 r77 r78 r79 r80 r81 r82 r83 r84 r85 r86 r87 r88 r89 r90 r91 r92 r93 r94 r95 = g' ∧ ∃ u : Int, (0 ≤ u ∧ u ≤ 1) ∧ (u = 1 → 97 ≤ a0 ∧ a0 ≤ 122) ∧ (u = 0 → a0 < 97 ∨ 122 < a0) ∧ some (ezw_i u) = v
theorem ezm_m219 {a0 : Int} (hT : ezm_T i0 i2 i3 i7 i8 i13 i18 i19 i20 i25 i29 i30 i31 i36 i37 i38 r73 r74 r75 r76 r77 r78 r79 r80 r81 r82 r83 r84 r85 r86 r87 r88 r89 r90 r91 r92 r93 r94 r95) (hd : 0 ≤ d) (ha0 : ezw_in a0) : ezw_C l ρ B xa Hb D cA 219 d [ezw_i a0] (ezm_h e F A i0 i2 i3 i7 i8 i13 i18 i19 i20 i25 i29 i30 i31 i36 i37 i38 r73 r74 r75 r76 r77 r78 r79 r80 r81 r82 r83 r84 r85 r86 r87 r88 r89 r90 r91 r92 r93 r94 r95) (ezm_m219Q  e F A i0 i2 i3 i7 i8 i13 i18 i19 i20 i25 i29 i30 i31 i36 i37 i38 r73 r74 r75 r76 r77 r78 r79 r80 r81 r82 r83 r84 r85 r86 r87 r88 r89 r90 r91 r92 r93 r94 r95 a0) := by
  refine ezw_met (k := 0) rfl rfl ?_
  refine ezw_iload_n rfl rfl ?_
  refine ezw_bipush (97) rfl rfl ?_
  refine ezw_icmp_lt rfl rfl ha0 ⟨by decide, by decide⟩ (fun h3_0 => ?_) (fun h3_0 => ?_)
  · refine ezw_iconst (0) rfl rfl ?_
    exact ezw_ireturn rfl (ezw_zret ⟨by omega, by omega⟩) ⟨rfl, (0), ⟨by omega, by omega⟩, by omega, by omega, rfl⟩
  · refine ezw_iload_n rfl rfl ?_
    refine ezw_bipush (122) rfl rfl ?_
    refine ezw_icmp_gt rfl rfl ha0 ⟨by decide, by decide⟩ (fun h9_0 => ?_) (fun h9_0 => ?_)
    · refine ezw_iconst (0) rfl rfl ?_
      exact ezw_ireturn rfl (ezw_zret ⟨by omega, by omega⟩) ⟨rfl, (0), ⟨by omega, by omega⟩, by omega, by omega, rfl⟩
    · refine ezw_iconst (1) rfl rfl ?_
      refine ezw_goto rfl rfl ?_
      exact ezw_ireturn rfl (ezw_zret ⟨by omega, by omega⟩) ⟨rfl, (1), ⟨by omega, by omega⟩, by omega, by omega, rfl⟩
def ezm_m220Q (e : Bool × Bool) (F : Nat → Nat → Int) (A : Nat → Int → Int) (i0 i2 i3 i7 i8 i13 i18 i19 i20 i25 i29 i30 i31 i36 i37 i38 : Int) (r73 r74 r75 r76 r77 r78 r79 r80 r81 r82 r83 r84 r85 r86 r87 r88 r89 r90 r91 r92 r93 r94 r95 : Int → Int) (a0 : Int) : Option ezq_V → (Nat → ezq_C) → Prop := fun v g' => ezm_h e F A i0 i2 i3 i7 i8 i13 i18 i19 i20 i25 i29 i30 i31 i36 i37 i38 r73 r74 r75 r76 r77 r78 r79 r80 r81 r82 r83 r84 r85 r86 r87 r88 r89 r90 r91 r92 r93 r94 r95 = g' ∧ ∃ u : Int, (ezw_in u) ∧ some (ezw_i u) = v
theorem ezm_m220 {a0 : Int} (hT : ezm_T i0 i2 i3 i7 i8 i13 i18 i19 i20 i25 i29 i30 i31 i36 i37 i38 r73 r74 r75 r76 r77 r78 r79 r80 r81 r82 r83 r84 r85 r86 r87 r88 r89 r90 r91 r92 r93 r94 r95) (hd : 1 ≤ d) (ha0 : ezw_in a0) : ezw_C l ρ B xa Hb D cA 220 d [ezw_i a0] (ezm_h e F A i0 i2 i3 i7 i8 i13 i18 i19 i20 i25 i29 i30 i31 i36 i37 i38 r73 r74 r75 r76 r77 r78 r79 r80 r81 r82 r83 r84 r85 r86 r87 r88 r89 r90 r91 r92 r93 r94 r95) (ezm_m220Q  e F A i0 i2 i3 i7 i8 i13 i18 i19 i20 i25 i29 i30 i31 i36 i37 i38 r73 r74 r75 r76 r77 r78 r79 r80 r81 r82 r83 r84 r85 r86 r87 r88 r89 r90 r91 r92 r93 r94 r95 a0) := by
  refine ezw_met (k := 0) rfl rfl ?_
  refine ezw_iload_n rfl rfl ?_
  refine ezw_call2_1 rfl (by omega) rfl rfl (ezm_m219 hT (by omega) ha0) ?_
  rintro _ _ ⟨rfl, u2, hu2, p1_0, p1_1, rfl⟩
  refine ezw_if_eq rfl rfl ⟨by omega, by omega⟩ (fun h4_2 => ?_) (fun h4_2 => ?_)
  · refine ezw_iload_n rfl rfl ?_
    refine ezw_bipush (21) rfl rfl ?_
    refine ezs_isub rfl (fun u3 hu3 => ?_)
    exact ezw_ireturn rfl rfl ⟨rfl, u3, hu3, rfl⟩
  · refine ezw_iload_n rfl rfl ?_
    refine ezw_bipush (96) rfl rfl ?_
    refine ezs_isub rfl (fun u4 hu4 => ?_)
    refine ezw_goto rfl rfl ?_
    exact ezw_ireturn rfl rfl ⟨rfl, u4, hu4, rfl⟩
def ezm_m221Q (e : Bool × Bool) (F : Nat → Nat → Int) (A : Nat → Int → Int) (i0 i2 i3 i7 i8 i13 i18 i19 i20 i25 i29 i30 i31 i36 i37 i38 : Int) (r73 r74 r75 r76 r77 r78 r79 r80 r81 r82 r83 r84 r85 r86 r87 r88 r89 r90 r91 r92 r93 r94 r95 : Int → Int) (a0 : Int) : Option ezq_V → (Nat → ezq_C) → Prop := fun v g' => ezm_h e F A i0 i2 i3 i7 i8 i13 i18 i19 i20 i25 i29 i30 i31 i36 i37 i38 r73 r74 r75 r76 r77 r78 r79 r80 r81 r82 r83 r84 r85 r86 r87 r88 r89 r90 r91 r92 r93 r94 r95 = g' ∧ ∃ u : Int, (0 ≤ u ∧ u ≤ 1) ∧ (u = 1 → 48 ≤ a0 ∧ a0 ≤ 57) ∧ (u = 0 → a0 < 48 ∨ 57 < a0) ∧ some (ezw_i u) = v
theorem ezm_m221 {a0 : Int} (hT : ezm_T i0 i2 i3 i7 i8 i13 i18 i19 i20 i25 i29 i30 i31 i36 i37 i38 r73 r74 r75 r76 r77 r78 r79 r80 r81 r82 r83 r84 r85 r86 r87 r88 r89 r90 r91 r92 r93 r94 r95) (hd : 0 ≤ d) (ha0 : ezw_in a0) : ezw_C l ρ B xa Hb D cA 221 d [ezw_i a0] (ezm_h e F A i0 i2 i3 i7 i8 i13 i18 i19 i20 i25 i29 i30 i31 i36 i37 i38 r73 r74 r75 r76 r77 r78 r79 r80 r81 r82 r83 r84 r85 r86 r87 r88 r89 r90 r91 r92 r93 r94 r95) (ezm_m221Q  e F A i0 i2 i3 i7 i8 i13 i18 i19 i20 i25 i29 i30 i31 i36 i37 i38 r73 r74 r75 r76 r77 r78 r79 r80 r81 r82 r83 r84 r85 r86 r87 r88 r89 r90 r91 r92 r93 r94 r95 a0) := by
  refine ezw_met (k := 0) rfl rfl ?_
  refine ezw_iload_n rfl rfl ?_
  refine ezw_bipush (48) rfl rfl ?_
  refine ezw_icmp_lt rfl rfl ha0 ⟨by decide, by decide⟩ (fun h3_0 => ?_) (fun h3_0 => ?_)
  · refine ezw_iconst (0) rfl rfl ?_
    exact ezw_ireturn rfl (ezw_zret ⟨by omega, by omega⟩) ⟨rfl, (0), ⟨by omega, by omega⟩, by omega, by omega, rfl⟩
  · refine ezw_iload_n rfl rfl ?_
    refine ezw_bipush (57) rfl rfl ?_
    refine ezw_icmp_gt rfl rfl ha0 ⟨by decide, by decide⟩ (fun h9_0 => ?_) (fun h9_0 => ?_)
    · refine ezw_iconst (0) rfl rfl ?_
      exact ezw_ireturn rfl (ezw_zret ⟨by omega, by omega⟩) ⟨rfl, (0), ⟨by omega, by omega⟩, by omega, by omega, rfl⟩
    · refine ezw_iconst (1) rfl rfl ?_
      refine ezw_goto rfl rfl ?_
      exact ezw_ireturn rfl (ezw_zret ⟨by omega, by omega⟩) ⟨rfl, (1), ⟨by omega, by omega⟩, by omega, by omega, rfl⟩
def ezm_m222Q (e : Bool × Bool) (F : Nat → Nat → Int) (A : Nat → Int → Int) (i0 i2 i3 i7 i8 i13 i18 i19 i20 i25 i29 i30 i31 i36 i37 i38 : Int) (r73 r74 r75 r76 r77 r78 r79 r80 r81 r82 r83 r84 r85 r86 r87 r88 r89 r90 r91 r92 r93 r94 r95 : Int → Int) (a0 : Int) : Option ezq_V → (Nat → ezq_C) → Prop := fun v g' => ezm_h e F A i0 i2 i3 i7 i8 i13 i18 i19 i20 i25 i29 i30 i31 i36 i37 i38 r73 r74 r75 r76 r77 r78 r79 r80 r81 r82 r83 r84 r85 r86 r87 r88 r89 r90 r91 r92 r93 r94 r95 = g' ∧ ∃ u : Int, (0 ≤ u ∧ u ≤ 1) ∧ some (ezw_i u) = v
theorem ezm_m222 {a0 : Int} (hT : ezm_T i0 i2 i3 i7 i8 i13 i18 i19 i20 i25 i29 i30 i31 i36 i37 i38 r73 r74 r75 r76 r77 r78 r79 r80 r81 r82 r83 r84 r85 r86 r87 r88 r89 r90 r91 r92 r93 r94 r95) (hd : 0 ≤ d) (ha0 : ezw_in a0) : ezw_C l ρ B xa Hb D cA 222 d [ezw_i a0] (ezm_h e F A i0 i2 i3 i7 i8 i13 i18 i19 i20 i25 i29 i30 i31 i36 i37 i38 r73 r74 r75 r76 r77 r78 r79 r80 r81 r82 r83 r84 r85 r86 r87 r88 r89 r90 r91 r92 r93 r94 r95) (ezm_m222Q  e F A i0 i2 i3 i7 i8 i13 i18 i19 i20 i25 i29 i30 i31 i36 i37 i38 r73 r74 r75 r76 r77 r78 r79 r80 r81 r82 r83 r84 r85 r86 r87 r88 r89 r90 r91 r92 r93 r94 r95 a0) := by
  refine ezw_met (k := 0) rfl rfl ?_
  refine ezw_iload_n rfl rfl ?_
  refine ezw_bipush (40) rfl rfl ?_
  refine ezw_icmp_eq rfl rfl ha0 ⟨by decide, by decide⟩ (fun h3_0 => ?_) (fun h3_0 => ?_)
  · refine ezw_iconst (1) rfl rfl ?_
    refine ezw_goto rfl rfl ?_
    exact ezw_ireturn rfl (ezw_zret ⟨by omega, by omega⟩) ⟨rfl, (1), ⟨by omega, by omega⟩, rfl⟩
  · refine ezw_iload_n rfl rfl ?_
    refine ezw_bipush (41) rfl rfl ?_
    refine ezw_icmp_eq rfl rfl ha0 ⟨by decide, by decide⟩ (fun h9_0 => ?_) (fun h9_0 => ?_)
    · refine ezw_iconst (1) rfl rfl ?_
      refine ezw_goto rfl rfl ?_
      exact ezw_ireturn rfl (ezw_zret ⟨by omega, by omega⟩) ⟨rfl, (1), ⟨by omega, by omega⟩, rfl⟩
    · refine ezw_iload_n rfl rfl ?_
      refine ezw_bipush (59) rfl rfl ?_
      refine ezw_icmp_eq rfl rfl ha0 ⟨by decide, by decide⟩ (fun h15_0 => ?_) (fun h15_0 => ?_)
      · refine ezw_iconst (1) rfl rfl ?_
        refine ezw_goto rfl rfl ?_
        exact ezw_ireturn rfl (ezw_zret ⟨by omega, by omega⟩) ⟨rfl, (1), ⟨by omega, by omega⟩, rfl⟩
      · refine ezw_iload_n rfl rfl ?_
        refine ezw_bipush (61) rfl rfl ?_
        refine ezw_icmp_eq rfl rfl ha0 ⟨by decide, by decide⟩ (fun h21_0 => ?_) (fun h21_0 => ?_)
        · refine ezw_iconst (1) rfl rfl ?_
          refine ezw_goto rfl rfl ?_
          exact ezw_ireturn rfl (ezw_zret ⟨by omega, by omega⟩) ⟨rfl, (1), ⟨by omega, by omega⟩, rfl⟩
        · refine ezw_iload_n rfl rfl ?_
          refine ezw_bipush (60) rfl rfl ?_
          refine ezw_icmp_eq rfl rfl ha0 ⟨by decide, by decide⟩ (fun h27_0 => ?_) (fun h27_0 => ?_)
          · refine ezw_iconst (1) rfl rfl ?_
            refine ezw_goto rfl rfl ?_
            exact ezw_ireturn rfl (ezw_zret ⟨by omega, by omega⟩) ⟨rfl, (1), ⟨by omega, by omega⟩, rfl⟩
          · refine ezw_iload_n rfl rfl ?_
            refine ezw_bipush (43) rfl rfl ?_
            refine ezw_icmp_eq rfl rfl ha0 ⟨by decide, by decide⟩ (fun h33_0 => ?_) (fun h33_0 => ?_)
            · refine ezw_iconst (1) rfl rfl ?_
              refine ezw_goto rfl rfl ?_
              exact ezw_ireturn rfl (ezw_zret ⟨by omega, by omega⟩) ⟨rfl, (1), ⟨by omega, by omega⟩, rfl⟩
            · refine ezw_iload_n rfl rfl ?_
              refine ezw_bipush (45) rfl rfl ?_
              refine ezw_icmp_eq rfl rfl ha0 ⟨by decide, by decide⟩ (fun h39_0 => ?_) (fun h39_0 => ?_)
              · refine ezw_iconst (1) rfl rfl ?_
                refine ezw_goto rfl rfl ?_
                exact ezw_ireturn rfl (ezw_zret ⟨by omega, by omega⟩) ⟨rfl, (1), ⟨by omega, by omega⟩, rfl⟩
              · refine ezw_iload_n rfl rfl ?_
                refine ezw_bipush (42) rfl rfl ?_
                refine ezw_icmp_ne rfl rfl ha0 ⟨by decide, by decide⟩ (fun h45_0 => ?_) (fun h45_0 => ?_)
                · refine ezw_iconst (0) rfl rfl ?_
                  exact ezw_ireturn rfl (ezw_zret ⟨by omega, by omega⟩) ⟨rfl, (0), ⟨by omega, by omega⟩, rfl⟩
                · refine ezw_iconst (1) rfl rfl ?_
                  refine ezw_goto rfl rfl ?_
                  exact ezw_ireturn rfl (ezw_zret ⟨by omega, by omega⟩) ⟨rfl, (1), ⟨by omega, by omega⟩, rfl⟩
def ezm_m236Q (e : Bool × Bool) (F : Nat → Nat → Int) (A : Nat → Int → Int) (i0 i2 i3 i7 i8 i13 i18 i19 i20 i25 i29 i30 i31 i36 i37 i38 : Int) (r73 r74 r75 r76 r77 r78 r79 r80 r81 r82 r83 r84 r85 r86 r87 r88 r89 r90 r91 r92 r93 r94 r95 : Int → Int) (a0 : Int) (a1 : Int) (a2 : Int) : Option ezq_V → (Nat → ezq_C) → Prop := fun v g' => ezm_h e F A i0 i2 i3 i7 i8 i13 i18 i19 i20 i25 i29 i30 i31 i36 i37 i38 r73 r74 r75 r76 r77 r78 r79 r80 r81 r82 r83 r84 r85 r86 r87 r88 r89 r90 r91 r92 r93 r94 r95 = g' ∧ ∃ u : Int, (0 ≤ u ∧ u ≤ 1) ∧ (u = 1 → a1 ≤ a0 ∧ a0 ≤ a2) ∧ (u = 0 → a0 < a1 ∨ a2 < a0) ∧ some (ezw_i u) = v
theorem ezm_m236 {a0 a1 a2 : Int} (hT : ezm_T i0 i2 i3 i7 i8 i13 i18 i19 i20 i25 i29 i30 i31 i36 i37 i38 r73 r74 r75 r76 r77 r78 r79 r80 r81 r82 r83 r84 r85 r86 r87 r88 r89 r90 r91 r92 r93 r94 r95) (hd : 0 ≤ d) (ha0 : ezw_in a0) (ha1 : ezw_in a1) (ha2 : ezw_in a2) : ezw_C l ρ B xa Hb D cA 236 d [ezw_i a0, ezw_i a1, ezw_i a2] (ezm_h e F A i0 i2 i3 i7 i8 i13 i18 i19 i20 i25 i29 i30 i31 i36 i37 i38 r73 r74 r75 r76 r77 r78 r79 r80 r81 r82 r83 r84 r85 r86 r87 r88 r89 r90 r91 r92 r93 r94 r95) (ezm_m236Q  e F A i0 i2 i3 i7 i8 i13 i18 i19 i20 i25 i29 i30 i31 i36 i37 i38 r73 r74 r75 r76 r77 r78 r79 r80 r81 r82 r83 r84 r85 r86 r87 r88 r89 r90 r91 r92 r93 r94 r95 a0 a1 a2) := by
  refine ezw_met (k := 0) rfl rfl ?_
  refine ezw_iload_n rfl rfl ?_
  refine ezw_iload_n rfl rfl ?_
  refine ezw_icmp_lt rfl rfl ha0 ha1 (fun h2_0 => ?_) (fun h2_0 => ?_)
  · refine ezw_iconst (0) rfl rfl ?_
    exact ezw_ireturn rfl (ezw_zret ⟨by omega, by omega⟩) ⟨rfl, (0), ⟨by omega, by omega⟩, by omega, by omega, rfl⟩
  · refine ezw_iload_n rfl rfl ?_
    refine ezw_iload_n rfl rfl ?_
    refine ezw_icmp_gt rfl rfl ha0 ha2 (fun h7_0 => ?_) (fun h7_0 => ?_)
    · refine ezw_iconst (0) rfl rfl ?_
      exact ezw_ireturn rfl (ezw_zret ⟨by omega, by omega⟩) ⟨rfl, (0), ⟨by omega, by omega⟩, by omega, by omega, rfl⟩
    · refine ezw_iconst (1) rfl rfl ?_
      refine ezw_goto rfl rfl ?_
      exact ezw_ireturn rfl (ezw_zret ⟨by omega, by omega⟩) ⟨rfl, (1), ⟨by omega, by omega⟩, by omega, by omega, rfl⟩
def ezm_m271Q (e : Bool × Bool) (F : Nat → Nat → Int) (A : Nat → Int → Int) (i0 i2 i3 i7 i8 i13 i18 i19 i20 i25 i29 i30 i31 i36 i37 i38 : Int) (r73 r74 r75 r76 r77 r78 r79 r80 r81 r82 r83 r84 r85 r86 r87 r88 r89 r90 r91 r92 r93 r94 r95 : Int → Int) (a0 : Int) (a1 : Int) (a2 : Int) : Option ezq_V → (Nat → ezq_C) → Prop := fun v g' => ezm_h e F A i0 i2 i3 i7 i8 i13 i18 i19 i20 i25 i29 i30 i31 i36 i37 i38 r73 r74 r75 r76 r77 r78 r79 r80 r81 r82 r83 r84 r85 r86 r87 r88 r89 r90 r91 r92 r93 r94 r95 = g' ∧ ∃ u : Int, (ezw_in u) ∧ some (ezw_i u) = v
theorem ezm_m271 {a0 a1 a2 : Int} (hT : ezm_T i0 i2 i3 i7 i8 i13 i18 i19 i20 i25 i29 i30 i31 i36 i37 i38 r73 r74 r75 r76 r77 r78 r79 r80 r81 r82 r83 r84 r85 r86 r87 r88 r89 r90 r91 r92 r93 r94 r95) (hd : 0 ≤ d) (ha0 : ezw_in a0) (ha1 : ezw_in a1) (ha2 : ezw_in a2) : ezw_C l ρ B xa Hb D cA 271 d [ezw_i a0, ezw_i a1, ezw_i a2] (ezm_h e F A i0 i2 i3 i7 i8 i13 i18 i19 i20 i25 i29 i30 i31 i36 i37 i38 r73 r74 r75 r76 r77 r78 r79 r80 r81 r82 r83 r84 r85 r86 r87 r88 r89 r90 r91 r92 r93 r94 r95) (ezm_m271Q  e F A i0 i2 i3 i7 i8 i13 i18 i19 i20 i25 i29 i30 i31 i36 i37 i38 r73 r74 r75 r76 r77 r78 r79 r80 r81 r82 r83 r84 r85 r86 r87 r88 r89 r90 r91 r92 r93 r94 r95 a0 a1 a2) := by
  refine ezw_met (k := 0) rfl rfl ?_
  refine ezw_iload_n rfl rfl ?_
  by_cases q1 : a0 = (4)
  · refine ezw_tableswitchE (v := 4) (p := 40) q1 rfl (by rfl) ?_
    refine ezw_iload_n rfl rfl ?_
    refine ezw_iload_n rfl rfl ?_
    refine ezs_iadd rfl (fun u2 hu2 => ?_)
    exact ezw_ireturn rfl rfl ⟨rfl, u2, hu2, rfl⟩
  by_cases q3 : a0 = (5)
  · refine ezw_tableswitchE (v := 5) (p := 44) q3 rfl (by rfl) ?_
    refine ezw_iload_n rfl rfl ?_
    refine ezw_iload_n rfl rfl ?_
    refine ezs_isub rfl (fun u4 hu4 => ?_)
    exact ezw_ireturn rfl rfl ⟨rfl, u4, hu4, rfl⟩
  by_cases q5 : a0 = (6)
  · refine ezw_tableswitchE (v := 6) (p := 48) q5 rfl (by rfl) ?_
    refine ezw_iload_n rfl rfl ?_
    refine ezw_iload_n rfl rfl ?_
    refine ezs_imul rfl (fun u6 hu6 => ?_)
    exact ezw_ireturn rfl rfl ⟨rfl, u6, hu6, rfl⟩
  by_cases q7 : a0 = (7)
  · refine ezw_tableswitchE (v := 7) (p := 52) q7 rfl (by rfl) ?_
    refine ezw_iload_n rfl rfl ?_
    refine ezw_iload_n rfl rfl ?_
    refine ezw_icmp_ge rfl rfl ha1 ha2 (fun h54_7 => ?_) (fun h54_7 => ?_)
    · refine ezw_iconst (0) rfl rfl ?_
      exact ezw_ireturn rfl rfl ⟨rfl, (0), ⟨by decide, by decide⟩, rfl⟩
    · refine ezw_iconst (1) rfl rfl ?_
      refine ezw_goto rfl rfl ?_
      exact ezw_ireturn rfl rfl ⟨rfl, (1), ⟨by decide, by decide⟩, rfl⟩
  by_cases q8 : a0 = (8)
  · refine ezw_tableswitchE (v := 8) (p := 63) q8 rfl (by rfl) ?_
    refine ezw_iload_n rfl rfl ?_
    refine ezw_iload_n rfl rfl ?_
    refine ezw_icmp_ne rfl rfl ha1 ha2 (fun h65_8 => ?_) (fun h65_8 => ?_)
    · refine ezw_iconst (0) rfl rfl ?_
      exact ezw_ireturn rfl rfl ⟨rfl, (0), ⟨by decide, by decide⟩, rfl⟩
    · refine ezw_iconst (1) rfl rfl ?_
      refine ezw_goto rfl rfl ?_
      exact ezw_ireturn rfl rfl ⟨rfl, (1), ⟨by decide, by decide⟩, rfl⟩
  by_cases q9 : a0 = (9)
  · refine ezw_tableswitchE (v := 9) (p := 74) q9 rfl (by rfl) ?_
    refine ezw_iload_n rfl rfl ?_
    refine ezw_if_eq rfl rfl ha1 (fun h75_9 => ?_) (fun h75_9 => ?_)
    · refine ezw_iconst (0) rfl rfl ?_
      exact ezw_ireturn rfl rfl ⟨rfl, (0), ⟨by decide, by decide⟩, rfl⟩
    · refine ezw_iload_n rfl rfl ?_
      refine ezw_if_eq rfl rfl ha2 (fun h79_9 => ?_) (fun h79_9 => ?_)
      · refine ezw_iconst (0) rfl rfl ?_
        exact ezw_ireturn rfl rfl ⟨rfl, (0), ⟨by decide, by decide⟩, rfl⟩
      · refine ezw_iconst (1) rfl rfl ?_
        refine ezw_goto rfl rfl ?_
        exact ezw_ireturn rfl rfl ⟨rfl, (1), ⟨by decide, by decide⟩, rfl⟩
  refine ezw_tableswitch (p := 88) rfl (ezs_swd ha0 (And.intro (And.intro ⟨by decide, by decide⟩ (fun z => q1 z.symm)) (And.intro (And.intro ⟨by decide, by decide⟩ (fun z => q3 z.symm)) (And.intro (And.intro ⟨by decide, by decide⟩ (fun z => q5 z.symm)) (And.intro (And.intro ⟨by decide, by decide⟩ (fun z => q7 z.symm)) (And.intro (And.intro ⟨by decide, by decide⟩ (fun z => q8 z.symm)) (And.intro (And.intro ⟨by decide, by decide⟩ (fun z => q9 z.symm)) True.intro)))))) rfl) ?_
  refine ezw_iload_n rfl rfl ?_
  refine ezw_if_ne rfl rfl ha1 (fun h89_9 => ?_) (fun h89_9 => ?_)
  · refine ezw_iconst (1) rfl rfl ?_
    refine ezw_goto rfl rfl ?_
    exact ezw_ireturn rfl rfl ⟨rfl, (1), ⟨by decide, by decide⟩, rfl⟩
  · refine ezw_iload_n rfl rfl ?_
    refine ezw_if_eq rfl rfl ha2 (fun h93_9 => ?_) (fun h93_9 => ?_)
    · refine ezw_iconst (0) rfl rfl ?_
      exact ezw_ireturn rfl rfl ⟨rfl, (0), ⟨by decide, by decide⟩, rfl⟩
    · refine ezw_iconst (1) rfl rfl ?_
      refine ezw_goto rfl rfl ?_
      exact ezw_ireturn rfl rfl ⟨rfl, (1), ⟨by decide, by decide⟩, rfl⟩
def ezm_m312Q (e : Bool × Bool) (F : Nat → Nat → Int) (A : Nat → Int → Int) (i0 i2 i3 i7 i8 i13 i18 i19 i20 i25 i29 i30 i31 i36 i37 i38 : Int) (r73 r74 r75 r76 r77 r78 r79 r80 r81 r82 r83 r84 r85 r86 r87 r88 r89 r90 r91 r92 r93 r94 r95 : Int → Int) (a0 : Int) (a1 : Int) : Option ezq_V → (Nat → ezq_C) → Prop := fun v g' => ezm_h e F A i0 i2 i3 i7 i8 i13 i18 i19 i20 i25 i29 i30 i31 i36 i37 i38 r73 r74 r75 r76 r77 r78 r79 r80 r81 r82 r83 r84 r85 r86 r87 r88 r89 r90 r91 r92 r93 r94 r95 = g' ∧ ∃ u : Int, (ezw_in u) ∧ some (ezw_i u) = v
theorem ezm_m312 {a0 a1 : Int} (hT : ezm_T i0 i2 i3 i7 i8 i13 i18 i19 i20 i25 i29 i30 i31 i36 i37 i38 r73 r74 r75 r76 r77 r78 r79 r80 r81 r82 r83 r84 r85 r86 r87 r88 r89 r90 r91 r92 r93 r94 r95) (hd : 0 ≤ d) (ha0 : ezw_in a0) (ha1 : ezw_in a1) : ezw_C l ρ B xa Hb D cA 312 d [ezw_i a0, ezw_i a1] (ezm_h e F A i0 i2 i3 i7 i8 i13 i18 i19 i20 i25 i29 i30 i31 i36 i37 i38 r73 r74 r75 r76 r77 r78 r79 r80 r81 r82 r83 r84 r85 r86 r87 r88 r89 r90 r91 r92 r93 r94 r95) (ezm_m312Q  e F A i0 i2 i3 i7 i8 i13 i18 i19 i20 i25 i29 i30 i31 i36 i37 i38 r73 r74 r75 r76 r77 r78 r79 r80 r81 r82 r83 r84 r85 r86 r87 r88 r89 r90 r91 r92 r93 r94 r95 a0 a1) := by
  refine ezw_met (k := 1) rfl rfl ?_
  refine ezw_iload_n rfl rfl ?_
  refine ezw_iload_n rfl rfl ?_
  refine ezs_isub rfl (fun u1 hu1 => ?_)
  refine ezw_iconst (4) rfl rfl ?_
  refine ezs_iadd rfl (fun u2 hu2 => ?_)
  refine ezw_iconst (4) rfl rfl ?_
  refine ezm_irem rfl hu2 ⟨by decide, by decide⟩ (by decide) (fun u3 hu3 ku3 => ?_)
  refine ezw_istore_n rfl rfl ?_
  refine ezw_iload_n rfl rfl ?_
  refine ezw_iconst (3) rfl rfl ?_
  refine ezw_icmp_ne rfl rfl hu3 ⟨by decide, by decide⟩ (fun h10_3 => ?_) (fun h10_3 => ?_)
  · refine ezw_iload_n rfl rfl ?_
    exact ezw_ireturn rfl rfl ⟨rfl, u3, hu3, rfl⟩
  · refine ezw_iconst (1) rfl rfl ?_
    refine ezw_goto rfl rfl ?_
    exact ezw_ireturn rfl rfl ⟨rfl, (1), ⟨by decide, by decide⟩, rfl⟩
def ezm_m290Q (e : Bool × Bool) (F : Nat → Nat → Int) (A : Nat → Int → Int) (i0 i2 i3 i7 i8 i13 i18 i19 i20 i25 i29 i30 i31 i36 i37 i38 : Int) (r73 r74 r75 r76 r77 r78 r79 r80 r81 r82 r83 r84 r85 r86 r87 r88 r89 r90 r91 r92 r93 r94 r95 : Int → Int) (a0 : Int) : Option ezq_V → (Nat → ezq_C) → Prop := fun v g' => ezm_h e F A i0 i2 i3 i7 i8 i13 i18 i19 i20 i25 i29 i30 i31 i36 i37 i38 r73 r74 r75 r76 r77 r78 r79 r80 r81 r82 r83 r84 r85 r86 r87 r88 r89 r90 r91 r92 r93 r94 r95 = g' ∧ ∃ u : Int, (0 ≤ u ∧ u ≤ 1) ∧ some (ezw_i u) = v
theorem ezm_m290 {a0 : Int} (hT : ezm_T i0 i2 i3 i7 i8 i13 i18 i19 i20 i25 i29 i30 i31 i36 i37 i38 r73 r74 r75 r76 r77 r78 r79 r80 r81 r82 r83 r84 r85 r86 r87 r88 r89 r90 r91 r92 r93 r94 r95) (hd : 0 ≤ d) (ha0 : ezw_in a0) : ezw_C l ρ B xa Hb D cA 290 d [ezw_i a0] (ezm_h e F A i0 i2 i3 i7 i8 i13 i18 i19 i20 i25 i29 i30 i31 i36 i37 i38 r73 r74 r75 r76 r77 r78 r79 r80 r81 r82 r83 r84 r85 r86 r87 r88 r89 r90 r91 r92 r93 r94 r95) (ezm_m290Q  e F A i0 i2 i3 i7 i8 i13 i18 i19 i20 i25 i29 i30 i31 i36 i37 i38 r73 r74 r75 r76 r77 r78 r79 r80 r81 r82 r83 r84 r85 r86 r87 r88 r89 r90 r91 r92 r93 r94 r95 a0) := by
  refine ezw_met (k := 0) rfl rfl ?_
  refine ezw_iload_n rfl rfl ?_
  refine ezw_bipush (20) rfl rfl ?_
  refine ezw_icmp_ge rfl rfl ha0 ⟨by decide, by decide⟩ (fun h3_0 => ?_) (fun h3_0 => ?_)
  · refine ezw_iconst (1) rfl rfl ?_
    refine ezw_goto rfl rfl ?_
    exact ezw_ireturn rfl (ezw_zret ⟨by omega, by omega⟩) ⟨rfl, (1), ⟨by omega, by omega⟩, rfl⟩
  · refine ezw_iload_n rfl rfl ?_
    refine ezw_bipush (6) rfl rfl ?_
    refine ezw_icmp_ge rfl rfl ha0 ⟨by decide, by decide⟩ (fun h9_0 => ?_) (fun h9_0 => ?_)
    · refine ezw_iconst (0) rfl rfl ?_
      exact ezw_ireturn rfl (ezw_zret ⟨by omega, by omega⟩) ⟨rfl, (0), ⟨by omega, by omega⟩, rfl⟩
    · refine ezw_iconst (1) rfl rfl ?_
      refine ezw_goto rfl rfl ?_
      exact ezw_ireturn rfl (ezw_zret ⟨by omega, by omega⟩) ⟨rfl, (1), ⟨by omega, by omega⟩, rfl⟩
def ezm_m225Q (e : Bool × Bool) (F : Nat → Nat → Int) (A : Nat → Int → Int) (i0 i2 i3 i7 i8 i13 i18 i19 i20 i25 i29 i30 i31 i36 i37 i38 : Int) (r73 r74 r75 r76 r77 r78 r79 r80 r81 r82 r83 r84 r85 r86 r87 r88 r89 r90 r91 r92 r93 r94 r95 : Int → Int) (a1 : Int) : Option ezq_V → (Nat → ezq_C) → Prop := fun v g' => ∃ (x8 : Int), ezm_h e F A i0 i2 i3 i7 x8 i13 i18 i19 i20 i25 i29 i30 i31 i36 i37 i38 r73 r74 r75 r76 r77 r78 r79 r80 r81 r82 r83 r84 r85 r86 r87 r88 r89 r90 r91 r92 r93 r94 r95 = g' ∧ ezm_T i0 i2 i3 i7 x8 i13 i18 i19 i20 i25 i29 i30 i31 i36 i37 i38 r73 r74 r75 r76 r77 r78 r79 r80 r81 r82 r83 r84 r85 r86 r87 r88 r89 r90 r91 r92 r93 r94 r95 ∧ (i8 = 0 → 0 < x8) ∧ (i8 ≠ 0 → x8 = i8) ∧ none = v
theorem ezm_m225 {a1 : Int} (hT : ezm_T i0 i2 i3 i7 i8 i13 i18 i19 i20 i25 i29 i30 i31 i36 i37 i38 r73 r74 r75 r76 r77 r78 r79 r80 r81 r82 r83 r84 r85 r86 r87 r88 r89 r90 r91 r92 r93 r94 r95) (hd : 0 ≤ d) (ha1 : ezw_in a1) (ga : 1 ≤ a1 ∧ a1 ≤ 9) (gx : 0 ≤ i7 ∧ i7 ≤ 1001) : ezw_C l ρ B xa Hb D cA 225 d [ezw_p 72, ezw_i a1] (ezm_h e F A i0 i2 i3 i7 i8 i13 i18 i19 i20 i25 i29 i30 i31 i36 i37 i38 r73 r74 r75 r76 r77 r78 r79 r80 r81 r82 r83 r84 r85 r86 r87 r88 r89 r90 r91 r92 r93 r94 r95) (ezm_m225Q  e F A i0 i2 i3 i7 i8 i13 i18 i19 i20 i25 i29 i30 i31 i36 i37 i38 r73 r74 r75 r76 r77 r78 r79 r80 r81 r82 r83 r84 r85 r86 r87 r88 r89 r90 r91 r92 r93 r94 r95 a1) := by
  refine ezw_met (k := 0) rfl rfl ?_
  refine ezw_aload_n rfl rfl ?_
  refine ezm_g8 rfl ?_
  have k1 := hT.t8
  refine ezw_if_ne rfl rfl ⟨by omega, by omega⟩ (fun h4_1 => ?_) (fun h4_1 => ?_)
  · exact ezw_return rfl rfl ⟨i8, rfl, hT, by omega, by omega, rfl⟩
  · refine ezw_aload_n rfl rfl ?_
    refine ezw_iload_n rfl rfl ?_
    refine ezw_bipush (16) rfl rfl ?_
    refine ezw_aload_n rfl rfl ?_
    refine ezm_gp (p := 75) rfl (fun _ => rfl) ?_
    refine ezw_aload_n rfl rfl ?_
    refine ezm_g7 rfl ?_
    have k2 := hT.t7
    refine ezm_l75 rfl (by omega) (by omega) (fun u3 eu3 => ?_)
    have ku3 : 0 ≤ u3 ∧ u3 ≤ 1000 := eu3 ▸ hT.t75 i7
    refine ezw_imul (k := 16 * u3) rfl (by omega) ?_
    refine ezw_iadd (k := a1 + 16 * u3) rfl (by omega) ?_
    refine ezm_p8 hT rfl ⟨by omega, by omega⟩ (fun hT => ?_)
    exact ezw_return rfl rfl ⟨(a1 + 16 * u3), rfl, hT, by omega, by omega, rfl⟩
def ezm_m223Q (e : Bool × Bool) (F : Nat → Nat → Int) (A : Nat → Int → Int) (i0 i2 i3 i7 i8 i13 i18 i19 i20 i25 i29 i30 i31 i36 i37 i38 : Int) (r73 r74 r75 r76 r77 r78 r79 r80 r81 r82 r83 r84 r85 r86 r87 r88 r89 r90 r91 r92 r93 r94 r95 : Int → Int) (n : Int) (a1 : Int) : Option ezq_V → (Nat → ezq_C) → Prop := fun v g' => ezm_h e F A i0 i2 i3 i7 i8 i13 i18 i19 i20 i25 i29 i30 i31 i36 i37 i38 r73 r74 r75 r76 r77 r78 r79 r80 r81 r82 r83 r84 r85 r86 r87 r88 r89 r90 r91 r92 r93 r94 r95 = g' ∧ ∃ u : Int, (0 ≤ u ∧ u ≤ 1) ∧ (u = 1 → i8 = 0 ∧ i7 < n) ∧ (u = ezm_w i8 i7 r74 r76 r77 a1) ∧ some (ezw_i u) = v
theorem ezm_m223 {n a1 : Int} (hT : ezm_T i0 i2 i3 i7 i8 i13 i18 i19 i20 i25 i29 i30 i31 i36 i37 i38 r73 r74 r75 r76 r77 r78 r79 r80 r81 r82 r83 r84 r85 r86 r87 r88 r89 r90 r91 r92 r93 r94 r95) (hd : 0 ≤ d) (ha1 : ezw_in a1) (hn : 0 ≤ i7 ∧ i7 ≤ n) (hs : r74 n = 0) (h1 : n ≤ 1000) (ga : 0 ≤ a1 ∧ a1 ≤ 47) : ezw_C l ρ B xa Hb D cA 223 d [ezw_p 72, ezw_i a1] (ezm_h e F A i0 i2 i3 i7 i8 i13 i18 i19 i20 i25 i29 i30 i31 i36 i37 i38 r73 r74 r75 r76 r77 r78 r79 r80 r81 r82 r83 r84 r85 r86 r87 r88 r89 r90 r91 r92 r93 r94 r95) (ezm_m223Q  e F A i0 i2 i3 i7 i8 i13 i18 i19 i20 i25 i29 i30 i31 i36 i37 i38 r73 r74 r75 r76 r77 r78 r79 r80 r81 r82 r83 r84 r85 r86 r87 r88 r89 r90 r91 r92 r93 r94 r95 n a1) := by
  refine ezw_met (k := 0) rfl rfl ?_
  refine ezw_aload_n rfl rfl ?_
  refine ezm_g8 rfl ?_
  have k1 := hT.t8
  refine ezw_if_ne rfl rfl ⟨by omega, by omega⟩ (fun h4_1 => ?_) (fun h4_1 => ?_)
  · refine ezw_iconst (0) rfl rfl ?_
    exact ezw_ireturn rfl (ezw_zret ⟨by omega, by omega⟩) ⟨rfl, (0), ⟨by omega, by omega⟩, by omega, by unfold ezm_w; first | exact (if_pos ⟨by omega, by omega, by omega⟩).symm | exact (if_neg (fun h => by omega)).symm, rfl⟩
  · refine ezw_aload_n rfl rfl ?_
    refine ezm_gp (p := 74) rfl (fun _ => rfl) ?_
    refine ezw_aload_n rfl rfl ?_
    refine ezm_g7 rfl ?_
    have k2 := hT.t7
    refine ezm_l74 rfl (by omega) (by omega) (fun u3 eu3 => ?_)
    have ku3 : ezw_in u3 := eu3 ▸ hT.t74 i7
    refine ezw_iconst (1) rfl rfl ?_
    refine ezw_icmp_ne rfl rfl ku3 ⟨by decide, by decide⟩ (fun h17_3 => ?_) (fun h17_3 => ?_)
    · refine ezw_iconst (0) rfl rfl ?_
      exact ezw_ireturn rfl (ezw_zret ⟨by omega, by omega⟩) ⟨rfl, (0), ⟨by omega, by omega⟩, by omega, by unfold ezm_w; first | exact (if_pos ⟨by omega, by omega, by omega⟩).symm | exact (if_neg (fun h => by omega)).symm, rfl⟩
    · refine ezw_aload_n rfl rfl ?_
      refine ezm_gp (p := 76) rfl (fun _ => rfl) ?_
      refine ezw_aload_n rfl rfl ?_
      refine ezm_g7 rfl ?_
      refine ezm_l76 rfl (by omega) (by omega) (fun u4 eu4 => ?_)
      have ku4 : ezw_il u4 := eu4 ▸ hT.t76 i7
      refine ezw_aload_n rfl rfl ?_
      refine ezm_gp (p := 77) rfl (fun _ => rfl) ?_
      refine ezw_iload_n rfl rfl ?_
      refine ezm_l77 rfl (by omega) (by omega) (fun u5 eu5 => ?_)
      have ku5 : ezw_il u5 := eu5 ▸ hT.t77 a1
      refine ezw_lcmpE rfl ku4 ku5 (fun u6 hu6 => ?_)
      refine ezw_if_ne rfl rfl ⟨by omega, by omega⟩ (fun h36_6 => ?_) (fun h36_6 => ?_)
      · refine ezw_iconst (0) rfl rfl ?_
        exact ezw_ireturn rfl (ezw_zret ⟨by omega, by omega⟩) ⟨rfl, (0), ⟨by omega, by omega⟩, by omega, by unfold ezm_w; first | exact (if_pos ⟨by omega, by omega, by omega⟩).symm | exact (if_neg (fun h => by omega)).symm, rfl⟩
      · refine ezw_iconst (1) rfl rfl ?_
        refine ezw_goto rfl rfl ?_
        exact ezw_ireturn rfl (ezw_zret ⟨by omega, by omega⟩) ⟨rfl, (1), ⟨by omega, by omega⟩, fun _ => ⟨by omega, ezm_lt (by omega) hs (by omega)⟩, by unfold ezm_w; first | exact (if_pos ⟨by omega, by omega, by omega⟩).symm | exact (if_neg (fun h => by omega)).symm, rfl⟩
def ezm_m250Q (e : Bool × Bool) (F : Nat → Nat → Int) (A : Nat → Int → Int) (i0 i2 i3 i7 i8 i13 i18 i19 i20 i25 i29 i30 i31 i36 i37 i38 : Int) (r73 r74 r75 r76 r77 r78 r79 r80 r81 r82 r83 r84 r85 r86 r87 r88 r89 r90 r91 r92 r93 r94 r95 : Int → Int) (n : Int) (a1 : Int) : Option ezq_V → (Nat → ezq_C) → Prop := fun v g' => ezm_h e F A i0 i2 i3 i7 i8 i13 i18 i19 i20 i25 i29 i30 i31 i36 i37 i38 r73 r74 r75 r76 r77 r78 r79 r80 r81 r82 r83 r84 r85 r86 r87 r88 r89 r90 r91 r92 r93 r94 r95 = g' ∧ ∃ u : Int, (0 ≤ u ∧ u ≤ 1) ∧ (u = 1 → i8 = 0 ∧ i7 < n) ∧ (u = ezm_sn i8 i7 r74 r76 a1) ∧ some (ezw_i u) = v
theorem ezm_m250 {n a1 : Int} (hT : ezm_T i0 i2 i3 i7 i8 i13 i18 i19 i20 i25 i29 i30 i31 i36 i37 i38 r73 r74 r75 r76 r77 r78 r79 r80 r81 r82 r83 r84 r85 r86 r87 r88 r89 r90 r91 r92 r93 r94 r95) (hd : 0 ≤ d) (ha1 : ezw_in a1) (hn : 0 ≤ i7 ∧ i7 ≤ n) (hs : r74 n = 0) (h1 : n ≤ 1000) : ezw_C l ρ B xa Hb D cA 250 d [ezw_p 72, ezw_i a1] (ezm_h e F A i0 i2 i3 i7 i8 i13 i18 i19 i20 i25 i29 i30 i31 i36 i37 i38 r73 r74 r75 r76 r77 r78 r79 r80 r81 r82 r83 r84 r85 r86 r87 r88 r89 r90 r91 r92 r93 r94 r95) (ezm_m250Q  e F A i0 i2 i3 i7 i8 i13 i18 i19 i20 i25 i29 i30 i31 i36 i37 i38 r73 r74 r75 r76 r77 r78 r79 r80 r81 r82 r83 r84 r85 r86 r87 r88 r89 r90 r91 r92 r93 r94 r95 n a1) := by
  refine ezw_met (k := 0) rfl rfl ?_
  refine ezw_aload_n rfl rfl ?_
  refine ezm_g8 rfl ?_
  have k1 := hT.t8
  refine ezw_if_ne rfl rfl ⟨by omega, by omega⟩ (fun h4_1 => ?_) (fun h4_1 => ?_)
  · refine ezw_iconst (0) rfl rfl ?_
    exact ezw_ireturn rfl (ezw_zret ⟨by omega, by omega⟩) ⟨rfl, (0), ⟨by omega, by omega⟩, by omega, by unfold ezm_sn; first | exact (if_pos ⟨by omega, by omega, by omega⟩).symm | exact (if_neg (fun h => by omega)).symm, rfl⟩
  · refine ezw_aload_n rfl rfl ?_
    refine ezm_gp (p := 74) rfl (fun _ => rfl) ?_
    refine ezw_aload_n rfl rfl ?_
    refine ezm_g7 rfl ?_
    have k2 := hT.t7
    refine ezm_l74 rfl (by omega) (by omega) (fun u3 eu3 => ?_)
    have ku3 : ezw_in u3 := eu3 ▸ hT.t74 i7
    refine ezw_iconst (3) rfl rfl ?_
    refine ezw_icmp_ne rfl rfl ku3 ⟨by decide, by decide⟩ (fun h17_3 => ?_) (fun h17_3 => ?_)
    · refine ezw_iconst (0) rfl rfl ?_
      exact ezw_ireturn rfl (ezw_zret ⟨by omega, by omega⟩) ⟨rfl, (0), ⟨by omega, by omega⟩, by omega, by unfold ezm_sn; first | exact (if_pos ⟨by omega, by omega, by omega⟩).symm | exact (if_neg (fun h => by omega)).symm, rfl⟩
    · refine ezw_aload_n rfl rfl ?_
      refine ezm_gp (p := 76) rfl (fun _ => rfl) ?_
      refine ezw_aload_n rfl rfl ?_
      refine ezm_g7 rfl ?_
      refine ezm_l76 rfl (by omega) (by omega) (fun u4 eu4 => ?_)
      have ku4 : ezw_il u4 := eu4 ▸ hT.t76 i7
      refine ezw_iload_n rfl rfl ?_
      refine ezw_i2l rfl ha1 rfl ?_
      refine ezw_lcmpE rfl ku4 (ezw_in_il ha1) (fun u5 hu5 => ?_)
      refine ezw_if_ne rfl rfl ⟨by omega, by omega⟩ (fun h32_5 => ?_) (fun h32_5 => ?_)
      · refine ezw_iconst (0) rfl rfl ?_
        exact ezw_ireturn rfl (ezw_zret ⟨by omega, by omega⟩) ⟨rfl, (0), ⟨by omega, by omega⟩, by omega, by unfold ezm_sn; first | exact (if_pos ⟨by omega, by omega, by omega⟩).symm | exact (if_neg (fun h => by omega)).symm, rfl⟩
      · refine ezw_iconst (1) rfl rfl ?_
        refine ezw_goto rfl rfl ?_
        exact ezw_ireturn rfl (ezw_zret ⟨by omega, by omega⟩) ⟨rfl, (1), ⟨by omega, by omega⟩, fun _ => ⟨by omega, ezm_lt (by omega) hs (by omega)⟩, by unfold ezm_sn; first | exact (if_pos ⟨by omega, by omega, by omega⟩).symm | exact (if_neg (fun h => by omega)).symm, rfl⟩
end KM6
