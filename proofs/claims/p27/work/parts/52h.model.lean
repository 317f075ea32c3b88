/-! ===== the model: what is looked at ===== -/
section KM6
variable {l : Launch} {ρ : ezq_E} {B : Nat} {xa : Nat → Option Nat} {Hb : Heap} {D : va_G} {cA : Nat → ClassId} {d : Nat} {e : Bool × Bool} {F : Nat → Nat → Int} {A : Nat → Int → Int} {i0 i2 i3 i7 i8 i13 i18 i19 i20 i25 i29 i30 i31 i36 i37 i38 : Int} {r73 r74 r75 r76 r77 r78 r79 r80 r81 r82 r83 r84 r85 r86 r87 r88 r89 r90 r91 r92 r93 r94 r95 : Int → Int}
def ezm_m257Q (e : Bool × Bool) (F : Nat → Nat → Int) (A : Nat → Int → Int) (i0 i2 i3 i7 i8 i13 i18 i19 i20 i25 i29 i30 i31 i36 i37 i38 : Int) (r73 r74 r75 r76 r77 r78 r79 r80 r81 r82 r83 r84 r85 r86 r87 r88 r89 r90 r91 r92 r93 r94 r95 : Int → Int) (a1 : Int) : Option ezq_V → (Nat → ezq_C) → Prop := fun v g' => ezm_h e F A i0 i2 i3 i7 i8 i13 i18 i19 i20 i25 i29 i30 i31 i36 i37 i38 r73 r74 r75 r76 r77 r78 r79 r80 r81 r82 r83 r84 r85 r86 r87 r88 r89 r90 r91 r92 r93 r94 r95 = g' ∧ ∃ u : Int, (0 ≤ u ∧ u ≤ 1) ∧ (u = 1 → 0 ≤ a1 ∧ a1 < r78 0 ∧ a1 ≤ 7) ∧ some (ezw_i u) = v
theorem ezm_m257 {a1 : Int} (hT : ezm_T i0 i2 i3 i7 i8 i13 i18 i19 i20 i25 i29 i30 i31 i36 i37 i38 r73 r74 r75 r76 r77 r78 r79 r80 r81 r82 r83 r84 r85 r86 r87 r88 r89 r90 r91 r92 r93 r94 r95) (hd : 1 ≤ d) (ha1 : ezw_in a1) : ezw_C l ρ B xa Hb D cA 257 d [ezw_p 72, ezw_i a1] (ezm_h e F A i0 i2 i3 i7 i8 i13 i18 i19 i20 i25 i29 i30 i31 i36 i37 i38 r73 r74 r75 r76 r77 r78 r79 r80 r81 r82 r83 r84 r85 r86 r87 r88 r89 r90 r91 r92 r93 r94 r95) (ezm_m257Q  e F A i0 i2 i3 i7 i8 i13 i18 i19 i20 i25 i29 i30 i31 i36 i37 i38 r73 r74 r75 r76 r77 r78 r79 r80 r81 r82 r83 r84 r85 r86 r87 r88 r89 r90 r91 r92 r93 r94 r95 a1) := by
  refine ezw_met (k := 0) rfl rfl ?_
  refine ezw_iload_n rfl rfl ?_
  refine ezw_if_lt rfl rfl ha1 (fun h1_0 => ?_) (fun h1_0 => ?_)
  · refine ezw_iconst (0) rfl rfl ?_
    exact ezw_ireturn rfl (ezw_zret ⟨by omega, by omega⟩) ⟨rfl, (0), ⟨by omega, by omega⟩, by omega, rfl⟩
  · refine ezw_iload_n rfl rfl ?_
    refine ezw_aload_n rfl rfl ?_
    refine ezw_call0_0 rfl (by omega) (ezm_at rfl) rfl rfl rfl rfl (ezm_m258 hT (by omega)) ?_
    rintro _ _ ⟨rfl, u2, hu2, p1_0, p1_1, rfl⟩
    refine ezw_icmp_ge rfl rfl ha1 hu2 (fun h9_2 => ?_) (fun h9_2 => ?_)
    · refine ezw_iconst (0) rfl rfl ?_
      exact ezw_ireturn rfl (ezw_zret ⟨by omega, by omega⟩) ⟨rfl, (0), ⟨by omega, by omega⟩, by omega, rfl⟩
    · refine ezw_iconst (1) rfl rfl ?_
      refine ezw_goto rfl rfl ?_
      exact ezw_ireturn rfl (ezw_zret ⟨by omega, by omega⟩) ⟨rfl, (1), ⟨by omega, by omega⟩, by omega, rfl⟩
def ezm_m262Q (e : Bool × Bool) (F : Nat → Nat → Int) (A : Nat → Int → Int) (i0 i2 i3 i7 i8 i13 i18 i19 i20 i25 i29 i30 i31 i36 i37 i38 : Int) (r73 r74 r75 r76 r77 r78 r79 r80 r81 r82 r83 r84 r85 r86 r87 r88 r89 r90 r91 r92 r93 r94 r95 : Int → Int) (a1 : Int) : Option ezq_V → (Nat → ezq_C) → Prop := fun v g' => ezm_h e F A i0 i2 i3 i7 i8 i13 i18 i19 i20 i25 i29 i30 i31 i36 i37 i38 r73 r74 r75 r76 r77 r78 r79 r80 r81 r82 r83 r84 r85 r86 r87 r88 r89 r90 r91 r92 r93 r94 r95 = g' ∧ ∃ u : Int, (0 ≤ u ∧ u ≤ 1) ∧ (u = 1 → 0 ≤ a1 ∧ a1 < r78 1 ∧ a1 ≤ 3) ∧ some (ezw_i u) = v
theorem ezm_m262 {a1 : Int} (hT : ezm_T i0 i2 i3 i7 i8 i13 i18 i19 i20 i25 i29 i30 i31 i36 i37 i38 r73 r74 r75 r76 r77 r78 r79 r80 r81 r82 r83 r84 r85 r86 r87 r88 r89 r90 r91 r92 r93 r94 r95) (hd : 1 ≤ d) (ha1 : ezw_in a1) : ezw_C l ρ B xa Hb D cA 262 d [ezw_p 72, ezw_i a1] (ezm_h e F A i0 i2 i3 i7 i8 i13 i18 i19 i20 i25 i29 i30 i31 i36 i37 i38 r73 r74 r75 r76 r77 r78 r79 r80 r81 r82 r83 r84 r85 r86 r87 r88 r89 r90 r91 r92 r93 r94 r95) (ezm_m262Q  e F A i0 i2 i3 i7 i8 i13 i18 i19 i20 i25 i29 i30 i31 i36 i37 i38 r73 r74 r75 r76 r77 r78 r79 r80 r81 r82 r83 r84 r85 r86 r87 r88 r89 r90 r91 r92 r93 r94 r95 a1) := by
  refine ezw_met (k := 0) rfl rfl ?_
  refine ezw_iload_n rfl rfl ?_
  refine ezw_if_lt rfl rfl ha1 (fun h1_0 => ?_) (fun h1_0 => ?_)
  · refine ezw_iconst (0) rfl rfl ?_
    exact ezw_ireturn rfl (ezw_zret ⟨by omega, by omega⟩) ⟨rfl, (0), ⟨by omega, by omega⟩, by omega, rfl⟩
  · refine ezw_iload_n rfl rfl ?_
    refine ezw_aload_n rfl rfl ?_
    refine ezw_call0_0 rfl (by omega) (ezm_at rfl) rfl rfl rfl rfl (ezm_m216 hT (by omega)) ?_
    rintro _ _ ⟨rfl, u2, hu2, p1_0, p1_1, rfl⟩
    refine ezw_icmp_ge rfl rfl ha1 hu2 (fun h9_2 => ?_) (fun h9_2 => ?_)
    · refine ezw_iconst (0) rfl rfl ?_
      exact ezw_ireturn rfl (ezw_zret ⟨by omega, by omega⟩) ⟨rfl, (0), ⟨by omega, by omega⟩, by omega, rfl⟩
    · refine ezw_iconst (1) rfl rfl ?_
      refine ezw_goto rfl rfl ?_
      exact ezw_ireturn rfl (ezw_zret ⟨by omega, by omega⟩) ⟨rfl, (1), ⟨by omega, by omega⟩, by omega, rfl⟩
def ezm_m260_v0Q (e : Bool × Bool) (F : Nat → Nat → Int) (A : Nat → Int → Int) (i0 i2 i3 i7 i8 i13 i18 i19 i20 i25 i29 i30 i31 i36 i37 i38 : Int) (r73 r74 r75 r76 r77 r78 r79 r80 r81 r82 r83 r84 r85 r86 r87 r88 r89 r90 r91 r92 r93 r94 r95 : Int → Int) (a2 : Int) : Option ezq_V → (Nat → ezq_C) → Prop := fun v g' => ezm_h e F A i0 i2 i3 i7 i8 i13 i18 i19 i20 i25 i29 i30 i31 i36 i37 i38 r73 r74 r75 r76 r77 r78 r79 r80 r81 r82 r83 r84 r85 r86 r87 r88 r89 r90 r91 r92 r93 r94 r95 = g' ∧ ∃ u : Int, (0 ≤ u ∧ u ≤ 1) ∧ (u = 1 → ezm_exb r88 1 (r88 0) a2) ∧ some (ezw_i u) = v
theorem ezm_m260_v0 {a2 : Int} (hT : ezm_T i0 i2 i3 i7 i8 i13 i18 i19 i20 i25 i29 i30 i31 i36 i37 i38 r73 r74 r75 r76 r77 r78 r79 r80 r81 r82 r83 r84 r85 r86 r87 r88 r89 r90 r91 r92 r93 r94 r95) (hd : 0 ≤ d) (ha2 : ezw_in a2) : ezw_C l ρ B xa Hb D cA 260 d [ezw_p 72, ezw_i (0), ezw_i a2] (ezm_h e F A i0 i2 i3 i7 i8 i13 i18 i19 i20 i25 i29 i30 i31 i36 i37 i38 r73 r74 r75 r76 r77 r78 r79 r80 r81 r82 r83 r84 r85 r86 r87 r88 r89 r90 r91 r92 r93 r94 r95) (ezm_m260_v0Q  e F A i0 i2 i3 i7 i8 i13 i18 i19 i20 i25 i29 i30 i31 i36 i37 i38 r73 r74 r75 r76 r77 r78 r79 r80 r81 r82 r83 r84 r85 r86 r87 r88 r89 r90 r91 r92 r93 r94 r95 a2) := by
  refine ezw_met (k := 2) rfl rfl ?_
  refine ezw_iconst (0) rfl rfl ?_
  refine ezw_istore_n rfl rfl ?_
  refine ezw_iconst (0) rfl rfl ?_
  refine ezw_istore rfl rfl ?_
  have L5_2 : ∀ c1 : Int, ezw_in c1 → ∀ y3 : Int, ezw_in y3 → ((0) ≤ c1) → (y3 = 0 ∨ y3 = 1) → (y3 = 1 → ezm_exb r88 1 (r88 0) a2) → ezw_E l ρ B xa Hb D cA d ezq_re260 (ezm_m260_v0Q  e F A i0 i2 i3 i7 i8 i13 i18 i19 i20 i25 i29 i30 i31 i36 i37 i38 r73 r74 r75 r76 r77 r78 r79 r80 r81 r82 r83 r84 r85 r86 r87 r88 r89 r90 r91 r92 r93 r94 r95 a2) 5 [some (ezw_p 72), some (ezw_i (0)), some (ezw_i a2), some (ezw_i y3), some (ezw_i c1)] [] (ezm_h e F A i0 i2 i3 i7 i8 i13 i18 i19 i20 i25 i29 i30 i31 i36 i37 i38 r73 r74 r75 r76 r77 r78 r79 r80 r81 r82 r83 r84 r85 r86 r87 r88 r89 r90 r91 r92 r93 r94 r95) := by
    refine ezs_up ?_
    intro c1 hc1 ihc1 y3 hy3 g_2 v0_2 ov_2
    refine ezw_iload rfl rfl ?_
    refine ezw_aload_n rfl rfl ?_
    refine ezm_gp (p := 88) rfl (fun _ => rfl) ?_
    refine ezw_iload_n rfl rfl ?_
    refine ezw_iconst (0) rfl rfl ?_
    refine ezw_iadd (k := (0)) rfl (by omega) ?_
    refine ezm_l88 rfl (by omega) (by omega) (fun u4 eu4 => ?_)
    have ku4 : ezm_k88 (0) u4 := eu4 ▸ hT.t88 (0)
    have zu4 := ezm_zs0 ku4 (by omega)
    refine ezw_icmp_ge rfl rfl hc1 (ezm_in88 ku4) (fun h15_4 => ?_) (fun h15_4 => ?_)
    · refine ezw_iload_n rfl rfl ?_
      exact ezw_ireturn rfl (ezw_zret ⟨by omega, by omega⟩) ⟨rfl, y3, ⟨by omega, by omega⟩, ov_2, rfl⟩
    · refine ezw_iload_n rfl rfl ?_
      refine ezw_if_ne rfl rfl hy3 (fun h19_4 => ?_) (fun h19_4 => ?_)
      · refine ezw_iconst (1) rfl rfl ?_
        refine ezw_goto rfl rfl ?_
        refine ezw_istore_n rfl rfl ?_
        refine ezw_iinc (k := c1 + 1) (1) rfl rfl rfl (by omega) rfl ?_
        refine ezw_goto rfl rfl ?_
        exact ezw_keepE [true, true, true, true, true] (ihc1 (c1 + 1) (by omega) ⟨by omega, by omega⟩ (1) ⟨by decide, by decide⟩ (by omega) (by omega) (by
              first
                | exact fun _ => ov_2 (by omega)
                | exact fun _ => ⟨c1, by omega, by omega, by omega⟩))
      · refine ezw_aload_n rfl rfl ?_
        refine ezm_gp (p := 88) rfl (fun _ => rfl) ?_
        refine ezw_iload_n rfl rfl ?_
        refine ezw_iconst (1) rfl rfl ?_
        refine ezw_iadd (k := (1)) rfl (by omega) ?_
        refine ezw_iload rfl rfl ?_
        refine ezw_iadd (k := c1 + 1) rfl (by omega) ?_
        refine ezm_l88 rfl (by omega) (by omega) (fun u5 eu5 => ?_)
        have ku5 : ezm_k88 (c1 + 1) u5 := eu5 ▸ hT.t88 (c1 + 1)
        have zu5 := ezm_zs1 ku5 (by omega)
        refine ezw_iload_n rfl rfl ?_
        refine ezw_icmp_ne rfl rfl (ezm_in88 ku5) ha2 (fun h34_5 => ?_) (fun h34_5 => ?_)
        · refine ezw_iconst (0) rfl rfl ?_
          refine ezw_istore_n rfl rfl ?_
          refine ezw_iinc (k := c1 + 1) (1) rfl rfl rfl (by omega) rfl ?_
          refine ezw_goto rfl rfl ?_
          exact ezw_keepE [true, true, true, true, true] (ihc1 (c1 + 1) (by omega) ⟨by omega, by omega⟩ (0) ⟨by decide, by decide⟩ (by omega) (by omega) (fun z => absurd z (by omega)))
        · refine ezw_iconst (1) rfl rfl ?_
          refine ezw_goto rfl rfl ?_
          refine ezw_istore_n rfl rfl ?_
          refine ezw_iinc (k := c1 + 1) (1) rfl rfl rfl (by omega) rfl ?_
          refine ezw_goto rfl rfl ?_
          exact ezw_keepE [true, true, true, true, true] (ihc1 (c1 + 1) (by omega) ⟨by omega, by omega⟩ (1) ⟨by decide, by decide⟩ (by omega) (by omega) (by
                first
                  | exact fun _ => ov_2 (by omega)
                  | exact fun _ => ⟨c1, by omega, by omega, by omega⟩))
  exact ezw_keepE [true, true, true, true, true] (L5_2 (0) ⟨by decide, by decide⟩ (0) ⟨by decide, by decide⟩ (by omega) (by omega) (fun z => absurd z (by omega)))
def ezm_m266_v0Q (e : Bool × Bool) (F : Nat → Nat → Int) (A : Nat → Int → Int) (i0 i2 i3 i7 i8 i13 i18 i19 i20 i25 i29 i30 i31 i36 i37 i38 : Int) (r73 r74 r75 r76 r77 r78 r79 r80 r81 r82 r83 r84 r85 r86 r87 r88 r89 r90 r91 r92 r93 r94 r95 : Int → Int) : Option ezq_V → (Nat → ezq_C) → Prop := fun v g' => ezm_h e F A i0 i2 i3 i7 i8 i13 i18 i19 i20 i25 i29 i30 i31 i36 i37 i38 r73 r74 r75 r76 r77 r78 r79 r80 r81 r82 r83 r84 r85 r86 r87 r88 r89 r90 r91 r92 r93 r94 r95 = g' ∧ ∃ u : Int, (0 ≤ u ∧ u ≤ 1) ∧ (u = 1 → r88 17 = 0) ∧ (u = 0 → r88 17 ≠ 0) ∧ some (ezw_i u) = v
theorem ezm_m266_v0 (hT : ezm_T i0 i2 i3 i7 i8 i13 i18 i19 i20 i25 i29 i30 i31 i36 i37 i38 r73 r74 r75 r76 r77 r78 r79 r80 r81 r82 r83 r84 r85 r86 r87 r88 r89 r90 r91 r92 r93 r94 r95) (hd : 0 ≤ d) : ezw_C l ρ B xa Hb D cA 266 d [ezw_p 72, ezw_i (0)] (ezm_h e F A i0 i2 i3 i7 i8 i13 i18 i19 i20 i25 i29 i30 i31 i36 i37 i38 r73 r74 r75 r76 r77 r78 r79 r80 r81 r82 r83 r84 r85 r86 r87 r88 r89 r90 r91 r92 r93 r94 r95) (ezm_m266_v0Q  e F A i0 i2 i3 i7 i8 i13 i18 i19 i20 i25 i29 i30 i31 i36 i37 i38 r73 r74 r75 r76 r77 r78 r79 r80 r81 r82 r83 r84 r85 r86 r87 r88 r89 r90 r91 r92 r93 r94 r95) := by
  refine ezw_met (k := 0) rfl rfl ?_
  refine ezw_aload_n rfl rfl ?_
  refine ezm_gp (p := 88) rfl (fun _ => rfl) ?_
  refine ezw_iload_n rfl rfl ?_
  refine ezw_bipush (17) rfl rfl ?_
  refine ezw_iadd (k := (17)) rfl (by omega) ?_
  refine ezm_l88 rfl (by omega) (by omega) (fun u1 eu1 => ?_)
  have ku1 : ezm_k88 (17) u1 := eu1 ▸ hT.t88 (17)
  refine ezw_if_ne rfl rfl (ezm_in88 ku1) (fun h9_1 => ?_) (fun h9_1 => ?_)
  · refine ezw_iconst (0) rfl rfl ?_
    exact ezw_ireturn rfl (ezw_zret ⟨by omega, by omega⟩) ⟨rfl, (0), ⟨by omega, by omega⟩, by omega, by omega, rfl⟩
  · refine ezw_iconst (1) rfl rfl ?_
    refine ezw_goto rfl rfl ?_
    exact ezw_ireturn rfl (ezw_zret ⟨by omega, by omega⟩) ⟨rfl, (1), ⟨by omega, by omega⟩, by omega, by omega, rfl⟩
def ezm_m268_v0Q (e : Bool × Bool) (F : Nat → Nat → Int) (A : Nat → Int → Int) (i0 i2 i3 i7 i8 i13 i18 i19 i20 i25 i29 i30 i31 i36 i37 i38 : Int) (r73 r74 r75 r76 r77 r78 r79 r80 r81 r82 r83 r84 r85 r86 r87 r88 r89 r90 r91 r92 r93 r94 r95 : Int → Int) : Option ezq_V → (Nat → ezq_C) → Prop := fun v g' => ezm_h e F A i0 i2 i3 i7 i8 i13 i18 i19 i20 i25 i29 i30 i31 i36 i37 i38 r73 r74 r75 r76 r77 r78 r79 r80 r81 r82 r83 r84 r85 r86 r87 r88 r89 r90 r91 r92 r93 r94 r95 = g' ∧ ∃ u : Int, (ezw_in u) ∧ (0 ≤ u ∧ u ≤ 7) ∧ (u = ezm_la r88 0) ∧ some (ezw_i u) = v
theorem ezm_m268_v0 (hT : ezm_T i0 i2 i3 i7 i8 i13 i18 i19 i20 i25 i29 i30 i31 i36 i37 i38 r73 r74 r75 r76 r77 r78 r79 r80 r81 r82 r83 r84 r85 r86 r87 r88 r89 r90 r91 r92 r93 r94 r95) (hd : 0 ≤ d) : ezw_C l ρ B xa Hb D cA 268 d [ezw_p 72, ezw_i (0)] (ezm_h e F A i0 i2 i3 i7 i8 i13 i18 i19 i20 i25 i29 i30 i31 i36 i37 i38 r73 r74 r75 r76 r77 r78 r79 r80 r81 r82 r83 r84 r85 r86 r87 r88 r89 r90 r91 r92 r93 r94 r95) (ezm_m268_v0Q  e F A i0 i2 i3 i7 i8 i13 i18 i19 i20 i25 i29 i30 i31 i36 i37 i38 r73 r74 r75 r76 r77 r78 r79 r80 r81 r82 r83 r84 r85 r86 r87 r88 r89 r90 r91 r92 r93 r94 r95) := by
  refine ezw_met (k := 0) rfl rfl ?_
  refine ezw_aload_n rfl rfl ?_
  refine ezm_gp (p := 88) rfl (fun _ => rfl) ?_
  refine ezw_iload_n rfl rfl ?_
  refine ezw_iconst (1) rfl rfl ?_
  refine ezw_iadd (k := (1)) rfl (by omega) ?_
  refine ezw_aload_n rfl rfl ?_
  refine ezm_gp (p := 88) rfl (fun _ => rfl) ?_
  refine ezw_iload_n rfl rfl ?_
  refine ezw_iconst (0) rfl rfl ?_
  refine ezw_iadd (k := (0)) rfl (by omega) ?_
  refine ezm_l88 rfl (by omega) (by omega) (fun u1 eu1 => ?_)
  have ku1 : ezm_k88 (0) u1 := eu1 ▸ hT.t88 (0)
  have zu1 := ezm_zs0 ku1 (by omega)
  refine ezw_iadd (k := u1 + 1) rfl (by omega) ?_
  refine ezw_iconst (1) rfl rfl ?_
  refine ezw_isub (k := u1) rfl (by omega) ?_
  refine ezm_l88 rfl (by omega) (by omega) (fun u2 eu2 => ?_)
  have ku2 : ezm_k88 u1 u2 := eu2 ▸ hT.t88 u1
  have zu2 := ezm_z07 ku2 (by omega)
  exact ezw_ireturn rfl rfl ⟨rfl, u2, (ezm_in88 ku2), by omega, by
        unfold ezm_la
        rw [← eu1]
        first
          | exact eu2
          | (rw [Int.add_zero]; exact eu2), rfl⟩
def ezm_m270Q (e : Bool × Bool) (F : Nat → Nat → Int) (A : Nat → Int → Int) (i0 i2 i3 i7 i8 i13 i18 i19 i20 i25 i29 i30 i31 i36 i37 i38 : Int) (r73 r74 r75 r76 r77 r78 r79 r80 r81 r82 r83 r84 r85 r86 r87 r88 r89 r90 r91 r92 r93 r94 r95 : Int → Int) (a1 : Int) : Option ezq_V → (Nat → ezq_C) → Prop := fun v g' => ∃  (x87 : Int → Int), ezm_h e F A i0 i2 i3 i7 i8 i13 i18 i19 i20 i25 i29 i30 i31 i36 i37 i38 r73 r74 r75 r76 r77 r78 r79 r80 r81 r82 r83 r84 r85 r86 x87 r88 r89 r90 r91 r92 r93 r94 r95 = g' ∧ ezm_T i0 i2 i3 i7 i8 i13 i18 i19 i20 i25 i29 i30 i31 i36 i37 i38 r73 r74 r75 r76 r77 r78 r79 r80 r81 r82 r83 r84 r85 r86 x87 r88 r89 r90 r91 r92 r93 r94 r95 ∧ ∃ u : Int, (ezw_in u) ∧ some (ezw_i u) = v
theorem ezm_m270 {a1 : Int} (hT : ezm_T i0 i2 i3 i7 i8 i13 i18 i19 i20 i25 i29 i30 i31 i36 i37 i38 r73 r74 r75 r76 r77 r78 r79 r80 r81 r82 r83 r84 r85 r86 r87 r88 r89 r90 r91 r92 r93 r94 r95) (hd : 1 ≤ d) (ha1 : ezw_in a1) (ga : 0 ≤ a1) (co : ezm_code r79 r80 a1 1100) : ezw_C l ρ B xa Hb D cA 270 d [ezw_p 72, ezw_i a1] (ezm_h e F A i0 i2 i3 i7 i8 i13 i18 i19 i20 i25 i29 i30 i31 i36 i37 i38 r73 r74 r75 r76 r77 r78 r79 r80 r81 r82 r83 r84 r85 r86 r87 r88 r89 r90 r91 r92 r93 r94 r95) (ezm_m270Q  e F A i0 i2 i3 i7 i8 i13 i18 i19 i20 i25 i29 i30 i31 i36 i37 i38 r73 r74 r75 r76 r77 r78 r79 r80 r81 r82 r83 r84 r85 r86 r87 r88 r89 r90 r91 r92 r93 r94 r95 a1) := by
  refine ezw_met (k := 3) rfl rfl ?_
  refine ezw_iconst (0) rfl rfl ?_
  refine ezw_istore_n rfl rfl ?_
  refine ezw_iload_n rfl rfl ?_
  refine ezw_istore_n rfl rfl ?_
  have L4_2 : ∀ c1 : Int, ezw_in c1 → ∀ y3 : Int, ezw_in y3 → ∀ x87_2 : Int → Int, ezm_T i0 i2 i3 i7 i8 i13 i18 i19 i20 i25 i29 i30 i31 i36 i37 i38 r73 r74 r75 r76 r77 r78 r79 r80 r81 r82 r83 r84 r85 r86 x87_2 r88 r89 r90 r91 r92 r93 r94 r95 → (a1 ≤ c1) → (0 ≤ y3) → (ezm_co2 r79 r80 c1 y3) → ezw_E l ρ B xa Hb D cA d ezq_re270 (ezm_m270Q  e F A i0 i2 i3 i7 i8 i13 i18 i19 i20 i25 i29 i30 i31 i36 i37 i38 r73 r74 r75 r76 r77 r78 r79 r80 r81 r82 r83 r84 r85 r86 r87 r88 r89 r90 r91 r92 r93 r94 r95 a1) 4 [some (ezw_p 72), some (ezw_i a1), some (ezw_i y3), some (ezw_i c1), none] [] (ezm_h e F A i0 i2 i3 i7 i8 i13 i18 i19 i20 i25 i29 i30 i31 i36 i37 i38 r73 r74 r75 r76 r77 r78 r79 r80 r81 r82 r83 r84 r85 r86 x87_2 r88 r89 r90 r91 r92 r93 r94 r95) := by
    refine ezs_up ?_
    intro c1 hc1 ihc1 y3 hy3 x87_2 hT g_2 v_2 co_2
    have hlt := ezm_co2_lt co_2
    refine ezw_aload_n rfl rfl ?_
    refine ezm_gp (p := 79) rfl (fun _ => rfl) ?_
    refine ezw_iload_n rfl rfl ?_
    refine ezm_l79 rfl (by omega) (by omega) (fun u4 eu4 => ?_)
    have ku4 : ezw_in u4 := eu4 ▸ hT.t79 c1
    refine ezw_if_eq rfl rfl ku4 (fun h10_4 => ?_) (fun h10_4 => ?_)
    · refine ezw_aload_n rfl rfl ?_
      refine ezm_gp (p := 87) rfl (fun _ => rfl) ?_
      refine ezw_iconst (0) rfl rfl ?_
      refine ezm_l87 rfl (by omega) (by omega) (fun u5 eu5 => ?_)
      have ku5 : ezw_in u5 := eu5 ▸ hT.t87 (0)
      exact ezw_ireturn rfl rfl ⟨x87_2, rfl, hT, u5, ku5, rfl⟩
    · refine ezw_aload_n rfl rfl ?_
      refine ezm_gp (p := 79) rfl (fun _ => rfl) ?_
      refine ezw_iload_n rfl rfl ?_
      refine ezm_l79 rfl (by omega) (by omega) (fun u6 eu6 => ?_)
      have fu6 : u4 = u6 := eu4.trans eu6.symm
      subst fu6
      refine ezw_istore rfl rfl ?_
      refine ezw_iload rfl rfl ?_
      refine ezw_iconst (1) rfl rfl ?_
      refine ezw_icmp_eq rfl rfl ku4 ⟨by decide, by decide⟩ (fun h24_6 => ?_) (fun h24_6 => ?_)
      · have hn := ezm_co2_1 co_2 (by omega)
        refine ezw_aload_n rfl rfl ?_
        refine ezm_gp (p := 87) rfl (fun _ => rfl) ?_
        refine ezw_iload_n rfl rfl ?_
        refine ezw_iload rfl rfl ?_
        refine ezw_iconst (1) rfl rfl ?_
        refine ezw_icmp_ne rfl rfl ku4 ⟨by decide, by decide⟩ (fun h41_6 => ?_) (fun h41_6 => ?_)
        · refine ezw_aload_n rfl rfl ?_
          refine ezm_gp (p := 86) rfl (fun _ => rfl) ?_
          refine ezw_aload_n rfl rfl ?_
          refine ezm_gp (p := 80) rfl (fun _ => rfl) ?_
          refine ezw_iload_n rfl rfl ?_
          refine ezm_l80 rfl (by omega) (by omega) (fun u7 eu7 => ?_)
          have ku7 : ezw_in u7 := eu7 ▸ hT.t80 c1
          refine ezm_l86 rfl (by omega) (by omega) (fun u8 eu8 => ?_)
          have ku8 : ezw_in u8 := eu8 ▸ hT.t86 u7
          refine ezm_s87 hT rfl (by omega) (by omega) ku8 (fun r87_9 hT er87_9 fr87_9 => ?_)
          refine ezw_iinc (k := y3 + 1) (1) rfl rfl rfl (by omega) rfl ?_
          refine ezw_goto rfl rfl ?_
          refine ezw_iinc (k := c1 + 1) (1) rfl rfl rfl (by omega) rfl ?_
          refine ezw_goto rfl rfl ?_
          exact ezw_keepE [true, true, true, true, false] (ihc1 (c1 + 1) (by omega) ⟨by omega, by omega⟩ (y3 + 1) ⟨by omega, by omega⟩ r87_9 hT (by omega) (by omega) hn.2.2)
        · refine ezw_aload_n rfl rfl ?_
          refine ezm_gp (p := 80) rfl (fun _ => rfl) ?_
          refine ezw_iload_n rfl rfl ?_
          refine ezm_l80 rfl (by omega) (by omega) (fun u10 eu10 => ?_)
          have ku10 : ezw_in u10 := eu10 ▸ hT.t80 c1
          refine ezw_goto rfl rfl ?_
          refine ezm_s87 hT rfl (by omega) (by omega) ku10 (fun r87_11 hT er87_11 fr87_11 => ?_)
          refine ezw_iinc (k := y3 + 1) (1) rfl rfl rfl (by omega) rfl ?_
          refine ezw_goto rfl rfl ?_
          refine ezw_iinc (k := c1 + 1) (1) rfl rfl rfl (by omega) rfl ?_
          refine ezw_goto rfl rfl ?_
          exact ezw_keepE [true, true, true, true, false] (ihc1 (c1 + 1) (by omega) ⟨by omega, by omega⟩ (y3 + 1) ⟨by omega, by omega⟩ r87_11 hT (by omega) (by omega) hn.2.2)
      · refine ezw_iload rfl rfl ?_
        refine ezw_iconst (2) rfl rfl ?_
        refine ezw_icmp_ne rfl rfl ku4 ⟨by decide, by decide⟩ (fun h30_11 => ?_) (fun h30_11 => ?_)
        · refine ezw_iload rfl rfl ?_
          refine ezw_iconst (3) rfl rfl ?_
          refine ezw_icmp_ne rfl rfl ku4 ⟨by decide, by decide⟩ (fun h74_11 => ?_) (fun h74_11 => ?_)
          · have hn := ezm_co2_4 co_2 (by omega) (by omega) (by omega) (by omega)
            refine ezw_iinc (k := y3 - 1) (-1) rfl rfl rfl (by omega) rfl ?_
            refine ezw_aload_n rfl rfl ?_
            refine ezm_gp (p := 87) rfl (fun _ => rfl) ?_
            refine ezw_iload_n rfl rfl ?_
            refine ezw_iconst (1) rfl rfl ?_
            refine ezw_isub (k := y3 - 2) rfl (by omega) ?_
            refine ezw_iload rfl rfl ?_
            refine ezw_aload_n rfl rfl ?_
            refine ezm_gp (p := 87) rfl (fun _ => rfl) ?_
            refine ezw_iload_n rfl rfl ?_
            refine ezw_iconst (1) rfl rfl ?_
            refine ezw_isub (k := y3 - 2) rfl (by omega) ?_
            refine ezm_l87 rfl (by omega) (by omega) (fun u12 eu12 => ?_)
            have ku12 : ezw_in u12 := eu12 ▸ hT.t87 (y3 - 2)
            refine ezw_aload_n rfl rfl ?_
            refine ezm_gp (p := 87) rfl (fun _ => rfl) ?_
            refine ezw_iload_n rfl rfl ?_
            refine ezm_l87 rfl (by omega) (by omega) (fun u13 eu13 => ?_)
            have ku13 : ezw_in u13 := eu13 ▸ hT.t87 (y3 - 1)
            refine ezw_call2_3 rfl (by omega) rfl rfl (ezm_m271 hT (by omega) ku4 ku12 ku13) ?_
            rintro _ _ ⟨rfl, u15, hu15, rfl⟩
            refine ezm_s87 hT rfl (by omega) (by omega) hu15 (fun r87_16 hT er87_16 fr87_16 => ?_)
            refine ezw_iinc (k := c1 + 1) (1) rfl rfl rfl (by omega) rfl ?_
            refine ezw_goto rfl rfl ?_
            exact ezw_keepE [true, true, true, true, false] (ihc1 (c1 + 1) (by omega) ⟨by omega, by omega⟩ (y3 - 1) ⟨by omega, by omega⟩ r87_16 hT (by omega) (by omega) hn.2.2)
          · have hn := ezm_co2_3 co_2 (by omega)
            refine ezw_aload_n rfl rfl ?_
            refine ezm_gp (p := 87) rfl (fun _ => rfl) ?_
            refine ezw_iload_n rfl rfl ?_
            refine ezw_iconst (1) rfl rfl ?_
            refine ezw_isub (k := y3 - 1) rfl (by omega) ?_
            refine ezw_aload_n rfl rfl ?_
            refine ezm_gp (p := 87) rfl (fun _ => rfl) ?_
            refine ezw_iload_n rfl rfl ?_
            refine ezw_iconst (1) rfl rfl ?_
            refine ezw_isub (k := y3 - 1) rfl (by omega) ?_
            refine ezm_l87 rfl (by omega) (by omega) (fun u17 eu17 => ?_)
            have ku17 : ezw_in u17 := eu17 ▸ hT.t87 (y3 - 1)
            refine ezw_if_ne rfl rfl ku17 (fun h92_17 => ?_) (fun h92_17 => ?_)
            · refine ezw_iconst (0) rfl rfl ?_
              refine ezm_s87 hT rfl (by omega) (by omega) ⟨by decide, by decide⟩ (fun r87_18 hT er87_18 fr87_18 => ?_)
              refine ezw_goto rfl rfl ?_
              refine ezw_iinc (k := c1 + 1) (1) rfl rfl rfl (by omega) rfl ?_
              refine ezw_goto rfl rfl ?_
              exact ezw_keepE [true, true, true, true, false] (ihc1 (c1 + 1) (by omega) ⟨by omega, by omega⟩ y3 hy3 r87_18 hT (by omega) (by omega) hn.2.2)
            · refine ezw_iconst (1) rfl rfl ?_
              refine ezw_goto rfl rfl ?_
              refine ezm_s87 hT rfl (by omega) (by omega) ⟨by decide, by decide⟩ (fun r87_19 hT er87_19 fr87_19 => ?_)
              refine ezw_goto rfl rfl ?_
              refine ezw_iinc (k := c1 + 1) (1) rfl rfl rfl (by omega) rfl ?_
              refine ezw_goto rfl rfl ?_
              exact ezw_keepE [true, true, true, true, false] (ihc1 (c1 + 1) (by omega) ⟨by omega, by omega⟩ y3 hy3 r87_19 hT (by omega) (by omega) hn.2.2)
        · have hn := ezm_co2_1 co_2 (by omega)
          refine ezw_aload_n rfl rfl ?_
          refine ezm_gp (p := 87) rfl (fun _ => rfl) ?_
          refine ezw_iload_n rfl rfl ?_
          refine ezw_iload rfl rfl ?_
          refine ezw_iconst (1) rfl rfl ?_
          refine ezw_icmp_ne rfl rfl ku4 ⟨by decide, by decide⟩ (fun h41_19 => ?_) (fun h41_19 => ?_)
          · refine ezw_aload_n rfl rfl ?_
            refine ezm_gp (p := 86) rfl (fun _ => rfl) ?_
            refine ezw_aload_n rfl rfl ?_
            refine ezm_gp (p := 80) rfl (fun _ => rfl) ?_
            refine ezw_iload_n rfl rfl ?_
            refine ezm_l80 rfl (by omega) (by omega) (fun u20 eu20 => ?_)
            have ku20 : ezw_in u20 := eu20 ▸ hT.t80 c1
            refine ezm_l86 rfl (by omega) (by omega) (fun u21 eu21 => ?_)
            have ku21 : ezw_in u21 := eu21 ▸ hT.t86 u20
            refine ezm_s87 hT rfl (by omega) (by omega) ku21 (fun r87_22 hT er87_22 fr87_22 => ?_)
            refine ezw_iinc (k := y3 + 1) (1) rfl rfl rfl (by omega) rfl ?_
            refine ezw_goto rfl rfl ?_
            refine ezw_iinc (k := c1 + 1) (1) rfl rfl rfl (by omega) rfl ?_
            refine ezw_goto rfl rfl ?_
            exact ezw_keepE [true, true, true, true, false] (ihc1 (c1 + 1) (by omega) ⟨by omega, by omega⟩ (y3 + 1) ⟨by omega, by omega⟩ r87_22 hT (by omega) (by omega) hn.2.2)
          · refine ezw_aload_n rfl rfl ?_
            refine ezm_gp (p := 80) rfl (fun _ => rfl) ?_
            refine ezw_iload_n rfl rfl ?_
            refine ezm_l80 rfl (by omega) (by omega) (fun u23 eu23 => ?_)
            have ku23 : ezw_in u23 := eu23 ▸ hT.t80 c1
            refine ezw_goto rfl rfl ?_
            refine ezm_s87 hT rfl (by omega) (by omega) ku23 (fun r87_24 hT er87_24 fr87_24 => ?_)
            refine ezw_iinc (k := y3 + 1) (1) rfl rfl rfl (by omega) rfl ?_
            refine ezw_goto rfl rfl ?_
            refine ezw_iinc (k := c1 + 1) (1) rfl rfl rfl (by omega) rfl ?_
            refine ezw_goto rfl rfl ?_
            exact ezw_keepE [true, true, true, true, false] (ihc1 (c1 + 1) (by omega) ⟨by omega, by omega⟩ (y3 + 1) ⟨by omega, by omega⟩ r87_24 hT (by omega) (by omega) hn.2.2)
  exact ezw_keepE [true, true, true, true, false] (L4_2 a1 ha1 (0) ⟨by decide, by decide⟩ r87 hT (by omega) (by omega) (ezm_co2_of co))
def ezm_m259Q (e : Bool × Bool) (F : Nat → Nat → Int) (A : Nat → Int → Int) (i0 i2 i3 i7 i8 i13 i18 i19 i20 i25 i29 i30 i31 i36 i37 i38 : Int) (r73 r74 r75 r76 r77 r78 r79 r80 r81 r82 r83 r84 r85 r86 r87 r88 r89 r90 r91 r92 r93 r94 r95 : Int → Int) (a1 : Int) (a2 : Int) : Option ezq_V → (Nat → ezq_C) → Prop := fun v g' => ezm_h e F A i0 i2 i3 i7 i8 i13 i18 i19 i20 i25 i29 i30 i31 i36 i37 i38 r73 r74 r75 r76 r77 r78 r79 r80 r81 r82 r83 r84 r85 r86 r87 r88 r89 r90 r91 r92 r93 r94 r95 = g' ∧ ∃ u : Int, (ezw_in u) ∧ some (ezw_i u) = v
theorem ezm_m259 {a1 a2 : Int} (hT : ezm_T i0 i2 i3 i7 i8 i13 i18 i19 i20 i25 i29 i30 i31 i36 i37 i38 r73 r74 r75 r76 r77 r78 r79 r80 r81 r82 r83 r84 r85 r86 r87 r88 r89 r90 r91 r92 r93 r94 r95) (hd : 0 ≤ d) (ha1 : ezw_in a1) (ha2 : ezw_in a2) (ga : 0 ≤ a1 ∧ a1 ≤ 7) (gb : 0 ≤ a2 ∧ a2 ≤ 3) : ezw_C l ρ B xa Hb D cA 259 d [ezw_p 72, ezw_i a1, ezw_i a2] (ezm_h e F A i0 i2 i3 i7 i8 i13 i18 i19 i20 i25 i29 i30 i31 i36 i37 i38 r73 r74 r75 r76 r77 r78 r79 r80 r81 r82 r83 r84 r85 r86 r87 r88 r89 r90 r91 r92 r93 r94 r95) (ezm_m259Q  e F A i0 i2 i3 i7 i8 i13 i18 i19 i20 i25 i29 i30 i31 i36 i37 i38 r73 r74 r75 r76 r77 r78 r79 r80 r81 r82 r83 r84 r85 r86 r87 r88 r89 r90 r91 r92 r93 r94 r95 a1 a2) := by
  refine ezw_met (k := 0) rfl rfl ?_
  refine ezw_aload_n rfl rfl ?_
  refine ezm_gp (p := 78) rfl (fun _ => rfl) ?_
  refine ezw_bipush (17) rfl rfl ?_
  refine ezw_iconst (4) rfl rfl ?_
  refine ezw_iload_n rfl rfl ?_
  refine ezw_imul (k := 4 * a1) rfl (by omega) ?_
  refine ezw_iadd (k := 4 * a1 + 17) rfl (by omega) ?_
  refine ezw_iload_n rfl rfl ?_
  refine ezw_iadd (k := 4 * a1 + a2 + 17) rfl (by omega) ?_
  refine ezm_l78 rfl (by omega) (by omega) (fun u1 eu1 => ?_)
  have ku1 : ezm_k78 (4 * a1 + a2 + 17) u1 := eu1 ▸ hT.t78 (4 * a1 + a2 + 17)
  exact ezw_ireturn rfl rfl ⟨rfl, u1, (ezm_in78 ku1), rfl⟩
def ezm_m256Q (e : Bool × Bool) (F : Nat → Nat → Int) (A : Nat → Int → Int) (i0 i2 i3 i7 i8 i13 i18 i19 i20 i25 i29 i30 i31 i36 i37 i38 : Int) (r73 r74 r75 r76 r77 r78 r79 r80 r81 r82 r83 r84 r85 r86 r87 r88 r89 r90 r91 r92 r93 r94 r95 : Int → Int) (a1 : Int) (a2 : Int) : Option ezq_V → (Nat → ezq_C) → Prop := fun v g' => ∃ (x0 : Int), ezm_h e F A x0 i2 i3 i7 i8 i13 i18 i19 i20 i25 i29 i30 i31 i36 i37 i38 r73 r74 r75 r76 r77 r78 r79 r80 r81 r82 r83 r84 r85 r86 r87 r88 r89 r90 r91 r92 r93 r94 r95 = g' ∧ ezm_T x0 i2 i3 i7 i8 i13 i18 i19 i20 i25 i29 i30 i31 i36 i37 i38 r73 r74 r75 r76 r77 r78 r79 r80 r81 r82 r83 r84 r85 r86 r87 r88 r89 r90 r91 r92 r93 r94 r95 ∧ ∃ u : Int, (ezw_in u) ∧ some (ezw_i u) = v
theorem ezm_m256 {a1 a2 : Int} (hT : ezm_T i0 i2 i3 i7 i8 i13 i18 i19 i20 i25 i29 i30 i31 i36 i37 i38 r73 r74 r75 r76 r77 r78 r79 r80 r81 r82 r83 r84 r85 r86 r87 r88 r89 r90 r91 r92 r93 r94 r95) (hd : 2 ≤ d) (ha1 : ezw_in a1) (ha2 : ezw_in a2) : ezw_C l ρ B xa Hb D cA 256 d [ezw_p 72, ezw_i a1, ezw_i a2] (ezm_h e F A i0 i2 i3 i7 i8 i13 i18 i19 i20 i25 i29 i30 i31 i36 i37 i38 r73 r74 r75 r76 r77 r78 r79 r80 r81 r82 r83 r84 r85 r86 r87 r88 r89 r90 r91 r92 r93 r94 r95) (ezm_m256Q  e F A i0 i2 i3 i7 i8 i13 i18 i19 i20 i25 i29 i30 i31 i36 i37 i38 r73 r74 r75 r76 r77 r78 r79 r80 r81 r82 r83 r84 r85 r86 r87 r88 r89 r90 r91 r92 r93 r94 r95 a1 a2) := by
  refine ezw_met (k := 0) rfl rfl ?_
  refine ezw_aload_n rfl rfl ?_
  refine ezw_iconst (0) rfl rfl ?_
  refine ezm_p0 hT rfl ⟨by decide, by decide⟩ (fun hT => ?_)
  refine ezw_aload_n rfl rfl ?_
  refine ezw_iload_n rfl rfl ?_
  refine ezw_call0_1 rfl (by omega) (ezm_at rfl) rfl rfl rfl rfl (ezm_m257 hT (by omega) ha1) ?_
  rintro _ _ ⟨rfl, u2, hu2, p1_0, rfl⟩
  refine ezw_if_eq rfl rfl ⟨by omega, by omega⟩ (fun h10_2 => ?_) (fun h10_2 => ?_)
  · refine ezw_iconst (-1) rfl rfl ?_
    exact ezw_ireturn rfl rfl ⟨(0), rfl, hT, (-1), ⟨by decide, by decide⟩, rfl⟩
  · refine ezw_iload_n rfl rfl ?_
    refine ezw_iconst (0) rfl rfl ?_
    refine ezw_iconst (5) rfl rfl ?_
    refine ezw_call2_3 rfl (by omega) rfl rfl (ezm_m236 hT (by omega) ha2 ⟨by decide, by decide⟩ ⟨by decide, by decide⟩) ?_
    rintro _ _ ⟨rfl, u4, hu4, p3_0, p3_1, rfl⟩
    refine ezw_if_ne rfl rfl ⟨by omega, by omega⟩ (fun h19_4 => ?_) (fun h19_4 => ?_)
    · refine ezw_iload_n rfl rfl ?_
      refine ezw_iconst (4) rfl rfl ?_
      refine ezw_icmp_ge rfl rfl ha2 ⟨by decide, by decide⟩ (fun h26_4 => ?_) (fun h26_4 => ?_)
      · refine ezw_iload_n rfl rfl ?_
        refine ezw_iconst (4) rfl rfl ?_
        refine ezw_icmp_ne rfl rfl ha2 ⟨by decide, by decide⟩ (fun h40_4 => ?_) (fun h40_4 => ?_)
        · refine ezw_aload_n rfl rfl ?_
          refine ezw_iconst (0) rfl rfl ?_
          refine ezw_iload_n rfl rfl ?_
          refine ezw_call0_2 rfl (by omega) (ezm_at rfl) rfl rfl rfl rfl (ezm_m260_v0 hT (by omega) ha1) ?_
          rintro _ _ ⟨rfl, u6, hu6, ov_5, rfl⟩
          refine ezw_if_eq rfl rfl ⟨by omega, by omega⟩ (fun h61_6 => ?_) (fun h61_6 => ?_)
          · refine ezw_iconst (0) rfl rfl ?_
            exact ezw_ireturn rfl rfl ⟨(0), rfl, hT, (0), ⟨by decide, by decide⟩, rfl⟩
          · refine ezw_iconst (1) rfl rfl ?_
            refine ezw_goto rfl rfl ?_
            exact ezw_ireturn rfl rfl ⟨(0), rfl, hT, (1), ⟨by decide, by decide⟩, rfl⟩
        · refine ezw_aload_n rfl rfl ?_
          refine ezm_gp (p := 88) rfl (fun _ => rfl) ?_
          refine ezw_bipush (7) rfl rfl ?_
          refine ezw_iload_n rfl rfl ?_
          refine ezw_iadd (k := a1 + 7) rfl (by omega) ?_
          refine ezm_l88 rfl (by omega) (by omega) (fun u7 eu7 => ?_)
          have ku7 : ezm_k88 (a1 + 7) u7 := eu7 ▸ hT.t88 (a1 + 7)
          have zu7 := ezm_zs7 ku7 (by omega)
          refine ezw_goto rfl rfl ?_
          exact ezw_ireturn rfl rfl ⟨(0), rfl, hT, u7, (ezm_in88 ku7), rfl⟩
      · refine ezw_aload_n rfl rfl ?_
        refine ezw_iload_n rfl rfl ?_
        refine ezw_iload_n rfl rfl ?_
        refine ezw_call0_2 rfl (by omega) (ezm_at rfl) rfl rfl rfl rfl (ezm_m259 hT (by omega) ha1 ha2 (by omega) (by omega)) ?_
        rintro _ _ ⟨rfl, u9, hu9, rfl⟩
        refine ezw_goto rfl rfl ?_
        exact ezw_ireturn rfl rfl ⟨(0), rfl, hT, u9, hu9, rfl⟩
    · refine ezw_iconst (-1) rfl rfl ?_
      exact ezw_ireturn rfl rfl ⟨(0), rfl, hT, (-1), ⟨by decide, by decide⟩, rfl⟩
def ezm_m263Q (e : Bool × Bool) (F : Nat → Nat → Int) (A : Nat → Int → Int) (i0 i2 i3 i7 i8 i13 i18 i19 i20 i25 i29 i30 i31 i36 i37 i38 : Int) (r73 r74 r75 r76 r77 r78 r79 r80 r81 r82 r83 r84 r85 r86 r87 r88 r89 r90 r91 r92 r93 r94 r95 : Int → Int) (a1 : Int) (a2 : Int) : Option ezq_V → (Nat → ezq_C) → Prop := fun v g' => ezm_h e F A i0 i2 i3 i7 i8 i13 i18 i19 i20 i25 i29 i30 i31 i36 i37 i38 r73 r74 r75 r76 r77 r78 r79 r80 r81 r82 r83 r84 r85 r86 r87 r88 r89 r90 r91 r92 r93 r94 r95 = g' ∧ ∃ u : Int, (ezw_in u) ∧ some (ezw_i u) = v
theorem ezm_m263 {a1 a2 : Int} (hT : ezm_T i0 i2 i3 i7 i8 i13 i18 i19 i20 i25 i29 i30 i31 i36 i37 i38 r73 r74 r75 r76 r77 r78 r79 r80 r81 r82 r83 r84 r85 r86 r87 r88 r89 r90 r91 r92 r93 r94 r95) (hd : 0 ≤ d) (ha1 : ezw_in a1) (ha2 : ezw_in a2) (ga : 0 ≤ a1 ∧ a1 ≤ 7) (gb : 0 ≤ a2 ∧ a2 ≤ 7) : ezw_C l ρ B xa Hb D cA 263 d [ezw_p 72, ezw_i a1, ezw_i a2] (ezm_h e F A i0 i2 i3 i7 i8 i13 i18 i19 i20 i25 i29 i30 i31 i36 i37 i38 r73 r74 r75 r76 r77 r78 r79 r80 r81 r82 r83 r84 r85 r86 r87 r88 r89 r90 r91 r92 r93 r94 r95) (ezm_m263Q  e F A i0 i2 i3 i7 i8 i13 i18 i19 i20 i25 i29 i30 i31 i36 i37 i38 r73 r74 r75 r76 r77 r78 r79 r80 r81 r82 r83 r84 r85 r86 r87 r88 r89 r90 r91 r92 r93 r94 r95 a1 a2) := by
  refine ezw_met (k := 0) rfl rfl ?_
  refine ezw_aload_n rfl rfl ?_
  refine ezm_gp (p := 78) rfl (fun _ => rfl) ?_
  refine ezw_bipush (49) rfl rfl ?_
  refine ezw_iconst (4) rfl rfl ?_
  refine ezw_iload_n rfl rfl ?_
  refine ezw_imul (k := 4 * a1) rfl (by omega) ?_
  refine ezw_iadd (k := 4 * a1 + 49) rfl (by omega) ?_
  refine ezw_iload_n rfl rfl ?_
  refine ezw_iadd (k := 4 * a1 + a2 + 49) rfl (by omega) ?_
  refine ezm_l78 rfl (by omega) (by omega) (fun u1 eu1 => ?_)
  have ku1 : ezm_k78 (4 * a1 + a2 + 49) u1 := eu1 ▸ hT.t78 (4 * a1 + a2 + 49)
  exact ezw_ireturn rfl rfl ⟨rfl, u1, (ezm_in78 ku1), rfl⟩
def ezm_m261Q (e : Bool × Bool) (F : Nat → Nat → Int) (A : Nat → Int → Int) (i0 i2 i3 i7 i8 i13 i18 i19 i20 i25 i29 i30 i31 i36 i37 i38 : Int) (r73 r74 r75 r76 r77 r78 r79 r80 r81 r82 r83 r84 r85 r86 r87 r88 r89 r90 r91 r92 r93 r94 r95 : Int → Int) (a1 : Int) (a2 : Int) : Option ezq_V → (Nat → ezq_C) → Prop := fun v g' => ∃ (x0 : Int), ezm_h e F A x0 i2 i3 i7 i8 i13 i18 i19 i20 i25 i29 i30 i31 i36 i37 i38 r73 r74 r75 r76 r77 r78 r79 r80 r81 r82 r83 r84 r85 r86 r87 r88 r89 r90 r91 r92 r93 r94 r95 = g' ∧ ezm_T x0 i2 i3 i7 i8 i13 i18 i19 i20 i25 i29 i30 i31 i36 i37 i38 r73 r74 r75 r76 r77 r78 r79 r80 r81 r82 r83 r84 r85 r86 r87 r88 r89 r90 r91 r92 r93 r94 r95 ∧ ∃ u : Int, (ezw_in u) ∧ some (ezw_i u) = v
theorem ezm_m261 {a1 a2 : Int} (hT : ezm_T i0 i2 i3 i7 i8 i13 i18 i19 i20 i25 i29 i30 i31 i36 i37 i38 r73 r74 r75 r76 r77 r78 r79 r80 r81 r82 r83 r84 r85 r86 r87 r88 r89 r90 r91 r92 r93 r94 r95) (hd : 2 ≤ d) (ha1 : ezw_in a1) (ha2 : ezw_in a2) : ezw_C l ρ B xa Hb D cA 261 d [ezw_p 72, ezw_i a1, ezw_i a2] (ezm_h e F A i0 i2 i3 i7 i8 i13 i18 i19 i20 i25 i29 i30 i31 i36 i37 i38 r73 r74 r75 r76 r77 r78 r79 r80 r81 r82 r83 r84 r85 r86 r87 r88 r89 r90 r91 r92 r93 r94 r95) (ezm_m261Q  e F A i0 i2 i3 i7 i8 i13 i18 i19 i20 i25 i29 i30 i31 i36 i37 i38 r73 r74 r75 r76 r77 r78 r79 r80 r81 r82 r83 r84 r85 r86 r87 r88 r89 r90 r91 r92 r93 r94 r95 a1 a2) := by
  refine ezw_met (k := 0) rfl rfl ?_
  refine ezw_aload_n rfl rfl ?_
  refine ezw_iconst (0) rfl rfl ?_
  refine ezm_p0 hT rfl ⟨by decide, by decide⟩ (fun hT => ?_)
  refine ezw_aload_n rfl rfl ?_
  refine ezw_iload_n rfl rfl ?_
  refine ezw_call0_1 rfl (by omega) (ezm_at rfl) rfl rfl rfl rfl (ezm_m262 hT (by omega) ha1) ?_
  rintro _ _ ⟨rfl, u2, hu2, p1_0, rfl⟩
  refine ezw_if_eq rfl rfl ⟨by omega, by omega⟩ (fun h10_2 => ?_) (fun h10_2 => ?_)
  · refine ezw_iconst (-1) rfl rfl ?_
    refine ezw_goto rfl rfl ?_
    exact ezw_ireturn rfl rfl ⟨(0), rfl, hT, (-1), ⟨by decide, by decide⟩, rfl⟩
  · refine ezw_iload_n rfl rfl ?_
    refine ezw_iconst (0) rfl rfl ?_
    refine ezw_iconst (3) rfl rfl ?_
    refine ezw_call2_3 rfl (by omega) rfl rfl (ezm_m236 hT (by omega) ha2 ⟨by decide, by decide⟩ ⟨by decide, by decide⟩) ?_
    rintro _ _ ⟨rfl, u4, hu4, p3_0, p3_1, rfl⟩
    refine ezw_if_ne rfl rfl ⟨by omega, by omega⟩ (fun h19_4 => ?_) (fun h19_4 => ?_)
    · refine ezw_iload_n rfl rfl ?_
      refine ezw_iconst (3) rfl rfl ?_
      refine ezw_icmp_ge rfl rfl ha2 ⟨by decide, by decide⟩ (fun h28_4 => ?_) (fun h28_4 => ?_)
      · refine ezw_aload_n rfl rfl ?_
        refine ezm_gp (p := 88) rfl (fun _ => rfl) ?_
        refine ezw_bipush (19) rfl rfl ?_
        refine ezm_l88 rfl (by omega) (by omega) (fun u5 eu5 => ?_)
        have ku5 : ezm_k88 (19) u5 := eu5 ▸ hT.t88 (19)
        have zu5 := ezm_zs19 ku5 (by omega)
        refine ezw_iload_n rfl rfl ?_
        refine ezw_ishrO rfl (fun u6 hu6 => ?_)
        refine ezw_iconst (1) rfl rfl ?_
        refine ezm_iand rfl (fun u7 hu7 ku7 => ?_)
        exact ezw_ireturn rfl rfl ⟨(0), rfl, hT, u7, hu7, rfl⟩
      · refine ezw_aload_n rfl rfl ?_
        refine ezw_iload_n rfl rfl ?_
        refine ezw_iload_n rfl rfl ?_
        refine ezw_call0_2 rfl (by omega) (ezm_at rfl) rfl rfl rfl rfl (ezm_m263 hT (by omega) ha1 ha2 (by omega) (by omega)) ?_
        rintro _ _ ⟨rfl, u9, hu9, rfl⟩
        refine ezw_goto rfl rfl ?_
        exact ezw_ireturn rfl rfl ⟨(0), rfl, hT, u9, hu9, rfl⟩
    · refine ezw_iconst (-1) rfl rfl ?_
      refine ezw_goto rfl rfl ?_
      exact ezw_ireturn rfl rfl ⟨(0), rfl, hT, (-1), ⟨by decide, by decide⟩, rfl⟩
def ezm_m259_v2Q (e : Bool × Bool) (F : Nat → Nat → Int) (A : Nat → Int → Int) (i0 i2 i3 i7 i8 i13 i18 i19 i20 i25 i29 i30 i31 i36 i37 i38 : Int) (r73 r74 r75 r76 r77 r78 r79 r80 r81 r82 r83 r84 r85 r86 r87 r88 r89 r90 r91 r92 r93 r94 r95 : Int → Int) (a1 : Int) : Option ezq_V → (Nat → ezq_C) → Prop := fun v g' => ezm_h e F A i0 i2 i3 i7 i8 i13 i18 i19 i20 i25 i29 i30 i31 i36 i37 i38 r73 r74 r75 r76 r77 r78 r79 r80 r81 r82 r83 r84 r85 r86 r87 r88 r89 r90 r91 r92 r93 r94 r95 = g' ∧ ∃ u : Int, (ezw_in u) ∧ (u = r78 (4 * a1 + 19)) ∧ some (ezw_i u) = v
theorem ezm_m259_v2 {a1 : Int} (hT : ezm_T i0 i2 i3 i7 i8 i13 i18 i19 i20 i25 i29 i30 i31 i36 i37 i38 r73 r74 r75 r76 r77 r78 r79 r80 r81 r82 r83 r84 r85 r86 r87 r88 r89 r90 r91 r92 r93 r94 r95) (hd : 0 ≤ d) (ha1 : ezw_in a1) (ga : 0 ≤ a1 ∧ a1 ≤ 7) : ezw_C l ρ B xa Hb D cA 259 d [ezw_p 72, ezw_i a1, ezw_i (2)] (ezm_h e F A i0 i2 i3 i7 i8 i13 i18 i19 i20 i25 i29 i30 i31 i36 i37 i38 r73 r74 r75 r76 r77 r78 r79 r80 r81 r82 r83 r84 r85 r86 r87 r88 r89 r90 r91 r92 r93 r94 r95) (ezm_m259_v2Q  e F A i0 i2 i3 i7 i8 i13 i18 i19 i20 i25 i29 i30 i31 i36 i37 i38 r73 r74 r75 r76 r77 r78 r79 r80 r81 r82 r83 r84 r85 r86 r87 r88 r89 r90 r91 r92 r93 r94 r95 a1) := by
  refine ezw_met (k := 0) rfl rfl ?_
  refine ezw_aload_n rfl rfl ?_
  refine ezm_gp (p := 78) rfl (fun _ => rfl) ?_
  refine ezw_bipush (17) rfl rfl ?_
  refine ezw_iconst (4) rfl rfl ?_
  refine ezw_iload_n rfl rfl ?_
  refine ezw_imul (k := 4 * a1) rfl (by omega) ?_
  refine ezw_iadd (k := 4 * a1 + 17) rfl (by omega) ?_
  refine ezw_iload_n rfl rfl ?_
  refine ezw_iadd (k := 4 * a1 + 19) rfl (by omega) ?_
  refine ezm_l78 rfl (by omega) (by omega) (fun u1 eu1 => ?_)
  have ku1 : ezm_k78 (4 * a1 + 19) u1 := eu1 ▸ hT.t78 (4 * a1 + 19)
  exact ezw_ireturn rfl rfl ⟨rfl, u1, (ezm_in78 ku1), eu1, rfl⟩
def ezm_m259_v1Q (e : Bool × Bool) (F : Nat → Nat → Int) (A : Nat → Int → Int) (i0 i2 i3 i7 i8 i13 i18 i19 i20 i25 i29 i30 i31 i36 i37 i38 : Int) (r73 r74 r75 r76 r77 r78 r79 r80 r81 r82 r83 r84 r85 r86 r87 r88 r89 r90 r91 r92 r93 r94 r95 : Int → Int) (a1 : Int) : Option ezq_V → (Nat → ezq_C) → Prop := fun v g' => ezm_h e F A i0 i2 i3 i7 i8 i13 i18 i19 i20 i25 i29 i30 i31 i36 i37 i38 r73 r74 r75 r76 r77 r78 r79 r80 r81 r82 r83 r84 r85 r86 r87 r88 r89 r90 r91 r92 r93 r94 r95 = g' ∧ ∃ u : Int, (ezw_in u) ∧ (u = r78 (4 * a1 + 18)) ∧ some (ezw_i u) = v
theorem ezm_m259_v1 {a1 : Int} (hT : ezm_T i0 i2 i3 i7 i8 i13 i18 i19 i20 i25 i29 i30 i31 i36 i37 i38 r73 r74 r75 r76 r77 r78 r79 r80 r81 r82 r83 r84 r85 r86 r87 r88 r89 r90 r91 r92 r93 r94 r95) (hd : 0 ≤ d) (ha1 : ezw_in a1) (ga : 0 ≤ a1 ∧ a1 ≤ 7) : ezw_C l ρ B xa Hb D cA 259 d [ezw_p 72, ezw_i a1, ezw_i (1)] (ezm_h e F A i0 i2 i3 i7 i8 i13 i18 i19 i20 i25 i29 i30 i31 i36 i37 i38 r73 r74 r75 r76 r77 r78 r79 r80 r81 r82 r83 r84 r85 r86 r87 r88 r89 r90 r91 r92 r93 r94 r95) (ezm_m259_v1Q  e F A i0 i2 i3 i7 i8 i13 i18 i19 i20 i25 i29 i30 i31 i36 i37 i38 r73 r74 r75 r76 r77 r78 r79 r80 r81 r82 r83 r84 r85 r86 r87 r88 r89 r90 r91 r92 r93 r94 r95 a1) := by
  refine ezw_met (k := 0) rfl rfl ?_
  refine ezw_aload_n rfl rfl ?_
  refine ezm_gp (p := 78) rfl (fun _ => rfl) ?_
  refine ezw_bipush (17) rfl rfl ?_
  refine ezw_iconst (4) rfl rfl ?_
  refine ezw_iload_n rfl rfl ?_
  refine ezw_imul (k := 4 * a1) rfl (by omega) ?_
  refine ezw_iadd (k := 4 * a1 + 17) rfl (by omega) ?_
  refine ezw_iload_n rfl rfl ?_
  refine ezw_iadd (k := 4 * a1 + 18) rfl (by omega) ?_
  refine ezm_l78 rfl (by omega) (by omega) (fun u1 eu1 => ?_)
  have ku1 : ezm_k78 (4 * a1 + 18) u1 := eu1 ▸ hT.t78 (4 * a1 + 18)
  exact ezw_ireturn rfl rfl ⟨rfl, u1, (ezm_in78 ku1), eu1, rfl⟩
def ezm_m269Q (e : Bool × Bool) (F : Nat → Nat → Int) (A : Nat → Int → Int) (i0 i2 i3 i7 i8 i13 i18 i19 i20 i25 i29 i30 i31 i36 i37 i38 : Int) (r73 r74 r75 r76 r77 r78 r79 r80 r81 r82 r83 r84 r85 r86 r87 r88 r89 r90 r91 r92 r93 r94 r95 : Int → Int) (a1 : Int) (a2 : Int) (a3 : Int) (a4 : Int) (a5 : Int) : Option ezq_V → (Nat → ezq_C) → Prop := fun v g' => ∃  (x86 x87 : Int → Int), ezm_h e F A i0 i2 i3 i7 i8 i13 i18 i19 i20 i25 i29 i30 i31 i36 i37 i38 r73 r74 r75 r76 r77 r78 r79 r80 r81 r82 r83 r84 r85 x86 x87 r88 r89 r90 r91 r92 r93 r94 r95 = g' ∧ ezm_T i0 i2 i3 i7 i8 i13 i18 i19 i20 i25 i29 i30 i31 i36 i37 i38 r73 r74 r75 r76 r77 r78 r79 r80 r81 r82 r83 r84 r85 x86 x87 r88 r89 r90 r91 r92 r93 r94 r95 ∧ ∃ u : Int, (ezw_in u) ∧ (0 ≤ u ∧ u ≤ 10) ∧ some (ezw_i u) = v
theorem ezm_m269 {a1 a2 a3 a4 a5 : Int} (hT : ezm_T i0 i2 i3 i7 i8 i13 i18 i19 i20 i25 i29 i30 i31 i36 i37 i38 r73 r74 r75 r76 r77 r78 r79 r80 r81 r82 r83 r84 r85 r86 r87 r88 r89 r90 r91 r92 r93 r94 r95) (hd : 2 ≤ d) (ha1 : ezw_in a1) (ha2 : ezw_in a2) (ha3 : ezw_in a3) (ha4 : ezw_in a4) (ha5 : ezw_in a5) (ga : 0 ≤ a1 ∧ a1 ≤ 1) (gt : 0 ≤ a2 ∧ a2 ≤ 7) (tr : ezm_TR r78 r79 r80) : ezw_C l ρ B xa Hb D cA 269 d [ezw_p 72, ezw_i a1, ezw_i a2, ezw_i a3, ezw_i a4, ezw_i a5] (ezm_h e F A i0 i2 i3 i7 i8 i13 i18 i19 i20 i25 i29 i30 i31 i36 i37 i38 r73 r74 r75 r76 r77 r78 r79 r80 r81 r82 r83 r84 r85 r86 r87 r88 r89 r90 r91 r92 r93 r94 r95) (ezm_m269Q  e F A i0 i2 i3 i7 i8 i13 i18 i19 i20 i25 i29 i30 i31 i36 i37 i38 r73 r74 r75 r76 r77 r78 r79 r80 r81 r82 r83 r84 r85 r86 r87 r88 r89 r90 r91 r92 r93 r94 r95 a1 a2 a3 a4 a5) := by
  refine ezw_met (k := 2) rfl rfl ?_
  refine ezw_iload rfl rfl ?_
  refine ezw_aload_n rfl rfl ?_
  refine ezw_iload_n rfl rfl ?_
  refine ezw_iconst (2) rfl rfl ?_
  refine ezw_call0_2 rfl (by omega) (ezm_at rfl) rfl rfl rfl rfl (ezm_m259_v2 hT (by omega) ha2 (by omega)) ?_
  rintro _ _ ⟨rfl, u2, hu2, tw_1, rfl⟩
  refine ezs_isub rfl (fun u3 hu3 => ?_)
  refine ezw_iconst (4) rfl rfl ?_
  refine ezs_iadd rfl (fun u4 hu4 => ?_)
  refine ezw_iconst (4) rfl rfl ?_
  refine ezm_irem rfl hu4 ⟨by decide, by decide⟩ (by decide) (fun u5 hu5 ku5 => ?_)
  refine ezw_istore rfl rfl ?_
  refine ezw_aload_n rfl rfl ?_
  refine ezm_gp (p := 86) rfl (fun _ => rfl) ?_
  refine ezw_iconst (0) rfl rfl ?_
  refine ezw_iload_n rfl rfl ?_
  refine ezm_s86 hT rfl (by omega) (by omega) ha3 (fun r86_6 hT er86_6 fr86_6 => ?_)
  refine ezw_aload_n rfl rfl ?_
  refine ezm_gp (p := 86) rfl (fun _ => rfl) ?_
  refine ezw_iconst (1) rfl rfl ?_
  refine ezw_aload_n rfl rfl ?_
  refine ezw_iload_n rfl rfl ?_
  refine ezw_iconst (1) rfl rfl ?_
  refine ezw_call0_2 rfl (by omega) (ezm_at rfl) rfl rfl rfl rfl (ezm_m259_v1 hT (by omega) ha2 (by omega)) ?_
  rintro _ _ ⟨rfl, u8, hu8, tw_7, rfl⟩
  refine ezm_s86 hT rfl (by omega) (by omega) hu8 (fun r86_9 hT er86_9 fr86_9 => ?_)
  refine ezw_aload_n rfl rfl ?_
  refine ezm_gp (p := 86) rfl (fun _ => rfl) ?_
  refine ezw_iconst (2) rfl rfl ?_
  refine ezw_iload rfl rfl ?_
  refine ezw_iconst (3) rfl rfl ?_
  refine ezw_icmp_ne rfl rfl hu5 ⟨by decide, by decide⟩ (fun h42_9 => ?_) (fun h42_9 => ?_)
  · refine ezw_iload rfl rfl ?_
    refine ezm_s86 hT rfl (by omega) (by omega) hu5 (fun r86_10 hT er86_10 fr86_10 => ?_)
    refine ezw_aload_n rfl rfl ?_
    refine ezm_gp (p := 86) rfl (fun _ => rfl) ?_
    refine ezw_iconst (3) rfl rfl ?_
    refine ezw_iload rfl rfl ?_
    refine ezm_s86 hT rfl (by omega) (by omega) ha5 (fun r86_11 hT er86_11 fr86_11 => ?_)
    refine ezw_iload_n rfl rfl ?_
    have J106_13 : ∀ y12 : Int, ezw_in y12 → ezw_E l ρ B xa Hb D cA d ezq_re269 (ezm_m269Q  e F A i0 i2 i3 i7 i8 i13 i18 i19 i20 i25 i29 i30 i31 i36 i37 i38 r73 r74 r75 r76 r77 r78 r79 r80 r81 r82 r83 r84 r85 r86 r87 r88 r89 r90 r91 r92 r93 r94 r95 a1 a2 a3 a4 a5) 106 [some (ezw_p 72), some (ezw_i a1), some (ezw_i a2), some (ezw_i a3), some (ezw_i a4), some (ezw_i a5), some (ezw_i u5), none] [ezw_i y12] (ezm_h e F A i0 i2 i3 i7 i8 i13 i18 i19 i20 i25 i29 i30 i31 i36 i37 i38 r73 r74 r75 r76 r77 r78 r79 r80 r81 r82 r83 r84 r85 r86_11 r87 r88 r89 r90 r91 r92 r93 r94 r95) := by
      intro y12 hy12
      refine ezw_istore rfl rfl ?_
      refine ezw_aload_n rfl rfl ?_
      refine ezm_gp (p := 78) rfl (fun _ => rfl) ?_
      refine ezw_bipush (15) rfl rfl ?_
      refine ezw_iload_n rfl rfl ?_
      refine ezw_iadd (k := a1 + 15) rfl (by omega) ?_
      refine ezm_l78 rfl (by omega) (by omega) (fun u14 eu14 => ?_)
      have ku14 : ezm_k78 (a1 + 15) u14 := eu14 ▸ hT.t78 (a1 + 15)
      have zu14 := ezm_za15 ku14 (by omega)
      have J138_16 : ∀ y15 : Int, ezw_in y15 → ∀ x87_16 : Int → Int, ezm_T i0 i2 i3 i7 i8 i13 i18 i19 i20 i25 i29 i30 i31 i36 i37 i38 r73 r74 r75 r76 r77 r78 r79 r80 r81 r82 r83 r84 r85 r86_11 x87_16 r88 r89 r90 r91 r92 r93 r94 r95 → ezw_E l ρ B xa Hb D cA d ezq_re269 (ezm_m269Q  e F A i0 i2 i3 i7 i8 i13 i18 i19 i20 i25 i29 i30 i31 i36 i37 i38 r73 r74 r75 r76 r77 r78 r79 r80 r81 r82 r83 r84 r85 r86 r87 r88 r89 r90 r91 r92 r93 r94 r95 a1 a2 a3 a4 a5) 138 [some (ezw_p 72), some (ezw_i a1), some (ezw_i a2), some (ezw_i a3), some (ezw_i a4), some (ezw_i a5), some (ezw_i u5), some (ezw_i y12)] [ezw_i y15] (ezm_h e F A i0 i2 i3 i7 i8 i13 i18 i19 i20 i25 i29 i30 i31 i36 i37 i38 r73 r74 r75 r76 r77 r78 r79 r80 r81 r82 r83 r84 r85 r86_11 x87_16 r88 r89 r90 r91 r92 r93 r94 r95) := by
        intro y15 hy15 x87_16 hT
        refine ezw_istore rfl rfl ?_
        refine ezw_iload rfl rfl ?_
        refine ezw_if_ge rfl rfl hy15 (fun h142_16 => ?_) (fun h142_16 => ?_)
        · refine ezw_iload rfl rfl ?_
          refine ezw_bipush (10) rfl rfl ?_
          refine ezw_icmp_le rfl rfl hy15 ⟨by decide, by decide⟩ (fun h153_16 => ?_) (fun h153_16 => ?_)
          · refine ezw_iload rfl rfl ?_
            exact ezw_ireturn rfl rfl ⟨r86_11, x87_16, rfl, hT, y15, hy15, by omega, rfl⟩
          · refine ezw_bipush (10) rfl rfl ?_
            refine ezw_goto rfl rfl ?_
            exact ezw_ireturn rfl rfl ⟨r86_11, x87_16, rfl, hT, (10), ⟨by decide, by decide⟩, by omega, rfl⟩
        · refine ezw_iconst (0) rfl rfl ?_
          refine ezw_goto rfl rfl ?_
          exact ezw_ireturn rfl rfl ⟨r86_11, x87_16, rfl, hT, (0), ⟨by decide, by decide⟩, by omega, rfl⟩
      refine ezw_if_ge rfl rfl (ezm_in78 ku14) (fun h117_14 => ?_) (fun h117_14 => ?_)
      · refine ezw_aload_n rfl rfl ?_
        refine ezw_aload_n rfl rfl ?_
        refine ezm_gp (p := 78) rfl (fun _ => rfl) ?_
        refine ezw_bipush (15) rfl rfl ?_
        refine ezw_iload_n rfl rfl ?_
        refine ezw_iadd (k := a1 + 15) rfl (by omega) ?_
        refine ezm_l78 rfl (by omega) (by omega) (fun u17 eu17 => ?_)
        have fu17 : u14 = u17 := eu14.trans eu17.symm
        subst fu17
        have hco := ezm_TR_co tr eu14 (by omega) (by omega) (by omega)
        refine ezw_call0_1 rfl (by omega) (ezm_at rfl) rfl rfl rfl rfl (ezm_m270 hT (by omega) (ezm_in78 ku14) (by omega) hco) ?_
        rintro _ _ ⟨x87_18, rfl, hT, u19, hu19, rfl⟩
        exact ezw_keepE [true, true, true, true, true, true, true, true] (J138_16 u19 hu19 x87_18 hT)
      · refine ezw_iload rfl rfl ?_
        refine ezw_goto rfl rfl ?_
        exact ezw_keepE [true, true, true, true, true, true, true, true] (J138_16 y12 hy12 r87 hT)
    refine ezw_if_ne rfl rfl ha1 (fun h61_11 => ?_) (fun h61_11 => ?_)
    · refine ezw_iload_n rfl rfl ?_
      refine ezw_iconst (2) rfl rfl ?_
      refine ezw_iload rfl rfl ?_
      refine ezs_imul rfl (fun u20 hu20 => ?_)
      refine ezs_iadd rfl (fun u21 hu21 => ?_)
      exact ezw_keepE [true, true, true, true, true, true, true, false] (J106_13 u21 hu21)
    · refine ezw_aload_n rfl rfl ?_
      refine ezm_gp (p := 86) rfl (fun _ => rfl) ?_
      refine ezw_iconst (2) rfl rfl ?_
      refine ezm_l86 rfl (by omega) (by omega) (fun u22 eu22 => ?_)
      have ku22 : ezw_in u22 := eu22 ▸ hT.t86 (2)
      refine ezw_if_ne rfl rfl ku22 (fun h70_22 => ?_) (fun h70_22 => ?_)
      · refine ezw_aload_n rfl rfl ?_
        refine ezm_gp (p := 86) rfl (fun _ => rfl) ?_
        refine ezw_iconst (2) rfl rfl ?_
        refine ezm_l86 rfl (by omega) (by omega) (fun u23 eu23 => ?_)
        have fu23 : u22 = u23 := eu22.trans eu23.symm
        subst fu23
        refine ezw_iconst (1) rfl rfl ?_
        refine ezw_icmp_ne rfl rfl ku22 ⟨by decide, by decide⟩ (fun h87_23 => ?_) (fun h87_23 => ?_)
        · refine ezw_iconst (0) rfl rfl ?_
          refine ezw_goto rfl rfl ?_
          exact ezw_keepE [true, true, true, true, true, true, true, false] (J106_13 (0) ⟨by decide, by decide⟩)
        · refine ezw_iconst (3) rfl rfl ?_
          refine ezw_iload_n rfl rfl ?_
          refine ezs_isub rfl (fun u24 hu24 => ?_)
          refine ezw_goto rfl rfl ?_
          exact ezw_keepE [true, true, true, true, true, true, true, false] (J106_13 u24 hu24)
      · refine ezw_bipush (10) rfl rfl ?_
        refine ezw_iload_n rfl rfl ?_
        refine ezs_isub rfl (fun u25 hu25 => ?_)
        refine ezw_goto rfl rfl ?_
        exact ezw_keepE [true, true, true, true, true, true, true, false] (J106_13 u25 hu25)
  · refine ezw_iconst (1) rfl rfl ?_
    refine ezw_goto rfl rfl ?_
    refine ezm_s86 hT rfl (by omega) (by omega) ⟨by decide, by decide⟩ (fun r86_26 hT er86_26 fr86_26 => ?_)
    refine ezw_aload_n rfl rfl ?_
    refine ezm_gp (p := 86) rfl (fun _ => rfl) ?_
    refine ezw_iconst (3) rfl rfl ?_
    refine ezw_iload rfl rfl ?_
    refine ezm_s86 hT rfl (by omega) (by omega) ha5 (fun r86_27 hT er86_27 fr86_27 => ?_)
    refine ezw_iload_n rfl rfl ?_
    have J106_29 : ∀ y28 : Int, ezw_in y28 → ezw_E l ρ B xa Hb D cA d ezq_re269 (ezm_m269Q  e F A i0 i2 i3 i7 i8 i13 i18 i19 i20 i25 i29 i30 i31 i36 i37 i38 r73 r74 r75 r76 r77 r78 r79 r80 r81 r82 r83 r84 r85 r86 r87 r88 r89 r90 r91 r92 r93 r94 r95 a1 a2 a3 a4 a5) 106 [some (ezw_p 72), some (ezw_i a1), some (ezw_i a2), some (ezw_i a3), some (ezw_i a4), some (ezw_i a5), some (ezw_i u5), none] [ezw_i y28] (ezm_h e F A i0 i2 i3 i7 i8 i13 i18 i19 i20 i25 i29 i30 i31 i36 i37 i38 r73 r74 r75 r76 r77 r78 r79 r80 r81 r82 r83 r84 r85 r86_27 r87 r88 r89 r90 r91 r92 r93 r94 r95) := by
      intro y28 hy28
      refine ezw_istore rfl rfl ?_
      refine ezw_aload_n rfl rfl ?_
      refine ezm_gp (p := 78) rfl (fun _ => rfl) ?_
      refine ezw_bipush (15) rfl rfl ?_
      refine ezw_iload_n rfl rfl ?_
      refine ezw_iadd (k := a1 + 15) rfl (by omega) ?_
      refine ezm_l78 rfl (by omega) (by omega) (fun u30 eu30 => ?_)
      have ku30 : ezm_k78 (a1 + 15) u30 := eu30 ▸ hT.t78 (a1 + 15)
      have zu30 := ezm_za15 ku30 (by omega)
      have J138_32 : ∀ y31 : Int, ezw_in y31 → ∀ x87_32 : Int → Int, ezm_T i0 i2 i3 i7 i8 i13 i18 i19 i20 i25 i29 i30 i31 i36 i37 i38 r73 r74 r75 r76 r77 r78 r79 r80 r81 r82 r83 r84 r85 r86_27 x87_32 r88 r89 r90 r91 r92 r93 r94 r95 → ezw_E l ρ B xa Hb D cA d ezq_re269 (ezm_m269Q  e F A i0 i2 i3 i7 i8 i13 i18 i19 i20 i25 i29 i30 i31 i36 i37 i38 r73 r74 r75 r76 r77 r78 r79 r80 r81 r82 r83 r84 r85 r86 r87 r88 r89 r90 r91 r92 r93 r94 r95 a1 a2 a3 a4 a5) 138 [some (ezw_p 72), some (ezw_i a1), some (ezw_i a2), some (ezw_i a3), some (ezw_i a4), some (ezw_i a5), some (ezw_i u5), some (ezw_i y28)] [ezw_i y31] (ezm_h e F A i0 i2 i3 i7 i8 i13 i18 i19 i20 i25 i29 i30 i31 i36 i37 i38 r73 r74 r75 r76 r77 r78 r79 r80 r81 r82 r83 r84 r85 r86_27 x87_32 r88 r89 r90 r91 r92 r93 r94 r95) := by
        intro y31 hy31 x87_32 hT
        refine ezw_istore rfl rfl ?_
        refine ezw_iload rfl rfl ?_
        refine ezw_if_ge rfl rfl hy31 (fun h142_32 => ?_) (fun h142_32 => ?_)
        · refine ezw_iload rfl rfl ?_
          refine ezw_bipush (10) rfl rfl ?_
          refine ezw_icmp_le rfl rfl hy31 ⟨by decide, by decide⟩ (fun h153_32 => ?_) (fun h153_32 => ?_)
          · refine ezw_iload rfl rfl ?_
            exact ezw_ireturn rfl rfl ⟨r86_27, x87_32, rfl, hT, y31, hy31, by omega, rfl⟩
          · refine ezw_bipush (10) rfl rfl ?_
            refine ezw_goto rfl rfl ?_
            exact ezw_ireturn rfl rfl ⟨r86_27, x87_32, rfl, hT, (10), ⟨by decide, by decide⟩, by omega, rfl⟩
        · refine ezw_iconst (0) rfl rfl ?_
          refine ezw_goto rfl rfl ?_
          exact ezw_ireturn rfl rfl ⟨r86_27, x87_32, rfl, hT, (0), ⟨by decide, by decide⟩, by omega, rfl⟩
      refine ezw_if_ge rfl rfl (ezm_in78 ku30) (fun h117_30 => ?_) (fun h117_30 => ?_)
      · refine ezw_aload_n rfl rfl ?_
        refine ezw_aload_n rfl rfl ?_
        refine ezm_gp (p := 78) rfl (fun _ => rfl) ?_
        refine ezw_bipush (15) rfl rfl ?_
        refine ezw_iload_n rfl rfl ?_
        refine ezw_iadd (k := a1 + 15) rfl (by omega) ?_
        refine ezm_l78 rfl (by omega) (by omega) (fun u33 eu33 => ?_)
        have fu33 : u30 = u33 := eu30.trans eu33.symm
        subst fu33
        have hco := ezm_TR_co tr eu30 (by omega) (by omega) (by omega)
        refine ezw_call0_1 rfl (by omega) (ezm_at rfl) rfl rfl rfl rfl (ezm_m270 hT (by omega) (ezm_in78 ku30) (by omega) hco) ?_
        rintro _ _ ⟨x87_34, rfl, hT, u35, hu35, rfl⟩
        exact ezw_keepE [true, true, true, true, true, true, true, true] (J138_32 u35 hu35 x87_34 hT)
      · refine ezw_iload rfl rfl ?_
        refine ezw_goto rfl rfl ?_
        exact ezw_keepE [true, true, true, true, true, true, true, true] (J138_32 y28 hy28 r87 hT)
    refine ezw_if_ne rfl rfl ha1 (fun h61_27 => ?_) (fun h61_27 => ?_)
    · refine ezw_iload_n rfl rfl ?_
      refine ezw_iconst (2) rfl rfl ?_
      refine ezw_iload rfl rfl ?_
      refine ezs_imul rfl (fun u36 hu36 => ?_)
      refine ezs_iadd rfl (fun u37 hu37 => ?_)
      exact ezw_keepE [true, true, true, true, true, true, true, false] (J106_29 u37 hu37)
    · refine ezw_aload_n rfl rfl ?_
      refine ezm_gp (p := 86) rfl (fun _ => rfl) ?_
      refine ezw_iconst (2) rfl rfl ?_
      refine ezm_l86 rfl (by omega) (by omega) (fun u38 eu38 => ?_)
      have ku38 : ezw_in u38 := eu38 ▸ hT.t86 (2)
      refine ezw_if_ne rfl rfl ku38 (fun h70_38 => ?_) (fun h70_38 => ?_)
      · refine ezw_aload_n rfl rfl ?_
        refine ezm_gp (p := 86) rfl (fun _ => rfl) ?_
        refine ezw_iconst (2) rfl rfl ?_
        refine ezm_l86 rfl (by omega) (by omega) (fun u39 eu39 => ?_)
        have fu39 : u38 = u39 := eu38.trans eu39.symm
        subst fu39
        refine ezw_iconst (1) rfl rfl ?_
        refine ezw_icmp_ne rfl rfl ku38 ⟨by decide, by decide⟩ (fun h87_39 => ?_) (fun h87_39 => ?_)
        · refine ezw_iconst (0) rfl rfl ?_
          refine ezw_goto rfl rfl ?_
          exact ezw_keepE [true, true, true, true, true, true, true, false] (J106_29 (0) ⟨by decide, by decide⟩)
        · refine ezw_iconst (3) rfl rfl ?_
          refine ezw_iload_n rfl rfl ?_
          refine ezs_isub rfl (fun u40 hu40 => ?_)
          refine ezw_goto rfl rfl ?_
          exact ezw_keepE [true, true, true, true, true, true, true, false] (J106_29 u40 hu40)
      · refine ezw_bipush (10) rfl rfl ?_
        refine ezw_iload_n rfl rfl ?_
        refine ezs_isub rfl (fun u41 hu41 => ?_)
        refine ezw_goto rfl rfl ?_
        exact ezw_keepE [true, true, true, true, true, true, true, false] (J106_29 u41 hu41)
def ezm_m267_v0Q (e : Bool × Bool) (F : Nat → Nat → Int) (A : Nat → Int → Int) (i0 i2 i3 i7 i8 i13 i18 i19 i20 i25 i29 i30 i31 i36 i37 i38 : Int) (r73 r74 r75 r76 r77 r78 r79 r80 r81 r82 r83 r84 r85 r86 r87 r88 r89 r90 r91 r92 r93 r94 r95 : Int → Int) (a2 : Int) (a3 : Int) (a4 : Int) : Option ezq_V → (Nat → ezq_C) → Prop := fun v g' => ∃  (x86 x87 : Int → Int), ezm_h e F A i0 i2 i3 i7 i8 i13 i18 i19 i20 i25 i29 i30 i31 i36 i37 i38 r73 r74 r75 r76 r77 r78 r79 r80 r81 r82 r83 r84 r85 x86 x87 r88 r89 r90 r91 r92 r93 r94 r95 = g' ∧ ezm_T i0 i2 i3 i7 i8 i13 i18 i19 i20 i25 i29 i30 i31 i36 i37 i38 r73 r74 r75 r76 r77 r78 r79 r80 r81 r82 r83 r84 r85 x86 x87 r88 r89 r90 r91 r92 r93 r94 r95 ∧ ∃ u : Int, (ezw_in u) ∧ (0 ≤ u ∧ u ≤ 10) ∧ some (ezw_i u) = v
theorem ezm_m267_v0 {a2 a3 a4 : Int} (hT : ezm_T i0 i2 i3 i7 i8 i13 i18 i19 i20 i25 i29 i30 i31 i36 i37 i38 r73 r74 r75 r76 r77 r78 r79 r80 r81 r82 r83 r84 r85 r86 r87 r88 r89 r90 r91 r92 r93 r94 r95) (hd : 3 ≤ d) (ha2 : ezw_in a2) (ha3 : ezw_in a3) (ha4 : ezw_in a4) (ga : 0 ≤ a2 ∧ a2 ≤ 1) (tr : ezm_TR r78 r79 r80) : ezw_C l ρ B xa Hb D cA 267 d [ezw_p 72, ezw_i (0), ezw_i a2, ezw_i a3, ezw_i a4] (ezm_h e F A i0 i2 i3 i7 i8 i13 i18 i19 i20 i25 i29 i30 i31 i36 i37 i38 r73 r74 r75 r76 r77 r78 r79 r80 r81 r82 r83 r84 r85 r86 r87 r88 r89 r90 r91 r92 r93 r94 r95) (ezm_m267_v0Q  e F A i0 i2 i3 i7 i8 i13 i18 i19 i20 i25 i29 i30 i31 i36 i37 i38 r73 r74 r75 r76 r77 r78 r79 r80 r81 r82 r83 r84 r85 r86 r87 r88 r89 r90 r91 r92 r93 r94 r95 a2 a3 a4) := by
  refine ezw_met (k := 0) rfl rfl ?_
  refine ezw_aload_n rfl rfl ?_
  refine ezw_iload_n rfl rfl ?_
  refine ezw_aload_n rfl rfl ?_
  refine ezw_iload_n rfl rfl ?_
  refine ezw_call0_1 rfl (by omega) (ezm_at rfl) rfl rfl rfl rfl (ezm_m268_v0 hT (by omega)) ?_
  rintro _ _ ⟨rfl, u2, hu2, p1_0, la_1, rfl⟩
  refine ezw_aload_n rfl rfl ?_
  refine ezm_gp (p := 88) rfl (fun _ => rfl) ?_
  refine ezw_iload_n rfl rfl ?_
  refine ezw_bipush (7) rfl rfl ?_
  refine ezw_iadd (k := (7)) rfl (by omega) ?_
  refine ezw_aload_n rfl rfl ?_
  refine ezw_iload_n rfl rfl ?_
  refine ezw_call0_1 rfl (by omega) (ezm_at rfl) rfl rfl rfl rfl (ezm_m268_v0 hT (by omega)) ?_
  rintro _ _ ⟨rfl, u4, hu4, p3_0, la_3, rfl⟩
  refine ezw_iadd (k := u4 + 7) rfl (by omega) ?_
  refine ezm_l88 rfl (by omega) (by omega) (fun u5 eu5 => ?_)
  have ku5 : ezm_k88 (u4 + 7) u5 := eu5 ▸ hT.t88 (u4 + 7)
  have zu5 := ezm_zs7 ku5 (by omega)
  refine ezw_iload_n rfl rfl ?_
  refine ezw_iload rfl rfl ?_
  refine ezw_call0_5 rfl (by omega) (ezm_at rfl) rfl rfl rfl rfl (ezm_m269 hT (by omega) ha2 hu2 (ezm_in88 ku5) ha3 ha4 (by omega) (by omega) tr) ?_
  rintro _ _ ⟨x86_6, x87_6, rfl, hT, u7, hu7, p6_0, rfl⟩
  exact ezw_ireturn rfl rfl ⟨x86_6, x87_6, rfl, hT, u7, hu7, by omega, rfl⟩
def ezm_m264Q (e : Bool × Bool) (F : Nat → Nat → Int) (A : Nat → Int → Int) (i0 i2 i3 i7 i8 i13 i18 i19 i20 i25 i29 i30 i31 i36 i37 i38 : Int) (r73 r74 r75 r76 r77 r78 r79 r80 r81 r82 r83 r84 r85 r86 r87 r88 r89 r90 r91 r92 r93 r94 r95 : Int → Int) (a1 : Int) (a2 : Int) (a3 : Int) : Option ezq_V → (Nat → ezq_C) → Prop := fun v g' => ∃ (x0 : Int) (x86 x87 : Int → Int), ezm_h e F A x0 i2 i3 i7 i8 i13 i18 i19 i20 i25 i29 i30 i31 i36 i37 i38 r73 r74 r75 r76 r77 r78 r79 r80 r81 r82 r83 r84 r85 x86 x87 r88 r89 r90 r91 r92 r93 r94 r95 = g' ∧ ezm_T x0 i2 i3 i7 i8 i13 i18 i19 i20 i25 i29 i30 i31 i36 i37 i38 r73 r74 r75 r76 r77 r78 r79 r80 r81 r82 r83 r84 r85 x86 x87 r88 r89 r90 r91 r92 r93 r94 r95 ∧ ∃ u : Int, (ezw_in u) ∧ some (ezw_i u) = v
theorem ezm_m264 {a1 a2 a3 : Int} (hT : ezm_T i0 i2 i3 i7 i8 i13 i18 i19 i20 i25 i29 i30 i31 i36 i37 i38 r73 r74 r75 r76 r77 r78 r79 r80 r81 r82 r83 r84 r85 r86 r87 r88 r89 r90 r91 r92 r93 r94 r95) (hd : 4 ≤ d) (ha1 : ezw_in a1) (ha2 : ezw_in a2) (ha3 : ezw_in a3) (tr : ezm_TR r78 r79 r80) : ezw_C l ρ B xa Hb D cA 264 d [ezw_p 72, ezw_i a1, ezw_i a2, ezw_i a3] (ezm_h e F A i0 i2 i3 i7 i8 i13 i18 i19 i20 i25 i29 i30 i31 i36 i37 i38 r73 r74 r75 r76 r77 r78 r79 r80 r81 r82 r83 r84 r85 r86 r87 r88 r89 r90 r91 r92 r93 r94 r95) (ezm_m264Q  e F A i0 i2 i3 i7 i8 i13 i18 i19 i20 i25 i29 i30 i31 i36 i37 i38 r73 r74 r75 r76 r77 r78 r79 r80 r81 r82 r83 r84 r85 r86 r87 r88 r89 r90 r91 r92 r93 r94 r95 a1 a2 a3) := by
  refine ezw_met (k := 0) rfl rfl ?_
  refine ezw_aload_n rfl rfl ?_
  refine ezw_iconst (0) rfl rfl ?_
  refine ezm_p0 hT rfl ⟨by decide, by decide⟩ (fun hT => ?_)
  refine ezw_iload_n rfl rfl ?_
  refine ezw_call2_1 rfl (by omega) rfl rfl (ezm_m265 hT (by omega) ha1) ?_
  rintro _ _ ⟨rfl, u2, hu2, rfl⟩
  refine ezw_if_eq rfl rfl ⟨by omega, by omega⟩ (fun h9_2 => ?_) (fun h9_2 => ?_)
  · refine ezw_iconst (-1) rfl rfl ?_
    exact ezw_ireturn rfl rfl ⟨(0), r86, r87, rfl, hT, (-1), ⟨by decide, by decide⟩, rfl⟩
  · refine ezw_iload_n rfl rfl ?_
    refine ezw_iconst (0) rfl rfl ?_
    refine ezw_iconst (1) rfl rfl ?_
    refine ezw_call2_3 rfl (by omega) rfl rfl (ezm_m236 hT (by omega) ha3 ⟨by decide, by decide⟩ ⟨by decide, by decide⟩) ?_
    rintro _ _ ⟨rfl, u4, hu4, p3_0, p3_1, rfl⟩
    refine ezw_if_eq rfl rfl ⟨by omega, by omega⟩ (fun h18_4 => ?_) (fun h18_4 => ?_)
    · refine ezw_iconst (-1) rfl rfl ?_
      exact ezw_ireturn rfl rfl ⟨(0), r86, r87, rfl, hT, (-1), ⟨by decide, by decide⟩, rfl⟩
    · refine ezw_aload_n rfl rfl ?_
      refine ezw_iconst (0) rfl rfl ?_
      refine ezw_call0_1 rfl (by omega) (ezm_at rfl) rfl rfl rfl rfl (ezm_m266_v0 hT (by omega)) ?_
      rintro _ _ ⟨rfl, u6, hu6, p5_0, p5_1, rfl⟩
      refine ezw_if_eq rfl rfl ⟨by omega, by omega⟩ (fun h26_6 => ?_) (fun h26_6 => ?_)
      · refine ezw_iconst (-1) rfl rfl ?_
        exact ezw_ireturn rfl rfl ⟨(0), r86, r87, rfl, hT, (-1), ⟨by decide, by decide⟩, rfl⟩
      · refine ezw_aload_n rfl rfl ?_
        refine ezw_iconst (0) rfl rfl ?_
        refine ezw_iload_n rfl rfl ?_
        refine ezw_iload_n rfl rfl ?_
        refine ezw_iload_n rfl rfl ?_
        refine ezw_if_eq rfl rfl ha2 (fun h34_6 => ?_) (fun h34_6 => ?_)
        · refine ezw_iconst (0) rfl rfl ?_
          refine ezw_call0_4 rfl (by omega) (ezm_at rfl) rfl rfl rfl rfl (ezm_m267_v0 hT (by omega) ha3 ha1 ⟨by decide, by decide⟩ (by omega) tr) ?_
          rintro _ _ ⟨x86_7, x87_7, rfl, hT, u8, hu8, p7_0, rfl⟩
          refine ezw_goto rfl rfl ?_
          exact ezw_ireturn rfl rfl ⟨(0), x86_7, x87_7, rfl, hT, u8, hu8, rfl⟩
        · refine ezw_iconst (1) rfl rfl ?_
          refine ezw_goto rfl rfl ?_
          refine ezw_call0_4 rfl (by omega) (ezm_at rfl) rfl rfl rfl rfl (ezm_m267_v0 hT (by omega) ha3 ha1 ⟨by decide, by decide⟩ (by omega) tr) ?_
          rintro _ _ ⟨x86_9, x87_9, rfl, hT, u10, hu10, p9_0, rfl⟩
          refine ezw_goto rfl rfl ?_
          exact ezw_ireturn rfl rfl ⟨(0), x86_9, x87_9, rfl, hT, u10, hu10, rfl⟩
end KM6
