/-! ===== the model: what is asked of a tree ===== -/
section KM6
variable {l : Launch} {ρ : ezq_E} {B : Nat} {xa : Nat → Option Nat} {Hb : Heap} {D : va_G} {cA : Nat → ClassId} {d : Nat} {e : Bool × Bool} {F : Nat → Nat → Int} {A : Nat → Int → Int} {i0 i2 i3 i7 i8 i13 i18 i19 i20 i25 i29 i30 i31 i36 i37 i38 : Int} {r73 r74 r75 r76 r77 r78 r79 r80 r81 r82 r83 r84 r85 r86 r87 r88 r89 r90 r91 r92 r93 r94 r95 : Int → Int}
def ezm_m257aQ (e : Bool × Bool) (F : Nat → Nat → Int) (A : Nat → Int → Int) (i0 i2 i3 i7 i8 i13 i18 i19 i20 i25 i29 i30 i31 i36 i37 i38 : Int) (r73 r74 r75 r76 r77 r78 r79 r80 r81 r82 r83 r84 r85 r86 r87 r88 r89 r90 r91 r92 r93 r94 r95 : Int → Int) (a1 : Int) : Option ezq_V → (Nat → ezq_C) → Prop := fun v g' => ezm_h e F A i0 i2 i3 i7 i8 i13 i18 i19 i20 i25 i29 i30 i31 i36 i37 i38 r73 r74 r75 r76 r77 r78 r79 r80 r81 r82 r83 r84 r85 r86 r87 r88 r89 r90 r91 r92 r93 r94 r95 = g' ∧ ∃ u : Int, (0 ≤ u ∧ u ≤ 1) ∧ (u = 1 → 0 ≤ a1 ∧ a1 < r78 0 ∧ a1 ≤ 7) ∧ (u = 0 → a1 < 0 ∨ r78 0 ≤ a1) ∧ some (ezw_i u) = v
theorem ezm_m257a {a1 : Int} (hT : ezm_T i0 i2 i3 i7 i8 i13 i18 i19 i20 i25 i29 i30 i31 i36 i37 i38 r73 r74 r75 r76 r77 r78 r79 r80 r81 r82 r83 r84 r85 r86 r87 r88 r89 r90 r91 r92 r93 r94 r95) (hd : 1 ≤ d) (ha1 : ezw_in a1) : ezw_C l ρ B xa Hb D cA 257 d [ezw_p 72, ezw_i a1] (ezm_h e F A i0 i2 i3 i7 i8 i13 i18 i19 i20 i25 i29 i30 i31 i36 i37 i38 r73 r74 r75 r76 r77 r78 r79 r80 r81 r82 r83 r84 r85 r86 r87 r88 r89 r90 r91 r92 r93 r94 r95) (ezm_m257aQ  e F A i0 i2 i3 i7 i8 i13 i18 i19 i20 i25 i29 i30 i31 i36 i37 i38 r73 r74 r75 r76 r77 r78 r79 r80 r81 r82 r83 r84 r85 r86 r87 r88 r89 r90 r91 r92 r93 r94 r95 a1) := by
  refine ezw_met (k := 0) rfl rfl ?_
  refine ezw_iload_n rfl rfl ?_
  refine ezw_if_lt rfl rfl ha1 (fun h1_0 => ?_) (fun h1_0 => ?_)
  · refine ezw_iconst (0) rfl rfl ?_
    exact ezw_ireturn rfl (ezw_zret ⟨by omega, by omega⟩) ⟨rfl, (0), ⟨by omega, by omega⟩, by omega, by omega, rfl⟩
  · refine ezw_iload_n rfl rfl ?_
    refine ezw_aload_n rfl rfl ?_
    refine ezw_call0_0 rfl (by omega) (ezm_at rfl) rfl rfl rfl rfl (ezm_m258 hT (by omega)) ?_
    rintro _ _ ⟨rfl, u2, hu2, p1_0, p1_1, rfl⟩
    refine ezw_icmp_ge rfl rfl ha1 hu2 (fun h9_2 => ?_) (fun h9_2 => ?_)
    · refine ezw_iconst (0) rfl rfl ?_
      exact ezw_ireturn rfl (ezw_zret ⟨by omega, by omega⟩) ⟨rfl, (0), ⟨by omega, by omega⟩, by omega, by omega, rfl⟩
    · refine ezw_iconst (1) rfl rfl ?_
      refine ezw_goto rfl rfl ?_
      exact ezw_ireturn rfl (ezw_zret ⟨by omega, by omega⟩) ⟨rfl, (1), ⟨by omega, by omega⟩, by omega, by omega, rfl⟩
def ezm_m259_v1aQ (e : Bool × Bool) (F : Nat → Nat → Int) (A : Nat → Int → Int) (i0 i2 i3 i7 i8 i13 i18 i19 i20 i25 i29 i30 i31 i36 i37 i38 : Int) (r73 r74 r75 r76 r77 r78 r79 r80 r81 r82 r83 r84 r85 r86 r87 r88 r89 r90 r91 r92 r93 r94 r95 : Int → Int) (a1 : Int) : Option ezq_V → (Nat → ezq_C) → Prop := fun v g' => ezm_h e F A i0 i2 i3 i7 i8 i13 i18 i19 i20 i25 i29 i30 i31 i36 i37 i38 r73 r74 r75 r76 r77 r78 r79 r80 r81 r82 r83 r84 r85 r86 r87 r88 r89 r90 r91 r92 r93 r94 r95 = g' ∧ ∃ u : Int, (ezw_in u) ∧ (u = r78 (4 * a1 + 18)) ∧ some (ezw_i u) = v
theorem ezm_m259_v1a {a1 : Int} (hT : ezm_T i0 i2 i3 i7 i8 i13 i18 i19 i20 i25 i29 i30 i31 i36 i37 i38 r73 r74 r75 r76 r77 r78 r79 r80 r81 r82 r83 r84 r85 r86 r87 r88 r89 r90 r91 r92 r93 r94 r95) (hd : 0 ≤ d) (ha1 : ezw_in a1) (ga : 0 ≤ a1 ∧ a1 ≤ 7) : ezw_C l ρ B xa Hb D cA 259 d [ezw_p 72, ezw_i a1, ezw_i (1)] (ezm_h e F A i0 i2 i3 i7 i8 i13 i18 i19 i20 i25 i29 i30 i31 i36 i37 i38 r73 r74 r75 r76 r77 r78 r79 r80 r81 r82 r83 r84 r85 r86 r87 r88 r89 r90 r91 r92 r93 r94 r95) (ezm_m259_v1aQ  e F A i0 i2 i3 i7 i8 i13 i18 i19 i20 i25 i29 i30 i31 i36 i37 i38 r73 r74 r75 r76 r77 r78 r79 r80 r81 r82 r83 r84 r85 r86 r87 r88 r89 r90 r91 r92 r93 r94 r95 a1) := by
  refine ezw_met (k := 0) rfl rfl ?_
  refine ezw_aload_n rfl rfl ?_
  refine ezm_gp (p := 78) rfl (fun _ => rfl) ?_
  refine ezw_bipush (17) rfl rfl ?_
  refine ezw_iconst (4) rfl rfl ?_
  refine ezw_iload_n rfl rfl ?_
  refine ezw_imul (k := 4 * a1) rfl (by omega) ?_
  refine ezw_iadd (k := 4 * a1 + 17) rfl (by omega) ?_
  refine ezw_iload_n rfl rfl ?_
  refine ezw_iadd (k := 4 * a1 + 18) rfl (by omega) ?_
  refine ezm_l78 rfl (by omega) (by omega) (fun u1 eu1 => ?_)
  have ku1 : ezm_k78 (4 * a1 + 18) u1 := eu1 ▸ hT.t78 (4 * a1 + 18)
  exact ezw_ireturn rfl rfl ⟨rfl, u1, (ezm_in78 ku1), eu1, rfl⟩
def ezm_m317aQ (e : Bool × Bool) (F : Nat → Nat → Int) (A : Nat → Int → Int) (i0 i2 i3 i7 i8 i13 i18 i19 i20 i25 i29 i30 i31 i36 i37 i38 : Int) (r73 r74 r75 r76 r77 r78 r79 r80 r81 r82 r83 r84 r85 r86 r87 r88 r89 r90 r91 r92 r93 r94 r95 : Int → Int) (z : ezp_D) (a1 : Int) : Option ezq_V → (Nat → ezq_C) → Prop := fun v g' => ∃ (x0 : Int), ezm_h e F A x0 i2 i3 i7 i8 i13 i18 i19 i20 i25 i29 i30 i31 i36 i37 i38 r73 r74 r75 r76 r77 r78 r79 r80 r81 r82 r83 r84 r85 r86 r87 r88 r89 r90 r91 r92 r93 r94 r95 = g' ∧ ezm_T x0 i2 i3 i7 i8 i13 i18 i19 i20 i25 i29 i30 i31 i36 i37 i38 r73 r74 r75 r76 r77 r78 r79 r80 r81 r82 r83 r84 r85 r86 r87 r88 r89 r90 r91 r92 r93 r94 r95 ∧ ∃ u : Int, (ezw_in u) ∧ (u = ezp_far z a1) ∧ some (ezw_i u) = v
theorem ezm_m317a {z : ezp_D} {a1 : Int} (hT : ezm_T i0 i2 i3 i7 i8 i13 i18 i19 i20 i25 i29 i30 i31 i36 i37 i38 r73 r74 r75 r76 r77 r78 r79 r80 r81 r82 r83 r84 r85 r86 r87 r88 r89 r90 r91 r92 r93 r94 r95) (hd : 2 ≤ d) (ha1 : ezw_in a1) (tf : ezm_TRF z i18 r78 r81 r83) (hB : ezp_B z) : ezw_C l ρ B xa Hb D cA 317 d [ezw_p 72, ezw_i a1] (ezm_h e F A i0 i2 i3 i7 i8 i13 i18 i19 i20 i25 i29 i30 i31 i36 i37 i38 r73 r74 r75 r76 r77 r78 r79 r80 r81 r82 r83 r84 r85 r86 r87 r88 r89 r90 r91 r92 r93 r94 r95) (ezm_m317aQ  e F A i0 i2 i3 i7 i8 i13 i18 i19 i20 i25 i29 i30 i31 i36 i37 i38 r73 r74 r75 r76 r77 r78 r79 r80 r81 r82 r83 r84 r85 r86 r87 r88 r89 r90 r91 r92 r93 r94 r95 z a1) := by
  refine ezw_met (k := 1) rfl rfl ?_
  obtain ⟨⟨k0, k1, k2, k3⟩, ktw, kth, kov, ksg, kel, knu, knm⟩ := ezm_TRFi tf
  obtain ⟨b1, b2, b3, b4, b5, b6, b7, ⟨b8, b8'⟩, b9⟩ := id hB
  have n9 : r78 13 = z.nu 9 := knu 9 (by decide) (by decide)
  have nb9 : 1 ≤ z.nu 9 ∧ z.nu 9 ≤ 99 := b8 9 (by decide) (by decide)
  refine ezw_aload_n rfl rfl ?_
  refine ezw_iconst (0) rfl rfl ?_
  refine ezm_p0 hT rfl ⟨by decide, by decide⟩ (fun hT => ?_)
  refine ezw_aload_n rfl rfl ?_
  refine ezw_iload_n rfl rfl ?_
  refine ezw_call0_1 rfl (by omega) (ezm_at rfl) rfl rfl rfl rfl (ezm_m257a hT (by omega) ha1) ?_
  rintro _ _ ⟨rfl, u2, hu2, p1_0, p1_1, rfl⟩
  refine ezw_if_ne rfl rfl ⟨by omega, by omega⟩ (fun h10_2 => ?_) (fun h10_2 => ?_)
  · refine ezw_aload_n rfl rfl ?_
    refine ezw_iload_n rfl rfl ?_
    refine ezw_iconst (1) rfl rfl ?_
    refine ezw_call0_2 rfl (by omega) (ezm_at rfl) rfl rfl rfl rfl (ezm_m259_v1a hT (by omega) ha1 (by omega)) ?_
    rintro _ _ ⟨rfl, u4, hu4, tw_3, rfl⟩
    refine ezw_aload_n rfl rfl ?_
    refine ezm_gp (p := 78) rfl (fun _ => rfl) ?_
    refine ezw_bipush (13) rfl rfl ?_
    refine ezm_l78 rfl (by omega) (by omega) (fun u5 eu5 => ?_)
    have ku5 : ezm_k78 (13) u5 := eu5 ▸ hT.t78 (13)
    have f1 := (ktw a1 (by omega) (by omega)).2.1
    have f2 := (b1 a1 (by omega) (by omega)).2.1
    have f3 := tw_3
    refine ezw_isub (k := u4 - u5) rfl (by omega) ?_
    refine ezw_istore_n rfl rfl ?_
    refine ezw_iload_n rfl rfl ?_
    refine ezw_if_ge rfl rfl ⟨by omega, by omega⟩ (fun h31_5 => ?_) (fun h31_5 => ?_)
    · refine ezw_iload_n rfl rfl ?_
      refine ezw_bipush (20) rfl rfl ?_
      refine ezw_icmp_le rfl rfl ⟨by omega, by omega⟩ ⟨by decide, by decide⟩ (fun h41_5 => ?_) (fun h41_5 => ?_)
      · refine ezw_iload_n rfl rfl ?_
        exact ezw_ireturn rfl rfl ⟨(0), rfl, hT, u4 - u5, ⟨by omega, by omega⟩, by
              unfold ezp_far
              (repeat' split) <;> omega, rfl⟩
      · refine ezw_bipush (20) rfl rfl ?_
        refine ezw_goto rfl rfl ?_
        exact ezw_ireturn rfl rfl ⟨(0), rfl, hT, (20), ⟨by decide, by decide⟩, by
              unfold ezp_far
              (repeat' split) <;> omega, rfl⟩
    · refine ezw_iconst (-1) rfl rfl ?_
      refine ezw_goto rfl rfl ?_
      exact ezw_ireturn rfl rfl ⟨(0), rfl, hT, (-1), ⟨by decide, by decide⟩, by
            unfold ezp_far
            (repeat' split) <;> omega, rfl⟩
  · refine ezw_iconst (-1) rfl rfl ?_
    exact ezw_ireturn rfl rfl ⟨(0), rfl, hT, (-1), ⟨by decide, by decide⟩, by
          unfold ezp_far
          (repeat' split) <;> omega, rfl⟩
def ezm_m259_v0aQ (e : Bool × Bool) (F : Nat → Nat → Int) (A : Nat → Int → Int) (i0 i2 i3 i7 i8 i13 i18 i19 i20 i25 i29 i30 i31 i36 i37 i38 : Int) (r73 r74 r75 r76 r77 r78 r79 r80 r81 r82 r83 r84 r85 r86 r87 r88 r89 r90 r91 r92 r93 r94 r95 : Int → Int) (a1 : Int) : Option ezq_V → (Nat → ezq_C) → Prop := fun v g' => ezm_h e F A i0 i2 i3 i7 i8 i13 i18 i19 i20 i25 i29 i30 i31 i36 i37 i38 r73 r74 r75 r76 r77 r78 r79 r80 r81 r82 r83 r84 r85 r86 r87 r88 r89 r90 r91 r92 r93 r94 r95 = g' ∧ ∃ u : Int, (ezw_in u) ∧ (u = r78 (4 * a1 + 17)) ∧ some (ezw_i u) = v
theorem ezm_m259_v0a {a1 : Int} (hT : ezm_T i0 i2 i3 i7 i8 i13 i18 i19 i20 i25 i29 i30 i31 i36 i37 i38 r73 r74 r75 r76 r77 r78 r79 r80 r81 r82 r83 r84 r85 r86 r87 r88 r89 r90 r91 r92 r93 r94 r95) (hd : 0 ≤ d) (ha1 : ezw_in a1) (ga : 0 ≤ a1 ∧ a1 ≤ 7) : ezw_C l ρ B xa Hb D cA 259 d [ezw_p 72, ezw_i a1, ezw_i (0)] (ezm_h e F A i0 i2 i3 i7 i8 i13 i18 i19 i20 i25 i29 i30 i31 i36 i37 i38 r73 r74 r75 r76 r77 r78 r79 r80 r81 r82 r83 r84 r85 r86 r87 r88 r89 r90 r91 r92 r93 r94 r95) (ezm_m259_v0aQ  e F A i0 i2 i3 i7 i8 i13 i18 i19 i20 i25 i29 i30 i31 i36 i37 i38 r73 r74 r75 r76 r77 r78 r79 r80 r81 r82 r83 r84 r85 r86 r87 r88 r89 r90 r91 r92 r93 r94 r95 a1) := by
  refine ezw_met (k := 0) rfl rfl ?_
  refine ezw_aload_n rfl rfl ?_
  refine ezm_gp (p := 78) rfl (fun _ => rfl) ?_
  refine ezw_bipush (17) rfl rfl ?_
  refine ezw_iconst (4) rfl rfl ?_
  refine ezw_iload_n rfl rfl ?_
  refine ezw_imul (k := 4 * a1) rfl (by omega) ?_
  refine ezw_iadd (k := 4 * a1 + 17) rfl (by omega) ?_
  refine ezw_iload_n rfl rfl ?_
  refine ezw_iadd (k := 4 * a1 + 17) rfl (by omega) ?_
  refine ezm_l78 rfl (by omega) (by omega) (fun u1 eu1 => ?_)
  have ku1 : ezm_k78 (4 * a1 + 17) u1 := eu1 ▸ hT.t78 (4 * a1 + 17)
  exact ezw_ireturn rfl rfl ⟨rfl, u1, (ezm_in78 ku1), eu1, rfl⟩
def ezm_m259_v3aQ (e : Bool × Bool) (F : Nat → Nat → Int) (A : Nat → Int → Int) (i0 i2 i3 i7 i8 i13 i18 i19 i20 i25 i29 i30 i31 i36 i37 i38 : Int) (r73 r74 r75 r76 r77 r78 r79 r80 r81 r82 r83 r84 r85 r86 r87 r88 r89 r90 r91 r92 r93 r94 r95 : Int → Int) (a1 : Int) : Option ezq_V → (Nat → ezq_C) → Prop := fun v g' => ezm_h e F A i0 i2 i3 i7 i8 i13 i18 i19 i20 i25 i29 i30 i31 i36 i37 i38 r73 r74 r75 r76 r77 r78 r79 r80 r81 r82 r83 r84 r85 r86 r87 r88 r89 r90 r91 r92 r93 r94 r95 = g' ∧ ∃ u : Int, (ezw_in u) ∧ (u = r78 (4 * a1 + 20)) ∧ some (ezw_i u) = v
theorem ezm_m259_v3a {a1 : Int} (hT : ezm_T i0 i2 i3 i7 i8 i13 i18 i19 i20 i25 i29 i30 i31 i36 i37 i38 r73 r74 r75 r76 r77 r78 r79 r80 r81 r82 r83 r84 r85 r86 r87 r88 r89 r90 r91 r92 r93 r94 r95) (hd : 0 ≤ d) (ha1 : ezw_in a1) (ga : 0 ≤ a1 ∧ a1 ≤ 7) : ezw_C l ρ B xa Hb D cA 259 d [ezw_p 72, ezw_i a1, ezw_i (3)] (ezm_h e F A i0 i2 i3 i7 i8 i13 i18 i19 i20 i25 i29 i30 i31 i36 i37 i38 r73 r74 r75 r76 r77 r78 r79 r80 r81 r82 r83 r84 r85 r86 r87 r88 r89 r90 r91 r92 r93 r94 r95) (ezm_m259_v3aQ  e F A i0 i2 i3 i7 i8 i13 i18 i19 i20 i25 i29 i30 i31 i36 i37 i38 r73 r74 r75 r76 r77 r78 r79 r80 r81 r82 r83 r84 r85 r86 r87 r88 r89 r90 r91 r92 r93 r94 r95 a1) := by
  refine ezw_met (k := 0) rfl rfl ?_
  refine ezw_aload_n rfl rfl ?_
  refine ezm_gp (p := 78) rfl (fun _ => rfl) ?_
  refine ezw_bipush (17) rfl rfl ?_
  refine ezw_iconst (4) rfl rfl ?_
  refine ezw_iload_n rfl rfl ?_
  refine ezw_imul (k := 4 * a1) rfl (by omega) ?_
  refine ezw_iadd (k := 4 * a1 + 17) rfl (by omega) ?_
  refine ezw_iload_n rfl rfl ?_
  refine ezw_iadd (k := 4 * a1 + 20) rfl (by omega) ?_
  refine ezm_l78 rfl (by omega) (by omega) (fun u1 eu1 => ?_)
  have ku1 : ezm_k78 (4 * a1 + 20) u1 := eu1 ▸ hT.t78 (4 * a1 + 20)
  exact ezw_ireturn rfl rfl ⟨rfl, u1, (ezm_in78 ku1), eu1, rfl⟩
def ezm_m287aQ (e : Bool × Bool) (F : Nat → Nat → Int) (A : Nat → Int → Int) (i0 i2 i3 i7 i8 i13 i18 i19 i20 i25 i29 i30 i31 i36 i37 i38 : Int) (r73 r74 r75 r76 r77 r78 r79 r80 r81 r82 r83 r84 r85 r86 r87 r88 r89 r90 r91 r92 r93 r94 r95 : Int → Int) (z : ezp_D) (a1 : Int) : Option ezq_V → (Nat → ezq_C) → Prop := fun v g' => ezm_h e F A i0 i2 i3 i7 i8 i13 i18 i19 i20 i25 i29 i30 i31 i36 i37 i38 r73 r74 r75 r76 r77 r78 r79 r80 r81 r82 r83 r84 r85 r86 r87 r88 r89 r90 r91 r92 r93 r94 r95 = g' ∧ ∃ u : Int, (0 ≤ u ∧ u ≤ 1) ∧ (u = 1 → ezp_be z 8 a1 = true) ∧ (u = 0 → ezp_be z 8 a1 = false) ∧ some (ezw_i u) = v
theorem ezm_m287a {z : ezp_D} {a1 : Int} (hT : ezm_T i0 i2 i3 i7 i8 i13 i18 i19 i20 i25 i29 i30 i31 i36 i37 i38 r73 r74 r75 r76 r77 r78 r79 r80 r81 r82 r83 r84 r85 r86 r87 r88 r89 r90 r91 r92 r93 r94 r95) (hd : 1 ≤ d) (ha1 : ezw_in a1) (ga : 0 ≤ a1 ∧ a1 < z.kT) (tf : ezm_TRF z i18 r78 r81 r83) (hB : ezp_B z) : ezw_C l ρ B xa Hb D cA 287 d [ezw_p 72, ezw_i a1] (ezm_h e F A i0 i2 i3 i7 i8 i13 i18 i19 i20 i25 i29 i30 i31 i36 i37 i38 r73 r74 r75 r76 r77 r78 r79 r80 r81 r82 r83 r84 r85 r86 r87 r88 r89 r90 r91 r92 r93 r94 r95) (ezm_m287aQ  e F A i0 i2 i3 i7 i8 i13 i18 i19 i20 i25 i29 i30 i31 i36 i37 i38 r73 r74 r75 r76 r77 r78 r79 r80 r81 r82 r83 r84 r85 r86 r87 r88 r89 r90 r91 r92 r93 r94 r95 z a1) := by
  refine ezw_met (k := 2) rfl rfl ?_
  obtain ⟨⟨k0, k1, k2, k3⟩, ktw, kth, kov, ksg, kel, knu, knm⟩ := ezm_TRFi tf
  obtain ⟨b1, b2, b3, b4, b5, b6, b7, ⟨b8, b8'⟩, b9⟩ := id hB
  have n9 : r78 13 = z.nu 9 := knu 9 (by decide) (by decide)
  have nb9 : 1 ≤ z.nu 9 ∧ z.nu 9 ≤ 99 := b8 9 (by decide) (by decide)
  refine ezw_iconst (1) rfl rfl ?_
  refine ezw_istore_n rfl rfl ?_
  refine ezw_iload_n rfl rfl ?_
  refine ezw_istore_n rfl rfl ?_
  have L4_2 : ∀ c1 : Int, ezw_in c1 → ∀ y3 : Int, ezw_in y3 → (c1 ≤ a1) → (-1 ≤ c1 ∧ c1 < z.kT) → (y3 = 0 ∨ y3 = 1) → (y3 = 1 → ezp_be z 8 a1 = ezp_be z 8 c1) → (y3 = 0 → ezp_be z 8 a1 = false) → ezw_E l ρ B xa Hb D cA d ezq_re287 (ezm_m287aQ  e F A i0 i2 i3 i7 i8 i13 i18 i19 i20 i25 i29 i30 i31 i36 i37 i38 r73 r74 r75 r76 r77 r78 r79 r80 r81 r82 r83 r84 r85 r86 r87 r88 r89 r90 r91 r92 r93 r94 r95 z a1) 4 [some (ezw_p 72), some (ezw_i a1), some (ezw_i y3), some (ezw_i c1)] [] (ezm_h e F A i0 i2 i3 i7 i8 i13 i18 i19 i20 i25 i29 i30 i31 i36 i37 i38 r73 r74 r75 r76 r77 r78 r79 r80 r81 r82 r83 r84 r85 r86 r87 r88 r89 r90 r91 r92 r93 r94 r95) := by
    refine ezs_dn ?_
    intro c1 hc1 ihc1 y3 hy3 g_2 v1_2 v2_2 be_2 bf_2
    refine ezw_iload_n rfl rfl ?_
    refine ezw_if_lt rfl rfl hc1 (fun h5_3 => ?_) (fun h5_3 => ?_)
    · refine ezw_iload_n rfl rfl ?_
      exact ezw_ireturn rfl (ezw_zret ⟨by omega, by omega⟩) ⟨rfl, y3, ⟨by omega, by omega⟩, (fun y => by rw [be_2 y, show c1 = -1 by omega]; exact ezp_be_n), bf_2, rfl⟩
    · refine ezw_iload_n rfl rfl ?_
      refine ezw_if_eq rfl rfl hy3 (fun h9_3 => ?_) (fun h9_3 => ?_)
      · refine ezw_iconst (0) rfl rfl ?_
        refine ezw_istore_n rfl rfl ?_
        refine ezw_aload_n rfl rfl ?_
        refine ezw_iload_n rfl rfl ?_
        refine ezw_iconst (3) rfl rfl ?_
        refine ezw_call0_2 rfl (by omega) (ezm_at rfl) rfl rfl rfl rfl (ezm_m259_v3a hT (by omega) hc1 (by omega)) ?_
        rintro _ _ ⟨rfl, u5, hu5, tw_4, rfl⟩
        have g1 := (ktw c1 (by omega) (by omega)).2.2.2
        have g2 := (b1 c1 (by omega) (by omega)).2.2.2
        have g3 := tw_4
        have g4 : u5 = z.on c1 := by omega
        refine ezw_istore_n rfl rfl ?_
        refine ezw_goto rfl rfl ?_
        exact ezw_keepE [true, true, true, true] (ihc1 u5 (by omega) hu5 (0) ⟨by decide, by decide⟩ (by omega) (by omega) (by omega) (fun y => by
              first
                | (exfalso; omega)
                | (rw [be_2 (by omega), ezp_be_T (by omega) (by omega), ← g4]
                   exact ezp_be_m hB 8 _ 7 8 (by omega) (by omega) (by omega) (by omega) (by omega))) (fun y => by
              first
                | (exfalso; omega)
                | exact bf_2 (by omega)
                | (rw [be_2 (by omega)]; exact ezp_be_F (by omega) (by omega))))
      · refine ezw_aload_n rfl rfl ?_
        refine ezw_iload_n rfl rfl ?_
        refine ezw_iconst (1) rfl rfl ?_
        refine ezw_call0_2 rfl (by omega) (ezm_at rfl) rfl rfl rfl rfl (ezm_m259_v1a hT (by omega) hc1 (by omega)) ?_
        rintro _ _ ⟨rfl, u7, hu7, tw_6, rfl⟩
        have f1 := (ktw c1 (by omega) (by omega)).2.1
        have f3 := tw_6
        refine ezw_aload_n rfl rfl ?_
        refine ezm_gp (p := 78) rfl (fun _ => rfl) ?_
        refine ezw_bipush (13) rfl rfl ?_
        refine ezm_l78 rfl (by omega) (by omega) (fun u8 eu8 => ?_)
        have ku8 : ezm_k78 (13) u8 := eu8 ▸ hT.t78 (13)
        refine ezw_icmp_lt rfl rfl hu7 (ezm_in78 ku8) (fun h25_8 => ?_) (fun h25_8 => ?_)
        · refine ezw_iconst (0) rfl rfl ?_
          refine ezw_istore_n rfl rfl ?_
          refine ezw_aload_n rfl rfl ?_
          refine ezw_iload_n rfl rfl ?_
          refine ezw_iconst (3) rfl rfl ?_
          refine ezw_call0_2 rfl (by omega) (ezm_at rfl) rfl rfl rfl rfl (ezm_m259_v3a hT (by omega) hc1 (by omega)) ?_
          rintro _ _ ⟨rfl, u10, hu10, tw_9, rfl⟩
          have g1 := (ktw c1 (by omega) (by omega)).2.2.2
          have g2 := (b1 c1 (by omega) (by omega)).2.2.2
          have g3 := tw_9
          have g4 : u10 = z.on c1 := by omega
          refine ezw_istore_n rfl rfl ?_
          refine ezw_goto rfl rfl ?_
          exact ezw_keepE [true, true, true, true] (ihc1 u10 (by omega) hu10 (0) ⟨by decide, by decide⟩ (by omega) (by omega) (by omega) (fun y => by
                first
                  | (exfalso; omega)
                  | (rw [be_2 (by omega), ezp_be_T (by omega) (by omega), ← g4]
                     exact ezp_be_m hB 8 _ 7 8 (by omega) (by omega) (by omega) (by omega) (by omega))) (fun y => by
                first
                  | (exfalso; omega)
                  | exact bf_2 (by omega)
                  | (rw [be_2 (by omega)]; exact ezp_be_F (by omega) (by omega))))
        · refine ezw_iconst (1) rfl rfl ?_
          refine ezw_goto rfl rfl ?_
          refine ezw_istore_n rfl rfl ?_
          refine ezw_aload_n rfl rfl ?_
          refine ezw_iload_n rfl rfl ?_
          refine ezw_iconst (3) rfl rfl ?_
          refine ezw_call0_2 rfl (by omega) (ezm_at rfl) rfl rfl rfl rfl (ezm_m259_v3a hT (by omega) hc1 (by omega)) ?_
          rintro _ _ ⟨rfl, u12, hu12, tw_11, rfl⟩
          have g1 := (ktw c1 (by omega) (by omega)).2.2.2
          have g2 := (b1 c1 (by omega) (by omega)).2.2.2
          have g3 := tw_11
          have g4 : u12 = z.on c1 := by omega
          refine ezw_istore_n rfl rfl ?_
          refine ezw_goto rfl rfl ?_
          exact ezw_keepE [true, true, true, true] (ihc1 u12 (by omega) hu12 (1) ⟨by decide, by decide⟩ (by omega) (by omega) (by omega) (fun y => by
                first
                  | (exfalso; omega)
                  | (rw [be_2 (by omega), ezp_be_T (by omega) (by omega), ← g4]
                     exact ezp_be_m hB 8 _ 7 8 (by omega) (by omega) (by omega) (by omega) (by omega))) (fun y => by
                first
                  | (exfalso; omega)
                  | exact bf_2 (by omega)
                  | (rw [be_2 (by omega)]; exact ezp_be_F (by omega) (by omega))))
  exact ezw_keepE [true, true, true, true] (L4_2 a1 ha1 (1) ⟨by decide, by decide⟩ (by omega) (by omega) (by omega) (fun _ => rfl) (fun y => by omega))
def ezm_m318aQ (e : Bool × Bool) (F : Nat → Nat → Int) (A : Nat → Int → Int) (i0 i2 i3 i7 i8 i13 i18 i19 i20 i25 i29 i30 i31 i36 i37 i38 : Int) (r73 r74 r75 r76 r77 r78 r79 r80 r81 r82 r83 r84 r85 r86 r87 r88 r89 r90 r91 r92 r93 r94 r95 : Int → Int) (z : ezp_D) (a1 : Int) : Option ezq_V → (Nat → ezq_C) → Prop := fun v g' => ∃ (x0 : Int), ezm_h e F A x0 i2 i3 i7 i8 i13 i18 i19 i20 i25 i29 i30 i31 i36 i37 i38 r73 r74 r75 r76 r77 r78 r79 r80 r81 r82 r83 r84 r85 r86 r87 r88 r89 r90 r91 r92 r93 r94 r95 = g' ∧ ezm_T x0 i2 i3 i7 i8 i13 i18 i19 i20 i25 i29 i30 i31 i36 i37 i38 r73 r74 r75 r76 r77 r78 r79 r80 r81 r82 r83 r84 r85 r86 r87 r88 r89 r90 r91 r92 r93 r94 r95 ∧ ∃ u : Int, (ezw_in u) ∧ (u = ezp_mi z a1) ∧ some (ezw_i u) = v
theorem ezm_m318a {z : ezp_D} {a1 : Int} (hT : ezm_T i0 i2 i3 i7 i8 i13 i18 i19 i20 i25 i29 i30 i31 i36 i37 i38 r73 r74 r75 r76 r77 r78 r79 r80 r81 r82 r83 r84 r85 r86 r87 r88 r89 r90 r91 r92 r93 r94 r95) (hd : 2 ≤ d) (ha1 : ezw_in a1) (tf : ezm_TRF z i18 r78 r81 r83) (hB : ezp_B z) : ezw_C l ρ B xa Hb D cA 318 d [ezw_p 72, ezw_i a1] (ezm_h e F A i0 i2 i3 i7 i8 i13 i18 i19 i20 i25 i29 i30 i31 i36 i37 i38 r73 r74 r75 r76 r77 r78 r79 r80 r81 r82 r83 r84 r85 r86 r87 r88 r89 r90 r91 r92 r93 r94 r95) (ezm_m318aQ  e F A i0 i2 i3 i7 i8 i13 i18 i19 i20 i25 i29 i30 i31 i36 i37 i38 r73 r74 r75 r76 r77 r78 r79 r80 r81 r82 r83 r84 r85 r86 r87 r88 r89 r90 r91 r92 r93 r94 r95 z a1) := by
  refine ezw_met (k := 3) rfl rfl ?_
  obtain ⟨⟨k0, k1, k2, k3⟩, ktw, kth, kov, ksg, kel, knu, knm⟩ := ezm_TRFi tf
  obtain ⟨b1, b2, b3, b4, b5, b6, b7, ⟨b8, b8'⟩, b9⟩ := id hB
  have n7 : r78 11 = z.nu 7 := knu 7 (by decide) (by decide)
  have nb7 : 0 ≤ z.nu 7 ∧ z.nu 7 ≤ 60 := b8 7 (by decide) (by decide)
  have n8 : r78 12 = z.nu 8 := knu 8 (by decide) (by decide)
  have nb8 : 0 ≤ z.nu 8 ∧ z.nu 8 ≤ 60 := b8 8 (by decide) (by decide)
  refine ezw_aload_n rfl rfl ?_
  refine ezw_iconst (0) rfl rfl ?_
  refine ezm_p0 hT rfl ⟨by decide, by decide⟩ (fun hT => ?_)
  refine ezw_aload_n rfl rfl ?_
  refine ezw_iload_n rfl rfl ?_
  refine ezw_call0_1 rfl (by omega) (ezm_at rfl) rfl rfl rfl rfl (ezm_m257a hT (by omega) ha1) ?_
  rintro _ _ ⟨rfl, u2, hu2, p1_0, p1_1, rfl⟩
  refine ezw_if_ne rfl rfl ⟨by omega, by omega⟩ (fun h10_2 => ?_) (fun h10_2 => ?_)
  · refine ezw_aload_n rfl rfl ?_
    refine ezw_iload_n rfl rfl ?_
    refine ezw_iconst (0) rfl rfl ?_
    refine ezw_call0_2 rfl (by omega) (ezm_at rfl) rfl rfl rfl rfl (ezm_m259_v0a hT (by omega) ha1 (by omega)) ?_
    rintro _ _ ⟨rfl, u4, hu4, tw_3, rfl⟩
    have f1 := (ktw a1 (by omega) (by omega)).1
    have f2 := (b1 a1 (by omega) (by omega)).1
    have f3 := tw_3
    refine ezw_istore_n rfl rfl ?_
    refine ezw_iload_n rfl rfl ?_
    refine ezw_aload_n rfl rfl ?_
    refine ezm_gp (p := 78) rfl (fun _ => rfl) ?_
    refine ezw_bipush (12) rfl rfl ?_
    refine ezm_l78 rfl (by omega) (by omega) (fun u5 eu5 => ?_)
    have ku5 : ezm_k78 (12) u5 := eu5 ▸ hT.t78 (12)
    have J77_7 : ∀ y6 : Int, ezw_in y6 → (y6 = ezp_w1 z a1) → (-1 ≤ y6 ∧ y6 ≤ 9) → ezw_E l ρ B xa Hb D cA d ezq_re318 (ezm_m318aQ  e F A i0 i2 i3 i7 i8 i13 i18 i19 i20 i25 i29 i30 i31 i36 i37 i38 r73 r74 r75 r76 r77 r78 r79 r80 r81 r82 r83 r84 r85 r86 r87 r88 r89 r90 r91 r92 r93 r94 r95 z a1) 77 [some (ezw_p 72), some (ezw_i a1), some (ezw_i u4), none, none] [ezw_i y6] (ezm_h e F A (0) i2 i3 i7 i8 i13 i18 i19 i20 i25 i29 i30 i31 i36 i37 i38 r73 r74 r75 r76 r77 r78 r79 r80 r81 r82 r83 r84 r85 r86 r87 r88 r89 r90 r91 r92 r93 r94 r95) := by
      intro y6 hy6 lw_7 lb_7
      refine ezw_istore_n rfl rfl ?_
      refine ezw_aload_n rfl rfl ?_
      refine ezw_iload_n rfl rfl ?_
      refine ezw_call0_1 rfl (by omega) (ezm_at rfl) rfl rfl rfl rfl (ezm_m287a hT (by omega) ha1 (by omega) tf hB) ?_
      rintro _ _ ⟨rfl, u9, hu9, p8_0, p8_1, rfl⟩
      have J100_11 : ∀ y10 : Int, ezw_in y10 → (y10 = 1 ∧ (ezp_be z 8 a1 = true ∧ (y6 < 0 ∨ u4 < y6)) ∨ y10 = 0 ∧ ¬ (ezp_be z 8 a1 = true ∧ (y6 < 0 ∨ u4 < y6))) → ezw_E l ρ B xa Hb D cA d ezq_re318 (ezm_m318aQ  e F A i0 i2 i3 i7 i8 i13 i18 i19 i20 i25 i29 i30 i31 i36 i37 i38 r73 r74 r75 r76 r77 r78 r79 r80 r81 r82 r83 r84 r85 r86 r87 r88 r89 r90 r91 r92 r93 r94 r95 z a1) 100 [some (ezw_p 72), some (ezw_i a1), some (ezw_i u4), some (ezw_i y6), none] [ezw_i y10] (ezm_h e F A (0) i2 i3 i7 i8 i13 i18 i19 i20 i25 i29 i30 i31 i36 i37 i38 r73 r74 r75 r76 r77 r78 r79 r80 r81 r82 r83 r84 r85 r86 r87 r88 r89 r90 r91 r92 r93 r94 r95) := by
        intro y10 hy10 cl_11
        refine ezw_istore rfl rfl ?_
        refine ezw_iload rfl rfl ?_
        refine ezw_if_eq rfl rfl hy10 (fun h104_11 => ?_) (fun h104_11 => ?_)
        · refine ezw_iload_n rfl rfl ?_
          exact ezw_ireturn rfl rfl ⟨(0), rfl, hT, y6, hy6, by
                first
                  | (unfold ezp_mi; rw [if_pos (by omega)]; done)
                  | (rw [ezp_mi_w hB (by omega) (by omega)]
                     rcases cl_11 with ⟨y0, y1⟩ | ⟨y0, y1⟩
                     · rw [if_pos ⟨y1.1, by omega⟩]
                       omega
                     · rw [if_neg (fun y => y1 ⟨y.1, by omega⟩)]
                       omega), rfl⟩
        · refine ezw_iload_n rfl rfl ?_
          refine ezw_goto rfl rfl ?_
          exact ezw_ireturn rfl rfl ⟨(0), rfl, hT, u4, hu4, by
                first
                  | (unfold ezp_mi; rw [if_pos (by omega)]; done)
                  | (rw [ezp_mi_w hB (by omega) (by omega)]
                     rcases cl_11 with ⟨y0, y1⟩ | ⟨y0, y1⟩
                     · rw [if_pos ⟨y1.1, by omega⟩]
                       omega
                     · rw [if_neg (fun y => y1 ⟨y.1, by omega⟩)]
                       omega), rfl⟩
      refine ezw_if_eq rfl rfl ⟨by omega, by omega⟩ (fun h83_9 => ?_) (fun h83_9 => ?_)
      · refine ezw_iconst (0) rfl rfl ?_
        exact ezw_keepE [true, true, true, true, false] (J100_11 (0) ⟨by decide, by decide⟩ (by
              first
                | exact Or.inl ⟨by omega, p8_0 (by omega), by omega⟩
                | exact Or.inr ⟨by omega, fun y => by omega⟩
                | exact Or.inr ⟨by omega, fun y => by have h9 := p8_1 (by omega); rw [h9] at y; exact absurd y.1 (by decide)⟩))
      · refine ezw_iload_n rfl rfl ?_
        refine ezw_if_lt rfl rfl hy6 (fun h87_11 => ?_) (fun h87_11 => ?_)
        · refine ezw_iconst (1) rfl rfl ?_
          refine ezw_goto rfl rfl ?_
          exact ezw_keepE [true, true, true, true, false] (J100_11 (1) ⟨by decide, by decide⟩ (by
                first
                  | exact Or.inl ⟨by omega, p8_0 (by omega), by omega⟩
                  | exact Or.inr ⟨by omega, fun y => by omega⟩
                  | exact Or.inr ⟨by omega, fun y => by have h9 := p8_1 (by omega); rw [h9] at y; exact absurd y.1 (by decide)⟩))
        · refine ezw_iload_n rfl rfl ?_
          refine ezw_iload_n rfl rfl ?_
          refine ezw_icmp_ge rfl rfl hu4 hy6 (fun h92_11 => ?_) (fun h92_11 => ?_)
          · refine ezw_iconst (0) rfl rfl ?_
            exact ezw_keepE [true, true, true, true, false] (J100_11 (0) ⟨by decide, by decide⟩ (by
                  first
                    | exact Or.inl ⟨by omega, p8_0 (by omega), by omega⟩
                    | exact Or.inr ⟨by omega, fun y => by omega⟩
                    | exact Or.inr ⟨by omega, fun y => by have h9 := p8_1 (by omega); rw [h9] at y; exact absurd y.1 (by decide)⟩))
          · refine ezw_iconst (1) rfl rfl ?_
            refine ezw_goto rfl rfl ?_
            exact ezw_keepE [true, true, true, true, false] (J100_11 (1) ⟨by decide, by decide⟩ (by
                  first
                    | exact Or.inl ⟨by omega, p8_0 (by omega), by omega⟩
                    | exact Or.inr ⟨by omega, fun y => by omega⟩
                    | exact Or.inr ⟨by omega, fun y => by have h9 := p8_1 (by omega); rw [h9] at y; exact absurd y.1 (by decide)⟩))
    refine ezw_icmp_gt rfl rfl hu4 (ezm_in78 ku5) (fun h30_5 => ?_) (fun h30_5 => ?_)
    · refine ezw_iload_n rfl rfl ?_
      refine ezw_aload_n rfl rfl ?_
      refine ezm_gp (p := 78) rfl (fun _ => rfl) ?_
      refine ezw_bipush (11) rfl rfl ?_
      refine ezm_l78 rfl (by omega) (by omega) (fun u12 eu12 => ?_)
      have ku12 : ezm_k78 (11) u12 := eu12 ▸ hT.t78 (11)
      refine ezw_icmp_gt rfl rfl hu4 (ezm_in78 ku12) (fun h45_12 => ?_) (fun h45_12 => ?_)
      · refine ezw_iload_n rfl rfl ?_
        refine ezw_aload_n rfl rfl ?_
        refine ezm_gp (p := 78) rfl (fun _ => rfl) ?_
        refine ezw_bipush (12) rfl rfl ?_
        refine ezm_l78 rfl (by omega) (by omega) (fun u13 eu13 => ?_)
        have fu13 : u5 = u13 := eu5.trans eu13.symm
        subst fu13
        refine ezw_aload_n rfl rfl ?_
        refine ezm_gp (p := 78) rfl (fun _ => rfl) ?_
        refine ezw_bipush (11) rfl rfl ?_
        refine ezm_l78 rfl (by omega) (by omega) (fun u14 eu14 => ?_)
        have fu14 : u12 = u14 := eu12.trans eu14.symm
        subst fu14
        refine ezw_iadd (k := u5 + u12) rfl (by omega) ?_
        refine ezw_icmp_gt rfl rfl hu4 ⟨by omega, by omega⟩ (fun h68_14 => ?_) (fun h68_14 => ?_)
        · refine ezw_iconst (-1) rfl rfl ?_
          exact ezw_keepE [true, true, true, false, false] (J77_7 (-1) ⟨by decide, by decide⟩ (by
                unfold ezp_w1
                (repeat' split) <;> omega) (by omega))
        · refine ezw_bipush (9) rfl rfl ?_
          refine ezw_goto rfl rfl ?_
          exact ezw_keepE [true, true, true, false, false] (J77_7 (9) ⟨by decide, by decide⟩ (by
                unfold ezp_w1
                (repeat' split) <;> omega) (by omega))
      · refine ezw_iconst (5) rfl rfl ?_
        refine ezw_goto rfl rfl ?_
        exact ezw_keepE [true, true, true, false, false] (J77_7 (5) ⟨by decide, by decide⟩ (by
              unfold ezp_w1
              (repeat' split) <;> omega) (by omega))
    · refine ezw_iconst (2) rfl rfl ?_
      refine ezw_goto rfl rfl ?_
      exact ezw_keepE [true, true, true, false, false] (J77_7 (2) ⟨by decide, by decide⟩ (by
            unfold ezp_w1
            (repeat' split) <;> omega) (by omega))
  · refine ezw_iconst (-1) rfl rfl ?_
    exact ezw_ireturn rfl rfl ⟨(0), rfl, hT, (-1), ⟨by decide, by decide⟩, by
          first
            | (unfold ezp_mi; rw [if_pos (by omega)]; done)
            | (rw [ezp_mi_w hB (by omega) (by omega)]
               rcases (show False by omega) with ⟨y0, y1⟩ | ⟨y0, y1⟩
               · rw [if_pos ⟨y1.1, by omega⟩]
                 omega
               · rw [if_neg (fun y => y1 ⟨y.1, by omega⟩)]
                 omega), rfl⟩
def ezm_m320aQ (e : Bool × Bool) (F : Nat → Nat → Int) (A : Nat → Int → Int) (i0 i2 i3 i7 i8 i13 i18 i19 i20 i25 i29 i30 i31 i36 i37 i38 : Int) (r73 r74 r75 r76 r77 r78 r79 r80 r81 r82 r83 r84 r85 r86 r87 r88 r89 r90 r91 r92 r93 r94 r95 : Int → Int) (a0 : Int) (a1 : Int) : Option ezq_V → (Nat → ezq_C) → Prop := fun v g' => ezm_h e F A i0 i2 i3 i7 i8 i13 i18 i19 i20 i25 i29 i30 i31 i36 i37 i38 r73 r74 r75 r76 r77 r78 r79 r80 r81 r82 r83 r84 r85 r86 r87 r88 r89 r90 r91 r92 r93 r94 r95 = g' ∧ ∃ u : Int, (0 ≤ u ∧ u ≤ 1) ∧ (u = 1 → 0 ≤ a0 ∧ a0 < 16 ∧ 0 ≤ a1 ∧ a1 < 16) ∧ (u = 0 → ¬ (0 ≤ a0 ∧ a0 < 16 ∧ 0 ≤ a1 ∧ a1 < 16)) ∧ some (ezw_i u) = v
theorem ezm_m320a {a0 a1 : Int} (hT : ezm_T i0 i2 i3 i7 i8 i13 i18 i19 i20 i25 i29 i30 i31 i36 i37 i38 r73 r74 r75 r76 r77 r78 r79 r80 r81 r82 r83 r84 r85 r86 r87 r88 r89 r90 r91 r92 r93 r94 r95) (hd : 0 ≤ d) (ha0 : ezw_in a0) (ha1 : ezw_in a1) : ezw_C l ρ B xa Hb D cA 320 d [ezw_i a0, ezw_i a1] (ezm_h e F A i0 i2 i3 i7 i8 i13 i18 i19 i20 i25 i29 i30 i31 i36 i37 i38 r73 r74 r75 r76 r77 r78 r79 r80 r81 r82 r83 r84 r85 r86 r87 r88 r89 r90 r91 r92 r93 r94 r95) (ezm_m320aQ  e F A i0 i2 i3 i7 i8 i13 i18 i19 i20 i25 i29 i30 i31 i36 i37 i38 r73 r74 r75 r76 r77 r78 r79 r80 r81 r82 r83 r84 r85 r86 r87 r88 r89 r90 r91 r92 r93 r94 r95 a0 a1) := by
  refine ezw_met (k := 0) rfl rfl ?_
  refine ezw_iload_n rfl rfl ?_
  refine ezw_if_lt rfl rfl ha0 (fun h1_0 => ?_) (fun h1_0 => ?_)
  · refine ezw_iconst (0) rfl rfl ?_
    exact ezw_ireturn rfl (ezw_zret ⟨by omega, by omega⟩) ⟨rfl, (0), ⟨by omega, by omega⟩, by omega, by omega, rfl⟩
  · refine ezw_iload_n rfl rfl ?_
    refine ezw_bipush (16) rfl rfl ?_
    refine ezw_icmp_ge rfl rfl ha0 ⟨by decide, by decide⟩ (fun h7_0 => ?_) (fun h7_0 => ?_)
    · refine ezw_iconst (0) rfl rfl ?_
      exact ezw_ireturn rfl (ezw_zret ⟨by omega, by omega⟩) ⟨rfl, (0), ⟨by omega, by omega⟩, by omega, by omega, rfl⟩
    · refine ezw_iload_n rfl rfl ?_
      refine ezw_if_lt rfl rfl ha1 (fun h11_0 => ?_) (fun h11_0 => ?_)
      · refine ezw_iconst (0) rfl rfl ?_
        exact ezw_ireturn rfl (ezw_zret ⟨by omega, by omega⟩) ⟨rfl, (0), ⟨by omega, by omega⟩, by omega, by omega, rfl⟩
      · refine ezw_iload_n rfl rfl ?_
        refine ezw_bipush (16) rfl rfl ?_
        refine ezw_icmp_ge rfl rfl ha1 ⟨by decide, by decide⟩ (fun h17_0 => ?_) (fun h17_0 => ?_)
        · refine ezw_iconst (0) rfl rfl ?_
          exact ezw_ireturn rfl (ezw_zret ⟨by omega, by omega⟩) ⟨rfl, (0), ⟨by omega, by omega⟩, by omega, by omega, rfl⟩
        · refine ezw_iconst (1) rfl rfl ?_
          refine ezw_goto rfl rfl ?_
          exact ezw_ireturn rfl (ezw_zret ⟨by omega, by omega⟩) ⟨rfl, (1), ⟨by omega, by omega⟩, by omega, by omega, rfl⟩
def ezm_m323aQ (e : Bool × Bool) (F : Nat → Nat → Int) (A : Nat → Int → Int) (i0 i2 i3 i7 i8 i13 i18 i19 i20 i25 i29 i30 i31 i36 i37 i38 : Int) (r73 r74 r75 r76 r77 r78 r79 r80 r81 r82 r83 r84 r85 r86 r87 r88 r89 r90 r91 r92 r93 r94 r95 : Int → Int) (z : ezp_D) (a1 : Int) (a2 : Int) : Option ezq_V → (Nat → ezq_C) → Prop := fun v g' => ezm_h e F A i0 i2 i3 i7 i8 i13 i18 i19 i20 i25 i29 i30 i31 i36 i37 i38 r73 r74 r75 r76 r77 r78 r79 r80 r81 r82 r83 r84 r85 r86 r87 r88 r89 r90 r91 r92 r93 r94 r95 = g' ∧ ∃ u : Int, (0 ≤ u ∧ u ≤ 1) ∧ (u = 1 → z.el a1 a2 = 1) ∧ (u = 0 → z.el a1 a2 ≠ 1) ∧ some (ezw_i u) = v
theorem ezm_m323a {z : ezp_D} {a1 a2 : Int} (hT : ezm_T i0 i2 i3 i7 i8 i13 i18 i19 i20 i25 i29 i30 i31 i36 i37 i38 r73 r74 r75 r76 r77 r78 r79 r80 r81 r82 r83 r84 r85 r86 r87 r88 r89 r90 r91 r92 r93 r94 r95) (hd : 0 ≤ d) (ha1 : ezw_in a1) (ha2 : ezw_in a2) (tf : ezm_TRF z i18 r78 r81 r83) (hB : ezp_B z) : ezw_C l ρ B xa Hb D cA 323 d [ezw_p 72, ezw_i a1, ezw_i a2] (ezm_h e F A i0 i2 i3 i7 i8 i13 i18 i19 i20 i25 i29 i30 i31 i36 i37 i38 r73 r74 r75 r76 r77 r78 r79 r80 r81 r82 r83 r84 r85 r86 r87 r88 r89 r90 r91 r92 r93 r94 r95) (ezm_m323aQ  e F A i0 i2 i3 i7 i8 i13 i18 i19 i20 i25 i29 i30 i31 i36 i37 i38 r73 r74 r75 r76 r77 r78 r79 r80 r81 r82 r83 r84 r85 r86 r87 r88 r89 r90 r91 r92 r93 r94 r95 z a1 a2) := by
  refine ezw_met (k := 2) rfl rfl ?_
  obtain ⟨⟨k0, k1, k2, k3⟩, ktw, kth, kov, ksg, kel, knu, knm⟩ := ezm_TRFi tf
  obtain ⟨b1, b2, b3, b4, b5, b6, b7, ⟨b8, b8'⟩, b9⟩ := id hB
  refine ezw_iconst (0) rfl rfl ?_
  refine ezw_istore_n rfl rfl ?_
  refine ezw_iconst (0) rfl rfl ?_
  refine ezw_istore rfl rfl ?_
  have L5_2 : ∀ c1 : Int, ezw_in c1 → ∀ y3 : Int, ezw_in y3 → ((0) ≤ c1) → (y3 = 0 ∨ y3 = 1) → (c1 ≤ z.kE) → (ezm_I (y3 = 1) (∃ i, 0 ≤ i ∧ i < c1 ∧ r78 (2 * i + 71) = a1 ∧ r78 (2 * i + 72) = a2)) → (ezm_I (y3 = 0) (∀ i, 0 ≤ i → i < c1 → ¬ (r78 (2 * i + 71) = a1 ∧ r78 (2 * i + 72) = a2))) → ezw_E l ρ B xa Hb D cA d ezq_re323 (ezm_m323aQ  e F A i0 i2 i3 i7 i8 i13 i18 i19 i20 i25 i29 i30 i31 i36 i37 i38 r73 r74 r75 r76 r77 r78 r79 r80 r81 r82 r83 r84 r85 r86 r87 r88 r89 r90 r91 r92 r93 r94 r95 z a1 a2) 5 [some (ezw_p 72), some (ezw_i a1), some (ezw_i a2), some (ezw_i y3), some (ezw_i c1)] [] (ezm_h e F A i0 i2 i3 i7 i8 i13 i18 i19 i20 i25 i29 i30 i31 i36 i37 i38 r73 r74 r75 r76 r77 r78 r79 r80 r81 r82 r83 r84 r85 r86 r87 r88 r89 r90 r91 r92 r93 r94 r95) := by
    refine ezs_up ?_
    intro c1 hc1 ihc1 y3 hy3 g_2 v1_2 cb_2 el_2 nl_2
    refine ezw_iload rfl rfl ?_
    refine ezw_aload_n rfl rfl ?_
    refine ezm_gp (p := 78) rfl (fun _ => rfl) ?_
    refine ezw_iconst (2) rfl rfl ?_
    refine ezm_l78 rfl (by omega) (by omega) (fun u4 eu4 => ?_)
    have ku4 : ezm_k78 (2) u4 := eu4 ▸ hT.t78 (2)
    have zu4 := ezm_za2 ku4 (by omega)
    refine ezw_icmp_ge rfl rfl hc1 (ezm_in78 ku4) (fun h13_4 => ?_) (fun h13_4 => ?_)
    · refine ezw_iload_n rfl rfl ?_
      exact ezw_ireturn rfl (ezw_zret ⟨by omega, by omega⟩) ⟨rfl, y3, ⟨by omega, by omega⟩, (fun y => (kel a1 a2).mpr (by obtain ⟨i, i0, i1, i2, i3⟩ := el_2 y; exact ⟨i, i0, by omega, i2, i3⟩)), (fun y h => by obtain ⟨i, i0, i1, i2, i3⟩ := (kel a1 a2).mp h; exact nl_2 y i i0 (by omega) ⟨i2, i3⟩), rfl⟩
    · refine ezw_iload_n rfl rfl ?_
      refine ezw_if_ne rfl rfl hy3 (fun h17_4 => ?_) (fun h17_4 => ?_)
      · refine ezw_iconst (1) rfl rfl ?_
        refine ezw_goto rfl rfl ?_
        refine ezw_istore_n rfl rfl ?_
        refine ezw_iinc (k := c1 + 1) (1) rfl rfl rfl (by omega) rfl ?_
        refine ezw_goto rfl rfl ?_
        exact ezw_keepE [true, true, true, true, true] (ihc1 (c1 + 1) (by omega) ⟨by omega, by omega⟩ (1) ⟨by decide, by decide⟩ (by omega) (by omega) (by omega) (fun y => by
              first
                | (exfalso; omega)
                | exact Exists.elim (el_2 (by omega)) (fun i h => ⟨i, h.1, by omega, h.2.2⟩)
                | exact ⟨c1, by omega, by omega, by omega, by omega⟩) (fun y i i0 i1 => by
              first
                | (exfalso; omega)
                | (by_cases hi : i = c1
                   · subst hi
                     omega
                   · exact nl_2 (by omega) i i0 (by omega))))
      · refine ezw_aload_n rfl rfl ?_
        refine ezm_gp (p := 78) rfl (fun _ => rfl) ?_
        refine ezw_bipush (71) rfl rfl ?_
        refine ezw_iconst (2) rfl rfl ?_
        refine ezw_iload rfl rfl ?_
        refine ezw_imul (k := 2 * c1) rfl (by omega) ?_
        refine ezw_iadd (k := 2 * c1 + 71) rfl (by omega) ?_
        refine ezm_l78 rfl (by omega) (by omega) (fun u5 eu5 => ?_)
        have ku5 : ezm_k78 (2 * c1 + 71) u5 := eu5 ▸ hT.t78 (2 * c1 + 71)
        refine ezw_iload_n rfl rfl ?_
        refine ezw_icmp_ne rfl rfl (ezm_in78 ku5) ha1 (fun h33_5 => ?_) (fun h33_5 => ?_)
        · refine ezw_iconst (0) rfl rfl ?_
          refine ezw_istore_n rfl rfl ?_
          refine ezw_iinc (k := c1 + 1) (1) rfl rfl rfl (by omega) rfl ?_
          refine ezw_goto rfl rfl ?_
          exact ezw_keepE [true, true, true, true, true] (ihc1 (c1 + 1) (by omega) ⟨by omega, by omega⟩ (0) ⟨by decide, by decide⟩ (by omega) (by omega) (by omega) (fun y => by
                first
                  | (exfalso; omega)
                  | exact Exists.elim (el_2 (by omega)) (fun i h => ⟨i, h.1, by omega, h.2.2⟩)
                  | exact ⟨c1, by omega, by omega, by omega, by omega⟩) (fun y i i0 i1 => by
                first
                  | (exfalso; omega)
                  | (by_cases hi : i = c1
                     · subst hi
                       omega
                     · exact nl_2 (by omega) i i0 (by omega))))
        · refine ezw_aload_n rfl rfl ?_
          refine ezm_gp (p := 78) rfl (fun _ => rfl) ?_
          refine ezw_bipush (71) rfl rfl ?_
          refine ezw_iconst (2) rfl rfl ?_
          refine ezw_iload rfl rfl ?_
          refine ezw_imul (k := 2 * c1) rfl (by omega) ?_
          refine ezw_iadd (k := 2 * c1 + 71) rfl (by omega) ?_
          refine ezw_iconst (1) rfl rfl ?_
          refine ezw_iadd (k := 2 * c1 + 72) rfl (by omega) ?_
          refine ezm_l78 rfl (by omega) (by omega) (fun u6 eu6 => ?_)
          have ku6 : ezm_k78 (2 * c1 + 72) u6 := eu6 ▸ hT.t78 (2 * c1 + 72)
          refine ezw_iload_n rfl rfl ?_
          refine ezw_icmp_ne rfl rfl (ezm_in78 ku6) ha2 (fun h51_6 => ?_) (fun h51_6 => ?_)
          · refine ezw_iconst (0) rfl rfl ?_
            refine ezw_istore_n rfl rfl ?_
            refine ezw_iinc (k := c1 + 1) (1) rfl rfl rfl (by omega) rfl ?_
            refine ezw_goto rfl rfl ?_
            exact ezw_keepE [true, true, true, true, true] (ihc1 (c1 + 1) (by omega) ⟨by omega, by omega⟩ (0) ⟨by decide, by decide⟩ (by omega) (by omega) (by omega) (fun y => by
                  first
                    | (exfalso; omega)
                    | exact Exists.elim (el_2 (by omega)) (fun i h => ⟨i, h.1, by omega, h.2.2⟩)
                    | exact ⟨c1, by omega, by omega, by omega, by omega⟩) (fun y i i0 i1 => by
                  first
                    | (exfalso; omega)
                    | (by_cases hi : i = c1
                       · subst hi
                         omega
                       · exact nl_2 (by omega) i i0 (by omega))))
          · refine ezw_iconst (1) rfl rfl ?_
            refine ezw_goto rfl rfl ?_
            refine ezw_istore_n rfl rfl ?_
            refine ezw_iinc (k := c1 + 1) (1) rfl rfl rfl (by omega) rfl ?_
            refine ezw_goto rfl rfl ?_
            exact ezw_keepE [true, true, true, true, true] (ihc1 (c1 + 1) (by omega) ⟨by omega, by omega⟩ (1) ⟨by decide, by decide⟩ (by omega) (by omega) (by omega) (fun y => by
                  first
                    | (exfalso; omega)
                    | exact Exists.elim (el_2 (by omega)) (fun i h => ⟨i, h.1, by omega, h.2.2⟩)
                    | exact ⟨c1, by omega, by omega, by omega, by omega⟩) (fun y i i0 i1 => by
                  first
                    | (exfalso; omega)
                    | (by_cases hi : i = c1
                       · subst hi
                         omega
                       · exact nl_2 (by omega) i i0 (by omega))))
  exact ezw_keepE [true, true, true, true, true] (L5_2 (0) ⟨by decide, by decide⟩ (0) ⟨by decide, by decide⟩ (by omega) (by omega) (by omega) (fun y => by omega) (fun _ i i0 i1 => by omega))
def ezm_m322aQ (e : Bool × Bool) (F : Nat → Nat → Int) (A : Nat → Int → Int) (i0 i2 i3 i7 i8 i13 i18 i19 i20 i25 i29 i30 i31 i36 i37 i38 : Int) (r73 r74 r75 r76 r77 r78 r79 r80 r81 r82 r83 r84 r85 r86 r87 r88 r89 r90 r91 r92 r93 r94 r95 : Int → Int) (z : ezp_D) (a1 : Int) (a2 : Int) (a3 : Int) : Option ezq_V → (Nat → ezq_C) → Prop := fun v g' => ezm_h e F A i0 i2 i3 i7 i8 i13 i18 i19 i20 i25 i29 i30 i31 i36 i37 i38 r73 r74 r75 r76 r77 r78 r79 r80 r81 r82 r83 r84 r85 r86 r87 r88 r89 r90 r91 r92 r93 r94 r95 = g' ∧ ∃ u : Int, (0 ≤ u ∧ u ≤ 1) ∧ (u = 1 → ezp_sfd z a1 a2 a3 (z.nu 10 + 1) = true) ∧ (u = 0 → ezp_sfd z a1 a2 a3 (z.nu 10 + 1) = false) ∧ some (ezw_i u) = v
theorem ezm_m322a {z : ezp_D} {a1 a2 a3 : Int} (hT : ezm_T i0 i2 i3 i7 i8 i13 i18 i19 i20 i25 i29 i30 i31 i36 i37 i38 r73 r74 r75 r76 r77 r78 r79 r80 r81 r82 r83 r84 r85 r86 r87 r88 r89 r90 r91 r92 r93 r94 r95) (hd : 1 ≤ d) (ha1 : ezw_in a1) (ha2 : ezw_in a2) (ha3 : ezw_in a3) (ga : 0 ≤ a1 ∧ a1 < 16 ∧ 0 ≤ a2 ∧ a2 < 16 ∧ 0 ≤ a3 ∧ a3 < 4) (tf : ezm_TRF z i18 r78 r81 r83) (hB : ezp_B z) : ezw_C l ρ B xa Hb D cA 322 d [ezw_p 72, ezw_i a1, ezw_i a2, ezw_i a3] (ezm_h e F A i0 i2 i3 i7 i8 i13 i18 i19 i20 i25 i29 i30 i31 i36 i37 i38 r73 r74 r75 r76 r77 r78 r79 r80 r81 r82 r83 r84 r85 r86 r87 r88 r89 r90 r91 r92 r93 r94 r95) (ezm_m322aQ  e F A i0 i2 i3 i7 i8 i13 i18 i19 i20 i25 i29 i30 i31 i36 i37 i38 r73 r74 r75 r76 r77 r78 r79 r80 r81 r82 r83 r84 r85 r86 r87 r88 r89 r90 r91 r92 r93 r94 r95 z a1 a2 a3) := by
  refine ezw_met (k := 4) rfl rfl ?_
  obtain ⟨⟨k0, k1, k2, k3⟩, ktw, kth, kov, ksg, kel, knu, knm⟩ := ezm_TRFi tf
  obtain ⟨b1, b2, b3, b4, b5, b6, b7, ⟨b8, b8'⟩, b9⟩ := id hB
  have n10 : r78 14 = z.nu 10 := knu 10 (by decide) (by decide)
  have nb10 : 1 ≤ z.nu 10 ∧ z.nu 10 ≤ 15 := b8 10 (by decide) (by decide)
  refine ezw_iconst (1) rfl rfl ?_
  refine ezw_istore rfl rfl ?_
  refine ezw_iconst (0) rfl rfl ?_
  refine ezw_istore rfl rfl ?_
  have L6_2 : ∀ c1 : Int, ezw_in c1 → ∀ y3 : Int, ezw_in y3 → ((0) ≤ c1) → (y3 = 0 ∨ y3 = 1) → (c1 ≤ z.nu 10 + 1) → (y3 = 1 → ezp_sfn z a1 a2 (ezp_ox a3) (ezp_oy a3) (c1).toNat = true) → (y3 = 0 → ezp_sfn z a1 a2 (ezp_ox a3) (ezp_oy a3) (c1).toNat = false) → ezw_E l ρ B xa Hb D cA d ezq_re322 (ezm_m322aQ  e F A i0 i2 i3 i7 i8 i13 i18 i19 i20 i25 i29 i30 i31 i36 i37 i38 r73 r74 r75 r76 r77 r78 r79 r80 r81 r82 r83 r84 r85 r86 r87 r88 r89 r90 r91 r92 r93 r94 r95 z a1 a2 a3) 6 [some (ezw_p 72), some (ezw_i a1), some (ezw_i a2), some (ezw_i a3), some (ezw_i y3), some (ezw_i c1), none, none] [] (ezm_h e F A i0 i2 i3 i7 i8 i13 i18 i19 i20 i25 i29 i30 i31 i36 i37 i38 r73 r74 r75 r76 r77 r78 r79 r80 r81 r82 r83 r84 r85 r86 r87 r88 r89 r90 r91 r92 r93 r94 r95) := by
    refine ezs_up ?_
    intro c1 hc1 ihc1 y3 hy3 g_2 v1_2 cb_2 sf_2 sz_2
    refine ezw_iload rfl rfl ?_
    refine ezw_aload_n rfl rfl ?_
    refine ezm_gp (p := 78) rfl (fun _ => rfl) ?_
    refine ezw_bipush (14) rfl rfl ?_
    refine ezm_l78 rfl (by omega) (by omega) (fun u4 eu4 => ?_)
    have ku4 : ezm_k78 (14) u4 := eu4 ▸ hT.t78 (14)
    have zu4 := ezm_za14 ku4 (by omega)
    refine ezw_icmp_gt rfl rfl hc1 (ezm_in78 ku4) (fun h15_4 => ?_) (fun h15_4 => ?_)
    · refine ezw_iload rfl rfl ?_
      exact ezw_ireturn rfl (ezw_zret ⟨by omega, by omega⟩) ⟨rfl, y3, ⟨by omega, by omega⟩, (fun y => by
            have h7 := sf_2 y
            rw [show c1 = z.nu 10 + 1 by omega] at h7
            exact h7), (fun y => by
            have h7 := sz_2 y
            rw [show c1 = z.nu 10 + 1 by omega] at h7
            exact h7), rfl⟩
    · refine ezw_iload_n rfl rfl ?_
      refine ezw_iconst (1) rfl rfl ?_
      refine ezw_icmp_ne rfl rfl ha3 ⟨by decide, by decide⟩ (fun h20_4 => ?_) (fun h20_4 => ?_)
      · refine ezw_iload_n rfl rfl ?_
        refine ezw_iconst (3) rfl rfl ?_
        refine ezw_icmp_ne rfl rfl ha3 ⟨by decide, by decide⟩ (fun h31_4 => ?_) (fun h31_4 => ?_)
        · refine ezw_iconst (0) rfl rfl ?_
          refine ezw_istore rfl rfl ?_
          refine ezw_iload_n rfl rfl ?_
          refine ezw_if_ne rfl rfl ha3 (fun h43_4 => ?_) (fun h43_4 => ?_)
          · refine ezw_iload_n rfl rfl ?_
            refine ezw_iconst (2) rfl rfl ?_
            refine ezw_icmp_ne rfl rfl ha3 ⟨by decide, by decide⟩ (fun h53_4 => ?_) (fun h53_4 => ?_)
            · refine ezw_iconst (0) rfl rfl ?_
              refine ezw_istore rfl rfl ?_
              have hox : ezp_ox a3 = (0) := by
                unfold ezp_ox
                (repeat' split) <;> omega
              have hoy : ezp_oy a3 = (0) := by
                unfold ezp_oy
                (repeat' split) <;> omega
              refine ezw_iload rfl rfl ?_
              refine ezw_if_eq rfl rfl hy3 (fun h67_4 => ?_) (fun h67_4 => ?_)
              · refine ezw_iconst (0) rfl rfl ?_
                refine ezw_istore rfl rfl ?_
                refine ezw_iinc (k := c1 + 1) (1) rfl rfl rfl (by omega) rfl ?_
                refine ezw_goto rfl rfl ?_
                exact ezw_keepE [true, true, true, true, true, true, false, false] (ihc1 (c1 + 1) (by omega) ⟨by omega, by omega⟩ (0) ⟨by decide, by decide⟩ (by omega) (by omega) (by omega) (fun y => by
                      exfalso
                      omega) (fun y => by
                      first
                        | (exfalso; omega)
                        | exact ezp_sfnX (by omega) (sz_2 (by omega))))
              · refine ezw_aload_n rfl rfl ?_
                refine ezw_iload_n rfl rfl ?_
                refine ezw_iload rfl rfl ?_
                refine ezw_iadd (k := a1) rfl (by omega) ?_
                refine ezw_iload_n rfl rfl ?_
                refine ezw_iload rfl rfl ?_
                refine ezw_iadd (k := a2) rfl (by omega) ?_
                refine ezw_call0_2 rfl (by omega) (ezm_at rfl) rfl rfl rfl rfl (ezm_m323a hT (by omega) ⟨by omega, by omega⟩ ⟨by omega, by omega⟩ tf hB) ?_
                rintro _ _ ⟨rfl, u6, hu6, p5_0, p5_1, rfl⟩
                refine ezw_if_ne rfl rfl ⟨by omega, by omega⟩ (fun h82_6 => ?_) (fun h82_6 => ?_)
                · refine ezw_iconst (0) rfl rfl ?_
                  refine ezw_istore rfl rfl ?_
                  refine ezw_iinc (k := c1 + 1) (1) rfl rfl rfl (by omega) rfl ?_
                  refine ezw_goto rfl rfl ?_
                  exact ezw_keepE [true, true, true, true, true, true, false, false] (ihc1 (c1 + 1) (by omega) ⟨by omega, by omega⟩ (0) ⟨by decide, by decide⟩ (by omega) (by omega) (by omega) (fun y => by
                        first
                          | (exfalso; omega)
                          | exact ezp_sfnT (by omega) (sf_2 (by omega)) (X := a1) (Y := a2) (by rw [hox]; omega) (by rw [hoy]; omega) (p5_1 (by omega))) (fun y => by
                        first
                          | (exfalso; omega)
                          | exact ezp_sfnX (by omega) (sz_2 (by omega))
                          | exact ezp_sfnF (k := c1) (by omega) (by omega) (X := a1) (Y := a2) (by rw [hox]; omega) (by rw [hoy]; omega) (p5_0 (by omega))))
                · refine ezw_iconst (1) rfl rfl ?_
                  refine ezw_goto rfl rfl ?_
                  refine ezw_istore rfl rfl ?_
                  refine ezw_iinc (k := c1 + 1) (1) rfl rfl rfl (by omega) rfl ?_
                  refine ezw_goto rfl rfl ?_
                  exact ezw_keepE [true, true, true, true, true, true, false, false] (ihc1 (c1 + 1) (by omega) ⟨by omega, by omega⟩ (1) ⟨by decide, by decide⟩ (by omega) (by omega) (by omega) (fun y => by
                        first
                          | (exfalso; omega)
                          | exact ezp_sfnT (by omega) (sf_2 (by omega)) (X := a1) (Y := a2) (by rw [hox]; omega) (by rw [hoy]; omega) (p5_1 (by omega))) (fun y => by
                        first
                          | (exfalso; omega)
                          | exact ezp_sfnX (by omega) (sz_2 (by omega))
                          | exact ezp_sfnF (k := c1) (by omega) (by omega) (X := a1) (Y := a2) (by rw [hox]; omega) (by rw [hoy]; omega) (p5_0 (by omega))))
            · refine ezw_iload rfl rfl ?_
              refine ezw_ineg (k := -c1) rfl (by omega) ?_
              refine ezw_goto rfl rfl ?_
              refine ezw_istore rfl rfl ?_
              have hox : ezp_ox a3 = (0) := by
                unfold ezp_ox
                (repeat' split) <;> omega
              have hoy : ezp_oy a3 = (-1) := by
                unfold ezp_oy
                (repeat' split) <;> omega
              refine ezw_iload rfl rfl ?_
              refine ezw_if_eq rfl rfl hy3 (fun h67_6 => ?_) (fun h67_6 => ?_)
              · refine ezw_iconst (0) rfl rfl ?_
                refine ezw_istore rfl rfl ?_
                refine ezw_iinc (k := c1 + 1) (1) rfl rfl rfl (by omega) rfl ?_
                refine ezw_goto rfl rfl ?_
                exact ezw_keepE [true, true, true, true, true, true, false, false] (ihc1 (c1 + 1) (by omega) ⟨by omega, by omega⟩ (0) ⟨by decide, by decide⟩ (by omega) (by omega) (by omega) (fun y => by
                      exfalso
                      omega) (fun y => by
                      first
                        | (exfalso; omega)
                        | exact ezp_sfnX (by omega) (sz_2 (by omega))))
              · refine ezw_aload_n rfl rfl ?_
                refine ezw_iload_n rfl rfl ?_
                refine ezw_iload rfl rfl ?_
                refine ezw_iadd (k := a1) rfl (by omega) ?_
                refine ezw_iload_n rfl rfl ?_
                refine ezw_iload rfl rfl ?_
                refine ezw_iadd (k := a2 - c1) rfl (by omega) ?_
                refine ezw_call0_2 rfl (by omega) (ezm_at rfl) rfl rfl rfl rfl (ezm_m323a hT (by omega) ⟨by omega, by omega⟩ ⟨by omega, by omega⟩ tf hB) ?_
                rintro _ _ ⟨rfl, u8, hu8, p7_0, p7_1, rfl⟩
                refine ezw_if_ne rfl rfl ⟨by omega, by omega⟩ (fun h82_8 => ?_) (fun h82_8 => ?_)
                · refine ezw_iconst (0) rfl rfl ?_
                  refine ezw_istore rfl rfl ?_
                  refine ezw_iinc (k := c1 + 1) (1) rfl rfl rfl (by omega) rfl ?_
                  refine ezw_goto rfl rfl ?_
                  exact ezw_keepE [true, true, true, true, true, true, false, false] (ihc1 (c1 + 1) (by omega) ⟨by omega, by omega⟩ (0) ⟨by decide, by decide⟩ (by omega) (by omega) (by omega) (fun y => by
                        first
                          | (exfalso; omega)
                          | exact ezp_sfnT (by omega) (sf_2 (by omega)) (X := a1) (Y := (a2 - c1)) (by rw [hox]; omega) (by rw [hoy]; omega) (p7_1 (by omega))) (fun y => by
                        first
                          | (exfalso; omega)
                          | exact ezp_sfnX (by omega) (sz_2 (by omega))
                          | exact ezp_sfnF (k := c1) (by omega) (by omega) (X := a1) (Y := a2 - c1) (by rw [hox]; omega) (by rw [hoy]; omega) (p7_0 (by omega))))
                · refine ezw_iconst (1) rfl rfl ?_
                  refine ezw_goto rfl rfl ?_
                  refine ezw_istore rfl rfl ?_
                  refine ezw_iinc (k := c1 + 1) (1) rfl rfl rfl (by omega) rfl ?_
                  refine ezw_goto rfl rfl ?_
                  exact ezw_keepE [true, true, true, true, true, true, false, false] (ihc1 (c1 + 1) (by omega) ⟨by omega, by omega⟩ (1) ⟨by decide, by decide⟩ (by omega) (by omega) (by omega) (fun y => by
                        first
                          | (exfalso; omega)
                          | exact ezp_sfnT (by omega) (sf_2 (by omega)) (X := a1) (Y := (a2 - c1)) (by rw [hox]; omega) (by rw [hoy]; omega) (p7_1 (by omega))) (fun y => by
                        first
                          | (exfalso; omega)
                          | exact ezp_sfnX (by omega) (sz_2 (by omega))
                          | exact ezp_sfnF (k := c1) (by omega) (by omega) (X := a1) (Y := a2 - c1) (by rw [hox]; omega) (by rw [hoy]; omega) (p7_0 (by omega))))
          · refine ezw_iload rfl rfl ?_
            refine ezw_goto rfl rfl ?_
            refine ezw_istore rfl rfl ?_
            have hox : ezp_ox a3 = (0) := by
              unfold ezp_ox
              (repeat' split) <;> omega
            have hoy : ezp_oy a3 = (1) := by
              unfold ezp_oy
              (repeat' split) <;> omega
            refine ezw_iload rfl rfl ?_
            refine ezw_if_eq rfl rfl hy3 (fun h67_8 => ?_) (fun h67_8 => ?_)
            · refine ezw_iconst (0) rfl rfl ?_
              refine ezw_istore rfl rfl ?_
              refine ezw_iinc (k := c1 + 1) (1) rfl rfl rfl (by omega) rfl ?_
              refine ezw_goto rfl rfl ?_
              exact ezw_keepE [true, true, true, true, true, true, false, false] (ihc1 (c1 + 1) (by omega) ⟨by omega, by omega⟩ (0) ⟨by decide, by decide⟩ (by omega) (by omega) (by omega) (fun y => by
                    exfalso
                    omega) (fun y => by
                    first
                      | (exfalso; omega)
                      | exact ezp_sfnX (by omega) (sz_2 (by omega))))
            · refine ezw_aload_n rfl rfl ?_
              refine ezw_iload_n rfl rfl ?_
              refine ezw_iload rfl rfl ?_
              refine ezw_iadd (k := a1) rfl (by omega) ?_
              refine ezw_iload_n rfl rfl ?_
              refine ezw_iload rfl rfl ?_
              refine ezw_iadd (k := a2 + c1) rfl (by omega) ?_
              refine ezw_call0_2 rfl (by omega) (ezm_at rfl) rfl rfl rfl rfl (ezm_m323a hT (by omega) ⟨by omega, by omega⟩ ⟨by omega, by omega⟩ tf hB) ?_
              rintro _ _ ⟨rfl, u10, hu10, p9_0, p9_1, rfl⟩
              refine ezw_if_ne rfl rfl ⟨by omega, by omega⟩ (fun h82_10 => ?_) (fun h82_10 => ?_)
              · refine ezw_iconst (0) rfl rfl ?_
                refine ezw_istore rfl rfl ?_
                refine ezw_iinc (k := c1 + 1) (1) rfl rfl rfl (by omega) rfl ?_
                refine ezw_goto rfl rfl ?_
                exact ezw_keepE [true, true, true, true, true, true, false, false] (ihc1 (c1 + 1) (by omega) ⟨by omega, by omega⟩ (0) ⟨by decide, by decide⟩ (by omega) (by omega) (by omega) (fun y => by
                      first
                        | (exfalso; omega)
                        | exact ezp_sfnT (by omega) (sf_2 (by omega)) (X := a1) (Y := (a2 + c1)) (by rw [hox]; omega) (by rw [hoy]; omega) (p9_1 (by omega))) (fun y => by
                      first
                        | (exfalso; omega)
                        | exact ezp_sfnX (by omega) (sz_2 (by omega))
                        | exact ezp_sfnF (k := c1) (by omega) (by omega) (X := a1) (Y := a2 + c1) (by rw [hox]; omega) (by rw [hoy]; omega) (p9_0 (by omega))))
              · refine ezw_iconst (1) rfl rfl ?_
                refine ezw_goto rfl rfl ?_
                refine ezw_istore rfl rfl ?_
                refine ezw_iinc (k := c1 + 1) (1) rfl rfl rfl (by omega) rfl ?_
                refine ezw_goto rfl rfl ?_
                exact ezw_keepE [true, true, true, true, true, true, false, false] (ihc1 (c1 + 1) (by omega) ⟨by omega, by omega⟩ (1) ⟨by decide, by decide⟩ (by omega) (by omega) (by omega) (fun y => by
                      first
                        | (exfalso; omega)
                        | exact ezp_sfnT (by omega) (sf_2 (by omega)) (X := a1) (Y := (a2 + c1)) (by rw [hox]; omega) (by rw [hoy]; omega) (p9_1 (by omega))) (fun y => by
                      first
                        | (exfalso; omega)
                        | exact ezp_sfnX (by omega) (sz_2 (by omega))
                        | exact ezp_sfnF (k := c1) (by omega) (by omega) (X := a1) (Y := a2 + c1) (by rw [hox]; omega) (by rw [hoy]; omega) (p9_0 (by omega))))
        · refine ezw_iload rfl rfl ?_
          refine ezw_goto rfl rfl ?_
          refine ezw_istore rfl rfl ?_
          refine ezw_iload_n rfl rfl ?_
          refine ezw_if_ne rfl rfl ha3 (fun h43_10 => ?_) (fun h43_10 => ?_)
          · refine ezw_iload_n rfl rfl ?_
            refine ezw_iconst (2) rfl rfl ?_
            refine ezw_icmp_ne rfl rfl ha3 ⟨by decide, by decide⟩ (fun h53_10 => ?_) (fun h53_10 => ?_)
            · refine ezw_iconst (0) rfl rfl ?_
              refine ezw_istore rfl rfl ?_
              have hox : ezp_ox a3 = (1) := by
                unfold ezp_ox
                (repeat' split) <;> omega
              have hoy : ezp_oy a3 = (0) := by
                unfold ezp_oy
                (repeat' split) <;> omega
              refine ezw_iload rfl rfl ?_
              refine ezw_if_eq rfl rfl hy3 (fun h67_10 => ?_) (fun h67_10 => ?_)
              · refine ezw_iconst (0) rfl rfl ?_
                refine ezw_istore rfl rfl ?_
                refine ezw_iinc (k := c1 + 1) (1) rfl rfl rfl (by omega) rfl ?_
                refine ezw_goto rfl rfl ?_
                exact ezw_keepE [true, true, true, true, true, true, false, false] (ihc1 (c1 + 1) (by omega) ⟨by omega, by omega⟩ (0) ⟨by decide, by decide⟩ (by omega) (by omega) (by omega) (fun y => by
                      exfalso
                      omega) (fun y => by
                      first
                        | (exfalso; omega)
                        | exact ezp_sfnX (by omega) (sz_2 (by omega))))
              · refine ezw_aload_n rfl rfl ?_
                refine ezw_iload_n rfl rfl ?_
                refine ezw_iload rfl rfl ?_
                refine ezw_iadd (k := a1 + c1) rfl (by omega) ?_
                refine ezw_iload_n rfl rfl ?_
                refine ezw_iload rfl rfl ?_
                refine ezw_iadd (k := a2) rfl (by omega) ?_
                refine ezw_call0_2 rfl (by omega) (ezm_at rfl) rfl rfl rfl rfl (ezm_m323a hT (by omega) ⟨by omega, by omega⟩ ⟨by omega, by omega⟩ tf hB) ?_
                rintro _ _ ⟨rfl, u12, hu12, p11_0, p11_1, rfl⟩
                refine ezw_if_ne rfl rfl ⟨by omega, by omega⟩ (fun h82_12 => ?_) (fun h82_12 => ?_)
                · refine ezw_iconst (0) rfl rfl ?_
                  refine ezw_istore rfl rfl ?_
                  refine ezw_iinc (k := c1 + 1) (1) rfl rfl rfl (by omega) rfl ?_
                  refine ezw_goto rfl rfl ?_
                  exact ezw_keepE [true, true, true, true, true, true, false, false] (ihc1 (c1 + 1) (by omega) ⟨by omega, by omega⟩ (0) ⟨by decide, by decide⟩ (by omega) (by omega) (by omega) (fun y => by
                        first
                          | (exfalso; omega)
                          | exact ezp_sfnT (by omega) (sf_2 (by omega)) (X := (a1 + c1)) (Y := a2) (by rw [hox]; omega) (by rw [hoy]; omega) (p11_1 (by omega))) (fun y => by
                        first
                          | (exfalso; omega)
                          | exact ezp_sfnX (by omega) (sz_2 (by omega))
                          | exact ezp_sfnF (k := c1) (by omega) (by omega) (X := a1 + c1) (Y := a2) (by rw [hox]; omega) (by rw [hoy]; omega) (p11_0 (by omega))))
                · refine ezw_iconst (1) rfl rfl ?_
                  refine ezw_goto rfl rfl ?_
                  refine ezw_istore rfl rfl ?_
                  refine ezw_iinc (k := c1 + 1) (1) rfl rfl rfl (by omega) rfl ?_
                  refine ezw_goto rfl rfl ?_
                  exact ezw_keepE [true, true, true, true, true, true, false, false] (ihc1 (c1 + 1) (by omega) ⟨by omega, by omega⟩ (1) ⟨by decide, by decide⟩ (by omega) (by omega) (by omega) (fun y => by
                        first
                          | (exfalso; omega)
                          | exact ezp_sfnT (by omega) (sf_2 (by omega)) (X := (a1 + c1)) (Y := a2) (by rw [hox]; omega) (by rw [hoy]; omega) (p11_1 (by omega))) (fun y => by
                        first
                          | (exfalso; omega)
                          | exact ezp_sfnX (by omega) (sz_2 (by omega))
                          | exact ezp_sfnF (k := c1) (by omega) (by omega) (X := a1 + c1) (Y := a2) (by rw [hox]; omega) (by rw [hoy]; omega) (p11_0 (by omega))))
            · refine ezw_iload rfl rfl ?_
              refine ezw_ineg (k := -c1) rfl (by omega) ?_
              refine ezw_goto rfl rfl ?_
              refine ezw_istore rfl rfl ?_
              have hox : ezp_ox a3 = (1) := by
                unfold ezp_ox
                (repeat' split) <;> omega
              have hoy : ezp_oy a3 = (-1) := by
                unfold ezp_oy
                (repeat' split) <;> omega
              refine ezw_iload rfl rfl ?_
              refine ezw_if_eq rfl rfl hy3 (fun h67_12 => ?_) (fun h67_12 => ?_)
              · refine ezw_iconst (0) rfl rfl ?_
                refine ezw_istore rfl rfl ?_
                refine ezw_iinc (k := c1 + 1) (1) rfl rfl rfl (by omega) rfl ?_
                refine ezw_goto rfl rfl ?_
                exact ezw_keepE [true, true, true, true, true, true, false, false] (ihc1 (c1 + 1) (by omega) ⟨by omega, by omega⟩ (0) ⟨by decide, by decide⟩ (by omega) (by omega) (by omega) (fun y => by
                      exfalso
                      omega) (fun y => by
                      first
                        | (exfalso; omega)
                        | exact ezp_sfnX (by omega) (sz_2 (by omega))))
              · refine ezw_aload_n rfl rfl ?_
                refine ezw_iload_n rfl rfl ?_
                refine ezw_iload rfl rfl ?_
                refine ezw_iadd (k := a1 + c1) rfl (by omega) ?_
                refine ezw_iload_n rfl rfl ?_
                refine ezw_iload rfl rfl ?_
                refine ezw_iadd (k := a2 - c1) rfl (by omega) ?_
                refine ezw_call0_2 rfl (by omega) (ezm_at rfl) rfl rfl rfl rfl (ezm_m323a hT (by omega) ⟨by omega, by omega⟩ ⟨by omega, by omega⟩ tf hB) ?_
                rintro _ _ ⟨rfl, u14, hu14, p13_0, p13_1, rfl⟩
                refine ezw_if_ne rfl rfl ⟨by omega, by omega⟩ (fun h82_14 => ?_) (fun h82_14 => ?_)
                · refine ezw_iconst (0) rfl rfl ?_
                  refine ezw_istore rfl rfl ?_
                  refine ezw_iinc (k := c1 + 1) (1) rfl rfl rfl (by omega) rfl ?_
                  refine ezw_goto rfl rfl ?_
                  exact ezw_keepE [true, true, true, true, true, true, false, false] (ihc1 (c1 + 1) (by omega) ⟨by omega, by omega⟩ (0) ⟨by decide, by decide⟩ (by omega) (by omega) (by omega) (fun y => by
                        first
                          | (exfalso; omega)
                          | exact ezp_sfnT (by omega) (sf_2 (by omega)) (X := (a1 + c1)) (Y := (a2 - c1)) (by rw [hox]; omega) (by rw [hoy]; omega) (p13_1 (by omega))) (fun y => by
                        first
                          | (exfalso; omega)
                          | exact ezp_sfnX (by omega) (sz_2 (by omega))
                          | exact ezp_sfnF (k := c1) (by omega) (by omega) (X := a1 + c1) (Y := a2 - c1) (by rw [hox]; omega) (by rw [hoy]; omega) (p13_0 (by omega))))
                · refine ezw_iconst (1) rfl rfl ?_
                  refine ezw_goto rfl rfl ?_
                  refine ezw_istore rfl rfl ?_
                  refine ezw_iinc (k := c1 + 1) (1) rfl rfl rfl (by omega) rfl ?_
                  refine ezw_goto rfl rfl ?_
                  exact ezw_keepE [true, true, true, true, true, true, false, false] (ihc1 (c1 + 1) (by omega) ⟨by omega, by omega⟩ (1) ⟨by decide, by decide⟩ (by omega) (by omega) (by omega) (fun y => by
                        first
                          | (exfalso; omega)
                          | exact ezp_sfnT (by omega) (sf_2 (by omega)) (X := (a1 + c1)) (Y := (a2 - c1)) (by rw [hox]; omega) (by rw [hoy]; omega) (p13_1 (by omega))) (fun y => by
                        first
                          | (exfalso; omega)
                          | exact ezp_sfnX (by omega) (sz_2 (by omega))
                          | exact ezp_sfnF (k := c1) (by omega) (by omega) (X := a1 + c1) (Y := a2 - c1) (by rw [hox]; omega) (by rw [hoy]; omega) (p13_0 (by omega))))
          · refine ezw_iload rfl rfl ?_
            refine ezw_goto rfl rfl ?_
            refine ezw_istore rfl rfl ?_
            have hox : ezp_ox a3 = (1) := by
              unfold ezp_ox
              (repeat' split) <;> omega
            have hoy : ezp_oy a3 = (1) := by
              unfold ezp_oy
              (repeat' split) <;> omega
            refine ezw_iload rfl rfl ?_
            refine ezw_if_eq rfl rfl hy3 (fun h67_14 => ?_) (fun h67_14 => ?_)
            · refine ezw_iconst (0) rfl rfl ?_
              refine ezw_istore rfl rfl ?_
              refine ezw_iinc (k := c1 + 1) (1) rfl rfl rfl (by omega) rfl ?_
              refine ezw_goto rfl rfl ?_
              exact ezw_keepE [true, true, true, true, true, true, false, false] (ihc1 (c1 + 1) (by omega) ⟨by omega, by omega⟩ (0) ⟨by decide, by decide⟩ (by omega) (by omega) (by omega) (fun y => by
                    exfalso
                    omega) (fun y => by
                    first
                      | (exfalso; omega)
                      | exact ezp_sfnX (by omega) (sz_2 (by omega))))
            · refine ezw_aload_n rfl rfl ?_
              refine ezw_iload_n rfl rfl ?_
              refine ezw_iload rfl rfl ?_
              refine ezw_iadd (k := a1 + c1) rfl (by omega) ?_
              refine ezw_iload_n rfl rfl ?_
              refine ezw_iload rfl rfl ?_
              refine ezw_iadd (k := a2 + c1) rfl (by omega) ?_
              refine ezw_call0_2 rfl (by omega) (ezm_at rfl) rfl rfl rfl rfl (ezm_m323a hT (by omega) ⟨by omega, by omega⟩ ⟨by omega, by omega⟩ tf hB) ?_
              rintro _ _ ⟨rfl, u16, hu16, p15_0, p15_1, rfl⟩
              refine ezw_if_ne rfl rfl ⟨by omega, by omega⟩ (fun h82_16 => ?_) (fun h82_16 => ?_)
              · refine ezw_iconst (0) rfl rfl ?_
                refine ezw_istore rfl rfl ?_
                refine ezw_iinc (k := c1 + 1) (1) rfl rfl rfl (by omega) rfl ?_
                refine ezw_goto rfl rfl ?_
                exact ezw_keepE [true, true, true, true, true, true, false, false] (ihc1 (c1 + 1) (by omega) ⟨by omega, by omega⟩ (0) ⟨by decide, by decide⟩ (by omega) (by omega) (by omega) (fun y => by
                      first
                        | (exfalso; omega)
                        | exact ezp_sfnT (by omega) (sf_2 (by omega)) (X := (a1 + c1)) (Y := (a2 + c1)) (by rw [hox]; omega) (by rw [hoy]; omega) (p15_1 (by omega))) (fun y => by
                      first
                        | (exfalso; omega)
                        | exact ezp_sfnX (by omega) (sz_2 (by omega))
                        | exact ezp_sfnF (k := c1) (by omega) (by omega) (X := a1 + c1) (Y := a2 + c1) (by rw [hox]; omega) (by rw [hoy]; omega) (p15_0 (by omega))))
              · refine ezw_iconst (1) rfl rfl ?_
                refine ezw_goto rfl rfl ?_
                refine ezw_istore rfl rfl ?_
                refine ezw_iinc (k := c1 + 1) (1) rfl rfl rfl (by omega) rfl ?_
                refine ezw_goto rfl rfl ?_
                exact ezw_keepE [true, true, true, true, true, true, false, false] (ihc1 (c1 + 1) (by omega) ⟨by omega, by omega⟩ (1) ⟨by decide, by decide⟩ (by omega) (by omega) (by omega) (fun y => by
                      first
                        | (exfalso; omega)
                        | exact ezp_sfnT (by omega) (sf_2 (by omega)) (X := (a1 + c1)) (Y := (a2 + c1)) (by rw [hox]; omega) (by rw [hoy]; omega) (p15_1 (by omega))) (fun y => by
                      first
                        | (exfalso; omega)
                        | exact ezp_sfnX (by omega) (sz_2 (by omega))
                        | exact ezp_sfnF (k := c1) (by omega) (by omega) (X := a1 + c1) (Y := a2 + c1) (by rw [hox]; omega) (by rw [hoy]; omega) (p15_0 (by omega))))
      · refine ezw_iload rfl rfl ?_
        refine ezw_ineg (k := -c1) rfl (by omega) ?_
        refine ezw_goto rfl rfl ?_
        refine ezw_istore rfl rfl ?_
        refine ezw_iload_n rfl rfl ?_
        refine ezw_if_ne rfl rfl ha3 (fun h43_16 => ?_) (fun h43_16 => ?_)
        · refine ezw_iload_n rfl rfl ?_
          refine ezw_iconst (2) rfl rfl ?_
          refine ezw_icmp_ne rfl rfl ha3 ⟨by decide, by decide⟩ (fun h53_16 => ?_) (fun h53_16 => ?_)
          · refine ezw_iconst (0) rfl rfl ?_
            refine ezw_istore rfl rfl ?_
            have hox : ezp_ox a3 = (-1) := by
              unfold ezp_ox
              (repeat' split) <;> omega
            have hoy : ezp_oy a3 = (0) := by
              unfold ezp_oy
              (repeat' split) <;> omega
            refine ezw_iload rfl rfl ?_
            refine ezw_if_eq rfl rfl hy3 (fun h67_16 => ?_) (fun h67_16 => ?_)
            · refine ezw_iconst (0) rfl rfl ?_
              refine ezw_istore rfl rfl ?_
              refine ezw_iinc (k := c1 + 1) (1) rfl rfl rfl (by omega) rfl ?_
              refine ezw_goto rfl rfl ?_
              exact ezw_keepE [true, true, true, true, true, true, false, false] (ihc1 (c1 + 1) (by omega) ⟨by omega, by omega⟩ (0) ⟨by decide, by decide⟩ (by omega) (by omega) (by omega) (fun y => by
                    exfalso
                    omega) (fun y => by
                    first
                      | (exfalso; omega)
                      | exact ezp_sfnX (by omega) (sz_2 (by omega))))
            · refine ezw_aload_n rfl rfl ?_
              refine ezw_iload_n rfl rfl ?_
              refine ezw_iload rfl rfl ?_
              refine ezw_iadd (k := a1 - c1) rfl (by omega) ?_
              refine ezw_iload_n rfl rfl ?_
              refine ezw_iload rfl rfl ?_
              refine ezw_iadd (k := a2) rfl (by omega) ?_
              refine ezw_call0_2 rfl (by omega) (ezm_at rfl) rfl rfl rfl rfl (ezm_m323a hT (by omega) ⟨by omega, by omega⟩ ⟨by omega, by omega⟩ tf hB) ?_
              rintro _ _ ⟨rfl, u18, hu18, p17_0, p17_1, rfl⟩
              refine ezw_if_ne rfl rfl ⟨by omega, by omega⟩ (fun h82_18 => ?_) (fun h82_18 => ?_)
              · refine ezw_iconst (0) rfl rfl ?_
                refine ezw_istore rfl rfl ?_
                refine ezw_iinc (k := c1 + 1) (1) rfl rfl rfl (by omega) rfl ?_
                refine ezw_goto rfl rfl ?_
                exact ezw_keepE [true, true, true, true, true, true, false, false] (ihc1 (c1 + 1) (by omega) ⟨by omega, by omega⟩ (0) ⟨by decide, by decide⟩ (by omega) (by omega) (by omega) (fun y => by
                      first
                        | (exfalso; omega)
                        | exact ezp_sfnT (by omega) (sf_2 (by omega)) (X := (a1 - c1)) (Y := a2) (by rw [hox]; omega) (by rw [hoy]; omega) (p17_1 (by omega))) (fun y => by
                      first
                        | (exfalso; omega)
                        | exact ezp_sfnX (by omega) (sz_2 (by omega))
                        | exact ezp_sfnF (k := c1) (by omega) (by omega) (X := a1 - c1) (Y := a2) (by rw [hox]; omega) (by rw [hoy]; omega) (p17_0 (by omega))))
              · refine ezw_iconst (1) rfl rfl ?_
                refine ezw_goto rfl rfl ?_
                refine ezw_istore rfl rfl ?_
                refine ezw_iinc (k := c1 + 1) (1) rfl rfl rfl (by omega) rfl ?_
                refine ezw_goto rfl rfl ?_
                exact ezw_keepE [true, true, true, true, true, true, false, false] (ihc1 (c1 + 1) (by omega) ⟨by omega, by omega⟩ (1) ⟨by decide, by decide⟩ (by omega) (by omega) (by omega) (fun y => by
                      first
                        | (exfalso; omega)
                        | exact ezp_sfnT (by omega) (sf_2 (by omega)) (X := (a1 - c1)) (Y := a2) (by rw [hox]; omega) (by rw [hoy]; omega) (p17_1 (by omega))) (fun y => by
                      first
                        | (exfalso; omega)
                        | exact ezp_sfnX (by omega) (sz_2 (by omega))
                        | exact ezp_sfnF (k := c1) (by omega) (by omega) (X := a1 - c1) (Y := a2) (by rw [hox]; omega) (by rw [hoy]; omega) (p17_0 (by omega))))
          · refine ezw_iload rfl rfl ?_
            refine ezw_ineg (k := -c1) rfl (by omega) ?_
            refine ezw_goto rfl rfl ?_
            refine ezw_istore rfl rfl ?_
            have hox : ezp_ox a3 = (-1) := by
              unfold ezp_ox
              (repeat' split) <;> omega
            have hoy : ezp_oy a3 = (-1) := by
              unfold ezp_oy
              (repeat' split) <;> omega
            refine ezw_iload rfl rfl ?_
            refine ezw_if_eq rfl rfl hy3 (fun h67_18 => ?_) (fun h67_18 => ?_)
            · refine ezw_iconst (0) rfl rfl ?_
              refine ezw_istore rfl rfl ?_
              refine ezw_iinc (k := c1 + 1) (1) rfl rfl rfl (by omega) rfl ?_
              refine ezw_goto rfl rfl ?_
              exact ezw_keepE [true, true, true, true, true, true, false, false] (ihc1 (c1 + 1) (by omega) ⟨by omega, by omega⟩ (0) ⟨by decide, by decide⟩ (by omega) (by omega) (by omega) (fun y => by
                    exfalso
                    omega) (fun y => by
                    first
                      | (exfalso; omega)
                      | exact ezp_sfnX (by omega) (sz_2 (by omega))))
            · refine ezw_aload_n rfl rfl ?_
              refine ezw_iload_n rfl rfl ?_
              refine ezw_iload rfl rfl ?_
              refine ezw_iadd (k := a1 - c1) rfl (by omega) ?_
              refine ezw_iload_n rfl rfl ?_
              refine ezw_iload rfl rfl ?_
              refine ezw_iadd (k := a2 - c1) rfl (by omega) ?_
              refine ezw_call0_2 rfl (by omega) (ezm_at rfl) rfl rfl rfl rfl (ezm_m323a hT (by omega) ⟨by omega, by omega⟩ ⟨by omega, by omega⟩ tf hB) ?_
              rintro _ _ ⟨rfl, u20, hu20, p19_0, p19_1, rfl⟩
              refine ezw_if_ne rfl rfl ⟨by omega, by omega⟩ (fun h82_20 => ?_) (fun h82_20 => ?_)
              · refine ezw_iconst (0) rfl rfl ?_
                refine ezw_istore rfl rfl ?_
                refine ezw_iinc (k := c1 + 1) (1) rfl rfl rfl (by omega) rfl ?_
                refine ezw_goto rfl rfl ?_
                exact ezw_keepE [true, true, true, true, true, true, false, false] (ihc1 (c1 + 1) (by omega) ⟨by omega, by omega⟩ (0) ⟨by decide, by decide⟩ (by omega) (by omega) (by omega) (fun y => by
                      first
                        | (exfalso; omega)
                        | exact ezp_sfnT (by omega) (sf_2 (by omega)) (X := (a1 - c1)) (Y := (a2 - c1)) (by rw [hox]; omega) (by rw [hoy]; omega) (p19_1 (by omega))) (fun y => by
                      first
                        | (exfalso; omega)
                        | exact ezp_sfnX (by omega) (sz_2 (by omega))
                        | exact ezp_sfnF (k := c1) (by omega) (by omega) (X := a1 - c1) (Y := a2 - c1) (by rw [hox]; omega) (by rw [hoy]; omega) (p19_0 (by omega))))
              · refine ezw_iconst (1) rfl rfl ?_
                refine ezw_goto rfl rfl ?_
                refine ezw_istore rfl rfl ?_
                refine ezw_iinc (k := c1 + 1) (1) rfl rfl rfl (by omega) rfl ?_
                refine ezw_goto rfl rfl ?_
                exact ezw_keepE [true, true, true, true, true, true, false, false] (ihc1 (c1 + 1) (by omega) ⟨by omega, by omega⟩ (1) ⟨by decide, by decide⟩ (by omega) (by omega) (by omega) (fun y => by
                      first
                        | (exfalso; omega)
                        | exact ezp_sfnT (by omega) (sf_2 (by omega)) (X := (a1 - c1)) (Y := (a2 - c1)) (by rw [hox]; omega) (by rw [hoy]; omega) (p19_1 (by omega))) (fun y => by
                      first
                        | (exfalso; omega)
                        | exact ezp_sfnX (by omega) (sz_2 (by omega))
                        | exact ezp_sfnF (k := c1) (by omega) (by omega) (X := a1 - c1) (Y := a2 - c1) (by rw [hox]; omega) (by rw [hoy]; omega) (p19_0 (by omega))))
        · refine ezw_iload rfl rfl ?_
          refine ezw_goto rfl rfl ?_
          refine ezw_istore rfl rfl ?_
          have hox : ezp_ox a3 = (-1) := by
            unfold ezp_ox
            (repeat' split) <;> omega
          have hoy : ezp_oy a3 = (1) := by
            unfold ezp_oy
            (repeat' split) <;> omega
          refine ezw_iload rfl rfl ?_
          refine ezw_if_eq rfl rfl hy3 (fun h67_20 => ?_) (fun h67_20 => ?_)
          · refine ezw_iconst (0) rfl rfl ?_
            refine ezw_istore rfl rfl ?_
            refine ezw_iinc (k := c1 + 1) (1) rfl rfl rfl (by omega) rfl ?_
            refine ezw_goto rfl rfl ?_
            exact ezw_keepE [true, true, true, true, true, true, false, false] (ihc1 (c1 + 1) (by omega) ⟨by omega, by omega⟩ (0) ⟨by decide, by decide⟩ (by omega) (by omega) (by omega) (fun y => by
                  exfalso
                  omega) (fun y => by
                  first
                    | (exfalso; omega)
                    | exact ezp_sfnX (by omega) (sz_2 (by omega))))
          · refine ezw_aload_n rfl rfl ?_
            refine ezw_iload_n rfl rfl ?_
            refine ezw_iload rfl rfl ?_
            refine ezw_iadd (k := a1 - c1) rfl (by omega) ?_
            refine ezw_iload_n rfl rfl ?_
            refine ezw_iload rfl rfl ?_
            refine ezw_iadd (k := a2 + c1) rfl (by omega) ?_
            refine ezw_call0_2 rfl (by omega) (ezm_at rfl) rfl rfl rfl rfl (ezm_m323a hT (by omega) ⟨by omega, by omega⟩ ⟨by omega, by omega⟩ tf hB) ?_
            rintro _ _ ⟨rfl, u22, hu22, p21_0, p21_1, rfl⟩
            refine ezw_if_ne rfl rfl ⟨by omega, by omega⟩ (fun h82_22 => ?_) (fun h82_22 => ?_)
            · refine ezw_iconst (0) rfl rfl ?_
              refine ezw_istore rfl rfl ?_
              refine ezw_iinc (k := c1 + 1) (1) rfl rfl rfl (by omega) rfl ?_
              refine ezw_goto rfl rfl ?_
              exact ezw_keepE [true, true, true, true, true, true, false, false] (ihc1 (c1 + 1) (by omega) ⟨by omega, by omega⟩ (0) ⟨by decide, by decide⟩ (by omega) (by omega) (by omega) (fun y => by
                    first
                      | (exfalso; omega)
                      | exact ezp_sfnT (by omega) (sf_2 (by omega)) (X := (a1 - c1)) (Y := (a2 + c1)) (by rw [hox]; omega) (by rw [hoy]; omega) (p21_1 (by omega))) (fun y => by
                    first
                      | (exfalso; omega)
                      | exact ezp_sfnX (by omega) (sz_2 (by omega))
                      | exact ezp_sfnF (k := c1) (by omega) (by omega) (X := a1 - c1) (Y := a2 + c1) (by rw [hox]; omega) (by rw [hoy]; omega) (p21_0 (by omega))))
            · refine ezw_iconst (1) rfl rfl ?_
              refine ezw_goto rfl rfl ?_
              refine ezw_istore rfl rfl ?_
              refine ezw_iinc (k := c1 + 1) (1) rfl rfl rfl (by omega) rfl ?_
              refine ezw_goto rfl rfl ?_
              exact ezw_keepE [true, true, true, true, true, true, false, false] (ihc1 (c1 + 1) (by omega) ⟨by omega, by omega⟩ (1) ⟨by decide, by decide⟩ (by omega) (by omega) (by omega) (fun y => by
                    first
                      | (exfalso; omega)
                      | exact ezp_sfnT (by omega) (sf_2 (by omega)) (X := (a1 - c1)) (Y := (a2 + c1)) (by rw [hox]; omega) (by rw [hoy]; omega) (p21_1 (by omega))) (fun y => by
                    first
                      | (exfalso; omega)
                      | exact ezp_sfnX (by omega) (sz_2 (by omega))
                      | exact ezp_sfnF (k := c1) (by omega) (by omega) (X := a1 - c1) (Y := a2 + c1) (by rw [hox]; omega) (by rw [hoy]; omega) (p21_0 (by omega))))
  exact ezw_keepE [true, true, true, true, true, true, false, false] (L6_2 (0) ⟨by decide, by decide⟩ (1) ⟨by decide, by decide⟩ (by omega) (by omega) (by omega) (fun _ => rfl) (fun y => by omega))
def ezm_m321aQ (e : Bool × Bool) (F : Nat → Nat → Int) (A : Nat → Int → Int) (i0 i2 i3 i7 i8 i13 i18 i19 i20 i25 i29 i30 i31 i36 i37 i38 : Int) (r73 r74 r75 r76 r77 r78 r79 r80 r81 r82 r83 r84 r85 r86 r87 r88 r89 r90 r91 r92 r93 r94 r95 : Int → Int) (z : ezp_D) (a1 : Int) (a2 : Int) : Option ezq_V → (Nat → ezq_C) → Prop := fun v g' => ezm_h e F A i0 i2 i3 i7 i8 i13 i18 i19 i20 i25 i29 i30 i31 i36 i37 i38 r73 r74 r75 r76 r77 r78 r79 r80 r81 r82 r83 r84 r85 r86 r87 r88 r89 r90 r91 r92 r93 r94 r95 = g' ∧ ∃ u : Int, (ezw_in u) ∧ (u = ezp_ss z a1 a2) ∧ some (ezw_i u) = v
theorem ezm_m321a {z : ezp_D} {a1 a2 : Int} (hT : ezm_T i0 i2 i3 i7 i8 i13 i18 i19 i20 i25 i29 i30 i31 i36 i37 i38 r73 r74 r75 r76 r77 r78 r79 r80 r81 r82 r83 r84 r85 r86 r87 r88 r89 r90 r91 r92 r93 r94 r95) (hd : 2 ≤ d) (ha1 : ezw_in a1) (ha2 : ezw_in a2) (ga : 0 ≤ a1 ∧ a1 < 16 ∧ 0 ≤ a2 ∧ a2 < 16) (tf : ezm_TRF z i18 r78 r81 r83) (hB : ezp_B z) : ezw_C l ρ B xa Hb D cA 321 d [ezw_p 72, ezw_i a1, ezw_i a2] (ezm_h e F A i0 i2 i3 i7 i8 i13 i18 i19 i20 i25 i29 i30 i31 i36 i37 i38 r73 r74 r75 r76 r77 r78 r79 r80 r81 r82 r83 r84 r85 r86 r87 r88 r89 r90 r91 r92 r93 r94 r95) (ezm_m321aQ  e F A i0 i2 i3 i7 i8 i13 i18 i19 i20 i25 i29 i30 i31 i36 i37 i38 r73 r74 r75 r76 r77 r78 r79 r80 r81 r82 r83 r84 r85 r86 r87 r88 r89 r90 r91 r92 r93 r94 r95 z a1 a2) := by
  refine ezw_met (k := 2) rfl rfl ?_
  obtain ⟨⟨k0, k1, k2, k3⟩, ktw, kth, kov, ksg, kel, knu, knm⟩ := ezm_TRFi tf
  obtain ⟨b1, b2, b3, b4, b5, b6, b7, ⟨b8, b8'⟩, b9⟩ := id hB
  refine ezw_iconst (0) rfl rfl ?_
  refine ezw_istore_n rfl rfl ?_
  refine ezw_iconst (0) rfl rfl ?_
  refine ezw_istore rfl rfl ?_
  have L5_2 : ∀ c1 : Int, ezw_in c1 → ∀ y3 : Int, ezw_in y3 → ((0) ≤ c1) → (y3 = ezp_ssn z a1 a2 (c1).toNat) → (c1 ≤ 4) → ezw_E l ρ B xa Hb D cA d ezq_re321 (ezm_m321aQ  e F A i0 i2 i3 i7 i8 i13 i18 i19 i20 i25 i29 i30 i31 i36 i37 i38 r73 r74 r75 r76 r77 r78 r79 r80 r81 r82 r83 r84 r85 r86 r87 r88 r89 r90 r91 r92 r93 r94 r95 z a1 a2) 5 [some (ezw_p 72), some (ezw_i a1), some (ezw_i a2), some (ezw_i y3), some (ezw_i c1)] [] (ezm_h e F A i0 i2 i3 i7 i8 i13 i18 i19 i20 i25 i29 i30 i31 i36 i37 i38 r73 r74 r75 r76 r77 r78 r79 r80 r81 r82 r83 r84 r85 r86 r87 r88 r89 r90 r91 r92 r93 r94 r95) := by
    refine ezs_up ?_
    intro c1 hc1 ihc1 y3 hy3 g_2 ss_2 sb_2
    refine ezw_iload rfl rfl ?_
    refine ezw_iconst (4) rfl rfl ?_
    refine ezw_icmp_ge rfl rfl hc1 ⟨by decide, by decide⟩ (fun h8_3 => ?_) (fun h8_3 => ?_)
    · refine ezw_iload_n rfl rfl ?_
      exact ezw_ireturn rfl rfl ⟨rfl, y3, hy3, (by rw [ss_2, show c1 = 4 by omega]; rfl), rfl⟩
    · refine ezw_iload_n rfl rfl ?_
      refine ezw_aload_n rfl rfl ?_
      refine ezw_iload_n rfl rfl ?_
      refine ezw_iload_n rfl rfl ?_
      refine ezw_iload rfl rfl ?_
      refine ezw_call0_3 rfl (by omega) (ezm_at rfl) rfl rfl rfl rfl (ezm_m322a hT (by omega) ha1 ha2 hc1 (by omega) tf hB) ?_
      rintro _ _ ⟨rfl, u5, hu5, p4_0, p4_1, rfl⟩
      refine ezw_if_eq rfl rfl ⟨by omega, by omega⟩ (fun h20_5 => ?_) (fun h20_5 => ?_)
      · refine ezw_iconst (0) rfl rfl ?_
        refine ezw_ior rfl (k := ezw_or y3 0) rfl ?_
        refine ezw_istore_n rfl rfl ?_
        refine ezw_iinc (k := c1 + 1) (1) rfl rfl rfl (by omega) rfl ?_
        refine ezw_goto rfl rfl ?_
        exact ezw_keepE [true, true, true, true, true] (ihc1 (c1 + 1) (by omega) ⟨by omega, by omega⟩ (ezw_or y3 0) (by
              have h9 := ezp_ss_in (t := z) (x := a1) (y := a2) (s := c1) (by omega) (by omega)
              rw [ss_2, ezp_ss_or0 (by omega) (by omega)]
              exact ⟨by omega, by omega⟩) (by omega) (by
              first
                | (rw [ezp_ss_F (by omega) (p4_1 (by omega)), ss_2]; exact ezp_ss_or0 (by omega) (by omega))
                | (rw [ss_2]; exact ezp_ss_T (by omega) (by omega) (p4_0 (by omega)))) (by omega))
      · refine ezw_iconst (1) rfl rfl ?_
        refine ezw_iload rfl rfl ?_
        refine ezw_ishl rfl (by omega) (by omega) (k := (1 * 2 ^ (c1).toNat)) (rfl) ?_
        refine ezw_goto rfl rfl ?_
        refine ezw_ior rfl (k := ezw_or y3 (1 * 2 ^ (c1).toNat)) rfl ?_
        refine ezw_istore_n rfl rfl ?_
        refine ezw_iinc (k := c1 + 1) (1) rfl rfl rfl (by omega) rfl ?_
        refine ezw_goto rfl rfl ?_
        exact ezw_keepE [true, true, true, true, true] (ihc1 (c1 + 1) (by omega) ⟨by omega, by omega⟩ ((ezw_or y3 (1 * 2 ^ (c1).toNat))) (by
              have h8 := ezp_ss_T (t := z) (x := a1) (y := a2) (s := c1) (by omega) (by omega) (p4_0 (by omega))
              have h9 := ezp_ss_in (t := z) (x := a1) (y := a2) (s := c1 + 1) (by omega) (by omega)
              rw [ss_2, h8]
              exact ⟨by omega, by omega⟩) (by omega) (by
              first
                | (rw [ezp_ss_F (by omega) (p4_1 (by omega)), ss_2]; exact ezp_ss_or0 (by omega) (by omega))
                | (rw [ss_2]; exact ezp_ss_T (by omega) (by omega) (p4_0 (by omega)))) (by omega))
  exact ezw_keepE [true, true, true, true, true] (L5_2 (0) ⟨by decide, by decide⟩ (0) ⟨by decide, by decide⟩ (by omega) rfl (by omega))
def ezm_m319aQ (e : Bool × Bool) (F : Nat → Nat → Int) (A : Nat → Int → Int) (i0 i2 i3 i7 i8 i13 i18 i19 i20 i25 i29 i30 i31 i36 i37 i38 : Int) (r73 r74 r75 r76 r77 r78 r79 r80 r81 r82 r83 r84 r85 r86 r87 r88 r89 r90 r91 r92 r93 r94 r95 : Int → Int) (z : ezp_D) (a1 : Int) (a2 : Int) : Option ezq_V → (Nat → ezq_C) → Prop := fun v g' => ∃ (x0 : Int), ezm_h e F A x0 i2 i3 i7 i8 i13 i18 i19 i20 i25 i29 i30 i31 i36 i37 i38 r73 r74 r75 r76 r77 r78 r79 r80 r81 r82 r83 r84 r85 r86 r87 r88 r89 r90 r91 r92 r93 r94 r95 = g' ∧ ezm_T x0 i2 i3 i7 i8 i13 i18 i19 i20 i25 i29 i30 i31 i36 i37 i38 r73 r74 r75 r76 r77 r78 r79 r80 r81 r82 r83 r84 r85 r86 r87 r88 r89 r90 r91 r92 r93 r94 r95 ∧ ∃ u : Int, (ezw_in u) ∧ (u = ezp_sa z a1 a2) ∧ some (ezw_i u) = v
theorem ezm_m319a {z : ezp_D} {a1 a2 : Int} (hT : ezm_T i0 i2 i3 i7 i8 i13 i18 i19 i20 i25 i29 i30 i31 i36 i37 i38 r73 r74 r75 r76 r77 r78 r79 r80 r81 r82 r83 r84 r85 r86 r87 r88 r89 r90 r91 r92 r93 r94 r95) (hd : 3 ≤ d) (ha1 : ezw_in a1) (ha2 : ezw_in a2) (tf : ezm_TRF z i18 r78 r81 r83) (hB : ezp_B z) : ezw_C l ρ B xa Hb D cA 319 d [ezw_p 72, ezw_i a1, ezw_i a2] (ezm_h e F A i0 i2 i3 i7 i8 i13 i18 i19 i20 i25 i29 i30 i31 i36 i37 i38 r73 r74 r75 r76 r77 r78 r79 r80 r81 r82 r83 r84 r85 r86 r87 r88 r89 r90 r91 r92 r93 r94 r95) (ezm_m319aQ  e F A i0 i2 i3 i7 i8 i13 i18 i19 i20 i25 i29 i30 i31 i36 i37 i38 r73 r74 r75 r76 r77 r78 r79 r80 r81 r82 r83 r84 r85 r86 r87 r88 r89 r90 r91 r92 r93 r94 r95 z a1 a2) := by
  refine ezw_met (k := 0) rfl rfl ?_
  refine ezw_aload_n rfl rfl ?_
  refine ezw_iconst (0) rfl rfl ?_
  refine ezm_p0 hT rfl ⟨by decide, by decide⟩ (fun hT => ?_)
  refine ezw_iload_n rfl rfl ?_
  refine ezw_iload_n rfl rfl ?_
  refine ezw_call2_2 rfl (by omega) rfl rfl (ezm_m320a hT (by omega) ha1 ha2) ?_
  rintro _ _ ⟨rfl, u2, hu2, p1_0, p1_1, rfl⟩
  refine ezw_if_eq rfl rfl ⟨by omega, by omega⟩ (fun h10_2 => ?_) (fun h10_2 => ?_)
  · refine ezw_iconst (-1) rfl rfl ?_
    exact ezw_ireturn rfl rfl ⟨(0), rfl, hT, (-1), ⟨by decide, by decide⟩, by
          unfold ezp_sa
          first
            | (rw [if_neg (p1_1 (by omega))])
            | (rw [if_pos (p1_0 (by omega))]; exact (show False by omega)), rfl⟩
  · refine ezw_aload_n rfl rfl ?_
    refine ezw_iload_n rfl rfl ?_
    refine ezw_iload_n rfl rfl ?_
    refine ezw_call0_2 rfl (by omega) (ezm_at rfl) rfl rfl rfl rfl (ezm_m321a hT (by omega) ha1 ha2 (by omega) tf hB) ?_
    rintro _ _ ⟨rfl, u4, hu4, an_3, rfl⟩
    refine ezw_goto rfl rfl ?_
    exact ezw_ireturn rfl rfl ⟨(0), rfl, hT, u4, hu4, by
          unfold ezp_sa
          first
            | (rw [if_neg (p1_1 (by omega))])
            | (rw [if_pos (p1_0 (by omega))]; exact an_3), rfl⟩
def ezm_m236aQ (e : Bool × Bool) (F : Nat → Nat → Int) (A : Nat → Int → Int) (i0 i2 i3 i7 i8 i13 i18 i19 i20 i25 i29 i30 i31 i36 i37 i38 : Int) (r73 r74 r75 r76 r77 r78 r79 r80 r81 r82 r83 r84 r85 r86 r87 r88 r89 r90 r91 r92 r93 r94 r95 : Int → Int) (a0 : Int) (a1 : Int) (a2 : Int) : Option ezq_V → (Nat → ezq_C) → Prop := fun v g' => ezm_h e F A i0 i2 i3 i7 i8 i13 i18 i19 i20 i25 i29 i30 i31 i36 i37 i38 r73 r74 r75 r76 r77 r78 r79 r80 r81 r82 r83 r84 r85 r86 r87 r88 r89 r90 r91 r92 r93 r94 r95 = g' ∧ ∃ u : Int, (0 ≤ u ∧ u ≤ 1) ∧ (u = 1 → a1 ≤ a0 ∧ a0 ≤ a2) ∧ (u = 0 → a0 < a1 ∨ a2 < a0) ∧ some (ezw_i u) = v
theorem ezm_m236a {a0 a1 a2 : Int} (hT : ezm_T i0 i2 i3 i7 i8 i13 i18 i19 i20 i25 i29 i30 i31 i36 i37 i38 r73 r74 r75 r76 r77 r78 r79 r80 r81 r82 r83 r84 r85 r86 r87 r88 r89 r90 r91 r92 r93 r94 r95) (hd : 0 ≤ d) (ha0 : ezw_in a0) (ha1 : ezw_in a1) (ha2 : ezw_in a2) : ezw_C l ρ B xa Hb D cA 236 d [ezw_i a0, ezw_i a1, ezw_i a2] (ezm_h e F A i0 i2 i3 i7 i8 i13 i18 i19 i20 i25 i29 i30 i31 i36 i37 i38 r73 r74 r75 r76 r77 r78 r79 r80 r81 r82 r83 r84 r85 r86 r87 r88 r89 r90 r91 r92 r93 r94 r95) (ezm_m236aQ  e F A i0 i2 i3 i7 i8 i13 i18 i19 i20 i25 i29 i30 i31 i36 i37 i38 r73 r74 r75 r76 r77 r78 r79 r80 r81 r82 r83 r84 r85 r86 r87 r88 r89 r90 r91 r92 r93 r94 r95 a0 a1 a2) := by
  refine ezw_met (k := 0) rfl rfl ?_
  refine ezw_iload_n rfl rfl ?_
  refine ezw_iload_n rfl rfl ?_
  refine ezw_icmp_lt rfl rfl ha0 ha1 (fun h2_0 => ?_) (fun h2_0 => ?_)
  · refine ezw_iconst (0) rfl rfl ?_
    exact ezw_ireturn rfl (ezw_zret ⟨by omega, by omega⟩) ⟨rfl, (0), ⟨by omega, by omega⟩, by omega, by omega, rfl⟩
  · refine ezw_iload_n rfl rfl ?_
    refine ezw_iload_n rfl rfl ?_
    refine ezw_icmp_gt rfl rfl ha0 ha2 (fun h7_0 => ?_) (fun h7_0 => ?_)
    · refine ezw_iconst (0) rfl rfl ?_
      exact ezw_ireturn rfl (ezw_zret ⟨by omega, by omega⟩) ⟨rfl, (0), ⟨by omega, by omega⟩, by omega, by omega, rfl⟩
    · refine ezw_iconst (1) rfl rfl ?_
      refine ezw_goto rfl rfl ?_
      exact ezw_ireturn rfl (ezw_zret ⟨by omega, by omega⟩) ⟨rfl, (1), ⟨by omega, by omega⟩, by omega, by omega, rfl⟩
def ezm_m324aQ (e : Bool × Bool) (F : Nat → Nat → Int) (A : Nat → Int → Int) (i0 i2 i3 i7 i8 i13 i18 i19 i20 i25 i29 i30 i31 i36 i37 i38 : Int) (r73 r74 r75 r76 r77 r78 r79 r80 r81 r82 r83 r84 r85 r86 r87 r88 r89 r90 r91 r92 r93 r94 r95 : Int → Int) (z : ezp_D) (a1 : Int) : Option ezq_V → (Nat → ezq_C) → Prop := fun v g' => ∃ (x0 : Int), ezm_h e F A x0 i2 i3 i7 i8 i13 i18 i19 i20 i25 i29 i30 i31 i36 i37 i38 r73 r74 r75 r76 r77 r78 r79 r80 r81 r82 r83 r84 r85 r86 r87 r88 r89 r90 r91 r92 r93 r94 r95 = g' ∧ ezm_T x0 i2 i3 i7 i8 i13 i18 i19 i20 i25 i29 i30 i31 i36 i37 i38 r73 r74 r75 r76 r77 r78 r79 r80 r81 r82 r83 r84 r85 r86 r87 r88 r89 r90 r91 r92 r93 r94 r95 ∧ ∃ u : Int, (ezw_in u) ∧ (u = ezp_pla z a1) ∧ some (ezw_i u) = v
set_option maxHeartbeats 1000000 in
theorem ezm_m324a {z : ezp_D} {a1 : Int} (hT : ezm_T i0 i2 i3 i7 i8 i13 i18 i19 i20 i25 i29 i30 i31 i36 i37 i38 r73 r74 r75 r76 r77 r78 r79 r80 r81 r82 r83 r84 r85 r86 r87 r88 r89 r90 r91 r92 r93 r94 r95) (hd : 3 ≤ d) (ha1 : ezw_in a1) (tf : ezm_TRF z i18 r78 r81 r83) (hB : ezp_B z) : ezw_C l ρ B xa Hb D cA 324 d [ezw_p 72, ezw_i a1] (ezm_h e F A i0 i2 i3 i7 i8 i13 i18 i19 i20 i25 i29 i30 i31 i36 i37 i38 r73 r74 r75 r76 r77 r78 r79 r80 r81 r82 r83 r84 r85 r86 r87 r88 r89 r90 r91 r92 r93 r94 r95) (ezm_m324aQ  e F A i0 i2 i3 i7 i8 i13 i18 i19 i20 i25 i29 i30 i31 i36 i37 i38 r73 r74 r75 r76 r77 r78 r79 r80 r81 r82 r83 r84 r85 r86 r87 r88 r89 r90 r91 r92 r93 r94 r95 z a1) := by
  refine ezw_met (k := 3) rfl rfl ?_
  obtain ⟨⟨k0, k1, k2, k3⟩, ktw, kth, kov, ksg, kel, knu, knm⟩ := ezm_TRFi tf
  obtain ⟨b1, b2, b3, b4, b5, b6, b7, ⟨b8, b8'⟩, b9⟩ := id hB
  refine ezw_aload_n rfl rfl ?_
  refine ezw_iconst (0) rfl rfl ?_
  refine ezm_p0 hT rfl ⟨by decide, by decide⟩ (fun hT => ?_)
  refine ezw_iload_n rfl rfl ?_
  refine ezw_iconst (-1) rfl rfl ?_
  refine ezw_iconst (3) rfl rfl ?_
  refine ezw_call2_3 rfl (by omega) rfl rfl (ezm_m236a hT (by omega) ha1 ⟨by decide, by decide⟩ ⟨by decide, by decide⟩) ?_
  rintro _ _ ⟨rfl, u2, hu2, p1_0, p1_1, rfl⟩
  refine ezw_if_ne rfl rfl ⟨by omega, by omega⟩ (fun h11_2 => ?_) (fun h11_2 => ?_)
  · refine ezw_iconst (0) rfl rfl ?_
    refine ezw_istore_n rfl rfl ?_
    refine ezw_iconst (0) rfl rfl ?_
    refine ezw_istore_n rfl rfl ?_
    have L20_4 : ∀ c3 : Int, ezw_in c3 → ∀ y5 : Int, ezw_in y5 → ((0) ≤ c3) → (y5 = ezp_sm (fun k => ezp_ht z a1 (k % 16) (k / 16)) (c3).toNat) → (c3 ≤ 256) → (0 ≤ y5 ∧ y5 ≤ c3) → ezw_E l ρ B xa Hb D cA d ezq_re324 (ezm_m324aQ  e F A i0 i2 i3 i7 i8 i13 i18 i19 i20 i25 i29 i30 i31 i36 i37 i38 r73 r74 r75 r76 r77 r78 r79 r80 r81 r82 r83 r84 r85 r86 r87 r88 r89 r90 r91 r92 r93 r94 r95 z a1) 20 [some (ezw_p 72), some (ezw_i a1), some (ezw_i y5), some (ezw_i c3), none] [] (ezm_h e F A (0) i2 i3 i7 i8 i13 i18 i19 i20 i25 i29 i30 i31 i36 i37 i38 r73 r74 r75 r76 r77 r78 r79 r80 r81 r82 r83 r84 r85 r86 r87 r88 r89 r90 r91 r92 r93 r94 r95) := by
      refine ezs_up ?_
      intro c3 hc3 ihc3 y5 hy5 g_4 sm_4 sb_4 sr_4
      refine ezw_iload_n rfl rfl ?_
      refine ezw_sipush (256) rfl rfl ?_
      refine ezw_icmp_ge rfl rfl hc3 ⟨by decide, by decide⟩ (fun h24_5 => ?_) (fun h24_5 => ?_)
      · refine ezw_iload_n rfl rfl ?_
        exact ezw_ireturn rfl rfl ⟨(0), rfl, hT, y5, hy5, by
              unfold ezp_pla
              first
                | (rw [if_neg (by omega)]; done)
                | (rw [if_pos (by omega), ← ezp_pl2_k]
                   have h7 := sm_4
                   rw [show c3 = 256 by omega] at h7
                   exact h7), rfl⟩
      · refine ezw_aload_n rfl rfl ?_
        refine ezw_iload_n rfl rfl ?_
        refine ezw_bipush (16) rfl rfl ?_
        refine ezm_irem rfl hc3 ⟨by decide, by decide⟩ (by decide) (fun u6 hu6 ku6 => ?_)
        refine ezw_iload_n rfl rfl ?_
        refine ezw_bipush (16) rfl rfl ?_
        refine ezm_idiv rfl hc3 ⟨by decide, by decide⟩ (by decide) (fun u7 hu7 ku7 => ?_)
        refine ezw_call0_2 rfl (by omega) (ezm_at rfl) rfl rfl rfl rfl (ezm_m321a hT (by omega) hu6 hu7 (by omega) tf hB) ?_
        rintro _ _ ⟨rfl, u9, hu9, an_8, rfl⟩
        refine ezw_istore rfl rfl ?_
        have hss := ezp_ss_r (t := z) (x := c3 % 16) (y := c3 / 16)
        have han : u9 = ezp_ss z (c3 % 16) (c3 / 16) := by
          have h9 := an_8
          rw [ku6 (by omega), ku7 (by omega)] at h9
          exact h9
        have hsn : ezp_sm (fun k => ezp_ht z a1 (k % 16) (k / 16)) (c3 + 1).toNat = ezp_sm (fun k => ezp_ht z a1 (k % 16) (k / 16)) (c3).toNat + ezp_ht z a1 (c3 % 16) (c3 / 16) := ezp_sm_n (by omega)
        refine ezw_iload_n rfl rfl ?_
        refine ezw_iload_n rfl rfl ?_
        refine ezw_if_ge rfl rfl ha1 (fun h43_9 => ?_) (fun h43_9 => ?_)
        · refine ezw_iload rfl rfl ?_
          refine ezw_iload_n rfl rfl ?_
          refine ezw_ishr rfl hu9 (by omega) (by omega) (k := (u9 / 2 ^ (a1).toNat)) (rfl) ?_
          refine ezw_iconst (1) rfl rfl ?_
          refine ezw_iand rfl (k := ezw_and ((u9 / 2 ^ (a1).toNat)) 1) rfl ?_
          have h67 : 0 ≤ (ezw_and ((u9 / 2 ^ (a1).toNat)) 1) ∧ (ezw_and ((u9 / 2 ^ (a1).toNat)) 1) ≤ 1 := by
            rw [ezt_and1]
            omega
          refine ezw_iadd (k := y5 + (ezw_and ((u9 / 2 ^ (a1).toNat)) 1)) rfl (by omega) ?_
          refine ezw_istore_n rfl rfl ?_
          refine ezw_iinc (k := c3 + 1) (1) rfl rfl rfl (by omega) rfl ?_
          refine ezw_goto rfl rfl ?_
          exact ezw_keepE [true, true, true, true, false] (ihc3 (c3 + 1) (by omega) ⟨by omega, by omega⟩ (y5 + (ezw_and ((u9 / 2 ^ (a1).toNat)) 1)) ⟨by omega, by omega⟩ (by omega) (by
                have h7 := sm_4
                rw [hsn]
                have h8 : ezp_ht z a1 (c3 % 16) (c3 / 16) = (ezw_and ((u9 / 2 ^ (a1).toNat)) 1) := by
                  unfold ezp_ht
                  first
                    | (rw [if_neg (by omega), ← han]; exact (ezt_and1 _).symm)
                    | (rw [if_pos (by omega), if_pos (by omega)])
                    | (rw [if_pos (by omega), if_neg (by omega)])
                omega) (by omega) (by
                first
                  | omega
                  | (rw [ezt_and1] at *; omega)
                  | (simp only [ezt_and1] at *; omega)))
        · refine ezw_iload rfl rfl ?_
          refine ezw_bipush (15) rfl rfl ?_
          refine ezw_icmp_ne rfl rfl hu9 ⟨by decide, by decide⟩ (fun h50_9 => ?_) (fun h50_9 => ?_)
          · refine ezw_iconst (0) rfl rfl ?_
            refine ezw_goto rfl rfl ?_
            refine ezw_iadd (k := y5) rfl (by omega) ?_
            refine ezw_istore_n rfl rfl ?_
            refine ezw_iinc (k := c3 + 1) (1) rfl rfl rfl (by omega) rfl ?_
            refine ezw_goto rfl rfl ?_
            exact ezw_keepE [true, true, true, true, false] (ihc3 (c3 + 1) (by omega) ⟨by omega, by omega⟩ y5 ⟨by omega, by omega⟩ (by omega) (by
                  have h7 := sm_4
                  rw [hsn]
                  have h8 : ezp_ht z a1 (c3 % 16) (c3 / 16) = (0) := by
                    unfold ezp_ht
                    first
                      | (rw [if_neg (by omega), ← han]; exact (ezt_and1 _).symm)
                      | (rw [if_pos (by omega), if_pos (by omega)])
                      | (rw [if_pos (by omega), if_neg (by omega)])
                  omega) (by omega) (by
                  first
                    | omega
                    | (rw [ezt_and1] at *; omega)
                    | (simp only [ezt_and1] at *; omega)))
          · refine ezw_iconst (1) rfl rfl ?_
            refine ezw_goto rfl rfl ?_
            refine ezw_iadd (k := y5 + 1) rfl (by omega) ?_
            refine ezw_istore_n rfl rfl ?_
            refine ezw_iinc (k := c3 + 1) (1) rfl rfl rfl (by omega) rfl ?_
            refine ezw_goto rfl rfl ?_
            exact ezw_keepE [true, true, true, true, false] (ihc3 (c3 + 1) (by omega) ⟨by omega, by omega⟩ (y5 + 1) ⟨by omega, by omega⟩ (by omega) (by
                  have h7 := sm_4
                  rw [hsn]
                  have h8 : ezp_ht z a1 (c3 % 16) (c3 / 16) = (1) := by
                    unfold ezp_ht
                    first
                      | (rw [if_neg (by omega), ← han]; exact (ezt_and1 _).symm)
                      | (rw [if_pos (by omega), if_pos (by omega)])
                      | (rw [if_pos (by omega), if_neg (by omega)])
                  omega) (by omega) (by
                  first
                    | omega
                    | (rw [ezt_and1] at *; omega)
                    | (simp only [ezt_and1] at *; omega)))
    exact ezw_keepE [true, true, true, true, false] (L20_4 (0) ⟨by decide, by decide⟩ (0) ⟨by decide, by decide⟩ (by omega) rfl (by omega) (by omega))
  · refine ezw_iconst (-1) rfl rfl ?_
    exact ezw_ireturn rfl rfl ⟨(0), rfl, hT, (-1), ⟨by decide, by decide⟩, by
          unfold ezp_pla
          first
            | (rw [if_neg (by omega)]; done)
            | (rw [if_pos (by omega), ← ezp_pl2_k]
               have h7 := (show False by omega)
               rw [show 0 = 256 by omega] at h7
               exact h7), rfl⟩
def ezm_m325aQ (e : Bool × Bool) (F : Nat → Nat → Int) (A : Nat → Int → Int) (i0 i2 i3 i7 i8 i13 i18 i19 i20 i25 i29 i30 i31 i36 i37 i38 : Int) (r73 r74 r75 r76 r77 r78 r79 r80 r81 r82 r83 r84 r85 r86 r87 r88 r89 r90 r91 r92 r93 r94 r95 : Int → Int) (z : ezp_D) (a1 : Int) (a2 : Int) : Option ezq_V → (Nat → ezq_C) → Prop := fun v g' => ∃ (x0 : Int), ezm_h e F A x0 i2 i3 i7 i8 i13 i18 i19 i20 i25 i29 i30 i31 i36 i37 i38 r73 r74 r75 r76 r77 r78 r79 r80 r81 r82 r83 r84 r85 r86 r87 r88 r89 r90 r91 r92 r93 r94 r95 = g' ∧ ezm_T x0 i2 i3 i7 i8 i13 i18 i19 i20 i25 i29 i30 i31 i36 i37 i38 r73 r74 r75 r76 r77 r78 r79 r80 r81 r82 r83 r84 r85 r86 r87 r88 r89 r90 r91 r92 r93 r94 r95 ∧ ∃ u : Int, (ezw_in u) ∧ (ezp_nea z a1 a2 u) ∧ some (ezw_i u) = v
set_option maxHeartbeats 1000000 in
theorem ezm_m325a {z : ezp_D} {a1 a2 : Int} (hT : ezm_T i0 i2 i3 i7 i8 i13 i18 i19 i20 i25 i29 i30 i31 i36 i37 i38 r73 r74 r75 r76 r77 r78 r79 r80 r81 r82 r83 r84 r85 r86 r87 r88 r89 r90 r91 r92 r93 r94 r95) (hd : 3 ≤ d) (ha1 : ezw_in a1) (ha2 : ezw_in a2) (tf : ezm_TRF z i18 r78 r81 r83) (hB : ezp_B z) : ezw_C l ρ B xa Hb D cA 325 d [ezw_p 72, ezw_i a1, ezw_i a2] (ezm_h e F A i0 i2 i3 i7 i8 i13 i18 i19 i20 i25 i29 i30 i31 i36 i37 i38 r73 r74 r75 r76 r77 r78 r79 r80 r81 r82 r83 r84 r85 r86 r87 r88 r89 r90 r91 r92 r93 r94 r95) (ezm_m325aQ  e F A i0 i2 i3 i7 i8 i13 i18 i19 i20 i25 i29 i30 i31 i36 i37 i38 r73 r74 r75 r76 r77 r78 r79 r80 r81 r82 r83 r84 r85 r86 r87 r88 r89 r90 r91 r92 r93 r94 r95 z a1 a2) := by
  refine ezw_met (k := 5) rfl rfl ?_
  obtain ⟨⟨k0, k1, k2, k3⟩, ktw, kth, kov, ksg, kel, knu, knm⟩ := ezm_TRFi tf
  obtain ⟨b1, b2, b3, b4, b5, b6, b7, ⟨b8, b8'⟩, b9⟩ := id hB
  refine ezw_aload_n rfl rfl ?_
  refine ezw_iconst (0) rfl rfl ?_
  refine ezm_p0 hT rfl ⟨by decide, by decide⟩ (fun hT => ?_)
  refine ezw_iconst (-1) rfl rfl ?_
  refine ezw_istore_n rfl rfl ?_
  refine ezw_iconst (0) rfl rfl ?_
  refine ezw_istore rfl rfl ?_
  have L10_2 : ∀ c1 : Int, ezw_in c1 → ∀ y3 : Int, ezw_in y3 → ((0) ≤ c1) → (ezp_ne z a1 a2 (fun p r => 0 ≤ p ∧ p < 16 ∧ 0 ≤ r ∧ 16 * r + p < c1) y3) → (c1 ≤ 256) → (-1 ≤ y3 ∧ y3 ≤ 30) → (c1 = 0 ∨ 0 ≤ a1 ∧ a1 < 16 ∧ 0 ≤ a2 ∧ a2 < 16) → (c1 = 0 → y3 = -1) → ezw_E l ρ B xa Hb D cA d ezq_re325 (ezm_m325aQ  e F A i0 i2 i3 i7 i8 i13 i18 i19 i20 i25 i29 i30 i31 i36 i37 i38 r73 r74 r75 r76 r77 r78 r79 r80 r81 r82 r83 r84 r85 r86 r87 r88 r89 r90 r91 r92 r93 r94 r95 z a1 a2) 10 [some (ezw_p 72), some (ezw_i a1), some (ezw_i a2), some (ezw_i y3), some (ezw_i c1), none, none, none] [] (ezm_h e F A (0) i2 i3 i7 i8 i13 i18 i19 i20 i25 i29 i30 i31 i36 i37 i38 r73 r74 r75 r76 r77 r78 r79 r80 r81 r82 r83 r84 r85 r86 r87 r88 r89 r90 r91 r92 r93 r94 r95) := by
    refine ezs_up ?_
    intro c1 hc1 ihc1 y3 hy3 g_2 ne_2 sb_2 sr_2 z0_2 zn_2
    refine ezw_iload rfl rfl ?_
    refine ezw_sipush (256) rfl rfl ?_
    refine ezw_icmp_ge rfl rfl hc1 ⟨by decide, by decide⟩ (fun h15_3 => ?_) (fun h15_3 => ?_)
    · refine ezw_iload_n rfl rfl ?_
      exact ezw_ireturn rfl rfl ⟨(0), rfl, hT, y3, hy3, by
            first
              | exact Or.inr ⟨(show False by omega) (by omega), by omega⟩
              | exact Or.inl ⟨by omega, by omega, by omega, by omega, ezp_ne_c ne_2 (fun p r => ⟨fun h => by unfold ezp_map; omega, fun h => by unfold ezp_map at h; omega⟩)⟩, rfl⟩
    · refine ezw_iload_n rfl rfl ?_
      refine ezw_iload_n rfl rfl ?_
      refine ezw_call2_2 rfl (by omega) rfl rfl (ezm_m320a hT (by omega) ha1 ha2) ?_
      rintro _ _ ⟨rfl, u5, hu5, p4_0, p4_1, rfl⟩
      refine ezw_if_eq rfl rfl ⟨by omega, by omega⟩ (fun h23_5 => ?_) (fun h23_5 => ?_)
      · refine ezw_iload_n rfl rfl ?_
        exact ezw_ireturn rfl rfl ⟨(0), rfl, hT, y3, hy3, by
              first
                | exact Or.inr ⟨p4_1 (by omega), by omega⟩
                | exact Or.inl ⟨by omega, by omega, by omega, by omega, ezp_ne_c ne_2 (fun p r => ⟨fun h => by unfold ezp_map; omega, fun h => by unfold ezp_map at h; omega⟩)⟩, rfl⟩
      · refine ezw_iload rfl rfl ?_
        refine ezw_bipush (16) rfl rfl ?_
        refine ezm_irem rfl hc1 ⟨by decide, by decide⟩ (by decide) (fun u6 hu6 ku6 => ?_)
        refine ezw_iload_n rfl rfl ?_
        refine ezw_isub (k := u6 - a1) rfl (by omega) ?_
        refine ezw_istore rfl rfl ?_
        refine ezw_iload rfl rfl ?_
        refine ezw_bipush (16) rfl rfl ?_
        refine ezm_idiv rfl hc1 ⟨by decide, by decide⟩ (by decide) (fun u7 hu7 ku7 => ?_)
        refine ezw_iload_n rfl rfl ?_
        refine ezw_isub (k := u7 - a2) rfl (by omega) ?_
        refine ezw_istore rfl rfl ?_
        refine ezw_iload rfl rfl ?_
        refine ezw_if_ge rfl rfl ⟨by omega, by omega⟩ (fun h46_7 => ?_) (fun h46_7 => ?_)
        · refine ezw_iload rfl rfl ?_
          refine ezw_iload rfl rfl ?_
          refine ezw_if_ge rfl rfl ⟨by omega, by omega⟩ (fun h59_7 => ?_) (fun h59_7 => ?_)
          · refine ezw_iload rfl rfl ?_
            refine ezw_iadd (k := u6 - a1 + u7 - a2) rfl (by omega) ?_
            refine ezw_istore rfl rfl ?_
            have hds : u6 - a1 + u7 - a2 = ezp_ds a1 a2 (c1 % 16) (c1 / 16) := by
              unfold ezp_ds ezp_ab
              (repeat' split) <;> omega
            refine ezw_aload_n rfl rfl ?_
            refine ezw_iload rfl rfl ?_
            refine ezw_bipush (16) rfl rfl ?_
            refine ezm_irem rfl hc1 ⟨by decide, by decide⟩ (by decide) (fun u8 hu8 ku8 => ?_)
            refine ezw_iload rfl rfl ?_
            refine ezw_bipush (16) rfl rfl ?_
            refine ezm_idiv rfl hc1 ⟨by decide, by decide⟩ (by decide) (fun u9 hu9 ku9 => ?_)
            refine ezw_call0_2 rfl (by omega) (ezm_at rfl) rfl rfl rfl rfl (ezm_m321a hT (by omega) hu8 hu9 (by omega) tf hB) ?_
            rintro _ _ ⟨rfl, u11, hu11, an_10, rfl⟩
            have han : u11 = ezp_ss z (c1 % 16) (c1 / 16) := by
              have h9 := an_10
              rw [ku8 (by omega), ku9 (by omega)] at h9
              exact h9
            refine ezw_bipush (15) rfl rfl ?_
            refine ezw_icmp_ne rfl rfl hu11 ⟨by decide, by decide⟩ (fun h89_11 => ?_) (fun h89_11 => ?_)
            · refine ezw_iload_n rfl rfl ?_
              refine ezw_istore_n rfl rfl ?_
              refine ezw_iinc (k := c1 + 1) (1) rfl rfl rfl (by omega) rfl ?_
              refine ezw_goto rfl rfl ?_
              exact ezw_keepE [true, true, true, true, true, false, false, false] (ihc1 (c1 + 1) (by omega) ⟨by omega, by omega⟩ y3 hy3 (by omega) (by
                    first
                      | (have h15 : ezp_ss z (c1 % 16) (c1 / 16) = 15 := by rw [← han]; omega
                         have h9 := ezp_ne_t (t := z) (X := c1 % 16) (Y := c1 / 16) ne_2 (S := fun p r => 0 ≤ p ∧ p < 16 ∧ 0 ≤ r ∧ 16 * r + p < c1 + 1) (fun p r h => by omega) (by omega) h15 (by omega)
                         rw [← hds] at h9
                         exact h9)
                      | exact ezp_ne_s (t := z) (X := c1 % 16) (Y := c1 / 16) ne_2 (fun p r h => by omega) (fun p r h => by omega) (Or.inl (by rw [← han]; omega))
                      | exact ezp_ne_s (t := z) (X := c1 % 16) (Y := c1 / 16) ne_2 (fun p r h => by omega) (fun p r h => by omega) (Or.inr ⟨by omega, by omega⟩)) (by omega) (by omega) (by omega) (by omega))
            · refine ezw_iload_n rfl rfl ?_
              refine ezw_if_lt rfl rfl hy3 (fun h93_11 => ?_) (fun h93_11 => ?_)
              · refine ezw_iload rfl rfl ?_
                refine ezw_goto rfl rfl ?_
                refine ezw_istore_n rfl rfl ?_
                refine ezw_iinc (k := c1 + 1) (1) rfl rfl rfl (by omega) rfl ?_
                refine ezw_goto rfl rfl ?_
                exact ezw_keepE [true, true, true, true, true, false, false, false] (ihc1 (c1 + 1) (by omega) ⟨by omega, by omega⟩ (u6 - a1 + u7 - a2) ⟨by omega, by omega⟩ (by omega) (by
                      first
                        | (have h15 : ezp_ss z (c1 % 16) (c1 / 16) = 15 := by rw [← han]; omega
                           have h9 := ezp_ne_t (t := z) (X := c1 % 16) (Y := c1 / 16) ne_2 (S := fun p r => 0 ≤ p ∧ p < 16 ∧ 0 ≤ r ∧ 16 * r + p < c1 + 1) (fun p r h => by omega) (by omega) h15 (by omega)
                           rw [← hds] at h9
                           exact h9)
                        | exact ezp_ne_s (t := z) (X := c1 % 16) (Y := c1 / 16) ne_2 (fun p r h => by omega) (fun p r h => by omega) (Or.inl (by rw [← han]; omega))
                        | exact ezp_ne_s (t := z) (X := c1 % 16) (Y := c1 / 16) ne_2 (fun p r h => by omega) (fun p r h => by omega) (Or.inr ⟨by omega, by omega⟩)) (by omega) (by omega) (by omega) (by omega))
              · refine ezw_iload rfl rfl ?_
                refine ezw_iload_n rfl rfl ?_
                refine ezw_icmp_ge rfl rfl ⟨by omega, by omega⟩ hy3 (fun h99_11 => ?_) (fun h99_11 => ?_)
                · refine ezw_iload_n rfl rfl ?_
                  refine ezw_istore_n rfl rfl ?_
                  refine ezw_iinc (k := c1 + 1) (1) rfl rfl rfl (by omega) rfl ?_
                  refine ezw_goto rfl rfl ?_
                  exact ezw_keepE [true, true, true, true, true, false, false, false] (ihc1 (c1 + 1) (by omega) ⟨by omega, by omega⟩ y3 hy3 (by omega) (by
                        first
                          | (have h15 : ezp_ss z (c1 % 16) (c1 / 16) = 15 := by rw [← han]; omega
                             have h9 := ezp_ne_t (t := z) (X := c1 % 16) (Y := c1 / 16) ne_2 (S := fun p r => 0 ≤ p ∧ p < 16 ∧ 0 ≤ r ∧ 16 * r + p < c1 + 1) (fun p r h => by omega) (by omega) h15 (by omega)
                             rw [← hds] at h9
                             exact h9)
                          | exact ezp_ne_s (t := z) (X := c1 % 16) (Y := c1 / 16) ne_2 (fun p r h => by omega) (fun p r h => by omega) (Or.inl (by rw [← han]; omega))
                          | exact ezp_ne_s (t := z) (X := c1 % 16) (Y := c1 / 16) ne_2 (fun p r h => by omega) (fun p r h => by omega) (Or.inr ⟨by omega, by omega⟩)) (by omega) (by omega) (by omega) (by omega))
                · refine ezw_iload rfl rfl ?_
                  refine ezw_goto rfl rfl ?_
                  refine ezw_istore_n rfl rfl ?_
                  refine ezw_iinc (k := c1 + 1) (1) rfl rfl rfl (by omega) rfl ?_
                  refine ezw_goto rfl rfl ?_
                  exact ezw_keepE [true, true, true, true, true, false, false, false] (ihc1 (c1 + 1) (by omega) ⟨by omega, by omega⟩ (u6 - a1 + u7 - a2) ⟨by omega, by omega⟩ (by omega) (by
                        first
                          | (have h15 : ezp_ss z (c1 % 16) (c1 / 16) = 15 := by rw [← han]; omega
                             have h9 := ezp_ne_t (t := z) (X := c1 % 16) (Y := c1 / 16) ne_2 (S := fun p r => 0 ≤ p ∧ p < 16 ∧ 0 ≤ r ∧ 16 * r + p < c1 + 1) (fun p r h => by omega) (by omega) h15 (by omega)
                             rw [← hds] at h9
                             exact h9)
                          | exact ezp_ne_s (t := z) (X := c1 % 16) (Y := c1 / 16) ne_2 (fun p r h => by omega) (fun p r h => by omega) (Or.inl (by rw [← han]; omega))
                          | exact ezp_ne_s (t := z) (X := c1 % 16) (Y := c1 / 16) ne_2 (fun p r h => by omega) (fun p r h => by omega) (Or.inr ⟨by omega, by omega⟩)) (by omega) (by omega) (by omega) (by omega))
          · refine ezw_iload rfl rfl ?_
            refine ezw_ineg (k := -u7 + a2) rfl (by omega) ?_
            refine ezw_goto rfl rfl ?_
            refine ezw_iadd (k := u6 - a1 - u7 + a2) rfl (by omega) ?_
            refine ezw_istore rfl rfl ?_
            have hds : u6 - a1 - u7 + a2 = ezp_ds a1 a2 (c1 % 16) (c1 / 16) := by
              unfold ezp_ds ezp_ab
              (repeat' split) <;> omega
            refine ezw_aload_n rfl rfl ?_
            refine ezw_iload rfl rfl ?_
            refine ezw_bipush (16) rfl rfl ?_
            refine ezm_irem rfl hc1 ⟨by decide, by decide⟩ (by decide) (fun u12 hu12 ku12 => ?_)
            refine ezw_iload rfl rfl ?_
            refine ezw_bipush (16) rfl rfl ?_
            refine ezm_idiv rfl hc1 ⟨by decide, by decide⟩ (by decide) (fun u13 hu13 ku13 => ?_)
            refine ezw_call0_2 rfl (by omega) (ezm_at rfl) rfl rfl rfl rfl (ezm_m321a hT (by omega) hu12 hu13 (by omega) tf hB) ?_
            rintro _ _ ⟨rfl, u15, hu15, an_14, rfl⟩
            have han : u15 = ezp_ss z (c1 % 16) (c1 / 16) := by
              have h9 := an_14
              rw [ku12 (by omega), ku13 (by omega)] at h9
              exact h9
            refine ezw_bipush (15) rfl rfl ?_
            refine ezw_icmp_ne rfl rfl hu15 ⟨by decide, by decide⟩ (fun h89_15 => ?_) (fun h89_15 => ?_)
            · refine ezw_iload_n rfl rfl ?_
              refine ezw_istore_n rfl rfl ?_
              refine ezw_iinc (k := c1 + 1) (1) rfl rfl rfl (by omega) rfl ?_
              refine ezw_goto rfl rfl ?_
              exact ezw_keepE [true, true, true, true, true, false, false, false] (ihc1 (c1 + 1) (by omega) ⟨by omega, by omega⟩ y3 hy3 (by omega) (by
                    first
                      | (have h15 : ezp_ss z (c1 % 16) (c1 / 16) = 15 := by rw [← han]; omega
                         have h9 := ezp_ne_t (t := z) (X := c1 % 16) (Y := c1 / 16) ne_2 (S := fun p r => 0 ≤ p ∧ p < 16 ∧ 0 ≤ r ∧ 16 * r + p < c1 + 1) (fun p r h => by omega) (by omega) h15 (by omega)
                         rw [← hds] at h9
                         exact h9)
                      | exact ezp_ne_s (t := z) (X := c1 % 16) (Y := c1 / 16) ne_2 (fun p r h => by omega) (fun p r h => by omega) (Or.inl (by rw [← han]; omega))
                      | exact ezp_ne_s (t := z) (X := c1 % 16) (Y := c1 / 16) ne_2 (fun p r h => by omega) (fun p r h => by omega) (Or.inr ⟨by omega, by omega⟩)) (by omega) (by omega) (by omega) (by omega))
            · refine ezw_iload_n rfl rfl ?_
              refine ezw_if_lt rfl rfl hy3 (fun h93_15 => ?_) (fun h93_15 => ?_)
              · refine ezw_iload rfl rfl ?_
                refine ezw_goto rfl rfl ?_
                refine ezw_istore_n rfl rfl ?_
                refine ezw_iinc (k := c1 + 1) (1) rfl rfl rfl (by omega) rfl ?_
                refine ezw_goto rfl rfl ?_
                exact ezw_keepE [true, true, true, true, true, false, false, false] (ihc1 (c1 + 1) (by omega) ⟨by omega, by omega⟩ (u6 - a1 - u7 + a2) ⟨by omega, by omega⟩ (by omega) (by
                      first
                        | (have h15 : ezp_ss z (c1 % 16) (c1 / 16) = 15 := by rw [← han]; omega
                           have h9 := ezp_ne_t (t := z) (X := c1 % 16) (Y := c1 / 16) ne_2 (S := fun p r => 0 ≤ p ∧ p < 16 ∧ 0 ≤ r ∧ 16 * r + p < c1 + 1) (fun p r h => by omega) (by omega) h15 (by omega)
                           rw [← hds] at h9
                           exact h9)
                        | exact ezp_ne_s (t := z) (X := c1 % 16) (Y := c1 / 16) ne_2 (fun p r h => by omega) (fun p r h => by omega) (Or.inl (by rw [← han]; omega))
                        | exact ezp_ne_s (t := z) (X := c1 % 16) (Y := c1 / 16) ne_2 (fun p r h => by omega) (fun p r h => by omega) (Or.inr ⟨by omega, by omega⟩)) (by omega) (by omega) (by omega) (by omega))
              · refine ezw_iload rfl rfl ?_
                refine ezw_iload_n rfl rfl ?_
                refine ezw_icmp_ge rfl rfl ⟨by omega, by omega⟩ hy3 (fun h99_15 => ?_) (fun h99_15 => ?_)
                · refine ezw_iload_n rfl rfl ?_
                  refine ezw_istore_n rfl rfl ?_
                  refine ezw_iinc (k := c1 + 1) (1) rfl rfl rfl (by omega) rfl ?_
                  refine ezw_goto rfl rfl ?_
                  exact ezw_keepE [true, true, true, true, true, false, false, false] (ihc1 (c1 + 1) (by omega) ⟨by omega, by omega⟩ y3 hy3 (by omega) (by
                        first
                          | (have h15 : ezp_ss z (c1 % 16) (c1 / 16) = 15 := by rw [← han]; omega
                             have h9 := ezp_ne_t (t := z) (X := c1 % 16) (Y := c1 / 16) ne_2 (S := fun p r => 0 ≤ p ∧ p < 16 ∧ 0 ≤ r ∧ 16 * r + p < c1 + 1) (fun p r h => by omega) (by omega) h15 (by omega)
                             rw [← hds] at h9
                             exact h9)
                          | exact ezp_ne_s (t := z) (X := c1 % 16) (Y := c1 / 16) ne_2 (fun p r h => by omega) (fun p r h => by omega) (Or.inl (by rw [← han]; omega))
                          | exact ezp_ne_s (t := z) (X := c1 % 16) (Y := c1 / 16) ne_2 (fun p r h => by omega) (fun p r h => by omega) (Or.inr ⟨by omega, by omega⟩)) (by omega) (by omega) (by omega) (by omega))
                · refine ezw_iload rfl rfl ?_
                  refine ezw_goto rfl rfl ?_
                  refine ezw_istore_n rfl rfl ?_
                  refine ezw_iinc (k := c1 + 1) (1) rfl rfl rfl (by omega) rfl ?_
                  refine ezw_goto rfl rfl ?_
                  exact ezw_keepE [true, true, true, true, true, false, false, false] (ihc1 (c1 + 1) (by omega) ⟨by omega, by omega⟩ (u6 - a1 - u7 + a2) ⟨by omega, by omega⟩ (by omega) (by
                        first
                          | (have h15 : ezp_ss z (c1 % 16) (c1 / 16) = 15 := by rw [← han]; omega
                             have h9 := ezp_ne_t (t := z) (X := c1 % 16) (Y := c1 / 16) ne_2 (S := fun p r => 0 ≤ p ∧ p < 16 ∧ 0 ≤ r ∧ 16 * r + p < c1 + 1) (fun p r h => by omega) (by omega) h15 (by omega)
                             rw [← hds] at h9
                             exact h9)
                          | exact ezp_ne_s (t := z) (X := c1 % 16) (Y := c1 / 16) ne_2 (fun p r h => by omega) (fun p r h => by omega) (Or.inl (by rw [← han]; omega))
                          | exact ezp_ne_s (t := z) (X := c1 % 16) (Y := c1 / 16) ne_2 (fun p r h => by omega) (fun p r h => by omega) (Or.inr ⟨by omega, by omega⟩)) (by omega) (by omega) (by omega) (by omega))
        · refine ezw_iload rfl rfl ?_
          refine ezw_ineg (k := -u6 + a1) rfl (by omega) ?_
          refine ezw_goto rfl rfl ?_
          refine ezw_iload rfl rfl ?_
          refine ezw_if_ge rfl rfl ⟨by omega, by omega⟩ (fun h59_15 => ?_) (fun h59_15 => ?_)
          · refine ezw_iload rfl rfl ?_
            refine ezw_iadd (k := -u6 + a1 + u7 - a2) rfl (by omega) ?_
            refine ezw_istore rfl rfl ?_
            have hds : -u6 + a1 + u7 - a2 = ezp_ds a1 a2 (c1 % 16) (c1 / 16) := by
              unfold ezp_ds ezp_ab
              (repeat' split) <;> omega
            refine ezw_aload_n rfl rfl ?_
            refine ezw_iload rfl rfl ?_
            refine ezw_bipush (16) rfl rfl ?_
            refine ezm_irem rfl hc1 ⟨by decide, by decide⟩ (by decide) (fun u16 hu16 ku16 => ?_)
            refine ezw_iload rfl rfl ?_
            refine ezw_bipush (16) rfl rfl ?_
            refine ezm_idiv rfl hc1 ⟨by decide, by decide⟩ (by decide) (fun u17 hu17 ku17 => ?_)
            refine ezw_call0_2 rfl (by omega) (ezm_at rfl) rfl rfl rfl rfl (ezm_m321a hT (by omega) hu16 hu17 (by omega) tf hB) ?_
            rintro _ _ ⟨rfl, u19, hu19, an_18, rfl⟩
            have han : u19 = ezp_ss z (c1 % 16) (c1 / 16) := by
              have h9 := an_18
              rw [ku16 (by omega), ku17 (by omega)] at h9
              exact h9
            refine ezw_bipush (15) rfl rfl ?_
            refine ezw_icmp_ne rfl rfl hu19 ⟨by decide, by decide⟩ (fun h89_19 => ?_) (fun h89_19 => ?_)
            · refine ezw_iload_n rfl rfl ?_
              refine ezw_istore_n rfl rfl ?_
              refine ezw_iinc (k := c1 + 1) (1) rfl rfl rfl (by omega) rfl ?_
              refine ezw_goto rfl rfl ?_
              exact ezw_keepE [true, true, true, true, true, false, false, false] (ihc1 (c1 + 1) (by omega) ⟨by omega, by omega⟩ y3 hy3 (by omega) (by
                    first
                      | (have h15 : ezp_ss z (c1 % 16) (c1 / 16) = 15 := by rw [← han]; omega
                         have h9 := ezp_ne_t (t := z) (X := c1 % 16) (Y := c1 / 16) ne_2 (S := fun p r => 0 ≤ p ∧ p < 16 ∧ 0 ≤ r ∧ 16 * r + p < c1 + 1) (fun p r h => by omega) (by omega) h15 (by omega)
                         rw [← hds] at h9
                         exact h9)
                      | exact ezp_ne_s (t := z) (X := c1 % 16) (Y := c1 / 16) ne_2 (fun p r h => by omega) (fun p r h => by omega) (Or.inl (by rw [← han]; omega))
                      | exact ezp_ne_s (t := z) (X := c1 % 16) (Y := c1 / 16) ne_2 (fun p r h => by omega) (fun p r h => by omega) (Or.inr ⟨by omega, by omega⟩)) (by omega) (by omega) (by omega) (by omega))
            · refine ezw_iload_n rfl rfl ?_
              refine ezw_if_lt rfl rfl hy3 (fun h93_19 => ?_) (fun h93_19 => ?_)
              · refine ezw_iload rfl rfl ?_
                refine ezw_goto rfl rfl ?_
                refine ezw_istore_n rfl rfl ?_
                refine ezw_iinc (k := c1 + 1) (1) rfl rfl rfl (by omega) rfl ?_
                refine ezw_goto rfl rfl ?_
                exact ezw_keepE [true, true, true, true, true, false, false, false] (ihc1 (c1 + 1) (by omega) ⟨by omega, by omega⟩ (-u6 + a1 + u7 - a2) ⟨by omega, by omega⟩ (by omega) (by
                      first
                        | (have h15 : ezp_ss z (c1 % 16) (c1 / 16) = 15 := by rw [← han]; omega
                           have h9 := ezp_ne_t (t := z) (X := c1 % 16) (Y := c1 / 16) ne_2 (S := fun p r => 0 ≤ p ∧ p < 16 ∧ 0 ≤ r ∧ 16 * r + p < c1 + 1) (fun p r h => by omega) (by omega) h15 (by omega)
                           rw [← hds] at h9
                           exact h9)
                        | exact ezp_ne_s (t := z) (X := c1 % 16) (Y := c1 / 16) ne_2 (fun p r h => by omega) (fun p r h => by omega) (Or.inl (by rw [← han]; omega))
                        | exact ezp_ne_s (t := z) (X := c1 % 16) (Y := c1 / 16) ne_2 (fun p r h => by omega) (fun p r h => by omega) (Or.inr ⟨by omega, by omega⟩)) (by omega) (by omega) (by omega) (by omega))
              · refine ezw_iload rfl rfl ?_
                refine ezw_iload_n rfl rfl ?_
                refine ezw_icmp_ge rfl rfl ⟨by omega, by omega⟩ hy3 (fun h99_19 => ?_) (fun h99_19 => ?_)
                · refine ezw_iload_n rfl rfl ?_
                  refine ezw_istore_n rfl rfl ?_
                  refine ezw_iinc (k := c1 + 1) (1) rfl rfl rfl (by omega) rfl ?_
                  refine ezw_goto rfl rfl ?_
                  exact ezw_keepE [true, true, true, true, true, false, false, false] (ihc1 (c1 + 1) (by omega) ⟨by omega, by omega⟩ y3 hy3 (by omega) (by
                        first
                          | (have h15 : ezp_ss z (c1 % 16) (c1 / 16) = 15 := by rw [← han]; omega
                             have h9 := ezp_ne_t (t := z) (X := c1 % 16) (Y := c1 / 16) ne_2 (S := fun p r => 0 ≤ p ∧ p < 16 ∧ 0 ≤ r ∧ 16 * r + p < c1 + 1) (fun p r h => by omega) (by omega) h15 (by omega)
                             rw [← hds] at h9
                             exact h9)
                          | exact ezp_ne_s (t := z) (X := c1 % 16) (Y := c1 / 16) ne_2 (fun p r h => by omega) (fun p r h => by omega) (Or.inl (by rw [← han]; omega))
                          | exact ezp_ne_s (t := z) (X := c1 % 16) (Y := c1 / 16) ne_2 (fun p r h => by omega) (fun p r h => by omega) (Or.inr ⟨by omega, by omega⟩)) (by omega) (by omega) (by omega) (by omega))
                · refine ezw_iload rfl rfl ?_
                  refine ezw_goto rfl rfl ?_
                  refine ezw_istore_n rfl rfl ?_
                  refine ezw_iinc (k := c1 + 1) (1) rfl rfl rfl (by omega) rfl ?_
                  refine ezw_goto rfl rfl ?_
                  exact ezw_keepE [true, true, true, true, true, false, false, false] (ihc1 (c1 + 1) (by omega) ⟨by omega, by omega⟩ (-u6 + a1 + u7 - a2) ⟨by omega, by omega⟩ (by omega) (by
                        first
                          | (have h15 : ezp_ss z (c1 % 16) (c1 / 16) = 15 := by rw [← han]; omega
                             have h9 := ezp_ne_t (t := z) (X := c1 % 16) (Y := c1 / 16) ne_2 (S := fun p r => 0 ≤ p ∧ p < 16 ∧ 0 ≤ r ∧ 16 * r + p < c1 + 1) (fun p r h => by omega) (by omega) h15 (by omega)
                             rw [← hds] at h9
                             exact h9)
                          | exact ezp_ne_s (t := z) (X := c1 % 16) (Y := c1 / 16) ne_2 (fun p r h => by omega) (fun p r h => by omega) (Or.inl (by rw [← han]; omega))
                          | exact ezp_ne_s (t := z) (X := c1 % 16) (Y := c1 / 16) ne_2 (fun p r h => by omega) (fun p r h => by omega) (Or.inr ⟨by omega, by omega⟩)) (by omega) (by omega) (by omega) (by omega))
          · refine ezw_iload rfl rfl ?_
            refine ezw_ineg (k := -u7 + a2) rfl (by omega) ?_
            refine ezw_goto rfl rfl ?_
            refine ezw_iadd (k := -u6 + a1 - u7 + a2) rfl (by omega) ?_
            refine ezw_istore rfl rfl ?_
            have hds : -u6 + a1 - u7 + a2 = ezp_ds a1 a2 (c1 % 16) (c1 / 16) := by
              unfold ezp_ds ezp_ab
              (repeat' split) <;> omega
            refine ezw_aload_n rfl rfl ?_
            refine ezw_iload rfl rfl ?_
            refine ezw_bipush (16) rfl rfl ?_
            refine ezm_irem rfl hc1 ⟨by decide, by decide⟩ (by decide) (fun u20 hu20 ku20 => ?_)
            refine ezw_iload rfl rfl ?_
            refine ezw_bipush (16) rfl rfl ?_
            refine ezm_idiv rfl hc1 ⟨by decide, by decide⟩ (by decide) (fun u21 hu21 ku21 => ?_)
            refine ezw_call0_2 rfl (by omega) (ezm_at rfl) rfl rfl rfl rfl (ezm_m321a hT (by omega) hu20 hu21 (by omega) tf hB) ?_
            rintro _ _ ⟨rfl, u23, hu23, an_22, rfl⟩
            have han : u23 = ezp_ss z (c1 % 16) (c1 / 16) := by
              have h9 := an_22
              rw [ku20 (by omega), ku21 (by omega)] at h9
              exact h9
            refine ezw_bipush (15) rfl rfl ?_
            refine ezw_icmp_ne rfl rfl hu23 ⟨by decide, by decide⟩ (fun h89_23 => ?_) (fun h89_23 => ?_)
            · refine ezw_iload_n rfl rfl ?_
              refine ezw_istore_n rfl rfl ?_
              refine ezw_iinc (k := c1 + 1) (1) rfl rfl rfl (by omega) rfl ?_
              refine ezw_goto rfl rfl ?_
              exact ezw_keepE [true, true, true, true, true, false, false, false] (ihc1 (c1 + 1) (by omega) ⟨by omega, by omega⟩ y3 hy3 (by omega) (by
                    first
                      | (have h15 : ezp_ss z (c1 % 16) (c1 / 16) = 15 := by rw [← han]; omega
                         have h9 := ezp_ne_t (t := z) (X := c1 % 16) (Y := c1 / 16) ne_2 (S := fun p r => 0 ≤ p ∧ p < 16 ∧ 0 ≤ r ∧ 16 * r + p < c1 + 1) (fun p r h => by omega) (by omega) h15 (by omega)
                         rw [← hds] at h9
                         exact h9)
                      | exact ezp_ne_s (t := z) (X := c1 % 16) (Y := c1 / 16) ne_2 (fun p r h => by omega) (fun p r h => by omega) (Or.inl (by rw [← han]; omega))
                      | exact ezp_ne_s (t := z) (X := c1 % 16) (Y := c1 / 16) ne_2 (fun p r h => by omega) (fun p r h => by omega) (Or.inr ⟨by omega, by omega⟩)) (by omega) (by omega) (by omega) (by omega))
            · refine ezw_iload_n rfl rfl ?_
              refine ezw_if_lt rfl rfl hy3 (fun h93_23 => ?_) (fun h93_23 => ?_)
              · refine ezw_iload rfl rfl ?_
                refine ezw_goto rfl rfl ?_
                refine ezw_istore_n rfl rfl ?_
                refine ezw_iinc (k := c1 + 1) (1) rfl rfl rfl (by omega) rfl ?_
                refine ezw_goto rfl rfl ?_
                exact ezw_keepE [true, true, true, true, true, false, false, false] (ihc1 (c1 + 1) (by omega) ⟨by omega, by omega⟩ (-u6 + a1 - u7 + a2) ⟨by omega, by omega⟩ (by omega) (by
                      first
                        | (have h15 : ezp_ss z (c1 % 16) (c1 / 16) = 15 := by rw [← han]; omega
                           have h9 := ezp_ne_t (t := z) (X := c1 % 16) (Y := c1 / 16) ne_2 (S := fun p r => 0 ≤ p ∧ p < 16 ∧ 0 ≤ r ∧ 16 * r + p < c1 + 1) (fun p r h => by omega) (by omega) h15 (by omega)
                           rw [← hds] at h9
                           exact h9)
                        | exact ezp_ne_s (t := z) (X := c1 % 16) (Y := c1 / 16) ne_2 (fun p r h => by omega) (fun p r h => by omega) (Or.inl (by rw [← han]; omega))
                        | exact ezp_ne_s (t := z) (X := c1 % 16) (Y := c1 / 16) ne_2 (fun p r h => by omega) (fun p r h => by omega) (Or.inr ⟨by omega, by omega⟩)) (by omega) (by omega) (by omega) (by omega))
              · refine ezw_iload rfl rfl ?_
                refine ezw_iload_n rfl rfl ?_
                refine ezw_icmp_ge rfl rfl ⟨by omega, by omega⟩ hy3 (fun h99_23 => ?_) (fun h99_23 => ?_)
                · refine ezw_iload_n rfl rfl ?_
                  refine ezw_istore_n rfl rfl ?_
                  refine ezw_iinc (k := c1 + 1) (1) rfl rfl rfl (by omega) rfl ?_
                  refine ezw_goto rfl rfl ?_
                  exact ezw_keepE [true, true, true, true, true, false, false, false] (ihc1 (c1 + 1) (by omega) ⟨by omega, by omega⟩ y3 hy3 (by omega) (by
                        first
                          | (have h15 : ezp_ss z (c1 % 16) (c1 / 16) = 15 := by rw [← han]; omega
                             have h9 := ezp_ne_t (t := z) (X := c1 % 16) (Y := c1 / 16) ne_2 (S := fun p r => 0 ≤ p ∧ p < 16 ∧ 0 ≤ r ∧ 16 * r + p < c1 + 1) (fun p r h => by omega) (by omega) h15 (by omega)
                             rw [← hds] at h9
                             exact h9)
                          | exact ezp_ne_s (t := z) (X := c1 % 16) (Y := c1 / 16) ne_2 (fun p r h => by omega) (fun p r h => by omega) (Or.inl (by rw [← han]; omega))
                          | exact ezp_ne_s (t := z) (X := c1 % 16) (Y := c1 / 16) ne_2 (fun p r h => by omega) (fun p r h => by omega) (Or.inr ⟨by omega, by omega⟩)) (by omega) (by omega) (by omega) (by omega))
                · refine ezw_iload rfl rfl ?_
                  refine ezw_goto rfl rfl ?_
                  refine ezw_istore_n rfl rfl ?_
                  refine ezw_iinc (k := c1 + 1) (1) rfl rfl rfl (by omega) rfl ?_
                  refine ezw_goto rfl rfl ?_
                  exact ezw_keepE [true, true, true, true, true, false, false, false] (ihc1 (c1 + 1) (by omega) ⟨by omega, by omega⟩ (-u6 + a1 - u7 + a2) ⟨by omega, by omega⟩ (by omega) (by
                        first
                          | (have h15 : ezp_ss z (c1 % 16) (c1 / 16) = 15 := by rw [← han]; omega
                             have h9 := ezp_ne_t (t := z) (X := c1 % 16) (Y := c1 / 16) ne_2 (S := fun p r => 0 ≤ p ∧ p < 16 ∧ 0 ≤ r ∧ 16 * r + p < c1 + 1) (fun p r h => by omega) (by omega) h15 (by omega)
                             rw [← hds] at h9
                             exact h9)
                          | exact ezp_ne_s (t := z) (X := c1 % 16) (Y := c1 / 16) ne_2 (fun p r h => by omega) (fun p r h => by omega) (Or.inl (by rw [← han]; omega))
                          | exact ezp_ne_s (t := z) (X := c1 % 16) (Y := c1 / 16) ne_2 (fun p r h => by omega) (fun p r h => by omega) (Or.inr ⟨by omega, by omega⟩)) (by omega) (by omega) (by omega) (by omega))
  exact ezw_keepE [true, true, true, true, true, false, false, false] (L10_2 (0) ⟨by decide, by decide⟩ (-1) ⟨by decide, by decide⟩ (by omega) (ezp_ne_0 (fun p r h => by omega)) (by omega) (by omega) (by omega) (by omega))
end KM6
