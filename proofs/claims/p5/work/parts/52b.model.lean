/-! ===== the model: words, numbers, names ===== -/
section KM6
variable {l : Launch} {ρ : ezq_E} {B : Nat} {xa : Nat → Option Nat} {Hb : Heap} {D : va_G} {cA : Nat → ClassId} {d : Nat} {e : Bool × Bool} {F : Nat → Nat → Int} {A : Nat → Int → Int} {i0 i2 i3 i7 i8 i13 i18 i19 i20 i25 i29 i30 i31 i36 i37 i38 : Int} {r73 r74 r75 r76 r77 r78 r79 r80 r81 r82 r83 r84 r85 r86 r87 r88 r89 r90 r91 r92 r93 r94 r95 : Int → Int}
def ezm_m228Q (e : Bool × Bool) (F : Nat → Nat → Int) (A : Nat → Int → Int) (i0 i2 i3 i7 i8 i13 i18 i19 i20 i25 i29 i30 i31 i36 i37 i38 : Int) (r73 r74 r75 r76 r77 r78 r79 r80 r81 r82 r83 r84 r85 r86 r87 r88 r89 r90 r91 r92 r93 r94 r95 : Int → Int) (n : Int) (a1 : Int) (a2 : Int) : Option ezq_V → (Nat → ezq_C) → Prop := fun v g' => ezm_h e F A i0 i2 i3 i7 i8 i13 i18 i19 i20 i25 i29 i30 i31 i36 i37 i38 r73 r74 r75 r76 r77 r78 r79 r80 r81 r82 r83 r84 r85 r86 r87 r88 r89 r90 r91 r92 r93 r94 r95 = g' ∧ ∃ u : Int, (ezw_in u) ∧ (-1 ≤ u) ∧ (u = -1 ∨ u < a2) ∧ (0 ≤ u → i8 = 0 ∧ i7 < n) ∧ some (ezw_i u) = v
theorem ezm_m228 {n a1 a2 : Int} (hT : ezm_T i0 i2 i3 i7 i8 i13 i18 i19 i20 i25 i29 i30 i31 i36 i37 i38 r73 r74 r75 r76 r77 r78 r79 r80 r81 r82 r83 r84 r85 r86 r87 r88 r89 r90 r91 r92 r93 r94 r95) (hd : 1 ≤ d) (ha1 : ezw_in a1) (ha2 : ezw_in a2) (hn : 0 ≤ i7 ∧ i7 ≤ n) (hs : r74 n = 0) (h1 : n ≤ 1000) (ga : 0 ≤ a1 ∧ 0 ≤ a2 ∧ a1 + a2 ≤ 48) : ezw_C l ρ B xa Hb D cA 228 d [ezw_p 72, ezw_i a1, ezw_i a2] (ezm_h e F A i0 i2 i3 i7 i8 i13 i18 i19 i20 i25 i29 i30 i31 i36 i37 i38 r73 r74 r75 r76 r77 r78 r79 r80 r81 r82 r83 r84 r85 r86 r87 r88 r89 r90 r91 r92 r93 r94 r95) (ezm_m228Q  e F A i0 i2 i3 i7 i8 i13 i18 i19 i20 i25 i29 i30 i31 i36 i37 i38 r73 r74 r75 r76 r77 r78 r79 r80 r81 r82 r83 r84 r85 r86 r87 r88 r89 r90 r91 r92 r93 r94 r95 n a1 a2) := by
  refine ezw_met (k := 2) rfl rfl ?_
  refine ezw_iconst (-1) rfl rfl ?_
  refine ezw_istore_n rfl rfl ?_
  refine ezw_iconst (0) rfl rfl ?_
  refine ezw_istore rfl rfl ?_
  have L5_2 : ∀ c1 : Int, ezw_in c1 → ∀ y3 : Int, ezw_in y3 → ((0) ≤ c1) → (-1 ≤ y3) → (y3 = -1 ∨ y3 < a2) → (0 ≤ y3 → i8 = 0 ∧ i7 < n) → ezw_E l ρ B xa Hb D cA d ezq_re228 (ezm_m228Q  e F A i0 i2 i3 i7 i8 i13 i18 i19 i20 i25 i29 i30 i31 i36 i37 i38 r73 r74 r75 r76 r77 r78 r79 r80 r81 r82 r83 r84 r85 r86 r87 r88 r89 r90 r91 r92 r93 r94 r95 n a1 a2) 5 [some (ezw_p 72), some (ezw_i a1), some (ezw_i a2), some (ezw_i y3), some (ezw_i c1)] [] (ezm_h e F A i0 i2 i3 i7 i8 i13 i18 i19 i20 i25 i29 i30 i31 i36 i37 i38 r73 r74 r75 r76 r77 r78 r79 r80 r81 r82 r83 r84 r85 r86 r87 r88 r89 r90 r91 r92 r93 r94 r95) := by
    refine ezs_up ?_
    intro c1 hc1 ihc1 y3 hy3 g_2 v1_2 v2_2 v3_2
    refine ezw_iload rfl rfl ?_
    refine ezw_iload_n rfl rfl ?_
    refine ezw_icmp_ge rfl rfl hc1 ha2 (fun h8_3 => ?_) (fun h8_3 => ?_)
    · refine ezw_iload_n rfl rfl ?_
      exact ezw_ireturn rfl rfl ⟨rfl, y3, hy3, by omega, by omega, by omega, rfl⟩
    · refine ezw_aload_n rfl rfl ?_
      refine ezw_iload_n rfl rfl ?_
      refine ezw_iload rfl rfl ?_
      refine ezw_iadd (k := a1 + c1) rfl (by omega) ?_
      refine ezw_call0_1 rfl (by omega) (ezm_at rfl) rfl rfl rfl rfl (ezm_m223 hT (by omega) ⟨by omega, by omega⟩ (by omega) hs (by omega) (by omega)) ?_
      rintro _ _ ⟨rfl, u5, hu5, f_4, w_4, rfl⟩
      refine ezw_if_eq rfl rfl ⟨by omega, by omega⟩ (fun h19_5 => ?_) (fun h19_5 => ?_)
      · refine ezw_iload_n rfl rfl ?_
        refine ezw_istore_n rfl rfl ?_
        refine ezw_iinc (k := c1 + 1) (1) rfl rfl rfl (by omega) rfl ?_
        refine ezw_goto rfl rfl ?_
        exact ezw_keepE [true, true, true, true, true] (ihc1 (c1 + 1) (by omega) ⟨by omega, by omega⟩ y3 hy3 (by omega) (by omega) (by omega) (by omega))
      · refine ezw_iload rfl rfl ?_
        refine ezw_goto rfl rfl ?_
        refine ezw_istore_n rfl rfl ?_
        refine ezw_iinc (k := c1 + 1) (1) rfl rfl rfl (by omega) rfl ?_
        refine ezw_goto rfl rfl ?_
        exact ezw_keepE [true, true, true, true, true] (ihc1 (c1 + 1) (by omega) ⟨by omega, by omega⟩ c1 hc1 (by omega) (by omega) (by omega) (by omega))
  exact ezw_keepE [true, true, true, true, true] (L5_2 (0) ⟨by decide, by decide⟩ (-1) ⟨by decide, by decide⟩ (by omega) (by omega) (by omega) (by omega))
def ezm_m227Q (e : Bool × Bool) (F : Nat → Nat → Int) (A : Nat → Int → Int) (i0 i2 i3 i7 i8 i13 i18 i19 i20 i25 i29 i30 i31 i36 i37 i38 : Int) (r73 r74 r75 r76 r77 r78 r79 r80 r81 r82 r83 r84 r85 r86 r87 r88 r89 r90 r91 r92 r93 r94 r95 : Int → Int) (n : Int) : Option ezq_V → (Nat → ezq_C) → Prop := fun v g' => ezm_h e F A i0 i2 i3 i7 i8 i13 i18 i19 i20 i25 i29 i30 i31 i36 i37 i38 r73 r74 r75 r76 r77 r78 r79 r80 r81 r82 r83 r84 r85 r86 r87 r88 r89 r90 r91 r92 r93 r94 r95 = g' ∧ ∃ u : Int, (0 ≤ u ∧ u ≤ 1) ∧ (u = 1 → i8 = 0 ∧ i7 < n) ∧ some (ezw_i u) = v
theorem ezm_m227 {n : Int} (hT : ezm_T i0 i2 i3 i7 i8 i13 i18 i19 i20 i25 i29 i30 i31 i36 i37 i38 r73 r74 r75 r76 r77 r78 r79 r80 r81 r82 r83 r84 r85 r86 r87 r88 r89 r90 r91 r92 r93 r94 r95) (hd : 2 ≤ d) (hn : 0 ≤ i7 ∧ i7 ≤ n) (hs : r74 n = 0) (h1 : n ≤ 1000) : ezw_C l ρ B xa Hb D cA 227 d [ezw_p 72] (ezm_h e F A i0 i2 i3 i7 i8 i13 i18 i19 i20 i25 i29 i30 i31 i36 i37 i38 r73 r74 r75 r76 r77 r78 r79 r80 r81 r82 r83 r84 r85 r86 r87 r88 r89 r90 r91 r92 r93 r94 r95) (ezm_m227Q  e F A i0 i2 i3 i7 i8 i13 i18 i19 i20 i25 i29 i30 i31 i36 i37 i38 r73 r74 r75 r76 r77 r78 r79 r80 r81 r82 r83 r84 r85 r86 r87 r88 r89 r90 r91 r92 r93 r94 r95 n) := by
  refine ezw_met (k := 0) rfl rfl ?_
  refine ezw_aload_n rfl rfl ?_
  refine ezm_g8 rfl ?_
  have k1 := hT.t8
  refine ezw_if_ne rfl rfl ⟨by omega, by omega⟩ (fun h4_1 => ?_) (fun h4_1 => ?_)
  · refine ezw_iconst (0) rfl rfl ?_
    exact ezw_ireturn rfl (ezw_zret ⟨by omega, by omega⟩) ⟨rfl, (0), ⟨by omega, by omega⟩, by omega, rfl⟩
  · refine ezw_aload_n rfl rfl ?_
    refine ezm_gp (p := 74) rfl (fun _ => rfl) ?_
    refine ezw_aload_n rfl rfl ?_
    refine ezm_g7 rfl ?_
    have k2 := hT.t7
    refine ezm_l74 rfl (by omega) (by omega) (fun u3 eu3 => ?_)
    have ku3 : ezw_in u3 := eu3 ▸ hT.t74 i7
    refine ezw_iconst (1) rfl rfl ?_
    refine ezw_icmp_ne rfl rfl ku3 ⟨by decide, by decide⟩ (fun h17_3 => ?_) (fun h17_3 => ?_)
    · refine ezw_iconst (0) rfl rfl ?_
      exact ezw_ireturn rfl (ezw_zret ⟨by omega, by omega⟩) ⟨rfl, (0), ⟨by omega, by omega⟩, by omega, rfl⟩
    · refine ezw_aload_n rfl rfl ?_
      refine ezw_iconst (0) rfl rfl ?_
      refine ezw_bipush (44) rfl rfl ?_
      refine ezw_call0_2 rfl (by omega) (ezm_at rfl) rfl rfl rfl rfl (ezm_m228 hT (by omega) ⟨by decide, by decide⟩ ⟨by decide, by decide⟩ (by omega) hs (by omega) (by omega)) ?_
      rintro _ _ ⟨rfl, u5, hu5, p4_0, p4_1, p4_2, rfl⟩
      refine ezw_if_ge rfl rfl hu5 (fun h27_5 => ?_) (fun h27_5 => ?_)
      · refine ezw_iconst (0) rfl rfl ?_
        exact ezw_ireturn rfl (ezw_zret ⟨by omega, by omega⟩) ⟨rfl, (0), ⟨by omega, by omega⟩, by omega, rfl⟩
      · refine ezw_iconst (1) rfl rfl ?_
        refine ezw_goto rfl rfl ?_
        exact ezw_ireturn rfl (ezw_zret ⟨by omega, by omega⟩) ⟨rfl, (1), ⟨by omega, by omega⟩, fun _ => ⟨by omega, ezm_lt (by omega) hs (by omega)⟩, rfl⟩
def ezm_m229_v0Q (e : Bool × Bool) (F : Nat → Nat → Int) (A : Nat → Int → Int) (i0 i2 i3 i7 i8 i13 i18 i19 i20 i25 i29 i30 i31 i36 i37 i38 : Int) (r73 r74 r75 r76 r77 r78 r79 r80 r81 r82 r83 r84 r85 r86 r87 r88 r89 r90 r91 r92 r93 r94 r95 : Int → Int) : Option ezq_V → (Nat → ezq_C) → Prop := fun v g' => ezm_h e F A i0 i2 i3 i7 i8 i13 i18 i19 i20 i25 i29 i30 i31 i36 i37 i38 r73 r74 r75 r76 r77 r78 r79 r80 r81 r82 r83 r84 r85 r86 r87 r88 r89 r90 r91 r92 r93 r94 r95 = g' ∧ ∃ u : Int, (ezw_in u) ∧ (-1 ≤ u ∧ u ≤ 23) ∧ some (ezw_i u) = v
theorem ezm_m229_v0 (hT : ezm_T i0 i2 i3 i7 i8 i13 i18 i19 i20 i25 i29 i30 i31 i36 i37 i38 r73 r74 r75 r76 r77 r78 r79 r80 r81 r82 r83 r84 r85 r86 r87 r88 r89 r90 r91 r92 r93 r94 r95) (hd : 0 ≤ d) (gx : 0 ≤ i7 ∧ i7 ≤ 1001) : ezw_C l ρ B xa Hb D cA 229 d [ezw_p 72, ezw_i (0)] (ezm_h e F A i0 i2 i3 i7 i8 i13 i18 i19 i20 i25 i29 i30 i31 i36 i37 i38 r73 r74 r75 r76 r77 r78 r79 r80 r81 r82 r83 r84 r85 r86 r87 r88 r89 r90 r91 r92 r93 r94 r95) (ezm_m229_v0Q  e F A i0 i2 i3 i7 i8 i13 i18 i19 i20 i25 i29 i30 i31 i36 i37 i38 r73 r74 r75 r76 r77 r78 r79 r80 r81 r82 r83 r84 r85 r86 r87 r88 r89 r90 r91 r92 r93 r94 r95) := by
  refine ezw_met (k := 1) rfl rfl ?_
  refine ezw_iconst (0) rfl rfl ?_
  refine ezw_istore_n rfl rfl ?_
  have L2_2 : ∀ c1 : Int, ezw_in c1 → ((0) ≤ c1) → ezw_E l ρ B xa Hb D cA d ezq_re229 (ezm_m229_v0Q  e F A i0 i2 i3 i7 i8 i13 i18 i19 i20 i25 i29 i30 i31 i36 i37 i38 r73 r74 r75 r76 r77 r78 r79 r80 r81 r82 r83 r84 r85 r86 r87 r88 r89 r90 r91 r92 r93 r94 r95) 2 [some (ezw_p 72), some (ezw_i (0)), some (ezw_i c1)] [] (ezm_h e F A i0 i2 i3 i7 i8 i13 i18 i19 i20 i25 i29 i30 i31 i36 i37 i38 r73 r74 r75 r76 r77 r78 r79 r80 r81 r82 r83 r84 r85 r86 r87 r88 r89 r90 r91 r92 r93 r94 r95) := by
    refine ezs_up ?_
    intro c1 hc1 ihc1 g_2
    refine ezw_iload_n rfl rfl ?_
    refine ezw_iload_n rfl rfl ?_
    refine ezw_if_eq rfl rfl ⟨by decide, by decide⟩ (fun h4_2 => ?_) (fun h4_2 => absurd h4_2 (by omega))
    refine ezw_aload_n rfl rfl ?_
    refine ezm_g18 rfl ?_
    have k3 := hT.t18
    refine ezw_icmp_ge rfl rfl hc1 ⟨by omega, by omega⟩ (fun h18_3 => ?_) (fun h18_3 => ?_)
    · refine ezw_iconst (-1) rfl rfl ?_
      exact ezw_ireturn rfl rfl ⟨rfl, (-1), ⟨by decide, by decide⟩, by omega, rfl⟩
    · refine ezw_iload_n rfl rfl ?_
      refine ezw_if_eq rfl rfl ⟨by decide, by decide⟩ (fun h22_3 => ?_) (fun h22_3 => absurd h22_3 (by omega))
      refine ezw_aload_n rfl rfl ?_
      refine ezm_gp (p := 81) rfl (fun _ => rfl) ?_
      refine ezw_iload_n rfl rfl ?_
      refine ezm_l81 rfl (by omega) (by omega) (fun u4 eu4 => ?_)
      have ku4 : ezw_il u4 := eu4 ▸ hT.t81 c1
      refine ezw_aload_n rfl rfl ?_
      refine ezm_gp (p := 76) rfl (fun _ => rfl) ?_
      refine ezw_aload_n rfl rfl ?_
      refine ezm_g7 rfl ?_
      have k5 := hT.t7
      refine ezm_l76 rfl (by omega) (by omega) (fun u6 eu6 => ?_)
      have ku6 : ezw_il u6 := eu6 ▸ hT.t76 i7
      refine ezw_lcmpE rfl ku4 ku6 (fun u7 hu7 => ?_)
      refine ezw_if_ne rfl rfl ⟨by omega, by omega⟩ (fun h50_7 => ?_) (fun h50_7 => ?_)
      · refine ezw_iinc (k := c1 + 1) (1) rfl rfl rfl (by omega) rfl ?_
        refine ezw_goto rfl rfl ?_
        exact ezw_keepE [true, true, true] (ihc1 (c1 + 1) (by omega) ⟨by omega, by omega⟩ (by omega))
      · refine ezw_iload_n rfl rfl ?_
        refine ezw_if_eq rfl rfl ⟨by decide, by decide⟩ (fun h54_7 => ?_) (fun h54_7 => absurd h54_7 (by omega))
        refine ezw_aload_n rfl rfl ?_
        refine ezm_gp (p := 83) rfl (fun _ => rfl) ?_
        refine ezw_iload_n rfl rfl ?_
        refine ezm_l83 rfl (by omega) (by omega) (fun u8 eu8 => ?_)
        have ku8 : 0 ≤ u8 ∧ u8 ≤ 23 := eu8 ▸ hT.t83 c1
        exact ezw_ireturn rfl rfl ⟨rfl, u8, ⟨by omega, by omega⟩, by omega, rfl⟩
  exact ezw_keepE [true, true, true] (L2_2 (0) ⟨by decide, by decide⟩ (by omega))
def ezm_m235_v0Q (e : Bool × Bool) (F : Nat → Nat → Int) (A : Nat → Int → Int) (i0 i2 i3 i7 i8 i13 i18 i19 i20 i25 i29 i30 i31 i36 i37 i38 : Int) (r73 r74 r75 r76 r77 r78 r79 r80 r81 r82 r83 r84 r85 r86 r87 r88 r89 r90 r91 r92 r93 r94 r95 : Int → Int) (n : Int) (a2 : Int) (a3 : Int) : Option ezq_V → (Nat → ezq_C) → Prop := fun v g' => ∃ (x8 : Int), ezm_h e F A i0 i2 i3 i7 x8 i13 i18 i19 i20 i25 i29 i30 i31 i36 i37 i38 r73 r74 r75 r76 r77 r78 r79 r80 r81 r82 r83 r84 r85 r86 r87 r88 r89 r90 r91 r92 r93 r94 r95 = g' ∧ ezm_T i0 i2 i3 i7 x8 i13 i18 i19 i20 i25 i29 i30 i31 i36 i37 i38 r73 r74 r75 r76 r77 r78 r79 r80 r81 r82 r83 r84 r85 r86 r87 r88 r89 r90 r91 r92 r93 r94 r95 ∧ ∃ u : Int, (ezw_in u) ∧ (i8 ≠ 0 → x8 = i8) ∧ (x8 = 0 → 0 ≤ u ∧ u < a3 ∧ i8 = 0 ∧ i7 < n) ∧ (-21 ≤ u ∧ u ≤ 23) ∧ some (ezw_i u) = v
theorem ezm_m235_v0 {n a2 a3 : Int} (hT : ezm_T i0 i2 i3 i7 i8 i13 i18 i19 i20 i25 i29 i30 i31 i36 i37 i38 r73 r74 r75 r76 r77 r78 r79 r80 r81 r82 r83 r84 r85 r86 r87 r88 r89 r90 r91 r92 r93 r94 r95) (hd : 3 ≤ d) (ha2 : ezw_in a2) (ha3 : ezw_in a3) (hn : 0 ≤ i7 ∧ i7 ≤ n) (hs : r74 n = 0) (h1 : n ≤ 1000) (ga : 0 ≤ a2 ∧ a2 ≤ 20) (gb : 1 ≤ a3 ∧ a3 ≤ 8) : ezw_C l ρ B xa Hb D cA 235 d [ezw_p 72, ezw_i (0), ezw_i a2, ezw_i a3] (ezm_h e F A i0 i2 i3 i7 i8 i13 i18 i19 i20 i25 i29 i30 i31 i36 i37 i38 r73 r74 r75 r76 r77 r78 r79 r80 r81 r82 r83 r84 r85 r86 r87 r88 r89 r90 r91 r92 r93 r94 r95) (ezm_m235_v0Q  e F A i0 i2 i3 i7 i8 i13 i18 i19 i20 i25 i29 i30 i31 i36 i37 i38 r73 r74 r75 r76 r77 r78 r79 r80 r81 r82 r83 r84 r85 r86 r87 r88 r89 r90 r91 r92 r93 r94 r95 n a2 a3) := by
  refine ezw_met (k := 1) rfl rfl ?_
  refine ezw_aload_n rfl rfl ?_
  refine ezm_g8 rfl ?_
  have k1 := hT.t8
  refine ezw_if_ne rfl rfl ⟨by omega, by omega⟩ (fun h4_1 => ?_) (fun h4_1 => ?_)
  · refine ezw_aload_n rfl rfl ?_
    refine ezm_g8 rfl ?_
    refine ezw_if_le rfl rfl ⟨by omega, by omega⟩ (fun h23_1 => ?_) (fun h23_1 => ?_)
    · refine ezw_aload_n rfl rfl ?_
      refine ezw_iload_n rfl rfl ?_
      refine ezw_call0_1 rfl (by omega) (ezm_at rfl) rfl rfl rfl rfl (ezm_m229_v0 hT (by omega) (by omega)) ?_
      rintro _ _ ⟨rfl, u3, hu3, p2_0, rfl⟩
      refine ezw_iload_n rfl rfl ?_
      refine ezw_isub (k := u3 - a2) rfl (by omega) ?_
      refine ezw_istore rfl rfl ?_
      refine ezw_aload_n rfl rfl ?_
      refine ezm_g8 rfl ?_
      refine ezw_if_ne rfl rfl ⟨by omega, by omega⟩ (fun h43_3 => ?_) (fun h43_3 => ?_)
      · refine ezw_iload rfl rfl ?_
        exact ezw_ireturn rfl rfl ⟨i8, rfl, hT, u3 - a2, ⟨by omega, by omega⟩, by omega, by omega, by omega, rfl⟩
      · refine ezw_iload rfl rfl ?_
        refine ezw_iconst (0) rfl rfl ?_
        refine ezw_iload_n rfl rfl ?_
        refine ezw_iconst (1) rfl rfl ?_
        refine ezw_isub (k := a3 - 1) rfl (by omega) ?_
        refine ezw_call2_3 rfl (by omega) rfl rfl (ezm_m236 hT (by omega) ⟨by omega, by omega⟩ ⟨by decide, by decide⟩ ⟨by omega, by omega⟩) ?_
        rintro _ _ ⟨rfl, u5, hu5, p4_0, p4_1, rfl⟩
        refine ezw_if_ne rfl rfl ⟨by omega, by omega⟩ (fun h55_5 => ?_) (fun h55_5 => ?_)
        · refine ezw_iload rfl rfl ?_
          exact ezw_ireturn rfl rfl ⟨i8, rfl, hT, u3 - a2, ⟨by omega, by omega⟩, by omega, by omega, by omega, rfl⟩
        · refine ezw_aload_n rfl rfl ?_
          refine ezw_iconst (2) rfl rfl ?_
          refine ezw_call0_1 rfl (by omega) (ezm_at rfl) rfl rfl rfl rfl (ezm_m225 hT (by omega) ⟨by decide, by decide⟩ (by omega) (by omega)) ?_
          rintro _ _ ⟨x8_6, rfl, hT, p6_0, p6_1, rfl⟩
          have k7 := hT.t8
          refine ezw_iload rfl rfl ?_
          exact ezw_ireturn rfl rfl ⟨x8_6, rfl, hT, u3 - a2, ⟨by omega, by omega⟩, by omega, by omega, by omega, rfl⟩
    · refine ezw_iconst (-1) rfl rfl ?_
      refine ezw_goto rfl rfl ?_
      refine ezw_istore rfl rfl ?_
      refine ezw_aload_n rfl rfl ?_
      refine ezm_g8 rfl ?_
      refine ezw_if_ne rfl rfl ⟨by omega, by omega⟩ (fun h43_7 => ?_) (fun h43_7 => ?_)
      · refine ezw_iload rfl rfl ?_
        exact ezw_ireturn rfl rfl ⟨i8, rfl, hT, (-1), ⟨by decide, by decide⟩, by omega, by omega, by omega, rfl⟩
      · refine ezw_iload rfl rfl ?_
        refine ezw_iconst (0) rfl rfl ?_
        refine ezw_iload_n rfl rfl ?_
        refine ezw_iconst (1) rfl rfl ?_
        refine ezw_isub (k := a3 - 1) rfl (by omega) ?_
        refine ezw_call2_3 rfl (by omega) rfl rfl (ezm_m236 hT (by omega) ⟨by decide, by decide⟩ ⟨by decide, by decide⟩ ⟨by omega, by omega⟩) ?_
        rintro _ _ ⟨rfl, u9, hu9, p8_0, p8_1, rfl⟩
        refine ezw_if_ne rfl rfl ⟨by omega, by omega⟩ (fun h55_9 => ?_) (fun h55_9 => ?_)
        · refine ezw_iload rfl rfl ?_
          exact ezw_ireturn rfl rfl ⟨i8, rfl, hT, (-1), ⟨by decide, by decide⟩, by omega, by omega, by omega, rfl⟩
        · refine ezw_aload_n rfl rfl ?_
          refine ezw_iconst (2) rfl rfl ?_
          refine ezw_call0_1 rfl (by omega) (ezm_at rfl) rfl rfl rfl rfl (ezm_m225 hT (by omega) ⟨by decide, by decide⟩ (by omega) (by omega)) ?_
          rintro _ _ ⟨x8_10, rfl, hT, p10_0, p10_1, rfl⟩
          have k11 := hT.t8
          refine ezw_iload rfl rfl ?_
          exact ezw_ireturn rfl rfl ⟨x8_10, rfl, hT, (-1), ⟨by decide, by decide⟩, by omega, by omega, by omega, rfl⟩
  · refine ezw_aload_n rfl rfl ?_
    refine ezw_call0_0 rfl (by omega) (ezm_at rfl) rfl rfl rfl rfl (ezm_m227 hT (by omega) (by omega) hs (by omega)) ?_
    rintro _ _ ⟨rfl, u13, hu13, f_12, rfl⟩
    refine ezw_if_ne rfl rfl ⟨by omega, by omega⟩ (fun h11_13 => ?_) (fun h11_13 => ?_)
    · refine ezw_aload_n rfl rfl ?_
      refine ezm_g8 rfl ?_
      refine ezw_if_le rfl rfl ⟨by omega, by omega⟩ (fun h23_13 => ?_) (fun h23_13 => ?_)
      · refine ezw_aload_n rfl rfl ?_
        refine ezw_iload_n rfl rfl ?_
        refine ezw_call0_1 rfl (by omega) (ezm_at rfl) rfl rfl rfl rfl (ezm_m229_v0 hT (by omega) (by omega)) ?_
        rintro _ _ ⟨rfl, u15, hu15, p14_0, rfl⟩
        refine ezw_iload_n rfl rfl ?_
        refine ezw_isub (k := u15 - a2) rfl (by omega) ?_
        refine ezw_istore rfl rfl ?_
        refine ezw_aload_n rfl rfl ?_
        refine ezm_g8 rfl ?_
        refine ezw_if_ne rfl rfl ⟨by omega, by omega⟩ (fun h43_15 => ?_) (fun h43_15 => ?_)
        · refine ezw_iload rfl rfl ?_
          exact ezw_ireturn rfl rfl ⟨i8, rfl, hT, u15 - a2, ⟨by omega, by omega⟩, by omega, by omega, by omega, rfl⟩
        · refine ezw_iload rfl rfl ?_
          refine ezw_iconst (0) rfl rfl ?_
          refine ezw_iload_n rfl rfl ?_
          refine ezw_iconst (1) rfl rfl ?_
          refine ezw_isub (k := a3 - 1) rfl (by omega) ?_
          refine ezw_call2_3 rfl (by omega) rfl rfl (ezm_m236 hT (by omega) ⟨by omega, by omega⟩ ⟨by decide, by decide⟩ ⟨by omega, by omega⟩) ?_
          rintro _ _ ⟨rfl, u17, hu17, p16_0, p16_1, rfl⟩
          refine ezw_if_ne rfl rfl ⟨by omega, by omega⟩ (fun h55_17 => ?_) (fun h55_17 => ?_)
          · refine ezw_iload rfl rfl ?_
            exact ezw_ireturn rfl rfl ⟨i8, rfl, hT, u15 - a2, ⟨by omega, by omega⟩, by omega, by omega, by omega, rfl⟩
          · refine ezw_aload_n rfl rfl ?_
            refine ezw_iconst (2) rfl rfl ?_
            refine ezw_call0_1 rfl (by omega) (ezm_at rfl) rfl rfl rfl rfl (ezm_m225 hT (by omega) ⟨by decide, by decide⟩ (by omega) (by omega)) ?_
            rintro _ _ ⟨x8_18, rfl, hT, p18_0, p18_1, rfl⟩
            have k19 := hT.t8
            refine ezw_iload rfl rfl ?_
            exact ezw_ireturn rfl rfl ⟨x8_18, rfl, hT, u15 - a2, ⟨by omega, by omega⟩, by omega, by omega, by omega, rfl⟩
      · refine ezw_iconst (-1) rfl rfl ?_
        refine ezw_goto rfl rfl ?_
        refine ezw_istore rfl rfl ?_
        refine ezw_aload_n rfl rfl ?_
        refine ezm_g8 rfl ?_
        refine ezw_if_ne rfl rfl ⟨by omega, by omega⟩ (fun h43_19 => ?_) (fun h43_19 => ?_)
        · refine ezw_iload rfl rfl ?_
          exact ezw_ireturn rfl rfl ⟨i8, rfl, hT, (-1), ⟨by decide, by decide⟩, by omega, by omega, by omega, rfl⟩
        · refine ezw_iload rfl rfl ?_
          refine ezw_iconst (0) rfl rfl ?_
          refine ezw_iload_n rfl rfl ?_
          refine ezw_iconst (1) rfl rfl ?_
          refine ezw_isub (k := a3 - 1) rfl (by omega) ?_
          refine ezw_call2_3 rfl (by omega) rfl rfl (ezm_m236 hT (by omega) ⟨by decide, by decide⟩ ⟨by decide, by decide⟩ ⟨by omega, by omega⟩) ?_
          rintro _ _ ⟨rfl, u21, hu21, p20_0, p20_1, rfl⟩
          refine ezw_if_ne rfl rfl ⟨by omega, by omega⟩ (fun h55_21 => ?_) (fun h55_21 => ?_)
          · refine ezw_iload rfl rfl ?_
            exact ezw_ireturn rfl rfl ⟨i8, rfl, hT, (-1), ⟨by decide, by decide⟩, by omega, by omega, by omega, rfl⟩
          · refine ezw_aload_n rfl rfl ?_
            refine ezw_iconst (2) rfl rfl ?_
            refine ezw_call0_1 rfl (by omega) (ezm_at rfl) rfl rfl rfl rfl (ezm_m225 hT (by omega) ⟨by decide, by decide⟩ (by omega) (by omega)) ?_
            rintro _ _ ⟨x8_22, rfl, hT, p22_0, p22_1, rfl⟩
            have k23 := hT.t8
            refine ezw_iload rfl rfl ?_
            exact ezw_ireturn rfl rfl ⟨x8_22, rfl, hT, (-1), ⟨by decide, by decide⟩, by omega, by omega, by omega, rfl⟩
    · refine ezw_aload_n rfl rfl ?_
      refine ezw_iconst (1) rfl rfl ?_
      refine ezw_call0_1 rfl (by omega) (ezm_at rfl) rfl rfl rfl rfl (ezm_m225 hT (by omega) ⟨by decide, by decide⟩ (by omega) (by omega)) ?_
      rintro _ _ ⟨x8_24, rfl, hT, p24_0, p24_1, rfl⟩
      have k25 := hT.t8
      refine ezw_aload_n rfl rfl ?_
      refine ezm_g8 rfl ?_
      refine ezw_if_le rfl rfl ⟨by omega, by omega⟩ (fun h23_25 => ?_) (fun h23_25 => ?_)
      · refine ezw_aload_n rfl rfl ?_
        refine ezw_iload_n rfl rfl ?_
        refine ezw_call0_1 rfl (by omega) (ezm_at rfl) rfl rfl rfl rfl (ezm_m229_v0 hT (by omega) (by omega)) ?_
        rintro _ _ ⟨rfl, u27, hu27, p26_0, rfl⟩
        refine ezw_iload_n rfl rfl ?_
        refine ezw_isub (k := u27 - a2) rfl (by omega) ?_
        refine ezw_istore rfl rfl ?_
        refine ezw_aload_n rfl rfl ?_
        refine ezm_g8 rfl ?_
        refine ezw_if_ne rfl rfl ⟨by omega, by omega⟩ (fun h43_27 => ?_) (fun h43_27 => ?_)
        · refine ezw_iload rfl rfl ?_
          exact ezw_ireturn rfl rfl ⟨x8_24, rfl, hT, u27 - a2, ⟨by omega, by omega⟩, by omega, by omega, by omega, rfl⟩
        · refine ezw_iload rfl rfl ?_
          refine ezw_iconst (0) rfl rfl ?_
          refine ezw_iload_n rfl rfl ?_
          refine ezw_iconst (1) rfl rfl ?_
          refine ezw_isub (k := a3 - 1) rfl (by omega) ?_
          refine ezw_call2_3 rfl (by omega) rfl rfl (ezm_m236 hT (by omega) ⟨by omega, by omega⟩ ⟨by decide, by decide⟩ ⟨by omega, by omega⟩) ?_
          rintro _ _ ⟨rfl, u29, hu29, p28_0, p28_1, rfl⟩
          refine ezw_if_ne rfl rfl ⟨by omega, by omega⟩ (fun h55_29 => ?_) (fun h55_29 => ?_)
          · refine ezw_iload rfl rfl ?_
            exact ezw_ireturn rfl rfl ⟨x8_24, rfl, hT, u27 - a2, ⟨by omega, by omega⟩, by omega, by omega, by omega, rfl⟩
          · refine ezw_aload_n rfl rfl ?_
            refine ezw_iconst (2) rfl rfl ?_
            refine ezw_call0_1 rfl (by omega) (ezm_at rfl) rfl rfl rfl rfl (ezm_m225 hT (by omega) ⟨by decide, by decide⟩ (by omega) (by omega)) ?_
            rintro _ _ ⟨x8_30, rfl, hT, p30_0, p30_1, rfl⟩
            have k31 := hT.t8
            refine ezw_iload rfl rfl ?_
            exact ezw_ireturn rfl rfl ⟨x8_30, rfl, hT, u27 - a2, ⟨by omega, by omega⟩, by omega, by omega, by omega, rfl⟩
      · refine ezw_iconst (-1) rfl rfl ?_
        refine ezw_goto rfl rfl ?_
        refine ezw_istore rfl rfl ?_
        refine ezw_aload_n rfl rfl ?_
        refine ezm_g8 rfl ?_
        refine ezw_if_ne rfl rfl ⟨by omega, by omega⟩ (fun h43_31 => ?_) (fun h43_31 => ?_)
        · refine ezw_iload rfl rfl ?_
          exact ezw_ireturn rfl rfl ⟨x8_24, rfl, hT, (-1), ⟨by decide, by decide⟩, by omega, by omega, by omega, rfl⟩
        · refine ezw_iload rfl rfl ?_
          refine ezw_iconst (0) rfl rfl ?_
          refine ezw_iload_n rfl rfl ?_
          refine ezw_iconst (1) rfl rfl ?_
          refine ezw_isub (k := a3 - 1) rfl (by omega) ?_
          refine ezw_call2_3 rfl (by omega) rfl rfl (ezm_m236 hT (by omega) ⟨by decide, by decide⟩ ⟨by decide, by decide⟩ ⟨by omega, by omega⟩) ?_
          rintro _ _ ⟨rfl, u33, hu33, p32_0, p32_1, rfl⟩
          refine ezw_if_ne rfl rfl ⟨by omega, by omega⟩ (fun h55_33 => ?_) (fun h55_33 => ?_)
          · refine ezw_iload rfl rfl ?_
            exact ezw_ireturn rfl rfl ⟨x8_24, rfl, hT, (-1), ⟨by decide, by decide⟩, by omega, by omega, by omega, rfl⟩
          · refine ezw_aload_n rfl rfl ?_
            refine ezw_iconst (2) rfl rfl ?_
            refine ezw_call0_1 rfl (by omega) (ezm_at rfl) rfl rfl rfl rfl (ezm_m225 hT (by omega) ⟨by decide, by decide⟩ (by omega) (by omega)) ?_
            rintro _ _ ⟨x8_34, rfl, hT, p34_0, p34_1, rfl⟩
            have k35 := hT.t8
            refine ezw_iload rfl rfl ?_
            exact ezw_ireturn rfl rfl ⟨x8_34, rfl, hT, (-1), ⟨by decide, by decide⟩, by omega, by omega, by omega, rfl⟩
def ezm_m239_v0Q (e : Bool × Bool) (F : Nat → Nat → Int) (A : Nat → Int → Int) (i0 i2 i3 i7 i8 i13 i18 i19 i20 i25 i29 i30 i31 i36 i37 i38 : Int) (r73 r74 r75 r76 r77 r78 r79 r80 r81 r82 r83 r84 r85 r86 r87 r88 r89 r90 r91 r92 r93 r94 r95 : Int → Int) (n : Int) (a2 : Int) (a3 : Int) : Option ezq_V → (Nat → ezq_C) → Prop := fun v g' => ∃ (x7 x8 : Int), ezm_h e F A i0 i2 i3 x7 x8 i13 i18 i19 i20 i25 i29 i30 i31 i36 i37 i38 r73 r74 r75 r76 r77 r78 r79 r80 r81 r82 r83 r84 r85 r86 r87 r88 r89 r90 r91 r92 r93 r94 r95 = g' ∧ ezm_T i0 i2 i3 x7 x8 i13 i18 i19 i20 i25 i29 i30 i31 i36 i37 i38 r73 r74 r75 r76 r77 r78 r79 r80 r81 r82 r83 r84 r85 r86 r87 r88 r89 r90 r91 r92 r93 r94 r95 ∧ ∃ u : Int, (ezw_in u) ∧ (i8 ≠ 0 → x8 = i8) ∧ (x8 = 0 → 0 ≤ u ∧ u < a3 ∧ i8 = 0 ∧ x7 = i7 + 1 ∧ x7 ≤ n) ∧ (x8 ≠ 0 → u = 0 ∧ x7 = i7) ∧ some (ezw_i u) = v
theorem ezm_m239_v0 {n a2 a3 : Int} (hT : ezm_T i0 i2 i3 i7 i8 i13 i18 i19 i20 i25 i29 i30 i31 i36 i37 i38 r73 r74 r75 r76 r77 r78 r79 r80 r81 r82 r83 r84 r85 r86 r87 r88 r89 r90 r91 r92 r93 r94 r95) (hd : 4 ≤ d) (ha2 : ezw_in a2) (ha3 : ezw_in a3) (hn : 0 ≤ i7 ∧ i7 ≤ n) (hs : r74 n = 0) (h1 : n ≤ 1000) (ga : 0 ≤ a2 ∧ a2 ≤ 20) (gb : 1 ≤ a3 ∧ a3 ≤ 8) : ezw_C l ρ B xa Hb D cA 239 d [ezw_p 72, ezw_i (0), ezw_i a2, ezw_i a3] (ezm_h e F A i0 i2 i3 i7 i8 i13 i18 i19 i20 i25 i29 i30 i31 i36 i37 i38 r73 r74 r75 r76 r77 r78 r79 r80 r81 r82 r83 r84 r85 r86 r87 r88 r89 r90 r91 r92 r93 r94 r95) (ezm_m239_v0Q  e F A i0 i2 i3 i7 i8 i13 i18 i19 i20 i25 i29 i30 i31 i36 i37 i38 r73 r74 r75 r76 r77 r78 r79 r80 r81 r82 r83 r84 r85 r86 r87 r88 r89 r90 r91 r92 r93 r94 r95 n a2 a3) := by
  refine ezw_met (k := 1) rfl rfl ?_
  refine ezw_aload_n rfl rfl ?_
  refine ezw_iload_n rfl rfl ?_
  refine ezw_iload_n rfl rfl ?_
  refine ezw_iload_n rfl rfl ?_
  refine ezw_call0_3 rfl (by omega) (ezm_at rfl) rfl rfl rfl rfl (ezm_m235_v0 hT (by omega) ha2 ha3 (by omega) hs (by omega) (by omega) (by omega)) ?_
  rintro _ _ ⟨x8_1, rfl, hT, u2, hu2, p1_0, p1_1, p1_2, rfl⟩
  have k3 := hT.t8
  refine ezw_istore rfl rfl ?_
  refine ezw_aload_n rfl rfl ?_
  refine ezw_dup rfl rfl ?_
  refine ezm_g7 rfl ?_
  have k4 := hT.t7
  refine ezw_aload_n rfl rfl ?_
  refine ezm_g8 rfl ?_
  refine ezw_if_le rfl rfl ⟨by omega, by omega⟩ (fun h18_4 => ?_) (fun h18_4 => ?_)
  · refine ezw_iconst (1) rfl rfl ?_
    refine ezw_iadd (k := i7 + 1) rfl (by omega) ?_
    refine ezm_p7 hT rfl ⟨by omega, by omega⟩ (fun hT => ?_)
    refine ezw_aload_n rfl rfl ?_
    refine ezm_g8 rfl ?_
    refine ezw_if_le rfl rfl ⟨by omega, by omega⟩ (fun h34_4 => ?_) (fun h34_4 => ?_)
    · refine ezw_iload rfl rfl ?_
      exact ezw_ireturn rfl rfl ⟨(i7 + 1), x8_1, rfl, hT, u2, hu2, by omega, by omega, by omega, rfl⟩
    · refine ezw_iconst (0) rfl rfl ?_
      refine ezw_goto rfl rfl ?_
      exact ezw_ireturn rfl rfl ⟨(i7 + 1), x8_1, rfl, hT, (0), ⟨by decide, by decide⟩, by omega, by omega, by omega, rfl⟩
  · refine ezw_iconst (0) rfl rfl ?_
    refine ezw_goto rfl rfl ?_
    refine ezw_iadd (k := i7) rfl (by omega) ?_
    refine ezm_p7 hT rfl ⟨by omega, by omega⟩ (fun hT => ?_)
    refine ezw_aload_n rfl rfl ?_
    refine ezm_g8 rfl ?_
    refine ezw_if_le rfl rfl ⟨by omega, by omega⟩ (fun h34_4 => ?_) (fun h34_4 => ?_)
    · refine ezw_iload rfl rfl ?_
      exact ezw_ireturn rfl rfl ⟨i7, x8_1, rfl, hT, u2, hu2, by omega, by omega, by omega, rfl⟩
    · refine ezw_iconst (0) rfl rfl ?_
      refine ezw_goto rfl rfl ?_
      exact ezw_ireturn rfl rfl ⟨i7, x8_1, rfl, hT, (0), ⟨by decide, by decide⟩, by omega, by omega, by omega, rfl⟩
def ezm_m253Q (e : Bool × Bool) (F : Nat → Nat → Int) (A : Nat → Int → Int) (i0 i2 i3 i7 i8 i13 i18 i19 i20 i25 i29 i30 i31 i36 i37 i38 : Int) (r73 r74 r75 r76 r77 r78 r79 r80 r81 r82 r83 r84 r85 r86 r87 r88 r89 r90 r91 r92 r93 r94 r95 : Int → Int) (n : Int) (a1 : Int) : Option ezq_V → (Nat → ezq_C) → Prop := fun v g' => ∃ (x7 x8 : Int), ezm_h e F A i0 i2 i3 x7 x8 i13 i18 i19 i20 i25 i29 i30 i31 i36 i37 i38 r73 r74 r75 r76 r77 r78 r79 r80 r81 r82 r83 r84 r85 r86 r87 r88 r89 r90 r91 r92 r93 r94 r95 = g' ∧ ezm_T i0 i2 i3 x7 x8 i13 i18 i19 i20 i25 i29 i30 i31 i36 i37 i38 r73 r74 r75 r76 r77 r78 r79 r80 r81 r82 r83 r84 r85 r86 r87 r88 r89 r90 r91 r92 r93 r94 r95 ∧ (i8 ≠ 0 → x8 = i8 ∧ x7 = i7) ∧ (x8 = 0 → i8 = 0 ∧ x7 = i7 + 1) ∧ (i7 ≤ x7 ∧ x7 ≤ n) ∧ none = v
theorem ezm_m253 {n a1 : Int} (hT : ezm_T i0 i2 i3 i7 i8 i13 i18 i19 i20 i25 i29 i30 i31 i36 i37 i38 r73 r74 r75 r76 r77 r78 r79 r80 r81 r82 r83 r84 r85 r86 r87 r88 r89 r90 r91 r92 r93 r94 r95) (hd : 1 ≤ d) (ha1 : ezw_in a1) (hn : 0 ≤ i7 ∧ i7 ≤ n) (hs : r74 n = 0) (h1 : n ≤ 1000) : ezw_C l ρ B xa Hb D cA 253 d [ezw_p 72, ezw_i a1] (ezm_h e F A i0 i2 i3 i7 i8 i13 i18 i19 i20 i25 i29 i30 i31 i36 i37 i38 r73 r74 r75 r76 r77 r78 r79 r80 r81 r82 r83 r84 r85 r86 r87 r88 r89 r90 r91 r92 r93 r94 r95) (ezm_m253Q  e F A i0 i2 i3 i7 i8 i13 i18 i19 i20 i25 i29 i30 i31 i36 i37 i38 r73 r74 r75 r76 r77 r78 r79 r80 r81 r82 r83 r84 r85 r86 r87 r88 r89 r90 r91 r92 r93 r94 r95 n a1) := by
  refine ezw_met (k := 0) rfl rfl ?_
  refine ezw_aload_n rfl rfl ?_
  refine ezw_iload_n rfl rfl ?_
  refine ezw_call0_1 rfl (by omega) (ezm_at rfl) rfl rfl rfl rfl (ezm_m250 hT (by omega) ha1 (by omega) hs (by omega)) ?_
  rintro _ _ ⟨rfl, u2, hu2, f_1, w_1, rfl⟩
  refine ezw_if_eq rfl rfl ⟨by omega, by omega⟩ (fun h5_2 => ?_) (fun h5_2 => ?_)
  · refine ezw_aload_n rfl rfl ?_
    refine ezw_iconst (1) rfl rfl ?_
    refine ezw_call0_1 rfl (by omega) (ezm_at rfl) rfl rfl rfl rfl (ezm_m225 hT (by omega) ⟨by decide, by decide⟩ (by omega) (by omega)) ?_
    rintro _ _ ⟨x8_3, rfl, hT, p3_0, p3_1, rfl⟩
    have k4 := hT.t8
    exact ezw_return rfl rfl ⟨i7, x8_3, rfl, hT, by omega, by omega, by omega, rfl⟩
  · refine ezw_aload_n rfl rfl ?_
    refine ezw_dup rfl rfl ?_
    refine ezm_g7 rfl ?_
    have k5 := hT.t7
    refine ezw_iconst (1) rfl rfl ?_
    refine ezw_iadd (k := i7 + 1) rfl (by omega) ?_
    refine ezm_p7 hT rfl ⟨by omega, by omega⟩ (fun hT => ?_)
    refine ezw_goto rfl rfl ?_
    exact ezw_return rfl rfl ⟨(i7 + 1), i8, rfl, hT, by omega, by omega, by omega, rfl⟩
def ezm_m234Q (e : Bool × Bool) (F : Nat → Nat → Int) (A : Nat → Int → Int) (i0 i2 i3 i7 i8 i13 i18 i19 i20 i25 i29 i30 i31 i36 i37 i38 : Int) (r73 r74 r75 r76 r77 r78 r79 r80 r81 r82 r83 r84 r85 r86 r87 r88 r89 r90 r91 r92 r93 r94 r95 : Int → Int) (n : Int) (a1 : Int) (a2 : Int) : Option ezq_V → (Nat → ezq_C) → Prop := fun v g' => ∃ (x7 x8 : Int), ezm_h e F A i0 i2 i3 x7 x8 i13 i18 i19 i20 i25 i29 i30 i31 i36 i37 i38 r73 r74 r75 r76 r77 r78 r79 r80 r81 r82 r83 r84 r85 r86 r87 r88 r89 r90 r91 r92 r93 r94 r95 = g' ∧ ezm_T i0 i2 i3 x7 x8 i13 i18 i19 i20 i25 i29 i30 i31 i36 i37 i38 r73 r74 r75 r76 r77 r78 r79 r80 r81 r82 r83 r84 r85 r86 r87 r88 r89 r90 r91 r92 r93 r94 r95 ∧ ∃ u : Int, (ezw_in u) ∧ (i8 ≠ 0 → x8 = i8) ∧ (x8 = 0 → 0 ≤ u ∧ u < a2 ∧ i8 = 0 ∧ x7 = i7 + 1 ∧ x7 ≤ n) ∧ (x8 ≠ 0 → u = 0 ∧ x7 = i7) ∧ some (ezw_i u) = v
theorem ezm_m234 {n a1 a2 : Int} (hT : ezm_T i0 i2 i3 i7 i8 i13 i18 i19 i20 i25 i29 i30 i31 i36 i37 i38 r73 r74 r75 r76 r77 r78 r79 r80 r81 r82 r83 r84 r85 r86 r87 r88 r89 r90 r91 r92 r93 r94 r95) (hd : 2 ≤ d) (ha1 : ezw_in a1) (ha2 : ezw_in a2) (hn : 0 ≤ i7 ∧ i7 ≤ n) (hs : r74 n = 0) (h1 : n ≤ 1000) (ga : 0 ≤ a1 ∧ 1 ≤ a2 ∧ a1 + a2 ≤ 48) : ezw_C l ρ B xa Hb D cA 234 d [ezw_p 72, ezw_i a1, ezw_i a2] (ezm_h e F A i0 i2 i3 i7 i8 i13 i18 i19 i20 i25 i29 i30 i31 i36 i37 i38 r73 r74 r75 r76 r77 r78 r79 r80 r81 r82 r83 r84 r85 r86 r87 r88 r89 r90 r91 r92 r93 r94 r95) (ezm_m234Q  e F A i0 i2 i3 i7 i8 i13 i18 i19 i20 i25 i29 i30 i31 i36 i37 i38 r73 r74 r75 r76 r77 r78 r79 r80 r81 r82 r83 r84 r85 r86 r87 r88 r89 r90 r91 r92 r93 r94 r95 n a1 a2) := by
  refine ezw_met (k := 1) rfl rfl ?_
  refine ezw_aload_n rfl rfl ?_
  refine ezm_g8 rfl ?_
  have k1 := hT.t8
  refine ezw_if_le rfl rfl ⟨by omega, by omega⟩ (fun h4_1 => ?_) (fun h4_1 => ?_)
  · refine ezw_aload_n rfl rfl ?_
    refine ezw_iload_n rfl rfl ?_
    refine ezw_iload_n rfl rfl ?_
    refine ezw_call0_2 rfl (by omega) (ezm_at rfl) rfl rfl rfl rfl (ezm_m228 hT (by omega) ha1 ha2 (by omega) hs (by omega) (by omega)) ?_
    rintro _ _ ⟨rfl, u3, hu3, p2_0, p2_1, p2_2, rfl⟩
    refine ezw_istore_n rfl rfl ?_
    refine ezw_aload_n rfl rfl ?_
    refine ezm_g8 rfl ?_
    refine ezw_if_ne rfl rfl ⟨by omega, by omega⟩ (fun h22_3 => ?_) (fun h22_3 => ?_)
    · refine ezw_aload_n rfl rfl ?_
      refine ezw_dup rfl rfl ?_
      refine ezm_g7 rfl ?_
      have k4 := hT.t7
      refine ezw_aload_n rfl rfl ?_
      refine ezm_g8 rfl ?_
      refine ezw_if_le rfl rfl ⟨by omega, by omega⟩ (fun h43_4 => ?_) (fun h43_4 => ?_)
      · refine ezw_iconst (1) rfl rfl ?_
        refine ezw_iadd (k := i7 + 1) rfl (by omega) ?_
        refine ezm_p7 hT rfl ⟨by omega, by omega⟩ (fun hT => ?_)
        refine ezw_aload_n rfl rfl ?_
        refine ezm_g8 rfl ?_
        refine ezw_if_le rfl rfl ⟨by omega, by omega⟩ (fun h59_4 => ?_) (fun h59_4 => ?_)
        · refine ezw_iload_n rfl rfl ?_
          exact ezw_ireturn rfl rfl ⟨(i7 + 1), i8, rfl, hT, u3, hu3, by omega, by omega, by omega, rfl⟩
        · refine ezw_iconst (0) rfl rfl ?_
          refine ezw_goto rfl rfl ?_
          exact ezw_ireturn rfl rfl ⟨(i7 + 1), i8, rfl, hT, (0), ⟨by decide, by decide⟩, by omega, by omega, by omega, rfl⟩
      · refine ezw_iconst (0) rfl rfl ?_
        refine ezw_goto rfl rfl ?_
        refine ezw_iadd (k := i7) rfl (by omega) ?_
        refine ezm_p7 hT rfl ⟨by omega, by omega⟩ (fun hT => ?_)
        refine ezw_aload_n rfl rfl ?_
        refine ezm_g8 rfl ?_
        refine ezw_if_le rfl rfl ⟨by omega, by omega⟩ (fun h59_4 => ?_) (fun h59_4 => ?_)
        · refine ezw_iload_n rfl rfl ?_
          exact ezw_ireturn rfl rfl ⟨i7, i8, rfl, hT, u3, hu3, by omega, by omega, by omega, rfl⟩
        · refine ezw_iconst (0) rfl rfl ?_
          refine ezw_goto rfl rfl ?_
          exact ezw_ireturn rfl rfl ⟨i7, i8, rfl, hT, (0), ⟨by decide, by decide⟩, by omega, by omega, by omega, rfl⟩
    · refine ezw_iload_n rfl rfl ?_
      refine ezw_if_ge rfl rfl hu3 (fun h26_4 => ?_) (fun h26_4 => ?_)
      · refine ezw_aload_n rfl rfl ?_
        refine ezw_dup rfl rfl ?_
        refine ezm_g7 rfl ?_
        have k5 := hT.t7
        refine ezw_aload_n rfl rfl ?_
        refine ezm_g8 rfl ?_
        refine ezw_if_le rfl rfl ⟨by omega, by omega⟩ (fun h43_5 => ?_) (fun h43_5 => ?_)
        · refine ezw_iconst (1) rfl rfl ?_
          refine ezw_iadd (k := i7 + 1) rfl (by omega) ?_
          refine ezm_p7 hT rfl ⟨by omega, by omega⟩ (fun hT => ?_)
          refine ezw_aload_n rfl rfl ?_
          refine ezm_g8 rfl ?_
          refine ezw_if_le rfl rfl ⟨by omega, by omega⟩ (fun h59_5 => ?_) (fun h59_5 => ?_)
          · refine ezw_iload_n rfl rfl ?_
            exact ezw_ireturn rfl rfl ⟨(i7 + 1), i8, rfl, hT, u3, hu3, by omega, by omega, by omega, rfl⟩
          · refine ezw_iconst (0) rfl rfl ?_
            refine ezw_goto rfl rfl ?_
            exact ezw_ireturn rfl rfl ⟨(i7 + 1), i8, rfl, hT, (0), ⟨by decide, by decide⟩, by omega, by omega, by omega, rfl⟩
        · refine ezw_iconst (0) rfl rfl ?_
          refine ezw_goto rfl rfl ?_
          refine ezw_iadd (k := i7) rfl (by omega) ?_
          refine ezm_p7 hT rfl ⟨by omega, by omega⟩ (fun hT => ?_)
          refine ezw_aload_n rfl rfl ?_
          refine ezm_g8 rfl ?_
          refine ezw_if_le rfl rfl ⟨by omega, by omega⟩ (fun h59_5 => ?_) (fun h59_5 => ?_)
          · refine ezw_iload_n rfl rfl ?_
            exact ezw_ireturn rfl rfl ⟨i7, i8, rfl, hT, u3, hu3, by omega, by omega, by omega, rfl⟩
          · refine ezw_iconst (0) rfl rfl ?_
            refine ezw_goto rfl rfl ?_
            exact ezw_ireturn rfl rfl ⟨i7, i8, rfl, hT, (0), ⟨by decide, by decide⟩, by omega, by omega, by omega, rfl⟩
      · refine ezw_aload_n rfl rfl ?_
        refine ezw_iconst (1) rfl rfl ?_
        refine ezw_call0_1 rfl (by omega) (ezm_at rfl) rfl rfl rfl rfl (ezm_m225 hT (by omega) ⟨by decide, by decide⟩ (by omega) (by omega)) ?_
        rintro _ _ ⟨x8_6, rfl, hT, p6_0, p6_1, rfl⟩
        have k7 := hT.t8
        refine ezw_aload_n rfl rfl ?_
        refine ezw_dup rfl rfl ?_
        refine ezm_g7 rfl ?_
        have k8 := hT.t7
        refine ezw_aload_n rfl rfl ?_
        refine ezm_g8 rfl ?_
        refine ezw_if_le rfl rfl ⟨by omega, by omega⟩ (fun h43_8 => ?_) (fun h43_8 => ?_)
        · refine ezw_iconst (1) rfl rfl ?_
          refine ezw_iadd (k := i7 + 1) rfl (by omega) ?_
          refine ezm_p7 hT rfl ⟨by omega, by omega⟩ (fun hT => ?_)
          refine ezw_aload_n rfl rfl ?_
          refine ezm_g8 rfl ?_
          refine ezw_if_le rfl rfl ⟨by omega, by omega⟩ (fun h59_8 => ?_) (fun h59_8 => ?_)
          · refine ezw_iload_n rfl rfl ?_
            exact ezw_ireturn rfl rfl ⟨(i7 + 1), x8_6, rfl, hT, u3, hu3, by omega, by omega, by omega, rfl⟩
          · refine ezw_iconst (0) rfl rfl ?_
            refine ezw_goto rfl rfl ?_
            exact ezw_ireturn rfl rfl ⟨(i7 + 1), x8_6, rfl, hT, (0), ⟨by decide, by decide⟩, by omega, by omega, by omega, rfl⟩
        · refine ezw_iconst (0) rfl rfl ?_
          refine ezw_goto rfl rfl ?_
          refine ezw_iadd (k := i7) rfl (by omega) ?_
          refine ezm_p7 hT rfl ⟨by omega, by omega⟩ (fun hT => ?_)
          refine ezw_aload_n rfl rfl ?_
          refine ezm_g8 rfl ?_
          refine ezw_if_le rfl rfl ⟨by omega, by omega⟩ (fun h59_8 => ?_) (fun h59_8 => ?_)
          · refine ezw_iload_n rfl rfl ?_
            exact ezw_ireturn rfl rfl ⟨i7, x8_6, rfl, hT, u3, hu3, by omega, by omega, by omega, rfl⟩
          · refine ezw_iconst (0) rfl rfl ?_
            refine ezw_goto rfl rfl ?_
            exact ezw_ireturn rfl rfl ⟨i7, x8_6, rfl, hT, (0), ⟨by decide, by decide⟩, by omega, by omega, by omega, rfl⟩
  · refine ezw_iconst (-1) rfl rfl ?_
    refine ezw_goto rfl rfl ?_
    refine ezw_istore_n rfl rfl ?_
    refine ezw_aload_n rfl rfl ?_
    refine ezm_g8 rfl ?_
    refine ezw_if_ne rfl rfl ⟨by omega, by omega⟩ (fun h22_8 => ?_) (fun h22_8 => ?_)
    · refine ezw_aload_n rfl rfl ?_
      refine ezw_dup rfl rfl ?_
      refine ezm_g7 rfl ?_
      have k9 := hT.t7
      refine ezw_aload_n rfl rfl ?_
      refine ezm_g8 rfl ?_
      refine ezw_if_le rfl rfl ⟨by omega, by omega⟩ (fun h43_9 => ?_) (fun h43_9 => ?_)
      · refine ezw_iconst (1) rfl rfl ?_
        refine ezw_iadd (k := i7 + 1) rfl (by omega) ?_
        refine ezm_p7 hT rfl ⟨by omega, by omega⟩ (fun hT => ?_)
        refine ezw_aload_n rfl rfl ?_
        refine ezm_g8 rfl ?_
        refine ezw_if_le rfl rfl ⟨by omega, by omega⟩ (fun h59_9 => ?_) (fun h59_9 => ?_)
        · refine ezw_iload_n rfl rfl ?_
          exact ezw_ireturn rfl rfl ⟨(i7 + 1), i8, rfl, hT, (-1), ⟨by decide, by decide⟩, by omega, by omega, by omega, rfl⟩
        · refine ezw_iconst (0) rfl rfl ?_
          refine ezw_goto rfl rfl ?_
          exact ezw_ireturn rfl rfl ⟨(i7 + 1), i8, rfl, hT, (0), ⟨by decide, by decide⟩, by omega, by omega, by omega, rfl⟩
      · refine ezw_iconst (0) rfl rfl ?_
        refine ezw_goto rfl rfl ?_
        refine ezw_iadd (k := i7) rfl (by omega) ?_
        refine ezm_p7 hT rfl ⟨by omega, by omega⟩ (fun hT => ?_)
        refine ezw_aload_n rfl rfl ?_
        refine ezm_g8 rfl ?_
        refine ezw_if_le rfl rfl ⟨by omega, by omega⟩ (fun h59_9 => ?_) (fun h59_9 => ?_)
        · refine ezw_iload_n rfl rfl ?_
          exact ezw_ireturn rfl rfl ⟨i7, i8, rfl, hT, (-1), ⟨by decide, by decide⟩, by omega, by omega, by omega, rfl⟩
        · refine ezw_iconst (0) rfl rfl ?_
          refine ezw_goto rfl rfl ?_
          exact ezw_ireturn rfl rfl ⟨i7, i8, rfl, hT, (0), ⟨by decide, by decide⟩, by omega, by omega, by omega, rfl⟩
    · refine ezw_iload_n rfl rfl ?_
      refine ezw_if_ge rfl rfl ⟨by decide, by decide⟩ (fun h26_9 => absurd h26_9 (by omega)) (fun h26_9 => ?_)
      refine ezw_aload_n rfl rfl ?_
      refine ezw_iconst (1) rfl rfl ?_
      refine ezw_call0_1 rfl (by omega) (ezm_at rfl) rfl rfl rfl rfl (ezm_m225 hT (by omega) ⟨by decide, by decide⟩ (by omega) (by omega)) ?_
      rintro _ _ ⟨x8_10, rfl, hT, p10_0, p10_1, rfl⟩
      have k11 := hT.t8
      refine ezw_aload_n rfl rfl ?_
      refine ezw_dup rfl rfl ?_
      refine ezm_g7 rfl ?_
      have k12 := hT.t7
      refine ezw_aload_n rfl rfl ?_
      refine ezm_g8 rfl ?_
      refine ezw_if_le rfl rfl ⟨by omega, by omega⟩ (fun h43_12 => ?_) (fun h43_12 => ?_)
      · refine ezw_iconst (1) rfl rfl ?_
        refine ezw_iadd (k := i7 + 1) rfl (by omega) ?_
        refine ezm_p7 hT rfl ⟨by omega, by omega⟩ (fun hT => ?_)
        refine ezw_aload_n rfl rfl ?_
        refine ezm_g8 rfl ?_
        refine ezw_if_le rfl rfl ⟨by omega, by omega⟩ (fun h59_12 => ?_) (fun h59_12 => ?_)
        · refine ezw_iload_n rfl rfl ?_
          exact ezw_ireturn rfl rfl ⟨(i7 + 1), x8_10, rfl, hT, (-1), ⟨by decide, by decide⟩, by omega, by omega, by omega, rfl⟩
        · refine ezw_iconst (0) rfl rfl ?_
          refine ezw_goto rfl rfl ?_
          exact ezw_ireturn rfl rfl ⟨(i7 + 1), x8_10, rfl, hT, (0), ⟨by decide, by decide⟩, by omega, by omega, by omega, rfl⟩
      · refine ezw_iconst (0) rfl rfl ?_
        refine ezw_goto rfl rfl ?_
        refine ezw_iadd (k := i7) rfl (by omega) ?_
        refine ezm_p7 hT rfl ⟨by omega, by omega⟩ (fun hT => ?_)
        refine ezw_aload_n rfl rfl ?_
        refine ezm_g8 rfl ?_
        refine ezw_if_le rfl rfl ⟨by omega, by omega⟩ (fun h59_12 => ?_) (fun h59_12 => ?_)
        · refine ezw_iload_n rfl rfl ?_
          exact ezw_ireturn rfl rfl ⟨i7, x8_10, rfl, hT, (-1), ⟨by decide, by decide⟩, by omega, by omega, by omega, rfl⟩
        · refine ezw_iconst (0) rfl rfl ?_
          refine ezw_goto rfl rfl ?_
          exact ezw_ireturn rfl rfl ⟨i7, x8_10, rfl, hT, (0), ⟨by decide, by decide⟩, by omega, by omega, by omega, rfl⟩
end KM6
