/-! ===== the model: states changed ===== -/
section KM6
variable {l : Launch} {ρ : ezq_E} {B : Nat} {xa : Nat → Option Nat} {Hb : Heap} {D : va_G} {cA : Nat → ClassId} {d : Nat} {e : Bool × Bool} {F : Nat → Nat → Int} {A : Nat → Int → Int} {i0 i2 i3 i7 i8 i13 i18 i19 i20 i25 i29 i30 i31 i36 i37 i38 : Int} {r73 r74 r75 r76 r77 r78 r79 r80 r81 r82 r83 r84 r85 r86 r87 r88 r89 r90 r91 r92 r93 r94 r95 : Int → Int}
def ezm_m275Q (e : Bool × Bool) (F : Nat → Nat → Int) (A : Nat → Int → Int) (i0 i2 i3 i7 i8 i13 i18 i19 i20 i25 i29 i30 i31 i36 i37 i38 : Int) (r73 r74 r75 r76 r77 r78 r79 r80 r81 r82 r83 r84 r85 r86 r87 r88 r89 r90 r91 r92 r93 r94 r95 : Int → Int) (a1 : Int) (a2 : Int) (a3 : Int) : Option ezq_V → (Nat → ezq_C) → Prop := fun v g' => ∃  (x88 : Int → Int), ezm_h e F A i0 i2 i3 i7 i8 i13 i18 i19 i20 i25 i29 i30 i31 i36 i37 i38 r73 r74 r75 r76 r77 r78 r79 r80 r81 r82 r83 r84 r85 r86 r87 x88 r89 r90 r91 r92 r93 r94 r95 = g' ∧ ezm_T i0 i2 i3 i7 i8 i13 i18 i19 i20 i25 i29 i30 i31 i36 i37 i38 r73 r74 r75 r76 r77 r78 r79 r80 r81 r82 r83 r84 r85 r86 r87 x88 r89 r90 r91 r92 r93 r94 r95 ∧ (∀ j, j < a2 ∨ a2 + a3 ≤ j → x88 j = r88 j) ∧ (∀ k, 0 ≤ k → k < a3 → x88 (a2 + k) = r88 (a1 + k)) ∧ none = v
theorem ezm_m275 {a1 a2 a3 : Int} (hT : ezm_T i0 i2 i3 i7 i8 i13 i18 i19 i20 i25 i29 i30 i31 i36 i37 i38 r73 r74 r75 r76 r77 r78 r79 r80 r81 r82 r83 r84 r85 r86 r87 r88 r89 r90 r91 r92 r93 r94 r95) (hd : 0 ≤ d) (ha1 : ezw_in a1) (ha2 : ezw_in a2) (ha3 : ezw_in a3) (ga : 0 ≤ a1 ∧ 0 ≤ a2 ∧ a1 % 50 = 0 ∧ a2 % 50 = 0) (gb : 0 ≤ a3 ∧ a1 + a3 ≤ 1150 ∧ a2 + a3 ≤ 1150) (gc : a1 + a3 ≤ a2 ∨ a2 + a3 ≤ a1) : ezw_C l ρ B xa Hb D cA 275 d [ezw_p 72, ezw_i a1, ezw_i a2, ezw_i a3] (ezm_h e F A i0 i2 i3 i7 i8 i13 i18 i19 i20 i25 i29 i30 i31 i36 i37 i38 r73 r74 r75 r76 r77 r78 r79 r80 r81 r82 r83 r84 r85 r86 r87 r88 r89 r90 r91 r92 r93 r94 r95) (ezm_m275Q  e F A i0 i2 i3 i7 i8 i13 i18 i19 i20 i25 i29 i30 i31 i36 i37 i38 r73 r74 r75 r76 r77 r78 r79 r80 r81 r82 r83 r84 r85 r86 r87 r88 r89 r90 r91 r92 r93 r94 r95 a1 a2 a3) := by
  refine ezw_met (k := 1) rfl rfl ?_
  refine ezw_iconst (0) rfl rfl ?_
  refine ezw_istore rfl rfl ?_
  have L3_2 : ∀ c1 : Int, ezw_in c1 → ∀ x88_2 : Int → Int, ezm_T i0 i2 i3 i7 i8 i13 i18 i19 i20 i25 i29 i30 i31 i36 i37 i38 r73 r74 r75 r76 r77 r78 r79 r80 r81 r82 r83 r84 r85 r86 r87 x88_2 r89 r90 r91 r92 r93 r94 r95 → ((0) ≤ c1) → (c1 ≤ a3) → (∀ j, j < a2 ∨ a2 + c1 ≤ j → x88_2 j = r88 j) → (∀ k, 0 ≤ k → k < c1 → x88_2 (a2 + k) = r88 (a1 + k)) → ezw_E l ρ B xa Hb D cA d ezq_re275 (ezm_m275Q  e F A i0 i2 i3 i7 i8 i13 i18 i19 i20 i25 i29 i30 i31 i36 i37 i38 r73 r74 r75 r76 r77 r78 r79 r80 r81 r82 r83 r84 r85 r86 r87 r88 r89 r90 r91 r92 r93 r94 r95 a1 a2 a3) 3 [some (ezw_p 72), some (ezw_i a1), some (ezw_i a2), some (ezw_i a3), some (ezw_i c1)] [] (ezm_h e F A i0 i2 i3 i7 i8 i13 i18 i19 i20 i25 i29 i30 i31 i36 i37 i38 r73 r74 r75 r76 r77 r78 r79 r80 r81 r82 r83 r84 r85 r86 r87 x88_2 r89 r90 r91 r92 r93 r94 r95) := by
    refine ezs_up ?_
    intro c1 hc1 ihc1 x88_2 hT g_2 v1_2 fb_2 cp_2
    refine ezw_iload rfl rfl ?_
    refine ezw_iload_n rfl rfl ?_
    refine ezw_icmp_ge rfl rfl hc1 ha3 (fun h6_2 => ?_) (fun h6_2 => ?_)
    · exact ezw_return rfl rfl ⟨x88_2, rfl, hT, fun j hj => fb_2 j (by omega), fun k k0 k1 => cp_2 k k0 (by omega), rfl⟩
    · refine ezw_aload_n rfl rfl ?_
      refine ezm_gp (p := 88) rfl (fun _ => rfl) ?_
      refine ezw_iload_n rfl rfl ?_
      refine ezw_iload rfl rfl ?_
      refine ezw_iadd (k := a2 + c1) rfl (by omega) ?_
      refine ezw_aload_n rfl rfl ?_
      refine ezm_gp (p := 88) rfl (fun _ => rfl) ?_
      refine ezw_iload_n rfl rfl ?_
      refine ezw_iload rfl rfl ?_
      refine ezw_iadd (k := a1 + c1) rfl (by omega) ?_
      refine ezm_l88 rfl (by omega) (by omega) (fun u3 eu3 => ?_)
      have ku3 : ezm_k88 (a1 + c1) u3 := eu3 ▸ hT.t88 (a1 + c1)
      refine ezm_s88 hT rfl (by omega) (by omega) (ezm_k88_sh (by omega) ku3) (fun r88_4 hT er88_4 fr88_4 => ?_)
      refine ezw_iinc (k := c1 + 1) (1) rfl rfl rfl (by omega) rfl ?_
      refine ezw_goto rfl rfl ?_
      exact ezw_keepE [true, true, true, true, true] (ihc1 (c1 + 1) (by omega) ⟨by omega, by omega⟩ r88_4 hT (by omega) (by omega) (fun j hj => by rw [fr88_4 j (by omega), fb_2 j (by omega)]) (fun k k0 k1 => by
            by_cases hk : k = c1
            · subst hk
              rw [er88_4, eu3]
              exact fb_2 _ (by omega)
            · rw [fr88_4 (a2 + k) (by omega)]
              exact cp_2 k k0 (by omega)))
  exact ezw_keepE [true, true, true, true, true] (L3_2 (0) ⟨by decide, by decide⟩ r88 hT (by omega) (by omega) (fun _ _ => rfl) (fun k k0 k1 => by omega))
def ezm_m277_v1050Q (e : Bool × Bool) (F : Nat → Nat → Int) (A : Nat → Int → Int) (i0 i2 i3 i7 i8 i13 i18 i19 i20 i25 i29 i30 i31 i36 i37 i38 : Int) (r73 r74 r75 r76 r77 r78 r79 r80 r81 r82 r83 r84 r85 r86 r87 r88 r89 r90 r91 r92 r93 r94 r95 : Int → Int) (a2 : Int) : Option ezq_V → (Nat → ezq_C) → Prop := fun v g' => ∃  (x88 : Int → Int), ezm_h e F A i0 i2 i3 i7 i8 i13 i18 i19 i20 i25 i29 i30 i31 i36 i37 i38 r73 r74 r75 r76 r77 r78 r79 r80 r81 r82 r83 r84 r85 r86 r87 x88 r89 r90 r91 r92 r93 r94 r95 = g' ∧ ezm_T i0 i2 i3 i7 i8 i13 i18 i19 i20 i25 i29 i30 i31 i36 i37 i38 r73 r74 r75 r76 r77 r78 r79 r80 r81 r82 r83 r84 r85 r86 r87 x88 r89 r90 r91 r92 r93 r94 r95 ∧ (∀ j, j < 1050 ∨ 1070 ≤ j → x88 j = r88 j) ∧ (ezm_SV r78 x88 (1050)) ∧ none = v
theorem ezm_m277_v1050 {a2 : Int} (hT : ezm_T i0 i2 i3 i7 i8 i13 i18 i19 i20 i25 i29 i30 i31 i36 i37 i38 r73 r74 r75 r76 r77 r78 r79 r80 r81 r82 r83 r84 r85 r86 r87 r88 r89 r90 r91 r92 r93 r94 r95) (hd : 0 ≤ d) (ha2 : ezw_in a2) (ga : 0 ≤ a2 ∧ a2 ≤ 7) (sv : ezm_SV r78 r88 (1050)) : ezw_C l ρ B xa Hb D cA 277 d [ezw_p 72, ezw_i (1050), ezw_i a2] (ezm_h e F A i0 i2 i3 i7 i8 i13 i18 i19 i20 i25 i29 i30 i31 i36 i37 i38 r73 r74 r75 r76 r77 r78 r79 r80 r81 r82 r83 r84 r85 r86 r87 r88 r89 r90 r91 r92 r93 r94 r95) (ezm_m277_v1050Q  e F A i0 i2 i3 i7 i8 i13 i18 i19 i20 i25 i29 i30 i31 i36 i37 i38 r73 r74 r75 r76 r77 r78 r79 r80 r81 r82 r83 r84 r85 r86 r87 r88 r89 r90 r91 r92 r93 r94 r95 a2) := by
  refine ezw_met (k := 2) rfl rfl ?_
  have b0 := ezm_zs0 (hT.t88 (1050)) (by decide)
  refine ezw_iconst (0) rfl rfl ?_
  refine ezw_istore_n rfl rfl ?_
  refine ezw_iconst (0) rfl rfl ?_
  refine ezw_istore rfl rfl ?_
  have L5_2 : ∀ c1 : Int, ezw_in c1 → ∀ y3 : Int, ezw_in y3 → ∀ x88_2 : Int → Int, ezm_T i0 i2 i3 i7 i8 i13 i18 i19 i20 i25 i29 i30 i31 i36 i37 i38 r73 r74 r75 r76 r77 r78 r79 r80 r81 r82 r83 r84 r85 r86 r87 x88_2 r89 r90 r91 r92 r93 r94 r95 → ((0) ≤ c1) → (0 ≤ y3 ∧ y3 ≤ c1 ∧ c1 ≤ r88 (1050)) → (x88_2 (1050) = r88 (1050)) → (∀ j, j < 1050 ∨ 1070 ≤ j → x88_2 j = r88 j) → (∀ k, 0 ≤ k → k < r88 (1050) → x88_2 (k + 1051) < r78 0) → ezw_E l ρ B xa Hb D cA d ezq_re277 (ezm_m277_v1050Q  e F A i0 i2 i3 i7 i8 i13 i18 i19 i20 i25 i29 i30 i31 i36 i37 i38 r73 r74 r75 r76 r77 r78 r79 r80 r81 r82 r83 r84 r85 r86 r87 r88 r89 r90 r91 r92 r93 r94 r95 a2) 5 [some (ezw_p 72), some (ezw_i (1050)), some (ezw_i a2), some (ezw_i y3), some (ezw_i c1)] [] (ezm_h e F A i0 i2 i3 i7 i8 i13 i18 i19 i20 i25 i29 i30 i31 i36 i37 i38 r73 r74 r75 r76 r77 r78 r79 r80 r81 r82 r83 r84 r85 r86 r87 x88_2 r89 r90 r91 r92 r93 r94 r95) := by
    refine ezs_up ?_
    intro c1 hc1 ihc1 y3 hy3 x88_2 hT g_2 v1_2 m_2 fb_2 lo_2
    refine ezw_iload rfl rfl ?_
    refine ezw_aload_n rfl rfl ?_
    refine ezm_gp (p := 88) rfl (fun _ => rfl) ?_
    refine ezw_iload_n rfl rfl ?_
    refine ezw_iconst (0) rfl rfl ?_
    refine ezw_iadd (k := (1050)) rfl (by omega) ?_
    refine ezm_l88 rfl (by omega) (by omega) (fun u4 eu4 => ?_)
    have ku4 : ezm_k88 (1050) u4 := eu4 ▸ hT.t88 (1050)
    have zu4 := ezm_zs0 ku4 (by omega)
    refine ezw_icmp_ge rfl rfl hc1 (ezm_in88 ku4) (fun h15_4 => ?_) (fun h15_4 => ?_)
    · refine ezw_aload_n rfl rfl ?_
      refine ezm_gp (p := 88) rfl (fun _ => rfl) ?_
      refine ezw_iload_n rfl rfl ?_
      refine ezw_iconst (0) rfl rfl ?_
      refine ezw_iadd (k := (1050)) rfl (by omega) ?_
      refine ezw_iload_n rfl rfl ?_
      refine ezm_s88 hT rfl (by omega) (by omega) ⟨hy3, by omega, by omega, by omega, by omega, by omega⟩ (fun r88_5 hT er88_5 fr88_5 => ?_)
      refine ezw_aload_n rfl rfl ?_
      refine ezm_gp (p := 88) rfl (fun _ => rfl) ?_
      refine ezw_iload_n rfl rfl ?_
      refine ezw_bipush (7) rfl rfl ?_
      refine ezw_iadd (k := (1057)) rfl (by omega) ?_
      refine ezw_iload_n rfl rfl ?_
      refine ezw_iadd (k := a2 + 1057) rfl (by omega) ?_
      refine ezw_iconst (0) rfl rfl ?_
      refine ezm_s88 hT rfl (by omega) (by omega) ⟨⟨by decide, by decide⟩, by omega, by omega, by omega, by omega, by omega⟩ (fun r88_6 hT er88_6 fr88_6 => ?_)
      refine ezw_aload_n rfl rfl ?_
      refine ezm_gp (p := 88) rfl (fun _ => rfl) ?_
      refine ezw_iload_n rfl rfl ?_
      refine ezw_bipush (17) rfl rfl ?_
      refine ezw_iadd (k := (1067)) rfl (by omega) ?_
      refine ezw_iload_n rfl rfl ?_
      refine ezw_if_ne rfl rfl hy3 (fun h93_6 => ?_) (fun h93_6 => ?_)
      · refine ezw_iconst (0) rfl rfl ?_
        refine ezm_s88 hT rfl (by omega) (by omega) ⟨⟨by decide, by decide⟩, by omega, by omega, by omega, by omega, by omega⟩ (fun r88_7 hT er88_7 fr88_7 => ?_)
        exact ezw_return rfl rfl ⟨r88_7, rfl, hT, fun j hj => by rw [fr88_7 j (by omega), fr88_6 j (by omega), fr88_5 j (by omega), fb_2 j hj], ezm_SV_of (b := 1050) (b1 := 1051) (b17 := 1067) (by decide) (by decide) ⟨fun z => by
              rw [er88_7] at z
              rw [fr88_7 (1050) (by omega), fr88_6 (1050) (by omega), er88_5]
              omega, fun k k0 k1 => by
              rw [fr88_7 (1050) (by omega), fr88_6 (1050) (by omega), er88_5] at k1
              rw [fr88_7 (k + 1051) (by omega), fr88_6 (k + 1051) (by omega), fr88_5 (k + 1051) (by omega)]
              exact lo_2 k k0 (by omega)⟩, rfl⟩
      · refine ezw_iconst (1) rfl rfl ?_
        refine ezw_goto rfl rfl ?_
        refine ezm_s88 hT rfl (by omega) (by omega) ⟨⟨by decide, by decide⟩, by omega, by omega, by omega, by omega, by omega⟩ (fun r88_8 hT er88_8 fr88_8 => ?_)
        exact ezw_return rfl rfl ⟨r88_8, rfl, hT, fun j hj => by rw [fr88_8 j (by omega), fr88_6 j (by omega), fr88_5 j (by omega), fb_2 j hj], ezm_SV_of (b := 1050) (b1 := 1051) (b17 := 1067) (by decide) (by decide) ⟨fun z => by
              rw [er88_8] at z
              rw [fr88_8 (1050) (by omega), fr88_6 (1050) (by omega), er88_5]
              omega, fun k k0 k1 => by
              rw [fr88_8 (1050) (by omega), fr88_6 (1050) (by omega), er88_5] at k1
              rw [fr88_8 (k + 1051) (by omega), fr88_6 (k + 1051) (by omega), fr88_5 (k + 1051) (by omega)]
              exact lo_2 k k0 (by omega)⟩, rfl⟩
    · refine ezw_aload_n rfl rfl ?_
      refine ezm_gp (p := 88) rfl (fun _ => rfl) ?_
      refine ezw_iload_n rfl rfl ?_
      refine ezw_iconst (1) rfl rfl ?_
      refine ezw_iadd (k := (1051)) rfl (by omega) ?_
      refine ezw_iload rfl rfl ?_
      refine ezw_iadd (k := c1 + 1051) rfl (by omega) ?_
      refine ezm_l88 rfl (by omega) (by omega) (fun u9 eu9 => ?_)
      have ku9 : ezm_k88 (c1 + 1051) u9 := eu9 ▸ hT.t88 (c1 + 1051)
      have zu9 := ezm_zs1 ku9 (by omega)
      refine ezw_iload_n rfl rfl ?_
      refine ezw_icmp_eq rfl rfl (ezm_in88 ku9) ha2 (fun h30_9 => ?_) (fun h30_9 => ?_)
      · refine ezw_iinc (k := c1 + 1) (1) rfl rfl rfl (by omega) rfl ?_
        refine ezw_goto rfl rfl ?_
        exact ezw_keepE [true, true, true, true, true] (ihc1 (c1 + 1) (by omega) ⟨by omega, by omega⟩ y3 hy3 x88_2 hT (by omega) (by omega) m_2 fb_2 lo_2)
      · refine ezw_aload_n rfl rfl ?_
        refine ezm_gp (p := 88) rfl (fun _ => rfl) ?_
        refine ezw_iload_n rfl rfl ?_
        refine ezw_iconst (1) rfl rfl ?_
        refine ezw_iadd (k := (1051)) rfl (by omega) ?_
        refine ezw_iload_n rfl rfl ?_
        refine ezw_iadd (k := y3 + 1051) rfl (by omega) ?_
        refine ezw_aload_n rfl rfl ?_
        refine ezm_gp (p := 88) rfl (fun _ => rfl) ?_
        refine ezw_iload_n rfl rfl ?_
        refine ezw_iconst (1) rfl rfl ?_
        refine ezw_iadd (k := (1051)) rfl (by omega) ?_
        refine ezw_iload rfl rfl ?_
        refine ezw_iadd (k := c1 + 1051) rfl (by omega) ?_
        refine ezm_l88 rfl (by omega) (by omega) (fun u10 eu10 => ?_)
        have fu10 : u9 = u10 := eu9.trans eu10.symm
        subst fu10
        refine ezm_s88 hT rfl (by omega) (by omega) ⟨(ezm_in88 ku9), by omega, by omega, by omega, by omega, by omega⟩ (fun r88_11 hT er88_11 fr88_11 => ?_)
        refine ezw_iinc (k := y3 + 1) (1) rfl rfl rfl (by omega) rfl ?_
        refine ezw_iinc (k := c1 + 1) (1) rfl rfl rfl (by omega) rfl ?_
        refine ezw_goto rfl rfl ?_
        exact ezw_keepE [true, true, true, true, true] (ihc1 (c1 + 1) (by omega) ⟨by omega, by omega⟩ (y3 + 1) ⟨by omega, by omega⟩ r88_11 hT (by omega) (by omega) (by rw [fr88_11 (1050) (by omega)]; exact m_2) (fun j hj => by rw [fr88_11 j (by omega), fb_2 j hj]) (fun k k0 k1 => by
              by_cases hk : k + 1051 = y3 + 1051
              · rw [hk, er88_11, eu9, Int.add_comm]
                first
                  | exact lo_2 _ (by omega) (by omega)
                  | (rw [Int.add_comm]; exact lo_2 _ (by omega) (by omega))
              · rw [fr88_11 _ hk]
                exact lo_2 k k0 k1))
  exact ezw_keepE [true, true, true, true, true] (L5_2 (0) ⟨by decide, by decide⟩ (0) ⟨by decide, by decide⟩ r88 hT (by omega) (by omega) rfl (fun _ _ => rfl) sv.2)
def ezm_m277_v1100Q (e : Bool × Bool) (F : Nat → Nat → Int) (A : Nat → Int → Int) (i0 i2 i3 i7 i8 i13 i18 i19 i20 i25 i29 i30 i31 i36 i37 i38 : Int) (r73 r74 r75 r76 r77 r78 r79 r80 r81 r82 r83 r84 r85 r86 r87 r88 r89 r90 r91 r92 r93 r94 r95 : Int → Int) (a2 : Int) : Option ezq_V → (Nat → ezq_C) → Prop := fun v g' => ∃  (x88 : Int → Int), ezm_h e F A i0 i2 i3 i7 i8 i13 i18 i19 i20 i25 i29 i30 i31 i36 i37 i38 r73 r74 r75 r76 r77 r78 r79 r80 r81 r82 r83 r84 r85 r86 r87 x88 r89 r90 r91 r92 r93 r94 r95 = g' ∧ ezm_T i0 i2 i3 i7 i8 i13 i18 i19 i20 i25 i29 i30 i31 i36 i37 i38 r73 r74 r75 r76 r77 r78 r79 r80 r81 r82 r83 r84 r85 r86 r87 x88 r89 r90 r91 r92 r93 r94 r95 ∧ (∀ j, j < 1100 ∨ 1120 ≤ j → x88 j = r88 j) ∧ (ezm_SV r78 x88 (1100)) ∧ none = v
theorem ezm_m277_v1100 {a2 : Int} (hT : ezm_T i0 i2 i3 i7 i8 i13 i18 i19 i20 i25 i29 i30 i31 i36 i37 i38 r73 r74 r75 r76 r77 r78 r79 r80 r81 r82 r83 r84 r85 r86 r87 r88 r89 r90 r91 r92 r93 r94 r95) (hd : 0 ≤ d) (ha2 : ezw_in a2) (ga : 0 ≤ a2 ∧ a2 ≤ 7) (sv : ezm_SV r78 r88 (1100)) : ezw_C l ρ B xa Hb D cA 277 d [ezw_p 72, ezw_i (1100), ezw_i a2] (ezm_h e F A i0 i2 i3 i7 i8 i13 i18 i19 i20 i25 i29 i30 i31 i36 i37 i38 r73 r74 r75 r76 r77 r78 r79 r80 r81 r82 r83 r84 r85 r86 r87 r88 r89 r90 r91 r92 r93 r94 r95) (ezm_m277_v1100Q  e F A i0 i2 i3 i7 i8 i13 i18 i19 i20 i25 i29 i30 i31 i36 i37 i38 r73 r74 r75 r76 r77 r78 r79 r80 r81 r82 r83 r84 r85 r86 r87 r88 r89 r90 r91 r92 r93 r94 r95 a2) := by
  refine ezw_met (k := 2) rfl rfl ?_
  have b0 := ezm_zs0 (hT.t88 (1100)) (by decide)
  refine ezw_iconst (0) rfl rfl ?_
  refine ezw_istore_n rfl rfl ?_
  refine ezw_iconst (0) rfl rfl ?_
  refine ezw_istore rfl rfl ?_
  have L5_2 : ∀ c1 : Int, ezw_in c1 → ∀ y3 : Int, ezw_in y3 → ∀ x88_2 : Int → Int, ezm_T i0 i2 i3 i7 i8 i13 i18 i19 i20 i25 i29 i30 i31 i36 i37 i38 r73 r74 r75 r76 r77 r78 r79 r80 r81 r82 r83 r84 r85 r86 r87 x88_2 r89 r90 r91 r92 r93 r94 r95 → ((0) ≤ c1) → (0 ≤ y3 ∧ y3 ≤ c1 ∧ c1 ≤ r88 (1100)) → (x88_2 (1100) = r88 (1100)) → (∀ j, j < 1100 ∨ 1120 ≤ j → x88_2 j = r88 j) → (∀ k, 0 ≤ k → k < r88 (1100) → x88_2 (k + 1101) < r78 0) → ezw_E l ρ B xa Hb D cA d ezq_re277 (ezm_m277_v1100Q  e F A i0 i2 i3 i7 i8 i13 i18 i19 i20 i25 i29 i30 i31 i36 i37 i38 r73 r74 r75 r76 r77 r78 r79 r80 r81 r82 r83 r84 r85 r86 r87 r88 r89 r90 r91 r92 r93 r94 r95 a2) 5 [some (ezw_p 72), some (ezw_i (1100)), some (ezw_i a2), some (ezw_i y3), some (ezw_i c1)] [] (ezm_h e F A i0 i2 i3 i7 i8 i13 i18 i19 i20 i25 i29 i30 i31 i36 i37 i38 r73 r74 r75 r76 r77 r78 r79 r80 r81 r82 r83 r84 r85 r86 r87 x88_2 r89 r90 r91 r92 r93 r94 r95) := by
    refine ezs_up ?_
    intro c1 hc1 ihc1 y3 hy3 x88_2 hT g_2 v1_2 m_2 fb_2 lo_2
    refine ezw_iload rfl rfl ?_
    refine ezw_aload_n rfl rfl ?_
    refine ezm_gp (p := 88) rfl (fun _ => rfl) ?_
    refine ezw_iload_n rfl rfl ?_
    refine ezw_iconst (0) rfl rfl ?_
    refine ezw_iadd (k := (1100)) rfl (by omega) ?_
    refine ezm_l88 rfl (by omega) (by omega) (fun u4 eu4 => ?_)
    have ku4 : ezm_k88 (1100) u4 := eu4 ▸ hT.t88 (1100)
    have zu4 := ezm_zs0 ku4 (by omega)
    refine ezw_icmp_ge rfl rfl hc1 (ezm_in88 ku4) (fun h15_4 => ?_) (fun h15_4 => ?_)
    · refine ezw_aload_n rfl rfl ?_
      refine ezm_gp (p := 88) rfl (fun _ => rfl) ?_
      refine ezw_iload_n rfl rfl ?_
      refine ezw_iconst (0) rfl rfl ?_
      refine ezw_iadd (k := (1100)) rfl (by omega) ?_
      refine ezw_iload_n rfl rfl ?_
      refine ezm_s88 hT rfl (by omega) (by omega) ⟨hy3, by omega, by omega, by omega, by omega, by omega⟩ (fun r88_5 hT er88_5 fr88_5 => ?_)
      refine ezw_aload_n rfl rfl ?_
      refine ezm_gp (p := 88) rfl (fun _ => rfl) ?_
      refine ezw_iload_n rfl rfl ?_
      refine ezw_bipush (7) rfl rfl ?_
      refine ezw_iadd (k := (1107)) rfl (by omega) ?_
      refine ezw_iload_n rfl rfl ?_
      refine ezw_iadd (k := a2 + 1107) rfl (by omega) ?_
      refine ezw_iconst (0) rfl rfl ?_
      refine ezm_s88 hT rfl (by omega) (by omega) ⟨⟨by decide, by decide⟩, by omega, by omega, by omega, by omega, by omega⟩ (fun r88_6 hT er88_6 fr88_6 => ?_)
      refine ezw_aload_n rfl rfl ?_
      refine ezm_gp (p := 88) rfl (fun _ => rfl) ?_
      refine ezw_iload_n rfl rfl ?_
      refine ezw_bipush (17) rfl rfl ?_
      refine ezw_iadd (k := (1117)) rfl (by omega) ?_
      refine ezw_iload_n rfl rfl ?_
      refine ezw_if_ne rfl rfl hy3 (fun h93_6 => ?_) (fun h93_6 => ?_)
      · refine ezw_iconst (0) rfl rfl ?_
        refine ezm_s88 hT rfl (by omega) (by omega) ⟨⟨by decide, by decide⟩, by omega, by omega, by omega, by omega, by omega⟩ (fun r88_7 hT er88_7 fr88_7 => ?_)
        exact ezw_return rfl rfl ⟨r88_7, rfl, hT, fun j hj => by rw [fr88_7 j (by omega), fr88_6 j (by omega), fr88_5 j (by omega), fb_2 j hj], ezm_SV_of (b := 1100) (b1 := 1101) (b17 := 1117) (by decide) (by decide) ⟨fun z => by
              rw [er88_7] at z
              rw [fr88_7 (1100) (by omega), fr88_6 (1100) (by omega), er88_5]
              omega, fun k k0 k1 => by
              rw [fr88_7 (1100) (by omega), fr88_6 (1100) (by omega), er88_5] at k1
              rw [fr88_7 (k + 1101) (by omega), fr88_6 (k + 1101) (by omega), fr88_5 (k + 1101) (by omega)]
              exact lo_2 k k0 (by omega)⟩, rfl⟩
      · refine ezw_iconst (1) rfl rfl ?_
        refine ezw_goto rfl rfl ?_
        refine ezm_s88 hT rfl (by omega) (by omega) ⟨⟨by decide, by decide⟩, by omega, by omega, by omega, by omega, by omega⟩ (fun r88_8 hT er88_8 fr88_8 => ?_)
        exact ezw_return rfl rfl ⟨r88_8, rfl, hT, fun j hj => by rw [fr88_8 j (by omega), fr88_6 j (by omega), fr88_5 j (by omega), fb_2 j hj], ezm_SV_of (b := 1100) (b1 := 1101) (b17 := 1117) (by decide) (by decide) ⟨fun z => by
              rw [er88_8] at z
              rw [fr88_8 (1100) (by omega), fr88_6 (1100) (by omega), er88_5]
              omega, fun k k0 k1 => by
              rw [fr88_8 (1100) (by omega), fr88_6 (1100) (by omega), er88_5] at k1
              rw [fr88_8 (k + 1101) (by omega), fr88_6 (k + 1101) (by omega), fr88_5 (k + 1101) (by omega)]
              exact lo_2 k k0 (by omega)⟩, rfl⟩
    · refine ezw_aload_n rfl rfl ?_
      refine ezm_gp (p := 88) rfl (fun _ => rfl) ?_
      refine ezw_iload_n rfl rfl ?_
      refine ezw_iconst (1) rfl rfl ?_
      refine ezw_iadd (k := (1101)) rfl (by omega) ?_
      refine ezw_iload rfl rfl ?_
      refine ezw_iadd (k := c1 + 1101) rfl (by omega) ?_
      refine ezm_l88 rfl (by omega) (by omega) (fun u9 eu9 => ?_)
      have ku9 : ezm_k88 (c1 + 1101) u9 := eu9 ▸ hT.t88 (c1 + 1101)
      have zu9 := ezm_zs1 ku9 (by omega)
      refine ezw_iload_n rfl rfl ?_
      refine ezw_icmp_eq rfl rfl (ezm_in88 ku9) ha2 (fun h30_9 => ?_) (fun h30_9 => ?_)
      · refine ezw_iinc (k := c1 + 1) (1) rfl rfl rfl (by omega) rfl ?_
        refine ezw_goto rfl rfl ?_
        exact ezw_keepE [true, true, true, true, true] (ihc1 (c1 + 1) (by omega) ⟨by omega, by omega⟩ y3 hy3 x88_2 hT (by omega) (by omega) m_2 fb_2 lo_2)
      · refine ezw_aload_n rfl rfl ?_
        refine ezm_gp (p := 88) rfl (fun _ => rfl) ?_
        refine ezw_iload_n rfl rfl ?_
        refine ezw_iconst (1) rfl rfl ?_
        refine ezw_iadd (k := (1101)) rfl (by omega) ?_
        refine ezw_iload_n rfl rfl ?_
        refine ezw_iadd (k := y3 + 1101) rfl (by omega) ?_
        refine ezw_aload_n rfl rfl ?_
        refine ezm_gp (p := 88) rfl (fun _ => rfl) ?_
        refine ezw_iload_n rfl rfl ?_
        refine ezw_iconst (1) rfl rfl ?_
        refine ezw_iadd (k := (1101)) rfl (by omega) ?_
        refine ezw_iload rfl rfl ?_
        refine ezw_iadd (k := c1 + 1101) rfl (by omega) ?_
        refine ezm_l88 rfl (by omega) (by omega) (fun u10 eu10 => ?_)
        have fu10 : u9 = u10 := eu9.trans eu10.symm
        subst fu10
        refine ezm_s88 hT rfl (by omega) (by omega) ⟨(ezm_in88 ku9), by omega, by omega, by omega, by omega, by omega⟩ (fun r88_11 hT er88_11 fr88_11 => ?_)
        refine ezw_iinc (k := y3 + 1) (1) rfl rfl rfl (by omega) rfl ?_
        refine ezw_iinc (k := c1 + 1) (1) rfl rfl rfl (by omega) rfl ?_
        refine ezw_goto rfl rfl ?_
        exact ezw_keepE [true, true, true, true, true] (ihc1 (c1 + 1) (by omega) ⟨by omega, by omega⟩ (y3 + 1) ⟨by omega, by omega⟩ r88_11 hT (by omega) (by omega) (by rw [fr88_11 (1100) (by omega)]; exact m_2) (fun j hj => by rw [fr88_11 j (by omega), fb_2 j hj]) (fun k k0 k1 => by
              by_cases hk : k + 1101 = y3 + 1101
              · rw [hk, er88_11, eu9, Int.add_comm]
                first
                  | exact lo_2 _ (by omega) (by omega)
                  | (rw [Int.add_comm]; exact lo_2 _ (by omega) (by omega))
              · rw [fr88_11 _ hk]
                exact lo_2 k k0 k1))
  exact ezw_keepE [true, true, true, true, true] (L5_2 (0) ⟨by decide, by decide⟩ (0) ⟨by decide, by decide⟩ r88 hT (by omega) (by omega) rfl (fun _ _ => rfl) sv.2)
def ezm_m268_v1050Q (e : Bool × Bool) (F : Nat → Nat → Int) (A : Nat → Int → Int) (i0 i2 i3 i7 i8 i13 i18 i19 i20 i25 i29 i30 i31 i36 i37 i38 : Int) (r73 r74 r75 r76 r77 r78 r79 r80 r81 r82 r83 r84 r85 r86 r87 r88 r89 r90 r91 r92 r93 r94 r95 : Int → Int) : Option ezq_V → (Nat → ezq_C) → Prop := fun v g' => ezm_h e F A i0 i2 i3 i7 i8 i13 i18 i19 i20 i25 i29 i30 i31 i36 i37 i38 r73 r74 r75 r76 r77 r78 r79 r80 r81 r82 r83 r84 r85 r86 r87 r88 r89 r90 r91 r92 r93 r94 r95 = g' ∧ ∃ u : Int, (ezw_in u) ∧ (0 ≤ u ∧ u ≤ 7) ∧ (u = ezm_la r88 1050) ∧ some (ezw_i u) = v
theorem ezm_m268_v1050 (hT : ezm_T i0 i2 i3 i7 i8 i13 i18 i19 i20 i25 i29 i30 i31 i36 i37 i38 r73 r74 r75 r76 r77 r78 r79 r80 r81 r82 r83 r84 r85 r86 r87 r88 r89 r90 r91 r92 r93 r94 r95) (hd : 0 ≤ d) : ezw_C l ρ B xa Hb D cA 268 d [ezw_p 72, ezw_i (1050)] (ezm_h e F A i0 i2 i3 i7 i8 i13 i18 i19 i20 i25 i29 i30 i31 i36 i37 i38 r73 r74 r75 r76 r77 r78 r79 r80 r81 r82 r83 r84 r85 r86 r87 r88 r89 r90 r91 r92 r93 r94 r95) (ezm_m268_v1050Q  e F A i0 i2 i3 i7 i8 i13 i18 i19 i20 i25 i29 i30 i31 i36 i37 i38 r73 r74 r75 r76 r77 r78 r79 r80 r81 r82 r83 r84 r85 r86 r87 r88 r89 r90 r91 r92 r93 r94 r95) := by
  refine ezw_met (k := 0) rfl rfl ?_
  refine ezw_aload_n rfl rfl ?_
  refine ezm_gp (p := 88) rfl (fun _ => rfl) ?_
  refine ezw_iload_n rfl rfl ?_
  refine ezw_iconst (1) rfl rfl ?_
  refine ezw_iadd (k := (1051)) rfl (by omega) ?_
  refine ezw_aload_n rfl rfl ?_
  refine ezm_gp (p := 88) rfl (fun _ => rfl) ?_
  refine ezw_iload_n rfl rfl ?_
  refine ezw_iconst (0) rfl rfl ?_
  refine ezw_iadd (k := (1050)) rfl (by omega) ?_
  refine ezm_l88 rfl (by omega) (by omega) (fun u1 eu1 => ?_)
  have ku1 : ezm_k88 (1050) u1 := eu1 ▸ hT.t88 (1050)
  have zu1 := ezm_zs0 ku1 (by omega)
  refine ezw_iadd (k := u1 + 1051) rfl (by omega) ?_
  refine ezw_iconst (1) rfl rfl ?_
  refine ezw_isub (k := u1 + 1050) rfl (by omega) ?_
  refine ezm_l88 rfl (by omega) (by omega) (fun u2 eu2 => ?_)
  have ku2 : ezm_k88 (u1 + 1050) u2 := eu2 ▸ hT.t88 (u1 + 1050)
  have zu2 := ezm_z07 ku2 (by omega)
  exact ezw_ireturn rfl rfl ⟨rfl, u2, (ezm_in88 ku2), by omega, by
        unfold ezm_la
        rw [← eu1]
        first
          | exact eu2
          | (rw [Int.add_zero]; exact eu2), rfl⟩
def ezm_m276_v1050Q (e : Bool × Bool) (F : Nat → Nat → Int) (A : Nat → Int → Int) (i0 i2 i3 i7 i8 i13 i18 i19 i20 i25 i29 i30 i31 i36 i37 i38 : Int) (r73 r74 r75 r76 r77 r78 r79 r80 r81 r82 r83 r84 r85 r86 r87 r88 r89 r90 r91 r92 r93 r94 r95 : Int → Int) (a2 : Int) (a3 : Int) : Option ezq_V → (Nat → ezq_C) → Prop := fun v g' => ∃  (x88 : Int → Int), ezm_h e F A i0 i2 i3 i7 i8 i13 i18 i19 i20 i25 i29 i30 i31 i36 i37 i38 r73 r74 r75 r76 r77 r78 r79 r80 r81 r82 r83 r84 r85 r86 r87 x88 r89 r90 r91 r92 r93 r94 r95 = g' ∧ ezm_T i0 i2 i3 i7 i8 i13 i18 i19 i20 i25 i29 i30 i31 i36 i37 i38 r73 r74 r75 r76 r77 r78 r79 r80 r81 r82 r83 r84 r85 r86 r87 x88 r89 r90 r91 r92 r93 r94 r95 ∧ (∀ j, j < 1050 ∨ 1070 ≤ j → x88 j = r88 j) ∧ (ezm_SV r78 x88 (1050)) ∧ none = v
theorem ezm_m276_v1050 {a2 a3 : Int} (hT : ezm_T i0 i2 i3 i7 i8 i13 i18 i19 i20 i25 i29 i30 i31 i36 i37 i38 r73 r74 r75 r76 r77 r78 r79 r80 r81 r82 r83 r84 r85 r86 r87 r88 r89 r90 r91 r92 r93 r94 r95) (hd : 1 ≤ d) (ha2 : ezw_in a2) (ha3 : ezw_in a3) (ga : 0 ≤ a2 ∧ a2 ≤ 7) (sv : ezm_SV r78 r88 (1050)) : ezw_C l ρ B xa Hb D cA 276 d [ezw_p 72, ezw_i (1050), ezw_i a2, ezw_i a3] (ezm_h e F A i0 i2 i3 i7 i8 i13 i18 i19 i20 i25 i29 i30 i31 i36 i37 i38 r73 r74 r75 r76 r77 r78 r79 r80 r81 r82 r83 r84 r85 r86 r87 r88 r89 r90 r91 r92 r93 r94 r95) (ezm_m276_v1050Q  e F A i0 i2 i3 i7 i8 i13 i18 i19 i20 i25 i29 i30 i31 i36 i37 i38 r73 r74 r75 r76 r77 r78 r79 r80 r81 r82 r83 r84 r85 r86 r87 r88 r89 r90 r91 r92 r93 r94 r95 a2 a3) := by
  refine ezw_met (k := 2) rfl rfl ?_
  have b0 := ezm_zs0 (hT.t88 (1050)) (by decide)
  refine ezw_aload_n rfl rfl ?_
  refine ezw_iload_n rfl rfl ?_
  refine ezw_call0_1 rfl (by omega) (ezm_at rfl) rfl rfl rfl rfl (ezm_m268_v1050 hT (by omega)) ?_
  rintro _ _ ⟨rfl, u2, hu2, p1_0, la_1, rfl⟩
  refine ezw_istore rfl rfl ?_
  refine ezw_iload_n rfl rfl ?_
  refine ezw_if_ne rfl rfl ha3 (fun h8_2 => ?_) (fun h8_2 => ?_)
  · refine ezw_iload_n rfl rfl ?_
    refine ezw_iconst (1) rfl rfl ?_
    refine ezw_icmp_ne rfl rfl ha3 ⟨by decide, by decide⟩ (fun h23_2 => ?_) (fun h23_2 => ?_)
    · refine ezw_aload_n rfl rfl ?_
      refine ezm_gp (p := 88) rfl (fun _ => rfl) ?_
      refine ezw_iload_n rfl rfl ?_
      refine ezw_iconst (0) rfl rfl ?_
      refine ezw_iadd (k := (1050)) rfl (by omega) ?_
      refine ezw_iconst (0) rfl rfl ?_
      refine ezm_s88 hT rfl (by omega) (by omega) ⟨⟨by decide, by decide⟩, by omega, by omega, by omega, by omega, by omega⟩ (fun r88_3 hT er88_3 fr88_3 => ?_)
      refine ezw_aload_n rfl rfl ?_
      refine ezm_gp (p := 88) rfl (fun _ => rfl) ?_
      refine ezw_iload_n rfl rfl ?_
      refine ezw_bipush (17) rfl rfl ?_
      refine ezw_iadd (k := (1067)) rfl (by omega) ?_
      refine ezw_iconst (2) rfl rfl ?_
      refine ezm_s88 hT rfl (by omega) (by omega) ⟨⟨by decide, by decide⟩, by omega, by omega, by omega, by omega, by omega⟩ (fun r88_4 hT er88_4 fr88_4 => ?_)
      refine ezw_iconst (0) rfl rfl ?_
      refine ezw_istore rfl rfl ?_
      have L95_6 : ∀ c5 : Int, ezw_in c5 → ∀ x88_6 : Int → Int, ezm_T i0 i2 i3 i7 i8 i13 i18 i19 i20 i25 i29 i30 i31 i36 i37 i38 r73 r74 r75 r76 r77 r78 r79 r80 r81 r82 r83 r84 r85 r86 r87 x88_6 r89 r90 r91 r92 r93 r94 r95 → ((0) ≤ c5) → (x88_6 (1050) = 0) → (x88_6 (1067) = 2) → (∀ j, j < 1050 ∨ 1070 ≤ j → x88_6 j = r88 j) → ezw_E l ρ B xa Hb D cA d ezq_re276 (ezm_m276_v1050Q  e F A i0 i2 i3 i7 i8 i13 i18 i19 i20 i25 i29 i30 i31 i36 i37 i38 r73 r74 r75 r76 r77 r78 r79 r80 r81 r82 r83 r84 r85 r86 r87 r88 r89 r90 r91 r92 r93 r94 r95 a2 a3) 95 [some (ezw_p 72), some (ezw_i (1050)), some (ezw_i a2), some (ezw_i a3), some (ezw_i u2), some (ezw_i c5)] [] (ezm_h e F A i0 i2 i3 i7 i8 i13 i18 i19 i20 i25 i29 i30 i31 i36 i37 i38 r73 r74 r75 r76 r77 r78 r79 r80 r81 r82 r83 r84 r85 r86 r87 x88_6 r89 r90 r91 r92 r93 r94 r95) := by
        refine ezs_up ?_
        intro c5 hc5 ihc5 x88_6 hT g_6 m_6 z_6 fb_6
        refine ezw_iload rfl rfl ?_
        refine ezw_bipush (8) rfl rfl ?_
        refine ezw_icmp_ge rfl rfl hc5 ⟨by decide, by decide⟩ (fun h99_6 => ?_) (fun h99_6 => ?_)
        · exact ezw_return rfl rfl ⟨x88_6, rfl, hT, fb_6, ezm_SV_of (b := 1050) (b1 := 1051) (b17 := 1067) (by decide) (by decide) ⟨fun z => absurd z (by omega), fun k k0 k1 => absurd k1 (by omega)⟩, rfl⟩
        · refine ezw_aload_n rfl rfl ?_
          refine ezm_gp (p := 88) rfl (fun _ => rfl) ?_
          refine ezw_iload_n rfl rfl ?_
          refine ezw_bipush (7) rfl rfl ?_
          refine ezw_iadd (k := (1057)) rfl (by omega) ?_
          refine ezw_iload rfl rfl ?_
          refine ezw_iadd (k := c5 + 1057) rfl (by omega) ?_
          refine ezw_iconst (0) rfl rfl ?_
          refine ezm_s88 hT rfl (by omega) (by omega) ⟨⟨by decide, by decide⟩, by omega, by omega, by omega, by omega, by omega⟩ (fun r88_7 hT er88_7 fr88_7 => ?_)
          refine ezw_iinc (k := c5 + 1) (1) rfl rfl rfl (by omega) rfl ?_
          refine ezw_goto rfl rfl ?_
          exact ezw_keepE [true, true, true, true, true, true] (ihc5 (c5 + 1) (by omega) ⟨by omega, by omega⟩ r88_7 hT (by omega) (by rw [fr88_7 (1050) (by omega)]; exact m_6) (by rw [fr88_7 (1067) (by omega)]; exact z_6) (fun j hj => by rw [fr88_7 j (by omega), fb_6 j hj]))
      exact ezw_keepE [true, true, true, true, true, true] (L95_6 (0) ⟨by decide, by decide⟩ r88_4 hT (by omega) (by rw [fr88_4 (1050) (by omega), er88_3]) (by rw [er88_4]) (fun j hj => by rw [fr88_4 j (by omega), fr88_3 j (by omega)]))
    · refine ezw_aload_n rfl rfl ?_
      refine ezm_gp (p := 88) rfl (fun _ => rfl) ?_
      refine ezw_iload_n rfl rfl ?_
      refine ezw_bipush (7) rfl rfl ?_
      refine ezw_iadd (k := (1057)) rfl (by omega) ?_
      refine ezw_iload rfl rfl ?_
      refine ezw_iadd (k := u2 + 1057) rfl (by omega) ?_
      refine ezm_l88 rfl (by omega) (by omega) (fun u8 eu8 => ?_)
      have ku8 : ezm_k88 (u2 + 1057) u8 := eu8 ▸ hT.t88 (u2 + 1057)
      have zu8 := ezm_zs7 ku8 (by omega)
      refine ezw_iconst (1) rfl rfl ?_
      refine ezw_iadd (k := u8 + 1) rfl (by omega) ?_
      refine ezw_iload_n rfl rfl ?_
      refine ezw_iadd (k := u8 + a2 + 1) rfl (by omega) ?_
      refine ezw_istore rfl rfl ?_
      refine ezw_aload_n rfl rfl ?_
      refine ezm_gp (p := 88) rfl (fun _ => rfl) ?_
      refine ezw_iload_n rfl rfl ?_
      refine ezw_bipush (7) rfl rfl ?_
      refine ezw_iadd (k := (1057)) rfl (by omega) ?_
      refine ezw_iload rfl rfl ?_
      refine ezw_iadd (k := u2 + 1057) rfl (by omega) ?_
      refine ezw_iload rfl rfl ?_
      refine ezw_bipush (9) rfl rfl ?_
      refine ezw_icmp_le rfl rfl ⟨by omega, by omega⟩ ⟨by decide, by decide⟩ (fun h59_8 => ?_) (fun h59_8 => ?_)
      · refine ezw_iload rfl rfl ?_
        refine ezm_s88 hT rfl (by omega) (by omega) ⟨⟨by omega, by omega⟩, by omega, by omega, by omega, by omega, by omega⟩ (fun r88_9 hT er88_9 fr88_9 => ?_)
        refine ezw_goto rfl rfl ?_
        exact ezw_return rfl rfl ⟨r88_9, rfl, hT, fun j hj => by rw [fr88_9 j (by omega)], ezm_SV_fr2 sv b0.2 (fun j hj => by rw [fr88_9 j (by omega)]), rfl⟩
      · refine ezw_bipush (9) rfl rfl ?_
        refine ezw_goto rfl rfl ?_
        refine ezm_s88 hT rfl (by omega) (by omega) ⟨⟨by decide, by decide⟩, by omega, by omega, by omega, by omega, by omega⟩ (fun r88_10 hT er88_10 fr88_10 => ?_)
        refine ezw_goto rfl rfl ?_
        exact ezw_return rfl rfl ⟨r88_10, rfl, hT, fun j hj => by rw [fr88_10 j (by omega)], ezm_SV_fr2 sv b0.2 (fun j hj => by rw [fr88_10 j (by omega)]), rfl⟩
  · refine ezw_aload_n rfl rfl ?_
    refine ezw_iload_n rfl rfl ?_
    refine ezw_iload rfl rfl ?_
    refine ezw_call0_2 rfl (by omega) (ezm_at rfl) rfl rfl rfl rfl (ezm_m277_v1050 hT (by omega) hu2 (by omega) sv) ?_
    rintro _ _ ⟨x88_11, rfl, hT, fb_11, sv_11, rfl⟩
    refine ezw_goto rfl rfl ?_
    exact ezw_return rfl rfl ⟨x88_11, rfl, hT, fb_11, sv_11, rfl⟩
def ezm_m268_v1100Q (e : Bool × Bool) (F : Nat → Nat → Int) (A : Nat → Int → Int) (i0 i2 i3 i7 i8 i13 i18 i19 i20 i25 i29 i30 i31 i36 i37 i38 : Int) (r73 r74 r75 r76 r77 r78 r79 r80 r81 r82 r83 r84 r85 r86 r87 r88 r89 r90 r91 r92 r93 r94 r95 : Int → Int) : Option ezq_V → (Nat → ezq_C) → Prop := fun v g' => ezm_h e F A i0 i2 i3 i7 i8 i13 i18 i19 i20 i25 i29 i30 i31 i36 i37 i38 r73 r74 r75 r76 r77 r78 r79 r80 r81 r82 r83 r84 r85 r86 r87 r88 r89 r90 r91 r92 r93 r94 r95 = g' ∧ ∃ u : Int, (ezw_in u) ∧ (0 ≤ u ∧ u ≤ 7) ∧ (u = ezm_la r88 1100) ∧ some (ezw_i u) = v
theorem ezm_m268_v1100 (hT : ezm_T i0 i2 i3 i7 i8 i13 i18 i19 i20 i25 i29 i30 i31 i36 i37 i38 r73 r74 r75 r76 r77 r78 r79 r80 r81 r82 r83 r84 r85 r86 r87 r88 r89 r90 r91 r92 r93 r94 r95) (hd : 0 ≤ d) : ezw_C l ρ B xa Hb D cA 268 d [ezw_p 72, ezw_i (1100)] (ezm_h e F A i0 i2 i3 i7 i8 i13 i18 i19 i20 i25 i29 i30 i31 i36 i37 i38 r73 r74 r75 r76 r77 r78 r79 r80 r81 r82 r83 r84 r85 r86 r87 r88 r89 r90 r91 r92 r93 r94 r95) (ezm_m268_v1100Q  e F A i0 i2 i3 i7 i8 i13 i18 i19 i20 i25 i29 i30 i31 i36 i37 i38 r73 r74 r75 r76 r77 r78 r79 r80 r81 r82 r83 r84 r85 r86 r87 r88 r89 r90 r91 r92 r93 r94 r95) := by
  refine ezw_met (k := 0) rfl rfl ?_
  refine ezw_aload_n rfl rfl ?_
  refine ezm_gp (p := 88) rfl (fun _ => rfl) ?_
  refine ezw_iload_n rfl rfl ?_
  refine ezw_iconst (1) rfl rfl ?_
  refine ezw_iadd (k := (1101)) rfl (by omega) ?_
  refine ezw_aload_n rfl rfl ?_
  refine ezm_gp (p := 88) rfl (fun _ => rfl) ?_
  refine ezw_iload_n rfl rfl ?_
  refine ezw_iconst (0) rfl rfl ?_
  refine ezw_iadd (k := (1100)) rfl (by omega) ?_
  refine ezm_l88 rfl (by omega) (by omega) (fun u1 eu1 => ?_)
  have ku1 : ezm_k88 (1100) u1 := eu1 ▸ hT.t88 (1100)
  have zu1 := ezm_zs0 ku1 (by omega)
  refine ezw_iadd (k := u1 + 1101) rfl (by omega) ?_
  refine ezw_iconst (1) rfl rfl ?_
  refine ezw_isub (k := u1 + 1100) rfl (by omega) ?_
  refine ezm_l88 rfl (by omega) (by omega) (fun u2 eu2 => ?_)
  have ku2 : ezm_k88 (u1 + 1100) u2 := eu2 ▸ hT.t88 (u1 + 1100)
  have zu2 := ezm_z07 ku2 (by omega)
  exact ezw_ireturn rfl rfl ⟨rfl, u2, (ezm_in88 ku2), by omega, by
        unfold ezm_la
        rw [← eu1]
        first
          | exact eu2
          | (rw [Int.add_zero]; exact eu2), rfl⟩
def ezm_m276_v1100Q (e : Bool × Bool) (F : Nat → Nat → Int) (A : Nat → Int → Int) (i0 i2 i3 i7 i8 i13 i18 i19 i20 i25 i29 i30 i31 i36 i37 i38 : Int) (r73 r74 r75 r76 r77 r78 r79 r80 r81 r82 r83 r84 r85 r86 r87 r88 r89 r90 r91 r92 r93 r94 r95 : Int → Int) (a2 : Int) (a3 : Int) : Option ezq_V → (Nat → ezq_C) → Prop := fun v g' => ∃  (x88 : Int → Int), ezm_h e F A i0 i2 i3 i7 i8 i13 i18 i19 i20 i25 i29 i30 i31 i36 i37 i38 r73 r74 r75 r76 r77 r78 r79 r80 r81 r82 r83 r84 r85 r86 r87 x88 r89 r90 r91 r92 r93 r94 r95 = g' ∧ ezm_T i0 i2 i3 i7 i8 i13 i18 i19 i20 i25 i29 i30 i31 i36 i37 i38 r73 r74 r75 r76 r77 r78 r79 r80 r81 r82 r83 r84 r85 r86 r87 x88 r89 r90 r91 r92 r93 r94 r95 ∧ (∀ j, j < 1100 ∨ 1120 ≤ j → x88 j = r88 j) ∧ (ezm_SV r78 x88 (1100)) ∧ none = v
theorem ezm_m276_v1100 {a2 a3 : Int} (hT : ezm_T i0 i2 i3 i7 i8 i13 i18 i19 i20 i25 i29 i30 i31 i36 i37 i38 r73 r74 r75 r76 r77 r78 r79 r80 r81 r82 r83 r84 r85 r86 r87 r88 r89 r90 r91 r92 r93 r94 r95) (hd : 1 ≤ d) (ha2 : ezw_in a2) (ha3 : ezw_in a3) (ga : 0 ≤ a2 ∧ a2 ≤ 7) (sv : ezm_SV r78 r88 (1100)) : ezw_C l ρ B xa Hb D cA 276 d [ezw_p 72, ezw_i (1100), ezw_i a2, ezw_i a3] (ezm_h e F A i0 i2 i3 i7 i8 i13 i18 i19 i20 i25 i29 i30 i31 i36 i37 i38 r73 r74 r75 r76 r77 r78 r79 r80 r81 r82 r83 r84 r85 r86 r87 r88 r89 r90 r91 r92 r93 r94 r95) (ezm_m276_v1100Q  e F A i0 i2 i3 i7 i8 i13 i18 i19 i20 i25 i29 i30 i31 i36 i37 i38 r73 r74 r75 r76 r77 r78 r79 r80 r81 r82 r83 r84 r85 r86 r87 r88 r89 r90 r91 r92 r93 r94 r95 a2 a3) := by
  refine ezw_met (k := 2) rfl rfl ?_
  have b0 := ezm_zs0 (hT.t88 (1100)) (by decide)
  refine ezw_aload_n rfl rfl ?_
  refine ezw_iload_n rfl rfl ?_
  refine ezw_call0_1 rfl (by omega) (ezm_at rfl) rfl rfl rfl rfl (ezm_m268_v1100 hT (by omega)) ?_
  rintro _ _ ⟨rfl, u2, hu2, p1_0, la_1, rfl⟩
  refine ezw_istore rfl rfl ?_
  refine ezw_iload_n rfl rfl ?_
  refine ezw_if_ne rfl rfl ha3 (fun h8_2 => ?_) (fun h8_2 => ?_)
  · refine ezw_iload_n rfl rfl ?_
    refine ezw_iconst (1) rfl rfl ?_
    refine ezw_icmp_ne rfl rfl ha3 ⟨by decide, by decide⟩ (fun h23_2 => ?_) (fun h23_2 => ?_)
    · refine ezw_aload_n rfl rfl ?_
      refine ezm_gp (p := 88) rfl (fun _ => rfl) ?_
      refine ezw_iload_n rfl rfl ?_
      refine ezw_iconst (0) rfl rfl ?_
      refine ezw_iadd (k := (1100)) rfl (by omega) ?_
      refine ezw_iconst (0) rfl rfl ?_
      refine ezm_s88 hT rfl (by omega) (by omega) ⟨⟨by decide, by decide⟩, by omega, by omega, by omega, by omega, by omega⟩ (fun r88_3 hT er88_3 fr88_3 => ?_)
      refine ezw_aload_n rfl rfl ?_
      refine ezm_gp (p := 88) rfl (fun _ => rfl) ?_
      refine ezw_iload_n rfl rfl ?_
      refine ezw_bipush (17) rfl rfl ?_
      refine ezw_iadd (k := (1117)) rfl (by omega) ?_
      refine ezw_iconst (2) rfl rfl ?_
      refine ezm_s88 hT rfl (by omega) (by omega) ⟨⟨by decide, by decide⟩, by omega, by omega, by omega, by omega, by omega⟩ (fun r88_4 hT er88_4 fr88_4 => ?_)
      refine ezw_iconst (0) rfl rfl ?_
      refine ezw_istore rfl rfl ?_
      have L95_6 : ∀ c5 : Int, ezw_in c5 → ∀ x88_6 : Int → Int, ezm_T i0 i2 i3 i7 i8 i13 i18 i19 i20 i25 i29 i30 i31 i36 i37 i38 r73 r74 r75 r76 r77 r78 r79 r80 r81 r82 r83 r84 r85 r86 r87 x88_6 r89 r90 r91 r92 r93 r94 r95 → ((0) ≤ c5) → (x88_6 (1100) = 0) → (x88_6 (1117) = 2) → (∀ j, j < 1100 ∨ 1120 ≤ j → x88_6 j = r88 j) → ezw_E l ρ B xa Hb D cA d ezq_re276 (ezm_m276_v1100Q  e F A i0 i2 i3 i7 i8 i13 i18 i19 i20 i25 i29 i30 i31 i36 i37 i38 r73 r74 r75 r76 r77 r78 r79 r80 r81 r82 r83 r84 r85 r86 r87 r88 r89 r90 r91 r92 r93 r94 r95 a2 a3) 95 [some (ezw_p 72), some (ezw_i (1100)), some (ezw_i a2), some (ezw_i a3), some (ezw_i u2), some (ezw_i c5)] [] (ezm_h e F A i0 i2 i3 i7 i8 i13 i18 i19 i20 i25 i29 i30 i31 i36 i37 i38 r73 r74 r75 r76 r77 r78 r79 r80 r81 r82 r83 r84 r85 r86 r87 x88_6 r89 r90 r91 r92 r93 r94 r95) := by
        refine ezs_up ?_
        intro c5 hc5 ihc5 x88_6 hT g_6 m_6 z_6 fb_6
        refine ezw_iload rfl rfl ?_
        refine ezw_bipush (8) rfl rfl ?_
        refine ezw_icmp_ge rfl rfl hc5 ⟨by decide, by decide⟩ (fun h99_6 => ?_) (fun h99_6 => ?_)
        · exact ezw_return rfl rfl ⟨x88_6, rfl, hT, fb_6, ezm_SV_of (b := 1100) (b1 := 1101) (b17 := 1117) (by decide) (by decide) ⟨fun z => absurd z (by omega), fun k k0 k1 => absurd k1 (by omega)⟩, rfl⟩
        · refine ezw_aload_n rfl rfl ?_
          refine ezm_gp (p := 88) rfl (fun _ => rfl) ?_
          refine ezw_iload_n rfl rfl ?_
          refine ezw_bipush (7) rfl rfl ?_
          refine ezw_iadd (k := (1107)) rfl (by omega) ?_
          refine ezw_iload rfl rfl ?_
          refine ezw_iadd (k := c5 + 1107) rfl (by omega) ?_
          refine ezw_iconst (0) rfl rfl ?_
          refine ezm_s88 hT rfl (by omega) (by omega) ⟨⟨by decide, by decide⟩, by omega, by omega, by omega, by omega, by omega⟩ (fun r88_7 hT er88_7 fr88_7 => ?_)
          refine ezw_iinc (k := c5 + 1) (1) rfl rfl rfl (by omega) rfl ?_
          refine ezw_goto rfl rfl ?_
          exact ezw_keepE [true, true, true, true, true, true] (ihc5 (c5 + 1) (by omega) ⟨by omega, by omega⟩ r88_7 hT (by omega) (by rw [fr88_7 (1100) (by omega)]; exact m_6) (by rw [fr88_7 (1117) (by omega)]; exact z_6) (fun j hj => by rw [fr88_7 j (by omega), fb_6 j hj]))
      exact ezw_keepE [true, true, true, true, true, true] (L95_6 (0) ⟨by decide, by decide⟩ r88_4 hT (by omega) (by rw [fr88_4 (1100) (by omega), er88_3]) (by rw [er88_4]) (fun j hj => by rw [fr88_4 j (by omega), fr88_3 j (by omega)]))
    · refine ezw_aload_n rfl rfl ?_
      refine ezm_gp (p := 88) rfl (fun _ => rfl) ?_
      refine ezw_iload_n rfl rfl ?_
      refine ezw_bipush (7) rfl rfl ?_
      refine ezw_iadd (k := (1107)) rfl (by omega) ?_
      refine ezw_iload rfl rfl ?_
      refine ezw_iadd (k := u2 + 1107) rfl (by omega) ?_
      refine ezm_l88 rfl (by omega) (by omega) (fun u8 eu8 => ?_)
      have ku8 : ezm_k88 (u2 + 1107) u8 := eu8 ▸ hT.t88 (u2 + 1107)
      have zu8 := ezm_zs7 ku8 (by omega)
      refine ezw_iconst (1) rfl rfl ?_
      refine ezw_iadd (k := u8 + 1) rfl (by omega) ?_
      refine ezw_iload_n rfl rfl ?_
      refine ezw_iadd (k := u8 + a2 + 1) rfl (by omega) ?_
      refine ezw_istore rfl rfl ?_
      refine ezw_aload_n rfl rfl ?_
      refine ezm_gp (p := 88) rfl (fun _ => rfl) ?_
      refine ezw_iload_n rfl rfl ?_
      refine ezw_bipush (7) rfl rfl ?_
      refine ezw_iadd (k := (1107)) rfl (by omega) ?_
      refine ezw_iload rfl rfl ?_
      refine ezw_iadd (k := u2 + 1107) rfl (by omega) ?_
      refine ezw_iload rfl rfl ?_
      refine ezw_bipush (9) rfl rfl ?_
      refine ezw_icmp_le rfl rfl ⟨by omega, by omega⟩ ⟨by decide, by decide⟩ (fun h59_8 => ?_) (fun h59_8 => ?_)
      · refine ezw_iload rfl rfl ?_
        refine ezm_s88 hT rfl (by omega) (by omega) ⟨⟨by omega, by omega⟩, by omega, by omega, by omega, by omega, by omega⟩ (fun r88_9 hT er88_9 fr88_9 => ?_)
        refine ezw_goto rfl rfl ?_
        exact ezw_return rfl rfl ⟨r88_9, rfl, hT, fun j hj => by rw [fr88_9 j (by omega)], ezm_SV_fr2 sv b0.2 (fun j hj => by rw [fr88_9 j (by omega)]), rfl⟩
      · refine ezw_bipush (9) rfl rfl ?_
        refine ezw_goto rfl rfl ?_
        refine ezm_s88 hT rfl (by omega) (by omega) ⟨⟨by decide, by decide⟩, by omega, by omega, by omega, by omega, by omega⟩ (fun r88_10 hT er88_10 fr88_10 => ?_)
        refine ezw_goto rfl rfl ?_
        exact ezw_return rfl rfl ⟨r88_10, rfl, hT, fun j hj => by rw [fr88_10 j (by omega)], ezm_SV_fr2 sv b0.2 (fun j hj => by rw [fr88_10 j (by omega)]), rfl⟩
  · refine ezw_aload_n rfl rfl ?_
    refine ezw_iload_n rfl rfl ?_
    refine ezw_iload rfl rfl ?_
    refine ezw_call0_2 rfl (by omega) (ezm_at rfl) rfl rfl rfl rfl (ezm_m277_v1100 hT (by omega) hu2 (by omega) sv) ?_
    rintro _ _ ⟨x88_11, rfl, hT, fb_11, sv_11, rfl⟩
    refine ezw_goto rfl rfl ?_
    exact ezw_return rfl rfl ⟨x88_11, rfl, hT, fb_11, sv_11, rfl⟩
def ezm_m266_v1050Q (e : Bool × Bool) (F : Nat → Nat → Int) (A : Nat → Int → Int) (i0 i2 i3 i7 i8 i13 i18 i19 i20 i25 i29 i30 i31 i36 i37 i38 : Int) (r73 r74 r75 r76 r77 r78 r79 r80 r81 r82 r83 r84 r85 r86 r87 r88 r89 r90 r91 r92 r93 r94 r95 : Int → Int) : Option ezq_V → (Nat → ezq_C) → Prop := fun v g' => ezm_h e F A i0 i2 i3 i7 i8 i13 i18 i19 i20 i25 i29 i30 i31 i36 i37 i38 r73 r74 r75 r76 r77 r78 r79 r80 r81 r82 r83 r84 r85 r86 r87 r88 r89 r90 r91 r92 r93 r94 r95 = g' ∧ ∃ u : Int, (0 ≤ u ∧ u ≤ 1) ∧ (u = 1 → r88 1067 = 0) ∧ (u = 0 → r88 1067 ≠ 0) ∧ some (ezw_i u) = v
theorem ezm_m266_v1050 (hT : ezm_T i0 i2 i3 i7 i8 i13 i18 i19 i20 i25 i29 i30 i31 i36 i37 i38 r73 r74 r75 r76 r77 r78 r79 r80 r81 r82 r83 r84 r85 r86 r87 r88 r89 r90 r91 r92 r93 r94 r95) (hd : 0 ≤ d) : ezw_C l ρ B xa Hb D cA 266 d [ezw_p 72, ezw_i (1050)] (ezm_h e F A i0 i2 i3 i7 i8 i13 i18 i19 i20 i25 i29 i30 i31 i36 i37 i38 r73 r74 r75 r76 r77 r78 r79 r80 r81 r82 r83 r84 r85 r86 r87 r88 r89 r90 r91 r92 r93 r94 r95) (ezm_m266_v1050Q  e F A i0 i2 i3 i7 i8 i13 i18 i19 i20 i25 i29 i30 i31 i36 i37 i38 r73 r74 r75 r76 r77 r78 r79 r80 r81 r82 r83 r84 r85 r86 r87 r88 r89 r90 r91 r92 r93 r94 r95) := by
  refine ezw_met (k := 0) rfl rfl ?_
  refine ezw_aload_n rfl rfl ?_
  refine ezm_gp (p := 88) rfl (fun _ => rfl) ?_
  refine ezw_iload_n rfl rfl ?_
  refine ezw_bipush (17) rfl rfl ?_
  refine ezw_iadd (k := (1067)) rfl (by omega) ?_
  refine ezm_l88 rfl (by omega) (by omega) (fun u1 eu1 => ?_)
  have ku1 : ezm_k88 (1067) u1 := eu1 ▸ hT.t88 (1067)
  refine ezw_if_ne rfl rfl (ezm_in88 ku1) (fun h9_1 => ?_) (fun h9_1 => ?_)
  · refine ezw_iconst (0) rfl rfl ?_
    exact ezw_ireturn rfl (ezw_zret ⟨by omega, by omega⟩) ⟨rfl, (0), ⟨by omega, by omega⟩, by omega, by omega, rfl⟩
  · refine ezw_iconst (1) rfl rfl ?_
    refine ezw_goto rfl rfl ?_
    exact ezw_ireturn rfl (ezw_zret ⟨by omega, by omega⟩) ⟨rfl, (1), ⟨by omega, by omega⟩, by omega, by omega, rfl⟩
def ezm_m279_v1050Q (e : Bool × Bool) (F : Nat → Nat → Int) (A : Nat → Int → Int) (i0 i2 i3 i7 i8 i13 i18 i19 i20 i25 i29 i30 i31 i36 i37 i38 : Int) (r73 r74 r75 r76 r77 r78 r79 r80 r81 r82 r83 r84 r85 r86 r87 r88 r89 r90 r91 r92 r93 r94 r95 : Int → Int) : Option ezq_V → (Nat → ezq_C) → Prop := fun v g' => ezm_h e F A i0 i2 i3 i7 i8 i13 i18 i19 i20 i25 i29 i30 i31 i36 i37 i38 r73 r74 r75 r76 r77 r78 r79 r80 r81 r82 r83 r84 r85 r86 r87 r88 r89 r90 r91 r92 r93 r94 r95 = g' ∧ ∃ u : Int, (0 ≤ u ∧ u ≤ 1) ∧ (u = 1 → r88 1067 = 0) ∧ (u = 1 → 0 < r88 (ezm_la r88 (1050) + 1057)) ∧ some (ezw_i u) = v
theorem ezm_m279_v1050 (hT : ezm_T i0 i2 i3 i7 i8 i13 i18 i19 i20 i25 i29 i30 i31 i36 i37 i38 r73 r74 r75 r76 r77 r78 r79 r80 r81 r82 r83 r84 r85 r86 r87 r88 r89 r90 r91 r92 r93 r94 r95) (hd : 1 ≤ d) : ezw_C l ρ B xa Hb D cA 279 d [ezw_p 72, ezw_i (1050)] (ezm_h e F A i0 i2 i3 i7 i8 i13 i18 i19 i20 i25 i29 i30 i31 i36 i37 i38 r73 r74 r75 r76 r77 r78 r79 r80 r81 r82 r83 r84 r85 r86 r87 r88 r89 r90 r91 r92 r93 r94 r95) (ezm_m279_v1050Q  e F A i0 i2 i3 i7 i8 i13 i18 i19 i20 i25 i29 i30 i31 i36 i37 i38 r73 r74 r75 r76 r77 r78 r79 r80 r81 r82 r83 r84 r85 r86 r87 r88 r89 r90 r91 r92 r93 r94 r95) := by
  refine ezw_met (k := 0) rfl rfl ?_
  refine ezw_aload_n rfl rfl ?_
  refine ezw_iload_n rfl rfl ?_
  refine ezw_call0_1 rfl (by omega) (ezm_at rfl) rfl rfl rfl rfl (ezm_m266_v1050 hT (by omega)) ?_
  rintro _ _ ⟨rfl, u2, hu2, p1_0, p1_1, rfl⟩
  refine ezw_if_eq rfl rfl ⟨by omega, by omega⟩ (fun h5_2 => ?_) (fun h5_2 => ?_)
  · refine ezw_iconst (0) rfl rfl ?_
    exact ezw_ireturn rfl (ezw_zret ⟨by omega, by omega⟩) ⟨rfl, (0), ⟨by omega, by omega⟩, by omega, by omega, rfl⟩
  · refine ezw_aload_n rfl rfl ?_
    refine ezm_gp (p := 88) rfl (fun _ => rfl) ?_
    refine ezw_iload_n rfl rfl ?_
    refine ezw_bipush (7) rfl rfl ?_
    refine ezw_iadd (k := (1057)) rfl (by omega) ?_
    refine ezw_aload_n rfl rfl ?_
    refine ezw_iload_n rfl rfl ?_
    refine ezw_call0_1 rfl (by omega) (ezm_at rfl) rfl rfl rfl rfl (ezm_m268_v1050 hT (by omega)) ?_
    rintro _ _ ⟨rfl, u4, hu4, p3_0, la_3, rfl⟩
    refine ezw_iadd (k := u4 + 1057) rfl (by omega) ?_
    refine ezm_l88 rfl (by omega) (by omega) (fun u5 eu5 => ?_)
    have ku5 : ezm_k88 (u4 + 1057) u5 := eu5 ▸ hT.t88 (u4 + 1057)
    have zu5 := ezm_zs7 ku5 (by omega)
    refine ezw_if_le rfl rfl (ezm_in88 ku5) (fun h23_5 => ?_) (fun h23_5 => ?_)
    · refine ezw_iconst (0) rfl rfl ?_
      exact ezw_ireturn rfl (ezw_zret ⟨by omega, by omega⟩) ⟨rfl, (0), ⟨by omega, by omega⟩, by omega, by omega, rfl⟩
    · refine ezw_iconst (1) rfl rfl ?_
      refine ezw_goto rfl rfl ?_
      exact ezw_ireturn rfl (ezw_zret ⟨by omega, by omega⟩) ⟨rfl, (1), ⟨by omega, by omega⟩, by omega, fun _ => by rw [← la_3, ← eu5]; omega, rfl⟩
def ezm_m281_v1050Q (e : Bool × Bool) (F : Nat → Nat → Int) (A : Nat → Int → Int) (i0 i2 i3 i7 i8 i13 i18 i19 i20 i25 i29 i30 i31 i36 i37 i38 : Int) (r73 r74 r75 r76 r77 r78 r79 r80 r81 r82 r83 r84 r85 r86 r87 r88 r89 r90 r91 r92 r93 r94 r95 : Int → Int) : Option ezq_V → (Nat → ezq_C) → Prop := fun v g' => ezm_h e F A i0 i2 i3 i7 i8 i13 i18 i19 i20 i25 i29 i30 i31 i36 i37 i38 r73 r74 r75 r76 r77 r78 r79 r80 r81 r82 r83 r84 r85 r86 r87 r88 r89 r90 r91 r92 r93 r94 r95 = g' ∧ ∃ u : Int, (0 ≤ u ∧ u ≤ 1) ∧ (u = 1 → r88 1067 = 0) ∧ some (ezw_i u) = v
theorem ezm_m281_v1050 (hT : ezm_T i0 i2 i3 i7 i8 i13 i18 i19 i20 i25 i29 i30 i31 i36 i37 i38 r73 r74 r75 r76 r77 r78 r79 r80 r81 r82 r83 r84 r85 r86 r87 r88 r89 r90 r91 r92 r93 r94 r95) (hd : 1 ≤ d) : ezw_C l ρ B xa Hb D cA 281 d [ezw_p 72, ezw_i (1050)] (ezm_h e F A i0 i2 i3 i7 i8 i13 i18 i19 i20 i25 i29 i30 i31 i36 i37 i38 r73 r74 r75 r76 r77 r78 r79 r80 r81 r82 r83 r84 r85 r86 r87 r88 r89 r90 r91 r92 r93 r94 r95) (ezm_m281_v1050Q  e F A i0 i2 i3 i7 i8 i13 i18 i19 i20 i25 i29 i30 i31 i36 i37 i38 r73 r74 r75 r76 r77 r78 r79 r80 r81 r82 r83 r84 r85 r86 r87 r88 r89 r90 r91 r92 r93 r94 r95) := by
  refine ezw_met (k := 0) rfl rfl ?_
  refine ezw_aload_n rfl rfl ?_
  refine ezw_iload_n rfl rfl ?_
  refine ezw_call0_1 rfl (by omega) (ezm_at rfl) rfl rfl rfl rfl (ezm_m266_v1050 hT (by omega)) ?_
  rintro _ _ ⟨rfl, u2, hu2, p1_0, p1_1, rfl⟩
  refine ezw_if_eq rfl rfl ⟨by omega, by omega⟩ (fun h5_2 => ?_) (fun h5_2 => ?_)
  · refine ezw_iconst (0) rfl rfl ?_
    exact ezw_ireturn rfl (ezw_zret ⟨by omega, by omega⟩) ⟨rfl, (0), ⟨by omega, by omega⟩, by omega, rfl⟩
  · refine ezw_aload_n rfl rfl ?_
    refine ezm_gp (p := 88) rfl (fun _ => rfl) ?_
    refine ezw_iload_n rfl rfl ?_
    refine ezw_bipush (16) rfl rfl ?_
    refine ezw_iadd (k := (1066)) rfl (by omega) ?_
    refine ezm_l88 rfl (by omega) (by omega) (fun u3 eu3 => ?_)
    have ku3 : ezm_k88 (1066) u3 := eu3 ▸ hT.t88 (1066)
    refine ezw_aload_n rfl rfl ?_
    refine ezw_aload_n rfl rfl ?_
    refine ezw_iload_n rfl rfl ?_
    refine ezw_call0_1 rfl (by omega) (ezm_at rfl) rfl rfl rfl rfl (ezm_m268_v1050 hT (by omega)) ?_
    rintro _ _ ⟨rfl, u5, hu5, p4_0, la_4, rfl⟩
    refine ezw_iconst (2) rfl rfl ?_
    refine ezw_call0_2 rfl (by omega) (ezm_at rfl) rfl rfl rfl rfl (ezm_m259_v2 hT (by omega) hu5 (by omega)) ?_
    rintro _ _ ⟨rfl, u7, hu7, tw_6, rfl⟩
    refine ezw_icmp_ne rfl rfl (ezm_in88 ku3) hu7 (fun h27_7 => ?_) (fun h27_7 => ?_)
    · refine ezw_iconst (0) rfl rfl ?_
      exact ezw_ireturn rfl (ezw_zret ⟨by omega, by omega⟩) ⟨rfl, (0), ⟨by omega, by omega⟩, by omega, rfl⟩
    · refine ezw_aload_n rfl rfl ?_
      refine ezm_gp (p := 88) rfl (fun _ => rfl) ?_
      refine ezw_iload_n rfl rfl ?_
      refine ezw_bipush (7) rfl rfl ?_
      refine ezw_iadd (k := (1057)) rfl (by omega) ?_
      refine ezw_aload_n rfl rfl ?_
      refine ezw_iload_n rfl rfl ?_
      refine ezw_call0_1 rfl (by omega) (ezm_at rfl) rfl rfl rfl rfl (ezm_m268_v1050 hT (by omega)) ?_
      rintro _ _ ⟨rfl, u9, hu9, p8_0, la_8, rfl⟩
      refine ezw_iadd (k := u9 + 1057) rfl (by omega) ?_
      refine ezm_l88 rfl (by omega) (by omega) (fun u10 eu10 => ?_)
      have ku10 : ezm_k88 (u9 + 1057) u10 := eu10 ▸ hT.t88 (u9 + 1057)
      have zu10 := ezm_zs7 ku10 (by omega)
      refine ezw_if_ne rfl rfl (ezm_in88 ku10) (fun h45_10 => ?_) (fun h45_10 => ?_)
      · refine ezw_iconst (0) rfl rfl ?_
        exact ezw_ireturn rfl (ezw_zret ⟨by omega, by omega⟩) ⟨rfl, (0), ⟨by omega, by omega⟩, by omega, rfl⟩
      · refine ezw_aload_n rfl rfl ?_
        refine ezm_gp (p := 78) rfl (fun _ => rfl) ?_
        refine ezw_bipush (9) rfl rfl ?_
        refine ezm_l78 rfl (by omega) (by omega) (fun u11 eu11 => ?_)
        have ku11 : ezm_k78 (9) u11 := eu11 ▸ hT.t78 (9)
        refine ezw_if_le rfl rfl (ezm_in78 ku11) (fun h55_11 => ?_) (fun h55_11 => ?_)
        · refine ezw_iconst (0) rfl rfl ?_
          exact ezw_ireturn rfl (ezw_zret ⟨by omega, by omega⟩) ⟨rfl, (0), ⟨by omega, by omega⟩, by omega, rfl⟩
        · refine ezw_iconst (1) rfl rfl ?_
          refine ezw_goto rfl rfl ?_
          exact ezw_ireturn rfl (ezw_zret ⟨by omega, by omega⟩) ⟨rfl, (1), ⟨by omega, by omega⟩, by omega, rfl⟩
def ezm_m269_v0Q (e : Bool × Bool) (F : Nat → Nat → Int) (A : Nat → Int → Int) (i0 i2 i3 i7 i8 i13 i18 i19 i20 i25 i29 i30 i31 i36 i37 i38 : Int) (r73 r74 r75 r76 r77 r78 r79 r80 r81 r82 r83 r84 r85 r86 r87 r88 r89 r90 r91 r92 r93 r94 r95 : Int → Int) (a2 : Int) (a3 : Int) (a4 : Int) (a5 : Int) : Option ezq_V → (Nat → ezq_C) → Prop := fun v g' => ∃  (x86 x87 : Int → Int), ezm_h e F A i0 i2 i3 i7 i8 i13 i18 i19 i20 i25 i29 i30 i31 i36 i37 i38 r73 r74 r75 r76 r77 r78 r79 r80 r81 r82 r83 r84 r85 x86 x87 r88 r89 r90 r91 r92 r93 r94 r95 = g' ∧ ezm_T i0 i2 i3 i7 i8 i13 i18 i19 i20 i25 i29 i30 i31 i36 i37 i38 r73 r74 r75 r76 r77 r78 r79 r80 r81 r82 r83 r84 r85 x86 x87 r88 r89 r90 r91 r92 r93 r94 r95 ∧ ∃ u : Int, (ezw_in u) ∧ (0 ≤ u ∧ u ≤ 10) ∧ some (ezw_i u) = v
theorem ezm_m269_v0 {a2 a3 a4 a5 : Int} (hT : ezm_T i0 i2 i3 i7 i8 i13 i18 i19 i20 i25 i29 i30 i31 i36 i37 i38 r73 r74 r75 r76 r77 r78 r79 r80 r81 r82 r83 r84 r85 r86 r87 r88 r89 r90 r91 r92 r93 r94 r95) (hd : 2 ≤ d) (ha2 : ezw_in a2) (ha3 : ezw_in a3) (ha4 : ezw_in a4) (ha5 : ezw_in a5) (gt : 0 ≤ a2 ∧ a2 ≤ 7) (tr : ezm_TR r78 r79 r80) : ezw_C l ρ B xa Hb D cA 269 d [ezw_p 72, ezw_i (0), ezw_i a2, ezw_i a3, ezw_i a4, ezw_i a5] (ezm_h e F A i0 i2 i3 i7 i8 i13 i18 i19 i20 i25 i29 i30 i31 i36 i37 i38 r73 r74 r75 r76 r77 r78 r79 r80 r81 r82 r83 r84 r85 r86 r87 r88 r89 r90 r91 r92 r93 r94 r95) (ezm_m269_v0Q  e F A i0 i2 i3 i7 i8 i13 i18 i19 i20 i25 i29 i30 i31 i36 i37 i38 r73 r74 r75 r76 r77 r78 r79 r80 r81 r82 r83 r84 r85 r86 r87 r88 r89 r90 r91 r92 r93 r94 r95 a2 a3 a4 a5) := by
  refine ezw_met (k := 2) rfl rfl ?_
  refine ezw_iload rfl rfl ?_
  refine ezw_aload_n rfl rfl ?_
  refine ezw_iload_n rfl rfl ?_
  refine ezw_iconst (2) rfl rfl ?_
  refine ezw_call0_2 rfl (by omega) (ezm_at rfl) rfl rfl rfl rfl (ezm_m259_v2 hT (by omega) ha2 (by omega)) ?_
  rintro _ _ ⟨rfl, u2, hu2, tw_1, rfl⟩
  refine ezs_isub rfl (fun u3 hu3 => ?_)
  refine ezw_iconst (4) rfl rfl ?_
  refine ezs_iadd rfl (fun u4 hu4 => ?_)
  refine ezw_iconst (4) rfl rfl ?_
  refine ezm_irem rfl hu4 ⟨by decide, by decide⟩ (by decide) (fun u5 hu5 ku5 => ?_)
  refine ezw_istore rfl rfl ?_
  refine ezw_aload_n rfl rfl ?_
  refine ezm_gp (p := 86) rfl (fun _ => rfl) ?_
  refine ezw_iconst (0) rfl rfl ?_
  refine ezw_iload_n rfl rfl ?_
  refine ezm_s86 hT rfl (by omega) (by omega) ha3 (fun r86_6 hT er86_6 fr86_6 => ?_)
  refine ezw_aload_n rfl rfl ?_
  refine ezm_gp (p := 86) rfl (fun _ => rfl) ?_
  refine ezw_iconst (1) rfl rfl ?_
  refine ezw_aload_n rfl rfl ?_
  refine ezw_iload_n rfl rfl ?_
  refine ezw_iconst (1) rfl rfl ?_
  refine ezw_call0_2 rfl (by omega) (ezm_at rfl) rfl rfl rfl rfl (ezm_m259_v1 hT (by omega) ha2 (by omega)) ?_
  rintro _ _ ⟨rfl, u8, hu8, tw_7, rfl⟩
  refine ezm_s86 hT rfl (by omega) (by omega) hu8 (fun r86_9 hT er86_9 fr86_9 => ?_)
  refine ezw_aload_n rfl rfl ?_
  refine ezm_gp (p := 86) rfl (fun _ => rfl) ?_
  refine ezw_iconst (2) rfl rfl ?_
  refine ezw_iload rfl rfl ?_
  refine ezw_iconst (3) rfl rfl ?_
  refine ezw_icmp_ne rfl rfl hu5 ⟨by decide, by decide⟩ (fun h42_9 => ?_) (fun h42_9 => ?_)
  · refine ezw_iload rfl rfl ?_
    refine ezm_s86 hT rfl (by omega) (by omega) hu5 (fun r86_10 hT er86_10 fr86_10 => ?_)
    refine ezw_aload_n rfl rfl ?_
    refine ezm_gp (p := 86) rfl (fun _ => rfl) ?_
    refine ezw_iconst (3) rfl rfl ?_
    refine ezw_iload rfl rfl ?_
    refine ezm_s86 hT rfl (by omega) (by omega) ha5 (fun r86_11 hT er86_11 fr86_11 => ?_)
    refine ezw_iload_n rfl rfl ?_
    refine ezw_if_ne rfl rfl ⟨by decide, by decide⟩ (fun h61_11 => absurd h61_11 (by omega)) (fun h61_11 => ?_)
    refine ezw_aload_n rfl rfl ?_
    refine ezm_gp (p := 86) rfl (fun _ => rfl) ?_
    refine ezw_iconst (2) rfl rfl ?_
    refine ezm_l86 rfl (by omega) (by omega) (fun u12 eu12 => ?_)
    have ku12 : ezw_in u12 := eu12 ▸ hT.t86 (2)
    have J106_14 : ∀ y13 : Int, ezw_in y13 → ezw_E l ρ B xa Hb D cA d ezq_re269 (ezm_m269_v0Q  e F A i0 i2 i3 i7 i8 i13 i18 i19 i20 i25 i29 i30 i31 i36 i37 i38 r73 r74 r75 r76 r77 r78 r79 r80 r81 r82 r83 r84 r85 r86 r87 r88 r89 r90 r91 r92 r93 r94 r95 a2 a3 a4 a5) 106 [some (ezw_p 72), some (ezw_i (0)), some (ezw_i a2), some (ezw_i a3), some (ezw_i a4), some (ezw_i a5), some (ezw_i u5), none] [ezw_i y13] (ezm_h e F A i0 i2 i3 i7 i8 i13 i18 i19 i20 i25 i29 i30 i31 i36 i37 i38 r73 r74 r75 r76 r77 r78 r79 r80 r81 r82 r83 r84 r85 r86_11 r87 r88 r89 r90 r91 r92 r93 r94 r95) := by
      intro y13 hy13
      refine ezw_istore rfl rfl ?_
      refine ezw_aload_n rfl rfl ?_
      refine ezm_gp (p := 78) rfl (fun _ => rfl) ?_
      refine ezw_bipush (15) rfl rfl ?_
      refine ezw_iload_n rfl rfl ?_
      refine ezw_iadd (k := (15)) rfl (by omega) ?_
      refine ezm_l78 rfl (by omega) (by omega) (fun u15 eu15 => ?_)
      have ku15 : ezm_k78 (15) u15 := eu15 ▸ hT.t78 (15)
      have zu15 := ezm_za15 ku15 (by omega)
      have J138_17 : ∀ y16 : Int, ezw_in y16 → ∀ x87_17 : Int → Int, ezm_T i0 i2 i3 i7 i8 i13 i18 i19 i20 i25 i29 i30 i31 i36 i37 i38 r73 r74 r75 r76 r77 r78 r79 r80 r81 r82 r83 r84 r85 r86_11 x87_17 r88 r89 r90 r91 r92 r93 r94 r95 → ezw_E l ρ B xa Hb D cA d ezq_re269 (ezm_m269_v0Q  e F A i0 i2 i3 i7 i8 i13 i18 i19 i20 i25 i29 i30 i31 i36 i37 i38 r73 r74 r75 r76 r77 r78 r79 r80 r81 r82 r83 r84 r85 r86 r87 r88 r89 r90 r91 r92 r93 r94 r95 a2 a3 a4 a5) 138 [some (ezw_p 72), some (ezw_i (0)), some (ezw_i a2), some (ezw_i a3), some (ezw_i a4), some (ezw_i a5), some (ezw_i u5), some (ezw_i y13)] [ezw_i y16] (ezm_h e F A i0 i2 i3 i7 i8 i13 i18 i19 i20 i25 i29 i30 i31 i36 i37 i38 r73 r74 r75 r76 r77 r78 r79 r80 r81 r82 r83 r84 r85 r86_11 x87_17 r88 r89 r90 r91 r92 r93 r94 r95) := by
        intro y16 hy16 x87_17 hT
        refine ezw_istore rfl rfl ?_
        refine ezw_iload rfl rfl ?_
        refine ezw_if_ge rfl rfl hy16 (fun h142_17 => ?_) (fun h142_17 => ?_)
        · refine ezw_iload rfl rfl ?_
          refine ezw_bipush (10) rfl rfl ?_
          refine ezw_icmp_le rfl rfl hy16 ⟨by decide, by decide⟩ (fun h153_17 => ?_) (fun h153_17 => ?_)
          · refine ezw_iload rfl rfl ?_
            exact ezw_ireturn rfl rfl ⟨r86_11, x87_17, rfl, hT, y16, hy16, by omega, rfl⟩
          · refine ezw_bipush (10) rfl rfl ?_
            refine ezw_goto rfl rfl ?_
            exact ezw_ireturn rfl rfl ⟨r86_11, x87_17, rfl, hT, (10), ⟨by decide, by decide⟩, by omega, rfl⟩
        · refine ezw_iconst (0) rfl rfl ?_
          refine ezw_goto rfl rfl ?_
          exact ezw_ireturn rfl rfl ⟨r86_11, x87_17, rfl, hT, (0), ⟨by decide, by decide⟩, by omega, rfl⟩
      refine ezw_if_ge rfl rfl (ezm_in78 ku15) (fun h117_15 => ?_) (fun h117_15 => ?_)
      · refine ezw_aload_n rfl rfl ?_
        refine ezw_aload_n rfl rfl ?_
        refine ezm_gp (p := 78) rfl (fun _ => rfl) ?_
        refine ezw_bipush (15) rfl rfl ?_
        refine ezw_iload_n rfl rfl ?_
        refine ezw_iadd (k := (15)) rfl (by omega) ?_
        refine ezm_l78 rfl (by omega) (by omega) (fun u18 eu18 => ?_)
        have fu18 : u15 = u18 := eu15.trans eu18.symm
        subst fu18
        have hco := ezm_TR_co tr eu15 (by omega) (by omega) (by omega)
        refine ezw_call0_1 rfl (by omega) (ezm_at rfl) rfl rfl rfl rfl (ezm_m270 hT (by omega) (ezm_in78 ku15) (by omega) hco) ?_
        rintro _ _ ⟨x87_19, rfl, hT, u20, hu20, rfl⟩
        exact ezw_keepE [true, true, true, true, true, true, true, true] (J138_17 u20 hu20 x87_19 hT)
      · refine ezw_iload rfl rfl ?_
        refine ezw_goto rfl rfl ?_
        exact ezw_keepE [true, true, true, true, true, true, true, true] (J138_17 y13 hy13 r87 hT)
    refine ezw_if_ne rfl rfl ku12 (fun h70_12 => ?_) (fun h70_12 => ?_)
    · refine ezw_aload_n rfl rfl ?_
      refine ezm_gp (p := 86) rfl (fun _ => rfl) ?_
      refine ezw_iconst (2) rfl rfl ?_
      refine ezm_l86 rfl (by omega) (by omega) (fun u21 eu21 => ?_)
      have fu21 : u12 = u21 := eu12.trans eu21.symm
      subst fu21
      refine ezw_iconst (1) rfl rfl ?_
      refine ezw_icmp_ne rfl rfl ku12 ⟨by decide, by decide⟩ (fun h87_21 => ?_) (fun h87_21 => ?_)
      · refine ezw_iconst (0) rfl rfl ?_
        refine ezw_goto rfl rfl ?_
        exact ezw_keepE [true, true, true, true, true, true, true, false] (J106_14 (0) ⟨by decide, by decide⟩)
      · refine ezw_iconst (3) rfl rfl ?_
        refine ezw_iload_n rfl rfl ?_
        refine ezs_isub rfl (fun u22 hu22 => ?_)
        refine ezw_goto rfl rfl ?_
        exact ezw_keepE [true, true, true, true, true, true, true, false] (J106_14 u22 hu22)
    · refine ezw_bipush (10) rfl rfl ?_
      refine ezw_iload_n rfl rfl ?_
      refine ezs_isub rfl (fun u23 hu23 => ?_)
      refine ezw_goto rfl rfl ?_
      exact ezw_keepE [true, true, true, true, true, true, true, false] (J106_14 u23 hu23)
  · refine ezw_iconst (1) rfl rfl ?_
    refine ezw_goto rfl rfl ?_
    refine ezm_s86 hT rfl (by omega) (by omega) ⟨by decide, by decide⟩ (fun r86_24 hT er86_24 fr86_24 => ?_)
    refine ezw_aload_n rfl rfl ?_
    refine ezm_gp (p := 86) rfl (fun _ => rfl) ?_
    refine ezw_iconst (3) rfl rfl ?_
    refine ezw_iload rfl rfl ?_
    refine ezm_s86 hT rfl (by omega) (by omega) ha5 (fun r86_25 hT er86_25 fr86_25 => ?_)
    refine ezw_iload_n rfl rfl ?_
    refine ezw_if_ne rfl rfl ⟨by decide, by decide⟩ (fun h61_25 => absurd h61_25 (by omega)) (fun h61_25 => ?_)
    refine ezw_aload_n rfl rfl ?_
    refine ezm_gp (p := 86) rfl (fun _ => rfl) ?_
    refine ezw_iconst (2) rfl rfl ?_
    refine ezm_l86 rfl (by omega) (by omega) (fun u26 eu26 => ?_)
    have ku26 : ezw_in u26 := eu26 ▸ hT.t86 (2)
    have J106_28 : ∀ y27 : Int, ezw_in y27 → ezw_E l ρ B xa Hb D cA d ezq_re269 (ezm_m269_v0Q  e F A i0 i2 i3 i7 i8 i13 i18 i19 i20 i25 i29 i30 i31 i36 i37 i38 r73 r74 r75 r76 r77 r78 r79 r80 r81 r82 r83 r84 r85 r86 r87 r88 r89 r90 r91 r92 r93 r94 r95 a2 a3 a4 a5) 106 [some (ezw_p 72), some (ezw_i (0)), some (ezw_i a2), some (ezw_i a3), some (ezw_i a4), some (ezw_i a5), some (ezw_i u5), none] [ezw_i y27] (ezm_h e F A i0 i2 i3 i7 i8 i13 i18 i19 i20 i25 i29 i30 i31 i36 i37 i38 r73 r74 r75 r76 r77 r78 r79 r80 r81 r82 r83 r84 r85 r86_25 r87 r88 r89 r90 r91 r92 r93 r94 r95) := by
      intro y27 hy27
      refine ezw_istore rfl rfl ?_
      refine ezw_aload_n rfl rfl ?_
      refine ezm_gp (p := 78) rfl (fun _ => rfl) ?_
      refine ezw_bipush (15) rfl rfl ?_
      refine ezw_iload_n rfl rfl ?_
      refine ezw_iadd (k := (15)) rfl (by omega) ?_
      refine ezm_l78 rfl (by omega) (by omega) (fun u29 eu29 => ?_)
      have ku29 : ezm_k78 (15) u29 := eu29 ▸ hT.t78 (15)
      have zu29 := ezm_za15 ku29 (by omega)
      have J138_31 : ∀ y30 : Int, ezw_in y30 → ∀ x87_31 : Int → Int, ezm_T i0 i2 i3 i7 i8 i13 i18 i19 i20 i25 i29 i30 i31 i36 i37 i38 r73 r74 r75 r76 r77 r78 r79 r80 r81 r82 r83 r84 r85 r86_25 x87_31 r88 r89 r90 r91 r92 r93 r94 r95 → ezw_E l ρ B xa Hb D cA d ezq_re269 (ezm_m269_v0Q  e F A i0 i2 i3 i7 i8 i13 i18 i19 i20 i25 i29 i30 i31 i36 i37 i38 r73 r74 r75 r76 r77 r78 r79 r80 r81 r82 r83 r84 r85 r86 r87 r88 r89 r90 r91 r92 r93 r94 r95 a2 a3 a4 a5) 138 [some (ezw_p 72), some (ezw_i (0)), some (ezw_i a2), some (ezw_i a3), some (ezw_i a4), some (ezw_i a5), some (ezw_i u5), some (ezw_i y27)] [ezw_i y30] (ezm_h e F A i0 i2 i3 i7 i8 i13 i18 i19 i20 i25 i29 i30 i31 i36 i37 i38 r73 r74 r75 r76 r77 r78 r79 r80 r81 r82 r83 r84 r85 r86_25 x87_31 r88 r89 r90 r91 r92 r93 r94 r95) := by
        intro y30 hy30 x87_31 hT
        refine ezw_istore rfl rfl ?_
        refine ezw_iload rfl rfl ?_
        refine ezw_if_ge rfl rfl hy30 (fun h142_31 => ?_) (fun h142_31 => ?_)
        · refine ezw_iload rfl rfl ?_
          refine ezw_bipush (10) rfl rfl ?_
          refine ezw_icmp_le rfl rfl hy30 ⟨by decide, by decide⟩ (fun h153_31 => ?_) (fun h153_31 => ?_)
          · refine ezw_iload rfl rfl ?_
            exact ezw_ireturn rfl rfl ⟨r86_25, x87_31, rfl, hT, y30, hy30, by omega, rfl⟩
          · refine ezw_bipush (10) rfl rfl ?_
            refine ezw_goto rfl rfl ?_
            exact ezw_ireturn rfl rfl ⟨r86_25, x87_31, rfl, hT, (10), ⟨by decide, by decide⟩, by omega, rfl⟩
        · refine ezw_iconst (0) rfl rfl ?_
          refine ezw_goto rfl rfl ?_
          exact ezw_ireturn rfl rfl ⟨r86_25, x87_31, rfl, hT, (0), ⟨by decide, by decide⟩, by omega, rfl⟩
      refine ezw_if_ge rfl rfl (ezm_in78 ku29) (fun h117_29 => ?_) (fun h117_29 => ?_)
      · refine ezw_aload_n rfl rfl ?_
        refine ezw_aload_n rfl rfl ?_
        refine ezm_gp (p := 78) rfl (fun _ => rfl) ?_
        refine ezw_bipush (15) rfl rfl ?_
        refine ezw_iload_n rfl rfl ?_
        refine ezw_iadd (k := (15)) rfl (by omega) ?_
        refine ezm_l78 rfl (by omega) (by omega) (fun u32 eu32 => ?_)
        have fu32 : u29 = u32 := eu29.trans eu32.symm
        subst fu32
        have hco := ezm_TR_co tr eu29 (by omega) (by omega) (by omega)
        refine ezw_call0_1 rfl (by omega) (ezm_at rfl) rfl rfl rfl rfl (ezm_m270 hT (by omega) (ezm_in78 ku29) (by omega) hco) ?_
        rintro _ _ ⟨x87_33, rfl, hT, u34, hu34, rfl⟩
        exact ezw_keepE [true, true, true, true, true, true, true, true] (J138_31 u34 hu34 x87_33 hT)
      · refine ezw_iload rfl rfl ?_
        refine ezw_goto rfl rfl ?_
        exact ezw_keepE [true, true, true, true, true, true, true, true] (J138_31 y27 hy27 r87 hT)
    refine ezw_if_ne rfl rfl ku26 (fun h70_26 => ?_) (fun h70_26 => ?_)
    · refine ezw_aload_n rfl rfl ?_
      refine ezm_gp (p := 86) rfl (fun _ => rfl) ?_
      refine ezw_iconst (2) rfl rfl ?_
      refine ezm_l86 rfl (by omega) (by omega) (fun u35 eu35 => ?_)
      have fu35 : u26 = u35 := eu26.trans eu35.symm
      subst fu35
      refine ezw_iconst (1) rfl rfl ?_
      refine ezw_icmp_ne rfl rfl ku26 ⟨by decide, by decide⟩ (fun h87_35 => ?_) (fun h87_35 => ?_)
      · refine ezw_iconst (0) rfl rfl ?_
        refine ezw_goto rfl rfl ?_
        exact ezw_keepE [true, true, true, true, true, true, true, false] (J106_28 (0) ⟨by decide, by decide⟩)
      · refine ezw_iconst (3) rfl rfl ?_
        refine ezw_iload_n rfl rfl ?_
        refine ezs_isub rfl (fun u36 hu36 => ?_)
        refine ezw_goto rfl rfl ?_
        exact ezw_keepE [true, true, true, true, true, true, true, false] (J106_28 u36 hu36)
    · refine ezw_bipush (10) rfl rfl ?_
      refine ezw_iload_n rfl rfl ?_
      refine ezs_isub rfl (fun u37 hu37 => ?_)
      refine ezw_goto rfl rfl ?_
      exact ezw_keepE [true, true, true, true, true, true, true, false] (J106_28 u37 hu37)
def ezm_m269_v1Q (e : Bool × Bool) (F : Nat → Nat → Int) (A : Nat → Int → Int) (i0 i2 i3 i7 i8 i13 i18 i19 i20 i25 i29 i30 i31 i36 i37 i38 : Int) (r73 r74 r75 r76 r77 r78 r79 r80 r81 r82 r83 r84 r85 r86 r87 r88 r89 r90 r91 r92 r93 r94 r95 : Int → Int) (a2 : Int) (a3 : Int) (a4 : Int) (a5 : Int) : Option ezq_V → (Nat → ezq_C) → Prop := fun v g' => ∃  (x86 x87 : Int → Int), ezm_h e F A i0 i2 i3 i7 i8 i13 i18 i19 i20 i25 i29 i30 i31 i36 i37 i38 r73 r74 r75 r76 r77 r78 r79 r80 r81 r82 r83 r84 r85 x86 x87 r88 r89 r90 r91 r92 r93 r94 r95 = g' ∧ ezm_T i0 i2 i3 i7 i8 i13 i18 i19 i20 i25 i29 i30 i31 i36 i37 i38 r73 r74 r75 r76 r77 r78 r79 r80 r81 r82 r83 r84 r85 x86 x87 r88 r89 r90 r91 r92 r93 r94 r95 ∧ ∃ u : Int, (ezw_in u) ∧ (0 ≤ u ∧ u ≤ 10) ∧ some (ezw_i u) = v
theorem ezm_m269_v1 {a2 a3 a4 a5 : Int} (hT : ezm_T i0 i2 i3 i7 i8 i13 i18 i19 i20 i25 i29 i30 i31 i36 i37 i38 r73 r74 r75 r76 r77 r78 r79 r80 r81 r82 r83 r84 r85 r86 r87 r88 r89 r90 r91 r92 r93 r94 r95) (hd : 2 ≤ d) (ha2 : ezw_in a2) (ha3 : ezw_in a3) (ha4 : ezw_in a4) (ha5 : ezw_in a5) (gt : 0 ≤ a2 ∧ a2 ≤ 7) (tr : ezm_TR r78 r79 r80) : ezw_C l ρ B xa Hb D cA 269 d [ezw_p 72, ezw_i (1), ezw_i a2, ezw_i a3, ezw_i a4, ezw_i a5] (ezm_h e F A i0 i2 i3 i7 i8 i13 i18 i19 i20 i25 i29 i30 i31 i36 i37 i38 r73 r74 r75 r76 r77 r78 r79 r80 r81 r82 r83 r84 r85 r86 r87 r88 r89 r90 r91 r92 r93 r94 r95) (ezm_m269_v1Q  e F A i0 i2 i3 i7 i8 i13 i18 i19 i20 i25 i29 i30 i31 i36 i37 i38 r73 r74 r75 r76 r77 r78 r79 r80 r81 r82 r83 r84 r85 r86 r87 r88 r89 r90 r91 r92 r93 r94 r95 a2 a3 a4 a5) := by
  refine ezw_met (k := 2) rfl rfl ?_
  refine ezw_iload rfl rfl ?_
  refine ezw_aload_n rfl rfl ?_
  refine ezw_iload_n rfl rfl ?_
  refine ezw_iconst (2) rfl rfl ?_
  refine ezw_call0_2 rfl (by omega) (ezm_at rfl) rfl rfl rfl rfl (ezm_m259_v2 hT (by omega) ha2 (by omega)) ?_
  rintro _ _ ⟨rfl, u2, hu2, tw_1, rfl⟩
  refine ezs_isub rfl (fun u3 hu3 => ?_)
  refine ezw_iconst (4) rfl rfl ?_
  refine ezs_iadd rfl (fun u4 hu4 => ?_)
  refine ezw_iconst (4) rfl rfl ?_
  refine ezm_irem rfl hu4 ⟨by decide, by decide⟩ (by decide) (fun u5 hu5 ku5 => ?_)
  refine ezw_istore rfl rfl ?_
  refine ezw_aload_n rfl rfl ?_
  refine ezm_gp (p := 86) rfl (fun _ => rfl) ?_
  refine ezw_iconst (0) rfl rfl ?_
  refine ezw_iload_n rfl rfl ?_
  refine ezm_s86 hT rfl (by omega) (by omega) ha3 (fun r86_6 hT er86_6 fr86_6 => ?_)
  refine ezw_aload_n rfl rfl ?_
  refine ezm_gp (p := 86) rfl (fun _ => rfl) ?_
  refine ezw_iconst (1) rfl rfl ?_
  refine ezw_aload_n rfl rfl ?_
  refine ezw_iload_n rfl rfl ?_
  refine ezw_iconst (1) rfl rfl ?_
  refine ezw_call0_2 rfl (by omega) (ezm_at rfl) rfl rfl rfl rfl (ezm_m259_v1 hT (by omega) ha2 (by omega)) ?_
  rintro _ _ ⟨rfl, u8, hu8, tw_7, rfl⟩
  refine ezm_s86 hT rfl (by omega) (by omega) hu8 (fun r86_9 hT er86_9 fr86_9 => ?_)
  refine ezw_aload_n rfl rfl ?_
  refine ezm_gp (p := 86) rfl (fun _ => rfl) ?_
  refine ezw_iconst (2) rfl rfl ?_
  refine ezw_iload rfl rfl ?_
  refine ezw_iconst (3) rfl rfl ?_
  refine ezw_icmp_ne rfl rfl hu5 ⟨by decide, by decide⟩ (fun h42_9 => ?_) (fun h42_9 => ?_)
  · refine ezw_iload rfl rfl ?_
    refine ezm_s86 hT rfl (by omega) (by omega) hu5 (fun r86_10 hT er86_10 fr86_10 => ?_)
    refine ezw_aload_n rfl rfl ?_
    refine ezm_gp (p := 86) rfl (fun _ => rfl) ?_
    refine ezw_iconst (3) rfl rfl ?_
    refine ezw_iload rfl rfl ?_
    refine ezm_s86 hT rfl (by omega) (by omega) ha5 (fun r86_11 hT er86_11 fr86_11 => ?_)
    refine ezw_iload_n rfl rfl ?_
    refine ezw_if_ne rfl rfl ⟨by decide, by decide⟩ (fun h61_11 => ?_) (fun h61_11 => absurd h61_11 (by omega))
    refine ezw_iload_n rfl rfl ?_
    refine ezw_iconst (2) rfl rfl ?_
    refine ezw_iload rfl rfl ?_
    refine ezs_imul rfl (fun u12 hu12 => ?_)
    refine ezs_iadd rfl (fun u13 hu13 => ?_)
    refine ezw_istore rfl rfl ?_
    refine ezw_aload_n rfl rfl ?_
    refine ezm_gp (p := 78) rfl (fun _ => rfl) ?_
    refine ezw_bipush (15) rfl rfl ?_
    refine ezw_iload_n rfl rfl ?_
    refine ezw_iadd (k := (16)) rfl (by omega) ?_
    refine ezm_l78 rfl (by omega) (by omega) (fun u14 eu14 => ?_)
    have ku14 : ezm_k78 (16) u14 := eu14 ▸ hT.t78 (16)
    have zu14 := ezm_za15 ku14 (by omega)
    have J138_16 : ∀ y15 : Int, ezw_in y15 → ∀ x87_16 : Int → Int, ezm_T i0 i2 i3 i7 i8 i13 i18 i19 i20 i25 i29 i30 i31 i36 i37 i38 r73 r74 r75 r76 r77 r78 r79 r80 r81 r82 r83 r84 r85 r86_11 x87_16 r88 r89 r90 r91 r92 r93 r94 r95 → ezw_E l ρ B xa Hb D cA d ezq_re269 (ezm_m269_v1Q  e F A i0 i2 i3 i7 i8 i13 i18 i19 i20 i25 i29 i30 i31 i36 i37 i38 r73 r74 r75 r76 r77 r78 r79 r80 r81 r82 r83 r84 r85 r86 r87 r88 r89 r90 r91 r92 r93 r94 r95 a2 a3 a4 a5) 138 [some (ezw_p 72), some (ezw_i (1)), some (ezw_i a2), some (ezw_i a3), some (ezw_i a4), some (ezw_i a5), some (ezw_i u5), some (ezw_i u13)] [ezw_i y15] (ezm_h e F A i0 i2 i3 i7 i8 i13 i18 i19 i20 i25 i29 i30 i31 i36 i37 i38 r73 r74 r75 r76 r77 r78 r79 r80 r81 r82 r83 r84 r85 r86_11 x87_16 r88 r89 r90 r91 r92 r93 r94 r95) := by
      intro y15 hy15 x87_16 hT
      refine ezw_istore rfl rfl ?_
      refine ezw_iload rfl rfl ?_
      refine ezw_if_ge rfl rfl hy15 (fun h142_16 => ?_) (fun h142_16 => ?_)
      · refine ezw_iload rfl rfl ?_
        refine ezw_bipush (10) rfl rfl ?_
        refine ezw_icmp_le rfl rfl hy15 ⟨by decide, by decide⟩ (fun h153_16 => ?_) (fun h153_16 => ?_)
        · refine ezw_iload rfl rfl ?_
          exact ezw_ireturn rfl rfl ⟨r86_11, x87_16, rfl, hT, y15, hy15, by omega, rfl⟩
        · refine ezw_bipush (10) rfl rfl ?_
          refine ezw_goto rfl rfl ?_
          exact ezw_ireturn rfl rfl ⟨r86_11, x87_16, rfl, hT, (10), ⟨by decide, by decide⟩, by omega, rfl⟩
      · refine ezw_iconst (0) rfl rfl ?_
        refine ezw_goto rfl rfl ?_
        exact ezw_ireturn rfl rfl ⟨r86_11, x87_16, rfl, hT, (0), ⟨by decide, by decide⟩, by omega, rfl⟩
    refine ezw_if_ge rfl rfl (ezm_in78 ku14) (fun h117_14 => ?_) (fun h117_14 => ?_)
    · refine ezw_aload_n rfl rfl ?_
      refine ezw_aload_n rfl rfl ?_
      refine ezm_gp (p := 78) rfl (fun _ => rfl) ?_
      refine ezw_bipush (15) rfl rfl ?_
      refine ezw_iload_n rfl rfl ?_
      refine ezw_iadd (k := (16)) rfl (by omega) ?_
      refine ezm_l78 rfl (by omega) (by omega) (fun u17 eu17 => ?_)
      have fu17 : u14 = u17 := eu14.trans eu17.symm
      subst fu17
      have hco := ezm_TR_co tr eu14 (by omega) (by omega) (by omega)
      refine ezw_call0_1 rfl (by omega) (ezm_at rfl) rfl rfl rfl rfl (ezm_m270 hT (by omega) (ezm_in78 ku14) (by omega) hco) ?_
      rintro _ _ ⟨x87_18, rfl, hT, u19, hu19, rfl⟩
      exact ezw_keepE [true, true, true, true, true, true, true, true] (J138_16 u19 hu19 x87_18 hT)
    · refine ezw_iload rfl rfl ?_
      refine ezw_goto rfl rfl ?_
      exact ezw_keepE [true, true, true, true, true, true, true, true] (J138_16 u13 hu13 r87 hT)
  · refine ezw_iconst (1) rfl rfl ?_
    refine ezw_goto rfl rfl ?_
    refine ezm_s86 hT rfl (by omega) (by omega) ⟨by decide, by decide⟩ (fun r86_20 hT er86_20 fr86_20 => ?_)
    refine ezw_aload_n rfl rfl ?_
    refine ezm_gp (p := 86) rfl (fun _ => rfl) ?_
    refine ezw_iconst (3) rfl rfl ?_
    refine ezw_iload rfl rfl ?_
    refine ezm_s86 hT rfl (by omega) (by omega) ha5 (fun r86_21 hT er86_21 fr86_21 => ?_)
    refine ezw_iload_n rfl rfl ?_
    refine ezw_if_ne rfl rfl ⟨by decide, by decide⟩ (fun h61_21 => ?_) (fun h61_21 => absurd h61_21 (by omega))
    refine ezw_iload_n rfl rfl ?_
    refine ezw_iconst (2) rfl rfl ?_
    refine ezw_iload rfl rfl ?_
    refine ezs_imul rfl (fun u22 hu22 => ?_)
    refine ezs_iadd rfl (fun u23 hu23 => ?_)
    refine ezw_istore rfl rfl ?_
    refine ezw_aload_n rfl rfl ?_
    refine ezm_gp (p := 78) rfl (fun _ => rfl) ?_
    refine ezw_bipush (15) rfl rfl ?_
    refine ezw_iload_n rfl rfl ?_
    refine ezw_iadd (k := (16)) rfl (by omega) ?_
    refine ezm_l78 rfl (by omega) (by omega) (fun u24 eu24 => ?_)
    have ku24 : ezm_k78 (16) u24 := eu24 ▸ hT.t78 (16)
    have zu24 := ezm_za15 ku24 (by omega)
    have J138_26 : ∀ y25 : Int, ezw_in y25 → ∀ x87_26 : Int → Int, ezm_T i0 i2 i3 i7 i8 i13 i18 i19 i20 i25 i29 i30 i31 i36 i37 i38 r73 r74 r75 r76 r77 r78 r79 r80 r81 r82 r83 r84 r85 r86_21 x87_26 r88 r89 r90 r91 r92 r93 r94 r95 → ezw_E l ρ B xa Hb D cA d ezq_re269 (ezm_m269_v1Q  e F A i0 i2 i3 i7 i8 i13 i18 i19 i20 i25 i29 i30 i31 i36 i37 i38 r73 r74 r75 r76 r77 r78 r79 r80 r81 r82 r83 r84 r85 r86 r87 r88 r89 r90 r91 r92 r93 r94 r95 a2 a3 a4 a5) 138 [some (ezw_p 72), some (ezw_i (1)), some (ezw_i a2), some (ezw_i a3), some (ezw_i a4), some (ezw_i a5), some (ezw_i u5), some (ezw_i u23)] [ezw_i y25] (ezm_h e F A i0 i2 i3 i7 i8 i13 i18 i19 i20 i25 i29 i30 i31 i36 i37 i38 r73 r74 r75 r76 r77 r78 r79 r80 r81 r82 r83 r84 r85 r86_21 x87_26 r88 r89 r90 r91 r92 r93 r94 r95) := by
      intro y25 hy25 x87_26 hT
      refine ezw_istore rfl rfl ?_
      refine ezw_iload rfl rfl ?_
      refine ezw_if_ge rfl rfl hy25 (fun h142_26 => ?_) (fun h142_26 => ?_)
      · refine ezw_iload rfl rfl ?_
        refine ezw_bipush (10) rfl rfl ?_
        refine ezw_icmp_le rfl rfl hy25 ⟨by decide, by decide⟩ (fun h153_26 => ?_) (fun h153_26 => ?_)
        · refine ezw_iload rfl rfl ?_
          exact ezw_ireturn rfl rfl ⟨r86_21, x87_26, rfl, hT, y25, hy25, by omega, rfl⟩
        · refine ezw_bipush (10) rfl rfl ?_
          refine ezw_goto rfl rfl ?_
          exact ezw_ireturn rfl rfl ⟨r86_21, x87_26, rfl, hT, (10), ⟨by decide, by decide⟩, by omega, rfl⟩
      · refine ezw_iconst (0) rfl rfl ?_
        refine ezw_goto rfl rfl ?_
        exact ezw_ireturn rfl rfl ⟨r86_21, x87_26, rfl, hT, (0), ⟨by decide, by decide⟩, by omega, rfl⟩
    refine ezw_if_ge rfl rfl (ezm_in78 ku24) (fun h117_24 => ?_) (fun h117_24 => ?_)
    · refine ezw_aload_n rfl rfl ?_
      refine ezw_aload_n rfl rfl ?_
      refine ezm_gp (p := 78) rfl (fun _ => rfl) ?_
      refine ezw_bipush (15) rfl rfl ?_
      refine ezw_iload_n rfl rfl ?_
      refine ezw_iadd (k := (16)) rfl (by omega) ?_
      refine ezm_l78 rfl (by omega) (by omega) (fun u27 eu27 => ?_)
      have fu27 : u24 = u27 := eu24.trans eu27.symm
      subst fu27
      have hco := ezm_TR_co tr eu24 (by omega) (by omega) (by omega)
      refine ezw_call0_1 rfl (by omega) (ezm_at rfl) rfl rfl rfl rfl (ezm_m270 hT (by omega) (ezm_in78 ku24) (by omega) hco) ?_
      rintro _ _ ⟨x87_28, rfl, hT, u29, hu29, rfl⟩
      exact ezw_keepE [true, true, true, true, true, true, true, true] (J138_26 u29 hu29 x87_28 hT)
    · refine ezw_iload rfl rfl ?_
      refine ezw_goto rfl rfl ?_
      exact ezw_keepE [true, true, true, true, true, true, true, true] (J138_26 u23 hu23 r87 hT)
def ezm_m267_v1050_v0Q (e : Bool × Bool) (F : Nat → Nat → Int) (A : Nat → Int → Int) (i0 i2 i3 i7 i8 i13 i18 i19 i20 i25 i29 i30 i31 i36 i37 i38 : Int) (r73 r74 r75 r76 r77 r78 r79 r80 r81 r82 r83 r84 r85 r86 r87 r88 r89 r90 r91 r92 r93 r94 r95 : Int → Int) (a3 : Int) (a4 : Int) : Option ezq_V → (Nat → ezq_C) → Prop := fun v g' => ∃  (x86 x87 : Int → Int), ezm_h e F A i0 i2 i3 i7 i8 i13 i18 i19 i20 i25 i29 i30 i31 i36 i37 i38 r73 r74 r75 r76 r77 r78 r79 r80 r81 r82 r83 r84 r85 x86 x87 r88 r89 r90 r91 r92 r93 r94 r95 = g' ∧ ezm_T i0 i2 i3 i7 i8 i13 i18 i19 i20 i25 i29 i30 i31 i36 i37 i38 r73 r74 r75 r76 r77 r78 r79 r80 r81 r82 r83 r84 r85 x86 x87 r88 r89 r90 r91 r92 r93 r94 r95 ∧ ∃ u : Int, (ezw_in u) ∧ (0 ≤ u ∧ u ≤ 10) ∧ some (ezw_i u) = v
theorem ezm_m267_v1050_v0 {a3 a4 : Int} (hT : ezm_T i0 i2 i3 i7 i8 i13 i18 i19 i20 i25 i29 i30 i31 i36 i37 i38 r73 r74 r75 r76 r77 r78 r79 r80 r81 r82 r83 r84 r85 r86 r87 r88 r89 r90 r91 r92 r93 r94 r95) (hd : 3 ≤ d) (ha3 : ezw_in a3) (ha4 : ezw_in a4) (tr : ezm_TR r78 r79 r80) : ezw_C l ρ B xa Hb D cA 267 d [ezw_p 72, ezw_i (1050), ezw_i (0), ezw_i a3, ezw_i a4] (ezm_h e F A i0 i2 i3 i7 i8 i13 i18 i19 i20 i25 i29 i30 i31 i36 i37 i38 r73 r74 r75 r76 r77 r78 r79 r80 r81 r82 r83 r84 r85 r86 r87 r88 r89 r90 r91 r92 r93 r94 r95) (ezm_m267_v1050_v0Q  e F A i0 i2 i3 i7 i8 i13 i18 i19 i20 i25 i29 i30 i31 i36 i37 i38 r73 r74 r75 r76 r77 r78 r79 r80 r81 r82 r83 r84 r85 r86 r87 r88 r89 r90 r91 r92 r93 r94 r95 a3 a4) := by
  refine ezw_met (k := 0) rfl rfl ?_
  refine ezw_aload_n rfl rfl ?_
  refine ezw_iload_n rfl rfl ?_
  refine ezw_aload_n rfl rfl ?_
  refine ezw_iload_n rfl rfl ?_
  refine ezw_call0_1 rfl (by omega) (ezm_at rfl) rfl rfl rfl rfl (ezm_m268_v1050 hT (by omega)) ?_
  rintro _ _ ⟨rfl, u2, hu2, p1_0, la_1, rfl⟩
  refine ezw_aload_n rfl rfl ?_
  refine ezm_gp (p := 88) rfl (fun _ => rfl) ?_
  refine ezw_iload_n rfl rfl ?_
  refine ezw_bipush (7) rfl rfl ?_
  refine ezw_iadd (k := (1057)) rfl (by omega) ?_
  refine ezw_aload_n rfl rfl ?_
  refine ezw_iload_n rfl rfl ?_
  refine ezw_call0_1 rfl (by omega) (ezm_at rfl) rfl rfl rfl rfl (ezm_m268_v1050 hT (by omega)) ?_
  rintro _ _ ⟨rfl, u4, hu4, p3_0, la_3, rfl⟩
  refine ezw_iadd (k := u4 + 1057) rfl (by omega) ?_
  refine ezm_l88 rfl (by omega) (by omega) (fun u5 eu5 => ?_)
  have ku5 : ezm_k88 (u4 + 1057) u5 := eu5 ▸ hT.t88 (u4 + 1057)
  have zu5 := ezm_zs7 ku5 (by omega)
  refine ezw_iload_n rfl rfl ?_
  refine ezw_iload rfl rfl ?_
  refine ezw_call0_5 rfl (by omega) (ezm_at rfl) rfl rfl rfl rfl (ezm_m269_v0 hT (by omega) hu2 (ezm_in88 ku5) ha3 ha4 (by omega) tr) ?_
  rintro _ _ ⟨x86_6, x87_6, rfl, hT, u7, hu7, p6_0, rfl⟩
  exact ezw_ireturn rfl rfl ⟨x86_6, x87_6, rfl, hT, u7, hu7, by omega, rfl⟩
def ezm_m267_v1050_v1Q (e : Bool × Bool) (F : Nat → Nat → Int) (A : Nat → Int → Int) (i0 i2 i3 i7 i8 i13 i18 i19 i20 i25 i29 i30 i31 i36 i37 i38 : Int) (r73 r74 r75 r76 r77 r78 r79 r80 r81 r82 r83 r84 r85 r86 r87 r88 r89 r90 r91 r92 r93 r94 r95 : Int → Int) (a3 : Int) (a4 : Int) : Option ezq_V → (Nat → ezq_C) → Prop := fun v g' => ∃  (x86 x87 : Int → Int), ezm_h e F A i0 i2 i3 i7 i8 i13 i18 i19 i20 i25 i29 i30 i31 i36 i37 i38 r73 r74 r75 r76 r77 r78 r79 r80 r81 r82 r83 r84 r85 x86 x87 r88 r89 r90 r91 r92 r93 r94 r95 = g' ∧ ezm_T i0 i2 i3 i7 i8 i13 i18 i19 i20 i25 i29 i30 i31 i36 i37 i38 r73 r74 r75 r76 r77 r78 r79 r80 r81 r82 r83 r84 r85 x86 x87 r88 r89 r90 r91 r92 r93 r94 r95 ∧ ∃ u : Int, (ezw_in u) ∧ (0 ≤ u ∧ u ≤ 10) ∧ some (ezw_i u) = v
theorem ezm_m267_v1050_v1 {a3 a4 : Int} (hT : ezm_T i0 i2 i3 i7 i8 i13 i18 i19 i20 i25 i29 i30 i31 i36 i37 i38 r73 r74 r75 r76 r77 r78 r79 r80 r81 r82 r83 r84 r85 r86 r87 r88 r89 r90 r91 r92 r93 r94 r95) (hd : 3 ≤ d) (ha3 : ezw_in a3) (ha4 : ezw_in a4) (tr : ezm_TR r78 r79 r80) : ezw_C l ρ B xa Hb D cA 267 d [ezw_p 72, ezw_i (1050), ezw_i (1), ezw_i a3, ezw_i a4] (ezm_h e F A i0 i2 i3 i7 i8 i13 i18 i19 i20 i25 i29 i30 i31 i36 i37 i38 r73 r74 r75 r76 r77 r78 r79 r80 r81 r82 r83 r84 r85 r86 r87 r88 r89 r90 r91 r92 r93 r94 r95) (ezm_m267_v1050_v1Q  e F A i0 i2 i3 i7 i8 i13 i18 i19 i20 i25 i29 i30 i31 i36 i37 i38 r73 r74 r75 r76 r77 r78 r79 r80 r81 r82 r83 r84 r85 r86 r87 r88 r89 r90 r91 r92 r93 r94 r95 a3 a4) := by
  refine ezw_met (k := 0) rfl rfl ?_
  refine ezw_aload_n rfl rfl ?_
  refine ezw_iload_n rfl rfl ?_
  refine ezw_aload_n rfl rfl ?_
  refine ezw_iload_n rfl rfl ?_
  refine ezw_call0_1 rfl (by omega) (ezm_at rfl) rfl rfl rfl rfl (ezm_m268_v1050 hT (by omega)) ?_
  rintro _ _ ⟨rfl, u2, hu2, p1_0, la_1, rfl⟩
  refine ezw_aload_n rfl rfl ?_
  refine ezm_gp (p := 88) rfl (fun _ => rfl) ?_
  refine ezw_iload_n rfl rfl ?_
  refine ezw_bipush (7) rfl rfl ?_
  refine ezw_iadd (k := (1057)) rfl (by omega) ?_
  refine ezw_aload_n rfl rfl ?_
  refine ezw_iload_n rfl rfl ?_
  refine ezw_call0_1 rfl (by omega) (ezm_at rfl) rfl rfl rfl rfl (ezm_m268_v1050 hT (by omega)) ?_
  rintro _ _ ⟨rfl, u4, hu4, p3_0, la_3, rfl⟩
  refine ezw_iadd (k := u4 + 1057) rfl (by omega) ?_
  refine ezm_l88 rfl (by omega) (by omega) (fun u5 eu5 => ?_)
  have ku5 : ezm_k88 (u4 + 1057) u5 := eu5 ▸ hT.t88 (u4 + 1057)
  have zu5 := ezm_zs7 ku5 (by omega)
  refine ezw_iload_n rfl rfl ?_
  refine ezw_iload rfl rfl ?_
  refine ezw_call0_5 rfl (by omega) (ezm_at rfl) rfl rfl rfl rfl (ezm_m269_v1 hT (by omega) hu2 (ezm_in88 ku5) ha3 ha4 (by omega) tr) ?_
  rintro _ _ ⟨x86_6, x87_6, rfl, hT, u7, hu7, p6_0, rfl⟩
  exact ezw_ireturn rfl rfl ⟨x86_6, x87_6, rfl, hT, u7, hu7, by omega, rfl⟩
def ezm_m273_v1050Q (e : Bool × Bool) (F : Nat → Nat → Int) (A : Nat → Int → Int) (i0 i2 i3 i7 i8 i13 i18 i19 i20 i25 i29 i30 i31 i36 i37 i38 : Int) (r73 r74 r75 r76 r77 r78 r79 r80 r81 r82 r83 r84 r85 r86 r87 r88 r89 r90 r91 r92 r93 r94 r95 : Int → Int) (a2 : Int) (a3 : Int) (a4 : Int) : Option ezq_V → (Nat → ezq_C) → Prop := fun v g' => ∃  (x86 x87 : Int → Int), ezm_h e F A i0 i2 i3 i7 i8 i13 i18 i19 i20 i25 i29 i30 i31 i36 i37 i38 r73 r74 r75 r76 r77 r78 r79 r80 r81 r82 r83 r84 r85 x86 x87 r88 r89 r90 r91 r92 r93 r94 r95 = g' ∧ ezm_T i0 i2 i3 i7 i8 i13 i18 i19 i20 i25 i29 i30 i31 i36 i37 i38 r73 r74 r75 r76 r77 r78 r79 r80 r81 r82 r83 r84 r85 x86 x87 r88 r89 r90 r91 r92 r93 r94 r95 ∧ ∃ u : Int, (0 ≤ u ∧ u ≤ 1) ∧ some (ezw_i u) = v
theorem ezm_m273_v1050 {a2 a3 a4 : Int} (hT : ezm_T i0 i2 i3 i7 i8 i13 i18 i19 i20 i25 i29 i30 i31 i36 i37 i38 r73 r74 r75 r76 r77 r78 r79 r80 r81 r82 r83 r84 r85 r86 r87 r88 r89 r90 r91 r92 r93 r94 r95) (hd : 4 ≤ d) (ha2 : ezw_in a2) (ha3 : ezw_in a3) (ha4 : ezw_in a4) (tr : ezm_TR r78 r79 r80) : ezw_C l ρ B xa Hb D cA 273 d [ezw_p 72, ezw_i (1050), ezw_i a2, ezw_i a3, ezw_i a4] (ezm_h e F A i0 i2 i3 i7 i8 i13 i18 i19 i20 i25 i29 i30 i31 i36 i37 i38 r73 r74 r75 r76 r77 r78 r79 r80 r81 r82 r83 r84 r85 r86 r87 r88 r89 r90 r91 r92 r93 r94 r95) (ezm_m273_v1050Q  e F A i0 i2 i3 i7 i8 i13 i18 i19 i20 i25 i29 i30 i31 i36 i37 i38 r73 r74 r75 r76 r77 r78 r79 r80 r81 r82 r83 r84 r85 r86 r87 r88 r89 r90 r91 r92 r93 r94 r95 a2 a3 a4) := by
  refine ezw_met (k := 2) rfl rfl ?_
  refine ezw_aload_n rfl rfl ?_
  refine ezw_iload_n rfl rfl ?_
  refine ezw_call0_1 rfl (by omega) (ezm_at rfl) rfl rfl rfl rfl (ezm_m266_v1050 hT (by omega)) ?_
  rintro _ _ ⟨rfl, u2, hu2, p1_0, p1_1, rfl⟩
  refine ezw_if_ne rfl rfl ⟨by omega, by omega⟩ (fun h5_2 => ?_) (fun h5_2 => ?_)
  · refine ezw_aload_n rfl rfl ?_
    refine ezw_iload_n rfl rfl ?_
    refine ezw_iconst (0) rfl rfl ?_
    refine ezw_iload_n rfl rfl ?_
    refine ezw_iload_n rfl rfl ?_
    refine ezw_call0_4 rfl (by omega) (ezm_at rfl) rfl rfl rfl rfl (ezm_m267_v1050_v0 hT (by omega) ha2 ha3 tr) ?_
    rintro _ _ ⟨x86_3, x87_3, rfl, hT, u4, hu4, p3_0, rfl⟩
    refine ezw_istore rfl rfl ?_
    refine ezw_aload_n rfl rfl ?_
    refine ezw_iload_n rfl rfl ?_
    refine ezw_iconst (1) rfl rfl ?_
    refine ezw_iload_n rfl rfl ?_
    refine ezw_iload_n rfl rfl ?_
    refine ezw_call0_4 rfl (by omega) (ezm_at rfl) rfl rfl rfl rfl (ezm_m267_v1050_v1 hT (by omega) ha2 ha3 tr) ?_
    rintro _ _ ⟨x86_5, x87_5, rfl, hT, u6, hu6, p5_0, rfl⟩
    refine ezw_istore rfl rfl ?_
    refine ezw_iload rfl rfl ?_
    refine ezw_if_ne rfl rfl ha4 (fun h32_6 => ?_) (fun h32_6 => ?_)
    · refine ezw_iload rfl rfl ?_
      refine ezw_bipush (10) rfl rfl ?_
      refine ezw_icmp_ge rfl rfl hu4 ⟨by decide, by decide⟩ (fun h52_6 => ?_) (fun h52_6 => ?_)
      · refine ezw_iconst (0) rfl rfl ?_
        exact ezw_ireturn rfl (ezw_zret ⟨by omega, by omega⟩) ⟨x86_5, x87_5, rfl, hT, (0), ⟨by omega, by omega⟩, rfl⟩
      · refine ezw_iload rfl rfl ?_
        refine ezw_iconst (1) rfl rfl ?_
        refine ezw_icmp_ne rfl rfl ha4 ⟨by decide, by decide⟩ (fun h58_6 => ?_) (fun h58_6 => ?_)
        · refine ezw_iload rfl rfl ?_
          refine ezw_if_le rfl rfl hu6 (fun h73_6 => ?_) (fun h73_6 => ?_)
          · refine ezw_iconst (0) rfl rfl ?_
            exact ezw_ireturn rfl (ezw_zret ⟨by omega, by omega⟩) ⟨x86_5, x87_5, rfl, hT, (0), ⟨by omega, by omega⟩, rfl⟩
          · refine ezw_iconst (1) rfl rfl ?_
            refine ezw_goto rfl rfl ?_
            exact ezw_ireturn rfl (ezw_zret ⟨by omega, by omega⟩) ⟨x86_5, x87_5, rfl, hT, (1), ⟨by omega, by omega⟩, rfl⟩
        · refine ezw_iload rfl rfl ?_
          refine ezw_bipush (10) rfl rfl ?_
          refine ezw_icmp_ge rfl rfl hu6 ⟨by decide, by decide⟩ (fun h65_6 => ?_) (fun h65_6 => ?_)
          · refine ezw_iconst (0) rfl rfl ?_
            exact ezw_ireturn rfl (ezw_zret ⟨by omega, by omega⟩) ⟨x86_5, x87_5, rfl, hT, (0), ⟨by omega, by omega⟩, rfl⟩
          · refine ezw_goto rfl rfl ?_
            refine ezw_iconst (1) rfl rfl ?_
            refine ezw_goto rfl rfl ?_
            exact ezw_ireturn rfl (ezw_zret ⟨by omega, by omega⟩) ⟨x86_5, x87_5, rfl, hT, (1), ⟨by omega, by omega⟩, rfl⟩
    · refine ezw_iload rfl rfl ?_
      refine ezw_if_le rfl rfl hu4 (fun h37_6 => ?_) (fun h37_6 => ?_)
      · refine ezw_iconst (0) rfl rfl ?_
        refine ezw_goto rfl rfl ?_
        exact ezw_ireturn rfl (ezw_zret ⟨by omega, by omega⟩) ⟨x86_5, x87_5, rfl, hT, (0), ⟨by omega, by omega⟩, rfl⟩
      · refine ezw_iconst (1) rfl rfl ?_
        refine ezw_goto rfl rfl ?_
        exact ezw_ireturn rfl (ezw_zret ⟨by omega, by omega⟩) ⟨x86_5, x87_5, rfl, hT, (1), ⟨by omega, by omega⟩, rfl⟩
  · refine ezw_iconst (0) rfl rfl ?_
    exact ezw_ireturn rfl (ezw_zret ⟨by omega, by omega⟩) ⟨r86, r87, rfl, hT, (0), ⟨by omega, by omega⟩, rfl⟩
def ezm_m283_v1050Q (e : Bool × Bool) (F : Nat → Nat → Int) (A : Nat → Int → Int) (i0 i2 i3 i7 i8 i13 i18 i19 i20 i25 i29 i30 i31 i36 i37 i38 : Int) (r73 r74 r75 r76 r77 r78 r79 r80 r81 r82 r83 r84 r85 r86 r87 r88 r89 r90 r91 r92 r93 r94 r95 : Int → Int) (a2 : Int) (a3 : Int) : Option ezq_V → (Nat → ezq_C) → Prop := fun v g' => ezm_h e F A i0 i2 i3 i7 i8 i13 i18 i19 i20 i25 i29 i30 i31 i36 i37 i38 r73 r74 r75 r76 r77 r78 r79 r80 r81 r82 r83 r84 r85 r86 r87 r88 r89 r90 r91 r92 r93 r94 r95 = g' ∧ ∃ u : Int, (0 ≤ u ∧ u ≤ 1) ∧ some (ezw_i u) = v
theorem ezm_m283_v1050 {a2 a3 : Int} (hT : ezm_T i0 i2 i3 i7 i8 i13 i18 i19 i20 i25 i29 i30 i31 i36 i37 i38 r73 r74 r75 r76 r77 r78 r79 r80 r81 r82 r83 r84 r85 r86 r87 r88 r89 r90 r91 r92 r93 r94 r95) (hd : 1 ≤ d) (ha2 : ezw_in a2) (ha3 : ezw_in a3) (ga : 0 ≤ a2 ∧ a2 ≤ 7) (gb : 0 ≤ a3 ∧ a3 ≤ 7) : ezw_C l ρ B xa Hb D cA 283 d [ezw_p 72, ezw_i (1050), ezw_i a2, ezw_i a3] (ezm_h e F A i0 i2 i3 i7 i8 i13 i18 i19 i20 i25 i29 i30 i31 i36 i37 i38 r73 r74 r75 r76 r77 r78 r79 r80 r81 r82 r83 r84 r85 r86 r87 r88 r89 r90 r91 r92 r93 r94 r95) (ezm_m283_v1050Q  e F A i0 i2 i3 i7 i8 i13 i18 i19 i20 i25 i29 i30 i31 i36 i37 i38 r73 r74 r75 r76 r77 r78 r79 r80 r81 r82 r83 r84 r85 r86 r87 r88 r89 r90 r91 r92 r93 r94 r95 a2 a3) := by
  refine ezw_met (k := 1) rfl rfl ?_
  refine ezw_iload_n rfl rfl ?_
  refine ezw_if_ne rfl rfl ha3 (fun h1_0 => ?_) (fun h1_0 => ?_)
  · refine ezw_aload_n rfl rfl ?_
    refine ezw_iload_n rfl rfl ?_
    refine ezw_iload_n rfl rfl ?_
    refine ezw_call0_2 rfl (by omega) (ezm_at rfl) rfl rfl rfl rfl (ezm_m263 hT (by omega) ha2 ha3 (by omega) (by omega)) ?_
    rintro _ _ ⟨rfl, u2, hu2, rfl⟩
    refine ezw_istore rfl rfl ?_
    refine ezw_aload_n rfl rfl ?_
    refine ezw_iload_n rfl rfl ?_
    refine ezw_call0_1 rfl (by omega) (ezm_at rfl) rfl rfl rfl rfl (ezm_m266_v1050 hT (by omega)) ?_
    rintro _ _ ⟨rfl, u4, hu4, p3_0, p3_1, rfl⟩
    refine ezw_if_eq rfl rfl ⟨by omega, by omega⟩ (fun h36_4 => ?_) (fun h36_4 => ?_)
    · refine ezw_iconst (0) rfl rfl ?_
      exact ezw_ireturn rfl (ezw_zret ⟨by omega, by omega⟩) ⟨rfl, (0), ⟨by omega, by omega⟩, rfl⟩
    · refine ezw_aload_n rfl rfl ?_
      refine ezm_gp (p := 88) rfl (fun _ => rfl) ?_
      refine ezw_iload_n rfl rfl ?_
      refine ezw_bipush (19) rfl rfl ?_
      refine ezw_iadd (k := (1069)) rfl (by omega) ?_
      refine ezm_l88 rfl (by omega) (by omega) (fun u5 eu5 => ?_)
      have ku5 : ezm_k88 (1069) u5 := eu5 ▸ hT.t88 (1069)
      have zu5 := ezm_zs19 ku5 (by omega)
      refine ezw_iload_n rfl rfl ?_
      refine ezw_ishrO rfl (fun u6 hu6 => ?_)
      refine ezw_iconst (1) rfl rfl ?_
      refine ezm_iand rfl (fun u7 hu7 ku7 => ?_)
      refine ezw_iconst (1) rfl rfl ?_
      refine ezw_icmp_ne rfl rfl hu7 ⟨by decide, by decide⟩ (fun h53_7 => ?_) (fun h53_7 => ?_)
      · refine ezw_iconst (0) rfl rfl ?_
        exact ezw_ireturn rfl (ezw_zret ⟨by omega, by omega⟩) ⟨rfl, (0), ⟨by omega, by omega⟩, rfl⟩
      · refine ezw_iload rfl rfl ?_
        refine ezw_if_le rfl rfl hu2 (fun h58_7 => ?_) (fun h58_7 => ?_)
        · refine ezw_iconst (0) rfl rfl ?_
          exact ezw_ireturn rfl (ezw_zret ⟨by omega, by omega⟩) ⟨rfl, (0), ⟨by omega, by omega⟩, rfl⟩
        · refine ezw_iconst (1) rfl rfl ?_
          refine ezw_goto rfl rfl ?_
          exact ezw_ireturn rfl (ezw_zret ⟨by omega, by omega⟩) ⟨rfl, (1), ⟨by omega, by omega⟩, rfl⟩
  · refine ezw_bipush (10) rfl rfl ?_
    refine ezw_aload_n rfl rfl ?_
    refine ezw_iload_n rfl rfl ?_
    refine ezw_iconst (1) rfl rfl ?_
    refine ezw_call0_2 rfl (by omega) (ezm_at rfl) rfl rfl rfl rfl (ezm_m263 hT (by omega) ha2 ⟨by decide, by decide⟩ (by omega) (by omega)) ?_
    rintro _ _ ⟨rfl, u9, hu9, rfl⟩
    refine ezs_isub rfl (fun u10 hu10 => ?_)
    refine ezw_aload_n rfl rfl ?_
    refine ezw_iload_n rfl rfl ?_
    refine ezw_iconst (2) rfl rfl ?_
    refine ezw_call0_2 rfl (by omega) (ezm_at rfl) rfl rfl rfl rfl (ezm_m263 hT (by omega) ha2 ⟨by decide, by decide⟩ (by omega) (by omega)) ?_
    rintro _ _ ⟨rfl, u12, hu12, rfl⟩
    refine ezs_isub rfl (fun u13 hu13 => ?_)
    refine ezw_goto rfl rfl ?_
    refine ezw_istore rfl rfl ?_
    refine ezw_aload_n rfl rfl ?_
    refine ezw_iload_n rfl rfl ?_
    refine ezw_call0_1 rfl (by omega) (ezm_at rfl) rfl rfl rfl rfl (ezm_m266_v1050 hT (by omega)) ?_
    rintro _ _ ⟨rfl, u15, hu15, p14_0, p14_1, rfl⟩
    refine ezw_if_eq rfl rfl ⟨by omega, by omega⟩ (fun h36_15 => ?_) (fun h36_15 => ?_)
    · refine ezw_iconst (0) rfl rfl ?_
      exact ezw_ireturn rfl (ezw_zret ⟨by omega, by omega⟩) ⟨rfl, (0), ⟨by omega, by omega⟩, rfl⟩
    · refine ezw_aload_n rfl rfl ?_
      refine ezm_gp (p := 88) rfl (fun _ => rfl) ?_
      refine ezw_iload_n rfl rfl ?_
      refine ezw_bipush (19) rfl rfl ?_
      refine ezw_iadd (k := (1069)) rfl (by omega) ?_
      refine ezm_l88 rfl (by omega) (by omega) (fun u16 eu16 => ?_)
      have ku16 : ezm_k88 (1069) u16 := eu16 ▸ hT.t88 (1069)
      have zu16 := ezm_zs19 ku16 (by omega)
      refine ezw_iload_n rfl rfl ?_
      refine ezw_ishrO rfl (fun u17 hu17 => ?_)
      refine ezw_iconst (1) rfl rfl ?_
      refine ezm_iand rfl (fun u18 hu18 ku18 => ?_)
      refine ezw_iconst (1) rfl rfl ?_
      refine ezw_icmp_ne rfl rfl hu18 ⟨by decide, by decide⟩ (fun h53_18 => ?_) (fun h53_18 => ?_)
      · refine ezw_iconst (0) rfl rfl ?_
        exact ezw_ireturn rfl (ezw_zret ⟨by omega, by omega⟩) ⟨rfl, (0), ⟨by omega, by omega⟩, rfl⟩
      · refine ezw_iload rfl rfl ?_
        refine ezw_if_le rfl rfl hu13 (fun h58_18 => ?_) (fun h58_18 => ?_)
        · refine ezw_iconst (0) rfl rfl ?_
          exact ezw_ireturn rfl (ezw_zret ⟨by omega, by omega⟩) ⟨rfl, (0), ⟨by omega, by omega⟩, rfl⟩
        · refine ezw_iconst (1) rfl rfl ?_
          refine ezw_goto rfl rfl ?_
          exact ezw_ireturn rfl (ezw_zret ⟨by omega, by omega⟩) ⟨rfl, (1), ⟨by omega, by omega⟩, rfl⟩
def ezm_m284_v1050Q (e : Bool × Bool) (F : Nat → Nat → Int) (A : Nat → Int → Int) (i0 i2 i3 i7 i8 i13 i18 i19 i20 i25 i29 i30 i31 i36 i37 i38 : Int) (r73 r74 r75 r76 r77 r78 r79 r80 r81 r82 r83 r84 r85 r86 r87 r88 r89 r90 r91 r92 r93 r94 r95 : Int → Int) (a2 : Int) (a3 : Int) : Option ezq_V → (Nat → ezq_C) → Prop := fun v g' => ∃  (x88 : Int → Int), ezm_h e F A i0 i2 i3 i7 i8 i13 i18 i19 i20 i25 i29 i30 i31 i36 i37 i38 r73 r74 r75 r76 r77 r78 r79 r80 r81 r82 r83 r84 r85 r86 r87 x88 r89 r90 r91 r92 r93 r94 r95 = g' ∧ ezm_T i0 i2 i3 i7 i8 i13 i18 i19 i20 i25 i29 i30 i31 i36 i37 i38 r73 r74 r75 r76 r77 r78 r79 r80 r81 r82 r83 r84 r85 r86 r87 x88 r89 r90 r91 r92 r93 r94 r95 ∧ (∀ j, j < 1050 ∨ 1070 ≤ j → x88 j = r88 j) ∧ (ezm_SV r78 x88 (1050)) ∧ none = v
theorem ezm_m284_v1050 {a2 a3 : Int} (hT : ezm_T i0 i2 i3 i7 i8 i13 i18 i19 i20 i25 i29 i30 i31 i36 i37 i38 r73 r74 r75 r76 r77 r78 r79 r80 r81 r82 r83 r84 r85 r86 r87 r88 r89 r90 r91 r92 r93 r94 r95) (hd : 1 ≤ d) (ha2 : ezw_in a2) (ha3 : ezw_in a3) (ga : 0 ≤ a2 ∧ a2 ≤ 7) (sv : ezm_SV r78 r88 (1050)) : ezw_C l ρ B xa Hb D cA 284 d [ezw_p 72, ezw_i (1050), ezw_i a2, ezw_i a3] (ezm_h e F A i0 i2 i3 i7 i8 i13 i18 i19 i20 i25 i29 i30 i31 i36 i37 i38 r73 r74 r75 r76 r77 r78 r79 r80 r81 r82 r83 r84 r85 r86 r87 r88 r89 r90 r91 r92 r93 r94 r95) (ezm_m284_v1050Q  e F A i0 i2 i3 i7 i8 i13 i18 i19 i20 i25 i29 i30 i31 i36 i37 i38 r73 r74 r75 r76 r77 r78 r79 r80 r81 r82 r83 r84 r85 r86 r87 r88 r89 r90 r91 r92 r93 r94 r95 a2 a3) := by
  refine ezw_met (k := 0) rfl rfl ?_
  have b0 := ezm_zs0 (hT.t88 (1050)) (by decide)
  refine ezw_iload_n rfl rfl ?_
  refine ezw_iconst (1) rfl rfl ?_
  refine ezw_icmp_ne rfl rfl ha3 ⟨by decide, by decide⟩ (fun h2_0 => ?_) (fun h2_0 => ?_)
  · refine ezw_iload_n rfl rfl ?_
    refine ezw_iconst (2) rfl rfl ?_
    refine ezw_icmp_ne rfl rfl ha3 ⟨by decide, by decide⟩ (fun h27_0 => ?_) (fun h27_0 => ?_)
    · exact ezw_return rfl rfl ⟨r88, rfl, hT, fun _ _ => rfl, sv, rfl⟩
    · refine ezw_aload_n rfl rfl ?_
      refine ezw_iload_n rfl rfl ?_
      refine ezw_aload_n rfl rfl ?_
      refine ezw_iload_n rfl rfl ?_
      refine ezw_call0_1 rfl (by omega) (ezm_at rfl) rfl rfl rfl rfl (ezm_m268_v1050 hT (by omega)) ?_
      rintro _ _ ⟨rfl, u2, hu2, p1_0, la_1, rfl⟩
      refine ezw_call0_2 rfl (by omega) (ezm_at rfl) rfl rfl rfl rfl (ezm_m277_v1050 hT (by omega) hu2 (by omega) sv) ?_
      rintro _ _ ⟨x88_3, rfl, hT, fb_3, sv_3, rfl⟩
      exact ezw_return rfl rfl ⟨x88_3, rfl, hT, fb_3, sv_3, rfl⟩
  · refine ezw_aload_n rfl rfl ?_
    refine ezm_gp (p := 88) rfl (fun _ => rfl) ?_
    refine ezw_iload_n rfl rfl ?_
    refine ezw_bipush (19) rfl rfl ?_
    refine ezw_iadd (k := (1069)) rfl (by omega) ?_
    refine ezw_dup2 rfl rfl rfl ?_
    refine ezm_l88 rfl (by omega) (by omega) (fun u4 eu4 => ?_)
    have ku4 : ezm_k88 (1069) u4 := eu4 ▸ hT.t88 (1069)
    have zu4 := ezm_zs19 ku4 (by omega)
    refine ezw_iconst (1) rfl rfl ?_
    refine ezw_iload_n rfl rfl ?_
    refine ezm_ishl1 rfl (by omega) (by omega) (fun u5 hu5 ku5 => ?_)
    refine ezw_iconst (-1) rfl rfl ?_
    refine ezs_ixor rfl (fun u6 hu6 => ?_)
    refine ezm_iand rfl (fun u7 hu7 ku7 => ?_)
    refine ezm_s88 hT rfl (by omega) (by omega) ⟨hu7, by omega, by omega, by omega, by omega, by omega⟩ (fun r88_8 hT er88_8 fr88_8 => ?_)
    refine ezw_goto rfl rfl ?_
    exact ezw_return rfl rfl ⟨r88_8, rfl, hT, fun j hj => by rw [fr88_8 j (by omega)], ezm_SV_fr2 sv b0.2 (fun j hj => by rw [fr88_8 j (by omega)]), rfl⟩
def ezm_m284_v1100Q (e : Bool × Bool) (F : Nat → Nat → Int) (A : Nat → Int → Int) (i0 i2 i3 i7 i8 i13 i18 i19 i20 i25 i29 i30 i31 i36 i37 i38 : Int) (r73 r74 r75 r76 r77 r78 r79 r80 r81 r82 r83 r84 r85 r86 r87 r88 r89 r90 r91 r92 r93 r94 r95 : Int → Int) (a2 : Int) (a3 : Int) : Option ezq_V → (Nat → ezq_C) → Prop := fun v g' => ∃  (x88 : Int → Int), ezm_h e F A i0 i2 i3 i7 i8 i13 i18 i19 i20 i25 i29 i30 i31 i36 i37 i38 r73 r74 r75 r76 r77 r78 r79 r80 r81 r82 r83 r84 r85 r86 r87 x88 r89 r90 r91 r92 r93 r94 r95 = g' ∧ ezm_T i0 i2 i3 i7 i8 i13 i18 i19 i20 i25 i29 i30 i31 i36 i37 i38 r73 r74 r75 r76 r77 r78 r79 r80 r81 r82 r83 r84 r85 r86 r87 x88 r89 r90 r91 r92 r93 r94 r95 ∧ (∀ j, j < 1100 ∨ 1120 ≤ j → x88 j = r88 j) ∧ (ezm_SV r78 x88 (1100)) ∧ none = v
theorem ezm_m284_v1100 {a2 a3 : Int} (hT : ezm_T i0 i2 i3 i7 i8 i13 i18 i19 i20 i25 i29 i30 i31 i36 i37 i38 r73 r74 r75 r76 r77 r78 r79 r80 r81 r82 r83 r84 r85 r86 r87 r88 r89 r90 r91 r92 r93 r94 r95) (hd : 1 ≤ d) (ha2 : ezw_in a2) (ha3 : ezw_in a3) (ga : 0 ≤ a2 ∧ a2 ≤ 7) (sv : ezm_SV r78 r88 (1100)) : ezw_C l ρ B xa Hb D cA 284 d [ezw_p 72, ezw_i (1100), ezw_i a2, ezw_i a3] (ezm_h e F A i0 i2 i3 i7 i8 i13 i18 i19 i20 i25 i29 i30 i31 i36 i37 i38 r73 r74 r75 r76 r77 r78 r79 r80 r81 r82 r83 r84 r85 r86 r87 r88 r89 r90 r91 r92 r93 r94 r95) (ezm_m284_v1100Q  e F A i0 i2 i3 i7 i8 i13 i18 i19 i20 i25 i29 i30 i31 i36 i37 i38 r73 r74 r75 r76 r77 r78 r79 r80 r81 r82 r83 r84 r85 r86 r87 r88 r89 r90 r91 r92 r93 r94 r95 a2 a3) := by
  refine ezw_met (k := 0) rfl rfl ?_
  have b0 := ezm_zs0 (hT.t88 (1100)) (by decide)
  refine ezw_iload_n rfl rfl ?_
  refine ezw_iconst (1) rfl rfl ?_
  refine ezw_icmp_ne rfl rfl ha3 ⟨by decide, by decide⟩ (fun h2_0 => ?_) (fun h2_0 => ?_)
  · refine ezw_iload_n rfl rfl ?_
    refine ezw_iconst (2) rfl rfl ?_
    refine ezw_icmp_ne rfl rfl ha3 ⟨by decide, by decide⟩ (fun h27_0 => ?_) (fun h27_0 => ?_)
    · exact ezw_return rfl rfl ⟨r88, rfl, hT, fun _ _ => rfl, sv, rfl⟩
    · refine ezw_aload_n rfl rfl ?_
      refine ezw_iload_n rfl rfl ?_
      refine ezw_aload_n rfl rfl ?_
      refine ezw_iload_n rfl rfl ?_
      refine ezw_call0_1 rfl (by omega) (ezm_at rfl) rfl rfl rfl rfl (ezm_m268_v1100 hT (by omega)) ?_
      rintro _ _ ⟨rfl, u2, hu2, p1_0, la_1, rfl⟩
      refine ezw_call0_2 rfl (by omega) (ezm_at rfl) rfl rfl rfl rfl (ezm_m277_v1100 hT (by omega) hu2 (by omega) sv) ?_
      rintro _ _ ⟨x88_3, rfl, hT, fb_3, sv_3, rfl⟩
      exact ezw_return rfl rfl ⟨x88_3, rfl, hT, fb_3, sv_3, rfl⟩
  · refine ezw_aload_n rfl rfl ?_
    refine ezm_gp (p := 88) rfl (fun _ => rfl) ?_
    refine ezw_iload_n rfl rfl ?_
    refine ezw_bipush (19) rfl rfl ?_
    refine ezw_iadd (k := (1119)) rfl (by omega) ?_
    refine ezw_dup2 rfl rfl rfl ?_
    refine ezm_l88 rfl (by omega) (by omega) (fun u4 eu4 => ?_)
    have ku4 : ezm_k88 (1119) u4 := eu4 ▸ hT.t88 (1119)
    have zu4 := ezm_zs19 ku4 (by omega)
    refine ezw_iconst (1) rfl rfl ?_
    refine ezw_iload_n rfl rfl ?_
    refine ezm_ishl1 rfl (by omega) (by omega) (fun u5 hu5 ku5 => ?_)
    refine ezw_iconst (-1) rfl rfl ?_
    refine ezs_ixor rfl (fun u6 hu6 => ?_)
    refine ezm_iand rfl (fun u7 hu7 ku7 => ?_)
    refine ezm_s88 hT rfl (by omega) (by omega) ⟨hu7, by omega, by omega, by omega, by omega, by omega⟩ (fun r88_8 hT er88_8 fr88_8 => ?_)
    refine ezw_goto rfl rfl ?_
    exact ezw_return rfl rfl ⟨r88_8, rfl, hT, fun j hj => by rw [fr88_8 j (by omega)], ezm_SV_fr2 sv b0.2 (fun j hj => by rw [fr88_8 j (by omega)]), rfl⟩
def ezm_m259_v3Q (e : Bool × Bool) (F : Nat → Nat → Int) (A : Nat → Int → Int) (i0 i2 i3 i7 i8 i13 i18 i19 i20 i25 i29 i30 i31 i36 i37 i38 : Int) (r73 r74 r75 r76 r77 r78 r79 r80 r81 r82 r83 r84 r85 r86 r87 r88 r89 r90 r91 r92 r93 r94 r95 : Int → Int) (a1 : Int) : Option ezq_V → (Nat → ezq_C) → Prop := fun v g' => ezm_h e F A i0 i2 i3 i7 i8 i13 i18 i19 i20 i25 i29 i30 i31 i36 i37 i38 r73 r74 r75 r76 r77 r78 r79 r80 r81 r82 r83 r84 r85 r86 r87 r88 r89 r90 r91 r92 r93 r94 r95 = g' ∧ ∃ u : Int, (ezw_in u) ∧ (u = r78 (4 * a1 + 20)) ∧ some (ezw_i u) = v
theorem ezm_m259_v3 {a1 : Int} (hT : ezm_T i0 i2 i3 i7 i8 i13 i18 i19 i20 i25 i29 i30 i31 i36 i37 i38 r73 r74 r75 r76 r77 r78 r79 r80 r81 r82 r83 r84 r85 r86 r87 r88 r89 r90 r91 r92 r93 r94 r95) (hd : 0 ≤ d) (ha1 : ezw_in a1) (ga : 0 ≤ a1 ∧ a1 ≤ 7) : ezw_C l ρ B xa Hb D cA 259 d [ezw_p 72, ezw_i a1, ezw_i (3)] (ezm_h e F A i0 i2 i3 i7 i8 i13 i18 i19 i20 i25 i29 i30 i31 i36 i37 i38 r73 r74 r75 r76 r77 r78 r79 r80 r81 r82 r83 r84 r85 r86 r87 r88 r89 r90 r91 r92 r93 r94 r95) (ezm_m259_v3Q  e F A i0 i2 i3 i7 i8 i13 i18 i19 i20 i25 i29 i30 i31 i36 i37 i38 r73 r74 r75 r76 r77 r78 r79 r80 r81 r82 r83 r84 r85 r86 r87 r88 r89 r90 r91 r92 r93 r94 r95 a1) := by
  refine ezw_met (k := 0) rfl rfl ?_
  refine ezw_aload_n rfl rfl ?_
  refine ezm_gp (p := 78) rfl (fun _ => rfl) ?_
  refine ezw_bipush (17) rfl rfl ?_
  refine ezw_iconst (4) rfl rfl ?_
  refine ezw_iload_n rfl rfl ?_
  refine ezw_imul (k := 4 * a1) rfl (by omega) ?_
  refine ezw_iadd (k := 4 * a1 + 17) rfl (by omega) ?_
  refine ezw_iload_n rfl rfl ?_
  refine ezw_iadd (k := 4 * a1 + 20) rfl (by omega) ?_
  refine ezm_l78 rfl (by omega) (by omega) (fun u1 eu1 => ?_)
  have ku1 : ezm_k78 (4 * a1 + 20) u1 := eu1 ▸ hT.t78 (4 * a1 + 20)
  exact ezw_ireturn rfl rfl ⟨rfl, u1, (ezm_in78 ku1), eu1, rfl⟩
def ezm_m287Q (e : Bool × Bool) (F : Nat → Nat → Int) (A : Nat → Int → Int) (i0 i2 i3 i7 i8 i13 i18 i19 i20 i25 i29 i30 i31 i36 i37 i38 : Int) (r73 r74 r75 r76 r77 r78 r79 r80 r81 r82 r83 r84 r85 r86 r87 r88 r89 r90 r91 r92 r93 r94 r95 : Int → Int) (a1 : Int) : Option ezq_V → (Nat → ezq_C) → Prop := fun v g' => ezm_h e F A i0 i2 i3 i7 i8 i13 i18 i19 i20 i25 i29 i30 i31 i36 i37 i38 r73 r74 r75 r76 r77 r78 r79 r80 r81 r82 r83 r84 r85 r86 r87 r88 r89 r90 r91 r92 r93 r94 r95 = g' ∧ ∃ u : Int, (0 ≤ u ∧ u ≤ 1) ∧ some (ezw_i u) = v
theorem ezm_m287 {a1 : Int} (hT : ezm_T i0 i2 i3 i7 i8 i13 i18 i19 i20 i25 i29 i30 i31 i36 i37 i38 r73 r74 r75 r76 r77 r78 r79 r80 r81 r82 r83 r84 r85 r86 r87 r88 r89 r90 r91 r92 r93 r94 r95) (hd : 1 ≤ d) (ha1 : ezw_in a1) (ga : -1 ≤ a1 ∧ a1 < r78 0) (tr : ezm_TR r78 r79 r80) : ezw_C l ρ B xa Hb D cA 287 d [ezw_p 72, ezw_i a1] (ezm_h e F A i0 i2 i3 i7 i8 i13 i18 i19 i20 i25 i29 i30 i31 i36 i37 i38 r73 r74 r75 r76 r77 r78 r79 r80 r81 r82 r83 r84 r85 r86 r87 r88 r89 r90 r91 r92 r93 r94 r95) (ezm_m287Q  e F A i0 i2 i3 i7 i8 i13 i18 i19 i20 i25 i29 i30 i31 i36 i37 i38 r73 r74 r75 r76 r77 r78 r79 r80 r81 r82 r83 r84 r85 r86 r87 r88 r89 r90 r91 r92 r93 r94 r95 a1) := by
  refine ezw_met (k := 2) rfl rfl ?_
  have b08 := ezm_za0 (hT.t78 0) (by decide)
  refine ezw_iconst (1) rfl rfl ?_
  refine ezw_istore_n rfl rfl ?_
  refine ezw_iload_n rfl rfl ?_
  refine ezw_istore_n rfl rfl ?_
  have L4_2 : ∀ c1 : Int, ezw_in c1 → ∀ y3 : Int, ezw_in y3 → (c1 ≤ a1) → (-1 ≤ c1 ∧ c1 < r78 0) → (y3 = 0 ∨ y3 = 1) → ezw_E l ρ B xa Hb D cA d ezq_re287 (ezm_m287Q  e F A i0 i2 i3 i7 i8 i13 i18 i19 i20 i25 i29 i30 i31 i36 i37 i38 r73 r74 r75 r76 r77 r78 r79 r80 r81 r82 r83 r84 r85 r86 r87 r88 r89 r90 r91 r92 r93 r94 r95 a1) 4 [some (ezw_p 72), some (ezw_i a1), some (ezw_i y3), some (ezw_i c1)] [] (ezm_h e F A i0 i2 i3 i7 i8 i13 i18 i19 i20 i25 i29 i30 i31 i36 i37 i38 r73 r74 r75 r76 r77 r78 r79 r80 r81 r82 r83 r84 r85 r86 r87 r88 r89 r90 r91 r92 r93 r94 r95) := by
    refine ezs_dn ?_
    intro c1 hc1 ihc1 y3 hy3 g_2 v1_2 v2_2
    refine ezw_iload_n rfl rfl ?_
    refine ezw_if_lt rfl rfl hc1 (fun h5_3 => ?_) (fun h5_3 => ?_)
    · refine ezw_iload_n rfl rfl ?_
      exact ezw_ireturn rfl (ezw_zret ⟨by omega, by omega⟩) ⟨rfl, y3, ⟨by omega, by omega⟩, rfl⟩
    · refine ezw_iload_n rfl rfl ?_
      refine ezw_if_eq rfl rfl hy3 (fun h9_3 => ?_) (fun h9_3 => ?_)
      · refine ezw_iconst (0) rfl rfl ?_
        refine ezw_istore_n rfl rfl ?_
        refine ezw_aload_n rfl rfl ?_
        refine ezw_iload_n rfl rfl ?_
        refine ezw_iconst (3) rfl rfl ?_
        refine ezw_call0_2 rfl (by omega) (ezm_at rfl) rfl rfl rfl rfl (ezm_m259_v3 hT (by omega) hc1 (by omega)) ?_
        rintro _ _ ⟨rfl, u5, hu5, tw_4, rfl⟩
        have hon := tr.1 c1 (by omega) (by omega)
        have eon : u5 = r78 (4 * c1 + 20) := tw_4
        refine ezw_istore_n rfl rfl ?_
        refine ezw_goto rfl rfl ?_
        exact ezw_keepE [true, true, true, true] (ihc1 u5 (by omega) hu5 (0) ⟨by decide, by decide⟩ (by omega) (by omega) (by omega))
      · refine ezw_aload_n rfl rfl ?_
        refine ezw_iload_n rfl rfl ?_
        refine ezw_iconst (1) rfl rfl ?_
        refine ezw_call0_2 rfl (by omega) (ezm_at rfl) rfl rfl rfl rfl (ezm_m259_v1 hT (by omega) hc1 (by omega)) ?_
        rintro _ _ ⟨rfl, u7, hu7, tw_6, rfl⟩
        refine ezw_aload_n rfl rfl ?_
        refine ezm_gp (p := 78) rfl (fun _ => rfl) ?_
        refine ezw_bipush (13) rfl rfl ?_
        refine ezm_l78 rfl (by omega) (by omega) (fun u8 eu8 => ?_)
        have ku8 : ezm_k78 (13) u8 := eu8 ▸ hT.t78 (13)
        refine ezw_icmp_lt rfl rfl hu7 (ezm_in78 ku8) (fun h25_8 => ?_) (fun h25_8 => ?_)
        · refine ezw_iconst (0) rfl rfl ?_
          refine ezw_istore_n rfl rfl ?_
          refine ezw_aload_n rfl rfl ?_
          refine ezw_iload_n rfl rfl ?_
          refine ezw_iconst (3) rfl rfl ?_
          refine ezw_call0_2 rfl (by omega) (ezm_at rfl) rfl rfl rfl rfl (ezm_m259_v3 hT (by omega) hc1 (by omega)) ?_
          rintro _ _ ⟨rfl, u10, hu10, tw_9, rfl⟩
          have hon := tr.1 c1 (by omega) (by omega)
          have eon : u10 = r78 (4 * c1 + 20) := tw_9
          refine ezw_istore_n rfl rfl ?_
          refine ezw_goto rfl rfl ?_
          exact ezw_keepE [true, true, true, true] (ihc1 u10 (by omega) hu10 (0) ⟨by decide, by decide⟩ (by omega) (by omega) (by omega))
        · refine ezw_iconst (1) rfl rfl ?_
          refine ezw_goto rfl rfl ?_
          refine ezw_istore_n rfl rfl ?_
          refine ezw_aload_n rfl rfl ?_
          refine ezw_iload_n rfl rfl ?_
          refine ezw_iconst (3) rfl rfl ?_
          refine ezw_call0_2 rfl (by omega) (ezm_at rfl) rfl rfl rfl rfl (ezm_m259_v3 hT (by omega) hc1 (by omega)) ?_
          rintro _ _ ⟨rfl, u12, hu12, tw_11, rfl⟩
          have hon := tr.1 c1 (by omega) (by omega)
          have eon : u12 = r78 (4 * c1 + 20) := tw_11
          refine ezw_istore_n rfl rfl ?_
          refine ezw_goto rfl rfl ?_
          exact ezw_keepE [true, true, true, true] (ihc1 u12 (by omega) hu12 (1) ⟨by decide, by decide⟩ (by omega) (by omega) (by omega))
  exact ezw_keepE [true, true, true, true] (L4_2 a1 ha1 (1) ⟨by decide, by decide⟩ (by omega) (by omega) (by omega))
def ezm_m259_v0Q (e : Bool × Bool) (F : Nat → Nat → Int) (A : Nat → Int → Int) (i0 i2 i3 i7 i8 i13 i18 i19 i20 i25 i29 i30 i31 i36 i37 i38 : Int) (r73 r74 r75 r76 r77 r78 r79 r80 r81 r82 r83 r84 r85 r86 r87 r88 r89 r90 r91 r92 r93 r94 r95 : Int → Int) (a1 : Int) : Option ezq_V → (Nat → ezq_C) → Prop := fun v g' => ezm_h e F A i0 i2 i3 i7 i8 i13 i18 i19 i20 i25 i29 i30 i31 i36 i37 i38 r73 r74 r75 r76 r77 r78 r79 r80 r81 r82 r83 r84 r85 r86 r87 r88 r89 r90 r91 r92 r93 r94 r95 = g' ∧ ∃ u : Int, (ezw_in u) ∧ (u = r78 (4 * a1 + 17)) ∧ some (ezw_i u) = v
theorem ezm_m259_v0 {a1 : Int} (hT : ezm_T i0 i2 i3 i7 i8 i13 i18 i19 i20 i25 i29 i30 i31 i36 i37 i38 r73 r74 r75 r76 r77 r78 r79 r80 r81 r82 r83 r84 r85 r86 r87 r88 r89 r90 r91 r92 r93 r94 r95) (hd : 0 ≤ d) (ha1 : ezw_in a1) (ga : 0 ≤ a1 ∧ a1 ≤ 7) : ezw_C l ρ B xa Hb D cA 259 d [ezw_p 72, ezw_i a1, ezw_i (0)] (ezm_h e F A i0 i2 i3 i7 i8 i13 i18 i19 i20 i25 i29 i30 i31 i36 i37 i38 r73 r74 r75 r76 r77 r78 r79 r80 r81 r82 r83 r84 r85 r86 r87 r88 r89 r90 r91 r92 r93 r94 r95) (ezm_m259_v0Q  e F A i0 i2 i3 i7 i8 i13 i18 i19 i20 i25 i29 i30 i31 i36 i37 i38 r73 r74 r75 r76 r77 r78 r79 r80 r81 r82 r83 r84 r85 r86 r87 r88 r89 r90 r91 r92 r93 r94 r95 a1) := by
  refine ezw_met (k := 0) rfl rfl ?_
  refine ezw_aload_n rfl rfl ?_
  refine ezm_gp (p := 78) rfl (fun _ => rfl) ?_
  refine ezw_bipush (17) rfl rfl ?_
  refine ezw_iconst (4) rfl rfl ?_
  refine ezw_iload_n rfl rfl ?_
  refine ezw_imul (k := 4 * a1) rfl (by omega) ?_
  refine ezw_iadd (k := 4 * a1 + 17) rfl (by omega) ?_
  refine ezw_iload_n rfl rfl ?_
  refine ezw_iadd (k := 4 * a1 + 17) rfl (by omega) ?_
  refine ezm_l78 rfl (by omega) (by omega) (fun u1 eu1 => ?_)
  have ku1 : ezm_k78 (4 * a1 + 17) u1 := eu1 ▸ hT.t78 (4 * a1 + 17)
  exact ezw_ireturn rfl rfl ⟨rfl, u1, (ezm_in78 ku1), eu1, rfl⟩
def ezm_m260_v1050Q (e : Bool × Bool) (F : Nat → Nat → Int) (A : Nat → Int → Int) (i0 i2 i3 i7 i8 i13 i18 i19 i20 i25 i29 i30 i31 i36 i37 i38 : Int) (r73 r74 r75 r76 r77 r78 r79 r80 r81 r82 r83 r84 r85 r86 r87 r88 r89 r90 r91 r92 r93 r94 r95 : Int → Int) (a2 : Int) : Option ezq_V → (Nat → ezq_C) → Prop := fun v g' => ezm_h e F A i0 i2 i3 i7 i8 i13 i18 i19 i20 i25 i29 i30 i31 i36 i37 i38 r73 r74 r75 r76 r77 r78 r79 r80 r81 r82 r83 r84 r85 r86 r87 r88 r89 r90 r91 r92 r93 r94 r95 = g' ∧ ∃ u : Int, (0 ≤ u ∧ u ≤ 1) ∧ (u = 1 → ezm_exb r88 1051 (r88 1050) a2) ∧ some (ezw_i u) = v
theorem ezm_m260_v1050 {a2 : Int} (hT : ezm_T i0 i2 i3 i7 i8 i13 i18 i19 i20 i25 i29 i30 i31 i36 i37 i38 r73 r74 r75 r76 r77 r78 r79 r80 r81 r82 r83 r84 r85 r86 r87 r88 r89 r90 r91 r92 r93 r94 r95) (hd : 0 ≤ d) (ha2 : ezw_in a2) : ezw_C l ρ B xa Hb D cA 260 d [ezw_p 72, ezw_i (1050), ezw_i a2] (ezm_h e F A i0 i2 i3 i7 i8 i13 i18 i19 i20 i25 i29 i30 i31 i36 i37 i38 r73 r74 r75 r76 r77 r78 r79 r80 r81 r82 r83 r84 r85 r86 r87 r88 r89 r90 r91 r92 r93 r94 r95) (ezm_m260_v1050Q  e F A i0 i2 i3 i7 i8 i13 i18 i19 i20 i25 i29 i30 i31 i36 i37 i38 r73 r74 r75 r76 r77 r78 r79 r80 r81 r82 r83 r84 r85 r86 r87 r88 r89 r90 r91 r92 r93 r94 r95 a2) := by
  refine ezw_met (k := 2) rfl rfl ?_
  refine ezw_iconst (0) rfl rfl ?_
  refine ezw_istore_n rfl rfl ?_
  refine ezw_iconst (0) rfl rfl ?_
  refine ezw_istore rfl rfl ?_
  have L5_2 : ∀ c1 : Int, ezw_in c1 → ∀ y3 : Int, ezw_in y3 → ((0) ≤ c1) → (y3 = 0 ∨ y3 = 1) → (y3 = 1 → ezm_exb r88 1051 (r88 1050) a2) → ezw_E l ρ B xa Hb D cA d ezq_re260 (ezm_m260_v1050Q  e F A i0 i2 i3 i7 i8 i13 i18 i19 i20 i25 i29 i30 i31 i36 i37 i38 r73 r74 r75 r76 r77 r78 r79 r80 r81 r82 r83 r84 r85 r86 r87 r88 r89 r90 r91 r92 r93 r94 r95 a2) 5 [some (ezw_p 72), some (ezw_i (1050)), some (ezw_i a2), some (ezw_i y3), some (ezw_i c1)] [] (ezm_h e F A i0 i2 i3 i7 i8 i13 i18 i19 i20 i25 i29 i30 i31 i36 i37 i38 r73 r74 r75 r76 r77 r78 r79 r80 r81 r82 r83 r84 r85 r86 r87 r88 r89 r90 r91 r92 r93 r94 r95) := by
    refine ezs_up ?_
    intro c1 hc1 ihc1 y3 hy3 g_2 v0_2 ov_2
    refine ezw_iload rfl rfl ?_
    refine ezw_aload_n rfl rfl ?_
    refine ezm_gp (p := 88) rfl (fun _ => rfl) ?_
    refine ezw_iload_n rfl rfl ?_
    refine ezw_iconst (0) rfl rfl ?_
    refine ezw_iadd (k := (1050)) rfl (by omega) ?_
    refine ezm_l88 rfl (by omega) (by omega) (fun u4 eu4 => ?_)
    have ku4 : ezm_k88 (1050) u4 := eu4 ▸ hT.t88 (1050)
    have zu4 := ezm_zs0 ku4 (by omega)
    refine ezw_icmp_ge rfl rfl hc1 (ezm_in88 ku4) (fun h15_4 => ?_) (fun h15_4 => ?_)
    · refine ezw_iload_n rfl rfl ?_
      exact ezw_ireturn rfl (ezw_zret ⟨by omega, by omega⟩) ⟨rfl, y3, ⟨by omega, by omega⟩, ov_2, rfl⟩
    · refine ezw_iload_n rfl rfl ?_
      refine ezw_if_ne rfl rfl hy3 (fun h19_4 => ?_) (fun h19_4 => ?_)
      · refine ezw_iconst (1) rfl rfl ?_
        refine ezw_goto rfl rfl ?_
        refine ezw_istore_n rfl rfl ?_
        refine ezw_iinc (k := c1 + 1) (1) rfl rfl rfl (by omega) rfl ?_
        refine ezw_goto rfl rfl ?_
        exact ezw_keepE [true, true, true, true, true] (ihc1 (c1 + 1) (by omega) ⟨by omega, by omega⟩ (1) ⟨by decide, by decide⟩ (by omega) (by omega) (by
              first
                | exact fun _ => ov_2 (by omega)
                | exact fun _ => ⟨c1, by omega, by omega, by omega⟩))
      · refine ezw_aload_n rfl rfl ?_
        refine ezm_gp (p := 88) rfl (fun _ => rfl) ?_
        refine ezw_iload_n rfl rfl ?_
        refine ezw_iconst (1) rfl rfl ?_
        refine ezw_iadd (k := (1051)) rfl (by omega) ?_
        refine ezw_iload rfl rfl ?_
        refine ezw_iadd (k := c1 + 1051) rfl (by omega) ?_
        refine ezm_l88 rfl (by omega) (by omega) (fun u5 eu5 => ?_)
        have ku5 : ezm_k88 (c1 + 1051) u5 := eu5 ▸ hT.t88 (c1 + 1051)
        have zu5 := ezm_zs1 ku5 (by omega)
        refine ezw_iload_n rfl rfl ?_
        refine ezw_icmp_ne rfl rfl (ezm_in88 ku5) ha2 (fun h34_5 => ?_) (fun h34_5 => ?_)
        · refine ezw_iconst (0) rfl rfl ?_
          refine ezw_istore_n rfl rfl ?_
          refine ezw_iinc (k := c1 + 1) (1) rfl rfl rfl (by omega) rfl ?_
          refine ezw_goto rfl rfl ?_
          exact ezw_keepE [true, true, true, true, true] (ihc1 (c1 + 1) (by omega) ⟨by omega, by omega⟩ (0) ⟨by decide, by decide⟩ (by omega) (by omega) (fun z => absurd z (by omega)))
        · refine ezw_iconst (1) rfl rfl ?_
          refine ezw_goto rfl rfl ?_
          refine ezw_istore_n rfl rfl ?_
          refine ezw_iinc (k := c1 + 1) (1) rfl rfl rfl (by omega) rfl ?_
          refine ezw_goto rfl rfl ?_
          exact ezw_keepE [true, true, true, true, true] (ihc1 (c1 + 1) (by omega) ⟨by omega, by omega⟩ (1) ⟨by decide, by decide⟩ (by omega) (by omega) (by
                first
                  | exact fun _ => ov_2 (by omega)
                  | exact fun _ => ⟨c1, by omega, by omega, by omega⟩))
  exact ezw_keepE [true, true, true, true, true] (L5_2 (0) ⟨by decide, by decide⟩ (0) ⟨by decide, by decide⟩ (by omega) (by omega) (fun z => absurd z (by omega)))
def ezm_m286_v1050Q (e : Bool × Bool) (F : Nat → Nat → Int) (A : Nat → Int → Int) (i0 i2 i3 i7 i8 i13 i18 i19 i20 i25 i29 i30 i31 i36 i37 i38 : Int) (r73 r74 r75 r76 r77 r78 r79 r80 r81 r82 r83 r84 r85 r86 r87 r88 r89 r90 r91 r92 r93 r94 r95 : Int → Int) (a2 : Int) (a3 : Int) : Option ezq_V → (Nat → ezq_C) → Prop := fun v g' => ezm_h e F A i0 i2 i3 i7 i8 i13 i18 i19 i20 i25 i29 i30 i31 i36 i37 i38 r73 r74 r75 r76 r77 r78 r79 r80 r81 r82 r83 r84 r85 r86 r87 r88 r89 r90 r91 r92 r93 r94 r95 = g' ∧ ∃ u : Int, (0 ≤ u ∧ u ≤ 1) ∧ some (ezw_i u) = v
theorem ezm_m286_v1050 {a2 a3 : Int} (hT : ezm_T i0 i2 i3 i7 i8 i13 i18 i19 i20 i25 i29 i30 i31 i36 i37 i38 r73 r74 r75 r76 r77 r78 r79 r80 r81 r82 r83 r84 r85 r86 r87 r88 r89 r90 r91 r92 r93 r94 r95) (hd : 2 ≤ d) (ha2 : ezw_in a2) (ha3 : ezw_in a3) (ga : 0 ≤ a2 ∧ a2 ≤ 7) (tr : ezm_TR r78 r79 r80) (sv : ezm_SV r78 r88 (1050)) : ezw_C l ρ B xa Hb D cA 286 d [ezw_p 72, ezw_i (1050), ezw_i a2, ezw_i a3] (ezm_h e F A i0 i2 i3 i7 i8 i13 i18 i19 i20 i25 i29 i30 i31 i36 i37 i38 r73 r74 r75 r76 r77 r78 r79 r80 r81 r82 r83 r84 r85 r86 r87 r88 r89 r90 r91 r92 r93 r94 r95) (ezm_m286_v1050Q  e F A i0 i2 i3 i7 i8 i13 i18 i19 i20 i25 i29 i30 i31 i36 i37 i38 r73 r74 r75 r76 r77 r78 r79 r80 r81 r82 r83 r84 r85 r86 r87 r88 r89 r90 r91 r92 r93 r94 r95 a2 a3) := by
  refine ezw_met (k := 0) rfl rfl ?_
  refine ezw_aload_n rfl rfl ?_
  refine ezw_iload_n rfl rfl ?_
  refine ezw_call0_1 rfl (by omega) (ezm_at rfl) rfl rfl rfl rfl (ezm_m266_v1050 hT (by omega)) ?_
  rintro _ _ ⟨rfl, u2, hu2, p1_0, p1_1, rfl⟩
  refine ezw_if_eq rfl rfl ⟨by omega, by omega⟩ (fun h5_2 => ?_) (fun h5_2 => ?_)
  · refine ezw_iconst (0) rfl rfl ?_
    exact ezw_ireturn rfl (ezw_zret ⟨by omega, by omega⟩) ⟨rfl, (0), ⟨by omega, by omega⟩, rfl⟩
  · refine ezw_aload_n rfl rfl ?_
    refine ezw_iload_n rfl rfl ?_
    refine ezw_iload_n rfl rfl ?_
    refine ezw_call0_2 rfl (by omega) (ezm_at rfl) rfl rfl rfl rfl (ezm_m260_v1050 hT (by omega) ha2) ?_
    rintro _ _ ⟨rfl, u4, hu4, ov_3, rfl⟩
    refine ezw_if_eq rfl rfl ⟨by omega, by omega⟩ (fun h14_4 => ?_) (fun h14_4 => ?_)
    · refine ezw_iconst (0) rfl rfl ?_
      exact ezw_ireturn rfl (ezw_zret ⟨by omega, by omega⟩) ⟨rfl, (0), ⟨by omega, by omega⟩, rfl⟩
    · obtain ⟨ko, ko0, ko1, ko2⟩ := ov_3 (by omega)
      have hlt : r88 (ko + 1051) < r78 0 := sv.2 ko ko0 ko1
      have eko : a2 = r88 (ko + 1051) := ko2
      refine ezw_iload_n rfl rfl ?_
      refine ezw_if_eq rfl rfl ha3 (fun h18_4 => ?_) (fun h18_4 => ?_)
      · refine ezw_aload_n rfl rfl ?_
        refine ezw_iload_n rfl rfl ?_
        refine ezw_call0_1 rfl (by omega) (ezm_at rfl) rfl rfl rfl rfl (ezm_m287 hT (by omega) ha2 (by omega) tr) ?_
        rintro _ _ ⟨rfl, u6, hu6, rfl⟩
        refine ezw_if_eq rfl rfl ⟨by omega, by omega⟩ (fun h53_6 => ?_) (fun h53_6 => ?_)
        · refine ezw_iconst (0) rfl rfl ?_
          exact ezw_ireturn rfl (ezw_zret ⟨by omega, by omega⟩) ⟨rfl, (0), ⟨by omega, by omega⟩, rfl⟩
        · refine ezw_iconst (1) rfl rfl ?_
          refine ezw_goto rfl rfl ?_
          exact ezw_ireturn rfl (ezw_zret ⟨by omega, by omega⟩) ⟨rfl, (1), ⟨by omega, by omega⟩, rfl⟩
      · refine ezw_aload_n rfl rfl ?_
        refine ezw_iload_n rfl rfl ?_
        refine ezw_iconst (0) rfl rfl ?_
        refine ezw_call0_2 rfl (by omega) (ezm_at rfl) rfl rfl rfl rfl (ezm_m259_v0 hT (by omega) ha2 (by omega)) ?_
        rintro _ _ ⟨rfl, u8, hu8, tw_7, rfl⟩
        refine ezw_aload_n rfl rfl ?_
        refine ezm_gp (p := 78) rfl (fun _ => rfl) ?_
        refine ezw_bipush (11) rfl rfl ?_
        refine ezm_l78 rfl (by omega) (by omega) (fun u9 eu9 => ?_)
        have ku9 : ezm_k78 (11) u9 := eu9 ▸ hT.t78 (11)
        refine ezw_aload_n rfl rfl ?_
        refine ezm_gp (p := 78) rfl (fun _ => rfl) ?_
        refine ezw_bipush (12) rfl rfl ?_
        refine ezm_l78 rfl (by omega) (by omega) (fun u10 eu10 => ?_)
        have ku10 : ezm_k78 (12) u10 := eu10 ▸ hT.t78 (12)
        refine ezs_iadd rfl (fun u11 hu11 => ?_)
        refine ezw_icmp_gt rfl rfl hu8 hu11 (fun h42_11 => ?_) (fun h42_11 => ?_)
        · refine ezw_iconst (0) rfl rfl ?_
          exact ezw_ireturn rfl (ezw_zret ⟨by omega, by omega⟩) ⟨rfl, (0), ⟨by omega, by omega⟩, rfl⟩
        · refine ezw_goto rfl rfl ?_
          refine ezw_iconst (1) rfl rfl ?_
          refine ezw_goto rfl rfl ?_
          exact ezw_ireturn rfl (ezw_zret ⟨by omega, by omega⟩) ⟨rfl, (1), ⟨by omega, by omega⟩, rfl⟩
def ezm_m289_v1050Q (e : Bool × Bool) (F : Nat → Nat → Int) (A : Nat → Int → Int) (i0 i2 i3 i7 i8 i13 i18 i19 i20 i25 i29 i30 i31 i36 i37 i38 : Int) (r73 r74 r75 r76 r77 r78 r79 r80 r81 r82 r83 r84 r85 r86 r87 r88 r89 r90 r91 r92 r93 r94 r95 : Int → Int) (a2 : Int) : Option ezq_V → (Nat → ezq_C) → Prop := fun v g' => ∃  (x88 : Int → Int), ezm_h e F A i0 i2 i3 i7 i8 i13 i18 i19 i20 i25 i29 i30 i31 i36 i37 i38 r73 r74 r75 r76 r77 r78 r79 r80 r81 r82 r83 r84 r85 r86 r87 x88 r89 r90 r91 r92 r93 r94 r95 = g' ∧ ezm_T i0 i2 i3 i7 i8 i13 i18 i19 i20 i25 i29 i30 i31 i36 i37 i38 r73 r74 r75 r76 r77 r78 r79 r80 r81 r82 r83 r84 r85 r86 r87 x88 r89 r90 r91 r92 r93 r94 r95 ∧ (∀ j, j < 1050 ∨ 1070 ≤ j → x88 j = r88 j) ∧ (ezm_SV r78 x88 (1050)) ∧ none = v
theorem ezm_m289_v1050 {a2 : Int} (hT : ezm_T i0 i2 i3 i7 i8 i13 i18 i19 i20 i25 i29 i30 i31 i36 i37 i38 r73 r74 r75 r76 r77 r78 r79 r80 r81 r82 r83 r84 r85 r86 r87 r88 r89 r90 r91 r92 r93 r94 r95) (hd : 1 ≤ d) (ha2 : ezw_in a2) (sv : ezm_SV r78 r88 (1050)) : ezw_C l ρ B xa Hb D cA 289 d [ezw_p 72, ezw_i (1050), ezw_i a2] (ezm_h e F A i0 i2 i3 i7 i8 i13 i18 i19 i20 i25 i29 i30 i31 i36 i37 i38 r73 r74 r75 r76 r77 r78 r79 r80 r81 r82 r83 r84 r85 r86 r87 r88 r89 r90 r91 r92 r93 r94 r95) (ezm_m289_v1050Q  e F A i0 i2 i3 i7 i8 i13 i18 i19 i20 i25 i29 i30 i31 i36 i37 i38 r73 r74 r75 r76 r77 r78 r79 r80 r81 r82 r83 r84 r85 r86 r87 r88 r89 r90 r91 r92 r93 r94 r95 a2) := by
  refine ezw_met (k := 1) rfl rfl ?_
  have b0 := ezm_zs0 (hT.t88 (1050)) (by decide)
  refine ezw_aload_n rfl rfl ?_
  refine ezm_gp (p := 88) rfl (fun _ => rfl) ?_
  refine ezw_iload_n rfl rfl ?_
  refine ezw_bipush (15) rfl rfl ?_
  refine ezw_iadd (k := (1065)) rfl (by omega) ?_
  refine ezw_aload_n rfl rfl ?_
  refine ezm_gp (p := 88) rfl (fun _ => rfl) ?_
  refine ezw_iload_n rfl rfl ?_
  refine ezw_bipush (15) rfl rfl ?_
  refine ezw_iadd (k := (1065)) rfl (by omega) ?_
  refine ezm_l88 rfl (by omega) (by omega) (fun u1 eu1 => ?_)
  have ku1 : ezm_k88 (1065) u1 := eu1 ▸ hT.t88 (1065)
  refine ezw_iconst (1) rfl rfl ?_
  refine ezs_iadd rfl (fun u2 hu2 => ?_)
  refine ezw_bipush (24) rfl rfl ?_
  refine ezm_irem rfl hu2 ⟨by decide, by decide⟩ (by decide) (fun u3 hu3 ku3 => ?_)
  refine ezm_s88 hT rfl (by omega) (by omega) ⟨hu3, by omega, by omega, by omega, by omega, by omega⟩ (fun r88_4 hT er88_4 fr88_4 => ?_)
  refine ezw_aload_n rfl rfl ?_
  refine ezm_gp (p := 88) rfl (fun _ => rfl) ?_
  refine ezw_iload_n rfl rfl ?_
  refine ezw_bipush (16) rfl rfl ?_
  refine ezw_iadd (k := (1066)) rfl (by omega) ?_
  refine ezw_iload_n rfl rfl ?_
  refine ezm_s88 hT rfl (by omega) (by omega) ⟨ha2, by omega, by omega, by omega, by omega, by omega⟩ (fun r88_5 hT er88_5 fr88_5 => ?_)
  refine ezw_aload_n rfl rfl ?_
  refine ezw_iload_n rfl rfl ?_
  refine ezw_call0_1 rfl (by omega) (ezm_at rfl) rfl rfl rfl rfl (ezm_m266_v1050 hT (by omega)) ?_
  rintro _ _ ⟨rfl, u7, hu7, p6_0, p6_1, rfl⟩
  refine ezw_if_eq rfl rfl ⟨by omega, by omega⟩ (fun h38_7 => ?_) (fun h38_7 => ?_)
  · exact ezw_return rfl rfl ⟨r88_5, rfl, hT, fun j hj => by rw [fr88_5 j (by omega), fr88_4 j (by omega)], ezm_SV_fr2 sv b0.2 (fun j hj => by rw [fr88_5 j (by omega), fr88_4 j (by omega)]), rfl⟩
  · refine ezw_aload_n rfl rfl ?_
    refine ezm_gp (p := 88) rfl (fun _ => rfl) ?_
    refine ezw_iload_n rfl rfl ?_
    refine ezw_bipush (15) rfl rfl ?_
    refine ezw_iadd (k := (1065)) rfl (by omega) ?_
    refine ezm_l88 rfl (by omega) (by omega) (fun u8 eu8 => ?_)
    have ku8 : ezm_k88 (1065) u8 := eu8 ▸ hT.t88 (1065)
    refine ezw_call2_1 rfl (by omega) rfl rfl (ezm_m290 hT (by omega) (ezm_in88 ku8)) ?_
    rintro _ _ ⟨rfl, u10, hu10, rfl⟩
    refine ezw_if_eq rfl rfl ⟨by omega, by omega⟩ (fun h53_10 => ?_) (fun h53_10 => ?_)
    · exact ezw_return rfl rfl ⟨r88_5, rfl, hT, fun j hj => by rw [fr88_5 j (by omega), fr88_4 j (by omega)], ezm_SV_fr2 sv b0.2 (fun j hj => by rw [fr88_5 j (by omega), fr88_4 j (by omega)]), rfl⟩
    · refine ezw_aload_n rfl rfl ?_
      refine ezm_gp (p := 88) rfl (fun _ => rfl) ?_
      refine ezw_iload_n rfl rfl ?_
      refine ezw_bipush (18) rfl rfl ?_
      refine ezw_iadd (k := (1068)) rfl (by omega) ?_
      refine ezm_l88 rfl (by omega) (by omega) (fun u11 eu11 => ?_)
      have ku11 : ezm_k88 (1068) u11 := eu11 ▸ hT.t88 (1068)
      refine ezw_aload_n rfl rfl ?_
      refine ezm_gp (p := 78) rfl (fun _ => rfl) ?_
      refine ezw_bipush (10) rfl rfl ?_
      refine ezm_l78 rfl (by omega) (by omega) (fun u12 eu12 => ?_)
      have ku12 : ezm_k78 (10) u12 := eu12 ▸ hT.t78 (10)
      refine ezs_isub rfl (fun u13 hu13 => ?_)
      refine ezw_istore_n rfl rfl ?_
      refine ezw_aload_n rfl rfl ?_
      refine ezm_gp (p := 88) rfl (fun _ => rfl) ?_
      refine ezw_iload_n rfl rfl ?_
      refine ezw_bipush (18) rfl rfl ?_
      refine ezw_iadd (k := (1068)) rfl (by omega) ?_
      refine ezw_iload_n rfl rfl ?_
      refine ezw_if_ge rfl rfl hu13 (fun h83_13 => ?_) (fun h83_13 => ?_)
      · refine ezw_iload_n rfl rfl ?_
        refine ezm_s88 hT rfl (by omega) (by omega) ⟨hu13, by omega, by omega, by omega, by omega, by omega⟩ (fun r88_14 hT er88_14 fr88_14 => ?_)
        exact ezw_return rfl rfl ⟨r88_14, rfl, hT, fun j hj => by rw [fr88_14 j (by omega), fr88_5 j (by omega), fr88_4 j (by omega)], ezm_SV_fr2 sv b0.2 (fun j hj => by rw [fr88_14 j (by omega), fr88_5 j (by omega), fr88_4 j (by omega)]), rfl⟩
      · refine ezw_iconst (0) rfl rfl ?_
        refine ezw_goto rfl rfl ?_
        refine ezm_s88 hT rfl (by omega) (by omega) ⟨⟨by decide, by decide⟩, by omega, by omega, by omega, by omega, by omega⟩ (fun r88_15 hT er88_15 fr88_15 => ?_)
        exact ezw_return rfl rfl ⟨r88_15, rfl, hT, fun j hj => by rw [fr88_15 j (by omega), fr88_5 j (by omega), fr88_4 j (by omega)], ezm_SV_fr2 sv b0.2 (fun j hj => by rw [fr88_15 j (by omega), fr88_5 j (by omega), fr88_4 j (by omega)]), rfl⟩
def ezm_m293_v0Q (e : Bool × Bool) (F : Nat → Nat → Int) (A : Nat → Int → Int) (i0 i2 i3 i7 i8 i13 i18 i19 i20 i25 i29 i30 i31 i36 i37 i38 : Int) (r73 r74 r75 r76 r77 r78 r79 r80 r81 r82 r83 r84 r85 r86 r87 r88 r89 r90 r91 r92 r93 r94 r95 : Int → Int) : Option ezq_V → (Nat → ezq_C) → Prop := fun v g' => ezm_h e F A i0 i2 i3 i7 i8 i13 i18 i19 i20 i25 i29 i30 i31 i36 i37 i38 r73 r74 r75 r76 r77 r78 r79 r80 r81 r82 r83 r84 r85 r86 r87 r88 r89 r90 r91 r92 r93 r94 r95 = g' ∧ ∃ u : Int, (ezw_in u) ∧ some (ezw_i u) = v
theorem ezm_m293_v0 (hT : ezm_T i0 i2 i3 i7 i8 i13 i18 i19 i20 i25 i29 i30 i31 i36 i37 i38 r73 r74 r75 r76 r77 r78 r79 r80 r81 r82 r83 r84 r85 r86 r87 r88 r89 r90 r91 r92 r93 r94 r95) (hd : 1 ≤ d) : ezw_C l ρ B xa Hb D cA 293 d [ezw_p 72, ezw_i (0)] (ezm_h e F A i0 i2 i3 i7 i8 i13 i18 i19 i20 i25 i29 i30 i31 i36 i37 i38 r73 r74 r75 r76 r77 r78 r79 r80 r81 r82 r83 r84 r85 r86 r87 r88 r89 r90 r91 r92 r93 r94 r95) (ezm_m293_v0Q  e F A i0 i2 i3 i7 i8 i13 i18 i19 i20 i25 i29 i30 i31 i36 i37 i38 r73 r74 r75 r76 r77 r78 r79 r80 r81 r82 r83 r84 r85 r86 r87 r88 r89 r90 r91 r92 r93 r94 r95) := by
  refine ezw_met (k := 2) rfl rfl ?_
  refine ezw_aload_n rfl rfl ?_
  refine ezm_gp (p := 88) rfl (fun _ => rfl) ?_
  refine ezw_iload_n rfl rfl ?_
  refine ezw_bipush (17) rfl rfl ?_
  refine ezw_iadd (k := (17)) rfl (by omega) ?_
  refine ezm_l88 rfl (by omega) (by omega) (fun u1 eu1 => ?_)
  have ku1 : ezm_k88 (17) u1 := eu1 ▸ hT.t88 (17)
  refine ezw_iconst (1) rfl rfl ?_
  refine ezw_icmp_ne rfl rfl (ezm_in88 ku1) ⟨by decide, by decide⟩ (fun h10_1 => ?_) (fun h10_1 => ?_)
  · refine ezw_iconst (0) rfl rfl ?_
    refine ezw_istore_n rfl rfl ?_
    refine ezw_iconst (0) rfl rfl ?_
    refine ezw_istore_n rfl rfl ?_
    have L38_3 : ∀ c2 : Int, ezw_in c2 → ∀ y4 : Int, ezw_in y4 → ((0) ≤ c2) → ezw_E l ρ B xa Hb D cA d ezq_re293 (ezm_m293_v0Q  e F A i0 i2 i3 i7 i8 i13 i18 i19 i20 i25 i29 i30 i31 i36 i37 i38 r73 r74 r75 r76 r77 r78 r79 r80 r81 r82 r83 r84 r85 r86 r87 r88 r89 r90 r91 r92 r93 r94 r95) 38 [some (ezw_p 72), some (ezw_i (0)), some (ezw_i y4), some (ezw_i c2)] [] (ezm_h e F A i0 i2 i3 i7 i8 i13 i18 i19 i20 i25 i29 i30 i31 i36 i37 i38 r73 r74 r75 r76 r77 r78 r79 r80 r81 r82 r83 r84 r85 r86 r87 r88 r89 r90 r91 r92 r93 r94 r95) := by
      refine ezs_up ?_
      intro c2 hc2 ihc2 y4 hy4 g_3
      refine ezw_iload_n rfl rfl ?_
      refine ezw_aload_n rfl rfl ?_
      refine ezw_call0_0 rfl (by omega) (ezm_at rfl) rfl rfl rfl rfl (ezm_m216 hT (by omega)) ?_
      rintro _ _ ⟨rfl, u6, hu6, p5_0, p5_1, rfl⟩
      refine ezw_icmp_ge rfl rfl hc2 hu6 (fun h43_6 => ?_) (fun h43_6 => ?_)
      · refine ezw_iload_n rfl rfl ?_
        exact ezw_ireturn rfl rfl ⟨rfl, y4, hy4, rfl⟩
      · refine ezw_iload_n rfl rfl ?_
        refine ezw_aload_n rfl rfl ?_
        refine ezm_gp (p := 88) rfl (fun _ => rfl) ?_
        refine ezw_iload_n rfl rfl ?_
        refine ezw_bipush (19) rfl rfl ?_
        refine ezw_iadd (k := (19)) rfl (by omega) ?_
        refine ezm_l88 rfl (by omega) (by omega) (fun u7 eu7 => ?_)
        have ku7 : ezm_k88 (19) u7 := eu7 ▸ hT.t88 (19)
        have zu7 := ezm_zs19 ku7 (by omega)
        refine ezw_iload_n rfl rfl ?_
        refine ezw_ishrO rfl (fun u8 hu8 => ?_)
        refine ezw_iconst (1) rfl rfl ?_
        refine ezm_iand rfl (fun u9 hu9 ku9 => ?_)
        refine ezw_iconst (1) rfl rfl ?_
        refine ezw_icmp_ne rfl rfl hu9 ⟨by decide, by decide⟩ (fun h61_9 => ?_) (fun h61_9 => ?_)
        · refine ezw_iconst (0) rfl rfl ?_
          refine ezs_iadd rfl (fun u10 hu10 => ?_)
          refine ezw_istore_n rfl rfl ?_
          refine ezw_iinc (k := c2 + 1) (1) rfl rfl rfl (by omega) rfl ?_
          refine ezw_goto rfl rfl ?_
          exact ezw_keepE [true, true, true, true] (ihc2 (c2 + 1) (by omega) ⟨by omega, by omega⟩ u10 hu10 (by omega))
        · refine ezw_aload_n rfl rfl ?_
          refine ezw_iload_n rfl rfl ?_
          refine ezw_iconst (0) rfl rfl ?_
          refine ezw_call0_2 rfl (by omega) (ezm_at rfl) rfl rfl rfl rfl (ezm_m263 hT (by omega) hc2 ⟨by decide, by decide⟩ (by omega) (by omega)) ?_
          rintro _ _ ⟨rfl, u12, hu12, rfl⟩
          refine ezw_goto rfl rfl ?_
          refine ezs_iadd rfl (fun u13 hu13 => ?_)
          refine ezw_istore_n rfl rfl ?_
          refine ezw_iinc (k := c2 + 1) (1) rfl rfl rfl (by omega) rfl ?_
          refine ezw_goto rfl rfl ?_
          exact ezw_keepE [true, true, true, true] (ihc2 (c2 + 1) (by omega) ⟨by omega, by omega⟩ u13 hu13 (by omega))
    exact ezw_keepE [true, true, true, true] (L38_3 (0) ⟨by decide, by decide⟩ (0) ⟨by decide, by decide⟩ (by omega))
  · refine ezw_aload_n rfl rfl ?_
    refine ezm_gp (p := 88) rfl (fun _ => rfl) ?_
    refine ezw_iload_n rfl rfl ?_
    refine ezw_bipush (18) rfl rfl ?_
    refine ezw_iadd (k := (18)) rfl (by omega) ?_
    refine ezm_l88 rfl (by omega) (by omega) (fun u14 eu14 => ?_)
    have ku14 : ezm_k88 (18) u14 := eu14 ▸ hT.t88 (18)
    refine ezw_if_le rfl rfl (ezm_in88 ku14) (fun h22_14 => ?_) (fun h22_14 => ?_)
    · refine ezw_iconst (0) rfl rfl ?_
      refine ezw_istore_n rfl rfl ?_
      refine ezw_iconst (0) rfl rfl ?_
      refine ezw_istore_n rfl rfl ?_
      have L38_16 : ∀ c15 : Int, ezw_in c15 → ∀ y17 : Int, ezw_in y17 → ((0) ≤ c15) → ezw_E l ρ B xa Hb D cA d ezq_re293 (ezm_m293_v0Q  e F A i0 i2 i3 i7 i8 i13 i18 i19 i20 i25 i29 i30 i31 i36 i37 i38 r73 r74 r75 r76 r77 r78 r79 r80 r81 r82 r83 r84 r85 r86 r87 r88 r89 r90 r91 r92 r93 r94 r95) 38 [some (ezw_p 72), some (ezw_i (0)), some (ezw_i y17), some (ezw_i c15)] [] (ezm_h e F A i0 i2 i3 i7 i8 i13 i18 i19 i20 i25 i29 i30 i31 i36 i37 i38 r73 r74 r75 r76 r77 r78 r79 r80 r81 r82 r83 r84 r85 r86 r87 r88 r89 r90 r91 r92 r93 r94 r95) := by
        refine ezs_up ?_
        intro c15 hc15 ihc15 y17 hy17 g_16
        refine ezw_iload_n rfl rfl ?_
        refine ezw_aload_n rfl rfl ?_
        refine ezw_call0_0 rfl (by omega) (ezm_at rfl) rfl rfl rfl rfl (ezm_m216 hT (by omega)) ?_
        rintro _ _ ⟨rfl, u19, hu19, p18_0, p18_1, rfl⟩
        refine ezw_icmp_ge rfl rfl hc15 hu19 (fun h43_19 => ?_) (fun h43_19 => ?_)
        · refine ezw_iload_n rfl rfl ?_
          exact ezw_ireturn rfl rfl ⟨rfl, y17, hy17, rfl⟩
        · refine ezw_iload_n rfl rfl ?_
          refine ezw_aload_n rfl rfl ?_
          refine ezm_gp (p := 88) rfl (fun _ => rfl) ?_
          refine ezw_iload_n rfl rfl ?_
          refine ezw_bipush (19) rfl rfl ?_
          refine ezw_iadd (k := (19)) rfl (by omega) ?_
          refine ezm_l88 rfl (by omega) (by omega) (fun u20 eu20 => ?_)
          have ku20 : ezm_k88 (19) u20 := eu20 ▸ hT.t88 (19)
          have zu20 := ezm_zs19 ku20 (by omega)
          refine ezw_iload_n rfl rfl ?_
          refine ezw_ishrO rfl (fun u21 hu21 => ?_)
          refine ezw_iconst (1) rfl rfl ?_
          refine ezm_iand rfl (fun u22 hu22 ku22 => ?_)
          refine ezw_iconst (1) rfl rfl ?_
          refine ezw_icmp_ne rfl rfl hu22 ⟨by decide, by decide⟩ (fun h61_22 => ?_) (fun h61_22 => ?_)
          · refine ezw_iconst (0) rfl rfl ?_
            refine ezs_iadd rfl (fun u23 hu23 => ?_)
            refine ezw_istore_n rfl rfl ?_
            refine ezw_iinc (k := c15 + 1) (1) rfl rfl rfl (by omega) rfl ?_
            refine ezw_goto rfl rfl ?_
            exact ezw_keepE [true, true, true, true] (ihc15 (c15 + 1) (by omega) ⟨by omega, by omega⟩ u23 hu23 (by omega))
          · refine ezw_aload_n rfl rfl ?_
            refine ezw_iload_n rfl rfl ?_
            refine ezw_iconst (0) rfl rfl ?_
            refine ezw_call0_2 rfl (by omega) (ezm_at rfl) rfl rfl rfl rfl (ezm_m263 hT (by omega) hc15 ⟨by decide, by decide⟩ (by omega) (by omega)) ?_
            rintro _ _ ⟨rfl, u25, hu25, rfl⟩
            refine ezw_goto rfl rfl ?_
            refine ezs_iadd rfl (fun u26 hu26 => ?_)
            refine ezw_istore_n rfl rfl ?_
            refine ezw_iinc (k := c15 + 1) (1) rfl rfl rfl (by omega) rfl ?_
            refine ezw_goto rfl rfl ?_
            exact ezw_keepE [true, true, true, true] (ihc15 (c15 + 1) (by omega) ⟨by omega, by omega⟩ u26 hu26 (by omega))
      exact ezw_keepE [true, true, true, true] (L38_16 (0) ⟨by decide, by decide⟩ (0) ⟨by decide, by decide⟩ (by omega))
    · refine ezw_aload_n rfl rfl ?_
      refine ezm_gp (p := 78) rfl (fun _ => rfl) ?_
      refine ezw_iconst (4) rfl rfl ?_
      refine ezm_l78 rfl (by omega) (by omega) (fun u27 eu27 => ?_)
      have ku27 : ezm_k78 (4) u27 := eu27 ▸ hT.t78 (4)
      refine ezw_goto rfl rfl ?_
      refine ezw_istore_n rfl rfl ?_
      refine ezw_iconst (0) rfl rfl ?_
      refine ezw_istore_n rfl rfl ?_
      have L38_29 : ∀ c28 : Int, ezw_in c28 → ∀ y30 : Int, ezw_in y30 → ((0) ≤ c28) → ezw_E l ρ B xa Hb D cA d ezq_re293 (ezm_m293_v0Q  e F A i0 i2 i3 i7 i8 i13 i18 i19 i20 i25 i29 i30 i31 i36 i37 i38 r73 r74 r75 r76 r77 r78 r79 r80 r81 r82 r83 r84 r85 r86 r87 r88 r89 r90 r91 r92 r93 r94 r95) 38 [some (ezw_p 72), some (ezw_i (0)), some (ezw_i y30), some (ezw_i c28)] [] (ezm_h e F A i0 i2 i3 i7 i8 i13 i18 i19 i20 i25 i29 i30 i31 i36 i37 i38 r73 r74 r75 r76 r77 r78 r79 r80 r81 r82 r83 r84 r85 r86 r87 r88 r89 r90 r91 r92 r93 r94 r95) := by
        refine ezs_up ?_
        intro c28 hc28 ihc28 y30 hy30 g_29
        refine ezw_iload_n rfl rfl ?_
        refine ezw_aload_n rfl rfl ?_
        refine ezw_call0_0 rfl (by omega) (ezm_at rfl) rfl rfl rfl rfl (ezm_m216 hT (by omega)) ?_
        rintro _ _ ⟨rfl, u32, hu32, p31_0, p31_1, rfl⟩
        refine ezw_icmp_ge rfl rfl hc28 hu32 (fun h43_32 => ?_) (fun h43_32 => ?_)
        · refine ezw_iload_n rfl rfl ?_
          exact ezw_ireturn rfl rfl ⟨rfl, y30, hy30, rfl⟩
        · refine ezw_iload_n rfl rfl ?_
          refine ezw_aload_n rfl rfl ?_
          refine ezm_gp (p := 88) rfl (fun _ => rfl) ?_
          refine ezw_iload_n rfl rfl ?_
          refine ezw_bipush (19) rfl rfl ?_
          refine ezw_iadd (k := (19)) rfl (by omega) ?_
          refine ezm_l88 rfl (by omega) (by omega) (fun u33 eu33 => ?_)
          have ku33 : ezm_k88 (19) u33 := eu33 ▸ hT.t88 (19)
          have zu33 := ezm_zs19 ku33 (by omega)
          refine ezw_iload_n rfl rfl ?_
          refine ezw_ishrO rfl (fun u34 hu34 => ?_)
          refine ezw_iconst (1) rfl rfl ?_
          refine ezm_iand rfl (fun u35 hu35 ku35 => ?_)
          refine ezw_iconst (1) rfl rfl ?_
          refine ezw_icmp_ne rfl rfl hu35 ⟨by decide, by decide⟩ (fun h61_35 => ?_) (fun h61_35 => ?_)
          · refine ezw_iconst (0) rfl rfl ?_
            refine ezs_iadd rfl (fun u36 hu36 => ?_)
            refine ezw_istore_n rfl rfl ?_
            refine ezw_iinc (k := c28 + 1) (1) rfl rfl rfl (by omega) rfl ?_
            refine ezw_goto rfl rfl ?_
            exact ezw_keepE [true, true, true, true] (ihc28 (c28 + 1) (by omega) ⟨by omega, by omega⟩ u36 hu36 (by omega))
          · refine ezw_aload_n rfl rfl ?_
            refine ezw_iload_n rfl rfl ?_
            refine ezw_iconst (0) rfl rfl ?_
            refine ezw_call0_2 rfl (by omega) (ezm_at rfl) rfl rfl rfl rfl (ezm_m263 hT (by omega) hc28 ⟨by decide, by decide⟩ (by omega) (by omega)) ?_
            rintro _ _ ⟨rfl, u38, hu38, rfl⟩
            refine ezw_goto rfl rfl ?_
            refine ezs_iadd rfl (fun u39 hu39 => ?_)
            refine ezw_istore_n rfl rfl ?_
            refine ezw_iinc (k := c28 + 1) (1) rfl rfl rfl (by omega) rfl ?_
            refine ezw_goto rfl rfl ?_
            exact ezw_keepE [true, true, true, true] (ihc28 (c28 + 1) (by omega) ⟨by omega, by omega⟩ u39 hu39 (by omega))
      exact ezw_keepE [true, true, true, true] (L38_29 (0) ⟨by decide, by decide⟩ u27 (ezm_in78 ku27) (by omega))
def ezm_m293_v1050Q (e : Bool × Bool) (F : Nat → Nat → Int) (A : Nat → Int → Int) (i0 i2 i3 i7 i8 i13 i18 i19 i20 i25 i29 i30 i31 i36 i37 i38 : Int) (r73 r74 r75 r76 r77 r78 r79 r80 r81 r82 r83 r84 r85 r86 r87 r88 r89 r90 r91 r92 r93 r94 r95 : Int → Int) : Option ezq_V → (Nat → ezq_C) → Prop := fun v g' => ezm_h e F A i0 i2 i3 i7 i8 i13 i18 i19 i20 i25 i29 i30 i31 i36 i37 i38 r73 r74 r75 r76 r77 r78 r79 r80 r81 r82 r83 r84 r85 r86 r87 r88 r89 r90 r91 r92 r93 r94 r95 = g' ∧ ∃ u : Int, (ezw_in u) ∧ some (ezw_i u) = v
theorem ezm_m293_v1050 (hT : ezm_T i0 i2 i3 i7 i8 i13 i18 i19 i20 i25 i29 i30 i31 i36 i37 i38 r73 r74 r75 r76 r77 r78 r79 r80 r81 r82 r83 r84 r85 r86 r87 r88 r89 r90 r91 r92 r93 r94 r95) (hd : 1 ≤ d) : ezw_C l ρ B xa Hb D cA 293 d [ezw_p 72, ezw_i (1050)] (ezm_h e F A i0 i2 i3 i7 i8 i13 i18 i19 i20 i25 i29 i30 i31 i36 i37 i38 r73 r74 r75 r76 r77 r78 r79 r80 r81 r82 r83 r84 r85 r86 r87 r88 r89 r90 r91 r92 r93 r94 r95) (ezm_m293_v1050Q  e F A i0 i2 i3 i7 i8 i13 i18 i19 i20 i25 i29 i30 i31 i36 i37 i38 r73 r74 r75 r76 r77 r78 r79 r80 r81 r82 r83 r84 r85 r86 r87 r88 r89 r90 r91 r92 r93 r94 r95) := by
  refine ezw_met (k := 2) rfl rfl ?_
  refine ezw_aload_n rfl rfl ?_
  refine ezm_gp (p := 88) rfl (fun _ => rfl) ?_
  refine ezw_iload_n rfl rfl ?_
  refine ezw_bipush (17) rfl rfl ?_
  refine ezw_iadd (k := (1067)) rfl (by omega) ?_
  refine ezm_l88 rfl (by omega) (by omega) (fun u1 eu1 => ?_)
  have ku1 : ezm_k88 (1067) u1 := eu1 ▸ hT.t88 (1067)
  refine ezw_iconst (1) rfl rfl ?_
  refine ezw_icmp_ne rfl rfl (ezm_in88 ku1) ⟨by decide, by decide⟩ (fun h10_1 => ?_) (fun h10_1 => ?_)
  · refine ezw_iconst (0) rfl rfl ?_
    refine ezw_istore_n rfl rfl ?_
    refine ezw_iconst (0) rfl rfl ?_
    refine ezw_istore_n rfl rfl ?_
    have L38_3 : ∀ c2 : Int, ezw_in c2 → ∀ y4 : Int, ezw_in y4 → ((0) ≤ c2) → ezw_E l ρ B xa Hb D cA d ezq_re293 (ezm_m293_v1050Q  e F A i0 i2 i3 i7 i8 i13 i18 i19 i20 i25 i29 i30 i31 i36 i37 i38 r73 r74 r75 r76 r77 r78 r79 r80 r81 r82 r83 r84 r85 r86 r87 r88 r89 r90 r91 r92 r93 r94 r95) 38 [some (ezw_p 72), some (ezw_i (1050)), some (ezw_i y4), some (ezw_i c2)] [] (ezm_h e F A i0 i2 i3 i7 i8 i13 i18 i19 i20 i25 i29 i30 i31 i36 i37 i38 r73 r74 r75 r76 r77 r78 r79 r80 r81 r82 r83 r84 r85 r86 r87 r88 r89 r90 r91 r92 r93 r94 r95) := by
      refine ezs_up ?_
      intro c2 hc2 ihc2 y4 hy4 g_3
      refine ezw_iload_n rfl rfl ?_
      refine ezw_aload_n rfl rfl ?_
      refine ezw_call0_0 rfl (by omega) (ezm_at rfl) rfl rfl rfl rfl (ezm_m216 hT (by omega)) ?_
      rintro _ _ ⟨rfl, u6, hu6, p5_0, p5_1, rfl⟩
      refine ezw_icmp_ge rfl rfl hc2 hu6 (fun h43_6 => ?_) (fun h43_6 => ?_)
      · refine ezw_iload_n rfl rfl ?_
        exact ezw_ireturn rfl rfl ⟨rfl, y4, hy4, rfl⟩
      · refine ezw_iload_n rfl rfl ?_
        refine ezw_aload_n rfl rfl ?_
        refine ezm_gp (p := 88) rfl (fun _ => rfl) ?_
        refine ezw_iload_n rfl rfl ?_
        refine ezw_bipush (19) rfl rfl ?_
        refine ezw_iadd (k := (1069)) rfl (by omega) ?_
        refine ezm_l88 rfl (by omega) (by omega) (fun u7 eu7 => ?_)
        have ku7 : ezm_k88 (1069) u7 := eu7 ▸ hT.t88 (1069)
        have zu7 := ezm_zs19 ku7 (by omega)
        refine ezw_iload_n rfl rfl ?_
        refine ezw_ishrO rfl (fun u8 hu8 => ?_)
        refine ezw_iconst (1) rfl rfl ?_
        refine ezm_iand rfl (fun u9 hu9 ku9 => ?_)
        refine ezw_iconst (1) rfl rfl ?_
        refine ezw_icmp_ne rfl rfl hu9 ⟨by decide, by decide⟩ (fun h61_9 => ?_) (fun h61_9 => ?_)
        · refine ezw_iconst (0) rfl rfl ?_
          refine ezs_iadd rfl (fun u10 hu10 => ?_)
          refine ezw_istore_n rfl rfl ?_
          refine ezw_iinc (k := c2 + 1) (1) rfl rfl rfl (by omega) rfl ?_
          refine ezw_goto rfl rfl ?_
          exact ezw_keepE [true, true, true, true] (ihc2 (c2 + 1) (by omega) ⟨by omega, by omega⟩ u10 hu10 (by omega))
        · refine ezw_aload_n rfl rfl ?_
          refine ezw_iload_n rfl rfl ?_
          refine ezw_iconst (0) rfl rfl ?_
          refine ezw_call0_2 rfl (by omega) (ezm_at rfl) rfl rfl rfl rfl (ezm_m263 hT (by omega) hc2 ⟨by decide, by decide⟩ (by omega) (by omega)) ?_
          rintro _ _ ⟨rfl, u12, hu12, rfl⟩
          refine ezw_goto rfl rfl ?_
          refine ezs_iadd rfl (fun u13 hu13 => ?_)
          refine ezw_istore_n rfl rfl ?_
          refine ezw_iinc (k := c2 + 1) (1) rfl rfl rfl (by omega) rfl ?_
          refine ezw_goto rfl rfl ?_
          exact ezw_keepE [true, true, true, true] (ihc2 (c2 + 1) (by omega) ⟨by omega, by omega⟩ u13 hu13 (by omega))
    exact ezw_keepE [true, true, true, true] (L38_3 (0) ⟨by decide, by decide⟩ (0) ⟨by decide, by decide⟩ (by omega))
  · refine ezw_aload_n rfl rfl ?_
    refine ezm_gp (p := 88) rfl (fun _ => rfl) ?_
    refine ezw_iload_n rfl rfl ?_
    refine ezw_bipush (18) rfl rfl ?_
    refine ezw_iadd (k := (1068)) rfl (by omega) ?_
    refine ezm_l88 rfl (by omega) (by omega) (fun u14 eu14 => ?_)
    have ku14 : ezm_k88 (1068) u14 := eu14 ▸ hT.t88 (1068)
    refine ezw_if_le rfl rfl (ezm_in88 ku14) (fun h22_14 => ?_) (fun h22_14 => ?_)
    · refine ezw_iconst (0) rfl rfl ?_
      refine ezw_istore_n rfl rfl ?_
      refine ezw_iconst (0) rfl rfl ?_
      refine ezw_istore_n rfl rfl ?_
      have L38_16 : ∀ c15 : Int, ezw_in c15 → ∀ y17 : Int, ezw_in y17 → ((0) ≤ c15) → ezw_E l ρ B xa Hb D cA d ezq_re293 (ezm_m293_v1050Q  e F A i0 i2 i3 i7 i8 i13 i18 i19 i20 i25 i29 i30 i31 i36 i37 i38 r73 r74 r75 r76 r77 r78 r79 r80 r81 r82 r83 r84 r85 r86 r87 r88 r89 r90 r91 r92 r93 r94 r95) 38 [some (ezw_p 72), some (ezw_i (1050)), some (ezw_i y17), some (ezw_i c15)] [] (ezm_h e F A i0 i2 i3 i7 i8 i13 i18 i19 i20 i25 i29 i30 i31 i36 i37 i38 r73 r74 r75 r76 r77 r78 r79 r80 r81 r82 r83 r84 r85 r86 r87 r88 r89 r90 r91 r92 r93 r94 r95) := by
        refine ezs_up ?_
        intro c15 hc15 ihc15 y17 hy17 g_16
        refine ezw_iload_n rfl rfl ?_
        refine ezw_aload_n rfl rfl ?_
        refine ezw_call0_0 rfl (by omega) (ezm_at rfl) rfl rfl rfl rfl (ezm_m216 hT (by omega)) ?_
        rintro _ _ ⟨rfl, u19, hu19, p18_0, p18_1, rfl⟩
        refine ezw_icmp_ge rfl rfl hc15 hu19 (fun h43_19 => ?_) (fun h43_19 => ?_)
        · refine ezw_iload_n rfl rfl ?_
          exact ezw_ireturn rfl rfl ⟨rfl, y17, hy17, rfl⟩
        · refine ezw_iload_n rfl rfl ?_
          refine ezw_aload_n rfl rfl ?_
          refine ezm_gp (p := 88) rfl (fun _ => rfl) ?_
          refine ezw_iload_n rfl rfl ?_
          refine ezw_bipush (19) rfl rfl ?_
          refine ezw_iadd (k := (1069)) rfl (by omega) ?_
          refine ezm_l88 rfl (by omega) (by omega) (fun u20 eu20 => ?_)
          have ku20 : ezm_k88 (1069) u20 := eu20 ▸ hT.t88 (1069)
          have zu20 := ezm_zs19 ku20 (by omega)
          refine ezw_iload_n rfl rfl ?_
          refine ezw_ishrO rfl (fun u21 hu21 => ?_)
          refine ezw_iconst (1) rfl rfl ?_
          refine ezm_iand rfl (fun u22 hu22 ku22 => ?_)
          refine ezw_iconst (1) rfl rfl ?_
          refine ezw_icmp_ne rfl rfl hu22 ⟨by decide, by decide⟩ (fun h61_22 => ?_) (fun h61_22 => ?_)
          · refine ezw_iconst (0) rfl rfl ?_
            refine ezs_iadd rfl (fun u23 hu23 => ?_)
            refine ezw_istore_n rfl rfl ?_
            refine ezw_iinc (k := c15 + 1) (1) rfl rfl rfl (by omega) rfl ?_
            refine ezw_goto rfl rfl ?_
            exact ezw_keepE [true, true, true, true] (ihc15 (c15 + 1) (by omega) ⟨by omega, by omega⟩ u23 hu23 (by omega))
          · refine ezw_aload_n rfl rfl ?_
            refine ezw_iload_n rfl rfl ?_
            refine ezw_iconst (0) rfl rfl ?_
            refine ezw_call0_2 rfl (by omega) (ezm_at rfl) rfl rfl rfl rfl (ezm_m263 hT (by omega) hc15 ⟨by decide, by decide⟩ (by omega) (by omega)) ?_
            rintro _ _ ⟨rfl, u25, hu25, rfl⟩
            refine ezw_goto rfl rfl ?_
            refine ezs_iadd rfl (fun u26 hu26 => ?_)
            refine ezw_istore_n rfl rfl ?_
            refine ezw_iinc (k := c15 + 1) (1) rfl rfl rfl (by omega) rfl ?_
            refine ezw_goto rfl rfl ?_
            exact ezw_keepE [true, true, true, true] (ihc15 (c15 + 1) (by omega) ⟨by omega, by omega⟩ u26 hu26 (by omega))
      exact ezw_keepE [true, true, true, true] (L38_16 (0) ⟨by decide, by decide⟩ (0) ⟨by decide, by decide⟩ (by omega))
    · refine ezw_aload_n rfl rfl ?_
      refine ezm_gp (p := 78) rfl (fun _ => rfl) ?_
      refine ezw_iconst (4) rfl rfl ?_
      refine ezm_l78 rfl (by omega) (by omega) (fun u27 eu27 => ?_)
      have ku27 : ezm_k78 (4) u27 := eu27 ▸ hT.t78 (4)
      refine ezw_goto rfl rfl ?_
      refine ezw_istore_n rfl rfl ?_
      refine ezw_iconst (0) rfl rfl ?_
      refine ezw_istore_n rfl rfl ?_
      have L38_29 : ∀ c28 : Int, ezw_in c28 → ∀ y30 : Int, ezw_in y30 → ((0) ≤ c28) → ezw_E l ρ B xa Hb D cA d ezq_re293 (ezm_m293_v1050Q  e F A i0 i2 i3 i7 i8 i13 i18 i19 i20 i25 i29 i30 i31 i36 i37 i38 r73 r74 r75 r76 r77 r78 r79 r80 r81 r82 r83 r84 r85 r86 r87 r88 r89 r90 r91 r92 r93 r94 r95) 38 [some (ezw_p 72), some (ezw_i (1050)), some (ezw_i y30), some (ezw_i c28)] [] (ezm_h e F A i0 i2 i3 i7 i8 i13 i18 i19 i20 i25 i29 i30 i31 i36 i37 i38 r73 r74 r75 r76 r77 r78 r79 r80 r81 r82 r83 r84 r85 r86 r87 r88 r89 r90 r91 r92 r93 r94 r95) := by
        refine ezs_up ?_
        intro c28 hc28 ihc28 y30 hy30 g_29
        refine ezw_iload_n rfl rfl ?_
        refine ezw_aload_n rfl rfl ?_
        refine ezw_call0_0 rfl (by omega) (ezm_at rfl) rfl rfl rfl rfl (ezm_m216 hT (by omega)) ?_
        rintro _ _ ⟨rfl, u32, hu32, p31_0, p31_1, rfl⟩
        refine ezw_icmp_ge rfl rfl hc28 hu32 (fun h43_32 => ?_) (fun h43_32 => ?_)
        · refine ezw_iload_n rfl rfl ?_
          exact ezw_ireturn rfl rfl ⟨rfl, y30, hy30, rfl⟩
        · refine ezw_iload_n rfl rfl ?_
          refine ezw_aload_n rfl rfl ?_
          refine ezm_gp (p := 88) rfl (fun _ => rfl) ?_
          refine ezw_iload_n rfl rfl ?_
          refine ezw_bipush (19) rfl rfl ?_
          refine ezw_iadd (k := (1069)) rfl (by omega) ?_
          refine ezm_l88 rfl (by omega) (by omega) (fun u33 eu33 => ?_)
          have ku33 : ezm_k88 (1069) u33 := eu33 ▸ hT.t88 (1069)
          have zu33 := ezm_zs19 ku33 (by omega)
          refine ezw_iload_n rfl rfl ?_
          refine ezw_ishrO rfl (fun u34 hu34 => ?_)
          refine ezw_iconst (1) rfl rfl ?_
          refine ezm_iand rfl (fun u35 hu35 ku35 => ?_)
          refine ezw_iconst (1) rfl rfl ?_
          refine ezw_icmp_ne rfl rfl hu35 ⟨by decide, by decide⟩ (fun h61_35 => ?_) (fun h61_35 => ?_)
          · refine ezw_iconst (0) rfl rfl ?_
            refine ezs_iadd rfl (fun u36 hu36 => ?_)
            refine ezw_istore_n rfl rfl ?_
            refine ezw_iinc (k := c28 + 1) (1) rfl rfl rfl (by omega) rfl ?_
            refine ezw_goto rfl rfl ?_
            exact ezw_keepE [true, true, true, true] (ihc28 (c28 + 1) (by omega) ⟨by omega, by omega⟩ u36 hu36 (by omega))
          · refine ezw_aload_n rfl rfl ?_
            refine ezw_iload_n rfl rfl ?_
            refine ezw_iconst (0) rfl rfl ?_
            refine ezw_call0_2 rfl (by omega) (ezm_at rfl) rfl rfl rfl rfl (ezm_m263 hT (by omega) hc28 ⟨by decide, by decide⟩ (by omega) (by omega)) ?_
            rintro _ _ ⟨rfl, u38, hu38, rfl⟩
            refine ezw_goto rfl rfl ?_
            refine ezs_iadd rfl (fun u39 hu39 => ?_)
            refine ezw_istore_n rfl rfl ?_
            refine ezw_iinc (k := c28 + 1) (1) rfl rfl rfl (by omega) rfl ?_
            refine ezw_goto rfl rfl ?_
            exact ezw_keepE [true, true, true, true] (ihc28 (c28 + 1) (by omega) ⟨by omega, by omega⟩ u39 hu39 (by omega))
      exact ezw_keepE [true, true, true, true] (L38_29 (0) ⟨by decide, by decide⟩ u27 (ezm_in78 ku27) (by omega))
def ezm_m293_v1100Q (e : Bool × Bool) (F : Nat → Nat → Int) (A : Nat → Int → Int) (i0 i2 i3 i7 i8 i13 i18 i19 i20 i25 i29 i30 i31 i36 i37 i38 : Int) (r73 r74 r75 r76 r77 r78 r79 r80 r81 r82 r83 r84 r85 r86 r87 r88 r89 r90 r91 r92 r93 r94 r95 : Int → Int) : Option ezq_V → (Nat → ezq_C) → Prop := fun v g' => ezm_h e F A i0 i2 i3 i7 i8 i13 i18 i19 i20 i25 i29 i30 i31 i36 i37 i38 r73 r74 r75 r76 r77 r78 r79 r80 r81 r82 r83 r84 r85 r86 r87 r88 r89 r90 r91 r92 r93 r94 r95 = g' ∧ ∃ u : Int, (ezw_in u) ∧ some (ezw_i u) = v
theorem ezm_m293_v1100 (hT : ezm_T i0 i2 i3 i7 i8 i13 i18 i19 i20 i25 i29 i30 i31 i36 i37 i38 r73 r74 r75 r76 r77 r78 r79 r80 r81 r82 r83 r84 r85 r86 r87 r88 r89 r90 r91 r92 r93 r94 r95) (hd : 1 ≤ d) : ezw_C l ρ B xa Hb D cA 293 d [ezw_p 72, ezw_i (1100)] (ezm_h e F A i0 i2 i3 i7 i8 i13 i18 i19 i20 i25 i29 i30 i31 i36 i37 i38 r73 r74 r75 r76 r77 r78 r79 r80 r81 r82 r83 r84 r85 r86 r87 r88 r89 r90 r91 r92 r93 r94 r95) (ezm_m293_v1100Q  e F A i0 i2 i3 i7 i8 i13 i18 i19 i20 i25 i29 i30 i31 i36 i37 i38 r73 r74 r75 r76 r77 r78 r79 r80 r81 r82 r83 r84 r85 r86 r87 r88 r89 r90 r91 r92 r93 r94 r95) := by
  refine ezw_met (k := 2) rfl rfl ?_
  refine ezw_aload_n rfl rfl ?_
  refine ezm_gp (p := 88) rfl (fun _ => rfl) ?_
  refine ezw_iload_n rfl rfl ?_
  refine ezw_bipush (17) rfl rfl ?_
  refine ezw_iadd (k := (1117)) rfl (by omega) ?_
  refine ezm_l88 rfl (by omega) (by omega) (fun u1 eu1 => ?_)
  have ku1 : ezm_k88 (1117) u1 := eu1 ▸ hT.t88 (1117)
  refine ezw_iconst (1) rfl rfl ?_
  refine ezw_icmp_ne rfl rfl (ezm_in88 ku1) ⟨by decide, by decide⟩ (fun h10_1 => ?_) (fun h10_1 => ?_)
  · refine ezw_iconst (0) rfl rfl ?_
    refine ezw_istore_n rfl rfl ?_
    refine ezw_iconst (0) rfl rfl ?_
    refine ezw_istore_n rfl rfl ?_
    have L38_3 : ∀ c2 : Int, ezw_in c2 → ∀ y4 : Int, ezw_in y4 → ((0) ≤ c2) → ezw_E l ρ B xa Hb D cA d ezq_re293 (ezm_m293_v1100Q  e F A i0 i2 i3 i7 i8 i13 i18 i19 i20 i25 i29 i30 i31 i36 i37 i38 r73 r74 r75 r76 r77 r78 r79 r80 r81 r82 r83 r84 r85 r86 r87 r88 r89 r90 r91 r92 r93 r94 r95) 38 [some (ezw_p 72), some (ezw_i (1100)), some (ezw_i y4), some (ezw_i c2)] [] (ezm_h e F A i0 i2 i3 i7 i8 i13 i18 i19 i20 i25 i29 i30 i31 i36 i37 i38 r73 r74 r75 r76 r77 r78 r79 r80 r81 r82 r83 r84 r85 r86 r87 r88 r89 r90 r91 r92 r93 r94 r95) := by
      refine ezs_up ?_
      intro c2 hc2 ihc2 y4 hy4 g_3
      refine ezw_iload_n rfl rfl ?_
      refine ezw_aload_n rfl rfl ?_
      refine ezw_call0_0 rfl (by omega) (ezm_at rfl) rfl rfl rfl rfl (ezm_m216 hT (by omega)) ?_
      rintro _ _ ⟨rfl, u6, hu6, p5_0, p5_1, rfl⟩
      refine ezw_icmp_ge rfl rfl hc2 hu6 (fun h43_6 => ?_) (fun h43_6 => ?_)
      · refine ezw_iload_n rfl rfl ?_
        exact ezw_ireturn rfl rfl ⟨rfl, y4, hy4, rfl⟩
      · refine ezw_iload_n rfl rfl ?_
        refine ezw_aload_n rfl rfl ?_
        refine ezm_gp (p := 88) rfl (fun _ => rfl) ?_
        refine ezw_iload_n rfl rfl ?_
        refine ezw_bipush (19) rfl rfl ?_
        refine ezw_iadd (k := (1119)) rfl (by omega) ?_
        refine ezm_l88 rfl (by omega) (by omega) (fun u7 eu7 => ?_)
        have ku7 : ezm_k88 (1119) u7 := eu7 ▸ hT.t88 (1119)
        have zu7 := ezm_zs19 ku7 (by omega)
        refine ezw_iload_n rfl rfl ?_
        refine ezw_ishrO rfl (fun u8 hu8 => ?_)
        refine ezw_iconst (1) rfl rfl ?_
        refine ezm_iand rfl (fun u9 hu9 ku9 => ?_)
        refine ezw_iconst (1) rfl rfl ?_
        refine ezw_icmp_ne rfl rfl hu9 ⟨by decide, by decide⟩ (fun h61_9 => ?_) (fun h61_9 => ?_)
        · refine ezw_iconst (0) rfl rfl ?_
          refine ezs_iadd rfl (fun u10 hu10 => ?_)
          refine ezw_istore_n rfl rfl ?_
          refine ezw_iinc (k := c2 + 1) (1) rfl rfl rfl (by omega) rfl ?_
          refine ezw_goto rfl rfl ?_
          exact ezw_keepE [true, true, true, true] (ihc2 (c2 + 1) (by omega) ⟨by omega, by omega⟩ u10 hu10 (by omega))
        · refine ezw_aload_n rfl rfl ?_
          refine ezw_iload_n rfl rfl ?_
          refine ezw_iconst (0) rfl rfl ?_
          refine ezw_call0_2 rfl (by omega) (ezm_at rfl) rfl rfl rfl rfl (ezm_m263 hT (by omega) hc2 ⟨by decide, by decide⟩ (by omega) (by omega)) ?_
          rintro _ _ ⟨rfl, u12, hu12, rfl⟩
          refine ezw_goto rfl rfl ?_
          refine ezs_iadd rfl (fun u13 hu13 => ?_)
          refine ezw_istore_n rfl rfl ?_
          refine ezw_iinc (k := c2 + 1) (1) rfl rfl rfl (by omega) rfl ?_
          refine ezw_goto rfl rfl ?_
          exact ezw_keepE [true, true, true, true] (ihc2 (c2 + 1) (by omega) ⟨by omega, by omega⟩ u13 hu13 (by omega))
    exact ezw_keepE [true, true, true, true] (L38_3 (0) ⟨by decide, by decide⟩ (0) ⟨by decide, by decide⟩ (by omega))
  · refine ezw_aload_n rfl rfl ?_
    refine ezm_gp (p := 88) rfl (fun _ => rfl) ?_
    refine ezw_iload_n rfl rfl ?_
    refine ezw_bipush (18) rfl rfl ?_
    refine ezw_iadd (k := (1118)) rfl (by omega) ?_
    refine ezm_l88 rfl (by omega) (by omega) (fun u14 eu14 => ?_)
    have ku14 : ezm_k88 (1118) u14 := eu14 ▸ hT.t88 (1118)
    refine ezw_if_le rfl rfl (ezm_in88 ku14) (fun h22_14 => ?_) (fun h22_14 => ?_)
    · refine ezw_iconst (0) rfl rfl ?_
      refine ezw_istore_n rfl rfl ?_
      refine ezw_iconst (0) rfl rfl ?_
      refine ezw_istore_n rfl rfl ?_
      have L38_16 : ∀ c15 : Int, ezw_in c15 → ∀ y17 : Int, ezw_in y17 → ((0) ≤ c15) → ezw_E l ρ B xa Hb D cA d ezq_re293 (ezm_m293_v1100Q  e F A i0 i2 i3 i7 i8 i13 i18 i19 i20 i25 i29 i30 i31 i36 i37 i38 r73 r74 r75 r76 r77 r78 r79 r80 r81 r82 r83 r84 r85 r86 r87 r88 r89 r90 r91 r92 r93 r94 r95) 38 [some (ezw_p 72), some (ezw_i (1100)), some (ezw_i y17), some (ezw_i c15)] [] (ezm_h e F A i0 i2 i3 i7 i8 i13 i18 i19 i20 i25 i29 i30 i31 i36 i37 i38 r73 r74 r75 r76 r77 r78 r79 r80 r81 r82 r83 r84 r85 r86 r87 r88 r89 r90 r91 r92 r93 r94 r95) := by
        refine ezs_up ?_
        intro c15 hc15 ihc15 y17 hy17 g_16
        refine ezw_iload_n rfl rfl ?_
        refine ezw_aload_n rfl rfl ?_
        refine ezw_call0_0 rfl (by omega) (ezm_at rfl) rfl rfl rfl rfl (ezm_m216 hT (by omega)) ?_
        rintro _ _ ⟨rfl, u19, hu19, p18_0, p18_1, rfl⟩
        refine ezw_icmp_ge rfl rfl hc15 hu19 (fun h43_19 => ?_) (fun h43_19 => ?_)
        · refine ezw_iload_n rfl rfl ?_
          exact ezw_ireturn rfl rfl ⟨rfl, y17, hy17, rfl⟩
        · refine ezw_iload_n rfl rfl ?_
          refine ezw_aload_n rfl rfl ?_
          refine ezm_gp (p := 88) rfl (fun _ => rfl) ?_
          refine ezw_iload_n rfl rfl ?_
          refine ezw_bipush (19) rfl rfl ?_
          refine ezw_iadd (k := (1119)) rfl (by omega) ?_
          refine ezm_l88 rfl (by omega) (by omega) (fun u20 eu20 => ?_)
          have ku20 : ezm_k88 (1119) u20 := eu20 ▸ hT.t88 (1119)
          have zu20 := ezm_zs19 ku20 (by omega)
          refine ezw_iload_n rfl rfl ?_
          refine ezw_ishrO rfl (fun u21 hu21 => ?_)
          refine ezw_iconst (1) rfl rfl ?_
          refine ezm_iand rfl (fun u22 hu22 ku22 => ?_)
          refine ezw_iconst (1) rfl rfl ?_
          refine ezw_icmp_ne rfl rfl hu22 ⟨by decide, by decide⟩ (fun h61_22 => ?_) (fun h61_22 => ?_)
          · refine ezw_iconst (0) rfl rfl ?_
            refine ezs_iadd rfl (fun u23 hu23 => ?_)
            refine ezw_istore_n rfl rfl ?_
            refine ezw_iinc (k := c15 + 1) (1) rfl rfl rfl (by omega) rfl ?_
            refine ezw_goto rfl rfl ?_
            exact ezw_keepE [true, true, true, true] (ihc15 (c15 + 1) (by omega) ⟨by omega, by omega⟩ u23 hu23 (by omega))
          · refine ezw_aload_n rfl rfl ?_
            refine ezw_iload_n rfl rfl ?_
            refine ezw_iconst (0) rfl rfl ?_
            refine ezw_call0_2 rfl (by omega) (ezm_at rfl) rfl rfl rfl rfl (ezm_m263 hT (by omega) hc15 ⟨by decide, by decide⟩ (by omega) (by omega)) ?_
            rintro _ _ ⟨rfl, u25, hu25, rfl⟩
            refine ezw_goto rfl rfl ?_
            refine ezs_iadd rfl (fun u26 hu26 => ?_)
            refine ezw_istore_n rfl rfl ?_
            refine ezw_iinc (k := c15 + 1) (1) rfl rfl rfl (by omega) rfl ?_
            refine ezw_goto rfl rfl ?_
            exact ezw_keepE [true, true, true, true] (ihc15 (c15 + 1) (by omega) ⟨by omega, by omega⟩ u26 hu26 (by omega))
      exact ezw_keepE [true, true, true, true] (L38_16 (0) ⟨by decide, by decide⟩ (0) ⟨by decide, by decide⟩ (by omega))
    · refine ezw_aload_n rfl rfl ?_
      refine ezm_gp (p := 78) rfl (fun _ => rfl) ?_
      refine ezw_iconst (4) rfl rfl ?_
      refine ezm_l78 rfl (by omega) (by omega) (fun u27 eu27 => ?_)
      have ku27 : ezm_k78 (4) u27 := eu27 ▸ hT.t78 (4)
      refine ezw_goto rfl rfl ?_
      refine ezw_istore_n rfl rfl ?_
      refine ezw_iconst (0) rfl rfl ?_
      refine ezw_istore_n rfl rfl ?_
      have L38_29 : ∀ c28 : Int, ezw_in c28 → ∀ y30 : Int, ezw_in y30 → ((0) ≤ c28) → ezw_E l ρ B xa Hb D cA d ezq_re293 (ezm_m293_v1100Q  e F A i0 i2 i3 i7 i8 i13 i18 i19 i20 i25 i29 i30 i31 i36 i37 i38 r73 r74 r75 r76 r77 r78 r79 r80 r81 r82 r83 r84 r85 r86 r87 r88 r89 r90 r91 r92 r93 r94 r95) 38 [some (ezw_p 72), some (ezw_i (1100)), some (ezw_i y30), some (ezw_i c28)] [] (ezm_h e F A i0 i2 i3 i7 i8 i13 i18 i19 i20 i25 i29 i30 i31 i36 i37 i38 r73 r74 r75 r76 r77 r78 r79 r80 r81 r82 r83 r84 r85 r86 r87 r88 r89 r90 r91 r92 r93 r94 r95) := by
        refine ezs_up ?_
        intro c28 hc28 ihc28 y30 hy30 g_29
        refine ezw_iload_n rfl rfl ?_
        refine ezw_aload_n rfl rfl ?_
        refine ezw_call0_0 rfl (by omega) (ezm_at rfl) rfl rfl rfl rfl (ezm_m216 hT (by omega)) ?_
        rintro _ _ ⟨rfl, u32, hu32, p31_0, p31_1, rfl⟩
        refine ezw_icmp_ge rfl rfl hc28 hu32 (fun h43_32 => ?_) (fun h43_32 => ?_)
        · refine ezw_iload_n rfl rfl ?_
          exact ezw_ireturn rfl rfl ⟨rfl, y30, hy30, rfl⟩
        · refine ezw_iload_n rfl rfl ?_
          refine ezw_aload_n rfl rfl ?_
          refine ezm_gp (p := 88) rfl (fun _ => rfl) ?_
          refine ezw_iload_n rfl rfl ?_
          refine ezw_bipush (19) rfl rfl ?_
          refine ezw_iadd (k := (1119)) rfl (by omega) ?_
          refine ezm_l88 rfl (by omega) (by omega) (fun u33 eu33 => ?_)
          have ku33 : ezm_k88 (1119) u33 := eu33 ▸ hT.t88 (1119)
          have zu33 := ezm_zs19 ku33 (by omega)
          refine ezw_iload_n rfl rfl ?_
          refine ezw_ishrO rfl (fun u34 hu34 => ?_)
          refine ezw_iconst (1) rfl rfl ?_
          refine ezm_iand rfl (fun u35 hu35 ku35 => ?_)
          refine ezw_iconst (1) rfl rfl ?_
          refine ezw_icmp_ne rfl rfl hu35 ⟨by decide, by decide⟩ (fun h61_35 => ?_) (fun h61_35 => ?_)
          · refine ezw_iconst (0) rfl rfl ?_
            refine ezs_iadd rfl (fun u36 hu36 => ?_)
            refine ezw_istore_n rfl rfl ?_
            refine ezw_iinc (k := c28 + 1) (1) rfl rfl rfl (by omega) rfl ?_
            refine ezw_goto rfl rfl ?_
            exact ezw_keepE [true, true, true, true] (ihc28 (c28 + 1) (by omega) ⟨by omega, by omega⟩ u36 hu36 (by omega))
          · refine ezw_aload_n rfl rfl ?_
            refine ezw_iload_n rfl rfl ?_
            refine ezw_iconst (0) rfl rfl ?_
            refine ezw_call0_2 rfl (by omega) (ezm_at rfl) rfl rfl rfl rfl (ezm_m263 hT (by omega) hc28 ⟨by decide, by decide⟩ (by omega) (by omega)) ?_
            rintro _ _ ⟨rfl, u38, hu38, rfl⟩
            refine ezw_goto rfl rfl ?_
            refine ezs_iadd rfl (fun u39 hu39 => ?_)
            refine ezw_istore_n rfl rfl ?_
            refine ezw_iinc (k := c28 + 1) (1) rfl rfl rfl (by omega) rfl ?_
            refine ezw_goto rfl rfl ?_
            exact ezw_keepE [true, true, true, true] (ihc28 (c28 + 1) (by omega) ⟨by omega, by omega⟩ u39 hu39 (by omega))
      exact ezw_keepE [true, true, true, true] (L38_29 (0) ⟨by decide, by decide⟩ u27 (ezm_in78 ku27) (by omega))
end KM6
