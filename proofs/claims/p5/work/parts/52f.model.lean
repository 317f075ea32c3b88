/-! ===== the model: an afternoon begins ===== -/
section KM6
variable {l : Launch} {ρ : ezq_E} {B : Nat} {xa : Nat → Option Nat} {Hb : Heap} {D : va_G} {cA : Nat → ClassId} {d : Nat} {e : Bool × Bool} {F : Nat → Nat → Int} {A : Nat → Int → Int} {i0 i2 i3 i7 i8 i13 i18 i19 i20 i25 i29 i30 i31 i36 i37 i38 : Int} {r73 r74 r75 r76 r77 r78 r79 r80 r81 r82 r83 r84 r85 r86 r87 r88 r89 r90 r91 r92 r93 r94 r95 : Int → Int}
def ezm_m216Q (e : Bool × Bool) (F : Nat → Nat → Int) (A : Nat → Int → Int) (i0 i2 i3 i7 i8 i13 i18 i19 i20 i25 i29 i30 i31 i36 i37 i38 : Int) (r73 r74 r75 r76 r77 r78 r79 r80 r81 r82 r83 r84 r85 r86 r87 r88 r89 r90 r91 r92 r93 r94 r95 : Int → Int) : Option ezq_V → (Nat → ezq_C) → Prop := fun v g' => ezm_h e F A i0 i2 i3 i7 i8 i13 i18 i19 i20 i25 i29 i30 i31 i36 i37 i38 r73 r74 r75 r76 r77 r78 r79 r80 r81 r82 r83 r84 r85 r86 r87 r88 r89 r90 r91 r92 r93 r94 r95 = g' ∧ ∃ u : Int, (ezw_in u) ∧ (u = r78 1) ∧ (0 ≤ u ∧ u ≤ 4) ∧ some (ezw_i u) = v
theorem ezm_m216 (hT : ezm_T i0 i2 i3 i7 i8 i13 i18 i19 i20 i25 i29 i30 i31 i36 i37 i38 r73 r74 r75 r76 r77 r78 r79 r80 r81 r82 r83 r84 r85 r86 r87 r88 r89 r90 r91 r92 r93 r94 r95) (hd : 0 ≤ d) : ezw_C l ρ B xa Hb D cA 216 d [ezw_p 72] (ezm_h e F A i0 i2 i3 i7 i8 i13 i18 i19 i20 i25 i29 i30 i31 i36 i37 i38 r73 r74 r75 r76 r77 r78 r79 r80 r81 r82 r83 r84 r85 r86 r87 r88 r89 r90 r91 r92 r93 r94 r95) (ezm_m216Q  e F A i0 i2 i3 i7 i8 i13 i18 i19 i20 i25 i29 i30 i31 i36 i37 i38 r73 r74 r75 r76 r77 r78 r79 r80 r81 r82 r83 r84 r85 r86 r87 r88 r89 r90 r91 r92 r93 r94 r95) := by
  refine ezw_met (k := 0) rfl rfl ?_
  refine ezw_aload_n rfl rfl ?_
  refine ezm_gp (p := 78) rfl (fun _ => rfl) ?_
  refine ezw_iconst (1) rfl rfl ?_
  refine ezm_l78 rfl (by omega) (by omega) (fun u1 eu1 => ?_)
  have ku1 : ezm_k78 (1) u1 := eu1 ▸ hT.t78 (1)
  have zu1 := ezm_za1 ku1 (by omega)
  exact ezw_ireturn rfl rfl ⟨rfl, u1, (ezm_in78 ku1), by omega, by omega, rfl⟩
def ezm_m258Q (e : Bool × Bool) (F : Nat → Nat → Int) (A : Nat → Int → Int) (i0 i2 i3 i7 i8 i13 i18 i19 i20 i25 i29 i30 i31 i36 i37 i38 : Int) (r73 r74 r75 r76 r77 r78 r79 r80 r81 r82 r83 r84 r85 r86 r87 r88 r89 r90 r91 r92 r93 r94 r95 : Int → Int) : Option ezq_V → (Nat → ezq_C) → Prop := fun v g' => ezm_h e F A i0 i2 i3 i7 i8 i13 i18 i19 i20 i25 i29 i30 i31 i36 i37 i38 r73 r74 r75 r76 r77 r78 r79 r80 r81 r82 r83 r84 r85 r86 r87 r88 r89 r90 r91 r92 r93 r94 r95 = g' ∧ ∃ u : Int, (ezw_in u) ∧ (u = r78 0) ∧ (0 ≤ u ∧ u ≤ 8) ∧ some (ezw_i u) = v
theorem ezm_m258 (hT : ezm_T i0 i2 i3 i7 i8 i13 i18 i19 i20 i25 i29 i30 i31 i36 i37 i38 r73 r74 r75 r76 r77 r78 r79 r80 r81 r82 r83 r84 r85 r86 r87 r88 r89 r90 r91 r92 r93 r94 r95) (hd : 0 ≤ d) : ezw_C l ρ B xa Hb D cA 258 d [ezw_p 72] (ezm_h e F A i0 i2 i3 i7 i8 i13 i18 i19 i20 i25 i29 i30 i31 i36 i37 i38 r73 r74 r75 r76 r77 r78 r79 r80 r81 r82 r83 r84 r85 r86 r87 r88 r89 r90 r91 r92 r93 r94 r95) (ezm_m258Q  e F A i0 i2 i3 i7 i8 i13 i18 i19 i20 i25 i29 i30 i31 i36 i37 i38 r73 r74 r75 r76 r77 r78 r79 r80 r81 r82 r83 r84 r85 r86 r87 r88 r89 r90 r91 r92 r93 r94 r95) := by
  refine ezw_met (k := 0) rfl rfl ?_
  refine ezw_aload_n rfl rfl ?_
  refine ezm_gp (p := 78) rfl (fun _ => rfl) ?_
  refine ezw_iconst (0) rfl rfl ?_
  refine ezm_l78 rfl (by omega) (by omega) (fun u1 eu1 => ?_)
  have ku1 : ezm_k78 (0) u1 := eu1 ▸ hT.t78 (0)
  have zu1 := ezm_za0 ku1 (by omega)
  exact ezw_ireturn rfl rfl ⟨rfl, u1, (ezm_in78 ku1), by omega, by omega, rfl⟩
def ezm_m215_v1050Q (e : Bool × Bool) (F : Nat → Nat → Int) (A : Nat → Int → Int) (i0 i2 i3 i7 i8 i13 i18 i19 i20 i25 i29 i30 i31 i36 i37 i38 : Int) (r73 r74 r75 r76 r77 r78 r79 r80 r81 r82 r83 r84 r85 r86 r87 r88 r89 r90 r91 r92 r93 r94 r95 : Int → Int) : Option ezq_V → (Nat → ezq_C) → Prop := fun v g' => ∃  (x88 : Int → Int), ezm_h e F A i0 i2 i3 i7 i8 i13 i18 i19 i20 i25 i29 i30 i31 i36 i37 i38 r73 r74 r75 r76 r77 r78 r79 r80 r81 r82 r83 r84 r85 r86 r87 x88 r89 r90 r91 r92 r93 r94 r95 = g' ∧ ezm_T i0 i2 i3 i7 i8 i13 i18 i19 i20 i25 i29 i30 i31 i36 i37 i38 r73 r74 r75 r76 r77 r78 r79 r80 r81 r82 r83 r84 r85 r86 r87 x88 r89 r90 r91 r92 r93 r94 r95 ∧ (∀ j, j < 1050 ∨ 1070 ≤ j → x88 j = r88 j) ∧ (ezm_SV r78 x88 (1050)) ∧ none = v
theorem ezm_m215_v1050 (hT : ezm_T i0 i2 i3 i7 i8 i13 i18 i19 i20 i25 i29 i30 i31 i36 i37 i38 r73 r74 r75 r76 r77 r78 r79 r80 r81 r82 r83 r84 r85 r86 r87 r88 r89 r90 r91 r92 r93 r94 r95) (hd : 1 ≤ d) (st : ∀ k, 0 ≤ k → k < r78 3 → r78 (k + 65) < r78 0) : ezw_C l ρ B xa Hb D cA 215 d [ezw_p 72, ezw_i (1050)] (ezm_h e F A i0 i2 i3 i7 i8 i13 i18 i19 i20 i25 i29 i30 i31 i36 i37 i38 r73 r74 r75 r76 r77 r78 r79 r80 r81 r82 r83 r84 r85 r86 r87 r88 r89 r90 r91 r92 r93 r94 r95) (ezm_m215_v1050Q  e F A i0 i2 i3 i7 i8 i13 i18 i19 i20 i25 i29 i30 i31 i36 i37 i38 r73 r74 r75 r76 r77 r78 r79 r80 r81 r82 r83 r84 r85 r86 r87 r88 r89 r90 r91 r92 r93 r94 r95) := by
  refine ezw_met (k := 1) rfl rfl ?_
  have b3 := ezm_za3 (hT.t78 3) (by decide)
  refine ezw_aload_n rfl rfl ?_
  refine ezm_gp (p := 88) rfl (fun _ => rfl) ?_
  refine ezw_iload_n rfl rfl ?_
  refine ezw_iconst (0) rfl rfl ?_
  refine ezw_iadd (k := (1050)) rfl (by omega) ?_
  refine ezw_aload_n rfl rfl ?_
  refine ezm_gp (p := 78) rfl (fun _ => rfl) ?_
  refine ezw_iconst (3) rfl rfl ?_
  refine ezm_l78 rfl (by omega) (by omega) (fun u1 eu1 => ?_)
  have ku1 : ezm_k78 (3) u1 := eu1 ▸ hT.t78 (3)
  have zu1 := ezm_za3 ku1 (by omega)
  refine ezm_s88 hT rfl (by omega) (by omega) ⟨(ezm_in78 ku1), by omega, by omega, by omega, by omega, by omega⟩ (fun r88_2 hT er88_2 fr88_2 => ?_)
  refine ezw_iconst (0) rfl rfl ?_
  refine ezw_istore_n rfl rfl ?_
  have L16_4 : ∀ c3 : Int, ezw_in c3 → ∀ x88_4 : Int → Int, ezm_T i0 i2 i3 i7 i8 i13 i18 i19 i20 i25 i29 i30 i31 i36 i37 i38 r73 r74 r75 r76 r77 r78 r79 r80 r81 r82 r83 r84 r85 r86 r87 x88_4 r89 r90 r91 r92 r93 r94 r95 → ((0) ≤ c3) → (x88_4 (1050) = r78 3) → (∀ j, j < 1050 ∨ 1070 ≤ j → x88_4 j = r88 j) → (∀ k, 0 ≤ k → k < c3 → x88_4 (k + 1051) = r78 (k + 65)) → ezw_E l ρ B xa Hb D cA d ezq_re215 (ezm_m215_v1050Q  e F A i0 i2 i3 i7 i8 i13 i18 i19 i20 i25 i29 i30 i31 i36 i37 i38 r73 r74 r75 r76 r77 r78 r79 r80 r81 r82 r83 r84 r85 r86 r87 r88 r89 r90 r91 r92 r93 r94 r95) 16 [some (ezw_p 72), some (ezw_i (1050)), some (ezw_i c3)] [] (ezm_h e F A i0 i2 i3 i7 i8 i13 i18 i19 i20 i25 i29 i30 i31 i36 i37 i38 r73 r74 r75 r76 r77 r78 r79 r80 r81 r82 r83 r84 r85 r86 r87 x88_4 r89 r90 r91 r92 r93 r94 r95) := by
    refine ezs_up ?_
    intro c3 hc3 ihc3 x88_4 hT g_4 m_4 fb_4 o_4
    refine ezw_iload_n rfl rfl ?_
    refine ezw_bipush (6) rfl rfl ?_
    refine ezw_icmp_ge rfl rfl hc3 ⟨by decide, by decide⟩ (fun h19_4 => ?_) (fun h19_4 => ?_)
    · refine ezw_iconst (0) rfl rfl ?_
      refine ezw_istore_n rfl rfl ?_
      have L49_6 : ∀ c5 : Int, ezw_in c5 → ∀ x88_6 : Int → Int, ezm_T i0 i2 i3 i7 i8 i13 i18 i19 i20 i25 i29 i30 i31 i36 i37 i38 r73 r74 r75 r76 r77 r78 r79 r80 r81 r82 r83 r84 r85 r86 r87 x88_6 r89 r90 r91 r92 r93 r94 r95 → ((0) ≤ c5) → (x88_6 (1050) = r78 3) → (∀ j, j < 1050 ∨ 1070 ≤ j → x88_6 j = r88 j) → (∀ k, 0 ≤ k → k < 6 → x88_6 (k + 1051) = r78 (k + 65)) → ezw_E l ρ B xa Hb D cA d ezq_re215 (ezm_m215_v1050Q  e F A i0 i2 i3 i7 i8 i13 i18 i19 i20 i25 i29 i30 i31 i36 i37 i38 r73 r74 r75 r76 r77 r78 r79 r80 r81 r82 r83 r84 r85 r86 r87 r88 r89 r90 r91 r92 r93 r94 r95) 49 [some (ezw_p 72), some (ezw_i (1050)), some (ezw_i c5)] [] (ezm_h e F A i0 i2 i3 i7 i8 i13 i18 i19 i20 i25 i29 i30 i31 i36 i37 i38 r73 r74 r75 r76 r77 r78 r79 r80 r81 r82 r83 r84 r85 r86 r87 x88_6 r89 r90 r91 r92 r93 r94 r95) := by
        refine ezs_up ?_
        intro c5 hc5 ihc5 x88_6 hT g_6 m_6 fb_6 o_6
        refine ezw_iload_n rfl rfl ?_
        refine ezw_bipush (8) rfl rfl ?_
        refine ezw_icmp_ge rfl rfl hc5 ⟨by decide, by decide⟩ (fun h52_6 => ?_) (fun h52_6 => ?_)
        · refine ezw_aload_n rfl rfl ?_
          refine ezm_gp (p := 88) rfl (fun _ => rfl) ?_
          refine ezw_iload_n rfl rfl ?_
          refine ezw_bipush (15) rfl rfl ?_
          refine ezw_iadd (k := (1065)) rfl (by omega) ?_
          refine ezw_bipush (12) rfl rfl ?_
          refine ezm_s88 hT rfl (by omega) (by omega) ⟨⟨by decide, by decide⟩, by omega, by omega, by omega, by omega, by omega⟩ (fun r88_7 hT er88_7 fr88_7 => ?_)
          refine ezw_aload_n rfl rfl ?_
          refine ezm_gp (p := 88) rfl (fun _ => rfl) ?_
          refine ezw_iload_n rfl rfl ?_
          refine ezw_bipush (16) rfl rfl ?_
          refine ezw_iadd (k := (1066)) rfl (by omega) ?_
          refine ezw_aload_n rfl rfl ?_
          refine ezm_gp (p := 78) rfl (fun _ => rfl) ?_
          refine ezw_bipush (6) rfl rfl ?_
          refine ezm_l78 rfl (by omega) (by omega) (fun u8 eu8 => ?_)
          have ku8 : ezm_k78 (6) u8 := eu8 ▸ hT.t78 (6)
          refine ezm_s88 hT rfl (by omega) (by omega) ⟨(ezm_in78 ku8), by omega, by omega, by omega, by omega, by omega⟩ (fun r88_9 hT er88_9 fr88_9 => ?_)
          refine ezw_aload_n rfl rfl ?_
          refine ezm_gp (p := 88) rfl (fun _ => rfl) ?_
          refine ezw_iload_n rfl rfl ?_
          refine ezw_bipush (17) rfl rfl ?_
          refine ezw_iadd (k := (1067)) rfl (by omega) ?_
          refine ezw_aload_n rfl rfl ?_
          refine ezm_gp (p := 78) rfl (fun _ => rfl) ?_
          refine ezw_iconst (3) rfl rfl ?_
          refine ezm_l78 rfl (by omega) (by omega) (fun u10 eu10 => ?_)
          have fu10 : u1 = u10 := eu1.trans eu10.symm
          subst fu10
          refine ezw_if_ne rfl rfl (ezm_in78 ku1) (fun h114_10 => ?_) (fun h114_10 => ?_)
          · refine ezw_iconst (0) rfl rfl ?_
            refine ezm_s88 hT rfl (by omega) (by omega) ⟨⟨by decide, by decide⟩, by omega, by omega, by omega, by omega, by omega⟩ (fun r88_11 hT er88_11 fr88_11 => ?_)
            refine ezw_aload_n rfl rfl ?_
            refine ezm_gp (p := 88) rfl (fun _ => rfl) ?_
            refine ezw_iload_n rfl rfl ?_
            refine ezw_bipush (18) rfl rfl ?_
            refine ezw_iadd (k := (1068)) rfl (by omega) ?_
            refine ezw_aload_n rfl rfl ?_
            refine ezm_gp (p := 78) rfl (fun _ => rfl) ?_
            refine ezw_iconst (5) rfl rfl ?_
            refine ezm_l78 rfl (by omega) (by omega) (fun u12 eu12 => ?_)
            have ku12 : ezm_k78 (5) u12 := eu12 ▸ hT.t78 (5)
            refine ezm_s88 hT rfl (by omega) (by omega) ⟨(ezm_in78 ku12), by omega, by omega, by omega, by omega, by omega⟩ (fun r88_13 hT er88_13 fr88_13 => ?_)
            refine ezw_aload_n rfl rfl ?_
            refine ezm_gp (p := 88) rfl (fun _ => rfl) ?_
            refine ezw_iload_n rfl rfl ?_
            refine ezw_bipush (19) rfl rfl ?_
            refine ezw_iadd (k := (1069)) rfl (by omega) ?_
            refine ezw_iconst (1) rfl rfl ?_
            refine ezw_aload_n rfl rfl ?_
            refine ezw_call0_0 rfl (by omega) (ezm_at rfl) rfl rfl rfl rfl (ezm_m216 hT (by omega)) ?_
            rintro _ _ ⟨rfl, u15, hu15, p14_0, p14_1, rfl⟩
            refine ezm_ishl1 rfl (by omega) (by omega) (fun u16 hu16 ku16 => ?_)
            refine ezw_iconst (1) rfl rfl ?_
            refine ezw_isub (k := u16 - 1) rfl (by omega) ?_
            refine ezm_s88 hT rfl (by omega) (by omega) ⟨⟨by omega, by omega⟩, by omega, by omega, by omega, by omega, by omega⟩ (fun r88_17 hT er88_17 fr88_17 => ?_)
            exact ezw_return rfl rfl ⟨r88_17, rfl, hT, fun j hj => by rw [fr88_17 j (by omega), fr88_13 j (by omega), fr88_11 j (by omega), fr88_9 j (by omega), fr88_7 j (by omega), fb_6 j hj], ezm_SV_of (b := 1050) (b1 := 1051) (b17 := 1067) (by decide) (by decide) ⟨fun z => by
                  rw [fr88_17 (1067) (by omega), fr88_13 (1067) (by omega), er88_11] at z
                  rw [fr88_17 (1050) (by omega), fr88_13 (1050) (by omega), fr88_11 (1050) (by omega), fr88_9 (1050) (by omega), fr88_7 (1050) (by omega), m_6]
                  omega, fun k k0 k1 => by
                  rw [fr88_17 (1050) (by omega), fr88_13 (1050) (by omega), fr88_11 (1050) (by omega), fr88_9 (1050) (by omega), fr88_7 (1050) (by omega), m_6] at k1
                  rw [fr88_17 (k + 1051) (by omega), fr88_13 (k + 1051) (by omega), fr88_11 (k + 1051) (by omega), fr88_9 (k + 1051) (by omega), fr88_7 (k + 1051) (by omega), o_6 k k0 (by omega)]
                  exact st k k0 k1⟩, rfl⟩
          · refine ezw_iconst (1) rfl rfl ?_
            refine ezw_goto rfl rfl ?_
            refine ezm_s88 hT rfl (by omega) (by omega) ⟨⟨by decide, by decide⟩, by omega, by omega, by omega, by omega, by omega⟩ (fun r88_18 hT er88_18 fr88_18 => ?_)
            refine ezw_aload_n rfl rfl ?_
            refine ezm_gp (p := 88) rfl (fun _ => rfl) ?_
            refine ezw_iload_n rfl rfl ?_
            refine ezw_bipush (18) rfl rfl ?_
            refine ezw_iadd (k := (1068)) rfl (by omega) ?_
            refine ezw_aload_n rfl rfl ?_
            refine ezm_gp (p := 78) rfl (fun _ => rfl) ?_
            refine ezw_iconst (5) rfl rfl ?_
            refine ezm_l78 rfl (by omega) (by omega) (fun u19 eu19 => ?_)
            have ku19 : ezm_k78 (5) u19 := eu19 ▸ hT.t78 (5)
            refine ezm_s88 hT rfl (by omega) (by omega) ⟨(ezm_in78 ku19), by omega, by omega, by omega, by omega, by omega⟩ (fun r88_20 hT er88_20 fr88_20 => ?_)
            refine ezw_aload_n rfl rfl ?_
            refine ezm_gp (p := 88) rfl (fun _ => rfl) ?_
            refine ezw_iload_n rfl rfl ?_
            refine ezw_bipush (19) rfl rfl ?_
            refine ezw_iadd (k := (1069)) rfl (by omega) ?_
            refine ezw_iconst (1) rfl rfl ?_
            refine ezw_aload_n rfl rfl ?_
            refine ezw_call0_0 rfl (by omega) (ezm_at rfl) rfl rfl rfl rfl (ezm_m216 hT (by omega)) ?_
            rintro _ _ ⟨rfl, u22, hu22, p21_0, p21_1, rfl⟩
            refine ezm_ishl1 rfl (by omega) (by omega) (fun u23 hu23 ku23 => ?_)
            refine ezw_iconst (1) rfl rfl ?_
            refine ezw_isub (k := u23 - 1) rfl (by omega) ?_
            refine ezm_s88 hT rfl (by omega) (by omega) ⟨⟨by omega, by omega⟩, by omega, by omega, by omega, by omega, by omega⟩ (fun r88_24 hT er88_24 fr88_24 => ?_)
            exact ezw_return rfl rfl ⟨r88_24, rfl, hT, fun j hj => by rw [fr88_24 j (by omega), fr88_20 j (by omega), fr88_18 j (by omega), fr88_9 j (by omega), fr88_7 j (by omega), fb_6 j hj], ezm_SV_of (b := 1050) (b1 := 1051) (b17 := 1067) (by decide) (by decide) ⟨fun z => by
                  rw [fr88_24 (1067) (by omega), fr88_20 (1067) (by omega), er88_18] at z
                  rw [fr88_24 (1050) (by omega), fr88_20 (1050) (by omega), fr88_18 (1050) (by omega), fr88_9 (1050) (by omega), fr88_7 (1050) (by omega), m_6]
                  omega, fun k k0 k1 => by
                  rw [fr88_24 (1050) (by omega), fr88_20 (1050) (by omega), fr88_18 (1050) (by omega), fr88_9 (1050) (by omega), fr88_7 (1050) (by omega), m_6] at k1
                  rw [fr88_24 (k + 1051) (by omega), fr88_20 (k + 1051) (by omega), fr88_18 (k + 1051) (by omega), fr88_9 (k + 1051) (by omega), fr88_7 (k + 1051) (by omega), o_6 k k0 (by omega)]
                  exact st k k0 k1⟩, rfl⟩
        · refine ezw_aload_n rfl rfl ?_
          refine ezm_gp (p := 88) rfl (fun _ => rfl) ?_
          refine ezw_iload_n rfl rfl ?_
          refine ezw_bipush (7) rfl rfl ?_
          refine ezw_iadd (k := (1057)) rfl (by omega) ?_
          refine ezw_iload_n rfl rfl ?_
          refine ezw_iadd (k := c5 + 1057) rfl (by omega) ?_
          refine ezw_iconst (0) rfl rfl ?_
          refine ezm_s88 hT rfl (by omega) (by omega) ⟨⟨by decide, by decide⟩, by omega, by omega, by omega, by omega, by omega⟩ (fun r88_25 hT er88_25 fr88_25 => ?_)
          refine ezw_iinc (k := c5 + 1) (1) rfl rfl rfl (by omega) rfl ?_
          refine ezw_goto rfl rfl ?_
          exact ezw_keepE [true, true, true] (ihc5 (c5 + 1) (by omega) ⟨by omega, by omega⟩ r88_25 hT (by omega) (by rw [fr88_25 (1050) (by omega)]; exact m_6) (fun j hj => by rw [fr88_25 j (by omega), fb_6 j hj]) (fun k k0 k1 => by rw [fr88_25 (k + 1051) (by omega), o_6 k k0 k1]))
      exact ezw_keepE [true, true, true] (L49_6 (0) ⟨by decide, by decide⟩ x88_4 hT (by omega) m_4 fb_4 (fun k k0 k1 => o_4 k k0 (by omega)))
    · refine ezw_aload_n rfl rfl ?_
      refine ezm_gp (p := 88) rfl (fun _ => rfl) ?_
      refine ezw_iload_n rfl rfl ?_
      refine ezw_iconst (1) rfl rfl ?_
      refine ezw_iadd (k := (1051)) rfl (by omega) ?_
      refine ezw_iload_n rfl rfl ?_
      refine ezw_iadd (k := c3 + 1051) rfl (by omega) ?_
      refine ezw_aload_n rfl rfl ?_
      refine ezm_gp (p := 78) rfl (fun _ => rfl) ?_
      refine ezw_bipush (65) rfl rfl ?_
      refine ezw_iload_n rfl rfl ?_
      refine ezw_iadd (k := c3 + 65) rfl (by omega) ?_
      refine ezm_l78 rfl (by omega) (by omega) (fun u26 eu26 => ?_)
      have ku26 : ezm_k78 (c3 + 65) u26 := eu26 ▸ hT.t78 (c3 + 65)
      have zu26 := ezm_za65 ku26 (by omega)
      refine ezm_s88 hT rfl (by omega) (by omega) ⟨(ezm_in78 ku26), by omega, by omega, by omega, by omega, by omega⟩ (fun r88_27 hT er88_27 fr88_27 => ?_)
      refine ezw_iinc (k := c3 + 1) (1) rfl rfl rfl (by omega) rfl ?_
      refine ezw_goto rfl rfl ?_
      exact ezw_keepE [true, true, true] (ihc3 (c3 + 1) (by omega) ⟨by omega, by omega⟩ r88_27 hT (by omega) (by rw [fr88_27 (1050) (by omega)]; exact m_4) (fun j hj => by rw [fr88_27 j (by omega), fb_4 j hj]) (fun k k0 k1 => by
            by_cases hk : k = c3
            · subst hk
              rw [er88_27, eu26]
            · rw [fr88_27 (k + 1051) (by omega), o_4 k k0 (by omega)]))
  exact ezw_keepE [true, true, true] (L16_4 (0) ⟨by decide, by decide⟩ r88_2 hT (by omega) (by rw [er88_2, eu1]) (fun j hj => by rw [fr88_2 j (by omega)]) (fun k k0 k1 => by omega))
end KM6
