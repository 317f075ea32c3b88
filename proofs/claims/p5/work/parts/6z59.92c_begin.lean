/-! ===== the model: an afternoon begins, exact ===== -/
def ezj_RW (a r : Int → Int) : Prop := r 0 = a 3 ∧ (∀ k, 0 ≤ k → k < 6 → r (k + 1) = a (k + 65)) ∧ (∀ t, 0 ≤ t → t < 8 → r (t + 7) = 0) ∧ r 15 = 12 ∧ r 16 = a 6 ∧ r 17 = (if a 3 = 0 then 1 else 0) ∧ r 18 = a 5 ∧ r 19 = 1 * 2 ^ (a 1).toNat - 1
theorem ezj_RW_f {a r r' : Int → Int} (h : ezj_RW a r) (hf : ∀ j, 0 ≤ j → j < 20 → r' j = r j) : ezj_RW a r' := by
  obtain ⟨h0, h1, h2, h3, h4, h5, h6, h7⟩ := h
  refine ⟨?_, fun k k0 k1 => ?_, fun t t0 t1 => ?_, ?_, ?_, ?_, ?_, ?_⟩
  · rw [hf 0 (by decide) (by decide)]; exact h0
  · rw [hf (k + 1) (by omega) (by omega)]; exact h1 k k0 k1
  · rw [hf (t + 7) (by omega) (by omega)]; exact h2 t t0 t1
  · rw [hf 15 (by decide) (by decide)]; exact h3
  · rw [hf 16 (by decide) (by decide)]; exact h4
  · rw [hf 17 (by decide) (by decide)]; exact h5
  · rw [hf 18 (by decide) (by decide)]; exact h6
  · rw [hf 19 (by decide) (by decide)]; exact h7
theorem ezj_NW_bg {z : ezp_D} {i18 : Int} {r78 r81 r83 r88 : Int → Int} (tf : ezm_TRF z i18 r78 r81 r83) (hB : ezp_B z) (h : ezj_RW r78 r88) : ezn_NW z (ezn_bg z) 0 r88 := by
  obtain ⟨⟨k0, k1, k2, k3⟩, ktw, kth, kov, ksg, kel, knu, knm⟩ := ezm_TRFi tf
  obtain ⟨b1, b2, b3, b4, b5, b6, b7, b8, b9⟩ := hB
  obtain ⟨h0, h1, h2, h3, h4, h5, h6, h7⟩ := h
  obtain ⟨f1, f2, f3, f4⟩ := ezn_full (k := z.kS) (by omega) (by omega)
  have ec : ezn_cn (ezn_bg z).ov = z.kS := f2
  refine ⟨?_, fun i i0 i1 => ?_, fun t t0 t1 => ?_, h3, ?_, ?_, ?_, ?_⟩
  · rw [ec, h0, k3]
  · rw [ec] at i1
    have e3 : ezn_kp (ezn_bg z).ov i = i := f3 i i0 i1
    rw [e3]
    show r88 (i + 1) = z.sg i
    rw [h1 i i0 (by omega), ksg i i0 i1]
  · have e : r88 (t + 7) = 0 := h2 t t0 t1
    show r88 (t + 7) = if t = ezn_la z (ezn_bg z) then 0 else 0
    rw [e]
    split <;> rfl
  · show r88 16 = z.nu 2
    rw [h4, ← knu 2 (by decide) (by decide)]
    rfl
  · show r88 17 = if 0 < z.kS then 0 else 1
    rw [h5, k3]
    by_cases hs : 0 < z.kS
    · rw [if_pos hs, if_neg (by omega)]
    · rw [if_neg hs, if_pos (by omega)]
  · show r88 18 = z.nu 1
    rw [h6, ← knu 1 (by decide) (by decide)]
    rfl
  · show r88 19 = 1 * 2 ^ z.kH.toNat - 1
    rw [h7, k1]
section KM6
variable {l : Launch} {ρ : ezq_E} {B : Nat} {xa : Nat → Option Nat} {Hb : Heap} {D : va_G} {cA : Nat → ClassId} {d : Nat} {e : Bool × Bool} {F : Nat → Nat → Int} {A : Nat → Int → Int} {i0 i2 i3 i7 i8 i13 i18 i19 i20 i25 i29 i30 i31 i36 i37 i38 : Int} {r73 r74 r75 r76 r77 r78 r79 r80 r81 r82 r83 r84 r85 r86 r87 r88 r89 r90 r91 r92 r93 r94 r95 : Int → Int}
def ezm_m215_v0nQ (e : Bool × Bool) (F : Nat → Nat → Int) (A : Nat → Int → Int) (i0 i2 i3 i7 i8 i13 i18 i19 i20 i25 i29 i30 i31 i36 i37 i38 : Int) (r73 r74 r75 r76 r77 r78 r79 r80 r81 r82 r83 r84 r85 r86 r87 r88 r89 r90 r91 r92 r93 r94 r95 : Int → Int) : Option ezq_V → (Nat → ezq_C) → Prop := fun v g' => ∃  (x88 : Int → Int), ezm_h e F A i0 i2 i3 i7 i8 i13 i18 i19 i20 i25 i29 i30 i31 i36 i37 i38 r73 r74 r75 r76 r77 r78 r79 r80 r81 r82 r83 r84 r85 r86 r87 x88 r89 r90 r91 r92 r93 r94 r95 = g' ∧ ezm_T i0 i2 i3 i7 i8 i13 i18 i19 i20 i25 i29 i30 i31 i36 i37 i38 r73 r74 r75 r76 r77 r78 r79 r80 r81 r82 r83 r84 r85 r86 r87 x88 r89 r90 r91 r92 r93 r94 r95 ∧ (∀ j, j < 0 ∨ 20 ≤ j → x88 j = r88 j) ∧ (ezm_SV r78 x88 (0)) ∧ (ezj_RW r78 x88) ∧ none = v
theorem ezm_m215_v0n (hT : ezm_T i0 i2 i3 i7 i8 i13 i18 i19 i20 i25 i29 i30 i31 i36 i37 i38 r73 r74 r75 r76 r77 r78 r79 r80 r81 r82 r83 r84 r85 r86 r87 r88 r89 r90 r91 r92 r93 r94 r95) (hd : 1 ≤ d) (st : ∀ k, 0 ≤ k → k < r78 3 → r78 (k + 65) < r78 0) : ezw_C l ρ B xa Hb D cA 215 d [ezw_p 72, ezw_i (0)] (ezm_h e F A i0 i2 i3 i7 i8 i13 i18 i19 i20 i25 i29 i30 i31 i36 i37 i38 r73 r74 r75 r76 r77 r78 r79 r80 r81 r82 r83 r84 r85 r86 r87 r88 r89 r90 r91 r92 r93 r94 r95) (ezm_m215_v0nQ  e F A i0 i2 i3 i7 i8 i13 i18 i19 i20 i25 i29 i30 i31 i36 i37 i38 r73 r74 r75 r76 r77 r78 r79 r80 r81 r82 r83 r84 r85 r86 r87 r88 r89 r90 r91 r92 r93 r94 r95) := by
  refine ezw_met (k := 1) rfl rfl ?_
  have b3 := ezm_za3 (hT.t78 3) (by decide)
  refine ezw_aload_n rfl rfl ?_
  refine ezm_gp (p := 88) rfl (fun _ => rfl) ?_
  refine ezw_iload_n rfl rfl ?_
  refine ezw_iconst (0) rfl rfl ?_
  refine ezw_iadd (k := (0)) rfl (by omega) ?_
  refine ezw_aload_n rfl rfl ?_
  refine ezm_gp (p := 78) rfl (fun _ => rfl) ?_
  refine ezw_iconst (3) rfl rfl ?_
  refine ezm_l78 rfl (by omega) (by omega) (fun u1 eu1 => ?_)
  have ku1 : ezm_k78 (3) u1 := eu1 ▸ hT.t78 (3)
  have zu1 := ezm_za3 ku1 (by omega)
  refine ezm_s88 hT rfl (by omega) (by omega) ⟨(ezm_in78 ku1), by omega, by omega, by omega, by omega, by omega⟩ (fun r88_2 hT er88_2 fr88_2 => ?_)
  refine ezw_iconst (0) rfl rfl ?_
  refine ezw_istore_n rfl rfl ?_
  have L16_4 : ∀ c3 : Int, ezw_in c3 → ∀ x88_4 : Int → Int, ezm_T i0 i2 i3 i7 i8 i13 i18 i19 i20 i25 i29 i30 i31 i36 i37 i38 r73 r74 r75 r76 r77 r78 r79 r80 r81 r82 r83 r84 r85 r86 r87 x88_4 r89 r90 r91 r92 r93 r94 r95 → ((0) ≤ c3) → (x88_4 (0) = r78 3) → (∀ j, j < 0 ∨ 20 ≤ j → x88_4 j = r88 j) → (∀ k, 0 ≤ k → k < c3 → x88_4 (k + 1) = r78 (k + 65)) → ezw_E l ρ B xa Hb D cA d ezq_re215 (ezm_m215_v0nQ  e F A i0 i2 i3 i7 i8 i13 i18 i19 i20 i25 i29 i30 i31 i36 i37 i38 r73 r74 r75 r76 r77 r78 r79 r80 r81 r82 r83 r84 r85 r86 r87 r88 r89 r90 r91 r92 r93 r94 r95) 16 [some (ezw_p 72), some (ezw_i (0)), some (ezw_i c3)] [] (ezm_h e F A i0 i2 i3 i7 i8 i13 i18 i19 i20 i25 i29 i30 i31 i36 i37 i38 r73 r74 r75 r76 r77 r78 r79 r80 r81 r82 r83 r84 r85 r86 r87 x88_4 r89 r90 r91 r92 r93 r94 r95) := by
    refine ezs_up ?_
    intro c3 hc3 ihc3 x88_4 hT g_4 m_4 fb_4 o_4
    refine ezw_iload_n rfl rfl ?_
    refine ezw_bipush (6) rfl rfl ?_
    refine ezw_icmp_ge rfl rfl hc3 ⟨by decide, by decide⟩ (fun h19_4 => ?_) (fun h19_4 => ?_)
    · refine ezw_iconst (0) rfl rfl ?_
      refine ezw_istore_n rfl rfl ?_
      have L49_6 : ∀ c5 : Int, ezw_in c5 → ∀ x88_6 : Int → Int, ezm_T i0 i2 i3 i7 i8 i13 i18 i19 i20 i25 i29 i30 i31 i36 i37 i38 r73 r74 r75 r76 r77 r78 r79 r80 r81 r82 r83 r84 r85 r86 r87 x88_6 r89 r90 r91 r92 r93 r94 r95 → ((0) ≤ c5) → (x88_6 (0) = r78 3) → (∀ j, j < 0 ∨ 20 ≤ j → x88_6 j = r88 j) → (∀ k, 0 ≤ k → k < 6 → x88_6 (k + 1) = r78 (k + 65)) → (∀ t, 0 ≤ t → t < c5 → x88_6 (t + 7) = 0) → ezw_E l ρ B xa Hb D cA d ezq_re215 (ezm_m215_v0nQ  e F A i0 i2 i3 i7 i8 i13 i18 i19 i20 i25 i29 i30 i31 i36 i37 i38 r73 r74 r75 r76 r77 r78 r79 r80 r81 r82 r83 r84 r85 r86 r87 r88 r89 r90 r91 r92 r93 r94 r95) 49 [some (ezw_p 72), some (ezw_i (0)), some (ezw_i c5)] [] (ezm_h e F A i0 i2 i3 i7 i8 i13 i18 i19 i20 i25 i29 i30 i31 i36 i37 i38 r73 r74 r75 r76 r77 r78 r79 r80 r81 r82 r83 r84 r85 r86 r87 x88_6 r89 r90 r91 r92 r93 r94 r95) := by
        refine ezs_up ?_
        intro c5 hc5 ihc5 x88_6 hT g_6 m_6 fb_6 o_6 t7_6
        refine ezw_iload_n rfl rfl ?_
        refine ezw_bipush (8) rfl rfl ?_
        refine ezw_icmp_ge rfl rfl hc5 ⟨by decide, by decide⟩ (fun h52_6 => ?_) (fun h52_6 => ?_)
        · refine ezw_aload_n rfl rfl ?_
          refine ezm_gp (p := 88) rfl (fun _ => rfl) ?_
          refine ezw_iload_n rfl rfl ?_
          refine ezw_bipush (15) rfl rfl ?_
          refine ezw_iadd (k := (15)) rfl (by omega) ?_
          refine ezw_bipush (12) rfl rfl ?_
          refine ezm_s88 hT rfl (by omega) (by omega) ⟨⟨by decide, by decide⟩, by omega, by omega, by omega, by omega, by omega⟩ (fun r88_7 hT er88_7 fr88_7 => ?_)
          refine ezw_aload_n rfl rfl ?_
          refine ezm_gp (p := 88) rfl (fun _ => rfl) ?_
          refine ezw_iload_n rfl rfl ?_
          refine ezw_bipush (16) rfl rfl ?_
          refine ezw_iadd (k := (16)) rfl (by omega) ?_
          refine ezw_aload_n rfl rfl ?_
          refine ezm_gp (p := 78) rfl (fun _ => rfl) ?_
          refine ezw_bipush (6) rfl rfl ?_
          refine ezm_l78 rfl (by omega) (by omega) (fun u8 eu8 => ?_)
          have ku8 : ezm_k78 (6) u8 := eu8 ▸ hT.t78 (6)
          refine ezm_s88 hT rfl (by omega) (by omega) ⟨(ezm_in78 ku8), by omega, by omega, by omega, by omega, by omega⟩ (fun r88_9 hT er88_9 fr88_9 => ?_)
          refine ezw_aload_n rfl rfl ?_
          refine ezm_gp (p := 88) rfl (fun _ => rfl) ?_
          refine ezw_iload_n rfl rfl ?_
          refine ezw_bipush (17) rfl rfl ?_
          refine ezw_iadd (k := (17)) rfl (by omega) ?_
          refine ezw_aload_n rfl rfl ?_
          refine ezm_gp (p := 78) rfl (fun _ => rfl) ?_
          refine ezw_iconst (3) rfl rfl ?_
          refine ezm_l78 rfl (by omega) (by omega) (fun u10 eu10 => ?_)
          have fu10 : u1 = u10 := eu1.trans eu10.symm
          subst fu10
          refine ezw_if_ne rfl rfl (ezm_in78 ku1) (fun h114_10 => ?_) (fun h114_10 => ?_)
          · refine ezw_iconst (0) rfl rfl ?_
            refine ezm_s88 hT rfl (by omega) (by omega) ⟨⟨by decide, by decide⟩, by omega, by omega, by omega, by omega, by omega⟩ (fun r88_11 hT er88_11 fr88_11 => ?_)
            refine ezw_aload_n rfl rfl ?_
            refine ezm_gp (p := 88) rfl (fun _ => rfl) ?_
            refine ezw_iload_n rfl rfl ?_
            refine ezw_bipush (18) rfl rfl ?_
            refine ezw_iadd (k := (18)) rfl (by omega) ?_
            refine ezw_aload_n rfl rfl ?_
            refine ezm_gp (p := 78) rfl (fun _ => rfl) ?_
            refine ezw_iconst (5) rfl rfl ?_
            refine ezm_l78 rfl (by omega) (by omega) (fun u12 eu12 => ?_)
            have ku12 : ezm_k78 (5) u12 := eu12 ▸ hT.t78 (5)
            refine ezm_s88 hT rfl (by omega) (by omega) ⟨(ezm_in78 ku12), by omega, by omega, by omega, by omega, by omega⟩ (fun r88_13 hT er88_13 fr88_13 => ?_)
            refine ezw_aload_n rfl rfl ?_
            refine ezm_gp (p := 88) rfl (fun _ => rfl) ?_
            refine ezw_iload_n rfl rfl ?_
            refine ezw_bipush (19) rfl rfl ?_
            refine ezw_iadd (k := (19)) rfl (by omega) ?_
            refine ezw_iconst (1) rfl rfl ?_
            refine ezw_aload_n rfl rfl ?_
            refine ezw_call0_0 rfl (by omega) (ezm_at rfl) rfl rfl rfl rfl (ezm_m216 hT (by omega)) ?_
            rintro _ _ ⟨rfl, u15, hu15, p14_0, p14_1, rfl⟩
            have hp9 : 1 ≤ (2 : Int) ^ (u15).toNat ∧ (2 : Int) ^ (u15).toNat ≤ 16 := by
              rcases (show u15 = 0 ∨ u15 = 1 ∨ u15 = 2 ∨ u15 = 3 ∨ u15 = 4 by omega) with h | h | h | h | h <;> (rw [h]; decide)
            refine ezw_ishl rfl (by omega) (by omega) (k := (1 * 2 ^ (u15).toNat)) (rfl) ?_
            refine ezw_iconst (1) rfl rfl ?_
            refine ezw_isub (k := (1 * 2 ^ (u15).toNat) - 1) rfl (by omega) ?_
            refine ezm_s88 hT rfl (by omega) (by omega) ⟨⟨by omega, by omega⟩, by omega, by omega, by omega, by omega, by omega⟩ (fun r88_16 hT er88_16 fr88_16 => ?_)
            exact ezw_return rfl rfl ⟨r88_16, rfl, hT, fun j hj => by rw [fr88_16 j (by omega), fr88_13 j (by omega), fr88_11 j (by omega), fr88_9 j (by omega), fr88_7 j (by omega), fb_6 j hj], ezm_SV_of (b := 0) (b1 := 1) (b17 := 17) (by decide) (by decide) ⟨fun z => by
                  rw [fr88_16 (17) (by omega), fr88_13 (17) (by omega), er88_11] at z
                  rw [fr88_16 (0) (by omega), fr88_13 (0) (by omega), fr88_11 (0) (by omega), fr88_9 (0) (by omega), fr88_7 (0) (by omega), m_6]
                  omega, fun k k0 k1 => by
                  rw [fr88_16 (0) (by omega), fr88_13 (0) (by omega), fr88_11 (0) (by omega), fr88_9 (0) (by omega), fr88_7 (0) (by omega), m_6] at k1
                  rw [fr88_16 (k + 1) (by omega), fr88_13 (k + 1) (by omega), fr88_11 (k + 1) (by omega), fr88_9 (k + 1) (by omega), fr88_7 (k + 1) (by omega), o_6 k k0 (by omega)]
                  exact st k k0 k1⟩, (by
                  refine ⟨?_, fun k k0 k1 => ?_, fun t t0 t1 => ?_, ?_, ?_, ?_, ?_, ?_⟩
                  · rw [fr88_16 (0) (by omega), fr88_13 (0) (by omega), fr88_11 (0) (by omega), fr88_9 (0) (by omega), fr88_7 (0) (by omega)]; exact m_6
                  · rw [fr88_16 (k + 1) (by omega), fr88_13 (k + 1) (by omega), fr88_11 (k + 1) (by omega), fr88_9 (k + 1) (by omega), fr88_7 (k + 1) (by omega)]; exact o_6 k k0 (by omega)
                  · rw [fr88_16 (t + 7) (by omega), fr88_13 (t + 7) (by omega), fr88_11 (t + 7) (by omega), fr88_9 (t + 7) (by omega), fr88_7 (t + 7) (by omega)]; exact t7_6 t t0 (by omega)
                  · rw [fr88_16 (15) (by omega), fr88_13 (15) (by omega), fr88_11 (15) (by omega), fr88_9 (15) (by omega), er88_7]
                  · rw [fr88_16 (16) (by omega), fr88_13 (16) (by omega), fr88_11 (16) (by omega), er88_9, eu8]
                  · rw [fr88_16 (17) (by omega), fr88_13 (17) (by omega), er88_11]
                    first
                      | (rw [if_pos (by omega)])
                      | (rw [if_neg (by omega)])
                  · rw [fr88_16 (18) (by omega), er88_13, eu12]
                  · rw [er88_16, show u15 = r78 1 by omega]), rfl⟩
          · refine ezw_iconst (1) rfl rfl ?_
            refine ezw_goto rfl rfl ?_
            refine ezm_s88 hT rfl (by omega) (by omega) ⟨⟨by decide, by decide⟩, by omega, by omega, by omega, by omega, by omega⟩ (fun r88_17 hT er88_17 fr88_17 => ?_)
            refine ezw_aload_n rfl rfl ?_
            refine ezm_gp (p := 88) rfl (fun _ => rfl) ?_
            refine ezw_iload_n rfl rfl ?_
            refine ezw_bipush (18) rfl rfl ?_
            refine ezw_iadd (k := (18)) rfl (by omega) ?_
            refine ezw_aload_n rfl rfl ?_
            refine ezm_gp (p := 78) rfl (fun _ => rfl) ?_
            refine ezw_iconst (5) rfl rfl ?_
            refine ezm_l78 rfl (by omega) (by omega) (fun u18 eu18 => ?_)
            have ku18 : ezm_k78 (5) u18 := eu18 ▸ hT.t78 (5)
            refine ezm_s88 hT rfl (by omega) (by omega) ⟨(ezm_in78 ku18), by omega, by omega, by omega, by omega, by omega⟩ (fun r88_19 hT er88_19 fr88_19 => ?_)
            refine ezw_aload_n rfl rfl ?_
            refine ezm_gp (p := 88) rfl (fun _ => rfl) ?_
            refine ezw_iload_n rfl rfl ?_
            refine ezw_bipush (19) rfl rfl ?_
            refine ezw_iadd (k := (19)) rfl (by omega) ?_
            refine ezw_iconst (1) rfl rfl ?_
            refine ezw_aload_n rfl rfl ?_
            refine ezw_call0_0 rfl (by omega) (ezm_at rfl) rfl rfl rfl rfl (ezm_m216 hT (by omega)) ?_
            rintro _ _ ⟨rfl, u21, hu21, p20_0, p20_1, rfl⟩
            have hp9 : 1 ≤ (2 : Int) ^ (u21).toNat ∧ (2 : Int) ^ (u21).toNat ≤ 16 := by
              rcases (show u21 = 0 ∨ u21 = 1 ∨ u21 = 2 ∨ u21 = 3 ∨ u21 = 4 by omega) with h | h | h | h | h <;> (rw [h]; decide)
            refine ezw_ishl rfl (by omega) (by omega) (k := (1 * 2 ^ (u21).toNat)) (rfl) ?_
            refine ezw_iconst (1) rfl rfl ?_
            refine ezw_isub (k := (1 * 2 ^ (u21).toNat) - 1) rfl (by omega) ?_
            refine ezm_s88 hT rfl (by omega) (by omega) ⟨⟨by omega, by omega⟩, by omega, by omega, by omega, by omega, by omega⟩ (fun r88_22 hT er88_22 fr88_22 => ?_)
            exact ezw_return rfl rfl ⟨r88_22, rfl, hT, fun j hj => by rw [fr88_22 j (by omega), fr88_19 j (by omega), fr88_17 j (by omega), fr88_9 j (by omega), fr88_7 j (by omega), fb_6 j hj], ezm_SV_of (b := 0) (b1 := 1) (b17 := 17) (by decide) (by decide) ⟨fun z => by
                  rw [fr88_22 (17) (by omega), fr88_19 (17) (by omega), er88_17] at z
                  rw [fr88_22 (0) (by omega), fr88_19 (0) (by omega), fr88_17 (0) (by omega), fr88_9 (0) (by omega), fr88_7 (0) (by omega), m_6]
                  omega, fun k k0 k1 => by
                  rw [fr88_22 (0) (by omega), fr88_19 (0) (by omega), fr88_17 (0) (by omega), fr88_9 (0) (by omega), fr88_7 (0) (by omega), m_6] at k1
                  rw [fr88_22 (k + 1) (by omega), fr88_19 (k + 1) (by omega), fr88_17 (k + 1) (by omega), fr88_9 (k + 1) (by omega), fr88_7 (k + 1) (by omega), o_6 k k0 (by omega)]
                  exact st k k0 k1⟩, (by
                  refine ⟨?_, fun k k0 k1 => ?_, fun t t0 t1 => ?_, ?_, ?_, ?_, ?_, ?_⟩
                  · rw [fr88_22 (0) (by omega), fr88_19 (0) (by omega), fr88_17 (0) (by omega), fr88_9 (0) (by omega), fr88_7 (0) (by omega)]; exact m_6
                  · rw [fr88_22 (k + 1) (by omega), fr88_19 (k + 1) (by omega), fr88_17 (k + 1) (by omega), fr88_9 (k + 1) (by omega), fr88_7 (k + 1) (by omega)]; exact o_6 k k0 (by omega)
                  · rw [fr88_22 (t + 7) (by omega), fr88_19 (t + 7) (by omega), fr88_17 (t + 7) (by omega), fr88_9 (t + 7) (by omega), fr88_7 (t + 7) (by omega)]; exact t7_6 t t0 (by omega)
                  · rw [fr88_22 (15) (by omega), fr88_19 (15) (by omega), fr88_17 (15) (by omega), fr88_9 (15) (by omega), er88_7]
                  · rw [fr88_22 (16) (by omega), fr88_19 (16) (by omega), fr88_17 (16) (by omega), er88_9, eu8]
                  · rw [fr88_22 (17) (by omega), fr88_19 (17) (by omega), er88_17]
                    first
                      | (rw [if_pos (by omega)])
                      | (rw [if_neg (by omega)])
                  · rw [fr88_22 (18) (by omega), er88_19, eu18]
                  · rw [er88_22, show u21 = r78 1 by omega]), rfl⟩
        · refine ezw_aload_n rfl rfl ?_
          refine ezm_gp (p := 88) rfl (fun _ => rfl) ?_
          refine ezw_iload_n rfl rfl ?_
          refine ezw_bipush (7) rfl rfl ?_
          refine ezw_iadd (k := (7)) rfl (by omega) ?_
          refine ezw_iload_n rfl rfl ?_
          refine ezw_iadd (k := c5 + 7) rfl (by omega) ?_
          refine ezw_iconst (0) rfl rfl ?_
          refine ezm_s88 hT rfl (by omega) (by omega) ⟨⟨by decide, by decide⟩, by omega, by omega, by omega, by omega, by omega⟩ (fun r88_23 hT er88_23 fr88_23 => ?_)
          refine ezw_iinc (k := c5 + 1) (1) rfl rfl rfl (by omega) rfl ?_
          refine ezw_goto rfl rfl ?_
          exact ezw_keepE [true, true, true] (ihc5 (c5 + 1) (by omega) ⟨by omega, by omega⟩ r88_23 hT (by omega) (by rw [fr88_23 (0) (by omega)]; exact m_6) (fun j hj => by rw [fr88_23 j (by omega), fb_6 j hj]) (fun k k0 k1 => by rw [fr88_23 (k + 1) (by omega), o_6 k k0 k1]) (fun t t0 t1 => by
                by_cases ht : t = c5
                · subst ht
                  rw [er88_23]
                · rw [fr88_23 (t + 7) (by omega), t7_6 t t0 (by omega)]))
      exact ezw_keepE [true, true, true] (L49_6 (0) ⟨by decide, by decide⟩ x88_4 hT (by omega) m_4 fb_4 (fun k k0 k1 => o_4 k k0 (by omega)) (fun t t0 t1 => by omega))
    · refine ezw_aload_n rfl rfl ?_
      refine ezm_gp (p := 88) rfl (fun _ => rfl) ?_
      refine ezw_iload_n rfl rfl ?_
      refine ezw_iconst (1) rfl rfl ?_
      refine ezw_iadd (k := (1)) rfl (by omega) ?_
      refine ezw_iload_n rfl rfl ?_
      refine ezw_iadd (k := c3 + 1) rfl (by omega) ?_
      refine ezw_aload_n rfl rfl ?_
      refine ezm_gp (p := 78) rfl (fun _ => rfl) ?_
      refine ezw_bipush (65) rfl rfl ?_
      refine ezw_iload_n rfl rfl ?_
      refine ezw_iadd (k := c3 + 65) rfl (by omega) ?_
      refine ezm_l78 rfl (by omega) (by omega) (fun u24 eu24 => ?_)
      have ku24 : ezm_k78 (c3 + 65) u24 := eu24 ▸ hT.t78 (c3 + 65)
      have zu24 := ezm_za65 ku24 (by omega)
      refine ezm_s88 hT rfl (by omega) (by omega) ⟨(ezm_in78 ku24), by omega, by omega, by omega, by omega, by omega⟩ (fun r88_25 hT er88_25 fr88_25 => ?_)
      refine ezw_iinc (k := c3 + 1) (1) rfl rfl rfl (by omega) rfl ?_
      refine ezw_goto rfl rfl ?_
      exact ezw_keepE [true, true, true] (ihc3 (c3 + 1) (by omega) ⟨by omega, by omega⟩ r88_25 hT (by omega) (by rw [fr88_25 (0) (by omega)]; exact m_4) (fun j hj => by rw [fr88_25 j (by omega), fb_4 j hj]) (fun k k0 k1 => by
            by_cases hk : k = c3
            · subst hk
              rw [er88_25, eu24]
            · rw [fr88_25 (k + 1) (by omega), o_4 k k0 (by omega)]))
  exact ezw_keepE [true, true, true] (L16_4 (0) ⟨by decide, by decide⟩ r88_2 hT (by omega) (by rw [er88_2, eu1]) (fun j hj => by rw [fr88_2 j (by omega)]) (fun k k0 k1 => by omega))
def ezm_m214nQ (e : Bool × Bool) (F : Nat → Nat → Int) (A : Nat → Int → Int) (i0 i2 i3 i7 i8 i13 i18 i19 i20 i25 i29 i30 i31 i36 i37 i38 : Int) (r73 r74 r75 r76 r77 r78 r79 r80 r81 r82 r83 r84 r85 r86 r87 r88 r89 r90 r91 r92 r93 r94 r95 : Int → Int) : Option ezq_V → (Nat → ezq_C) → Prop := fun v g' => ∃ (x25 : Int) (x85 x88 x89 : Int → Int), ezm_h e F A i0 i2 i3 i7 i8 i13 i18 i19 i20 x25 i29 i30 i31 i36 i37 i38 r73 r74 r75 r76 r77 r78 r79 r80 r81 r82 r83 r84 x85 r86 r87 x88 x89 r90 r91 r92 r93 r94 r95 = g' ∧ ezm_T i0 i2 i3 i7 i8 i13 i18 i19 i20 x25 i29 i30 i31 i36 i37 i38 r73 r74 r75 r76 r77 r78 r79 r80 r81 r82 r83 r84 x85 r86 r87 x88 x89 r90 r91 r92 r93 r94 r95 ∧ (x25 = 0) ∧ (ezm_OK r78 x88 x89 0) ∧ (ezj_RW r78 x88) ∧ (x88 20 = 0) ∧ (∀ m, 0 ≤ m → m < 4 → x89 m = 0) ∧ none = v
theorem ezm_m214n (hT : ezm_T i0 i2 i3 i7 i8 i13 i18 i19 i20 i25 i29 i30 i31 i36 i37 i38 r73 r74 r75 r76 r77 r78 r79 r80 r81 r82 r83 r84 r85 r86 r87 r88 r89 r90 r91 r92 r93 r94 r95) (hd : 2 ≤ d) (st : ∀ k, 0 ≤ k → k < r78 3 → r78 (k + 65) < r78 0) : ezw_C l ρ B xa Hb D cA 214 d [ezw_p 72] (ezm_h e F A i0 i2 i3 i7 i8 i13 i18 i19 i20 i25 i29 i30 i31 i36 i37 i38 r73 r74 r75 r76 r77 r78 r79 r80 r81 r82 r83 r84 r85 r86 r87 r88 r89 r90 r91 r92 r93 r94 r95) (ezm_m214nQ  e F A i0 i2 i3 i7 i8 i13 i18 i19 i20 i25 i29 i30 i31 i36 i37 i38 r73 r74 r75 r76 r77 r78 r79 r80 r81 r82 r83 r84 r85 r86 r87 r88 r89 r90 r91 r92 r93 r94 r95) := by
  refine ezw_met (k := 1) rfl rfl ?_
  refine ezw_aload_n rfl rfl ?_
  refine ezw_iconst (0) rfl rfl ?_
  refine ezw_call0_1 rfl (by omega) (ezm_at rfl) rfl rfl rfl rfl (ezm_m215_v0n hT (by omega) st) ?_
  rintro _ _ ⟨x88_1, rfl, hT, fb_1, sv_1, rw_1, rfl⟩
  have s0 := (ezm_zs0 (hT.t88 0) (by decide)).2
  refine ezw_aload_n rfl rfl ?_
  refine ezm_gp (p := 88) rfl (fun _ => rfl) ?_
  refine ezw_bipush (20) rfl rfl ?_
  refine ezw_iconst (0) rfl rfl ?_
  refine ezm_s88 hT rfl (by omega) (by omega) ⟨⟨by decide, by decide⟩, by omega, by omega, by omega, by omega, by omega⟩ (fun r88_2 hT er88_2 fr88_2 => ?_)
  refine ezw_aload_n rfl rfl ?_
  refine ezm_gp (p := 85) rfl (fun _ => rfl) ?_
  refine ezw_iconst (0) rfl rfl ?_
  refine ezw_iconst (0) rfl rfl ?_
  refine ezm_s85 hT rfl (by omega) (by omega) ⟨by omega, by omega⟩ (fun r85_3 hT er85_3 fr85_3 => ?_)
  refine ezw_aload_n rfl rfl ?_
  refine ezw_iconst (0) rfl rfl ?_
  refine ezm_p25 hT rfl ⟨by omega, by omega⟩ (fun hT => ?_)
  refine ezw_iconst (0) rfl rfl ?_
  refine ezw_istore_n rfl rfl ?_
  have L27_5 : ∀ c4 : Int, ezw_in c4 → ∀ x89_5 : Int → Int, ezm_T i0 i2 i3 i7 i8 i13 i18 i19 i20 (0) i29 i30 i31 i36 i37 i38 r73 r74 r75 r76 r77 r78 r79 r80 r81 r82 r83 r84 r85_3 r86 r87 r88_2 x89_5 r90 r91 r92 r93 r94 r95 → ((0) ≤ c4) → (∀ j, 0 ≤ j → j < c4 → x89_5 j = 0) → ezw_E l ρ B xa Hb D cA d ezq_re214 (ezm_m214nQ  e F A i0 i2 i3 i7 i8 i13 i18 i19 i20 i25 i29 i30 i31 i36 i37 i38 r73 r74 r75 r76 r77 r78 r79 r80 r81 r82 r83 r84 r85 r86 r87 r88 r89 r90 r91 r92 r93 r94 r95) 27 [some (ezw_p 72), some (ezw_i c4)] [] (ezm_h e F A i0 i2 i3 i7 i8 i13 i18 i19 i20 (0) i29 i30 i31 i36 i37 i38 r73 r74 r75 r76 r77 r78 r79 r80 r81 r82 r83 r84 r85_3 r86 r87 r88_2 x89_5 r90 r91 r92 r93 r94 r95) := by
    refine ezs_up ?_
    intro c4 hc4 ihc4 x89_5 hT g_5 z_5
    refine ezw_iload_n rfl rfl ?_
    refine ezw_iconst (4) rfl rfl ?_
    refine ezw_icmp_ge rfl rfl hc4 ⟨by decide, by decide⟩ (fun h29_5 => ?_) (fun h29_5 => ?_)
    · exact ezw_return rfl rfl ⟨(0), r85_3, r88_2, x89_5, rfl, hT, by omega, ezm_OK_0 sv_1 s0 (fun j j0 j1 => fr88_2 j (by omega)) (fun j j0 j1 => z_5 j j0 (by omega)), (ezj_RW_f rw_1 (fun j j0 j1 => fr88_2 j (by omega))), (by rw [er88_2]), (fun m m0 m1 => z_5 m m0 (by omega)), rfl⟩
    · refine ezw_aload_n rfl rfl ?_
      refine ezm_gp (p := 89) rfl (fun _ => rfl) ?_
      refine ezw_iload_n rfl rfl ?_
      refine ezw_iconst (0) rfl rfl ?_
      refine ezm_s89 hT rfl (by omega) (by omega) ⟨by omega, by omega⟩ ⟨by omega, by omega⟩ (fun r89_6 hT er89_6 fr89_6 => ?_)
      refine ezw_iinc (k := c4 + 1) (1) rfl rfl rfl (by omega) rfl ?_
      refine ezw_goto rfl rfl ?_
      exact ezw_keepE [true, true] (ihc4 (c4 + 1) (by omega) ⟨by omega, by omega⟩ r89_6 hT (by omega) (fun j h1 h2 => by
            by_cases hj : j = c4
            · rw [hj, er89_6]
            · rw [fr89_6 j hj, z_5 j h1 (by omega)]))
  exact ezw_keepE [true, true] (L27_5 (0) ⟨by decide, by decide⟩ r89 hT (by omega) (fun j h1 h2 => by omega))
end KM6
