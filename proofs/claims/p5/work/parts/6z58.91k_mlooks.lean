/-! ===== the model: what is looked at ===== -/
section KM6
variable {l : Launch} {ρ : ezq_E} {B : Nat} {xa : Nat → Option Nat} {Hb : Heap} {D : va_G} {cA : Nat → ClassId} {d : Nat} {e : Bool × Bool} {F : Nat → Nat → Int} {A : Nat → Int → Int} {i0 i2 i3 i7 i8 i13 i18 i19 i20 i25 i29 i30 i31 i36 i37 i38 : Int} {r73 r74 r75 r76 r77 r78 r79 r80 r81 r82 r83 r84 r85 r86 r87 r88 r89 r90 r91 r92 r93 r94 r95 : Int → Int}
def ezm_m259nQ (e : Bool × Bool) (F : Nat → Nat → Int) (A : Nat → Int → Int) (i0 i2 i3 i7 i8 i13 i18 i19 i20 i25 i29 i30 i31 i36 i37 i38 : Int) (r73 r74 r75 r76 r77 r78 r79 r80 r81 r82 r83 r84 r85 r86 r87 r88 r89 r90 r91 r92 r93 r94 r95 : Int → Int) (a1 : Int) (a2 : Int) : Option ezq_V → (Nat → ezq_C) → Prop := fun v g' => ezm_h e F A i0 i2 i3 i7 i8 i13 i18 i19 i20 i25 i29 i30 i31 i36 i37 i38 r73 r74 r75 r76 r77 r78 r79 r80 r81 r82 r83 r84 r85 r86 r87 r88 r89 r90 r91 r92 r93 r94 r95 = g' ∧ ∃ u : Int, (ezw_in u) ∧ (u = r78 (4 * a1 + 17 + a2)) ∧ some (ezw_i u) = v
theorem ezm_m259n {a1 a2 : Int} (hT : ezm_T i0 i2 i3 i7 i8 i13 i18 i19 i20 i25 i29 i30 i31 i36 i37 i38 r73 r74 r75 r76 r77 r78 r79 r80 r81 r82 r83 r84 r85 r86 r87 r88 r89 r90 r91 r92 r93 r94 r95) (hd : 0 ≤ d) (ha1 : ezw_in a1) (ha2 : ezw_in a2) (ga : 0 ≤ a1 ∧ a1 ≤ 7) (gb : 0 ≤ a2 ∧ a2 ≤ 3) : ezw_C l ρ B xa Hb D cA 259 d [ezw_p 72, ezw_i a1, ezw_i a2] (ezm_h e F A i0 i2 i3 i7 i8 i13 i18 i19 i20 i25 i29 i30 i31 i36 i37 i38 r73 r74 r75 r76 r77 r78 r79 r80 r81 r82 r83 r84 r85 r86 r87 r88 r89 r90 r91 r92 r93 r94 r95) (ezm_m259nQ  e F A i0 i2 i3 i7 i8 i13 i18 i19 i20 i25 i29 i30 i31 i36 i37 i38 r73 r74 r75 r76 r77 r78 r79 r80 r81 r82 r83 r84 r85 r86 r87 r88 r89 r90 r91 r92 r93 r94 r95 a1 a2) := by
  refine ezw_met (k := 0) rfl rfl ?_
  refine ezw_aload_n rfl rfl ?_
  refine ezm_gp (p := 78) rfl (fun _ => rfl) ?_
  refine ezw_bipush (17) rfl rfl ?_
  refine ezw_iconst (4) rfl rfl ?_
  refine ezw_iload_n rfl rfl ?_
  refine ezw_imul (k := 4 * a1) rfl (by omega) ?_
  refine ezw_iadd (k := 4 * a1 + 17) rfl (by omega) ?_
  refine ezw_iload_n rfl rfl ?_
  refine ezw_iadd (k := 4 * a1 + a2 + 17) rfl (by omega) ?_
  refine ezm_l78 rfl (by omega) (by omega) (fun u1 eu1 => ?_)
  have ku1 : ezm_k78 (4 * a1 + a2 + 17) u1 := eu1 ▸ hT.t78 (4 * a1 + a2 + 17)
  exact ezw_ireturn rfl rfl ⟨rfl, u1, (ezm_in78 ku1), (by rw [eu1]; congr 1; omega), rfl⟩
def ezm_m256nQ (e : Bool × Bool) (F : Nat → Nat → Int) (A : Nat → Int → Int) (i0 i2 i3 i7 i8 i13 i18 i19 i20 i25 i29 i30 i31 i36 i37 i38 : Int) (r73 r74 r75 r76 r77 r78 r79 r80 r81 r82 r83 r84 r85 r86 r87 r88 r89 r90 r91 r92 r93 r94 r95 : Int → Int) (z : ezp_D) (w : ezn_N) (a1 : Int) (a2 : Int) : Option ezq_V → (Nat → ezq_C) → Prop := fun v g' => ∃ (x0 : Int), ezm_h e F A x0 i2 i3 i7 i8 i13 i18 i19 i20 i25 i29 i30 i31 i36 i37 i38 r73 r74 r75 r76 r77 r78 r79 r80 r81 r82 r83 r84 r85 r86 r87 r88 r89 r90 r91 r92 r93 r94 r95 = g' ∧ ezm_T x0 i2 i3 i7 i8 i13 i18 i19 i20 i25 i29 i30 i31 i36 i37 i38 r73 r74 r75 r76 r77 r78 r79 r80 r81 r82 r83 r84 r85 r86 r87 r88 r89 r90 r91 r92 r93 r94 r95 ∧ ∃ u : Int, (ezw_in u) ∧ (u = ezn_tw z w a1 a2) ∧ some (ezw_i u) = v
theorem ezm_m256n {z : ezp_D} {w : ezn_N} {a1 a2 : Int} (hT : ezm_T i0 i2 i3 i7 i8 i13 i18 i19 i20 i25 i29 i30 i31 i36 i37 i38 r73 r74 r75 r76 r77 r78 r79 r80 r81 r82 r83 r84 r85 r86 r87 r88 r89 r90 r91 r92 r93 r94 r95) (hd : 2 ≤ d) (ha1 : ezw_in a1) (ha2 : ezw_in a2) (nw : ezn_NW z w 0 r88) (wb : ezn_B z w) (tf : ezm_TRF z i18 r78 r81 r83) (hB : ezp_B z) : ezw_C l ρ B xa Hb D cA 256 d [ezw_p 72, ezw_i a1, ezw_i a2] (ezm_h e F A i0 i2 i3 i7 i8 i13 i18 i19 i20 i25 i29 i30 i31 i36 i37 i38 r73 r74 r75 r76 r77 r78 r79 r80 r81 r82 r83 r84 r85 r86 r87 r88 r89 r90 r91 r92 r93 r94 r95) (ezm_m256nQ  e F A i0 i2 i3 i7 i8 i13 i18 i19 i20 i25 i29 i30 i31 i36 i37 i38 r73 r74 r75 r76 r77 r78 r79 r80 r81 r82 r83 r84 r85 r86 r87 r88 r89 r90 r91 r92 r93 r94 r95 z w a1 a2) := by
  refine ezw_met (k := 0) rfl rfl ?_
  obtain ⟨⟨k0, k1, k2, k3⟩, ktw, kth, kov, ksg, kel, knu, knm⟩ := ezm_TRFi tf
  obtain ⟨b1, b2, b3, b4, b5, b6, b7, ⟨b8, b8'⟩, b9⟩ := id hB
  obtain ⟨n0, n1, n2, n3, n4, n5, n6, n7⟩ := (ezn_NW_i 0 1 7 15 16 17 18 19 (by decide) (by decide) (by decide) (by decide) (by decide) (by decide) (by decide)).mp nw
  obtain ⟨⟨x0, x1⟩, x2, x3, x4, x5, x6, x7, x8, x9, x10, x11, x12⟩ := id wb
  have xc := ezn_cn_r x0 x1
  refine ezw_aload_n rfl rfl ?_
  refine ezw_iconst (0) rfl rfl ?_
  refine ezm_p0 hT rfl ⟨by decide, by decide⟩ (fun hT => ?_)
  refine ezw_aload_n rfl rfl ?_
  refine ezw_iload_n rfl rfl ?_
  refine ezw_call0_1 rfl (by omega) (ezm_at rfl) rfl rfl rfl rfl (ezm_m257a hT (by omega) ha1) ?_
  rintro _ _ ⟨rfl, u2, hu2, p1_0, p1_1, rfl⟩
  refine ezw_if_eq rfl rfl ⟨by omega, by omega⟩ (fun h10_2 => ?_) (fun h10_2 => ?_)
  · refine ezw_iconst (-1) rfl rfl ?_
    exact ezw_ireturn rfl rfl ⟨(0), rfl, hT, (-1), ⟨by decide, by decide⟩, (by
          unfold ezn_tw
          (repeat (first | rw [if_pos (by omega)] | rw [if_neg (by omega)]))
          try omega), rfl⟩
  · refine ezw_iload_n rfl rfl ?_
    refine ezw_iconst (0) rfl rfl ?_
    refine ezw_iconst (5) rfl rfl ?_
    refine ezw_call2_3 rfl (by omega) rfl rfl (ezm_m236a hT (by omega) ha2 ⟨by decide, by decide⟩ ⟨by decide, by decide⟩) ?_
    rintro _ _ ⟨rfl, u4, hu4, p3_0, p3_1, rfl⟩
    refine ezw_if_ne rfl rfl ⟨by omega, by omega⟩ (fun h19_4 => ?_) (fun h19_4 => ?_)
    · refine ezw_iload_n rfl rfl ?_
      refine ezw_iconst (4) rfl rfl ?_
      refine ezw_icmp_ge rfl rfl ha2 ⟨by decide, by decide⟩ (fun h26_4 => ?_) (fun h26_4 => ?_)
      · refine ezw_iload_n rfl rfl ?_
        refine ezw_iconst (4) rfl rfl ?_
        refine ezw_icmp_ne rfl rfl ha2 ⟨by decide, by decide⟩ (fun h40_4 => ?_) (fun h40_4 => ?_)
        · refine ezw_aload_n rfl rfl ?_
          refine ezw_iconst (0) rfl rfl ?_
          refine ezw_iload_n rfl rfl ?_
          refine ezw_call0_2 rfl (by omega) (ezm_at rfl) rfl rfl rfl rfl (ezm_m260_v0n hT (by omega) ha1 nw wb hB) ?_
          rintro _ _ ⟨rfl, u6, hu6, ov_5, no_5, rfl⟩
          have z9 := ov_5
          have z8 := no_5
          refine ezw_if_eq rfl rfl ⟨by omega, by omega⟩ (fun h61_6 => ?_) (fun h61_6 => ?_)
          · refine ezw_iconst (0) rfl rfl ?_
            exact ezw_ireturn rfl rfl ⟨(0), rfl, hT, (0), ⟨by decide, by decide⟩, (by
                  unfold ezn_tw
                  (repeat (first | rw [if_pos (by omega)] | rw [if_neg (by omega)]))
                  try omega), rfl⟩
          · refine ezw_iconst (1) rfl rfl ?_
            refine ezw_goto rfl rfl ?_
            exact ezw_ireturn rfl rfl ⟨(0), rfl, hT, (1), ⟨by decide, by decide⟩, (by
                  unfold ezn_tw
                  (repeat (first | rw [if_pos (by omega)] | rw [if_neg (by omega)]))
                  try omega), rfl⟩
        · refine ezw_aload_n rfl rfl ?_
          refine ezm_gp (p := 88) rfl (fun _ => rfl) ?_
          refine ezw_bipush (7) rfl rfl ?_
          refine ezw_iload_n rfl rfl ?_
          refine ezw_iadd (k := a1 + 7) rfl (by omega) ?_
          refine ezm_l88 rfl (by omega) (by omega) (fun u7 eu7 => ?_)
          have ku7 : ezm_k88 (a1 + 7) u7 := eu7 ▸ hT.t88 (a1 + 7)
          have zu7 := ezm_zs7 ku7 (by omega)
          have z9 : u7 = if a1 = ezn_la z w then w.ti else 0 := by
            rw [eu7, ← n2 a1 (by omega) (by omega)]
            first
              | done
              | (congr 1; omega)
          refine ezw_goto rfl rfl ?_
          exact ezw_ireturn rfl rfl ⟨(0), rfl, hT, u7, (ezm_in88 ku7), (by
                unfold ezn_tw
                rw [z9]
                (repeat (first | rw [if_pos (show 0 ≤ a1 ∧ a1 < z.kT by omega)] | rw [if_neg (show ¬ a2 = 0 by omega)] | rw [if_neg (show ¬ a2 = 1 by omega)] | rw [if_neg (show ¬ a2 = 2 by omega)] | rw [if_neg (show ¬ a2 = 3 by omega)] | rw [if_pos (show a2 = 4 by omega)]))), rfl⟩
      · refine ezw_aload_n rfl rfl ?_
        refine ezw_iload_n rfl rfl ?_
        refine ezw_iload_n rfl rfl ?_
        refine ezw_call0_2 rfl (by omega) (ezm_at rfl) rfl rfl rfl rfl (ezm_m259n hT (by omega) ha1 ha2 (by omega) (by omega)) ?_
        rintro _ _ ⟨rfl, u9, hu9, tw_8, rfl⟩
        obtain ⟨f1, f2, f3, f4⟩ := ktw a1 (by omega) (by omega)
        have z9 : u9 = r78 (4 * a1 + 17 + a2) := tw_8
        have z8 : a2 = 0 ∧ u9 = z.hi a1 ∨ a2 = 1 ∧ u9 = z.th a1 ∨ a2 = 2 ∧ u9 = z.si a1 ∨ a2 = 3 ∧ u9 = z.on a1 := by
          rcases (show a2 = 0 ∨ a2 = 1 ∨ a2 = 2 ∨ a2 = 3 by omega) with y | y | y | y
          · exact Or.inl ⟨y, by rw [z9, y, ← f1]; congr 1; omega⟩
          · exact Or.inr (Or.inl ⟨y, by rw [z9, y, ← f2]; congr 1; omega⟩)
          · exact Or.inr (Or.inr (Or.inl ⟨y, by rw [z9, y, ← f3]; congr 1; omega⟩))
          · exact Or.inr (Or.inr (Or.inr ⟨y, by rw [z9, y, ← f4]; congr 1; omega⟩))
        refine ezw_goto rfl rfl ?_
        exact ezw_ireturn rfl rfl ⟨(0), rfl, hT, u9, hu9, (by
              unfold ezn_tw
              rcases z8 with ⟨y1, y2⟩ | ⟨y1, y2⟩ | ⟨y1, y2⟩ | ⟨y1, y2⟩ <;> (repeat (first | rw [if_pos (by omega)] | rw [if_neg (by omega)])) <;> exact y2), rfl⟩
    · refine ezw_iconst (-1) rfl rfl ?_
      exact ezw_ireturn rfl rfl ⟨(0), rfl, hT, (-1), ⟨by decide, by decide⟩, (by
            unfold ezn_tw
            (repeat (first | rw [if_pos (by omega)] | rw [if_neg (by omega)]))
            try omega), rfl⟩
def ezm_m261nQ (e : Bool × Bool) (F : Nat → Nat → Int) (A : Nat → Int → Int) (i0 i2 i3 i7 i8 i13 i18 i19 i20 i25 i29 i30 i31 i36 i37 i38 : Int) (r73 r74 r75 r76 r77 r78 r79 r80 r81 r82 r83 r84 r85 r86 r87 r88 r89 r90 r91 r92 r93 r94 r95 : Int → Int) (z : ezp_D) (w : ezn_N) (a1 : Int) (a2 : Int) : Option ezq_V → (Nat → ezq_C) → Prop := fun v g' => ∃ (x0 : Int), ezm_h e F A x0 i2 i3 i7 i8 i13 i18 i19 i20 i25 i29 i30 i31 i36 i37 i38 r73 r74 r75 r76 r77 r78 r79 r80 r81 r82 r83 r84 r85 r86 r87 r88 r89 r90 r91 r92 r93 r94 r95 = g' ∧ ezm_T x0 i2 i3 i7 i8 i13 i18 i19 i20 i25 i29 i30 i31 i36 i37 i38 r73 r74 r75 r76 r77 r78 r79 r80 r81 r82 r83 r84 r85 r86 r87 r88 r89 r90 r91 r92 r93 r94 r95 ∧ ∃ u : Int, (ezw_in u) ∧ (u = ezn_tg z w a1 a2) ∧ some (ezw_i u) = v
theorem ezm_m261n {z : ezp_D} {w : ezn_N} {a1 a2 : Int} (hT : ezm_T i0 i2 i3 i7 i8 i13 i18 i19 i20 i25 i29 i30 i31 i36 i37 i38 r73 r74 r75 r76 r77 r78 r79 r80 r81 r82 r83 r84 r85 r86 r87 r88 r89 r90 r91 r92 r93 r94 r95) (hd : 2 ≤ d) (ha1 : ezw_in a1) (ha2 : ezw_in a2) (nw : ezn_NW z w 0 r88) (wb : ezn_B z w) (tf : ezm_TRF z i18 r78 r81 r83) (hB : ezp_B z) : ezw_C l ρ B xa Hb D cA 261 d [ezw_p 72, ezw_i a1, ezw_i a2] (ezm_h e F A i0 i2 i3 i7 i8 i13 i18 i19 i20 i25 i29 i30 i31 i36 i37 i38 r73 r74 r75 r76 r77 r78 r79 r80 r81 r82 r83 r84 r85 r86 r87 r88 r89 r90 r91 r92 r93 r94 r95) (ezm_m261nQ  e F A i0 i2 i3 i7 i8 i13 i18 i19 i20 i25 i29 i30 i31 i36 i37 i38 r73 r74 r75 r76 r77 r78 r79 r80 r81 r82 r83 r84 r85 r86 r87 r88 r89 r90 r91 r92 r93 r94 r95 z w a1 a2) := by
  refine ezw_met (k := 0) rfl rfl ?_
  obtain ⟨⟨k0, k1, k2, k3⟩, ktw, kth, kov, ksg, kel, knu, knm⟩ := ezm_TRFi tf
  obtain ⟨b1, b2, b3, b4, b5, b6, b7, ⟨b8, b8'⟩, b9⟩ := id hB
  obtain ⟨n0, n1, n2, n3, n4, n5, n6, n7⟩ := (ezn_NW_i 0 1 7 15 16 17 18 19 (by decide) (by decide) (by decide) (by decide) (by decide) (by decide) (by decide)).mp nw
  obtain ⟨⟨x0, x1⟩, x2, x3, x4, x5, x6, x7, x8, x9, x10, x11, x12⟩ := id wb
  have xc := ezn_cn_r x0 x1
  refine ezw_aload_n rfl rfl ?_
  refine ezw_iconst (0) rfl rfl ?_
  refine ezm_p0 hT rfl ⟨by decide, by decide⟩ (fun hT => ?_)
  refine ezw_aload_n rfl rfl ?_
  refine ezw_iload_n rfl rfl ?_
  refine ezw_call0_1 rfl (by omega) (ezm_at rfl) rfl rfl rfl rfl (ezm_m262n hT (by omega) ha1) ?_
  rintro _ _ ⟨rfl, u2, hu2, p1_0, p1_1, rfl⟩
  refine ezw_if_eq rfl rfl ⟨by omega, by omega⟩ (fun h10_2 => ?_) (fun h10_2 => ?_)
  · refine ezw_iconst (-1) rfl rfl ?_
    refine ezw_goto rfl rfl ?_
    exact ezw_ireturn rfl rfl ⟨(0), rfl, hT, (-1), ⟨by decide, by decide⟩, (by
          unfold ezn_tg
          (repeat (first | rw [if_pos (by omega)] | rw [if_neg (by omega)]))), rfl⟩
  · refine ezw_iload_n rfl rfl ?_
    refine ezw_iconst (0) rfl rfl ?_
    refine ezw_iconst (3) rfl rfl ?_
    refine ezw_call2_3 rfl (by omega) rfl rfl (ezm_m236a hT (by omega) ha2 ⟨by decide, by decide⟩ ⟨by decide, by decide⟩) ?_
    rintro _ _ ⟨rfl, u4, hu4, p3_0, p3_1, rfl⟩
    refine ezw_if_ne rfl rfl ⟨by omega, by omega⟩ (fun h19_4 => ?_) (fun h19_4 => ?_)
    · refine ezw_iload_n rfl rfl ?_
      refine ezw_iconst (3) rfl rfl ?_
      refine ezw_icmp_ge rfl rfl ha2 ⟨by decide, by decide⟩ (fun h28_4 => ?_) (fun h28_4 => ?_)
      · refine ezw_aload_n rfl rfl ?_
        refine ezm_gp (p := 88) rfl (fun _ => rfl) ?_
        refine ezw_bipush (19) rfl rfl ?_
        refine ezm_l88 rfl (by omega) (by omega) (fun u5 eu5 => ?_)
        have ku5 : ezm_k88 (19) u5 := eu5 ▸ hT.t88 (19)
        have zu5 := ezm_zs19 ku5 (by omega)
        refine ezw_iload_n rfl rfl ?_
        refine ezw_ishr rfl (ezm_in88 ku5) (by omega) (by omega) (k := (u5 / 2 ^ (a1).toNat)) (rfl) ?_
        refine ezw_iconst (1) rfl rfl ?_
        refine ezw_iand rfl (k := ezw_and ((u5 / 2 ^ (a1).toNat)) 1) rfl ?_
        exact ezw_ireturn rfl rfl ⟨(0), rfl, hT, (ezw_and ((u5 / 2 ^ (a1).toNat)) 1), (by rw [ezt_and1]; exact ⟨by omega, by omega⟩), (by
              unfold ezn_tg
              (repeat (first | rw [if_pos (by omega)] | rw [if_neg (by omega)]))
              rw [ezt_and1]
              unfold ezt_b
              rw [show u5 = w.ha by omega]), rfl⟩
      · refine ezw_aload_n rfl rfl ?_
        refine ezw_iload_n rfl rfl ?_
        refine ezw_iload_n rfl rfl ?_
        refine ezw_call0_2 rfl (by omega) (ezm_at rfl) rfl rfl rfl rfl (ezm_m263n hT (by omega) ha1 ha2 (by omega) (by omega)) ?_
        rintro _ _ ⟨rfl, u7, hu7, th_6, rfl⟩
        obtain ⟨f1, f2, f3⟩ := kth a1 (by omega) (by omega)
        have z9 : u7 = r78 (4 * a1 + 49 + a2) := th_6
        have z8 : a2 = 0 ∧ u7 = z.wo a1 ∨ a2 = 1 ∧ u7 = z.st a1 ∨ a2 = 2 ∧ u7 = z.fr a1 := by
          rcases (show a2 = 0 ∨ a2 = 1 ∨ a2 = 2 by omega) with y | y | y
          · exact Or.inl ⟨y, by rw [z9, y, ← f1]; congr 1; omega⟩
          · exact Or.inr (Or.inl ⟨y, by rw [z9, y, ← f2]; congr 1; omega⟩)
          · exact Or.inr (Or.inr ⟨y, by rw [z9, y, ← f3]; congr 1; omega⟩)
        refine ezw_goto rfl rfl ?_
        exact ezw_ireturn rfl rfl ⟨(0), rfl, hT, u7, hu7, (by
              unfold ezn_tg
              rcases z8 with ⟨y1, y2⟩ | ⟨y1, y2⟩ | ⟨y1, y2⟩ <;> (repeat (first | rw [if_pos (by omega)] | rw [if_neg (by omega)])) <;> exact y2), rfl⟩
    · refine ezw_iconst (-1) rfl rfl ?_
      refine ezw_goto rfl rfl ?_
      exact ezw_ireturn rfl rfl ⟨(0), rfl, hT, (-1), ⟨by decide, by decide⟩, (by
            unfold ezn_tg
            (repeat (first | rw [if_pos (by omega)] | rw [if_neg (by omega)]))), rfl⟩
def ezm_m264nQ (e : Bool × Bool) (F : Nat → Nat → Int) (A : Nat → Int → Int) (i0 i2 i3 i7 i8 i13 i18 i19 i20 i25 i29 i30 i31 i36 i37 i38 : Int) (r73 r74 r75 r76 r77 r78 r79 r80 r81 r82 r83 r84 r85 r86 r87 r88 r89 r90 r91 r92 r93 r94 r95 : Int → Int) (z : ezp_D) (w : ezn_N) (L : ezv_LL) (a1 : Int) (a2 : Int) (a3 : Int) : Option ezq_V → (Nat → ezq_C) → Prop := fun v g' => ∃ (x0 : Int) (x86 x87 : Int → Int), ezm_h e F A x0 i2 i3 i7 i8 i13 i18 i19 i20 i25 i29 i30 i31 i36 i37 i38 r73 r74 r75 r76 r77 r78 r79 r80 r81 r82 r83 r84 r85 x86 x87 r88 r89 r90 r91 r92 r93 r94 r95 = g' ∧ ezm_T x0 i2 i3 i7 i8 i13 i18 i19 i20 i25 i29 i30 i31 i36 i37 i38 r73 r74 r75 r76 r77 r78 r79 r80 r81 r82 r83 r84 r85 x86 x87 r88 r89 r90 r91 r92 r93 r94 r95 ∧ ∃ u : Int, (ezw_in u) ∧ (u = ezn_cc (ezn_qc L z) z w a1 a2 a3) ∧ some (ezw_i u) = v
theorem ezm_m264n {z : ezp_D} {w : ezn_N} {L : ezv_LL} {a1 a2 a3 : Int} (hT : ezm_T i0 i2 i3 i7 i8 i13 i18 i19 i20 i25 i29 i30 i31 i36 i37 i38 r73 r74 r75 r76 r77 r78 r79 r80 r81 r82 r83 r84 r85 r86 r87 r88 r89 r90 r91 r92 r93 r94 r95) (hd : 4 ≤ d) (ha1 : ezw_in a1) (ha2 : ezw_in a2) (ha3 : ezw_in a3) (nw : ezn_NW z w 0 r88) (wb : ezn_B z w) (tf : ezm_TRF z i18 r78 r81 r83) (hB : ezp_B z) (mf : ezm_MF L r78 r79 r80) (lo : ezv_LO L) (gb : 0 ≤ a2 ∧ a2 ≤ 1) : ezw_C l ρ B xa Hb D cA 264 d [ezw_p 72, ezw_i a1, ezw_i a2, ezw_i a3] (ezm_h e F A i0 i2 i3 i7 i8 i13 i18 i19 i20 i25 i29 i30 i31 i36 i37 i38 r73 r74 r75 r76 r77 r78 r79 r80 r81 r82 r83 r84 r85 r86 r87 r88 r89 r90 r91 r92 r93 r94 r95) (ezm_m264nQ  e F A i0 i2 i3 i7 i8 i13 i18 i19 i20 i25 i29 i30 i31 i36 i37 i38 r73 r74 r75 r76 r77 r78 r79 r80 r81 r82 r83 r84 r85 r86 r87 r88 r89 r90 r91 r92 r93 r94 r95 z w L a1 a2 a3) := by
  refine ezw_met (k := 0) rfl rfl ?_
  obtain ⟨⟨k0, k1, k2, k3⟩, ktw, kth, kov, ksg, kel, knu, knm⟩ := ezm_TRFi tf
  obtain ⟨b1, b2, b3, b4, b5, b6, b7, ⟨b8, b8'⟩, b9⟩ := id hB
  obtain ⟨n0, n1, n2, n3, n4, n5, n6, n7⟩ := (ezn_NW_i 0 1 7 15 16 17 18 19 (by decide) (by decide) (by decide) (by decide) (by decide) (by decide) (by decide)).mp nw
  obtain ⟨⟨x0, x1⟩, x2, x3, x4, x5, x6, x7, x8, x9, x10, x11, x12⟩ := id wb
  have xc := ezn_cn_r x0 x1
  refine ezw_aload_n rfl rfl ?_
  refine ezw_iconst (0) rfl rfl ?_
  refine ezm_p0 hT rfl ⟨by decide, by decide⟩ (fun hT => ?_)
  refine ezw_iload_n rfl rfl ?_
  refine ezw_call2_1 rfl (by omega) rfl rfl (ezm_m265n hT (by omega) ha1) ?_
  rintro _ _ ⟨rfl, u2, hu2, p1_0, p1_1, rfl⟩
  refine ezw_if_eq rfl rfl ⟨by omega, by omega⟩ (fun h9_2 => ?_) (fun h9_2 => ?_)
  · refine ezw_iconst (-1) rfl rfl ?_
    exact ezw_ireturn rfl rfl ⟨(0), r86, r87, rfl, hT, (-1), ⟨by decide, by decide⟩, (by
          have h9 := p1_1
          unfold ezn_cc
          (repeat (first | rw [if_pos (by omega)] | rw [if_neg (by omega)]))
          try ((repeat' split) <;> first | rfl | omega)), rfl⟩
  · refine ezw_iload_n rfl rfl ?_
    refine ezw_iconst (0) rfl rfl ?_
    refine ezw_iconst (1) rfl rfl ?_
    refine ezw_call2_3 rfl (by omega) rfl rfl (ezm_m236a hT (by omega) ha3 ⟨by decide, by decide⟩ ⟨by decide, by decide⟩) ?_
    rintro _ _ ⟨rfl, u4, hu4, p3_0, p3_1, rfl⟩
    refine ezw_if_eq rfl rfl ⟨by omega, by omega⟩ (fun h18_4 => ?_) (fun h18_4 => ?_)
    · refine ezw_iconst (-1) rfl rfl ?_
      exact ezw_ireturn rfl rfl ⟨(0), r86, r87, rfl, hT, (-1), ⟨by decide, by decide⟩, (by
            have h9 := p1_1
            have h8 := p3_1
            unfold ezn_cc
            (repeat (first | rw [if_pos (by omega)] | rw [if_neg (by omega)]))
            try ((repeat' split) <;> first | rfl | omega)), rfl⟩
    · refine ezw_aload_n rfl rfl ?_
      refine ezw_iconst (0) rfl rfl ?_
      refine ezw_call0_1 rfl (by omega) (ezm_at rfl) rfl rfl rfl rfl (ezm_m266_v0 hT (by omega)) ?_
      rintro _ _ ⟨rfl, u6, hu6, p5_0, p5_1, rfl⟩
      refine ezw_if_eq rfl rfl ⟨by omega, by omega⟩ (fun h26_6 => ?_) (fun h26_6 => ?_)
      · refine ezw_iconst (-1) rfl rfl ?_
        exact ezw_ireturn rfl rfl ⟨(0), r86, r87, rfl, hT, (-1), ⟨by decide, by decide⟩, (by
              have h9 := p1_1
              have h8 := p3_1
              have h7 := p5_1
              unfold ezn_cc
              (repeat (first | rw [if_pos (by omega)] | rw [if_neg (by omega)]))
              try ((repeat' split) <;> first | rfl | omega)), rfl⟩
      · have ki : w.ki = 0 := by have h9 := p5_0 (by omega); omega
        refine ezw_aload_n rfl rfl ?_
        refine ezw_iconst (0) rfl rfl ?_
        refine ezw_iload_n rfl rfl ?_
        refine ezw_iload_n rfl rfl ?_
        refine ezw_iload_n rfl rfl ?_
        refine ezw_if_eq rfl rfl ha2 (fun h34_6 => ?_) (fun h34_6 => ?_)
        · refine ezw_iconst (0) rfl rfl ?_
          refine ezw_call0_4 rfl (by omega) (ezm_at rfl) rfl rfl rfl rfl (ezm_m267_v0n hT (by omega) ha3 ha1 ⟨by decide, by decide⟩ (by omega) nw wb ki tf hB mf lo) ?_
          rintro _ _ ⟨x86_7, x87_7, rfl, hT, u8, hu8, ch_7, rfl⟩
          refine ezw_goto rfl rfl ?_
          exact ezw_ireturn rfl rfl ⟨(0), x86_7, x87_7, rfl, hT, u8, hu8, (by
                unfold ezn_cc
                rw [if_pos ⟨by omega, ki⟩]
                rcases (show a3 = 0 ∨ a3 = 1 by omega) with y | y
                · rw [if_pos y, ch_7, y, show (0) = a2 by omega]
                · rw [if_neg (by omega), if_pos y, ch_7, y, show (0) = a2 by omega]), rfl⟩
        · refine ezw_iconst (1) rfl rfl ?_
          refine ezw_goto rfl rfl ?_
          refine ezw_call0_4 rfl (by omega) (ezm_at rfl) rfl rfl rfl rfl (ezm_m267_v0n hT (by omega) ha3 ha1 ⟨by decide, by decide⟩ (by omega) nw wb ki tf hB mf lo) ?_
          rintro _ _ ⟨x86_9, x87_9, rfl, hT, u10, hu10, ch_9, rfl⟩
          refine ezw_goto rfl rfl ?_
          exact ezw_ireturn rfl rfl ⟨(0), x86_9, x87_9, rfl, hT, u10, hu10, (by
                unfold ezn_cc
                rw [if_pos ⟨by omega, ki⟩]
                rcases (show a3 = 0 ∨ a3 = 1 by omega) with y | y
                · rw [if_pos y, ch_9, y, show (1) = a2 by omega]
                · rw [if_neg (by omega), if_pos y, ch_9, y, show (1) = a2 by omega]), rfl⟩
def ezm_m316nQ (e : Bool × Bool) (F : Nat → Nat → Int) (A : Nat → Int → Int) (i0 i2 i3 i7 i8 i13 i18 i19 i20 i25 i29 i30 i31 i36 i37 i38 : Int) (r73 r74 r75 r76 r77 r78 r79 r80 r81 r82 r83 r84 r85 r86 r87 r88 r89 r90 r91 r92 r93 r94 r95 : Int → Int) (z : ezp_D) (w : ezn_N) : Option ezq_V → (Nat → ezq_C) → Prop := fun v g' => ∃ (x0 : Int), ezm_h e F A x0 i2 i3 i7 i8 i13 i18 i19 i20 i25 i29 i30 i31 i36 i37 i38 r73 r74 r75 r76 r77 r78 r79 r80 r81 r82 r83 r84 r85 r86 r87 r88 r89 r90 r91 r92 r93 r94 r95 = g' ∧ ezm_T x0 i2 i3 i7 i8 i13 i18 i19 i20 i25 i29 i30 i31 i36 i37 i38 r73 r74 r75 r76 r77 r78 r79 r80 r81 r82 r83 r84 r85 r86 r87 r88 r89 r90 r91 r92 r93 r94 r95 ∧ ∃ u : Int, (ezw_in u) ∧ (u = ezn_las z w) ∧ some (ezw_i u) = v
theorem ezm_m316n {z : ezp_D} {w : ezn_N} (hT : ezm_T i0 i2 i3 i7 i8 i13 i18 i19 i20 i25 i29 i30 i31 i36 i37 i38 r73 r74 r75 r76 r77 r78 r79 r80 r81 r82 r83 r84 r85 r86 r87 r88 r89 r90 r91 r92 r93 r94 r95) (hd : 1 ≤ d) (nw : ezn_NW z w 0 r88) (wb : ezn_B z w) (tf : ezm_TRF z i18 r78 r81 r83) (hB : ezp_B z) : ezw_C l ρ B xa Hb D cA 316 d [ezw_p 72] (ezm_h e F A i0 i2 i3 i7 i8 i13 i18 i19 i20 i25 i29 i30 i31 i36 i37 i38 r73 r74 r75 r76 r77 r78 r79 r80 r81 r82 r83 r84 r85 r86 r87 r88 r89 r90 r91 r92 r93 r94 r95) (ezm_m316nQ  e F A i0 i2 i3 i7 i8 i13 i18 i19 i20 i25 i29 i30 i31 i36 i37 i38 r73 r74 r75 r76 r77 r78 r79 r80 r81 r82 r83 r84 r85 r86 r87 r88 r89 r90 r91 r92 r93 r94 r95 z w) := by
  refine ezw_met (k := 2) rfl rfl ?_
  obtain ⟨⟨k0, k1, k2, k3⟩, ktw, kth, kov, ksg, kel, knu, knm⟩ := ezm_TRFi tf
  obtain ⟨b1, b2, b3, b4, b5, b6, b7, ⟨b8, b8'⟩, b9⟩ := id hB
  have n6 : r78 10 = z.nu 6 := knu 6 (by decide) (by decide)
  have nb6 : 0 ≤ z.nu 6 ∧ z.nu 6 ≤ 9 := b8 6 (by decide) (by decide)
  obtain ⟨n0, n1, n2, n3, n4, n5, n6, n7⟩ := (ezn_NW_i 0 1 7 15 16 17 18 19 (by decide) (by decide) (by decide) (by decide) (by decide) (by decide) (by decide)).mp nw
  obtain ⟨⟨x0, x1⟩, x2, x3, x4, x5, x6, x7, x8, x9, x10, x11, x12⟩ := id wb
  have xc := ezn_cn_r x0 x1
  refine ezw_aload_n rfl rfl ?_
  refine ezw_iconst (0) rfl rfl ?_
  refine ezm_p0 hT rfl ⟨by decide, by decide⟩ (fun hT => ?_)
  refine ezw_aload_n rfl rfl ?_
  refine ezm_gp (p := 88) rfl (fun _ => rfl) ?_
  refine ezw_bipush (18) rfl rfl ?_
  refine ezm_l88 rfl (by omega) (by omega) (fun u1 eu1 => ?_)
  have ku1 : ezm_k88 (18) u1 := eu1 ▸ hT.t88 (18)
  refine ezw_istore_n rfl rfl ?_
  refine ezw_iconst (0) rfl rfl ?_
  refine ezw_istore_n rfl rfl ?_
  have L15_3 : ∀ c2 : Int, ezw_in c2 → ∀ y4 : Int, ezw_in y4 → ((0) ≤ c2) → (c2 ≤ 240) → (-9 ≤ y4 ∧ y4 ≤ 99) → (∃ x, (0 < y4 ∧ x = y4 ∨ y4 ≤ 0 ∧ x ≤ 0) ∧ ezn_las z w = ezn_ls1 z (241 - c2).toNat c2 ((w.ho + c2) % 24) x) → ezw_E l ρ B xa Hb D cA d ezq_re316 (ezm_m316nQ  e F A i0 i2 i3 i7 i8 i13 i18 i19 i20 i25 i29 i30 i31 i36 i37 i38 r73 r74 r75 r76 r77 r78 r79 r80 r81 r82 r83 r84 r85 r86 r87 r88 r89 r90 r91 r92 r93 r94 r95 z w) 15 [some (ezw_p 72), some (ezw_i y4), some (ezw_i c2)] [] (ezm_h e F A (0) i2 i3 i7 i8 i13 i18 i19 i20 i25 i29 i30 i31 i36 i37 i38 r73 r74 r75 r76 r77 r78 r79 r80 r81 r82 r83 r84 r85 r86 r87 r88 r89 r90 r91 r92 r93 r94 r95) := by
    refine ezs_up ?_
    intro c2 hc2 ihc2 y4 hy4 g_3 cb_3 vr_3 la_3
    refine ezw_iload_n rfl rfl ?_
    refine ezw_if_le rfl rfl hy4 (fun h16_4 => ?_) (fun h16_4 => ?_)
    · refine ezw_iload_n rfl rfl ?_
      refine ezw_if_le rfl rfl hy4 (fun h65_4 => ?_) (fun h65_4 => ?_)
      · refine ezw_iload_n rfl rfl ?_
        exact ezw_ireturn rfl rfl ⟨(0), rfl, hT, c2, hc2, (by
              obtain ⟨x, hx, hl⟩ := la_3
              rw [hl]
              first
                | exact (ezn_ls1_F (by omega) (by omega) (by omega)).symm
                | (rw [show c2 = 240 by omega, ezn_ls1_T (by omega) (by omega) (by omega)]; rfl)), rfl⟩
      · refine ezw_iconst (-1) rfl rfl ?_
        refine ezw_goto rfl rfl ?_
        exact ezw_ireturn rfl rfl ⟨(0), rfl, hT, (-1), ⟨by decide, by decide⟩, (by
              obtain ⟨x, hx, hl⟩ := la_3
              rw [hl]
              first
                | exact (ezn_ls1_F (by omega) (by omega) (by omega)).symm
                | (rw [show c2 = 240 by omega, ezn_ls1_T (by omega) (by omega) (by omega)]; rfl)), rfl⟩
    · refine ezw_iload_n rfl rfl ?_
      refine ezw_sipush (240) rfl rfl ?_
      refine ezw_icmp_ge rfl rfl hc2 ⟨by decide, by decide⟩ (fun h23_4 => ?_) (fun h23_4 => ?_)
      · refine ezw_iload_n rfl rfl ?_
        refine ezw_if_le rfl rfl hy4 (fun h65_4 => ?_) (fun h65_4 => ?_)
        · refine ezw_iload_n rfl rfl ?_
          exact ezw_ireturn rfl rfl ⟨(0), rfl, hT, c2, hc2, (by
                obtain ⟨x, hx, hl⟩ := la_3
                rw [hl]
                first
                  | exact (ezn_ls1_F (by omega) (by omega) (by omega)).symm
                  | (rw [show c2 = 240 by omega, ezn_ls1_T (by omega) (by omega) (by omega)]; rfl)), rfl⟩
        · refine ezw_iconst (-1) rfl rfl ?_
          refine ezw_goto rfl rfl ?_
          exact ezw_ireturn rfl rfl ⟨(0), rfl, hT, (-1), ⟨by decide, by decide⟩, (by
                obtain ⟨x, hx, hl⟩ := la_3
                rw [hl]
                first
                  | exact (ezn_ls1_F (by omega) (by omega) (by omega)).symm
                  | (rw [show c2 = 240 by omega, ezn_ls1_T (by omega) (by omega) (by omega)]; rfl)), rfl⟩
      · refine ezw_iinc (k := c2 + 1) (1) rfl rfl rfl (by omega) rfl ?_
        refine ezw_iload_n rfl rfl ?_
        refine ezw_aload_n rfl rfl ?_
        refine ezm_gp (p := 88) rfl (fun _ => rfl) ?_
        refine ezw_bipush (15) rfl rfl ?_
        refine ezm_l88 rfl (by omega) (by omega) (fun u5 eu5 => ?_)
        have ku5 : ezm_k88 (15) u5 := eu5 ▸ hT.t88 (15)
        refine ezw_iload_n rfl rfl ?_
        refine ezw_iadd (k := u5 + c2 + 1) rfl (by omega) ?_
        refine ezw_bipush (24) rfl rfl ?_
        refine ezm_irem rfl ⟨by omega, by omega⟩ ⟨by decide, by decide⟩ (by decide) (fun u6 hu6 ku6 => ?_)
        refine ezw_call2_1 rfl (by omega) rfl rfl (ezm_m290n hT (by omega) hu6) ?_
        rintro _ _ ⟨rfl, u8, hu8, p7_0, p7_1, rfl⟩
        have hdw := p7_0
        have hdx := p7_1
        have J59_10 : ∀ y9 : Int, ezw_in y9 → (y9 = z.nu 6 ∧ (20 ≤ (w.ho + (c2 + 1)) % 24 ∨ (w.ho + (c2 + 1)) % 24 < 6) ∨ y9 = 0 ∧ ¬ (20 ≤ (w.ho + (c2 + 1)) % 24 ∨ (w.ho + (c2 + 1)) % 24 < 6)) → ezw_E l ρ B xa Hb D cA d ezq_re316 (ezm_m316nQ  e F A i0 i2 i3 i7 i8 i13 i18 i19 i20 i25 i29 i30 i31 i36 i37 i38 r73 r74 r75 r76 r77 r78 r79 r80 r81 r82 r83 r84 r85 r86 r87 r88 r89 r90 r91 r92 r93 r94 r95 z w) 59 [some (ezw_p 72), some (ezw_i y4), some (ezw_i (c2 + 1))] [ezw_i y9, ezw_i y4] (ezm_h e F A (0) i2 i3 i7 i8 i13 i18 i19 i20 i25 i29 i30 i31 i36 i37 i38 r73 r74 r75 r76 r77 r78 r79 r80 r81 r82 r83 r84 r85 r86 r87 r88 r89 r90 r91 r92 r93 r94 r95) := by
          intro y9 hy9 dj_10
          refine ezw_isub (k := y4 - y9) rfl (by omega) ?_
          refine ezw_istore_n rfl rfl ?_
          refine ezw_goto rfl rfl ?_
          exact ezw_keepE [true, true, true] (ihc2 (c2 + 1) (by omega) ⟨by omega, by omega⟩ (y4 - y9) ⟨by omega, by omega⟩ (by omega) (by omega) (by omega) (by
                obtain ⟨x, hx, hl⟩ := la_3
                refine ⟨ezn_dw z ((w.ho + (c2 + 1)) % 24) x, ?_, ?_⟩
                · unfold ezn_dw
                  (repeat' split) <;> omega
                · rw [hl, ezn_ls1_T (by omega) (by omega) (by omega), show ((w.ho + c2) % 24 + 1) % 24 = (w.ho + (c2 + 1)) % 24 by omega]))
        refine ezw_if_eq rfl rfl ⟨by omega, by omega⟩ (fun h45_8 => ?_) (fun h45_8 => ?_)
        · refine ezw_iconst (0) rfl rfl ?_
          exact ezw_keepE [true, true, true] (J59_10 (0) ⟨by decide, by decide⟩ (by omega))
        · refine ezw_aload_n rfl rfl ?_
          refine ezm_gp (p := 78) rfl (fun _ => rfl) ?_
          refine ezw_bipush (10) rfl rfl ?_
          refine ezm_l78 rfl (by omega) (by omega) (fun u11 eu11 => ?_)
          have ku11 : ezm_k78 (10) u11 := eu11 ▸ hT.t78 (10)
          refine ezw_goto rfl rfl ?_
          exact ezw_keepE [true, true, true] (J59_10 u11 (ezm_in78 ku11) (by omega))
  exact ezw_keepE [true, true, true] (L15_3 (0) ⟨by decide, by decide⟩ u1 (ezm_in88 ku1) (by omega) (by omega) (by omega) (⟨w.pa, by omega, by unfold ezn_las; rw [show (w.ho + 0) % 24 = w.ho by omega]; rfl⟩))
def ezm_m335nQ (e : Bool × Bool) (F : Nat → Nat → Int) (A : Nat → Int → Int) (i0 i2 i3 i7 i8 i13 i18 i19 i20 i25 i29 i30 i31 i36 i37 i38 : Int) (r73 r74 r75 r76 r77 r78 r79 r80 r81 r82 r83 r84 r85 r86 r87 r88 r89 r90 r91 r92 r93 r94 r95 : Int → Int) (z : ezp_D) (w : ezn_N) (c : Int → Int) (a1 : Int) : Option ezq_V → (Nat → ezq_C) → Prop := fun v g' => ∃ (x0 : Int), ezm_h e F A x0 i2 i3 i7 i8 i13 i18 i19 i20 i25 i29 i30 i31 i36 i37 i38 r73 r74 r75 r76 r77 r78 r79 r80 r81 r82 r83 r84 r85 r86 r87 r88 r89 r90 r91 r92 r93 r94 r95 = g' ∧ ezm_T x0 i2 i3 i7 i8 i13 i18 i19 i20 i25 i29 i30 i31 i36 i37 i38 r73 r74 r75 r76 r77 r78 r79 r80 r81 r82 r83 r84 r85 r86 r87 r88 r89 r90 r91 r92 r93 r94 r95 ∧ ∃ u : Int, (ezw_in u) ∧ (u = ezn_cu z w (r85 0) (ezn_tm c) i25 i2 a1) ∧ some (ezw_i u) = v
theorem ezm_m335n {z : ezp_D} {w : ezn_N} {c : Int → Int} {a1 : Int} (hT : ezm_T i0 i2 i3 i7 i8 i13 i18 i19 i20 i25 i29 i30 i31 i36 i37 i38 r73 r74 r75 r76 r77 r78 r79 r80 r81 r82 r83 r84 r85 r86 r87 r88 r89 r90 r91 r92 r93 r94 r95) (hd : 1 ≤ d) (ha1 : ezw_in a1) (nw : ezn_NW z w 0 r88) (wb : ezn_B z w) (tf : ezm_TRF z i18 r78 r81 r83) (hB : ezp_B z) (td : ezn_TD c 0 r88) (tb : ezn_TB c) : ezw_C l ρ B xa Hb D cA 335 d [ezw_p 72, ezw_i a1] (ezm_h e F A i0 i2 i3 i7 i8 i13 i18 i19 i20 i25 i29 i30 i31 i36 i37 i38 r73 r74 r75 r76 r77 r78 r79 r80 r81 r82 r83 r84 r85 r86 r87 r88 r89 r90 r91 r92 r93 r94 r95) (ezm_m335nQ  e F A i0 i2 i3 i7 i8 i13 i18 i19 i20 i25 i29 i30 i31 i36 i37 i38 r73 r74 r75 r76 r77 r78 r79 r80 r81 r82 r83 r84 r85 r86 r87 r88 r89 r90 r91 r92 r93 r94 r95 z w c a1) := by
  refine ezw_met (k := 2) rfl rfl ?_
  obtain ⟨⟨k0, k1, k2, k3⟩, ktw, kth, kov, ksg, kel, knu, knm⟩ := ezm_TRFi tf
  obtain ⟨b1, b2, b3, b4, b5, b6, b7, ⟨b8, b8'⟩, b9⟩ := id hB
  obtain ⟨n0, n1, n2, n3, n4, n5, n6, n7⟩ := (ezn_NW_i 0 1 7 15 16 17 18 19 (by decide) (by decide) (by decide) (by decide) (by decide) (by decide) (by decide)).mp nw
  obtain ⟨⟨x0, x1⟩, x2, x3, x4, x5, x6, x7, x8, x9, x10, x11, x12⟩ := id wb
  have xc := ezn_cn_r x0 x1
  have d0 : 0 ≤ r88 (20) := td.1.1
  have d1 : r88 (20) = ezn_tm c := td.1.2.1
  have d2 := td.1.2.2
  refine ezw_aload_n rfl rfl ?_
  refine ezw_iconst (0) rfl rfl ?_
  refine ezm_p0 hT rfl ⟨by decide, by decide⟩ (fun hT => ?_)
  refine ezw_iconst (0) rfl rfl ?_
  refine ezw_istore_n rfl rfl ?_
  refine ezw_iconst (0) rfl rfl ?_
  refine ezw_istore_n rfl rfl ?_
  have L9_2 : ∀ c1 : Int, ezw_in c1 → ∀ y3 : Int, ezw_in y3 → ((0) ≤ c1) → (c1 ≤ z.kH) → (y3 = ezp_sm (fun t => ezt_b w.ha t) (c1).toNat) → (0 ≤ y3 ∧ y3 ≤ c1) → ezw_E l ρ B xa Hb D cA d ezq_re335 (ezm_m335nQ  e F A i0 i2 i3 i7 i8 i13 i18 i19 i20 i25 i29 i30 i31 i36 i37 i38 r73 r74 r75 r76 r77 r78 r79 r80 r81 r82 r83 r84 r85 r86 r87 r88 r89 r90 r91 r92 r93 r94 r95 z w c a1) 9 [some (ezw_p 72), some (ezw_i a1), some (ezw_i y3), some (ezw_i c1)] [] (ezm_h e F A (0) i2 i3 i7 i8 i13 i18 i19 i20 i25 i29 i30 i31 i36 i37 i38 r73 r74 r75 r76 r77 r78 r79 r80 r81 r82 r83 r84 r85 r86 r87 r88 r89 r90 r91 r92 r93 r94 r95) := by
    refine ezs_up ?_
    intro c1 hc1 ihc1 y3 hy3 g_2 cb_2 sm_2 sr_2
    refine ezw_iload_n rfl rfl ?_
    refine ezw_aload_n rfl rfl ?_
    refine ezw_call0_0 rfl (by omega) (ezm_at rfl) rfl rfl rfl rfl (ezm_m216 hT (by omega)) ?_
    rintro _ _ ⟨rfl, u5, hu5, p4_0, p4_1, rfl⟩
    refine ezw_icmp_ge rfl rfl hc1 hu5 (fun h14_5 => ?_) (fun h14_5 => ?_)
    · have hih : y3 = ezn_cn w.ha := by
        rw [sm_2, show c1 = z.kH by omega]
        exact ezn_cn_h x8.1 x8.2 (by omega) (by omega) (fun t t0 t1 h => x9 t t0 t1 h)
      refine ezw_iload_n rfl rfl ?_
      by_cases q6 : a1 = (0)
      · refine ezw_tableswitchE (v := 0) (p := 104) q6 rfl (by rfl) ?_
        refine ezw_aload_n rfl rfl ?_
        refine ezw_call0_0 rfl (by omega) (ezm_at rfl) rfl rfl rfl rfl (ezm_m258 hT (by omega)) ?_
        rintro _ _ ⟨rfl, u8, hu8, p7_0, p7_1, rfl⟩
        exact ezw_ireturn rfl rfl ⟨(0), rfl, hT, u8, hu8, (by
              unfold ezn_cu
              (repeat (first | rw [if_pos (by omega)] | rw [if_neg (by omega)]))
              try omega), rfl⟩
      by_cases q9 : a1 = (1)
      · refine ezw_tableswitchE (v := 1) (p := 109) q9 rfl (by rfl) ?_
        refine ezw_aload_n rfl rfl ?_
        refine ezw_call0_0 rfl (by omega) (ezm_at rfl) rfl rfl rfl rfl (ezm_m216 hT (by omega)) ?_
        rintro _ _ ⟨rfl, u11, hu11, p10_0, p10_1, rfl⟩
        exact ezw_ireturn rfl rfl ⟨(0), rfl, hT, u11, hu11, (by
              unfold ezn_cu
              (repeat (first | rw [if_pos (by omega)] | rw [if_neg (by omega)]))
              try omega), rfl⟩
      by_cases q12 : a1 = (2)
      · refine ezw_tableswitchE (v := 2) (p := 114) q12 rfl (by rfl) ?_
        refine ezw_aload_n rfl rfl ?_
        refine ezm_gp (p := 88) rfl (fun _ => rfl) ?_
        refine ezw_iconst (0) rfl rfl ?_
        refine ezm_l88 rfl (by omega) (by omega) (fun u13 eu13 => ?_)
        have ku13 : ezm_k88 (0) u13 := eu13 ▸ hT.t88 (0)
        have zu13 := ezm_zs0 ku13 (by omega)
        exact ezw_ireturn rfl rfl ⟨(0), rfl, hT, u13, (ezm_in88 ku13), (by
              unfold ezn_cu
              (repeat (first | rw [if_pos (by omega)] | rw [if_neg (by omega)]))
              try omega), rfl⟩
      by_cases q14 : a1 = (3)
      · refine ezw_tableswitchE (v := 3) (p := 121) q14 rfl (by rfl) ?_
        refine ezw_aload_n rfl rfl ?_
        refine ezm_gp (p := 88) rfl (fun _ => rfl) ?_
        refine ezw_bipush (15) rfl rfl ?_
        refine ezm_l88 rfl (by omega) (by omega) (fun u15 eu15 => ?_)
        have ku15 : ezm_k88 (15) u15 := eu15 ▸ hT.t88 (15)
        exact ezw_ireturn rfl rfl ⟨(0), rfl, hT, u15, (ezm_in88 ku15), (by
              unfold ezn_cu
              (repeat (first | rw [if_pos (by omega)] | rw [if_neg (by omega)]))
              try omega), rfl⟩
      by_cases q16 : a1 = (4)
      · refine ezw_tableswitchE (v := 4) (p := 129) q16 rfl (by rfl) ?_
        refine ezw_aload_n rfl rfl ?_
        refine ezm_gp (p := 88) rfl (fun _ => rfl) ?_
        refine ezw_bipush (16) rfl rfl ?_
        refine ezm_l88 rfl (by omega) (by omega) (fun u17 eu17 => ?_)
        have ku17 : ezm_k88 (16) u17 := eu17 ▸ hT.t88 (16)
        exact ezw_ireturn rfl rfl ⟨(0), rfl, hT, u17, (ezm_in88 ku17), (by
              unfold ezn_cu
              (repeat (first | rw [if_pos (by omega)] | rw [if_neg (by omega)]))
              try omega), rfl⟩
      by_cases q18 : a1 = (5)
      · refine ezw_tableswitchE (v := 5) (p := 137) q18 rfl (by rfl) ?_
        refine ezw_aload_n rfl rfl ?_
        refine ezm_gp (p := 88) rfl (fun _ => rfl) ?_
        refine ezw_bipush (17) rfl rfl ?_
        refine ezm_l88 rfl (by omega) (by omega) (fun u19 eu19 => ?_)
        have ku19 : ezm_k88 (17) u19 := eu19 ▸ hT.t88 (17)
        exact ezw_ireturn rfl rfl ⟨(0), rfl, hT, u19, (ezm_in88 ku19), (by
              unfold ezn_cu
              (repeat (first | rw [if_pos (by omega)] | rw [if_neg (by omega)]))
              try omega), rfl⟩
      by_cases q20 : a1 = (6)
      · refine ezw_tableswitchE (v := 6) (p := 145) q20 rfl (by rfl) ?_
        refine ezw_aload_n rfl rfl ?_
        refine ezm_gp (p := 88) rfl (fun _ => rfl) ?_
        refine ezw_bipush (18) rfl rfl ?_
        refine ezm_l88 rfl (by omega) (by omega) (fun u21 eu21 => ?_)
        have ku21 : ezm_k88 (18) u21 := eu21 ▸ hT.t88 (18)
        exact ezw_ireturn rfl rfl ⟨(0), rfl, hT, u21, (ezm_in88 ku21), (by
              unfold ezn_cu
              (repeat (first | rw [if_pos (by omega)] | rw [if_neg (by omega)]))
              try omega), rfl⟩
      by_cases q22 : a1 = (7)
      · refine ezw_tableswitchE (v := 7) (p := 153) q22 rfl (by rfl) ?_
        refine ezw_aload_n rfl rfl ?_
        refine ezm_gp (p := 78) rfl (fun _ => rfl) ?_
        refine ezw_iconst (2) rfl rfl ?_
        refine ezm_l78 rfl (by omega) (by omega) (fun u23 eu23 => ?_)
        have ku23 : ezm_k78 (2) u23 := eu23 ▸ hT.t78 (2)
        have zu23 := ezm_za2 ku23 (by omega)
        exact ezw_ireturn rfl rfl ⟨(0), rfl, hT, u23, (ezm_in78 ku23), (by
              unfold ezn_cu
              (repeat (first | rw [if_pos (by omega)] | rw [if_neg (by omega)]))
              try omega), rfl⟩
      by_cases q24 : a1 = (8)
      · refine ezw_tableswitchE (v := 8) (p := 160) q24 rfl (by rfl) ?_
        refine ezw_aload_n rfl rfl ?_
        refine ezm_gp (p := 85) rfl (fun _ => rfl) ?_
        refine ezw_iconst (0) rfl rfl ?_
        refine ezm_l85 rfl (by omega) (by omega) (fun u25 eu25 => ?_)
        have ku25 : ezm_k85 (0) u25 := eu25 ▸ hT.t85 (0)
        have zu25 := ezm_zl0 ku25 (by omega)
        exact ezw_ireturn rfl rfl ⟨(0), rfl, hT, u25, (ezm_in85 ku25), (by
              unfold ezn_cu
              (repeat (first | rw [if_pos (by omega)] | rw [if_neg (by omega)]))
              try omega), rfl⟩
      by_cases q26 : a1 = (9)
      · refine ezw_tableswitchE (v := 9) (p := 167) q26 rfl (by rfl) ?_
        refine ezw_aload_n rfl rfl ?_
        refine ezm_gp (p := 88) rfl (fun _ => rfl) ?_
        refine ezw_bipush (20) rfl rfl ?_
        refine ezm_l88 rfl (by omega) (by omega) (fun u27 eu27 => ?_)
        have ku27 : ezm_k88 (20) u27 := eu27 ▸ hT.t88 (20)
        have zu27 := ezm_zs20 ku27 (by omega)
        exact ezw_ireturn rfl rfl ⟨(0), rfl, hT, u27, (ezm_in88 ku27), (by
              unfold ezn_cu
              (repeat (first | rw [if_pos (by omega)] | rw [if_neg (by omega)]))
              try omega), rfl⟩
      by_cases q28 : a1 = (10)
      · refine ezw_tableswitchE (v := 10) (p := 175) q28 rfl (by rfl) ?_
        refine ezw_aload_n rfl rfl ?_
        refine ezm_g25 rfl ?_
        have k29 := hT.t25
        exact ezw_ireturn rfl rfl ⟨(0), rfl, hT, i25, ⟨by omega, by omega⟩, (by
              unfold ezn_cu
              (repeat (first | rw [if_pos (by omega)] | rw [if_neg (by omega)]))
              try omega), rfl⟩
      by_cases q30 : a1 = (11)
      · refine ezw_tableswitchE (v := 11) (p := 180) q30 rfl (by rfl) ?_
        refine ezw_aload_n rfl rfl ?_
        refine ezm_g2 rfl ?_
        have k31 := hT.t2
        exact ezw_ireturn rfl rfl ⟨(0), rfl, hT, i2, ⟨by omega, by omega⟩, (by
              unfold ezn_cu
              (repeat (first | rw [if_pos (by omega)] | rw [if_neg (by omega)]))
              try omega), rfl⟩
      by_cases q32 : a1 = (12)
      · refine ezw_tableswitchE (v := 12) (p := 185) q32 rfl (by rfl) ?_
        refine ezw_iload_n rfl rfl ?_
        exact ezw_ireturn rfl rfl ⟨(0), rfl, hT, y3, hy3, (by
              unfold ezn_cu
              (repeat (first | rw [if_pos (by omega)] | rw [if_neg (by omega)]))
              try omega), rfl⟩
      refine ezw_tableswitch (p := 187) rfl (ezs_swd ha1 (And.intro (And.intro ⟨by decide, by decide⟩ (fun z => q6 z.symm)) (And.intro (And.intro ⟨by decide, by decide⟩ (fun z => q9 z.symm)) (And.intro (And.intro ⟨by decide, by decide⟩ (fun z => q12 z.symm)) (And.intro (And.intro ⟨by decide, by decide⟩ (fun z => q14 z.symm)) (And.intro (And.intro ⟨by decide, by decide⟩ (fun z => q16 z.symm)) (And.intro (And.intro ⟨by decide, by decide⟩ (fun z => q18 z.symm)) (And.intro (And.intro ⟨by decide, by decide⟩ (fun z => q20 z.symm)) (And.intro (And.intro ⟨by decide, by decide⟩ (fun z => q22 z.symm)) (And.intro (And.intro ⟨by decide, by decide⟩ (fun z => q24 z.symm)) (And.intro (And.intro ⟨by decide, by decide⟩ (fun z => q26 z.symm)) (And.intro (And.intro ⟨by decide, by decide⟩ (fun z => q28 z.symm)) (And.intro (And.intro ⟨by decide, by decide⟩ (fun z => q30 z.symm)) (And.intro (And.intro ⟨by decide, by decide⟩ (fun z => q32 z.symm)) True.intro))))))))))))) rfl) ?_
      refine ezw_iconst (-1) rfl rfl ?_
      exact ezw_ireturn rfl rfl ⟨(0), rfl, hT, (-1), ⟨by decide, by decide⟩, (by
            unfold ezn_cu
            (repeat (first | rw [if_pos (by omega)] | rw [if_neg (by omega)]))
            try omega), rfl⟩
    · refine ezw_iload_n rfl rfl ?_
      refine ezw_aload_n rfl rfl ?_
      refine ezm_gp (p := 88) rfl (fun _ => rfl) ?_
      refine ezw_bipush (19) rfl rfl ?_
      refine ezm_l88 rfl (by omega) (by omega) (fun u33 eu33 => ?_)
      have ku33 : ezm_k88 (19) u33 := eu33 ▸ hT.t88 (19)
      have zu33 := ezm_zs19 ku33 (by omega)
      refine ezw_iload_n rfl rfl ?_
      refine ezw_ishr rfl (ezm_in88 ku33) (by omega) (by omega) (k := (u33 / 2 ^ (c1).toNat)) (rfl) ?_
      refine ezw_iconst (1) rfl rfl ?_
      refine ezw_iand rfl (k := ezw_and ((u33 / 2 ^ (c1).toNat)) 1) rfl ?_
      have hbt : (ezw_and ((u33 / 2 ^ (c1).toNat)) 1) = ezt_b w.ha c1 := by
        rw [ezt_and1]
        unfold ezt_b
        rw [show u33 = w.ha by omega]
      have hb01 := ezn_b01 w.ha c1
      refine ezw_iadd (k := y3 + (ezw_and ((u33 / 2 ^ (c1).toNat)) 1)) rfl (by omega) ?_
      refine ezw_istore_n rfl rfl ?_
      refine ezw_iinc (k := c1 + 1) (1) rfl rfl rfl (by omega) rfl ?_
      refine ezw_goto rfl rfl ?_
      exact ezw_keepE [true, true, true, true] (ihc1 (c1 + 1) (by omega) ⟨by omega, by omega⟩ (y3 + (ezw_and ((u33 / 2 ^ (c1).toNat)) 1)) ⟨by omega, by omega⟩ (by omega) (by omega) (by rw [ezp_sm_n (by omega), ← sm_2, ← hbt]) (by omega))
  exact ezw_keepE [true, true, true, true] (L9_2 (0) ⟨by decide, by decide⟩ (0) ⟨by decide, by decide⟩ (by omega) (by omega) rfl (by omega))
end KM6
