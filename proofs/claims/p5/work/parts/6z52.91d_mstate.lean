/-! ===== the model: states ===== -/
section KM6
variable {l : Launch} {ρ : ezq_E} {B : Nat} {xa : Nat → Option Nat} {Hb : Heap} {D : va_G} {cA : Nat → ClassId} {d : Nat} {e : Bool × Bool} {F : Nat → Nat → Int} {A : Nat → Int → Int} {i0 i2 i3 i7 i8 i13 i18 i19 i20 i25 i29 i30 i31 i36 i37 i38 : Int} {r73 r74 r75 r76 r77 r78 r79 r80 r81 r82 r83 r84 r85 r86 r87 r88 r89 r90 r91 r92 r93 r94 r95 : Int → Int}
def ezm_m268_v0nQ (e : Bool × Bool) (F : Nat → Nat → Int) (A : Nat → Int → Int) (i0 i2 i3 i7 i8 i13 i18 i19 i20 i25 i29 i30 i31 i36 i37 i38 : Int) (r73 r74 r75 r76 r77 r78 r79 r80 r81 r82 r83 r84 r85 r86 r87 r88 r89 r90 r91 r92 r93 r94 r95 : Int → Int) (z : ezp_D) (w : ezn_N) : Option ezq_V → (Nat → ezq_C) → Prop := fun v g' => ezm_h e F A i0 i2 i3 i7 i8 i13 i18 i19 i20 i25 i29 i30 i31 i36 i37 i38 r73 r74 r75 r76 r77 r78 r79 r80 r81 r82 r83 r84 r85 r86 r87 r88 r89 r90 r91 r92 r93 r94 r95 = g' ∧ ∃ u : Int, (ezw_in u) ∧ (u = ezn_la z w) ∧ some (ezw_i u) = v
theorem ezm_m268_v0n {z : ezp_D} {w : ezn_N} (hT : ezm_T i0 i2 i3 i7 i8 i13 i18 i19 i20 i25 i29 i30 i31 i36 i37 i38 r73 r74 r75 r76 r77 r78 r79 r80 r81 r82 r83 r84 r85 r86 r87 r88 r89 r90 r91 r92 r93 r94 r95) (hd : 0 ≤ d) (nw : ezn_NW z w 0 r88) (wb : ezn_B z w) (ki : w.ki = 0) : ezw_C l ρ B xa Hb D cA 268 d [ezw_p 72, ezw_i (0)] (ezm_h e F A i0 i2 i3 i7 i8 i13 i18 i19 i20 i25 i29 i30 i31 i36 i37 i38 r73 r74 r75 r76 r77 r78 r79 r80 r81 r82 r83 r84 r85 r86 r87 r88 r89 r90 r91 r92 r93 r94 r95) (ezm_m268_v0nQ  e F A i0 i2 i3 i7 i8 i13 i18 i19 i20 i25 i29 i30 i31 i36 i37 i38 r73 r74 r75 r76 r77 r78 r79 r80 r81 r82 r83 r84 r85 r86 r87 r88 r89 r90 r91 r92 r93 r94 r95 z w) := by
  refine ezw_met (k := 0) rfl rfl ?_
  obtain ⟨n0, n1, n2, n3, n4, n5, n6, n7⟩ := (ezn_NW_i 0 1 7 15 16 17 18 19 (by decide) (by decide) (by decide) (by decide) (by decide) (by decide) (by decide)).mp nw
  obtain ⟨⟨x0, x1⟩, x2, x3, x4, x5, x6, x7, x8, x9, x10, x11, x12⟩ := id wb
  have xc := ezn_cn_r x0 x1
  have lr := ezn_lo_r x0 x1 (x10 ki)
  refine ezw_aload_n rfl rfl ?_
  refine ezm_gp (p := 88) rfl (fun _ => rfl) ?_
  refine ezw_iload_n rfl rfl ?_
  refine ezw_iconst (1) rfl rfl ?_
  refine ezw_iadd (k := (1)) rfl (by omega) ?_
  refine ezw_aload_n rfl rfl ?_
  refine ezm_gp (p := 88) rfl (fun _ => rfl) ?_
  refine ezw_iload_n rfl rfl ?_
  refine ezw_iconst (0) rfl rfl ?_
  refine ezw_iadd (k := (0)) rfl (by omega) ?_
  refine ezm_l88 rfl (by omega) (by omega) (fun u1 eu1 => ?_)
  have ku1 : ezm_k88 (0) u1 := eu1 ▸ hT.t88 (0)
  have zu1 := ezm_zs0 ku1 (by omega)
  refine ezw_iadd (k := u1 + 1) rfl (by omega) ?_
  refine ezw_iconst (1) rfl rfl ?_
  refine ezw_isub (k := u1) rfl (by omega) ?_
  refine ezm_l88 rfl (by omega) (by omega) (fun u2 eu2 => ?_)
  have ku2 : ezm_k88 u1 u2 := eu2 ▸ hT.t88 u1
  have zu2 := ezm_z07 ku2 (by omega)
  exact ezw_ireturn rfl rfl ⟨rfl, u2, (ezm_in88 ku2), (by
        have h9 := n1 (ezn_cn w.ov - 1) (by omega) (by omega)
        rw [eu2, ← ezn_la_kp wb (x10 ki), ← h9]
        congr 1
        omega), rfl⟩
def ezm_m267_v0nQ (e : Bool × Bool) (F : Nat → Nat → Int) (A : Nat → Int → Int) (i0 i2 i3 i7 i8 i13 i18 i19 i20 i25 i29 i30 i31 i36 i37 i38 : Int) (r73 r74 r75 r76 r77 r78 r79 r80 r81 r82 r83 r84 r85 r86 r87 r88 r89 r90 r91 r92 r93 r94 r95 : Int → Int) (z : ezp_D) (w : ezn_N) (L : ezv_LL) (a2 : Int) (a3 : Int) (a4 : Int) : Option ezq_V → (Nat → ezq_C) → Prop := fun v g' => ∃  (x86 x87 : Int → Int), ezm_h e F A i0 i2 i3 i7 i8 i13 i18 i19 i20 i25 i29 i30 i31 i36 i37 i38 r73 r74 r75 r76 r77 r78 r79 r80 r81 r82 r83 r84 r85 x86 x87 r88 r89 r90 r91 r92 r93 r94 r95 = g' ∧ ezm_T i0 i2 i3 i7 i8 i13 i18 i19 i20 i25 i29 i30 i31 i36 i37 i38 r73 r74 r75 r76 r77 r78 r79 r80 r81 r82 r83 r84 r85 x86 x87 r88 r89 r90 r91 r92 r93 r94 r95 ∧ ∃ u : Int, (ezw_in u) ∧ (u = ezn_ch (ezn_qc L z) z w a2 a3 a4) ∧ some (ezw_i u) = v
theorem ezm_m267_v0n {z : ezp_D} {w : ezn_N} {L : ezv_LL} {a2 a3 a4 : Int} (hT : ezm_T i0 i2 i3 i7 i8 i13 i18 i19 i20 i25 i29 i30 i31 i36 i37 i38 r73 r74 r75 r76 r77 r78 r79 r80 r81 r82 r83 r84 r85 r86 r87 r88 r89 r90 r91 r92 r93 r94 r95) (hd : 3 ≤ d) (ha2 : ezw_in a2) (ha3 : ezw_in a3) (ha4 : ezw_in a4) (ga : 0 ≤ a2 ∧ a2 ≤ 1 ∧ 0 ≤ a3 ∧ a3 < 4 ∧ 0 ≤ a4 ∧ a4 ≤ 1) (nw : ezn_NW z w 0 r88) (wb : ezn_B z w) (ki : w.ki = 0) (tf : ezm_TRF z i18 r78 r81 r83) (hB : ezp_B z) (mf : ezm_MF L r78 r79 r80) (lo : ezv_LO L) : ezw_C l ρ B xa Hb D cA 267 d [ezw_p 72, ezw_i (0), ezw_i a2, ezw_i a3, ezw_i a4] (ezm_h e F A i0 i2 i3 i7 i8 i13 i18 i19 i20 i25 i29 i30 i31 i36 i37 i38 r73 r74 r75 r76 r77 r78 r79 r80 r81 r82 r83 r84 r85 r86 r87 r88 r89 r90 r91 r92 r93 r94 r95) (ezm_m267_v0nQ  e F A i0 i2 i3 i7 i8 i13 i18 i19 i20 i25 i29 i30 i31 i36 i37 i38 r73 r74 r75 r76 r77 r78 r79 r80 r81 r82 r83 r84 r85 r86 r87 r88 r89 r90 r91 r92 r93 r94 r95 z w L a2 a3 a4) := by
  refine ezw_met (k := 0) rfl rfl ?_
  obtain ⟨⟨k0, k1, k2, k3⟩, ktw, kth, kov, ksg, kel, knu, knm⟩ := ezm_TRFi tf
  obtain ⟨b1, b2, b3, b4, b5, b6, b7, ⟨b8, b8'⟩, b9⟩ := id hB
  obtain ⟨n0, n1, n2, n3, n4, n5, n6, n7⟩ := (ezn_NW_i 0 1 7 15 16 17 18 19 (by decide) (by decide) (by decide) (by decide) (by decide) (by decide) (by decide)).mp nw
  obtain ⟨⟨x0, x1⟩, x2, x3, x4, x5, x6, x7, x8, x9, x10, x11, x12⟩ := id wb
  have xc := ezn_cn_r x0 x1
  have hla := ezn_la_r hB wb ki
  refine ezw_aload_n rfl rfl ?_
  refine ezw_iload_n rfl rfl ?_
  refine ezw_aload_n rfl rfl ?_
  refine ezw_iload_n rfl rfl ?_
  refine ezw_call0_1 rfl (by omega) (ezm_at rfl) rfl rfl rfl rfl (ezm_m268_v0n hT (by omega) nw wb ki) ?_
  rintro _ _ ⟨rfl, u2, hu2, la_1, rfl⟩
  have hl1 := la_1
  refine ezw_aload_n rfl rfl ?_
  refine ezm_gp (p := 88) rfl (fun _ => rfl) ?_
  refine ezw_iload_n rfl rfl ?_
  refine ezw_bipush (7) rfl rfl ?_
  refine ezw_iadd (k := (7)) rfl (by omega) ?_
  refine ezw_aload_n rfl rfl ?_
  refine ezw_iload_n rfl rfl ?_
  refine ezw_call0_1 rfl (by omega) (ezm_at rfl) rfl rfl rfl rfl (ezm_m268_v0n hT (by omega) nw wb ki) ?_
  rintro _ _ ⟨rfl, u4, hu4, la_3, rfl⟩
  have hl2 := la_3
  refine ezw_iadd (k := u4 + 7) rfl (by omega) ?_
  refine ezm_l88 rfl (by omega) (by omega) (fun u5 eu5 => ?_)
  have ku5 : ezm_k88 (u4 + 7) u5 := eu5 ▸ hT.t88 (u4 + 7)
  have zu5 := ezm_zs7 ku5 (by omega)
  have hti : u5 = w.ti := by
    have h9 := n2 (ezn_la z w) (by omega) (by omega)
    rw [if_pos rfl] at h9
    rw [eu5, ← h9]
    congr 1
    omega
  refine ezw_iload_n rfl rfl ?_
  refine ezw_iload rfl rfl ?_
  refine ezw_call0_5 rfl (by omega) (ezm_at rfl) rfl rfl rfl rfl (ezm_m269n hT (by omega) ha2 hu2 (ezm_in88 ku5) ha3 ha4 (by omega) tf hB mf lo) ?_
  rintro _ _ ⟨x86_6, x87_6, rfl, hT, u7, hu7, an_6, rfl⟩
  exact ezw_ireturn rfl rfl ⟨x86_6, x87_6, rfl, hT, u7, hu7, (by
        rw [an_6, show u2 = ezn_la z w by omega, hti]
        rfl), rfl⟩
def ezm_m260_v0nQ (e : Bool × Bool) (F : Nat → Nat → Int) (A : Nat → Int → Int) (i0 i2 i3 i7 i8 i13 i18 i19 i20 i25 i29 i30 i31 i36 i37 i38 : Int) (r73 r74 r75 r76 r77 r78 r79 r80 r81 r82 r83 r84 r85 r86 r87 r88 r89 r90 r91 r92 r93 r94 r95 : Int → Int) (z : ezp_D) (w : ezn_N) (a2 : Int) : Option ezq_V → (Nat → ezq_C) → Prop := fun v g' => ezm_h e F A i0 i2 i3 i7 i8 i13 i18 i19 i20 i25 i29 i30 i31 i36 i37 i38 r73 r74 r75 r76 r77 r78 r79 r80 r81 r82 r83 r84 r85 r86 r87 r88 r89 r90 r91 r92 r93 r94 r95 = g' ∧ ∃ u : Int, (0 ≤ u ∧ u ≤ 1) ∧ (u = 1 → ezn_ps z w a2 6 ≠ -1) ∧ (u = 0 → ezn_ps z w a2 6 = -1) ∧ some (ezw_i u) = v
theorem ezm_m260_v0n {z : ezp_D} {w : ezn_N} {a2 : Int} (hT : ezm_T i0 i2 i3 i7 i8 i13 i18 i19 i20 i25 i29 i30 i31 i36 i37 i38 r73 r74 r75 r76 r77 r78 r79 r80 r81 r82 r83 r84 r85 r86 r87 r88 r89 r90 r91 r92 r93 r94 r95) (hd : 0 ≤ d) (ha2 : ezw_in a2) (nw : ezn_NW z w 0 r88) (wb : ezn_B z w) (hB : ezp_B z) : ezw_C l ρ B xa Hb D cA 260 d [ezw_p 72, ezw_i (0), ezw_i a2] (ezm_h e F A i0 i2 i3 i7 i8 i13 i18 i19 i20 i25 i29 i30 i31 i36 i37 i38 r73 r74 r75 r76 r77 r78 r79 r80 r81 r82 r83 r84 r85 r86 r87 r88 r89 r90 r91 r92 r93 r94 r95) (ezm_m260_v0nQ  e F A i0 i2 i3 i7 i8 i13 i18 i19 i20 i25 i29 i30 i31 i36 i37 i38 r73 r74 r75 r76 r77 r78 r79 r80 r81 r82 r83 r84 r85 r86 r87 r88 r89 r90 r91 r92 r93 r94 r95 z w a2) := by
  refine ezw_met (k := 2) rfl rfl ?_
  obtain ⟨n0, n1, n2, n3, n4, n5, n6, n7⟩ := (ezn_NW_i 0 1 7 15 16 17 18 19 (by decide) (by decide) (by decide) (by decide) (by decide) (by decide) (by decide)).mp nw
  obtain ⟨⟨x0, x1⟩, x2, x3, x4, x5, x6, x7, x8, x9, x10, x11, x12⟩ := id wb
  have xc := ezn_cn_r x0 x1
  refine ezw_iconst (0) rfl rfl ?_
  refine ezw_istore_n rfl rfl ?_
  refine ezw_iconst (0) rfl rfl ?_
  refine ezw_istore rfl rfl ?_
  have L5_2 : ∀ c1 : Int, ezw_in c1 → ∀ y3 : Int, ezw_in y3 → ((0) ≤ c1) → (y3 = 0 ∨ y3 = 1) → (c1 ≤ ezn_cn w.ov) → (y3 = 1 → ezn_ps z w a2 6 ≠ -1) → (y3 = 0 → ∀ i, 0 ≤ i → i < c1 → z.sg (ezn_kp w.ov i) ≠ a2) → ezw_E l ρ B xa Hb D cA d ezq_re260 (ezm_m260_v0nQ  e F A i0 i2 i3 i7 i8 i13 i18 i19 i20 i25 i29 i30 i31 i36 i37 i38 r73 r74 r75 r76 r77 r78 r79 r80 r81 r82 r83 r84 r85 r86 r87 r88 r89 r90 r91 r92 r93 r94 r95 z w a2) 5 [some (ezw_p 72), some (ezw_i (0)), some (ezw_i a2), some (ezw_i y3), some (ezw_i c1)] [] (ezm_h e F A i0 i2 i3 i7 i8 i13 i18 i19 i20 i25 i29 i30 i31 i36 i37 i38 r73 r74 r75 r76 r77 r78 r79 r80 r81 r82 r83 r84 r85 r86 r87 r88 r89 r90 r91 r92 r93 r94 r95) := by
    refine ezs_up ?_
    intro c1 hc1 ihc1 y3 hy3 g_2 v0_2 cb_2 ov_2 no_2
    refine ezw_iload rfl rfl ?_
    refine ezw_aload_n rfl rfl ?_
    refine ezm_gp (p := 88) rfl (fun _ => rfl) ?_
    refine ezw_iload_n rfl rfl ?_
    refine ezw_iconst (0) rfl rfl ?_
    refine ezw_iadd (k := (0)) rfl (by omega) ?_
    refine ezm_l88 rfl (by omega) (by omega) (fun u4 eu4 => ?_)
    have ku4 : ezm_k88 (0) u4 := eu4 ▸ hT.t88 (0)
    have zu4 := ezm_zs0 ku4 (by omega)
    refine ezw_icmp_ge rfl rfl hc1 (ezm_in88 ku4) (fun h15_4 => ?_) (fun h15_4 => ?_)
    · refine ezw_iload_n rfl rfl ?_
      exact ezw_ireturn rfl (ezw_zret ⟨by omega, by omega⟩) ⟨rfl, y3, ⟨by omega, by omega⟩, ov_2, (fun y => ezn_ps_nk hB wb (fun i i0 i1 => no_2 y i i0 (by omega))), rfl⟩
    · refine ezw_iload_n rfl rfl ?_
      refine ezw_if_ne rfl rfl hy3 (fun h19_4 => ?_) (fun h19_4 => ?_)
      · refine ezw_iconst (1) rfl rfl ?_
        refine ezw_goto rfl rfl ?_
        refine ezw_istore_n rfl rfl ?_
        refine ezw_iinc (k := c1 + 1) (1) rfl rfl rfl (by omega) rfl ?_
        refine ezw_goto rfl rfl ?_
        exact ezw_keepE [true, true, true, true, true] (ihc1 (c1 + 1) (by omega) ⟨by omega, by omega⟩ (1) ⟨by decide, by decide⟩ (by omega) (by omega) (by omega) (fun _ => by
              first
                | exact ov_2 (by omega)
                | exact ezn_ps_kp hB wb (i := c1) (by omega) (by omega) (by omega)) (fun y => absurd y (by omega)))
      · refine ezw_aload_n rfl rfl ?_
        refine ezm_gp (p := 88) rfl (fun _ => rfl) ?_
        refine ezw_iload_n rfl rfl ?_
        refine ezw_iconst (1) rfl rfl ?_
        refine ezw_iadd (k := (1)) rfl (by omega) ?_
        refine ezw_iload rfl rfl ?_
        refine ezw_iadd (k := c1 + 1) rfl (by omega) ?_
        refine ezm_l88 rfl (by omega) (by omega) (fun u5 eu5 => ?_)
        have ku5 : ezm_k88 (c1 + 1) u5 := eu5 ▸ hT.t88 (c1 + 1)
        have zu5 := ezm_zs1 ku5 (by omega)
        have hs : u5 = z.sg (ezn_kp w.ov c1) := by rw [eu5]; exact n1 c1 (by omega) (by omega)
        refine ezw_iload_n rfl rfl ?_
        refine ezw_icmp_ne rfl rfl (ezm_in88 ku5) ha2 (fun h34_5 => ?_) (fun h34_5 => ?_)
        · refine ezw_iconst (0) rfl rfl ?_
          refine ezw_istore_n rfl rfl ?_
          refine ezw_iinc (k := c1 + 1) (1) rfl rfl rfl (by omega) rfl ?_
          refine ezw_goto rfl rfl ?_
          exact ezw_keepE [true, true, true, true, true] (ihc1 (c1 + 1) (by omega) ⟨by omega, by omega⟩ (0) ⟨by decide, by decide⟩ (by omega) (by omega) (by omega) (fun y => absurd y (by omega)) (fun _ i i0 i1 => by
                by_cases hi : i = c1
                · rw [hi]
                  omega
                · exact no_2 (by omega) i i0 (by omega)))
        · refine ezw_iconst (1) rfl rfl ?_
          refine ezw_goto rfl rfl ?_
          refine ezw_istore_n rfl rfl ?_
          refine ezw_iinc (k := c1 + 1) (1) rfl rfl rfl (by omega) rfl ?_
          refine ezw_goto rfl rfl ?_
          exact ezw_keepE [true, true, true, true, true] (ihc1 (c1 + 1) (by omega) ⟨by omega, by omega⟩ (1) ⟨by decide, by decide⟩ (by omega) (by omega) (by omega) (fun _ => by
                first
                  | exact ov_2 (by omega)
                  | exact ezn_ps_kp hB wb (i := c1) (by omega) (by omega) (by omega)) (fun y => absurd y (by omega)))
  exact ezw_keepE [true, true, true, true, true] (L5_2 (0) ⟨by decide, by decide⟩ (0) ⟨by decide, by decide⟩ (by omega) (by omega) (by omega) (fun y => absurd y (by omega)) (fun _ i i0 i1 => by omega))
def ezm_m277_v0nQ (e : Bool × Bool) (F : Nat → Nat → Int) (A : Nat → Int → Int) (i0 i2 i3 i7 i8 i13 i18 i19 i20 i25 i29 i30 i31 i36 i37 i38 : Int) (r73 r74 r75 r76 r77 r78 r79 r80 r81 r82 r83 r84 r85 r86 r87 r88 r89 r90 r91 r92 r93 r94 r95 : Int → Int) (z : ezp_D) (w : ezn_N) (p : Int) (a2 : Int) : Option ezq_V → (Nat → ezq_C) → Prop := fun v g' => ∃  (x88 : Int → Int), ezm_h e F A i0 i2 i3 i7 i8 i13 i18 i19 i20 i25 i29 i30 i31 i36 i37 i38 r73 r74 r75 r76 r77 r78 r79 r80 r81 r82 r83 r84 r85 r86 r87 x88 r89 r90 r91 r92 r93 r94 r95 = g' ∧ ezm_T i0 i2 i3 i7 i8 i13 i18 i19 i20 i25 i29 i30 i31 i36 i37 i38 r73 r74 r75 r76 r77 r78 r79 r80 r81 r82 r83 r84 r85 r86 r87 x88 r89 r90 r91 r92 r93 r94 r95 ∧ (∀ j, j < 0 ∨ 20 ≤ j → x88 j = r88 j) ∧ (ezn_NW z (ezn_off w p) 0 x88) ∧ none = v
theorem ezm_m277_v0n {z : ezp_D} {w : ezn_N} {p a2 : Int} (hT : ezm_T i0 i2 i3 i7 i8 i13 i18 i19 i20 i25 i29 i30 i31 i36 i37 i38 r73 r74 r75 r76 r77 r78 r79 r80 r81 r82 r83 r84 r85 r86 r87 r88 r89 r90 r91 r92 r93 r94 r95) (hd : 0 ≤ d) (ha2 : ezw_in a2) (nw : ezn_NW z w 0 r88) (wb : ezn_B z w) (hB : ezp_B z) (ki : w.ki = 0) (hp : 0 ≤ p ∧ p < 6 ∧ ezt_b w.ov p = 1 ∧ z.sg p = a2) : ezw_C l ρ B xa Hb D cA 277 d [ezw_p 72, ezw_i (0), ezw_i a2] (ezm_h e F A i0 i2 i3 i7 i8 i13 i18 i19 i20 i25 i29 i30 i31 i36 i37 i38 r73 r74 r75 r76 r77 r78 r79 r80 r81 r82 r83 r84 r85 r86 r87 r88 r89 r90 r91 r92 r93 r94 r95) (ezm_m277_v0nQ  e F A i0 i2 i3 i7 i8 i13 i18 i19 i20 i25 i29 i30 i31 i36 i37 i38 r73 r74 r75 r76 r77 r78 r79 r80 r81 r82 r83 r84 r85 r86 r87 r88 r89 r90 r91 r92 r93 r94 r95 z w p a2) := by
  refine ezw_met (k := 2) rfl rfl ?_
  obtain ⟨n0, n1, n2, n3, n4, n5, n6, n7⟩ := (ezn_NW_i 0 1 7 15 16 17 18 19 (by decide) (by decide) (by decide) (by decide) (by decide) (by decide) (by decide)).mp nw
  obtain ⟨⟨x0, x1⟩, x2, x3, x4, x5, x6, x7, x8, x9, x10, x11, x12⟩ := id wb
  have xc := ezn_cn_r x0 x1
  obtain ⟨⟨k0, k1⟩, k2⟩ := ezn_rk_r x0 x1 hp.1 hp.2.1 hp.2.2.1
  have hpb := (hB.2.2.1 p hp.1 (x2 p hp.1 hp.2.1 hp.2.2.1))
  have hT8 := hB.2.2.2.2.2.2.2.2
  refine ezw_iconst (0) rfl rfl ?_
  refine ezw_istore_n rfl rfl ?_
  refine ezw_iconst (0) rfl rfl ?_
  refine ezw_istore rfl rfl ?_
  have L5_2 : ∀ c1 : Int, ezw_in c1 → ∀ y3 : Int, ezw_in y3 → ∀ x88_2 : Int → Int, ezm_T i0 i2 i3 i7 i8 i13 i18 i19 i20 i25 i29 i30 i31 i36 i37 i38 r73 r74 r75 r76 r77 r78 r79 r80 r81 r82 r83 r84 r85 r86 r87 x88_2 r89 r90 r91 r92 r93 r94 r95 → ((0) ≤ c1) → (x88_2 (0) = r88 (0)) → (c1 ≤ ezn_cn w.ov) → (c1 ≤ ezn_rk w.ov p ∧ y3 = c1 ∨ ezn_rk w.ov p < c1 ∧ y3 = c1 - 1) → (∀ i, 0 ≤ i → i < y3 → x88_2 (i + 1) = z.sg (ezn_kp w.ov (if i < ezn_rk w.ov p then i else i + 1))) → (∀ i, c1 ≤ i → i < ezn_cn w.ov → x88_2 (i + 1) = z.sg (ezn_kp w.ov i)) → (∀ j, j < 1 ∨ 7 ≤ j → x88_2 j = r88 j) → ezw_E l ρ B xa Hb D cA d ezq_re277 (ezm_m277_v0nQ  e F A i0 i2 i3 i7 i8 i13 i18 i19 i20 i25 i29 i30 i31 i36 i37 i38 r73 r74 r75 r76 r77 r78 r79 r80 r81 r82 r83 r84 r85 r86 r87 r88 r89 r90 r91 r92 r93 r94 r95 z w p a2) 5 [some (ezw_p 72), some (ezw_i (0)), some (ezw_i a2), some (ezw_i y3), some (ezw_i c1)] [] (ezm_h e F A i0 i2 i3 i7 i8 i13 i18 i19 i20 i25 i29 i30 i31 i36 i37 i38 r73 r74 r75 r76 r77 r78 r79 r80 r81 r82 r83 r84 r85 r86 r87 x88_2 r89 r90 r91 r92 r93 r94 r95) := by
    refine ezs_up ?_
    intro c1 hc1 ihc1 y3 hy3 x88_2 hT g_2 m_2 cb_2 n_2 lo_2 hi_2 fb_2
    refine ezw_iload rfl rfl ?_
    refine ezw_aload_n rfl rfl ?_
    refine ezm_gp (p := 88) rfl (fun _ => rfl) ?_
    refine ezw_iload_n rfl rfl ?_
    refine ezw_iconst (0) rfl rfl ?_
    refine ezw_iadd (k := (0)) rfl (by omega) ?_
    refine ezm_l88 rfl (by omega) (by omega) (fun u4 eu4 => ?_)
    have ku4 : ezm_k88 (0) u4 := eu4 ▸ hT.t88 (0)
    have zu4 := ezm_zs0 ku4 (by omega)
    refine ezw_icmp_ge rfl rfl hc1 (ezm_in88 ku4) (fun h15_4 => ?_) (fun h15_4 => ?_)
    · refine ezw_aload_n rfl rfl ?_
      refine ezm_gp (p := 88) rfl (fun _ => rfl) ?_
      refine ezw_iload_n rfl rfl ?_
      refine ezw_iconst (0) rfl rfl ?_
      refine ezw_iadd (k := (0)) rfl (by omega) ?_
      refine ezw_iload_n rfl rfl ?_
      refine ezm_s88 hT rfl (by omega) (by omega) ⟨hy3, by omega, by omega, by omega, by omega, by omega⟩ (fun r88_5 hT er88_5 fr88_5 => ?_)
      refine ezw_aload_n rfl rfl ?_
      refine ezm_gp (p := 88) rfl (fun _ => rfl) ?_
      refine ezw_iload_n rfl rfl ?_
      refine ezw_bipush (7) rfl rfl ?_
      refine ezw_iadd (k := (7)) rfl (by omega) ?_
      refine ezw_iload_n rfl rfl ?_
      refine ezw_iadd (k := a2 + 7) rfl (by omega) ?_
      refine ezw_iconst (0) rfl rfl ?_
      refine ezm_s88 hT rfl (by omega) (by omega) ⟨⟨by decide, by decide⟩, by omega, by omega, by omega, by omega, by omega⟩ (fun r88_6 hT er88_6 fr88_6 => ?_)
      refine ezw_aload_n rfl rfl ?_
      refine ezm_gp (p := 88) rfl (fun _ => rfl) ?_
      refine ezw_iload_n rfl rfl ?_
      refine ezw_bipush (17) rfl rfl ?_
      refine ezw_iadd (k := (17)) rfl (by omega) ?_
      refine ezw_iload_n rfl rfl ?_
      have J101_8 : ∀ y7 : Int, ezw_in y7 → (y7 = 1 ∧ y3 = 0 ∨ y7 = 0 ∧ ¬ y3 = 0) → ezw_E l ρ B xa Hb D cA d ezq_re277 (ezm_m277_v0nQ  e F A i0 i2 i3 i7 i8 i13 i18 i19 i20 i25 i29 i30 i31 i36 i37 i38 r73 r74 r75 r76 r77 r78 r79 r80 r81 r82 r83 r84 r85 r86 r87 r88 r89 r90 r91 r92 r93 r94 r95 z w p a2) 101 [some (ezw_p 72), some (ezw_i (0)), some (ezw_i a2), some (ezw_i y3), some (ezw_i c1)] [ezw_i y7, ezw_i (17), ezw_p 88] (ezm_h e F A i0 i2 i3 i7 i8 i13 i18 i19 i20 i25 i29 i30 i31 i36 i37 i38 r73 r74 r75 r76 r77 r78 r79 r80 r81 r82 r83 r84 r85 r86 r87 r88_6 r89 r90 r91 r92 r93 r94 r95) := by
        intro y7 hy7 jz_8
        refine ezm_s88 hT rfl (by omega) (by omega) ⟨hy7, by omega, by omega, by omega, by omega, by omega⟩ (fun r88_9 hT er88_9 fr88_9 => ?_)
        exact ezw_return rfl rfl ⟨r88_9, rfl, hT, (fun j hj => by rw [fr88_9 j (by omega), fr88_6 j (by omega), fr88_5 j (by omega)]; exact fb_2 j (by omega)), (ezn_NW_off hB wb nw ki hp.1 hp.2.1 hp.2.2.1 (by show r88_9 (0) = _; rw [fr88_9 (0) (by omega), fr88_6 (0) (by omega), er88_5]; omega) (fun i i0 i1 => by show r88_9 (i + 1) = _; rw [fr88_9 (i + 1) (by omega), fr88_6 (i + 1) (by omega), fr88_5 (i + 1) (by omega)]; exact lo_2 i i0 (by omega)) (fun t t0 t1 => by
              show r88_9 (t + 7) = if t = z.sg p then 0 else r88 (t + 7)
              by_cases ht : t = z.sg p
              · rw [if_pos ht, fr88_9 (t + 7) (by omega), show t + 7 = a2 + 7 by omega, er88_6]
              · rw [if_neg ht, fr88_9 (t + 7) (by omega), fr88_6 (t + 7) (by omega), fr88_5 (t + 7) (by omega)]
                exact fb_2 _ (by omega)) (by show r88_9 (17) = if ezn_cn w.ov - 1 = 0 then 1 else 0; rw [er88_9]; rcases jz_8 with ⟨q1, q2⟩ | ⟨q1, q2⟩; (· rw [if_pos (by omega)]; exact q1); (· rw [if_neg (by omega)]; exact q1)) (by show r88_9 (15) = r88 (15); rw [fr88_9 (15) (by omega), fr88_6 (15) (by omega), fr88_5 (15) (by omega)]; exact fb_2 _ (by omega)) (by show r88_9 (16) = r88 (16); rw [fr88_9 (16) (by omega), fr88_6 (16) (by omega), fr88_5 (16) (by omega)]; exact fb_2 _ (by omega)) (by show r88_9 (18) = r88 (18); rw [fr88_9 (18) (by omega), fr88_6 (18) (by omega), fr88_5 (18) (by omega)]; exact fb_2 _ (by omega)) (by show r88_9 (19) = r88 (19); rw [fr88_9 (19) (by omega), fr88_6 (19) (by omega), fr88_5 (19) (by omega)]; exact fb_2 _ (by omega))), rfl⟩
      refine ezw_if_ne rfl rfl hy3 (fun h93_6 => ?_) (fun h93_6 => ?_)
      · refine ezw_iconst (0) rfl rfl ?_
        exact ezw_keepE [true, true, true, true, true] (J101_8 (0) ⟨by decide, by decide⟩ (by omega))
      · refine ezw_iconst (1) rfl rfl ?_
        refine ezw_goto rfl rfl ?_
        exact ezw_keepE [true, true, true, true, true] (J101_8 (1) ⟨by decide, by decide⟩ (by omega))
    · refine ezw_aload_n rfl rfl ?_
      refine ezm_gp (p := 88) rfl (fun _ => rfl) ?_
      refine ezw_iload_n rfl rfl ?_
      refine ezw_iconst (1) rfl rfl ?_
      refine ezw_iadd (k := (1)) rfl (by omega) ?_
      refine ezw_iload rfl rfl ?_
      refine ezw_iadd (k := c1 + 1) rfl (by omega) ?_
      refine ezm_l88 rfl (by omega) (by omega) (fun u10 eu10 => ?_)
      have ku10 : ezm_k88 (c1 + 1) u10 := eu10 ▸ hT.t88 (c1 + 1)
      have zu10 := ezm_zs1 ku10 (by omega)
      have hs : u10 = z.sg (ezn_kp w.ov c1) := by rw [eu10]; exact hi_2 c1 (by omega) (by omega)
      have hix : u10 = a2 ↔ c1 = ezn_rk w.ov p := by
        rw [hs, ← hp.2.2.2]
        exact ezn_ix hB wb hp.1 hp.2.1 hp.2.2.1 (by omega) (by omega)
      refine ezw_iload_n rfl rfl ?_
      refine ezw_icmp_eq rfl rfl (ezm_in88 ku10) ha2 (fun h30_10 => ?_) (fun h30_10 => ?_)
      · refine ezw_iinc (k := c1 + 1) (1) rfl rfl rfl (by omega) rfl ?_
        refine ezw_goto rfl rfl ?_
        exact ezw_keepE [true, true, true, true, true] (ihc1 (c1 + 1) (by omega) ⟨by omega, by omega⟩ y3 hy3 x88_2 hT (by omega) m_2 (by omega) (by omega) lo_2 (fun i i0 i1 => hi_2 i (by omega) i1) fb_2)
      · refine ezw_aload_n rfl rfl ?_
        refine ezm_gp (p := 88) rfl (fun _ => rfl) ?_
        refine ezw_iload_n rfl rfl ?_
        refine ezw_iconst (1) rfl rfl ?_
        refine ezw_iadd (k := (1)) rfl (by omega) ?_
        refine ezw_iload_n rfl rfl ?_
        refine ezw_iadd (k := y3 + 1) rfl (by omega) ?_
        refine ezw_aload_n rfl rfl ?_
        refine ezm_gp (p := 88) rfl (fun _ => rfl) ?_
        refine ezw_iload_n rfl rfl ?_
        refine ezw_iconst (1) rfl rfl ?_
        refine ezw_iadd (k := (1)) rfl (by omega) ?_
        refine ezw_iload rfl rfl ?_
        refine ezw_iadd (k := c1 + 1) rfl (by omega) ?_
        refine ezm_l88 rfl (by omega) (by omega) (fun u11 eu11 => ?_)
        have fu11 : u10 = u11 := eu10.trans eu11.symm
        subst fu11
        refine ezm_s88 hT rfl (by omega) (by omega) ⟨(ezm_in88 ku10), by omega, by omega, by omega, by omega, by omega⟩ (fun r88_12 hT er88_12 fr88_12 => ?_)
        refine ezw_iinc (k := y3 + 1) (1) rfl rfl rfl (by omega) rfl ?_
        refine ezw_iinc (k := c1 + 1) (1) rfl rfl rfl (by omega) rfl ?_
        refine ezw_goto rfl rfl ?_
        exact ezw_keepE [true, true, true, true, true] (ihc1 (c1 + 1) (by omega) ⟨by omega, by omega⟩ (y3 + 1) ⟨by omega, by omega⟩ r88_12 hT (by omega) (by rw [fr88_12 _ (by omega)]; exact m_2) (by omega) (by omega) (fun i i0 i1 => by
              by_cases hi : i = y3
              · rw [show i + 1 = y3 + 1 by omega, er88_12, hs]
                rcases n_2 with ⟨q1, q2⟩ | ⟨q1, q2⟩
                · rw [if_pos (by omega), show i = c1 by omega]
                · rw [if_neg (by omega)]
                  congr 2
                  omega
              · rw [fr88_12 _ (by omega)]
                exact lo_2 i i0 (by omega)) (fun i i0 i1 => by
              rw [fr88_12 _ (by omega)]
              exact hi_2 i (by omega) i1) (fun j hj => by rw [fr88_12 j (by omega)]; exact fb_2 j hj))
  exact ezw_keepE [true, true, true, true, true] (L5_2 (0) ⟨by decide, by decide⟩ (0) ⟨by decide, by decide⟩ r88 hT (by omega) rfl (by omega) (by omega) (fun i i0 i1 => by omega) (fun i i0 i1 => n1 i i0 i1) (fun _ _ => rfl))
def ezm_m276_v0nQ (e : Bool × Bool) (F : Nat → Nat → Int) (A : Nat → Int → Int) (i0 i2 i3 i7 i8 i13 i18 i19 i20 i25 i29 i30 i31 i36 i37 i38 : Int) (r73 r74 r75 r76 r77 r78 r79 r80 r81 r82 r83 r84 r85 r86 r87 r88 r89 r90 r91 r92 r93 r94 r95 : Int → Int) (z : ezp_D) (w : ezn_N) (a2 : Int) (a3 : Int) : Option ezq_V → (Nat → ezq_C) → Prop := fun v g' => ∃  (x88 : Int → Int), ezm_h e F A i0 i2 i3 i7 i8 i13 i18 i19 i20 i25 i29 i30 i31 i36 i37 i38 r73 r74 r75 r76 r77 r78 r79 r80 r81 r82 r83 r84 r85 r86 r87 x88 r89 r90 r91 r92 r93 r94 r95 = g' ∧ ezm_T i0 i2 i3 i7 i8 i13 i18 i19 i20 i25 i29 i30 i31 i36 i37 i38 r73 r74 r75 r76 r77 r78 r79 r80 r81 r82 r83 r84 r85 r86 r87 x88 r89 r90 r91 r92 r93 r94 r95 ∧ (∀ j, j < 0 ∨ 20 ≤ j → x88 j = r88 j) ∧ (ezn_NW z (ezn_tP w a2 a3) 0 x88) ∧ none = v
theorem ezm_m276_v0n {z : ezp_D} {w : ezn_N} {a2 a3 : Int} (hT : ezm_T i0 i2 i3 i7 i8 i13 i18 i19 i20 i25 i29 i30 i31 i36 i37 i38 r73 r74 r75 r76 r77 r78 r79 r80 r81 r82 r83 r84 r85 r86 r87 r88 r89 r90 r91 r92 r93 r94 r95) (hd : 1 ≤ d) (ha2 : ezw_in a2) (ha3 : ezw_in a3) (ga : 0 ≤ a2 ∧ a2 ≤ 1) (nw : ezn_NW z w 0 r88) (wb : ezn_B z w) (hB : ezp_B z) (ki : w.ki = 0) : ezw_C l ρ B xa Hb D cA 276 d [ezw_p 72, ezw_i (0), ezw_i a2, ezw_i a3] (ezm_h e F A i0 i2 i3 i7 i8 i13 i18 i19 i20 i25 i29 i30 i31 i36 i37 i38 r73 r74 r75 r76 r77 r78 r79 r80 r81 r82 r83 r84 r85 r86 r87 r88 r89 r90 r91 r92 r93 r94 r95) (ezm_m276_v0nQ  e F A i0 i2 i3 i7 i8 i13 i18 i19 i20 i25 i29 i30 i31 i36 i37 i38 r73 r74 r75 r76 r77 r78 r79 r80 r81 r82 r83 r84 r85 r86 r87 r88 r89 r90 r91 r92 r93 r94 r95 z w a2 a3) := by
  refine ezw_met (k := 2) rfl rfl ?_
  obtain ⟨n0, n1, n2, n3, n4, n5, n6, n7⟩ := (ezn_NW_i 0 1 7 15 16 17 18 19 (by decide) (by decide) (by decide) (by decide) (by decide) (by decide) (by decide)).mp nw
  obtain ⟨⟨x0, x1⟩, x2, x3, x4, x5, x6, x7, x8, x9, x10, x11, x12⟩ := id wb
  have xc := ezn_cn_r x0 x1
  have lr := ezn_lo_r x0 x1 (x10 ki)
  have hla := ezn_la_r hB wb ki
  have hT8 := hB.2.2.2.2.2.2.2.2
  have hls : ezn_la z w = z.sg (ezn_lo w.ov) := if_neg (x10 ki)
  refine ezw_aload_n rfl rfl ?_
  refine ezw_iload_n rfl rfl ?_
  refine ezw_call0_1 rfl (by omega) (ezm_at rfl) rfl rfl rfl rfl (ezm_m268_v0n hT (by omega) nw wb (by omega)) ?_
  rintro _ _ ⟨rfl, u2, hu2, la_1, rfl⟩
  have hl2 := la_1
  refine ezw_istore rfl rfl ?_
  refine ezw_iload_n rfl rfl ?_
  refine ezw_if_ne rfl rfl ha3 (fun h8_2 => ?_) (fun h8_2 => ?_)
  · refine ezw_iload_n rfl rfl ?_
    refine ezw_iconst (1) rfl rfl ?_
    refine ezw_icmp_ne rfl rfl ha3 ⟨by decide, by decide⟩ (fun h23_2 => ?_) (fun h23_2 => ?_)
    · refine ezw_aload_n rfl rfl ?_
      refine ezm_gp (p := 88) rfl (fun _ => rfl) ?_
      refine ezw_iload_n rfl rfl ?_
      refine ezw_iconst (0) rfl rfl ?_
      refine ezw_iadd (k := (0)) rfl (by omega) ?_
      refine ezw_iconst (0) rfl rfl ?_
      refine ezm_s88 hT rfl (by omega) (by omega) ⟨⟨by decide, by decide⟩, by omega, by omega, by omega, by omega, by omega⟩ (fun r88_3 hT er88_3 fr88_3 => ?_)
      refine ezw_aload_n rfl rfl ?_
      refine ezm_gp (p := 88) rfl (fun _ => rfl) ?_
      refine ezw_iload_n rfl rfl ?_
      refine ezw_bipush (17) rfl rfl ?_
      refine ezw_iadd (k := (17)) rfl (by omega) ?_
      refine ezw_iconst (2) rfl rfl ?_
      refine ezm_s88 hT rfl (by omega) (by omega) ⟨⟨by decide, by decide⟩, by omega, by omega, by omega, by omega, by omega⟩ (fun r88_4 hT er88_4 fr88_4 => ?_)
      refine ezw_iconst (0) rfl rfl ?_
      refine ezw_istore rfl rfl ?_
      have L95_6 : ∀ c5 : Int, ezw_in c5 → ∀ x88_6 : Int → Int, ezm_T i0 i2 i3 i7 i8 i13 i18 i19 i20 i25 i29 i30 i31 i36 i37 i38 r73 r74 r75 r76 r77 r78 r79 r80 r81 r82 r83 r84 r85 r86 r87 x88_6 r89 r90 r91 r92 r93 r94 r95 → ((0) ≤ c5) → (c5 ≤ 8) → (x88_6 (0) = 0) → (x88_6 (17) = 2) → (∀ t, 0 ≤ t → t < c5 → x88_6 (t + 7) = 0) → (∀ j, 15 ≤ j → j ≠ 17 → x88_6 j = r88 j) → (∀ j, j < 0 ∨ 20 ≤ j → x88_6 j = r88 j) → ezw_E l ρ B xa Hb D cA d ezq_re276 (ezm_m276_v0nQ  e F A i0 i2 i3 i7 i8 i13 i18 i19 i20 i25 i29 i30 i31 i36 i37 i38 r73 r74 r75 r76 r77 r78 r79 r80 r81 r82 r83 r84 r85 r86 r87 r88 r89 r90 r91 r92 r93 r94 r95 z w a2 a3) 95 [some (ezw_p 72), some (ezw_i (0)), some (ezw_i a2), some (ezw_i a3), some (ezw_i u2), some (ezw_i c5)] [] (ezm_h e F A i0 i2 i3 i7 i8 i13 i18 i19 i20 i25 i29 i30 i31 i36 i37 i38 r73 r74 r75 r76 r77 r78 r79 r80 r81 r82 r83 r84 r85 r86 r87 x88_6 r89 r90 r91 r92 r93 r94 r95) := by
        refine ezs_up ?_
        intro c5 hc5 ihc5 x88_6 hT g_6 cb_6 m_6 u_6 z_6 sm_6 fb_6
        refine ezw_iload rfl rfl ?_
        refine ezw_bipush (8) rfl rfl ?_
        refine ezw_icmp_ge rfl rfl hc5 ⟨by decide, by decide⟩ (fun h99_6 => ?_) (fun h99_6 => ?_)
        · exact ezw_return rfl rfl ⟨x88_6, rfl, hT, (fun j hj => fb_6 j (by omega)), (by unfold ezn_tP; rw [if_neg (by omega), if_neg (by omega)]; exact ezn_NW_tr nw m_6 (show x88_6 (17) = 2 from u_6) (fun t t0 t1 => by show x88_6 (t + 7) = 0; exact z_6 t t0 (by omega)) (by show x88_6 (15) = r88 (15); exact sm_6 _ (by omega) (by omega)) (by show x88_6 (16) = r88 (16); exact sm_6 _ (by omega) (by omega)) (by show x88_6 (18) = r88 (18); exact sm_6 _ (by omega) (by omega)) (by show x88_6 (19) = r88 (19); exact sm_6 _ (by omega) (by omega))), rfl⟩
        · refine ezw_aload_n rfl rfl ?_
          refine ezm_gp (p := 88) rfl (fun _ => rfl) ?_
          refine ezw_iload_n rfl rfl ?_
          refine ezw_bipush (7) rfl rfl ?_
          refine ezw_iadd (k := (7)) rfl (by omega) ?_
          refine ezw_iload rfl rfl ?_
          refine ezw_iadd (k := c5 + 7) rfl (by omega) ?_
          refine ezw_iconst (0) rfl rfl ?_
          refine ezm_s88 hT rfl (by omega) (by omega) ⟨⟨by decide, by decide⟩, by omega, by omega, by omega, by omega, by omega⟩ (fun r88_7 hT er88_7 fr88_7 => ?_)
          refine ezw_iinc (k := c5 + 1) (1) rfl rfl rfl (by omega) rfl ?_
          refine ezw_goto rfl rfl ?_
          exact ezw_keepE [true, true, true, true, true, true] (ihc5 (c5 + 1) (by omega) ⟨by omega, by omega⟩ r88_7 hT (by omega) (by omega) (by rw [fr88_7 _ (by omega)]; exact m_6) (by rw [fr88_7 _ (by omega)]; exact u_6) (fun t t0 t1 => by
                by_cases ht : t = c5
                · rw [show t + 7 = c5 + 7 by omega, er88_7]
                · rw [fr88_7 _ (by omega)]
                  exact z_6 t t0 (by omega)) (fun j j0 j1 => by rw [fr88_7 j (by omega)]; exact sm_6 j j0 j1) (fun j hj => by rw [fr88_7 j (by omega)]; exact fb_6 j hj))
      exact ezw_keepE [true, true, true, true, true, true] (L95_6 (0) ⟨by decide, by decide⟩ r88_4 hT (by omega) (by omega) (by rw [fr88_4 (0) (by omega), er88_3]) (by rw [er88_4]) (fun t t0 t1 => by omega) (fun j j0 j1 => by rw [fr88_4 j (by omega), fr88_3 j (by omega)]) (fun j hj => by rw [fr88_4 j (by omega), fr88_3 j (by omega)]))
    · refine ezw_aload_n rfl rfl ?_
      refine ezm_gp (p := 88) rfl (fun _ => rfl) ?_
      refine ezw_iload_n rfl rfl ?_
      refine ezw_bipush (7) rfl rfl ?_
      refine ezw_iadd (k := (7)) rfl (by omega) ?_
      refine ezw_iload rfl rfl ?_
      refine ezw_iadd (k := u2 + 7) rfl (by omega) ?_
      refine ezm_l88 rfl (by omega) (by omega) (fun u8 eu8 => ?_)
      have ku8 : ezm_k88 (u2 + 7) u8 := eu8 ▸ hT.t88 (u2 + 7)
      have zu8 := ezm_zs7 ku8 (by omega)
      have hti : u8 = w.ti := by
        have h9 := n2 (ezn_la z w) (by omega) (by omega)
        rw [if_pos rfl] at h9
        rw [eu8, ← h9]
        congr 1
        omega
      refine ezw_iconst (1) rfl rfl ?_
      refine ezw_iadd (k := u8 + 1) rfl (by omega) ?_
      refine ezw_iload_n rfl rfl ?_
      refine ezw_iadd (k := u8 + a2 + 1) rfl (by omega) ?_
      refine ezw_istore rfl rfl ?_
      refine ezw_aload_n rfl rfl ?_
      refine ezm_gp (p := 88) rfl (fun _ => rfl) ?_
      refine ezw_iload_n rfl rfl ?_
      refine ezw_bipush (7) rfl rfl ?_
      refine ezw_iadd (k := (7)) rfl (by omega) ?_
      refine ezw_iload rfl rfl ?_
      refine ezw_iadd (k := u2 + 7) rfl (by omega) ?_
      refine ezw_iload rfl rfl ?_
      refine ezw_bipush (9) rfl rfl ?_
      refine ezw_icmp_le rfl rfl ⟨by omega, by omega⟩ ⟨by decide, by decide⟩ (fun h59_8 => ?_) (fun h59_8 => ?_)
      · refine ezw_iload rfl rfl ?_
        refine ezm_s88 hT rfl (by omega) (by omega) ⟨⟨by omega, by omega⟩, by omega, by omega, by omega, by omega, by omega⟩ (fun r88_9 hT er88_9 fr88_9 => ?_)
        refine ezw_goto rfl rfl ?_
        exact ezw_return rfl rfl ⟨r88_9, rfl, hT, (fun j hj => by rw [fr88_9 j (by omega)]), (by
              unfold ezn_tP
              rw [if_neg (by omega), if_pos (by omega)]
              refine ezn_NW_ti nw wb rfl rfl rfl rfl rfl rfl (fun j j0 j1 j2 => fr88_9 j (by omega)) ?_ (by omega)
              rw [show ezn_la z w + (0 + 7) = u2 + 7 by omega, er88_9]
              show _ = (if w.ti + 1 + a2 ≤ 9 then w.ti + 1 + a2 else 9)
              first
                | (rw [if_pos (by omega)]; omega)
                | (rw [if_neg (by omega)])), rfl⟩
      · refine ezw_bipush (9) rfl rfl ?_
        refine ezw_goto rfl rfl ?_
        refine ezm_s88 hT rfl (by omega) (by omega) ⟨⟨by decide, by decide⟩, by omega, by omega, by omega, by omega, by omega⟩ (fun r88_10 hT er88_10 fr88_10 => ?_)
        refine ezw_goto rfl rfl ?_
        exact ezw_return rfl rfl ⟨r88_10, rfl, hT, (fun j hj => by rw [fr88_10 j (by omega)]), (by
              unfold ezn_tP
              rw [if_neg (by omega), if_pos (by omega)]
              refine ezn_NW_ti nw wb rfl rfl rfl rfl rfl rfl (fun j j0 j1 j2 => fr88_10 j (by omega)) ?_ (by omega)
              rw [show ezn_la z w + (0 + 7) = u2 + 7 by omega, er88_10]
              show _ = (if w.ti + 1 + a2 ≤ 9 then w.ti + 1 + a2 else 9)
              first
                | (rw [if_pos (by omega)]; omega)
                | (rw [if_neg (by omega)])), rfl⟩
  · refine ezw_aload_n rfl rfl ?_
    refine ezw_iload_n rfl rfl ?_
    refine ezw_iload rfl rfl ?_
    refine ezw_call0_2 rfl (by omega) (ezm_at rfl) rfl rfl rfl rfl (ezm_m277_v0n (p := (ezn_lo w.ov)) hT (by omega) hu2 nw wb hB (by omega) ⟨lr.1.1, lr.1.2, lr.2.1, by omega⟩) ?_
    rintro _ _ ⟨x88_11, rfl, hT, fb_11, nw_11, rfl⟩
    refine ezw_goto rfl rfl ?_
    exact ezw_return rfl rfl ⟨x88_11, rfl, hT, fb_11, (by unfold ezn_tP; rw [if_pos (by omega)]; exact nw_11), rfl⟩
def ezm_m273_v0nQ (e : Bool × Bool) (F : Nat → Nat → Int) (A : Nat → Int → Int) (i0 i2 i3 i7 i8 i13 i18 i19 i20 i25 i29 i30 i31 i36 i37 i38 : Int) (r73 r74 r75 r76 r77 r78 r79 r80 r81 r82 r83 r84 r85 r86 r87 r88 r89 r90 r91 r92 r93 r94 r95 : Int → Int) (z : ezp_D) (w : ezn_N) (L : ezv_LL) (a2 : Int) (a3 : Int) (a4 : Int) : Option ezq_V → (Nat → ezq_C) → Prop := fun v g' => ∃  (x86 x87 : Int → Int), ezm_h e F A i0 i2 i3 i7 i8 i13 i18 i19 i20 i25 i29 i30 i31 i36 i37 i38 r73 r74 r75 r76 r77 r78 r79 r80 r81 r82 r83 r84 r85 x86 x87 r88 r89 r90 r91 r92 r93 r94 r95 = g' ∧ ezm_T i0 i2 i3 i7 i8 i13 i18 i19 i20 i25 i29 i30 i31 i36 i37 i38 r73 r74 r75 r76 r77 r78 r79 r80 r81 r82 r83 r84 r85 x86 x87 r88 r89 r90 r91 r92 r93 r94 r95 ∧ ∃ u : Int, (0 ≤ u ∧ u ≤ 1) ∧ (u = 1 → ezn_cP (ezn_qc L z) z w a2 a3 a4) ∧ (u = 0 → ¬ ezn_cP (ezn_qc L z) z w a2 a3 a4) ∧ some (ezw_i u) = v
theorem ezm_m273_v0n {z : ezp_D} {w : ezn_N} {L : ezv_LL} {a2 a3 a4 : Int} (hT : ezm_T i0 i2 i3 i7 i8 i13 i18 i19 i20 i25 i29 i30 i31 i36 i37 i38 r73 r74 r75 r76 r77 r78 r79 r80 r81 r82 r83 r84 r85 r86 r87 r88 r89 r90 r91 r92 r93 r94 r95) (hd : 4 ≤ d) (ha2 : ezw_in a2) (ha3 : ezw_in a3) (ha4 : ezw_in a4) (ga : 0 ≤ a2 ∧ a2 < 4 ∧ 0 ≤ a3 ∧ a3 ≤ 1 ∧ 0 ≤ a4 ∧ a4 ≤ 2) (nw : ezn_NW z w 0 r88) (wb : ezn_B z w) (tf : ezm_TRF z i18 r78 r81 r83) (hB : ezp_B z) (mf : ezm_MF L r78 r79 r80) (lo : ezv_LO L) : ezw_C l ρ B xa Hb D cA 273 d [ezw_p 72, ezw_i (0), ezw_i a2, ezw_i a3, ezw_i a4] (ezm_h e F A i0 i2 i3 i7 i8 i13 i18 i19 i20 i25 i29 i30 i31 i36 i37 i38 r73 r74 r75 r76 r77 r78 r79 r80 r81 r82 r83 r84 r85 r86 r87 r88 r89 r90 r91 r92 r93 r94 r95) (ezm_m273_v0nQ  e F A i0 i2 i3 i7 i8 i13 i18 i19 i20 i25 i29 i30 i31 i36 i37 i38 r73 r74 r75 r76 r77 r78 r79 r80 r81 r82 r83 r84 r85 r86 r87 r88 r89 r90 r91 r92 r93 r94 r95 z w L a2 a3 a4) := by
  refine ezw_met (k := 2) rfl rfl ?_
  obtain ⟨n0, n1, n2, n3, n4, n5, n6, n7⟩ := (ezn_NW_i 0 1 7 15 16 17 18 19 (by decide) (by decide) (by decide) (by decide) (by decide) (by decide) (by decide)).mp nw
  obtain ⟨⟨x0, x1⟩, x2, x3, x4, x5, x6, x7, x8, x9, x10, x11, x12⟩ := id wb
  have xc := ezn_cn_r x0 x1
  refine ezw_aload_n rfl rfl ?_
  refine ezw_iload_n rfl rfl ?_
  refine ezw_call0_1 rfl (by omega) (ezm_at rfl) rfl rfl rfl rfl (ezm_m266_v0 hT (by omega)) ?_
  rintro _ _ ⟨rfl, u2, hu2, p1_0, p1_1, rfl⟩
  refine ezw_if_ne rfl rfl ⟨by omega, by omega⟩ (fun h5_2 => ?_) (fun h5_2 => ?_)
  · have ki : w.ki = 0 := by have h9 := p1_0 (by omega); omega
    refine ezw_aload_n rfl rfl ?_
    refine ezw_iload_n rfl rfl ?_
    refine ezw_iconst (0) rfl rfl ?_
    refine ezw_iload_n rfl rfl ?_
    refine ezw_iload_n rfl rfl ?_
    refine ezw_call0_4 rfl (by omega) (ezm_at rfl) rfl rfl rfl rfl (ezm_m267_v0n hT (by omega) ⟨by decide, by decide⟩ ha2 ha3 (by omega) nw wb ki tf hB mf lo) ?_
    rintro _ _ ⟨x86_3, x87_3, rfl, hT, u4, hu4, ch_3, rfl⟩
    refine ezw_istore rfl rfl ?_
    refine ezw_aload_n rfl rfl ?_
    refine ezw_iload_n rfl rfl ?_
    refine ezw_iconst (1) rfl rfl ?_
    refine ezw_iload_n rfl rfl ?_
    refine ezw_iload_n rfl rfl ?_
    refine ezw_call0_4 rfl (by omega) (ezm_at rfl) rfl rfl rfl rfl (ezm_m267_v0n hT (by omega) ⟨by decide, by decide⟩ ha2 ha3 (by omega) nw wb ki tf hB mf lo) ?_
    rintro _ _ ⟨x86_5, x87_5, rfl, hT, u6, hu6, ch_5, rfl⟩
    refine ezw_istore rfl rfl ?_
    refine ezw_iload rfl rfl ?_
    refine ezw_if_ne rfl rfl ha4 (fun h32_6 => ?_) (fun h32_6 => ?_)
    · refine ezw_iload rfl rfl ?_
      refine ezw_bipush (10) rfl rfl ?_
      refine ezw_icmp_ge rfl rfl hu4 ⟨by decide, by decide⟩ (fun h52_6 => ?_) (fun h52_6 => ?_)
      · refine ezw_iconst (0) rfl rfl ?_
        exact ezw_ireturn rfl (ezw_zret ⟨by omega, by omega⟩) ⟨x86_5, x87_5, rfl, hT, (0), ⟨by omega, by omega⟩, (by omega), (fun _ hz => by
              obtain ⟨y1, y2, y3⟩ := hz
              rw [← ch_3, ← ch_5] at y3
              omega), rfl⟩
      · refine ezw_iload rfl rfl ?_
        refine ezw_iconst (1) rfl rfl ?_
        refine ezw_icmp_ne rfl rfl ha4 ⟨by decide, by decide⟩ (fun h58_6 => ?_) (fun h58_6 => ?_)
        · refine ezw_iload rfl rfl ?_
          refine ezw_if_le rfl rfl hu6 (fun h73_6 => ?_) (fun h73_6 => ?_)
          · refine ezw_iconst (0) rfl rfl ?_
            exact ezw_ireturn rfl (ezw_zret ⟨by omega, by omega⟩) ⟨x86_5, x87_5, rfl, hT, (0), ⟨by omega, by omega⟩, (by omega), (fun _ hz => by
                  obtain ⟨y1, y2, y3⟩ := hz
                  rw [← ch_3, ← ch_5] at y3
                  omega), rfl⟩
          · refine ezw_iconst (1) rfl rfl ?_
            refine ezw_goto rfl rfl ?_
            exact ezw_ireturn rfl (ezw_zret ⟨by omega, by omega⟩) ⟨x86_5, x87_5, rfl, hT, (1), ⟨by omega, by omega⟩, (fun _ => ⟨ki, ⟨by omega, by omega⟩, by rw [← ch_3, ← ch_5]; omega⟩), (by omega), rfl⟩
        · refine ezw_iload rfl rfl ?_
          refine ezw_bipush (10) rfl rfl ?_
          refine ezw_icmp_ge rfl rfl hu6 ⟨by decide, by decide⟩ (fun h65_6 => ?_) (fun h65_6 => ?_)
          · refine ezw_iconst (0) rfl rfl ?_
            exact ezw_ireturn rfl (ezw_zret ⟨by omega, by omega⟩) ⟨x86_5, x87_5, rfl, hT, (0), ⟨by omega, by omega⟩, (by omega), (fun _ hz => by
                  obtain ⟨y1, y2, y3⟩ := hz
                  rw [← ch_3, ← ch_5] at y3
                  omega), rfl⟩
          · refine ezw_goto rfl rfl ?_
            refine ezw_iconst (1) rfl rfl ?_
            refine ezw_goto rfl rfl ?_
            exact ezw_ireturn rfl (ezw_zret ⟨by omega, by omega⟩) ⟨x86_5, x87_5, rfl, hT, (1), ⟨by omega, by omega⟩, (fun _ => ⟨ki, ⟨by omega, by omega⟩, by rw [← ch_3, ← ch_5]; omega⟩), (by omega), rfl⟩
    · refine ezw_iload rfl rfl ?_
      refine ezw_if_le rfl rfl hu4 (fun h37_6 => ?_) (fun h37_6 => ?_)
      · refine ezw_iconst (0) rfl rfl ?_
        refine ezw_goto rfl rfl ?_
        exact ezw_ireturn rfl (ezw_zret ⟨by omega, by omega⟩) ⟨x86_5, x87_5, rfl, hT, (0), ⟨by omega, by omega⟩, (by omega), (fun _ hz => by
              obtain ⟨y1, y2, y3⟩ := hz
              rw [← ch_3, ← ch_5] at y3
              omega), rfl⟩
      · refine ezw_iconst (1) rfl rfl ?_
        refine ezw_goto rfl rfl ?_
        exact ezw_ireturn rfl (ezw_zret ⟨by omega, by omega⟩) ⟨x86_5, x87_5, rfl, hT, (1), ⟨by omega, by omega⟩, (fun _ => ⟨ki, ⟨by omega, by omega⟩, by rw [← ch_3, ← ch_5]; omega⟩), (by omega), rfl⟩
  · refine ezw_iconst (0) rfl rfl ?_
    exact ezw_ireturn rfl (ezw_zret ⟨by omega, by omega⟩) ⟨r86, r87, rfl, hT, (0), ⟨by omega, by omega⟩, (by omega), (fun _ hz => by have h9 := p1_1 (by omega); have h8 := hz.1; omega), rfl⟩
def ezm_m279_v0nQ (e : Bool × Bool) (F : Nat → Nat → Int) (A : Nat → Int → Int) (i0 i2 i3 i7 i8 i13 i18 i19 i20 i25 i29 i30 i31 i36 i37 i38 : Int) (r73 r74 r75 r76 r77 r78 r79 r80 r81 r82 r83 r84 r85 r86 r87 r88 r89 r90 r91 r92 r93 r94 r95 : Int → Int) (z : ezp_D) (w : ezn_N) : Option ezq_V → (Nat → ezq_C) → Prop := fun v g' => ezm_h e F A i0 i2 i3 i7 i8 i13 i18 i19 i20 i25 i29 i30 i31 i36 i37 i38 r73 r74 r75 r76 r77 r78 r79 r80 r81 r82 r83 r84 r85 r86 r87 r88 r89 r90 r91 r92 r93 r94 r95 = g' ∧ ∃ u : Int, (0 ≤ u ∧ u ≤ 1) ∧ (u = 1 → ezn_cS w) ∧ (u = 0 → ¬ ezn_cS w) ∧ some (ezw_i u) = v
theorem ezm_m279_v0n {z : ezp_D} {w : ezn_N} (hT : ezm_T i0 i2 i3 i7 i8 i13 i18 i19 i20 i25 i29 i30 i31 i36 i37 i38 r73 r74 r75 r76 r77 r78 r79 r80 r81 r82 r83 r84 r85 r86 r87 r88 r89 r90 r91 r92 r93 r94 r95) (hd : 1 ≤ d) (nw : ezn_NW z w 0 r88) (wb : ezn_B z w) (hB : ezp_B z) : ezw_C l ρ B xa Hb D cA 279 d [ezw_p 72, ezw_i (0)] (ezm_h e F A i0 i2 i3 i7 i8 i13 i18 i19 i20 i25 i29 i30 i31 i36 i37 i38 r73 r74 r75 r76 r77 r78 r79 r80 r81 r82 r83 r84 r85 r86 r87 r88 r89 r90 r91 r92 r93 r94 r95) (ezm_m279_v0nQ  e F A i0 i2 i3 i7 i8 i13 i18 i19 i20 i25 i29 i30 i31 i36 i37 i38 r73 r74 r75 r76 r77 r78 r79 r80 r81 r82 r83 r84 r85 r86 r87 r88 r89 r90 r91 r92 r93 r94 r95 z w) := by
  refine ezw_met (k := 0) rfl rfl ?_
  obtain ⟨n0, n1, n2, n3, n4, n5, n6, n7⟩ := (ezn_NW_i 0 1 7 15 16 17 18 19 (by decide) (by decide) (by decide) (by decide) (by decide) (by decide) (by decide)).mp nw
  obtain ⟨⟨x0, x1⟩, x2, x3, x4, x5, x6, x7, x8, x9, x10, x11, x12⟩ := id wb
  have xc := ezn_cn_r x0 x1
  have hT8 := hB.2.2.2.2.2.2.2.2
  refine ezw_aload_n rfl rfl ?_
  refine ezw_iload_n rfl rfl ?_
  refine ezw_call0_1 rfl (by omega) (ezm_at rfl) rfl rfl rfl rfl (ezm_m266_v0 hT (by omega)) ?_
  rintro _ _ ⟨rfl, u2, hu2, p1_0, p1_1, rfl⟩
  refine ezw_if_eq rfl rfl ⟨by omega, by omega⟩ (fun h5_2 => ?_) (fun h5_2 => ?_)
  · refine ezw_iconst (0) rfl rfl ?_
    exact ezw_ireturn rfl (ezw_zret ⟨by omega, by omega⟩) ⟨rfl, (0), ⟨by omega, by omega⟩, (by omega), (fun _ hz => by have h9 := p1_1 (by omega); have h8 := hz.1; omega), rfl⟩
  · have ki : w.ki = 0 := by have h9 := p1_0 (by omega); omega
    have hla := ezn_la_r hB wb ki
    refine ezw_aload_n rfl rfl ?_
    refine ezm_gp (p := 88) rfl (fun _ => rfl) ?_
    refine ezw_iload_n rfl rfl ?_
    refine ezw_bipush (7) rfl rfl ?_
    refine ezw_iadd (k := (7)) rfl (by omega) ?_
    refine ezw_aload_n rfl rfl ?_
    refine ezw_iload_n rfl rfl ?_
    refine ezw_call0_1 rfl (by omega) (ezm_at rfl) rfl rfl rfl rfl (ezm_m268_v0n hT (by omega) nw wb ki) ?_
    rintro _ _ ⟨rfl, u4, hu4, la_3, rfl⟩
    have hl2 := la_3
    refine ezw_iadd (k := u4 + 7) rfl (by omega) ?_
    refine ezm_l88 rfl (by omega) (by omega) (fun u5 eu5 => ?_)
    have ku5 : ezm_k88 (u4 + 7) u5 := eu5 ▸ hT.t88 (u4 + 7)
    have zu5 := ezm_zs7 ku5 (by omega)
    have hti : u5 = w.ti := by
      have h9 := n2 (ezn_la z w) (by omega) (by omega)
      rw [if_pos rfl] at h9
      rw [eu5, ← h9]
      congr 1
      omega
    refine ezw_if_le rfl rfl (ezm_in88 ku5) (fun h23_5 => ?_) (fun h23_5 => ?_)
    · refine ezw_iconst (0) rfl rfl ?_
      exact ezw_ireturn rfl (ezw_zret ⟨by omega, by omega⟩) ⟨rfl, (0), ⟨by omega, by omega⟩, (by omega), (fun _ hz => by have h8 := hz.2; omega), rfl⟩
    · refine ezw_iconst (1) rfl rfl ?_
      refine ezw_goto rfl rfl ?_
      exact ezw_ireturn rfl (ezw_zret ⟨by omega, by omega⟩) ⟨rfl, (1), ⟨by omega, by omega⟩, (fun _ => ⟨ki, by omega⟩), (by omega), rfl⟩
def ezm_m281_v0nQ (e : Bool × Bool) (F : Nat → Nat → Int) (A : Nat → Int → Int) (i0 i2 i3 i7 i8 i13 i18 i19 i20 i25 i29 i30 i31 i36 i37 i38 : Int) (r73 r74 r75 r76 r77 r78 r79 r80 r81 r82 r83 r84 r85 r86 r87 r88 r89 r90 r91 r92 r93 r94 r95 : Int → Int) (z : ezp_D) (w : ezn_N) : Option ezq_V → (Nat → ezq_C) → Prop := fun v g' => ezm_h e F A i0 i2 i3 i7 i8 i13 i18 i19 i20 i25 i29 i30 i31 i36 i37 i38 r73 r74 r75 r76 r77 r78 r79 r80 r81 r82 r83 r84 r85 r86 r87 r88 r89 r90 r91 r92 r93 r94 r95 = g' ∧ ∃ u : Int, (0 ≤ u ∧ u ≤ 1) ∧ (u = 1 → ezn_cL z w) ∧ (u = 0 → ¬ ezn_cL z w) ∧ some (ezw_i u) = v
theorem ezm_m281_v0n {z : ezp_D} {w : ezn_N} (hT : ezm_T i0 i2 i3 i7 i8 i13 i18 i19 i20 i25 i29 i30 i31 i36 i37 i38 r73 r74 r75 r76 r77 r78 r79 r80 r81 r82 r83 r84 r85 r86 r87 r88 r89 r90 r91 r92 r93 r94 r95) (hd : 1 ≤ d) (nw : ezn_NW z w 0 r88) (wb : ezn_B z w) (tf : ezm_TRF z i18 r78 r81 r83) (hB : ezp_B z) : ezw_C l ρ B xa Hb D cA 281 d [ezw_p 72, ezw_i (0)] (ezm_h e F A i0 i2 i3 i7 i8 i13 i18 i19 i20 i25 i29 i30 i31 i36 i37 i38 r73 r74 r75 r76 r77 r78 r79 r80 r81 r82 r83 r84 r85 r86 r87 r88 r89 r90 r91 r92 r93 r94 r95) (ezm_m281_v0nQ  e F A i0 i2 i3 i7 i8 i13 i18 i19 i20 i25 i29 i30 i31 i36 i37 i38 r73 r74 r75 r76 r77 r78 r79 r80 r81 r82 r83 r84 r85 r86 r87 r88 r89 r90 r91 r92 r93 r94 r95 z w) := by
  refine ezw_met (k := 0) rfl rfl ?_
  obtain ⟨⟨k0, k1, k2, k3⟩, ktw, kth, kov, ksg, kel, knu, knm⟩ := ezm_TRFi tf
  obtain ⟨b1, b2, b3, b4, b5, b6, b7, ⟨b8, b8'⟩, b9⟩ := id hB
  have n5 : r78 9 = z.nu 5 := knu 5 (by decide) (by decide)
  have nb5 : 0 ≤ z.nu 5 ∧ z.nu 5 ≤ 10 := b8 5 (by decide) (by decide)
  obtain ⟨n0, n1, n2, n3, n4, n5, n6, n7⟩ := (ezn_NW_i 0 1 7 15 16 17 18 19 (by decide) (by decide) (by decide) (by decide) (by decide) (by decide) (by decide)).mp nw
  obtain ⟨⟨x0, x1⟩, x2, x3, x4, x5, x6, x7, x8, x9, x10, x11, x12⟩ := id wb
  have xc := ezn_cn_r x0 x1
  refine ezw_aload_n rfl rfl ?_
  refine ezw_iload_n rfl rfl ?_
  refine ezw_call0_1 rfl (by omega) (ezm_at rfl) rfl rfl rfl rfl (ezm_m266_v0 hT (by omega)) ?_
  rintro _ _ ⟨rfl, u2, hu2, p1_0, p1_1, rfl⟩
  refine ezw_if_eq rfl rfl ⟨by omega, by omega⟩ (fun h5_2 => ?_) (fun h5_2 => ?_)
  · refine ezw_iconst (0) rfl rfl ?_
    exact ezw_ireturn rfl (ezw_zret ⟨by omega, by omega⟩) ⟨rfl, (0), ⟨by omega, by omega⟩, (by omega), (fun _ hz => by have h9 := p1_1 (by omega); have h8 := hz.1; omega), rfl⟩
  · have ki : w.ki = 0 := by have h9 := p1_0 (by omega); omega
    have hla := ezn_la_r hB wb ki
    refine ezw_aload_n rfl rfl ?_
    refine ezm_gp (p := 88) rfl (fun _ => rfl) ?_
    refine ezw_iload_n rfl rfl ?_
    refine ezw_bipush (16) rfl rfl ?_
    refine ezw_iadd (k := (16)) rfl (by omega) ?_
    refine ezm_l88 rfl (by omega) (by omega) (fun u3 eu3 => ?_)
    have ku3 : ezm_k88 (16) u3 := eu3 ▸ hT.t88 (16)
    refine ezw_aload_n rfl rfl ?_
    refine ezw_aload_n rfl rfl ?_
    refine ezw_iload_n rfl rfl ?_
    refine ezw_call0_1 rfl (by omega) (ezm_at rfl) rfl rfl rfl rfl (ezm_m268_v0n hT (by omega) nw wb ki) ?_
    rintro _ _ ⟨rfl, u5, hu5, la_4, rfl⟩
    have hl1 := la_4
    refine ezw_iconst (2) rfl rfl ?_
    refine ezw_call0_2 rfl (by omega) (ezm_at rfl) rfl rfl rfl rfl (ezm_m259_v2a hT (by omega) hu5 (by omega)) ?_
    rintro _ _ ⟨rfl, u7, hu7, tw_6, rfl⟩
    have hsi : u7 = z.si (ezn_la z w) := by
      rw [tw_6, show u5 = ezn_la z w by omega]
      exact (ktw _ hla.1 hla.2).2.2.1
    refine ezw_icmp_ne rfl rfl (ezm_in88 ku3) hu7 (fun h27_7 => ?_) (fun h27_7 => ?_)
    · refine ezw_iconst (0) rfl rfl ?_
      exact ezw_ireturn rfl (ezw_zret ⟨by omega, by omega⟩) ⟨rfl, (0), ⟨by omega, by omega⟩, (by omega), (fun _ hz => by
            obtain ⟨y1, y2, y3, y4⟩ := hz
            omega), rfl⟩
    · refine ezw_aload_n rfl rfl ?_
      refine ezm_gp (p := 88) rfl (fun _ => rfl) ?_
      refine ezw_iload_n rfl rfl ?_
      refine ezw_bipush (7) rfl rfl ?_
      refine ezw_iadd (k := (7)) rfl (by omega) ?_
      refine ezw_aload_n rfl rfl ?_
      refine ezw_iload_n rfl rfl ?_
      refine ezw_call0_1 rfl (by omega) (ezm_at rfl) rfl rfl rfl rfl (ezm_m268_v0n hT (by omega) nw wb ki) ?_
      rintro _ _ ⟨rfl, u9, hu9, la_8, rfl⟩
      have hl3 := la_8
      refine ezw_iadd (k := u9 + 7) rfl (by omega) ?_
      refine ezm_l88 rfl (by omega) (by omega) (fun u10 eu10 => ?_)
      have ku10 : ezm_k88 (u9 + 7) u10 := eu10 ▸ hT.t88 (u9 + 7)
      have zu10 := ezm_zs7 ku10 (by omega)
      have hti : u10 = w.ti := by
        have h9 := n2 (ezn_la z w) (by omega) (by omega)
        rw [if_pos rfl] at h9
        rw [eu10, ← h9]
        congr 1
        omega
      refine ezw_if_ne rfl rfl (ezm_in88 ku10) (fun h45_10 => ?_) (fun h45_10 => ?_)
      · refine ezw_iconst (0) rfl rfl ?_
        exact ezw_ireturn rfl (ezw_zret ⟨by omega, by omega⟩) ⟨rfl, (0), ⟨by omega, by omega⟩, (by omega), (fun _ hz => by
              obtain ⟨y1, y2, y3, y4⟩ := hz
              omega), rfl⟩
      · refine ezw_aload_n rfl rfl ?_
        refine ezm_gp (p := 78) rfl (fun _ => rfl) ?_
        refine ezw_bipush (9) rfl rfl ?_
        refine ezm_l78 rfl (by omega) (by omega) (fun u11 eu11 => ?_)
        have ku11 : ezm_k78 (9) u11 := eu11 ▸ hT.t78 (9)
        refine ezw_if_le rfl rfl (ezm_in78 ku11) (fun h55_11 => ?_) (fun h55_11 => ?_)
        · refine ezw_iconst (0) rfl rfl ?_
          exact ezw_ireturn rfl (ezw_zret ⟨by omega, by omega⟩) ⟨rfl, (0), ⟨by omega, by omega⟩, (by omega), (fun _ hz => by
                obtain ⟨y1, y2, y3, y4⟩ := hz
                omega), rfl⟩
        · refine ezw_iconst (1) rfl rfl ?_
          refine ezw_goto rfl rfl ?_
          exact ezw_ireturn rfl (ezw_zret ⟨by omega, by omega⟩) ⟨rfl, (1), ⟨by omega, by omega⟩, (fun _ => ⟨ki, by omega, by omega, by omega⟩), (by omega), rfl⟩
def ezm_m262nQ (e : Bool × Bool) (F : Nat → Nat → Int) (A : Nat → Int → Int) (i0 i2 i3 i7 i8 i13 i18 i19 i20 i25 i29 i30 i31 i36 i37 i38 : Int) (r73 r74 r75 r76 r77 r78 r79 r80 r81 r82 r83 r84 r85 r86 r87 r88 r89 r90 r91 r92 r93 r94 r95 : Int → Int) (a1 : Int) : Option ezq_V → (Nat → ezq_C) → Prop := fun v g' => ezm_h e F A i0 i2 i3 i7 i8 i13 i18 i19 i20 i25 i29 i30 i31 i36 i37 i38 r73 r74 r75 r76 r77 r78 r79 r80 r81 r82 r83 r84 r85 r86 r87 r88 r89 r90 r91 r92 r93 r94 r95 = g' ∧ ∃ u : Int, (0 ≤ u ∧ u ≤ 1) ∧ (u = 1 → 0 ≤ a1 ∧ a1 < r78 1 ∧ a1 ≤ 3) ∧ (u = 0 → a1 < 0 ∨ r78 1 ≤ a1) ∧ some (ezw_i u) = v
theorem ezm_m262n {a1 : Int} (hT : ezm_T i0 i2 i3 i7 i8 i13 i18 i19 i20 i25 i29 i30 i31 i36 i37 i38 r73 r74 r75 r76 r77 r78 r79 r80 r81 r82 r83 r84 r85 r86 r87 r88 r89 r90 r91 r92 r93 r94 r95) (hd : 1 ≤ d) (ha1 : ezw_in a1) : ezw_C l ρ B xa Hb D cA 262 d [ezw_p 72, ezw_i a1] (ezm_h e F A i0 i2 i3 i7 i8 i13 i18 i19 i20 i25 i29 i30 i31 i36 i37 i38 r73 r74 r75 r76 r77 r78 r79 r80 r81 r82 r83 r84 r85 r86 r87 r88 r89 r90 r91 r92 r93 r94 r95) (ezm_m262nQ  e F A i0 i2 i3 i7 i8 i13 i18 i19 i20 i25 i29 i30 i31 i36 i37 i38 r73 r74 r75 r76 r77 r78 r79 r80 r81 r82 r83 r84 r85 r86 r87 r88 r89 r90 r91 r92 r93 r94 r95 a1) := by
  refine ezw_met (k := 0) rfl rfl ?_
  refine ezw_iload_n rfl rfl ?_
  refine ezw_if_lt rfl rfl ha1 (fun h1_0 => ?_) (fun h1_0 => ?_)
  · refine ezw_iconst (0) rfl rfl ?_
    exact ezw_ireturn rfl (ezw_zret ⟨by omega, by omega⟩) ⟨rfl, (0), ⟨by omega, by omega⟩, by omega, by omega, rfl⟩
  · refine ezw_iload_n rfl rfl ?_
    refine ezw_aload_n rfl rfl ?_
    refine ezw_call0_0 rfl (by omega) (ezm_at rfl) rfl rfl rfl rfl (ezm_m216 hT (by omega)) ?_
    rintro _ _ ⟨rfl, u2, hu2, p1_0, p1_1, rfl⟩
    refine ezw_icmp_ge rfl rfl ha1 hu2 (fun h9_2 => ?_) (fun h9_2 => ?_)
    · refine ezw_iconst (0) rfl rfl ?_
      exact ezw_ireturn rfl (ezw_zret ⟨by omega, by omega⟩) ⟨rfl, (0), ⟨by omega, by omega⟩, by omega, by omega, rfl⟩
    · refine ezw_iconst (1) rfl rfl ?_
      refine ezw_goto rfl rfl ?_
      exact ezw_ireturn rfl (ezw_zret ⟨by omega, by omega⟩) ⟨rfl, (1), ⟨by omega, by omega⟩, by omega, by omega, rfl⟩
def ezm_m263nQ (e : Bool × Bool) (F : Nat → Nat → Int) (A : Nat → Int → Int) (i0 i2 i3 i7 i8 i13 i18 i19 i20 i25 i29 i30 i31 i36 i37 i38 : Int) (r73 r74 r75 r76 r77 r78 r79 r80 r81 r82 r83 r84 r85 r86 r87 r88 r89 r90 r91 r92 r93 r94 r95 : Int → Int) (a1 : Int) (a2 : Int) : Option ezq_V → (Nat → ezq_C) → Prop := fun v g' => ezm_h e F A i0 i2 i3 i7 i8 i13 i18 i19 i20 i25 i29 i30 i31 i36 i37 i38 r73 r74 r75 r76 r77 r78 r79 r80 r81 r82 r83 r84 r85 r86 r87 r88 r89 r90 r91 r92 r93 r94 r95 = g' ∧ ∃ u : Int, (ezw_in u) ∧ (u = r78 (4 * a1 + 49 + a2)) ∧ some (ezw_i u) = v
theorem ezm_m263n {a1 a2 : Int} (hT : ezm_T i0 i2 i3 i7 i8 i13 i18 i19 i20 i25 i29 i30 i31 i36 i37 i38 r73 r74 r75 r76 r77 r78 r79 r80 r81 r82 r83 r84 r85 r86 r87 r88 r89 r90 r91 r92 r93 r94 r95) (hd : 0 ≤ d) (ha1 : ezw_in a1) (ha2 : ezw_in a2) (ga : 0 ≤ a1 ∧ a1 ≤ 7) (gb : 0 ≤ a2 ∧ a2 ≤ 7) : ezw_C l ρ B xa Hb D cA 263 d [ezw_p 72, ezw_i a1, ezw_i a2] (ezm_h e F A i0 i2 i3 i7 i8 i13 i18 i19 i20 i25 i29 i30 i31 i36 i37 i38 r73 r74 r75 r76 r77 r78 r79 r80 r81 r82 r83 r84 r85 r86 r87 r88 r89 r90 r91 r92 r93 r94 r95) (ezm_m263nQ  e F A i0 i2 i3 i7 i8 i13 i18 i19 i20 i25 i29 i30 i31 i36 i37 i38 r73 r74 r75 r76 r77 r78 r79 r80 r81 r82 r83 r84 r85 r86 r87 r88 r89 r90 r91 r92 r93 r94 r95 a1 a2) := by
  refine ezw_met (k := 0) rfl rfl ?_
  refine ezw_aload_n rfl rfl ?_
  refine ezm_gp (p := 78) rfl (fun _ => rfl) ?_
  refine ezw_bipush (49) rfl rfl ?_
  refine ezw_iconst (4) rfl rfl ?_
  refine ezw_iload_n rfl rfl ?_
  refine ezw_imul (k := 4 * a1) rfl (by omega) ?_
  refine ezw_iadd (k := 4 * a1 + 49) rfl (by omega) ?_
  refine ezw_iload_n rfl rfl ?_
  refine ezw_iadd (k := 4 * a1 + a2 + 49) rfl (by omega) ?_
  refine ezm_l78 rfl (by omega) (by omega) (fun u1 eu1 => ?_)
  have ku1 : ezm_k78 (4 * a1 + a2 + 49) u1 := eu1 ▸ hT.t78 (4 * a1 + a2 + 49)
  exact ezw_ireturn rfl rfl ⟨rfl, u1, (ezm_in78 ku1), (by rw [eu1]; congr 1; omega), rfl⟩
def ezm_m263_v1nQ (e : Bool × Bool) (F : Nat → Nat → Int) (A : Nat → Int → Int) (i0 i2 i3 i7 i8 i13 i18 i19 i20 i25 i29 i30 i31 i36 i37 i38 : Int) (r73 r74 r75 r76 r77 r78 r79 r80 r81 r82 r83 r84 r85 r86 r87 r88 r89 r90 r91 r92 r93 r94 r95 : Int → Int) (a1 : Int) : Option ezq_V → (Nat → ezq_C) → Prop := fun v g' => ezm_h e F A i0 i2 i3 i7 i8 i13 i18 i19 i20 i25 i29 i30 i31 i36 i37 i38 r73 r74 r75 r76 r77 r78 r79 r80 r81 r82 r83 r84 r85 r86 r87 r88 r89 r90 r91 r92 r93 r94 r95 = g' ∧ ∃ u : Int, (ezw_in u) ∧ (u = r78 (4 * a1 + 50)) ∧ some (ezw_i u) = v
theorem ezm_m263_v1n {a1 : Int} (hT : ezm_T i0 i2 i3 i7 i8 i13 i18 i19 i20 i25 i29 i30 i31 i36 i37 i38 r73 r74 r75 r76 r77 r78 r79 r80 r81 r82 r83 r84 r85 r86 r87 r88 r89 r90 r91 r92 r93 r94 r95) (hd : 0 ≤ d) (ha1 : ezw_in a1) (ga : 0 ≤ a1 ∧ a1 ≤ 7) : ezw_C l ρ B xa Hb D cA 263 d [ezw_p 72, ezw_i a1, ezw_i (1)] (ezm_h e F A i0 i2 i3 i7 i8 i13 i18 i19 i20 i25 i29 i30 i31 i36 i37 i38 r73 r74 r75 r76 r77 r78 r79 r80 r81 r82 r83 r84 r85 r86 r87 r88 r89 r90 r91 r92 r93 r94 r95) (ezm_m263_v1nQ  e F A i0 i2 i3 i7 i8 i13 i18 i19 i20 i25 i29 i30 i31 i36 i37 i38 r73 r74 r75 r76 r77 r78 r79 r80 r81 r82 r83 r84 r85 r86 r87 r88 r89 r90 r91 r92 r93 r94 r95 a1) := by
  refine ezw_met (k := 0) rfl rfl ?_
  refine ezw_aload_n rfl rfl ?_
  refine ezm_gp (p := 78) rfl (fun _ => rfl) ?_
  refine ezw_bipush (49) rfl rfl ?_
  refine ezw_iconst (4) rfl rfl ?_
  refine ezw_iload_n rfl rfl ?_
  refine ezw_imul (k := 4 * a1) rfl (by omega) ?_
  refine ezw_iadd (k := 4 * a1 + 49) rfl (by omega) ?_
  refine ezw_iload_n rfl rfl ?_
  refine ezw_iadd (k := 4 * a1 + 50) rfl (by omega) ?_
  refine ezm_l78 rfl (by omega) (by omega) (fun u1 eu1 => ?_)
  have ku1 : ezm_k78 (4 * a1 + 50) u1 := eu1 ▸ hT.t78 (4 * a1 + 50)
  exact ezw_ireturn rfl rfl ⟨rfl, u1, (ezm_in78 ku1), eu1, rfl⟩
def ezm_m263_v2nQ (e : Bool × Bool) (F : Nat → Nat → Int) (A : Nat → Int → Int) (i0 i2 i3 i7 i8 i13 i18 i19 i20 i25 i29 i30 i31 i36 i37 i38 : Int) (r73 r74 r75 r76 r77 r78 r79 r80 r81 r82 r83 r84 r85 r86 r87 r88 r89 r90 r91 r92 r93 r94 r95 : Int → Int) (a1 : Int) : Option ezq_V → (Nat → ezq_C) → Prop := fun v g' => ezm_h e F A i0 i2 i3 i7 i8 i13 i18 i19 i20 i25 i29 i30 i31 i36 i37 i38 r73 r74 r75 r76 r77 r78 r79 r80 r81 r82 r83 r84 r85 r86 r87 r88 r89 r90 r91 r92 r93 r94 r95 = g' ∧ ∃ u : Int, (ezw_in u) ∧ (u = r78 (4 * a1 + 51)) ∧ some (ezw_i u) = v
theorem ezm_m263_v2n {a1 : Int} (hT : ezm_T i0 i2 i3 i7 i8 i13 i18 i19 i20 i25 i29 i30 i31 i36 i37 i38 r73 r74 r75 r76 r77 r78 r79 r80 r81 r82 r83 r84 r85 r86 r87 r88 r89 r90 r91 r92 r93 r94 r95) (hd : 0 ≤ d) (ha1 : ezw_in a1) (ga : 0 ≤ a1 ∧ a1 ≤ 7) : ezw_C l ρ B xa Hb D cA 263 d [ezw_p 72, ezw_i a1, ezw_i (2)] (ezm_h e F A i0 i2 i3 i7 i8 i13 i18 i19 i20 i25 i29 i30 i31 i36 i37 i38 r73 r74 r75 r76 r77 r78 r79 r80 r81 r82 r83 r84 r85 r86 r87 r88 r89 r90 r91 r92 r93 r94 r95) (ezm_m263_v2nQ  e F A i0 i2 i3 i7 i8 i13 i18 i19 i20 i25 i29 i30 i31 i36 i37 i38 r73 r74 r75 r76 r77 r78 r79 r80 r81 r82 r83 r84 r85 r86 r87 r88 r89 r90 r91 r92 r93 r94 r95 a1) := by
  refine ezw_met (k := 0) rfl rfl ?_
  refine ezw_aload_n rfl rfl ?_
  refine ezm_gp (p := 78) rfl (fun _ => rfl) ?_
  refine ezw_bipush (49) rfl rfl ?_
  refine ezw_iconst (4) rfl rfl ?_
  refine ezw_iload_n rfl rfl ?_
  refine ezw_imul (k := 4 * a1) rfl (by omega) ?_
  refine ezw_iadd (k := 4 * a1 + 49) rfl (by omega) ?_
  refine ezw_iload_n rfl rfl ?_
  refine ezw_iadd (k := 4 * a1 + 51) rfl (by omega) ?_
  refine ezm_l78 rfl (by omega) (by omega) (fun u1 eu1 => ?_)
  have ku1 : ezm_k78 (4 * a1 + 51) u1 := eu1 ▸ hT.t78 (4 * a1 + 51)
  exact ezw_ireturn rfl rfl ⟨rfl, u1, (ezm_in78 ku1), eu1, rfl⟩
def ezm_m283_v0nQ (e : Bool × Bool) (F : Nat → Nat → Int) (A : Nat → Int → Int) (i0 i2 i3 i7 i8 i13 i18 i19 i20 i25 i29 i30 i31 i36 i37 i38 : Int) (r73 r74 r75 r76 r77 r78 r79 r80 r81 r82 r83 r84 r85 r86 r87 r88 r89 r90 r91 r92 r93 r94 r95 : Int → Int) (z : ezp_D) (w : ezn_N) (a2 : Int) (a3 : Int) : Option ezq_V → (Nat → ezq_C) → Prop := fun v g' => ezm_h e F A i0 i2 i3 i7 i8 i13 i18 i19 i20 i25 i29 i30 i31 i36 i37 i38 r73 r74 r75 r76 r77 r78 r79 r80 r81 r82 r83 r84 r85 r86 r87 r88 r89 r90 r91 r92 r93 r94 r95 = g' ∧ ∃ u : Int, (0 ≤ u ∧ u ≤ 1) ∧ (u = 1 → ezn_cH z w a2 a3) ∧ (u = 0 → ¬ ezn_cH z w a2 a3) ∧ some (ezw_i u) = v
theorem ezm_m283_v0n {z : ezp_D} {w : ezn_N} {a2 a3 : Int} (hT : ezm_T i0 i2 i3 i7 i8 i13 i18 i19 i20 i25 i29 i30 i31 i36 i37 i38 r73 r74 r75 r76 r77 r78 r79 r80 r81 r82 r83 r84 r85 r86 r87 r88 r89 r90 r91 r92 r93 r94 r95) (hd : 1 ≤ d) (ha2 : ezw_in a2) (ha3 : ezw_in a3) (ga : 0 ≤ a2 ∧ a2 < z.kH ∧ 0 ≤ a3 ∧ a3 ≤ 2) (nw : ezn_NW z w 0 r88) (wb : ezn_B z w) (tf : ezm_TRF z i18 r78 r81 r83) (hB : ezp_B z) : ezw_C l ρ B xa Hb D cA 283 d [ezw_p 72, ezw_i (0), ezw_i a2, ezw_i a3] (ezm_h e F A i0 i2 i3 i7 i8 i13 i18 i19 i20 i25 i29 i30 i31 i36 i37 i38 r73 r74 r75 r76 r77 r78 r79 r80 r81 r82 r83 r84 r85 r86 r87 r88 r89 r90 r91 r92 r93 r94 r95) (ezm_m283_v0nQ  e F A i0 i2 i3 i7 i8 i13 i18 i19 i20 i25 i29 i30 i31 i36 i37 i38 r73 r74 r75 r76 r77 r78 r79 r80 r81 r82 r83 r84 r85 r86 r87 r88 r89 r90 r91 r92 r93 r94 r95 z w a2 a3) := by
  refine ezw_met (k := 1) rfl rfl ?_
  obtain ⟨⟨k0, k1, k2, k3⟩, ktw, kth, kov, ksg, kel, knu, knm⟩ := ezm_TRFi tf
  obtain ⟨b1, b2, b3, b4, b5, b6, b7, ⟨b8, b8'⟩, b9⟩ := id hB
  obtain ⟨n0, n1, n2, n3, n4, n5, n6, n7⟩ := (ezn_NW_i 0 1 7 15 16 17 18 19 (by decide) (by decide) (by decide) (by decide) (by decide) (by decide) (by decide)).mp nw
  obtain ⟨⟨x0, x1⟩, x2, x3, x4, x5, x6, x7, x8, x9, x10, x11, x12⟩ := id wb
  have xc := ezn_cn_r x0 x1
  have gth := kth a2 (by omega) (by omega)
  refine ezw_iload_n rfl rfl ?_
  have J29_2 : ∀ y1 : Int, ezw_in y1 → ((a3 = 0 ∧ y1 = 10 - z.st a2 - z.fr a2 ∨ a3 = 1 ∧ y1 = z.st a2 ∨ a3 = 2 ∧ y1 = z.fr a2)) → ezw_E l ρ B xa Hb D cA d ezq_re283 (ezm_m283_v0nQ  e F A i0 i2 i3 i7 i8 i13 i18 i19 i20 i25 i29 i30 i31 i36 i37 i38 r73 r74 r75 r76 r77 r78 r79 r80 r81 r82 r83 r84 r85 r86 r87 r88 r89 r90 r91 r92 r93 r94 r95 z w a2 a3) 29 [some (ezw_p 72), some (ezw_i (0)), some (ezw_i a2), some (ezw_i a3), none] [ezw_i y1] (ezm_h e F A i0 i2 i3 i7 i8 i13 i18 i19 i20 i25 i29 i30 i31 i36 i37 i38 r73 r74 r75 r76 r77 r78 r79 r80 r81 r82 r83 r84 r85 r86 r87 r88 r89 r90 r91 r92 r93 r94 r95) := by
    intro y1 hy1 v_2
    refine ezw_istore rfl rfl ?_
    refine ezw_aload_n rfl rfl ?_
    refine ezw_iload_n rfl rfl ?_
    refine ezw_call0_1 rfl (by omega) (ezm_at rfl) rfl rfl rfl rfl (ezm_m266_v0 hT (by omega)) ?_
    rintro _ _ ⟨rfl, u4, hu4, p3_0, p3_1, rfl⟩
    refine ezw_if_eq rfl rfl ⟨by omega, by omega⟩ (fun h36_4 => ?_) (fun h36_4 => ?_)
    · refine ezw_iconst (0) rfl rfl ?_
      exact ezw_ireturn rfl (ezw_zret ⟨by omega, by omega⟩) ⟨rfl, (0), ⟨by omega, by omega⟩, (by omega), (fun _ hz => by have h9 := p3_1 (by omega); have h8 := hz.1; omega), rfl⟩
    · have ki : w.ki = 0 := by have h9 := p3_0 (by omega); omega
      refine ezw_aload_n rfl rfl ?_
      refine ezm_gp (p := 88) rfl (fun _ => rfl) ?_
      refine ezw_iload_n rfl rfl ?_
      refine ezw_bipush (19) rfl rfl ?_
      refine ezw_iadd (k := (19)) rfl (by omega) ?_
      refine ezm_l88 rfl (by omega) (by omega) (fun u5 eu5 => ?_)
      have ku5 : ezm_k88 (19) u5 := eu5 ▸ hT.t88 (19)
      have zu5 := ezm_zs19 ku5 (by omega)
      refine ezw_iload_n rfl rfl ?_
      refine ezw_ishr rfl (ezm_in88 ku5) (by omega) (by omega) (k := (u5 / 2 ^ (a2).toNat)) (rfl) ?_
      refine ezw_iconst (1) rfl rfl ?_
      refine ezw_iand rfl (k := ezw_and ((u5 / 2 ^ (a2).toNat)) 1) rfl ?_
      have hbt : (ezw_and ((u5 / 2 ^ (a2).toNat)) 1) = 1 ↔ ezt_b w.ha a2 = 1 := by
        rw [ezt_and1]
        unfold ezt_b
        rw [show u5 = w.ha by omega]
      refine ezw_iconst (1) rfl rfl ?_
      refine ezw_icmp_ne rfl rfl (by rw [ezt_and1]; exact ⟨by omega, by omega⟩) ⟨by decide, by decide⟩ (fun h53_5 => ?_) (fun h53_5 => ?_)
      · refine ezw_iconst (0) rfl rfl ?_
        exact ezw_ireturn rfl (ezw_zret ⟨by omega, by omega⟩) ⟨rfl, (0), ⟨by omega, by omega⟩, (by omega), (fun _ hz => by
              obtain ⟨y1, ⟨y2, y3, y4⟩, y5⟩ := hz
              have y6 := hbt.mpr y4
              rcases v_2 with y | y | y <;> omega), rfl⟩
      · refine ezw_iload rfl rfl ?_
        refine ezw_if_le rfl rfl hy1 (fun h58_5 => ?_) (fun h58_5 => ?_)
        · refine ezw_iconst (0) rfl rfl ?_
          exact ezw_ireturn rfl (ezw_zret ⟨by omega, by omega⟩) ⟨rfl, (0), ⟨by omega, by omega⟩, (by omega), (fun _ hz => by
                obtain ⟨y1, ⟨y2, y3, y4⟩, y5⟩ := hz
                have y6 := hbt.mpr y4
                rcases v_2 with y | y | y <;> omega), rfl⟩
        · refine ezw_iconst (1) rfl rfl ?_
          refine ezw_goto rfl rfl ?_
          exact ezw_ireturn rfl (ezw_zret ⟨by omega, by omega⟩) ⟨rfl, (1), ⟨by omega, by omega⟩, (fun _ => ⟨ki, ⟨by omega, by omega, hbt.mp (by omega)⟩, by rcases v_2 with y | y | y <;> omega⟩), (by omega), rfl⟩
  refine ezw_if_ne rfl rfl ha3 (fun h1_0 => ?_) (fun h1_0 => ?_)
  · refine ezw_aload_n rfl rfl ?_
    refine ezw_iload_n rfl rfl ?_
    refine ezw_iload_n rfl rfl ?_
    refine ezw_call0_2 rfl (by omega) (ezm_at rfl) rfl rfl rfl rfl (ezm_m263n hT (by omega) ha2 ha3 (by omega) (by omega)) ?_
    rintro _ _ ⟨rfl, u7, hu7, th_6, rfl⟩
    exact ezw_keepE [true, true, true, true, false] (J29_2 u7 hu7 (by
          have h9 := th_6
          rcases (show a3 = 1 ∨ a3 = 2 by omega) with h3 | h3
          · refine Or.inr (Or.inl ⟨h3, ?_⟩)
            rw [h3] at h9
            rw [h9, ← gth.2.1]
            congr 1
            omega
          · refine Or.inr (Or.inr ⟨h3, ?_⟩)
            rw [h3] at h9
            rw [h9, ← gth.2.2]
            congr 1
            omega))
  · refine ezw_bipush (10) rfl rfl ?_
    refine ezw_aload_n rfl rfl ?_
    refine ezw_iload_n rfl rfl ?_
    refine ezw_iconst (1) rfl rfl ?_
    refine ezw_call0_2 rfl (by omega) (ezm_at rfl) rfl rfl rfl rfl (ezm_m263_v1n hT (by omega) ha2 (by omega)) ?_
    rintro _ _ ⟨rfl, u9, hu9, th_8, rfl⟩
    have qs : u9 = z.st a2 := by
      rw [th_8, ← gth.2.1]
    have gb2 := b2 a2 (by omega) (by omega)
    refine ezw_isub (k := -u9 + 10) rfl (by omega) ?_
    refine ezw_aload_n rfl rfl ?_
    refine ezw_iload_n rfl rfl ?_
    refine ezw_iconst (2) rfl rfl ?_
    refine ezw_call0_2 rfl (by omega) (ezm_at rfl) rfl rfl rfl rfl (ezm_m263_v2n hT (by omega) ha2 (by omega)) ?_
    rintro _ _ ⟨rfl, u11, hu11, th_10, rfl⟩
    have qf : u11 = z.fr a2 := by
      rw [th_10, ← gth.2.2]
    refine ezw_isub (k := -u9 - u11 + 10) rfl (by omega) ?_
    refine ezw_goto rfl rfl ?_
    exact ezw_keepE [true, true, true, true, false] (J29_2 (-u9 - u11 + 10) ⟨by omega, by omega⟩ (Or.inl ⟨by omega, by omega⟩))
def ezm_m284_v0nQ (e : Bool × Bool) (F : Nat → Nat → Int) (A : Nat → Int → Int) (i0 i2 i3 i7 i8 i13 i18 i19 i20 i25 i29 i30 i31 i36 i37 i38 : Int) (r73 r74 r75 r76 r77 r78 r79 r80 r81 r82 r83 r84 r85 r86 r87 r88 r89 r90 r91 r92 r93 r94 r95 : Int → Int) (z : ezp_D) (w : ezn_N) (a2 : Int) (a3 : Int) : Option ezq_V → (Nat → ezq_C) → Prop := fun v g' => ∃  (x88 : Int → Int), ezm_h e F A i0 i2 i3 i7 i8 i13 i18 i19 i20 i25 i29 i30 i31 i36 i37 i38 r73 r74 r75 r76 r77 r78 r79 r80 r81 r82 r83 r84 r85 r86 r87 x88 r89 r90 r91 r92 r93 r94 r95 = g' ∧ ezm_T i0 i2 i3 i7 i8 i13 i18 i19 i20 i25 i29 i30 i31 i36 i37 i38 r73 r74 r75 r76 r77 r78 r79 r80 r81 r82 r83 r84 r85 r86 r87 x88 r89 r90 r91 r92 r93 r94 r95 ∧ (∀ j, j < 0 ∨ 20 ≤ j → x88 j = r88 j) ∧ (ezn_NW z (ezn_tH w a2 a3) 0 x88) ∧ none = v
theorem ezm_m284_v0n {z : ezp_D} {w : ezn_N} {a2 a3 : Int} (hT : ezm_T i0 i2 i3 i7 i8 i13 i18 i19 i20 i25 i29 i30 i31 i36 i37 i38 r73 r74 r75 r76 r77 r78 r79 r80 r81 r82 r83 r84 r85 r86 r87 r88 r89 r90 r91 r92 r93 r94 r95) (hd : 1 ≤ d) (ha2 : ezw_in a2) (ha3 : ezw_in a3) (ga : 0 ≤ a2 ∧ a2 < z.kH ∧ 0 ≤ a3 ∧ a3 ≤ 2) (nw : ezn_NW z w 0 r88) (wb : ezn_B z w) (hB : ezp_B z) (ki : w.ki = 0) (hbt : ezt_b w.ha a2 = 1) : ezw_C l ρ B xa Hb D cA 284 d [ezw_p 72, ezw_i (0), ezw_i a2, ezw_i a3] (ezm_h e F A i0 i2 i3 i7 i8 i13 i18 i19 i20 i25 i29 i30 i31 i36 i37 i38 r73 r74 r75 r76 r77 r78 r79 r80 r81 r82 r83 r84 r85 r86 r87 r88 r89 r90 r91 r92 r93 r94 r95) (ezm_m284_v0nQ  e F A i0 i2 i3 i7 i8 i13 i18 i19 i20 i25 i29 i30 i31 i36 i37 i38 r73 r74 r75 r76 r77 r78 r79 r80 r81 r82 r83 r84 r85 r86 r87 r88 r89 r90 r91 r92 r93 r94 r95 z w a2 a3) := by
  refine ezw_met (k := 0) rfl rfl ?_
  obtain ⟨n0, n1, n2, n3, n4, n5, n6, n7⟩ := (ezn_NW_i 0 1 7 15 16 17 18 19 (by decide) (by decide) (by decide) (by decide) (by decide) (by decide) (by decide)).mp nw
  obtain ⟨⟨x0, x1⟩, x2, x3, x4, x5, x6, x7, x8, x9, x10, x11, x12⟩ := id wb
  have xc := ezn_cn_r x0 x1
  have lr := ezn_lo_r x0 x1 (x10 ki)
  have hls : ezn_la z w = z.sg (ezn_lo w.ov) := if_neg (x10 ki)
  have hT8 := hB.2.2.2.2.2.2.2.2
  refine ezw_iload_n rfl rfl ?_
  refine ezw_iconst (1) rfl rfl ?_
  refine ezw_icmp_ne rfl rfl ha3 ⟨by decide, by decide⟩ (fun h2_0 => ?_) (fun h2_0 => ?_)
  · refine ezw_iload_n rfl rfl ?_
    refine ezw_iconst (2) rfl rfl ?_
    refine ezw_icmp_ne rfl rfl ha3 ⟨by decide, by decide⟩ (fun h27_0 => ?_) (fun h27_0 => ?_)
    · exact ezw_return rfl rfl ⟨r88, rfl, hT, (fun _ _ => rfl), (by unfold ezn_tH; rw [if_pos (by omega)]; exact nw), rfl⟩
    · refine ezw_aload_n rfl rfl ?_
      refine ezw_iload_n rfl rfl ?_
      refine ezw_aload_n rfl rfl ?_
      refine ezw_iload_n rfl rfl ?_
      refine ezw_call0_1 rfl (by omega) (ezm_at rfl) rfl rfl rfl rfl (ezm_m268_v0n hT (by omega) nw wb ki) ?_
      rintro _ _ ⟨rfl, u2, hu2, la_1, rfl⟩
      have hl2 := la_1
      refine ezw_call0_2 rfl (by omega) (ezm_at rfl) rfl rfl rfl rfl (ezm_m277_v0n (p := (ezn_lo w.ov)) hT (by omega) hu2 nw wb hB (by omega) ⟨lr.1.1, lr.1.2, lr.2.1, by omega⟩) ?_
      rintro _ _ ⟨x88_3, rfl, hT, fb_3, nw_3, rfl⟩
      exact ezw_return rfl rfl ⟨x88_3, rfl, hT, fb_3, (by unfold ezn_tH; rw [if_neg (by omega), if_neg (by omega)]; exact nw_3), rfl⟩
  · refine ezw_aload_n rfl rfl ?_
    refine ezm_gp (p := 88) rfl (fun _ => rfl) ?_
    refine ezw_iload_n rfl rfl ?_
    refine ezw_bipush (19) rfl rfl ?_
    refine ezw_iadd (k := (19)) rfl (by omega) ?_
    refine ezw_dup2 rfl rfl rfl ?_
    refine ezm_l88 rfl (by omega) (by omega) (fun u4 eu4 => ?_)
    have ku4 : ezm_k88 (19) u4 := eu4 ▸ hT.t88 (19)
    have zu4 := ezm_zs19 ku4 (by omega)
    have hrm := ezn_rm x8.1 (by omega) (show 0 ≤ a2 by omega) (show a2 < 6 by omega) hbt
    have hr2 := ezn_andn x8.1 (by omega) (show 0 ≤ a2 by omega) (show a2 < 6 by omega) hbt
    have hr3 := ezn_p2r (show 0 ≤ a2 by omega) (show a2 < 6 by omega)
    have hr4 : 0 ≤ ezw_and u4 (ezw_xor (1 * 2 ^ (a2).toNat) (-1)) ∧ ezw_and u4 (ezw_xor (1 * 2 ^ (a2).toNat) (-1)) ≤ 15 := by
      rw [show u4 = w.ha by omega, hr2]
      omega
    refine ezw_iconst (1) rfl rfl ?_
    refine ezw_iload_n rfl rfl ?_
    refine ezw_ishl rfl (by omega) (by omega) (k := (1 * 2 ^ (a2).toNat)) (rfl) ?_
    refine ezw_iconst (-1) rfl rfl ?_
    refine ezw_ixor rfl (k := ezw_xor (1 * 2 ^ (a2).toNat) (-1)) rfl ?_
    refine ezw_iand rfl (k := ezw_and u4 (ezw_xor (1 * 2 ^ (a2).toNat) (-1))) rfl ?_
    refine ezm_s88 hT rfl (by omega) (by omega) ⟨⟨by omega, by omega⟩, by omega, by omega, by omega, by omega, by omega⟩ (fun r88_5 hT er88_5 fr88_5 => ?_)
    refine ezw_goto rfl rfl ?_
    exact ezw_return rfl rfl ⟨r88_5, rfl, hT, (fun j hj => by rw [fr88_5 j (by omega)]), (by
          unfold ezn_tH
          rw [if_neg (by omega), if_pos (by omega)]
          exact ezn_NW_hh nw wb rfl rfl rfl (fun j j0 j1 j2 j3 j4 j5 => fr88_5 j (by omega)) (by show r88_5 (15) = _; rw [fr88_5 _ (by omega)]; exact n3) (by show r88_5 (16) = _; rw [fr88_5 _ (by omega)]; exact n4) (by show r88_5 (18) = _; rw [fr88_5 _ (by omega)]; exact n6) (by show r88_5 (19) = w.ha - 2 ^ a2.toNat; rw [er88_5, show u4 = w.ha by omega]; exact ezn_andn x8.1 (by omega) (by omega) (by omega) hbt)), rfl⟩
def ezm_m286_v0nQ (e : Bool × Bool) (F : Nat → Nat → Int) (A : Nat → Int → Int) (i0 i2 i3 i7 i8 i13 i18 i19 i20 i25 i29 i30 i31 i36 i37 i38 : Int) (r73 r74 r75 r76 r77 r78 r79 r80 r81 r82 r83 r84 r85 r86 r87 r88 r89 r90 r91 r92 r93 r94 r95 : Int → Int) (z : ezp_D) (w : ezn_N) (a2 : Int) (a3 : Int) : Option ezq_V → (Nat → ezq_C) → Prop := fun v g' => ezm_h e F A i0 i2 i3 i7 i8 i13 i18 i19 i20 i25 i29 i30 i31 i36 i37 i38 r73 r74 r75 r76 r77 r78 r79 r80 r81 r82 r83 r84 r85 r86 r87 r88 r89 r90 r91 r92 r93 r94 r95 = g' ∧ ∃ u : Int, (0 ≤ u ∧ u ≤ 1) ∧ (u = 1 → ezn_cC z w a2 a3) ∧ (u = 0 → ¬ ezn_cC z w a2 a3) ∧ some (ezw_i u) = v
theorem ezm_m286_v0n {z : ezp_D} {w : ezn_N} {a2 a3 : Int} (hT : ezm_T i0 i2 i3 i7 i8 i13 i18 i19 i20 i25 i29 i30 i31 i36 i37 i38 r73 r74 r75 r76 r77 r78 r79 r80 r81 r82 r83 r84 r85 r86 r87 r88 r89 r90 r91 r92 r93 r94 r95) (hd : 2 ≤ d) (ha2 : ezw_in a2) (ha3 : ezw_in a3) (ga : 0 ≤ a2 ∧ a2 < z.kT ∧ 0 ≤ a3 ∧ a3 ≤ 1) (nw : ezn_NW z w 0 r88) (wb : ezn_B z w) (tf : ezm_TRF z i18 r78 r81 r83) (hB : ezp_B z) : ezw_C l ρ B xa Hb D cA 286 d [ezw_p 72, ezw_i (0), ezw_i a2, ezw_i a3] (ezm_h e F A i0 i2 i3 i7 i8 i13 i18 i19 i20 i25 i29 i30 i31 i36 i37 i38 r73 r74 r75 r76 r77 r78 r79 r80 r81 r82 r83 r84 r85 r86 r87 r88 r89 r90 r91 r92 r93 r94 r95) (ezm_m286_v0nQ  e F A i0 i2 i3 i7 i8 i13 i18 i19 i20 i25 i29 i30 i31 i36 i37 i38 r73 r74 r75 r76 r77 r78 r79 r80 r81 r82 r83 r84 r85 r86 r87 r88 r89 r90 r91 r92 r93 r94 r95 z w a2 a3) := by
  refine ezw_met (k := 0) rfl rfl ?_
  obtain ⟨⟨k0, k1, k2, k3⟩, ktw, kth, kov, ksg, kel, knu, knm⟩ := ezm_TRFi tf
  obtain ⟨b1, b2, b3, b4, b5, b6, b7, ⟨b8, b8'⟩, b9⟩ := id hB
  have n7 : r78 11 = z.nu 7 := knu 7 (by decide) (by decide)
  have nb7 : 0 ≤ z.nu 7 ∧ z.nu 7 ≤ 60 := b8 7 (by decide) (by decide)
  have n8 : r78 12 = z.nu 8 := knu 8 (by decide) (by decide)
  have nb8 : 0 ≤ z.nu 8 ∧ z.nu 8 ≤ 60 := b8 8 (by decide) (by decide)
  obtain ⟨n0, n1, n2, n3, n4, n5, n6, n7⟩ := (ezn_NW_i 0 1 7 15 16 17 18 19 (by decide) (by decide) (by decide) (by decide) (by decide) (by decide) (by decide)).mp nw
  obtain ⟨⟨x0, x1⟩, x2, x3, x4, x5, x6, x7, x8, x9, x10, x11, x12⟩ := id wb
  have xc := ezn_cn_r x0 x1
  refine ezw_aload_n rfl rfl ?_
  refine ezw_iload_n rfl rfl ?_
  refine ezw_call0_1 rfl (by omega) (ezm_at rfl) rfl rfl rfl rfl (ezm_m266_v0 hT (by omega)) ?_
  rintro _ _ ⟨rfl, u2, hu2, p1_0, p1_1, rfl⟩
  refine ezw_if_eq rfl rfl ⟨by omega, by omega⟩ (fun h5_2 => ?_) (fun h5_2 => ?_)
  · refine ezw_iconst (0) rfl rfl ?_
    exact ezw_ireturn rfl (ezw_zret ⟨by omega, by omega⟩) ⟨rfl, (0), ⟨by omega, by omega⟩, (by omega), (fun _ hz => by
          have h9 := p1_1 (by omega)
          obtain ⟨h8, -⟩ := ezn_ps_r hB wb hz.1
          have h7 : w.ov = 0 := by
            by_cases h6 : w.ov = 0
            · exact h6
            · have h5 := x11 h6
              omega
          rw [h7, ezt_b0] at h8
          exact absurd h8.2.2 (by decide)), rfl⟩
  · refine ezw_aload_n rfl rfl ?_
    refine ezw_iload_n rfl rfl ?_
    refine ezw_iload_n rfl rfl ?_
    refine ezw_call0_2 rfl (by omega) (ezm_at rfl) rfl rfl rfl rfl (ezm_m260_v0n hT (by omega) ha2 nw wb hB) ?_
    rintro _ _ ⟨rfl, u4, hu4, ov_3, no_3, rfl⟩
    refine ezw_if_eq rfl rfl ⟨by omega, by omega⟩ (fun h14_4 => ?_) (fun h14_4 => ?_)
    · refine ezw_iconst (0) rfl rfl ?_
      exact ezw_ireturn rfl (ezw_zret ⟨by omega, by omega⟩) ⟨rfl, (0), ⟨by omega, by omega⟩, (by omega), (fun _ hz => hz.1 (no_3 (by omega))), rfl⟩
    · have hpn := ov_3 (by omega)
      refine ezw_iload_n rfl rfl ?_
      refine ezw_if_eq rfl rfl ha3 (fun h18_4 => ?_) (fun h18_4 => ?_)
      · refine ezw_aload_n rfl rfl ?_
        refine ezw_iload_n rfl rfl ?_
        refine ezw_call0_1 rfl (by omega) (ezm_at rfl) rfl rfl rfl rfl (ezm_m287a hT (by omega) ha2 (by omega) tf hB) ?_
        rintro _ _ ⟨rfl, u6, hu6, p5_0, p5_1, rfl⟩
        refine ezw_if_eq rfl rfl ⟨by omega, by omega⟩ (fun h53_6 => ?_) (fun h53_6 => ?_)
        · refine ezw_iconst (0) rfl rfl ?_
          exact ezw_ireturn rfl (ezw_zret ⟨by omega, by omega⟩) ⟨rfl, (0), ⟨by omega, by omega⟩, (by omega), (fun _ hz => by
                have h9 := p5_1 (by omega)
                rcases hz.2 with y | y
                · omega
                · rw [h9] at y
                  exact absurd y.2 (by decide)), rfl⟩
        · refine ezw_iconst (1) rfl rfl ?_
          refine ezw_goto rfl rfl ?_
          exact ezw_ireturn rfl (ezw_zret ⟨by omega, by omega⟩) ⟨rfl, (1), ⟨by omega, by omega⟩, (fun _ => ⟨hpn, Or.inr ⟨by omega, p5_0 (by omega)⟩⟩), (by omega), rfl⟩
      · refine ezw_aload_n rfl rfl ?_
        refine ezw_iload_n rfl rfl ?_
        refine ezw_iconst (0) rfl rfl ?_
        refine ezw_call0_2 rfl (by omega) (ezm_at rfl) rfl rfl rfl rfl (ezm_m259_v0a hT (by omega) ha2 (by omega)) ?_
        rintro _ _ ⟨rfl, u8, hu8, tw_7, rfl⟩
        have hhi : u8 = z.hi a2 := by rw [tw_7]; exact (ktw a2 (by omega) (by omega)).1
        refine ezw_aload_n rfl rfl ?_
        refine ezm_gp (p := 78) rfl (fun _ => rfl) ?_
        refine ezw_bipush (11) rfl rfl ?_
        refine ezm_l78 rfl (by omega) (by omega) (fun u9 eu9 => ?_)
        have ku9 : ezm_k78 (11) u9 := eu9 ▸ hT.t78 (11)
        refine ezw_aload_n rfl rfl ?_
        refine ezm_gp (p := 78) rfl (fun _ => rfl) ?_
        refine ezw_bipush (12) rfl rfl ?_
        refine ezm_l78 rfl (by omega) (by omega) (fun u10 eu10 => ?_)
        have ku10 : ezm_k78 (12) u10 := eu10 ▸ hT.t78 (12)
        refine ezw_iadd (k := u9 + u10) rfl (by omega) ?_
        refine ezw_icmp_gt rfl rfl hu8 ⟨by omega, by omega⟩ (fun h42_10 => ?_) (fun h42_10 => ?_)
        · refine ezw_iconst (0) rfl rfl ?_
          exact ezw_ireturn rfl (ezw_zret ⟨by omega, by omega⟩) ⟨rfl, (0), ⟨by omega, by omega⟩, (by omega), (fun _ hz => by rcases hz.2 with y | y <;> omega), rfl⟩
        · refine ezw_goto rfl rfl ?_
          refine ezw_iconst (1) rfl rfl ?_
          refine ezw_goto rfl rfl ?_
          exact ezw_ireturn rfl (ezw_zret ⟨by omega, by omega⟩) ⟨rfl, (1), ⟨by omega, by omega⟩, (fun _ => ⟨hpn, Or.inl ⟨by omega, by omega⟩⟩), (by omega), rfl⟩
def ezm_m290nQ (e : Bool × Bool) (F : Nat → Nat → Int) (A : Nat → Int → Int) (i0 i2 i3 i7 i8 i13 i18 i19 i20 i25 i29 i30 i31 i36 i37 i38 : Int) (r73 r74 r75 r76 r77 r78 r79 r80 r81 r82 r83 r84 r85 r86 r87 r88 r89 r90 r91 r92 r93 r94 r95 : Int → Int) (a0 : Int) : Option ezq_V → (Nat → ezq_C) → Prop := fun v g' => ezm_h e F A i0 i2 i3 i7 i8 i13 i18 i19 i20 i25 i29 i30 i31 i36 i37 i38 r73 r74 r75 r76 r77 r78 r79 r80 r81 r82 r83 r84 r85 r86 r87 r88 r89 r90 r91 r92 r93 r94 r95 = g' ∧ ∃ u : Int, (0 ≤ u ∧ u ≤ 1) ∧ (u = 1 → 20 ≤ a0 ∨ a0 < 6) ∧ (u = 0 → ¬ (20 ≤ a0 ∨ a0 < 6)) ∧ some (ezw_i u) = v
theorem ezm_m290n {a0 : Int} (hT : ezm_T i0 i2 i3 i7 i8 i13 i18 i19 i20 i25 i29 i30 i31 i36 i37 i38 r73 r74 r75 r76 r77 r78 r79 r80 r81 r82 r83 r84 r85 r86 r87 r88 r89 r90 r91 r92 r93 r94 r95) (hd : 0 ≤ d) (ha0 : ezw_in a0) : ezw_C l ρ B xa Hb D cA 290 d [ezw_i a0] (ezm_h e F A i0 i2 i3 i7 i8 i13 i18 i19 i20 i25 i29 i30 i31 i36 i37 i38 r73 r74 r75 r76 r77 r78 r79 r80 r81 r82 r83 r84 r85 r86 r87 r88 r89 r90 r91 r92 r93 r94 r95) (ezm_m290nQ  e F A i0 i2 i3 i7 i8 i13 i18 i19 i20 i25 i29 i30 i31 i36 i37 i38 r73 r74 r75 r76 r77 r78 r79 r80 r81 r82 r83 r84 r85 r86 r87 r88 r89 r90 r91 r92 r93 r94 r95 a0) := by
  refine ezw_met (k := 0) rfl rfl ?_
  refine ezw_iload_n rfl rfl ?_
  refine ezw_bipush (20) rfl rfl ?_
  refine ezw_icmp_ge rfl rfl ha0 ⟨by decide, by decide⟩ (fun h3_0 => ?_) (fun h3_0 => ?_)
  · refine ezw_iconst (1) rfl rfl ?_
    refine ezw_goto rfl rfl ?_
    exact ezw_ireturn rfl (ezw_zret ⟨by omega, by omega⟩) ⟨rfl, (1), ⟨by omega, by omega⟩, by omega, by omega, rfl⟩
  · refine ezw_iload_n rfl rfl ?_
    refine ezw_bipush (6) rfl rfl ?_
    refine ezw_icmp_ge rfl rfl ha0 ⟨by decide, by decide⟩ (fun h9_0 => ?_) (fun h9_0 => ?_)
    · refine ezw_iconst (0) rfl rfl ?_
      exact ezw_ireturn rfl (ezw_zret ⟨by omega, by omega⟩) ⟨rfl, (0), ⟨by omega, by omega⟩, by omega, by omega, rfl⟩
    · refine ezw_iconst (1) rfl rfl ?_
      refine ezw_goto rfl rfl ?_
      exact ezw_ireturn rfl (ezw_zret ⟨by omega, by omega⟩) ⟨rfl, (1), ⟨by omega, by omega⟩, by omega, by omega, rfl⟩
def ezm_m289_v0nQ (e : Bool × Bool) (F : Nat → Nat → Int) (A : Nat → Int → Int) (i0 i2 i3 i7 i8 i13 i18 i19 i20 i25 i29 i30 i31 i36 i37 i38 : Int) (r73 r74 r75 r76 r77 r78 r79 r80 r81 r82 r83 r84 r85 r86 r87 r88 r89 r90 r91 r92 r93 r94 r95 : Int → Int) (z : ezp_D) (w : ezn_N) (a2 : Int) : Option ezq_V → (Nat → ezq_C) → Prop := fun v g' => ∃  (x88 : Int → Int), ezm_h e F A i0 i2 i3 i7 i8 i13 i18 i19 i20 i25 i29 i30 i31 i36 i37 i38 r73 r74 r75 r76 r77 r78 r79 r80 r81 r82 r83 r84 r85 r86 r87 x88 r89 r90 r91 r92 r93 r94 r95 = g' ∧ ezm_T i0 i2 i3 i7 i8 i13 i18 i19 i20 i25 i29 i30 i31 i36 i37 i38 r73 r74 r75 r76 r77 r78 r79 r80 r81 r82 r83 r84 r85 r86 r87 x88 r89 r90 r91 r92 r93 r94 r95 ∧ (∀ j, j < 0 ∨ 20 ≤ j → x88 j = r88 j) ∧ (ezn_NW z (ezn_hr z w a2) 0 x88) ∧ none = v
theorem ezm_m289_v0n {z : ezp_D} {w : ezn_N} {a2 : Int} (hT : ezm_T i0 i2 i3 i7 i8 i13 i18 i19 i20 i25 i29 i30 i31 i36 i37 i38 r73 r74 r75 r76 r77 r78 r79 r80 r81 r82 r83 r84 r85 r86 r87 r88 r89 r90 r91 r92 r93 r94 r95) (hd : 1 ≤ d) (ha2 : ezw_in a2) (ga : 0 ≤ a2 ∧ a2 < 4) (nw : ezn_NW z w 0 r88) (wb : ezn_B z w) (tf : ezm_TRF z i18 r78 r81 r83) (hB : ezp_B z) : ezw_C l ρ B xa Hb D cA 289 d [ezw_p 72, ezw_i (0), ezw_i a2] (ezm_h e F A i0 i2 i3 i7 i8 i13 i18 i19 i20 i25 i29 i30 i31 i36 i37 i38 r73 r74 r75 r76 r77 r78 r79 r80 r81 r82 r83 r84 r85 r86 r87 r88 r89 r90 r91 r92 r93 r94 r95) (ezm_m289_v0nQ  e F A i0 i2 i3 i7 i8 i13 i18 i19 i20 i25 i29 i30 i31 i36 i37 i38 r73 r74 r75 r76 r77 r78 r79 r80 r81 r82 r83 r84 r85 r86 r87 r88 r89 r90 r91 r92 r93 r94 r95 z w a2) := by
  refine ezw_met (k := 1) rfl rfl ?_
  obtain ⟨⟨k0, k1, k2, k3⟩, ktw, kth, kov, ksg, kel, knu, knm⟩ := ezm_TRFi tf
  obtain ⟨b1, b2, b3, b4, b5, b6, b7, ⟨b8, b8'⟩, b9⟩ := id hB
  have n6 : r78 10 = z.nu 6 := knu 6 (by decide) (by decide)
  have nb6 : 0 ≤ z.nu 6 ∧ z.nu 6 ≤ 9 := b8 6 (by decide) (by decide)
  obtain ⟨n0, n1, n2, n3, n4, n5, n6, n7⟩ := (ezn_NW_i 0 1 7 15 16 17 18 19 (by decide) (by decide) (by decide) (by decide) (by decide) (by decide) (by decide)).mp nw
  obtain ⟨⟨x0, x1⟩, x2, x3, x4, x5, x6, x7, x8, x9, x10, x11, x12⟩ := id wb
  have xc := ezn_cn_r x0 x1
  refine ezw_aload_n rfl rfl ?_
  refine ezm_gp (p := 88) rfl (fun _ => rfl) ?_
  refine ezw_iload_n rfl rfl ?_
  refine ezw_bipush (15) rfl rfl ?_
  refine ezw_iadd (k := (15)) rfl (by omega) ?_
  refine ezw_aload_n rfl rfl ?_
  refine ezm_gp (p := 88) rfl (fun _ => rfl) ?_
  refine ezw_iload_n rfl rfl ?_
  refine ezw_bipush (15) rfl rfl ?_
  refine ezw_iadd (k := (15)) rfl (by omega) ?_
  refine ezm_l88 rfl (by omega) (by omega) (fun u1 eu1 => ?_)
  have ku1 : ezm_k88 (15) u1 := eu1 ▸ hT.t88 (15)
  refine ezw_iconst (1) rfl rfl ?_
  refine ezw_iadd (k := u1 + 1) rfl (by omega) ?_
  refine ezw_bipush (24) rfl rfl ?_
  refine ezm_irem rfl ⟨by omega, by omega⟩ ⟨by decide, by decide⟩ (by decide) (fun u2 hu2 ku2 => ?_)
  refine ezm_s88 hT rfl (by omega) (by omega) ⟨hu2, by omega, by omega, by omega, by omega, by omega⟩ (fun r88_3 hT er88_3 fr88_3 => ?_)
  refine ezw_aload_n rfl rfl ?_
  refine ezm_gp (p := 88) rfl (fun _ => rfl) ?_
  refine ezw_iload_n rfl rfl ?_
  refine ezw_bipush (16) rfl rfl ?_
  refine ezw_iadd (k := (16)) rfl (by omega) ?_
  refine ezw_iload_n rfl rfl ?_
  refine ezm_s88 hT rfl (by omega) (by omega) ⟨ha2, by omega, by omega, by omega, by omega, by omega⟩ (fun r88_4 hT er88_4 fr88_4 => ?_)
  refine ezw_aload_n rfl rfl ?_
  refine ezw_iload_n rfl rfl ?_
  have q15 : r88_4 (15) = (w.ho + 1) % 24 := by
    rw [fr88_4 (15) (by omega), er88_3]
    omega
  have q17 : r88_4 (17) = w.ki := by
    rw [fr88_4 (17) (by omega), fr88_3 (17) (by omega)]
    exact n5
  have q18 : r88_4 (18) = w.pa := by
    rw [fr88_4 (18) (by omega), fr88_3 (18) (by omega)]
    exact n6
  refine ezw_call0_1 rfl (by omega) (ezm_at rfl) rfl rfl rfl rfl (ezm_m266_v0 hT (by omega)) ?_
  rintro _ _ ⟨rfl, u6, hu6, p5_0, p5_1, rfl⟩
  refine ezw_if_eq rfl rfl ⟨by omega, by omega⟩ (fun h38_6 => ?_) (fun h38_6 => ?_)
  · exact ezw_return rfl rfl ⟨r88_4, rfl, hT, (fun j hj => by rw [fr88_4 j (by omega), fr88_3 j (by omega)]), (ezn_NW_hh nw wb rfl rfl rfl (fun j j0 j1 j2 j3 j4 j5 => by rw [fr88_4 j (by omega), fr88_3 j (by omega)]) (by show r88_4 (15) = (w.ho + 1) % 24; rw [fr88_4 (15) (by omega), er88_3]; omega) (by show r88_4 (16) = a2; rw [er88_4]) (by show r88_4 (18) = (if w.ki = 0 then ezn_dw z ((w.ho + 1) % 24) w.pa else w.pa); rw [fr88_4 (18) (by omega), fr88_3 (18) (by omega), n6]; first | (rw [if_neg (by omega)]) | (rw [if_pos (by omega)]; unfold ezn_dw; rw [if_neg (by omega)])) (by show r88_4 (19) = w.ha; rw [fr88_4 (19) (by omega), fr88_3 (19) (by omega)]; exact n7)), rfl⟩
  · refine ezw_aload_n rfl rfl ?_
    refine ezm_gp (p := 88) rfl (fun _ => rfl) ?_
    refine ezw_iload_n rfl rfl ?_
    refine ezw_bipush (15) rfl rfl ?_
    refine ezw_iadd (k := (15)) rfl (by omega) ?_
    refine ezm_l88 rfl (by omega) (by omega) (fun u7 eu7 => ?_)
    have ku7 : ezm_k88 (15) u7 := eu7 ▸ hT.t88 (15)
    refine ezw_call2_1 rfl (by omega) rfl rfl (ezm_m290n hT (by omega) (ezm_in88 ku7)) ?_
    rintro _ _ ⟨rfl, u9, hu9, p8_0, p8_1, rfl⟩
    refine ezw_if_eq rfl rfl ⟨by omega, by omega⟩ (fun h53_9 => ?_) (fun h53_9 => ?_)
    · exact ezw_return rfl rfl ⟨r88_4, rfl, hT, (fun j hj => by rw [fr88_4 j (by omega), fr88_3 j (by omega)]), (ezn_NW_hh nw wb rfl rfl rfl (fun j j0 j1 j2 j3 j4 j5 => by rw [fr88_4 j (by omega), fr88_3 j (by omega)]) (by show r88_4 (15) = (w.ho + 1) % 24; rw [fr88_4 (15) (by omega), er88_3]; omega) (by show r88_4 (16) = a2; rw [er88_4]) (by show r88_4 (18) = (if w.ki = 0 then ezn_dw z ((w.ho + 1) % 24) w.pa else w.pa); rw [fr88_4 (18) (by omega), fr88_3 (18) (by omega), n6]; first | (rw [if_neg (by omega)]) | (rw [if_pos (by omega)]; unfold ezn_dw; rw [if_neg (by omega)])) (by show r88_4 (19) = w.ha; rw [fr88_4 (19) (by omega), fr88_3 (19) (by omega)]; exact n7)), rfl⟩
    · refine ezw_aload_n rfl rfl ?_
      refine ezm_gp (p := 88) rfl (fun _ => rfl) ?_
      refine ezw_iload_n rfl rfl ?_
      refine ezw_bipush (18) rfl rfl ?_
      refine ezw_iadd (k := (18)) rfl (by omega) ?_
      refine ezm_l88 rfl (by omega) (by omega) (fun u10 eu10 => ?_)
      have ku10 : ezm_k88 (18) u10 := eu10 ▸ hT.t88 (18)
      refine ezw_aload_n rfl rfl ?_
      refine ezm_gp (p := 78) rfl (fun _ => rfl) ?_
      refine ezw_bipush (10) rfl rfl ?_
      refine ezm_l78 rfl (by omega) (by omega) (fun u11 eu11 => ?_)
      have ku11 : ezm_k78 (10) u11 := eu11 ▸ hT.t78 (10)
      refine ezw_isub (k := u10 - u11) rfl (by omega) ?_
      refine ezw_istore_n rfl rfl ?_
      refine ezw_aload_n rfl rfl ?_
      refine ezm_gp (p := 88) rfl (fun _ => rfl) ?_
      refine ezw_iload_n rfl rfl ?_
      refine ezw_bipush (18) rfl rfl ?_
      refine ezw_iadd (k := (18)) rfl (by omega) ?_
      refine ezw_iload_n rfl rfl ?_
      refine ezw_if_ge rfl rfl ⟨by omega, by omega⟩ (fun h83_11 => ?_) (fun h83_11 => ?_)
      · refine ezw_iload_n rfl rfl ?_
        refine ezm_s88 hT rfl (by omega) (by omega) ⟨⟨by omega, by omega⟩, by omega, by omega, by omega, by omega, by omega⟩ (fun r88_12 hT er88_12 fr88_12 => ?_)
        exact ezw_return rfl rfl ⟨r88_12, rfl, hT, (fun j hj => by rw [fr88_12 j (by omega), fr88_4 j (by omega), fr88_3 j (by omega)]), (ezn_NW_hh nw wb rfl rfl rfl (fun j j0 j1 j2 j3 j4 j5 => by rw [fr88_12 j (by omega), fr88_4 j (by omega), fr88_3 j (by omega)]) (by show r88_12 (15) = (w.ho + 1) % 24; rw [fr88_12 (15) (by omega), fr88_4 (15) (by omega), er88_3]; omega) (by show r88_12 (16) = a2; rw [fr88_12 (16) (by omega), er88_4]) (by show r88_12 (18) = (if w.ki = 0 then ezn_dw z ((w.ho + 1) % 24) w.pa else w.pa); rw [er88_12, if_pos (by omega)]; unfold ezn_dw; rw [if_pos (by omega)]; first | (rw [if_pos (by omega)] <;> omega) | (rw [if_neg (by omega)] <;> omega)) (by show r88_12 (19) = w.ha; rw [fr88_12 (19) (by omega), fr88_4 (19) (by omega), fr88_3 (19) (by omega)]; exact n7)), rfl⟩
      · refine ezw_iconst (0) rfl rfl ?_
        refine ezw_goto rfl rfl ?_
        refine ezm_s88 hT rfl (by omega) (by omega) ⟨⟨by decide, by decide⟩, by omega, by omega, by omega, by omega, by omega⟩ (fun r88_13 hT er88_13 fr88_13 => ?_)
        exact ezw_return rfl rfl ⟨r88_13, rfl, hT, (fun j hj => by rw [fr88_13 j (by omega), fr88_4 j (by omega), fr88_3 j (by omega)]), (ezn_NW_hh nw wb rfl rfl rfl (fun j j0 j1 j2 j3 j4 j5 => by rw [fr88_13 j (by omega), fr88_4 j (by omega), fr88_3 j (by omega)]) (by show r88_13 (15) = (w.ho + 1) % 24; rw [fr88_13 (15) (by omega), fr88_4 (15) (by omega), er88_3]; omega) (by show r88_13 (16) = a2; rw [fr88_13 (16) (by omega), er88_4]) (by show r88_13 (18) = (if w.ki = 0 then ezn_dw z ((w.ho + 1) % 24) w.pa else w.pa); rw [er88_13, if_pos (by omega)]; unfold ezn_dw; rw [if_pos (by omega)]; first | (rw [if_pos (by omega)] <;> omega) | (rw [if_neg (by omega)] <;> omega)) (by show r88_13 (19) = w.ha; rw [fr88_13 (19) (by omega), fr88_4 (19) (by omega), fr88_3 (19) (by omega)]; exact n7)), rfl⟩
end KM6
