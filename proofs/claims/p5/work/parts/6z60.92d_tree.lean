/-! ===== the model: a tree, with all that it leaves ===== -/
section KM6
variable {l : Launch} {ρ : ezq_E} {B : Nat} {xa : Nat → Option Nat} {Hb : Heap} {D : va_G} {cA : Nat → ClassId} {d : Nat} {e : Bool × Bool} {F : Nat → Nat → Int} {A : Nat → Int → Int} {i0 i2 i3 i7 i8 i13 i18 i19 i20 i25 i29 i30 i31 i36 i37 i38 : Int} {r73 r74 r75 r76 r77 r78 r79 r80 r81 r82 r83 r84 r85 r86 r87 r88 r89 r90 r91 r92 r93 r94 r95 : Int → Int}
def ezm_m217nQ (e : Bool × Bool) (F : Nat → Nat → Int) (A : Nat → Int → Int) (i0 i2 i3 i7 i8 i13 i18 i19 i20 i25 i29 i30 i31 i36 i37 i38 : Int) (r73 r74 r75 r76 r77 r78 r79 r80 r81 r82 r83 r84 r85 r86 r87 r88 r89 r90 r91 r92 r93 r94 r95 : Int → Int) (c : Int → Int) : Option ezq_V → (Nat → ezq_C) → Prop := fun v g' => ∃ (x0 x2 x3 x7 x8 x13 x18 x19 x20 x25 : Int) (x74 x75 x76 x78 x79 x80 x81 x82 x83 x84 x85 x88 x89 : Int → Int), ezm_h e F A x0 x2 x3 x7 x8 x13 x18 x19 x20 x25 i29 i30 i31 i36 i37 i38 r73 x74 x75 x76 r77 x78 x79 x80 x81 x82 x83 x84 x85 r86 r87 x88 x89 r90 r91 r92 r93 r94 r95 = g' ∧ ezm_T x0 x2 x3 x7 x8 x13 x18 x19 x20 x25 i29 i30 i31 i36 i37 i38 r73 x74 x75 x76 r77 x78 x79 x80 x81 x82 x83 x84 x85 r86 r87 x88 x89 r90 r91 r92 r93 r94 r95 ∧ ∃ u : Int, (ezw_in u) ∧ (x2 = 0) ∧ (ezm_TR x78 x79 x80) ∧ (ezm_OK x78 x88 x89 x25) ∧ (u = ezp_tree c) ∧ (u ≠ 0 → ∀ z, ezm_TRF z i18 r78 r81 r83 → ezm_TRF z x18 x78 x81 x83) ∧ (u = 0 → ezm_TRF (ezp_rl c 1000 (((0, 0), ezp_D0), ezv_L0)).1.2 x18 x78 x81 x83) ∧ (u ≠ 0 → ∀ L, ezm_MF L r78 r79 r80 → ezm_MF L x78 x79 x80) ∧ (u = 0 → ezm_MF (ezp_rl c 1000 (((0, 0), ezp_D0), ezv_L0)).2 x78 x79 x80) ∧ (u ≠ 0 → x88 = r88 ∧ x89 = r89 ∧ x25 = i25) ∧ (u = 0 → ezj_RW x78 x88 ∧ x88 20 = 0 ∧ x25 = 0 ∧ ∀ m, 0 ≤ m → m < 4 → x89 m = 0) ∧ some (ezw_i u) = v
set_option maxHeartbeats 8000000 in
theorem ezm_m217n {c : Int → Int} (hT : ezm_T i0 i2 i3 i7 i8 i13 i18 i19 i20 i25 i29 i30 i31 i36 i37 i38 r73 r74 r75 r76 r77 r78 r79 r80 r81 r82 r83 r84 r85 r86 r87 r88 r89 r90 r91 r92 r93 r94 r95) (hd : 38 ≤ d) (tr : ezm_TR r78 r79 r80) (ok : ezm_OK r78 r88 r89 i25) (hc : c = ezp_ch r73 i2) (tp : ezp_tp c i2) (hM : ∀ w, 0 ≤ w → w < 48 → r77 w = ezl_mw.getD w.toNat 0) : ezw_C l ρ B xa Hb D cA 217 d [ezw_p 72] (ezm_h e F A i0 i2 i3 i7 i8 i13 i18 i19 i20 i25 i29 i30 i31 i36 i37 i38 r73 r74 r75 r76 r77 r78 r79 r80 r81 r82 r83 r84 r85 r86 r87 r88 r89 r90 r91 r92 r93 r94 r95) (ezm_m217nQ  e F A i0 i2 i3 i7 i8 i13 i18 i19 i20 i25 i29 i30 i31 i36 i37 i38 r73 r74 r75 r76 r77 r78 r79 r80 r81 r82 r83 r84 r85 r86 r87 r88 r89 r90 r91 r92 r93 r94 r95 c) := by
  refine ezw_met (k := 1) rfl rfl ?_
  have a0 := (ezm_za0 (hT.t78 0) (by decide)).2
  have a3 := (ezm_za3 (hT.t78 3) (by decide)).2
  have s6 : ∀ j, j % 50 = 0 → r88 j ≤ 6 := fun j hj => (ezm_zs0 (hT.t88 j) hj).2
  refine ezw_aload_n rfl rfl ?_
  refine ezw_iconst (0) rfl rfl ?_
  refine ezm_p0 hT rfl ⟨by decide, by decide⟩ (fun hT => ?_)
  refine ezw_aload_n rfl rfl ?_
  refine ezw_call0_0 rfl (by omega) (ezm_at rfl) rfl rfl rfl rfl (ezm_m218p hT (by omega) hc tp) ?_
  rintro _ _ ⟨x2_1, x3_1, x7_1, x8_1, x74_1, x75_1, x76_1, rfl, hT, p1_0, p1_1, p1_2, tk_1, rfl⟩
  have k2 := hT.t2
  have k3 := hT.t3
  have k4 := hT.t7
  have k5 := hT.t8
  obtain ⟨n, n0, n1, hs, tk⟩ := tk_1
  refine ezw_aload_n rfl rfl ?_
  refine ezw_iconst (0) rfl rfl ?_
  refine ezm_p13 hT rfl ⟨by omega, by omega⟩ (fun hT => ?_)
  refine ezw_aload_n rfl rfl ?_
  refine ezw_iconst (0) rfl rfl ?_
  refine ezm_p19 hT rfl ⟨by omega, by omega⟩ (fun hT => ?_)
  refine ezw_aload_n rfl rfl ?_
  refine ezw_iconst (0) rfl rfl ?_
  refine ezm_p20 hT rfl ⟨by decide, by decide⟩ (fun hT => ?_)
  refine ezw_aload_n rfl rfl ?_
  refine ezw_bipush (100) rfl rfl ?_
  refine ezw_call0_1 rfl (by omega) (ezm_at rfl) rfl rfl rfl rfl (ezm_m213_v100p hT (by omega)) ?_
  rintro _ _ ⟨x78_6, rfl, hT, fb_6, q0_6, q1_6, q3_6, q15_6, q16_6, zz_6, q5_6, q13_6, q14_6, rfl⟩
  have X30_8 : ∀ c7 : Int, ezw_in c7 → ∀ x8_8 : Int, ∀ x13_8 : Int, ∀ x19_8 : Int, ∀ x20_8 : Int, ∀ x78_8 : Int → Int, ∀ x79_8 : Int → Int, ∀ x80_8 : Int → Int, ∀ x82_8 : Int → Int, ∀ x84_8 : Int → Int, ezm_T (0) x2_1 x3_1 c7 x8_8 x13_8 i18 x19_8 x20_8 i25 i29 i30 i31 i36 i37 i38 r73 x74_1 x75_1 x76_1 r77 x78_8 x79_8 x80_8 r81 x82_8 r83 x84_8 r85 r86 r87 r88 r89 r90 r91 r92 r93 r94 r95 → (0 ≤ c7 ∧ c7 ≤ n ∧ 0 ≤ x13_8 ∧ x13_8 ≤ c7) → (∀ j, j < 100 → x78_8 j = r78 j) → (ezm_fr r79 r80 x79_8 x80_8 1100) → (∃ (zz : ((Int × Int) × ezp_D) × ezv_LL) (m : Nat), ezp_rl c 1000 (((0, 0), ezp_D0), ezv_L0) = ezp_rl c m zz ∧ ezm_ST zz.1.1 x8_8 c7 ∧ ezm_I (x8_8 = 0) (ezm_TRE zz.1.2 x19_8 x20_8 x78_8 x82_8 x84_8) ∧ (x8_8 = 0 → 1000 ≤ (m : Int) + c7) ∧ ezm_ML zz.2 x78_8 x79_8 x80_8 x13_8) → (x8_8 ≠ 0) → ezw_E l ρ B xa Hb D cA d ezq_re217 (ezm_m217nQ  e F A i0 i2 i3 i7 i8 i13 i18 i19 i20 i25 i29 i30 i31 i36 i37 i38 r73 r74 r75 r76 r77 r78 r79 r80 r81 r82 r83 r84 r85 r86 r87 r88 r89 r90 r91 r92 r93 r94 r95 c) 30 [some (ezw_p 72), none] [] (ezm_h e F A (0) x2_1 x3_1 c7 x8_8 x13_8 i18 x19_8 x20_8 i25 i29 i30 i31 i36 i37 i38 r73 x74_1 x75_1 x76_1 r77 x78_8 x79_8 x80_8 r81 x82_8 r83 x84_8 r85 r86 r87 r88 r89 r90 r91 r92 r93 r94 r95) := by
    intro c7 hc7 x8_8 x13_8 x19_8 x20_8 x78_8 x79_8 x80_8 x82_8 x84_8 hT v1_8 fb_8 fo_8 iv_8 hesc_8
    have k9 := hT.t7
    have k10 := hT.t8
    have k11 := hT.t13
    have k12 := hT.t19
    have k13 := hT.t20
    obtain ⟨zz, m, hq, st1, tr1, hm, ml1⟩ := iv_8
    obtain ⟨se1, sa1, -, hP1, -, sk1⟩ := ezm_TKi tk st1 (by omega)
    refine ezw_aload_n rfl rfl ?_
    refine ezm_g8 rfl ?_
    have k14 := hT.t8
    refine ezw_if_ne rfl rfl ⟨by omega, by omega⟩ (fun h34_14 => ?_) (fun h34_14 => absurd h34_14 (by omega))
    have hez : ezp_rl c 1000 (((0, 0), ezp_D0), ezv_L0) = zz := by
      rw [hq]
      first
        | exact ezp_rl_n (fun y => by have h8 := st1.1; have h9 := y.1; omega)
        | exact ezp_rl_n (fun y => y.2 (by omega))
    clear sk1
    refine ezw_aload_n rfl rfl ?_
    refine ezm_g8 rfl ?_
    refine ezw_if_le rfl rfl ⟨by omega, by omega⟩ (fun h129_14 => absurd h129_14 (by omega)) (fun h129_14 => ?_)
    refine ezw_aload_n rfl rfl ?_
    refine ezm_g8 rfl ?_
    exact ezw_ireturn rfl rfl ⟨(0), x2_1, x3_1, c7, x8_8, x13_8, i18, x19_8, x20_8, i25, x74_1, x75_1, x76_1, x78_8, x79_8, x80_8, r81, x82_8, r83, x84_8, r85, r88, r89, rfl, hT, x8_8, ⟨by omega, by omega⟩, by omega, ezm_TR_fr tr a0 a3 fb_8 fo_8, ezm_OK_fr ok s6 (fb_8 0 (by omega)), by
          show x8_8 = (ezp_rd c 1000 ((0, 0), ezp_D0)).1.1
          have h8 := st1.1
          rw [← ezp_rl_1 1000 (((0, 0), ezp_D0), ezv_L0), hez]
          omega, (fun _ z hz => ezm_TRF_fr hz (fun j _ hj => fb_8 j hj)), (fun y => absurd y (by omega)), (fun _ L hL => ezm_MF_fr hL (fun j hj => fb_8 j hj) fo_8), (fun y => absurd y (by omega)), (fun _ => ⟨rfl, rfl, rfl⟩), (fun y => absurd y (by omega)), rfl⟩
  have L30_8 : ∀ c7 : Int, ezw_in c7 → ∀ x8_8 : Int, ∀ x13_8 : Int, ∀ x19_8 : Int, ∀ x20_8 : Int, ∀ x78_8 : Int → Int, ∀ x79_8 : Int → Int, ∀ x80_8 : Int → Int, ∀ x82_8 : Int → Int, ∀ x84_8 : Int → Int, ezm_T (0) x2_1 x3_1 c7 x8_8 x13_8 i18 x19_8 x20_8 i25 i29 i30 i31 i36 i37 i38 r73 x74_1 x75_1 x76_1 r77 x78_8 x79_8 x80_8 r81 x82_8 r83 x84_8 r85 r86 r87 r88 r89 r90 r91 r92 r93 r94 r95 → (x7_1 ≤ c7) → (0 ≤ c7 ∧ c7 ≤ n ∧ 0 ≤ x13_8 ∧ x13_8 ≤ c7) → (∀ j, j < 100 → x78_8 j = r78 j) → (ezm_fr r79 r80 x79_8 x80_8 1100) → (x8_8 = 0) → (ezm_RD x13_8 x19_8 x78_8 x79_8 x80_8 x84_8) → (∃ (zz : ((Int × Int) × ezp_D) × ezv_LL) (m : Nat), ezp_rl c 1000 (((0, 0), ezp_D0), ezv_L0) = ezp_rl c m zz ∧ ezm_ST zz.1.1 x8_8 c7 ∧ ezm_I (x8_8 = 0) (ezm_TRE zz.1.2 x19_8 x20_8 x78_8 x82_8 x84_8) ∧ (x8_8 = 0 → 1000 ≤ (m : Int) + c7) ∧ ezm_ML zz.2 x78_8 x79_8 x80_8 x13_8) → ezw_E l ρ B xa Hb D cA d ezq_re217 (ezm_m217nQ  e F A i0 i2 i3 i7 i8 i13 i18 i19 i20 i25 i29 i30 i31 i36 i37 i38 r73 r74 r75 r76 r77 r78 r79 r80 r81 r82 r83 r84 r85 r86 r87 r88 r89 r90 r91 r92 r93 r94 r95 c) 30 [some (ezw_p 72), none] [] (ezm_h e F A (0) x2_1 x3_1 c7 x8_8 x13_8 i18 x19_8 x20_8 i25 i29 i30 i31 i36 i37 i38 r73 x74_1 x75_1 x76_1 r77 x78_8 x79_8 x80_8 r81 x82_8 r83 x84_8 r85 r86 r87 r88 r89 r90 r91 r92 r93 r94 r95) := by
    refine ezs_up ?_
    intro c7 hc7 ihc7 x8_8 x13_8 x19_8 x20_8 x78_8 x79_8 x80_8 x82_8 x84_8 hT g_8 v1_8 fb_8 fo_8 z_8 rd_8 iv_8
    have k15 := hT.t7
    have k16 := hT.t8
    have k17 := hT.t13
    have k18 := hT.t19
    have k19 := hT.t20
    obtain ⟨zz, m, hq, st1, tr1, hm, ml1⟩ := iv_8
    obtain ⟨se1, sa1, -, hP1, -, sk1⟩ := ezm_TKi tk st1 (by omega)
    refine ezw_aload_n rfl rfl ?_
    refine ezm_g8 rfl ?_
    refine ezw_if_ne rfl rfl ⟨by omega, by omega⟩ (fun h34_19 => absurd h34_19 (by omega)) (fun h34_19 => ?_)
    refine ezw_aload_n rfl rfl ?_
    refine ezm_gp (p := 74) rfl (fun _ => rfl) ?_
    refine ezw_aload_n rfl rfl ?_
    refine ezm_g7 rfl ?_
    refine ezm_l74 rfl (by omega) (by omega) (fun u20 eu20 => ?_)
    have ku20 : ezw_in u20 := eu20 ▸ hT.t74 c7
    refine ezw_if_eq rfl rfl ku20 (fun h46_20 => ?_) (fun h46_20 => ?_)
    · have hez : ezp_rl c 1000 (((0, 0), ezp_D0), ezv_L0) = zz := by
        rw [hq]
        first
          | exact ezp_rl_n (fun y => by have h8 := st1.1; have h9 := y.1; omega)
          | exact ezp_rl_n (fun y => y.2 (by omega))
      clear sk1
      refine ezw_aload_n rfl rfl ?_
      refine ezm_g8 rfl ?_
      refine ezw_if_le rfl rfl ⟨by omega, by omega⟩ (fun h129_20 => ?_) (fun h129_20 => absurd h129_20 (by omega))
      have c0 := (ezm_za0 (hT.t78 100) (by decide)).2
      have c3 := (ezm_za3 (hT.t78 103) (by decide)).2
      refine ezw_iconst (0) rfl rfl ?_
      refine ezw_istore_n rfl rfl ?_
      have L139_22 : ∀ c21 : Int, ezw_in c21 → ∀ x78_22 : Int → Int, ezm_T (0) x2_1 x3_1 c7 x8_8 x13_8 i18 x19_8 x20_8 i25 i29 i30 i31 i36 i37 i38 r73 x74_1 x75_1 x76_1 r77 x78_22 x79_8 x80_8 r81 x82_8 r83 x84_8 r85 r86 r87 r88 r89 r90 r91 r92 r93 r94 r95 → ((0) ≤ c21) → (∀ j, 100 ≤ j → x78_22 j = x78_8 j) → (∀ j, 0 ≤ j → j < c21 → x78_22 j = x78_8 (j + 100)) → ezw_E l ρ B xa Hb D cA d ezq_re217 (ezm_m217nQ  e F A i0 i2 i3 i7 i8 i13 i18 i19 i20 i25 i29 i30 i31 i36 i37 i38 r73 r74 r75 r76 r77 r78 r79 r80 r81 r82 r83 r84 r85 r86 r87 r88 r89 r90 r91 r92 r93 r94 r95 c) 139 [some (ezw_p 72), some (ezw_i c21)] [] (ezm_h e F A (0) x2_1 x3_1 c7 x8_8 x13_8 i18 x19_8 x20_8 i25 i29 i30 i31 i36 i37 i38 r73 x74_1 x75_1 x76_1 r77 x78_22 x79_8 x80_8 r81 x82_8 r83 x84_8 r85 r86 r87 r88 r89 r90 r91 r92 r93 r94 r95) := by
        refine ezs_up ?_
        intro c21 hc21 ihc21 x78_22 hT g_22 hi_22 lo_22
        refine ezw_iload_n rfl rfl ?_
        refine ezw_bipush (100) rfl rfl ?_
        refine ezw_icmp_ge rfl rfl hc21 ⟨by decide, by decide⟩ (fun h142_22 => ?_) (fun h142_22 => ?_)
        · refine ezw_iconst (0) rfl rfl ?_
          refine ezw_istore_n rfl rfl ?_
          have L168_24 : ∀ c23 : Int, ezw_in c23 → ∀ x79_24 : Int → Int, ∀ x80_24 : Int → Int, ezm_T (0) x2_1 x3_1 c7 x8_8 x13_8 i18 x19_8 x20_8 i25 i29 i30 i31 i36 i37 i38 r73 x74_1 x75_1 x76_1 r77 x78_22 x79_24 x80_24 r81 x82_8 r83 x84_8 r85 r86 r87 r88 r89 r90 r91 r92 r93 r94 r95 → ((0) ≤ c23) → (∀ j, 1100 ≤ j → x79_24 j = x79_8 j ∧ x80_24 j = x80_8 j) → (∀ j, 0 ≤ j → j < c23 → x79_24 j = x79_8 (j + 1100) ∧ x80_24 j = x80_8 (j + 1100)) → ezw_E l ρ B xa Hb D cA d ezq_re217 (ezm_m217nQ  e F A i0 i2 i3 i7 i8 i13 i18 i19 i20 i25 i29 i30 i31 i36 i37 i38 r73 r74 r75 r76 r77 r78 r79 r80 r81 r82 r83 r84 r85 r86 r87 r88 r89 r90 r91 r92 r93 r94 r95 c) 168 [some (ezw_p 72), some (ezw_i c23)] [] (ezm_h e F A (0) x2_1 x3_1 c7 x8_8 x13_8 i18 x19_8 x20_8 i25 i29 i30 i31 i36 i37 i38 r73 x74_1 x75_1 x76_1 r77 x78_22 x79_24 x80_24 r81 x82_8 r83 x84_8 r85 r86 r87 r88 r89 r90 r91 r92 r93 r94 r95) := by
            refine ezs_up ?_
            intro c23 hc23 ihc23 x79_24 x80_24 hT g_24 hi_24 lo_24
            refine ezw_iload_n rfl rfl ?_
            refine ezw_aload_n rfl rfl ?_
            refine ezm_g13 rfl ?_
            refine ezw_icmp_ge rfl rfl hc23 ⟨by omega, by omega⟩ (fun h173_24 => ?_) (fun h173_24 => ?_)
            · refine ezw_iconst (0) rfl rfl ?_
              refine ezw_istore_n rfl rfl ?_
              have L216_26 : ∀ c25 : Int, ezw_in c25 → ∀ x81_26 : Int → Int, ∀ x83_26 : Int → Int, ezm_T (0) x2_1 x3_1 c7 x8_8 x13_8 i18 x19_8 x20_8 i25 i29 i30 i31 i36 i37 i38 r73 x74_1 x75_1 x76_1 r77 x78_22 x79_24 x80_24 x81_26 x82_8 x83_26 x84_8 r85 r86 r87 r88 r89 r90 r91 r92 r93 r94 r95 → ((0) ≤ c25) → (∀ j, 0 ≤ j → j < c25 → x81_26 j = x82_8 j ∧ x83_26 j = x84_8 j) → ezw_E l ρ B xa Hb D cA d ezq_re217 (ezm_m217nQ  e F A i0 i2 i3 i7 i8 i13 i18 i19 i20 i25 i29 i30 i31 i36 i37 i38 r73 r74 r75 r76 r77 r78 r79 r80 r81 r82 r83 r84 r85 r86 r87 r88 r89 r90 r91 r92 r93 r94 r95 c) 216 [some (ezw_p 72), some (ezw_i c25)] [] (ezm_h e F A (0) x2_1 x3_1 c7 x8_8 x13_8 i18 x19_8 x20_8 i25 i29 i30 i31 i36 i37 i38 r73 x74_1 x75_1 x76_1 r77 x78_22 x79_24 x80_24 x81_26 x82_8 x83_26 x84_8 r85 r86 r87 r88 r89 r90 r91 r92 r93 r94 r95) := by
                refine ezs_up ?_
                intro c25 hc25 ihc25 x81_26 x83_26 hT g_26 nm_26
                refine ezw_iload_n rfl rfl ?_
                refine ezw_aload_n rfl rfl ?_
                refine ezm_g19 rfl ?_
                refine ezw_icmp_ge rfl rfl hc25 ⟨by omega, by omega⟩ (fun h221_26 => ?_) (fun h221_26 => ?_)
                · refine ezw_aload_n rfl rfl ?_
                  refine ezw_aload_n rfl rfl ?_
                  refine ezm_g19 rfl ?_
                  refine ezm_p18 hT rfl ⟨by omega, by omega⟩ (fun hT => ?_)
                  have htr := ezm_TR_of rd_8 c0 c3 (by omega) (fun j j0 j1 => lo_22 j j0 (by omega)) (fun j j0 j1 => lo_24 j j0 (by omega))
                  refine ezw_aload_n rfl rfl ?_
                  refine ezw_call0_0 rfl (by omega) (ezm_at rfl) rfl rfl rfl rfl (ezm_m214n hT (by omega) htr.2.1) ?_
                  rintro _ _ ⟨x25_27, x85_27, x88_27, x89_27, rfl, hT, p27_0, ok_27, rw_27, z20_27, z89_27, rfl⟩
                  have k28 := hT.t25
                  refine ezw_iconst (0) rfl rfl ?_
                  exact ezw_ireturn rfl rfl ⟨(0), x2_1, x3_1, c7, x8_8, x13_8, x19_8, x19_8, x20_8, x25_27, x74_1, x75_1, x76_1, x78_22, x79_24, x80_24, x81_26, x82_8, x83_26, x84_8, x85_27, x88_27, x89_27, rfl, hT, (0), ⟨by decide, by decide⟩, by omega, htr, by rw [show x25_27 = 0 by omega]; exact ok_27, by
                        show (0) = (ezp_rd c 1000 ((0, 0), ezp_D0)).1.1
                        have h8 := st1.1
                        rw [← ezp_rl_1 1000 (((0, 0), ezp_D0), ezv_L0), hez]
                        omega, (fun y => absurd rfl y), (fun _ => by
                        rw [hez]
                        exact ezm_TRF_cp (tr1 (by omega)) (fun j j0 j1 => lo_22 j j0 (by omega)) (fun j j0 j1 => nm_26 j j0 (by omega))), (fun y => absurd rfl y), (fun _ => by
                        rw [hez]
                        exact ezm_MF_cp ml1 (by omega) (fun j j0 j1 => lo_22 j j0 (by omega)) (fun j j0 j1 => lo_24 j j0 (by omega))), (fun y => absurd rfl y), (fun _ => ⟨rw_27, z20_27, by omega, z89_27⟩), rfl⟩
                · refine ezw_aload_n rfl rfl ?_
                  refine ezm_gp (p := 81) rfl (fun _ => rfl) ?_
                  refine ezw_iload_n rfl rfl ?_
                  refine ezw_aload_n rfl rfl ?_
                  refine ezm_gp (p := 82) rfl (fun _ => rfl) ?_
                  refine ezw_iload_n rfl rfl ?_
                  refine ezm_l82 rfl (by omega) (by omega) (fun u29 eu29 => ?_)
                  have ku29 : ezw_il u29 := eu29 ▸ hT.t82 c25
                  refine ezm_s81 hT rfl (by omega) (by omega) ku29 (fun r81_30 hT er81_30 fr81_30 => ?_)
                  refine ezw_aload_n rfl rfl ?_
                  refine ezm_gp (p := 83) rfl (fun _ => rfl) ?_
                  refine ezw_iload_n rfl rfl ?_
                  refine ezw_aload_n rfl rfl ?_
                  refine ezm_gp (p := 84) rfl (fun _ => rfl) ?_
                  refine ezw_iload_n rfl rfl ?_
                  refine ezm_l84 rfl (by omega) (by omega) (fun u31 eu31 => ?_)
                  have ku31 : 0 ≤ u31 ∧ u31 ≤ 23 := eu31 ▸ hT.t84 c25
                  refine ezm_s83 hT rfl (by omega) (by omega) ⟨by omega, by omega⟩ (fun r83_32 hT er83_32 fr83_32 => ?_)
                  refine ezw_iinc (k := c25 + 1) (1) rfl rfl rfl (by omega) rfl ?_
                  refine ezw_goto rfl rfl ?_
                  exact ezw_keepE [true, true] (ihc25 (c25 + 1) (by omega) ⟨by omega, by omega⟩ r81_30 r83_32 hT (by omega) (fun j j0 j1 => by
                        by_cases hj : j = c25
                        · subst hj
                          rw [er81_30, eu29, er83_32, eu31]
                          exact ⟨rfl, rfl⟩
                        · rw [fr81_30 j hj, fr83_32 j hj]
                          exact nm_26 j j0 (by omega)))
              exact ezw_keepE [true, true] (L216_26 (0) ⟨by decide, by decide⟩ r81 r83 hT (by omega) (fun j j0 j1 => by omega))
            · refine ezw_aload_n rfl rfl ?_
              refine ezm_gp (p := 79) rfl (fun _ => rfl) ?_
              refine ezw_iload_n rfl rfl ?_
              refine ezw_aload_n rfl rfl ?_
              refine ezm_gp (p := 79) rfl (fun _ => rfl) ?_
              refine ezw_sipush (1100) rfl rfl ?_
              refine ezw_iload_n rfl rfl ?_
              refine ezw_iadd (k := c23 + 1100) rfl (by omega) ?_
              refine ezm_l79 rfl (by omega) (by omega) (fun u33 eu33 => ?_)
              have ku33 : ezw_in u33 := eu33 ▸ hT.t79 (c23 + 1100)
              refine ezm_s79 hT rfl (by omega) (by omega) ku33 (fun r79_34 hT er79_34 fr79_34 => ?_)
              refine ezw_aload_n rfl rfl ?_
              refine ezm_gp (p := 80) rfl (fun _ => rfl) ?_
              refine ezw_iload_n rfl rfl ?_
              refine ezw_aload_n rfl rfl ?_
              refine ezm_gp (p := 80) rfl (fun _ => rfl) ?_
              refine ezw_sipush (1100) rfl rfl ?_
              refine ezw_iload_n rfl rfl ?_
              refine ezw_iadd (k := c23 + 1100) rfl (by omega) ?_
              refine ezm_l80 rfl (by omega) (by omega) (fun u35 eu35 => ?_)
              have ku35 : ezw_in u35 := eu35 ▸ hT.t80 (c23 + 1100)
              refine ezm_s80 hT rfl (by omega) (by omega) ku35 (fun r80_36 hT er80_36 fr80_36 => ?_)
              refine ezw_iinc (k := c23 + 1) (1) rfl rfl rfl (by omega) rfl ?_
              refine ezw_goto rfl rfl ?_
              exact ezw_keepE [true, true] (ihc23 (c23 + 1) (by omega) ⟨by omega, by omega⟩ r79_34 r80_36 hT (by omega) (fun j hj => by rw [fr79_34 j (by omega), fr80_36 j (by omega)]; exact hi_24 j hj) (fun j j0 j1 => by
                    by_cases hj : j = c23
                    · subst hj
                      rw [er79_34, eu33, er80_36, eu35]
                      exact hi_24 _ (by omega)
                    · rw [fr79_34 j hj, fr80_36 j hj]
                      exact lo_24 j j0 (by omega)))
          exact ezw_keepE [true, true] (L168_24 (0) ⟨by decide, by decide⟩ x79_8 x80_8 hT (by omega) (fun _ _ => ⟨rfl, rfl⟩) (fun j j0 j1 => by omega))
        · refine ezw_aload_n rfl rfl ?_
          refine ezm_gp (p := 78) rfl (fun _ => rfl) ?_
          refine ezw_iload_n rfl rfl ?_
          refine ezw_aload_n rfl rfl ?_
          refine ezm_gp (p := 78) rfl (fun _ => rfl) ?_
          refine ezw_bipush (100) rfl rfl ?_
          refine ezw_iload_n rfl rfl ?_
          refine ezw_iadd (k := c21 + 100) rfl (by omega) ?_
          refine ezm_l78 rfl (by omega) (by omega) (fun u37 eu37 => ?_)
          have ku37 : ezm_k78 (c21 + 100) u37 := eu37 ▸ hT.t78 (c21 + 100)
          refine ezm_s78 hT rfl (by omega) (by omega) (ezm_k78_sh (by omega) ku37) (fun r78_38 hT er78_38 fr78_38 => ?_)
          refine ezw_iinc (k := c21 + 1) (1) rfl rfl rfl (by omega) rfl ?_
          refine ezw_goto rfl rfl ?_
          exact ezw_keepE [true, true] (ihc21 (c21 + 1) (by omega) ⟨by omega, by omega⟩ r78_38 hT (by omega) (fun j hj => by rw [fr78_38 j (by omega), hi_22 j hj]) (fun j j0 j1 => by
                by_cases hj : j = c21
                · subst hj
                  rw [er78_38, eu37, hi_22 _ (by omega)]
                · rw [fr78_38 j hj, lo_22 j j0 (by omega)]))
      exact ezw_keepE [true, true] (L139_22 (0) ⟨by decide, by decide⟩ x78_8 hT (by omega) (fun _ _ => rfl) (fun j j0 j1 => by omega))
    · have z1 : zz.1.1.1 = 0 := by omega
      replace sk1 := sk1 z1
      replace sa1 := sa1 z1
      have hne : x74_1 c7 ≠ 0 := by omega
      have hlt := ezm_lt (by omega) hs hne
      have hK : ezp_K c zz.1.1.2 ≠ 102 := by omega
      clear sk1
      have hm1 := hm (by omega)
      obtain ⟨m0, rfl⟩ : ∃ m0, m = m0 + 1 := ⟨m - 1, by omega⟩
      refine ezw_aload_n rfl rfl ?_
      refine ezw_iconst (0) rfl rfl ?_
      refine ezw_call0_1 rfl (by omega) (ezm_at rfl) rfl rfl rfl rfl (ezm_m223_v0p hT (by omega) (by omega) hs (by omega) tk hM st1) ?_
      rintro _ _ ⟨rfl, u40, hu40, f_39, w_39, q1_39, q0_39, rfl⟩
      refine ezw_if_eq rfl rfl ⟨by omega, by omega⟩ (fun h54_40 => ?_) (fun h54_40 => ?_)
      · refine ezw_aload_n rfl rfl ?_
        refine ezw_bipush (9) rfl rfl ?_
        refine ezw_call0_1 rfl (by omega) (ezm_at rfl) rfl rfl rfl rfl (ezm_m223_v9p hT (by omega) (by omega) hs (by omega) tk hM st1) ?_
        rintro _ _ ⟨rfl, u42, hu42, f_41, w_41, q1_41, q0_41, rfl⟩
        refine ezw_if_eq rfl rfl ⟨by omega, by omega⟩ (fun h70_42 => ?_) (fun h70_42 => ?_)
        · refine ezw_aload_n rfl rfl ?_
          refine ezw_bipush (12) rfl rfl ?_
          refine ezw_call0_1 rfl (by omega) (ezm_at rfl) rfl rfl rfl rfl (ezm_m223_v12p hT (by omega) (by omega) hs (by omega) tk hM st1) ?_
          rintro _ _ ⟨rfl, u44, hu44, f_43, w_43, q1_43, q0_43, rfl⟩
          refine ezw_if_eq rfl rfl ⟨by omega, by omega⟩ (fun h86_44 => ?_) (fun h86_44 => ?_)
          · refine ezw_aload_n rfl rfl ?_
            refine ezw_bipush (20) rfl rfl ?_
            refine ezw_call0_1 rfl (by omega) (ezm_at rfl) rfl rfl rfl rfl (ezm_m223_v20p hT (by omega) (by omega) hs (by omega) tk hM st1) ?_
            rintro _ _ ⟨rfl, u46, hu46, f_45, w_45, q1_45, q0_45, rfl⟩
            refine ezw_if_eq rfl rfl ⟨by omega, by omega⟩ (fun h102_46 => ?_) (fun h102_46 => ?_)
            · refine ezw_aload_n rfl rfl ?_
              refine ezw_call0_0 rfl (by omega) (ezm_at rfl) rfl rfl rfl rfl (ezm_m241p hT (by omega) (by omega) hs (by omega) (by omega) (by omega) rd_8 tk hM st1 (tr1 (by omega)) (by omega) tp) ?_
              rintro _ _ ⟨x7_47, x8_47, x13_47, x20_47, x78_47, x79_47, x80_47, rfl, hT, p47_0, p47_1, fb_47, fo_47, rd_47, sb_47, tr_47, ml_47, rfl⟩
              have k48 := hT.t7
              have k49 := hT.t8
              have k50 := hT.t13
              have k51 := hT.t20
              obtain ⟨s2, stS, hs2⟩ := sb_47
              refine ezw_aload_n rfl rfl ?_
              refine ezw_bipush (59) rfl rfl ?_
              refine ezw_call0_1 rfl (by omega) (ezm_at rfl) rfl rfl rfl rfl (ezm_m253p hT (by omega) ⟨by decide, by decide⟩ (by omega) hs (by omega) tk hM stS (by omega)) ?_
              rintro _ _ ⟨x7_52, x8_52, rfl, hT, p52_0, p52_1, p52_2, st_52, rfl⟩
              have k53 := hT.t7
              have k54 := hT.t8
              refine ezw_goto rfl rfl ?_
              by_cases hq256 : x8_52 ≠ 0
              · exact ezw_keepE [true, false] (X30_8 x7_52 ⟨by omega, by omega⟩ x8_52 x13_47 x19_8 x20_47 x78_47 x79_47 x80_47 x82_8 x84_8 hT (by omega) (fun j hj => by rw [fb_47 j hj, fb_8 j hj]) (ezm_fr_t fo_8 fo_47 (by omega)) (⟨(ezp_lne c zz.1.2 zz.1.1, ezp_lnl c zz.1.2 zz.1.1 zz.2), m0, (by rw [hq, ezp_rl_s ⟨z1, hK⟩]), (by have h9 := st_52; rw [show ezp_w c (200 + 59) s2 = _ from hs2] at h9; exact h9), (fun z => tr_47 (by omega)), (fun z => by omega), ml_47 zz.2 ml1⟩) hq256)
              · exact ezw_keepE [true, false] (ihc7 x7_52 (by omega) ⟨by omega, by omega⟩ x8_52 x13_47 x19_8 x20_47 x78_47 x79_47 x80_47 x82_8 x84_8 hT (by omega) (by omega) (fun j hj => by rw [fb_47 j hj, fb_8 j hj]) (ezm_fr_t fo_8 fo_47 (by omega)) (by omega) (rd_47 (by omega)) (⟨(ezp_lne c zz.1.2 zz.1.1, ezp_lnl c zz.1.2 zz.1.1 zz.2), m0, (by rw [hq, ezp_rl_s ⟨z1, hK⟩]), (by have h9 := st_52; rw [show ezp_w c (200 + 59) s2 = _ from hs2] at h9; exact h9), (fun z => tr_47 (by omega)), (fun z => by omega), ml_47 zz.2 ml1⟩))
            · refine ezw_aload_n rfl rfl ?_
              refine ezw_call0_0 rfl (by omega) (ezm_at rfl) rfl rfl rfl rfl (ezm_m240p hT (by omega) (by omega) (by omega) hs (by omega) (by omega) (by omega) rd_8 tk hM st1 (tr1 (by omega)) (by omega)) ?_
              rintro _ _ ⟨x7_55, x8_55, x78_55, rfl, hT, p55_0, fb_55, rd_55, sb_55, tr_55, l5_55, rfl⟩
              have k56 := hT.t7
              have k57 := hT.t8
              refine ezw_goto rfl rfl ?_
              obtain ⟨s2, stS, hs2⟩ := sb_55
              refine ezw_aload_n rfl rfl ?_
              refine ezw_bipush (59) rfl rfl ?_
              refine ezw_call0_1 rfl (by omega) (ezm_at rfl) rfl rfl rfl rfl (ezm_m253p hT (by omega) ⟨by decide, by decide⟩ (by omega) hs (by omega) tk hM stS (by omega)) ?_
              rintro _ _ ⟨x7_58, x8_58, rfl, hT, p58_0, p58_1, p58_2, st_58, rfl⟩
              have k59 := hT.t7
              have k60 := hT.t8
              refine ezw_goto rfl rfl ?_
              by_cases hq273 : x8_58 ≠ 0
              · exact ezw_keepE [true, false] (X30_8 x7_58 ⟨by omega, by omega⟩ x8_58 x13_8 x19_8 x20_8 x78_55 x79_8 x80_8 x82_8 x84_8 hT (by omega) (fun j hj => by rw [fb_55 j hj, fb_8 j hj]) fo_8 (⟨(ezp_lne c zz.1.2 zz.1.1, ezp_lnl c zz.1.2 zz.1.1 zz.2), m0, (by rw [hq, ezp_rl_s ⟨z1, hK⟩]), (by have h9 := st_58; rw [show ezp_w c (200 + 59) s2 = _ from hs2] at h9; exact h9), (fun z => tr_55 (by omega)), (fun z => by omega), (by rw [ezp_lnl_k ⟨by omega, by omega⟩]; exact ezm_ML_78 ml1 (l5_55 115 (by decide) (by decide)) (l5_55 116 (by decide) (by decide)))⟩) hq273)
              · exact ezw_keepE [true, false] (ihc7 x7_58 (by omega) ⟨by omega, by omega⟩ x8_58 x13_8 x19_8 x20_8 x78_55 x79_8 x80_8 x82_8 x84_8 hT (by omega) (by omega) (fun j hj => by rw [fb_55 j hj, fb_8 j hj]) fo_8 (by omega) (rd_55 (by omega)) (⟨(ezp_lne c zz.1.2 zz.1.1, ezp_lnl c zz.1.2 zz.1.1 zz.2), m0, (by rw [hq, ezp_rl_s ⟨z1, hK⟩]), (by have h9 := st_58; rw [show ezp_w c (200 + 59) s2 = _ from hs2] at h9; exact h9), (fun z => tr_55 (by omega)), (fun z => by omega), (by rw [ezp_lnl_k ⟨by omega, by omega⟩]; exact ezm_ML_78 ml1 (l5_55 115 (by decide) (by decide)) (l5_55 116 (by decide) (by decide)))⟩))
          · refine ezw_aload_n rfl rfl ?_
            refine ezw_call0_0 rfl (by omega) (ezm_at rfl) rfl rfl rfl rfl (ezm_m238p hT (by omega) (by omega) (by omega) hs (by omega) (by omega) (by omega) rd_8 tk hM st1 (tr1 (by omega)) (by omega)) ?_
            rintro _ _ ⟨x7_61, x8_61, x78_61, rfl, hT, p61_0, fb_61, rd_61, sb_61, tr_61, l5_61, rfl⟩
            have k62 := hT.t7
            have k63 := hT.t8
            refine ezw_goto rfl rfl ?_
            obtain ⟨s2, stS, hs2⟩ := sb_61
            refine ezw_aload_n rfl rfl ?_
            refine ezw_bipush (59) rfl rfl ?_
            refine ezw_call0_1 rfl (by omega) (ezm_at rfl) rfl rfl rfl rfl (ezm_m253p hT (by omega) ⟨by decide, by decide⟩ (by omega) hs (by omega) tk hM stS (by omega)) ?_
            rintro _ _ ⟨x7_64, x8_64, rfl, hT, p64_0, p64_1, p64_2, st_64, rfl⟩
            have k65 := hT.t7
            have k66 := hT.t8
            refine ezw_goto rfl rfl ?_
            by_cases hq290 : x8_64 ≠ 0
            · exact ezw_keepE [true, false] (X30_8 x7_64 ⟨by omega, by omega⟩ x8_64 x13_8 x19_8 x20_8 x78_61 x79_8 x80_8 x82_8 x84_8 hT (by omega) (fun j hj => by rw [fb_61 j hj, fb_8 j hj]) fo_8 (⟨(ezp_lne c zz.1.2 zz.1.1, ezp_lnl c zz.1.2 zz.1.1 zz.2), m0, (by rw [hq, ezp_rl_s ⟨z1, hK⟩]), (by have h9 := st_64; rw [show ezp_w c (200 + 59) s2 = _ from hs2] at h9; exact h9), (fun z => tr_61 (by omega)), (fun z => by omega), (by rw [ezp_lnl_k ⟨by omega, by omega⟩]; exact ezm_ML_78 ml1 (l5_61 115 (by decide) (by decide)) (l5_61 116 (by decide) (by decide)))⟩) hq290)
            · exact ezw_keepE [true, false] (ihc7 x7_64 (by omega) ⟨by omega, by omega⟩ x8_64 x13_8 x19_8 x20_8 x78_61 x79_8 x80_8 x82_8 x84_8 hT (by omega) (by omega) (fun j hj => by rw [fb_61 j hj, fb_8 j hj]) fo_8 (by omega) (rd_61 (by omega)) (⟨(ezp_lne c zz.1.2 zz.1.1, ezp_lnl c zz.1.2 zz.1.1 zz.2), m0, (by rw [hq, ezp_rl_s ⟨z1, hK⟩]), (by have h9 := st_64; rw [show ezp_w c (200 + 59) s2 = _ from hs2] at h9; exact h9), (fun z => tr_61 (by omega)), (fun z => by omega), (by rw [ezp_lnl_k ⟨by omega, by omega⟩]; exact ezm_ML_78 ml1 (l5_61 115 (by decide) (by decide)) (l5_61 116 (by decide) (by decide)))⟩))
        · refine ezw_aload_n rfl rfl ?_
          refine ezw_call0_0 rfl (by omega) (ezm_at rfl) rfl rfl rfl rfl (ezm_m237p hT (by omega) (by omega) (by omega) hs (by omega) (by omega) (by omega) rd_8 tk hM st1 (tr1 (by omega)) (by omega)) ?_
          rintro _ _ ⟨x7_67, x8_67, x19_67, x78_67, x82_67, x84_67, rfl, hT, p67_0, fb_67, rd_67, sb_67, tr_67, l5_67, rfl⟩
          have k68 := hT.t7
          have k69 := hT.t8
          have k70 := hT.t19
          refine ezw_goto rfl rfl ?_
          obtain ⟨s2, stS, hs2⟩ := sb_67
          refine ezw_aload_n rfl rfl ?_
          refine ezw_bipush (59) rfl rfl ?_
          refine ezw_call0_1 rfl (by omega) (ezm_at rfl) rfl rfl rfl rfl (ezm_m253p hT (by omega) ⟨by decide, by decide⟩ (by omega) hs (by omega) tk hM stS (by omega)) ?_
          rintro _ _ ⟨x7_71, x8_71, rfl, hT, p71_0, p71_1, p71_2, st_71, rfl⟩
          have k72 := hT.t7
          have k73 := hT.t8
          refine ezw_goto rfl rfl ?_
          by_cases hq308 : x8_71 ≠ 0
          · exact ezw_keepE [true, false] (X30_8 x7_71 ⟨by omega, by omega⟩ x8_71 x13_8 x19_67 x20_8 x78_67 x79_8 x80_8 x82_67 x84_67 hT (by omega) (fun j hj => by rw [fb_67 j hj, fb_8 j hj]) fo_8 (⟨(ezp_lne c zz.1.2 zz.1.1, ezp_lnl c zz.1.2 zz.1.1 zz.2), m0, (by rw [hq, ezp_rl_s ⟨z1, hK⟩]), (by have h9 := st_71; rw [show ezp_w c (200 + 59) s2 = _ from hs2] at h9; exact h9), (fun z => tr_67 (by omega)), (fun z => by omega), (by rw [ezp_lnl_k ⟨by omega, by omega⟩]; exact ezm_ML_78 ml1 (l5_67 115 (by decide) (by decide)) (l5_67 116 (by decide) (by decide)))⟩) hq308)
          · exact ezw_keepE [true, false] (ihc7 x7_71 (by omega) ⟨by omega, by omega⟩ x8_71 x13_8 x19_67 x20_8 x78_67 x79_8 x80_8 x82_67 x84_67 hT (by omega) (by omega) (fun j hj => by rw [fb_67 j hj, fb_8 j hj]) fo_8 (by omega) (rd_67 (by omega)) (⟨(ezp_lne c zz.1.2 zz.1.1, ezp_lnl c zz.1.2 zz.1.1 zz.2), m0, (by rw [hq, ezp_rl_s ⟨z1, hK⟩]), (by have h9 := st_71; rw [show ezp_w c (200 + 59) s2 = _ from hs2] at h9; exact h9), (fun z => tr_67 (by omega)), (fun z => by omega), (by rw [ezp_lnl_k ⟨by omega, by omega⟩]; exact ezm_ML_78 ml1 (l5_67 115 (by decide) (by decide)) (l5_67 116 (by decide) (by decide)))⟩))
      · refine ezw_aload_n rfl rfl ?_
        refine ezw_call0_0 rfl (by omega) (ezm_at rfl) rfl rfl rfl rfl (ezm_m224p hT (by omega) (by omega) (by omega) hs (by omega) (by omega) (by omega) rd_8 tk hM st1 (tr1 (by omega)) (by omega)) ?_
        rintro _ _ ⟨x7_74, x8_74, x19_74, x78_74, x82_74, x84_74, rfl, hT, p74_0, fb_74, rd_74, sb_74, tr_74, l5_74, rfl⟩
        have k75 := hT.t7
        have k76 := hT.t8
        have k77 := hT.t19
        refine ezw_goto rfl rfl ?_
        obtain ⟨s2, stS, hs2⟩ := sb_74
        refine ezw_aload_n rfl rfl ?_
        refine ezw_bipush (59) rfl rfl ?_
        refine ezw_call0_1 rfl (by omega) (ezm_at rfl) rfl rfl rfl rfl (ezm_m253p hT (by omega) ⟨by decide, by decide⟩ (by omega) hs (by omega) tk hM stS (by omega)) ?_
        rintro _ _ ⟨x7_78, x8_78, rfl, hT, p78_0, p78_1, p78_2, st_78, rfl⟩
        have k79 := hT.t7
        have k80 := hT.t8
        refine ezw_goto rfl rfl ?_
        by_cases hq326 : x8_78 ≠ 0
        · exact ezw_keepE [true, false] (X30_8 x7_78 ⟨by omega, by omega⟩ x8_78 x13_8 x19_74 x20_8 x78_74 x79_8 x80_8 x82_74 x84_74 hT (by omega) (fun j hj => by rw [fb_74 j hj, fb_8 j hj]) fo_8 (⟨(ezp_lne c zz.1.2 zz.1.1, ezp_lnl c zz.1.2 zz.1.1 zz.2), m0, (by rw [hq, ezp_rl_s ⟨z1, hK⟩]), (by have h9 := st_78; rw [show ezp_w c (200 + 59) s2 = _ from hs2] at h9; exact h9), (fun z => tr_74 (by omega)), (fun z => by omega), (by rw [ezp_lnl_k ⟨by omega, by omega⟩]; exact ezm_ML_78 ml1 (l5_74 115 (by decide) (by decide)) (l5_74 116 (by decide) (by decide)))⟩) hq326)
        · exact ezw_keepE [true, false] (ihc7 x7_78 (by omega) ⟨by omega, by omega⟩ x8_78 x13_8 x19_74 x20_8 x78_74 x79_8 x80_8 x82_74 x84_74 hT (by omega) (by omega) (fun j hj => by rw [fb_74 j hj, fb_8 j hj]) fo_8 (by omega) (rd_74 (by omega)) (⟨(ezp_lne c zz.1.2 zz.1.1, ezp_lnl c zz.1.2 zz.1.1 zz.2), m0, (by rw [hq, ezp_rl_s ⟨z1, hK⟩]), (by have h9 := st_78; rw [show ezp_w c (200 + 59) s2 = _ from hs2] at h9; exact h9), (fun z => tr_74 (by omega)), (fun z => by omega), (by rw [ezp_lnl_k ⟨by omega, by omega⟩]; exact ezm_ML_78 ml1 (l5_74 115 (by decide) (by decide)) (l5_74 116 (by decide) (by decide)))⟩))
  exact ezw_keepE [true, false] (L30_8 x7_1 ⟨by omega, by omega⟩ x8_1 (0) (0) (0) x78_6 r79 r80 r82 r84 hT (by omega) (by omega) fb_6 (ezm_fr_r _ _ _) (by omega) (ezm_RD_0 q0_6 q1_6 q3_6 q15_6 q16_6) (⟨(((0, 0), ezp_D0), ezv_L0), 1000, rfl, ⟨show x8_1 = 0 by omega, fun _ => show x7_1 = 0 by omega⟩, fun _ => ezm_TRE_0 zz_6 q5_6 q13_6 q14_6, fun _ => by omega, ezm_ML_0 q15_6 q16_6⟩))
end KM6
