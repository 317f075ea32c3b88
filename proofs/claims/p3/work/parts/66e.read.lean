/-! ===== the program: a tree read ===== -/
section KT
variable {l : Launch} {ρ : ezq_E} {B : Nat} {xa : Nat → Option Nat} {Hb : Heap} {D : va_G} {cA : Nat → ClassId} {d : Nat} {e : Bool × Bool}
def ezt_m23_4_1_30Q (e : Bool × Bool) (F : Nat → Nat → Int) (A : Nat → Int → Int) (c : Int → Int) (n : Int) : Option ezq_V → (Nat → ezq_C) → Prop := fun v g' => ∃ (F' : Nat → Nat → Int) (A' : Nat → Int → Int), ezu_g e F' A' = g' ∧ ezs_T F' A' ∧ (∀ p j, ¬ (p = 1 ∧ (j = 2 ∨ j = 3 ∨ j = 4 ∨ j = 5 ∨ j = 6 ∨ j = 7 ∨ j = 8 ∨ j = 9) ∨ p = 4 ∧ (j = 2) ∨ p = 5 ∧ (j = 3 ∨ j = 4 ∨ j = 5) ∨ p = 9 ∧ (j = 3 ∨ j = 4 ∨ j = 5) ∨ p = 30 ∧ (j = 15 ∨ j = 16 ∨ j = 17) ∨ p = 38 ∧ (j = 1)) → F' p j = F p j) ∧ (∀ p, ¬ (p = 6 ∨ p = 7 ∨ p = 8 ∨ p = 10 ∨ p = 11 ∨ p = 12 ∨ p = 31 ∨ p = 32 ∨ p = 33 ∨ p = 34 ∨ p = 35 ∨ p = 36 ∨ p = 37 ∨ p = 39 ∨ p = 40 ∨ p = 41 ∨ p = 42 ∨ p = 43 ∨ p = 44 ∨ p = 45 ∨ p = 46) → A' p = A p) ∧ ∃ u : Int, (ezw_in u) ∧ (u = ezp_tree c) ∧ (F' 1 2 = 0) ∧ (u = 0 → ezt_TR 30 (ezp_rd c 1000 ((0, 0), ezp_D0)).2 F' A' ∧ ezt_NU 30 (ezp_rd c 1000 ((0, 0), ezp_D0)).2 A') ∧ some (ezw_i u) = v
theorem ezt_m23_4_1_30 {c : Int → Int} {n : Int} {F : Nat → Nat → Int} {A : Nat → Int → Int} (hS : ezs_T F A) (hd : 43 ≤ d) (hn : F 1 2 = n) (hc : c = ezp_ch (A 2) n) (tp : ezp_tp c n) (hw : ∀ j, 0 ≤ j → j < 48 → A 3 j = ezl_cw.getD j.toNat 0) : ezw_C l ρ B xa Hb D cA 23 d [ezw_p 4, ezw_p 1, ezw_p 30] (ezu_g e F A) (ezt_m23_4_1_30Q e F A c n) := by
  refine ezw_met (k := 1) rfl rfl ?_
  have hn0 := tp.1
  have hn1 := tp.2.1
  refine ezw_aload_n rfl rfl ?_
  refine ezw_call0_0 rfl (by omega) (ezu_at rfl) rfl rfl rfl rfl (ezt_m24_30 hS (by omega)) ?_
  rintro _ _ ⟨F1, A1, rfl, hS, nF1, nA1, tr_1, nu_1, rfl⟩
  refine ezw_aload_n rfl rfl ?_
  refine ezs_getp (p := 5) rfl rfl rfl rfl rfl ?_
  refine ezw_call0_0 rfl (by omega) (ezu_at rfl) rfl rfl rfl rfl (ezt_m28_5 hS (by omega)) ?_
  rintro _ _ ⟨F2, rfl, hS, nF2, p2_0, p2_1, rfl⟩
  refine ezw_aload_n rfl rfl ?_
  refine ezs_getp (p := 9) rfl rfl rfl rfl rfl ?_
  refine ezw_call0_0 rfl (by omega) (ezu_at rfl) rfl rfl rfl rfl (ezt_m28_9 hS (by omega)) ?_
  rintro _ _ ⟨F3, rfl, hS, nF3, p3_0, p3_1, rfl⟩
  refine ezw_aload_n rfl rfl ?_
  refine ezw_iconst (0) rfl rfl ?_
  refine ezy_put_i hS rfl rfl rfl rfl rfl ⟨by decide, by decide⟩ (fun F4 hS mF4 nF4 => ?_)
  refine ezw_aload_n rfl rfl ?_
  refine ezw_call0_0 rfl (by omega) (ezu_at rfl) rfl rfl rfl rfl (ezt_m29_1 hS (by omega) (by rw [nF4 1 2 (by decide), nF3 1 2 (by decide), nF2 1 2 (by decide), nF1 1 2 (by decide)]; exact hn) (by rw [nA1 2 (by decide)]; exact hc) tp (by rw [nA1 3 (by decide)]; exact hw)) ?_
  rintro _ _ ⟨F5, rfl, hS, nF5, st_5, rfl⟩
  refine ezw_iconst (0) rfl rfl ?_
  refine ezw_istore_n rfl rfl ?_
  have L29_7 : ∀ c6 : Int, ezw_in c6 → ∀ F_7 : Nat → Nat → Int, ∀ A_7 : Nat → Int → Int, ezs_T F_7 A_7 → (∀ p j, ¬ (p = 1 ∧ (j = 3 ∨ j = 4 ∨ j = 5 ∨ j = 6 ∨ j = 7 ∨ j = 8 ∨ j = 9) ∨ p = 4 ∧ (j = 2) ∨ p = 5 ∧ (j = 3 ∨ j = 4) ∨ p = 9 ∧ (j = 3 ∨ j = 4) ∨ p = 30 ∧ (j = 15 ∨ j = 16 ∨ j = 17) ∨ p = 38 ∧ (j = 1)) → F_7 p j = F5 p j) → (∀ p, ¬ (p = 6 ∨ p = 10 ∨ p = 31 ∨ p = 32 ∨ p = 33 ∨ p = 34 ∨ p = 35 ∨ p = 36 ∨ p = 37 ∨ p = 39 ∨ p = 40 ∨ p = 41 ∨ p = 42 ∨ p = 43 ∨ p = 44) → A_7 p = A1 p) → ((0) ≤ c6) → (∃ zz : (Int × Int) × ezp_D, ezp_rd c 1000 ((0, 0), ezp_D0) = ezp_rd c (1000 - c6).toNat zz ∧ ezt_ST c n zz.1 F_7 ∧ ezt_TR 30 zz.2 F_7 A_7 ∧ (zz.1.1 = 0 → ezt_NU 30 zz.2 A_7) ∧ (zz.1.1 = 0 → ezt_DI zz.2 F_7)) → ezw_E l ρ B xa Hb D cA d ezq_re23 (ezt_m23_4_1_30Q e F A c n) 29 [some (ezw_p 4), some (ezw_p 1), some (ezw_p 30), some (ezw_i c6)] [] (ezu_g e F_7 A_7) := by
    refine ezs_up ?_
    intro c6 hc6 ihc6 F_7 A_7 hS nF_7 nA_7 g_7 iv_7
    obtain ⟨zz, hq, st1, tr1, nu1, di1⟩ := iv_7
    have hs1 := st1.1
    refine ezw_iload_n rfl rfl ?_
    refine ezw_sipush (1000) rfl rfl ?_
    refine ezw_icmp_ge rfl rfl hc6 ⟨by decide, by decide⟩ (fun h33_7 => ?_) (fun h33_7 => ?_)
    · have hez : ezp_rd c 1000 ((0, 0), ezp_D0) = zz := by
        rw [hq, show (1000 - c6).toNat = 0 by omega]
        rfl
      refine ezw_aload_n rfl rfl ?_
      refine ezw_call0_0 rfl (by omega) (ezu_at rfl) rfl rfl rfl rfl (ezt_m45_1 hS (by omega)) ?_
      rintro _ _ ⟨rfl, u9, hu9, p8_0, p8_1, rfl⟩
      refine ezw_if_eq rfl rfl ⟨by omega, by omega⟩ (fun h68_9 => ?_) (fun h68_9 => ?_)
      · refine ezw_aload_n rfl rfl ?_
        refine ezw_call0_0 rfl (by omega) (ezu_at rfl) rfl rfl rfl rfl (ezt_m93_1 hS (by omega)) ?_
        rintro _ _ ⟨F10, rfl, hS, nF10, u11, hu11, p10_0, p10_1, rfl⟩
        exact ezw_ireturn rfl rfl ⟨F10, A_7, rfl, hS, (fun p j h => by rw [nF10 p j (by omega), nF_7 p j (by omega), nF5 p j (by omega), nF4 p j (by omega), nF3 p j (by omega), nF2 p j (by omega), nF1 p j (by omega)]), (fun p h => by
              funext j
              rw [nA_7 p (by omega), nA1 p (by omega)]), u11, hu11, (by
              show u11 = (ezp_rd c 1000 ((0, 0), ezp_D0)).1.1
              rw [hez, ← st1.1, p10_0]), p10_1, (fun y => by
              have h7 : zz.1.1 = 0 := by
                rw [← st1.1, ← y, p10_0]
              rw [hez]
              exact ⟨(ezt_TR_fr tr1 (by rw [nF10 30 15 (by decide)]) (by rw [nF10 30 16 (by decide)]) (by rw [nF10 30 17 (by decide)]) (by rw [nF10 38 1 (by decide)]) (fun _ _ _ => rfl)), ezt_NU_eq (nu1 h7) rfl rfl⟩), rfl⟩
      · have htw := tr1.1.1
        have htk := tr1.2.1
        refine ezw_aload_n rfl rfl ?_
        refine ezw_aload_n rfl rfl ?_
        refine ezs_getp (p := 5) rfl rfl rfl rfl rfl ?_
        refine ezw_aload_n rfl rfl ?_
        refine ezs_getp (p := 9) rfl rfl rfl rfl rfl ?_
        refine ezw_call0_2 rfl (by omega) (ezu_at rfl) rfl rfl rfl rfl (ezt_m85_30_5_9 hS (by omega) (by omega)) ?_
        rintro _ _ ⟨F12, A12, rfl, hS, nF12, nA12, rfl⟩
        refine ezw_aload_n rfl rfl ?_
        refine ezw_call0_0 rfl (by omega) (ezu_at rfl) rfl rfl rfl rfl (ezt_m93_1 hS (by omega)) ?_
        rintro _ _ ⟨F13, rfl, hS, nF13, u14, hu14, p13_0, p13_1, rfl⟩
        exact ezw_ireturn rfl rfl ⟨F13, A12, rfl, hS, (fun p j h => by rw [nF13 p j (by omega), nF12 p j (by omega), nF_7 p j (by omega), nF5 p j (by omega), nF4 p j (by omega), nF3 p j (by omega), nF2 p j (by omega), nF1 p j (by omega)]), (fun p h => by
              funext j
              rw [nA12 p (by omega), nA_7 p (by omega), nA1 p (by omega)]), u14, hu14, (by
              show u14 = (ezp_rd c 1000 ((0, 0), ezp_D0)).1.1
              rw [hez, ← st1.1, p13_0, nF12 1 6 (by decide)]), p13_1, (fun y => by
              have h7 : zz.1.1 = 0 := by
                rw [← st1.1, ← y, p13_0, nF12 1 6 (by decide)]
              rw [hez]
              exact ⟨(ezt_TR_fr tr1 (by rw [nF13 30 15 (by decide), nF12 30 15 (by decide)]) (by rw [nF13 30 16 (by decide), nF12 30 16 (by decide)]) (by rw [nF13 30 17 (by decide), nF12 30 17 (by decide)]) (by rw [nF13 38 1 (by decide), nF12 38 1 (by decide)]) (fun k k1 k2 => by rw [nA12 (30 + k) (by omega)])), ezt_NU_eq (nu1 h7) rfl (by rw [nA12 44 (by decide)])⟩), rfl⟩
    · refine ezw_aload_n rfl rfl ?_
      refine ezw_call0_0 rfl (by omega) (ezu_at rfl) rfl rfl rfl rfl (ezt_m45_1 hS (by omega)) ?_
      rintro _ _ ⟨rfl, u16, hu16, p15_0, p15_1, rfl⟩
      refine ezw_if_eq rfl rfl ⟨by omega, by omega⟩ (fun h40_16 => ?_) (fun h40_16 => ?_)
      · have hez : ezp_rd c 1000 ((0, 0), ezp_D0) = zz := by
          rw [hq, ezp_rd_n (fun y => p15_1 (by omega) (st1.1.trans y.1))]
        refine ezw_aload_n rfl rfl ?_
        refine ezw_call0_0 rfl (by omega) (ezu_at rfl) rfl rfl rfl rfl (ezt_m45_1 hS (by omega)) ?_
        rintro _ _ ⟨rfl, u18, hu18, p17_0, p17_1, rfl⟩
        refine ezw_if_eq rfl rfl ⟨by omega, by omega⟩ (fun h68_18 => ?_) (fun h68_18 => ?_)
        · refine ezw_aload_n rfl rfl ?_
          refine ezw_call0_0 rfl (by omega) (ezu_at rfl) rfl rfl rfl rfl (ezt_m93_1 hS (by omega)) ?_
          rintro _ _ ⟨F19, rfl, hS, nF19, u20, hu20, p19_0, p19_1, rfl⟩
          exact ezw_ireturn rfl rfl ⟨F19, A_7, rfl, hS, (fun p j h => by rw [nF19 p j (by omega), nF_7 p j (by omega), nF5 p j (by omega), nF4 p j (by omega), nF3 p j (by omega), nF2 p j (by omega), nF1 p j (by omega)]), (fun p h => by
                funext j
                rw [nA_7 p (by omega), nA1 p (by omega)]), u20, hu20, (by
                show u20 = (ezp_rd c 1000 ((0, 0), ezp_D0)).1.1
                rw [hez, ← st1.1, p19_0]), p19_1, (fun y => by
                have h7 : zz.1.1 = 0 := by
                  rw [← st1.1, ← y, p19_0]
                rw [hez]
                exact ⟨(ezt_TR_fr tr1 (by rw [nF19 30 15 (by decide)]) (by rw [nF19 30 16 (by decide)]) (by rw [nF19 30 17 (by decide)]) (by rw [nF19 38 1 (by decide)]) (fun _ _ _ => rfl)), ezt_NU_eq (nu1 h7) rfl rfl⟩), rfl⟩
        · have htw := tr1.1.1
          have htk := tr1.2.1
          refine ezw_aload_n rfl rfl ?_
          refine ezw_aload_n rfl rfl ?_
          refine ezs_getp (p := 5) rfl rfl rfl rfl rfl ?_
          refine ezw_aload_n rfl rfl ?_
          refine ezs_getp (p := 9) rfl rfl rfl rfl rfl ?_
          refine ezw_call0_2 rfl (by omega) (ezu_at rfl) rfl rfl rfl rfl (ezt_m85_30_5_9 hS (by omega) (by omega)) ?_
          rintro _ _ ⟨F21, A21, rfl, hS, nF21, nA21, rfl⟩
          refine ezw_aload_n rfl rfl ?_
          refine ezw_call0_0 rfl (by omega) (ezu_at rfl) rfl rfl rfl rfl (ezt_m93_1 hS (by omega)) ?_
          rintro _ _ ⟨F22, rfl, hS, nF22, u23, hu23, p22_0, p22_1, rfl⟩
          exact ezw_ireturn rfl rfl ⟨F22, A21, rfl, hS, (fun p j h => by rw [nF22 p j (by omega), nF21 p j (by omega), nF_7 p j (by omega), nF5 p j (by omega), nF4 p j (by omega), nF3 p j (by omega), nF2 p j (by omega), nF1 p j (by omega)]), (fun p h => by
                funext j
                rw [nA21 p (by omega), nA_7 p (by omega), nA1 p (by omega)]), u23, hu23, (by
                show u23 = (ezp_rd c 1000 ((0, 0), ezp_D0)).1.1
                rw [hez, ← st1.1, p22_0, nF21 1 6 (by decide)]), p22_1, (fun y => by
                have h7 : zz.1.1 = 0 := by
                  rw [← st1.1, ← y, p22_0, nF21 1 6 (by decide)]
                rw [hez]
                exact ⟨(ezt_TR_fr tr1 (by rw [nF22 30 15 (by decide), nF21 30 15 (by decide)]) (by rw [nF22 30 16 (by decide), nF21 30 16 (by decide)]) (by rw [nF22 30 17 (by decide), nF21 30 17 (by decide)]) (by rw [nF22 38 1 (by decide), nF21 38 1 (by decide)]) (fun k k1 k2 => by rw [nA21 (30 + k) (by omega)])), ezt_NU_eq (nu1 h7) rfl (by rw [nA21 44 (by decide)])⟩), rfl⟩
      · have z1 : zz.1.1 = 0 := st1.1.symm.trans (p15_0 (by omega))
        refine ezw_aload_n rfl rfl ?_
        refine ezw_bipush (102) rfl rfl ?_
        refine ezw_call0_1 rfl (by omega) (ezu_at rfl) rfl rfl rfl rfl (ezt_m46_1 hS (by omega) ⟨by decide, by decide⟩ (by rw [nF_7 1 2 (by decide), nF5 1 2 (by decide), nF4 1 2 (by decide), nF3 1 2 (by decide), nF2 1 2 (by decide), nF1 1 2 (by decide)]; exact hn) (by rw [nA_7 2 (by decide), nA1 2 (by decide)]; exact hc) tp st1) ?_
        rintro _ _ ⟨rfl, u25, hu25, p24_0, p24_1, rfl⟩
        refine ezw_if_ne rfl rfl ⟨by omega, by omega⟩ (fun h49_25 => ?_) (fun h49_25 => ?_)
        · have hez : ezp_rd c 1000 ((0, 0), ezp_D0) = zz := by
            rw [hq, ezp_rd_n (fun y => y.2 (p24_0 (by omega)).2)]
          refine ezw_aload_n rfl rfl ?_
          refine ezw_call0_0 rfl (by omega) (ezu_at rfl) rfl rfl rfl rfl (ezt_m45_1 hS (by omega)) ?_
          rintro _ _ ⟨rfl, u27, hu27, p26_0, p26_1, rfl⟩
          refine ezw_if_eq rfl rfl ⟨by omega, by omega⟩ (fun h68_27 => ?_) (fun h68_27 => ?_)
          · refine ezw_aload_n rfl rfl ?_
            refine ezw_call0_0 rfl (by omega) (ezu_at rfl) rfl rfl rfl rfl (ezt_m93_1 hS (by omega)) ?_
            rintro _ _ ⟨F28, rfl, hS, nF28, u29, hu29, p28_0, p28_1, rfl⟩
            exact ezw_ireturn rfl rfl ⟨F28, A_7, rfl, hS, (fun p j h => by rw [nF28 p j (by omega), nF_7 p j (by omega), nF5 p j (by omega), nF4 p j (by omega), nF3 p j (by omega), nF2 p j (by omega), nF1 p j (by omega)]), (fun p h => by
                  funext j
                  rw [nA_7 p (by omega), nA1 p (by omega)]), u29, hu29, (by
                  show u29 = (ezp_rd c 1000 ((0, 0), ezp_D0)).1.1
                  rw [hez, ← st1.1, p28_0]), p28_1, (fun y => by
                  have h7 : zz.1.1 = 0 := by
                    rw [← st1.1, ← y, p28_0]
                  rw [hez]
                  exact ⟨(ezt_TR_fr tr1 (by rw [nF28 30 15 (by decide)]) (by rw [nF28 30 16 (by decide)]) (by rw [nF28 30 17 (by decide)]) (by rw [nF28 38 1 (by decide)]) (fun _ _ _ => rfl)), ezt_NU_eq (nu1 h7) rfl rfl⟩), rfl⟩
          · have htw := tr1.1.1
            have htk := tr1.2.1
            refine ezw_aload_n rfl rfl ?_
            refine ezw_aload_n rfl rfl ?_
            refine ezs_getp (p := 5) rfl rfl rfl rfl rfl ?_
            refine ezw_aload_n rfl rfl ?_
            refine ezs_getp (p := 9) rfl rfl rfl rfl rfl ?_
            refine ezw_call0_2 rfl (by omega) (ezu_at rfl) rfl rfl rfl rfl (ezt_m85_30_5_9 hS (by omega) (by omega)) ?_
            rintro _ _ ⟨F30, A30, rfl, hS, nF30, nA30, rfl⟩
            refine ezw_aload_n rfl rfl ?_
            refine ezw_call0_0 rfl (by omega) (ezu_at rfl) rfl rfl rfl rfl (ezt_m93_1 hS (by omega)) ?_
            rintro _ _ ⟨F31, rfl, hS, nF31, u32, hu32, p31_0, p31_1, rfl⟩
            exact ezw_ireturn rfl rfl ⟨F31, A30, rfl, hS, (fun p j h => by rw [nF31 p j (by omega), nF30 p j (by omega), nF_7 p j (by omega), nF5 p j (by omega), nF4 p j (by omega), nF3 p j (by omega), nF2 p j (by omega), nF1 p j (by omega)]), (fun p h => by
                  funext j
                  rw [nA30 p (by omega), nA_7 p (by omega), nA1 p (by omega)]), u32, hu32, (by
                  show u32 = (ezp_rd c 1000 ((0, 0), ezp_D0)).1.1
                  rw [hez, ← st1.1, p31_0, nF30 1 6 (by decide)]), p31_1, (fun y => by
                  have h7 : zz.1.1 = 0 := by
                    rw [← st1.1, ← y, p31_0, nF30 1 6 (by decide)]
                  rw [hez]
                  exact ⟨(ezt_TR_fr tr1 (by rw [nF31 30 15 (by decide), nF30 30 15 (by decide)]) (by rw [nF31 30 16 (by decide), nF30 30 16 (by decide)]) (by rw [nF31 30 17 (by decide), nF30 30 17 (by decide)]) (by rw [nF31 38 1 (by decide), nF30 38 1 (by decide)]) (fun k k1 k2 => by rw [nA30 (30 + k) (by omega)])), ezt_NU_eq (nu1 h7) rfl (by rw [nA30 44 (by decide)])⟩), rfl⟩
        · have hK : ezp_K c zz.1.2 ≠ 102 := by
            have h7 := p24_1 (by omega)
            omega
          have hm : (1000 - c6).toNat = (1000 - (c6 + 1)).toNat + 1 := by omega
          refine ezw_aload_n rfl rfl ?_
          refine ezw_aload_n rfl rfl ?_
          refine ezw_aload_n rfl rfl ?_
          refine ezw_call0_2 rfl (by omega) (ezu_at rfl) rfl rfl rfl rfl (ezt_m47_4_1_30 hS (by omega) (by rw [nF_7 1 2 (by decide), nF5 1 2 (by decide), nF4 1 2 (by decide), nF3 1 2 (by decide), nF2 1 2 (by decide), nF1 1 2 (by decide)]; exact hn) (by rw [nA_7 2 (by decide), nA1 2 (by decide)]; exact hc) tp (by rw [nA_7 3 (by decide), nA1 3 (by decide)]; exact hw) st1 tr1 nu1 (di1 z1) z1) ?_
          rintro _ _ ⟨F33, A33, rfl, hS, nF33, nA33, st_33, tr_33, nu_33, di_33, rfl⟩
          refine ezw_iinc (k := c6 + 1) (1) rfl rfl rfl (by omega) rfl ?_
          refine ezw_goto rfl rfl ?_
          exact ezw_keepE [true, true, true, true] (ihc6 (c6 + 1) (by omega) ⟨by omega, by omega⟩ F33 A33 hS (fun p j h => by rw [nF33 p j (by omega), nF_7 p j (by omega)]) (fun p h => by
                funext j
                rw [nA33 p (by omega), nA_7 p (by omega)]) (by omega) (⟨ezp_lne c zz.2 zz.1, (by rw [hq, hm, ezp_rd_s ⟨z1, hK⟩]), st_33, tr_33, nu_33, di_33⟩))
  exact ezw_keepE [true, true, true, true] (L29_7 (0) ⟨by decide, by decide⟩ F5 A1 hS (fun _ _ _ => rfl) (fun _ _ => rfl) (by omega) (⟨((0, 0), ezp_D0), rfl, st_5, (ezt_TR_fr tr_1 (by rw [nF5 30 15 (by decide), nF4 30 15 (by decide), nF3 30 15 (by decide), nF2 30 15 (by decide)]) (by rw [nF5 30 16 (by decide), nF4 30 16 (by decide), nF3 30 16 (by decide), nF2 30 16 (by decide)]) (by rw [nF5 30 17 (by decide), nF4 30 17 (by decide), nF3 30 17 (by decide), nF2 30 17 (by decide)]) (by rw [nF5 38 1 (by decide), nF4 38 1 (by decide), nF3 38 1 (by decide), nF2 38 1 (by decide)]) (fun _ _ _ => rfl)), fun _ => ezt_NU_eq nu_1 rfl rfl, fun _ => ezt_DI_0 (by rw [nF5 4 2 (by decide), mF4])⟩))
def ezt_m23_4_1_47Q (e : Bool × Bool) (F : Nat → Nat → Int) (A : Nat → Int → Int) (c : Int → Int) (n : Int) : Option ezq_V → (Nat → ezq_C) → Prop := fun v g' => ∃ (F' : Nat → Nat → Int) (A' : Nat → Int → Int), ezu_g e F' A' = g' ∧ ezs_T F' A' ∧ (∀ p j, ¬ (p = 1 ∧ (j = 2 ∨ j = 3 ∨ j = 4 ∨ j = 5 ∨ j = 6 ∨ j = 7 ∨ j = 8 ∨ j = 9) ∨ p = 4 ∧ (j = 2) ∨ p = 5 ∧ (j = 3 ∨ j = 4 ∨ j = 5) ∨ p = 9 ∧ (j = 3 ∨ j = 4 ∨ j = 5) ∨ p = 47 ∧ (j = 15 ∨ j = 16 ∨ j = 17) ∨ p = 55 ∧ (j = 1)) → F' p j = F p j) ∧ (∀ p, ¬ (p = 6 ∨ p = 7 ∨ p = 8 ∨ p = 10 ∨ p = 11 ∨ p = 12 ∨ p = 48 ∨ p = 49 ∨ p = 50 ∨ p = 51 ∨ p = 52 ∨ p = 53 ∨ p = 54 ∨ p = 56 ∨ p = 57 ∨ p = 58 ∨ p = 59 ∨ p = 60 ∨ p = 61 ∨ p = 62 ∨ p = 63) → A' p = A p) ∧ ∃ u : Int, (ezw_in u) ∧ (u = ezp_tree c) ∧ (F' 1 2 = 0) ∧ (u = 0 → ezt_TR 47 (ezp_rd c 1000 ((0, 0), ezp_D0)).2 F' A' ∧ ezt_NU 47 (ezp_rd c 1000 ((0, 0), ezp_D0)).2 A') ∧ some (ezw_i u) = v
theorem ezt_m23_4_1_47 {c : Int → Int} {n : Int} {F : Nat → Nat → Int} {A : Nat → Int → Int} (hS : ezs_T F A) (hd : 43 ≤ d) (hn : F 1 2 = n) (hc : c = ezp_ch (A 2) n) (tp : ezp_tp c n) (hw : ∀ j, 0 ≤ j → j < 48 → A 3 j = ezl_cw.getD j.toNat 0) : ezw_C l ρ B xa Hb D cA 23 d [ezw_p 4, ezw_p 1, ezw_p 47] (ezu_g e F A) (ezt_m23_4_1_47Q e F A c n) := by
  refine ezw_met (k := 1) rfl rfl ?_
  have hn0 := tp.1
  have hn1 := tp.2.1
  refine ezw_aload_n rfl rfl ?_
  refine ezw_call0_0 rfl (by omega) (ezu_at rfl) rfl rfl rfl rfl (ezt_m24_47 hS (by omega)) ?_
  rintro _ _ ⟨F1, A1, rfl, hS, nF1, nA1, tr_1, nu_1, rfl⟩
  refine ezw_aload_n rfl rfl ?_
  refine ezs_getp (p := 5) rfl rfl rfl rfl rfl ?_
  refine ezw_call0_0 rfl (by omega) (ezu_at rfl) rfl rfl rfl rfl (ezt_m28_5 hS (by omega)) ?_
  rintro _ _ ⟨F2, rfl, hS, nF2, p2_0, p2_1, rfl⟩
  refine ezw_aload_n rfl rfl ?_
  refine ezs_getp (p := 9) rfl rfl rfl rfl rfl ?_
  refine ezw_call0_0 rfl (by omega) (ezu_at rfl) rfl rfl rfl rfl (ezt_m28_9 hS (by omega)) ?_
  rintro _ _ ⟨F3, rfl, hS, nF3, p3_0, p3_1, rfl⟩
  refine ezw_aload_n rfl rfl ?_
  refine ezw_iconst (0) rfl rfl ?_
  refine ezy_put_i hS rfl rfl rfl rfl rfl ⟨by decide, by decide⟩ (fun F4 hS mF4 nF4 => ?_)
  refine ezw_aload_n rfl rfl ?_
  refine ezw_call0_0 rfl (by omega) (ezu_at rfl) rfl rfl rfl rfl (ezt_m29_1 hS (by omega) (by rw [nF4 1 2 (by decide), nF3 1 2 (by decide), nF2 1 2 (by decide), nF1 1 2 (by decide)]; exact hn) (by rw [nA1 2 (by decide)]; exact hc) tp (by rw [nA1 3 (by decide)]; exact hw)) ?_
  rintro _ _ ⟨F5, rfl, hS, nF5, st_5, rfl⟩
  refine ezw_iconst (0) rfl rfl ?_
  refine ezw_istore_n rfl rfl ?_
  have L29_7 : ∀ c6 : Int, ezw_in c6 → ∀ F_7 : Nat → Nat → Int, ∀ A_7 : Nat → Int → Int, ezs_T F_7 A_7 → (∀ p j, ¬ (p = 1 ∧ (j = 3 ∨ j = 4 ∨ j = 5 ∨ j = 6 ∨ j = 7 ∨ j = 8 ∨ j = 9) ∨ p = 4 ∧ (j = 2) ∨ p = 5 ∧ (j = 3 ∨ j = 4) ∨ p = 9 ∧ (j = 3 ∨ j = 4) ∨ p = 47 ∧ (j = 15 ∨ j = 16 ∨ j = 17) ∨ p = 55 ∧ (j = 1)) → F_7 p j = F5 p j) → (∀ p, ¬ (p = 6 ∨ p = 10 ∨ p = 48 ∨ p = 49 ∨ p = 50 ∨ p = 51 ∨ p = 52 ∨ p = 53 ∨ p = 54 ∨ p = 56 ∨ p = 57 ∨ p = 58 ∨ p = 59 ∨ p = 60 ∨ p = 61) → A_7 p = A1 p) → ((0) ≤ c6) → (∃ zz : (Int × Int) × ezp_D, ezp_rd c 1000 ((0, 0), ezp_D0) = ezp_rd c (1000 - c6).toNat zz ∧ ezt_ST c n zz.1 F_7 ∧ ezt_TR 47 zz.2 F_7 A_7 ∧ (zz.1.1 = 0 → ezt_NU 47 zz.2 A_7) ∧ (zz.1.1 = 0 → ezt_DI zz.2 F_7)) → ezw_E l ρ B xa Hb D cA d ezq_re23 (ezt_m23_4_1_47Q e F A c n) 29 [some (ezw_p 4), some (ezw_p 1), some (ezw_p 47), some (ezw_i c6)] [] (ezu_g e F_7 A_7) := by
    refine ezs_up ?_
    intro c6 hc6 ihc6 F_7 A_7 hS nF_7 nA_7 g_7 iv_7
    obtain ⟨zz, hq, st1, tr1, nu1, di1⟩ := iv_7
    have hs1 := st1.1
    refine ezw_iload_n rfl rfl ?_
    refine ezw_sipush (1000) rfl rfl ?_
    refine ezw_icmp_ge rfl rfl hc6 ⟨by decide, by decide⟩ (fun h33_7 => ?_) (fun h33_7 => ?_)
    · have hez : ezp_rd c 1000 ((0, 0), ezp_D0) = zz := by
        rw [hq, show (1000 - c6).toNat = 0 by omega]
        rfl
      refine ezw_aload_n rfl rfl ?_
      refine ezw_call0_0 rfl (by omega) (ezu_at rfl) rfl rfl rfl rfl (ezt_m45_1 hS (by omega)) ?_
      rintro _ _ ⟨rfl, u9, hu9, p8_0, p8_1, rfl⟩
      refine ezw_if_eq rfl rfl ⟨by omega, by omega⟩ (fun h68_9 => ?_) (fun h68_9 => ?_)
      · refine ezw_aload_n rfl rfl ?_
        refine ezw_call0_0 rfl (by omega) (ezu_at rfl) rfl rfl rfl rfl (ezt_m93_1 hS (by omega)) ?_
        rintro _ _ ⟨F10, rfl, hS, nF10, u11, hu11, p10_0, p10_1, rfl⟩
        exact ezw_ireturn rfl rfl ⟨F10, A_7, rfl, hS, (fun p j h => by rw [nF10 p j (by omega), nF_7 p j (by omega), nF5 p j (by omega), nF4 p j (by omega), nF3 p j (by omega), nF2 p j (by omega), nF1 p j (by omega)]), (fun p h => by
              funext j
              rw [nA_7 p (by omega), nA1 p (by omega)]), u11, hu11, (by
              show u11 = (ezp_rd c 1000 ((0, 0), ezp_D0)).1.1
              rw [hez, ← st1.1, p10_0]), p10_1, (fun y => by
              have h7 : zz.1.1 = 0 := by
                rw [← st1.1, ← y, p10_0]
              rw [hez]
              exact ⟨(ezt_TR_fr tr1 (by rw [nF10 47 15 (by decide)]) (by rw [nF10 47 16 (by decide)]) (by rw [nF10 47 17 (by decide)]) (by rw [nF10 55 1 (by decide)]) (fun _ _ _ => rfl)), ezt_NU_eq (nu1 h7) rfl rfl⟩), rfl⟩
      · have htw := tr1.1.1
        have htk := tr1.2.1
        refine ezw_aload_n rfl rfl ?_
        refine ezw_aload_n rfl rfl ?_
        refine ezs_getp (p := 5) rfl rfl rfl rfl rfl ?_
        refine ezw_aload_n rfl rfl ?_
        refine ezs_getp (p := 9) rfl rfl rfl rfl rfl ?_
        refine ezw_call0_2 rfl (by omega) (ezu_at rfl) rfl rfl rfl rfl (ezt_m85_47_5_9 hS (by omega) (by omega)) ?_
        rintro _ _ ⟨F12, A12, rfl, hS, nF12, nA12, rfl⟩
        refine ezw_aload_n rfl rfl ?_
        refine ezw_call0_0 rfl (by omega) (ezu_at rfl) rfl rfl rfl rfl (ezt_m93_1 hS (by omega)) ?_
        rintro _ _ ⟨F13, rfl, hS, nF13, u14, hu14, p13_0, p13_1, rfl⟩
        exact ezw_ireturn rfl rfl ⟨F13, A12, rfl, hS, (fun p j h => by rw [nF13 p j (by omega), nF12 p j (by omega), nF_7 p j (by omega), nF5 p j (by omega), nF4 p j (by omega), nF3 p j (by omega), nF2 p j (by omega), nF1 p j (by omega)]), (fun p h => by
              funext j
              rw [nA12 p (by omega), nA_7 p (by omega), nA1 p (by omega)]), u14, hu14, (by
              show u14 = (ezp_rd c 1000 ((0, 0), ezp_D0)).1.1
              rw [hez, ← st1.1, p13_0, nF12 1 6 (by decide)]), p13_1, (fun y => by
              have h7 : zz.1.1 = 0 := by
                rw [← st1.1, ← y, p13_0, nF12 1 6 (by decide)]
              rw [hez]
              exact ⟨(ezt_TR_fr tr1 (by rw [nF13 47 15 (by decide), nF12 47 15 (by decide)]) (by rw [nF13 47 16 (by decide), nF12 47 16 (by decide)]) (by rw [nF13 47 17 (by decide), nF12 47 17 (by decide)]) (by rw [nF13 55 1 (by decide), nF12 55 1 (by decide)]) (fun k k1 k2 => by rw [nA12 (47 + k) (by omega)])), ezt_NU_eq (nu1 h7) rfl (by rw [nA12 61 (by decide)])⟩), rfl⟩
    · refine ezw_aload_n rfl rfl ?_
      refine ezw_call0_0 rfl (by omega) (ezu_at rfl) rfl rfl rfl rfl (ezt_m45_1 hS (by omega)) ?_
      rintro _ _ ⟨rfl, u16, hu16, p15_0, p15_1, rfl⟩
      refine ezw_if_eq rfl rfl ⟨by omega, by omega⟩ (fun h40_16 => ?_) (fun h40_16 => ?_)
      · have hez : ezp_rd c 1000 ((0, 0), ezp_D0) = zz := by
          rw [hq, ezp_rd_n (fun y => p15_1 (by omega) (st1.1.trans y.1))]
        refine ezw_aload_n rfl rfl ?_
        refine ezw_call0_0 rfl (by omega) (ezu_at rfl) rfl rfl rfl rfl (ezt_m45_1 hS (by omega)) ?_
        rintro _ _ ⟨rfl, u18, hu18, p17_0, p17_1, rfl⟩
        refine ezw_if_eq rfl rfl ⟨by omega, by omega⟩ (fun h68_18 => ?_) (fun h68_18 => ?_)
        · refine ezw_aload_n rfl rfl ?_
          refine ezw_call0_0 rfl (by omega) (ezu_at rfl) rfl rfl rfl rfl (ezt_m93_1 hS (by omega)) ?_
          rintro _ _ ⟨F19, rfl, hS, nF19, u20, hu20, p19_0, p19_1, rfl⟩
          exact ezw_ireturn rfl rfl ⟨F19, A_7, rfl, hS, (fun p j h => by rw [nF19 p j (by omega), nF_7 p j (by omega), nF5 p j (by omega), nF4 p j (by omega), nF3 p j (by omega), nF2 p j (by omega), nF1 p j (by omega)]), (fun p h => by
                funext j
                rw [nA_7 p (by omega), nA1 p (by omega)]), u20, hu20, (by
                show u20 = (ezp_rd c 1000 ((0, 0), ezp_D0)).1.1
                rw [hez, ← st1.1, p19_0]), p19_1, (fun y => by
                have h7 : zz.1.1 = 0 := by
                  rw [← st1.1, ← y, p19_0]
                rw [hez]
                exact ⟨(ezt_TR_fr tr1 (by rw [nF19 47 15 (by decide)]) (by rw [nF19 47 16 (by decide)]) (by rw [nF19 47 17 (by decide)]) (by rw [nF19 55 1 (by decide)]) (fun _ _ _ => rfl)), ezt_NU_eq (nu1 h7) rfl rfl⟩), rfl⟩
        · have htw := tr1.1.1
          have htk := tr1.2.1
          refine ezw_aload_n rfl rfl ?_
          refine ezw_aload_n rfl rfl ?_
          refine ezs_getp (p := 5) rfl rfl rfl rfl rfl ?_
          refine ezw_aload_n rfl rfl ?_
          refine ezs_getp (p := 9) rfl rfl rfl rfl rfl ?_
          refine ezw_call0_2 rfl (by omega) (ezu_at rfl) rfl rfl rfl rfl (ezt_m85_47_5_9 hS (by omega) (by omega)) ?_
          rintro _ _ ⟨F21, A21, rfl, hS, nF21, nA21, rfl⟩
          refine ezw_aload_n rfl rfl ?_
          refine ezw_call0_0 rfl (by omega) (ezu_at rfl) rfl rfl rfl rfl (ezt_m93_1 hS (by omega)) ?_
          rintro _ _ ⟨F22, rfl, hS, nF22, u23, hu23, p22_0, p22_1, rfl⟩
          exact ezw_ireturn rfl rfl ⟨F22, A21, rfl, hS, (fun p j h => by rw [nF22 p j (by omega), nF21 p j (by omega), nF_7 p j (by omega), nF5 p j (by omega), nF4 p j (by omega), nF3 p j (by omega), nF2 p j (by omega), nF1 p j (by omega)]), (fun p h => by
                funext j
                rw [nA21 p (by omega), nA_7 p (by omega), nA1 p (by omega)]), u23, hu23, (by
                show u23 = (ezp_rd c 1000 ((0, 0), ezp_D0)).1.1
                rw [hez, ← st1.1, p22_0, nF21 1 6 (by decide)]), p22_1, (fun y => by
                have h7 : zz.1.1 = 0 := by
                  rw [← st1.1, ← y, p22_0, nF21 1 6 (by decide)]
                rw [hez]
                exact ⟨(ezt_TR_fr tr1 (by rw [nF22 47 15 (by decide), nF21 47 15 (by decide)]) (by rw [nF22 47 16 (by decide), nF21 47 16 (by decide)]) (by rw [nF22 47 17 (by decide), nF21 47 17 (by decide)]) (by rw [nF22 55 1 (by decide), nF21 55 1 (by decide)]) (fun k k1 k2 => by rw [nA21 (47 + k) (by omega)])), ezt_NU_eq (nu1 h7) rfl (by rw [nA21 61 (by decide)])⟩), rfl⟩
      · have z1 : zz.1.1 = 0 := st1.1.symm.trans (p15_0 (by omega))
        refine ezw_aload_n rfl rfl ?_
        refine ezw_bipush (102) rfl rfl ?_
        refine ezw_call0_1 rfl (by omega) (ezu_at rfl) rfl rfl rfl rfl (ezt_m46_1 hS (by omega) ⟨by decide, by decide⟩ (by rw [nF_7 1 2 (by decide), nF5 1 2 (by decide), nF4 1 2 (by decide), nF3 1 2 (by decide), nF2 1 2 (by decide), nF1 1 2 (by decide)]; exact hn) (by rw [nA_7 2 (by decide), nA1 2 (by decide)]; exact hc) tp st1) ?_
        rintro _ _ ⟨rfl, u25, hu25, p24_0, p24_1, rfl⟩
        refine ezw_if_ne rfl rfl ⟨by omega, by omega⟩ (fun h49_25 => ?_) (fun h49_25 => ?_)
        · have hez : ezp_rd c 1000 ((0, 0), ezp_D0) = zz := by
            rw [hq, ezp_rd_n (fun y => y.2 (p24_0 (by omega)).2)]
          refine ezw_aload_n rfl rfl ?_
          refine ezw_call0_0 rfl (by omega) (ezu_at rfl) rfl rfl rfl rfl (ezt_m45_1 hS (by omega)) ?_
          rintro _ _ ⟨rfl, u27, hu27, p26_0, p26_1, rfl⟩
          refine ezw_if_eq rfl rfl ⟨by omega, by omega⟩ (fun h68_27 => ?_) (fun h68_27 => ?_)
          · refine ezw_aload_n rfl rfl ?_
            refine ezw_call0_0 rfl (by omega) (ezu_at rfl) rfl rfl rfl rfl (ezt_m93_1 hS (by omega)) ?_
            rintro _ _ ⟨F28, rfl, hS, nF28, u29, hu29, p28_0, p28_1, rfl⟩
            exact ezw_ireturn rfl rfl ⟨F28, A_7, rfl, hS, (fun p j h => by rw [nF28 p j (by omega), nF_7 p j (by omega), nF5 p j (by omega), nF4 p j (by omega), nF3 p j (by omega), nF2 p j (by omega), nF1 p j (by omega)]), (fun p h => by
                  funext j
                  rw [nA_7 p (by omega), nA1 p (by omega)]), u29, hu29, (by
                  show u29 = (ezp_rd c 1000 ((0, 0), ezp_D0)).1.1
                  rw [hez, ← st1.1, p28_0]), p28_1, (fun y => by
                  have h7 : zz.1.1 = 0 := by
                    rw [← st1.1, ← y, p28_0]
                  rw [hez]
                  exact ⟨(ezt_TR_fr tr1 (by rw [nF28 47 15 (by decide)]) (by rw [nF28 47 16 (by decide)]) (by rw [nF28 47 17 (by decide)]) (by rw [nF28 55 1 (by decide)]) (fun _ _ _ => rfl)), ezt_NU_eq (nu1 h7) rfl rfl⟩), rfl⟩
          · have htw := tr1.1.1
            have htk := tr1.2.1
            refine ezw_aload_n rfl rfl ?_
            refine ezw_aload_n rfl rfl ?_
            refine ezs_getp (p := 5) rfl rfl rfl rfl rfl ?_
            refine ezw_aload_n rfl rfl ?_
            refine ezs_getp (p := 9) rfl rfl rfl rfl rfl ?_
            refine ezw_call0_2 rfl (by omega) (ezu_at rfl) rfl rfl rfl rfl (ezt_m85_47_5_9 hS (by omega) (by omega)) ?_
            rintro _ _ ⟨F30, A30, rfl, hS, nF30, nA30, rfl⟩
            refine ezw_aload_n rfl rfl ?_
            refine ezw_call0_0 rfl (by omega) (ezu_at rfl) rfl rfl rfl rfl (ezt_m93_1 hS (by omega)) ?_
            rintro _ _ ⟨F31, rfl, hS, nF31, u32, hu32, p31_0, p31_1, rfl⟩
            exact ezw_ireturn rfl rfl ⟨F31, A30, rfl, hS, (fun p j h => by rw [nF31 p j (by omega), nF30 p j (by omega), nF_7 p j (by omega), nF5 p j (by omega), nF4 p j (by omega), nF3 p j (by omega), nF2 p j (by omega), nF1 p j (by omega)]), (fun p h => by
                  funext j
                  rw [nA30 p (by omega), nA_7 p (by omega), nA1 p (by omega)]), u32, hu32, (by
                  show u32 = (ezp_rd c 1000 ((0, 0), ezp_D0)).1.1
                  rw [hez, ← st1.1, p31_0, nF30 1 6 (by decide)]), p31_1, (fun y => by
                  have h7 : zz.1.1 = 0 := by
                    rw [← st1.1, ← y, p31_0, nF30 1 6 (by decide)]
                  rw [hez]
                  exact ⟨(ezt_TR_fr tr1 (by rw [nF31 47 15 (by decide), nF30 47 15 (by decide)]) (by rw [nF31 47 16 (by decide), nF30 47 16 (by decide)]) (by rw [nF31 47 17 (by decide), nF30 47 17 (by decide)]) (by rw [nF31 55 1 (by decide), nF30 55 1 (by decide)]) (fun k k1 k2 => by rw [nA30 (47 + k) (by omega)])), ezt_NU_eq (nu1 h7) rfl (by rw [nA30 61 (by decide)])⟩), rfl⟩
        · have hK : ezp_K c zz.1.2 ≠ 102 := by
            have h7 := p24_1 (by omega)
            omega
          have hm : (1000 - c6).toNat = (1000 - (c6 + 1)).toNat + 1 := by omega
          refine ezw_aload_n rfl rfl ?_
          refine ezw_aload_n rfl rfl ?_
          refine ezw_aload_n rfl rfl ?_
          refine ezw_call0_2 rfl (by omega) (ezu_at rfl) rfl rfl rfl rfl (ezt_m47_4_1_47 hS (by omega) (by rw [nF_7 1 2 (by decide), nF5 1 2 (by decide), nF4 1 2 (by decide), nF3 1 2 (by decide), nF2 1 2 (by decide), nF1 1 2 (by decide)]; exact hn) (by rw [nA_7 2 (by decide), nA1 2 (by decide)]; exact hc) tp (by rw [nA_7 3 (by decide), nA1 3 (by decide)]; exact hw) st1 tr1 nu1 (di1 z1) z1) ?_
          rintro _ _ ⟨F33, A33, rfl, hS, nF33, nA33, st_33, tr_33, nu_33, di_33, rfl⟩
          refine ezw_iinc (k := c6 + 1) (1) rfl rfl rfl (by omega) rfl ?_
          refine ezw_goto rfl rfl ?_
          exact ezw_keepE [true, true, true, true] (ihc6 (c6 + 1) (by omega) ⟨by omega, by omega⟩ F33 A33 hS (fun p j h => by rw [nF33 p j (by omega), nF_7 p j (by omega)]) (fun p h => by
                funext j
                rw [nA33 p (by omega), nA_7 p (by omega)]) (by omega) (⟨ezp_lne c zz.2 zz.1, (by rw [hq, hm, ezp_rd_s ⟨z1, hK⟩]), st_33, tr_33, nu_33, di_33⟩))
  exact ezw_keepE [true, true, true, true] (L29_7 (0) ⟨by decide, by decide⟩ F5 A1 hS (fun _ _ _ => rfl) (fun _ _ => rfl) (by omega) (⟨((0, 0), ezp_D0), rfl, st_5, (ezt_TR_fr tr_1 (by rw [nF5 47 15 (by decide), nF4 47 15 (by decide), nF3 47 15 (by decide), nF2 47 15 (by decide)]) (by rw [nF5 47 16 (by decide), nF4 47 16 (by decide), nF3 47 16 (by decide), nF2 47 16 (by decide)]) (by rw [nF5 47 17 (by decide), nF4 47 17 (by decide), nF3 47 17 (by decide), nF2 47 17 (by decide)]) (by rw [nF5 55 1 (by decide), nF4 55 1 (by decide), nF3 55 1 (by decide), nF2 55 1 (by decide)]) (fun _ _ _ => rfl)), fun _ => ezt_NU_eq nu_1 rfl rfl, fun _ => ezt_DI_0 (by rw [nF5 4 2 (by decide), mF4])⟩))
end KT
