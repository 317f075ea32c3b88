/-! ===== the class: tries ===== -/
section KT
variable {l : Launch} {ρ : ezq_E} {B : Nat} {xa : Nat → Option Nat} {Hb : Heap} {D : va_G} {cA : Nat → ClassId} {d : Nat} {e : Bool × Bool}
def ezt_m121_13_30nQ (e : Bool × Bool) (F : Nat → Nat → Int) (A : Nat → Int → Int) (y : ezp_D) (w : ezn_N) (qc : ezn_Q) (a2 : Int) (a3 : Int) (a4 : Int) : Option ezq_V → (Nat → ezq_C) → Prop := fun v g' => ∃ (F' : Nat → Nat → Int), ezu_g e F' A = g' ∧ ezs_T F' A ∧ (∀ p j, ¬ (p = 13 ∧ (j = 0 ∨ j = 1 ∨ j = 4)) → F' p j = F p j) ∧ ∃ u : Int, (0 ≤ u ∧ u ≤ 1) ∧ (u = 1 → ezn_cP qc y w a2 a3 a4) ∧ (u = 0 → ¬ ezn_cP qc y w a2 a3 a4) ∧ (u = 1 → ezn_C 13 (ezn_tP w a3 a4) F') ∧ (u = 0 → ezn_C 13 w F') ∧ some (ezw_i u) = v
theorem ezt_m121_13_30n {y : ezp_D} {w : ezn_N} {qc : ezn_Q} {a2 a3 a4 : Int} {F : Nat → Nat → Int} {A : Nat → Int → Int} (hS : ezs_T F A) (hd : 3 ≤ d) (ha2 : ezw_in a2) (ha3 : ezw_in a3) (ha4 : ezw_in a4) (tr : ezt_TR 30 y F A) (nu : ezt_NU 30 y A) (hB : ezp_B y) (cw : ezn_C 13 w F) (wb : ezn_B y w) (cq : ezn_CQ qc y 30 A) (qr : ezn_QR qc) (gf : 0 ≤ a3 ∧ a3 ≤ 1) : ezw_C l ρ B xa Hb D cA 121 d [ezw_p 13, ezw_p 30, ezw_i a2, ezw_i a3, ezw_i a4] (ezu_g e F A) (ezt_m121_13_30nQ e F A y w qc a2 a3 a4) := by
  refine ezw_met (k := 2) rfl rfl ?_
  obtain ⟨w0, w1, w2, w3, w4, w5, w6⟩ := id cw
  obtain ⟨⟨x0, x1⟩, x2, x3, x4, x5, x6, x7, x8, x9, x10, x11, x12⟩ := id wb
  refine ezw_aload_n rfl rfl ?_
  refine ezy_get_i hS rfl rfl rfl rfl rfl rfl (fun u1 hu1 ku1 eu1 => ?_)
  replace eu1 := eu1.symm
  subst eu1
  refine ezw_if_ne rfl rfl hu1 (fun h4_1 => ?_) (fun h4_1 => ?_)
  · refine ezw_iconst (0) rfl rfl ?_
    exact ezw_ireturn rfl (ezw_zret ⟨by omega, by omega⟩) ⟨F, rfl, hS, (fun _ _ _ => rfl), (0), ⟨by omega, by omega⟩, (by omega), (fun _ hz => by
          obtain ⟨z1, z2, z3⟩ := hz
          omega), (by omega), (fun _ => cw), rfl⟩
  · refine ezw_iload_n rfl rfl ?_
    refine ezw_call3_1 rfl (by omega) rfl rfl (ezt_m112o hS (by omega) ha2) ?_
    rintro _ _ ⟨rfl, u3, hu3, p2_0, p2_1, rfl⟩
    refine ezw_if_ne rfl rfl ⟨by omega, by omega⟩ (fun h11_3 => ?_) (fun h11_3 => ?_)
    · have hl := ezn_la_r hB wb (by omega)
      refine ezw_aload_n rfl rfl ?_
      refine ezw_aload_n rfl rfl ?_
      refine ezw_aload_n rfl rfl ?_
      refine ezw_call0_1 rfl (by omega) (ezu_at rfl) rfl rfl rfl rfl (ezt_m106_13_30n hS (by omega) tr nu hB cw wb) ?_
      rintro _ _ ⟨rfl, u5, hu5, an_4, rfl⟩
      refine ezw_aload_n rfl rfl ?_
      refine ezy_get_i hS rfl rfl rfl rfl rfl rfl (fun u6 hu6 ku6 eu6 => ?_)
      replace eu6 := eu6.symm
      subst eu6
      refine ezw_iload_n rfl rfl ?_
      refine ezw_iload_n rfl rfl ?_
      refine ezw_call0_4 rfl (by omega) (ezu_at rfl) rfl rfl rfl rfl (ezt_m113_30n hS (by omega) hu5 hu6 ha2 ha3 tr nu hB cq qr (by omega)) ?_
      rintro _ _ ⟨rfl, u8, hu8, an_7, rfl⟩
      have hr : u8 = ezn_ch qc y w 0 a2 a3 := by
        rw [an_7, an_4, w1]
        rfl
      refine ezw_istore rfl rfl ?_
      refine ezw_aload_n rfl rfl ?_
      refine ezw_aload_n rfl rfl ?_
      refine ezw_aload_n rfl rfl ?_
      refine ezw_call0_1 rfl (by omega) (ezu_at rfl) rfl rfl rfl rfl (ezt_m106_13_30n hS (by omega) tr nu hB cw wb) ?_
      rintro _ _ ⟨rfl, u10, hu10, an_9, rfl⟩
      refine ezw_aload_n rfl rfl ?_
      refine ezy_get_i hS rfl rfl rfl rfl rfl rfl (fun u11 hu11 ku11 eu11 => ?_)
      replace eu11 := eu11.symm
      subst eu11
      refine ezw_iload_n rfl rfl ?_
      refine ezw_iload_n rfl rfl ?_
      refine ezw_call0_4 rfl (by omega) (ezu_at rfl) rfl rfl rfl rfl (ezt_m116_30n hS (by omega) hu10 hu11 ha2 ha3 tr nu hB cq qr (by omega)) ?_
      rintro _ _ ⟨rfl, u13, hu13, an_12, rfl⟩
      have ht : u13 = ezn_ch qc y w 1 a2 a3 := by
        rw [an_12, an_9, w1]
        rfl
      refine ezw_istore rfl rfl ?_
      refine ezw_iload rfl rfl ?_
      refine ezw_if_ne rfl rfl ha4 (fun h52_13 => ?_) (fun h52_13 => ?_)
      · refine ezw_iload rfl rfl ?_
        refine ezw_iconst (1) rfl rfl ?_
        refine ezw_icmp_ne rfl rfl ha4 ⟨by decide, by decide⟩ (fun h76_13 => ?_) (fun h76_13 => ?_)
        · refine ezw_iload rfl rfl ?_
          refine ezw_iconst (2) rfl rfl ?_
          refine ezw_icmp_ne rfl rfl ha4 ⟨by decide, by decide⟩ (fun h121_13 => ?_) (fun h121_13 => ?_)
          · refine ezw_iconst (0) rfl rfl ?_
            exact ezw_ireturn rfl (ezw_zret ⟨by omega, by omega⟩) ⟨F, rfl, hS, (fun _ _ _ => rfl), (0), ⟨by omega, by omega⟩, (by omega), (fun _ hz => by
                  obtain ⟨z1, z2, z3⟩ := hz
                  omega), (by omega), (fun _ => cw), rfl⟩
          · refine ezw_iload rfl rfl ?_
            refine ezw_bipush (10) rfl rfl ?_
            refine ezw_icmp_ge rfl rfl hu8 ⟨by decide, by decide⟩ (fun h128_13 => ?_) (fun h128_13 => ?_)
            · refine ezw_iconst (0) rfl rfl ?_
              exact ezw_ireturn rfl (ezw_zret ⟨by omega, by omega⟩) ⟨F, rfl, hS, (fun _ _ _ => rfl), (0), ⟨by omega, by omega⟩, (by omega), (fun _ hz => by
                    obtain ⟨z1, z2, z3⟩ := hz
                    omega), (by omega), (fun _ => cw), rfl⟩
            · refine ezw_iload rfl rfl ?_
              refine ezw_if_le rfl rfl hu13 (fun h133_13 => ?_) (fun h133_13 => ?_)
              · refine ezw_iconst (0) rfl rfl ?_
                exact ezw_ireturn rfl (ezw_zret ⟨by omega, by omega⟩) ⟨F, rfl, hS, (fun _ _ _ => rfl), (0), ⟨by omega, by omega⟩, (by omega), (fun _ hz => by
                      obtain ⟨z1, z2, z3⟩ := hz
                      omega), (by omega), (fun _ => cw), rfl⟩
              · refine ezw_aload_n rfl rfl ?_
                refine ezw_iconst (0) rfl rfl ?_
                refine ezy_put_i hS rfl rfl rfl rfl rfl ⟨by decide, by decide⟩ (fun F14 hS mF14 nF14 => ?_)
                refine ezw_aload_n rfl rfl ?_
                refine ezw_iconst (0) rfl rfl ?_
                refine ezy_put_i hS rfl rfl rfl rfl rfl ⟨by decide, by decide⟩ (fun F15 hS mF15 nF15 => ?_)
                refine ezw_aload_n rfl rfl ?_
                refine ezw_iconst (2) rfl rfl ?_
                refine ezy_put_i hS rfl rfl rfl rfl rfl ⟨by decide, by decide⟩ (fun F16 hS mF16 nF16 => ?_)
                refine ezw_iconst (1) rfl rfl ?_
                have g0 : F16 13 0 = (0) := by rw [nF16 13 0 (by decide), nF15 13 0 (by decide), mF14]
                have g1 : F16 13 1 = (0) := by rw [nF16 13 1 (by decide), mF15]
                have g2 : F16 13 2 = (F 13 2) := by rw [nF16 13 2 (by decide), nF15 13 2 (by decide), nF14 13 2 (by decide)]
                have g3 : F16 13 3 = (F 13 3) := by rw [nF16 13 3 (by decide), nF15 13 3 (by decide), nF14 13 3 (by decide)]
                have g4 : F16 13 4 = (2) := by rw [mF16]
                have g5 : F16 13 5 = (F 13 5) := by rw [nF16 13 5 (by decide), nF15 13 5 (by decide), nF14 13 5 (by decide)]
                have g6 : F16 13 6 = (F 13 6) := by rw [nF16 13 6 (by decide), nF15 13 6 (by decide), nF14 13 6 (by decide)]
                exact ezw_ireturn rfl (ezw_zret ⟨by omega, by omega⟩) ⟨F16, rfl, hS, (fun p j h => by rw [nF16 p j (fun z => h (⟨z.1, (Or.inr (Or.inr z.2))⟩)), nF15 p j (fun z => h (⟨z.1, (Or.inr (Or.inl z.2))⟩)), nF14 p j (fun z => h (⟨z.1, (Or.inl z.2)⟩))]), (1), ⟨by omega, by omega⟩, (fun _ => ⟨by omega, by omega, Or.inr (Or.inr ⟨by omega, by omega, by omega⟩)⟩), (by omega), (fun _ => by
                      unfold ezn_tP
                      rw [if_neg (by omega), if_neg (by omega)]
                      exact ⟨by rw [g0]; rfl, by rw [g1]; rfl, by rw [g2]; exact w2, by rw [g3]; exact w3, by rw [g4]; rfl, by rw [g5]; exact w5, by rw [g6]; exact w6⟩), (by omega), rfl⟩
        · refine ezw_iload rfl rfl ?_
          refine ezw_bipush (10) rfl rfl ?_
          refine ezw_icmp_ge rfl rfl hu8 ⟨by decide, by decide⟩ (fun h83_16 => ?_) (fun h83_16 => ?_)
          · refine ezw_iload rfl rfl ?_
            refine ezw_iconst (2) rfl rfl ?_
            refine ezw_icmp_ne rfl rfl ha4 ⟨by decide, by decide⟩ (fun h121_16 => ?_) (fun h121_16 => ?_)
            · refine ezw_iconst (0) rfl rfl ?_
              exact ezw_ireturn rfl (ezw_zret ⟨by omega, by omega⟩) ⟨F, rfl, hS, (fun _ _ _ => rfl), (0), ⟨by omega, by omega⟩, (by omega), (fun _ hz => by
                    obtain ⟨z1, z2, z3⟩ := hz
                    omega), (by omega), (fun _ => cw), rfl⟩
            · refine ezw_iload rfl rfl ?_
              refine ezw_bipush (10) rfl rfl ?_
              refine ezw_icmp_ge rfl rfl hu8 ⟨by decide, by decide⟩ (fun h128_16 => ?_) (fun h128_16 => ?_)
              · refine ezw_iconst (0) rfl rfl ?_
                exact ezw_ireturn rfl (ezw_zret ⟨by omega, by omega⟩) ⟨F, rfl, hS, (fun _ _ _ => rfl), (0), ⟨by omega, by omega⟩, (by omega), (fun _ hz => by
                      obtain ⟨z1, z2, z3⟩ := hz
                      omega), (by omega), (fun _ => cw), rfl⟩
              · refine ezw_iload rfl rfl ?_
                refine ezw_if_le rfl rfl hu13 (fun h133_16 => ?_) (fun h133_16 => ?_)
                · refine ezw_iconst (0) rfl rfl ?_
                  exact ezw_ireturn rfl (ezw_zret ⟨by omega, by omega⟩) ⟨F, rfl, hS, (fun _ _ _ => rfl), (0), ⟨by omega, by omega⟩, (by omega), (fun _ hz => by
                        obtain ⟨z1, z2, z3⟩ := hz
                        omega), (by omega), (fun _ => cw), rfl⟩
                · refine ezw_aload_n rfl rfl ?_
                  refine ezw_iconst (0) rfl rfl ?_
                  refine ezy_put_i hS rfl rfl rfl rfl rfl ⟨by decide, by decide⟩ (fun F17 hS mF17 nF17 => ?_)
                  refine ezw_aload_n rfl rfl ?_
                  refine ezw_iconst (0) rfl rfl ?_
                  refine ezy_put_i hS rfl rfl rfl rfl rfl ⟨by decide, by decide⟩ (fun F18 hS mF18 nF18 => ?_)
                  refine ezw_aload_n rfl rfl ?_
                  refine ezw_iconst (2) rfl rfl ?_
                  refine ezy_put_i hS rfl rfl rfl rfl rfl ⟨by decide, by decide⟩ (fun F19 hS mF19 nF19 => ?_)
                  refine ezw_iconst (1) rfl rfl ?_
                  have g0 : F19 13 0 = (0) := by rw [nF19 13 0 (by decide), nF18 13 0 (by decide), mF17]
                  have g1 : F19 13 1 = (0) := by rw [nF19 13 1 (by decide), mF18]
                  have g2 : F19 13 2 = (F 13 2) := by rw [nF19 13 2 (by decide), nF18 13 2 (by decide), nF17 13 2 (by decide)]
                  have g3 : F19 13 3 = (F 13 3) := by rw [nF19 13 3 (by decide), nF18 13 3 (by decide), nF17 13 3 (by decide)]
                  have g4 : F19 13 4 = (2) := by rw [mF19]
                  have g5 : F19 13 5 = (F 13 5) := by rw [nF19 13 5 (by decide), nF18 13 5 (by decide), nF17 13 5 (by decide)]
                  have g6 : F19 13 6 = (F 13 6) := by rw [nF19 13 6 (by decide), nF18 13 6 (by decide), nF17 13 6 (by decide)]
                  exact ezw_ireturn rfl (ezw_zret ⟨by omega, by omega⟩) ⟨F19, rfl, hS, (fun p j h => by rw [nF19 p j (fun z => h (⟨z.1, (Or.inr (Or.inr z.2))⟩)), nF18 p j (fun z => h (⟨z.1, (Or.inr (Or.inl z.2))⟩)), nF17 p j (fun z => h (⟨z.1, (Or.inl z.2)⟩))]), (1), ⟨by omega, by omega⟩, (fun _ => ⟨by omega, by omega, Or.inr (Or.inr ⟨by omega, by omega, by omega⟩)⟩), (by omega), (fun _ => by
                        unfold ezn_tP
                        rw [if_neg (by omega), if_neg (by omega)]
                        exact ⟨by rw [g0]; rfl, by rw [g1]; rfl, by rw [g2]; exact w2, by rw [g3]; exact w3, by rw [g4]; rfl, by rw [g5]; exact w5, by rw [g6]; exact w6⟩), (by omega), rfl⟩
          · refine ezw_iload rfl rfl ?_
            refine ezw_bipush (10) rfl rfl ?_
            refine ezw_icmp_ge rfl rfl hu13 ⟨by decide, by decide⟩ (fun h90_19 => ?_) (fun h90_19 => ?_)
            · refine ezw_iload rfl rfl ?_
              refine ezw_iconst (2) rfl rfl ?_
              refine ezw_icmp_ne rfl rfl ha4 ⟨by decide, by decide⟩ (fun h121_19 => ?_) (fun h121_19 => ?_)
              · refine ezw_iconst (0) rfl rfl ?_
                exact ezw_ireturn rfl (ezw_zret ⟨by omega, by omega⟩) ⟨F, rfl, hS, (fun _ _ _ => rfl), (0), ⟨by omega, by omega⟩, (by omega), (fun _ hz => by
                      obtain ⟨z1, z2, z3⟩ := hz
                      omega), (by omega), (fun _ => cw), rfl⟩
              · refine ezw_iload rfl rfl ?_
                refine ezw_bipush (10) rfl rfl ?_
                refine ezw_icmp_ge rfl rfl hu8 ⟨by decide, by decide⟩ (fun h128_19 => ?_) (fun h128_19 => ?_)
                · refine ezw_iconst (0) rfl rfl ?_
                  exact ezw_ireturn rfl (ezw_zret ⟨by omega, by omega⟩) ⟨F, rfl, hS, (fun _ _ _ => rfl), (0), ⟨by omega, by omega⟩, (by omega), (fun _ hz => by
                        obtain ⟨z1, z2, z3⟩ := hz
                        omega), (by omega), (fun _ => cw), rfl⟩
                · refine ezw_iload rfl rfl ?_
                  refine ezw_if_le rfl rfl hu13 (fun h133_19 => ?_) (fun h133_19 => ?_)
                  · refine ezw_iconst (0) rfl rfl ?_
                    exact ezw_ireturn rfl (ezw_zret ⟨by omega, by omega⟩) ⟨F, rfl, hS, (fun _ _ _ => rfl), (0), ⟨by omega, by omega⟩, (by omega), (fun _ hz => by
                          obtain ⟨z1, z2, z3⟩ := hz
                          omega), (by omega), (fun _ => cw), rfl⟩
                  · refine ezw_aload_n rfl rfl ?_
                    refine ezw_iconst (0) rfl rfl ?_
                    refine ezy_put_i hS rfl rfl rfl rfl rfl ⟨by decide, by decide⟩ (fun F20 hS mF20 nF20 => ?_)
                    refine ezw_aload_n rfl rfl ?_
                    refine ezw_iconst (0) rfl rfl ?_
                    refine ezy_put_i hS rfl rfl rfl rfl rfl ⟨by decide, by decide⟩ (fun F21 hS mF21 nF21 => ?_)
                    refine ezw_aload_n rfl rfl ?_
                    refine ezw_iconst (2) rfl rfl ?_
                    refine ezy_put_i hS rfl rfl rfl rfl rfl ⟨by decide, by decide⟩ (fun F22 hS mF22 nF22 => ?_)
                    refine ezw_iconst (1) rfl rfl ?_
                    have g0 : F22 13 0 = (0) := by rw [nF22 13 0 (by decide), nF21 13 0 (by decide), mF20]
                    have g1 : F22 13 1 = (0) := by rw [nF22 13 1 (by decide), mF21]
                    have g2 : F22 13 2 = (F 13 2) := by rw [nF22 13 2 (by decide), nF21 13 2 (by decide), nF20 13 2 (by decide)]
                    have g3 : F22 13 3 = (F 13 3) := by rw [nF22 13 3 (by decide), nF21 13 3 (by decide), nF20 13 3 (by decide)]
                    have g4 : F22 13 4 = (2) := by rw [mF22]
                    have g5 : F22 13 5 = (F 13 5) := by rw [nF22 13 5 (by decide), nF21 13 5 (by decide), nF20 13 5 (by decide)]
                    have g6 : F22 13 6 = (F 13 6) := by rw [nF22 13 6 (by decide), nF21 13 6 (by decide), nF20 13 6 (by decide)]
                    exact ezw_ireturn rfl (ezw_zret ⟨by omega, by omega⟩) ⟨F22, rfl, hS, (fun p j h => by rw [nF22 p j (fun z => h (⟨z.1, (Or.inr (Or.inr z.2))⟩)), nF21 p j (fun z => h (⟨z.1, (Or.inr (Or.inl z.2))⟩)), nF20 p j (fun z => h (⟨z.1, (Or.inl z.2)⟩))]), (1), ⟨by omega, by omega⟩, (fun _ => ⟨by omega, by omega, Or.inr (Or.inr ⟨by omega, by omega, by omega⟩)⟩), (by omega), (fun _ => by
                          unfold ezn_tP
                          rw [if_neg (by omega), if_neg (by omega)]
                          exact ⟨by rw [g0]; rfl, by rw [g1]; rfl, by rw [g2]; exact w2, by rw [g3]; exact w3, by rw [g4]; rfl, by rw [g5]; exact w5, by rw [g6]; exact w6⟩), (by omega), rfl⟩
            · refine ezw_aload_n rfl rfl ?_
              refine ezw_bipush (9) rfl rfl ?_
              refine ezw_aload_n rfl rfl ?_
              refine ezy_get_i hS rfl rfl rfl rfl rfl rfl (fun u23 hu23 ku23 eu23 => ?_)
              replace eu23 := eu23.symm
              subst eu23
              refine ezw_iload_n rfl rfl ?_
              have J109_25 : ∀ y24 : Int, ezw_in y24 → (y24 = 1 + a3) → ezw_E l ρ B xa Hb D cA d ezq_re121 (ezt_m121_13_30nQ e F A y w qc a2 a3 a4) 109 [some (ezw_p 13), some (ezw_p 30), some (ezw_i a2), some (ezw_i a3), some (ezw_i a4), some (ezw_i u8), some (ezw_i u13)] [ezw_i y24, ezw_i (F 13 1), ezw_i (9), ezw_p 13] (ezu_g e F A) := by
                intro y24 hy24 v_25
                refine ezw_iadd (k := (F 13 1) + y24) rfl (by omega) ?_
                refine ezw_mminE rfl ⟨by decide, by decide⟩ ⟨by omega, by omega⟩ rfl (fun u26 hu26 => ?_)
                refine ezy_put_i hS rfl rfl rfl rfl rfl ⟨by omega, by omega⟩ (fun F27 hS mF27 nF27 => ?_)
                refine ezw_iconst (1) rfl rfl ?_
                have g0 : F27 13 0 = (F 13 0) := by rw [nF27 13 0 (by decide)]
                have g1 : F27 13 1 = u26 := by rw [mF27]
                have g2 : F27 13 2 = (F 13 2) := by rw [nF27 13 2 (by decide)]
                have g3 : F27 13 3 = (F 13 3) := by rw [nF27 13 3 (by decide)]
                have g4 : F27 13 4 = (F 13 4) := by rw [nF27 13 4 (by decide)]
                have g5 : F27 13 5 = (F 13 5) := by rw [nF27 13 5 (by decide)]
                have g6 : F27 13 6 = (F 13 6) := by rw [nF27 13 6 (by decide)]
                exact ezw_ireturn rfl (ezw_zret ⟨by omega, by omega⟩) ⟨F27, rfl, hS, (fun p j h => by rw [nF27 p j (fun z => h (⟨z.1, (Or.inr (Or.inl z.2))⟩))]), (1), ⟨by omega, by omega⟩, (fun _ => ⟨by omega, by omega, Or.inr (Or.inl ⟨by omega, by omega, by omega⟩)⟩), (by omega), (fun _ => by
                      unfold ezn_tP
                      rw [if_neg (by omega), if_pos (by omega)]
                      exact ⟨by rw [g0]; exact w0, by rw [g1]; show _ = (if w.ti + 1 + a3 ≤ 9 then w.ti + 1 + a3 else 9); split <;> omega, by rw [g2]; exact w2, by rw [g3]; exact w3, by rw [g4]; exact w4, by rw [g5]; exact w5, by rw [g6]; exact w6⟩), (by omega), rfl⟩
              refine ezw_if_eq rfl rfl ha3 (fun h101_23 => ?_) (fun h101_23 => ?_)
              · refine ezw_iconst (1) rfl rfl ?_
                exact ezw_keepE [true, true, true, true, true, true, true] (J109_25 (1) ⟨by decide, by decide⟩ (by omega))
              · refine ezw_iconst (2) rfl rfl ?_
                refine ezw_goto rfl rfl ?_
                exact ezw_keepE [true, true, true, true, true, true, true] (J109_25 (2) ⟨by decide, by decide⟩ (by omega))
      · refine ezw_iload rfl rfl ?_
        refine ezw_if_le rfl rfl hu8 (fun h57_27 => ?_) (fun h57_27 => ?_)
        · refine ezw_iload rfl rfl ?_
          refine ezw_iconst (1) rfl rfl ?_
          refine ezw_icmp_ne rfl rfl ha4 ⟨by decide, by decide⟩ (fun h76_27 => ?_) (fun h76_27 => ?_)
          · refine ezw_iload rfl rfl ?_
            refine ezw_iconst (2) rfl rfl ?_
            refine ezw_icmp_ne rfl rfl ha4 ⟨by decide, by decide⟩ (fun h121_27 => ?_) (fun h121_27 => ?_)
            · refine ezw_iconst (0) rfl rfl ?_
              exact ezw_ireturn rfl (ezw_zret ⟨by omega, by omega⟩) ⟨F, rfl, hS, (fun _ _ _ => rfl), (0), ⟨by omega, by omega⟩, (by omega), (fun _ hz => by
                    obtain ⟨z1, z2, z3⟩ := hz
                    omega), (by omega), (fun _ => cw), rfl⟩
            · refine ezw_iload rfl rfl ?_
              refine ezw_bipush (10) rfl rfl ?_
              refine ezw_icmp_ge rfl rfl hu8 ⟨by decide, by decide⟩ (fun h128_27 => ?_) (fun h128_27 => ?_)
              · refine ezw_iconst (0) rfl rfl ?_
                exact ezw_ireturn rfl (ezw_zret ⟨by omega, by omega⟩) ⟨F, rfl, hS, (fun _ _ _ => rfl), (0), ⟨by omega, by omega⟩, (by omega), (fun _ hz => by
                      obtain ⟨z1, z2, z3⟩ := hz
                      omega), (by omega), (fun _ => cw), rfl⟩
              · refine ezw_iload rfl rfl ?_
                refine ezw_if_le rfl rfl hu13 (fun h133_27 => ?_) (fun h133_27 => ?_)
                · refine ezw_iconst (0) rfl rfl ?_
                  exact ezw_ireturn rfl (ezw_zret ⟨by omega, by omega⟩) ⟨F, rfl, hS, (fun _ _ _ => rfl), (0), ⟨by omega, by omega⟩, (by omega), (fun _ hz => by
                        obtain ⟨z1, z2, z3⟩ := hz
                        omega), (by omega), (fun _ => cw), rfl⟩
                · refine ezw_aload_n rfl rfl ?_
                  refine ezw_iconst (0) rfl rfl ?_
                  refine ezy_put_i hS rfl rfl rfl rfl rfl ⟨by decide, by decide⟩ (fun F28 hS mF28 nF28 => ?_)
                  refine ezw_aload_n rfl rfl ?_
                  refine ezw_iconst (0) rfl rfl ?_
                  refine ezy_put_i hS rfl rfl rfl rfl rfl ⟨by decide, by decide⟩ (fun F29 hS mF29 nF29 => ?_)
                  refine ezw_aload_n rfl rfl ?_
                  refine ezw_iconst (2) rfl rfl ?_
                  refine ezy_put_i hS rfl rfl rfl rfl rfl ⟨by decide, by decide⟩ (fun F30 hS mF30 nF30 => ?_)
                  refine ezw_iconst (1) rfl rfl ?_
                  have g0 : F30 13 0 = (0) := by rw [nF30 13 0 (by decide), nF29 13 0 (by decide), mF28]
                  have g1 : F30 13 1 = (0) := by rw [nF30 13 1 (by decide), mF29]
                  have g2 : F30 13 2 = (F 13 2) := by rw [nF30 13 2 (by decide), nF29 13 2 (by decide), nF28 13 2 (by decide)]
                  have g3 : F30 13 3 = (F 13 3) := by rw [nF30 13 3 (by decide), nF29 13 3 (by decide), nF28 13 3 (by decide)]
                  have g4 : F30 13 4 = (2) := by rw [mF30]
                  have g5 : F30 13 5 = (F 13 5) := by rw [nF30 13 5 (by decide), nF29 13 5 (by decide), nF28 13 5 (by decide)]
                  have g6 : F30 13 6 = (F 13 6) := by rw [nF30 13 6 (by decide), nF29 13 6 (by decide), nF28 13 6 (by decide)]
                  exact ezw_ireturn rfl (ezw_zret ⟨by omega, by omega⟩) ⟨F30, rfl, hS, (fun p j h => by rw [nF30 p j (fun z => h (⟨z.1, (Or.inr (Or.inr z.2))⟩)), nF29 p j (fun z => h (⟨z.1, (Or.inr (Or.inl z.2))⟩)), nF28 p j (fun z => h (⟨z.1, (Or.inl z.2)⟩))]), (1), ⟨by omega, by omega⟩, (fun _ => ⟨by omega, by omega, Or.inr (Or.inr ⟨by omega, by omega, by omega⟩)⟩), (by omega), (fun _ => by
                        unfold ezn_tP
                        rw [if_neg (by omega), if_neg (by omega)]
                        exact ⟨by rw [g0]; rfl, by rw [g1]; rfl, by rw [g2]; exact w2, by rw [g3]; exact w3, by rw [g4]; rfl, by rw [g5]; exact w5, by rw [g6]; exact w6⟩), (by omega), rfl⟩
          · refine ezw_iload rfl rfl ?_
            refine ezw_bipush (10) rfl rfl ?_
            refine ezw_icmp_ge rfl rfl hu8 ⟨by decide, by decide⟩ (fun h83_30 => ?_) (fun h83_30 => ?_)
            · refine ezw_iload rfl rfl ?_
              refine ezw_iconst (2) rfl rfl ?_
              refine ezw_icmp_ne rfl rfl ha4 ⟨by decide, by decide⟩ (fun h121_30 => ?_) (fun h121_30 => ?_)
              · refine ezw_iconst (0) rfl rfl ?_
                exact ezw_ireturn rfl (ezw_zret ⟨by omega, by omega⟩) ⟨F, rfl, hS, (fun _ _ _ => rfl), (0), ⟨by omega, by omega⟩, (by omega), (fun _ hz => by
                      obtain ⟨z1, z2, z3⟩ := hz
                      omega), (by omega), (fun _ => cw), rfl⟩
              · refine ezw_iload rfl rfl ?_
                refine ezw_bipush (10) rfl rfl ?_
                refine ezw_icmp_ge rfl rfl hu8 ⟨by decide, by decide⟩ (fun h128_30 => ?_) (fun h128_30 => ?_)
                · refine ezw_iconst (0) rfl rfl ?_
                  exact ezw_ireturn rfl (ezw_zret ⟨by omega, by omega⟩) ⟨F, rfl, hS, (fun _ _ _ => rfl), (0), ⟨by omega, by omega⟩, (by omega), (fun _ hz => by
                        obtain ⟨z1, z2, z3⟩ := hz
                        omega), (by omega), (fun _ => cw), rfl⟩
                · refine ezw_iload rfl rfl ?_
                  refine ezw_if_le rfl rfl hu13 (fun h133_30 => ?_) (fun h133_30 => ?_)
                  · refine ezw_iconst (0) rfl rfl ?_
                    exact ezw_ireturn rfl (ezw_zret ⟨by omega, by omega⟩) ⟨F, rfl, hS, (fun _ _ _ => rfl), (0), ⟨by omega, by omega⟩, (by omega), (fun _ hz => by
                          obtain ⟨z1, z2, z3⟩ := hz
                          omega), (by omega), (fun _ => cw), rfl⟩
                  · refine ezw_aload_n rfl rfl ?_
                    refine ezw_iconst (0) rfl rfl ?_
                    refine ezy_put_i hS rfl rfl rfl rfl rfl ⟨by decide, by decide⟩ (fun F31 hS mF31 nF31 => ?_)
                    refine ezw_aload_n rfl rfl ?_
                    refine ezw_iconst (0) rfl rfl ?_
                    refine ezy_put_i hS rfl rfl rfl rfl rfl ⟨by decide, by decide⟩ (fun F32 hS mF32 nF32 => ?_)
                    refine ezw_aload_n rfl rfl ?_
                    refine ezw_iconst (2) rfl rfl ?_
                    refine ezy_put_i hS rfl rfl rfl rfl rfl ⟨by decide, by decide⟩ (fun F33 hS mF33 nF33 => ?_)
                    refine ezw_iconst (1) rfl rfl ?_
                    have g0 : F33 13 0 = (0) := by rw [nF33 13 0 (by decide), nF32 13 0 (by decide), mF31]
                    have g1 : F33 13 1 = (0) := by rw [nF33 13 1 (by decide), mF32]
                    have g2 : F33 13 2 = (F 13 2) := by rw [nF33 13 2 (by decide), nF32 13 2 (by decide), nF31 13 2 (by decide)]
                    have g3 : F33 13 3 = (F 13 3) := by rw [nF33 13 3 (by decide), nF32 13 3 (by decide), nF31 13 3 (by decide)]
                    have g4 : F33 13 4 = (2) := by rw [mF33]
                    have g5 : F33 13 5 = (F 13 5) := by rw [nF33 13 5 (by decide), nF32 13 5 (by decide), nF31 13 5 (by decide)]
                    have g6 : F33 13 6 = (F 13 6) := by rw [nF33 13 6 (by decide), nF32 13 6 (by decide), nF31 13 6 (by decide)]
                    exact ezw_ireturn rfl (ezw_zret ⟨by omega, by omega⟩) ⟨F33, rfl, hS, (fun p j h => by rw [nF33 p j (fun z => h (⟨z.1, (Or.inr (Or.inr z.2))⟩)), nF32 p j (fun z => h (⟨z.1, (Or.inr (Or.inl z.2))⟩)), nF31 p j (fun z => h (⟨z.1, (Or.inl z.2)⟩))]), (1), ⟨by omega, by omega⟩, (fun _ => ⟨by omega, by omega, Or.inr (Or.inr ⟨by omega, by omega, by omega⟩)⟩), (by omega), (fun _ => by
                          unfold ezn_tP
                          rw [if_neg (by omega), if_neg (by omega)]
                          exact ⟨by rw [g0]; rfl, by rw [g1]; rfl, by rw [g2]; exact w2, by rw [g3]; exact w3, by rw [g4]; rfl, by rw [g5]; exact w5, by rw [g6]; exact w6⟩), (by omega), rfl⟩
            · refine ezw_iload rfl rfl ?_
              refine ezw_bipush (10) rfl rfl ?_
              refine ezw_icmp_ge rfl rfl hu13 ⟨by decide, by decide⟩ (fun h90_33 => ?_) (fun h90_33 => ?_)
              · refine ezw_iload rfl rfl ?_
                refine ezw_iconst (2) rfl rfl ?_
                refine ezw_icmp_ne rfl rfl ha4 ⟨by decide, by decide⟩ (fun h121_33 => ?_) (fun h121_33 => ?_)
                · refine ezw_iconst (0) rfl rfl ?_
                  exact ezw_ireturn rfl (ezw_zret ⟨by omega, by omega⟩) ⟨F, rfl, hS, (fun _ _ _ => rfl), (0), ⟨by omega, by omega⟩, (by omega), (fun _ hz => by
                        obtain ⟨z1, z2, z3⟩ := hz
                        omega), (by omega), (fun _ => cw), rfl⟩
                · refine ezw_iload rfl rfl ?_
                  refine ezw_bipush (10) rfl rfl ?_
                  refine ezw_icmp_ge rfl rfl hu8 ⟨by decide, by decide⟩ (fun h128_33 => ?_) (fun h128_33 => ?_)
                  · refine ezw_iconst (0) rfl rfl ?_
                    exact ezw_ireturn rfl (ezw_zret ⟨by omega, by omega⟩) ⟨F, rfl, hS, (fun _ _ _ => rfl), (0), ⟨by omega, by omega⟩, (by omega), (fun _ hz => by
                          obtain ⟨z1, z2, z3⟩ := hz
                          omega), (by omega), (fun _ => cw), rfl⟩
                  · refine ezw_iload rfl rfl ?_
                    refine ezw_if_le rfl rfl hu13 (fun h133_33 => ?_) (fun h133_33 => ?_)
                    · refine ezw_iconst (0) rfl rfl ?_
                      exact ezw_ireturn rfl (ezw_zret ⟨by omega, by omega⟩) ⟨F, rfl, hS, (fun _ _ _ => rfl), (0), ⟨by omega, by omega⟩, (by omega), (fun _ hz => by
                            obtain ⟨z1, z2, z3⟩ := hz
                            omega), (by omega), (fun _ => cw), rfl⟩
                    · refine ezw_aload_n rfl rfl ?_
                      refine ezw_iconst (0) rfl rfl ?_
                      refine ezy_put_i hS rfl rfl rfl rfl rfl ⟨by decide, by decide⟩ (fun F34 hS mF34 nF34 => ?_)
                      refine ezw_aload_n rfl rfl ?_
                      refine ezw_iconst (0) rfl rfl ?_
                      refine ezy_put_i hS rfl rfl rfl rfl rfl ⟨by decide, by decide⟩ (fun F35 hS mF35 nF35 => ?_)
                      refine ezw_aload_n rfl rfl ?_
                      refine ezw_iconst (2) rfl rfl ?_
                      refine ezy_put_i hS rfl rfl rfl rfl rfl ⟨by decide, by decide⟩ (fun F36 hS mF36 nF36 => ?_)
                      refine ezw_iconst (1) rfl rfl ?_
                      have g0 : F36 13 0 = (0) := by rw [nF36 13 0 (by decide), nF35 13 0 (by decide), mF34]
                      have g1 : F36 13 1 = (0) := by rw [nF36 13 1 (by decide), mF35]
                      have g2 : F36 13 2 = (F 13 2) := by rw [nF36 13 2 (by decide), nF35 13 2 (by decide), nF34 13 2 (by decide)]
                      have g3 : F36 13 3 = (F 13 3) := by rw [nF36 13 3 (by decide), nF35 13 3 (by decide), nF34 13 3 (by decide)]
                      have g4 : F36 13 4 = (2) := by rw [mF36]
                      have g5 : F36 13 5 = (F 13 5) := by rw [nF36 13 5 (by decide), nF35 13 5 (by decide), nF34 13 5 (by decide)]
                      have g6 : F36 13 6 = (F 13 6) := by rw [nF36 13 6 (by decide), nF35 13 6 (by decide), nF34 13 6 (by decide)]
                      exact ezw_ireturn rfl (ezw_zret ⟨by omega, by omega⟩) ⟨F36, rfl, hS, (fun p j h => by rw [nF36 p j (fun z => h (⟨z.1, (Or.inr (Or.inr z.2))⟩)), nF35 p j (fun z => h (⟨z.1, (Or.inr (Or.inl z.2))⟩)), nF34 p j (fun z => h (⟨z.1, (Or.inl z.2)⟩))]), (1), ⟨by omega, by omega⟩, (fun _ => ⟨by omega, by omega, Or.inr (Or.inr ⟨by omega, by omega, by omega⟩)⟩), (by omega), (fun _ => by
                            unfold ezn_tP
                            rw [if_neg (by omega), if_neg (by omega)]
                            exact ⟨by rw [g0]; rfl, by rw [g1]; rfl, by rw [g2]; exact w2, by rw [g3]; exact w3, by rw [g4]; rfl, by rw [g5]; exact w5, by rw [g6]; exact w6⟩), (by omega), rfl⟩
              · refine ezw_aload_n rfl rfl ?_
                refine ezw_bipush (9) rfl rfl ?_
                refine ezw_aload_n rfl rfl ?_
                refine ezy_get_i hS rfl rfl rfl rfl rfl rfl (fun u37 hu37 ku37 eu37 => ?_)
                replace eu37 := eu37.symm
                subst eu37
                refine ezw_iload_n rfl rfl ?_
                have J109_39 : ∀ y38 : Int, ezw_in y38 → (y38 = 1 + a3) → ezw_E l ρ B xa Hb D cA d ezq_re121 (ezt_m121_13_30nQ e F A y w qc a2 a3 a4) 109 [some (ezw_p 13), some (ezw_p 30), some (ezw_i a2), some (ezw_i a3), some (ezw_i a4), some (ezw_i u8), some (ezw_i u13)] [ezw_i y38, ezw_i (F 13 1), ezw_i (9), ezw_p 13] (ezu_g e F A) := by
                  intro y38 hy38 v_39
                  refine ezw_iadd (k := (F 13 1) + y38) rfl (by omega) ?_
                  refine ezw_mminE rfl ⟨by decide, by decide⟩ ⟨by omega, by omega⟩ rfl (fun u40 hu40 => ?_)
                  refine ezy_put_i hS rfl rfl rfl rfl rfl ⟨by omega, by omega⟩ (fun F41 hS mF41 nF41 => ?_)
                  refine ezw_iconst (1) rfl rfl ?_
                  have g0 : F41 13 0 = (F 13 0) := by rw [nF41 13 0 (by decide)]
                  have g1 : F41 13 1 = u40 := by rw [mF41]
                  have g2 : F41 13 2 = (F 13 2) := by rw [nF41 13 2 (by decide)]
                  have g3 : F41 13 3 = (F 13 3) := by rw [nF41 13 3 (by decide)]
                  have g4 : F41 13 4 = (F 13 4) := by rw [nF41 13 4 (by decide)]
                  have g5 : F41 13 5 = (F 13 5) := by rw [nF41 13 5 (by decide)]
                  have g6 : F41 13 6 = (F 13 6) := by rw [nF41 13 6 (by decide)]
                  exact ezw_ireturn rfl (ezw_zret ⟨by omega, by omega⟩) ⟨F41, rfl, hS, (fun p j h => by rw [nF41 p j (fun z => h (⟨z.1, (Or.inr (Or.inl z.2))⟩))]), (1), ⟨by omega, by omega⟩, (fun _ => ⟨by omega, by omega, Or.inr (Or.inl ⟨by omega, by omega, by omega⟩)⟩), (by omega), (fun _ => by
                        unfold ezn_tP
                        rw [if_neg (by omega), if_pos (by omega)]
                        exact ⟨by rw [g0]; exact w0, by rw [g1]; show _ = (if w.ti + 1 + a3 ≤ 9 then w.ti + 1 + a3 else 9); split <;> omega, by rw [g2]; exact w2, by rw [g3]; exact w3, by rw [g4]; exact w4, by rw [g5]; exact w5, by rw [g6]; exact w6⟩), (by omega), rfl⟩
                refine ezw_if_eq rfl rfl ha3 (fun h101_37 => ?_) (fun h101_37 => ?_)
                · refine ezw_iconst (1) rfl rfl ?_
                  exact ezw_keepE [true, true, true, true, true, true, true] (J109_39 (1) ⟨by decide, by decide⟩ (by omega))
                · refine ezw_iconst (2) rfl rfl ?_
                  refine ezw_goto rfl rfl ?_
                  exact ezw_keepE [true, true, true, true, true, true, true] (J109_39 (2) ⟨by decide, by decide⟩ (by omega))
        · refine ezw_aload_n rfl rfl ?_
          refine ezw_aload_n rfl rfl ?_
          refine ezy_get_i hS rfl rfl rfl rfl rfl rfl (fun u42 hu42 ku42 eu42 => ?_)
          replace eu42 := eu42.symm
          subst eu42
          refine ezw_call2_1 rfl (by omega) rfl rfl (ezt_m107n hS (by omega) hu42 (by omega)) ?_
          rintro _ _ ⟨rfl, u44, hu44, an_43, rfl⟩
          have ho : u44 = ezn_lo w.ov := by rw [an_43, w0]
          have hr9 := ezn_lo_r x0 x1 (x10 (by omega))
          have hg : 0 ≤ u44 ∧ u44 < 6 ∧ ezt_b w.ov u44 = 1 := by
            rw [ho]
            exact ⟨hr9.1.1, hr9.1.2, hr9.2.1⟩
          refine ezw_call0_1 rfl (by omega) (ezu_at rfl) rfl rfl rfl rfl (ezt_m122_13n hS (by omega) hu44 cw wb hg) ?_
          rintro _ _ ⟨F45, rfl, hS, nF45, of_45, rfl⟩
          refine ezw_iconst (1) rfl rfl ?_
          exact ezw_ireturn rfl (ezw_zret ⟨by omega, by omega⟩) ⟨F45, rfl, hS, (fun p j h => by rw [nF45 p j (fun z => h (⟨z.1, z.2⟩))]), (1), ⟨by omega, by omega⟩, (fun _ => ⟨by omega, by omega, Or.inl ⟨by omega, by omega⟩⟩), (by omega), (fun _ => by
                unfold ezn_tP
                rw [if_pos (by omega), ← ho]
                exact of_45), (by omega), rfl⟩
    · refine ezw_iconst (0) rfl rfl ?_
      exact ezw_ireturn rfl (ezw_zret ⟨by omega, by omega⟩) ⟨F, rfl, hS, (fun _ _ _ => rfl), (0), ⟨by omega, by omega⟩, (by omega), (fun _ hz => by
            obtain ⟨z1, z2, z3⟩ := hz
            omega), (by omega), (fun _ => cw), rfl⟩
def ezt_m124_13_30nQ (e : Bool × Bool) (F : Nat → Nat → Int) (A : Nat → Int → Int) (y : ezp_D) (w : ezn_N) : Option ezq_V → (Nat → ezq_C) → Prop := fun v g' => ∃ (F' : Nat → Nat → Int), ezu_g e F' A = g' ∧ ezs_T F' A ∧ (∀ p j, ¬ (p = 13 ∧ (j = 0 ∨ j = 1 ∨ j = 4)) → F' p j = F p j) ∧ ∃ u : Int, (0 ≤ u ∧ u ≤ 1) ∧ (u = 1 → ezn_cL y w) ∧ (u = 0 → ¬ ezn_cL y w) ∧ (u = 1 → ezn_C 13 (ezn_off w (ezn_lo w.ov)) F') ∧ (u = 0 → ezn_C 13 w F') ∧ some (ezw_i u) = v
theorem ezt_m124_13_30n {y : ezp_D} {w : ezn_N} {F : Nat → Nat → Int} {A : Nat → Int → Int} (hS : ezs_T F A) (hd : 3 ≤ d) (tr : ezt_TR 30 y F A) (nu : ezt_NU 30 y A) (hB : ezp_B y) (cw : ezn_C 13 w F) (wb : ezn_B y w) : ezw_C l ρ B xa Hb D cA 124 d [ezw_p 13, ezw_p 30] (ezu_g e F A) (ezt_m124_13_30nQ e F A y w) := by
  refine ezw_met (k := 0) rfl rfl ?_
  obtain ⟨⟨c1, c2, c3, c4⟩, ⟨d1, d2, d3, d4, d5, d6, d7, d8⟩, e3, e4, e5, e6⟩ := id tr
  obtain ⟨b1, b2', b3, b4, b5, b6, b7, ⟨b8, b8'⟩, b9⟩ := id hB
  obtain ⟨w0, w1, w2, w3, w4, w5, w6⟩ := id cw
  obtain ⟨⟨x0, x1⟩, x2, x3, x4, x5, x6, x7, x8, x9, x10, x11, x12⟩ := id wb
  have n5 : A 44 5 = y.nu 5 := nu 5 (by decide) (by decide)
  have nb5 : 0 ≤ y.nu 5 ∧ y.nu 5 ≤ 10 := b8 5 (by decide) (by decide)
  refine ezw_aload_n rfl rfl ?_
  refine ezy_get_i hS rfl rfl rfl rfl rfl rfl (fun u1 hu1 ku1 eu1 => ?_)
  replace eu1 := eu1.symm
  subst eu1
  refine ezw_if_ne rfl rfl hu1 (fun h4_1 => ?_) (fun h4_1 => ?_)
  · refine ezw_iconst (0) rfl rfl ?_
    exact ezw_ireturn rfl (ezw_zret ⟨by omega, by omega⟩) ⟨F, rfl, hS, (fun _ _ _ => rfl), (0), ⟨by omega, by omega⟩, (by omega), (fun _ hz => by
          obtain ⟨z1, z2, z3, z4⟩ := hz
          omega), (by omega), (fun _ => cw), rfl⟩
  · refine ezw_aload_n rfl rfl ?_
    refine ezy_get_i hS rfl rfl rfl rfl rfl rfl (fun u2 hu2 ku2 eu2 => ?_)
    replace eu2 := eu2.symm
    subst eu2
    refine ezw_if_gt rfl rfl hu2 (fun h11_2 => ?_) (fun h11_2 => ?_)
    · refine ezw_iconst (0) rfl rfl ?_
      exact ezw_ireturn rfl (ezw_zret ⟨by omega, by omega⟩) ⟨F, rfl, hS, (fun _ _ _ => rfl), (0), ⟨by omega, by omega⟩, (by omega), (fun _ hz => by
            obtain ⟨z1, z2, z3, z4⟩ := hz
            omega), (by omega), (fun _ => cw), rfl⟩
    · refine ezw_aload_n rfl rfl ?_
      refine ezw_iconst (5) rfl rfl ?_
      refine ezw_call0_1 rfl (by omega) (ezu_at rfl) rfl rfl rfl rfl (ezt_m95_30o hS (by omega) ⟨by decide, by decide⟩) ?_
      rintro _ _ ⟨rfl, u4, hu4, v_3, rfl⟩
      have z5 := v_3 (by omega) (by omega)
      refine ezw_if_le rfl rfl hu4 (fun h19_4 => ?_) (fun h19_4 => ?_)
      · refine ezw_iconst (0) rfl rfl ?_
        exact ezw_ireturn rfl (ezw_zret ⟨by omega, by omega⟩) ⟨F, rfl, hS, (fun _ _ _ => rfl), (0), ⟨by omega, by omega⟩, (by omega), (fun _ hz => by
              obtain ⟨z1, z2, z3, z4⟩ := hz
              omega), (by omega), (fun _ => cw), rfl⟩
      · refine ezw_aload_n rfl rfl ?_
        refine ezy_get_i hS rfl rfl rfl rfl rfl rfl (fun u5 hu5 ku5 eu5 => ?_)
        replace eu5 := eu5.symm
        subst eu5
        refine ezw_aload_n rfl rfl ?_
        refine ezs_getp (p := 33) rfl rfl rfl rfl rfl ?_
        refine ezw_aload_n rfl rfl ?_
        refine ezw_aload_n rfl rfl ?_
        refine ezw_call0_1 rfl (by omega) (ezu_at rfl) rfl rfl rfl rfl (ezt_m106_13_30n hS (by omega) tr nu hB cw wb) ?_
        rintro _ _ ⟨rfl, u7, hu7, an_6, rfl⟩
        have hl := ezn_la_r hB wb (by omega)
        refine ezw_call3_2 rfl (by omega) rfl rfl (ezt_m27_33o hS (by omega) hu7) ?_
        rintro _ _ ⟨rfl, u9, hu9, v_8, o_8, rfl⟩
        have f1 : A 33 (ezn_la y w) = y.si (ezn_la y w) := (e3 _ hl.1 hl.2).2.2.2.1
        have f3 := v_8 (by rw [an_6]; omega) (by rw [an_6]; omega)
        rw [an_6, f1] at f3
        refine ezw_icmp_eq rfl rfl hu5 hu9 (fun h38_9 => ?_) (fun h38_9 => ?_)
        · refine ezw_aload_n rfl rfl ?_
          refine ezw_aload_n rfl rfl ?_
          refine ezy_get_i hS rfl rfl rfl rfl rfl rfl (fun u10 hu10 ku10 eu10 => ?_)
          replace eu10 := eu10.symm
          subst eu10
          refine ezw_call2_1 rfl (by omega) rfl rfl (ezt_m107n hS (by omega) hu10 (by omega)) ?_
          rintro _ _ ⟨rfl, u12, hu12, an_11, rfl⟩
          have ho : u12 = ezn_lo w.ov := by rw [an_11, w0]
          have hr9 := ezn_lo_r x0 x1 (x10 (by omega))
          have hg : 0 ≤ u12 ∧ u12 < 6 ∧ ezt_b w.ov u12 = 1 := by
            rw [ho]
            exact ⟨hr9.1.1, hr9.1.2, hr9.2.1⟩
          refine ezw_call0_1 rfl (by omega) (ezu_at rfl) rfl rfl rfl rfl (ezt_m122_13n hS (by omega) hu12 cw wb hg) ?_
          rintro _ _ ⟨F13, rfl, hS, nF13, of_13, rfl⟩
          refine ezw_iconst (1) rfl rfl ?_
          exact ezw_ireturn rfl (ezw_zret ⟨by omega, by omega⟩) ⟨F13, rfl, hS, (fun p j h => by rw [nF13 p j (fun z => h (⟨z.1, z.2⟩))]), (1), ⟨by omega, by omega⟩, (fun _ => ⟨by omega, by omega, by omega, by omega⟩), (by omega), (fun _ => by
                rw [← ho]
                exact of_13), (by omega), rfl⟩
        · refine ezw_iconst (0) rfl rfl ?_
          exact ezw_ireturn rfl (ezw_zret ⟨by omega, by omega⟩) ⟨F, rfl, hS, (fun _ _ _ => rfl), (0), ⟨by omega, by omega⟩, (by omega), (fun _ hz => by
                obtain ⟨z1, z2, z3, z4⟩ := hz
                omega), (by omega), (fun _ => cw), rfl⟩
def ezt_m27_36oQ (e : Bool × Bool) (F : Nat → Nat → Int) (A : Nat → Int → Int) (a1 : Int) : Option ezq_V → (Nat → ezq_C) → Prop := fun v g' => ezu_g e F A = g' ∧ ∃ u : Int, (ezw_in u) ∧ (0 ≤ a1 → a1 < 4 → u = A 36 a1) ∧ (a1 < 0 ∨ 4 ≤ a1 → u = 0) ∧ some (ezw_i u) = v
theorem ezt_m27_36o {a1 : Int} {F : Nat → Nat → Int} {A : Nat → Int → Int} (hS : ezs_T F A) (hd : 0 ≤ d) (ha1 : ezw_in a1) : ezw_C l ρ B xa Hb D cA 27 d [ezw_p 36, ezw_i a1] (ezu_g e F A) (ezt_m27_36oQ e F A a1) := by
  refine ezw_met (k := 0) rfl rfl ?_
  refine ezw_aload_n rfl rfl ?_
  refine ezw_ifnull rfl ?_
  refine ezw_iload_n rfl rfl ?_
  refine ezw_if_lt rfl rfl ha1 (fun h5_0 => ?_) (fun h5_0 => ?_)
  · refine ezw_iconst (0) rfl rfl ?_
    exact ezw_ireturn rfl rfl ⟨rfl, (0), ⟨by decide, by decide⟩, by omega, by omega, rfl⟩
  · refine ezw_iload_n rfl rfl ?_
    refine ezw_aload_n rfl rfl ?_
    refine ezs_alen (k := 4) rfl rfl rfl rfl (by decide) (by decide) ?_
    refine ezw_icmp_ge rfl rfl ha1 ⟨by decide, by decide⟩ (fun h11_0 => ?_) (fun h11_0 => ?_)
    · refine ezw_iconst (0) rfl rfl ?_
      exact ezw_ireturn rfl rfl ⟨rfl, (0), ⟨by decide, by decide⟩, by omega, by omega, rfl⟩
    · refine ezw_aload_n rfl rfl ?_
      refine ezw_iload_n rfl rfl ?_
      refine ezy_iaload hS rfl rfl rfl (by omega) (by omega) (by decide) (fun u1 hu1 ku1 eu1 => ?_)
      refine ezw_goto rfl rfl ?_
      exact ezw_ireturn rfl rfl ⟨rfl, u1, hu1, by omega, by omega, rfl⟩
def ezt_m27_37oQ (e : Bool × Bool) (F : Nat → Nat → Int) (A : Nat → Int → Int) (a1 : Int) : Option ezq_V → (Nat → ezq_C) → Prop := fun v g' => ezu_g e F A = g' ∧ ∃ u : Int, (ezw_in u) ∧ (0 ≤ a1 → a1 < 4 → u = A 37 a1) ∧ (a1 < 0 ∨ 4 ≤ a1 → u = 0) ∧ some (ezw_i u) = v
theorem ezt_m27_37o {a1 : Int} {F : Nat → Nat → Int} {A : Nat → Int → Int} (hS : ezs_T F A) (hd : 0 ≤ d) (ha1 : ezw_in a1) : ezw_C l ρ B xa Hb D cA 27 d [ezw_p 37, ezw_i a1] (ezu_g e F A) (ezt_m27_37oQ e F A a1) := by
  refine ezw_met (k := 0) rfl rfl ?_
  refine ezw_aload_n rfl rfl ?_
  refine ezw_ifnull rfl ?_
  refine ezw_iload_n rfl rfl ?_
  refine ezw_if_lt rfl rfl ha1 (fun h5_0 => ?_) (fun h5_0 => ?_)
  · refine ezw_iconst (0) rfl rfl ?_
    exact ezw_ireturn rfl rfl ⟨rfl, (0), ⟨by decide, by decide⟩, by omega, by omega, rfl⟩
  · refine ezw_iload_n rfl rfl ?_
    refine ezw_aload_n rfl rfl ?_
    refine ezs_alen (k := 4) rfl rfl rfl rfl (by decide) (by decide) ?_
    refine ezw_icmp_ge rfl rfl ha1 ⟨by decide, by decide⟩ (fun h11_0 => ?_) (fun h11_0 => ?_)
    · refine ezw_iconst (0) rfl rfl ?_
      exact ezw_ireturn rfl rfl ⟨rfl, (0), ⟨by decide, by decide⟩, by omega, by omega, rfl⟩
    · refine ezw_aload_n rfl rfl ?_
      refine ezw_iload_n rfl rfl ?_
      refine ezy_iaload hS rfl rfl rfl (by omega) (by omega) (by decide) (fun u1 hu1 ku1 eu1 => ?_)
      refine ezw_goto rfl rfl ?_
      exact ezw_ireturn rfl rfl ⟨rfl, u1, hu1, by omega, by omega, rfl⟩
def ezt_m125_13_30nQ (e : Bool × Bool) (F : Nat → Nat → Int) (A : Nat → Int → Int) (y : ezp_D) (w : ezn_N) (a2 : Int) (a3 : Int) : Option ezq_V → (Nat → ezq_C) → Prop := fun v g' => ∃ (F' : Nat → Nat → Int), ezu_g e F' A = g' ∧ ezs_T F' A ∧ (∀ p j, ¬ (p = 13 ∧ (j = 0 ∨ j = 1 ∨ j = 4 ∨ j = 6)) → F' p j = F p j) ∧ ∃ u : Int, (0 ≤ u ∧ u ≤ 1) ∧ (u = 1 → ezn_cH y w a2 a3) ∧ (u = 0 → ¬ ezn_cH y w a2 a3) ∧ (u = 1 → ezn_C 13 (ezn_tH w a2 a3) F') ∧ (u = 0 → ezn_C 13 w F') ∧ some (ezw_i u) = v
theorem ezt_m125_13_30n {y : ezp_D} {w : ezn_N} {a2 a3 : Int} {F : Nat → Nat → Int} {A : Nat → Int → Int} (hS : ezs_T F A) (hd : 3 ≤ d) (ha2 : ezw_in a2) (ha3 : ezw_in a3) (tr : ezt_TR 30 y F A) (nu : ezt_NU 30 y A) (hB : ezp_B y) (cw : ezn_C 13 w F) (wb : ezn_B y w) : ezw_C l ρ B xa Hb D cA 125 d [ezw_p 13, ezw_p 30, ezw_i a2, ezw_i a3] (ezu_g e F A) (ezt_m125_13_30nQ e F A y w a2 a3) := by
  refine ezw_met (k := 2) rfl rfl ?_
  obtain ⟨⟨c1, c2, c3, c4⟩, ⟨d1, d2, d3, d4, d5, d6, d7, d8⟩, e3, e4, e5, e6⟩ := id tr
  obtain ⟨b1, b2', b3, b4, b5, b6, b7, ⟨b8, b8'⟩, b9⟩ := id hB
  obtain ⟨w0, w1, w2, w3, w4, w5, w6⟩ := id cw
  obtain ⟨⟨x0, x1⟩, x2, x3, x4, x5, x6, x7, x8, x9, x10, x11, x12⟩ := id wb
  refine ezw_aload_n rfl rfl ?_
  refine ezy_get_i hS rfl rfl rfl rfl rfl rfl (fun u1 hu1 ku1 eu1 => ?_)
  replace eu1 := eu1.symm
  subst eu1
  refine ezw_if_ne rfl rfl hu1 (fun h4_1 => ?_) (fun h4_1 => ?_)
  · refine ezw_iconst (0) rfl rfl ?_
    exact ezw_ireturn rfl (ezw_zret ⟨by omega, by omega⟩) ⟨F, rfl, hS, (fun _ _ _ => rfl), (0), ⟨by omega, by omega⟩, (by omega), (fun _ hz => absurd hz.1 (by omega)), (by omega), (fun _ => cw), rfl⟩
  · refine ezw_aload_n rfl rfl ?_
    refine ezy_get_i hS rfl rfl rfl rfl rfl rfl (fun u2 hu2 ku2 eu2 => ?_)
    replace eu2 := eu2.symm
    subst eu2
    refine ezw_iload_n rfl rfl ?_
    refine ezw_call3_2 rfl (by omega) rfl rfl (ezt_m49o hS (by omega) hu2 ha2) ?_
    rintro _ _ ⟨rfl, u4, hu4, v_3, o_3, rfl⟩
    refine ezw_if_ne rfl rfl hu4 (fun h15_4 => ?_) (fun h15_4 => ?_)
    · have hb : 0 ≤ a2 ∧ a2 < 4 ∧ ezt_b w.ha a2 = 1 := by
        by_cases h31 : 0 ≤ a2 ∧ a2 < 31
        · have h9 := v_3 h31.1 h31.2
          rw [w6] at h9
          have h8 := ezn_b01 w.ha a2
          have h7 : ezt_b w.ha a2 = 1 := by omega
          exact ⟨h31.1, ezn_b4 x8.1 x8.2 h31.1 h7, h7⟩
        · have h9 := o_3 (by omega)
          omega
      have hk := x9 a2 hb.1 hb.2.1 hb.2.2
      have f1 : A 36 a2 = y.st a2 := (e4 a2 hb.1 hk).2.2.1
      have f2 : A 37 a2 = y.fr a2 := (e4 a2 hb.1 hk).2.2.2.1
      have f3 := b2' a2 hb.1 hk
      refine ezw_aload_n rfl rfl ?_
      refine ezs_getp (p := 36) rfl rfl rfl rfl rfl ?_
      refine ezw_iload_n rfl rfl ?_
      refine ezw_call3_2 rfl (by omega) rfl rfl (ezt_m27_36o hS (by omega) ha2) ?_
      rintro _ _ ⟨rfl, u6, hu6, v_5, o_5, rfl⟩
      have z1 := v_5 (by omega) (by omega)
      refine ezw_istore rfl rfl ?_
      refine ezw_aload_n rfl rfl ?_
      refine ezs_getp (p := 37) rfl rfl rfl rfl rfl ?_
      refine ezw_iload_n rfl rfl ?_
      refine ezw_call3_2 rfl (by omega) rfl rfl (ezt_m27_37o hS (by omega) ha2) ?_
      rintro _ _ ⟨rfl, u8, hu8, v_7, o_7, rfl⟩
      have z2 := v_7 (by omega) (by omega)
      refine ezw_istore rfl rfl ?_
      refine ezw_iload_n rfl rfl ?_
      refine ezw_if_ne rfl rfl ha3 (fun h41_8 => ?_) (fun h41_8 => ?_)
      · refine ezw_iload_n rfl rfl ?_
        refine ezw_iconst (1) rfl rfl ?_
        refine ezw_icmp_ne rfl rfl ha3 ⟨by decide, by decide⟩ (fun h62_8 => ?_) (fun h62_8 => ?_)
        · refine ezw_iload_n rfl rfl ?_
          refine ezw_iconst (2) rfl rfl ?_
          refine ezw_icmp_ne rfl rfl ha3 ⟨by decide, by decide⟩ (fun h88_8 => ?_) (fun h88_8 => ?_)
          · refine ezw_iconst (0) rfl rfl ?_
            exact ezw_ireturn rfl (ezw_zret ⟨by omega, by omega⟩) ⟨F, rfl, hS, (fun _ _ _ => rfl), (0), ⟨by omega, by omega⟩, (by omega), (fun _ hz => by
                  obtain ⟨z1, ⟨z2, z3, z4⟩, z5⟩ := hz
                  omega), (by omega), (fun _ => cw), rfl⟩
          · refine ezw_iload rfl rfl ?_
            refine ezw_if_le rfl rfl hu8 (fun h93_8 => ?_) (fun h93_8 => ?_)
            · refine ezw_iconst (0) rfl rfl ?_
              exact ezw_ireturn rfl (ezw_zret ⟨by omega, by omega⟩) ⟨F, rfl, hS, (fun _ _ _ => rfl), (0), ⟨by omega, by omega⟩, (by omega), (fun _ hz => by
                    obtain ⟨z1, ⟨z2, z3, z4⟩, z5⟩ := hz
                    omega), (by omega), (fun _ => cw), rfl⟩
            · refine ezw_aload_n rfl rfl ?_
              refine ezw_aload_n rfl rfl ?_
              refine ezy_get_i hS rfl rfl rfl rfl rfl rfl (fun u9 hu9 ku9 eu9 => ?_)
              replace eu9 := eu9.symm
              subst eu9
              refine ezw_call2_1 rfl (by omega) rfl rfl (ezt_m107n hS (by omega) hu9 (by omega)) ?_
              rintro _ _ ⟨rfl, u11, hu11, an_10, rfl⟩
              have ho : u11 = ezn_lo w.ov := by rw [an_10, w0]
              have hr9 := ezn_lo_r x0 x1 (x10 (by omega))
              have hg : 0 ≤ u11 ∧ u11 < 6 ∧ ezt_b w.ov u11 = 1 := by
                rw [ho]
                exact ⟨hr9.1.1, hr9.1.2, hr9.2.1⟩
              refine ezw_call0_1 rfl (by omega) (ezu_at rfl) rfl rfl rfl rfl (ezt_m122_13n hS (by omega) hu11 cw wb hg) ?_
              rintro _ _ ⟨F12, rfl, hS, nF12, of_12, rfl⟩
              refine ezw_iconst (1) rfl rfl ?_
              exact ezw_ireturn rfl (ezw_zret ⟨by omega, by omega⟩) ⟨F12, rfl, hS, (fun p j h => by rw [nF12 p j (fun z => h (⟨z.1, (z.2.elim (fun y => (Or.inl y)) (fun y => (y.elim (fun y => (Or.inr (Or.inl y))) (fun y => (Or.inr (Or.inr (Or.inl y)))))))⟩))]), (1), ⟨by omega, by omega⟩, (fun _ => ⟨by omega, ⟨hb.1, hk, hb.2.2⟩, Or.inr (Or.inr ⟨by omega, by omega⟩)⟩), (by omega), (fun _ => by
                    unfold ezn_tH
                    rw [if_neg (by omega), if_neg (by omega), ← ho]
                    exact of_12), (by omega), rfl⟩
        · refine ezw_iload rfl rfl ?_
          refine ezw_if_le rfl rfl hu6 (fun h67_12 => ?_) (fun h67_12 => ?_)
          · refine ezw_iload_n rfl rfl ?_
            refine ezw_iconst (2) rfl rfl ?_
            refine ezw_icmp_ne rfl rfl ha3 ⟨by decide, by decide⟩ (fun h88_12 => ?_) (fun h88_12 => ?_)
            · refine ezw_iconst (0) rfl rfl ?_
              exact ezw_ireturn rfl (ezw_zret ⟨by omega, by omega⟩) ⟨F, rfl, hS, (fun _ _ _ => rfl), (0), ⟨by omega, by omega⟩, (by omega), (fun _ hz => by
                    obtain ⟨z1, ⟨z2, z3, z4⟩, z5⟩ := hz
                    omega), (by omega), (fun _ => cw), rfl⟩
            · refine ezw_iload rfl rfl ?_
              refine ezw_if_le rfl rfl hu8 (fun h93_12 => ?_) (fun h93_12 => ?_)
              · refine ezw_iconst (0) rfl rfl ?_
                exact ezw_ireturn rfl (ezw_zret ⟨by omega, by omega⟩) ⟨F, rfl, hS, (fun _ _ _ => rfl), (0), ⟨by omega, by omega⟩, (by omega), (fun _ hz => by
                      obtain ⟨z1, ⟨z2, z3, z4⟩, z5⟩ := hz
                      omega), (by omega), (fun _ => cw), rfl⟩
              · refine ezw_aload_n rfl rfl ?_
                refine ezw_aload_n rfl rfl ?_
                refine ezy_get_i hS rfl rfl rfl rfl rfl rfl (fun u13 hu13 ku13 eu13 => ?_)
                replace eu13 := eu13.symm
                subst eu13
                refine ezw_call2_1 rfl (by omega) rfl rfl (ezt_m107n hS (by omega) hu13 (by omega)) ?_
                rintro _ _ ⟨rfl, u15, hu15, an_14, rfl⟩
                have ho : u15 = ezn_lo w.ov := by rw [an_14, w0]
                have hr9 := ezn_lo_r x0 x1 (x10 (by omega))
                have hg : 0 ≤ u15 ∧ u15 < 6 ∧ ezt_b w.ov u15 = 1 := by
                  rw [ho]
                  exact ⟨hr9.1.1, hr9.1.2, hr9.2.1⟩
                refine ezw_call0_1 rfl (by omega) (ezu_at rfl) rfl rfl rfl rfl (ezt_m122_13n hS (by omega) hu15 cw wb hg) ?_
                rintro _ _ ⟨F16, rfl, hS, nF16, of_16, rfl⟩
                refine ezw_iconst (1) rfl rfl ?_
                exact ezw_ireturn rfl (ezw_zret ⟨by omega, by omega⟩) ⟨F16, rfl, hS, (fun p j h => by rw [nF16 p j (fun z => h (⟨z.1, (z.2.elim (fun y => (Or.inl y)) (fun y => (y.elim (fun y => (Or.inr (Or.inl y))) (fun y => (Or.inr (Or.inr (Or.inl y)))))))⟩))]), (1), ⟨by omega, by omega⟩, (fun _ => ⟨by omega, ⟨hb.1, hk, hb.2.2⟩, Or.inr (Or.inr ⟨by omega, by omega⟩)⟩), (by omega), (fun _ => by
                      unfold ezn_tH
                      rw [if_neg (by omega), if_neg (by omega), ← ho]
                      exact of_16), (by omega), rfl⟩
          · obtain ⟨m1, m2, m3, m4⟩ := ezn_rm x8.1 (by omega) hb.1 (by omega) hb.2.2
            refine ezw_aload_n rfl rfl ?_
            refine ezw_dup rfl rfl ?_
            refine ezy_get_i hS rfl rfl rfl rfl rfl rfl (fun u17 hu17 ku17 eu17 => ?_)
            replace eu17 := eu17.symm
            subst eu17
            refine ezw_iconst (1) rfl rfl ?_
            refine ezw_iload_n rfl rfl ?_
            refine ezw_ishl rfl (by omega) (by omega) (k := (1 * 2 ^ (a2).toNat)) (rfl) ?_
            refine ezw_iconst (-1) rfl rfl ?_
            refine ezw_ixor rfl (k := ezw_xor (1 * 2 ^ (a2).toNat) (-1)) rfl ?_
            refine ezw_iand rfl (k := (F 13 6) - 2 ^ (a2).toNat) (by rw [w6]; exact ezn_andn x8.1 (by omega) hb.1 (by omega) hb.2.2) ?_
            refine ezy_put_i hS rfl rfl rfl rfl rfl ⟨by omega, by omega⟩ (fun F18 hS mF18 nF18 => ?_)
            refine ezw_iconst (1) rfl rfl ?_
            have g0 : F18 13 0 = (F 13 0) := by rw [nF18 13 0 (by decide)]
            have g1 : F18 13 1 = (F 13 1) := by rw [nF18 13 1 (by decide)]
            have g2 : F18 13 2 = (F 13 2) := by rw [nF18 13 2 (by decide)]
            have g3 : F18 13 3 = (F 13 3) := by rw [nF18 13 3 (by decide)]
            have g4 : F18 13 4 = (F 13 4) := by rw [nF18 13 4 (by decide)]
            have g5 : F18 13 5 = (F 13 5) := by rw [nF18 13 5 (by decide)]
            have g6 : F18 13 6 = (F 13 6) - 2 ^ (a2).toNat := by rw [mF18]
            exact ezw_ireturn rfl (ezw_zret ⟨by omega, by omega⟩) ⟨F18, rfl, hS, (fun p j h => by rw [nF18 p j (fun z => h (⟨z.1, (Or.inr (Or.inr (Or.inr z.2)))⟩))]), (1), ⟨by omega, by omega⟩, (fun _ => ⟨by omega, ⟨hb.1, hk, hb.2.2⟩, Or.inr (Or.inl ⟨by omega, by omega⟩)⟩), (by omega), (fun _ => by
                  unfold ezn_tH
                  rw [if_neg (by omega), if_pos (by omega)]
                  exact ⟨by rw [g0]; exact w0, by rw [g1]; exact w1, by rw [g2]; exact w2, by rw [g3]; exact w3, by rw [g4]; exact w4, by rw [g5]; exact w5, by rw [g6]; show _ = w.ha - 2 ^ a2.toNat; omega⟩), (by omega), rfl⟩
      · refine ezw_iload rfl rfl ?_
        refine ezw_iload rfl rfl ?_
        refine ezw_iadd (k := u6 + u8) rfl (by omega) ?_
        refine ezw_bipush (10) rfl rfl ?_
        refine ezw_icmp_ge rfl rfl ⟨by omega, by omega⟩ ⟨by decide, by decide⟩ (fun h51_18 => ?_) (fun h51_18 => ?_)
        · refine ezw_iconst (0) rfl rfl ?_
          exact ezw_ireturn rfl (ezw_zret ⟨by omega, by omega⟩) ⟨F, rfl, hS, (fun _ _ _ => rfl), (0), ⟨by omega, by omega⟩, (by omega), (fun _ hz => by
                obtain ⟨z1, ⟨z2, z3, z4⟩, z5⟩ := hz
                omega), (by omega), (fun _ => cw), rfl⟩
        · refine ezw_iconst (1) rfl rfl ?_
          refine ezw_goto rfl rfl ?_
          exact ezw_ireturn rfl (ezw_zret ⟨by omega, by omega⟩) ⟨F, rfl, hS, (fun _ _ _ => rfl), (1), ⟨by omega, by omega⟩, (fun _ => ⟨by omega, ⟨hb.1, hk, hb.2.2⟩, Or.inl ⟨by omega, by omega⟩⟩), (by omega), (fun _ => by
                unfold ezn_tH
                rw [if_pos (by omega)]
                exact cw), (by omega), rfl⟩
    · refine ezw_iconst (0) rfl rfl ?_
      exact ezw_ireturn rfl (ezw_zret ⟨by omega, by omega⟩) ⟨F, rfl, hS, (fun _ _ _ => rfl), (0), ⟨by omega, by omega⟩, (by omega), (fun _ hz => by
            obtain ⟨z1, ⟨z2, z3, z4⟩, z5⟩ := hz
            have h9 := v_3 z2 (by omega)
            rw [w6] at h9
            omega), (by omega), (fun _ => cw), rfl⟩
def ezt_m126_13_30nQ (e : Bool × Bool) (F : Nat → Nat → Int) (A : Nat → Int → Int) (y : ezp_D) (w : ezn_N) (a2 : Int) (a3 : Int) : Option ezq_V → (Nat → ezq_C) → Prop := fun v g' => ∃ (F' : Nat → Nat → Int), ezu_g e F' A = g' ∧ ezs_T F' A ∧ (∀ p j, ¬ (p = 13 ∧ (j = 0 ∨ j = 1 ∨ j = 4)) → F' p j = F p j) ∧ ∃ u : Int, (0 ≤ u ∧ u ≤ 1) ∧ (u = 1 → ezn_cC y w a2 a3) ∧ (u = 0 → ¬ ezn_cC y w a2 a3) ∧ (u = 1 → ezn_C 13 (ezn_off w (ezn_ps y w a2 6)) F') ∧ (u = 0 → ezn_C 13 w F') ∧ some (ezw_i u) = v
theorem ezt_m126_13_30n {y : ezp_D} {w : ezn_N} {a2 a3 : Int} {F : Nat → Nat → Int} {A : Nat → Int → Int} (hS : ezs_T F A) (hd : 3 ≤ d) (ha2 : ezw_in a2) (ha3 : ezw_in a3) (tr : ezt_TR 30 y F A) (nu : ezt_NU 30 y A) (hB : ezp_B y) (cw : ezn_C 13 w F) (wb : ezn_B y w) (gf : 0 ≤ a3 ∧ a3 ≤ 1) : ezw_C l ρ B xa Hb D cA 126 d [ezw_p 13, ezw_p 30, ezw_i a2, ezw_i a3] (ezu_g e F A) (ezt_m126_13_30nQ e F A y w a2 a3) := by
  refine ezw_met (k := 2) rfl rfl ?_
  obtain ⟨⟨c1, c2, c3, c4⟩, ⟨d1, d2, d3, d4, d5, d6, d7, d8⟩, e3, e4, e5, e6⟩ := id tr
  obtain ⟨b1, b2', b3, b4, b5, b6, b7, ⟨b8, b8'⟩, b9⟩ := id hB
  obtain ⟨w0, w1, w2, w3, w4, w5, w6⟩ := id cw
  obtain ⟨⟨x0, x1⟩, x2, x3, x4, x5, x6, x7, x8, x9, x10, x11, x12⟩ := id wb
  have n7 : A 44 7 = y.nu 7 := nu 7 (by decide) (by decide)
  have nb7 : 0 ≤ y.nu 7 ∧ y.nu 7 ≤ 60 := b8 7 (by decide) (by decide)
  have n8 : A 44 8 = y.nu 8 := nu 8 (by decide) (by decide)
  have nb8 : 0 ≤ y.nu 8 ∧ y.nu 8 ≤ 60 := b8 8 (by decide) (by decide)
  refine ezw_aload_n rfl rfl ?_
  refine ezw_aload_n rfl rfl ?_
  refine ezw_iload_n rfl rfl ?_
  refine ezw_call0_2 rfl (by omega) (ezu_at rfl) rfl rfl rfl rfl (ezt_m109_13_30n hS (by omega) ha2 tr nu hB cw wb) ?_
  rintro _ _ ⟨rfl, u2, hu2, an_1, rfl⟩
  refine ezw_istore rfl rfl ?_
  refine ezw_iload rfl rfl ?_
  refine ezw_iconst (-1) rfl rfl ?_
  refine ezw_icmp_ne rfl rfl hu2 ⟨by decide, by decide⟩ (fun h11_2 => ?_) (fun h11_2 => ?_)
  · have hp : ezn_ps y w a2 6 ≠ -1 := by rw [← an_1]; omega
    have hpr := ezn_ps_r hB wb hp
    have f1 : A 31 a2 = y.hi a2 := (e3 a2 (by omega) (by omega)).2.1
    refine ezw_iload_n rfl rfl ?_
    have J57_4 : ∀ y3 : Int, ezw_in y3 → (y3 = 1 ∧ (a3 = 1 ∧ y.hi a2 ≤ y.nu 7 + y.nu 8 ∨ a3 = 0 ∧ ezp_be y 8 a2 = true) ∨ y3 = 0 ∧ ¬ (a3 = 1 ∧ y.hi a2 ≤ y.nu 7 + y.nu 8 ∨ a3 = 0 ∧ ezp_be y 8 a2 = true)) → ezw_E l ρ B xa Hb D cA d ezq_re126 (ezt_m126_13_30nQ e F A y w a2 a3) 57 [some (ezw_p 13), some (ezw_p 30), some (ezw_i a2), some (ezw_i a3), some (ezw_i u2), none] [ezw_i y3] (ezu_g e F A) := by
      intro y3 hy3 rc_4
      refine ezw_istore rfl rfl ?_
      refine ezw_iload rfl rfl ?_
      refine ezw_if_eq rfl rfl hy3 (fun h61_4 => ?_) (fun h61_4 => ?_)
      · refine ezw_iload rfl rfl ?_
        exact ezw_ireturn rfl (ezw_zret ⟨by omega, by omega⟩) ⟨F, rfl, hS, (fun _ _ _ => rfl), y3, ⟨by omega, by omega⟩, (fun hu => ⟨hp, by
              rcases rc_4 with ⟨r1, r2⟩ | ⟨r1, r2⟩
              · exact r2
              · omega⟩), (fun hu hz => by
              rcases rc_4 with ⟨r1, r2⟩ | ⟨r1, r2⟩
              · omega
              · exact r2 hz.2), (by omega), (fun _ => cw), rfl⟩
      · refine ezw_aload_n rfl rfl ?_
        refine ezw_iload rfl rfl ?_
        have hg : 0 ≤ u2 ∧ u2 < 6 ∧ ezt_b w.ov u2 = 1 := by
          rw [an_1]
          exact hpr.1
        refine ezw_call0_1 rfl (by omega) (ezu_at rfl) rfl rfl rfl rfl (ezt_m122_13n hS (by omega) hu2 cw wb hg) ?_
        rintro _ _ ⟨F5, rfl, hS, nF5, of_5, rfl⟩
        refine ezw_iload rfl rfl ?_
        exact ezw_ireturn rfl (ezw_zret ⟨by omega, by omega⟩) ⟨F5, rfl, hS, (fun p j h => by rw [nF5 p j (fun z => h (⟨z.1, z.2⟩))]), y3, ⟨by omega, by omega⟩, (fun hu => ⟨hp, by
              rcases rc_4 with ⟨r1, r2⟩ | ⟨r1, r2⟩
              · exact r2
              · omega⟩), (fun hu hz => by
              rcases rc_4 with ⟨r1, r2⟩ | ⟨r1, r2⟩
              · omega
              · exact r2 hz.2), (fun _ => by
              rw [← an_1]
              exact of_5), (by omega), rfl⟩
    refine ezw_if_eq rfl rfl ha3 (fun h17_2 => ?_) (fun h17_2 => ?_)
    · refine ezw_aload_n rfl rfl ?_
      refine ezw_iload_n rfl rfl ?_
      refine ezw_call0_1 rfl (by omega) (ezu_at rfl) rfl rfl rfl rfl (ezt_m127_30o hS (by omega) ha2 tr nu hB (by omega)) ?_
      rintro _ _ ⟨rfl, u7, hu7, p6_0, p6_1, rfl⟩
      exact ezw_keepE [true, true, true, true, true, false] (J57_4 u7 ⟨by omega, by omega⟩ (by
            rcases (show u7 = 0 ∨ u7 = 1 by omega) with hu | hu
            · refine Or.inr ⟨by omega, fun hz => ?_⟩
              have h9 := p6_1 hu
              rcases hz with z | z
              · omega
              · rw [h9] at z
                exact absurd z.2 (by decide)
            · exact Or.inl ⟨by omega, Or.inr ⟨by omega, p6_0 hu⟩⟩))
    · refine ezw_aload_n rfl rfl ?_
      refine ezs_getp (p := 31) rfl rfl rfl rfl rfl ?_
      refine ezw_iload_n rfl rfl ?_
      refine ezw_call3_2 rfl (by omega) rfl rfl (ezt_m27_31o hS (by omega) ha2) ?_
      rintro _ _ ⟨rfl, u9, hu9, v_8, o_8, rfl⟩
      have z1 := v_8 (by omega) (by omega)
      refine ezw_aload_n rfl rfl ?_
      refine ezw_bipush (7) rfl rfl ?_
      refine ezw_call0_1 rfl (by omega) (ezu_at rfl) rfl rfl rfl rfl (ezt_m95_30o hS (by omega) ⟨by decide, by decide⟩) ?_
      rintro _ _ ⟨rfl, u11, hu11, v_10, rfl⟩
      have z2 := v_10 (by omega) (by omega)
      refine ezw_aload_n rfl rfl ?_
      refine ezw_bipush (8) rfl rfl ?_
      refine ezw_call0_1 rfl (by omega) (ezu_at rfl) rfl rfl rfl rfl (ezt_m95_30o hS (by omega) ⟨by decide, by decide⟩) ?_
      rintro _ _ ⟨rfl, u13, hu13, v_12, rfl⟩
      have z3 := v_12 (by omega) (by omega)
      refine ezw_iadd (k := u11 + u13) rfl (by omega) ?_
      refine ezw_icmp_gt rfl rfl hu9 ⟨by omega, by omega⟩ (fun h41_13 => ?_) (fun h41_13 => ?_)
      · refine ezw_iconst (0) rfl rfl ?_
        refine ezw_goto rfl rfl ?_
        exact ezw_keepE [true, true, true, true, true, false] (J57_4 (0) ⟨by decide, by decide⟩ (by
              first
                | exact Or.inl ⟨by omega, Or.inl ⟨by omega, by omega⟩⟩
                | (refine Or.inr ⟨by omega, fun hz => ?_⟩
                   rcases hz with z | z <;> omega)))
      · refine ezw_iconst (1) rfl rfl ?_
        refine ezw_goto rfl rfl ?_
        exact ezw_keepE [true, true, true, true, true, false] (J57_4 (1) ⟨by decide, by decide⟩ (by
              first
                | exact Or.inl ⟨by omega, Or.inl ⟨by omega, by omega⟩⟩
                | (refine Or.inr ⟨by omega, fun hz => ?_⟩
                   rcases hz with z | z <;> omega)))
  · refine ezw_iconst (0) rfl rfl ?_
    exact ezw_ireturn rfl (ezw_zret ⟨by omega, by omega⟩) ⟨F, rfl, hS, (fun _ _ _ => rfl), (0), ⟨by omega, by omega⟩, (by omega), (fun _ hz => hz.1 (by rw [← an_1]; omega)), (by omega), (fun _ => cw), rfl⟩
def ezt_m129_30nQ (e : Bool × Bool) (F : Nat → Nat → Int) (A : Nat → Int → Int) (y : ezp_D) (a1 : Int) (a2 : Int) : Option ezq_V → (Nat → ezq_C) → Prop := fun v g' => ezu_g e F A = g' ∧ ∃ u : Int, (ezw_in u) ∧ (u = ezn_dw y a1 a2) ∧ some (ezw_i u) = v
theorem ezt_m129_30n {y : ezp_D} {a1 a2 : Int} {F : Nat → Nat → Int} {A : Nat → Int → Int} (hS : ezs_T F A) (hd : 2 ≤ d) (ha1 : ezw_in a1) (ha2 : ezw_in a2) (tr : ezt_TR 30 y F A) (nu : ezt_NU 30 y A) (hB : ezp_B y) (ga : 0 ≤ a2 ∧ a2 ≤ 99) : ezw_C l ρ B xa Hb D cA 129 d [ezw_p 30, ezw_i a1, ezw_i a2] (ezu_g e F A) (ezt_m129_30nQ e F A y a1 a2) := by
  refine ezw_met (k := 1) rfl rfl ?_
  obtain ⟨⟨c1, c2, c3, c4⟩, ⟨d1, d2, d3, d4, d5, d6, d7, d8⟩, e3, e4, e5, e6⟩ := id tr
  obtain ⟨b1, b2', b3, b4, b5, b6, b7, ⟨b8, b8'⟩, b9⟩ := id hB
  have n6 : A 44 6 = y.nu 6 := nu 6 (by decide) (by decide)
  have nb6 : 0 ≤ y.nu 6 ∧ y.nu 6 ≤ 9 := b8 6 (by decide) (by decide)
  refine ezw_iload_n rfl rfl ?_
  refine ezw_bipush (20) rfl rfl ?_
  have J17_2 : ∀ y1 : Int, ezw_in y1 → (y1 = 1 ∧ (20 ≤ a1 ∨ a1 < 6) ∨ y1 = 0 ∧ ¬ (20 ≤ a1 ∨ a1 < 6)) → ezw_E l ρ B xa Hb D cA d ezq_re129 (ezt_m129_30nQ e F A y a1 a2) 17 [some (ezw_p 30), some (ezw_i a1), some (ezw_i a2), none] [ezw_i y1] (ezu_g e F A) := by
    intro y1 hy1 dw_2
    refine ezw_istore_n rfl rfl ?_
    refine ezw_iload_n rfl rfl ?_
    refine ezw_if_eq rfl rfl hy1 (fun h19_2 => ?_) (fun h19_2 => ?_)
    · refine ezw_iload_n rfl rfl ?_
      exact ezw_ireturn rfl rfl ⟨rfl, a2, ha2, (by
            unfold ezn_dw
            (repeat' split) <;> omega), rfl⟩
    · refine ezw_iconst (0) rfl rfl ?_
      refine ezw_iload_n rfl rfl ?_
      refine ezw_aload_n rfl rfl ?_
      refine ezw_bipush (6) rfl rfl ?_
      refine ezw_call0_1 rfl (by omega) (ezu_at rfl) rfl rfl rfl rfl (ezt_m95_30o hS (by omega) ⟨by decide, by decide⟩) ?_
      rintro _ _ ⟨rfl, u4, hu4, v_3, rfl⟩
      have z1 := v_3 (by omega) (by omega)
      refine ezw_isub (k := a2 - u4) rfl (by omega) ?_
      refine ezw_mmaxE rfl ⟨by decide, by decide⟩ ⟨by omega, by omega⟩ rfl (fun u5 hu5 => ?_)
      refine ezw_goto rfl rfl ?_
      exact ezw_ireturn rfl rfl ⟨rfl, u5, ⟨by omega, by omega⟩, (by
            unfold ezn_dw
            (repeat' split) <;> omega), rfl⟩
  refine ezw_icmp_ge rfl rfl ha1 ⟨by decide, by decide⟩ (fun h3_0 => ?_) (fun h3_0 => ?_)
  · refine ezw_iconst (1) rfl rfl ?_
    refine ezw_goto rfl rfl ?_
    exact ezw_keepE [true, true, true, false] (J17_2 (1) ⟨by decide, by decide⟩ (by omega))
  · refine ezw_iload_n rfl rfl ?_
    refine ezw_bipush (6) rfl rfl ?_
    refine ezw_icmp_ge rfl rfl ha1 ⟨by decide, by decide⟩ (fun h9_5 => ?_) (fun h9_5 => ?_)
    · refine ezw_iconst (0) rfl rfl ?_
      exact ezw_keepE [true, true, true, false] (J17_2 (0) ⟨by decide, by decide⟩ (by omega))
    · refine ezw_iconst (1) rfl rfl ?_
      refine ezw_goto rfl rfl ?_
      exact ezw_keepE [true, true, true, false] (J17_2 (1) ⟨by decide, by decide⟩ (by omega))
def ezt_m128_13_30nQ (e : Bool × Bool) (F : Nat → Nat → Int) (A : Nat → Int → Int) (y : ezp_D) (w : ezn_N) (a2 : Int) : Option ezq_V → (Nat → ezq_C) → Prop := fun v g' => ∃ (F' : Nat → Nat → Int), ezu_g e F' A = g' ∧ ezs_T F' A ∧ (∀ p j, ¬ (p = 13 ∧ (j = 2 ∨ j = 3 ∨ j = 5)) → F' p j = F p j) ∧ ∃ u : Int, (0 ≤ u ∧ u ≤ 1) ∧ (u = 1 → (0 ≤ a2 ∧ a2 < 4)) ∧ (u = 0 → ¬ (0 ≤ a2 ∧ a2 < 4)) ∧ (u = 1 → ezn_C 13 (ezn_hr y w a2) F') ∧ (u = 0 → ezn_C 13 w F') ∧ some (ezw_i u) = v
theorem ezt_m128_13_30n {y : ezp_D} {w : ezn_N} {a2 : Int} {F : Nat → Nat → Int} {A : Nat → Int → Int} (hS : ezs_T F A) (hd : 3 ≤ d) (ha2 : ezw_in a2) (tr : ezt_TR 30 y F A) (nu : ezt_NU 30 y A) (hB : ezp_B y) (cw : ezn_C 13 w F) (wb : ezn_B y w) : ezw_C l ρ B xa Hb D cA 128 d [ezw_p 13, ezw_p 30, ezw_i a2] (ezu_g e F A) (ezt_m128_13_30nQ e F A y w a2) := by
  refine ezw_met (k := 0) rfl rfl ?_
  obtain ⟨w0, w1, w2, w3, w4, w5, w6⟩ := id cw
  obtain ⟨⟨x0, x1⟩, x2, x3, x4, x5, x6, x7, x8, x9, x10, x11, x12⟩ := id wb
  refine ezw_iload_n rfl rfl ?_
  refine ezw_call3_1 rfl (by omega) rfl rfl (ezt_m112o hS (by omega) ha2) ?_
  rintro _ _ ⟨rfl, u2, hu2, p1_0, p1_1, rfl⟩
  refine ezw_if_ne rfl rfl ⟨by omega, by omega⟩ (fun h4_2 => ?_) (fun h4_2 => ?_)
  · refine ezw_aload_n rfl rfl ?_
    refine ezw_aload_n rfl rfl ?_
    refine ezy_get_i hS rfl rfl rfl rfl rfl rfl (fun u3 hu3 ku3 eu3 => ?_)
    replace eu3 := eu3.symm
    subst eu3
    refine ezw_iconst (1) rfl rfl ?_
    refine ezw_iadd (k := (F 13 2) + 1) rfl (by omega) ?_
    refine ezw_bipush (24) rfl rfl ?_
    refine ezm_irem rfl ⟨by omega, by omega⟩ ⟨by decide, by decide⟩ (by decide) (fun u4 hu4 ku4 => ?_)
    refine ezy_put_i hS rfl rfl rfl rfl rfl hu4 (fun F5 hS mF5 nF5 => ?_)
    refine ezw_aload_n rfl rfl ?_
    refine ezw_iload_n rfl rfl ?_
    refine ezy_put_i hS rfl rfl rfl rfl rfl ha2 (fun F6 hS mF6 nF6 => ?_)
    refine ezw_aload_n rfl rfl ?_
    refine ezy_get_i hS rfl rfl rfl rfl rfl rfl (fun u7 hu7 ku7 eu7 => ?_)
    rw [nF6 13 4 (by decide), nF5 13 4 (by decide)] at eu7
    replace eu7 := eu7.symm
    subst eu7
    refine ezw_if_ne rfl rfl hu7 (fun h31_7 => ?_) (fun h31_7 => ?_)
    · refine ezw_iconst (1) rfl rfl ?_
      have g0 : F6 13 0 = (F 13 0) := by rw [nF6 13 0 (by decide), nF5 13 0 (by decide)]
      have g1 : F6 13 1 = (F 13 1) := by rw [nF6 13 1 (by decide), nF5 13 1 (by decide)]
      have g2 : F6 13 2 = u4 := by rw [nF6 13 2 (by decide), mF5]
      have g3 : F6 13 3 = a2 := by rw [mF6]
      have g4 : F6 13 4 = (F 13 4) := by rw [nF6 13 4 (by decide), nF5 13 4 (by decide)]
      have g5 : F6 13 5 = (F 13 5) := by rw [nF6 13 5 (by decide), nF5 13 5 (by decide)]
      have g6 : F6 13 6 = (F 13 6) := by rw [nF6 13 6 (by decide), nF5 13 6 (by decide)]
      exact ezw_ireturn rfl (ezw_zret ⟨by omega, by omega⟩) ⟨F6, rfl, hS, (fun p j h => by rw [nF6 p j (fun z => h (⟨z.1, (Or.inr (Or.inl z.2))⟩)), nF5 p j (fun z => h (⟨z.1, (Or.inl z.2)⟩))]), (1), ⟨by omega, by omega⟩, (fun _ => by omega), (by omega), (fun _ => ⟨by rw [g0]; exact w0, by rw [g1]; exact w1, by rw [g2]; show _ = (w.ho + 1) % 24; omega, by rw [g3]; rfl, by rw [g4]; exact w4, by rw [g5]; show _ = (if w.ki = 0 then ezn_dw y ((w.ho + 1) % 24) w.pa else w.pa); rw [if_neg (by omega)]; exact w5, by rw [g6]; exact w6⟩), (by omega), rfl⟩
    · refine ezw_aload_n rfl rfl ?_
      refine ezw_aload_n rfl rfl ?_
      refine ezw_aload_n rfl rfl ?_
      refine ezy_get_i hS rfl rfl rfl rfl rfl rfl (fun u8 hu8 ku8 eu8 => ?_)
      rw [nF6 13 2 (by decide), mF5] at eu8
      replace eu8 := eu8.symm
      subst eu8
      refine ezw_aload_n rfl rfl ?_
      refine ezy_get_i hS rfl rfl rfl rfl rfl rfl (fun u9 hu9 ku9 eu9 => ?_)
      rw [nF6 13 5 (by decide), nF5 13 5 (by decide)] at eu9
      replace eu9 := eu9.symm
      subst eu9
      refine ezw_call2_3 rfl (by omega) rfl rfl (ezt_m129_30n hS (by omega) hu8 hu9 (ezt_TR_fr tr (by rw [nF6 30 15 (by decide), nF5 30 15 (by decide)]) (by rw [nF6 30 16 (by decide), nF5 30 16 (by decide)]) (by rw [nF6 30 17 (by decide), nF5 30 17 (by decide)]) (by rw [nF6 38 1 (by decide), nF5 38 1 (by decide)]) (fun _ _ _ => rfl)) nu hB (by omega)) ?_
      rintro _ _ ⟨rfl, u11, hu11, an_10, rfl⟩
      refine ezy_put_i hS rfl rfl rfl rfl rfl hu11 (fun F12 hS mF12 nF12 => ?_)
      refine ezw_iconst (1) rfl rfl ?_
      have g0 : F12 13 0 = (F 13 0) := by rw [nF12 13 0 (by decide), nF6 13 0 (by decide), nF5 13 0 (by decide)]
      have g1 : F12 13 1 = (F 13 1) := by rw [nF12 13 1 (by decide), nF6 13 1 (by decide), nF5 13 1 (by decide)]
      have g2 : F12 13 2 = u4 := by rw [nF12 13 2 (by decide), nF6 13 2 (by decide), mF5]
      have g3 : F12 13 3 = a2 := by rw [nF12 13 3 (by decide), mF6]
      have g4 : F12 13 4 = (F 13 4) := by rw [nF12 13 4 (by decide), nF6 13 4 (by decide), nF5 13 4 (by decide)]
      have g5 : F12 13 5 = u11 := by rw [mF12]
      have g6 : F12 13 6 = (F 13 6) := by rw [nF12 13 6 (by decide), nF6 13 6 (by decide), nF5 13 6 (by decide)]
      exact ezw_ireturn rfl (ezw_zret ⟨by omega, by omega⟩) ⟨F12, rfl, hS, (fun p j h => by rw [nF12 p j (fun z => h (⟨z.1, (Or.inr (Or.inr z.2))⟩)), nF6 p j (fun z => h (⟨z.1, (Or.inr (Or.inl z.2))⟩)), nF5 p j (fun z => h (⟨z.1, (Or.inl z.2)⟩))]), (1), ⟨by omega, by omega⟩, (fun _ => by omega), (by omega), (fun _ => ⟨by rw [g0]; exact w0, by rw [g1]; exact w1, by rw [g2]; show _ = (w.ho + 1) % 24; omega, by rw [g3]; rfl, by rw [g4]; exact w4, by rw [g5]; show _ = (if w.ki = 0 then ezn_dw y ((w.ho + 1) % 24) w.pa else w.pa); rw [if_pos (by omega), an_10, w5, show u4 = (w.ho + 1) % 24 by omega], by rw [g6]; exact w6⟩), (by omega), rfl⟩
  · refine ezw_iconst (0) rfl rfl ?_
    exact ezw_ireturn rfl (ezw_zret ⟨by omega, by omega⟩) ⟨F, rfl, hS, (fun _ _ _ => rfl), (0), ⟨by omega, by omega⟩, (by omega), (fun _ hz => by omega), (by omega), (fun _ => cw), rfl⟩
def ezt_m121_13_47nQ (e : Bool × Bool) (F : Nat → Nat → Int) (A : Nat → Int → Int) (y : ezp_D) (w : ezn_N) (qc : ezn_Q) (a2 : Int) (a3 : Int) (a4 : Int) : Option ezq_V → (Nat → ezq_C) → Prop := fun v g' => ∃ (F' : Nat → Nat → Int), ezu_g e F' A = g' ∧ ezs_T F' A ∧ (∀ p j, ¬ (p = 13 ∧ (j = 0 ∨ j = 1 ∨ j = 4)) → F' p j = F p j) ∧ ∃ u : Int, (0 ≤ u ∧ u ≤ 1) ∧ (u = 1 → ezn_cP qc y w a2 a3 a4) ∧ (u = 0 → ¬ ezn_cP qc y w a2 a3 a4) ∧ (u = 1 → ezn_C 13 (ezn_tP w a3 a4) F') ∧ (u = 0 → ezn_C 13 w F') ∧ some (ezw_i u) = v
theorem ezt_m121_13_47n {y : ezp_D} {w : ezn_N} {qc : ezn_Q} {a2 a3 a4 : Int} {F : Nat → Nat → Int} {A : Nat → Int → Int} (hS : ezs_T F A) (hd : 3 ≤ d) (ha2 : ezw_in a2) (ha3 : ezw_in a3) (ha4 : ezw_in a4) (tr : ezt_TR 47 y F A) (nu : ezt_NU 47 y A) (hB : ezp_B y) (cw : ezn_C 13 w F) (wb : ezn_B y w) (cq : ezn_CQ qc y 47 A) (qr : ezn_QR qc) (gf : 0 ≤ a3 ∧ a3 ≤ 1) : ezw_C l ρ B xa Hb D cA 121 d [ezw_p 13, ezw_p 47, ezw_i a2, ezw_i a3, ezw_i a4] (ezu_g e F A) (ezt_m121_13_47nQ e F A y w qc a2 a3 a4) := by
  refine ezw_met (k := 2) rfl rfl ?_
  obtain ⟨w0, w1, w2, w3, w4, w5, w6⟩ := id cw
  obtain ⟨⟨x0, x1⟩, x2, x3, x4, x5, x6, x7, x8, x9, x10, x11, x12⟩ := id wb
  refine ezw_aload_n rfl rfl ?_
  refine ezy_get_i hS rfl rfl rfl rfl rfl rfl (fun u1 hu1 ku1 eu1 => ?_)
  replace eu1 := eu1.symm
  subst eu1
  refine ezw_if_ne rfl rfl hu1 (fun h4_1 => ?_) (fun h4_1 => ?_)
  · refine ezw_iconst (0) rfl rfl ?_
    exact ezw_ireturn rfl (ezw_zret ⟨by omega, by omega⟩) ⟨F, rfl, hS, (fun _ _ _ => rfl), (0), ⟨by omega, by omega⟩, (by omega), (fun _ hz => by
          obtain ⟨z1, z2, z3⟩ := hz
          omega), (by omega), (fun _ => cw), rfl⟩
  · refine ezw_iload_n rfl rfl ?_
    refine ezw_call3_1 rfl (by omega) rfl rfl (ezt_m112o hS (by omega) ha2) ?_
    rintro _ _ ⟨rfl, u3, hu3, p2_0, p2_1, rfl⟩
    refine ezw_if_ne rfl rfl ⟨by omega, by omega⟩ (fun h11_3 => ?_) (fun h11_3 => ?_)
    · have hl := ezn_la_r hB wb (by omega)
      refine ezw_aload_n rfl rfl ?_
      refine ezw_aload_n rfl rfl ?_
      refine ezw_aload_n rfl rfl ?_
      refine ezw_call0_1 rfl (by omega) (ezu_at rfl) rfl rfl rfl rfl (ezt_m106_13_47n hS (by omega) tr nu hB cw wb) ?_
      rintro _ _ ⟨rfl, u5, hu5, an_4, rfl⟩
      refine ezw_aload_n rfl rfl ?_
      refine ezy_get_i hS rfl rfl rfl rfl rfl rfl (fun u6 hu6 ku6 eu6 => ?_)
      replace eu6 := eu6.symm
      subst eu6
      refine ezw_iload_n rfl rfl ?_
      refine ezw_iload_n rfl rfl ?_
      refine ezw_call0_4 rfl (by omega) (ezu_at rfl) rfl rfl rfl rfl (ezt_m113_47n hS (by omega) hu5 hu6 ha2 ha3 tr nu hB cq qr (by omega)) ?_
      rintro _ _ ⟨rfl, u8, hu8, an_7, rfl⟩
      have hr : u8 = ezn_ch qc y w 0 a2 a3 := by
        rw [an_7, an_4, w1]
        rfl
      refine ezw_istore rfl rfl ?_
      refine ezw_aload_n rfl rfl ?_
      refine ezw_aload_n rfl rfl ?_
      refine ezw_aload_n rfl rfl ?_
      refine ezw_call0_1 rfl (by omega) (ezu_at rfl) rfl rfl rfl rfl (ezt_m106_13_47n hS (by omega) tr nu hB cw wb) ?_
      rintro _ _ ⟨rfl, u10, hu10, an_9, rfl⟩
      refine ezw_aload_n rfl rfl ?_
      refine ezy_get_i hS rfl rfl rfl rfl rfl rfl (fun u11 hu11 ku11 eu11 => ?_)
      replace eu11 := eu11.symm
      subst eu11
      refine ezw_iload_n rfl rfl ?_
      refine ezw_iload_n rfl rfl ?_
      refine ezw_call0_4 rfl (by omega) (ezu_at rfl) rfl rfl rfl rfl (ezt_m116_47n hS (by omega) hu10 hu11 ha2 ha3 tr nu hB cq qr (by omega)) ?_
      rintro _ _ ⟨rfl, u13, hu13, an_12, rfl⟩
      have ht : u13 = ezn_ch qc y w 1 a2 a3 := by
        rw [an_12, an_9, w1]
        rfl
      refine ezw_istore rfl rfl ?_
      refine ezw_iload rfl rfl ?_
      refine ezw_if_ne rfl rfl ha4 (fun h52_13 => ?_) (fun h52_13 => ?_)
      · refine ezw_iload rfl rfl ?_
        refine ezw_iconst (1) rfl rfl ?_
        refine ezw_icmp_ne rfl rfl ha4 ⟨by decide, by decide⟩ (fun h76_13 => ?_) (fun h76_13 => ?_)
        · refine ezw_iload rfl rfl ?_
          refine ezw_iconst (2) rfl rfl ?_
          refine ezw_icmp_ne rfl rfl ha4 ⟨by decide, by decide⟩ (fun h121_13 => ?_) (fun h121_13 => ?_)
          · refine ezw_iconst (0) rfl rfl ?_
            exact ezw_ireturn rfl (ezw_zret ⟨by omega, by omega⟩) ⟨F, rfl, hS, (fun _ _ _ => rfl), (0), ⟨by omega, by omega⟩, (by omega), (fun _ hz => by
                  obtain ⟨z1, z2, z3⟩ := hz
                  omega), (by omega), (fun _ => cw), rfl⟩
          · refine ezw_iload rfl rfl ?_
            refine ezw_bipush (10) rfl rfl ?_
            refine ezw_icmp_ge rfl rfl hu8 ⟨by decide, by decide⟩ (fun h128_13 => ?_) (fun h128_13 => ?_)
            · refine ezw_iconst (0) rfl rfl ?_
              exact ezw_ireturn rfl (ezw_zret ⟨by omega, by omega⟩) ⟨F, rfl, hS, (fun _ _ _ => rfl), (0), ⟨by omega, by omega⟩, (by omega), (fun _ hz => by
                    obtain ⟨z1, z2, z3⟩ := hz
                    omega), (by omega), (fun _ => cw), rfl⟩
            · refine ezw_iload rfl rfl ?_
              refine ezw_if_le rfl rfl hu13 (fun h133_13 => ?_) (fun h133_13 => ?_)
              · refine ezw_iconst (0) rfl rfl ?_
                exact ezw_ireturn rfl (ezw_zret ⟨by omega, by omega⟩) ⟨F, rfl, hS, (fun _ _ _ => rfl), (0), ⟨by omega, by omega⟩, (by omega), (fun _ hz => by
                      obtain ⟨z1, z2, z3⟩ := hz
                      omega), (by omega), (fun _ => cw), rfl⟩
              · refine ezw_aload_n rfl rfl ?_
                refine ezw_iconst (0) rfl rfl ?_
                refine ezy_put_i hS rfl rfl rfl rfl rfl ⟨by decide, by decide⟩ (fun F14 hS mF14 nF14 => ?_)
                refine ezw_aload_n rfl rfl ?_
                refine ezw_iconst (0) rfl rfl ?_
                refine ezy_put_i hS rfl rfl rfl rfl rfl ⟨by decide, by decide⟩ (fun F15 hS mF15 nF15 => ?_)
                refine ezw_aload_n rfl rfl ?_
                refine ezw_iconst (2) rfl rfl ?_
                refine ezy_put_i hS rfl rfl rfl rfl rfl ⟨by decide, by decide⟩ (fun F16 hS mF16 nF16 => ?_)
                refine ezw_iconst (1) rfl rfl ?_
                have g0 : F16 13 0 = (0) := by rw [nF16 13 0 (by decide), nF15 13 0 (by decide), mF14]
                have g1 : F16 13 1 = (0) := by rw [nF16 13 1 (by decide), mF15]
                have g2 : F16 13 2 = (F 13 2) := by rw [nF16 13 2 (by decide), nF15 13 2 (by decide), nF14 13 2 (by decide)]
                have g3 : F16 13 3 = (F 13 3) := by rw [nF16 13 3 (by decide), nF15 13 3 (by decide), nF14 13 3 (by decide)]
                have g4 : F16 13 4 = (2) := by rw [mF16]
                have g5 : F16 13 5 = (F 13 5) := by rw [nF16 13 5 (by decide), nF15 13 5 (by decide), nF14 13 5 (by decide)]
                have g6 : F16 13 6 = (F 13 6) := by rw [nF16 13 6 (by decide), nF15 13 6 (by decide), nF14 13 6 (by decide)]
                exact ezw_ireturn rfl (ezw_zret ⟨by omega, by omega⟩) ⟨F16, rfl, hS, (fun p j h => by rw [nF16 p j (fun z => h (⟨z.1, (Or.inr (Or.inr z.2))⟩)), nF15 p j (fun z => h (⟨z.1, (Or.inr (Or.inl z.2))⟩)), nF14 p j (fun z => h (⟨z.1, (Or.inl z.2)⟩))]), (1), ⟨by omega, by omega⟩, (fun _ => ⟨by omega, by omega, Or.inr (Or.inr ⟨by omega, by omega, by omega⟩)⟩), (by omega), (fun _ => by
                      unfold ezn_tP
                      rw [if_neg (by omega), if_neg (by omega)]
                      exact ⟨by rw [g0]; rfl, by rw [g1]; rfl, by rw [g2]; exact w2, by rw [g3]; exact w3, by rw [g4]; rfl, by rw [g5]; exact w5, by rw [g6]; exact w6⟩), (by omega), rfl⟩
        · refine ezw_iload rfl rfl ?_
          refine ezw_bipush (10) rfl rfl ?_
          refine ezw_icmp_ge rfl rfl hu8 ⟨by decide, by decide⟩ (fun h83_16 => ?_) (fun h83_16 => ?_)
          · refine ezw_iload rfl rfl ?_
            refine ezw_iconst (2) rfl rfl ?_
            refine ezw_icmp_ne rfl rfl ha4 ⟨by decide, by decide⟩ (fun h121_16 => ?_) (fun h121_16 => ?_)
            · refine ezw_iconst (0) rfl rfl ?_
              exact ezw_ireturn rfl (ezw_zret ⟨by omega, by omega⟩) ⟨F, rfl, hS, (fun _ _ _ => rfl), (0), ⟨by omega, by omega⟩, (by omega), (fun _ hz => by
                    obtain ⟨z1, z2, z3⟩ := hz
                    omega), (by omega), (fun _ => cw), rfl⟩
            · refine ezw_iload rfl rfl ?_
              refine ezw_bipush (10) rfl rfl ?_
              refine ezw_icmp_ge rfl rfl hu8 ⟨by decide, by decide⟩ (fun h128_16 => ?_) (fun h128_16 => ?_)
              · refine ezw_iconst (0) rfl rfl ?_
                exact ezw_ireturn rfl (ezw_zret ⟨by omega, by omega⟩) ⟨F, rfl, hS, (fun _ _ _ => rfl), (0), ⟨by omega, by omega⟩, (by omega), (fun _ hz => by
                      obtain ⟨z1, z2, z3⟩ := hz
                      omega), (by omega), (fun _ => cw), rfl⟩
              · refine ezw_iload rfl rfl ?_
                refine ezw_if_le rfl rfl hu13 (fun h133_16 => ?_) (fun h133_16 => ?_)
                · refine ezw_iconst (0) rfl rfl ?_
                  exact ezw_ireturn rfl (ezw_zret ⟨by omega, by omega⟩) ⟨F, rfl, hS, (fun _ _ _ => rfl), (0), ⟨by omega, by omega⟩, (by omega), (fun _ hz => by
                        obtain ⟨z1, z2, z3⟩ := hz
                        omega), (by omega), (fun _ => cw), rfl⟩
                · refine ezw_aload_n rfl rfl ?_
                  refine ezw_iconst (0) rfl rfl ?_
                  refine ezy_put_i hS rfl rfl rfl rfl rfl ⟨by decide, by decide⟩ (fun F17 hS mF17 nF17 => ?_)
                  refine ezw_aload_n rfl rfl ?_
                  refine ezw_iconst (0) rfl rfl ?_
                  refine ezy_put_i hS rfl rfl rfl rfl rfl ⟨by decide, by decide⟩ (fun F18 hS mF18 nF18 => ?_)
                  refine ezw_aload_n rfl rfl ?_
                  refine ezw_iconst (2) rfl rfl ?_
                  refine ezy_put_i hS rfl rfl rfl rfl rfl ⟨by decide, by decide⟩ (fun F19 hS mF19 nF19 => ?_)
                  refine ezw_iconst (1) rfl rfl ?_
                  have g0 : F19 13 0 = (0) := by rw [nF19 13 0 (by decide), nF18 13 0 (by decide), mF17]
                  have g1 : F19 13 1 = (0) := by rw [nF19 13 1 (by decide), mF18]
                  have g2 : F19 13 2 = (F 13 2) := by rw [nF19 13 2 (by decide), nF18 13 2 (by decide), nF17 13 2 (by decide)]
                  have g3 : F19 13 3 = (F 13 3) := by rw [nF19 13 3 (by decide), nF18 13 3 (by decide), nF17 13 3 (by decide)]
                  have g4 : F19 13 4 = (2) := by rw [mF19]
                  have g5 : F19 13 5 = (F 13 5) := by rw [nF19 13 5 (by decide), nF18 13 5 (by decide), nF17 13 5 (by decide)]
                  have g6 : F19 13 6 = (F 13 6) := by rw [nF19 13 6 (by decide), nF18 13 6 (by decide), nF17 13 6 (by decide)]
                  exact ezw_ireturn rfl (ezw_zret ⟨by omega, by omega⟩) ⟨F19, rfl, hS, (fun p j h => by rw [nF19 p j (fun z => h (⟨z.1, (Or.inr (Or.inr z.2))⟩)), nF18 p j (fun z => h (⟨z.1, (Or.inr (Or.inl z.2))⟩)), nF17 p j (fun z => h (⟨z.1, (Or.inl z.2)⟩))]), (1), ⟨by omega, by omega⟩, (fun _ => ⟨by omega, by omega, Or.inr (Or.inr ⟨by omega, by omega, by omega⟩)⟩), (by omega), (fun _ => by
                        unfold ezn_tP
                        rw [if_neg (by omega), if_neg (by omega)]
                        exact ⟨by rw [g0]; rfl, by rw [g1]; rfl, by rw [g2]; exact w2, by rw [g3]; exact w3, by rw [g4]; rfl, by rw [g5]; exact w5, by rw [g6]; exact w6⟩), (by omega), rfl⟩
          · refine ezw_iload rfl rfl ?_
            refine ezw_bipush (10) rfl rfl ?_
            refine ezw_icmp_ge rfl rfl hu13 ⟨by decide, by decide⟩ (fun h90_19 => ?_) (fun h90_19 => ?_)
            · refine ezw_iload rfl rfl ?_
              refine ezw_iconst (2) rfl rfl ?_
              refine ezw_icmp_ne rfl rfl ha4 ⟨by decide, by decide⟩ (fun h121_19 => ?_) (fun h121_19 => ?_)
              · refine ezw_iconst (0) rfl rfl ?_
                exact ezw_ireturn rfl (ezw_zret ⟨by omega, by omega⟩) ⟨F, rfl, hS, (fun _ _ _ => rfl), (0), ⟨by omega, by omega⟩, (by omega), (fun _ hz => by
                      obtain ⟨z1, z2, z3⟩ := hz
                      omega), (by omega), (fun _ => cw), rfl⟩
              · refine ezw_iload rfl rfl ?_
                refine ezw_bipush (10) rfl rfl ?_
                refine ezw_icmp_ge rfl rfl hu8 ⟨by decide, by decide⟩ (fun h128_19 => ?_) (fun h128_19 => ?_)
                · refine ezw_iconst (0) rfl rfl ?_
                  exact ezw_ireturn rfl (ezw_zret ⟨by omega, by omega⟩) ⟨F, rfl, hS, (fun _ _ _ => rfl), (0), ⟨by omega, by omega⟩, (by omega), (fun _ hz => by
                        obtain ⟨z1, z2, z3⟩ := hz
                        omega), (by omega), (fun _ => cw), rfl⟩
                · refine ezw_iload rfl rfl ?_
                  refine ezw_if_le rfl rfl hu13 (fun h133_19 => ?_) (fun h133_19 => ?_)
                  · refine ezw_iconst (0) rfl rfl ?_
                    exact ezw_ireturn rfl (ezw_zret ⟨by omega, by omega⟩) ⟨F, rfl, hS, (fun _ _ _ => rfl), (0), ⟨by omega, by omega⟩, (by omega), (fun _ hz => by
                          obtain ⟨z1, z2, z3⟩ := hz
                          omega), (by omega), (fun _ => cw), rfl⟩
                  · refine ezw_aload_n rfl rfl ?_
                    refine ezw_iconst (0) rfl rfl ?_
                    refine ezy_put_i hS rfl rfl rfl rfl rfl ⟨by decide, by decide⟩ (fun F20 hS mF20 nF20 => ?_)
                    refine ezw_aload_n rfl rfl ?_
                    refine ezw_iconst (0) rfl rfl ?_
                    refine ezy_put_i hS rfl rfl rfl rfl rfl ⟨by decide, by decide⟩ (fun F21 hS mF21 nF21 => ?_)
                    refine ezw_aload_n rfl rfl ?_
                    refine ezw_iconst (2) rfl rfl ?_
                    refine ezy_put_i hS rfl rfl rfl rfl rfl ⟨by decide, by decide⟩ (fun F22 hS mF22 nF22 => ?_)
                    refine ezw_iconst (1) rfl rfl ?_
                    have g0 : F22 13 0 = (0) := by rw [nF22 13 0 (by decide), nF21 13 0 (by decide), mF20]
                    have g1 : F22 13 1 = (0) := by rw [nF22 13 1 (by decide), mF21]
                    have g2 : F22 13 2 = (F 13 2) := by rw [nF22 13 2 (by decide), nF21 13 2 (by decide), nF20 13 2 (by decide)]
                    have g3 : F22 13 3 = (F 13 3) := by rw [nF22 13 3 (by decide), nF21 13 3 (by decide), nF20 13 3 (by decide)]
                    have g4 : F22 13 4 = (2) := by rw [mF22]
                    have g5 : F22 13 5 = (F 13 5) := by rw [nF22 13 5 (by decide), nF21 13 5 (by decide), nF20 13 5 (by decide)]
                    have g6 : F22 13 6 = (F 13 6) := by rw [nF22 13 6 (by decide), nF21 13 6 (by decide), nF20 13 6 (by decide)]
                    exact ezw_ireturn rfl (ezw_zret ⟨by omega, by omega⟩) ⟨F22, rfl, hS, (fun p j h => by rw [nF22 p j (fun z => h (⟨z.1, (Or.inr (Or.inr z.2))⟩)), nF21 p j (fun z => h (⟨z.1, (Or.inr (Or.inl z.2))⟩)), nF20 p j (fun z => h (⟨z.1, (Or.inl z.2)⟩))]), (1), ⟨by omega, by omega⟩, (fun _ => ⟨by omega, by omega, Or.inr (Or.inr ⟨by omega, by omega, by omega⟩)⟩), (by omega), (fun _ => by
                          unfold ezn_tP
                          rw [if_neg (by omega), if_neg (by omega)]
                          exact ⟨by rw [g0]; rfl, by rw [g1]; rfl, by rw [g2]; exact w2, by rw [g3]; exact w3, by rw [g4]; rfl, by rw [g5]; exact w5, by rw [g6]; exact w6⟩), (by omega), rfl⟩
            · refine ezw_aload_n rfl rfl ?_
              refine ezw_bipush (9) rfl rfl ?_
              refine ezw_aload_n rfl rfl ?_
              refine ezy_get_i hS rfl rfl rfl rfl rfl rfl (fun u23 hu23 ku23 eu23 => ?_)
              replace eu23 := eu23.symm
              subst eu23
              refine ezw_iload_n rfl rfl ?_
              have J109_25 : ∀ y24 : Int, ezw_in y24 → (y24 = 1 + a3) → ezw_E l ρ B xa Hb D cA d ezq_re121 (ezt_m121_13_47nQ e F A y w qc a2 a3 a4) 109 [some (ezw_p 13), some (ezw_p 47), some (ezw_i a2), some (ezw_i a3), some (ezw_i a4), some (ezw_i u8), some (ezw_i u13)] [ezw_i y24, ezw_i (F 13 1), ezw_i (9), ezw_p 13] (ezu_g e F A) := by
                intro y24 hy24 v_25
                refine ezw_iadd (k := (F 13 1) + y24) rfl (by omega) ?_
                refine ezw_mminE rfl ⟨by decide, by decide⟩ ⟨by omega, by omega⟩ rfl (fun u26 hu26 => ?_)
                refine ezy_put_i hS rfl rfl rfl rfl rfl ⟨by omega, by omega⟩ (fun F27 hS mF27 nF27 => ?_)
                refine ezw_iconst (1) rfl rfl ?_
                have g0 : F27 13 0 = (F 13 0) := by rw [nF27 13 0 (by decide)]
                have g1 : F27 13 1 = u26 := by rw [mF27]
                have g2 : F27 13 2 = (F 13 2) := by rw [nF27 13 2 (by decide)]
                have g3 : F27 13 3 = (F 13 3) := by rw [nF27 13 3 (by decide)]
                have g4 : F27 13 4 = (F 13 4) := by rw [nF27 13 4 (by decide)]
                have g5 : F27 13 5 = (F 13 5) := by rw [nF27 13 5 (by decide)]
                have g6 : F27 13 6 = (F 13 6) := by rw [nF27 13 6 (by decide)]
                exact ezw_ireturn rfl (ezw_zret ⟨by omega, by omega⟩) ⟨F27, rfl, hS, (fun p j h => by rw [nF27 p j (fun z => h (⟨z.1, (Or.inr (Or.inl z.2))⟩))]), (1), ⟨by omega, by omega⟩, (fun _ => ⟨by omega, by omega, Or.inr (Or.inl ⟨by omega, by omega, by omega⟩)⟩), (by omega), (fun _ => by
                      unfold ezn_tP
                      rw [if_neg (by omega), if_pos (by omega)]
                      exact ⟨by rw [g0]; exact w0, by rw [g1]; show _ = (if w.ti + 1 + a3 ≤ 9 then w.ti + 1 + a3 else 9); split <;> omega, by rw [g2]; exact w2, by rw [g3]; exact w3, by rw [g4]; exact w4, by rw [g5]; exact w5, by rw [g6]; exact w6⟩), (by omega), rfl⟩
              refine ezw_if_eq rfl rfl ha3 (fun h101_23 => ?_) (fun h101_23 => ?_)
              · refine ezw_iconst (1) rfl rfl ?_
                exact ezw_keepE [true, true, true, true, true, true, true] (J109_25 (1) ⟨by decide, by decide⟩ (by omega))
              · refine ezw_iconst (2) rfl rfl ?_
                refine ezw_goto rfl rfl ?_
                exact ezw_keepE [true, true, true, true, true, true, true] (J109_25 (2) ⟨by decide, by decide⟩ (by omega))
      · refine ezw_iload rfl rfl ?_
        refine ezw_if_le rfl rfl hu8 (fun h57_27 => ?_) (fun h57_27 => ?_)
        · refine ezw_iload rfl rfl ?_
          refine ezw_iconst (1) rfl rfl ?_
          refine ezw_icmp_ne rfl rfl ha4 ⟨by decide, by decide⟩ (fun h76_27 => ?_) (fun h76_27 => ?_)
          · refine ezw_iload rfl rfl ?_
            refine ezw_iconst (2) rfl rfl ?_
            refine ezw_icmp_ne rfl rfl ha4 ⟨by decide, by decide⟩ (fun h121_27 => ?_) (fun h121_27 => ?_)
            · refine ezw_iconst (0) rfl rfl ?_
              exact ezw_ireturn rfl (ezw_zret ⟨by omega, by omega⟩) ⟨F, rfl, hS, (fun _ _ _ => rfl), (0), ⟨by omega, by omega⟩, (by omega), (fun _ hz => by
                    obtain ⟨z1, z2, z3⟩ := hz
                    omega), (by omega), (fun _ => cw), rfl⟩
            · refine ezw_iload rfl rfl ?_
              refine ezw_bipush (10) rfl rfl ?_
              refine ezw_icmp_ge rfl rfl hu8 ⟨by decide, by decide⟩ (fun h128_27 => ?_) (fun h128_27 => ?_)
              · refine ezw_iconst (0) rfl rfl ?_
                exact ezw_ireturn rfl (ezw_zret ⟨by omega, by omega⟩) ⟨F, rfl, hS, (fun _ _ _ => rfl), (0), ⟨by omega, by omega⟩, (by omega), (fun _ hz => by
                      obtain ⟨z1, z2, z3⟩ := hz
                      omega), (by omega), (fun _ => cw), rfl⟩
              · refine ezw_iload rfl rfl ?_
                refine ezw_if_le rfl rfl hu13 (fun h133_27 => ?_) (fun h133_27 => ?_)
                · refine ezw_iconst (0) rfl rfl ?_
                  exact ezw_ireturn rfl (ezw_zret ⟨by omega, by omega⟩) ⟨F, rfl, hS, (fun _ _ _ => rfl), (0), ⟨by omega, by omega⟩, (by omega), (fun _ hz => by
                        obtain ⟨z1, z2, z3⟩ := hz
                        omega), (by omega), (fun _ => cw), rfl⟩
                · refine ezw_aload_n rfl rfl ?_
                  refine ezw_iconst (0) rfl rfl ?_
                  refine ezy_put_i hS rfl rfl rfl rfl rfl ⟨by decide, by decide⟩ (fun F28 hS mF28 nF28 => ?_)
                  refine ezw_aload_n rfl rfl ?_
                  refine ezw_iconst (0) rfl rfl ?_
                  refine ezy_put_i hS rfl rfl rfl rfl rfl ⟨by decide, by decide⟩ (fun F29 hS mF29 nF29 => ?_)
                  refine ezw_aload_n rfl rfl ?_
                  refine ezw_iconst (2) rfl rfl ?_
                  refine ezy_put_i hS rfl rfl rfl rfl rfl ⟨by decide, by decide⟩ (fun F30 hS mF30 nF30 => ?_)
                  refine ezw_iconst (1) rfl rfl ?_
                  have g0 : F30 13 0 = (0) := by rw [nF30 13 0 (by decide), nF29 13 0 (by decide), mF28]
                  have g1 : F30 13 1 = (0) := by rw [nF30 13 1 (by decide), mF29]
                  have g2 : F30 13 2 = (F 13 2) := by rw [nF30 13 2 (by decide), nF29 13 2 (by decide), nF28 13 2 (by decide)]
                  have g3 : F30 13 3 = (F 13 3) := by rw [nF30 13 3 (by decide), nF29 13 3 (by decide), nF28 13 3 (by decide)]
                  have g4 : F30 13 4 = (2) := by rw [mF30]
                  have g5 : F30 13 5 = (F 13 5) := by rw [nF30 13 5 (by decide), nF29 13 5 (by decide), nF28 13 5 (by decide)]
                  have g6 : F30 13 6 = (F 13 6) := by rw [nF30 13 6 (by decide), nF29 13 6 (by decide), nF28 13 6 (by decide)]
                  exact ezw_ireturn rfl (ezw_zret ⟨by omega, by omega⟩) ⟨F30, rfl, hS, (fun p j h => by rw [nF30 p j (fun z => h (⟨z.1, (Or.inr (Or.inr z.2))⟩)), nF29 p j (fun z => h (⟨z.1, (Or.inr (Or.inl z.2))⟩)), nF28 p j (fun z => h (⟨z.1, (Or.inl z.2)⟩))]), (1), ⟨by omega, by omega⟩, (fun _ => ⟨by omega, by omega, Or.inr (Or.inr ⟨by omega, by omega, by omega⟩)⟩), (by omega), (fun _ => by
                        unfold ezn_tP
                        rw [if_neg (by omega), if_neg (by omega)]
                        exact ⟨by rw [g0]; rfl, by rw [g1]; rfl, by rw [g2]; exact w2, by rw [g3]; exact w3, by rw [g4]; rfl, by rw [g5]; exact w5, by rw [g6]; exact w6⟩), (by omega), rfl⟩
          · refine ezw_iload rfl rfl ?_
            refine ezw_bipush (10) rfl rfl ?_
            refine ezw_icmp_ge rfl rfl hu8 ⟨by decide, by decide⟩ (fun h83_30 => ?_) (fun h83_30 => ?_)
            · refine ezw_iload rfl rfl ?_
              refine ezw_iconst (2) rfl rfl ?_
              refine ezw_icmp_ne rfl rfl ha4 ⟨by decide, by decide⟩ (fun h121_30 => ?_) (fun h121_30 => ?_)
              · refine ezw_iconst (0) rfl rfl ?_
                exact ezw_ireturn rfl (ezw_zret ⟨by omega, by omega⟩) ⟨F, rfl, hS, (fun _ _ _ => rfl), (0), ⟨by omega, by omega⟩, (by omega), (fun _ hz => by
                      obtain ⟨z1, z2, z3⟩ := hz
                      omega), (by omega), (fun _ => cw), rfl⟩
              · refine ezw_iload rfl rfl ?_
                refine ezw_bipush (10) rfl rfl ?_
                refine ezw_icmp_ge rfl rfl hu8 ⟨by decide, by decide⟩ (fun h128_30 => ?_) (fun h128_30 => ?_)
                · refine ezw_iconst (0) rfl rfl ?_
                  exact ezw_ireturn rfl (ezw_zret ⟨by omega, by omega⟩) ⟨F, rfl, hS, (fun _ _ _ => rfl), (0), ⟨by omega, by omega⟩, (by omega), (fun _ hz => by
                        obtain ⟨z1, z2, z3⟩ := hz
                        omega), (by omega), (fun _ => cw), rfl⟩
                · refine ezw_iload rfl rfl ?_
                  refine ezw_if_le rfl rfl hu13 (fun h133_30 => ?_) (fun h133_30 => ?_)
                  · refine ezw_iconst (0) rfl rfl ?_
                    exact ezw_ireturn rfl (ezw_zret ⟨by omega, by omega⟩) ⟨F, rfl, hS, (fun _ _ _ => rfl), (0), ⟨by omega, by omega⟩, (by omega), (fun _ hz => by
                          obtain ⟨z1, z2, z3⟩ := hz
                          omega), (by omega), (fun _ => cw), rfl⟩
                  · refine ezw_aload_n rfl rfl ?_
                    refine ezw_iconst (0) rfl rfl ?_
                    refine ezy_put_i hS rfl rfl rfl rfl rfl ⟨by decide, by decide⟩ (fun F31 hS mF31 nF31 => ?_)
                    refine ezw_aload_n rfl rfl ?_
                    refine ezw_iconst (0) rfl rfl ?_
                    refine ezy_put_i hS rfl rfl rfl rfl rfl ⟨by decide, by decide⟩ (fun F32 hS mF32 nF32 => ?_)
                    refine ezw_aload_n rfl rfl ?_
                    refine ezw_iconst (2) rfl rfl ?_
                    refine ezy_put_i hS rfl rfl rfl rfl rfl ⟨by decide, by decide⟩ (fun F33 hS mF33 nF33 => ?_)
                    refine ezw_iconst (1) rfl rfl ?_
                    have g0 : F33 13 0 = (0) := by rw [nF33 13 0 (by decide), nF32 13 0 (by decide), mF31]
                    have g1 : F33 13 1 = (0) := by rw [nF33 13 1 (by decide), mF32]
                    have g2 : F33 13 2 = (F 13 2) := by rw [nF33 13 2 (by decide), nF32 13 2 (by decide), nF31 13 2 (by decide)]
                    have g3 : F33 13 3 = (F 13 3) := by rw [nF33 13 3 (by decide), nF32 13 3 (by decide), nF31 13 3 (by decide)]
                    have g4 : F33 13 4 = (2) := by rw [mF33]
                    have g5 : F33 13 5 = (F 13 5) := by rw [nF33 13 5 (by decide), nF32 13 5 (by decide), nF31 13 5 (by decide)]
                    have g6 : F33 13 6 = (F 13 6) := by rw [nF33 13 6 (by decide), nF32 13 6 (by decide), nF31 13 6 (by decide)]
                    exact ezw_ireturn rfl (ezw_zret ⟨by omega, by omega⟩) ⟨F33, rfl, hS, (fun p j h => by rw [nF33 p j (fun z => h (⟨z.1, (Or.inr (Or.inr z.2))⟩)), nF32 p j (fun z => h (⟨z.1, (Or.inr (Or.inl z.2))⟩)), nF31 p j (fun z => h (⟨z.1, (Or.inl z.2)⟩))]), (1), ⟨by omega, by omega⟩, (fun _ => ⟨by omega, by omega, Or.inr (Or.inr ⟨by omega, by omega, by omega⟩)⟩), (by omega), (fun _ => by
                          unfold ezn_tP
                          rw [if_neg (by omega), if_neg (by omega)]
                          exact ⟨by rw [g0]; rfl, by rw [g1]; rfl, by rw [g2]; exact w2, by rw [g3]; exact w3, by rw [g4]; rfl, by rw [g5]; exact w5, by rw [g6]; exact w6⟩), (by omega), rfl⟩
            · refine ezw_iload rfl rfl ?_
              refine ezw_bipush (10) rfl rfl ?_
              refine ezw_icmp_ge rfl rfl hu13 ⟨by decide, by decide⟩ (fun h90_33 => ?_) (fun h90_33 => ?_)
              · refine ezw_iload rfl rfl ?_
                refine ezw_iconst (2) rfl rfl ?_
                refine ezw_icmp_ne rfl rfl ha4 ⟨by decide, by decide⟩ (fun h121_33 => ?_) (fun h121_33 => ?_)
                · refine ezw_iconst (0) rfl rfl ?_
                  exact ezw_ireturn rfl (ezw_zret ⟨by omega, by omega⟩) ⟨F, rfl, hS, (fun _ _ _ => rfl), (0), ⟨by omega, by omega⟩, (by omega), (fun _ hz => by
                        obtain ⟨z1, z2, z3⟩ := hz
                        omega), (by omega), (fun _ => cw), rfl⟩
                · refine ezw_iload rfl rfl ?_
                  refine ezw_bipush (10) rfl rfl ?_
                  refine ezw_icmp_ge rfl rfl hu8 ⟨by decide, by decide⟩ (fun h128_33 => ?_) (fun h128_33 => ?_)
                  · refine ezw_iconst (0) rfl rfl ?_
                    exact ezw_ireturn rfl (ezw_zret ⟨by omega, by omega⟩) ⟨F, rfl, hS, (fun _ _ _ => rfl), (0), ⟨by omega, by omega⟩, (by omega), (fun _ hz => by
                          obtain ⟨z1, z2, z3⟩ := hz
                          omega), (by omega), (fun _ => cw), rfl⟩
                  · refine ezw_iload rfl rfl ?_
                    refine ezw_if_le rfl rfl hu13 (fun h133_33 => ?_) (fun h133_33 => ?_)
                    · refine ezw_iconst (0) rfl rfl ?_
                      exact ezw_ireturn rfl (ezw_zret ⟨by omega, by omega⟩) ⟨F, rfl, hS, (fun _ _ _ => rfl), (0), ⟨by omega, by omega⟩, (by omega), (fun _ hz => by
                            obtain ⟨z1, z2, z3⟩ := hz
                            omega), (by omega), (fun _ => cw), rfl⟩
                    · refine ezw_aload_n rfl rfl ?_
                      refine ezw_iconst (0) rfl rfl ?_
                      refine ezy_put_i hS rfl rfl rfl rfl rfl ⟨by decide, by decide⟩ (fun F34 hS mF34 nF34 => ?_)
                      refine ezw_aload_n rfl rfl ?_
                      refine ezw_iconst (0) rfl rfl ?_
                      refine ezy_put_i hS rfl rfl rfl rfl rfl ⟨by decide, by decide⟩ (fun F35 hS mF35 nF35 => ?_)
                      refine ezw_aload_n rfl rfl ?_
                      refine ezw_iconst (2) rfl rfl ?_
                      refine ezy_put_i hS rfl rfl rfl rfl rfl ⟨by decide, by decide⟩ (fun F36 hS mF36 nF36 => ?_)
                      refine ezw_iconst (1) rfl rfl ?_
                      have g0 : F36 13 0 = (0) := by rw [nF36 13 0 (by decide), nF35 13 0 (by decide), mF34]
                      have g1 : F36 13 1 = (0) := by rw [nF36 13 1 (by decide), mF35]
                      have g2 : F36 13 2 = (F 13 2) := by rw [nF36 13 2 (by decide), nF35 13 2 (by decide), nF34 13 2 (by decide)]
                      have g3 : F36 13 3 = (F 13 3) := by rw [nF36 13 3 (by decide), nF35 13 3 (by decide), nF34 13 3 (by decide)]
                      have g4 : F36 13 4 = (2) := by rw [mF36]
                      have g5 : F36 13 5 = (F 13 5) := by rw [nF36 13 5 (by decide), nF35 13 5 (by decide), nF34 13 5 (by decide)]
                      have g6 : F36 13 6 = (F 13 6) := by rw [nF36 13 6 (by decide), nF35 13 6 (by decide), nF34 13 6 (by decide)]
                      exact ezw_ireturn rfl (ezw_zret ⟨by omega, by omega⟩) ⟨F36, rfl, hS, (fun p j h => by rw [nF36 p j (fun z => h (⟨z.1, (Or.inr (Or.inr z.2))⟩)), nF35 p j (fun z => h (⟨z.1, (Or.inr (Or.inl z.2))⟩)), nF34 p j (fun z => h (⟨z.1, (Or.inl z.2)⟩))]), (1), ⟨by omega, by omega⟩, (fun _ => ⟨by omega, by omega, Or.inr (Or.inr ⟨by omega, by omega, by omega⟩)⟩), (by omega), (fun _ => by
                            unfold ezn_tP
                            rw [if_neg (by omega), if_neg (by omega)]
                            exact ⟨by rw [g0]; rfl, by rw [g1]; rfl, by rw [g2]; exact w2, by rw [g3]; exact w3, by rw [g4]; rfl, by rw [g5]; exact w5, by rw [g6]; exact w6⟩), (by omega), rfl⟩
              · refine ezw_aload_n rfl rfl ?_
                refine ezw_bipush (9) rfl rfl ?_
                refine ezw_aload_n rfl rfl ?_
                refine ezy_get_i hS rfl rfl rfl rfl rfl rfl (fun u37 hu37 ku37 eu37 => ?_)
                replace eu37 := eu37.symm
                subst eu37
                refine ezw_iload_n rfl rfl ?_
                have J109_39 : ∀ y38 : Int, ezw_in y38 → (y38 = 1 + a3) → ezw_E l ρ B xa Hb D cA d ezq_re121 (ezt_m121_13_47nQ e F A y w qc a2 a3 a4) 109 [some (ezw_p 13), some (ezw_p 47), some (ezw_i a2), some (ezw_i a3), some (ezw_i a4), some (ezw_i u8), some (ezw_i u13)] [ezw_i y38, ezw_i (F 13 1), ezw_i (9), ezw_p 13] (ezu_g e F A) := by
                  intro y38 hy38 v_39
                  refine ezw_iadd (k := (F 13 1) + y38) rfl (by omega) ?_
                  refine ezw_mminE rfl ⟨by decide, by decide⟩ ⟨by omega, by omega⟩ rfl (fun u40 hu40 => ?_)
                  refine ezy_put_i hS rfl rfl rfl rfl rfl ⟨by omega, by omega⟩ (fun F41 hS mF41 nF41 => ?_)
                  refine ezw_iconst (1) rfl rfl ?_
                  have g0 : F41 13 0 = (F 13 0) := by rw [nF41 13 0 (by decide)]
                  have g1 : F41 13 1 = u40 := by rw [mF41]
                  have g2 : F41 13 2 = (F 13 2) := by rw [nF41 13 2 (by decide)]
                  have g3 : F41 13 3 = (F 13 3) := by rw [nF41 13 3 (by decide)]
                  have g4 : F41 13 4 = (F 13 4) := by rw [nF41 13 4 (by decide)]
                  have g5 : F41 13 5 = (F 13 5) := by rw [nF41 13 5 (by decide)]
                  have g6 : F41 13 6 = (F 13 6) := by rw [nF41 13 6 (by decide)]
                  exact ezw_ireturn rfl (ezw_zret ⟨by omega, by omega⟩) ⟨F41, rfl, hS, (fun p j h => by rw [nF41 p j (fun z => h (⟨z.1, (Or.inr (Or.inl z.2))⟩))]), (1), ⟨by omega, by omega⟩, (fun _ => ⟨by omega, by omega, Or.inr (Or.inl ⟨by omega, by omega, by omega⟩)⟩), (by omega), (fun _ => by
                        unfold ezn_tP
                        rw [if_neg (by omega), if_pos (by omega)]
                        exact ⟨by rw [g0]; exact w0, by rw [g1]; show _ = (if w.ti + 1 + a3 ≤ 9 then w.ti + 1 + a3 else 9); split <;> omega, by rw [g2]; exact w2, by rw [g3]; exact w3, by rw [g4]; exact w4, by rw [g5]; exact w5, by rw [g6]; exact w6⟩), (by omega), rfl⟩
                refine ezw_if_eq rfl rfl ha3 (fun h101_37 => ?_) (fun h101_37 => ?_)
                · refine ezw_iconst (1) rfl rfl ?_
                  exact ezw_keepE [true, true, true, true, true, true, true] (J109_39 (1) ⟨by decide, by decide⟩ (by omega))
                · refine ezw_iconst (2) rfl rfl ?_
                  refine ezw_goto rfl rfl ?_
                  exact ezw_keepE [true, true, true, true, true, true, true] (J109_39 (2) ⟨by decide, by decide⟩ (by omega))
        · refine ezw_aload_n rfl rfl ?_
          refine ezw_aload_n rfl rfl ?_
          refine ezy_get_i hS rfl rfl rfl rfl rfl rfl (fun u42 hu42 ku42 eu42 => ?_)
          replace eu42 := eu42.symm
          subst eu42
          refine ezw_call2_1 rfl (by omega) rfl rfl (ezt_m107n hS (by omega) hu42 (by omega)) ?_
          rintro _ _ ⟨rfl, u44, hu44, an_43, rfl⟩
          have ho : u44 = ezn_lo w.ov := by rw [an_43, w0]
          have hr9 := ezn_lo_r x0 x1 (x10 (by omega))
          have hg : 0 ≤ u44 ∧ u44 < 6 ∧ ezt_b w.ov u44 = 1 := by
            rw [ho]
            exact ⟨hr9.1.1, hr9.1.2, hr9.2.1⟩
          refine ezw_call0_1 rfl (by omega) (ezu_at rfl) rfl rfl rfl rfl (ezt_m122_13n hS (by omega) hu44 cw wb hg) ?_
          rintro _ _ ⟨F45, rfl, hS, nF45, of_45, rfl⟩
          refine ezw_iconst (1) rfl rfl ?_
          exact ezw_ireturn rfl (ezw_zret ⟨by omega, by omega⟩) ⟨F45, rfl, hS, (fun p j h => by rw [nF45 p j (fun z => h (⟨z.1, z.2⟩))]), (1), ⟨by omega, by omega⟩, (fun _ => ⟨by omega, by omega, Or.inl ⟨by omega, by omega⟩⟩), (by omega), (fun _ => by
                unfold ezn_tP
                rw [if_pos (by omega), ← ho]
                exact of_45), (by omega), rfl⟩
    · refine ezw_iconst (0) rfl rfl ?_
      exact ezw_ireturn rfl (ezw_zret ⟨by omega, by omega⟩) ⟨F, rfl, hS, (fun _ _ _ => rfl), (0), ⟨by omega, by omega⟩, (by omega), (fun _ hz => by
            obtain ⟨z1, z2, z3⟩ := hz
            omega), (by omega), (fun _ => cw), rfl⟩
def ezt_m124_13_47nQ (e : Bool × Bool) (F : Nat → Nat → Int) (A : Nat → Int → Int) (y : ezp_D) (w : ezn_N) : Option ezq_V → (Nat → ezq_C) → Prop := fun v g' => ∃ (F' : Nat → Nat → Int), ezu_g e F' A = g' ∧ ezs_T F' A ∧ (∀ p j, ¬ (p = 13 ∧ (j = 0 ∨ j = 1 ∨ j = 4)) → F' p j = F p j) ∧ ∃ u : Int, (0 ≤ u ∧ u ≤ 1) ∧ (u = 1 → ezn_cL y w) ∧ (u = 0 → ¬ ezn_cL y w) ∧ (u = 1 → ezn_C 13 (ezn_off w (ezn_lo w.ov)) F') ∧ (u = 0 → ezn_C 13 w F') ∧ some (ezw_i u) = v
theorem ezt_m124_13_47n {y : ezp_D} {w : ezn_N} {F : Nat → Nat → Int} {A : Nat → Int → Int} (hS : ezs_T F A) (hd : 3 ≤ d) (tr : ezt_TR 47 y F A) (nu : ezt_NU 47 y A) (hB : ezp_B y) (cw : ezn_C 13 w F) (wb : ezn_B y w) : ezw_C l ρ B xa Hb D cA 124 d [ezw_p 13, ezw_p 47] (ezu_g e F A) (ezt_m124_13_47nQ e F A y w) := by
  refine ezw_met (k := 0) rfl rfl ?_
  obtain ⟨⟨c1, c2, c3, c4⟩, ⟨d1, d2, d3, d4, d5, d6, d7, d8⟩, e3, e4, e5, e6⟩ := id tr
  obtain ⟨b1, b2', b3, b4, b5, b6, b7, ⟨b8, b8'⟩, b9⟩ := id hB
  obtain ⟨w0, w1, w2, w3, w4, w5, w6⟩ := id cw
  obtain ⟨⟨x0, x1⟩, x2, x3, x4, x5, x6, x7, x8, x9, x10, x11, x12⟩ := id wb
  have n5 : A 61 5 = y.nu 5 := nu 5 (by decide) (by decide)
  have nb5 : 0 ≤ y.nu 5 ∧ y.nu 5 ≤ 10 := b8 5 (by decide) (by decide)
  refine ezw_aload_n rfl rfl ?_
  refine ezy_get_i hS rfl rfl rfl rfl rfl rfl (fun u1 hu1 ku1 eu1 => ?_)
  replace eu1 := eu1.symm
  subst eu1
  refine ezw_if_ne rfl rfl hu1 (fun h4_1 => ?_) (fun h4_1 => ?_)
  · refine ezw_iconst (0) rfl rfl ?_
    exact ezw_ireturn rfl (ezw_zret ⟨by omega, by omega⟩) ⟨F, rfl, hS, (fun _ _ _ => rfl), (0), ⟨by omega, by omega⟩, (by omega), (fun _ hz => by
          obtain ⟨z1, z2, z3, z4⟩ := hz
          omega), (by omega), (fun _ => cw), rfl⟩
  · refine ezw_aload_n rfl rfl ?_
    refine ezy_get_i hS rfl rfl rfl rfl rfl rfl (fun u2 hu2 ku2 eu2 => ?_)
    replace eu2 := eu2.symm
    subst eu2
    refine ezw_if_gt rfl rfl hu2 (fun h11_2 => ?_) (fun h11_2 => ?_)
    · refine ezw_iconst (0) rfl rfl ?_
      exact ezw_ireturn rfl (ezw_zret ⟨by omega, by omega⟩) ⟨F, rfl, hS, (fun _ _ _ => rfl), (0), ⟨by omega, by omega⟩, (by omega), (fun _ hz => by
            obtain ⟨z1, z2, z3, z4⟩ := hz
            omega), (by omega), (fun _ => cw), rfl⟩
    · refine ezw_aload_n rfl rfl ?_
      refine ezw_iconst (5) rfl rfl ?_
      refine ezw_call0_1 rfl (by omega) (ezu_at rfl) rfl rfl rfl rfl (ezt_m95_47o hS (by omega) ⟨by decide, by decide⟩) ?_
      rintro _ _ ⟨rfl, u4, hu4, v_3, rfl⟩
      have z5 := v_3 (by omega) (by omega)
      refine ezw_if_le rfl rfl hu4 (fun h19_4 => ?_) (fun h19_4 => ?_)
      · refine ezw_iconst (0) rfl rfl ?_
        exact ezw_ireturn rfl (ezw_zret ⟨by omega, by omega⟩) ⟨F, rfl, hS, (fun _ _ _ => rfl), (0), ⟨by omega, by omega⟩, (by omega), (fun _ hz => by
              obtain ⟨z1, z2, z3, z4⟩ := hz
              omega), (by omega), (fun _ => cw), rfl⟩
      · refine ezw_aload_n rfl rfl ?_
        refine ezy_get_i hS rfl rfl rfl rfl rfl rfl (fun u5 hu5 ku5 eu5 => ?_)
        replace eu5 := eu5.symm
        subst eu5
        refine ezw_aload_n rfl rfl ?_
        refine ezs_getp (p := 50) rfl rfl rfl rfl rfl ?_
        refine ezw_aload_n rfl rfl ?_
        refine ezw_aload_n rfl rfl ?_
        refine ezw_call0_1 rfl (by omega) (ezu_at rfl) rfl rfl rfl rfl (ezt_m106_13_47n hS (by omega) tr nu hB cw wb) ?_
        rintro _ _ ⟨rfl, u7, hu7, an_6, rfl⟩
        have hl := ezn_la_r hB wb (by omega)
        refine ezw_call3_2 rfl (by omega) rfl rfl (ezt_m27_50o hS (by omega) hu7) ?_
        rintro _ _ ⟨rfl, u9, hu9, v_8, o_8, rfl⟩
        have f1 : A 50 (ezn_la y w) = y.si (ezn_la y w) := (e3 _ hl.1 hl.2).2.2.2.1
        have f3 := v_8 (by rw [an_6]; omega) (by rw [an_6]; omega)
        rw [an_6, f1] at f3
        refine ezw_icmp_eq rfl rfl hu5 hu9 (fun h38_9 => ?_) (fun h38_9 => ?_)
        · refine ezw_aload_n rfl rfl ?_
          refine ezw_aload_n rfl rfl ?_
          refine ezy_get_i hS rfl rfl rfl rfl rfl rfl (fun u10 hu10 ku10 eu10 => ?_)
          replace eu10 := eu10.symm
          subst eu10
          refine ezw_call2_1 rfl (by omega) rfl rfl (ezt_m107n hS (by omega) hu10 (by omega)) ?_
          rintro _ _ ⟨rfl, u12, hu12, an_11, rfl⟩
          have ho : u12 = ezn_lo w.ov := by rw [an_11, w0]
          have hr9 := ezn_lo_r x0 x1 (x10 (by omega))
          have hg : 0 ≤ u12 ∧ u12 < 6 ∧ ezt_b w.ov u12 = 1 := by
            rw [ho]
            exact ⟨hr9.1.1, hr9.1.2, hr9.2.1⟩
          refine ezw_call0_1 rfl (by omega) (ezu_at rfl) rfl rfl rfl rfl (ezt_m122_13n hS (by omega) hu12 cw wb hg) ?_
          rintro _ _ ⟨F13, rfl, hS, nF13, of_13, rfl⟩
          refine ezw_iconst (1) rfl rfl ?_
          exact ezw_ireturn rfl (ezw_zret ⟨by omega, by omega⟩) ⟨F13, rfl, hS, (fun p j h => by rw [nF13 p j (fun z => h (⟨z.1, z.2⟩))]), (1), ⟨by omega, by omega⟩, (fun _ => ⟨by omega, by omega, by omega, by omega⟩), (by omega), (fun _ => by
                rw [← ho]
                exact of_13), (by omega), rfl⟩
        · refine ezw_iconst (0) rfl rfl ?_
          exact ezw_ireturn rfl (ezw_zret ⟨by omega, by omega⟩) ⟨F, rfl, hS, (fun _ _ _ => rfl), (0), ⟨by omega, by omega⟩, (by omega), (fun _ hz => by
                obtain ⟨z1, z2, z3, z4⟩ := hz
                omega), (by omega), (fun _ => cw), rfl⟩
def ezt_m27_53oQ (e : Bool × Bool) (F : Nat → Nat → Int) (A : Nat → Int → Int) (a1 : Int) : Option ezq_V → (Nat → ezq_C) → Prop := fun v g' => ezu_g e F A = g' ∧ ∃ u : Int, (ezw_in u) ∧ (0 ≤ a1 → a1 < 4 → u = A 53 a1) ∧ (a1 < 0 ∨ 4 ≤ a1 → u = 0) ∧ some (ezw_i u) = v
theorem ezt_m27_53o {a1 : Int} {F : Nat → Nat → Int} {A : Nat → Int → Int} (hS : ezs_T F A) (hd : 0 ≤ d) (ha1 : ezw_in a1) : ezw_C l ρ B xa Hb D cA 27 d [ezw_p 53, ezw_i a1] (ezu_g e F A) (ezt_m27_53oQ e F A a1) := by
  refine ezw_met (k := 0) rfl rfl ?_
  refine ezw_aload_n rfl rfl ?_
  refine ezw_ifnull rfl ?_
  refine ezw_iload_n rfl rfl ?_
  refine ezw_if_lt rfl rfl ha1 (fun h5_0 => ?_) (fun h5_0 => ?_)
  · refine ezw_iconst (0) rfl rfl ?_
    exact ezw_ireturn rfl rfl ⟨rfl, (0), ⟨by decide, by decide⟩, by omega, by omega, rfl⟩
  · refine ezw_iload_n rfl rfl ?_
    refine ezw_aload_n rfl rfl ?_
    refine ezs_alen (k := 4) rfl rfl rfl rfl (by decide) (by decide) ?_
    refine ezw_icmp_ge rfl rfl ha1 ⟨by decide, by decide⟩ (fun h11_0 => ?_) (fun h11_0 => ?_)
    · refine ezw_iconst (0) rfl rfl ?_
      exact ezw_ireturn rfl rfl ⟨rfl, (0), ⟨by decide, by decide⟩, by omega, by omega, rfl⟩
    · refine ezw_aload_n rfl rfl ?_
      refine ezw_iload_n rfl rfl ?_
      refine ezy_iaload hS rfl rfl rfl (by omega) (by omega) (by decide) (fun u1 hu1 ku1 eu1 => ?_)
      refine ezw_goto rfl rfl ?_
      exact ezw_ireturn rfl rfl ⟨rfl, u1, hu1, by omega, by omega, rfl⟩
def ezt_m27_54oQ (e : Bool × Bool) (F : Nat → Nat → Int) (A : Nat → Int → Int) (a1 : Int) : Option ezq_V → (Nat → ezq_C) → Prop := fun v g' => ezu_g e F A = g' ∧ ∃ u : Int, (ezw_in u) ∧ (0 ≤ a1 → a1 < 4 → u = A 54 a1) ∧ (a1 < 0 ∨ 4 ≤ a1 → u = 0) ∧ some (ezw_i u) = v
theorem ezt_m27_54o {a1 : Int} {F : Nat → Nat → Int} {A : Nat → Int → Int} (hS : ezs_T F A) (hd : 0 ≤ d) (ha1 : ezw_in a1) : ezw_C l ρ B xa Hb D cA 27 d [ezw_p 54, ezw_i a1] (ezu_g e F A) (ezt_m27_54oQ e F A a1) := by
  refine ezw_met (k := 0) rfl rfl ?_
  refine ezw_aload_n rfl rfl ?_
  refine ezw_ifnull rfl ?_
  refine ezw_iload_n rfl rfl ?_
  refine ezw_if_lt rfl rfl ha1 (fun h5_0 => ?_) (fun h5_0 => ?_)
  · refine ezw_iconst (0) rfl rfl ?_
    exact ezw_ireturn rfl rfl ⟨rfl, (0), ⟨by decide, by decide⟩, by omega, by omega, rfl⟩
  · refine ezw_iload_n rfl rfl ?_
    refine ezw_aload_n rfl rfl ?_
    refine ezs_alen (k := 4) rfl rfl rfl rfl (by decide) (by decide) ?_
    refine ezw_icmp_ge rfl rfl ha1 ⟨by decide, by decide⟩ (fun h11_0 => ?_) (fun h11_0 => ?_)
    · refine ezw_iconst (0) rfl rfl ?_
      exact ezw_ireturn rfl rfl ⟨rfl, (0), ⟨by decide, by decide⟩, by omega, by omega, rfl⟩
    · refine ezw_aload_n rfl rfl ?_
      refine ezw_iload_n rfl rfl ?_
      refine ezy_iaload hS rfl rfl rfl (by omega) (by omega) (by decide) (fun u1 hu1 ku1 eu1 => ?_)
      refine ezw_goto rfl rfl ?_
      exact ezw_ireturn rfl rfl ⟨rfl, u1, hu1, by omega, by omega, rfl⟩
def ezt_m125_13_47nQ (e : Bool × Bool) (F : Nat → Nat → Int) (A : Nat → Int → Int) (y : ezp_D) (w : ezn_N) (a2 : Int) (a3 : Int) : Option ezq_V → (Nat → ezq_C) → Prop := fun v g' => ∃ (F' : Nat → Nat → Int), ezu_g e F' A = g' ∧ ezs_T F' A ∧ (∀ p j, ¬ (p = 13 ∧ (j = 0 ∨ j = 1 ∨ j = 4 ∨ j = 6)) → F' p j = F p j) ∧ ∃ u : Int, (0 ≤ u ∧ u ≤ 1) ∧ (u = 1 → ezn_cH y w a2 a3) ∧ (u = 0 → ¬ ezn_cH y w a2 a3) ∧ (u = 1 → ezn_C 13 (ezn_tH w a2 a3) F') ∧ (u = 0 → ezn_C 13 w F') ∧ some (ezw_i u) = v
theorem ezt_m125_13_47n {y : ezp_D} {w : ezn_N} {a2 a3 : Int} {F : Nat → Nat → Int} {A : Nat → Int → Int} (hS : ezs_T F A) (hd : 3 ≤ d) (ha2 : ezw_in a2) (ha3 : ezw_in a3) (tr : ezt_TR 47 y F A) (nu : ezt_NU 47 y A) (hB : ezp_B y) (cw : ezn_C 13 w F) (wb : ezn_B y w) : ezw_C l ρ B xa Hb D cA 125 d [ezw_p 13, ezw_p 47, ezw_i a2, ezw_i a3] (ezu_g e F A) (ezt_m125_13_47nQ e F A y w a2 a3) := by
  refine ezw_met (k := 2) rfl rfl ?_
  obtain ⟨⟨c1, c2, c3, c4⟩, ⟨d1, d2, d3, d4, d5, d6, d7, d8⟩, e3, e4, e5, e6⟩ := id tr
  obtain ⟨b1, b2', b3, b4, b5, b6, b7, ⟨b8, b8'⟩, b9⟩ := id hB
  obtain ⟨w0, w1, w2, w3, w4, w5, w6⟩ := id cw
  obtain ⟨⟨x0, x1⟩, x2, x3, x4, x5, x6, x7, x8, x9, x10, x11, x12⟩ := id wb
  refine ezw_aload_n rfl rfl ?_
  refine ezy_get_i hS rfl rfl rfl rfl rfl rfl (fun u1 hu1 ku1 eu1 => ?_)
  replace eu1 := eu1.symm
  subst eu1
  refine ezw_if_ne rfl rfl hu1 (fun h4_1 => ?_) (fun h4_1 => ?_)
  · refine ezw_iconst (0) rfl rfl ?_
    exact ezw_ireturn rfl (ezw_zret ⟨by omega, by omega⟩) ⟨F, rfl, hS, (fun _ _ _ => rfl), (0), ⟨by omega, by omega⟩, (by omega), (fun _ hz => absurd hz.1 (by omega)), (by omega), (fun _ => cw), rfl⟩
  · refine ezw_aload_n rfl rfl ?_
    refine ezy_get_i hS rfl rfl rfl rfl rfl rfl (fun u2 hu2 ku2 eu2 => ?_)
    replace eu2 := eu2.symm
    subst eu2
    refine ezw_iload_n rfl rfl ?_
    refine ezw_call3_2 rfl (by omega) rfl rfl (ezt_m49o hS (by omega) hu2 ha2) ?_
    rintro _ _ ⟨rfl, u4, hu4, v_3, o_3, rfl⟩
    refine ezw_if_ne rfl rfl hu4 (fun h15_4 => ?_) (fun h15_4 => ?_)
    · have hb : 0 ≤ a2 ∧ a2 < 4 ∧ ezt_b w.ha a2 = 1 := by
        by_cases h31 : 0 ≤ a2 ∧ a2 < 31
        · have h9 := v_3 h31.1 h31.2
          rw [w6] at h9
          have h8 := ezn_b01 w.ha a2
          have h7 : ezt_b w.ha a2 = 1 := by omega
          exact ⟨h31.1, ezn_b4 x8.1 x8.2 h31.1 h7, h7⟩
        · have h9 := o_3 (by omega)
          omega
      have hk := x9 a2 hb.1 hb.2.1 hb.2.2
      have f1 : A 53 a2 = y.st a2 := (e4 a2 hb.1 hk).2.2.1
      have f2 : A 54 a2 = y.fr a2 := (e4 a2 hb.1 hk).2.2.2.1
      have f3 := b2' a2 hb.1 hk
      refine ezw_aload_n rfl rfl ?_
      refine ezs_getp (p := 53) rfl rfl rfl rfl rfl ?_
      refine ezw_iload_n rfl rfl ?_
      refine ezw_call3_2 rfl (by omega) rfl rfl (ezt_m27_53o hS (by omega) ha2) ?_
      rintro _ _ ⟨rfl, u6, hu6, v_5, o_5, rfl⟩
      have z1 := v_5 (by omega) (by omega)
      refine ezw_istore rfl rfl ?_
      refine ezw_aload_n rfl rfl ?_
      refine ezs_getp (p := 54) rfl rfl rfl rfl rfl ?_
      refine ezw_iload_n rfl rfl ?_
      refine ezw_call3_2 rfl (by omega) rfl rfl (ezt_m27_54o hS (by omega) ha2) ?_
      rintro _ _ ⟨rfl, u8, hu8, v_7, o_7, rfl⟩
      have z2 := v_7 (by omega) (by omega)
      refine ezw_istore rfl rfl ?_
      refine ezw_iload_n rfl rfl ?_
      refine ezw_if_ne rfl rfl ha3 (fun h41_8 => ?_) (fun h41_8 => ?_)
      · refine ezw_iload_n rfl rfl ?_
        refine ezw_iconst (1) rfl rfl ?_
        refine ezw_icmp_ne rfl rfl ha3 ⟨by decide, by decide⟩ (fun h62_8 => ?_) (fun h62_8 => ?_)
        · refine ezw_iload_n rfl rfl ?_
          refine ezw_iconst (2) rfl rfl ?_
          refine ezw_icmp_ne rfl rfl ha3 ⟨by decide, by decide⟩ (fun h88_8 => ?_) (fun h88_8 => ?_)
          · refine ezw_iconst (0) rfl rfl ?_
            exact ezw_ireturn rfl (ezw_zret ⟨by omega, by omega⟩) ⟨F, rfl, hS, (fun _ _ _ => rfl), (0), ⟨by omega, by omega⟩, (by omega), (fun _ hz => by
                  obtain ⟨z1, ⟨z2, z3, z4⟩, z5⟩ := hz
                  omega), (by omega), (fun _ => cw), rfl⟩
          · refine ezw_iload rfl rfl ?_
            refine ezw_if_le rfl rfl hu8 (fun h93_8 => ?_) (fun h93_8 => ?_)
            · refine ezw_iconst (0) rfl rfl ?_
              exact ezw_ireturn rfl (ezw_zret ⟨by omega, by omega⟩) ⟨F, rfl, hS, (fun _ _ _ => rfl), (0), ⟨by omega, by omega⟩, (by omega), (fun _ hz => by
                    obtain ⟨z1, ⟨z2, z3, z4⟩, z5⟩ := hz
                    omega), (by omega), (fun _ => cw), rfl⟩
            · refine ezw_aload_n rfl rfl ?_
              refine ezw_aload_n rfl rfl ?_
              refine ezy_get_i hS rfl rfl rfl rfl rfl rfl (fun u9 hu9 ku9 eu9 => ?_)
              replace eu9 := eu9.symm
              subst eu9
              refine ezw_call2_1 rfl (by omega) rfl rfl (ezt_m107n hS (by omega) hu9 (by omega)) ?_
              rintro _ _ ⟨rfl, u11, hu11, an_10, rfl⟩
              have ho : u11 = ezn_lo w.ov := by rw [an_10, w0]
              have hr9 := ezn_lo_r x0 x1 (x10 (by omega))
              have hg : 0 ≤ u11 ∧ u11 < 6 ∧ ezt_b w.ov u11 = 1 := by
                rw [ho]
                exact ⟨hr9.1.1, hr9.1.2, hr9.2.1⟩
              refine ezw_call0_1 rfl (by omega) (ezu_at rfl) rfl rfl rfl rfl (ezt_m122_13n hS (by omega) hu11 cw wb hg) ?_
              rintro _ _ ⟨F12, rfl, hS, nF12, of_12, rfl⟩
              refine ezw_iconst (1) rfl rfl ?_
              exact ezw_ireturn rfl (ezw_zret ⟨by omega, by omega⟩) ⟨F12, rfl, hS, (fun p j h => by rw [nF12 p j (fun z => h (⟨z.1, (z.2.elim (fun y => (Or.inl y)) (fun y => (y.elim (fun y => (Or.inr (Or.inl y))) (fun y => (Or.inr (Or.inr (Or.inl y)))))))⟩))]), (1), ⟨by omega, by omega⟩, (fun _ => ⟨by omega, ⟨hb.1, hk, hb.2.2⟩, Or.inr (Or.inr ⟨by omega, by omega⟩)⟩), (by omega), (fun _ => by
                    unfold ezn_tH
                    rw [if_neg (by omega), if_neg (by omega), ← ho]
                    exact of_12), (by omega), rfl⟩
        · refine ezw_iload rfl rfl ?_
          refine ezw_if_le rfl rfl hu6 (fun h67_12 => ?_) (fun h67_12 => ?_)
          · refine ezw_iload_n rfl rfl ?_
            refine ezw_iconst (2) rfl rfl ?_
            refine ezw_icmp_ne rfl rfl ha3 ⟨by decide, by decide⟩ (fun h88_12 => ?_) (fun h88_12 => ?_)
            · refine ezw_iconst (0) rfl rfl ?_
              exact ezw_ireturn rfl (ezw_zret ⟨by omega, by omega⟩) ⟨F, rfl, hS, (fun _ _ _ => rfl), (0), ⟨by omega, by omega⟩, (by omega), (fun _ hz => by
                    obtain ⟨z1, ⟨z2, z3, z4⟩, z5⟩ := hz
                    omega), (by omega), (fun _ => cw), rfl⟩
            · refine ezw_iload rfl rfl ?_
              refine ezw_if_le rfl rfl hu8 (fun h93_12 => ?_) (fun h93_12 => ?_)
              · refine ezw_iconst (0) rfl rfl ?_
                exact ezw_ireturn rfl (ezw_zret ⟨by omega, by omega⟩) ⟨F, rfl, hS, (fun _ _ _ => rfl), (0), ⟨by omega, by omega⟩, (by omega), (fun _ hz => by
                      obtain ⟨z1, ⟨z2, z3, z4⟩, z5⟩ := hz
                      omega), (by omega), (fun _ => cw), rfl⟩
              · refine ezw_aload_n rfl rfl ?_
                refine ezw_aload_n rfl rfl ?_
                refine ezy_get_i hS rfl rfl rfl rfl rfl rfl (fun u13 hu13 ku13 eu13 => ?_)
                replace eu13 := eu13.symm
                subst eu13
                refine ezw_call2_1 rfl (by omega) rfl rfl (ezt_m107n hS (by omega) hu13 (by omega)) ?_
                rintro _ _ ⟨rfl, u15, hu15, an_14, rfl⟩
                have ho : u15 = ezn_lo w.ov := by rw [an_14, w0]
                have hr9 := ezn_lo_r x0 x1 (x10 (by omega))
                have hg : 0 ≤ u15 ∧ u15 < 6 ∧ ezt_b w.ov u15 = 1 := by
                  rw [ho]
                  exact ⟨hr9.1.1, hr9.1.2, hr9.2.1⟩
                refine ezw_call0_1 rfl (by omega) (ezu_at rfl) rfl rfl rfl rfl (ezt_m122_13n hS (by omega) hu15 cw wb hg) ?_
                rintro _ _ ⟨F16, rfl, hS, nF16, of_16, rfl⟩
                refine ezw_iconst (1) rfl rfl ?_
                exact ezw_ireturn rfl (ezw_zret ⟨by omega, by omega⟩) ⟨F16, rfl, hS, (fun p j h => by rw [nF16 p j (fun z => h (⟨z.1, (z.2.elim (fun y => (Or.inl y)) (fun y => (y.elim (fun y => (Or.inr (Or.inl y))) (fun y => (Or.inr (Or.inr (Or.inl y)))))))⟩))]), (1), ⟨by omega, by omega⟩, (fun _ => ⟨by omega, ⟨hb.1, hk, hb.2.2⟩, Or.inr (Or.inr ⟨by omega, by omega⟩)⟩), (by omega), (fun _ => by
                      unfold ezn_tH
                      rw [if_neg (by omega), if_neg (by omega), ← ho]
                      exact of_16), (by omega), rfl⟩
          · obtain ⟨m1, m2, m3, m4⟩ := ezn_rm x8.1 (by omega) hb.1 (by omega) hb.2.2
            refine ezw_aload_n rfl rfl ?_
            refine ezw_dup rfl rfl ?_
            refine ezy_get_i hS rfl rfl rfl rfl rfl rfl (fun u17 hu17 ku17 eu17 => ?_)
            replace eu17 := eu17.symm
            subst eu17
            refine ezw_iconst (1) rfl rfl ?_
            refine ezw_iload_n rfl rfl ?_
            refine ezw_ishl rfl (by omega) (by omega) (k := (1 * 2 ^ (a2).toNat)) (rfl) ?_
            refine ezw_iconst (-1) rfl rfl ?_
            refine ezw_ixor rfl (k := ezw_xor (1 * 2 ^ (a2).toNat) (-1)) rfl ?_
            refine ezw_iand rfl (k := (F 13 6) - 2 ^ (a2).toNat) (by rw [w6]; exact ezn_andn x8.1 (by omega) hb.1 (by omega) hb.2.2) ?_
            refine ezy_put_i hS rfl rfl rfl rfl rfl ⟨by omega, by omega⟩ (fun F18 hS mF18 nF18 => ?_)
            refine ezw_iconst (1) rfl rfl ?_
            have g0 : F18 13 0 = (F 13 0) := by rw [nF18 13 0 (by decide)]
            have g1 : F18 13 1 = (F 13 1) := by rw [nF18 13 1 (by decide)]
            have g2 : F18 13 2 = (F 13 2) := by rw [nF18 13 2 (by decide)]
            have g3 : F18 13 3 = (F 13 3) := by rw [nF18 13 3 (by decide)]
            have g4 : F18 13 4 = (F 13 4) := by rw [nF18 13 4 (by decide)]
            have g5 : F18 13 5 = (F 13 5) := by rw [nF18 13 5 (by decide)]
            have g6 : F18 13 6 = (F 13 6) - 2 ^ (a2).toNat := by rw [mF18]
            exact ezw_ireturn rfl (ezw_zret ⟨by omega, by omega⟩) ⟨F18, rfl, hS, (fun p j h => by rw [nF18 p j (fun z => h (⟨z.1, (Or.inr (Or.inr (Or.inr z.2)))⟩))]), (1), ⟨by omega, by omega⟩, (fun _ => ⟨by omega, ⟨hb.1, hk, hb.2.2⟩, Or.inr (Or.inl ⟨by omega, by omega⟩)⟩), (by omega), (fun _ => by
                  unfold ezn_tH
                  rw [if_neg (by omega), if_pos (by omega)]
                  exact ⟨by rw [g0]; exact w0, by rw [g1]; exact w1, by rw [g2]; exact w2, by rw [g3]; exact w3, by rw [g4]; exact w4, by rw [g5]; exact w5, by rw [g6]; show _ = w.ha - 2 ^ a2.toNat; omega⟩), (by omega), rfl⟩
      · refine ezw_iload rfl rfl ?_
        refine ezw_iload rfl rfl ?_
        refine ezw_iadd (k := u6 + u8) rfl (by omega) ?_
        refine ezw_bipush (10) rfl rfl ?_
        refine ezw_icmp_ge rfl rfl ⟨by omega, by omega⟩ ⟨by decide, by decide⟩ (fun h51_18 => ?_) (fun h51_18 => ?_)
        · refine ezw_iconst (0) rfl rfl ?_
          exact ezw_ireturn rfl (ezw_zret ⟨by omega, by omega⟩) ⟨F, rfl, hS, (fun _ _ _ => rfl), (0), ⟨by omega, by omega⟩, (by omega), (fun _ hz => by
                obtain ⟨z1, ⟨z2, z3, z4⟩, z5⟩ := hz
                omega), (by omega), (fun _ => cw), rfl⟩
        · refine ezw_iconst (1) rfl rfl ?_
          refine ezw_goto rfl rfl ?_
          exact ezw_ireturn rfl (ezw_zret ⟨by omega, by omega⟩) ⟨F, rfl, hS, (fun _ _ _ => rfl), (1), ⟨by omega, by omega⟩, (fun _ => ⟨by omega, ⟨hb.1, hk, hb.2.2⟩, Or.inl ⟨by omega, by omega⟩⟩), (by omega), (fun _ => by
                unfold ezn_tH
                rw [if_pos (by omega)]
                exact cw), (by omega), rfl⟩
    · refine ezw_iconst (0) rfl rfl ?_
      exact ezw_ireturn rfl (ezw_zret ⟨by omega, by omega⟩) ⟨F, rfl, hS, (fun _ _ _ => rfl), (0), ⟨by omega, by omega⟩, (by omega), (fun _ hz => by
            obtain ⟨z1, ⟨z2, z3, z4⟩, z5⟩ := hz
            have h9 := v_3 z2 (by omega)
            rw [w6] at h9
            omega), (by omega), (fun _ => cw), rfl⟩
def ezt_m126_13_47nQ (e : Bool × Bool) (F : Nat → Nat → Int) (A : Nat → Int → Int) (y : ezp_D) (w : ezn_N) (a2 : Int) (a3 : Int) : Option ezq_V → (Nat → ezq_C) → Prop := fun v g' => ∃ (F' : Nat → Nat → Int), ezu_g e F' A = g' ∧ ezs_T F' A ∧ (∀ p j, ¬ (p = 13 ∧ (j = 0 ∨ j = 1 ∨ j = 4)) → F' p j = F p j) ∧ ∃ u : Int, (0 ≤ u ∧ u ≤ 1) ∧ (u = 1 → ezn_cC y w a2 a3) ∧ (u = 0 → ¬ ezn_cC y w a2 a3) ∧ (u = 1 → ezn_C 13 (ezn_off w (ezn_ps y w a2 6)) F') ∧ (u = 0 → ezn_C 13 w F') ∧ some (ezw_i u) = v
theorem ezt_m126_13_47n {y : ezp_D} {w : ezn_N} {a2 a3 : Int} {F : Nat → Nat → Int} {A : Nat → Int → Int} (hS : ezs_T F A) (hd : 3 ≤ d) (ha2 : ezw_in a2) (ha3 : ezw_in a3) (tr : ezt_TR 47 y F A) (nu : ezt_NU 47 y A) (hB : ezp_B y) (cw : ezn_C 13 w F) (wb : ezn_B y w) (gf : 0 ≤ a3 ∧ a3 ≤ 1) : ezw_C l ρ B xa Hb D cA 126 d [ezw_p 13, ezw_p 47, ezw_i a2, ezw_i a3] (ezu_g e F A) (ezt_m126_13_47nQ e F A y w a2 a3) := by
  refine ezw_met (k := 2) rfl rfl ?_
  obtain ⟨⟨c1, c2, c3, c4⟩, ⟨d1, d2, d3, d4, d5, d6, d7, d8⟩, e3, e4, e5, e6⟩ := id tr
  obtain ⟨b1, b2', b3, b4, b5, b6, b7, ⟨b8, b8'⟩, b9⟩ := id hB
  obtain ⟨w0, w1, w2, w3, w4, w5, w6⟩ := id cw
  obtain ⟨⟨x0, x1⟩, x2, x3, x4, x5, x6, x7, x8, x9, x10, x11, x12⟩ := id wb
  have n7 : A 61 7 = y.nu 7 := nu 7 (by decide) (by decide)
  have nb7 : 0 ≤ y.nu 7 ∧ y.nu 7 ≤ 60 := b8 7 (by decide) (by decide)
  have n8 : A 61 8 = y.nu 8 := nu 8 (by decide) (by decide)
  have nb8 : 0 ≤ y.nu 8 ∧ y.nu 8 ≤ 60 := b8 8 (by decide) (by decide)
  refine ezw_aload_n rfl rfl ?_
  refine ezw_aload_n rfl rfl ?_
  refine ezw_iload_n rfl rfl ?_
  refine ezw_call0_2 rfl (by omega) (ezu_at rfl) rfl rfl rfl rfl (ezt_m109_13_47n hS (by omega) ha2 tr nu hB cw wb) ?_
  rintro _ _ ⟨rfl, u2, hu2, an_1, rfl⟩
  refine ezw_istore rfl rfl ?_
  refine ezw_iload rfl rfl ?_
  refine ezw_iconst (-1) rfl rfl ?_
  refine ezw_icmp_ne rfl rfl hu2 ⟨by decide, by decide⟩ (fun h11_2 => ?_) (fun h11_2 => ?_)
  · have hp : ezn_ps y w a2 6 ≠ -1 := by rw [← an_1]; omega
    have hpr := ezn_ps_r hB wb hp
    have f1 : A 48 a2 = y.hi a2 := (e3 a2 (by omega) (by omega)).2.1
    refine ezw_iload_n rfl rfl ?_
    have J57_4 : ∀ y3 : Int, ezw_in y3 → (y3 = 1 ∧ (a3 = 1 ∧ y.hi a2 ≤ y.nu 7 + y.nu 8 ∨ a3 = 0 ∧ ezp_be y 8 a2 = true) ∨ y3 = 0 ∧ ¬ (a3 = 1 ∧ y.hi a2 ≤ y.nu 7 + y.nu 8 ∨ a3 = 0 ∧ ezp_be y 8 a2 = true)) → ezw_E l ρ B xa Hb D cA d ezq_re126 (ezt_m126_13_47nQ e F A y w a2 a3) 57 [some (ezw_p 13), some (ezw_p 47), some (ezw_i a2), some (ezw_i a3), some (ezw_i u2), none] [ezw_i y3] (ezu_g e F A) := by
      intro y3 hy3 rc_4
      refine ezw_istore rfl rfl ?_
      refine ezw_iload rfl rfl ?_
      refine ezw_if_eq rfl rfl hy3 (fun h61_4 => ?_) (fun h61_4 => ?_)
      · refine ezw_iload rfl rfl ?_
        exact ezw_ireturn rfl (ezw_zret ⟨by omega, by omega⟩) ⟨F, rfl, hS, (fun _ _ _ => rfl), y3, ⟨by omega, by omega⟩, (fun hu => ⟨hp, by
              rcases rc_4 with ⟨r1, r2⟩ | ⟨r1, r2⟩
              · exact r2
              · omega⟩), (fun hu hz => by
              rcases rc_4 with ⟨r1, r2⟩ | ⟨r1, r2⟩
              · omega
              · exact r2 hz.2), (by omega), (fun _ => cw), rfl⟩
      · refine ezw_aload_n rfl rfl ?_
        refine ezw_iload rfl rfl ?_
        have hg : 0 ≤ u2 ∧ u2 < 6 ∧ ezt_b w.ov u2 = 1 := by
          rw [an_1]
          exact hpr.1
        refine ezw_call0_1 rfl (by omega) (ezu_at rfl) rfl rfl rfl rfl (ezt_m122_13n hS (by omega) hu2 cw wb hg) ?_
        rintro _ _ ⟨F5, rfl, hS, nF5, of_5, rfl⟩
        refine ezw_iload rfl rfl ?_
        exact ezw_ireturn rfl (ezw_zret ⟨by omega, by omega⟩) ⟨F5, rfl, hS, (fun p j h => by rw [nF5 p j (fun z => h (⟨z.1, z.2⟩))]), y3, ⟨by omega, by omega⟩, (fun hu => ⟨hp, by
              rcases rc_4 with ⟨r1, r2⟩ | ⟨r1, r2⟩
              · exact r2
              · omega⟩), (fun hu hz => by
              rcases rc_4 with ⟨r1, r2⟩ | ⟨r1, r2⟩
              · omega
              · exact r2 hz.2), (fun _ => by
              rw [← an_1]
              exact of_5), (by omega), rfl⟩
    refine ezw_if_eq rfl rfl ha3 (fun h17_2 => ?_) (fun h17_2 => ?_)
    · refine ezw_aload_n rfl rfl ?_
      refine ezw_iload_n rfl rfl ?_
      refine ezw_call0_1 rfl (by omega) (ezu_at rfl) rfl rfl rfl rfl (ezt_m127_47o hS (by omega) ha2 tr nu hB (by omega)) ?_
      rintro _ _ ⟨rfl, u7, hu7, p6_0, p6_1, rfl⟩
      exact ezw_keepE [true, true, true, true, true, false] (J57_4 u7 ⟨by omega, by omega⟩ (by
            rcases (show u7 = 0 ∨ u7 = 1 by omega) with hu | hu
            · refine Or.inr ⟨by omega, fun hz => ?_⟩
              have h9 := p6_1 hu
              rcases hz with z | z
              · omega
              · rw [h9] at z
                exact absurd z.2 (by decide)
            · exact Or.inl ⟨by omega, Or.inr ⟨by omega, p6_0 hu⟩⟩))
    · refine ezw_aload_n rfl rfl ?_
      refine ezs_getp (p := 48) rfl rfl rfl rfl rfl ?_
      refine ezw_iload_n rfl rfl ?_
      refine ezw_call3_2 rfl (by omega) rfl rfl (ezt_m27_48o hS (by omega) ha2) ?_
      rintro _ _ ⟨rfl, u9, hu9, v_8, o_8, rfl⟩
      have z1 := v_8 (by omega) (by omega)
      refine ezw_aload_n rfl rfl ?_
      refine ezw_bipush (7) rfl rfl ?_
      refine ezw_call0_1 rfl (by omega) (ezu_at rfl) rfl rfl rfl rfl (ezt_m95_47o hS (by omega) ⟨by decide, by decide⟩) ?_
      rintro _ _ ⟨rfl, u11, hu11, v_10, rfl⟩
      have z2 := v_10 (by omega) (by omega)
      refine ezw_aload_n rfl rfl ?_
      refine ezw_bipush (8) rfl rfl ?_
      refine ezw_call0_1 rfl (by omega) (ezu_at rfl) rfl rfl rfl rfl (ezt_m95_47o hS (by omega) ⟨by decide, by decide⟩) ?_
      rintro _ _ ⟨rfl, u13, hu13, v_12, rfl⟩
      have z3 := v_12 (by omega) (by omega)
      refine ezw_iadd (k := u11 + u13) rfl (by omega) ?_
      refine ezw_icmp_gt rfl rfl hu9 ⟨by omega, by omega⟩ (fun h41_13 => ?_) (fun h41_13 => ?_)
      · refine ezw_iconst (0) rfl rfl ?_
        refine ezw_goto rfl rfl ?_
        exact ezw_keepE [true, true, true, true, true, false] (J57_4 (0) ⟨by decide, by decide⟩ (by
              first
                | exact Or.inl ⟨by omega, Or.inl ⟨by omega, by omega⟩⟩
                | (refine Or.inr ⟨by omega, fun hz => ?_⟩
                   rcases hz with z | z <;> omega)))
      · refine ezw_iconst (1) rfl rfl ?_
        refine ezw_goto rfl rfl ?_
        exact ezw_keepE [true, true, true, true, true, false] (J57_4 (1) ⟨by decide, by decide⟩ (by
              first
                | exact Or.inl ⟨by omega, Or.inl ⟨by omega, by omega⟩⟩
                | (refine Or.inr ⟨by omega, fun hz => ?_⟩
                   rcases hz with z | z <;> omega)))
  · refine ezw_iconst (0) rfl rfl ?_
    exact ezw_ireturn rfl (ezw_zret ⟨by omega, by omega⟩) ⟨F, rfl, hS, (fun _ _ _ => rfl), (0), ⟨by omega, by omega⟩, (by omega), (fun _ hz => hz.1 (by rw [← an_1]; omega)), (by omega), (fun _ => cw), rfl⟩
def ezt_m129_47nQ (e : Bool × Bool) (F : Nat → Nat → Int) (A : Nat → Int → Int) (y : ezp_D) (a1 : Int) (a2 : Int) : Option ezq_V → (Nat → ezq_C) → Prop := fun v g' => ezu_g e F A = g' ∧ ∃ u : Int, (ezw_in u) ∧ (u = ezn_dw y a1 a2) ∧ some (ezw_i u) = v
theorem ezt_m129_47n {y : ezp_D} {a1 a2 : Int} {F : Nat → Nat → Int} {A : Nat → Int → Int} (hS : ezs_T F A) (hd : 2 ≤ d) (ha1 : ezw_in a1) (ha2 : ezw_in a2) (tr : ezt_TR 47 y F A) (nu : ezt_NU 47 y A) (hB : ezp_B y) (ga : 0 ≤ a2 ∧ a2 ≤ 99) : ezw_C l ρ B xa Hb D cA 129 d [ezw_p 47, ezw_i a1, ezw_i a2] (ezu_g e F A) (ezt_m129_47nQ e F A y a1 a2) := by
  refine ezw_met (k := 1) rfl rfl ?_
  obtain ⟨⟨c1, c2, c3, c4⟩, ⟨d1, d2, d3, d4, d5, d6, d7, d8⟩, e3, e4, e5, e6⟩ := id tr
  obtain ⟨b1, b2', b3, b4, b5, b6, b7, ⟨b8, b8'⟩, b9⟩ := id hB
  have n6 : A 61 6 = y.nu 6 := nu 6 (by decide) (by decide)
  have nb6 : 0 ≤ y.nu 6 ∧ y.nu 6 ≤ 9 := b8 6 (by decide) (by decide)
  refine ezw_iload_n rfl rfl ?_
  refine ezw_bipush (20) rfl rfl ?_
  have J17_2 : ∀ y1 : Int, ezw_in y1 → (y1 = 1 ∧ (20 ≤ a1 ∨ a1 < 6) ∨ y1 = 0 ∧ ¬ (20 ≤ a1 ∨ a1 < 6)) → ezw_E l ρ B xa Hb D cA d ezq_re129 (ezt_m129_47nQ e F A y a1 a2) 17 [some (ezw_p 47), some (ezw_i a1), some (ezw_i a2), none] [ezw_i y1] (ezu_g e F A) := by
    intro y1 hy1 dw_2
    refine ezw_istore_n rfl rfl ?_
    refine ezw_iload_n rfl rfl ?_
    refine ezw_if_eq rfl rfl hy1 (fun h19_2 => ?_) (fun h19_2 => ?_)
    · refine ezw_iload_n rfl rfl ?_
      exact ezw_ireturn rfl rfl ⟨rfl, a2, ha2, (by
            unfold ezn_dw
            (repeat' split) <;> omega), rfl⟩
    · refine ezw_iconst (0) rfl rfl ?_
      refine ezw_iload_n rfl rfl ?_
      refine ezw_aload_n rfl rfl ?_
      refine ezw_bipush (6) rfl rfl ?_
      refine ezw_call0_1 rfl (by omega) (ezu_at rfl) rfl rfl rfl rfl (ezt_m95_47o hS (by omega) ⟨by decide, by decide⟩) ?_
      rintro _ _ ⟨rfl, u4, hu4, v_3, rfl⟩
      have z1 := v_3 (by omega) (by omega)
      refine ezw_isub (k := a2 - u4) rfl (by omega) ?_
      refine ezw_mmaxE rfl ⟨by decide, by decide⟩ ⟨by omega, by omega⟩ rfl (fun u5 hu5 => ?_)
      refine ezw_goto rfl rfl ?_
      exact ezw_ireturn rfl rfl ⟨rfl, u5, ⟨by omega, by omega⟩, (by
            unfold ezn_dw
            (repeat' split) <;> omega), rfl⟩
  refine ezw_icmp_ge rfl rfl ha1 ⟨by decide, by decide⟩ (fun h3_0 => ?_) (fun h3_0 => ?_)
  · refine ezw_iconst (1) rfl rfl ?_
    refine ezw_goto rfl rfl ?_
    exact ezw_keepE [true, true, true, false] (J17_2 (1) ⟨by decide, by decide⟩ (by omega))
  · refine ezw_iload_n rfl rfl ?_
    refine ezw_bipush (6) rfl rfl ?_
    refine ezw_icmp_ge rfl rfl ha1 ⟨by decide, by decide⟩ (fun h9_5 => ?_) (fun h9_5 => ?_)
    · refine ezw_iconst (0) rfl rfl ?_
      exact ezw_keepE [true, true, true, false] (J17_2 (0) ⟨by decide, by decide⟩ (by omega))
    · refine ezw_iconst (1) rfl rfl ?_
      refine ezw_goto rfl rfl ?_
      exact ezw_keepE [true, true, true, false] (J17_2 (1) ⟨by decide, by decide⟩ (by omega))
def ezt_m128_13_47nQ (e : Bool × Bool) (F : Nat → Nat → Int) (A : Nat → Int → Int) (y : ezp_D) (w : ezn_N) (a2 : Int) : Option ezq_V → (Nat → ezq_C) → Prop := fun v g' => ∃ (F' : Nat → Nat → Int), ezu_g e F' A = g' ∧ ezs_T F' A ∧ (∀ p j, ¬ (p = 13 ∧ (j = 2 ∨ j = 3 ∨ j = 5)) → F' p j = F p j) ∧ ∃ u : Int, (0 ≤ u ∧ u ≤ 1) ∧ (u = 1 → (0 ≤ a2 ∧ a2 < 4)) ∧ (u = 0 → ¬ (0 ≤ a2 ∧ a2 < 4)) ∧ (u = 1 → ezn_C 13 (ezn_hr y w a2) F') ∧ (u = 0 → ezn_C 13 w F') ∧ some (ezw_i u) = v
theorem ezt_m128_13_47n {y : ezp_D} {w : ezn_N} {a2 : Int} {F : Nat → Nat → Int} {A : Nat → Int → Int} (hS : ezs_T F A) (hd : 3 ≤ d) (ha2 : ezw_in a2) (tr : ezt_TR 47 y F A) (nu : ezt_NU 47 y A) (hB : ezp_B y) (cw : ezn_C 13 w F) (wb : ezn_B y w) : ezw_C l ρ B xa Hb D cA 128 d [ezw_p 13, ezw_p 47, ezw_i a2] (ezu_g e F A) (ezt_m128_13_47nQ e F A y w a2) := by
  refine ezw_met (k := 0) rfl rfl ?_
  obtain ⟨w0, w1, w2, w3, w4, w5, w6⟩ := id cw
  obtain ⟨⟨x0, x1⟩, x2, x3, x4, x5, x6, x7, x8, x9, x10, x11, x12⟩ := id wb
  refine ezw_iload_n rfl rfl ?_
  refine ezw_call3_1 rfl (by omega) rfl rfl (ezt_m112o hS (by omega) ha2) ?_
  rintro _ _ ⟨rfl, u2, hu2, p1_0, p1_1, rfl⟩
  refine ezw_if_ne rfl rfl ⟨by omega, by omega⟩ (fun h4_2 => ?_) (fun h4_2 => ?_)
  · refine ezw_aload_n rfl rfl ?_
    refine ezw_aload_n rfl rfl ?_
    refine ezy_get_i hS rfl rfl rfl rfl rfl rfl (fun u3 hu3 ku3 eu3 => ?_)
    replace eu3 := eu3.symm
    subst eu3
    refine ezw_iconst (1) rfl rfl ?_
    refine ezw_iadd (k := (F 13 2) + 1) rfl (by omega) ?_
    refine ezw_bipush (24) rfl rfl ?_
    refine ezm_irem rfl ⟨by omega, by omega⟩ ⟨by decide, by decide⟩ (by decide) (fun u4 hu4 ku4 => ?_)
    refine ezy_put_i hS rfl rfl rfl rfl rfl hu4 (fun F5 hS mF5 nF5 => ?_)
    refine ezw_aload_n rfl rfl ?_
    refine ezw_iload_n rfl rfl ?_
    refine ezy_put_i hS rfl rfl rfl rfl rfl ha2 (fun F6 hS mF6 nF6 => ?_)
    refine ezw_aload_n rfl rfl ?_
    refine ezy_get_i hS rfl rfl rfl rfl rfl rfl (fun u7 hu7 ku7 eu7 => ?_)
    rw [nF6 13 4 (by decide), nF5 13 4 (by decide)] at eu7
    replace eu7 := eu7.symm
    subst eu7
    refine ezw_if_ne rfl rfl hu7 (fun h31_7 => ?_) (fun h31_7 => ?_)
    · refine ezw_iconst (1) rfl rfl ?_
      have g0 : F6 13 0 = (F 13 0) := by rw [nF6 13 0 (by decide), nF5 13 0 (by decide)]
      have g1 : F6 13 1 = (F 13 1) := by rw [nF6 13 1 (by decide), nF5 13 1 (by decide)]
      have g2 : F6 13 2 = u4 := by rw [nF6 13 2 (by decide), mF5]
      have g3 : F6 13 3 = a2 := by rw [mF6]
      have g4 : F6 13 4 = (F 13 4) := by rw [nF6 13 4 (by decide), nF5 13 4 (by decide)]
      have g5 : F6 13 5 = (F 13 5) := by rw [nF6 13 5 (by decide), nF5 13 5 (by decide)]
      have g6 : F6 13 6 = (F 13 6) := by rw [nF6 13 6 (by decide), nF5 13 6 (by decide)]
      exact ezw_ireturn rfl (ezw_zret ⟨by omega, by omega⟩) ⟨F6, rfl, hS, (fun p j h => by rw [nF6 p j (fun z => h (⟨z.1, (Or.inr (Or.inl z.2))⟩)), nF5 p j (fun z => h (⟨z.1, (Or.inl z.2)⟩))]), (1), ⟨by omega, by omega⟩, (fun _ => by omega), (by omega), (fun _ => ⟨by rw [g0]; exact w0, by rw [g1]; exact w1, by rw [g2]; show _ = (w.ho + 1) % 24; omega, by rw [g3]; rfl, by rw [g4]; exact w4, by rw [g5]; show _ = (if w.ki = 0 then ezn_dw y ((w.ho + 1) % 24) w.pa else w.pa); rw [if_neg (by omega)]; exact w5, by rw [g6]; exact w6⟩), (by omega), rfl⟩
    · refine ezw_aload_n rfl rfl ?_
      refine ezw_aload_n rfl rfl ?_
      refine ezw_aload_n rfl rfl ?_
      refine ezy_get_i hS rfl rfl rfl rfl rfl rfl (fun u8 hu8 ku8 eu8 => ?_)
      rw [nF6 13 2 (by decide), mF5] at eu8
      replace eu8 := eu8.symm
      subst eu8
      refine ezw_aload_n rfl rfl ?_
      refine ezy_get_i hS rfl rfl rfl rfl rfl rfl (fun u9 hu9 ku9 eu9 => ?_)
      rw [nF6 13 5 (by decide), nF5 13 5 (by decide)] at eu9
      replace eu9 := eu9.symm
      subst eu9
      refine ezw_call2_3 rfl (by omega) rfl rfl (ezt_m129_47n hS (by omega) hu8 hu9 (ezt_TR_fr tr (by rw [nF6 47 15 (by decide), nF5 47 15 (by decide)]) (by rw [nF6 47 16 (by decide), nF5 47 16 (by decide)]) (by rw [nF6 47 17 (by decide), nF5 47 17 (by decide)]) (by rw [nF6 55 1 (by decide), nF5 55 1 (by decide)]) (fun _ _ _ => rfl)) nu hB (by omega)) ?_
      rintro _ _ ⟨rfl, u11, hu11, an_10, rfl⟩
      refine ezy_put_i hS rfl rfl rfl rfl rfl hu11 (fun F12 hS mF12 nF12 => ?_)
      refine ezw_iconst (1) rfl rfl ?_
      have g0 : F12 13 0 = (F 13 0) := by rw [nF12 13 0 (by decide), nF6 13 0 (by decide), nF5 13 0 (by decide)]
      have g1 : F12 13 1 = (F 13 1) := by rw [nF12 13 1 (by decide), nF6 13 1 (by decide), nF5 13 1 (by decide)]
      have g2 : F12 13 2 = u4 := by rw [nF12 13 2 (by decide), nF6 13 2 (by decide), mF5]
      have g3 : F12 13 3 = a2 := by rw [nF12 13 3 (by decide), mF6]
      have g4 : F12 13 4 = (F 13 4) := by rw [nF12 13 4 (by decide), nF6 13 4 (by decide), nF5 13 4 (by decide)]
      have g5 : F12 13 5 = u11 := by rw [mF12]
      have g6 : F12 13 6 = (F 13 6) := by rw [nF12 13 6 (by decide), nF6 13 6 (by decide), nF5 13 6 (by decide)]
      exact ezw_ireturn rfl (ezw_zret ⟨by omega, by omega⟩) ⟨F12, rfl, hS, (fun p j h => by rw [nF12 p j (fun z => h (⟨z.1, (Or.inr (Or.inr z.2))⟩)), nF6 p j (fun z => h (⟨z.1, (Or.inr (Or.inl z.2))⟩)), nF5 p j (fun z => h (⟨z.1, (Or.inl z.2)⟩))]), (1), ⟨by omega, by omega⟩, (fun _ => by omega), (by omega), (fun _ => ⟨by rw [g0]; exact w0, by rw [g1]; exact w1, by rw [g2]; show _ = (w.ho + 1) % 24; omega, by rw [g3]; rfl, by rw [g4]; exact w4, by rw [g5]; show _ = (if w.ki = 0 then ezn_dw y ((w.ho + 1) % 24) w.pa else w.pa); rw [if_pos (by omega), an_10, w5, show u4 = (w.ho + 1) % 24 by omega], by rw [g6]; exact w6⟩), (by omega), rfl⟩
  · refine ezw_iconst (0) rfl rfl ?_
    exact ezw_ireturn rfl (ezw_zret ⟨by omega, by omega⟩) ⟨F, rfl, hS, (fun _ _ _ => rfl), (0), ⟨by omega, by omega⟩, (by omega), (fun _ hz => by omega), (by omega), (fun _ => cw), rfl⟩
def ezt_m123_13nQ (e : Bool × Bool) (F : Nat → Nat → Int) (A : Nat → Int → Int) (y : ezp_D) (w : ezn_N) : Option ezq_V → (Nat → ezq_C) → Prop := fun v g' => ∃ (F' : Nat → Nat → Int), ezu_g e F' A = g' ∧ ezs_T F' A ∧ (∀ p j, ¬ (p = 13 ∧ (j = 1)) → F' p j = F p j) ∧ ∃ u : Int, (0 ≤ u ∧ u ≤ 1) ∧ (u = 1 → ezn_cS w) ∧ (u = 0 → ¬ ezn_cS w) ∧ (u = 1 → ezn_C 13 (ezn_sl w) F') ∧ (u = 0 → ezn_C 13 w F') ∧ some (ezw_i u) = v
theorem ezt_m123_13n {y : ezp_D} {w : ezn_N} {F : Nat → Nat → Int} {A : Nat → Int → Int} (hS : ezs_T F A) (hd : 0 ≤ d) (cw : ezn_C 13 w F) (wb : ezn_B y w) : ezw_C l ρ B xa Hb D cA 123 d [ezw_p 13] (ezu_g e F A) (ezt_m123_13nQ e F A y w) := by
  refine ezw_met (k := 0) rfl rfl ?_
  obtain ⟨w0, w1, w2, w3, w4, w5, w6⟩ := id cw
  obtain ⟨⟨x0, x1⟩, x2, x3, x4, x5, x6, x7, x8, x9, x10, x11, x12⟩ := id wb
  refine ezw_aload_n rfl rfl ?_
  refine ezy_get_i hS rfl rfl rfl rfl rfl rfl (fun u1 hu1 ku1 eu1 => ?_)
  replace eu1 := eu1.symm
  subst eu1
  refine ezw_if_ne rfl rfl hu1 (fun h4_1 => ?_) (fun h4_1 => ?_)
  · refine ezw_iconst (0) rfl rfl ?_
    exact ezw_ireturn rfl (ezw_zret ⟨by omega, by omega⟩) ⟨F, rfl, hS, (fun _ _ _ => rfl), (0), ⟨by omega, by omega⟩, (by omega), (fun _ hz => by
          obtain ⟨z1, z2⟩ := hz
          omega), (by omega), (fun _ => cw), rfl⟩
  · refine ezw_aload_n rfl rfl ?_
    refine ezy_get_i hS rfl rfl rfl rfl rfl rfl (fun u2 hu2 ku2 eu2 => ?_)
    replace eu2 := eu2.symm
    subst eu2
    refine ezw_if_gt rfl rfl hu2 (fun h11_2 => ?_) (fun h11_2 => ?_)
    · refine ezw_aload_n rfl rfl ?_
      refine ezw_dup rfl rfl ?_
      refine ezy_get_i hS rfl rfl rfl rfl rfl rfl (fun u3 hu3 ku3 eu3 => ?_)
      replace eu3 := eu3.symm
      subst eu3
      refine ezw_iconst (1) rfl rfl ?_
      refine ezw_isub (k := (F 13 1) - 1) rfl (by omega) ?_
      refine ezy_put_i hS rfl rfl rfl rfl rfl ⟨by omega, by omega⟩ (fun F4 hS mF4 nF4 => ?_)
      refine ezw_iconst (1) rfl rfl ?_
      have g0 : F4 13 0 = (F 13 0) := by rw [nF4 13 0 (by decide)]
      have g1 : F4 13 1 = (F 13 1) - 1 := by rw [mF4]
      have g2 : F4 13 2 = (F 13 2) := by rw [nF4 13 2 (by decide)]
      have g3 : F4 13 3 = (F 13 3) := by rw [nF4 13 3 (by decide)]
      have g4 : F4 13 4 = (F 13 4) := by rw [nF4 13 4 (by decide)]
      have g5 : F4 13 5 = (F 13 5) := by rw [nF4 13 5 (by decide)]
      have g6 : F4 13 6 = (F 13 6) := by rw [nF4 13 6 (by decide)]
      exact ezw_ireturn rfl (ezw_zret ⟨by omega, by omega⟩) ⟨F4, rfl, hS, (fun p j h => by rw [nF4 p j (fun z => h (⟨z.1, z.2⟩))]), (1), ⟨by omega, by omega⟩, (fun _ => ⟨by omega, by omega⟩), (by omega), (fun _ => ⟨by rw [g0]; exact w0, by rw [g1]; show _ = w.ti - 1; omega, by rw [g2]; exact w2, by rw [g3]; exact w3, by rw [g4]; exact w4, by rw [g5]; exact w5, by rw [g6]; exact w6⟩), (by omega), rfl⟩
    · refine ezw_iconst (0) rfl rfl ?_
      exact ezw_ireturn rfl (ezw_zret ⟨by omega, by omega⟩) ⟨F, rfl, hS, (fun _ _ _ => rfl), (0), ⟨by omega, by omega⟩, (by omega), (fun _ hz => by
            obtain ⟨z1, z2⟩ := hz
            omega), (by omega), (fun _ => cw), rfl⟩
def ezt_m64_19nQ (e : Bool × Bool) (F : Nat → Nat → Int) (A : Nat → Int → Int) (a1 : Int) (a2 : Int) : Option ezq_V → (Nat → ezq_C) → Prop := fun v g' => ∃ (A' : Nat → Int → Int), ezu_g e F A' = g' ∧ ezs_T F A' ∧ (∀ p, ¬ (p = 19) → A' p = A p) ∧ (0 ≤ a1 → a1 < 16 → A' 19 a1 = a2) ∧ (∀ j, j ≠ a1 → A' 19 j = A 19 j) ∧ none = v
theorem ezt_m64_19n {a1 a2 : Int} {F : Nat → Nat → Int} {A : Nat → Int → Int} (hS : ezs_T F A) (hd : 0 ≤ d) (ha1 : ezw_in a1) (ha2 : ezw_il a2) : ezw_C l ρ B xa Hb D cA 64 d [ezw_p 19, ezw_i a1, ezw_l a2] (ezu_g e F A) (ezt_m64_19nQ e F A a1 a2) := by
  refine ezw_met (k := 0) rfl rfl ?_
  refine ezw_aload_n rfl rfl ?_
  refine ezw_ifnull rfl ?_
  refine ezw_iload_n rfl rfl ?_
  refine ezw_if_lt rfl rfl ha1 (fun h5_0 => ?_) (fun h5_0 => ?_)
  · exact ezw_return rfl rfl ⟨A, rfl, hS, (fun _ _ => rfl), (by omega), (fun _ _ => rfl), rfl⟩
  · refine ezw_iload_n rfl rfl ?_
    refine ezw_aload_n rfl rfl ?_
    refine ezs_alen (k := 16) rfl rfl rfl rfl (by decide) (by decide) ?_
    refine ezw_icmp_ge rfl rfl ha1 ⟨by decide, by decide⟩ (fun h11_0 => ?_) (fun h11_0 => ?_)
    · exact ezw_return rfl rfl ⟨A, rfl, hS, (fun _ _ => rfl), (by omega), (fun _ _ => rfl), rfl⟩
    · refine ezw_aload_n rfl rfl ?_
      refine ezw_iload_n rfl rfl ?_
      refine ezw_lload_n rfl rfl ?_
      refine ezy_lastore hS rfl rfl rfl (by omega) (by omega) (by decide) ha2 (fun A1 hS mA1 nA1 => ?_)
      exact ezw_return rfl rfl ⟨A1, rfl, hS, (fun p h => by
            funext j
            rw [nA1 p j (fun z => h (z.1))]), (fun _ _ => mA1), (fun j hj => nA1 19 j (by omega)), rfl⟩
def ezt_m130_18nQ (e : Bool × Bool) (F : Nat → Nat → Int) (A : Nat → Int → Int) (kU : Int) (a1 : Int) : Option ezq_V → (Nat → ezq_C) → Prop := fun v g' => ∃ (F' : Nat → Nat → Int) (A' : Nat → Int → Int), ezu_g e F' A' = g' ∧ ezs_T F' A' ∧ (∀ p j, ¬ (p = 18 ∧ (j = 4)) → F' p j = F p j) ∧ (∀ p, ¬ (p = 19) → A' p = A p) ∧ (F' 18 4 = (if kU = 16 then 16 else kU + 1)) ∧ (∀ k, 0 ≤ k → k < (if kU = 16 then 16 else kU + 1) → A' 19 k = (if kU = 16 then (if k = 15 then a1 else A 19 (k + 1)) else (if k = kU then a1 else A 19 k))) ∧ none = v
theorem ezt_m130_18n {kU : Int} {a1 : Int} {F : Nat → Nat → Int} {A : Nat → Int → Int} (hS : ezs_T F A) (hd : 1 ≤ d) (ha1 : ezw_il a1) (uc : F 18 4 = kU ∧ 0 ≤ kU ∧ kU ≤ 16) : ezw_C l ρ B xa Hb D cA 130 d [ezw_p 18, ezw_l a1] (ezu_g e F A) (ezt_m130_18nQ e F A kU a1) := by
  refine ezw_met (k := 1) rfl rfl ?_
  refine ezw_aload_n rfl rfl ?_
  refine ezy_get_i hS rfl rfl rfl rfl rfl rfl (fun u1 hu1 ku1 eu1 => ?_)
  replace eu1 := eu1.symm
  subst eu1
  refine ezw_bipush (16) rfl rfl ?_
  refine ezw_icmp_lt rfl rfl hu1 ⟨by decide, by decide⟩ (fun h6_1 => ?_) (fun h6_1 => ?_)
  · refine ezw_aload_n rfl rfl ?_
    refine ezs_getp (p := 19) rfl rfl rfl rfl rfl ?_
    refine ezw_aload_n rfl rfl ?_
    refine ezy_get_i hS rfl rfl rfl rfl rfl rfl (fun u2 hu2 ku2 eu2 => ?_)
    replace eu2 := eu2.symm
    subst eu2
    refine ezw_lload_n rfl rfl ?_
    refine ezw_call3_3 rfl (by omega) rfl rfl (ezt_m64_19n hS (by omega) hu2 ha1) ?_
    rintro _ _ ⟨A3, rfl, hS, nA3, m_3, n_3, rfl⟩
    refine ezw_aload_n rfl rfl ?_
    refine ezw_dup rfl rfl ?_
    refine ezy_get_i hS rfl rfl rfl rfl rfl rfl (fun u4 hu4 ku4 eu4 => ?_)
    replace eu4 := eu4.symm
    subst eu4
    refine ezw_iconst (1) rfl rfl ?_
    refine ezw_iadd (k := (F 18 4) + 1) rfl (by omega) ?_
    refine ezy_put_i hS rfl rfl rfl rfl rfl ⟨by omega, by omega⟩ (fun F5 hS mF5 nF5 => ?_)
    have w18_4 : F5 18 4 = (F 18 4) + 1 := by rw [mF5]
    exact ezw_return rfl rfl ⟨F5, A3, rfl, hS, (fun p j h => by rw [nF5 p j (fun z => h (⟨z.1, z.2⟩))]), (fun p h => by
          funext j
          rw [nA3 p (fun z => h (z))]), (by (repeat' split) <;> omega), (fun k k0 k1 => by
          rw [if_neg (by omega)] at k1 ⊢
          by_cases hk : k = kU
          · rw [if_pos hk, hk]
            rw [show kU = (F 18 4) by omega]
            exact m_3 (by omega) (by omega)
          · rw [if_neg hk]
            exact n_3 k (by omega)), rfl⟩
  · refine ezw_iconst (1) rfl rfl ?_
    refine ezw_istore_n rfl rfl ?_
    have L11_7 : ∀ c6 : Int, ezw_in c6 → ∀ A_7 : Nat → Int → Int, ezs_T F A_7 → (∀ p, ¬ (p = 19) → A_7 p = A p) → ((1) ≤ c6) → (c6 ≤ 16) → (∀ k, 0 ≤ k → k < c6 - 1 → A_7 19 k = A 19 (k + 1)) → (∀ k, c6 - 1 ≤ k → A_7 19 k = A 19 k) → ezw_E l ρ B xa Hb D cA d ezq_re130 (ezt_m130_18nQ e F A kU a1) 11 [some (ezw_p 18), some (ezw_l a1), none, some (ezw_i c6)] [] (ezu_g e F A_7) := by
      refine ezs_up ?_
      intro c6 hc6 ihc6 A_7 hS nA_7 g_7 cb_7 sh_7 hi_7
      refine ezw_iload_n rfl rfl ?_
      refine ezw_aload_n rfl rfl ?_
      refine ezs_getp (p := 19) rfl rfl rfl rfl rfl ?_
      refine ezs_alen (k := 16) rfl rfl rfl rfl (by decide) (by decide) ?_
      refine ezw_icmp_ge rfl rfl hc6 ⟨by decide, by decide⟩ (fun h17_7 => ?_) (fun h17_7 => ?_)
      · refine ezw_aload_n rfl rfl ?_
        refine ezw_bipush (15) rfl rfl ?_
        refine ezy_put_i hS rfl rfl rfl rfl rfl ⟨by decide, by decide⟩ (fun F8 hS mF8 nF8 => ?_)
        refine ezw_aload_n rfl rfl ?_
        refine ezs_getp (p := 19) rfl rfl rfl rfl rfl ?_
        refine ezw_aload_n rfl rfl ?_
        refine ezy_get_i hS rfl rfl rfl rfl rfl rfl (fun u9 hu9 ku9 eu9 => ?_)
        rw [mF8] at eu9
        replace eu9 := eu9.symm
        subst eu9
        refine ezw_lload_n rfl rfl ?_
        refine ezw_call3_3 rfl (by omega) rfl rfl (ezt_m64_19n hS (by omega) ⟨by decide, by decide⟩ ha1) ?_
        rintro _ _ ⟨A10, rfl, hS, nA10, m_10, n_10, rfl⟩
        refine ezw_aload_n rfl rfl ?_
        refine ezw_dup rfl rfl ?_
        refine ezy_get_i hS rfl rfl rfl rfl rfl rfl (fun u11 hu11 ku11 eu11 => ?_)
        rw [mF8] at eu11
        replace eu11 := eu11.symm
        subst eu11
        refine ezw_iconst (1) rfl rfl ?_
        refine ezw_iadd (k := (16)) rfl (by omega) ?_
        refine ezy_put_i hS rfl rfl rfl rfl rfl ⟨by decide, by decide⟩ (fun F12 hS mF12 nF12 => ?_)
        have w18_4 : F12 18 4 = (16) := by rw [mF12]
        exact ezw_return rfl rfl ⟨F12, A10, rfl, hS, (fun p j h => by rw [nF12 p j (fun z => h (⟨z.1, z.2⟩)), nF8 p j (fun z => h (⟨z.1, z.2⟩))]), (fun p h => by
              funext j
              rw [nA10 p (fun z => h (z)), nA_7 p (fun z => h (z))]), (by (repeat' split) <;> omega), (fun k k0 k1 => by
              rw [if_pos (by omega)] at k1 ⊢
              by_cases hk : k = 15
              · rw [if_pos hk, hk]
                rw [show (15 : Int) = (15) by omega]
                exact m_10 (by omega) (by omega)
              · rw [if_neg hk, n_10 k (by omega)]
                exact sh_7 k k0 (by omega)), rfl⟩
      · refine ezw_aload_n rfl rfl ?_
        refine ezs_getp (p := 19) rfl rfl rfl rfl rfl ?_
        refine ezw_iload_n rfl rfl ?_
        refine ezw_iconst (1) rfl rfl ?_
        refine ezw_isub (k := c6 - 1) rfl (by omega) ?_
        refine ezw_aload_n rfl rfl ?_
        refine ezs_getp (p := 19) rfl rfl rfl rfl rfl ?_
        refine ezw_iload_n rfl rfl ?_
        refine ezy_laload hS rfl rfl rfl (by omega) (by omega) (by decide) (fun u13 hu13 eu13 => ?_)
        refine ezy_lastore hS rfl rfl rfl (by omega) (by omega) (by decide) hu13 (fun A14 hS mA14 nA14 => ?_)
        refine ezw_iinc (k := c6 + 1) (1) rfl rfl rfl (by omega) rfl ?_
        refine ezw_goto rfl rfl ?_
        exact ezw_keepE [true, true, false, true] (ihc6 (c6 + 1) (by omega) ⟨by omega, by omega⟩ A14 hS (fun p h => by
              funext j
              rw [nA14 p j (fun z => h (z.1)), nA_7 p (fun z => h (z))]) (by omega) (by omega) (fun k k0 k1 => by
              by_cases hk : k = c6 - 1
              · rw [show k = c6 - 1 by omega, mA14, eu13, hi_7 _ (by omega), show c6 - 1 + 1 = c6 by omega]
              · rw [nA14 19 k (by omega)]
                exact sh_7 k k0 (by omega)) (fun k k0 => by rw [nA14 19 k (by omega)]; exact hi_7 k (by omega)))
    exact ezw_keepE [true, true, false, true] (L11_7 (1) ⟨by decide, by decide⟩ A hS (fun _ _ => rfl) (by omega) (by omega) (fun k k0 k1 => by omega) (fun k k0 => rfl))
def ezt_m54_19nQ (e : Bool × Bool) (F : Nat → Nat → Int) (A : Nat → Int → Int) (a1 : Int) : Option ezq_V → (Nat → ezq_C) → Prop := fun v g' => ezu_g e F A = g' ∧ ∃ u : Int, (ezw_il u) ∧ (0 ≤ a1 → a1 < 16 → u = A 19 a1) ∧ some (ezw_l u) = v
theorem ezt_m54_19n {a1 : Int} {F : Nat → Nat → Int} {A : Nat → Int → Int} (hS : ezs_T F A) (hd : 0 ≤ d) (ha1 : ezw_in a1) : ezw_C l ρ B xa Hb D cA 54 d [ezw_p 19, ezw_i a1] (ezu_g e F A) (ezt_m54_19nQ e F A a1) := by
  refine ezw_met (k := 0) rfl rfl ?_
  refine ezw_aload_n rfl rfl ?_
  refine ezw_ifnull rfl ?_
  refine ezw_iload_n rfl rfl ?_
  refine ezw_if_lt rfl rfl ha1 (fun h5_0 => ?_) (fun h5_0 => ?_)
  · refine ezw_lconst (0) rfl rfl ?_
    exact ezw_lreturn rfl rfl ⟨rfl, (0), ⟨by decide, by decide⟩, (by omega), rfl⟩
  · refine ezw_iload_n rfl rfl ?_
    refine ezw_aload_n rfl rfl ?_
    refine ezs_alen (k := 16) rfl rfl rfl rfl (by decide) (by decide) ?_
    refine ezw_icmp_ge rfl rfl ha1 ⟨by decide, by decide⟩ (fun h11_0 => ?_) (fun h11_0 => ?_)
    · refine ezw_lconst (0) rfl rfl ?_
      exact ezw_lreturn rfl rfl ⟨rfl, (0), ⟨by decide, by decide⟩, (by omega), rfl⟩
    · refine ezw_aload_n rfl rfl ?_
      refine ezw_iload_n rfl rfl ?_
      refine ezy_laload hS rfl rfl rfl (by omega) (by omega) (by decide) (fun u1 hu1 eu1 => ?_)
      refine ezw_goto rfl rfl ?_
      exact ezw_lreturn rfl rfl ⟨rfl, u1, hu1, (fun _ _ => eu1), rfl⟩
def ezt_m139_18nQ (e : Bool × Bool) (F : Nat → Nat → Int) (A : Nat → Int → Int) (kU : Int) : Option ezq_V → (Nat → ezq_C) → Prop := fun v g' => ∃ (F' : Nat → Nat → Int), ezu_g e F' A = g' ∧ ezs_T F' A ∧ (∀ p j, ¬ (p = 18 ∧ (j = 4)) → F' p j = F p j) ∧ ∃ u : Int, (ezw_il u) ∧ (F' 18 4 = kU - 1) ∧ (u = A 19 (kU - 1)) ∧ some (ezw_l u) = v
theorem ezt_m139_18n {kU : Int} {F : Nat → Nat → Int} {A : Nat → Int → Int} (hS : ezs_T F A) (hd : 1 ≤ d) (uc : F 18 4 = kU ∧ 1 ≤ kU ∧ kU ≤ 16) : ezw_C l ρ B xa Hb D cA 139 d [ezw_p 18] (ezu_g e F A) (ezt_m139_18nQ e F A kU) := by
  refine ezw_met (k := 0) rfl rfl ?_
  refine ezw_aload_n rfl rfl ?_
  refine ezw_iconst (0) rfl rfl ?_
  refine ezw_aload_n rfl rfl ?_
  refine ezy_get_i hS rfl rfl rfl rfl rfl rfl (fun u1 hu1 ku1 eu1 => ?_)
  replace eu1 := eu1.symm
  subst eu1
  refine ezw_iconst (1) rfl rfl ?_
  refine ezw_isub (k := (F 18 4) - 1) rfl (by omega) ?_
  refine ezw_mmaxE rfl ⟨by decide, by decide⟩ ⟨by omega, by omega⟩ rfl (fun u2 hu2 => ?_)
  refine ezy_put_i hS rfl rfl rfl rfl rfl ⟨by omega, by omega⟩ (fun F3 hS mF3 nF3 => ?_)
  refine ezw_aload_n rfl rfl ?_
  refine ezs_getp (p := 19) rfl rfl rfl rfl rfl ?_
  refine ezw_aload_n rfl rfl ?_
  refine ezy_get_i hS rfl rfl rfl rfl rfl rfl (fun u4 hu4 ku4 eu4 => ?_)
  rw [mF3] at eu4
  replace eu4 := eu4.symm
  subst eu4
  refine ezw_call3_2 rfl (by omega) rfl rfl (ezt_m54_19n hS (by omega) hu4) ?_
  rintro _ _ ⟨rfl, u6, hu6, v_5, rfl⟩
  have w18_4 : F3 18 4 = u2 := by rw [mF3]
  exact ezw_lreturn rfl rfl ⟨F3, rfl, hS, (fun p j h => by rw [nF3 p j (fun z => h (⟨z.1, z.2⟩))]), u6, hu6, by omega, (by
        have h9 := v_5 (by omega) (by omega)
        rw [h9, show u2 = kU - 1 by omega]), rfl⟩
end KT
