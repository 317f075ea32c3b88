/-! ===== the program: a line ===== -/
section KT
variable {l : Launch} {ρ : ezq_E} {B : Nat} {xa : Nat → Option Nat} {Hb : Heap} {D : va_G} {cA : Nat → ClassId} {d : Nat} {e : Bool × Bool}
def ezt_m47_4_1_30Q (e : Bool × Bool) (F : Nat → Nat → Int) (A : Nat → Int → Int) (c : Int → Int) (n : Int) (s : Int × Int) (t : ezp_D) : Option ezq_V → (Nat → ezq_C) → Prop := fun v g' => ∃ (F' : Nat → Nat → Int) (A' : Nat → Int → Int), ezu_g e F' A' = g' ∧ ezs_T F' A' ∧ (∀ p j, ¬ (p = 1 ∧ (j = 3 ∨ j = 4 ∨ j = 5 ∨ j = 6 ∨ j = 7 ∨ j = 8 ∨ j = 9) ∨ p = 4 ∧ (j = 2) ∨ p = 5 ∧ (j = 3 ∨ j = 4) ∨ p = 9 ∧ (j = 3 ∨ j = 4) ∨ p = 30 ∧ (j = 15 ∨ j = 16 ∨ j = 17) ∨ p = 38 ∧ (j = 1)) → F' p j = F p j) ∧ (∀ p, ¬ (p = 6 ∨ p = 10 ∨ p = 31 ∨ p = 32 ∨ p = 33 ∨ p = 34 ∨ p = 35 ∨ p = 36 ∨ p = 37 ∨ p = 39 ∨ p = 40 ∨ p = 41 ∨ p = 42 ∨ p = 43 ∨ p = 44) → A' p = A p) ∧ (ezt_ST c n ((ezp_lne c t s).1) F') ∧ (ezt_TR 30 ((ezp_lne c t s).2) F' A') ∧ ((ezp_lne c t s).1.1 = 0 → ezt_NU 30 (ezp_lne c t s).2 A') ∧ ((ezp_lne c t s).1.1 = 0 → ezt_DI (ezp_lne c t s).2 F') ∧ none = v
set_option maxHeartbeats 8000000 in
theorem ezt_m47_4_1_30 {c : Int → Int} {n : Int} {s : Int × Int} {t : ezp_D} {F : Nat → Nat → Int} {A : Nat → Int → Int} (hS : ezs_T F A) (hd : 42 ≤ d) (hn : F 1 2 = n) (hc : c = ezp_ch (A 2) n) (tp : ezp_tp c n) (hw : ∀ j, 0 ≤ j → j < 48 → A 3 j = ezl_cw.getD j.toNat 0) (st : ezt_ST c n s F) (tr : ezt_TR 30 t F A) (nu : s.1 = 0 → ezt_NU 30 t A) (di : ezt_DI t F) (z0 : s.1 = 0) : ezw_C l ρ B xa Hb D cA 47 d [ezw_p 4, ezw_p 1, ezw_p 30] (ezu_g e F A) (ezt_m47_4_1_30Q e F A c n s t) := by
  refine ezw_met (k := 1) rfl rfl ?_
  have hn0 := tp.1
  have hn1 := tp.2.1
  obtain ⟨sf, sk, sc, sb, sb2⟩ := id st
  have hP := ezp_Pr tp s.2
  have c3i : s.1 = 0 → F 1 3 = ezp_K c s.2 := fun z => (sc z).2.2.1
  have c8i : s.1 = 0 → F 1 8 = ezp_P c s.2 := fun z => (sc z).1
  have c4i : s.1 = 0 → ezp_K c s.2 = 101 → F 1 4 = ezp_V c s.2 := fun z => (sc z).2.2.2.1
  have c7i : s.1 = 0 → ezp_K c s.2 = 100 → F 1 7 = ezp_v 32 (ezp_W c s.2) ∧ F 1 5 = ezp_ix (ezp_W c s.2) - 44 := fun z => (sc z).2.2.2.2
  refine ezw_aload_n rfl rfl ?_
  refine ezy_get_i hS rfl rfl rfl rfl rfl rfl (fun u1 hu1 ku1 eu1 => ?_)
  replace eu1 := eu1.symm
  subst eu1
  refine ezw_istore_n rfl rfl ?_
  refine ezw_aload_n rfl rfl ?_
  refine ezw_aload_n rfl rfl ?_
  refine ezw_aload_n rfl rfl ?_
  refine ezw_iload_n rfl rfl ?_
  refine ezw_call0_3 rfl (by omega) (ezu_at rfl) rfl rfl rfl rfl (ezt_m48_4_1_30 hS (by omega) hu1 hn hc tp st tr di z0 (c3i z0)) ?_
  rintro _ _ ⟨F2, rfl, hS, nF2, st_2, rfl⟩
  refine ezw_aload_n rfl rfl ?_
  refine ezw_call0_0 rfl (by omega) (ezu_at rfl) rfl rfl rfl rfl (ezt_m45_1 hS (by omega)) ?_
  rintro _ _ ⟨rfl, u4, hu4, p3_0, p3_1, rfl⟩
  refine ezw_if_ne rfl rfl ⟨by omega, by omega⟩ (fun h16_4 => ?_) (fun h16_4 => ?_)
  · have hcz : (ezp_cf c t s).1 = 0 := st_2.1.symm.trans (p3_0 (by omega))
    obtain ⟨hcf, hcw⟩ := ezp_cf_0 hP.1 hcz
    obtain ⟨⟨w0, w1⟩, hws, hk8, hk4, hkE⟩ := ezp_cf_w hcw
    have k3 := c3i z0
    have stA : ezt_ST c n s F2 := by
      have h7 := st_2
      rw [hcf] at h7
      exact h7
    refine ezw_aload_n rfl rfl ?_
    refine ezw_dup rfl rfl ?_
    refine ezy_get_i hS rfl rfl rfl rfl rfl rfl (fun u5 hu5 ku5 eu5 => ?_)
    rw [nF2 4 2 (by decide)] at eu5
    replace eu5 := eu5.symm
    subst eu5
    refine ezw_iconst (1) rfl rfl ?_
    refine ezw_iload_n rfl rfl ?_
    refine ezw_ishl rfl (by omega) (by omega) (k := (1 * 2 ^ ((F 1 3)).toNat)) (rfl) ?_
    refine ezw_ior rfl (k := ezw_or (F 4 2) (1 * 2 ^ ((F 1 3)).toNat)) rfl ?_
    refine ezy_put_i hS rfl rfl rfl rfl rfl (by have h7 := ezt_or1 (v := F 4 2) (j := (F 1 3)) 23 (by decide) di.1.1 di.1.2 (by omega) (by omega); exact ⟨by omega, by omega⟩) (fun F6 hS mF6 nF6 => ?_)
    have trA : ezt_TR 30 (t.once (ezp_K c s.2)) F6 A := (ezt_TR_fr tr (by rw [nF6 30 15 (by decide), nF2 30 15 (by decide)]) (by rw [nF6 30 16 (by decide), nF2 30 16 (by decide)]) (by rw [nF6 30 17 (by decide), nF2 30 17 (by decide)]) (by rw [nF6 38 1 (by decide), nF2 38 1 (by decide)]) (fun _ _ _ => rfl))
    have diA : ezt_DI (t.once (ezp_K c s.2)) F6 := ezt_DI_once di w0 w1 (by rw [mF6, k3])
    have nuA : ezt_NU 30 (t.once (ezp_K c s.2)) A := nu z0
    refine ezw_aload_n rfl rfl ?_
    refine ezw_call0_0 rfl (by omega) (ezu_at rfl) rfl rfl rfl rfl (ezt_take hS (by omega) (by rw [nF6 1 2 (by decide), nF2 1 2 (by decide)]; exact hn) hc tp hw (ezt_ST_fr stA (fun j j0 j1 => by rw [nF6 1 j (by omega)]))) ?_
    rintro _ _ ⟨F7, rfl, hS, nF7, st_7, rfl⟩
    refine ezw_iload_n rfl rfl ?_
    by_cases q8 : (F 1 3) = (0)
    · refine ezw_tableswitchE (v := 0) (p := 144) q8 rfl (by rfl) ?_
      clear hws hcw
      refine ezw_aload_n rfl rfl ?_
      refine ezw_aload_n rfl rfl ?_
      refine ezw_call2_2 rfl (by omega) rfl rfl (ezt_m51_1_30 hS (by omega) (by rw [nF7 1 2 (by decide), nF6 1 2 (by decide), nF2 1 2 (by decide)]; exact hn) hc tp hw st_7 (ezt_TR_fr trA (by rw [nF7 30 15 (by decide)]) (by rw [nF7 30 16 (by decide)]) (by rw [nF7 30 17 (by decide)]) (by rw [nF7 38 1 (by decide)]) (fun _ _ _ => rfl)) (hk8 (by omega))) ?_
      rintro _ _ ⟨F9, A9, rfl, hS, nF9, nA9, st_9, tr_9, rfl⟩
      refine ezw_goto rfl rfl ?_
      refine ezw_aload_n rfl rfl ?_
      refine ezw_sipush (259) rfl rfl ?_
      refine ezw_call0_1 rfl (by omega) (ezu_at rfl) rfl rfl rfl rfl (ezt_m56_1 hS (by omega) ⟨by decide, by decide⟩ (by rw [nF9 1 2 (by decide), nF7 1 2 (by decide), nF6 1 2 (by decide), nF2 1 2 (by decide)]; exact hn) (by rw [nA9 2 (by decide)]; exact hc) tp (by rw [nA9 3 (by decide)]; exact hw) st_9) ?_
      rintro _ _ ⟨F10, rfl, hS, nF10, st_10, rfl⟩
      exact ezw_return rfl rfl ⟨F10, A9, rfl, hS, (fun p j h => by rw [nF10 p j (by omega), nF9 p j (by omega), nF7 p j (by omega), nF6 p j (by omega), nF2 p j (by omega)]), (fun p h => by
            funext j
            rw [nA9 p (by omega)]), (by
            rw [ezp_lne_1 hcz, ezp_lw_0 (w := ezp_K c s.2) (by omega)]
            exact st_10), (by
            rw [ezp_lne_1 hcz, ezp_lw_0 (w := ezp_K c s.2) (by omega)]
            exact (ezt_TR_fr tr_9 (by rw [nF10 30 15 (by decide)]) (by rw [nF10 30 16 (by decide)]) (by rw [nF10 30 17 (by decide)]) (by rw [nF10 38 1 (by decide)]) (fun _ _ _ => rfl))), (by
            rw [ezp_lne_1 hcz, ezp_lw_0 (w := ezp_K c s.2) (by omega)]
            intro z
            have z2 := ezp_0w z
            exact ezt_NU_eq nuA ezp_twD_nu.1 (by rw [nA9 44 (by decide)])), (by
            rw [ezp_lne_1 hcz, ezp_lw_0 (w := ezp_K c s.2) (by omega)]
            intro z
            have z2 := ezp_0w z
            exact ezt_DI_eq diA ezp_twD_nu.2 (by rw [nF10 4 2 (by decide), nF9 4 2 (by decide), nF7 4 2 (by decide)])), rfl⟩
    by_cases q11 : (F 1 3) = (1)
    · exact absurd q11 (by omega)
    by_cases q12 : (F 1 3) = (2)
    · exact absurd q12 (by omega)
    by_cases q13 : (F 1 3) = (3)
    · exact absurd q13 (by omega)
    by_cases q14 : (F 1 3) = (4)
    · exact absurd q14 (by omega)
    by_cases q15 : (F 1 3) = (5)
    · refine ezw_tableswitchE (v := 5) (p := 152) q15 rfl (by rfl) ?_
      clear hws hcw
      refine ezw_aload_n rfl rfl ?_
      refine ezw_aload_n rfl rfl ?_
      refine ezw_call2_2 rfl (by omega) rfl rfl (ezt_m65_1_30 hS (by omega) (by rw [nF7 1 2 (by decide), nF6 1 2 (by decide), nF2 1 2 (by decide)]; exact hn) hc tp hw st_7 (ezt_TR_fr trA (by rw [nF7 30 15 (by decide)]) (by rw [nF7 30 16 (by decide)]) (by rw [nF7 30 17 (by decide)]) (by rw [nF7 38 1 (by decide)]) (fun _ _ _ => rfl))) ?_
      rintro _ _ ⟨F16, A16, rfl, hS, nF16, nA16, st_16, tr_16, ns_16, rfl⟩
      refine ezw_goto rfl rfl ?_
      refine ezw_aload_n rfl rfl ?_
      refine ezw_sipush (259) rfl rfl ?_
      refine ezw_call0_1 rfl (by omega) (ezu_at rfl) rfl rfl rfl rfl (ezt_m56_1 hS (by omega) ⟨by decide, by decide⟩ (by rw [nF16 1 2 (by decide), nF7 1 2 (by decide), nF6 1 2 (by decide), nF2 1 2 (by decide)]; exact hn) (by rw [nA16 2 (by decide)]; exact hc) tp (by rw [nA16 3 (by decide)]; exact hw) st_16) ?_
      rintro _ _ ⟨F17, rfl, hS, nF17, st_17, rfl⟩
      exact ezw_return rfl rfl ⟨F17, A16, rfl, hS, (fun p j h => by rw [nF17 p j (by omega), nF16 p j (by omega), nF7 p j (by omega), nF6 p j (by omega), nF2 p j (by omega)]), (fun p h => by
            funext j
            rw [nA16 p (by omega)]), (by
            rw [ezp_lne_1 hcz, ezp_lw_5 (w := ezp_K c s.2) (by omega)]
            exact st_17), (by
            rw [ezp_lne_1 hcz, ezp_lw_5 (w := ezp_K c s.2) (by omega)]
            exact (ezt_TR_fr tr_16 (by rw [nF17 30 15 (by decide)]) (by rw [nF17 30 16 (by decide)]) (by rw [nF17 30 17 (by decide)]) (by rw [nF17 38 1 (by decide)]) (fun _ _ _ => rfl))), (by
            rw [ezp_lne_1 hcz, ezp_lw_5 (w := ezp_K c s.2) (by omega)]
            intro z
            have z2 := ezp_0w z
            exact ezt_NU_eq nuA ns_16.1 (by rw [nA16 44 (by decide)])), (by
            rw [ezp_lne_1 hcz, ezp_lw_5 (w := ezp_K c s.2) (by omega)]
            intro z
            have z2 := ezp_0w z
            exact ezt_DI_eq diA ns_16.2 (by rw [nF17 4 2 (by decide), nF16 4 2 (by decide), nF7 4 2 (by decide)])), rfl⟩
    by_cases q18 : (F 1 3) = (6)
    · refine ezw_tableswitchE (v := 6) (p := 160) q18 rfl (by rfl) ?_
      clear hws hcw
      refine ezw_aload_n rfl rfl ?_
      refine ezw_aload_n rfl rfl ?_
      refine ezw_call2_2 rfl (by omega) rfl rfl (ezt_m68_1_30 hS (by omega) (by rw [nF7 1 2 (by decide), nF6 1 2 (by decide), nF2 1 2 (by decide)]; exact hn) hc tp hw st_7 (ezt_TR_fr trA (by rw [nF7 30 15 (by decide)]) (by rw [nF7 30 16 (by decide)]) (by rw [nF7 30 17 (by decide)]) (by rw [nF7 38 1 (by decide)]) (fun _ _ _ => rfl)) (fun _ => nuA)) ?_
      rintro _ _ ⟨F19, A19, rfl, hS, nF19, nA19, st_19, tr_19, nu_19, rfl⟩
      refine ezw_goto rfl rfl ?_
      refine ezw_aload_n rfl rfl ?_
      refine ezw_sipush (259) rfl rfl ?_
      refine ezw_call0_1 rfl (by omega) (ezu_at rfl) rfl rfl rfl rfl (ezt_m56_1 hS (by omega) ⟨by decide, by decide⟩ (by rw [nF19 1 2 (by decide), nF7 1 2 (by decide), nF6 1 2 (by decide), nF2 1 2 (by decide)]; exact hn) (by rw [nA19 2 (by decide)]; exact hc) tp (by rw [nA19 3 (by decide)]; exact hw) st_19) ?_
      rintro _ _ ⟨F20, rfl, hS, nF20, st_20, rfl⟩
      exact ezw_return rfl rfl ⟨F20, A19, rfl, hS, (fun p j h => by rw [nF20 p j (by omega), nF19 p j (by omega), nF7 p j (by omega), nF6 p j (by omega), nF2 p j (by omega)]), (fun p h => by
            funext j
            rw [nA19 p (by omega)]), (by
            rw [ezp_lne_1 hcz, ezp_lw_6 (w := ezp_K c s.2) (by omega)]
            exact st_20), (by
            rw [ezp_lne_1 hcz, ezp_lw_6 (w := ezp_K c s.2) (by omega)]
            exact (ezt_TR_fr tr_19 (by rw [nF20 30 15 (by decide)]) (by rw [nF20 30 16 (by decide)]) (by rw [nF20 30 17 (by decide)]) (by rw [nF20 38 1 (by decide)]) (fun _ _ _ => rfl))), (by
            rw [ezp_lne_1 hcz, ezp_lw_6 (w := ezp_K c s.2) (by omega)]
            intro z
            have z2 := ezp_0w z
            exact nu_19 z2), (by
            rw [ezp_lne_1 hcz, ezp_lw_6 (w := ezp_K c s.2) (by omega)]
            intro z
            have z2 := ezp_0w z
            exact ezt_DI_eq diA rfl (by rw [nF20 4 2 (by decide), nF19 4 2 (by decide), nF7 4 2 (by decide)])), rfl⟩
    by_cases q21 : (F 1 3) = (7)
    · exact absurd q21 (by omega)
    by_cases q22 : (F 1 3) = (8)
    · exact absurd q22 (by omega)
    by_cases q23 : (F 1 3) = (9)
    · refine ezw_tableswitchE (v := 9) (p := 168) q23 rfl (by rfl) ?_
      clear hws hcw
      refine ezw_aload_n rfl rfl ?_
      refine ezw_aload_n rfl rfl ?_
      refine ezw_call2_2 rfl (by omega) rfl rfl (ezt_m70_1_30 hS (by omega) (by rw [nF7 1 2 (by decide), nF6 1 2 (by decide), nF2 1 2 (by decide)]; exact hn) hc tp hw st_7 (ezt_TR_fr trA (by rw [nF7 30 15 (by decide)]) (by rw [nF7 30 16 (by decide)]) (by rw [nF7 30 17 (by decide)]) (by rw [nF7 38 1 (by decide)]) (fun _ _ _ => rfl)) (hk4 (by omega))) ?_
      rintro _ _ ⟨F24, A24, rfl, hS, nF24, nA24, st_24, tr_24, rfl⟩
      refine ezw_goto rfl rfl ?_
      refine ezw_aload_n rfl rfl ?_
      refine ezw_sipush (259) rfl rfl ?_
      refine ezw_call0_1 rfl (by omega) (ezu_at rfl) rfl rfl rfl rfl (ezt_m56_1 hS (by omega) ⟨by decide, by decide⟩ (by rw [nF24 1 2 (by decide), nF7 1 2 (by decide), nF6 1 2 (by decide), nF2 1 2 (by decide)]; exact hn) (by rw [nA24 2 (by decide)]; exact hc) tp (by rw [nA24 3 (by decide)]; exact hw) st_24) ?_
      rintro _ _ ⟨F25, rfl, hS, nF25, st_25, rfl⟩
      exact ezw_return rfl rfl ⟨F25, A24, rfl, hS, (fun p j h => by rw [nF25 p j (by omega), nF24 p j (by omega), nF7 p j (by omega), nF6 p j (by omega), nF2 p j (by omega)]), (fun p h => by
            funext j
            rw [nA24 p (by omega)]), (by
            rw [ezp_lne_1 hcz, ezp_lw_9 (w := ezp_K c s.2) (by omega)]
            exact st_25), (by
            rw [ezp_lne_1 hcz, ezp_lw_9 (w := ezp_K c s.2) (by omega)]
            exact (ezt_TR_fr tr_24 (by rw [nF25 30 15 (by decide)]) (by rw [nF25 30 16 (by decide)]) (by rw [nF25 30 17 (by decide)]) (by rw [nF25 38 1 (by decide)]) (fun _ _ _ => rfl))), (by
            rw [ezp_lne_1 hcz, ezp_lw_9 (w := ezp_K c s.2) (by omega)]
            intro z
            have z2 := ezp_0w z
            exact ezt_NU_eq nuA ezp_thD_nu.1 (by rw [nA24 44 (by decide)])), (by
            rw [ezp_lne_1 hcz, ezp_lw_9 (w := ezp_K c s.2) (by omega)]
            intro z
            have z2 := ezp_0w z
            exact ezt_DI_eq diA ezp_thD_nu.2 (by rw [nF25 4 2 (by decide), nF24 4 2 (by decide), nF7 4 2 (by decide)])), rfl⟩
    by_cases q26 : (F 1 3) = (10)
    · exact absurd q26 (by omega)
    by_cases q27 : (F 1 3) = (11)
    · exact absurd q27 (by omega)
    by_cases q28 : (F 1 3) = (12)
    · refine ezw_tableswitchE (v := 12) (p := 176) q28 rfl (by rfl) ?_
      clear hws hcw
      refine ezw_aload_n rfl rfl ?_
      refine ezw_aload_n rfl rfl ?_
      refine ezw_call2_2 rfl (by omega) rfl rfl (ezt_m72_1_30 hS (by omega) (by rw [nF7 1 2 (by decide), nF6 1 2 (by decide), nF2 1 2 (by decide)]; exact hn) hc tp hw st_7 (ezt_TR_fr trA (by rw [nF7 30 15 (by decide)]) (by rw [nF7 30 16 (by decide)]) (by rw [nF7 30 17 (by decide)]) (by rw [nF7 38 1 (by decide)]) (fun _ _ _ => rfl))) ?_
      rintro _ _ ⟨F29, A29, rfl, hS, nF29, nA29, st_29, tr_29, rfl⟩
      refine ezw_goto rfl rfl ?_
      refine ezw_aload_n rfl rfl ?_
      refine ezw_sipush (259) rfl rfl ?_
      refine ezw_call0_1 rfl (by omega) (ezu_at rfl) rfl rfl rfl rfl (ezt_m56_1 hS (by omega) ⟨by decide, by decide⟩ (by rw [nF29 1 2 (by decide), nF7 1 2 (by decide), nF6 1 2 (by decide), nF2 1 2 (by decide)]; exact hn) (by rw [nA29 2 (by decide)]; exact hc) tp (by rw [nA29 3 (by decide)]; exact hw) st_29) ?_
      rintro _ _ ⟨F30, rfl, hS, nF30, st_30, rfl⟩
      exact ezw_return rfl rfl ⟨F30, A29, rfl, hS, (fun p j h => by rw [nF30 p j (by omega), nF29 p j (by omega), nF7 p j (by omega), nF6 p j (by omega), nF2 p j (by omega)]), (fun p h => by
            funext j
            rw [nA29 p (by omega)]), (by
            rw [ezp_lne_1 hcz, ezp_lw_12 (w := ezp_K c s.2) (by omega)]
            exact st_30), (by
            rw [ezp_lne_1 hcz, ezp_lw_12 (w := ezp_K c s.2) (by omega)]
            exact (ezt_TR_fr tr_29 (by rw [nF30 30 15 (by decide)]) (by rw [nF30 30 16 (by decide)]) (by rw [nF30 30 17 (by decide)]) (by rw [nF30 38 1 (by decide)]) (fun _ _ _ => rfl))), (by
            rw [ezp_lne_1 hcz, ezp_lw_12 (w := ezp_K c s.2) (by omega)]
            intro z
            have z2 := ezp_0w z
            exact ezt_NU_eq nuA ezp_ovD_nu.1 (by rw [nA29 44 (by decide)])), (by
            rw [ezp_lne_1 hcz, ezp_lw_12 (w := ezp_K c s.2) (by omega)]
            intro z
            have z2 := ezp_0w z
            exact ezt_DI_eq diA ezp_ovD_nu.2 (by rw [nF30 4 2 (by decide), nF29 4 2 (by decide), nF7 4 2 (by decide)])), rfl⟩
    by_cases q31 : (F 1 3) = (13)
    · refine ezw_tableswitchE (v := 13) (p := 184) q31 rfl (by rfl) ?_
      clear hws hcw
      refine ezw_aload_n rfl rfl ?_
      refine ezw_aload_n rfl rfl ?_
      refine ezw_call2_2 rfl (by omega) rfl rfl (ezt_m75_1_30 hS (by omega) (by rw [nF7 1 2 (by decide), nF6 1 2 (by decide), nF2 1 2 (by decide)]; exact hn) hc tp hw st_7 (ezt_TR_fr trA (by rw [nF7 30 15 (by decide)]) (by rw [nF7 30 16 (by decide)]) (by rw [nF7 30 17 (by decide)]) (by rw [nF7 38 1 (by decide)]) (fun _ _ _ => rfl)) (fun _ => nuA)) ?_
      rintro _ _ ⟨F32, A32, rfl, hS, nF32, nA32, st_32, tr_32, nu_32, rfl⟩
      refine ezw_goto rfl rfl ?_
      refine ezw_aload_n rfl rfl ?_
      refine ezw_sipush (259) rfl rfl ?_
      refine ezw_call0_1 rfl (by omega) (ezu_at rfl) rfl rfl rfl rfl (ezt_m56_1 hS (by omega) ⟨by decide, by decide⟩ (by rw [nF32 1 2 (by decide), nF7 1 2 (by decide), nF6 1 2 (by decide), nF2 1 2 (by decide)]; exact hn) (by rw [nA32 2 (by decide)]; exact hc) tp (by rw [nA32 3 (by decide)]; exact hw) st_32) ?_
      rintro _ _ ⟨F33, rfl, hS, nF33, st_33, rfl⟩
      exact ezw_return rfl rfl ⟨F33, A32, rfl, hS, (fun p j h => by rw [nF33 p j (by omega), nF32 p j (by omega), nF7 p j (by omega), nF6 p j (by omega), nF2 p j (by omega)]), (fun p h => by
            funext j
            rw [nA32 p (by omega)]), (by
            rw [ezp_lne_1 hcz, ezp_lw_13 (w := ezp_K c s.2) (by omega)]
            exact st_33), (by
            rw [ezp_lne_1 hcz, ezp_lw_13 (w := ezp_K c s.2) (by omega)]
            exact (ezt_TR_fr tr_32 (by rw [nF33 30 15 (by decide)]) (by rw [nF33 30 16 (by decide)]) (by rw [nF33 30 17 (by decide)]) (by rw [nF33 38 1 (by decide)]) (fun _ _ _ => rfl))), (by
            rw [ezp_lne_1 hcz, ezp_lw_13 (w := ezp_K c s.2) (by omega)]
            intro z
            have z2 := ezp_0w z
            exact nu_32 z2), (by
            rw [ezp_lne_1 hcz, ezp_lw_13 (w := ezp_K c s.2) (by omega)]
            intro z
            have z2 := ezp_0w z
            exact ezt_DI_eq diA rfl (by rw [nF33 4 2 (by decide), nF32 4 2 (by decide), nF7 4 2 (by decide)])), rfl⟩
    by_cases q34 : (F 1 3) = (14)
    · refine ezw_tableswitchE (v := 14) (p := 230) q34 rfl (by rfl) ?_
      clear hws hcw
      refine ezw_aload_n rfl rfl ?_
      refine ezw_iconst (5) rfl rfl ?_
      refine ezw_aload_n rfl rfl ?_
      refine ezw_iconst (0) rfl rfl ?_
      refine ezw_bipush (10) rfl rfl ?_
      refine ezw_call0_2 rfl (by omega) (ezu_at rfl) rfl rfl rfl rfl (ezt_m57_1 hS (by omega) ⟨by decide, by decide⟩ ⟨by decide, by decide⟩ (by rw [nF7 1 2 (by decide), nF6 1 2 (by decide), nF2 1 2 (by decide)]; exact hn) hc tp hw st_7) ?_
      rintro _ _ ⟨F35, rfl, hS, nF35, u36, hu36, st_35, v_35, p35_2, rfl⟩
      refine ezw_call0_2 rfl (by omega) (ezu_at rfl) rfl rfl rfl rfl (ezt_m69_30 hS (by omega) ⟨by decide, by decide⟩ hu36 (by omega)) ?_
      rintro _ _ ⟨A37, rfl, hS, nA37, m_37, n_37, rfl⟩
      refine ezw_goto rfl rfl ?_
      refine ezw_aload_n rfl rfl ?_
      refine ezw_sipush (259) rfl rfl ?_
      refine ezw_call0_1 rfl (by omega) (ezu_at rfl) rfl rfl rfl rfl (ezt_m56_1 hS (by omega) ⟨by decide, by decide⟩ (by rw [nF35 1 2 (by decide), nF7 1 2 (by decide), nF6 1 2 (by decide), nF2 1 2 (by decide)]; exact hn) (by rw [nA37 2 (by decide)]; exact hc) tp (by rw [nA37 3 (by decide)]; exact hw) st_35) ?_
      rintro _ _ ⟨F38, rfl, hS, nF38, st_38, rfl⟩
      exact ezw_return rfl rfl ⟨F38, A37, rfl, hS, (fun p j h => by rw [nF38 p j (by omega), nF35 p j (by omega), nF7 p j (by omega), nF6 p j (by omega), nF2 p j (by omega)]), (fun p h => by
            funext j
            rw [nA37 p (by omega)]), (by
            rw [ezp_lne_1 hcz, ezp_lw_14 (w := ezp_K c s.2) (by omega)]
            exact st_38), (by
            rw [ezp_lne_1 hcz, ezp_lw_14 (w := ezp_K c s.2) (by omega)]
            exact (ezt_TR_fr trA (by rw [nF38 30 15 (by decide), nF35 30 15 (by decide), nF7 30 15 (by decide)]) (by rw [nF38 30 16 (by decide), nF35 30 16 (by decide), nF7 30 16 (by decide)]) (by rw [nF38 30 17 (by decide), nF35 30 17 (by decide), nF7 30 17 (by decide)]) (by rw [nF38 38 1 (by decide), nF35 38 1 (by decide), nF7 38 1 (by decide)]) (fun k k1 k2 => by rw [nA37 (30 + k) (by omega)]))), (by
            rw [ezp_lne_1 hcz, ezp_lw_14 (w := ezp_K c s.2) (by omega)]
            intro z
            have z2 := ezp_0w z
            exact ezt_NU_say (k := 5) nuA ((m_37 (by omega) (by omega)).trans (v_35 z2).1) n_37), (by
            rw [ezp_lne_1 hcz, ezp_lw_14 (w := ezp_K c s.2) (by omega)]
            intro z
            have z2 := ezp_0w z
            exact ezt_DI_eq diA rfl (by rw [nF38 4 2 (by decide), nF35 4 2 (by decide), nF7 4 2 (by decide)])), rfl⟩
    by_cases q39 : (F 1 3) = (15)
    · refine ezw_tableswitchE (v := 15) (p := 245) q39 rfl (by rfl) ?_
      clear hws hcw
      refine ezw_aload_n rfl rfl ?_
      refine ezw_bipush (6) rfl rfl ?_
      refine ezw_aload_n rfl rfl ?_
      refine ezw_iconst (0) rfl rfl ?_
      refine ezw_bipush (9) rfl rfl ?_
      refine ezw_call0_2 rfl (by omega) (ezu_at rfl) rfl rfl rfl rfl (ezt_m57_1 hS (by omega) ⟨by decide, by decide⟩ ⟨by decide, by decide⟩ (by rw [nF7 1 2 (by decide), nF6 1 2 (by decide), nF2 1 2 (by decide)]; exact hn) hc tp hw st_7) ?_
      rintro _ _ ⟨F40, rfl, hS, nF40, u41, hu41, st_40, v_40, p40_2, rfl⟩
      refine ezw_call0_2 rfl (by omega) (ezu_at rfl) rfl rfl rfl rfl (ezt_m69_30 hS (by omega) ⟨by decide, by decide⟩ hu41 (by omega)) ?_
      rintro _ _ ⟨A42, rfl, hS, nA42, m_42, n_42, rfl⟩
      refine ezw_goto rfl rfl ?_
      refine ezw_aload_n rfl rfl ?_
      refine ezw_sipush (259) rfl rfl ?_
      refine ezw_call0_1 rfl (by omega) (ezu_at rfl) rfl rfl rfl rfl (ezt_m56_1 hS (by omega) ⟨by decide, by decide⟩ (by rw [nF40 1 2 (by decide), nF7 1 2 (by decide), nF6 1 2 (by decide), nF2 1 2 (by decide)]; exact hn) (by rw [nA42 2 (by decide)]; exact hc) tp (by rw [nA42 3 (by decide)]; exact hw) st_40) ?_
      rintro _ _ ⟨F43, rfl, hS, nF43, st_43, rfl⟩
      exact ezw_return rfl rfl ⟨F43, A42, rfl, hS, (fun p j h => by rw [nF43 p j (by omega), nF40 p j (by omega), nF7 p j (by omega), nF6 p j (by omega), nF2 p j (by omega)]), (fun p h => by
            funext j
            rw [nA42 p (by omega)]), (by
            rw [ezp_lne_1 hcz, ezp_lw_15 (w := ezp_K c s.2) (by omega)]
            exact st_43), (by
            rw [ezp_lne_1 hcz, ezp_lw_15 (w := ezp_K c s.2) (by omega)]
            exact (ezt_TR_fr trA (by rw [nF43 30 15 (by decide), nF40 30 15 (by decide), nF7 30 15 (by decide)]) (by rw [nF43 30 16 (by decide), nF40 30 16 (by decide), nF7 30 16 (by decide)]) (by rw [nF43 30 17 (by decide), nF40 30 17 (by decide), nF7 30 17 (by decide)]) (by rw [nF43 38 1 (by decide), nF40 38 1 (by decide), nF7 38 1 (by decide)]) (fun k k1 k2 => by rw [nA42 (30 + k) (by omega)]))), (by
            rw [ezp_lne_1 hcz, ezp_lw_15 (w := ezp_K c s.2) (by omega)]
            intro z
            have z2 := ezp_0w z
            exact ezt_NU_say (k := 6) nuA ((m_42 (by omega) (by omega)).trans (v_40 z2).1) n_42), (by
            rw [ezp_lne_1 hcz, ezp_lw_15 (w := ezp_K c s.2) (by omega)]
            intro z
            have z2 := ezp_0w z
            exact ezt_DI_eq diA rfl (by rw [nF43 4 2 (by decide), nF40 4 2 (by decide), nF7 4 2 (by decide)])), rfl⟩
    by_cases q44 : (F 1 3) = (16)
    · refine ezw_tableswitchE (v := 16) (p := 192) q44 rfl (by rfl) ?_
      clear hws hcw
      refine ezw_aload_n rfl rfl ?_
      refine ezw_aload_n rfl rfl ?_
      refine ezw_call2_2 rfl (by omega) rfl rfl (ezt_m76_1_30 hS (by omega) (by rw [nF7 1 2 (by decide), nF6 1 2 (by decide), nF2 1 2 (by decide)]; exact hn) hc tp hw st_7 (ezt_TR_fr trA (by rw [nF7 30 15 (by decide)]) (by rw [nF7 30 16 (by decide)]) (by rw [nF7 30 17 (by decide)]) (by rw [nF7 38 1 (by decide)]) (fun _ _ _ => rfl)) (fun _ => nuA)) ?_
      rintro _ _ ⟨F45, A45, rfl, hS, nF45, nA45, st_45, tr_45, nu_45, rfl⟩
      refine ezw_goto rfl rfl ?_
      refine ezw_aload_n rfl rfl ?_
      refine ezw_sipush (259) rfl rfl ?_
      refine ezw_call0_1 rfl (by omega) (ezu_at rfl) rfl rfl rfl rfl (ezt_m56_1 hS (by omega) ⟨by decide, by decide⟩ (by rw [nF45 1 2 (by decide), nF7 1 2 (by decide), nF6 1 2 (by decide), nF2 1 2 (by decide)]; exact hn) (by rw [nA45 2 (by decide)]; exact hc) tp (by rw [nA45 3 (by decide)]; exact hw) st_45) ?_
      rintro _ _ ⟨F46, rfl, hS, nF46, st_46, rfl⟩
      exact ezw_return rfl rfl ⟨F46, A45, rfl, hS, (fun p j h => by rw [nF46 p j (by omega), nF45 p j (by omega), nF7 p j (by omega), nF6 p j (by omega), nF2 p j (by omega)]), (fun p h => by
            funext j
            rw [nA45 p (by omega)]), (by
            rw [ezp_lne_1 hcz, ezp_lw_16 (w := ezp_K c s.2) (by omega)]
            exact st_46), (by
            rw [ezp_lne_1 hcz, ezp_lw_16 (w := ezp_K c s.2) (by omega)]
            exact (ezt_TR_fr tr_45 (by rw [nF46 30 15 (by decide)]) (by rw [nF46 30 16 (by decide)]) (by rw [nF46 30 17 (by decide)]) (by rw [nF46 38 1 (by decide)]) (fun _ _ _ => rfl))), (by
            rw [ezp_lne_1 hcz, ezp_lw_16 (w := ezp_K c s.2) (by omega)]
            intro z
            have z2 := ezp_0w z
            exact nu_45 z2), (by
            rw [ezp_lne_1 hcz, ezp_lw_16 (w := ezp_K c s.2) (by omega)]
            intro z
            have z2 := ezp_0w z
            exact ezt_DI_eq diA rfl (by rw [nF46 4 2 (by decide), nF45 4 2 (by decide), nF7 4 2 (by decide)])), rfl⟩
    by_cases q47 : (F 1 3) = (17)
    · exact absurd q47 (by omega)
    by_cases q48 : (F 1 3) = (18)
    · refine ezw_tableswitchE (v := 18) (p := 261) q48 rfl (by rfl) ?_
      clear hws hcw
      refine ezw_aload_n rfl rfl ?_
      refine ezw_bipush (9) rfl rfl ?_
      refine ezw_aload_n rfl rfl ?_
      refine ezw_iconst (1) rfl rfl ?_
      refine ezw_bipush (99) rfl rfl ?_
      refine ezw_call0_2 rfl (by omega) (ezu_at rfl) rfl rfl rfl rfl (ezt_m57_1 hS (by omega) ⟨by decide, by decide⟩ ⟨by decide, by decide⟩ (by rw [nF7 1 2 (by decide), nF6 1 2 (by decide), nF2 1 2 (by decide)]; exact hn) hc tp hw st_7) ?_
      rintro _ _ ⟨F49, rfl, hS, nF49, u50, hu50, st_49, v_49, p49_2, rfl⟩
      refine ezw_call0_2 rfl (by omega) (ezu_at rfl) rfl rfl rfl rfl (ezt_m69_30 hS (by omega) ⟨by decide, by decide⟩ hu50 (by omega)) ?_
      rintro _ _ ⟨A51, rfl, hS, nA51, m_51, n_51, rfl⟩
      refine ezw_goto rfl rfl ?_
      refine ezw_aload_n rfl rfl ?_
      refine ezw_sipush (259) rfl rfl ?_
      refine ezw_call0_1 rfl (by omega) (ezu_at rfl) rfl rfl rfl rfl (ezt_m56_1 hS (by omega) ⟨by decide, by decide⟩ (by rw [nF49 1 2 (by decide), nF7 1 2 (by decide), nF6 1 2 (by decide), nF2 1 2 (by decide)]; exact hn) (by rw [nA51 2 (by decide)]; exact hc) tp (by rw [nA51 3 (by decide)]; exact hw) st_49) ?_
      rintro _ _ ⟨F52, rfl, hS, nF52, st_52, rfl⟩
      exact ezw_return rfl rfl ⟨F52, A51, rfl, hS, (fun p j h => by rw [nF52 p j (by omega), nF49 p j (by omega), nF7 p j (by omega), nF6 p j (by omega), nF2 p j (by omega)]), (fun p h => by
            funext j
            rw [nA51 p (by omega)]), (by
            rw [ezp_lne_1 hcz, ezp_lw_18 (w := ezp_K c s.2) (by omega)]
            exact st_52), (by
            rw [ezp_lne_1 hcz, ezp_lw_18 (w := ezp_K c s.2) (by omega)]
            exact (ezt_TR_fr trA (by rw [nF52 30 15 (by decide), nF49 30 15 (by decide), nF7 30 15 (by decide)]) (by rw [nF52 30 16 (by decide), nF49 30 16 (by decide), nF7 30 16 (by decide)]) (by rw [nF52 30 17 (by decide), nF49 30 17 (by decide), nF7 30 17 (by decide)]) (by rw [nF52 38 1 (by decide), nF49 38 1 (by decide), nF7 38 1 (by decide)]) (fun k k1 k2 => by rw [nA51 (30 + k) (by omega)]))), (by
            rw [ezp_lne_1 hcz, ezp_lw_18 (w := ezp_K c s.2) (by omega)]
            intro z
            have z2 := ezp_0w z
            exact ezt_NU_say (k := 9) nuA ((m_51 (by omega) (by omega)).trans (v_49 z2).1) n_51), (by
            rw [ezp_lne_1 hcz, ezp_lw_18 (w := ezp_K c s.2) (by omega)]
            intro z
            have z2 := ezp_0w z
            exact ezt_DI_eq diA rfl (by rw [nF52 4 2 (by decide), nF49 4 2 (by decide), nF7 4 2 (by decide)])), rfl⟩
    by_cases q53 : (F 1 3) = (19)
    · refine ezw_tableswitchE (v := 19) (p := 277) q53 rfl (by rfl) ?_
      clear hws hcw
      refine ezw_aload_n rfl rfl ?_
      refine ezw_bipush (10) rfl rfl ?_
      refine ezw_aload_n rfl rfl ?_
      refine ezw_iconst (1) rfl rfl ?_
      refine ezw_bipush (15) rfl rfl ?_
      refine ezw_call0_2 rfl (by omega) (ezu_at rfl) rfl rfl rfl rfl (ezt_m57_1 hS (by omega) ⟨by decide, by decide⟩ ⟨by decide, by decide⟩ (by rw [nF7 1 2 (by decide), nF6 1 2 (by decide), nF2 1 2 (by decide)]; exact hn) hc tp hw st_7) ?_
      rintro _ _ ⟨F54, rfl, hS, nF54, u55, hu55, st_54, v_54, p54_2, rfl⟩
      refine ezw_call0_2 rfl (by omega) (ezu_at rfl) rfl rfl rfl rfl (ezt_m69_30 hS (by omega) ⟨by decide, by decide⟩ hu55 (by omega)) ?_
      rintro _ _ ⟨A56, rfl, hS, nA56, m_56, n_56, rfl⟩
      refine ezw_aload_n rfl rfl ?_
      refine ezw_sipush (259) rfl rfl ?_
      refine ezw_call0_1 rfl (by omega) (ezu_at rfl) rfl rfl rfl rfl (ezt_m56_1 hS (by omega) ⟨by decide, by decide⟩ (by rw [nF54 1 2 (by decide), nF7 1 2 (by decide), nF6 1 2 (by decide), nF2 1 2 (by decide)]; exact hn) (by rw [nA56 2 (by decide)]; exact hc) tp (by rw [nA56 3 (by decide)]; exact hw) st_54) ?_
      rintro _ _ ⟨F57, rfl, hS, nF57, st_57, rfl⟩
      exact ezw_return rfl rfl ⟨F57, A56, rfl, hS, (fun p j h => by rw [nF57 p j (by omega), nF54 p j (by omega), nF7 p j (by omega), nF6 p j (by omega), nF2 p j (by omega)]), (fun p h => by
            funext j
            rw [nA56 p (by omega)]), (by
            rw [ezp_lne_1 hcz, ezp_lw_19 (w := ezp_K c s.2) (by omega)]
            exact st_57), (by
            rw [ezp_lne_1 hcz, ezp_lw_19 (w := ezp_K c s.2) (by omega)]
            exact (ezt_TR_fr trA (by rw [nF57 30 15 (by decide), nF54 30 15 (by decide), nF7 30 15 (by decide)]) (by rw [nF57 30 16 (by decide), nF54 30 16 (by decide), nF7 30 16 (by decide)]) (by rw [nF57 30 17 (by decide), nF54 30 17 (by decide), nF7 30 17 (by decide)]) (by rw [nF57 38 1 (by decide), nF54 38 1 (by decide), nF7 38 1 (by decide)]) (fun k k1 k2 => by rw [nA56 (30 + k) (by omega)]))), (by
            rw [ezp_lne_1 hcz, ezp_lw_19 (w := ezp_K c s.2) (by omega)]
            intro z
            have z2 := ezp_0w z
            exact ezt_NU_say (k := 10) nuA ((m_56 (by omega) (by omega)).trans (v_54 z2).1) n_56), (by
            rw [ezp_lne_1 hcz, ezp_lw_19 (w := ezp_K c s.2) (by omega)]
            intro z
            have z2 := ezp_0w z
            exact ezt_DI_eq diA rfl (by rw [nF57 4 2 (by decide), nF54 4 2 (by decide), nF7 4 2 (by decide)])), rfl⟩
    by_cases q58 : (F 1 3) = (20)
    · refine ezw_tableswitchE (v := 20) (p := 200) q58 rfl (by rfl) ?_
      clear hws hcw
      refine ezw_aload_n rfl rfl ?_
      refine ezw_aload_n rfl rfl ?_
      refine ezw_call2_2 rfl (by omega) rfl rfl (ezt_m77_1_30 hS (by omega) (by rw [nF7 1 2 (by decide), nF6 1 2 (by decide), nF2 1 2 (by decide)]; exact hn) hc tp hw st_7 (ezt_TR_fr trA (by rw [nF7 30 15 (by decide)]) (by rw [nF7 30 16 (by decide)]) (by rw [nF7 30 17 (by decide)]) (by rw [nF7 38 1 (by decide)]) (fun _ _ _ => rfl)) (hkE (by omega))) ?_
      rintro _ _ ⟨F59, A59, rfl, hS, nF59, nA59, st_59, tr_59, rfl⟩
      refine ezw_goto rfl rfl ?_
      refine ezw_aload_n rfl rfl ?_
      refine ezw_sipush (259) rfl rfl ?_
      refine ezw_call0_1 rfl (by omega) (ezu_at rfl) rfl rfl rfl rfl (ezt_m56_1 hS (by omega) ⟨by decide, by decide⟩ (by rw [nF59 1 2 (by decide), nF7 1 2 (by decide), nF6 1 2 (by decide), nF2 1 2 (by decide)]; exact hn) (by rw [nA59 2 (by decide)]; exact hc) tp (by rw [nA59 3 (by decide)]; exact hw) st_59) ?_
      rintro _ _ ⟨F60, rfl, hS, nF60, st_60, rfl⟩
      exact ezw_return rfl rfl ⟨F60, A59, rfl, hS, (fun p j h => by rw [nF60 p j (by omega), nF59 p j (by omega), nF7 p j (by omega), nF6 p j (by omega), nF2 p j (by omega)]), (fun p h => by
            funext j
            rw [nA59 p (by omega)]), (by
            rw [ezp_lne_1 hcz, ezp_lw_20 (w := ezp_K c s.2) (by omega)]
            exact st_60), (by
            rw [ezp_lne_1 hcz, ezp_lw_20 (w := ezp_K c s.2) (by omega)]
            exact (ezt_TR_fr tr_59 (by rw [nF60 30 15 (by decide)]) (by rw [nF60 30 16 (by decide)]) (by rw [nF60 30 17 (by decide)]) (by rw [nF60 38 1 (by decide)]) (fun _ _ _ => rfl))), (by
            rw [ezp_lne_1 hcz, ezp_lw_20 (w := ezp_K c s.2) (by omega)]
            intro z
            have z2 := ezp_0w z
            exact ezt_NU_eq nuA ezp_elD_nu.1 (by rw [nA59 44 (by decide)])), (by
            rw [ezp_lne_1 hcz, ezp_lw_20 (w := ezp_K c s.2) (by omega)]
            intro z
            have z2 := ezp_0w z
            exact ezt_DI_eq diA ezp_elD_nu.2 (by rw [nF60 4 2 (by decide), nF59 4 2 (by decide), nF7 4 2 (by decide)])), rfl⟩
    by_cases q61 : (F 1 3) = (21)
    · refine ezw_tableswitchE (v := 21) (p := 208) q61 rfl (by rfl) ?_
      clear hws hcw
      refine ezw_aload_n rfl rfl ?_
      refine ezs_getp (p := 5) rfl rfl rfl rfl rfl ?_
      refine ezw_aload_n rfl rfl ?_
      refine ezw_call0_1 rfl (by omega) (ezu_at rfl) rfl rfl rfl rfl (ezt_m80_5_1 hS (by omega) (by rw [nF7 1 2 (by decide), nF6 1 2 (by decide), nF2 1 2 (by decide)]; exact hn) hc tp hw st_7) ?_
      rintro _ _ ⟨F62, A62, rfl, hS, nF62, nA62, st_62, lw_62, to_62, rfl⟩
      refine ezw_goto rfl rfl ?_
      refine ezw_aload_n rfl rfl ?_
      refine ezw_sipush (259) rfl rfl ?_
      refine ezw_call0_1 rfl (by omega) (ezu_at rfl) rfl rfl rfl rfl (ezt_m56_1 hS (by omega) ⟨by decide, by decide⟩ (by rw [nF62 1 2 (by decide), nF7 1 2 (by decide), nF6 1 2 (by decide), nF2 1 2 (by decide)]; exact hn) (by rw [nA62 2 (by decide)]; exact hc) tp (by rw [nA62 3 (by decide)]; exact hw) st_62) ?_
      rintro _ _ ⟨F63, rfl, hS, nF63, st_63, rfl⟩
      exact ezw_return rfl rfl ⟨F63, A62, rfl, hS, (fun p j h => by rw [nF63 p j (by omega), nF62 p j (by omega), nF7 p j (by omega), nF6 p j (by omega), nF2 p j (by omega)]), (fun p h => by
            funext j
            rw [nA62 p (by omega)]), (by
            rw [ezp_lne_1 hcz, ezp_lw_21 (w := ezp_K c s.2) (by omega)]
            exact st_63), (by
            rw [ezp_lne_1 hcz, ezp_lw_21 (w := ezp_K c s.2) (by omega)]
            exact (ezt_TR_fr trA (by rw [nF63 30 15 (by decide), nF62 30 15 (by decide), nF7 30 15 (by decide)]) (by rw [nF63 30 16 (by decide), nF62 30 16 (by decide), nF7 30 16 (by decide)]) (by rw [nF63 30 17 (by decide), nF62 30 17 (by decide), nF7 30 17 (by decide)]) (by rw [nF63 38 1 (by decide), nF62 38 1 (by decide), nF7 38 1 (by decide)]) (fun k k1 k2 => by rw [nA62 (30 + k) (by omega)]))), (by
            rw [ezp_lne_1 hcz, ezp_lw_21 (w := ezp_K c s.2) (by omega)]
            intro z
            have z2 := ezp_0w z
            exact ezt_NU_eq nuA rfl (by rw [nA62 44 (by decide)])), (by
            rw [ezp_lne_1 hcz, ezp_lw_21 (w := ezp_K c s.2) (by omega)]
            intro z
            have z2 := ezp_0w z
            exact ezt_DI_eq diA rfl (by rw [nF63 4 2 (by decide), nF62 4 2 (by decide), nF7 4 2 (by decide)])), rfl⟩
    by_cases q64 : (F 1 3) = (22)
    · refine ezw_tableswitchE (v := 22) (p := 219) q64 rfl (by rfl) ?_
      clear hws hcw
      refine ezw_aload_n rfl rfl ?_
      refine ezs_getp (p := 9) rfl rfl rfl rfl rfl ?_
      refine ezw_aload_n rfl rfl ?_
      refine ezw_call0_1 rfl (by omega) (ezu_at rfl) rfl rfl rfl rfl (ezt_m80_9_1 hS (by omega) (by rw [nF7 1 2 (by decide), nF6 1 2 (by decide), nF2 1 2 (by decide)]; exact hn) hc tp hw st_7) ?_
      rintro _ _ ⟨F65, A65, rfl, hS, nF65, nA65, st_65, lw_65, to_65, rfl⟩
      refine ezw_goto rfl rfl ?_
      refine ezw_aload_n rfl rfl ?_
      refine ezw_sipush (259) rfl rfl ?_
      refine ezw_call0_1 rfl (by omega) (ezu_at rfl) rfl rfl rfl rfl (ezt_m56_1 hS (by omega) ⟨by decide, by decide⟩ (by rw [nF65 1 2 (by decide), nF7 1 2 (by decide), nF6 1 2 (by decide), nF2 1 2 (by decide)]; exact hn) (by rw [nA65 2 (by decide)]; exact hc) tp (by rw [nA65 3 (by decide)]; exact hw) st_65) ?_
      rintro _ _ ⟨F66, rfl, hS, nF66, st_66, rfl⟩
      exact ezw_return rfl rfl ⟨F66, A65, rfl, hS, (fun p j h => by rw [nF66 p j (by omega), nF65 p j (by omega), nF7 p j (by omega), nF6 p j (by omega), nF2 p j (by omega)]), (fun p h => by
            funext j
            rw [nA65 p (by omega)]), (by
            rw [ezp_lne_1 hcz, ezp_lw_22 (w := ezp_K c s.2) (by omega)]
            exact st_66), (by
            rw [ezp_lne_1 hcz, ezp_lw_22 (w := ezp_K c s.2) (by omega)]
            exact (ezt_TR_fr trA (by rw [nF66 30 15 (by decide), nF65 30 15 (by decide), nF7 30 15 (by decide)]) (by rw [nF66 30 16 (by decide), nF65 30 16 (by decide), nF7 30 16 (by decide)]) (by rw [nF66 30 17 (by decide), nF65 30 17 (by decide), nF7 30 17 (by decide)]) (by rw [nF66 38 1 (by decide), nF65 38 1 (by decide), nF7 38 1 (by decide)]) (fun k k1 k2 => by rw [nA65 (30 + k) (by omega)]))), (by
            rw [ezp_lne_1 hcz, ezp_lw_22 (w := ezp_K c s.2) (by omega)]
            intro z
            have z2 := ezp_0w z
            exact ezt_NU_eq nuA rfl (by rw [nA65 44 (by decide)])), (by
            rw [ezp_lne_1 hcz, ezp_lw_22 (w := ezp_K c s.2) (by omega)]
            intro z
            have z2 := ezp_0w z
            exact ezt_DI_eq diA rfl (by rw [nF66 4 2 (by decide), nF65 4 2 (by decide), nF7 4 2 (by decide)])), rfl⟩
    exact absurd hws (by omega)
  · exact ezw_return rfl rfl ⟨F2, A, rfl, hS, (fun p j h => by rw [nF2 p j (by omega)]), (fun _ _ => rfl), (by
          rw [ezp_lne_0 (fun h9 => p3_1 (by omega) (st_2.1.trans h9))]
          exact st_2), (by
          rw [ezp_lne_0 (fun h9 => p3_1 (by omega) (st_2.1.trans h9))]
          exact (ezt_TR_fr tr (by rw [nF2 30 15 (by decide)]) (by rw [nF2 30 16 (by decide)]) (by rw [nF2 30 17 (by decide)]) (by rw [nF2 38 1 (by decide)]) (fun _ _ _ => rfl))), (fun z => absurd z (by rw [ezp_lne_0 (fun h9 => p3_1 (by omega) (st_2.1.trans h9))]; exact (fun h9 => p3_1 (by omega) (st_2.1.trans h9)))), (fun z => absurd z (by rw [ezp_lne_0 (fun h9 => p3_1 (by omega) (st_2.1.trans h9))]; exact (fun h9 => p3_1 (by omega) (st_2.1.trans h9)))), rfl⟩
def ezt_m47_4_1_47Q (e : Bool × Bool) (F : Nat → Nat → Int) (A : Nat → Int → Int) (c : Int → Int) (n : Int) (s : Int × Int) (t : ezp_D) : Option ezq_V → (Nat → ezq_C) → Prop := fun v g' => ∃ (F' : Nat → Nat → Int) (A' : Nat → Int → Int), ezu_g e F' A' = g' ∧ ezs_T F' A' ∧ (∀ p j, ¬ (p = 1 ∧ (j = 3 ∨ j = 4 ∨ j = 5 ∨ j = 6 ∨ j = 7 ∨ j = 8 ∨ j = 9) ∨ p = 4 ∧ (j = 2) ∨ p = 5 ∧ (j = 3 ∨ j = 4) ∨ p = 9 ∧ (j = 3 ∨ j = 4) ∨ p = 47 ∧ (j = 15 ∨ j = 16 ∨ j = 17) ∨ p = 55 ∧ (j = 1)) → F' p j = F p j) ∧ (∀ p, ¬ (p = 6 ∨ p = 10 ∨ p = 48 ∨ p = 49 ∨ p = 50 ∨ p = 51 ∨ p = 52 ∨ p = 53 ∨ p = 54 ∨ p = 56 ∨ p = 57 ∨ p = 58 ∨ p = 59 ∨ p = 60 ∨ p = 61) → A' p = A p) ∧ (ezt_ST c n ((ezp_lne c t s).1) F') ∧ (ezt_TR 47 ((ezp_lne c t s).2) F' A') ∧ ((ezp_lne c t s).1.1 = 0 → ezt_NU 47 (ezp_lne c t s).2 A') ∧ ((ezp_lne c t s).1.1 = 0 → ezt_DI (ezp_lne c t s).2 F') ∧ none = v
set_option maxHeartbeats 8000000 in
theorem ezt_m47_4_1_47 {c : Int → Int} {n : Int} {s : Int × Int} {t : ezp_D} {F : Nat → Nat → Int} {A : Nat → Int → Int} (hS : ezs_T F A) (hd : 42 ≤ d) (hn : F 1 2 = n) (hc : c = ezp_ch (A 2) n) (tp : ezp_tp c n) (hw : ∀ j, 0 ≤ j → j < 48 → A 3 j = ezl_cw.getD j.toNat 0) (st : ezt_ST c n s F) (tr : ezt_TR 47 t F A) (nu : s.1 = 0 → ezt_NU 47 t A) (di : ezt_DI t F) (z0 : s.1 = 0) : ezw_C l ρ B xa Hb D cA 47 d [ezw_p 4, ezw_p 1, ezw_p 47] (ezu_g e F A) (ezt_m47_4_1_47Q e F A c n s t) := by
  refine ezw_met (k := 1) rfl rfl ?_
  have hn0 := tp.1
  have hn1 := tp.2.1
  obtain ⟨sf, sk, sc, sb, sb2⟩ := id st
  have hP := ezp_Pr tp s.2
  have c3i : s.1 = 0 → F 1 3 = ezp_K c s.2 := fun z => (sc z).2.2.1
  have c8i : s.1 = 0 → F 1 8 = ezp_P c s.2 := fun z => (sc z).1
  have c4i : s.1 = 0 → ezp_K c s.2 = 101 → F 1 4 = ezp_V c s.2 := fun z => (sc z).2.2.2.1
  have c7i : s.1 = 0 → ezp_K c s.2 = 100 → F 1 7 = ezp_v 32 (ezp_W c s.2) ∧ F 1 5 = ezp_ix (ezp_W c s.2) - 44 := fun z => (sc z).2.2.2.2
  refine ezw_aload_n rfl rfl ?_
  refine ezy_get_i hS rfl rfl rfl rfl rfl rfl (fun u1 hu1 ku1 eu1 => ?_)
  replace eu1 := eu1.symm
  subst eu1
  refine ezw_istore_n rfl rfl ?_
  refine ezw_aload_n rfl rfl ?_
  refine ezw_aload_n rfl rfl ?_
  refine ezw_aload_n rfl rfl ?_
  refine ezw_iload_n rfl rfl ?_
  refine ezw_call0_3 rfl (by omega) (ezu_at rfl) rfl rfl rfl rfl (ezt_m48_4_1_47 hS (by omega) hu1 hn hc tp st tr di z0 (c3i z0)) ?_
  rintro _ _ ⟨F2, rfl, hS, nF2, st_2, rfl⟩
  refine ezw_aload_n rfl rfl ?_
  refine ezw_call0_0 rfl (by omega) (ezu_at rfl) rfl rfl rfl rfl (ezt_m45_1 hS (by omega)) ?_
  rintro _ _ ⟨rfl, u4, hu4, p3_0, p3_1, rfl⟩
  refine ezw_if_ne rfl rfl ⟨by omega, by omega⟩ (fun h16_4 => ?_) (fun h16_4 => ?_)
  · have hcz : (ezp_cf c t s).1 = 0 := st_2.1.symm.trans (p3_0 (by omega))
    obtain ⟨hcf, hcw⟩ := ezp_cf_0 hP.1 hcz
    obtain ⟨⟨w0, w1⟩, hws, hk8, hk4, hkE⟩ := ezp_cf_w hcw
    have k3 := c3i z0
    have stA : ezt_ST c n s F2 := by
      have h7 := st_2
      rw [hcf] at h7
      exact h7
    refine ezw_aload_n rfl rfl ?_
    refine ezw_dup rfl rfl ?_
    refine ezy_get_i hS rfl rfl rfl rfl rfl rfl (fun u5 hu5 ku5 eu5 => ?_)
    rw [nF2 4 2 (by decide)] at eu5
    replace eu5 := eu5.symm
    subst eu5
    refine ezw_iconst (1) rfl rfl ?_
    refine ezw_iload_n rfl rfl ?_
    refine ezw_ishl rfl (by omega) (by omega) (k := (1 * 2 ^ ((F 1 3)).toNat)) (rfl) ?_
    refine ezw_ior rfl (k := ezw_or (F 4 2) (1 * 2 ^ ((F 1 3)).toNat)) rfl ?_
    refine ezy_put_i hS rfl rfl rfl rfl rfl (by have h7 := ezt_or1 (v := F 4 2) (j := (F 1 3)) 23 (by decide) di.1.1 di.1.2 (by omega) (by omega); exact ⟨by omega, by omega⟩) (fun F6 hS mF6 nF6 => ?_)
    have trA : ezt_TR 47 (t.once (ezp_K c s.2)) F6 A := (ezt_TR_fr tr (by rw [nF6 47 15 (by decide), nF2 47 15 (by decide)]) (by rw [nF6 47 16 (by decide), nF2 47 16 (by decide)]) (by rw [nF6 47 17 (by decide), nF2 47 17 (by decide)]) (by rw [nF6 55 1 (by decide), nF2 55 1 (by decide)]) (fun _ _ _ => rfl))
    have diA : ezt_DI (t.once (ezp_K c s.2)) F6 := ezt_DI_once di w0 w1 (by rw [mF6, k3])
    have nuA : ezt_NU 47 (t.once (ezp_K c s.2)) A := nu z0
    refine ezw_aload_n rfl rfl ?_
    refine ezw_call0_0 rfl (by omega) (ezu_at rfl) rfl rfl rfl rfl (ezt_take hS (by omega) (by rw [nF6 1 2 (by decide), nF2 1 2 (by decide)]; exact hn) hc tp hw (ezt_ST_fr stA (fun j j0 j1 => by rw [nF6 1 j (by omega)]))) ?_
    rintro _ _ ⟨F7, rfl, hS, nF7, st_7, rfl⟩
    refine ezw_iload_n rfl rfl ?_
    by_cases q8 : (F 1 3) = (0)
    · refine ezw_tableswitchE (v := 0) (p := 144) q8 rfl (by rfl) ?_
      clear hws hcw
      refine ezw_aload_n rfl rfl ?_
      refine ezw_aload_n rfl rfl ?_
      refine ezw_call2_2 rfl (by omega) rfl rfl (ezt_m51_1_47 hS (by omega) (by rw [nF7 1 2 (by decide), nF6 1 2 (by decide), nF2 1 2 (by decide)]; exact hn) hc tp hw st_7 (ezt_TR_fr trA (by rw [nF7 47 15 (by decide)]) (by rw [nF7 47 16 (by decide)]) (by rw [nF7 47 17 (by decide)]) (by rw [nF7 55 1 (by decide)]) (fun _ _ _ => rfl)) (hk8 (by omega))) ?_
      rintro _ _ ⟨F9, A9, rfl, hS, nF9, nA9, st_9, tr_9, rfl⟩
      refine ezw_goto rfl rfl ?_
      refine ezw_aload_n rfl rfl ?_
      refine ezw_sipush (259) rfl rfl ?_
      refine ezw_call0_1 rfl (by omega) (ezu_at rfl) rfl rfl rfl rfl (ezt_m56_1 hS (by omega) ⟨by decide, by decide⟩ (by rw [nF9 1 2 (by decide), nF7 1 2 (by decide), nF6 1 2 (by decide), nF2 1 2 (by decide)]; exact hn) (by rw [nA9 2 (by decide)]; exact hc) tp (by rw [nA9 3 (by decide)]; exact hw) st_9) ?_
      rintro _ _ ⟨F10, rfl, hS, nF10, st_10, rfl⟩
      exact ezw_return rfl rfl ⟨F10, A9, rfl, hS, (fun p j h => by rw [nF10 p j (by omega), nF9 p j (by omega), nF7 p j (by omega), nF6 p j (by omega), nF2 p j (by omega)]), (fun p h => by
            funext j
            rw [nA9 p (by omega)]), (by
            rw [ezp_lne_1 hcz, ezp_lw_0 (w := ezp_K c s.2) (by omega)]
            exact st_10), (by
            rw [ezp_lne_1 hcz, ezp_lw_0 (w := ezp_K c s.2) (by omega)]
            exact (ezt_TR_fr tr_9 (by rw [nF10 47 15 (by decide)]) (by rw [nF10 47 16 (by decide)]) (by rw [nF10 47 17 (by decide)]) (by rw [nF10 55 1 (by decide)]) (fun _ _ _ => rfl))), (by
            rw [ezp_lne_1 hcz, ezp_lw_0 (w := ezp_K c s.2) (by omega)]
            intro z
            have z2 := ezp_0w z
            exact ezt_NU_eq nuA ezp_twD_nu.1 (by rw [nA9 61 (by decide)])), (by
            rw [ezp_lne_1 hcz, ezp_lw_0 (w := ezp_K c s.2) (by omega)]
            intro z
            have z2 := ezp_0w z
            exact ezt_DI_eq diA ezp_twD_nu.2 (by rw [nF10 4 2 (by decide), nF9 4 2 (by decide), nF7 4 2 (by decide)])), rfl⟩
    by_cases q11 : (F 1 3) = (1)
    · exact absurd q11 (by omega)
    by_cases q12 : (F 1 3) = (2)
    · exact absurd q12 (by omega)
    by_cases q13 : (F 1 3) = (3)
    · exact absurd q13 (by omega)
    by_cases q14 : (F 1 3) = (4)
    · exact absurd q14 (by omega)
    by_cases q15 : (F 1 3) = (5)
    · refine ezw_tableswitchE (v := 5) (p := 152) q15 rfl (by rfl) ?_
      clear hws hcw
      refine ezw_aload_n rfl rfl ?_
      refine ezw_aload_n rfl rfl ?_
      refine ezw_call2_2 rfl (by omega) rfl rfl (ezt_m65_1_47 hS (by omega) (by rw [nF7 1 2 (by decide), nF6 1 2 (by decide), nF2 1 2 (by decide)]; exact hn) hc tp hw st_7 (ezt_TR_fr trA (by rw [nF7 47 15 (by decide)]) (by rw [nF7 47 16 (by decide)]) (by rw [nF7 47 17 (by decide)]) (by rw [nF7 55 1 (by decide)]) (fun _ _ _ => rfl))) ?_
      rintro _ _ ⟨F16, A16, rfl, hS, nF16, nA16, st_16, tr_16, ns_16, rfl⟩
      refine ezw_goto rfl rfl ?_
      refine ezw_aload_n rfl rfl ?_
      refine ezw_sipush (259) rfl rfl ?_
      refine ezw_call0_1 rfl (by omega) (ezu_at rfl) rfl rfl rfl rfl (ezt_m56_1 hS (by omega) ⟨by decide, by decide⟩ (by rw [nF16 1 2 (by decide), nF7 1 2 (by decide), nF6 1 2 (by decide), nF2 1 2 (by decide)]; exact hn) (by rw [nA16 2 (by decide)]; exact hc) tp (by rw [nA16 3 (by decide)]; exact hw) st_16) ?_
      rintro _ _ ⟨F17, rfl, hS, nF17, st_17, rfl⟩
      exact ezw_return rfl rfl ⟨F17, A16, rfl, hS, (fun p j h => by rw [nF17 p j (by omega), nF16 p j (by omega), nF7 p j (by omega), nF6 p j (by omega), nF2 p j (by omega)]), (fun p h => by
            funext j
            rw [nA16 p (by omega)]), (by
            rw [ezp_lne_1 hcz, ezp_lw_5 (w := ezp_K c s.2) (by omega)]
            exact st_17), (by
            rw [ezp_lne_1 hcz, ezp_lw_5 (w := ezp_K c s.2) (by omega)]
            exact (ezt_TR_fr tr_16 (by rw [nF17 47 15 (by decide)]) (by rw [nF17 47 16 (by decide)]) (by rw [nF17 47 17 (by decide)]) (by rw [nF17 55 1 (by decide)]) (fun _ _ _ => rfl))), (by
            rw [ezp_lne_1 hcz, ezp_lw_5 (w := ezp_K c s.2) (by omega)]
            intro z
            have z2 := ezp_0w z
            exact ezt_NU_eq nuA ns_16.1 (by rw [nA16 61 (by decide)])), (by
            rw [ezp_lne_1 hcz, ezp_lw_5 (w := ezp_K c s.2) (by omega)]
            intro z
            have z2 := ezp_0w z
            exact ezt_DI_eq diA ns_16.2 (by rw [nF17 4 2 (by decide), nF16 4 2 (by decide), nF7 4 2 (by decide)])), rfl⟩
    by_cases q18 : (F 1 3) = (6)
    · refine ezw_tableswitchE (v := 6) (p := 160) q18 rfl (by rfl) ?_
      clear hws hcw
      refine ezw_aload_n rfl rfl ?_
      refine ezw_aload_n rfl rfl ?_
      refine ezw_call2_2 rfl (by omega) rfl rfl (ezt_m68_1_47 hS (by omega) (by rw [nF7 1 2 (by decide), nF6 1 2 (by decide), nF2 1 2 (by decide)]; exact hn) hc tp hw st_7 (ezt_TR_fr trA (by rw [nF7 47 15 (by decide)]) (by rw [nF7 47 16 (by decide)]) (by rw [nF7 47 17 (by decide)]) (by rw [nF7 55 1 (by decide)]) (fun _ _ _ => rfl)) (fun _ => nuA)) ?_
      rintro _ _ ⟨F19, A19, rfl, hS, nF19, nA19, st_19, tr_19, nu_19, rfl⟩
      refine ezw_goto rfl rfl ?_
      refine ezw_aload_n rfl rfl ?_
      refine ezw_sipush (259) rfl rfl ?_
      refine ezw_call0_1 rfl (by omega) (ezu_at rfl) rfl rfl rfl rfl (ezt_m56_1 hS (by omega) ⟨by decide, by decide⟩ (by rw [nF19 1 2 (by decide), nF7 1 2 (by decide), nF6 1 2 (by decide), nF2 1 2 (by decide)]; exact hn) (by rw [nA19 2 (by decide)]; exact hc) tp (by rw [nA19 3 (by decide)]; exact hw) st_19) ?_
      rintro _ _ ⟨F20, rfl, hS, nF20, st_20, rfl⟩
      exact ezw_return rfl rfl ⟨F20, A19, rfl, hS, (fun p j h => by rw [nF20 p j (by omega), nF19 p j (by omega), nF7 p j (by omega), nF6 p j (by omega), nF2 p j (by omega)]), (fun p h => by
            funext j
            rw [nA19 p (by omega)]), (by
            rw [ezp_lne_1 hcz, ezp_lw_6 (w := ezp_K c s.2) (by omega)]
            exact st_20), (by
            rw [ezp_lne_1 hcz, ezp_lw_6 (w := ezp_K c s.2) (by omega)]
            exact (ezt_TR_fr tr_19 (by rw [nF20 47 15 (by decide)]) (by rw [nF20 47 16 (by decide)]) (by rw [nF20 47 17 (by decide)]) (by rw [nF20 55 1 (by decide)]) (fun _ _ _ => rfl))), (by
            rw [ezp_lne_1 hcz, ezp_lw_6 (w := ezp_K c s.2) (by omega)]
            intro z
            have z2 := ezp_0w z
            exact nu_19 z2), (by
            rw [ezp_lne_1 hcz, ezp_lw_6 (w := ezp_K c s.2) (by omega)]
            intro z
            have z2 := ezp_0w z
            exact ezt_DI_eq diA rfl (by rw [nF20 4 2 (by decide), nF19 4 2 (by decide), nF7 4 2 (by decide)])), rfl⟩
    by_cases q21 : (F 1 3) = (7)
    · exact absurd q21 (by omega)
    by_cases q22 : (F 1 3) = (8)
    · exact absurd q22 (by omega)
    by_cases q23 : (F 1 3) = (9)
    · refine ezw_tableswitchE (v := 9) (p := 168) q23 rfl (by rfl) ?_
      clear hws hcw
      refine ezw_aload_n rfl rfl ?_
      refine ezw_aload_n rfl rfl ?_
      refine ezw_call2_2 rfl (by omega) rfl rfl (ezt_m70_1_47 hS (by omega) (by rw [nF7 1 2 (by decide), nF6 1 2 (by decide), nF2 1 2 (by decide)]; exact hn) hc tp hw st_7 (ezt_TR_fr trA (by rw [nF7 47 15 (by decide)]) (by rw [nF7 47 16 (by decide)]) (by rw [nF7 47 17 (by decide)]) (by rw [nF7 55 1 (by decide)]) (fun _ _ _ => rfl)) (hk4 (by omega))) ?_
      rintro _ _ ⟨F24, A24, rfl, hS, nF24, nA24, st_24, tr_24, rfl⟩
      refine ezw_goto rfl rfl ?_
      refine ezw_aload_n rfl rfl ?_
      refine ezw_sipush (259) rfl rfl ?_
      refine ezw_call0_1 rfl (by omega) (ezu_at rfl) rfl rfl rfl rfl (ezt_m56_1 hS (by omega) ⟨by decide, by decide⟩ (by rw [nF24 1 2 (by decide), nF7 1 2 (by decide), nF6 1 2 (by decide), nF2 1 2 (by decide)]; exact hn) (by rw [nA24 2 (by decide)]; exact hc) tp (by rw [nA24 3 (by decide)]; exact hw) st_24) ?_
      rintro _ _ ⟨F25, rfl, hS, nF25, st_25, rfl⟩
      exact ezw_return rfl rfl ⟨F25, A24, rfl, hS, (fun p j h => by rw [nF25 p j (by omega), nF24 p j (by omega), nF7 p j (by omega), nF6 p j (by omega), nF2 p j (by omega)]), (fun p h => by
            funext j
            rw [nA24 p (by omega)]), (by
            rw [ezp_lne_1 hcz, ezp_lw_9 (w := ezp_K c s.2) (by omega)]
            exact st_25), (by
            rw [ezp_lne_1 hcz, ezp_lw_9 (w := ezp_K c s.2) (by omega)]
            exact (ezt_TR_fr tr_24 (by rw [nF25 47 15 (by decide)]) (by rw [nF25 47 16 (by decide)]) (by rw [nF25 47 17 (by decide)]) (by rw [nF25 55 1 (by decide)]) (fun _ _ _ => rfl))), (by
            rw [ezp_lne_1 hcz, ezp_lw_9 (w := ezp_K c s.2) (by omega)]
            intro z
            have z2 := ezp_0w z
            exact ezt_NU_eq nuA ezp_thD_nu.1 (by rw [nA24 61 (by decide)])), (by
            rw [ezp_lne_1 hcz, ezp_lw_9 (w := ezp_K c s.2) (by omega)]
            intro z
            have z2 := ezp_0w z
            exact ezt_DI_eq diA ezp_thD_nu.2 (by rw [nF25 4 2 (by decide), nF24 4 2 (by decide), nF7 4 2 (by decide)])), rfl⟩
    by_cases q26 : (F 1 3) = (10)
    · exact absurd q26 (by omega)
    by_cases q27 : (F 1 3) = (11)
    · exact absurd q27 (by omega)
    by_cases q28 : (F 1 3) = (12)
    · refine ezw_tableswitchE (v := 12) (p := 176) q28 rfl (by rfl) ?_
      clear hws hcw
      refine ezw_aload_n rfl rfl ?_
      refine ezw_aload_n rfl rfl ?_
      refine ezw_call2_2 rfl (by omega) rfl rfl (ezt_m72_1_47 hS (by omega) (by rw [nF7 1 2 (by decide), nF6 1 2 (by decide), nF2 1 2 (by decide)]; exact hn) hc tp hw st_7 (ezt_TR_fr trA (by rw [nF7 47 15 (by decide)]) (by rw [nF7 47 16 (by decide)]) (by rw [nF7 47 17 (by decide)]) (by rw [nF7 55 1 (by decide)]) (fun _ _ _ => rfl))) ?_
      rintro _ _ ⟨F29, A29, rfl, hS, nF29, nA29, st_29, tr_29, rfl⟩
      refine ezw_goto rfl rfl ?_
      refine ezw_aload_n rfl rfl ?_
      refine ezw_sipush (259) rfl rfl ?_
      refine ezw_call0_1 rfl (by omega) (ezu_at rfl) rfl rfl rfl rfl (ezt_m56_1 hS (by omega) ⟨by decide, by decide⟩ (by rw [nF29 1 2 (by decide), nF7 1 2 (by decide), nF6 1 2 (by decide), nF2 1 2 (by decide)]; exact hn) (by rw [nA29 2 (by decide)]; exact hc) tp (by rw [nA29 3 (by decide)]; exact hw) st_29) ?_
      rintro _ _ ⟨F30, rfl, hS, nF30, st_30, rfl⟩
      exact ezw_return rfl rfl ⟨F30, A29, rfl, hS, (fun p j h => by rw [nF30 p j (by omega), nF29 p j (by omega), nF7 p j (by omega), nF6 p j (by omega), nF2 p j (by omega)]), (fun p h => by
            funext j
            rw [nA29 p (by omega)]), (by
            rw [ezp_lne_1 hcz, ezp_lw_12 (w := ezp_K c s.2) (by omega)]
            exact st_30), (by
            rw [ezp_lne_1 hcz, ezp_lw_12 (w := ezp_K c s.2) (by omega)]
            exact (ezt_TR_fr tr_29 (by rw [nF30 47 15 (by decide)]) (by rw [nF30 47 16 (by decide)]) (by rw [nF30 47 17 (by decide)]) (by rw [nF30 55 1 (by decide)]) (fun _ _ _ => rfl))), (by
            rw [ezp_lne_1 hcz, ezp_lw_12 (w := ezp_K c s.2) (by omega)]
            intro z
            have z2 := ezp_0w z
            exact ezt_NU_eq nuA ezp_ovD_nu.1 (by rw [nA29 61 (by decide)])), (by
            rw [ezp_lne_1 hcz, ezp_lw_12 (w := ezp_K c s.2) (by omega)]
            intro z
            have z2 := ezp_0w z
            exact ezt_DI_eq diA ezp_ovD_nu.2 (by rw [nF30 4 2 (by decide), nF29 4 2 (by decide), nF7 4 2 (by decide)])), rfl⟩
    by_cases q31 : (F 1 3) = (13)
    · refine ezw_tableswitchE (v := 13) (p := 184) q31 rfl (by rfl) ?_
      clear hws hcw
      refine ezw_aload_n rfl rfl ?_
      refine ezw_aload_n rfl rfl ?_
      refine ezw_call2_2 rfl (by omega) rfl rfl (ezt_m75_1_47 hS (by omega) (by rw [nF7 1 2 (by decide), nF6 1 2 (by decide), nF2 1 2 (by decide)]; exact hn) hc tp hw st_7 (ezt_TR_fr trA (by rw [nF7 47 15 (by decide)]) (by rw [nF7 47 16 (by decide)]) (by rw [nF7 47 17 (by decide)]) (by rw [nF7 55 1 (by decide)]) (fun _ _ _ => rfl)) (fun _ => nuA)) ?_
      rintro _ _ ⟨F32, A32, rfl, hS, nF32, nA32, st_32, tr_32, nu_32, rfl⟩
      refine ezw_goto rfl rfl ?_
      refine ezw_aload_n rfl rfl ?_
      refine ezw_sipush (259) rfl rfl ?_
      refine ezw_call0_1 rfl (by omega) (ezu_at rfl) rfl rfl rfl rfl (ezt_m56_1 hS (by omega) ⟨by decide, by decide⟩ (by rw [nF32 1 2 (by decide), nF7 1 2 (by decide), nF6 1 2 (by decide), nF2 1 2 (by decide)]; exact hn) (by rw [nA32 2 (by decide)]; exact hc) tp (by rw [nA32 3 (by decide)]; exact hw) st_32) ?_
      rintro _ _ ⟨F33, rfl, hS, nF33, st_33, rfl⟩
      exact ezw_return rfl rfl ⟨F33, A32, rfl, hS, (fun p j h => by rw [nF33 p j (by omega), nF32 p j (by omega), nF7 p j (by omega), nF6 p j (by omega), nF2 p j (by omega)]), (fun p h => by
            funext j
            rw [nA32 p (by omega)]), (by
            rw [ezp_lne_1 hcz, ezp_lw_13 (w := ezp_K c s.2) (by omega)]
            exact st_33), (by
            rw [ezp_lne_1 hcz, ezp_lw_13 (w := ezp_K c s.2) (by omega)]
            exact (ezt_TR_fr tr_32 (by rw [nF33 47 15 (by decide)]) (by rw [nF33 47 16 (by decide)]) (by rw [nF33 47 17 (by decide)]) (by rw [nF33 55 1 (by decide)]) (fun _ _ _ => rfl))), (by
            rw [ezp_lne_1 hcz, ezp_lw_13 (w := ezp_K c s.2) (by omega)]
            intro z
            have z2 := ezp_0w z
            exact nu_32 z2), (by
            rw [ezp_lne_1 hcz, ezp_lw_13 (w := ezp_K c s.2) (by omega)]
            intro z
            have z2 := ezp_0w z
            exact ezt_DI_eq diA rfl (by rw [nF33 4 2 (by decide), nF32 4 2 (by decide), nF7 4 2 (by decide)])), rfl⟩
    by_cases q34 : (F 1 3) = (14)
    · refine ezw_tableswitchE (v := 14) (p := 230) q34 rfl (by rfl) ?_
      clear hws hcw
      refine ezw_aload_n rfl rfl ?_
      refine ezw_iconst (5) rfl rfl ?_
      refine ezw_aload_n rfl rfl ?_
      refine ezw_iconst (0) rfl rfl ?_
      refine ezw_bipush (10) rfl rfl ?_
      refine ezw_call0_2 rfl (by omega) (ezu_at rfl) rfl rfl rfl rfl (ezt_m57_1 hS (by omega) ⟨by decide, by decide⟩ ⟨by decide, by decide⟩ (by rw [nF7 1 2 (by decide), nF6 1 2 (by decide), nF2 1 2 (by decide)]; exact hn) hc tp hw st_7) ?_
      rintro _ _ ⟨F35, rfl, hS, nF35, u36, hu36, st_35, v_35, p35_2, rfl⟩
      refine ezw_call0_2 rfl (by omega) (ezu_at rfl) rfl rfl rfl rfl (ezt_m69_47 hS (by omega) ⟨by decide, by decide⟩ hu36 (by omega)) ?_
      rintro _ _ ⟨A37, rfl, hS, nA37, m_37, n_37, rfl⟩
      refine ezw_goto rfl rfl ?_
      refine ezw_aload_n rfl rfl ?_
      refine ezw_sipush (259) rfl rfl ?_
      refine ezw_call0_1 rfl (by omega) (ezu_at rfl) rfl rfl rfl rfl (ezt_m56_1 hS (by omega) ⟨by decide, by decide⟩ (by rw [nF35 1 2 (by decide), nF7 1 2 (by decide), nF6 1 2 (by decide), nF2 1 2 (by decide)]; exact hn) (by rw [nA37 2 (by decide)]; exact hc) tp (by rw [nA37 3 (by decide)]; exact hw) st_35) ?_
      rintro _ _ ⟨F38, rfl, hS, nF38, st_38, rfl⟩
      exact ezw_return rfl rfl ⟨F38, A37, rfl, hS, (fun p j h => by rw [nF38 p j (by omega), nF35 p j (by omega), nF7 p j (by omega), nF6 p j (by omega), nF2 p j (by omega)]), (fun p h => by
            funext j
            rw [nA37 p (by omega)]), (by
            rw [ezp_lne_1 hcz, ezp_lw_14 (w := ezp_K c s.2) (by omega)]
            exact st_38), (by
            rw [ezp_lne_1 hcz, ezp_lw_14 (w := ezp_K c s.2) (by omega)]
            exact (ezt_TR_fr trA (by rw [nF38 47 15 (by decide), nF35 47 15 (by decide), nF7 47 15 (by decide)]) (by rw [nF38 47 16 (by decide), nF35 47 16 (by decide), nF7 47 16 (by decide)]) (by rw [nF38 47 17 (by decide), nF35 47 17 (by decide), nF7 47 17 (by decide)]) (by rw [nF38 55 1 (by decide), nF35 55 1 (by decide), nF7 55 1 (by decide)]) (fun k k1 k2 => by rw [nA37 (47 + k) (by omega)]))), (by
            rw [ezp_lne_1 hcz, ezp_lw_14 (w := ezp_K c s.2) (by omega)]
            intro z
            have z2 := ezp_0w z
            exact ezt_NU_say (k := 5) nuA ((m_37 (by omega) (by omega)).trans (v_35 z2).1) n_37), (by
            rw [ezp_lne_1 hcz, ezp_lw_14 (w := ezp_K c s.2) (by omega)]
            intro z
            have z2 := ezp_0w z
            exact ezt_DI_eq diA rfl (by rw [nF38 4 2 (by decide), nF35 4 2 (by decide), nF7 4 2 (by decide)])), rfl⟩
    by_cases q39 : (F 1 3) = (15)
    · refine ezw_tableswitchE (v := 15) (p := 245) q39 rfl (by rfl) ?_
      clear hws hcw
      refine ezw_aload_n rfl rfl ?_
      refine ezw_bipush (6) rfl rfl ?_
      refine ezw_aload_n rfl rfl ?_
      refine ezw_iconst (0) rfl rfl ?_
      refine ezw_bipush (9) rfl rfl ?_
      refine ezw_call0_2 rfl (by omega) (ezu_at rfl) rfl rfl rfl rfl (ezt_m57_1 hS (by omega) ⟨by decide, by decide⟩ ⟨by decide, by decide⟩ (by rw [nF7 1 2 (by decide), nF6 1 2 (by decide), nF2 1 2 (by decide)]; exact hn) hc tp hw st_7) ?_
      rintro _ _ ⟨F40, rfl, hS, nF40, u41, hu41, st_40, v_40, p40_2, rfl⟩
      refine ezw_call0_2 rfl (by omega) (ezu_at rfl) rfl rfl rfl rfl (ezt_m69_47 hS (by omega) ⟨by decide, by decide⟩ hu41 (by omega)) ?_
      rintro _ _ ⟨A42, rfl, hS, nA42, m_42, n_42, rfl⟩
      refine ezw_goto rfl rfl ?_
      refine ezw_aload_n rfl rfl ?_
      refine ezw_sipush (259) rfl rfl ?_
      refine ezw_call0_1 rfl (by omega) (ezu_at rfl) rfl rfl rfl rfl (ezt_m56_1 hS (by omega) ⟨by decide, by decide⟩ (by rw [nF40 1 2 (by decide), nF7 1 2 (by decide), nF6 1 2 (by decide), nF2 1 2 (by decide)]; exact hn) (by rw [nA42 2 (by decide)]; exact hc) tp (by rw [nA42 3 (by decide)]; exact hw) st_40) ?_
      rintro _ _ ⟨F43, rfl, hS, nF43, st_43, rfl⟩
      exact ezw_return rfl rfl ⟨F43, A42, rfl, hS, (fun p j h => by rw [nF43 p j (by omega), nF40 p j (by omega), nF7 p j (by omega), nF6 p j (by omega), nF2 p j (by omega)]), (fun p h => by
            funext j
            rw [nA42 p (by omega)]), (by
            rw [ezp_lne_1 hcz, ezp_lw_15 (w := ezp_K c s.2) (by omega)]
            exact st_43), (by
            rw [ezp_lne_1 hcz, ezp_lw_15 (w := ezp_K c s.2) (by omega)]
            exact (ezt_TR_fr trA (by rw [nF43 47 15 (by decide), nF40 47 15 (by decide), nF7 47 15 (by decide)]) (by rw [nF43 47 16 (by decide), nF40 47 16 (by decide), nF7 47 16 (by decide)]) (by rw [nF43 47 17 (by decide), nF40 47 17 (by decide), nF7 47 17 (by decide)]) (by rw [nF43 55 1 (by decide), nF40 55 1 (by decide), nF7 55 1 (by decide)]) (fun k k1 k2 => by rw [nA42 (47 + k) (by omega)]))), (by
            rw [ezp_lne_1 hcz, ezp_lw_15 (w := ezp_K c s.2) (by omega)]
            intro z
            have z2 := ezp_0w z
            exact ezt_NU_say (k := 6) nuA ((m_42 (by omega) (by omega)).trans (v_40 z2).1) n_42), (by
            rw [ezp_lne_1 hcz, ezp_lw_15 (w := ezp_K c s.2) (by omega)]
            intro z
            have z2 := ezp_0w z
            exact ezt_DI_eq diA rfl (by rw [nF43 4 2 (by decide), nF40 4 2 (by decide), nF7 4 2 (by decide)])), rfl⟩
    by_cases q44 : (F 1 3) = (16)
    · refine ezw_tableswitchE (v := 16) (p := 192) q44 rfl (by rfl) ?_
      clear hws hcw
      refine ezw_aload_n rfl rfl ?_
      refine ezw_aload_n rfl rfl ?_
      refine ezw_call2_2 rfl (by omega) rfl rfl (ezt_m76_1_47 hS (by omega) (by rw [nF7 1 2 (by decide), nF6 1 2 (by decide), nF2 1 2 (by decide)]; exact hn) hc tp hw st_7 (ezt_TR_fr trA (by rw [nF7 47 15 (by decide)]) (by rw [nF7 47 16 (by decide)]) (by rw [nF7 47 17 (by decide)]) (by rw [nF7 55 1 (by decide)]) (fun _ _ _ => rfl)) (fun _ => nuA)) ?_
      rintro _ _ ⟨F45, A45, rfl, hS, nF45, nA45, st_45, tr_45, nu_45, rfl⟩
      refine ezw_goto rfl rfl ?_
      refine ezw_aload_n rfl rfl ?_
      refine ezw_sipush (259) rfl rfl ?_
      refine ezw_call0_1 rfl (by omega) (ezu_at rfl) rfl rfl rfl rfl (ezt_m56_1 hS (by omega) ⟨by decide, by decide⟩ (by rw [nF45 1 2 (by decide), nF7 1 2 (by decide), nF6 1 2 (by decide), nF2 1 2 (by decide)]; exact hn) (by rw [nA45 2 (by decide)]; exact hc) tp (by rw [nA45 3 (by decide)]; exact hw) st_45) ?_
      rintro _ _ ⟨F46, rfl, hS, nF46, st_46, rfl⟩
      exact ezw_return rfl rfl ⟨F46, A45, rfl, hS, (fun p j h => by rw [nF46 p j (by omega), nF45 p j (by omega), nF7 p j (by omega), nF6 p j (by omega), nF2 p j (by omega)]), (fun p h => by
            funext j
            rw [nA45 p (by omega)]), (by
            rw [ezp_lne_1 hcz, ezp_lw_16 (w := ezp_K c s.2) (by omega)]
            exact st_46), (by
            rw [ezp_lne_1 hcz, ezp_lw_16 (w := ezp_K c s.2) (by omega)]
            exact (ezt_TR_fr tr_45 (by rw [nF46 47 15 (by decide)]) (by rw [nF46 47 16 (by decide)]) (by rw [nF46 47 17 (by decide)]) (by rw [nF46 55 1 (by decide)]) (fun _ _ _ => rfl))), (by
            rw [ezp_lne_1 hcz, ezp_lw_16 (w := ezp_K c s.2) (by omega)]
            intro z
            have z2 := ezp_0w z
            exact nu_45 z2), (by
            rw [ezp_lne_1 hcz, ezp_lw_16 (w := ezp_K c s.2) (by omega)]
            intro z
            have z2 := ezp_0w z
            exact ezt_DI_eq diA rfl (by rw [nF46 4 2 (by decide), nF45 4 2 (by decide), nF7 4 2 (by decide)])), rfl⟩
    by_cases q47 : (F 1 3) = (17)
    · exact absurd q47 (by omega)
    by_cases q48 : (F 1 3) = (18)
    · refine ezw_tableswitchE (v := 18) (p := 261) q48 rfl (by rfl) ?_
      clear hws hcw
      refine ezw_aload_n rfl rfl ?_
      refine ezw_bipush (9) rfl rfl ?_
      refine ezw_aload_n rfl rfl ?_
      refine ezw_iconst (1) rfl rfl ?_
      refine ezw_bipush (99) rfl rfl ?_
      refine ezw_call0_2 rfl (by omega) (ezu_at rfl) rfl rfl rfl rfl (ezt_m57_1 hS (by omega) ⟨by decide, by decide⟩ ⟨by decide, by decide⟩ (by rw [nF7 1 2 (by decide), nF6 1 2 (by decide), nF2 1 2 (by decide)]; exact hn) hc tp hw st_7) ?_
      rintro _ _ ⟨F49, rfl, hS, nF49, u50, hu50, st_49, v_49, p49_2, rfl⟩
      refine ezw_call0_2 rfl (by omega) (ezu_at rfl) rfl rfl rfl rfl (ezt_m69_47 hS (by omega) ⟨by decide, by decide⟩ hu50 (by omega)) ?_
      rintro _ _ ⟨A51, rfl, hS, nA51, m_51, n_51, rfl⟩
      refine ezw_goto rfl rfl ?_
      refine ezw_aload_n rfl rfl ?_
      refine ezw_sipush (259) rfl rfl ?_
      refine ezw_call0_1 rfl (by omega) (ezu_at rfl) rfl rfl rfl rfl (ezt_m56_1 hS (by omega) ⟨by decide, by decide⟩ (by rw [nF49 1 2 (by decide), nF7 1 2 (by decide), nF6 1 2 (by decide), nF2 1 2 (by decide)]; exact hn) (by rw [nA51 2 (by decide)]; exact hc) tp (by rw [nA51 3 (by decide)]; exact hw) st_49) ?_
      rintro _ _ ⟨F52, rfl, hS, nF52, st_52, rfl⟩
      exact ezw_return rfl rfl ⟨F52, A51, rfl, hS, (fun p j h => by rw [nF52 p j (by omega), nF49 p j (by omega), nF7 p j (by omega), nF6 p j (by omega), nF2 p j (by omega)]), (fun p h => by
            funext j
            rw [nA51 p (by omega)]), (by
            rw [ezp_lne_1 hcz, ezp_lw_18 (w := ezp_K c s.2) (by omega)]
            exact st_52), (by
            rw [ezp_lne_1 hcz, ezp_lw_18 (w := ezp_K c s.2) (by omega)]
            exact (ezt_TR_fr trA (by rw [nF52 47 15 (by decide), nF49 47 15 (by decide), nF7 47 15 (by decide)]) (by rw [nF52 47 16 (by decide), nF49 47 16 (by decide), nF7 47 16 (by decide)]) (by rw [nF52 47 17 (by decide), nF49 47 17 (by decide), nF7 47 17 (by decide)]) (by rw [nF52 55 1 (by decide), nF49 55 1 (by decide), nF7 55 1 (by decide)]) (fun k k1 k2 => by rw [nA51 (47 + k) (by omega)]))), (by
            rw [ezp_lne_1 hcz, ezp_lw_18 (w := ezp_K c s.2) (by omega)]
            intro z
            have z2 := ezp_0w z
            exact ezt_NU_say (k := 9) nuA ((m_51 (by omega) (by omega)).trans (v_49 z2).1) n_51), (by
            rw [ezp_lne_1 hcz, ezp_lw_18 (w := ezp_K c s.2) (by omega)]
            intro z
            have z2 := ezp_0w z
            exact ezt_DI_eq diA rfl (by rw [nF52 4 2 (by decide), nF49 4 2 (by decide), nF7 4 2 (by decide)])), rfl⟩
    by_cases q53 : (F 1 3) = (19)
    · refine ezw_tableswitchE (v := 19) (p := 277) q53 rfl (by rfl) ?_
      clear hws hcw
      refine ezw_aload_n rfl rfl ?_
      refine ezw_bipush (10) rfl rfl ?_
      refine ezw_aload_n rfl rfl ?_
      refine ezw_iconst (1) rfl rfl ?_
      refine ezw_bipush (15) rfl rfl ?_
      refine ezw_call0_2 rfl (by omega) (ezu_at rfl) rfl rfl rfl rfl (ezt_m57_1 hS (by omega) ⟨by decide, by decide⟩ ⟨by decide, by decide⟩ (by rw [nF7 1 2 (by decide), nF6 1 2 (by decide), nF2 1 2 (by decide)]; exact hn) hc tp hw st_7) ?_
      rintro _ _ ⟨F54, rfl, hS, nF54, u55, hu55, st_54, v_54, p54_2, rfl⟩
      refine ezw_call0_2 rfl (by omega) (ezu_at rfl) rfl rfl rfl rfl (ezt_m69_47 hS (by omega) ⟨by decide, by decide⟩ hu55 (by omega)) ?_
      rintro _ _ ⟨A56, rfl, hS, nA56, m_56, n_56, rfl⟩
      refine ezw_aload_n rfl rfl ?_
      refine ezw_sipush (259) rfl rfl ?_
      refine ezw_call0_1 rfl (by omega) (ezu_at rfl) rfl rfl rfl rfl (ezt_m56_1 hS (by omega) ⟨by decide, by decide⟩ (by rw [nF54 1 2 (by decide), nF7 1 2 (by decide), nF6 1 2 (by decide), nF2 1 2 (by decide)]; exact hn) (by rw [nA56 2 (by decide)]; exact hc) tp (by rw [nA56 3 (by decide)]; exact hw) st_54) ?_
      rintro _ _ ⟨F57, rfl, hS, nF57, st_57, rfl⟩
      exact ezw_return rfl rfl ⟨F57, A56, rfl, hS, (fun p j h => by rw [nF57 p j (by omega), nF54 p j (by omega), nF7 p j (by omega), nF6 p j (by omega), nF2 p j (by omega)]), (fun p h => by
            funext j
            rw [nA56 p (by omega)]), (by
            rw [ezp_lne_1 hcz, ezp_lw_19 (w := ezp_K c s.2) (by omega)]
            exact st_57), (by
            rw [ezp_lne_1 hcz, ezp_lw_19 (w := ezp_K c s.2) (by omega)]
            exact (ezt_TR_fr trA (by rw [nF57 47 15 (by decide), nF54 47 15 (by decide), nF7 47 15 (by decide)]) (by rw [nF57 47 16 (by decide), nF54 47 16 (by decide), nF7 47 16 (by decide)]) (by rw [nF57 47 17 (by decide), nF54 47 17 (by decide), nF7 47 17 (by decide)]) (by rw [nF57 55 1 (by decide), nF54 55 1 (by decide), nF7 55 1 (by decide)]) (fun k k1 k2 => by rw [nA56 (47 + k) (by omega)]))), (by
            rw [ezp_lne_1 hcz, ezp_lw_19 (w := ezp_K c s.2) (by omega)]
            intro z
            have z2 := ezp_0w z
            exact ezt_NU_say (k := 10) nuA ((m_56 (by omega) (by omega)).trans (v_54 z2).1) n_56), (by
            rw [ezp_lne_1 hcz, ezp_lw_19 (w := ezp_K c s.2) (by omega)]
            intro z
            have z2 := ezp_0w z
            exact ezt_DI_eq diA rfl (by rw [nF57 4 2 (by decide), nF54 4 2 (by decide), nF7 4 2 (by decide)])), rfl⟩
    by_cases q58 : (F 1 3) = (20)
    · refine ezw_tableswitchE (v := 20) (p := 200) q58 rfl (by rfl) ?_
      clear hws hcw
      refine ezw_aload_n rfl rfl ?_
      refine ezw_aload_n rfl rfl ?_
      refine ezw_call2_2 rfl (by omega) rfl rfl (ezt_m77_1_47 hS (by omega) (by rw [nF7 1 2 (by decide), nF6 1 2 (by decide), nF2 1 2 (by decide)]; exact hn) hc tp hw st_7 (ezt_TR_fr trA (by rw [nF7 47 15 (by decide)]) (by rw [nF7 47 16 (by decide)]) (by rw [nF7 47 17 (by decide)]) (by rw [nF7 55 1 (by decide)]) (fun _ _ _ => rfl)) (hkE (by omega))) ?_
      rintro _ _ ⟨F59, A59, rfl, hS, nF59, nA59, st_59, tr_59, rfl⟩
      refine ezw_goto rfl rfl ?_
      refine ezw_aload_n rfl rfl ?_
      refine ezw_sipush (259) rfl rfl ?_
      refine ezw_call0_1 rfl (by omega) (ezu_at rfl) rfl rfl rfl rfl (ezt_m56_1 hS (by omega) ⟨by decide, by decide⟩ (by rw [nF59 1 2 (by decide), nF7 1 2 (by decide), nF6 1 2 (by decide), nF2 1 2 (by decide)]; exact hn) (by rw [nA59 2 (by decide)]; exact hc) tp (by rw [nA59 3 (by decide)]; exact hw) st_59) ?_
      rintro _ _ ⟨F60, rfl, hS, nF60, st_60, rfl⟩
      exact ezw_return rfl rfl ⟨F60, A59, rfl, hS, (fun p j h => by rw [nF60 p j (by omega), nF59 p j (by omega), nF7 p j (by omega), nF6 p j (by omega), nF2 p j (by omega)]), (fun p h => by
            funext j
            rw [nA59 p (by omega)]), (by
            rw [ezp_lne_1 hcz, ezp_lw_20 (w := ezp_K c s.2) (by omega)]
            exact st_60), (by
            rw [ezp_lne_1 hcz, ezp_lw_20 (w := ezp_K c s.2) (by omega)]
            exact (ezt_TR_fr tr_59 (by rw [nF60 47 15 (by decide)]) (by rw [nF60 47 16 (by decide)]) (by rw [nF60 47 17 (by decide)]) (by rw [nF60 55 1 (by decide)]) (fun _ _ _ => rfl))), (by
            rw [ezp_lne_1 hcz, ezp_lw_20 (w := ezp_K c s.2) (by omega)]
            intro z
            have z2 := ezp_0w z
            exact ezt_NU_eq nuA ezp_elD_nu.1 (by rw [nA59 61 (by decide)])), (by
            rw [ezp_lne_1 hcz, ezp_lw_20 (w := ezp_K c s.2) (by omega)]
            intro z
            have z2 := ezp_0w z
            exact ezt_DI_eq diA ezp_elD_nu.2 (by rw [nF60 4 2 (by decide), nF59 4 2 (by decide), nF7 4 2 (by decide)])), rfl⟩
    by_cases q61 : (F 1 3) = (21)
    · refine ezw_tableswitchE (v := 21) (p := 208) q61 rfl (by rfl) ?_
      clear hws hcw
      refine ezw_aload_n rfl rfl ?_
      refine ezs_getp (p := 5) rfl rfl rfl rfl rfl ?_
      refine ezw_aload_n rfl rfl ?_
      refine ezw_call0_1 rfl (by omega) (ezu_at rfl) rfl rfl rfl rfl (ezt_m80_5_1 hS (by omega) (by rw [nF7 1 2 (by decide), nF6 1 2 (by decide), nF2 1 2 (by decide)]; exact hn) hc tp hw st_7) ?_
      rintro _ _ ⟨F62, A62, rfl, hS, nF62, nA62, st_62, lw_62, to_62, rfl⟩
      refine ezw_goto rfl rfl ?_
      refine ezw_aload_n rfl rfl ?_
      refine ezw_sipush (259) rfl rfl ?_
      refine ezw_call0_1 rfl (by omega) (ezu_at rfl) rfl rfl rfl rfl (ezt_m56_1 hS (by omega) ⟨by decide, by decide⟩ (by rw [nF62 1 2 (by decide), nF7 1 2 (by decide), nF6 1 2 (by decide), nF2 1 2 (by decide)]; exact hn) (by rw [nA62 2 (by decide)]; exact hc) tp (by rw [nA62 3 (by decide)]; exact hw) st_62) ?_
      rintro _ _ ⟨F63, rfl, hS, nF63, st_63, rfl⟩
      exact ezw_return rfl rfl ⟨F63, A62, rfl, hS, (fun p j h => by rw [nF63 p j (by omega), nF62 p j (by omega), nF7 p j (by omega), nF6 p j (by omega), nF2 p j (by omega)]), (fun p h => by
            funext j
            rw [nA62 p (by omega)]), (by
            rw [ezp_lne_1 hcz, ezp_lw_21 (w := ezp_K c s.2) (by omega)]
            exact st_63), (by
            rw [ezp_lne_1 hcz, ezp_lw_21 (w := ezp_K c s.2) (by omega)]
            exact (ezt_TR_fr trA (by rw [nF63 47 15 (by decide), nF62 47 15 (by decide), nF7 47 15 (by decide)]) (by rw [nF63 47 16 (by decide), nF62 47 16 (by decide), nF7 47 16 (by decide)]) (by rw [nF63 47 17 (by decide), nF62 47 17 (by decide), nF7 47 17 (by decide)]) (by rw [nF63 55 1 (by decide), nF62 55 1 (by decide), nF7 55 1 (by decide)]) (fun k k1 k2 => by rw [nA62 (47 + k) (by omega)]))), (by
            rw [ezp_lne_1 hcz, ezp_lw_21 (w := ezp_K c s.2) (by omega)]
            intro z
            have z2 := ezp_0w z
            exact ezt_NU_eq nuA rfl (by rw [nA62 61 (by decide)])), (by
            rw [ezp_lne_1 hcz, ezp_lw_21 (w := ezp_K c s.2) (by omega)]
            intro z
            have z2 := ezp_0w z
            exact ezt_DI_eq diA rfl (by rw [nF63 4 2 (by decide), nF62 4 2 (by decide), nF7 4 2 (by decide)])), rfl⟩
    by_cases q64 : (F 1 3) = (22)
    · refine ezw_tableswitchE (v := 22) (p := 219) q64 rfl (by rfl) ?_
      clear hws hcw
      refine ezw_aload_n rfl rfl ?_
      refine ezs_getp (p := 9) rfl rfl rfl rfl rfl ?_
      refine ezw_aload_n rfl rfl ?_
      refine ezw_call0_1 rfl (by omega) (ezu_at rfl) rfl rfl rfl rfl (ezt_m80_9_1 hS (by omega) (by rw [nF7 1 2 (by decide), nF6 1 2 (by decide), nF2 1 2 (by decide)]; exact hn) hc tp hw st_7) ?_
      rintro _ _ ⟨F65, A65, rfl, hS, nF65, nA65, st_65, lw_65, to_65, rfl⟩
      refine ezw_goto rfl rfl ?_
      refine ezw_aload_n rfl rfl ?_
      refine ezw_sipush (259) rfl rfl ?_
      refine ezw_call0_1 rfl (by omega) (ezu_at rfl) rfl rfl rfl rfl (ezt_m56_1 hS (by omega) ⟨by decide, by decide⟩ (by rw [nF65 1 2 (by decide), nF7 1 2 (by decide), nF6 1 2 (by decide), nF2 1 2 (by decide)]; exact hn) (by rw [nA65 2 (by decide)]; exact hc) tp (by rw [nA65 3 (by decide)]; exact hw) st_65) ?_
      rintro _ _ ⟨F66, rfl, hS, nF66, st_66, rfl⟩
      exact ezw_return rfl rfl ⟨F66, A65, rfl, hS, (fun p j h => by rw [nF66 p j (by omega), nF65 p j (by omega), nF7 p j (by omega), nF6 p j (by omega), nF2 p j (by omega)]), (fun p h => by
            funext j
            rw [nA65 p (by omega)]), (by
            rw [ezp_lne_1 hcz, ezp_lw_22 (w := ezp_K c s.2) (by omega)]
            exact st_66), (by
            rw [ezp_lne_1 hcz, ezp_lw_22 (w := ezp_K c s.2) (by omega)]
            exact (ezt_TR_fr trA (by rw [nF66 47 15 (by decide), nF65 47 15 (by decide), nF7 47 15 (by decide)]) (by rw [nF66 47 16 (by decide), nF65 47 16 (by decide), nF7 47 16 (by decide)]) (by rw [nF66 47 17 (by decide), nF65 47 17 (by decide), nF7 47 17 (by decide)]) (by rw [nF66 55 1 (by decide), nF65 55 1 (by decide), nF7 55 1 (by decide)]) (fun k k1 k2 => by rw [nA65 (47 + k) (by omega)]))), (by
            rw [ezp_lne_1 hcz, ezp_lw_22 (w := ezp_K c s.2) (by omega)]
            intro z
            have z2 := ezp_0w z
            exact ezt_NU_eq nuA rfl (by rw [nA65 61 (by decide)])), (by
            rw [ezp_lne_1 hcz, ezp_lw_22 (w := ezp_K c s.2) (by omega)]
            intro z
            have z2 := ezp_0w z
            exact ezt_DI_eq diA rfl (by rw [nF66 4 2 (by decide), nF65 4 2 (by decide), nF7 4 2 (by decide)])), rfl⟩
    exact absurd hws (by omega)
  · exact ezw_return rfl rfl ⟨F2, A, rfl, hS, (fun p j h => by rw [nF2 p j (by omega)]), (fun _ _ => rfl), (by
          rw [ezp_lne_0 (fun h9 => p3_1 (by omega) (st_2.1.trans h9))]
          exact st_2), (by
          rw [ezp_lne_0 (fun h9 => p3_1 (by omega) (st_2.1.trans h9))]
          exact (ezt_TR_fr tr (by rw [nF2 47 15 (by decide)]) (by rw [nF2 47 16 (by decide)]) (by rw [nF2 47 17 (by decide)]) (by rw [nF2 55 1 (by decide)]) (fun _ _ _ => rfl))), (fun z => absurd z (by rw [ezp_lne_0 (fun h9 => p3_1 (by omega) (st_2.1.trans h9))]; exact (fun h9 => p3_1 (by omega) (st_2.1.trans h9)))), (fun z => absurd z (by rw [ezp_lne_0 (fun h9 => p3_1 (by omega) (st_2.1.trans h9))]; exact (fun h9 => p3_1 (by omega) (st_2.1.trans h9)))), rfl⟩
end KT
