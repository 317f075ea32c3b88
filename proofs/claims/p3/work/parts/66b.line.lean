/-! ===== the program: a line ===== -/
section KT
variable {l : Launch} {ρ : ezq_E} {B : Nat} {xa : Nat → Option Nat} {Hb : Heap} {D : va_G} {cA : Nat → ClassId} {d : Nat} {e : Bool × Bool}
def ezt_m47_4_1_30Q (e : Bool × Bool) (F : Nat → Nat → Int) (A : Nat → Int → Int) (c : Int → Int) (n : Int) (s : Int × Int) (t : ezp_D) : Option ezq_V → (Nat → ezq_C) → Prop := fun v g' => ∃ (F' : Nat → Nat → Int) (A' : Nat → Int → Int), ezu_g e F' A' = g' ∧ ezs_T F' A' ∧ (∀ p j, ¬ (p = 1 ∧ (j = 3 ∨ j = 4 ∨ j = 5 ∨ j = 6 ∨ j = 7 ∨ j = 8 ∨ j = 9) ∨ p = 4 ∧ (j = 2) ∨ p = 5 ∧ (j = 3 ∨ j = 4) ∨ p = 9 ∧ (j = 3 ∨ j = 4) ∨ p = 30 ∧ (j = 15 ∨ j = 16 ∨ j = 17) ∨ p = 38 ∧ (j = 1)) → F' p j = F p j) ∧ (∀ p, ¬ (p = 6 ∨ p = 10 ∨ p = 31 ∨ p = 32 ∨ p = 33 ∨ p = 34 ∨ p = 35 ∨ p = 36 ∨ p = 37 ∨ p = 39 ∨ p = 40 ∨ p = 41 ∨ p = 42 ∨ p = 43 ∨ p = 44) → A' p = A p) ∧ (ezt_ST c n ((ezp_lne c t s).1) F') ∧ (ezt_TR 30 ((ezp_lne c t s).2) F' A') ∧ ((ezp_lne c t s).1.1 = 0 → ezt_NU 30 (ezp_lne c t s).2 A') ∧ ((ezp_lne c t s).1.1 = 0 → ezt_DI (ezp_lne c t s).2 F') ∧ none = v
theorem ezt_m47_4_1_30 {c : Int → Int} {n : Int} {s : Int × Int} {t : ezp_D} {F : Nat → Nat → Int} {A : Nat → Int → Int} (hS : ezs_T F A) (hd : 42 ≤ d) (hn : F 1 2 = n) (hc : c = ezp_ch (A 2) n) (tp : ezp_tp c n) (hw : ∀ j, 0 ≤ j → j < 48 → A 3 j = ezl_cw.getD j.toNat 0) (st : ezt_ST c n s F) (tr : ezt_TR 30 t F A) (nu : s.1 = 0 → ezt_NU 30 t A) (di : ezt_DI t F) (z0 : s.1 = 0) : ezw_C l ρ B xa Hb D cA 47 d [ezw_p 4, ezw_p 1, ezw_p 30] (ezu_g e F A) (ezt_m47_4_1_30Q e F A c n s t) := by
  refine ezw_met (k := 1) rfl rfl ?_
  have hn0 := tp.1
  have hn1 := tp.2.1
  obtain ⟨sf, sk, sc, sb, sb2⟩ := id st
  have hP := ezp_Pr tp s.2
  have c3i : s.1 = 0 → F 1 3 = ezp_K c s.2 := fun z => (sc z).2.2.1
  have c8i : s.1 = 0 → F 1 8 = ezp_P c s.2 := fun z => (sc z).1
  have c4i : s.1 = 0 → ezp_K c s.2 = 101 → F 1 4 = ezp_V c s.2 := fun z => (sc z).2.2.2.1
  have c7i : s.1 = 0 → ezp_K c s.2 = 100 → F 1 7 = ezp_v 32 (ezp_W c s.2) ∧ F 1 5 = ezp_ix (ezp_W c s.2) - 44 := fun z => (sc z).2.2.2.2
  refine ezw_aload_n rfl rfl ?_
  refine ezy_get_i hS rfl rfl rfl rfl rfl rfl (fun u1 hu1 ku1 eu1 => ?_)
  replace eu1 := eu1.symm
  subst eu1
  refine ezw_istore_n rfl rfl ?_
  refine ezw_aload_n rfl rfl ?_
  refine ezw_aload_n rfl rfl ?_
  refine ezw_aload_n rfl rfl ?_
  refine ezw_iload_n rfl rfl ?_
  refine ezw_call0_3 rfl (by omega) (ezu_at rfl) rfl rfl rfl rfl (ezt_m48_4_1_30 hS (by omega) hu1 hn hc tp st tr di z0 (c3i z0)) ?_
  rintro _ _ ⟨F2, rfl, hS, nF2, st_2, rfl⟩
  refine ezw_aload_n rfl rfl ?_
  refine ezw_call0_0 rfl (by omega) (ezu_at rfl) rfl rfl rfl rfl (ezt_m45_1 hS (by omega)) ?_
  rintro _ _ ⟨rfl, u4, hu4, p3_0, p3_1, rfl⟩
  refine ezw_if_ne rfl rfl ⟨by omega, by omega⟩ (fun h16_4 => ?_) (fun h16_4 => ?_)
  · have hcz : (ezp_cf c t s).1 = 0 := st_2.1.symm.trans (p3_0 (by omega))
    obtain ⟨hcf, hcw⟩ := ezp_cf_0 hP.1 hcz
    obtain ⟨⟨w0, w1⟩, hws, hk8, hk4, hkE⟩ := ezp_cf_w hcw
    have k3 := c3i z0
    have stA : ezt_ST c n s F2 := by
      have h7 := st_2
      rw [hcf] at h7
      exact h7
    refine ezw_aload_n rfl rfl ?_
    refine ezw_dup rfl rfl ?_
    refine ezy_get_i hS rfl rfl rfl rfl rfl rfl (fun u5 hu5 ku5 eu5 => ?_)
    rw [nF2 4 2 (by decide)] at eu5
    replace eu5 := eu5.symm
    subst eu5
    refine ezw_iconst (1) rfl rfl ?_
    refine ezw_iload_n rfl rfl ?_
    refine ezw_ishl rfl (by omega) (by omega) (k := (1 * 2 ^ ((F 1 3)).toNat)) (rfl) ?_
    refine ezw_ior rfl (k := ezw_or (F 4 2) (1 * 2 ^ ((F 1 3)).toNat)) rfl ?_
    refine ezy_put_i hS rfl rfl rfl rfl rfl (by have h7 := ezt_or1 (v := F 4 2) (j := (F 1 3)) 23 (by decide) di.1.1 di.1.2 (by omega) (by omega); exact ⟨by omega, by omega⟩) (fun F6 hS mF6 nF6 => ?_)
    have trA : ezt_TR 30 (t.once (ezp_K c s.2)) F6 A := (ezt_TR_fr tr (by rw [nF6 30 15 (by decide), nF2 30 15 (by decide)]) (by rw [nF6 30 16 (by decide), nF2 30 16 (by decide)]) (by rw [nF6 30 17 (by decide), nF2 30 17 (by decide)]) (by rw [nF6 38 1 (by decide), nF2 38 1 (by decide)]) (fun _ _ _ => rfl))
    have diA : ezt_DI (t.once (ezp_K c s.2)) F6 := ezt_DI_once di w0 w1 (by rw [mF6, k3])
    have nuA : ezt_NU 30 (t.once (ezp_K c s.2)) A := nu z0
    refine ezw_aload_n rfl rfl ?_
    refine ezw_call0_0 rfl (by omega) (ezu_at rfl) rfl rfl rfl rfl (ezt_take hS (by omega) (by rw [nF6 1 2 (by decide), nF2 1 2 (by decide)]; exact hn) hc tp hw (ezt_ST_fr stA (fun j j0 j1 => by rw [nF6 1 j (by omega)]))) ?_
    rintro _ _ ⟨F7, rfl, hS, nF7, st_7, rfl⟩
    refine ezw_iload_n rfl rfl ?_
    by_cases q8 : (F 1 3) = (0)
    · refine ezw_tableswitchE (v := 0) (p := 144) q8 rfl (by rfl) ?_
      refine ezw_aload_n rfl rfl ?_
      refine ezw_aload_n rfl rfl ?_
      refine ezw_call2_2 rfl (by omega) rfl rfl (ezt_m51_1_30 hS (by omega) (by rw [nF7 1 2 (by decide), nF6 1 2 (by decide), nF2 1 2 (by decide)]; exact hn) hc tp hw st_7 (ezt_TR_fr trA (by rw [nF7 30 15 (by decide)]) (by rw [nF7 30 16 (by decide)]) (by rw [nF7 30 17 (by decide)]) (by rw [nF7 38 1 (by decide)]) (fun _ _ _ => rfl)) (hk8 (by omega))) ?_
      rintro _ _ ⟨F9, A9, rfl, hS, nF9, nA9, st_9, tr_9, rfl⟩
      refine ezw_goto rfl rfl ?_
      refine ezw_aload_n rfl rfl ?_
      refine ezw_sipush (259) rfl rfl ?_
      refine ezw_call0_1 rfl (by omega) (ezu_at rfl) rfl rfl rfl rfl (ezt_m56_1 hS (by omega) ⟨by decide, by decide⟩ (by rw [nF9 1 2 (by decide), nF7 1 2 (by decide), nF6 1 2 (by decide), nF2 1 2 (by decide)]; exact hn) (by rw [nA9 2 (by decide)]; exact hc) tp (by rw [nA9 3 (by decide)]; exact hw) st_9) ?_
      rintro _ _ ⟨F10, rfl, hS, nF10, st_10, rfl⟩
      exact ezw_return rfl rfl ⟨F10, A9, rfl, hS, (fun p j h => by rw [nF10 p j (by omega), nF9 p j (by omega), nF7 p j (by omega), nF6 p j (by omega), nF2 p j (by omega)]), (fun p h => by
            funext j
            rw [nA9 p (by omega)]), (by
            rw [ezp_lne_1 hcz, ezp_lw_0 (w := ezp_K c s.2) (by omega)]
            exact st_10), (by
            rw [ezp_lne_1 hcz, ezp_lw_0 (w := ezp_K c s.2) (by omega)]
            exact (ezt_TR_fr tr_9 (by rw [nF10 30 15 (by decide)]) (by rw [nF10 30 16 (by decide)]) (by rw [nF10 30 17 (by decide)]) (by rw [nF10 38 1 (by decide)]) (fun _ _ _ => rfl))), (by
            rw [ezp_lne_1 hcz, ezp_lw_0 (w := ezp_K c s.2) (by omega)]
            intro z
            have z2 := ezp_0w z
            exact ezt_NU_eq nuA ezp_twD_nu.1 (by rw [nA9 44 (by decide)])), (by
            rw [ezp_lne_1 hcz, ezp_lw_0 (w := ezp_K c s.2) (by omega)]
            intro z
            have z2 := ezp_0w z
            exact ezt_DI_eq diA ezp_twD_nu.2 (by rw [nF10 4 2 (by decide), nF9 4 2 (by decide), nF7 4 2 (by decide)])), rfl⟩
    by_cases q11 : (F 1 3) = (1)
    · refine ezw_tableswitchE (v := 1) (p := 277) q11 rfl (by rfl) ?_
      refine ezw_aload_n rfl rfl ?_
      refine ezw_bipush (10) rfl rfl ?_
      refine ezw_aload_n rfl rfl ?_
      refine ezw_iconst (1) rfl rfl ?_
      refine ezw_bipush (15) rfl rfl ?_
      refine ezw_call0_2 rfl (by omega) (ezu_at rfl) rfl rfl rfl rfl (ezt_m57_1 hS (by omega) ⟨by decide, by decide⟩ ⟨by decide, by decide⟩ (by rw [nF7 1 2 (by decide), nF6 1 2 (by decide), nF2 1 2 (by decide)]; exact hn) hc tp hw st_7) ?_
      rintro _ _ ⟨F12, rfl, hS, nF12, u13, hu13, st_12, v_12, p12_2, rfl⟩
      refine ezw_call0_2 rfl (by omega) (ezu_at rfl) rfl rfl rfl rfl (ezt_m69_30 hS (by omega) ⟨by decide, by decide⟩ hu13 (by omega)) ?_
      rintro _ _ ⟨A14, rfl, hS, nA14, m_14, n_14, rfl⟩
      refine ezw_aload_n rfl rfl ?_
      refine ezw_sipush (259) rfl rfl ?_
      refine ezw_call0_1 rfl (by omega) (ezu_at rfl) rfl rfl rfl rfl (ezt_m56_1 hS (by omega) ⟨by decide, by decide⟩ (by rw [nF12 1 2 (by decide), nF7 1 2 (by decide), nF6 1 2 (by decide), nF2 1 2 (by decide)]; exact hn) (by rw [nA14 2 (by decide)]; exact hc) tp (by rw [nA14 3 (by decide)]; exact hw) st_12) ?_
      rintro _ _ ⟨F15, rfl, hS, nF15, st_15, rfl⟩
      exact ezw_return rfl rfl ⟨F15, A14, rfl, hS, (fun p j h => by rw [nF15 p j (by omega), nF12 p j (by omega), nF7 p j (by omega), nF6 p j (by omega), nF2 p j (by omega)]), (fun p h => by
            funext j
            rw [nA14 p (by omega)]), (by
            rw [ezp_lne_1 hcz, ezp_lw_19 (w := ezp_K c s.2) (by omega)]
            exact st_15), (by
            rw [ezp_lne_1 hcz, ezp_lw_19 (w := ezp_K c s.2) (by omega)]
            exact (ezt_TR_fr trA (by rw [nF15 30 15 (by decide), nF12 30 15 (by decide), nF7 30 15 (by decide)]) (by rw [nF15 30 16 (by decide), nF12 30 16 (by decide), nF7 30 16 (by decide)]) (by rw [nF15 30 17 (by decide), nF12 30 17 (by decide), nF7 30 17 (by decide)]) (by rw [nF15 38 1 (by decide), nF12 38 1 (by decide), nF7 38 1 (by decide)]) (fun k k1 k2 => by rw [nA14 (30 + k) (by omega)]))), (by
            rw [ezp_lne_1 hcz, ezp_lw_19 (w := ezp_K c s.2) (by omega)]
            intro z
            have z2 := ezp_0w z
            exact ezt_NU_say (k := 10) nuA ((m_14 (by omega) (by omega)).trans (v_12 z2).1) n_14), (by
            rw [ezp_lne_1 hcz, ezp_lw_19 (w := ezp_K c s.2) (by omega)]
            intro z
            have z2 := ezp_0w z
            exact ezt_DI_eq diA rfl (by rw [nF15 4 2 (by decide), nF12 4 2 (by decide), nF7 4 2 (by decide)])), rfl⟩
    by_cases q16 : (F 1 3) = (2)
    · refine ezw_tableswitchE (v := 2) (p := 277) q16 rfl (by rfl) ?_
      refine ezw_aload_n rfl rfl ?_
      refine ezw_bipush (10) rfl rfl ?_
      refine ezw_aload_n rfl rfl ?_
      refine ezw_iconst (1) rfl rfl ?_
      refine ezw_bipush (15) rfl rfl ?_
      refine ezw_call0_2 rfl (by omega) (ezu_at rfl) rfl rfl rfl rfl (ezt_m57_1 hS (by omega) ⟨by decide, by decide⟩ ⟨by decide, by decide⟩ (by rw [nF7 1 2 (by decide), nF6 1 2 (by decide), nF2 1 2 (by decide)]; exact hn) hc tp hw st_7) ?_
      rintro _ _ ⟨F17, rfl, hS, nF17, u18, hu18, st_17, v_17, p17_2, rfl⟩
      refine ezw_call0_2 rfl (by omega) (ezu_at rfl) rfl rfl rfl rfl (ezt_m69_30 hS (by omega) ⟨by decide, by decide⟩ hu18 (by omega)) ?_
      rintro _ _ ⟨A19, rfl, hS, nA19, m_19, n_19, rfl⟩
      refine ezw_aload_n rfl rfl ?_
      refine ezw_sipush (259) rfl rfl ?_
      refine ezw_call0_1 rfl (by omega) (ezu_at rfl) rfl rfl rfl rfl (ezt_m56_1 hS (by omega) ⟨by decide, by decide⟩ (by rw [nF17 1 2 (by decide), nF7 1 2 (by decide), nF6 1 2 (by decide), nF2 1 2 (by decide)]; exact hn) (by rw [nA19 2 (by decide)]; exact hc) tp (by rw [nA19 3 (by decide)]; exact hw) st_17) ?_
      rintro _ _ ⟨F20, rfl, hS, nF20, st_20, rfl⟩
      exact ezw_return rfl rfl ⟨F20, A19, rfl, hS, (fun p j h => by rw [nF20 p j (by omega), nF17 p j (by omega), nF7 p j (by omega), nF6 p j (by omega), nF2 p j (by omega)]), (fun p h => by
            funext j
            rw [nA19 p (by omega)]), (by
            rw [ezp_lne_1 hcz, ezp_lw_19 (w := ezp_K c s.2) (by omega)]
            exact st_20), (by
            rw [ezp_lne_1 hcz, ezp_lw_19 (w := ezp_K c s.2) (by omega)]
            exact (ezt_TR_fr trA (by rw [nF20 30 15 (by decide), nF17 30 15 (by decide), nF7 30 15 (by decide)]) (by rw [nF20 30 16 (by decide), nF17 30 16 (by decide), nF7 30 16 (by decide)]) (by rw [nF20 30 17 (by decide), nF17 30 17 (by decide), nF7 30 17 (by decide)]) (by rw [nF20 38 1 (by decide), nF17 38 1 (by decide), nF7 38 1 (by decide)]) (fun k k1 k2 => by rw [nA19 (30 + k) (by omega)]))), (by
            rw [ezp_lne_1 hcz, ezp_lw_19 (w := ezp_K c s.2) (by omega)]
            intro z
            have z2 := ezp_0w z
            exact ezt_NU_say (k := 10) nuA ((m_19 (by omega) (by omega)).trans (v_17 z2).1) n_19), (by
            rw [ezp_lne_1 hcz, ezp_lw_19 (w := ezp_K c s.2) (by omega)]
            intro z
            have z2 := ezp_0w z
            exact ezt_DI_eq diA rfl (by rw [nF20 4 2 (by decide), nF17 4 2 (by decide), nF7 4 2 (by decide)])), rfl⟩
    by_cases q21 : (F 1 3) = (3)
    · refine ezw_tableswitchE (v := 3) (p := 277) q21 rfl (by rfl) ?_
      refine ezw_aload_n rfl rfl ?_
      refine ezw_bipush (10) rfl rfl ?_
      refine ezw_aload_n rfl rfl ?_
      refine ezw_iconst (1) rfl rfl ?_
      refine ezw_bipush (15) rfl rfl ?_
      refine ezw_call0_2 rfl (by omega) (ezu_at rfl) rfl rfl rfl rfl (ezt_m57_1 hS (by omega) ⟨by decide, by decide⟩ ⟨by decide, by decide⟩ (by rw [nF7 1 2 (by decide), nF6 1 2 (by decide), nF2 1 2 (by decide)]; exact hn) hc tp hw st_7) ?_
      rintro _ _ ⟨F22, rfl, hS, nF22, u23, hu23, st_22, v_22, p22_2, rfl⟩
      refine ezw_call0_2 rfl (by omega) (ezu_at rfl) rfl rfl rfl rfl (ezt_m69_30 hS (by omega) ⟨by decide, by decide⟩ hu23 (by omega)) ?_
      rintro _ _ ⟨A24, rfl, hS, nA24, m_24, n_24, rfl⟩
      refine ezw_aload_n rfl rfl ?_
      refine ezw_sipush (259) rfl rfl ?_
      refine ezw_call0_1 rfl (by omega) (ezu_at rfl) rfl rfl rfl rfl (ezt_m56_1 hS (by omega) ⟨by decide, by decide⟩ (by rw [nF22 1 2 (by decide), nF7 1 2 (by decide), nF6 1 2 (by decide), nF2 1 2 (by decide)]; exact hn) (by rw [nA24 2 (by decide)]; exact hc) tp (by rw [nA24 3 (by decide)]; exact hw) st_22) ?_
      rintro _ _ ⟨F25, rfl, hS, nF25, st_25, rfl⟩
      exact ezw_return rfl rfl ⟨F25, A24, rfl, hS, (fun p j h => by rw [nF25 p j (by omega), nF22 p j (by omega), nF7 p j (by omega), nF6 p j (by omega), nF2 p j (by omega)]), (fun p h => by
            funext j
            rw [nA24 p (by omega)]), (by
            rw [ezp_lne_1 hcz, ezp_lw_19 (w := ezp_K c s.2) (by omega)]
            exact st_25), (by
            rw [ezp_lne_1 hcz, ezp_lw_19 (w := ezp_K c s.2) (by omega)]
            exact (ezt_TR_fr trA (by rw [nF25 30 15 (by decide), nF22 30 15 (by decide), nF7 30 15 (by decide)]) (by rw [nF25 30 16 (by decide), nF22 30 16 (by decide), nF7 30 16 (by decide)]) (by rw [nF25 30 17 (by decide), nF22 30 17 (by decide), nF7 30 17 (by decide)]) (by rw [nF25 38 1 (by decide), nF22 38 1 (by decide), nF7 38 1 (by decide)]) (fun k k1 k2 => by rw [nA24 (30 + k) (by omega)]))), (by
            rw [ezp_lne_1 hcz, ezp_lw_19 (w := ezp_K c s.2) (by omega)]
            intro z
            have z2 := ezp_0w z
            exact ezt_NU_say (k := 10) nuA ((m_24 (by omega) (by omega)).trans (v_22 z2).1) n_24), (by
            rw [ezp_lne_1 hcz, ezp_lw_19 (w := ezp_K c s.2) (by omega)]
            intro z
            have z2 := ezp_0w z
            exact ezt_DI_eq diA rfl (by rw [nF25 4 2 (by decide), nF22 4 2 (by decide), nF7 4 2 (by decide)])), rfl⟩
    by_cases q26 : (F 1 3) = (4)
    · refine ezw_tableswitchE (v := 4) (p := 277) q26 rfl (by rfl) ?_
      refine ezw_aload_n rfl rfl ?_
      refine ezw_bipush (10) rfl rfl ?_
      refine ezw_aload_n rfl rfl ?_
      refine ezw_iconst (1) rfl rfl ?_
      refine ezw_bipush (15) rfl rfl ?_
      refine ezw_call0_2 rfl (by omega) (ezu_at rfl) rfl rfl rfl rfl (ezt_m57_1 hS (by omega) ⟨by decide, by decide⟩ ⟨by decide, by decide⟩ (by rw [nF7 1 2 (by decide), nF6 1 2 (by decide), nF2 1 2 (by decide)]; exact hn) hc tp hw st_7) ?_
      rintro _ _ ⟨F27, rfl, hS, nF27, u28, hu28, st_27, v_27, p27_2, rfl⟩
      refine ezw_call0_2 rfl (by omega) (ezu_at rfl) rfl rfl rfl rfl (ezt_m69_30 hS (by omega) ⟨by decide, by decide⟩ hu28 (by omega)) ?_
      rintro _ _ ⟨A29, rfl, hS, nA29, m_29, n_29, rfl⟩
      refine ezw_aload_n rfl rfl ?_
      refine ezw_sipush (259) rfl rfl ?_
      refine ezw_call0_1 rfl (by omega) (ezu_at rfl) rfl rfl rfl rfl (ezt_m56_1 hS (by omega) ⟨by decide, by decide⟩ (by rw [nF27 1 2 (by decide), nF7 1 2 (by decide), nF6 1 2 (by decide), nF2 1 2 (by decide)]; exact hn) (by rw [nA29 2 (by decide)]; exact hc) tp (by rw [nA29 3 (by decide)]; exact hw) st_27) ?_
      rintro _ _ ⟨F30, rfl, hS, nF30, st_30, rfl⟩
      exact ezw_return rfl rfl ⟨F30, A29, rfl, hS, (fun p j h => by rw [nF30 p j (by omega), nF27 p j (by omega), nF7 p j (by omega), nF6 p j (by omega), nF2 p j (by omega)]), (fun p h => by
            funext j
            rw [nA29 p (by omega)]), (by
            rw [ezp_lne_1 hcz, ezp_lw_19 (w := ezp_K c s.2) (by omega)]
            exact st_30), (by
            rw [ezp_lne_1 hcz, ezp_lw_19 (w := ezp_K c s.2) (by omega)]
            exact (ezt_TR_fr trA (by rw [nF30 30 15 (by decide), nF27 30 15 (by decide), nF7 30 15 (by decide)]) (by rw [nF30 30 16 (by decide), nF27 30 16 (by decide), nF7 30 16 (by decide)]) (by rw [nF30 30 17 (by decide), nF27 30 17 (by decide), nF7 30 17 (by decide)]) (by rw [nF30 38 1 (by decide), nF27 38 1 (by decide), nF7 38 1 (by decide)]) (fun k k1 k2 => by rw [nA29 (30 + k) (by omega)]))), (by
            rw [ezp_lne_1 hcz, ezp_lw_19 (w := ezp_K c s.2) (by omega)]
            intro z
            have z2 := ezp_0w z
            exact ezt_NU_say (k := 10) nuA ((m_29 (by omega) (by omega)).trans (v_27 z2).1) n_29), (by
            rw [ezp_lne_1 hcz, ezp_lw_19 (w := ezp_K c s.2) (by omega)]
            intro z
            have z2 := ezp_0w z
            exact ezt_DI_eq diA rfl (by rw [nF30 4 2 (by decide), nF27 4 2 (by decide), nF7 4 2 (by decide)])), rfl⟩
    by_cases q31 : (F 1 3) = (5)
    · refine ezw_tableswitchE (v := 5) (p := 152) q31 rfl (by rfl) ?_
      refine ezw_aload_n rfl rfl ?_
      refine ezw_aload_n rfl rfl ?_
      refine ezw_call2_2 rfl (by omega) rfl rfl (ezt_m65_1_30 hS (by omega) (by rw [nF7 1 2 (by decide), nF6 1 2 (by decide), nF2 1 2 (by decide)]; exact hn) hc tp hw st_7 (ezt_TR_fr trA (by rw [nF7 30 15 (by decide)]) (by rw [nF7 30 16 (by decide)]) (by rw [nF7 30 17 (by decide)]) (by rw [nF7 38 1 (by decide)]) (fun _ _ _ => rfl))) ?_
      rintro _ _ ⟨F32, A32, rfl, hS, nF32, nA32, st_32, tr_32, ns_32, rfl⟩
      refine ezw_goto rfl rfl ?_
      refine ezw_aload_n rfl rfl ?_
      refine ezw_sipush (259) rfl rfl ?_
      refine ezw_call0_1 rfl (by omega) (ezu_at rfl) rfl rfl rfl rfl (ezt_m56_1 hS (by omega) ⟨by decide, by decide⟩ (by rw [nF32 1 2 (by decide), nF7 1 2 (by decide), nF6 1 2 (by decide), nF2 1 2 (by decide)]; exact hn) (by rw [nA32 2 (by decide)]; exact hc) tp (by rw [nA32 3 (by decide)]; exact hw) (ezt_ST_fr st_7 (fun j j0 j1 => by rw [nF32 1 j (by omega)]))) ?_
      rintro _ _ ⟨F33, rfl, hS, nF33, st_33, rfl⟩
      exact ezw_return rfl rfl ⟨F33, A32, rfl, hS, (fun p j h => by rw [nF33 p j (by omega), nF32 p j (by omega), nF7 p j (by omega), nF6 p j (by omega), nF2 p j (by omega)]), (fun p h => by
            funext j
            rw [nA32 p (by omega)]), (by
            rw [ezp_lne_1 hcz, ezp_lw_5 (w := ezp_K c s.2) (by omega)]
            exact st_33), (by
            rw [ezp_lne_1 hcz, ezp_lw_5 (w := ezp_K c s.2) (by omega)]
            exact (ezt_TR_fr tr_32 (by rw [nF33 30 15 (by decide)]) (by rw [nF33 30 16 (by decide)]) (by rw [nF33 30 17 (by decide)]) (by rw [nF33 38 1 (by decide)]) (fun _ _ _ => rfl))), (by
            rw [ezp_lne_1 hcz, ezp_lw_5 (w := ezp_K c s.2) (by omega)]
            intro z
            have z2 := ezp_0w z
            exact ezt_NU_eq nuA ns_32.1 (by rw [nA32 44 (by decide)])), (by
            rw [ezp_lne_1 hcz, ezp_lw_5 (w := ezp_K c s.2) (by omega)]
            intro z
            have z2 := ezp_0w z
            exact ezt_DI_eq diA ns_32.2 (by rw [nF33 4 2 (by decide), nF32 4 2 (by decide), nF7 4 2 (by decide)])), rfl⟩
    by_cases q34 : (F 1 3) = (6)
    · refine ezw_tableswitchE (v := 6) (p := 160) q34 rfl (by rfl) ?_
      refine ezw_aload_n rfl rfl ?_
      refine ezw_aload_n rfl rfl ?_
      refine ezw_call2_2 rfl (by omega) rfl rfl (ezt_m68_1_30 hS (by omega) (by rw [nF7 1 2 (by decide), nF6 1 2 (by decide), nF2 1 2 (by decide)]; exact hn) hc tp hw st_7 (ezt_TR_fr trA (by rw [nF7 30 15 (by decide)]) (by rw [nF7 30 16 (by decide)]) (by rw [nF7 30 17 (by decide)]) (by rw [nF7 38 1 (by decide)]) (fun _ _ _ => rfl)) (fun _ => nuA)) ?_
      rintro _ _ ⟨F35, A35, rfl, hS, nF35, nA35, st_35, tr_35, nu_35, rfl⟩
      refine ezw_goto rfl rfl ?_
      refine ezw_aload_n rfl rfl ?_
      refine ezw_sipush (259) rfl rfl ?_
      refine ezw_call0_1 rfl (by omega) (ezu_at rfl) rfl rfl rfl rfl (ezt_m56_1 hS (by omega) ⟨by decide, by decide⟩ (by rw [nF35 1 2 (by decide), nF7 1 2 (by decide), nF6 1 2 (by decide), nF2 1 2 (by decide)]; exact hn) (by rw [nA35 2 (by decide)]; exact hc) tp (by rw [nA35 3 (by decide)]; exact hw) (ezt_ST_fr st_7 (fun j j0 j1 => by rw [nF35 1 j (by omega)]))) ?_
      rintro _ _ ⟨F36, rfl, hS, nF36, st_36, rfl⟩
      exact ezw_return rfl rfl ⟨F36, A35, rfl, hS, (fun p j h => by rw [nF36 p j (by omega), nF35 p j (by omega), nF7 p j (by omega), nF6 p j (by omega), nF2 p j (by omega)]), (fun p h => by
            funext j
            rw [nA35 p (by omega)]), (by
            rw [ezp_lne_1 hcz, ezp_lw_6 (w := ezp_K c s.2) (by omega)]
            exact st_36), (by
            rw [ezp_lne_1 hcz, ezp_lw_6 (w := ezp_K c s.2) (by omega)]
            exact (ezt_TR_fr tr_35 (by rw [nF36 30 15 (by decide)]) (by rw [nF36 30 16 (by decide)]) (by rw [nF36 30 17 (by decide)]) (by rw [nF36 38 1 (by decide)]) (fun _ _ _ => rfl))), (by
            rw [ezp_lne_1 hcz, ezp_lw_6 (w := ezp_K c s.2) (by omega)]
            intro z
            have z2 := ezp_0w z
            exact nu_35 z2), (by
            rw [ezp_lne_1 hcz, ezp_lw_6 (w := ezp_K c s.2) (by omega)]
            intro z
            have z2 := ezp_0w z
            exact ezt_DI_eq diA rfl (by rw [nF36 4 2 (by decide), nF35 4 2 (by decide), nF7 4 2 (by decide)])), rfl⟩
    by_cases q37 : (F 1 3) = (7)
    · refine ezw_tableswitchE (v := 7) (p := 277) q37 rfl (by rfl) ?_
      refine ezw_aload_n rfl rfl ?_
      refine ezw_bipush (10) rfl rfl ?_
      refine ezw_aload_n rfl rfl ?_
      refine ezw_iconst (1) rfl rfl ?_
      refine ezw_bipush (15) rfl rfl ?_
      refine ezw_call0_2 rfl (by omega) (ezu_at rfl) rfl rfl rfl rfl (ezt_m57_1 hS (by omega) ⟨by decide, by decide⟩ ⟨by decide, by decide⟩ (by rw [nF7 1 2 (by decide), nF6 1 2 (by decide), nF2 1 2 (by decide)]; exact hn) hc tp hw st_7) ?_
      rintro _ _ ⟨F38, rfl, hS, nF38, u39, hu39, st_38, v_38, p38_2, rfl⟩
      refine ezw_call0_2 rfl (by omega) (ezu_at rfl) rfl rfl rfl rfl (ezt_m69_30 hS (by omega) ⟨by decide, by decide⟩ hu39 (by omega)) ?_
      rintro _ _ ⟨A40, rfl, hS, nA40, m_40, n_40, rfl⟩
      refine ezw_aload_n rfl rfl ?_
      refine ezw_sipush (259) rfl rfl ?_
      refine ezw_call0_1 rfl (by omega) (ezu_at rfl) rfl rfl rfl rfl (ezt_m56_1 hS (by omega) ⟨by decide, by decide⟩ (by rw [nF38 1 2 (by decide), nF7 1 2 (by decide), nF6 1 2 (by decide), nF2 1 2 (by decide)]; exact hn) (by rw [nA40 2 (by decide)]; exact hc) tp (by rw [nA40 3 (by decide)]; exact hw) st_38) ?_
      rintro _ _ ⟨F41, rfl, hS, nF41, st_41, rfl⟩
      exact ezw_return rfl rfl ⟨F41, A40, rfl, hS, (fun p j h => by rw [nF41 p j (by omega), nF38 p j (by omega), nF7 p j (by omega), nF6 p j (by omega), nF2 p j (by omega)]), (fun p h => by
            funext j
            rw [nA40 p (by omega)]), (by
            rw [ezp_lne_1 hcz, ezp_lw_19 (w := ezp_K c s.2) (by omega)]
            exact st_41), (by
            rw [ezp_lne_1 hcz, ezp_lw_19 (w := ezp_K c s.2) (by omega)]
            exact (ezt_TR_fr trA (by rw [nF41 30 15 (by decide), nF38 30 15 (by decide), nF7 30 15 (by decide)]) (by rw [nF41 30 16 (by decide), nF38 30 16 (by decide), nF7 30 16 (by decide)]) (by rw [nF41 30 17 (by decide), nF38 30 17 (by decide), nF7 30 17 (by decide)]) (by rw [nF41 38 1 (by decide), nF38 38 1 (by decide), nF7 38 1 (by decide)]) (fun k k1 k2 => by rw [nA40 (30 + k) (by omega)]))), (by
            rw [ezp_lne_1 hcz, ezp_lw_19 (w := ezp_K c s.2) (by omega)]
            intro z
            have z2 := ezp_0w z
            exact ezt_NU_say (k := 10) nuA ((m_40 (by omega) (by omega)).trans (v_38 z2).1) n_40), (by
            rw [ezp_lne_1 hcz, ezp_lw_19 (w := ezp_K c s.2) (by omega)]
            intro z
            have z2 := ezp_0w z
            exact ezt_DI_eq diA rfl (by rw [nF41 4 2 (by decide), nF38 4 2 (by decide), nF7 4 2 (by decide)])), rfl⟩
    by_cases q42 : (F 1 3) = (8)
    · refine ezw_tableswitchE (v := 8) (p := 277) q42 rfl (by rfl) ?_
      refine ezw_aload_n rfl rfl ?_
      refine ezw_bipush (10) rfl rfl ?_
      refine ezw_aload_n rfl rfl ?_
      refine ezw_iconst (1) rfl rfl ?_
      refine ezw_bipush (15) rfl rfl ?_
      refine ezw_call0_2 rfl (by omega) (ezu_at rfl) rfl rfl rfl rfl (ezt_m57_1 hS (by omega) ⟨by decide, by decide⟩ ⟨by decide, by decide⟩ (by rw [nF7 1 2 (by decide), nF6 1 2 (by decide), nF2 1 2 (by decide)]; exact hn) hc tp hw st_7) ?_
      rintro _ _ ⟨F43, rfl, hS, nF43, u44, hu44, st_43, v_43, p43_2, rfl⟩
      refine ezw_call0_2 rfl (by omega) (ezu_at rfl) rfl rfl rfl rfl (ezt_m69_30 hS (by omega) ⟨by decide, by decide⟩ hu44 (by omega)) ?_
      rintro _ _ ⟨A45, rfl, hS, nA45, m_45, n_45, rfl⟩
      refine ezw_aload_n rfl rfl ?_
      refine ezw_sipush (259) rfl rfl ?_
      refine ezw_call0_1 rfl (by omega) (ezu_at rfl) rfl rfl rfl rfl (ezt_m56_1 hS (by omega) ⟨by decide, by decide⟩ (by rw [nF43 1 2 (by decide), nF7 1 2 (by decide), nF6 1 2 (by decide), nF2 1 2 (by decide)]; exact hn) (by rw [nA45 2 (by decide)]; exact hc) tp (by rw [nA45 3 (by decide)]; exact hw) st_43) ?_
      rintro _ _ ⟨F46, rfl, hS, nF46, st_46, rfl⟩
      exact ezw_return rfl rfl ⟨F46, A45, rfl, hS, (fun p j h => by rw [nF46 p j (by omega), nF43 p j (by omega), nF7 p j (by omega), nF6 p j (by omega), nF2 p j (by omega)]), (fun p h => by
            funext j
            rw [nA45 p (by omega)]), (by
            rw [ezp_lne_1 hcz, ezp_lw_19 (w := ezp_K c s.2) (by omega)]
            exact st_46), (by
            rw [ezp_lne_1 hcz, ezp_lw_19 (w := ezp_K c s.2) (by omega)]
            exact (ezt_TR_fr trA (by rw [nF46 30 15 (by decide), nF43 30 15 (by decide), nF7 30 15 (by decide)]) (by rw [nF46 30 16 (by decide), nF43 30 16 (by decide), nF7 30 16 (by decide)]) (by rw [nF46 30 17 (by decide), nF43 30 17 (by decide), nF7 30 17 (by decide)]) (by rw [nF46 38 1 (by decide), nF43 38 1 (by decide), nF7 38 1 (by decide)]) (fun k k1 k2 => by rw [nA45 (30 + k) (by omega)]))), (by
            rw [ezp_lne_1 hcz, ezp_lw_19 (w := ezp_K c s.2) (by omega)]
            intro z
            have z2 := ezp_0w z
            exact ezt_NU_say (k := 10) nuA ((m_45 (by omega) (by omega)).trans (v_43 z2).1) n_45), (by
            rw [ezp_lne_1 hcz, ezp_lw_19 (w := ezp_K c s.2) (by omega)]
            intro z
            have z2 := ezp_0w z
            exact ezt_DI_eq diA rfl (by rw [nF46 4 2 (by decide), nF43 4 2 (by decide), nF7 4 2 (by decide)])), rfl⟩
    by_cases q47 : (F 1 3) = (9)
    · refine ezw_tableswitchE (v := 9) (p := 168) q47 rfl (by rfl) ?_
      refine ezw_aload_n rfl rfl ?_
      refine ezw_aload_n rfl rfl ?_
      refine ezw_call2_2 rfl (by omega) rfl rfl (ezt_m70_1_30 hS (by omega) (by rw [nF7 1 2 (by decide), nF6 1 2 (by decide), nF2 1 2 (by decide)]; exact hn) hc tp hw st_7 (ezt_TR_fr trA (by rw [nF7 30 15 (by decide)]) (by rw [nF7 30 16 (by decide)]) (by rw [nF7 30 17 (by decide)]) (by rw [nF7 38 1 (by decide)]) (fun _ _ _ => rfl)) (hk4 (by omega))) ?_
      rintro _ _ ⟨F48, A48, rfl, hS, nF48, nA48, st_48, tr_48, rfl⟩
      refine ezw_goto rfl rfl ?_
      refine ezw_aload_n rfl rfl ?_
      refine ezw_sipush (259) rfl rfl ?_
      refine ezw_call0_1 rfl (by omega) (ezu_at rfl) rfl rfl rfl rfl (ezt_m56_1 hS (by omega) ⟨by decide, by decide⟩ (by rw [nF48 1 2 (by decide), nF7 1 2 (by decide), nF6 1 2 (by decide), nF2 1 2 (by decide)]; exact hn) (by rw [nA48 2 (by decide)]; exact hc) tp (by rw [nA48 3 (by decide)]; exact hw) (ezt_ST_fr st_7 (fun j j0 j1 => by rw [nF48 1 j (by omega)]))) ?_
      rintro _ _ ⟨F49, rfl, hS, nF49, st_49, rfl⟩
      exact ezw_return rfl rfl ⟨F49, A48, rfl, hS, (fun p j h => by rw [nF49 p j (by omega), nF48 p j (by omega), nF7 p j (by omega), nF6 p j (by omega), nF2 p j (by omega)]), (fun p h => by
            funext j
            rw [nA48 p (by omega)]), (by
            rw [ezp_lne_1 hcz, ezp_lw_9 (w := ezp_K c s.2) (by omega)]
            exact st_49), (by
            rw [ezp_lne_1 hcz, ezp_lw_9 (w := ezp_K c s.2) (by omega)]
            exact (ezt_TR_fr tr_48 (by rw [nF49 30 15 (by decide)]) (by rw [nF49 30 16 (by decide)]) (by rw [nF49 30 17 (by decide)]) (by rw [nF49 38 1 (by decide)]) (fun _ _ _ => rfl))), (by
            rw [ezp_lne_1 hcz, ezp_lw_9 (w := ezp_K c s.2) (by omega)]
            intro z
            have z2 := ezp_0w z
            exact ezt_NU_eq nuA ezp_thD_nu.1 (by rw [nA48 44 (by decide)])), (by
            rw [ezp_lne_1 hcz, ezp_lw_9 (w := ezp_K c s.2) (by omega)]
            intro z
            have z2 := ezp_0w z
            exact ezt_DI_eq diA ezp_thD_nu.2 (by rw [nF49 4 2 (by decide), nF48 4 2 (by decide), nF7 4 2 (by decide)])), rfl⟩
    by_cases q50 : (F 1 3) = (10)
    · refine ezw_tableswitchE (v := 10) (p := 277) q50 rfl (by rfl) ?_
      refine ezw_aload_n rfl rfl ?_
      refine ezw_bipush (10) rfl rfl ?_
      refine ezw_aload_n rfl rfl ?_
      refine ezw_iconst (1) rfl rfl ?_
      refine ezw_bipush (15) rfl rfl ?_
      refine ezw_call0_2 rfl (by omega) (ezu_at rfl) rfl rfl rfl rfl (ezt_m57_1 hS (by omega) ⟨by decide, by decide⟩ ⟨by decide, by decide⟩ (by rw [nF7 1 2 (by decide), nF6 1 2 (by decide), nF2 1 2 (by decide)]; exact hn) hc tp hw st_7) ?_
      rintro _ _ ⟨F51, rfl, hS, nF51, u52, hu52, st_51, v_51, p51_2, rfl⟩
      refine ezw_call0_2 rfl (by omega) (ezu_at rfl) rfl rfl rfl rfl (ezt_m69_30 hS (by omega) ⟨by decide, by decide⟩ hu52 (by omega)) ?_
      rintro _ _ ⟨A53, rfl, hS, nA53, m_53, n_53, rfl⟩
      refine ezw_aload_n rfl rfl ?_
      refine ezw_sipush (259) rfl rfl ?_
      refine ezw_call0_1 rfl (by omega) (ezu_at rfl) rfl rfl rfl rfl (ezt_m56_1 hS (by omega) ⟨by decide, by decide⟩ (by rw [nF51 1 2 (by decide), nF7 1 2 (by decide), nF6 1 2 (by decide), nF2 1 2 (by decide)]; exact hn) (by rw [nA53 2 (by decide)]; exact hc) tp (by rw [nA53 3 (by decide)]; exact hw) st_51) ?_
      rintro _ _ ⟨F54, rfl, hS, nF54, st_54, rfl⟩
      exact ezw_return rfl rfl ⟨F54, A53, rfl, hS, (fun p j h => by rw [nF54 p j (by omega), nF51 p j (by omega), nF7 p j (by omega), nF6 p j (by omega), nF2 p j (by omega)]), (fun p h => by
            funext j
            rw [nA53 p (by omega)]), (by
            rw [ezp_lne_1 hcz, ezp_lw_19 (w := ezp_K c s.2) (by omega)]
            exact st_54), (by
            rw [ezp_lne_1 hcz, ezp_lw_19 (w := ezp_K c s.2) (by omega)]
            exact (ezt_TR_fr trA (by rw [nF54 30 15 (by decide), nF51 30 15 (by decide), nF7 30 15 (by decide)]) (by rw [nF54 30 16 (by decide), nF51 30 16 (by decide), nF7 30 16 (by decide)]) (by rw [nF54 30 17 (by decide), nF51 30 17 (by decide), nF7 30 17 (by decide)]) (by rw [nF54 38 1 (by decide), nF51 38 1 (by decide), nF7 38 1 (by decide)]) (fun k k1 k2 => by rw [nA53 (30 + k) (by omega)]))), (by
            rw [ezp_lne_1 hcz, ezp_lw_19 (w := ezp_K c s.2) (by omega)]
            intro z
            have z2 := ezp_0w z
            exact ezt_NU_say (k := 10) nuA ((m_53 (by omega) (by omega)).trans (v_51 z2).1) n_53), (by
            rw [ezp_lne_1 hcz, ezp_lw_19 (w := ezp_K c s.2) (by omega)]
            intro z
            have z2 := ezp_0w z
            exact ezt_DI_eq diA rfl (by rw [nF54 4 2 (by decide), nF51 4 2 (by decide), nF7 4 2 (by decide)])), rfl⟩
    by_cases q55 : (F 1 3) = (11)
    · refine ezw_tableswitchE (v := 11) (p := 277) q55 rfl (by rfl) ?_
      refine ezw_aload_n rfl rfl ?_
      refine ezw_bipush (10) rfl rfl ?_
      refine ezw_aload_n rfl rfl ?_
      refine ezw_iconst (1) rfl rfl ?_
      refine ezw_bipush (15) rfl rfl ?_
      refine ezw_call0_2 rfl (by omega) (ezu_at rfl) rfl rfl rfl rfl (ezt_m57_1 hS (by omega) ⟨by decide, by decide⟩ ⟨by decide, by decide⟩ (by rw [nF7 1 2 (by decide), nF6 1 2 (by decide), nF2 1 2 (by decide)]; exact hn) hc tp hw st_7) ?_
      rintro _ _ ⟨F56, rfl, hS, nF56, u57, hu57, st_56, v_56, p56_2, rfl⟩
      refine ezw_call0_2 rfl (by omega) (ezu_at rfl) rfl rfl rfl rfl (ezt_m69_30 hS (by omega) ⟨by decide, by decide⟩ hu57 (by omega)) ?_
      rintro _ _ ⟨A58, rfl, hS, nA58, m_58, n_58, rfl⟩
      refine ezw_aload_n rfl rfl ?_
      refine ezw_sipush (259) rfl rfl ?_
      refine ezw_call0_1 rfl (by omega) (ezu_at rfl) rfl rfl rfl rfl (ezt_m56_1 hS (by omega) ⟨by decide, by decide⟩ (by rw [nF56 1 2 (by decide), nF7 1 2 (by decide), nF6 1 2 (by decide), nF2 1 2 (by decide)]; exact hn) (by rw [nA58 2 (by decide)]; exact hc) tp (by rw [nA58 3 (by decide)]; exact hw) st_56) ?_
      rintro _ _ ⟨F59, rfl, hS, nF59, st_59, rfl⟩
      exact ezw_return rfl rfl ⟨F59, A58, rfl, hS, (fun p j h => by rw [nF59 p j (by omega), nF56 p j (by omega), nF7 p j (by omega), nF6 p j (by omega), nF2 p j (by omega)]), (fun p h => by
            funext j
            rw [nA58 p (by omega)]), (by
            rw [ezp_lne_1 hcz, ezp_lw_19 (w := ezp_K c s.2) (by omega)]
            exact st_59), (by
            rw [ezp_lne_1 hcz, ezp_lw_19 (w := ezp_K c s.2) (by omega)]
            exact (ezt_TR_fr trA (by rw [nF59 30 15 (by decide), nF56 30 15 (by decide), nF7 30 15 (by decide)]) (by rw [nF59 30 16 (by decide), nF56 30 16 (by decide), nF7 30 16 (by decide)]) (by rw [nF59 30 17 (by decide), nF56 30 17 (by decide), nF7 30 17 (by decide)]) (by rw [nF59 38 1 (by decide), nF56 38 1 (by decide), nF7 38 1 (by decide)]) (fun k k1 k2 => by rw [nA58 (30 + k) (by omega)]))), (by
            rw [ezp_lne_1 hcz, ezp_lw_19 (w := ezp_K c s.2) (by omega)]
            intro z
            have z2 := ezp_0w z
            exact ezt_NU_say (k := 10) nuA ((m_58 (by omega) (by omega)).trans (v_56 z2).1) n_58), (by
            rw [ezp_lne_1 hcz, ezp_lw_19 (w := ezp_K c s.2) (by omega)]
            intro z
            have z2 := ezp_0w z
            exact ezt_DI_eq diA rfl (by rw [nF59 4 2 (by decide), nF56 4 2 (by decide), nF7 4 2 (by decide)])), rfl⟩
    by_cases q60 : (F 1 3) = (12)
    · refine ezw_tableswitchE (v := 12) (p := 176) q60 rfl (by rfl) ?_
      refine ezw_aload_n rfl rfl ?_
      refine ezw_aload_n rfl rfl ?_
      refine ezw_call2_2 rfl (by omega) rfl rfl (ezt_m72_1_30 hS (by omega) (by rw [nF7 1 2 (by decide), nF6 1 2 (by decide), nF2 1 2 (by decide)]; exact hn) hc tp hw st_7 (ezt_TR_fr trA (by rw [nF7 30 15 (by decide)]) (by rw [nF7 30 16 (by decide)]) (by rw [nF7 30 17 (by decide)]) (by rw [nF7 38 1 (by decide)]) (fun _ _ _ => rfl))) ?_
      rintro _ _ ⟨F61, A61, rfl, hS, nF61, nA61, st_61, tr_61, rfl⟩
      refine ezw_goto rfl rfl ?_
      refine ezw_aload_n rfl rfl ?_
      refine ezw_sipush (259) rfl rfl ?_
      refine ezw_call0_1 rfl (by omega) (ezu_at rfl) rfl rfl rfl rfl (ezt_m56_1 hS (by omega) ⟨by decide, by decide⟩ (by rw [nF61 1 2 (by decide), nF7 1 2 (by decide), nF6 1 2 (by decide), nF2 1 2 (by decide)]; exact hn) (by rw [nA61 2 (by decide)]; exact hc) tp (by rw [nA61 3 (by decide)]; exact hw) (ezt_ST_fr st_7 (fun j j0 j1 => by rw [nF61 1 j (by omega)]))) ?_
      rintro _ _ ⟨F62, rfl, hS, nF62, st_62, rfl⟩
      exact ezw_return rfl rfl ⟨F62, A61, rfl, hS, (fun p j h => by rw [nF62 p j (by omega), nF61 p j (by omega), nF7 p j (by omega), nF6 p j (by omega), nF2 p j (by omega)]), (fun p h => by
            funext j
            rw [nA61 p (by omega)]), (by
            rw [ezp_lne_1 hcz, ezp_lw_12 (w := ezp_K c s.2) (by omega)]
            exact st_62), (by
            rw [ezp_lne_1 hcz, ezp_lw_12 (w := ezp_K c s.2) (by omega)]
            exact (ezt_TR_fr tr_61 (by rw [nF62 30 15 (by decide)]) (by rw [nF62 30 16 (by decide)]) (by rw [nF62 30 17 (by decide)]) (by rw [nF62 38 1 (by decide)]) (fun _ _ _ => rfl))), (by
            rw [ezp_lne_1 hcz, ezp_lw_12 (w := ezp_K c s.2) (by omega)]
            intro z
            have z2 := ezp_0w z
            exact ezt_NU_eq nuA ezp_ovD_nu.1 (by rw [nA61 44 (by decide)])), (by
            rw [ezp_lne_1 hcz, ezp_lw_12 (w := ezp_K c s.2) (by omega)]
            intro z
            have z2 := ezp_0w z
            exact ezt_DI_eq diA ezp_ovD_nu.2 (by rw [nF62 4 2 (by decide), nF61 4 2 (by decide), nF7 4 2 (by decide)])), rfl⟩
    by_cases q63 : (F 1 3) = (13)
    · refine ezw_tableswitchE (v := 13) (p := 184) q63 rfl (by rfl) ?_
      refine ezw_aload_n rfl rfl ?_
      refine ezw_aload_n rfl rfl ?_
      refine ezw_call2_2 rfl (by omega) rfl rfl (ezt_m75_1_30 hS (by omega) (by rw [nF7 1 2 (by decide), nF6 1 2 (by decide), nF2 1 2 (by decide)]; exact hn) hc tp hw st_7 (ezt_TR_fr trA (by rw [nF7 30 15 (by decide)]) (by rw [nF7 30 16 (by decide)]) (by rw [nF7 30 17 (by decide)]) (by rw [nF7 38 1 (by decide)]) (fun _ _ _ => rfl)) (fun _ => nuA)) ?_
      rintro _ _ ⟨F64, A64, rfl, hS, nF64, nA64, st_64, tr_64, nu_64, rfl⟩
      refine ezw_goto rfl rfl ?_
      refine ezw_aload_n rfl rfl ?_
      refine ezw_sipush (259) rfl rfl ?_
      refine ezw_call0_1 rfl (by omega) (ezu_at rfl) rfl rfl rfl rfl (ezt_m56_1 hS (by omega) ⟨by decide, by decide⟩ (by rw [nF64 1 2 (by decide), nF7 1 2 (by decide), nF6 1 2 (by decide), nF2 1 2 (by decide)]; exact hn) (by rw [nA64 2 (by decide)]; exact hc) tp (by rw [nA64 3 (by decide)]; exact hw) (ezt_ST_fr st_7 (fun j j0 j1 => by rw [nF64 1 j (by omega)]))) ?_
      rintro _ _ ⟨F65, rfl, hS, nF65, st_65, rfl⟩
      exact ezw_return rfl rfl ⟨F65, A64, rfl, hS, (fun p j h => by rw [nF65 p j (by omega), nF64 p j (by omega), nF7 p j (by omega), nF6 p j (by omega), nF2 p j (by omega)]), (fun p h => by
            funext j
            rw [nA64 p (by omega)]), (by
            rw [ezp_lne_1 hcz, ezp_lw_13 (w := ezp_K c s.2) (by omega)]
            exact st_65), (by
            rw [ezp_lne_1 hcz, ezp_lw_13 (w := ezp_K c s.2) (by omega)]
            exact (ezt_TR_fr tr_64 (by rw [nF65 30 15 (by decide)]) (by rw [nF65 30 16 (by decide)]) (by rw [nF65 30 17 (by decide)]) (by rw [nF65 38 1 (by decide)]) (fun _ _ _ => rfl))), (by
            rw [ezp_lne_1 hcz, ezp_lw_13 (w := ezp_K c s.2) (by omega)]
            intro z
            have z2 := ezp_0w z
            exact nu_64 z2), (by
            rw [ezp_lne_1 hcz, ezp_lw_13 (w := ezp_K c s.2) (by omega)]
            intro z
            have z2 := ezp_0w z
            exact ezt_DI_eq diA rfl (by rw [nF65 4 2 (by decide), nF64 4 2 (by decide), nF7 4 2 (by decide)])), rfl⟩
    by_cases q66 : (F 1 3) = (14)
    · refine ezw_tableswitchE (v := 14) (p := 230) q66 rfl (by rfl) ?_
      refine ezw_aload_n rfl rfl ?_
      refine ezw_iconst (5) rfl rfl ?_
      refine ezw_aload_n rfl rfl ?_
      refine ezw_iconst (0) rfl rfl ?_
      refine ezw_bipush (10) rfl rfl ?_
      refine ezw_call0_2 rfl (by omega) (ezu_at rfl) rfl rfl rfl rfl (ezt_m57_1 hS (by omega) ⟨by decide, by decide⟩ ⟨by decide, by decide⟩ (by rw [nF7 1 2 (by decide), nF6 1 2 (by decide), nF2 1 2 (by decide)]; exact hn) hc tp hw st_7) ?_
      rintro _ _ ⟨F67, rfl, hS, nF67, u68, hu68, st_67, v_67, p67_2, rfl⟩
      refine ezw_call0_2 rfl (by omega) (ezu_at rfl) rfl rfl rfl rfl (ezt_m69_30 hS (by omega) ⟨by decide, by decide⟩ hu68 (by omega)) ?_
      rintro _ _ ⟨A69, rfl, hS, nA69, m_69, n_69, rfl⟩
      refine ezw_goto rfl rfl ?_
      refine ezw_aload_n rfl rfl ?_
      refine ezw_sipush (259) rfl rfl ?_
      refine ezw_call0_1 rfl (by omega) (ezu_at rfl) rfl rfl rfl rfl (ezt_m56_1 hS (by omega) ⟨by decide, by decide⟩ (by rw [nF67 1 2 (by decide), nF7 1 2 (by decide), nF6 1 2 (by decide), nF2 1 2 (by decide)]; exact hn) (by rw [nA69 2 (by decide)]; exact hc) tp (by rw [nA69 3 (by decide)]; exact hw) st_67) ?_
      rintro _ _ ⟨F70, rfl, hS, nF70, st_70, rfl⟩
      exact ezw_return rfl rfl ⟨F70, A69, rfl, hS, (fun p j h => by rw [nF70 p j (by omega), nF67 p j (by omega), nF7 p j (by omega), nF6 p j (by omega), nF2 p j (by omega)]), (fun p h => by
            funext j
            rw [nA69 p (by omega)]), (by
            rw [ezp_lne_1 hcz, ezp_lw_14 (w := ezp_K c s.2) (by omega)]
            exact st_70), (by
            rw [ezp_lne_1 hcz, ezp_lw_14 (w := ezp_K c s.2) (by omega)]
            exact (ezt_TR_fr trA (by rw [nF70 30 15 (by decide), nF67 30 15 (by decide), nF7 30 15 (by decide)]) (by rw [nF70 30 16 (by decide), nF67 30 16 (by decide), nF7 30 16 (by decide)]) (by rw [nF70 30 17 (by decide), nF67 30 17 (by decide), nF7 30 17 (by decide)]) (by rw [nF70 38 1 (by decide), nF67 38 1 (by decide), nF7 38 1 (by decide)]) (fun k k1 k2 => by rw [nA69 (30 + k) (by omega)]))), (by
            rw [ezp_lne_1 hcz, ezp_lw_14 (w := ezp_K c s.2) (by omega)]
            intro z
            have z2 := ezp_0w z
            exact ezt_NU_say (k := 5) nuA ((m_69 (by omega) (by omega)).trans (v_67 z2).1) n_69), (by
            rw [ezp_lne_1 hcz, ezp_lw_14 (w := ezp_K c s.2) (by omega)]
            intro z
            have z2 := ezp_0w z
            exact ezt_DI_eq diA rfl (by rw [nF70 4 2 (by decide), nF67 4 2 (by decide), nF7 4 2 (by decide)])), rfl⟩
    by_cases q71 : (F 1 3) = (15)
    · refine ezw_tableswitchE (v := 15) (p := 245) q71 rfl (by rfl) ?_
      refine ezw_aload_n rfl rfl ?_
      refine ezw_bipush (6) rfl rfl ?_
      refine ezw_aload_n rfl rfl ?_
      refine ezw_iconst (0) rfl rfl ?_
      refine ezw_bipush (9) rfl rfl ?_
      refine ezw_call0_2 rfl (by omega) (ezu_at rfl) rfl rfl rfl rfl (ezt_m57_1 hS (by omega) ⟨by decide, by decide⟩ ⟨by decide, by decide⟩ (by rw [nF7 1 2 (by decide), nF6 1 2 (by decide), nF2 1 2 (by decide)]; exact hn) hc tp hw st_7) ?_
      rintro _ _ ⟨F72, rfl, hS, nF72, u73, hu73, st_72, v_72, p72_2, rfl⟩
      refine ezw_call0_2 rfl (by omega) (ezu_at rfl) rfl rfl rfl rfl (ezt_m69_30 hS (by omega) ⟨by decide, by decide⟩ hu73 (by omega)) ?_
      rintro _ _ ⟨A74, rfl, hS, nA74, m_74, n_74, rfl⟩
      refine ezw_goto rfl rfl ?_
      refine ezw_aload_n rfl rfl ?_
      refine ezw_sipush (259) rfl rfl ?_
      refine ezw_call0_1 rfl (by omega) (ezu_at rfl) rfl rfl rfl rfl (ezt_m56_1 hS (by omega) ⟨by decide, by decide⟩ (by rw [nF72 1 2 (by decide), nF7 1 2 (by decide), nF6 1 2 (by decide), nF2 1 2 (by decide)]; exact hn) (by rw [nA74 2 (by decide)]; exact hc) tp (by rw [nA74 3 (by decide)]; exact hw) st_72) ?_
      rintro _ _ ⟨F75, rfl, hS, nF75, st_75, rfl⟩
      exact ezw_return rfl rfl ⟨F75, A74, rfl, hS, (fun p j h => by rw [nF75 p j (by omega), nF72 p j (by omega), nF7 p j (by omega), nF6 p j (by omega), nF2 p j (by omega)]), (fun p h => by
            funext j
            rw [nA74 p (by omega)]), (by
            rw [ezp_lne_1 hcz, ezp_lw_15 (w := ezp_K c s.2) (by omega)]
            exact st_75), (by
            rw [ezp_lne_1 hcz, ezp_lw_15 (w := ezp_K c s.2) (by omega)]
            exact (ezt_TR_fr trA (by rw [nF75 30 15 (by decide), nF72 30 15 (by decide), nF7 30 15 (by decide)]) (by rw [nF75 30 16 (by decide), nF72 30 16 (by decide), nF7 30 16 (by decide)]) (by rw [nF75 30 17 (by decide), nF72 30 17 (by decide), nF7 30 17 (by decide)]) (by rw [nF75 38 1 (by decide), nF72 38 1 (by decide), nF7 38 1 (by decide)]) (fun k k1 k2 => by rw [nA74 (30 + k) (by omega)]))), (by
            rw [ezp_lne_1 hcz, ezp_lw_15 (w := ezp_K c s.2) (by omega)]
            intro z
            have z2 := ezp_0w z
            exact ezt_NU_say (k := 6) nuA ((m_74 (by omega) (by omega)).trans (v_72 z2).1) n_74), (by
            rw [ezp_lne_1 hcz, ezp_lw_15 (w := ezp_K c s.2) (by omega)]
            intro z
            have z2 := ezp_0w z
            exact ezt_DI_eq diA rfl (by rw [nF75 4 2 (by decide), nF72 4 2 (by decide), nF7 4 2 (by decide)])), rfl⟩
    by_cases q76 : (F 1 3) = (16)
    · refine ezw_tableswitchE (v := 16) (p := 192) q76 rfl (by rfl) ?_
      refine ezw_aload_n rfl rfl ?_
      refine ezw_aload_n rfl rfl ?_
      refine ezw_call2_2 rfl (by omega) rfl rfl (ezt_m76_1_30 hS (by omega) (by rw [nF7 1 2 (by decide), nF6 1 2 (by decide), nF2 1 2 (by decide)]; exact hn) hc tp hw st_7 (ezt_TR_fr trA (by rw [nF7 30 15 (by decide)]) (by rw [nF7 30 16 (by decide)]) (by rw [nF7 30 17 (by decide)]) (by rw [nF7 38 1 (by decide)]) (fun _ _ _ => rfl)) (fun _ => nuA)) ?_
      rintro _ _ ⟨F77, A77, rfl, hS, nF77, nA77, st_77, tr_77, nu_77, rfl⟩
      refine ezw_goto rfl rfl ?_
      refine ezw_aload_n rfl rfl ?_
      refine ezw_sipush (259) rfl rfl ?_
      refine ezw_call0_1 rfl (by omega) (ezu_at rfl) rfl rfl rfl rfl (ezt_m56_1 hS (by omega) ⟨by decide, by decide⟩ (by rw [nF77 1 2 (by decide), nF7 1 2 (by decide), nF6 1 2 (by decide), nF2 1 2 (by decide)]; exact hn) (by rw [nA77 2 (by decide)]; exact hc) tp (by rw [nA77 3 (by decide)]; exact hw) (ezt_ST_fr st_7 (fun j j0 j1 => by rw [nF77 1 j (by omega)]))) ?_
      rintro _ _ ⟨F78, rfl, hS, nF78, st_78, rfl⟩
      exact ezw_return rfl rfl ⟨F78, A77, rfl, hS, (fun p j h => by rw [nF78 p j (by omega), nF77 p j (by omega), nF7 p j (by omega), nF6 p j (by omega), nF2 p j (by omega)]), (fun p h => by
            funext j
            rw [nA77 p (by omega)]), (by
            rw [ezp_lne_1 hcz, ezp_lw_16 (w := ezp_K c s.2) (by omega)]
            exact st_78), (by
            rw [ezp_lne_1 hcz, ezp_lw_16 (w := ezp_K c s.2) (by omega)]
            exact (ezt_TR_fr tr_77 (by rw [nF78 30 15 (by decide)]) (by rw [nF78 30 16 (by decide)]) (by rw [nF78 30 17 (by decide)]) (by rw [nF78 38 1 (by decide)]) (fun _ _ _ => rfl))), (by
            rw [ezp_lne_1 hcz, ezp_lw_16 (w := ezp_K c s.2) (by omega)]
            intro z
            have z2 := ezp_0w z
            exact nu_77 z2), (by
            rw [ezp_lne_1 hcz, ezp_lw_16 (w := ezp_K c s.2) (by omega)]
            intro z
            have z2 := ezp_0w z
            exact ezt_DI_eq diA rfl (by rw [nF78 4 2 (by decide), nF77 4 2 (by decide), nF7 4 2 (by decide)])), rfl⟩
    by_cases q79 : (F 1 3) = (17)
    · refine ezw_tableswitchE (v := 17) (p := 277) q79 rfl (by rfl) ?_
      refine ezw_aload_n rfl rfl ?_
      refine ezw_bipush (10) rfl rfl ?_
      refine ezw_aload_n rfl rfl ?_
      refine ezw_iconst (1) rfl rfl ?_
      refine ezw_bipush (15) rfl rfl ?_
      refine ezw_call0_2 rfl (by omega) (ezu_at rfl) rfl rfl rfl rfl (ezt_m57_1 hS (by omega) ⟨by decide, by decide⟩ ⟨by decide, by decide⟩ (by rw [nF7 1 2 (by decide), nF6 1 2 (by decide), nF2 1 2 (by decide)]; exact hn) hc tp hw st_7) ?_
      rintro _ _ ⟨F80, rfl, hS, nF80, u81, hu81, st_80, v_80, p80_2, rfl⟩
      refine ezw_call0_2 rfl (by omega) (ezu_at rfl) rfl rfl rfl rfl (ezt_m69_30 hS (by omega) ⟨by decide, by decide⟩ hu81 (by omega)) ?_
      rintro _ _ ⟨A82, rfl, hS, nA82, m_82, n_82, rfl⟩
      refine ezw_aload_n rfl rfl ?_
      refine ezw_sipush (259) rfl rfl ?_
      refine ezw_call0_1 rfl (by omega) (ezu_at rfl) rfl rfl rfl rfl (ezt_m56_1 hS (by omega) ⟨by decide, by decide⟩ (by rw [nF80 1 2 (by decide), nF7 1 2 (by decide), nF6 1 2 (by decide), nF2 1 2 (by decide)]; exact hn) (by rw [nA82 2 (by decide)]; exact hc) tp (by rw [nA82 3 (by decide)]; exact hw) st_80) ?_
      rintro _ _ ⟨F83, rfl, hS, nF83, st_83, rfl⟩
      exact ezw_return rfl rfl ⟨F83, A82, rfl, hS, (fun p j h => by rw [nF83 p j (by omega), nF80 p j (by omega), nF7 p j (by omega), nF6 p j (by omega), nF2 p j (by omega)]), (fun p h => by
            funext j
            rw [nA82 p (by omega)]), (by
            rw [ezp_lne_1 hcz, ezp_lw_19 (w := ezp_K c s.2) (by omega)]
            exact st_83), (by
            rw [ezp_lne_1 hcz, ezp_lw_19 (w := ezp_K c s.2) (by omega)]
            exact (ezt_TR_fr trA (by rw [nF83 30 15 (by decide), nF80 30 15 (by decide), nF7 30 15 (by decide)]) (by rw [nF83 30 16 (by decide), nF80 30 16 (by decide), nF7 30 16 (by decide)]) (by rw [nF83 30 17 (by decide), nF80 30 17 (by decide), nF7 30 17 (by decide)]) (by rw [nF83 38 1 (by decide), nF80 38 1 (by decide), nF7 38 1 (by decide)]) (fun k k1 k2 => by rw [nA82 (30 + k) (by omega)]))), (by
            rw [ezp_lne_1 hcz, ezp_lw_19 (w := ezp_K c s.2) (by omega)]
            intro z
            have z2 := ezp_0w z
            exact ezt_NU_say (k := 10) nuA ((m_82 (by omega) (by omega)).trans (v_80 z2).1) n_82), (by
            rw [ezp_lne_1 hcz, ezp_lw_19 (w := ezp_K c s.2) (by omega)]
            intro z
            have z2 := ezp_0w z
            exact ezt_DI_eq diA rfl (by rw [nF83 4 2 (by decide), nF80 4 2 (by decide), nF7 4 2 (by decide)])), rfl⟩
    by_cases q84 : (F 1 3) = (18)
    · refine ezw_tableswitchE (v := 18) (p := 261) q84 rfl (by rfl) ?_
      refine ezw_aload_n rfl rfl ?_
      refine ezw_bipush (9) rfl rfl ?_
      refine ezw_aload_n rfl rfl ?_
      refine ezw_iconst (1) rfl rfl ?_
      refine ezw_bipush (99) rfl rfl ?_
      refine ezw_call0_2 rfl (by omega) (ezu_at rfl) rfl rfl rfl rfl (ezt_m57_1 hS (by omega) ⟨by decide, by decide⟩ ⟨by decide, by decide⟩ (by rw [nF7 1 2 (by decide), nF6 1 2 (by decide), nF2 1 2 (by decide)]; exact hn) hc tp hw st_7) ?_
      rintro _ _ ⟨F85, rfl, hS, nF85, u86, hu86, st_85, v_85, p85_2, rfl⟩
      refine ezw_call0_2 rfl (by omega) (ezu_at rfl) rfl rfl rfl rfl (ezt_m69_30 hS (by omega) ⟨by decide, by decide⟩ hu86 (by omega)) ?_
      rintro _ _ ⟨A87, rfl, hS, nA87, m_87, n_87, rfl⟩
      refine ezw_goto rfl rfl ?_
      refine ezw_aload_n rfl rfl ?_
      refine ezw_sipush (259) rfl rfl ?_
      refine ezw_call0_1 rfl (by omega) (ezu_at rfl) rfl rfl rfl rfl (ezt_m56_1 hS (by omega) ⟨by decide, by decide⟩ (by rw [nF85 1 2 (by decide), nF7 1 2 (by decide), nF6 1 2 (by decide), nF2 1 2 (by decide)]; exact hn) (by rw [nA87 2 (by decide)]; exact hc) tp (by rw [nA87 3 (by decide)]; exact hw) st_85) ?_
      rintro _ _ ⟨F88, rfl, hS, nF88, st_88, rfl⟩
      exact ezw_return rfl rfl ⟨F88, A87, rfl, hS, (fun p j h => by rw [nF88 p j (by omega), nF85 p j (by omega), nF7 p j (by omega), nF6 p j (by omega), nF2 p j (by omega)]), (fun p h => by
            funext j
            rw [nA87 p (by omega)]), (by
            rw [ezp_lne_1 hcz, ezp_lw_18 (w := ezp_K c s.2) (by omega)]
            exact st_88), (by
            rw [ezp_lne_1 hcz, ezp_lw_18 (w := ezp_K c s.2) (by omega)]
            exact (ezt_TR_fr trA (by rw [nF88 30 15 (by decide), nF85 30 15 (by decide), nF7 30 15 (by decide)]) (by rw [nF88 30 16 (by decide), nF85 30 16 (by decide), nF7 30 16 (by decide)]) (by rw [nF88 30 17 (by decide), nF85 30 17 (by decide), nF7 30 17 (by decide)]) (by rw [nF88 38 1 (by decide), nF85 38 1 (by decide), nF7 38 1 (by decide)]) (fun k k1 k2 => by rw [nA87 (30 + k) (by omega)]))), (by
            rw [ezp_lne_1 hcz, ezp_lw_18 (w := ezp_K c s.2) (by omega)]
            intro z
            have z2 := ezp_0w z
            exact ezt_NU_say (k := 9) nuA ((m_87 (by omega) (by omega)).trans (v_85 z2).1) n_87), (by
            rw [ezp_lne_1 hcz, ezp_lw_18 (w := ezp_K c s.2) (by omega)]
            intro z
            have z2 := ezp_0w z
            exact ezt_DI_eq diA rfl (by rw [nF88 4 2 (by decide), nF85 4 2 (by decide), nF7 4 2 (by decide)])), rfl⟩
    by_cases q89 : (F 1 3) = (19)
    · refine ezw_tableswitchE (v := 19) (p := 277) q89 rfl (by rfl) ?_
      refine ezw_aload_n rfl rfl ?_
      refine ezw_bipush (10) rfl rfl ?_
      refine ezw_aload_n rfl rfl ?_
      refine ezw_iconst (1) rfl rfl ?_
      refine ezw_bipush (15) rfl rfl ?_
      refine ezw_call0_2 rfl (by omega) (ezu_at rfl) rfl rfl rfl rfl (ezt_m57_1 hS (by omega) ⟨by decide, by decide⟩ ⟨by decide, by decide⟩ (by rw [nF7 1 2 (by decide), nF6 1 2 (by decide), nF2 1 2 (by decide)]; exact hn) hc tp hw st_7) ?_
      rintro _ _ ⟨F90, rfl, hS, nF90, u91, hu91, st_90, v_90, p90_2, rfl⟩
      refine ezw_call0_2 rfl (by omega) (ezu_at rfl) rfl rfl rfl rfl (ezt_m69_30 hS (by omega) ⟨by decide, by decide⟩ hu91 (by omega)) ?_
      rintro _ _ ⟨A92, rfl, hS, nA92, m_92, n_92, rfl⟩
      refine ezw_aload_n rfl rfl ?_
      refine ezw_sipush (259) rfl rfl ?_
      refine ezw_call0_1 rfl (by omega) (ezu_at rfl) rfl rfl rfl rfl (ezt_m56_1 hS (by omega) ⟨by decide, by decide⟩ (by rw [nF90 1 2 (by decide), nF7 1 2 (by decide), nF6 1 2 (by decide), nF2 1 2 (by decide)]; exact hn) (by rw [nA92 2 (by decide)]; exact hc) tp (by rw [nA92 3 (by decide)]; exact hw) st_90) ?_
      rintro _ _ ⟨F93, rfl, hS, nF93, st_93, rfl⟩
      exact ezw_return rfl rfl ⟨F93, A92, rfl, hS, (fun p j h => by rw [nF93 p j (by omega), nF90 p j (by omega), nF7 p j (by omega), nF6 p j (by omega), nF2 p j (by omega)]), (fun p h => by
            funext j
            rw [nA92 p (by omega)]), (by
            rw [ezp_lne_1 hcz, ezp_lw_19 (w := ezp_K c s.2) (by omega)]
            exact st_93), (by
            rw [ezp_lne_1 hcz, ezp_lw_19 (w := ezp_K c s.2) (by omega)]
            exact (ezt_TR_fr trA (by rw [nF93 30 15 (by decide), nF90 30 15 (by decide), nF7 30 15 (by decide)]) (by rw [nF93 30 16 (by decide), nF90 30 16 (by decide), nF7 30 16 (by decide)]) (by rw [nF93 30 17 (by decide), nF90 30 17 (by decide), nF7 30 17 (by decide)]) (by rw [nF93 38 1 (by decide), nF90 38 1 (by decide), nF7 38 1 (by decide)]) (fun k k1 k2 => by rw [nA92 (30 + k) (by omega)]))), (by
            rw [ezp_lne_1 hcz, ezp_lw_19 (w := ezp_K c s.2) (by omega)]
            intro z
            have z2 := ezp_0w z
            exact ezt_NU_say (k := 10) nuA ((m_92 (by omega) (by omega)).trans (v_90 z2).1) n_92), (by
            rw [ezp_lne_1 hcz, ezp_lw_19 (w := ezp_K c s.2) (by omega)]
            intro z
            have z2 := ezp_0w z
            exact ezt_DI_eq diA rfl (by rw [nF93 4 2 (by decide), nF90 4 2 (by decide), nF7 4 2 (by decide)])), rfl⟩
    by_cases q94 : (F 1 3) = (20)
    · refine ezw_tableswitchE (v := 20) (p := 200) q94 rfl (by rfl) ?_
      refine ezw_aload_n rfl rfl ?_
      refine ezw_aload_n rfl rfl ?_
      refine ezw_call2_2 rfl (by omega) rfl rfl (ezt_m77_1_30 hS (by omega) (by rw [nF7 1 2 (by decide), nF6 1 2 (by decide), nF2 1 2 (by decide)]; exact hn) hc tp hw st_7 (ezt_TR_fr trA (by rw [nF7 30 15 (by decide)]) (by rw [nF7 30 16 (by decide)]) (by rw [nF7 30 17 (by decide)]) (by rw [nF7 38 1 (by decide)]) (fun _ _ _ => rfl)) (hkE (by omega))) ?_
      rintro _ _ ⟨F95, A95, rfl, hS, nF95, nA95, st_95, tr_95, rfl⟩
      refine ezw_goto rfl rfl ?_
      refine ezw_aload_n rfl rfl ?_
      refine ezw_sipush (259) rfl rfl ?_
      refine ezw_call0_1 rfl (by omega) (ezu_at rfl) rfl rfl rfl rfl (ezt_m56_1 hS (by omega) ⟨by decide, by decide⟩ (by rw [nF95 1 2 (by decide), nF7 1 2 (by decide), nF6 1 2 (by decide), nF2 1 2 (by decide)]; exact hn) (by rw [nA95 2 (by decide)]; exact hc) tp (by rw [nA95 3 (by decide)]; exact hw) (ezt_ST_fr st_7 (fun j j0 j1 => by rw [nF95 1 j (by omega)]))) ?_
      rintro _ _ ⟨F96, rfl, hS, nF96, st_96, rfl⟩
      exact ezw_return rfl rfl ⟨F96, A95, rfl, hS, (fun p j h => by rw [nF96 p j (by omega), nF95 p j (by omega), nF7 p j (by omega), nF6 p j (by omega), nF2 p j (by omega)]), (fun p h => by
            funext j
            rw [nA95 p (by omega)]), (by
            rw [ezp_lne_1 hcz, ezp_lw_20 (w := ezp_K c s.2) (by omega)]
            exact st_96), (by
            rw [ezp_lne_1 hcz, ezp_lw_20 (w := ezp_K c s.2) (by omega)]
            exact (ezt_TR_fr tr_95 (by rw [nF96 30 15 (by decide)]) (by rw [nF96 30 16 (by decide)]) (by rw [nF96 30 17 (by decide)]) (by rw [nF96 38 1 (by decide)]) (fun _ _ _ => rfl))), (by
            rw [ezp_lne_1 hcz, ezp_lw_20 (w := ezp_K c s.2) (by omega)]
            intro z
            have z2 := ezp_0w z
            exact ezt_NU_eq nuA ezp_elD_nu.1 (by rw [nA95 44 (by decide)])), (by
            rw [ezp_lne_1 hcz, ezp_lw_20 (w := ezp_K c s.2) (by omega)]
            intro z
            have z2 := ezp_0w z
            exact ezt_DI_eq diA ezp_elD_nu.2 (by rw [nF96 4 2 (by decide), nF95 4 2 (by decide), nF7 4 2 (by decide)])), rfl⟩
    by_cases q97 : (F 1 3) = (21)
    · refine ezw_tableswitchE (v := 21) (p := 208) q97 rfl (by rfl) ?_
      refine ezw_aload_n rfl rfl ?_
      refine ezs_getp (p := 5) rfl rfl rfl rfl rfl ?_
      refine ezw_aload_n rfl rfl ?_
      refine ezw_call0_1 rfl (by omega) (ezu_at rfl) rfl rfl rfl rfl (ezt_m80_5_1 hS (by omega) (by rw [nF7 1 2 (by decide), nF6 1 2 (by decide), nF2 1 2 (by decide)]; exact hn) hc tp hw st_7) ?_
      rintro _ _ ⟨F98, A98, rfl, hS, nF98, nA98, st_98, lw_98, to_98, rfl⟩
      refine ezw_goto rfl rfl ?_
      refine ezw_aload_n rfl rfl ?_
      refine ezw_sipush (259) rfl rfl ?_
      refine ezw_call0_1 rfl (by omega) (ezu_at rfl) rfl rfl rfl rfl (ezt_m56_1 hS (by omega) ⟨by decide, by decide⟩ (by rw [nF98 1 2 (by decide), nF7 1 2 (by decide), nF6 1 2 (by decide), nF2 1 2 (by decide)]; exact hn) (by rw [nA98 2 (by decide)]; exact hc) tp (by rw [nA98 3 (by decide)]; exact hw) st_98) ?_
      rintro _ _ ⟨F99, rfl, hS, nF99, st_99, rfl⟩
      exact ezw_return rfl rfl ⟨F99, A98, rfl, hS, (fun p j h => by rw [nF99 p j (by omega), nF98 p j (by omega), nF7 p j (by omega), nF6 p j (by omega), nF2 p j (by omega)]), (fun p h => by
            funext j
            rw [nA98 p (by omega)]), (by
            rw [ezp_lne_1 hcz, ezp_lw_21 (w := ezp_K c s.2) (by omega)]
            exact st_99), (by
            rw [ezp_lne_1 hcz, ezp_lw_21 (w := ezp_K c s.2) (by omega)]
            exact (ezt_TR_fr trA (by rw [nF99 30 15 (by decide), nF98 30 15 (by decide), nF7 30 15 (by decide)]) (by rw [nF99 30 16 (by decide), nF98 30 16 (by decide), nF7 30 16 (by decide)]) (by rw [nF99 30 17 (by decide), nF98 30 17 (by decide), nF7 30 17 (by decide)]) (by rw [nF99 38 1 (by decide), nF98 38 1 (by decide), nF7 38 1 (by decide)]) (fun k k1 k2 => by rw [nA98 (30 + k) (by omega)]))), (by
            rw [ezp_lne_1 hcz, ezp_lw_21 (w := ezp_K c s.2) (by omega)]
            intro z
            have z2 := ezp_0w z
            exact ezt_NU_eq nuA rfl (by rw [nA98 44 (by decide)])), (by
            rw [ezp_lne_1 hcz, ezp_lw_21 (w := ezp_K c s.2) (by omega)]
            intro z
            have z2 := ezp_0w z
            exact ezt_DI_eq diA rfl (by rw [nF99 4 2 (by decide), nF98 4 2 (by decide), nF7 4 2 (by decide)])), rfl⟩
    by_cases q100 : (F 1 3) = (22)
    · refine ezw_tableswitchE (v := 22) (p := 219) q100 rfl (by rfl) ?_
      refine ezw_aload_n rfl rfl ?_
      refine ezs_getp (p := 9) rfl rfl rfl rfl rfl ?_
      refine ezw_aload_n rfl rfl ?_
      refine ezw_call0_1 rfl (by omega) (ezu_at rfl) rfl rfl rfl rfl (ezt_m80_9_1 hS (by omega) (by rw [nF7 1 2 (by decide), nF6 1 2 (by decide), nF2 1 2 (by decide)]; exact hn) hc tp hw st_7) ?_
      rintro _ _ ⟨F101, A101, rfl, hS, nF101, nA101, st_101, lw_101, to_101, rfl⟩
      refine ezw_goto rfl rfl ?_
      refine ezw_aload_n rfl rfl ?_
      refine ezw_sipush (259) rfl rfl ?_
      refine ezw_call0_1 rfl (by omega) (ezu_at rfl) rfl rfl rfl rfl (ezt_m56_1 hS (by omega) ⟨by decide, by decide⟩ (by rw [nF101 1 2 (by decide), nF7 1 2 (by decide), nF6 1 2 (by decide), nF2 1 2 (by decide)]; exact hn) (by rw [nA101 2 (by decide)]; exact hc) tp (by rw [nA101 3 (by decide)]; exact hw) st_101) ?_
      rintro _ _ ⟨F102, rfl, hS, nF102, st_102, rfl⟩
      exact ezw_return rfl rfl ⟨F102, A101, rfl, hS, (fun p j h => by rw [nF102 p j (by omega), nF101 p j (by omega), nF7 p j (by omega), nF6 p j (by omega), nF2 p j (by omega)]), (fun p h => by
            funext j
            rw [nA101 p (by omega)]), (by
            rw [ezp_lne_1 hcz, ezp_lw_22 (w := ezp_K c s.2) (by omega)]
            exact st_102), (by
            rw [ezp_lne_1 hcz, ezp_lw_22 (w := ezp_K c s.2) (by omega)]
            exact (ezt_TR_fr trA (by rw [nF102 30 15 (by decide), nF101 30 15 (by decide), nF7 30 15 (by decide)]) (by rw [nF102 30 16 (by decide), nF101 30 16 (by decide), nF7 30 16 (by decide)]) (by rw [nF102 30 17 (by decide), nF101 30 17 (by decide), nF7 30 17 (by decide)]) (by rw [nF102 38 1 (by decide), nF101 38 1 (by decide), nF7 38 1 (by decide)]) (fun k k1 k2 => by rw [nA101 (30 + k) (by omega)]))), (by
            rw [ezp_lne_1 hcz, ezp_lw_22 (w := ezp_K c s.2) (by omega)]
            intro z
            have z2 := ezp_0w z
            exact ezt_NU_eq nuA rfl (by rw [nA101 44 (by decide)])), (by
            rw [ezp_lne_1 hcz, ezp_lw_22 (w := ezp_K c s.2) (by omega)]
            intro z
            have z2 := ezp_0w z
            exact ezt_DI_eq diA rfl (by rw [nF102 4 2 (by decide), nF101 4 2 (by decide), nF7 4 2 (by decide)])), rfl⟩
    refine ezw_tableswitch (p := 277) rfl (ezs_swd hu1 (And.intro (And.intro ⟨by decide, by decide⟩ (fun z => q8 z.symm)) (And.intro (And.intro ⟨by decide, by decide⟩ (fun z => q11 z.symm)) (And.intro (And.intro ⟨by decide, by decide⟩ (fun z => q16 z.symm)) (And.intro (And.intro ⟨by decide, by decide⟩ (fun z => q21 z.symm)) (And.intro (And.intro ⟨by decide, by decide⟩ (fun z => q26 z.symm)) (And.intro (And.intro ⟨by decide, by decide⟩ (fun z => q31 z.symm)) (And.intro (And.intro ⟨by decide, by decide⟩ (fun z => q34 z.symm)) (And.intro (And.intro ⟨by decide, by decide⟩ (fun z => q37 z.symm)) (And.intro (And.intro ⟨by decide, by decide⟩ (fun z => q42 z.symm)) (And.intro (And.intro ⟨by decide, by decide⟩ (fun z => q47 z.symm)) (And.intro (And.intro ⟨by decide, by decide⟩ (fun z => q50 z.symm)) (And.intro (And.intro ⟨by decide, by decide⟩ (fun z => q55 z.symm)) (And.intro (And.intro ⟨by decide, by decide⟩ (fun z => q60 z.symm)) (And.intro (And.intro ⟨by decide, by decide⟩ (fun z => q63 z.symm)) (And.intro (And.intro ⟨by decide, by decide⟩ (fun z => q66 z.symm)) (And.intro (And.intro ⟨by decide, by decide⟩ (fun z => q71 z.symm)) (And.intro (And.intro ⟨by decide, by decide⟩ (fun z => q76 z.symm)) (And.intro (And.intro ⟨by decide, by decide⟩ (fun z => q79 z.symm)) (And.intro (And.intro ⟨by decide, by decide⟩ (fun z => q84 z.symm)) (And.intro (And.intro ⟨by decide, by decide⟩ (fun z => q89 z.symm)) (And.intro (And.intro ⟨by decide, by decide⟩ (fun z => q94 z.symm)) (And.intro (And.intro ⟨by decide, by decide⟩ (fun z => q97 z.symm)) (And.intro (And.intro ⟨by decide, by decide⟩ (fun z => q100 z.symm)) True.intro))))))))))))))))))))))) rfl) ?_
    refine ezw_aload_n rfl rfl ?_
    refine ezw_bipush (10) rfl rfl ?_
    refine ezw_aload_n rfl rfl ?_
    refine ezw_iconst (1) rfl rfl ?_
    refine ezw_bipush (15) rfl rfl ?_
    refine ezw_call0_2 rfl (by omega) (ezu_at rfl) rfl rfl rfl rfl (ezt_m57_1 hS (by omega) ⟨by decide, by decide⟩ ⟨by decide, by decide⟩ (by rw [nF7 1 2 (by decide), nF6 1 2 (by decide), nF2 1 2 (by decide)]; exact hn) hc tp hw st_7) ?_
    rintro _ _ ⟨F103, rfl, hS, nF103, u104, hu104, st_103, v_103, p103_2, rfl⟩
    refine ezw_call0_2 rfl (by omega) (ezu_at rfl) rfl rfl rfl rfl (ezt_m69_30 hS (by omega) ⟨by decide, by decide⟩ hu104 (by omega)) ?_
    rintro _ _ ⟨A105, rfl, hS, nA105, m_105, n_105, rfl⟩
    refine ezw_aload_n rfl rfl ?_
    refine ezw_sipush (259) rfl rfl ?_
    refine ezw_call0_1 rfl (by omega) (ezu_at rfl) rfl rfl rfl rfl (ezt_m56_1 hS (by omega) ⟨by decide, by decide⟩ (by rw [nF103 1 2 (by decide), nF7 1 2 (by decide), nF6 1 2 (by decide), nF2 1 2 (by decide)]; exact hn) (by rw [nA105 2 (by decide)]; exact hc) tp (by rw [nA105 3 (by decide)]; exact hw) st_103) ?_
    rintro _ _ ⟨F106, rfl, hS, nF106, st_106, rfl⟩
    exact ezw_return rfl rfl ⟨F106, A105, rfl, hS, (fun p j h => by rw [nF106 p j (by omega), nF103 p j (by omega), nF7 p j (by omega), nF6 p j (by omega), nF2 p j (by omega)]), (fun p h => by
          funext j
          rw [nA105 p (by omega)]), (by
          rw [ezp_lne_1 hcz, ezp_lw_19 (w := ezp_K c s.2) (by omega)]
          exact st_106), (by
          rw [ezp_lne_1 hcz, ezp_lw_19 (w := ezp_K c s.2) (by omega)]
          exact (ezt_TR_fr trA (by rw [nF106 30 15 (by decide), nF103 30 15 (by decide), nF7 30 15 (by decide)]) (by rw [nF106 30 16 (by decide), nF103 30 16 (by decide), nF7 30 16 (by decide)]) (by rw [nF106 30 17 (by decide), nF103 30 17 (by decide), nF7 30 17 (by decide)]) (by rw [nF106 38 1 (by decide), nF103 38 1 (by decide), nF7 38 1 (by decide)]) (fun k k1 k2 => by rw [nA105 (30 + k) (by omega)]))), (by
          rw [ezp_lne_1 hcz, ezp_lw_19 (w := ezp_K c s.2) (by omega)]
          intro z
          have z2 := ezp_0w z
          exact ezt_NU_say (k := 10) nuA ((m_105 (by omega) (by omega)).trans (v_103 z2).1) n_105), (by
          rw [ezp_lne_1 hcz, ezp_lw_19 (w := ezp_K c s.2) (by omega)]
          intro z
          have z2 := ezp_0w z
          exact ezt_DI_eq diA rfl (by rw [nF106 4 2 (by decide), nF103 4 2 (by decide), nF7 4 2 (by decide)])), rfl⟩
  · exact ezw_return rfl rfl ⟨F2, A, rfl, hS, (fun p j h => by rw [nF2 p j (by omega)]), (fun _ _ => rfl), (by
          rw [ezp_lne_0 (fun h9 => p3_1 (by omega) (st_2.1.trans h9))]
          exact st_2), (by
          rw [ezp_lne_0 (fun h9 => p3_1 (by omega) (st_2.1.trans h9))]
          exact (ezt_TR_fr tr (by rw [nF2 30 15 (by decide)]) (by rw [nF2 30 16 (by decide)]) (by rw [nF2 30 17 (by decide)]) (by rw [nF2 38 1 (by decide)]) (fun _ _ _ => rfl))), (fun z => absurd z (by rw [ezp_lne_0 (fun h9 => p3_1 (by omega) (st_2.1.trans h9))]; exact (fun h9 => p3_1 (by omega) (st_2.1.trans h9)))), (fun z => absurd z (by rw [ezp_lne_0 (fun h9 => p3_1 (by omega) (st_2.1.trans h9))]; exact (fun h9 => p3_1 (by omega) (st_2.1.trans h9)))), rfl⟩
def ezt_m47_4_1_47Q (e : Bool × Bool) (F : Nat → Nat → Int) (A : Nat → Int → Int) (c : Int → Int) (n : Int) (s : Int × Int) (t : ezp_D) : Option ezq_V → (Nat → ezq_C) → Prop := fun v g' => ∃ (F' : Nat → Nat → Int) (A' : Nat → Int → Int), ezu_g e F' A' = g' ∧ ezs_T F' A' ∧ (∀ p j, ¬ (p = 1 ∧ (j = 3 ∨ j = 4 ∨ j = 5 ∨ j = 6 ∨ j = 7 ∨ j = 8 ∨ j = 9) ∨ p = 4 ∧ (j = 2) ∨ p = 5 ∧ (j = 3 ∨ j = 4) ∨ p = 9 ∧ (j = 3 ∨ j = 4) ∨ p = 47 ∧ (j = 15 ∨ j = 16 ∨ j = 17) ∨ p = 55 ∧ (j = 1)) → F' p j = F p j) ∧ (∀ p, ¬ (p = 6 ∨ p = 10 ∨ p = 48 ∨ p = 49 ∨ p = 50 ∨ p = 51 ∨ p = 52 ∨ p = 53 ∨ p = 54 ∨ p = 56 ∨ p = 57 ∨ p = 58 ∨ p = 59 ∨ p = 60 ∨ p = 61) → A' p = A p) ∧ (ezt_ST c n ((ezp_lne c t s).1) F') ∧ (ezt_TR 47 ((ezp_lne c t s).2) F' A') ∧ ((ezp_lne c t s).1.1 = 0 → ezt_NU 47 (ezp_lne c t s).2 A') ∧ ((ezp_lne c t s).1.1 = 0 → ezt_DI (ezp_lne c t s).2 F') ∧ none = v
theorem ezt_m47_4_1_47 {c : Int → Int} {n : Int} {s : Int × Int} {t : ezp_D} {F : Nat → Nat → Int} {A : Nat → Int → Int} (hS : ezs_T F A) (hd : 42 ≤ d) (hn : F 1 2 = n) (hc : c = ezp_ch (A 2) n) (tp : ezp_tp c n) (hw : ∀ j, 0 ≤ j → j < 48 → A 3 j = ezl_cw.getD j.toNat 0) (st : ezt_ST c n s F) (tr : ezt_TR 47 t F A) (nu : s.1 = 0 → ezt_NU 47 t A) (di : ezt_DI t F) (z0 : s.1 = 0) : ezw_C l ρ B xa Hb D cA 47 d [ezw_p 4, ezw_p 1, ezw_p 47] (ezu_g e F A) (ezt_m47_4_1_47Q e F A c n s t) := by
  refine ezw_met (k := 1) rfl rfl ?_
  have hn0 := tp.1
  have hn1 := tp.2.1
  obtain ⟨sf, sk, sc, sb, sb2⟩ := id st
  have hP := ezp_Pr tp s.2
  have c3i : s.1 = 0 → F 1 3 = ezp_K c s.2 := fun z => (sc z).2.2.1
  have c8i : s.1 = 0 → F 1 8 = ezp_P c s.2 := fun z => (sc z).1
  have c4i : s.1 = 0 → ezp_K c s.2 = 101 → F 1 4 = ezp_V c s.2 := fun z => (sc z).2.2.2.1
  have c7i : s.1 = 0 → ezp_K c s.2 = 100 → F 1 7 = ezp_v 32 (ezp_W c s.2) ∧ F 1 5 = ezp_ix (ezp_W c s.2) - 44 := fun z => (sc z).2.2.2.2
  refine ezw_aload_n rfl rfl ?_
  refine ezy_get_i hS rfl rfl rfl rfl rfl rfl (fun u1 hu1 ku1 eu1 => ?_)
  replace eu1 := eu1.symm
  subst eu1
  refine ezw_istore_n rfl rfl ?_
  refine ezw_aload_n rfl rfl ?_
  refine ezw_aload_n rfl rfl ?_
  refine ezw_aload_n rfl rfl ?_
  refine ezw_iload_n rfl rfl ?_
  refine ezw_call0_3 rfl (by omega) (ezu_at rfl) rfl rfl rfl rfl (ezt_m48_4_1_47 hS (by omega) hu1 hn hc tp st tr di z0 (c3i z0)) ?_
  rintro _ _ ⟨F2, rfl, hS, nF2, st_2, rfl⟩
  refine ezw_aload_n rfl rfl ?_
  refine ezw_call0_0 rfl (by omega) (ezu_at rfl) rfl rfl rfl rfl (ezt_m45_1 hS (by omega)) ?_
  rintro _ _ ⟨rfl, u4, hu4, p3_0, p3_1, rfl⟩
  refine ezw_if_ne rfl rfl ⟨by omega, by omega⟩ (fun h16_4 => ?_) (fun h16_4 => ?_)
  · have hcz : (ezp_cf c t s).1 = 0 := st_2.1.symm.trans (p3_0 (by omega))
    obtain ⟨hcf, hcw⟩ := ezp_cf_0 hP.1 hcz
    obtain ⟨⟨w0, w1⟩, hws, hk8, hk4, hkE⟩ := ezp_cf_w hcw
    have k3 := c3i z0
    have stA : ezt_ST c n s F2 := by
      have h7 := st_2
      rw [hcf] at h7
      exact h7
    refine ezw_aload_n rfl rfl ?_
    refine ezw_dup rfl rfl ?_
    refine ezy_get_i hS rfl rfl rfl rfl rfl rfl (fun u5 hu5 ku5 eu5 => ?_)
    rw [nF2 4 2 (by decide)] at eu5
    replace eu5 := eu5.symm
    subst eu5
    refine ezw_iconst (1) rfl rfl ?_
    refine ezw_iload_n rfl rfl ?_
    refine ezw_ishl rfl (by omega) (by omega) (k := (1 * 2 ^ ((F 1 3)).toNat)) (rfl) ?_
    refine ezw_ior rfl (k := ezw_or (F 4 2) (1 * 2 ^ ((F 1 3)).toNat)) rfl ?_
    refine ezy_put_i hS rfl rfl rfl rfl rfl (by have h7 := ezt_or1 (v := F 4 2) (j := (F 1 3)) 23 (by decide) di.1.1 di.1.2 (by omega) (by omega); exact ⟨by omega, by omega⟩) (fun F6 hS mF6 nF6 => ?_)
    have trA : ezt_TR 47 (t.once (ezp_K c s.2)) F6 A := (ezt_TR_fr tr (by rw [nF6 47 15 (by decide), nF2 47 15 (by decide)]) (by rw [nF6 47 16 (by decide), nF2 47 16 (by decide)]) (by rw [nF6 47 17 (by decide), nF2 47 17 (by decide)]) (by rw [nF6 55 1 (by decide), nF2 55 1 (by decide)]) (fun _ _ _ => rfl))
    have diA : ezt_DI (t.once (ezp_K c s.2)) F6 := ezt_DI_once di w0 w1 (by rw [mF6, k3])
    have nuA : ezt_NU 47 (t.once (ezp_K c s.2)) A := nu z0
    refine ezw_aload_n rfl rfl ?_
    refine ezw_call0_0 rfl (by omega) (ezu_at rfl) rfl rfl rfl rfl (ezt_take hS (by omega) (by rw [nF6 1 2 (by decide), nF2 1 2 (by decide)]; exact hn) hc tp hw (ezt_ST_fr stA (fun j j0 j1 => by rw [nF6 1 j (by omega)]))) ?_
    rintro _ _ ⟨F7, rfl, hS, nF7, st_7, rfl⟩
    refine ezw_iload_n rfl rfl ?_
    by_cases q8 : (F 1 3) = (0)
    · refine ezw_tableswitchE (v := 0) (p := 144) q8 rfl (by rfl) ?_
      refine ezw_aload_n rfl rfl ?_
      refine ezw_aload_n rfl rfl ?_
      refine ezw_call2_2 rfl (by omega) rfl rfl (ezt_m51_1_47 hS (by omega) (by rw [nF7 1 2 (by decide), nF6 1 2 (by decide), nF2 1 2 (by decide)]; exact hn) hc tp hw st_7 (ezt_TR_fr trA (by rw [nF7 47 15 (by decide)]) (by rw [nF7 47 16 (by decide)]) (by rw [nF7 47 17 (by decide)]) (by rw [nF7 55 1 (by decide)]) (fun _ _ _ => rfl)) (hk8 (by omega))) ?_
      rintro _ _ ⟨F9, A9, rfl, hS, nF9, nA9, st_9, tr_9, rfl⟩
      refine ezw_goto rfl rfl ?_
      refine ezw_aload_n rfl rfl ?_
      refine ezw_sipush (259) rfl rfl ?_
      refine ezw_call0_1 rfl (by omega) (ezu_at rfl) rfl rfl rfl rfl (ezt_m56_1 hS (by omega) ⟨by decide, by decide⟩ (by rw [nF9 1 2 (by decide), nF7 1 2 (by decide), nF6 1 2 (by decide), nF2 1 2 (by decide)]; exact hn) (by rw [nA9 2 (by decide)]; exact hc) tp (by rw [nA9 3 (by decide)]; exact hw) st_9) ?_
      rintro _ _ ⟨F10, rfl, hS, nF10, st_10, rfl⟩
      exact ezw_return rfl rfl ⟨F10, A9, rfl, hS, (fun p j h => by rw [nF10 p j (by omega), nF9 p j (by omega), nF7 p j (by omega), nF6 p j (by omega), nF2 p j (by omega)]), (fun p h => by
            funext j
            rw [nA9 p (by omega)]), (by
            rw [ezp_lne_1 hcz, ezp_lw_0 (w := ezp_K c s.2) (by omega)]
            exact st_10), (by
            rw [ezp_lne_1 hcz, ezp_lw_0 (w := ezp_K c s.2) (by omega)]
            exact (ezt_TR_fr tr_9 (by rw [nF10 47 15 (by decide)]) (by rw [nF10 47 16 (by decide)]) (by rw [nF10 47 17 (by decide)]) (by rw [nF10 55 1 (by decide)]) (fun _ _ _ => rfl))), (by
            rw [ezp_lne_1 hcz, ezp_lw_0 (w := ezp_K c s.2) (by omega)]
            intro z
            have z2 := ezp_0w z
            exact ezt_NU_eq nuA ezp_twD_nu.1 (by rw [nA9 61 (by decide)])), (by
            rw [ezp_lne_1 hcz, ezp_lw_0 (w := ezp_K c s.2) (by omega)]
            intro z
            have z2 := ezp_0w z
            exact ezt_DI_eq diA ezp_twD_nu.2 (by rw [nF10 4 2 (by decide), nF9 4 2 (by decide), nF7 4 2 (by decide)])), rfl⟩
    by_cases q11 : (F 1 3) = (1)
    · refine ezw_tableswitchE (v := 1) (p := 277) q11 rfl (by rfl) ?_
      refine ezw_aload_n rfl rfl ?_
      refine ezw_bipush (10) rfl rfl ?_
      refine ezw_aload_n rfl rfl ?_
      refine ezw_iconst (1) rfl rfl ?_
      refine ezw_bipush (15) rfl rfl ?_
      refine ezw_call0_2 rfl (by omega) (ezu_at rfl) rfl rfl rfl rfl (ezt_m57_1 hS (by omega) ⟨by decide, by decide⟩ ⟨by decide, by decide⟩ (by rw [nF7 1 2 (by decide), nF6 1 2 (by decide), nF2 1 2 (by decide)]; exact hn) hc tp hw st_7) ?_
      rintro _ _ ⟨F12, rfl, hS, nF12, u13, hu13, st_12, v_12, p12_2, rfl⟩
      refine ezw_call0_2 rfl (by omega) (ezu_at rfl) rfl rfl rfl rfl (ezt_m69_47 hS (by omega) ⟨by decide, by decide⟩ hu13 (by omega)) ?_
      rintro _ _ ⟨A14, rfl, hS, nA14, m_14, n_14, rfl⟩
      refine ezw_aload_n rfl rfl ?_
      refine ezw_sipush (259) rfl rfl ?_
      refine ezw_call0_1 rfl (by omega) (ezu_at rfl) rfl rfl rfl rfl (ezt_m56_1 hS (by omega) ⟨by decide, by decide⟩ (by rw [nF12 1 2 (by decide), nF7 1 2 (by decide), nF6 1 2 (by decide), nF2 1 2 (by decide)]; exact hn) (by rw [nA14 2 (by decide)]; exact hc) tp (by rw [nA14 3 (by decide)]; exact hw) st_12) ?_
      rintro _ _ ⟨F15, rfl, hS, nF15, st_15, rfl⟩
      exact ezw_return rfl rfl ⟨F15, A14, rfl, hS, (fun p j h => by rw [nF15 p j (by omega), nF12 p j (by omega), nF7 p j (by omega), nF6 p j (by omega), nF2 p j (by omega)]), (fun p h => by
            funext j
            rw [nA14 p (by omega)]), (by
            rw [ezp_lne_1 hcz, ezp_lw_19 (w := ezp_K c s.2) (by omega)]
            exact st_15), (by
            rw [ezp_lne_1 hcz, ezp_lw_19 (w := ezp_K c s.2) (by omega)]
            exact (ezt_TR_fr trA (by rw [nF15 47 15 (by decide), nF12 47 15 (by decide), nF7 47 15 (by decide)]) (by rw [nF15 47 16 (by decide), nF12 47 16 (by decide), nF7 47 16 (by decide)]) (by rw [nF15 47 17 (by decide), nF12 47 17 (by decide), nF7 47 17 (by decide)]) (by rw [nF15 55 1 (by decide), nF12 55 1 (by decide), nF7 55 1 (by decide)]) (fun k k1 k2 => by rw [nA14 (47 + k) (by omega)]))), (by
            rw [ezp_lne_1 hcz, ezp_lw_19 (w := ezp_K c s.2) (by omega)]
            intro z
            have z2 := ezp_0w z
            exact ezt_NU_say (k := 10) nuA ((m_14 (by omega) (by omega)).trans (v_12 z2).1) n_14), (by
            rw [ezp_lne_1 hcz, ezp_lw_19 (w := ezp_K c s.2) (by omega)]
            intro z
            have z2 := ezp_0w z
            exact ezt_DI_eq diA rfl (by rw [nF15 4 2 (by decide), nF12 4 2 (by decide), nF7 4 2 (by decide)])), rfl⟩
    by_cases q16 : (F 1 3) = (2)
    · refine ezw_tableswitchE (v := 2) (p := 277) q16 rfl (by rfl) ?_
      refine ezw_aload_n rfl rfl ?_
      refine ezw_bipush (10) rfl rfl ?_
      refine ezw_aload_n rfl rfl ?_
      refine ezw_iconst (1) rfl rfl ?_
      refine ezw_bipush (15) rfl rfl ?_
      refine ezw_call0_2 rfl (by omega) (ezu_at rfl) rfl rfl rfl rfl (ezt_m57_1 hS (by omega) ⟨by decide, by decide⟩ ⟨by decide, by decide⟩ (by rw [nF7 1 2 (by decide), nF6 1 2 (by decide), nF2 1 2 (by decide)]; exact hn) hc tp hw st_7) ?_
      rintro _ _ ⟨F17, rfl, hS, nF17, u18, hu18, st_17, v_17, p17_2, rfl⟩
      refine ezw_call0_2 rfl (by omega) (ezu_at rfl) rfl rfl rfl rfl (ezt_m69_47 hS (by omega) ⟨by decide, by decide⟩ hu18 (by omega)) ?_
      rintro _ _ ⟨A19, rfl, hS, nA19, m_19, n_19, rfl⟩
      refine ezw_aload_n rfl rfl ?_
      refine ezw_sipush (259) rfl rfl ?_
      refine ezw_call0_1 rfl (by omega) (ezu_at rfl) rfl rfl rfl rfl (ezt_m56_1 hS (by omega) ⟨by decide, by decide⟩ (by rw [nF17 1 2 (by decide), nF7 1 2 (by decide), nF6 1 2 (by decide), nF2 1 2 (by decide)]; exact hn) (by rw [nA19 2 (by decide)]; exact hc) tp (by rw [nA19 3 (by decide)]; exact hw) st_17) ?_
      rintro _ _ ⟨F20, rfl, hS, nF20, st_20, rfl⟩
      exact ezw_return rfl rfl ⟨F20, A19, rfl, hS, (fun p j h => by rw [nF20 p j (by omega), nF17 p j (by omega), nF7 p j (by omega), nF6 p j (by omega), nF2 p j (by omega)]), (fun p h => by
            funext j
            rw [nA19 p (by omega)]), (by
            rw [ezp_lne_1 hcz, ezp_lw_19 (w := ezp_K c s.2) (by omega)]
            exact st_20), (by
            rw [ezp_lne_1 hcz, ezp_lw_19 (w := ezp_K c s.2) (by omega)]
            exact (ezt_TR_fr trA (by rw [nF20 47 15 (by decide), nF17 47 15 (by decide), nF7 47 15 (by decide)]) (by rw [nF20 47 16 (by decide), nF17 47 16 (by decide), nF7 47 16 (by decide)]) (by rw [nF20 47 17 (by decide), nF17 47 17 (by decide), nF7 47 17 (by decide)]) (by rw [nF20 55 1 (by decide), nF17 55 1 (by decide), nF7 55 1 (by decide)]) (fun k k1 k2 => by rw [nA19 (47 + k) (by omega)]))), (by
            rw [ezp_lne_1 hcz, ezp_lw_19 (w := ezp_K c s.2) (by omega)]
            intro z
            have z2 := ezp_0w z
            exact ezt_NU_say (k := 10) nuA ((m_19 (by omega) (by omega)).trans (v_17 z2).1) n_19), (by
            rw [ezp_lne_1 hcz, ezp_lw_19 (w := ezp_K c s.2) (by omega)]
            intro z
            have z2 := ezp_0w z
            exact ezt_DI_eq diA rfl (by rw [nF20 4 2 (by decide), nF17 4 2 (by decide), nF7 4 2 (by decide)])), rfl⟩
    by_cases q21 : (F 1 3) = (3)
    · refine ezw_tableswitchE (v := 3) (p := 277) q21 rfl (by rfl) ?_
      refine ezw_aload_n rfl rfl ?_
      refine ezw_bipush (10) rfl rfl ?_
      refine ezw_aload_n rfl rfl ?_
      refine ezw_iconst (1) rfl rfl ?_
      refine ezw_bipush (15) rfl rfl ?_
      refine ezw_call0_2 rfl (by omega) (ezu_at rfl) rfl rfl rfl rfl (ezt_m57_1 hS (by omega) ⟨by decide, by decide⟩ ⟨by decide, by decide⟩ (by rw [nF7 1 2 (by decide), nF6 1 2 (by decide), nF2 1 2 (by decide)]; exact hn) hc tp hw st_7) ?_
      rintro _ _ ⟨F22, rfl, hS, nF22, u23, hu23, st_22, v_22, p22_2, rfl⟩
      refine ezw_call0_2 rfl (by omega) (ezu_at rfl) rfl rfl rfl rfl (ezt_m69_47 hS (by omega) ⟨by decide, by decide⟩ hu23 (by omega)) ?_
      rintro _ _ ⟨A24, rfl, hS, nA24, m_24, n_24, rfl⟩
      refine ezw_aload_n rfl rfl ?_
      refine ezw_sipush (259) rfl rfl ?_
      refine ezw_call0_1 rfl (by omega) (ezu_at rfl) rfl rfl rfl rfl (ezt_m56_1 hS (by omega) ⟨by decide, by decide⟩ (by rw [nF22 1 2 (by decide), nF7 1 2 (by decide), nF6 1 2 (by decide), nF2 1 2 (by decide)]; exact hn) (by rw [nA24 2 (by decide)]; exact hc) tp (by rw [nA24 3 (by decide)]; exact hw) st_22) ?_
      rintro _ _ ⟨F25, rfl, hS, nF25, st_25, rfl⟩
      exact ezw_return rfl rfl ⟨F25, A24, rfl, hS, (fun p j h => by rw [nF25 p j (by omega), nF22 p j (by omega), nF7 p j (by omega), nF6 p j (by omega), nF2 p j (by omega)]), (fun p h => by
            funext j
            rw [nA24 p (by omega)]), (by
            rw [ezp_lne_1 hcz, ezp_lw_19 (w := ezp_K c s.2) (by omega)]
            exact st_25), (by
            rw [ezp_lne_1 hcz, ezp_lw_19 (w := ezp_K c s.2) (by omega)]
            exact (ezt_TR_fr trA (by rw [nF25 47 15 (by decide), nF22 47 15 (by decide), nF7 47 15 (by decide)]) (by rw [nF25 47 16 (by decide), nF22 47 16 (by decide), nF7 47 16 (by decide)]) (by rw [nF25 47 17 (by decide), nF22 47 17 (by decide), nF7 47 17 (by decide)]) (by rw [nF25 55 1 (by decide), nF22 55 1 (by decide), nF7 55 1 (by decide)]) (fun k k1 k2 => by rw [nA24 (47 + k) (by omega)]))), (by
            rw [ezp_lne_1 hcz, ezp_lw_19 (w := ezp_K c s.2) (by omega)]
            intro z
            have z2 := ezp_0w z
            exact ezt_NU_say (k := 10) nuA ((m_24 (by omega) (by omega)).trans (v_22 z2).1) n_24), (by
            rw [ezp_lne_1 hcz, ezp_lw_19 (w := ezp_K c s.2) (by omega)]
            intro z
            have z2 := ezp_0w z
            exact ezt_DI_eq diA rfl (by rw [nF25 4 2 (by decide), nF22 4 2 (by decide), nF7 4 2 (by decide)])), rfl⟩
    by_cases q26 : (F 1 3) = (4)
    · refine ezw_tableswitchE (v := 4) (p := 277) q26 rfl (by rfl) ?_
      refine ezw_aload_n rfl rfl ?_
      refine ezw_bipush (10) rfl rfl ?_
      refine ezw_aload_n rfl rfl ?_
      refine ezw_iconst (1) rfl rfl ?_
      refine ezw_bipush (15) rfl rfl ?_
      refine ezw_call0_2 rfl (by omega) (ezu_at rfl) rfl rfl rfl rfl (ezt_m57_1 hS (by omega) ⟨by decide, by decide⟩ ⟨by decide, by decide⟩ (by rw [nF7 1 2 (by decide), nF6 1 2 (by decide), nF2 1 2 (by decide)]; exact hn) hc tp hw st_7) ?_
      rintro _ _ ⟨F27, rfl, hS, nF27, u28, hu28, st_27, v_27, p27_2, rfl⟩
      refine ezw_call0_2 rfl (by omega) (ezu_at rfl) rfl rfl rfl rfl (ezt_m69_47 hS (by omega) ⟨by decide, by decide⟩ hu28 (by omega)) ?_
      rintro _ _ ⟨A29, rfl, hS, nA29, m_29, n_29, rfl⟩
      refine ezw_aload_n rfl rfl ?_
      refine ezw_sipush (259) rfl rfl ?_
      refine ezw_call0_1 rfl (by omega) (ezu_at rfl) rfl rfl rfl rfl (ezt_m56_1 hS (by omega) ⟨by decide, by decide⟩ (by rw [nF27 1 2 (by decide), nF7 1 2 (by decide), nF6 1 2 (by decide), nF2 1 2 (by decide)]; exact hn) (by rw [nA29 2 (by decide)]; exact hc) tp (by rw [nA29 3 (by decide)]; exact hw) st_27) ?_
      rintro _ _ ⟨F30, rfl, hS, nF30, st_30, rfl⟩
      exact ezw_return rfl rfl ⟨F30, A29, rfl, hS, (fun p j h => by rw [nF30 p j (by omega), nF27 p j (by omega), nF7 p j (by omega), nF6 p j (by omega), nF2 p j (by omega)]), (fun p h => by
            funext j
            rw [nA29 p (by omega)]), (by
            rw [ezp_lne_1 hcz, ezp_lw_19 (w := ezp_K c s.2) (by omega)]
            exact st_30), (by
            rw [ezp_lne_1 hcz, ezp_lw_19 (w := ezp_K c s.2) (by omega)]
            exact (ezt_TR_fr trA (by rw [nF30 47 15 (by decide), nF27 47 15 (by decide), nF7 47 15 (by decide)]) (by rw [nF30 47 16 (by decide), nF27 47 16 (by decide), nF7 47 16 (by decide)]) (by rw [nF30 47 17 (by decide), nF27 47 17 (by decide), nF7 47 17 (by decide)]) (by rw [nF30 55 1 (by decide), nF27 55 1 (by decide), nF7 55 1 (by decide)]) (fun k k1 k2 => by rw [nA29 (47 + k) (by omega)]))), (by
            rw [ezp_lne_1 hcz, ezp_lw_19 (w := ezp_K c s.2) (by omega)]
            intro z
            have z2 := ezp_0w z
            exact ezt_NU_say (k := 10) nuA ((m_29 (by omega) (by omega)).trans (v_27 z2).1) n_29), (by
            rw [ezp_lne_1 hcz, ezp_lw_19 (w := ezp_K c s.2) (by omega)]
            intro z
            have z2 := ezp_0w z
            exact ezt_DI_eq diA rfl (by rw [nF30 4 2 (by decide), nF27 4 2 (by decide), nF7 4 2 (by decide)])), rfl⟩
    by_cases q31 : (F 1 3) = (5)
    · refine ezw_tableswitchE (v := 5) (p := 152) q31 rfl (by rfl) ?_
      refine ezw_aload_n rfl rfl ?_
      refine ezw_aload_n rfl rfl ?_
      refine ezw_call2_2 rfl (by omega) rfl rfl (ezt_m65_1_47 hS (by omega) (by rw [nF7 1 2 (by decide), nF6 1 2 (by decide), nF2 1 2 (by decide)]; exact hn) hc tp hw st_7 (ezt_TR_fr trA (by rw [nF7 47 15 (by decide)]) (by rw [nF7 47 16 (by decide)]) (by rw [nF7 47 17 (by decide)]) (by rw [nF7 55 1 (by decide)]) (fun _ _ _ => rfl))) ?_
      rintro _ _ ⟨F32, A32, rfl, hS, nF32, nA32, st_32, tr_32, ns_32, rfl⟩
      refine ezw_goto rfl rfl ?_
      refine ezw_aload_n rfl rfl ?_
      refine ezw_sipush (259) rfl rfl ?_
      refine ezw_call0_1 rfl (by omega) (ezu_at rfl) rfl rfl rfl rfl (ezt_m56_1 hS (by omega) ⟨by decide, by decide⟩ (by rw [nF32 1 2 (by decide), nF7 1 2 (by decide), nF6 1 2 (by decide), nF2 1 2 (by decide)]; exact hn) (by rw [nA32 2 (by decide)]; exact hc) tp (by rw [nA32 3 (by decide)]; exact hw) (ezt_ST_fr st_7 (fun j j0 j1 => by rw [nF32 1 j (by omega)]))) ?_
      rintro _ _ ⟨F33, rfl, hS, nF33, st_33, rfl⟩
      exact ezw_return rfl rfl ⟨F33, A32, rfl, hS, (fun p j h => by rw [nF33 p j (by omega), nF32 p j (by omega), nF7 p j (by omega), nF6 p j (by omega), nF2 p j (by omega)]), (fun p h => by
            funext j
            rw [nA32 p (by omega)]), (by
            rw [ezp_lne_1 hcz, ezp_lw_5 (w := ezp_K c s.2) (by omega)]
            exact st_33), (by
            rw [ezp_lne_1 hcz, ezp_lw_5 (w := ezp_K c s.2) (by omega)]
            exact (ezt_TR_fr tr_32 (by rw [nF33 47 15 (by decide)]) (by rw [nF33 47 16 (by decide)]) (by rw [nF33 47 17 (by decide)]) (by rw [nF33 55 1 (by decide)]) (fun _ _ _ => rfl))), (by
            rw [ezp_lne_1 hcz, ezp_lw_5 (w := ezp_K c s.2) (by omega)]
            intro z
            have z2 := ezp_0w z
            exact ezt_NU_eq nuA ns_32.1 (by rw [nA32 61 (by decide)])), (by
            rw [ezp_lne_1 hcz, ezp_lw_5 (w := ezp_K c s.2) (by omega)]
            intro z
            have z2 := ezp_0w z
            exact ezt_DI_eq diA ns_32.2 (by rw [nF33 4 2 (by decide), nF32 4 2 (by decide), nF7 4 2 (by decide)])), rfl⟩
    by_cases q34 : (F 1 3) = (6)
    · refine ezw_tableswitchE (v := 6) (p := 160) q34 rfl (by rfl) ?_
      refine ezw_aload_n rfl rfl ?_
      refine ezw_aload_n rfl rfl ?_
      refine ezw_call2_2 rfl (by omega) rfl rfl (ezt_m68_1_47 hS (by omega) (by rw [nF7 1 2 (by decide), nF6 1 2 (by decide), nF2 1 2 (by decide)]; exact hn) hc tp hw st_7 (ezt_TR_fr trA (by rw [nF7 47 15 (by decide)]) (by rw [nF7 47 16 (by decide)]) (by rw [nF7 47 17 (by decide)]) (by rw [nF7 55 1 (by decide)]) (fun _ _ _ => rfl)) (fun _ => nuA)) ?_
      rintro _ _ ⟨F35, A35, rfl, hS, nF35, nA35, st_35, tr_35, nu_35, rfl⟩
      refine ezw_goto rfl rfl ?_
      refine ezw_aload_n rfl rfl ?_
      refine ezw_sipush (259) rfl rfl ?_
      refine ezw_call0_1 rfl (by omega) (ezu_at rfl) rfl rfl rfl rfl (ezt_m56_1 hS (by omega) ⟨by decide, by decide⟩ (by rw [nF35 1 2 (by decide), nF7 1 2 (by decide), nF6 1 2 (by decide), nF2 1 2 (by decide)]; exact hn) (by rw [nA35 2 (by decide)]; exact hc) tp (by rw [nA35 3 (by decide)]; exact hw) (ezt_ST_fr st_7 (fun j j0 j1 => by rw [nF35 1 j (by omega)]))) ?_
      rintro _ _ ⟨F36, rfl, hS, nF36, st_36, rfl⟩
      exact ezw_return rfl rfl ⟨F36, A35, rfl, hS, (fun p j h => by rw [nF36 p j (by omega), nF35 p j (by omega), nF7 p j (by omega), nF6 p j (by omega), nF2 p j (by omega)]), (fun p h => by
            funext j
            rw [nA35 p (by omega)]), (by
            rw [ezp_lne_1 hcz, ezp_lw_6 (w := ezp_K c s.2) (by omega)]
            exact st_36), (by
            rw [ezp_lne_1 hcz, ezp_lw_6 (w := ezp_K c s.2) (by omega)]
            exact (ezt_TR_fr tr_35 (by rw [nF36 47 15 (by decide)]) (by rw [nF36 47 16 (by decide)]) (by rw [nF36 47 17 (by decide)]) (by rw [nF36 55 1 (by decide)]) (fun _ _ _ => rfl))), (by
            rw [ezp_lne_1 hcz, ezp_lw_6 (w := ezp_K c s.2) (by omega)]
            intro z
            have z2 := ezp_0w z
            exact nu_35 z2), (by
            rw [ezp_lne_1 hcz, ezp_lw_6 (w := ezp_K c s.2) (by omega)]
            intro z
            have z2 := ezp_0w z
            exact ezt_DI_eq diA rfl (by rw [nF36 4 2 (by decide), nF35 4 2 (by decide), nF7 4 2 (by decide)])), rfl⟩
    by_cases q37 : (F 1 3) = (7)
    · refine ezw_tableswitchE (v := 7) (p := 277) q37 rfl (by rfl) ?_
      refine ezw_aload_n rfl rfl ?_
      refine ezw_bipush (10) rfl rfl ?_
      refine ezw_aload_n rfl rfl ?_
      refine ezw_iconst (1) rfl rfl ?_
      refine ezw_bipush (15) rfl rfl ?_
      refine ezw_call0_2 rfl (by omega) (ezu_at rfl) rfl rfl rfl rfl (ezt_m57_1 hS (by omega) ⟨by decide, by decide⟩ ⟨by decide, by decide⟩ (by rw [nF7 1 2 (by decide), nF6 1 2 (by decide), nF2 1 2 (by decide)]; exact hn) hc tp hw st_7) ?_
      rintro _ _ ⟨F38, rfl, hS, nF38, u39, hu39, st_38, v_38, p38_2, rfl⟩
      refine ezw_call0_2 rfl (by omega) (ezu_at rfl) rfl rfl rfl rfl (ezt_m69_47 hS (by omega) ⟨by decide, by decide⟩ hu39 (by omega)) ?_
      rintro _ _ ⟨A40, rfl, hS, nA40, m_40, n_40, rfl⟩
      refine ezw_aload_n rfl rfl ?_
      refine ezw_sipush (259) rfl rfl ?_
      refine ezw_call0_1 rfl (by omega) (ezu_at rfl) rfl rfl rfl rfl (ezt_m56_1 hS (by omega) ⟨by decide, by decide⟩ (by rw [nF38 1 2 (by decide), nF7 1 2 (by decide), nF6 1 2 (by decide), nF2 1 2 (by decide)]; exact hn) (by rw [nA40 2 (by decide)]; exact hc) tp (by rw [nA40 3 (by decide)]; exact hw) st_38) ?_
      rintro _ _ ⟨F41, rfl, hS, nF41, st_41, rfl⟩
      exact ezw_return rfl rfl ⟨F41, A40, rfl, hS, (fun p j h => by rw [nF41 p j (by omega), nF38 p j (by omega), nF7 p j (by omega), nF6 p j (by omega), nF2 p j (by omega)]), (fun p h => by
            funext j
            rw [nA40 p (by omega)]), (by
            rw [ezp_lne_1 hcz, ezp_lw_19 (w := ezp_K c s.2) (by omega)]
            exact st_41), (by
            rw [ezp_lne_1 hcz, ezp_lw_19 (w := ezp_K c s.2) (by omega)]
            exact (ezt_TR_fr trA (by rw [nF41 47 15 (by decide), nF38 47 15 (by decide), nF7 47 15 (by decide)]) (by rw [nF41 47 16 (by decide), nF38 47 16 (by decide), nF7 47 16 (by decide)]) (by rw [nF41 47 17 (by decide), nF38 47 17 (by decide), nF7 47 17 (by decide)]) (by rw [nF41 55 1 (by decide), nF38 55 1 (by decide), nF7 55 1 (by decide)]) (fun k k1 k2 => by rw [nA40 (47 + k) (by omega)]))), (by
            rw [ezp_lne_1 hcz, ezp_lw_19 (w := ezp_K c s.2) (by omega)]
            intro z
            have z2 := ezp_0w z
            exact ezt_NU_say (k := 10) nuA ((m_40 (by omega) (by omega)).trans (v_38 z2).1) n_40), (by
            rw [ezp_lne_1 hcz, ezp_lw_19 (w := ezp_K c s.2) (by omega)]
            intro z
            have z2 := ezp_0w z
            exact ezt_DI_eq diA rfl (by rw [nF41 4 2 (by decide), nF38 4 2 (by decide), nF7 4 2 (by decide)])), rfl⟩
    by_cases q42 : (F 1 3) = (8)
    · refine ezw_tableswitchE (v := 8) (p := 277) q42 rfl (by rfl) ?_
      refine ezw_aload_n rfl rfl ?_
      refine ezw_bipush (10) rfl rfl ?_
      refine ezw_aload_n rfl rfl ?_
      refine ezw_iconst (1) rfl rfl ?_
      refine ezw_bipush (15) rfl rfl ?_
      refine ezw_call0_2 rfl (by omega) (ezu_at rfl) rfl rfl rfl rfl (ezt_m57_1 hS (by omega) ⟨by decide, by decide⟩ ⟨by decide, by decide⟩ (by rw [nF7 1 2 (by decide), nF6 1 2 (by decide), nF2 1 2 (by decide)]; exact hn) hc tp hw st_7) ?_
      rintro _ _ ⟨F43, rfl, hS, nF43, u44, hu44, st_43, v_43, p43_2, rfl⟩
      refine ezw_call0_2 rfl (by omega) (ezu_at rfl) rfl rfl rfl rfl (ezt_m69_47 hS (by omega) ⟨by decide, by decide⟩ hu44 (by omega)) ?_
      rintro _ _ ⟨A45, rfl, hS, nA45, m_45, n_45, rfl⟩
      refine ezw_aload_n rfl rfl ?_
      refine ezw_sipush (259) rfl rfl ?_
      refine ezw_call0_1 rfl (by omega) (ezu_at rfl) rfl rfl rfl rfl (ezt_m56_1 hS (by omega) ⟨by decide, by decide⟩ (by rw [nF43 1 2 (by decide), nF7 1 2 (by decide), nF6 1 2 (by decide), nF2 1 2 (by decide)]; exact hn) (by rw [nA45 2 (by decide)]; exact hc) tp (by rw [nA45 3 (by decide)]; exact hw) st_43) ?_
      rintro _ _ ⟨F46, rfl, hS, nF46, st_46, rfl⟩
      exact ezw_return rfl rfl ⟨F46, A45, rfl, hS, (fun p j h => by rw [nF46 p j (by omega), nF43 p j (by omega), nF7 p j (by omega), nF6 p j (by omega), nF2 p j (by omega)]), (fun p h => by
            funext j
            rw [nA45 p (by omega)]), (by
            rw [ezp_lne_1 hcz, ezp_lw_19 (w := ezp_K c s.2) (by omega)]
            exact st_46), (by
            rw [ezp_lne_1 hcz, ezp_lw_19 (w := ezp_K c s.2) (by omega)]
            exact (ezt_TR_fr trA (by rw [nF46 47 15 (by decide), nF43 47 15 (by decide), nF7 47 15 (by decide)]) (by rw [nF46 47 16 (by decide), nF43 47 16 (by decide), nF7 47 16 (by decide)]) (by rw [nF46 47 17 (by decide), nF43 47 17 (by decide), nF7 47 17 (by decide)]) (by rw [nF46 55 1 (by decide), nF43 55 1 (by decide), nF7 55 1 (by decide)]) (fun k k1 k2 => by rw [nA45 (47 + k) (by omega)]))), (by
            rw [ezp_lne_1 hcz, ezp_lw_19 (w := ezp_K c s.2) (by omega)]
            intro z
            have z2 := ezp_0w z
            exact ezt_NU_say (k := 10) nuA ((m_45 (by omega) (by omega)).trans (v_43 z2).1) n_45), (by
            rw [ezp_lne_1 hcz, ezp_lw_19 (w := ezp_K c s.2) (by omega)]
            intro z
            have z2 := ezp_0w z
            exact ezt_DI_eq diA rfl (by rw [nF46 4 2 (by decide), nF43 4 2 (by decide), nF7 4 2 (by decide)])), rfl⟩
    by_cases q47 : (F 1 3) = (9)
    · refine ezw_tableswitchE (v := 9) (p := 168) q47 rfl (by rfl) ?_
      refine ezw_aload_n rfl rfl ?_
      refine ezw_aload_n rfl rfl ?_
      refine ezw_call2_2 rfl (by omega) rfl rfl (ezt_m70_1_47 hS (by omega) (by rw [nF7 1 2 (by decide), nF6 1 2 (by decide), nF2 1 2 (by decide)]; exact hn) hc tp hw st_7 (ezt_TR_fr trA (by rw [nF7 47 15 (by decide)]) (by rw [nF7 47 16 (by decide)]) (by rw [nF7 47 17 (by decide)]) (by rw [nF7 55 1 (by decide)]) (fun _ _ _ => rfl)) (hk4 (by omega))) ?_
      rintro _ _ ⟨F48, A48, rfl, hS, nF48, nA48, st_48, tr_48, rfl⟩
      refine ezw_goto rfl rfl ?_
      refine ezw_aload_n rfl rfl ?_
      refine ezw_sipush (259) rfl rfl ?_
      refine ezw_call0_1 rfl (by omega) (ezu_at rfl) rfl rfl rfl rfl (ezt_m56_1 hS (by omega) ⟨by decide, by decide⟩ (by rw [nF48 1 2 (by decide), nF7 1 2 (by decide), nF6 1 2 (by decide), nF2 1 2 (by decide)]; exact hn) (by rw [nA48 2 (by decide)]; exact hc) tp (by rw [nA48 3 (by decide)]; exact hw) (ezt_ST_fr st_7 (fun j j0 j1 => by rw [nF48 1 j (by omega)]))) ?_
      rintro _ _ ⟨F49, rfl, hS, nF49, st_49, rfl⟩
      exact ezw_return rfl rfl ⟨F49, A48, rfl, hS, (fun p j h => by rw [nF49 p j (by omega), nF48 p j (by omega), nF7 p j (by omega), nF6 p j (by omega), nF2 p j (by omega)]), (fun p h => by
            funext j
            rw [nA48 p (by omega)]), (by
            rw [ezp_lne_1 hcz, ezp_lw_9 (w := ezp_K c s.2) (by omega)]
            exact st_49), (by
            rw [ezp_lne_1 hcz, ezp_lw_9 (w := ezp_K c s.2) (by omega)]
            exact (ezt_TR_fr tr_48 (by rw [nF49 47 15 (by decide)]) (by rw [nF49 47 16 (by decide)]) (by rw [nF49 47 17 (by decide)]) (by rw [nF49 55 1 (by decide)]) (fun _ _ _ => rfl))), (by
            rw [ezp_lne_1 hcz, ezp_lw_9 (w := ezp_K c s.2) (by omega)]
            intro z
            have z2 := ezp_0w z
            exact ezt_NU_eq nuA ezp_thD_nu.1 (by rw [nA48 61 (by decide)])), (by
            rw [ezp_lne_1 hcz, ezp_lw_9 (w := ezp_K c s.2) (by omega)]
            intro z
            have z2 := ezp_0w z
            exact ezt_DI_eq diA ezp_thD_nu.2 (by rw [nF49 4 2 (by decide), nF48 4 2 (by decide), nF7 4 2 (by decide)])), rfl⟩
    by_cases q50 : (F 1 3) = (10)
    · refine ezw_tableswitchE (v := 10) (p := 277) q50 rfl (by rfl) ?_
      refine ezw_aload_n rfl rfl ?_
      refine ezw_bipush (10) rfl rfl ?_
      refine ezw_aload_n rfl rfl ?_
      refine ezw_iconst (1) rfl rfl ?_
      refine ezw_bipush (15) rfl rfl ?_
      refine ezw_call0_2 rfl (by omega) (ezu_at rfl) rfl rfl rfl rfl (ezt_m57_1 hS (by omega) ⟨by decide, by decide⟩ ⟨by decide, by decide⟩ (by rw [nF7 1 2 (by decide), nF6 1 2 (by decide), nF2 1 2 (by decide)]; exact hn) hc tp hw st_7) ?_
      rintro _ _ ⟨F51, rfl, hS, nF51, u52, hu52, st_51, v_51, p51_2, rfl⟩
      refine ezw_call0_2 rfl (by omega) (ezu_at rfl) rfl rfl rfl rfl (ezt_m69_47 hS (by omega) ⟨by decide, by decide⟩ hu52 (by omega)) ?_
      rintro _ _ ⟨A53, rfl, hS, nA53, m_53, n_53, rfl⟩
      refine ezw_aload_n rfl rfl ?_
      refine ezw_sipush (259) rfl rfl ?_
      refine ezw_call0_1 rfl (by omega) (ezu_at rfl) rfl rfl rfl rfl (ezt_m56_1 hS (by omega) ⟨by decide, by decide⟩ (by rw [nF51 1 2 (by decide), nF7 1 2 (by decide), nF6 1 2 (by decide), nF2 1 2 (by decide)]; exact hn) (by rw [nA53 2 (by decide)]; exact hc) tp (by rw [nA53 3 (by decide)]; exact hw) st_51) ?_
      rintro _ _ ⟨F54, rfl, hS, nF54, st_54, rfl⟩
      exact ezw_return rfl rfl ⟨F54, A53, rfl, hS, (fun p j h => by rw [nF54 p j (by omega), nF51 p j (by omega), nF7 p j (by omega), nF6 p j (by omega), nF2 p j (by omega)]), (fun p h => by
            funext j
            rw [nA53 p (by omega)]), (by
            rw [ezp_lne_1 hcz, ezp_lw_19 (w := ezp_K c s.2) (by omega)]
            exact st_54), (by
            rw [ezp_lne_1 hcz, ezp_lw_19 (w := ezp_K c s.2) (by omega)]
            exact (ezt_TR_fr trA (by rw [nF54 47 15 (by decide), nF51 47 15 (by decide), nF7 47 15 (by decide)]) (by rw [nF54 47 16 (by decide), nF51 47 16 (by decide), nF7 47 16 (by decide)]) (by rw [nF54 47 17 (by decide), nF51 47 17 (by decide), nF7 47 17 (by decide)]) (by rw [nF54 55 1 (by decide), nF51 55 1 (by decide), nF7 55 1 (by decide)]) (fun k k1 k2 => by rw [nA53 (47 + k) (by omega)]))), (by
            rw [ezp_lne_1 hcz, ezp_lw_19 (w := ezp_K c s.2) (by omega)]
            intro z
            have z2 := ezp_0w z
            exact ezt_NU_say (k := 10) nuA ((m_53 (by omega) (by omega)).trans (v_51 z2).1) n_53), (by
            rw [ezp_lne_1 hcz, ezp_lw_19 (w := ezp_K c s.2) (by omega)]
            intro z
            have z2 := ezp_0w z
            exact ezt_DI_eq diA rfl (by rw [nF54 4 2 (by decide), nF51 4 2 (by decide), nF7 4 2 (by decide)])), rfl⟩
    by_cases q55 : (F 1 3) = (11)
    · refine ezw_tableswitchE (v := 11) (p := 277) q55 rfl (by rfl) ?_
      refine ezw_aload_n rfl rfl ?_
      refine ezw_bipush (10) rfl rfl ?_
      refine ezw_aload_n rfl rfl ?_
      refine ezw_iconst (1) rfl rfl ?_
      refine ezw_bipush (15) rfl rfl ?_
      refine ezw_call0_2 rfl (by omega) (ezu_at rfl) rfl rfl rfl rfl (ezt_m57_1 hS (by omega) ⟨by decide, by decide⟩ ⟨by decide, by decide⟩ (by rw [nF7 1 2 (by decide), nF6 1 2 (by decide), nF2 1 2 (by decide)]; exact hn) hc tp hw st_7) ?_
      rintro _ _ ⟨F56, rfl, hS, nF56, u57, hu57, st_56, v_56, p56_2, rfl⟩
      refine ezw_call0_2 rfl (by omega) (ezu_at rfl) rfl rfl rfl rfl (ezt_m69_47 hS (by omega) ⟨by decide, by decide⟩ hu57 (by omega)) ?_
      rintro _ _ ⟨A58, rfl, hS, nA58, m_58, n_58, rfl⟩
      refine ezw_aload_n rfl rfl ?_
      refine ezw_sipush (259) rfl rfl ?_
      refine ezw_call0_1 rfl (by omega) (ezu_at rfl) rfl rfl rfl rfl (ezt_m56_1 hS (by omega) ⟨by decide, by decide⟩ (by rw [nF56 1 2 (by decide), nF7 1 2 (by decide), nF6 1 2 (by decide), nF2 1 2 (by decide)]; exact hn) (by rw [nA58 2 (by decide)]; exact hc) tp (by rw [nA58 3 (by decide)]; exact hw) st_56) ?_
      rintro _ _ ⟨F59, rfl, hS, nF59, st_59, rfl⟩
      exact ezw_return rfl rfl ⟨F59, A58, rfl, hS, (fun p j h => by rw [nF59 p j (by omega), nF56 p j (by omega), nF7 p j (by omega), nF6 p j (by omega), nF2 p j (by omega)]), (fun p h => by
            funext j
            rw [nA58 p (by omega)]), (by
            rw [ezp_lne_1 hcz, ezp_lw_19 (w := ezp_K c s.2) (by omega)]
            exact st_59), (by
            rw [ezp_lne_1 hcz, ezp_lw_19 (w := ezp_K c s.2) (by omega)]
            exact (ezt_TR_fr trA (by rw [nF59 47 15 (by decide), nF56 47 15 (by decide), nF7 47 15 (by decide)]) (by rw [nF59 47 16 (by decide), nF56 47 16 (by decide), nF7 47 16 (by decide)]) (by rw [nF59 47 17 (by decide), nF56 47 17 (by decide), nF7 47 17 (by decide)]) (by rw [nF59 55 1 (by decide), nF56 55 1 (by decide), nF7 55 1 (by decide)]) (fun k k1 k2 => by rw [nA58 (47 + k) (by omega)]))), (by
            rw [ezp_lne_1 hcz, ezp_lw_19 (w := ezp_K c s.2) (by omega)]
            intro z
            have z2 := ezp_0w z
            exact ezt_NU_say (k := 10) nuA ((m_58 (by omega) (by omega)).trans (v_56 z2).1) n_58), (by
            rw [ezp_lne_1 hcz, ezp_lw_19 (w := ezp_K c s.2) (by omega)]
            intro z
            have z2 := ezp_0w z
            exact ezt_DI_eq diA rfl (by rw [nF59 4 2 (by decide), nF56 4 2 (by decide), nF7 4 2 (by decide)])), rfl⟩
    by_cases q60 : (F 1 3) = (12)
    · refine ezw_tableswitchE (v := 12) (p := 176) q60 rfl (by rfl) ?_
      refine ezw_aload_n rfl rfl ?_
      refine ezw_aload_n rfl rfl ?_
      refine ezw_call2_2 rfl (by omega) rfl rfl (ezt_m72_1_47 hS (by omega) (by rw [nF7 1 2 (by decide), nF6 1 2 (by decide), nF2 1 2 (by decide)]; exact hn) hc tp hw st_7 (ezt_TR_fr trA (by rw [nF7 47 15 (by decide)]) (by rw [nF7 47 16 (by decide)]) (by rw [nF7 47 17 (by decide)]) (by rw [nF7 55 1 (by decide)]) (fun _ _ _ => rfl))) ?_
      rintro _ _ ⟨F61, A61, rfl, hS, nF61, nA61, st_61, tr_61, rfl⟩
      refine ezw_goto rfl rfl ?_
      refine ezw_aload_n rfl rfl ?_
      refine ezw_sipush (259) rfl rfl ?_
      refine ezw_call0_1 rfl (by omega) (ezu_at rfl) rfl rfl rfl rfl (ezt_m56_1 hS (by omega) ⟨by decide, by decide⟩ (by rw [nF61 1 2 (by decide), nF7 1 2 (by decide), nF6 1 2 (by decide), nF2 1 2 (by decide)]; exact hn) (by rw [nA61 2 (by decide)]; exact hc) tp (by rw [nA61 3 (by decide)]; exact hw) (ezt_ST_fr st_7 (fun j j0 j1 => by rw [nF61 1 j (by omega)]))) ?_
      rintro _ _ ⟨F62, rfl, hS, nF62, st_62, rfl⟩
      exact ezw_return rfl rfl ⟨F62, A61, rfl, hS, (fun p j h => by rw [nF62 p j (by omega), nF61 p j (by omega), nF7 p j (by omega), nF6 p j (by omega), nF2 p j (by omega)]), (fun p h => by
            funext j
            rw [nA61 p (by omega)]), (by
            rw [ezp_lne_1 hcz, ezp_lw_12 (w := ezp_K c s.2) (by omega)]
            exact st_62), (by
            rw [ezp_lne_1 hcz, ezp_lw_12 (w := ezp_K c s.2) (by omega)]
            exact (ezt_TR_fr tr_61 (by rw [nF62 47 15 (by decide)]) (by rw [nF62 47 16 (by decide)]) (by rw [nF62 47 17 (by decide)]) (by rw [nF62 55 1 (by decide)]) (fun _ _ _ => rfl))), (by
            rw [ezp_lne_1 hcz, ezp_lw_12 (w := ezp_K c s.2) (by omega)]
            intro z
            have z2 := ezp_0w z
            exact ezt_NU_eq nuA ezp_ovD_nu.1 (by rw [nA61 61 (by decide)])), (by
            rw [ezp_lne_1 hcz, ezp_lw_12 (w := ezp_K c s.2) (by omega)]
            intro z
            have z2 := ezp_0w z
            exact ezt_DI_eq diA ezp_ovD_nu.2 (by rw [nF62 4 2 (by decide), nF61 4 2 (by decide), nF7 4 2 (by decide)])), rfl⟩
    by_cases q63 : (F 1 3) = (13)
    · refine ezw_tableswitchE (v := 13) (p := 184) q63 rfl (by rfl) ?_
      refine ezw_aload_n rfl rfl ?_
      refine ezw_aload_n rfl rfl ?_
      refine ezw_call2_2 rfl (by omega) rfl rfl (ezt_m75_1_47 hS (by omega) (by rw [nF7 1 2 (by decide), nF6 1 2 (by decide), nF2 1 2 (by decide)]; exact hn) hc tp hw st_7 (ezt_TR_fr trA (by rw [nF7 47 15 (by decide)]) (by rw [nF7 47 16 (by decide)]) (by rw [nF7 47 17 (by decide)]) (by rw [nF7 55 1 (by decide)]) (fun _ _ _ => rfl)) (fun _ => nuA)) ?_
      rintro _ _ ⟨F64, A64, rfl, hS, nF64, nA64, st_64, tr_64, nu_64, rfl⟩
      refine ezw_goto rfl rfl ?_
      refine ezw_aload_n rfl rfl ?_
      refine ezw_sipush (259) rfl rfl ?_
      refine ezw_call0_1 rfl (by omega) (ezu_at rfl) rfl rfl rfl rfl (ezt_m56_1 hS (by omega) ⟨by decide, by decide⟩ (by rw [nF64 1 2 (by decide), nF7 1 2 (by decide), nF6 1 2 (by decide), nF2 1 2 (by decide)]; exact hn) (by rw [nA64 2 (by decide)]; exact hc) tp (by rw [nA64 3 (by decide)]; exact hw) (ezt_ST_fr st_7 (fun j j0 j1 => by rw [nF64 1 j (by omega)]))) ?_
      rintro _ _ ⟨F65, rfl, hS, nF65, st_65, rfl⟩
      exact ezw_return rfl rfl ⟨F65, A64, rfl, hS, (fun p j h => by rw [nF65 p j (by omega), nF64 p j (by omega), nF7 p j (by omega), nF6 p j (by omega), nF2 p j (by omega)]), (fun p h => by
            funext j
            rw [nA64 p (by omega)]), (by
            rw [ezp_lne_1 hcz, ezp_lw_13 (w := ezp_K c s.2) (by omega)]
            exact st_65), (by
            rw [ezp_lne_1 hcz, ezp_lw_13 (w := ezp_K c s.2) (by omega)]
            exact (ezt_TR_fr tr_64 (by rw [nF65 47 15 (by decide)]) (by rw [nF65 47 16 (by decide)]) (by rw [nF65 47 17 (by decide)]) (by rw [nF65 55 1 (by decide)]) (fun _ _ _ => rfl))), (by
            rw [ezp_lne_1 hcz, ezp_lw_13 (w := ezp_K c s.2) (by omega)]
            intro z
            have z2 := ezp_0w z
            exact nu_64 z2), (by
            rw [ezp_lne_1 hcz, ezp_lw_13 (w := ezp_K c s.2) (by omega)]
            intro z
            have z2 := ezp_0w z
            exact ezt_DI_eq diA rfl (by rw [nF65 4 2 (by decide), nF64 4 2 (by decide), nF7 4 2 (by decide)])), rfl⟩
    by_cases q66 : (F 1 3) = (14)
    · refine ezw_tableswitchE (v := 14) (p := 230) q66 rfl (by rfl) ?_
      refine ezw_aload_n rfl rfl ?_
      refine ezw_iconst (5) rfl rfl ?_
      refine ezw_aload_n rfl rfl ?_
      refine ezw_iconst (0) rfl rfl ?_
      refine ezw_bipush (10) rfl rfl ?_
      refine ezw_call0_2 rfl (by omega) (ezu_at rfl) rfl rfl rfl rfl (ezt_m57_1 hS (by omega) ⟨by decide, by decide⟩ ⟨by decide, by decide⟩ (by rw [nF7 1 2 (by decide), nF6 1 2 (by decide), nF2 1 2 (by decide)]; exact hn) hc tp hw st_7) ?_
      rintro _ _ ⟨F67, rfl, hS, nF67, u68, hu68, st_67, v_67, p67_2, rfl⟩
      refine ezw_call0_2 rfl (by omega) (ezu_at rfl) rfl rfl rfl rfl (ezt_m69_47 hS (by omega) ⟨by decide, by decide⟩ hu68 (by omega)) ?_
      rintro _ _ ⟨A69, rfl, hS, nA69, m_69, n_69, rfl⟩
      refine ezw_goto rfl rfl ?_
      refine ezw_aload_n rfl rfl ?_
      refine ezw_sipush (259) rfl rfl ?_
      refine ezw_call0_1 rfl (by omega) (ezu_at rfl) rfl rfl rfl rfl (ezt_m56_1 hS (by omega) ⟨by decide, by decide⟩ (by rw [nF67 1 2 (by decide), nF7 1 2 (by decide), nF6 1 2 (by decide), nF2 1 2 (by decide)]; exact hn) (by rw [nA69 2 (by decide)]; exact hc) tp (by rw [nA69 3 (by decide)]; exact hw) st_67) ?_
      rintro _ _ ⟨F70, rfl, hS, nF70, st_70, rfl⟩
      exact ezw_return rfl rfl ⟨F70, A69, rfl, hS, (fun p j h => by rw [nF70 p j (by omega), nF67 p j (by omega), nF7 p j (by omega), nF6 p j (by omega), nF2 p j (by omega)]), (fun p h => by
            funext j
            rw [nA69 p (by omega)]), (by
            rw [ezp_lne_1 hcz, ezp_lw_14 (w := ezp_K c s.2) (by omega)]
            exact st_70), (by
            rw [ezp_lne_1 hcz, ezp_lw_14 (w := ezp_K c s.2) (by omega)]
            exact (ezt_TR_fr trA (by rw [nF70 47 15 (by decide), nF67 47 15 (by decide), nF7 47 15 (by decide)]) (by rw [nF70 47 16 (by decide), nF67 47 16 (by decide), nF7 47 16 (by decide)]) (by rw [nF70 47 17 (by decide), nF67 47 17 (by decide), nF7 47 17 (by decide)]) (by rw [nF70 55 1 (by decide), nF67 55 1 (by decide), nF7 55 1 (by decide)]) (fun k k1 k2 => by rw [nA69 (47 + k) (by omega)]))), (by
            rw [ezp_lne_1 hcz, ezp_lw_14 (w := ezp_K c s.2) (by omega)]
            intro z
            have z2 := ezp_0w z
            exact ezt_NU_say (k := 5) nuA ((m_69 (by omega) (by omega)).trans (v_67 z2).1) n_69), (by
            rw [ezp_lne_1 hcz, ezp_lw_14 (w := ezp_K c s.2) (by omega)]
            intro z
            have z2 := ezp_0w z
            exact ezt_DI_eq diA rfl (by rw [nF70 4 2 (by decide), nF67 4 2 (by decide), nF7 4 2 (by decide)])), rfl⟩
    by_cases q71 : (F 1 3) = (15)
    · refine ezw_tableswitchE (v := 15) (p := 245) q71 rfl (by rfl) ?_
      refine ezw_aload_n rfl rfl ?_
      refine ezw_bipush (6) rfl rfl ?_
      refine ezw_aload_n rfl rfl ?_
      refine ezw_iconst (0) rfl rfl ?_
      refine ezw_bipush (9) rfl rfl ?_
      refine ezw_call0_2 rfl (by omega) (ezu_at rfl) rfl rfl rfl rfl (ezt_m57_1 hS (by omega) ⟨by decide, by decide⟩ ⟨by decide, by decide⟩ (by rw [nF7 1 2 (by decide), nF6 1 2 (by decide), nF2 1 2 (by decide)]; exact hn) hc tp hw st_7) ?_
      rintro _ _ ⟨F72, rfl, hS, nF72, u73, hu73, st_72, v_72, p72_2, rfl⟩
      refine ezw_call0_2 rfl (by omega) (ezu_at rfl) rfl rfl rfl rfl (ezt_m69_47 hS (by omega) ⟨by decide, by decide⟩ hu73 (by omega)) ?_
      rintro _ _ ⟨A74, rfl, hS, nA74, m_74, n_74, rfl⟩
      refine ezw_goto rfl rfl ?_
      refine ezw_aload_n rfl rfl ?_
      refine ezw_sipush (259) rfl rfl ?_
      refine ezw_call0_1 rfl (by omega) (ezu_at rfl) rfl rfl rfl rfl (ezt_m56_1 hS (by omega) ⟨by decide, by decide⟩ (by rw [nF72 1 2 (by decide), nF7 1 2 (by decide), nF6 1 2 (by decide), nF2 1 2 (by decide)]; exact hn) (by rw [nA74 2 (by decide)]; exact hc) tp (by rw [nA74 3 (by decide)]; exact hw) st_72) ?_
      rintro _ _ ⟨F75, rfl, hS, nF75, st_75, rfl⟩
      exact ezw_return rfl rfl ⟨F75, A74, rfl, hS, (fun p j h => by rw [nF75 p j (by omega), nF72 p j (by omega), nF7 p j (by omega), nF6 p j (by omega), nF2 p j (by omega)]), (fun p h => by
            funext j
            rw [nA74 p (by omega)]), (by
            rw [ezp_lne_1 hcz, ezp_lw_15 (w := ezp_K c s.2) (by omega)]
            exact st_75), (by
            rw [ezp_lne_1 hcz, ezp_lw_15 (w := ezp_K c s.2) (by omega)]
            exact (ezt_TR_fr trA (by rw [nF75 47 15 (by decide), nF72 47 15 (by decide), nF7 47 15 (by decide)]) (by rw [nF75 47 16 (by decide), nF72 47 16 (by decide), nF7 47 16 (by decide)]) (by rw [nF75 47 17 (by decide), nF72 47 17 (by decide), nF7 47 17 (by decide)]) (by rw [nF75 55 1 (by decide), nF72 55 1 (by decide), nF7 55 1 (by decide)]) (fun k k1 k2 => by rw [nA74 (47 + k) (by omega)]))), (by
            rw [ezp_lne_1 hcz, ezp_lw_15 (w := ezp_K c s.2) (by omega)]
            intro z
            have z2 := ezp_0w z
            exact ezt_NU_say (k := 6) nuA ((m_74 (by omega) (by omega)).trans (v_72 z2).1) n_74), (by
            rw [ezp_lne_1 hcz, ezp_lw_15 (w := ezp_K c s.2) (by omega)]
            intro z
            have z2 := ezp_0w z
            exact ezt_DI_eq diA rfl (by rw [nF75 4 2 (by decide), nF72 4 2 (by decide), nF7 4 2 (by decide)])), rfl⟩
    by_cases q76 : (F 1 3) = (16)
    · refine ezw_tableswitchE (v := 16) (p := 192) q76 rfl (by rfl) ?_
      refine ezw_aload_n rfl rfl ?_
      refine ezw_aload_n rfl rfl ?_
      refine ezw_call2_2 rfl (by omega) rfl rfl (ezt_m76_1_47 hS (by omega) (by rw [nF7 1 2 (by decide), nF6 1 2 (by decide), nF2 1 2 (by decide)]; exact hn) hc tp hw st_7 (ezt_TR_fr trA (by rw [nF7 47 15 (by decide)]) (by rw [nF7 47 16 (by decide)]) (by rw [nF7 47 17 (by decide)]) (by rw [nF7 55 1 (by decide)]) (fun _ _ _ => rfl)) (fun _ => nuA)) ?_
      rintro _ _ ⟨F77, A77, rfl, hS, nF77, nA77, st_77, tr_77, nu_77, rfl⟩
      refine ezw_goto rfl rfl ?_
      refine ezw_aload_n rfl rfl ?_
      refine ezw_sipush (259) rfl rfl ?_
      refine ezw_call0_1 rfl (by omega) (ezu_at rfl) rfl rfl rfl rfl (ezt_m56_1 hS (by omega) ⟨by decide, by decide⟩ (by rw [nF77 1 2 (by decide), nF7 1 2 (by decide), nF6 1 2 (by decide), nF2 1 2 (by decide)]; exact hn) (by rw [nA77 2 (by decide)]; exact hc) tp (by rw [nA77 3 (by decide)]; exact hw) (ezt_ST_fr st_7 (fun j j0 j1 => by rw [nF77 1 j (by omega)]))) ?_
      rintro _ _ ⟨F78, rfl, hS, nF78, st_78, rfl⟩
      exact ezw_return rfl rfl ⟨F78, A77, rfl, hS, (fun p j h => by rw [nF78 p j (by omega), nF77 p j (by omega), nF7 p j (by omega), nF6 p j (by omega), nF2 p j (by omega)]), (fun p h => by
            funext j
            rw [nA77 p (by omega)]), (by
            rw [ezp_lne_1 hcz, ezp_lw_16 (w := ezp_K c s.2) (by omega)]
            exact st_78), (by
            rw [ezp_lne_1 hcz, ezp_lw_16 (w := ezp_K c s.2) (by omega)]
            exact (ezt_TR_fr tr_77 (by rw [nF78 47 15 (by decide)]) (by rw [nF78 47 16 (by decide)]) (by rw [nF78 47 17 (by decide)]) (by rw [nF78 55 1 (by decide)]) (fun _ _ _ => rfl))), (by
            rw [ezp_lne_1 hcz, ezp_lw_16 (w := ezp_K c s.2) (by omega)]
            intro z
            have z2 := ezp_0w z
            exact nu_77 z2), (by
            rw [ezp_lne_1 hcz, ezp_lw_16 (w := ezp_K c s.2) (by omega)]
            intro z
            have z2 := ezp_0w z
            exact ezt_DI_eq diA rfl (by rw [nF78 4 2 (by decide), nF77 4 2 (by decide), nF7 4 2 (by decide)])), rfl⟩
    by_cases q79 : (F 1 3) = (17)
    · refine ezw_tableswitchE (v := 17) (p := 277) q79 rfl (by rfl) ?_
      refine ezw_aload_n rfl rfl ?_
      refine ezw_bipush (10) rfl rfl ?_
      refine ezw_aload_n rfl rfl ?_
      refine ezw_iconst (1) rfl rfl ?_
      refine ezw_bipush (15) rfl rfl ?_
      refine ezw_call0_2 rfl (by omega) (ezu_at rfl) rfl rfl rfl rfl (ezt_m57_1 hS (by omega) ⟨by decide, by decide⟩ ⟨by decide, by decide⟩ (by rw [nF7 1 2 (by decide), nF6 1 2 (by decide), nF2 1 2 (by decide)]; exact hn) hc tp hw st_7) ?_
      rintro _ _ ⟨F80, rfl, hS, nF80, u81, hu81, st_80, v_80, p80_2, rfl⟩
      refine ezw_call0_2 rfl (by omega) (ezu_at rfl) rfl rfl rfl rfl (ezt_m69_47 hS (by omega) ⟨by decide, by decide⟩ hu81 (by omega)) ?_
      rintro _ _ ⟨A82, rfl, hS, nA82, m_82, n_82, rfl⟩
      refine ezw_aload_n rfl rfl ?_
      refine ezw_sipush (259) rfl rfl ?_
      refine ezw_call0_1 rfl (by omega) (ezu_at rfl) rfl rfl rfl rfl (ezt_m56_1 hS (by omega) ⟨by decide, by decide⟩ (by rw [nF80 1 2 (by decide), nF7 1 2 (by decide), nF6 1 2 (by decide), nF2 1 2 (by decide)]; exact hn) (by rw [nA82 2 (by decide)]; exact hc) tp (by rw [nA82 3 (by decide)]; exact hw) st_80) ?_
      rintro _ _ ⟨F83, rfl, hS, nF83, st_83, rfl⟩
      exact ezw_return rfl rfl ⟨F83, A82, rfl, hS, (fun p j h => by rw [nF83 p j (by omega), nF80 p j (by omega), nF7 p j (by omega), nF6 p j (by omega), nF2 p j (by omega)]), (fun p h => by
            funext j
            rw [nA82 p (by omega)]), (by
            rw [ezp_lne_1 hcz, ezp_lw_19 (w := ezp_K c s.2) (by omega)]
            exact st_83), (by
            rw [ezp_lne_1 hcz, ezp_lw_19 (w := ezp_K c s.2) (by omega)]
            exact (ezt_TR_fr trA (by rw [nF83 47 15 (by decide), nF80 47 15 (by decide), nF7 47 15 (by decide)]) (by rw [nF83 47 16 (by decide), nF80 47 16 (by decide), nF7 47 16 (by decide)]) (by rw [nF83 47 17 (by decide), nF80 47 17 (by decide), nF7 47 17 (by decide)]) (by rw [nF83 55 1 (by decide), nF80 55 1 (by decide), nF7 55 1 (by decide)]) (fun k k1 k2 => by rw [nA82 (47 + k) (by omega)]))), (by
            rw [ezp_lne_1 hcz, ezp_lw_19 (w := ezp_K c s.2) (by omega)]
            intro z
            have z2 := ezp_0w z
            exact ezt_NU_say (k := 10) nuA ((m_82 (by omega) (by omega)).trans (v_80 z2).1) n_82), (by
            rw [ezp_lne_1 hcz, ezp_lw_19 (w := ezp_K c s.2) (by omega)]
            intro z
            have z2 := ezp_0w z
            exact ezt_DI_eq diA rfl (by rw [nF83 4 2 (by decide), nF80 4 2 (by decide), nF7 4 2 (by decide)])), rfl⟩
    by_cases q84 : (F 1 3) = (18)
    · refine ezw_tableswitchE (v := 18) (p := 261) q84 rfl (by rfl) ?_
      refine ezw_aload_n rfl rfl ?_
      refine ezw_bipush (9) rfl rfl ?_
      refine ezw_aload_n rfl rfl ?_
      refine ezw_iconst (1) rfl rfl ?_
      refine ezw_bipush (99) rfl rfl ?_
      refine ezw_call0_2 rfl (by omega) (ezu_at rfl) rfl rfl rfl rfl (ezt_m57_1 hS (by omega) ⟨by decide, by decide⟩ ⟨by decide, by decide⟩ (by rw [nF7 1 2 (by decide), nF6 1 2 (by decide), nF2 1 2 (by decide)]; exact hn) hc tp hw st_7) ?_
      rintro _ _ ⟨F85, rfl, hS, nF85, u86, hu86, st_85, v_85, p85_2, rfl⟩
      refine ezw_call0_2 rfl (by omega) (ezu_at rfl) rfl rfl rfl rfl (ezt_m69_47 hS (by omega) ⟨by decide, by decide⟩ hu86 (by omega)) ?_
      rintro _ _ ⟨A87, rfl, hS, nA87, m_87, n_87, rfl⟩
      refine ezw_goto rfl rfl ?_
      refine ezw_aload_n rfl rfl ?_
      refine ezw_sipush (259) rfl rfl ?_
      refine ezw_call0_1 rfl (by omega) (ezu_at rfl) rfl rfl rfl rfl (ezt_m56_1 hS (by omega) ⟨by decide, by decide⟩ (by rw [nF85 1 2 (by decide), nF7 1 2 (by decide), nF6 1 2 (by decide), nF2 1 2 (by decide)]; exact hn) (by rw [nA87 2 (by decide)]; exact hc) tp (by rw [nA87 3 (by decide)]; exact hw) st_85) ?_
      rintro _ _ ⟨F88, rfl, hS, nF88, st_88, rfl⟩
      exact ezw_return rfl rfl ⟨F88, A87, rfl, hS, (fun p j h => by rw [nF88 p j (by omega), nF85 p j (by omega), nF7 p j (by omega), nF6 p j (by omega), nF2 p j (by omega)]), (fun p h => by
            funext j
            rw [nA87 p (by omega)]), (by
            rw [ezp_lne_1 hcz, ezp_lw_18 (w := ezp_K c s.2) (by omega)]
            exact st_88), (by
            rw [ezp_lne_1 hcz, ezp_lw_18 (w := ezp_K c s.2) (by omega)]
            exact (ezt_TR_fr trA (by rw [nF88 47 15 (by decide), nF85 47 15 (by decide), nF7 47 15 (by decide)]) (by rw [nF88 47 16 (by decide), nF85 47 16 (by decide), nF7 47 16 (by decide)]) (by rw [nF88 47 17 (by decide), nF85 47 17 (by decide), nF7 47 17 (by decide)]) (by rw [nF88 55 1 (by decide), nF85 55 1 (by decide), nF7 55 1 (by decide)]) (fun k k1 k2 => by rw [nA87 (47 + k) (by omega)]))), (by
            rw [ezp_lne_1 hcz, ezp_lw_18 (w := ezp_K c s.2) (by omega)]
            intro z
            have z2 := ezp_0w z
            exact ezt_NU_say (k := 9) nuA ((m_87 (by omega) (by omega)).trans (v_85 z2).1) n_87), (by
            rw [ezp_lne_1 hcz, ezp_lw_18 (w := ezp_K c s.2) (by omega)]
            intro z
            have z2 := ezp_0w z
            exact ezt_DI_eq diA rfl (by rw [nF88 4 2 (by decide), nF85 4 2 (by decide), nF7 4 2 (by decide)])), rfl⟩
    by_cases q89 : (F 1 3) = (19)
    · refine ezw_tableswitchE (v := 19) (p := 277) q89 rfl (by rfl) ?_
      refine ezw_aload_n rfl rfl ?_
      refine ezw_bipush (10) rfl rfl ?_
      refine ezw_aload_n rfl rfl ?_
      refine ezw_iconst (1) rfl rfl ?_
      refine ezw_bipush (15) rfl rfl ?_
      refine ezw_call0_2 rfl (by omega) (ezu_at rfl) rfl rfl rfl rfl (ezt_m57_1 hS (by omega) ⟨by decide, by decide⟩ ⟨by decide, by decide⟩ (by rw [nF7 1 2 (by decide), nF6 1 2 (by decide), nF2 1 2 (by decide)]; exact hn) hc tp hw st_7) ?_
      rintro _ _ ⟨F90, rfl, hS, nF90, u91, hu91, st_90, v_90, p90_2, rfl⟩
      refine ezw_call0_2 rfl (by omega) (ezu_at rfl) rfl rfl rfl rfl (ezt_m69_47 hS (by omega) ⟨by decide, by decide⟩ hu91 (by omega)) ?_
      rintro _ _ ⟨A92, rfl, hS, nA92, m_92, n_92, rfl⟩
      refine ezw_aload_n rfl rfl ?_
      refine ezw_sipush (259) rfl rfl ?_
      refine ezw_call0_1 rfl (by omega) (ezu_at rfl) rfl rfl rfl rfl (ezt_m56_1 hS (by omega) ⟨by decide, by decide⟩ (by rw [nF90 1 2 (by decide), nF7 1 2 (by decide), nF6 1 2 (by decide), nF2 1 2 (by decide)]; exact hn) (by rw [nA92 2 (by decide)]; exact hc) tp (by rw [nA92 3 (by decide)]; exact hw) st_90) ?_
      rintro _ _ ⟨F93, rfl, hS, nF93, st_93, rfl⟩
      exact ezw_return rfl rfl ⟨F93, A92, rfl, hS, (fun p j h => by rw [nF93 p j (by omega), nF90 p j (by omega), nF7 p j (by omega), nF6 p j (by omega), nF2 p j (by omega)]), (fun p h => by
            funext j
            rw [nA92 p (by omega)]), (by
            rw [ezp_lne_1 hcz, ezp_lw_19 (w := ezp_K c s.2) (by omega)]
            exact st_93), (by
            rw [ezp_lne_1 hcz, ezp_lw_19 (w := ezp_K c s.2) (by omega)]
            exact (ezt_TR_fr trA (by rw [nF93 47 15 (by decide), nF90 47 15 (by decide), nF7 47 15 (by decide)]) (by rw [nF93 47 16 (by decide), nF90 47 16 (by decide), nF7 47 16 (by decide)]) (by rw [nF93 47 17 (by decide), nF90 47 17 (by decide), nF7 47 17 (by decide)]) (by rw [nF93 55 1 (by decide), nF90 55 1 (by decide), nF7 55 1 (by decide)]) (fun k k1 k2 => by rw [nA92 (47 + k) (by omega)]))), (by
            rw [ezp_lne_1 hcz, ezp_lw_19 (w := ezp_K c s.2) (by omega)]
            intro z
            have z2 := ezp_0w z
            exact ezt_NU_say (k := 10) nuA ((m_92 (by omega) (by omega)).trans (v_90 z2).1) n_92), (by
            rw [ezp_lne_1 hcz, ezp_lw_19 (w := ezp_K c s.2) (by omega)]
            intro z
            have z2 := ezp_0w z
            exact ezt_DI_eq diA rfl (by rw [nF93 4 2 (by decide), nF90 4 2 (by decide), nF7 4 2 (by decide)])), rfl⟩
    by_cases q94 : (F 1 3) = (20)
    · refine ezw_tableswitchE (v := 20) (p := 200) q94 rfl (by rfl) ?_
      refine ezw_aload_n rfl rfl ?_
      refine ezw_aload_n rfl rfl ?_
      refine ezw_call2_2 rfl (by omega) rfl rfl (ezt_m77_1_47 hS (by omega) (by rw [nF7 1 2 (by decide), nF6 1 2 (by decide), nF2 1 2 (by decide)]; exact hn) hc tp hw st_7 (ezt_TR_fr trA (by rw [nF7 47 15 (by decide)]) (by rw [nF7 47 16 (by decide)]) (by rw [nF7 47 17 (by decide)]) (by rw [nF7 55 1 (by decide)]) (fun _ _ _ => rfl)) (hkE (by omega))) ?_
      rintro _ _ ⟨F95, A95, rfl, hS, nF95, nA95, st_95, tr_95, rfl⟩
      refine ezw_goto rfl rfl ?_
      refine ezw_aload_n rfl rfl ?_
      refine ezw_sipush (259) rfl rfl ?_
      refine ezw_call0_1 rfl (by omega) (ezu_at rfl) rfl rfl rfl rfl (ezt_m56_1 hS (by omega) ⟨by decide, by decide⟩ (by rw [nF95 1 2 (by decide), nF7 1 2 (by decide), nF6 1 2 (by decide), nF2 1 2 (by decide)]; exact hn) (by rw [nA95 2 (by decide)]; exact hc) tp (by rw [nA95 3 (by decide)]; exact hw) (ezt_ST_fr st_7 (fun j j0 j1 => by rw [nF95 1 j (by omega)]))) ?_
      rintro _ _ ⟨F96, rfl, hS, nF96, st_96, rfl⟩
      exact ezw_return rfl rfl ⟨F96, A95, rfl, hS, (fun p j h => by rw [nF96 p j (by omega), nF95 p j (by omega), nF7 p j (by omega), nF6 p j (by omega), nF2 p j (by omega)]), (fun p h => by
            funext j
            rw [nA95 p (by omega)]), (by
            rw [ezp_lne_1 hcz, ezp_lw_20 (w := ezp_K c s.2) (by omega)]
            exact st_96), (by
            rw [ezp_lne_1 hcz, ezp_lw_20 (w := ezp_K c s.2) (by omega)]
            exact (ezt_TR_fr tr_95 (by rw [nF96 47 15 (by decide)]) (by rw [nF96 47 16 (by decide)]) (by rw [nF96 47 17 (by decide)]) (by rw [nF96 55 1 (by decide)]) (fun _ _ _ => rfl))), (by
            rw [ezp_lne_1 hcz, ezp_lw_20 (w := ezp_K c s.2) (by omega)]
            intro z
            have z2 := ezp_0w z
            exact ezt_NU_eq nuA ezp_elD_nu.1 (by rw [nA95 61 (by decide)])), (by
            rw [ezp_lne_1 hcz, ezp_lw_20 (w := ezp_K c s.2) (by omega)]
            intro z
            have z2 := ezp_0w z
            exact ezt_DI_eq diA ezp_elD_nu.2 (by rw [nF96 4 2 (by decide), nF95 4 2 (by decide), nF7 4 2 (by decide)])), rfl⟩
    by_cases q97 : (F 1 3) = (21)
    · refine ezw_tableswitchE (v := 21) (p := 208) q97 rfl (by rfl) ?_
      refine ezw_aload_n rfl rfl ?_
      refine ezs_getp (p := 5) rfl rfl rfl rfl rfl ?_
      refine ezw_aload_n rfl rfl ?_
      refine ezw_call0_1 rfl (by omega) (ezu_at rfl) rfl rfl rfl rfl (ezt_m80_5_1 hS (by omega) (by rw [nF7 1 2 (by decide), nF6 1 2 (by decide), nF2 1 2 (by decide)]; exact hn) hc tp hw st_7) ?_
      rintro _ _ ⟨F98, A98, rfl, hS, nF98, nA98, st_98, lw_98, to_98, rfl⟩
      refine ezw_goto rfl rfl ?_
      refine ezw_aload_n rfl rfl ?_
      refine ezw_sipush (259) rfl rfl ?_
      refine ezw_call0_1 rfl (by omega) (ezu_at rfl) rfl rfl rfl rfl (ezt_m56_1 hS (by omega) ⟨by decide, by decide⟩ (by rw [nF98 1 2 (by decide), nF7 1 2 (by decide), nF6 1 2 (by decide), nF2 1 2 (by decide)]; exact hn) (by rw [nA98 2 (by decide)]; exact hc) tp (by rw [nA98 3 (by decide)]; exact hw) st_98) ?_
      rintro _ _ ⟨F99, rfl, hS, nF99, st_99, rfl⟩
      exact ezw_return rfl rfl ⟨F99, A98, rfl, hS, (fun p j h => by rw [nF99 p j (by omega), nF98 p j (by omega), nF7 p j (by omega), nF6 p j (by omega), nF2 p j (by omega)]), (fun p h => by
            funext j
            rw [nA98 p (by omega)]), (by
            rw [ezp_lne_1 hcz, ezp_lw_21 (w := ezp_K c s.2) (by omega)]
            exact st_99), (by
            rw [ezp_lne_1 hcz, ezp_lw_21 (w := ezp_K c s.2) (by omega)]
            exact (ezt_TR_fr trA (by rw [nF99 47 15 (by decide), nF98 47 15 (by decide), nF7 47 15 (by decide)]) (by rw [nF99 47 16 (by decide), nF98 47 16 (by decide), nF7 47 16 (by decide)]) (by rw [nF99 47 17 (by decide), nF98 47 17 (by decide), nF7 47 17 (by decide)]) (by rw [nF99 55 1 (by decide), nF98 55 1 (by decide), nF7 55 1 (by decide)]) (fun k k1 k2 => by rw [nA98 (47 + k) (by omega)]))), (by
            rw [ezp_lne_1 hcz, ezp_lw_21 (w := ezp_K c s.2) (by omega)]
            intro z
            have z2 := ezp_0w z
            exact ezt_NU_eq nuA rfl (by rw [nA98 61 (by decide)])), (by
            rw [ezp_lne_1 hcz, ezp_lw_21 (w := ezp_K c s.2) (by omega)]
            intro z
            have z2 := ezp_0w z
            exact ezt_DI_eq diA rfl (by rw [nF99 4 2 (by decide), nF98 4 2 (by decide), nF7 4 2 (by decide)])), rfl⟩
    by_cases q100 : (F 1 3) = (22)
    · refine ezw_tableswitchE (v := 22) (p := 219) q100 rfl (by rfl) ?_
      refine ezw_aload_n rfl rfl ?_
      refine ezs_getp (p := 9) rfl rfl rfl rfl rfl ?_
      refine ezw_aload_n rfl rfl ?_
      refine ezw_call0_1 rfl (by omega) (ezu_at rfl) rfl rfl rfl rfl (ezt_m80_9_1 hS (by omega) (by rw [nF7 1 2 (by decide), nF6 1 2 (by decide), nF2 1 2 (by decide)]; exact hn) hc tp hw st_7) ?_
      rintro _ _ ⟨F101, A101, rfl, hS, nF101, nA101, st_101, lw_101, to_101, rfl⟩
      refine ezw_goto rfl rfl ?_
      refine ezw_aload_n rfl rfl ?_
      refine ezw_sipush (259) rfl rfl ?_
      refine ezw_call0_1 rfl (by omega) (ezu_at rfl) rfl rfl rfl rfl (ezt_m56_1 hS (by omega) ⟨by decide, by decide⟩ (by rw [nF101 1 2 (by decide), nF7 1 2 (by decide), nF6 1 2 (by decide), nF2 1 2 (by decide)]; exact hn) (by rw [nA101 2 (by decide)]; exact hc) tp (by rw [nA101 3 (by decide)]; exact hw) st_101) ?_
      rintro _ _ ⟨F102, rfl, hS, nF102, st_102, rfl⟩
      exact ezw_return rfl rfl ⟨F102, A101, rfl, hS, (fun p j h => by rw [nF102 p j (by omega), nF101 p j (by omega), nF7 p j (by omega), nF6 p j (by omega), nF2 p j (by omega)]), (fun p h => by
            funext j
            rw [nA101 p (by omega)]), (by
            rw [ezp_lne_1 hcz, ezp_lw_22 (w := ezp_K c s.2) (by omega)]
            exact st_102), (by
            rw [ezp_lne_1 hcz, ezp_lw_22 (w := ezp_K c s.2) (by omega)]
            exact (ezt_TR_fr trA (by rw [nF102 47 15 (by decide), nF101 47 15 (by decide), nF7 47 15 (by decide)]) (by rw [nF102 47 16 (by decide), nF101 47 16 (by decide), nF7 47 16 (by decide)]) (by rw [nF102 47 17 (by decide), nF101 47 17 (by decide), nF7 47 17 (by decide)]) (by rw [nF102 55 1 (by decide), nF101 55 1 (by decide), nF7 55 1 (by decide)]) (fun k k1 k2 => by rw [nA101 (47 + k) (by omega)]))), (by
            rw [ezp_lne_1 hcz, ezp_lw_22 (w := ezp_K c s.2) (by omega)]
            intro z
            have z2 := ezp_0w z
            exact ezt_NU_eq nuA rfl (by rw [nA101 61 (by decide)])), (by
            rw [ezp_lne_1 hcz, ezp_lw_22 (w := ezp_K c s.2) (by omega)]
            intro z
            have z2 := ezp_0w z
            exact ezt_DI_eq diA rfl (by rw [nF102 4 2 (by decide), nF101 4 2 (by decide), nF7 4 2 (by decide)])), rfl⟩
    refine ezw_tableswitch (p := 277) rfl (ezs_swd hu1 (And.intro (And.intro ⟨by decide, by decide⟩ (fun z => q8 z.symm)) (And.intro (And.intro ⟨by decide, by decide⟩ (fun z => q11 z.symm)) (And.intro (And.intro ⟨by decide, by decide⟩ (fun z => q16 z.symm)) (And.intro (And.intro ⟨by decide, by decide⟩ (fun z => q21 z.symm)) (And.intro (And.intro ⟨by decide, by decide⟩ (fun z => q26 z.symm)) (And.intro (And.intro ⟨by decide, by decide⟩ (fun z => q31 z.symm)) (And.intro (And.intro ⟨by decide, by decide⟩ (fun z => q34 z.symm)) (And.intro (And.intro ⟨by decide, by decide⟩ (fun z => q37 z.symm)) (And.intro (And.intro ⟨by decide, by decide⟩ (fun z => q42 z.symm)) (And.intro (And.intro ⟨by decide, by decide⟩ (fun z => q47 z.symm)) (And.intro (And.intro ⟨by decide, by decide⟩ (fun z => q50 z.symm)) (And.intro (And.intro ⟨by decide, by decide⟩ (fun z => q55 z.symm)) (And.intro (And.intro ⟨by decide, by decide⟩ (fun z => q60 z.symm)) (And.intro (And.intro ⟨by decide, by decide⟩ (fun z => q63 z.symm)) (And.intro (And.intro ⟨by decide, by decide⟩ (fun z => q66 z.symm)) (And.intro (And.intro ⟨by decide, by decide⟩ (fun z => q71 z.symm)) (And.intro (And.intro ⟨by decide, by decide⟩ (fun z => q76 z.symm)) (And.intro (And.intro ⟨by decide, by decide⟩ (fun z => q79 z.symm)) (And.intro (And.intro ⟨by decide, by decide⟩ (fun z => q84 z.symm)) (And.intro (And.intro ⟨by decide, by decide⟩ (fun z => q89 z.symm)) (And.intro (And.intro ⟨by decide, by decide⟩ (fun z => q94 z.symm)) (And.intro (And.intro ⟨by decide, by decide⟩ (fun z => q97 z.symm)) (And.intro (And.intro ⟨by decide, by decide⟩ (fun z => q100 z.symm)) True.intro))))))))))))))))))))))) rfl) ?_
    refine ezw_aload_n rfl rfl ?_
    refine ezw_bipush (10) rfl rfl ?_
    refine ezw_aload_n rfl rfl ?_
    refine ezw_iconst (1) rfl rfl ?_
    refine ezw_bipush (15) rfl rfl ?_
    refine ezw_call0_2 rfl (by omega) (ezu_at rfl) rfl rfl rfl rfl (ezt_m57_1 hS (by omega) ⟨by decide, by decide⟩ ⟨by decide, by decide⟩ (by rw [nF7 1 2 (by decide), nF6 1 2 (by decide), nF2 1 2 (by decide)]; exact hn) hc tp hw st_7) ?_
    rintro _ _ ⟨F103, rfl, hS, nF103, u104, hu104, st_103, v_103, p103_2, rfl⟩
    refine ezw_call0_2 rfl (by omega) (ezu_at rfl) rfl rfl rfl rfl (ezt_m69_47 hS (by omega) ⟨by decide, by decide⟩ hu104 (by omega)) ?_
    rintro _ _ ⟨A105, rfl, hS, nA105, m_105, n_105, rfl⟩
    refine ezw_aload_n rfl rfl ?_
    refine ezw_sipush (259) rfl rfl ?_
    refine ezw_call0_1 rfl (by omega) (ezu_at rfl) rfl rfl rfl rfl (ezt_m56_1 hS (by omega) ⟨by decide, by decide⟩ (by rw [nF103 1 2 (by decide), nF7 1 2 (by decide), nF6 1 2 (by decide), nF2 1 2 (by decide)]; exact hn) (by rw [nA105 2 (by decide)]; exact hc) tp (by rw [nA105 3 (by decide)]; exact hw) st_103) ?_
    rintro _ _ ⟨F106, rfl, hS, nF106, st_106, rfl⟩
    exact ezw_return rfl rfl ⟨F106, A105, rfl, hS, (fun p j h => by rw [nF106 p j (by omega), nF103 p j (by omega), nF7 p j (by omega), nF6 p j (by omega), nF2 p j (by omega)]), (fun p h => by
          funext j
          rw [nA105 p (by omega)]), (by
          rw [ezp_lne_1 hcz, ezp_lw_19 (w := ezp_K c s.2) (by omega)]
          exact st_106), (by
          rw [ezp_lne_1 hcz, ezp_lw_19 (w := ezp_K c s.2) (by omega)]
          exact (ezt_TR_fr trA (by rw [nF106 47 15 (by decide), nF103 47 15 (by decide), nF7 47 15 (by decide)]) (by rw [nF106 47 16 (by decide), nF103 47 16 (by decide), nF7 47 16 (by decide)]) (by rw [nF106 47 17 (by decide), nF103 47 17 (by decide), nF7 47 17 (by decide)]) (by rw [nF106 55 1 (by decide), nF103 55 1 (by decide), nF7 55 1 (by decide)]) (fun k k1 k2 => by rw [nA105 (47 + k) (by omega)]))), (by
          rw [ezp_lne_1 hcz, ezp_lw_19 (w := ezp_K c s.2) (by omega)]
          intro z
          have z2 := ezp_0w z
          exact ezt_NU_say (k := 10) nuA ((m_105 (by omega) (by omega)).trans (v_103 z2).1) n_105), (by
          rw [ezp_lne_1 hcz, ezp_lw_19 (w := ezp_K c s.2) (by omega)]
          intro z
          have z2 := ezp_0w z
          exact ezt_DI_eq diA rfl (by rw [nF106 4 2 (by decide), nF103 4 2 (by decide), nF7 4 2 (by decide)])), rfl⟩
  · exact ezw_return rfl rfl ⟨F2, A, rfl, hS, (fun p j h => by rw [nF2 p j (by omega)]), (fun _ _ => rfl), (by
          rw [ezp_lne_0 (fun h9 => p3_1 (by omega) (st_2.1.trans h9))]
          exact st_2), (by
          rw [ezp_lne_0 (fun h9 => p3_1 (by omega) (st_2.1.trans h9))]
          exact (ezt_TR_fr tr (by rw [nF2 47 15 (by decide)]) (by rw [nF2 47 16 (by decide)]) (by rw [nF2 47 17 (by decide)]) (by rw [nF2 55 1 (by decide)]) (fun _ _ _ => rfl))), (fun z => absurd z (by rw [ezp_lne_0 (fun h9 => p3_1 (by omega) (st_2.1.trans h9))]; exact (fun h9 => p3_1 (by omega) (st_2.1.trans h9)))), (fun z => absurd z (by rw [ezp_lne_0 (fun h9 => p3_1 (by omega) (st_2.1.trans h9))]; exact (fun h9 => p3_1 (by omega) (st_2.1.trans h9)))), rfl⟩
end KT
