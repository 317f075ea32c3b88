/-! ===== the program: KITE, WIND, LADDER, STRING ===== -/
section KT
variable {l : Launch} {ρ : ezq_E} {B : Nat} {xa : Nat → Option Nat} {Hb : Heap} {D : va_G} {cA : Nat → ClassId} {d : Nat} {e : Bool × Bool}
def ezt_m68_1_30Q (e : Bool × Bool) (F : Nat → Nat → Int) (A : Nat → Int → Int) (c : Int → Int) (n : Int) (s : Int × Int) (t : ezp_D) : Option ezq_V → (Nat → ezq_C) → Prop := fun v g' => ∃ (F' : Nat → Nat → Int) (A' : Nat → Int → Int), ezu_g e F' A' = g' ∧ ezs_T F' A' ∧ (∀ p j, ¬ (p = 1 ∧ (j = 3 ∨ j = 4 ∨ j = 5 ∨ j = 6 ∨ j = 7 ∨ j = 8 ∨ j = 9)) → F' p j = F p j) ∧ (∀ p, ¬ (p = 44) → A' p = A p) ∧ (ezt_ST c n (ezp_ktS c s) F') ∧ (ezt_TR 30 (ezp_ktD c t s) F' A') ∧ ((ezp_ktS c s).1 = 0 → ezt_NU 30 (ezp_ktD c t s) A') ∧ none = v
theorem ezt_m68_1_30 {c : Int → Int} {n : Int} {s : Int × Int} {t : ezp_D} {F : Nat → Nat → Int} {A : Nat → Int → Int} (hS : ezs_T F A) (hd : 8 ≤ d) (hn : F 1 2 = n) (hc : c = ezp_ch (A 2) n) (tp : ezp_tp c n) (hw : ∀ j, 0 ≤ j → j < 48 → A 3 j = ezl_cw.getD j.toNat 0) (st : ezt_ST c n s F) (tr : ezt_TR 30 t F A) (nu : s.1 = 0 → ezt_NU 30 t A) : ezw_C l ρ B xa Hb D cA 68 d [ezw_p 1, ezw_p 30] (ezu_g e F A) (ezt_m68_1_30Q e F A c n s t) := by
  refine ezw_met (k := 0) rfl rfl ?_
  refine ezw_aload_n rfl rfl ?_
  refine ezw_bipush (7) rfl rfl ?_
  refine ezw_call0_1 rfl (by omega) (ezu_at rfl) rfl rfl rfl rfl (ezt_m56_1 hS (by omega) ⟨by decide, by decide⟩ hn hc tp hw st) ?_
  rintro _ _ ⟨F1, rfl, hS, nF1, st_1, rfl⟩
  refine ezw_aload_n rfl rfl ?_
  refine ezw_iconst (0) rfl rfl ?_
  refine ezw_aload_n rfl rfl ?_
  refine ezw_iconst (0) rfl rfl ?_
  refine ezw_sipush (999) rfl rfl ?_
  refine ezw_call0_2 rfl (by omega) (ezu_at rfl) rfl rfl rfl rfl (ezt_m57_1 hS (by omega) ⟨by decide, by decide⟩ ⟨by decide, by decide⟩ (by rw [nF1 1 2 (by decide)]; exact hn) hc tp hw st_1) ?_
  rintro _ _ ⟨F2, rfl, hS, nF2, u3, hu3, st_2, v_2, p2_2, rfl⟩
  refine ezw_call0_2 rfl (by omega) (ezu_at rfl) rfl rfl rfl rfl (ezt_m69_30 hS (by omega) ⟨by decide, by decide⟩ hu3 (by omega)) ?_
  rintro _ _ ⟨A4, rfl, hS, nA4, m_4, n_4, rfl⟩
  refine ezw_aload_n rfl rfl ?_
  refine ezw_bipush (8) rfl rfl ?_
  refine ezw_call0_1 rfl (by omega) (ezu_at rfl) rfl rfl rfl rfl (ezt_m56_1 hS (by omega) ⟨by decide, by decide⟩ (by rw [nF2 1 2 (by decide), nF1 1 2 (by decide)]; exact hn) (by rw [nA4 2 (by decide)]; exact hc) tp (by rw [nA4 3 (by decide)]; exact hw) st_2) ?_
  rintro _ _ ⟨F5, rfl, hS, nF5, st_5, rfl⟩
  refine ezw_aload_n rfl rfl ?_
  refine ezw_iconst (1) rfl rfl ?_
  refine ezw_aload_n rfl rfl ?_
  refine ezw_iconst (0) rfl rfl ?_
  refine ezw_bipush (99) rfl rfl ?_
  refine ezw_call0_2 rfl (by omega) (ezu_at rfl) rfl rfl rfl rfl (ezt_m57_1 hS (by omega) ⟨by decide, by decide⟩ ⟨by decide, by decide⟩ (by rw [nF5 1 2 (by decide), nF2 1 2 (by decide), nF1 1 2 (by decide)]; exact hn) (by rw [nA4 2 (by decide)]; exact hc) tp (by rw [nA4 3 (by decide)]; exact hw) st_5) ?_
  rintro _ _ ⟨F6, rfl, hS, nF6, u7, hu7, st_6, v_6, p6_2, rfl⟩
  refine ezw_call0_2 rfl (by omega) (ezu_at rfl) rfl rfl rfl rfl (ezt_m69_30 hS (by omega) ⟨by decide, by decide⟩ hu7 (by omega)) ?_
  rintro _ _ ⟨A8, rfl, hS, nA8, m_8, n_8, rfl⟩
  exact ezw_return rfl rfl ⟨F6, A8, rfl, hS, (fun p j h => by rw [nF6 p j (by omega), nF5 p j (by omega), nF2 p j (by omega), nF1 p j (by omega)]), (fun p h => by
        funext j
        rw [nA8 p (by omega), nA4 p (by omega)]), st_6, (ezt_TR_fr tr (by rw [nF6 30 15 (by decide), nF5 30 15 (by decide), nF2 30 15 (by decide), nF1 30 15 (by decide)]) (by rw [nF6 30 16 (by decide), nF5 30 16 (by decide), nF2 30 16 (by decide), nF1 30 16 (by decide)]) (by rw [nF6 30 17 (by decide), nF5 30 17 (by decide), nF2 30 17 (by decide), nF1 30 17 (by decide)]) (by rw [nF6 38 1 (by decide), nF5 38 1 (by decide), nF2 38 1 (by decide), nF1 38 1 (by decide)]) (fun k k1 k2 => by rw [nA8 (30 + k) (by omega), nA4 (30 + k) (by omega)])), (fun z => by
        have z3 := ezp_0n z
        have z2 := ezp_0w z3
        have z1 := ezp_0n z2
        have z0 := ezp_0w z1
        have s0 := ezt_NU_say (k := 0) (nu z0) ((m_4 (by omega) (by omega)).trans (v_2 z2).1) n_4
        have s1 := ezt_NU_say (k := 1) s0 ((m_8 (by omega) (by omega)).trans (v_6 z).1) n_8
        exact s1), rfl⟩
def ezt_m75_1_30Q (e : Bool × Bool) (F : Nat → Nat → Int) (A : Nat → Int → Int) (c : Int → Int) (n : Int) (s : Int × Int) (t : ezp_D) : Option ezq_V → (Nat → ezq_C) → Prop := fun v g' => ∃ (F' : Nat → Nat → Int) (A' : Nat → Int → Int), ezu_g e F' A' = g' ∧ ezs_T F' A' ∧ (∀ p j, ¬ (p = 1 ∧ (j = 3 ∨ j = 4 ∨ j = 5 ∨ j = 6 ∨ j = 7 ∨ j = 8 ∨ j = 9)) → F' p j = F p j) ∧ (∀ p, ¬ (p = 44) → A' p = A p) ∧ (ezt_ST c n (ezp_wiS c s) F') ∧ (ezt_TR 30 (ezp_wiD c t s) F' A') ∧ ((ezp_wiS c s).1 = 0 → ezt_NU 30 (ezp_wiD c t s) A') ∧ none = v
theorem ezt_m75_1_30 {c : Int → Int} {n : Int} {s : Int × Int} {t : ezp_D} {F : Nat → Nat → Int} {A : Nat → Int → Int} (hS : ezs_T F A) (hd : 8 ≤ d) (hn : F 1 2 = n) (hc : c = ezp_ch (A 2) n) (tp : ezp_tp c n) (hw : ∀ j, 0 ≤ j → j < 48 → A 3 j = ezl_cw.getD j.toNat 0) (st : ezt_ST c n s F) (tr : ezt_TR 30 t F A) (nu : s.1 = 0 → ezt_NU 30 t A) : ezw_C l ρ B xa Hb D cA 75 d [ezw_p 1, ezw_p 30] (ezu_g e F A) (ezt_m75_1_30Q e F A c n s t) := by
  refine ezw_met (k := 1) rfl rfl ?_
  refine ezw_aload_n rfl rfl ?_
  refine ezw_iconst (2) rfl rfl ?_
  refine ezw_aload_n rfl rfl ?_
  refine ezw_bipush (30) rfl rfl ?_
  refine ezw_iconst (4) rfl rfl ?_
  refine ezw_call0_2 rfl (by omega) (ezu_at rfl) rfl rfl rfl rfl (ezt_m59_1 hS (by omega) ⟨by decide, by decide⟩ ⟨by decide, by decide⟩ hn hc tp hw st (by omega)) ?_
  rintro _ _ ⟨F1, rfl, hS, nF1, u2, hu2, st_1, v_1, p1_2, rfl⟩
  refine ezw_call0_2 rfl (by omega) (ezu_at rfl) rfl rfl rfl rfl (ezt_m69_30 hS (by omega) ⟨by decide, by decide⟩ hu2 (by omega)) ?_
  rintro _ _ ⟨A3, rfl, hS, nA3, m_3, n_3, rfl⟩
  refine ezw_aload_n rfl rfl ?_
  refine ezw_iconst (0) rfl rfl ?_
  refine ezw_bipush (10) rfl rfl ?_
  refine ezw_call0_2 rfl (by omega) (ezu_at rfl) rfl rfl rfl rfl (ezt_m57_1 hS (by omega) ⟨by decide, by decide⟩ ⟨by decide, by decide⟩ (by rw [nF1 1 2 (by decide)]; exact hn) (by rw [nA3 2 (by decide)]; exact hc) tp (by rw [nA3 3 (by decide)]; exact hw) st_1) ?_
  rintro _ _ ⟨F4, rfl, hS, nF4, u5, hu5, st_4, v_4, p4_2, rfl⟩
  refine ezw_istore_n rfl rfl ?_
  refine ezw_aload_n rfl rfl ?_
  refine ezw_iconst (3) rfl rfl ?_
  refine ezw_iload_n rfl rfl ?_
  refine ezw_call0_2 rfl (by omega) (ezu_at rfl) rfl rfl rfl rfl (ezt_m69_30 hS (by omega) ⟨by decide, by decide⟩ hu5 (by omega)) ?_
  rintro _ _ ⟨A6, rfl, hS, nA6, m_6, n_6, rfl⟩
  refine ezw_aload_n rfl rfl ?_
  refine ezw_iconst (4) rfl rfl ?_
  refine ezw_aload_n rfl rfl ?_
  refine ezw_iconst (0) rfl rfl ?_
  refine ezw_bipush (10) rfl rfl ?_
  refine ezw_iload_n rfl rfl ?_
  refine ezw_isub (k := -u5 + 10) rfl (by omega) ?_
  refine ezw_call0_2 rfl (by omega) (ezu_at rfl) rfl rfl rfl rfl (ezt_m57_1 hS (by omega) ⟨by decide, by decide⟩ ⟨by omega, by omega⟩ (by rw [nF4 1 2 (by decide), nF1 1 2 (by decide)]; exact hn) (by rw [nA6 2 (by decide), nA3 2 (by decide)]; exact hc) tp (by rw [nA6 3 (by decide), nA3 3 (by decide)]; exact hw) st_4) ?_
  rintro _ _ ⟨F7, rfl, hS, nF7, u8, hu8, st_7, v_7, p7_2, rfl⟩
  refine ezw_call0_2 rfl (by omega) (ezu_at rfl) rfl rfl rfl rfl (ezt_m69_30 hS (by omega) ⟨by decide, by decide⟩ hu8 (by omega)) ?_
  rintro _ _ ⟨A9, rfl, hS, nA9, m_9, n_9, rfl⟩
  exact ezw_return rfl rfl ⟨F7, A9, rfl, hS, (fun p j h => by rw [nF7 p j (by omega), nF4 p j (by omega), nF1 p j (by omega)]), (fun p h => by
        funext j
        rw [nA9 p (by omega), nA6 p (by omega), nA3 p (by omega)]), (by
        rw [← (show ezp_n c 0 (-u5 + 10) (ezp_wi2 c s) = ezp_wiS c s from ezp_n_c (fun z => (by have h0 : u5 = ezp_V c (ezp_o c 30 4 s).2 := (v_4 z).1; omega)))]
        exact st_7), (ezt_TR_fr tr (by rw [nF7 30 15 (by decide), nF4 30 15 (by decide), nF1 30 15 (by decide)]) (by rw [nF7 30 16 (by decide), nF4 30 16 (by decide), nF1 30 16 (by decide)]) (by rw [nF7 30 17 (by decide), nF4 30 17 (by decide), nF1 30 17 (by decide)]) (by rw [nF7 38 1 (by decide), nF4 38 1 (by decide), nF1 38 1 (by decide)]) (fun k k1 k2 => by rw [nA9 (30 + k) (by omega), nA6 (30 + k) (by omega), nA3 (30 + k) (by omega)])), (fun z => by
        rw [← (show ezp_n c 0 (-u5 + 10) (ezp_wi2 c s) = ezp_wiS c s from ezp_n_c (fun z => (by have h0 : u5 = ezp_V c (ezp_o c 30 4 s).2 := (v_4 z).1; omega)))] at z
        have z2 := ezp_0n z
        have z1 := ezp_0n z2
        have z0 := ezp_0o z1
        have s0 := ezt_NU_say (k := 2) (nu z0) ((m_3 (by omega) (by omega)).trans (v_1 z1).1) n_3
        have s1 := ezt_NU_say (k := 3) s0 ((m_6 (by omega) (by omega)).trans (v_4 z2).1) n_6
        have s2 := ezt_NU_say (k := 4) s1 ((m_9 (by omega) (by omega)).trans (v_7 z).1) n_9
        exact s2), rfl⟩
def ezt_m76_1_30Q (e : Bool × Bool) (F : Nat → Nat → Int) (A : Nat → Int → Int) (c : Int → Int) (n : Int) (s : Int × Int) (t : ezp_D) : Option ezq_V → (Nat → ezq_C) → Prop := fun v g' => ∃ (F' : Nat → Nat → Int) (A' : Nat → Int → Int), ezu_g e F' A' = g' ∧ ezs_T F' A' ∧ (∀ p j, ¬ (p = 1 ∧ (j = 3 ∨ j = 4 ∨ j = 5 ∨ j = 6 ∨ j = 7 ∨ j = 8 ∨ j = 9)) → F' p j = F p j) ∧ (∀ p, ¬ (p = 44) → A' p = A p) ∧ (ezt_ST c n (ezp_laS c s) F') ∧ (ezt_TR 30 (ezp_laD c t s) F' A') ∧ ((ezp_laS c s).1 = 0 → ezt_NU 30 (ezp_laD c t s) A') ∧ none = v
theorem ezt_m76_1_30 {c : Int → Int} {n : Int} {s : Int × Int} {t : ezp_D} {F : Nat → Nat → Int} {A : Nat → Int → Int} (hS : ezs_T F A) (hd : 8 ≤ d) (hn : F 1 2 = n) (hc : c = ezp_ch (A 2) n) (tp : ezp_tp c n) (hw : ∀ j, 0 ≤ j → j < 48 → A 3 j = ezl_cw.getD j.toNat 0) (st : ezt_ST c n s F) (tr : ezt_TR 30 t F A) (nu : s.1 = 0 → ezt_NU 30 t A) : ezw_C l ρ B xa Hb D cA 76 d [ezw_p 1, ezw_p 30] (ezu_g e F A) (ezt_m76_1_30Q e F A c n s t) := by
  refine ezw_met (k := 0) rfl rfl ?_
  refine ezw_aload_n rfl rfl ?_
  refine ezw_bipush (7) rfl rfl ?_
  refine ezw_aload_n rfl rfl ?_
  refine ezw_iconst (0) rfl rfl ?_
  refine ezw_bipush (60) rfl rfl ?_
  refine ezw_call0_2 rfl (by omega) (ezu_at rfl) rfl rfl rfl rfl (ezt_m57_1 hS (by omega) ⟨by decide, by decide⟩ ⟨by decide, by decide⟩ hn hc tp hw st) ?_
  rintro _ _ ⟨F1, rfl, hS, nF1, u2, hu2, st_1, v_1, p1_2, rfl⟩
  refine ezw_call0_2 rfl (by omega) (ezu_at rfl) rfl rfl rfl rfl (ezt_m69_30 hS (by omega) ⟨by decide, by decide⟩ hu2 (by omega)) ?_
  rintro _ _ ⟨A3, rfl, hS, nA3, m_3, n_3, rfl⟩
  refine ezw_aload_n rfl rfl ?_
  refine ezw_bipush (17) rfl rfl ?_
  refine ezw_call0_1 rfl (by omega) (ezu_at rfl) rfl rfl rfl rfl (ezt_m56_1 hS (by omega) ⟨by decide, by decide⟩ (by rw [nF1 1 2 (by decide)]; exact hn) (by rw [nA3 2 (by decide)]; exact hc) tp (by rw [nA3 3 (by decide)]; exact hw) st_1) ?_
  rintro _ _ ⟨F4, rfl, hS, nF4, st_4, rfl⟩
  refine ezw_aload_n rfl rfl ?_
  refine ezw_bipush (8) rfl rfl ?_
  refine ezw_aload_n rfl rfl ?_
  refine ezw_iconst (0) rfl rfl ?_
  refine ezw_bipush (60) rfl rfl ?_
  refine ezw_call0_2 rfl (by omega) (ezu_at rfl) rfl rfl rfl rfl (ezt_m57_1 hS (by omega) ⟨by decide, by decide⟩ ⟨by decide, by decide⟩ (by rw [nF4 1 2 (by decide), nF1 1 2 (by decide)]; exact hn) (by rw [nA3 2 (by decide)]; exact hc) tp (by rw [nA3 3 (by decide)]; exact hw) st_4) ?_
  rintro _ _ ⟨F5, rfl, hS, nF5, u6, hu6, st_5, v_5, p5_2, rfl⟩
  refine ezw_call0_2 rfl (by omega) (ezu_at rfl) rfl rfl rfl rfl (ezt_m69_30 hS (by omega) ⟨by decide, by decide⟩ hu6 (by omega)) ?_
  rintro _ _ ⟨A7, rfl, hS, nA7, m_7, n_7, rfl⟩
  exact ezw_return rfl rfl ⟨F5, A7, rfl, hS, (fun p j h => by rw [nF5 p j (by omega), nF4 p j (by omega), nF1 p j (by omega)]), (fun p h => by
        funext j
        rw [nA7 p (by omega), nA3 p (by omega)]), st_5, (ezt_TR_fr tr (by rw [nF5 30 15 (by decide), nF4 30 15 (by decide), nF1 30 15 (by decide)]) (by rw [nF5 30 16 (by decide), nF4 30 16 (by decide), nF1 30 16 (by decide)]) (by rw [nF5 30 17 (by decide), nF4 30 17 (by decide), nF1 30 17 (by decide)]) (by rw [nF5 38 1 (by decide), nF4 38 1 (by decide), nF1 38 1 (by decide)]) (fun k k1 k2 => by rw [nA7 (30 + k) (by omega), nA3 (30 + k) (by omega)])), (fun z => by
        have z2 := ezp_0n z
        have z1 := ezp_0w z2
        have z0 := ezp_0n z1
        have s0 := ezt_NU_say (k := 7) (nu z0) ((m_3 (by omega) (by omega)).trans (v_1 z1).1) n_3
        have s1 := ezt_NU_say (k := 8) s0 ((m_7 (by omega) (by omega)).trans (v_5 z).1) n_7
        exact s1), rfl⟩
def ezt_m65_1_30Q (e : Bool × Bool) (F : Nat → Nat → Int) (A : Nat → Int → Int) (c : Int → Int) (n : Int) (s : Int × Int) (t : ezp_D) : Option ezq_V → (Nat → ezq_C) → Prop := fun v g' => ∃ (F' : Nat → Nat → Int) (A' : Nat → Int → Int), ezu_g e F' A' = g' ∧ ezs_T F' A' ∧ (∀ p j, ¬ (p = 1 ∧ (j = 3 ∨ j = 4 ∨ j = 5 ∨ j = 6 ∨ j = 7 ∨ j = 8 ∨ j = 9) ∨ p = 30 ∧ (j = 17)) → F' p j = F p j) ∧ (∀ p, ¬ (p = 43) → A' p = A p) ∧ (ezt_ST c n ((ezp_sr c 7 true s t).1) F') ∧ (ezt_TR 30 ((ezp_sr c 7 true s t).2) F' A') ∧ ((ezp_sr c 7 true s t).2.nu = t.nu ∧ (ezp_sr c 7 true s t).2.di = t.di) ∧ none = v
theorem ezt_m65_1_30 {c : Int → Int} {n : Int} {s : Int × Int} {t : ezp_D} {F : Nat → Nat → Int} {A : Nat → Int → Int} (hS : ezs_T F A) (hd : 7 ≤ d) (hn : F 1 2 = n) (hc : c = ezp_ch (A 2) n) (tp : ezp_tp c n) (hw : ∀ j, 0 ≤ j → j < 48 → A 3 j = ezl_cw.getD j.toNat 0) (st : ezt_ST c n s F) (tr : ezt_TR 30 t F A) : ezw_C l ρ B xa Hb D cA 65 d [ezw_p 1, ezw_p 30] (ezu_g e F A) (ezt_m65_1_30Q e F A c n s t) := by
  refine ezw_met (k := 2) rfl rfl ?_
  have hn0 := tp.1
  have hn1 := tp.2.1
  obtain ⟨sf, sk, sc, sb, sb2⟩ := id st
  have hP := ezp_Pr tp s.2
  have c3i : s.1 = 0 → F 1 3 = ezp_K c s.2 := fun z => (sc z).2.2.1
  have c8i : s.1 = 0 → F 1 8 = ezp_P c s.2 := fun z => (sc z).1
  have c4i : s.1 = 0 → ezp_K c s.2 = 101 → F 1 4 = ezp_V c s.2 := fun z => (sc z).2.2.2.1
  have c7i : s.1 = 0 → ezp_K c s.2 = 100 → F 1 7 = ezp_v 32 (ezp_W c s.2) ∧ F 1 5 = ezp_ix (ezp_W c s.2) - 44 := fun z => (sc z).2.2.2.2
  have nt : ezt_NM 30 15 40 t.nT F A := ezt_TR_nt tr
  have nh : ezt_NM 30 16 41 t.nH F A := ezt_TR_nh tr
  have tw := ezt_TR_tn tr
  have trk := tr.2.1
  refine ezw_iconst (0) rfl rfl ?_
  refine ezw_istore_n rfl rfl ?_
  have L2_2 : ∀ c1 : Int, ezw_in c1 → ∀ F_2 : Nat → Nat → Int, ∀ A_2 : Nat → Int → Int, ezs_T F_2 A_2 → (∀ p j, ¬ (p = 1 ∧ (j = 3 ∨ j = 4 ∨ j = 5 ∨ j = 6 ∨ j = 7 ∨ j = 8 ∨ j = 9) ∨ p = 30 ∧ (j = 17)) → F_2 p j = F p j) → (∀ p, ¬ (p = 43) → A_2 p = A p) → ((0) ≤ c1) → (∃ s1 t1, ezp_sr c 7 true s t = ezp_sr c (7 - c1).toNat (decide (c1 = 0)) s1 t1 ∧ ezt_ST c n s1 F_2 ∧ ezt_TR 30 t1 F_2 A_2 ∧ t1.nT = t.nT ∧ t1.kT = t.kT ∧ t1.nu = t.nu ∧ t1.di = t.di) → ezw_E l ρ B xa Hb D cA d ezq_re65 (ezt_m65_1_30Q e F A c n s t) 2 [some (ezw_p 1), some (ezw_p 30), some (ezw_i c1), none] [] (ezu_g e F_2 A_2) := by
    refine ezs_up ?_
    intro c1 hc1 ihc1 F_2 A_2 hS nF_2 nA_2 g_2 iv_2
    obtain ⟨s1, t1, hq, st1, tr1, ht1, ht2, ht3, ht4⟩ := iv_2
    have hs1 := st1.1
    refine ezw_iload_n rfl rfl ?_
    refine ezw_bipush (6) rfl rfl ?_
    refine ezw_icmp_gt rfl rfl hc1 ⟨by decide, by decide⟩ (fun h5_2 => ?_) (fun h5_2 => ?_)
    · exact ezw_return rfl rfl ⟨F_2, A_2, rfl, hS, (fun p j h => by rw [nF_2 p j (by omega)]), (fun p h => by
            funext j
            rw [nA_2 p (by omega)]), (by
            rw [hq, show (7 - c1).toNat = 0 by omega]
            exact st1), (by
            rw [hq, show (7 - c1).toNat = 0 by omega]
            exact tr1), (by
            rw [hq, show (7 - c1).toNat = 0 by omega]
            exact ⟨ht3, ht4⟩), rfl⟩
    · refine ezw_aload_n rfl rfl ?_
      refine ezw_call0_0 rfl (by omega) (ezu_at rfl) rfl rfl rfl rfl (ezt_m45_1 hS (by omega)) ?_
      rintro _ _ ⟨rfl, u4, hu4, p3_0, p3_1, rfl⟩
      refine ezw_if_eq rfl rfl ⟨by omega, by omega⟩ (fun h12_4 => ?_) (fun h12_4 => ?_)
      · exact ezw_return rfl rfl ⟨F_2, A_2, rfl, hS, (fun p j h => by rw [nF_2 p j (by omega)]), (fun p h => by
              funext j
              rw [nA_2 p (by omega)]), (by
              rw [hq, ezp_sr_n (by have h8 := p3_1 (by omega); omega)]
              exact st1), (by
              rw [hq, ezp_sr_n (by have h8 := p3_1 (by omega); omega)]
              exact tr1), (by
              rw [hq, ezp_sr_n (by have h8 := p3_1 (by omega); omega)]
              exact ⟨ht3, ht4⟩), rfl⟩
      · refine ezw_iload_n rfl rfl ?_
        refine ezw_if_le rfl rfl hc1 (fun h16_4 => ?_) (fun h16_4 => ?_)
        · have hm : (7 - c1).toNat = (7 - (c1 + 1)).toNat + 1 := by omega
          have hb : ¬ (decide (c1 = 0) = false ∧ ezp_K c s1.2 = 259) := by
                intro z
                have h3 := of_decide_eq_false z.1
                have h4 := z.2
                have h6 := p3_0 (by omega)
                omega
          refine ezw_aload_n rfl rfl ?_
          refine ezw_aload_n rfl rfl ?_
          refine ezw_iconst (0) rfl rfl ?_
          refine ezw_call0_2 rfl (by omega) (ezu_at rfl) rfl rfl rfl rfl (ezt_m62_1_30_v0 hS (by omega) (by rw [nF_2 1 2 (by decide)]; exact hn) (by rw [nA_2 2 (by decide)]; exact hc) tp st1 (ezt_NM_fr nt (by rw [nF_2 30 15 (by decide)]) (by rw [nA_2 40 (by decide)])) (ezt_NM_fr nh (by rw [nF_2 30 16 (by decide)]) (by rw [nA_2 41 (by decide)])) (by rw [nF_2 30 15 (by decide), nF_2 30 16 (by decide)]; exact tw)) ?_
          rintro _ _ ⟨F5, rfl, hS, nF5, u6, hu6, st_5, v_5, p5_2, rfl⟩
          refine ezw_istore_n rfl rfl ?_
          refine ezw_aload_n rfl rfl ?_
          refine ezw_call0_0 rfl (by omega) (ezu_at rfl) rfl rfl rfl rfl (ezt_m45_1 hS (by omega)) ?_
          rintro _ _ ⟨rfl, u8, hu8, p7_0, p7_1, rfl⟩
          refine ezw_if_ne rfl rfl ⟨by omega, by omega⟩ (fun h41_8 => ?_) (fun h41_8 => ?_)
          · have z2a := st_5.1.symm.trans (p7_0 (by omega))
            have z2 : (ezp_se c t1.nT t1.kT s1).1 = 0 := by rw [ht1, ht2]; exact z2a
            have ev : u6 = ezp_fi t1.nT t1.kT (ezp_W c s1.2) := by rw [ht1, ht2]; exact (v_5 z2a).1
            refine ezw_aload_n rfl rfl ?_
            refine ezw_iload_n rfl rfl ?_
            refine ezw_call0_1 rfl (by omega) (ezu_at rfl) rfl rfl rfl rfl (ezt_m66_30 hS (by omega) hu6 (ezt_TR_fr tr1 (by rw [nF5 30 15 (by decide)]) (by rw [nF5 30 16 (by decide)]) (by rw [nF5 30 17 (by decide)]) (by rw [nF5 38 1 (by decide)]) (fun _ _ _ => rfl))) ?_
            rintro _ _ ⟨rfl, u10, hu10, p9_0, p9_1, rfl⟩
            refine ezw_if_eq rfl rfl ⟨by omega, by omega⟩ (fun h50_10 => ?_) (fun h50_10 => ?_)
            · have hk17 := tr1.1.2.2.1
              refine ezw_aload_n rfl rfl ?_
              refine ezy_get_i hS rfl rfl rfl rfl rfl rfl (fun u11 hu11 ku11 eu11 => ?_)
              rw [nF5 30 17 (by decide)] at eu11
              replace eu11 := eu11.symm
              subst eu11
              refine ezw_bipush (6) rfl rfl ?_
              refine ezw_icmp_lt rfl rfl hu11 ⟨by decide, by decide⟩ (fun h67_11 => ?_) (fun h67_11 => ?_)
              · refine ezw_aload_n rfl rfl ?_
                refine ezw_iload_n rfl rfl ?_
                refine ezw_call0_1 rfl (by omega) (ezu_at rfl) rfl rfl rfl rfl (ezt_m67_30 hS (by omega) hu6 (ezt_TR_fr tr1 (by rw [nF5 30 15 (by decide)]) (by rw [nF5 30 16 (by decide)]) (by rw [nF5 30 17 (by decide)]) (by rw [nF5 38 1 (by decide)]) (fun _ _ _ => rfl)) (by omega)) ?_
                rintro _ _ ⟨F12, A12, rfl, hS, nF12, nA12, tr_12, rfl⟩
                refine ezw_aload_n rfl rfl ?_
                refine ezw_call0_0 rfl (by omega) (ezu_at rfl) rfl rfl rfl rfl (ezt_take hS (by omega) (by rw [nF12 1 2 (by decide), nF5 1 2 (by decide), nF_2 1 2 (by decide)]; exact hn) (by rw [nA12 2 (by decide), nA_2 2 (by decide)]; exact hc) tp (by rw [nA12 3 (by decide), nA_2 3 (by decide)]; exact hw) (ezt_ST_fr st_5 (fun j j0 j1 => by rw [nF12 1 j (by omega)]))) ?_
                rintro _ _ ⟨F13, rfl, hS, nF13, st_13, rfl⟩
                refine ezw_iinc (k := c1 + 1) (1) rfl rfl rfl (by omega) rfl ?_
                refine ezw_goto rfl rfl ?_
                exact ezw_keepE [true, true, true, false] (ihc1 (c1 + 1) (by omega) ⟨by omega, by omega⟩ F13 A12 hS (fun p j h => by rw [nF13 p j (by omega), nF12 p j (by omega), nF5 p j (by omega), nF_2 p j (by omega)]) (fun p h => by
                      funext j
                      rw [nA12 p (by omega), nA_2 p (by omega)]) (by omega) (⟨ezp_t (ezp_se c t.nT t.kT s1), t1.strg u6, (by
                      rw [hq, hm, ezp_sr_s hb z2 (by rw [← ev]; exact p9_1 (by omega)) (by omega), ← ev, ht1, ht2, (decide_eq_false (by omega) : decide (c1 + 1 = 0) = false), show (7 - (c1 + 1)).toNat = (7 - (c1 + 1)).toNat by omega]), st_13, (ezt_TR_fr tr_12 (by rw [nF13 30 15 (by decide)]) (by rw [nF13 30 16 (by decide)]) (by rw [nF13 30 17 (by decide)]) (by rw [nF13 38 1 (by decide)]) (fun _ _ _ => rfl)), ht1, ht2, ht3, ht4⟩))
              · refine ezw_aload_n rfl rfl ?_
                refine ezw_iconst (5) rfl rfl ?_
                refine ezw_call0_1 rfl (by omega) (ezu_at rfl) rfl rfl rfl rfl (ezt_m50_1 hS (by omega) ⟨by decide, by decide⟩ (by rw [nF5 1 2 (by decide), nF_2 1 2 (by decide)]; exact hn) (by rw [nA_2 2 (by decide)]; exact hc) tp st_5 (by omega)) ?_
                rintro _ _ ⟨F14, rfl, hS, nF14, st_14, rfl⟩
                refine ezw_goto rfl rfl ?_
                refine ezw_iinc (k := c1 + 1) (1) rfl rfl rfl (by omega) rfl ?_
                refine ezw_goto rfl rfl ?_
                exact ezw_keepE [true, true, true, false] (ihc1 (c1 + 1) (by omega) ⟨by omega, by omega⟩ F14 A_2 hS (fun p j h => by rw [nF14 p j (by omega), nF5 p j (by omega), nF_2 p j (by omega)]) (fun p h => by
                      funext j
                      rw [nA_2 p (by omega)]) (by omega) (⟨ezp_wr c 5 (ezp_se c t.nT t.kT s1), t1, (by
                      rw [hq, hm, ezp_sr_5 hb z2 (by rw [← ev]; exact p9_1 (by omega)) (by omega), ht1, ht2, (decide_eq_false (by omega) : decide (c1 + 1 = 0) = false), show (7 - (c1 + 1)).toNat = (7 - (c1 + 1)).toNat by omega]), st_14, (ezt_TR_fr tr1 (by rw [nF14 30 15 (by decide), nF5 30 15 (by decide)]) (by rw [nF14 30 16 (by decide), nF5 30 16 (by decide)]) (by rw [nF14 30 17 (by decide), nF5 30 17 (by decide)]) (by rw [nF14 38 1 (by decide), nF5 38 1 (by decide)]) (fun _ _ _ => rfl)), ht1, ht2, ht3, ht4⟩))
            · refine ezw_aload_n rfl rfl ?_
              refine ezw_iconst (3) rfl rfl ?_
              refine ezw_call0_1 rfl (by omega) (ezu_at rfl) rfl rfl rfl rfl (ezt_m50_1 hS (by omega) ⟨by decide, by decide⟩ (by rw [nF5 1 2 (by decide), nF_2 1 2 (by decide)]; exact hn) (by rw [nA_2 2 (by decide)]; exact hc) tp st_5 (by omega)) ?_
              rintro _ _ ⟨F15, rfl, hS, nF15, st_15, rfl⟩
              refine ezw_goto rfl rfl ?_
              refine ezw_iinc (k := c1 + 1) (1) rfl rfl rfl (by omega) rfl ?_
              refine ezw_goto rfl rfl ?_
              exact ezw_keepE [true, true, true, false] (ihc1 (c1 + 1) (by omega) ⟨by omega, by omega⟩ F15 A_2 hS (fun p j h => by rw [nF15 p j (by omega), nF5 p j (by omega), nF_2 p j (by omega)]) (fun p h => by
                    funext j
                    rw [nA_2 p (by omega)]) (by omega) (⟨ezp_wr c 3 (ezp_se c t.nT t.kT s1), t1, (by
                    rw [hq, hm, ezp_sr_3 hb z2 (by rw [← ev]; exact p9_0 (by omega)), ht1, ht2, (decide_eq_false (by omega) : decide (c1 + 1 = 0) = false), show (7 - (c1 + 1)).toNat = (7 - (c1 + 1)).toNat by omega]), st_15, (ezt_TR_fr tr1 (by rw [nF15 30 15 (by decide), nF5 30 15 (by decide)]) (by rw [nF15 30 16 (by decide), nF5 30 16 (by decide)]) (by rw [nF15 30 17 (by decide), nF5 30 17 (by decide)]) (by rw [nF15 38 1 (by decide), nF5 38 1 (by decide)]) (fun _ _ _ => rfl)), ht1, ht2, ht3, ht4⟩))
          · exact ezw_return rfl rfl ⟨F5, A_2, rfl, hS, (fun p j h => by rw [nF5 p j (by omega), nF_2 p j (by omega)]), (fun p h => by
                  funext j
                  rw [nA_2 p (by omega)]), (by
                  rw [hq, hm, ezp_sr_f hb (by rw [ht1, ht2]; exact (fun h9 => p7_1 (by omega) (st_5.1.trans h9))), ht1, ht2]
                  exact st_5), (by
                  rw [hq, hm, ezp_sr_f hb (by rw [ht1, ht2]; exact (fun h9 => p7_1 (by omega) (st_5.1.trans h9))), ht1, ht2]
                  exact (ezt_TR_fr tr1 (by rw [nF5 30 15 (by decide)]) (by rw [nF5 30 16 (by decide)]) (by rw [nF5 30 17 (by decide)]) (by rw [nF5 38 1 (by decide)]) (fun _ _ _ => rfl))), (by
                  rw [hq, hm, ezp_sr_f hb (by rw [ht1, ht2]; exact (fun h9 => p7_1 (by omega) (st_5.1.trans h9))), ht1, ht2]
                  exact ⟨ht3, ht4⟩), rfl⟩
        · refine ezw_aload_n rfl rfl ?_
          refine ezw_sipush (259) rfl rfl ?_
          refine ezw_call0_1 rfl (by omega) (ezu_at rfl) rfl rfl rfl rfl (ezt_m46_1 hS (by omega) ⟨by decide, by decide⟩ (by rw [nF_2 1 2 (by decide)]; exact hn) (by rw [nA_2 2 (by decide)]; exact hc) tp st1) ?_
          rintro _ _ ⟨rfl, u17, hu17, p16_0, p16_1, rfl⟩
          refine ezw_if_eq rfl rfl ⟨by omega, by omega⟩ (fun h26_17 => ?_) (fun h26_17 => ?_)
          · have hm : (7 - c1).toNat = (7 - (c1 + 1)).toNat + 1 := by omega
            have hb : ¬ (decide (c1 = 0) = false ∧ ezp_K c s1.2 = 259) := by
                  intro z
                  have h3 := of_decide_eq_false z.1
                  have h4 := z.2
                  have h6 := p3_0 (by omega)
                  have h5 := p16_1 (by omega)
                  omega
            refine ezw_aload_n rfl rfl ?_
            refine ezw_aload_n rfl rfl ?_
            refine ezw_iconst (0) rfl rfl ?_
            refine ezw_call0_2 rfl (by omega) (ezu_at rfl) rfl rfl rfl rfl (ezt_m62_1_30_v0 hS (by omega) (by rw [nF_2 1 2 (by decide)]; exact hn) (by rw [nA_2 2 (by decide)]; exact hc) tp st1 (ezt_NM_fr nt (by rw [nF_2 30 15 (by decide)]) (by rw [nA_2 40 (by decide)])) (ezt_NM_fr nh (by rw [nF_2 30 16 (by decide)]) (by rw [nA_2 41 (by decide)])) (by rw [nF_2 30 15 (by decide), nF_2 30 16 (by decide)]; exact tw)) ?_
            rintro _ _ ⟨F18, rfl, hS, nF18, u19, hu19, st_18, v_18, p18_2, rfl⟩
            refine ezw_istore_n rfl rfl ?_
            refine ezw_aload_n rfl rfl ?_
            refine ezw_call0_0 rfl (by omega) (ezu_at rfl) rfl rfl rfl rfl (ezt_m45_1 hS (by omega)) ?_
            rintro _ _ ⟨rfl, u21, hu21, p20_0, p20_1, rfl⟩
            refine ezw_if_ne rfl rfl ⟨by omega, by omega⟩ (fun h41_21 => ?_) (fun h41_21 => ?_)
            · have z2a := st_18.1.symm.trans (p20_0 (by omega))
              have z2 : (ezp_se c t1.nT t1.kT s1).1 = 0 := by rw [ht1, ht2]; exact z2a
              have ev : u19 = ezp_fi t1.nT t1.kT (ezp_W c s1.2) := by rw [ht1, ht2]; exact (v_18 z2a).1
              refine ezw_aload_n rfl rfl ?_
              refine ezw_iload_n rfl rfl ?_
              refine ezw_call0_1 rfl (by omega) (ezu_at rfl) rfl rfl rfl rfl (ezt_m66_30 hS (by omega) hu19 (ezt_TR_fr tr1 (by rw [nF18 30 15 (by decide)]) (by rw [nF18 30 16 (by decide)]) (by rw [nF18 30 17 (by decide)]) (by rw [nF18 38 1 (by decide)]) (fun _ _ _ => rfl))) ?_
              rintro _ _ ⟨rfl, u23, hu23, p22_0, p22_1, rfl⟩
              refine ezw_if_eq rfl rfl ⟨by omega, by omega⟩ (fun h50_23 => ?_) (fun h50_23 => ?_)
              · have hk17 := tr1.1.2.2.1
                refine ezw_aload_n rfl rfl ?_
                refine ezy_get_i hS rfl rfl rfl rfl rfl rfl (fun u24 hu24 ku24 eu24 => ?_)
                rw [nF18 30 17 (by decide)] at eu24
                replace eu24 := eu24.symm
                subst eu24
                refine ezw_bipush (6) rfl rfl ?_
                refine ezw_icmp_lt rfl rfl hu24 ⟨by decide, by decide⟩ (fun h67_24 => ?_) (fun h67_24 => ?_)
                · refine ezw_aload_n rfl rfl ?_
                  refine ezw_iload_n rfl rfl ?_
                  refine ezw_call0_1 rfl (by omega) (ezu_at rfl) rfl rfl rfl rfl (ezt_m67_30 hS (by omega) hu19 (ezt_TR_fr tr1 (by rw [nF18 30 15 (by decide)]) (by rw [nF18 30 16 (by decide)]) (by rw [nF18 30 17 (by decide)]) (by rw [nF18 38 1 (by decide)]) (fun _ _ _ => rfl)) (by omega)) ?_
                  rintro _ _ ⟨F25, A25, rfl, hS, nF25, nA25, tr_25, rfl⟩
                  refine ezw_aload_n rfl rfl ?_
                  refine ezw_call0_0 rfl (by omega) (ezu_at rfl) rfl rfl rfl rfl (ezt_take hS (by omega) (by rw [nF25 1 2 (by decide), nF18 1 2 (by decide), nF_2 1 2 (by decide)]; exact hn) (by rw [nA25 2 (by decide), nA_2 2 (by decide)]; exact hc) tp (by rw [nA25 3 (by decide), nA_2 3 (by decide)]; exact hw) (ezt_ST_fr st_18 (fun j j0 j1 => by rw [nF25 1 j (by omega)]))) ?_
                  rintro _ _ ⟨F26, rfl, hS, nF26, st_26, rfl⟩
                  refine ezw_iinc (k := c1 + 1) (1) rfl rfl rfl (by omega) rfl ?_
                  refine ezw_goto rfl rfl ?_
                  exact ezw_keepE [true, true, true, false] (ihc1 (c1 + 1) (by omega) ⟨by omega, by omega⟩ F26 A25 hS (fun p j h => by rw [nF26 p j (by omega), nF25 p j (by omega), nF18 p j (by omega), nF_2 p j (by omega)]) (fun p h => by
                        funext j
                        rw [nA25 p (by omega), nA_2 p (by omega)]) (by omega) (⟨ezp_t (ezp_se c t.nT t.kT s1), t1.strg u19, (by
                        rw [hq, hm, ezp_sr_s hb z2 (by rw [← ev]; exact p22_1 (by omega)) (by omega), ← ev, ht1, ht2, (decide_eq_false (by omega) : decide (c1 + 1 = 0) = false), show (7 - (c1 + 1)).toNat = (7 - (c1 + 1)).toNat by omega]), st_26, (ezt_TR_fr tr_25 (by rw [nF26 30 15 (by decide)]) (by rw [nF26 30 16 (by decide)]) (by rw [nF26 30 17 (by decide)]) (by rw [nF26 38 1 (by decide)]) (fun _ _ _ => rfl)), ht1, ht2, ht3, ht4⟩))
                · refine ezw_aload_n rfl rfl ?_
                  refine ezw_iconst (5) rfl rfl ?_
                  refine ezw_call0_1 rfl (by omega) (ezu_at rfl) rfl rfl rfl rfl (ezt_m50_1 hS (by omega) ⟨by decide, by decide⟩ (by rw [nF18 1 2 (by decide), nF_2 1 2 (by decide)]; exact hn) (by rw [nA_2 2 (by decide)]; exact hc) tp st_18 (by omega)) ?_
                  rintro _ _ ⟨F27, rfl, hS, nF27, st_27, rfl⟩
                  refine ezw_goto rfl rfl ?_
                  refine ezw_iinc (k := c1 + 1) (1) rfl rfl rfl (by omega) rfl ?_
                  refine ezw_goto rfl rfl ?_
                  exact ezw_keepE [true, true, true, false] (ihc1 (c1 + 1) (by omega) ⟨by omega, by omega⟩ F27 A_2 hS (fun p j h => by rw [nF27 p j (by omega), nF18 p j (by omega), nF_2 p j (by omega)]) (fun p h => by
                        funext j
                        rw [nA_2 p (by omega)]) (by omega) (⟨ezp_wr c 5 (ezp_se c t.nT t.kT s1), t1, (by
                        rw [hq, hm, ezp_sr_5 hb z2 (by rw [← ev]; exact p22_1 (by omega)) (by omega), ht1, ht2, (decide_eq_false (by omega) : decide (c1 + 1 = 0) = false), show (7 - (c1 + 1)).toNat = (7 - (c1 + 1)).toNat by omega]), st_27, (ezt_TR_fr tr1 (by rw [nF27 30 15 (by decide), nF18 30 15 (by decide)]) (by rw [nF27 30 16 (by decide), nF18 30 16 (by decide)]) (by rw [nF27 30 17 (by decide), nF18 30 17 (by decide)]) (by rw [nF27 38 1 (by decide), nF18 38 1 (by decide)]) (fun _ _ _ => rfl)), ht1, ht2, ht3, ht4⟩))
              · refine ezw_aload_n rfl rfl ?_
                refine ezw_iconst (3) rfl rfl ?_
                refine ezw_call0_1 rfl (by omega) (ezu_at rfl) rfl rfl rfl rfl (ezt_m50_1 hS (by omega) ⟨by decide, by decide⟩ (by rw [nF18 1 2 (by decide), nF_2 1 2 (by decide)]; exact hn) (by rw [nA_2 2 (by decide)]; exact hc) tp st_18 (by omega)) ?_
                rintro _ _ ⟨F28, rfl, hS, nF28, st_28, rfl⟩
                refine ezw_goto rfl rfl ?_
                refine ezw_iinc (k := c1 + 1) (1) rfl rfl rfl (by omega) rfl ?_
                refine ezw_goto rfl rfl ?_
                exact ezw_keepE [true, true, true, false] (ihc1 (c1 + 1) (by omega) ⟨by omega, by omega⟩ F28 A_2 hS (fun p j h => by rw [nF28 p j (by omega), nF18 p j (by omega), nF_2 p j (by omega)]) (fun p h => by
                      funext j
                      rw [nA_2 p (by omega)]) (by omega) (⟨ezp_wr c 3 (ezp_se c t.nT t.kT s1), t1, (by
                      rw [hq, hm, ezp_sr_3 hb z2 (by rw [← ev]; exact p22_0 (by omega)), ht1, ht2, (decide_eq_false (by omega) : decide (c1 + 1 = 0) = false), show (7 - (c1 + 1)).toNat = (7 - (c1 + 1)).toNat by omega]), st_28, (ezt_TR_fr tr1 (by rw [nF28 30 15 (by decide), nF18 30 15 (by decide)]) (by rw [nF28 30 16 (by decide), nF18 30 16 (by decide)]) (by rw [nF28 30 17 (by decide), nF18 30 17 (by decide)]) (by rw [nF28 38 1 (by decide), nF18 38 1 (by decide)]) (fun _ _ _ => rfl)), ht1, ht2, ht3, ht4⟩))
            · exact ezw_return rfl rfl ⟨F18, A_2, rfl, hS, (fun p j h => by rw [nF18 p j (by omega), nF_2 p j (by omega)]), (fun p h => by
                    funext j
                    rw [nA_2 p (by omega)]), (by
                    rw [hq, hm, ezp_sr_f hb (by rw [ht1, ht2]; exact (fun h9 => p20_1 (by omega) (st_18.1.trans h9))), ht1, ht2]
                    exact st_18), (by
                    rw [hq, hm, ezp_sr_f hb (by rw [ht1, ht2]; exact (fun h9 => p20_1 (by omega) (st_18.1.trans h9))), ht1, ht2]
                    exact (ezt_TR_fr tr1 (by rw [nF18 30 15 (by decide)]) (by rw [nF18 30 16 (by decide)]) (by rw [nF18 30 17 (by decide)]) (by rw [nF18 38 1 (by decide)]) (fun _ _ _ => rfl))), (by
                    rw [hq, hm, ezp_sr_f hb (by rw [ht1, ht2]; exact (fun h9 => p20_1 (by omega) (st_18.1.trans h9))), ht1, ht2]
                    exact ⟨ht3, ht4⟩), rfl⟩
          · exact ezw_return rfl rfl ⟨F_2, A_2, rfl, hS, (fun p j h => by rw [nF_2 p j (by omega)]), (fun p h => by
                  funext j
                  rw [nA_2 p (by omega)]), (by
                  rw [hq, show (7 - c1).toNat = (7 - (c1 + 1)).toNat + 1 by omega, ezp_sr_e (p16_0 (by omega)).1 ⟨decide_eq_false (by omega), (p16_0 (by omega)).2⟩]
                  exact st1), (by
                  rw [hq, show (7 - c1).toNat = (7 - (c1 + 1)).toNat + 1 by omega, ezp_sr_e (p16_0 (by omega)).1 ⟨decide_eq_false (by omega), (p16_0 (by omega)).2⟩]
                  exact tr1), (by
                  rw [hq, show (7 - c1).toNat = (7 - (c1 + 1)).toNat + 1 by omega, ezp_sr_e (p16_0 (by omega)).1 ⟨decide_eq_false (by omega), (p16_0 (by omega)).2⟩]
                  exact ⟨ht3, ht4⟩), rfl⟩
  exact ezw_keepE [true, true, true, false] (L2_2 (0) ⟨by decide, by decide⟩ F A hS (fun _ _ _ => rfl) (fun _ _ => rfl) (by omega) (⟨s, t, rfl, st, tr, rfl, rfl, rfl, rfl⟩))
def ezt_m68_1_47Q (e : Bool × Bool) (F : Nat → Nat → Int) (A : Nat → Int → Int) (c : Int → Int) (n : Int) (s : Int × Int) (t : ezp_D) : Option ezq_V → (Nat → ezq_C) → Prop := fun v g' => ∃ (F' : Nat → Nat → Int) (A' : Nat → Int → Int), ezu_g e F' A' = g' ∧ ezs_T F' A' ∧ (∀ p j, ¬ (p = 1 ∧ (j = 3 ∨ j = 4 ∨ j = 5 ∨ j = 6 ∨ j = 7 ∨ j = 8 ∨ j = 9)) → F' p j = F p j) ∧ (∀ p, ¬ (p = 61) → A' p = A p) ∧ (ezt_ST c n (ezp_ktS c s) F') ∧ (ezt_TR 47 (ezp_ktD c t s) F' A') ∧ ((ezp_ktS c s).1 = 0 → ezt_NU 47 (ezp_ktD c t s) A') ∧ none = v
theorem ezt_m68_1_47 {c : Int → Int} {n : Int} {s : Int × Int} {t : ezp_D} {F : Nat → Nat → Int} {A : Nat → Int → Int} (hS : ezs_T F A) (hd : 8 ≤ d) (hn : F 1 2 = n) (hc : c = ezp_ch (A 2) n) (tp : ezp_tp c n) (hw : ∀ j, 0 ≤ j → j < 48 → A 3 j = ezl_cw.getD j.toNat 0) (st : ezt_ST c n s F) (tr : ezt_TR 47 t F A) (nu : s.1 = 0 → ezt_NU 47 t A) : ezw_C l ρ B xa Hb D cA 68 d [ezw_p 1, ezw_p 47] (ezu_g e F A) (ezt_m68_1_47Q e F A c n s t) := by
  refine ezw_met (k := 0) rfl rfl ?_
  refine ezw_aload_n rfl rfl ?_
  refine ezw_bipush (7) rfl rfl ?_
  refine ezw_call0_1 rfl (by omega) (ezu_at rfl) rfl rfl rfl rfl (ezt_m56_1 hS (by omega) ⟨by decide, by decide⟩ hn hc tp hw st) ?_
  rintro _ _ ⟨F1, rfl, hS, nF1, st_1, rfl⟩
  refine ezw_aload_n rfl rfl ?_
  refine ezw_iconst (0) rfl rfl ?_
  refine ezw_aload_n rfl rfl ?_
  refine ezw_iconst (0) rfl rfl ?_
  refine ezw_sipush (999) rfl rfl ?_
  refine ezw_call0_2 rfl (by omega) (ezu_at rfl) rfl rfl rfl rfl (ezt_m57_1 hS (by omega) ⟨by decide, by decide⟩ ⟨by decide, by decide⟩ (by rw [nF1 1 2 (by decide)]; exact hn) hc tp hw st_1) ?_
  rintro _ _ ⟨F2, rfl, hS, nF2, u3, hu3, st_2, v_2, p2_2, rfl⟩
  refine ezw_call0_2 rfl (by omega) (ezu_at rfl) rfl rfl rfl rfl (ezt_m69_47 hS (by omega) ⟨by decide, by decide⟩ hu3 (by omega)) ?_
  rintro _ _ ⟨A4, rfl, hS, nA4, m_4, n_4, rfl⟩
  refine ezw_aload_n rfl rfl ?_
  refine ezw_bipush (8) rfl rfl ?_
  refine ezw_call0_1 rfl (by omega) (ezu_at rfl) rfl rfl rfl rfl (ezt_m56_1 hS (by omega) ⟨by decide, by decide⟩ (by rw [nF2 1 2 (by decide), nF1 1 2 (by decide)]; exact hn) (by rw [nA4 2 (by decide)]; exact hc) tp (by rw [nA4 3 (by decide)]; exact hw) st_2) ?_
  rintro _ _ ⟨F5, rfl, hS, nF5, st_5, rfl⟩
  refine ezw_aload_n rfl rfl ?_
  refine ezw_iconst (1) rfl rfl ?_
  refine ezw_aload_n rfl rfl ?_
  refine ezw_iconst (0) rfl rfl ?_
  refine ezw_bipush (99) rfl rfl ?_
  refine ezw_call0_2 rfl (by omega) (ezu_at rfl) rfl rfl rfl rfl (ezt_m57_1 hS (by omega) ⟨by decide, by decide⟩ ⟨by decide, by decide⟩ (by rw [nF5 1 2 (by decide), nF2 1 2 (by decide), nF1 1 2 (by decide)]; exact hn) (by rw [nA4 2 (by decide)]; exact hc) tp (by rw [nA4 3 (by decide)]; exact hw) st_5) ?_
  rintro _ _ ⟨F6, rfl, hS, nF6, u7, hu7, st_6, v_6, p6_2, rfl⟩
  refine ezw_call0_2 rfl (by omega) (ezu_at rfl) rfl rfl rfl rfl (ezt_m69_47 hS (by omega) ⟨by decide, by decide⟩ hu7 (by omega)) ?_
  rintro _ _ ⟨A8, rfl, hS, nA8, m_8, n_8, rfl⟩
  exact ezw_return rfl rfl ⟨F6, A8, rfl, hS, (fun p j h => by rw [nF6 p j (by omega), nF5 p j (by omega), nF2 p j (by omega), nF1 p j (by omega)]), (fun p h => by
        funext j
        rw [nA8 p (by omega), nA4 p (by omega)]), st_6, (ezt_TR_fr tr (by rw [nF6 47 15 (by decide), nF5 47 15 (by decide), nF2 47 15 (by decide), nF1 47 15 (by decide)]) (by rw [nF6 47 16 (by decide), nF5 47 16 (by decide), nF2 47 16 (by decide), nF1 47 16 (by decide)]) (by rw [nF6 47 17 (by decide), nF5 47 17 (by decide), nF2 47 17 (by decide), nF1 47 17 (by decide)]) (by rw [nF6 55 1 (by decide), nF5 55 1 (by decide), nF2 55 1 (by decide), nF1 55 1 (by decide)]) (fun k k1 k2 => by rw [nA8 (47 + k) (by omega), nA4 (47 + k) (by omega)])), (fun z => by
        have z3 := ezp_0n z
        have z2 := ezp_0w z3
        have z1 := ezp_0n z2
        have z0 := ezp_0w z1
        have s0 := ezt_NU_say (k := 0) (nu z0) ((m_4 (by omega) (by omega)).trans (v_2 z2).1) n_4
        have s1 := ezt_NU_say (k := 1) s0 ((m_8 (by omega) (by omega)).trans (v_6 z).1) n_8
        exact s1), rfl⟩
def ezt_m75_1_47Q (e : Bool × Bool) (F : Nat → Nat → Int) (A : Nat → Int → Int) (c : Int → Int) (n : Int) (s : Int × Int) (t : ezp_D) : Option ezq_V → (Nat → ezq_C) → Prop := fun v g' => ∃ (F' : Nat → Nat → Int) (A' : Nat → Int → Int), ezu_g e F' A' = g' ∧ ezs_T F' A' ∧ (∀ p j, ¬ (p = 1 ∧ (j = 3 ∨ j = 4 ∨ j = 5 ∨ j = 6 ∨ j = 7 ∨ j = 8 ∨ j = 9)) → F' p j = F p j) ∧ (∀ p, ¬ (p = 61) → A' p = A p) ∧ (ezt_ST c n (ezp_wiS c s) F') ∧ (ezt_TR 47 (ezp_wiD c t s) F' A') ∧ ((ezp_wiS c s).1 = 0 → ezt_NU 47 (ezp_wiD c t s) A') ∧ none = v
theorem ezt_m75_1_47 {c : Int → Int} {n : Int} {s : Int × Int} {t : ezp_D} {F : Nat → Nat → Int} {A : Nat → Int → Int} (hS : ezs_T F A) (hd : 8 ≤ d) (hn : F 1 2 = n) (hc : c = ezp_ch (A 2) n) (tp : ezp_tp c n) (hw : ∀ j, 0 ≤ j → j < 48 → A 3 j = ezl_cw.getD j.toNat 0) (st : ezt_ST c n s F) (tr : ezt_TR 47 t F A) (nu : s.1 = 0 → ezt_NU 47 t A) : ezw_C l ρ B xa Hb D cA 75 d [ezw_p 1, ezw_p 47] (ezu_g e F A) (ezt_m75_1_47Q e F A c n s t) := by
  refine ezw_met (k := 1) rfl rfl ?_
  refine ezw_aload_n rfl rfl ?_
  refine ezw_iconst (2) rfl rfl ?_
  refine ezw_aload_n rfl rfl ?_
  refine ezw_bipush (30) rfl rfl ?_
  refine ezw_iconst (4) rfl rfl ?_
  refine ezw_call0_2 rfl (by omega) (ezu_at rfl) rfl rfl rfl rfl (ezt_m59_1 hS (by omega) ⟨by decide, by decide⟩ ⟨by decide, by decide⟩ hn hc tp hw st (by omega)) ?_
  rintro _ _ ⟨F1, rfl, hS, nF1, u2, hu2, st_1, v_1, p1_2, rfl⟩
  refine ezw_call0_2 rfl (by omega) (ezu_at rfl) rfl rfl rfl rfl (ezt_m69_47 hS (by omega) ⟨by decide, by decide⟩ hu2 (by omega)) ?_
  rintro _ _ ⟨A3, rfl, hS, nA3, m_3, n_3, rfl⟩
  refine ezw_aload_n rfl rfl ?_
  refine ezw_iconst (0) rfl rfl ?_
  refine ezw_bipush (10) rfl rfl ?_
  refine ezw_call0_2 rfl (by omega) (ezu_at rfl) rfl rfl rfl rfl (ezt_m57_1 hS (by omega) ⟨by decide, by decide⟩ ⟨by decide, by decide⟩ (by rw [nF1 1 2 (by decide)]; exact hn) (by rw [nA3 2 (by decide)]; exact hc) tp (by rw [nA3 3 (by decide)]; exact hw) st_1) ?_
  rintro _ _ ⟨F4, rfl, hS, nF4, u5, hu5, st_4, v_4, p4_2, rfl⟩
  refine ezw_istore_n rfl rfl ?_
  refine ezw_aload_n rfl rfl ?_
  refine ezw_iconst (3) rfl rfl ?_
  refine ezw_iload_n rfl rfl ?_
  refine ezw_call0_2 rfl (by omega) (ezu_at rfl) rfl rfl rfl rfl (ezt_m69_47 hS (by omega) ⟨by decide, by decide⟩ hu5 (by omega)) ?_
  rintro _ _ ⟨A6, rfl, hS, nA6, m_6, n_6, rfl⟩
  refine ezw_aload_n rfl rfl ?_
  refine ezw_iconst (4) rfl rfl ?_
  refine ezw_aload_n rfl rfl ?_
  refine ezw_iconst (0) rfl rfl ?_
  refine ezw_bipush (10) rfl rfl ?_
  refine ezw_iload_n rfl rfl ?_
  refine ezw_isub (k := -u5 + 10) rfl (by omega) ?_
  refine ezw_call0_2 rfl (by omega) (ezu_at rfl) rfl rfl rfl rfl (ezt_m57_1 hS (by omega) ⟨by decide, by decide⟩ ⟨by omega, by omega⟩ (by rw [nF4 1 2 (by decide), nF1 1 2 (by decide)]; exact hn) (by rw [nA6 2 (by decide), nA3 2 (by decide)]; exact hc) tp (by rw [nA6 3 (by decide), nA3 3 (by decide)]; exact hw) st_4) ?_
  rintro _ _ ⟨F7, rfl, hS, nF7, u8, hu8, st_7, v_7, p7_2, rfl⟩
  refine ezw_call0_2 rfl (by omega) (ezu_at rfl) rfl rfl rfl rfl (ezt_m69_47 hS (by omega) ⟨by decide, by decide⟩ hu8 (by omega)) ?_
  rintro _ _ ⟨A9, rfl, hS, nA9, m_9, n_9, rfl⟩
  exact ezw_return rfl rfl ⟨F7, A9, rfl, hS, (fun p j h => by rw [nF7 p j (by omega), nF4 p j (by omega), nF1 p j (by omega)]), (fun p h => by
        funext j
        rw [nA9 p (by omega), nA6 p (by omega), nA3 p (by omega)]), (by
        rw [← (show ezp_n c 0 (-u5 + 10) (ezp_wi2 c s) = ezp_wiS c s from ezp_n_c (fun z => (by have h0 : u5 = ezp_V c (ezp_o c 30 4 s).2 := (v_4 z).1; omega)))]
        exact st_7), (ezt_TR_fr tr (by rw [nF7 47 15 (by decide), nF4 47 15 (by decide), nF1 47 15 (by decide)]) (by rw [nF7 47 16 (by decide), nF4 47 16 (by decide), nF1 47 16 (by decide)]) (by rw [nF7 47 17 (by decide), nF4 47 17 (by decide), nF1 47 17 (by decide)]) (by rw [nF7 55 1 (by decide), nF4 55 1 (by decide), nF1 55 1 (by decide)]) (fun k k1 k2 => by rw [nA9 (47 + k) (by omega), nA6 (47 + k) (by omega), nA3 (47 + k) (by omega)])), (fun z => by
        rw [← (show ezp_n c 0 (-u5 + 10) (ezp_wi2 c s) = ezp_wiS c s from ezp_n_c (fun z => (by have h0 : u5 = ezp_V c (ezp_o c 30 4 s).2 := (v_4 z).1; omega)))] at z
        have z2 := ezp_0n z
        have z1 := ezp_0n z2
        have z0 := ezp_0o z1
        have s0 := ezt_NU_say (k := 2) (nu z0) ((m_3 (by omega) (by omega)).trans (v_1 z1).1) n_3
        have s1 := ezt_NU_say (k := 3) s0 ((m_6 (by omega) (by omega)).trans (v_4 z2).1) n_6
        have s2 := ezt_NU_say (k := 4) s1 ((m_9 (by omega) (by omega)).trans (v_7 z).1) n_9
        exact s2), rfl⟩
def ezt_m76_1_47Q (e : Bool × Bool) (F : Nat → Nat → Int) (A : Nat → Int → Int) (c : Int → Int) (n : Int) (s : Int × Int) (t : ezp_D) : Option ezq_V → (Nat → ezq_C) → Prop := fun v g' => ∃ (F' : Nat → Nat → Int) (A' : Nat → Int → Int), ezu_g e F' A' = g' ∧ ezs_T F' A' ∧ (∀ p j, ¬ (p = 1 ∧ (j = 3 ∨ j = 4 ∨ j = 5 ∨ j = 6 ∨ j = 7 ∨ j = 8 ∨ j = 9)) → F' p j = F p j) ∧ (∀ p, ¬ (p = 61) → A' p = A p) ∧ (ezt_ST c n (ezp_laS c s) F') ∧ (ezt_TR 47 (ezp_laD c t s) F' A') ∧ ((ezp_laS c s).1 = 0 → ezt_NU 47 (ezp_laD c t s) A') ∧ none = v
theorem ezt_m76_1_47 {c : Int → Int} {n : Int} {s : Int × Int} {t : ezp_D} {F : Nat → Nat → Int} {A : Nat → Int → Int} (hS : ezs_T F A) (hd : 8 ≤ d) (hn : F 1 2 = n) (hc : c = ezp_ch (A 2) n) (tp : ezp_tp c n) (hw : ∀ j, 0 ≤ j → j < 48 → A 3 j = ezl_cw.getD j.toNat 0) (st : ezt_ST c n s F) (tr : ezt_TR 47 t F A) (nu : s.1 = 0 → ezt_NU 47 t A) : ezw_C l ρ B xa Hb D cA 76 d [ezw_p 1, ezw_p 47] (ezu_g e F A) (ezt_m76_1_47Q e F A c n s t) := by
  refine ezw_met (k := 0) rfl rfl ?_
  refine ezw_aload_n rfl rfl ?_
  refine ezw_bipush (7) rfl rfl ?_
  refine ezw_aload_n rfl rfl ?_
  refine ezw_iconst (0) rfl rfl ?_
  refine ezw_bipush (60) rfl rfl ?_
  refine ezw_call0_2 rfl (by omega) (ezu_at rfl) rfl rfl rfl rfl (ezt_m57_1 hS (by omega) ⟨by decide, by decide⟩ ⟨by decide, by decide⟩ hn hc tp hw st) ?_
  rintro _ _ ⟨F1, rfl, hS, nF1, u2, hu2, st_1, v_1, p1_2, rfl⟩
  refine ezw_call0_2 rfl (by omega) (ezu_at rfl) rfl rfl rfl rfl (ezt_m69_47 hS (by omega) ⟨by decide, by decide⟩ hu2 (by omega)) ?_
  rintro _ _ ⟨A3, rfl, hS, nA3, m_3, n_3, rfl⟩
  refine ezw_aload_n rfl rfl ?_
  refine ezw_bipush (17) rfl rfl ?_
  refine ezw_call0_1 rfl (by omega) (ezu_at rfl) rfl rfl rfl rfl (ezt_m56_1 hS (by omega) ⟨by decide, by decide⟩ (by rw [nF1 1 2 (by decide)]; exact hn) (by rw [nA3 2 (by decide)]; exact hc) tp (by rw [nA3 3 (by decide)]; exact hw) st_1) ?_
  rintro _ _ ⟨F4, rfl, hS, nF4, st_4, rfl⟩
  refine ezw_aload_n rfl rfl ?_
  refine ezw_bipush (8) rfl rfl ?_
  refine ezw_aload_n rfl rfl ?_
  refine ezw_iconst (0) rfl rfl ?_
  refine ezw_bipush (60) rfl rfl ?_
  refine ezw_call0_2 rfl (by omega) (ezu_at rfl) rfl rfl rfl rfl (ezt_m57_1 hS (by omega) ⟨by decide, by decide⟩ ⟨by decide, by decide⟩ (by rw [nF4 1 2 (by decide), nF1 1 2 (by decide)]; exact hn) (by rw [nA3 2 (by decide)]; exact hc) tp (by rw [nA3 3 (by decide)]; exact hw) st_4) ?_
  rintro _ _ ⟨F5, rfl, hS, nF5, u6, hu6, st_5, v_5, p5_2, rfl⟩
  refine ezw_call0_2 rfl (by omega) (ezu_at rfl) rfl rfl rfl rfl (ezt_m69_47 hS (by omega) ⟨by decide, by decide⟩ hu6 (by omega)) ?_
  rintro _ _ ⟨A7, rfl, hS, nA7, m_7, n_7, rfl⟩
  exact ezw_return rfl rfl ⟨F5, A7, rfl, hS, (fun p j h => by rw [nF5 p j (by omega), nF4 p j (by omega), nF1 p j (by omega)]), (fun p h => by
        funext j
        rw [nA7 p (by omega), nA3 p (by omega)]), st_5, (ezt_TR_fr tr (by rw [nF5 47 15 (by decide), nF4 47 15 (by decide), nF1 47 15 (by decide)]) (by rw [nF5 47 16 (by decide), nF4 47 16 (by decide), nF1 47 16 (by decide)]) (by rw [nF5 47 17 (by decide), nF4 47 17 (by decide), nF1 47 17 (by decide)]) (by rw [nF5 55 1 (by decide), nF4 55 1 (by decide), nF1 55 1 (by decide)]) (fun k k1 k2 => by rw [nA7 (47 + k) (by omega), nA3 (47 + k) (by omega)])), (fun z => by
        have z2 := ezp_0n z
        have z1 := ezp_0w z2
        have z0 := ezp_0n z1
        have s0 := ezt_NU_say (k := 7) (nu z0) ((m_3 (by omega) (by omega)).trans (v_1 z1).1) n_3
        have s1 := ezt_NU_say (k := 8) s0 ((m_7 (by omega) (by omega)).trans (v_5 z).1) n_7
        exact s1), rfl⟩
def ezt_m65_1_47Q (e : Bool × Bool) (F : Nat → Nat → Int) (A : Nat → Int → Int) (c : Int → Int) (n : Int) (s : Int × Int) (t : ezp_D) : Option ezq_V → (Nat → ezq_C) → Prop := fun v g' => ∃ (F' : Nat → Nat → Int) (A' : Nat → Int → Int), ezu_g e F' A' = g' ∧ ezs_T F' A' ∧ (∀ p j, ¬ (p = 1 ∧ (j = 3 ∨ j = 4 ∨ j = 5 ∨ j = 6 ∨ j = 7 ∨ j = 8 ∨ j = 9) ∨ p = 47 ∧ (j = 17)) → F' p j = F p j) ∧ (∀ p, ¬ (p = 60) → A' p = A p) ∧ (ezt_ST c n ((ezp_sr c 7 true s t).1) F') ∧ (ezt_TR 47 ((ezp_sr c 7 true s t).2) F' A') ∧ ((ezp_sr c 7 true s t).2.nu = t.nu ∧ (ezp_sr c 7 true s t).2.di = t.di) ∧ none = v
theorem ezt_m65_1_47 {c : Int → Int} {n : Int} {s : Int × Int} {t : ezp_D} {F : Nat → Nat → Int} {A : Nat → Int → Int} (hS : ezs_T F A) (hd : 7 ≤ d) (hn : F 1 2 = n) (hc : c = ezp_ch (A 2) n) (tp : ezp_tp c n) (hw : ∀ j, 0 ≤ j → j < 48 → A 3 j = ezl_cw.getD j.toNat 0) (st : ezt_ST c n s F) (tr : ezt_TR 47 t F A) : ezw_C l ρ B xa Hb D cA 65 d [ezw_p 1, ezw_p 47] (ezu_g e F A) (ezt_m65_1_47Q e F A c n s t) := by
  refine ezw_met (k := 2) rfl rfl ?_
  have hn0 := tp.1
  have hn1 := tp.2.1
  obtain ⟨sf, sk, sc, sb, sb2⟩ := id st
  have hP := ezp_Pr tp s.2
  have c3i : s.1 = 0 → F 1 3 = ezp_K c s.2 := fun z => (sc z).2.2.1
  have c8i : s.1 = 0 → F 1 8 = ezp_P c s.2 := fun z => (sc z).1
  have c4i : s.1 = 0 → ezp_K c s.2 = 101 → F 1 4 = ezp_V c s.2 := fun z => (sc z).2.2.2.1
  have c7i : s.1 = 0 → ezp_K c s.2 = 100 → F 1 7 = ezp_v 32 (ezp_W c s.2) ∧ F 1 5 = ezp_ix (ezp_W c s.2) - 44 := fun z => (sc z).2.2.2.2
  have nt : ezt_NM 47 15 57 t.nT F A := ezt_TR_nt tr
  have nh : ezt_NM 47 16 58 t.nH F A := ezt_TR_nh tr
  have tw := ezt_TR_tn tr
  have trk := tr.2.1
  refine ezw_iconst (0) rfl rfl ?_
  refine ezw_istore_n rfl rfl ?_
  have L2_2 : ∀ c1 : Int, ezw_in c1 → ∀ F_2 : Nat → Nat → Int, ∀ A_2 : Nat → Int → Int, ezs_T F_2 A_2 → (∀ p j, ¬ (p = 1 ∧ (j = 3 ∨ j = 4 ∨ j = 5 ∨ j = 6 ∨ j = 7 ∨ j = 8 ∨ j = 9) ∨ p = 47 ∧ (j = 17)) → F_2 p j = F p j) → (∀ p, ¬ (p = 60) → A_2 p = A p) → ((0) ≤ c1) → (∃ s1 t1, ezp_sr c 7 true s t = ezp_sr c (7 - c1).toNat (decide (c1 = 0)) s1 t1 ∧ ezt_ST c n s1 F_2 ∧ ezt_TR 47 t1 F_2 A_2 ∧ t1.nT = t.nT ∧ t1.kT = t.kT ∧ t1.nu = t.nu ∧ t1.di = t.di) → ezw_E l ρ B xa Hb D cA d ezq_re65 (ezt_m65_1_47Q e F A c n s t) 2 [some (ezw_p 1), some (ezw_p 47), some (ezw_i c1), none] [] (ezu_g e F_2 A_2) := by
    refine ezs_up ?_
    intro c1 hc1 ihc1 F_2 A_2 hS nF_2 nA_2 g_2 iv_2
    obtain ⟨s1, t1, hq, st1, tr1, ht1, ht2, ht3, ht4⟩ := iv_2
    have hs1 := st1.1
    refine ezw_iload_n rfl rfl ?_
    refine ezw_bipush (6) rfl rfl ?_
    refine ezw_icmp_gt rfl rfl hc1 ⟨by decide, by decide⟩ (fun h5_2 => ?_) (fun h5_2 => ?_)
    · exact ezw_return rfl rfl ⟨F_2, A_2, rfl, hS, (fun p j h => by rw [nF_2 p j (by omega)]), (fun p h => by
            funext j
            rw [nA_2 p (by omega)]), (by
            rw [hq, show (7 - c1).toNat = 0 by omega]
            exact st1), (by
            rw [hq, show (7 - c1).toNat = 0 by omega]
            exact tr1), (by
            rw [hq, show (7 - c1).toNat = 0 by omega]
            exact ⟨ht3, ht4⟩), rfl⟩
    · refine ezw_aload_n rfl rfl ?_
      refine ezw_call0_0 rfl (by omega) (ezu_at rfl) rfl rfl rfl rfl (ezt_m45_1 hS (by omega)) ?_
      rintro _ _ ⟨rfl, u4, hu4, p3_0, p3_1, rfl⟩
      refine ezw_if_eq rfl rfl ⟨by omega, by omega⟩ (fun h12_4 => ?_) (fun h12_4 => ?_)
      · exact ezw_return rfl rfl ⟨F_2, A_2, rfl, hS, (fun p j h => by rw [nF_2 p j (by omega)]), (fun p h => by
              funext j
              rw [nA_2 p (by omega)]), (by
              rw [hq, ezp_sr_n (by have h8 := p3_1 (by omega); omega)]
              exact st1), (by
              rw [hq, ezp_sr_n (by have h8 := p3_1 (by omega); omega)]
              exact tr1), (by
              rw [hq, ezp_sr_n (by have h8 := p3_1 (by omega); omega)]
              exact ⟨ht3, ht4⟩), rfl⟩
      · refine ezw_iload_n rfl rfl ?_
        refine ezw_if_le rfl rfl hc1 (fun h16_4 => ?_) (fun h16_4 => ?_)
        · have hm : (7 - c1).toNat = (7 - (c1 + 1)).toNat + 1 := by omega
          have hb : ¬ (decide (c1 = 0) = false ∧ ezp_K c s1.2 = 259) := by
                intro z
                have h3 := of_decide_eq_false z.1
                have h4 := z.2
                have h6 := p3_0 (by omega)
                omega
          refine ezw_aload_n rfl rfl ?_
          refine ezw_aload_n rfl rfl ?_
          refine ezw_iconst (0) rfl rfl ?_
          refine ezw_call0_2 rfl (by omega) (ezu_at rfl) rfl rfl rfl rfl (ezt_m62_1_47_v0 hS (by omega) (by rw [nF_2 1 2 (by decide)]; exact hn) (by rw [nA_2 2 (by decide)]; exact hc) tp st1 (ezt_NM_fr nt (by rw [nF_2 47 15 (by decide)]) (by rw [nA_2 57 (by decide)])) (ezt_NM_fr nh (by rw [nF_2 47 16 (by decide)]) (by rw [nA_2 58 (by decide)])) (by rw [nF_2 47 15 (by decide), nF_2 47 16 (by decide)]; exact tw)) ?_
          rintro _ _ ⟨F5, rfl, hS, nF5, u6, hu6, st_5, v_5, p5_2, rfl⟩
          refine ezw_istore_n rfl rfl ?_
          refine ezw_aload_n rfl rfl ?_
          refine ezw_call0_0 rfl (by omega) (ezu_at rfl) rfl rfl rfl rfl (ezt_m45_1 hS (by omega)) ?_
          rintro _ _ ⟨rfl, u8, hu8, p7_0, p7_1, rfl⟩
          refine ezw_if_ne rfl rfl ⟨by omega, by omega⟩ (fun h41_8 => ?_) (fun h41_8 => ?_)
          · have z2a := st_5.1.symm.trans (p7_0 (by omega))
            have z2 : (ezp_se c t1.nT t1.kT s1).1 = 0 := by rw [ht1, ht2]; exact z2a
            have ev : u6 = ezp_fi t1.nT t1.kT (ezp_W c s1.2) := by rw [ht1, ht2]; exact (v_5 z2a).1
            refine ezw_aload_n rfl rfl ?_
            refine ezw_iload_n rfl rfl ?_
            refine ezw_call0_1 rfl (by omega) (ezu_at rfl) rfl rfl rfl rfl (ezt_m66_47 hS (by omega) hu6 (ezt_TR_fr tr1 (by rw [nF5 47 15 (by decide)]) (by rw [nF5 47 16 (by decide)]) (by rw [nF5 47 17 (by decide)]) (by rw [nF5 55 1 (by decide)]) (fun _ _ _ => rfl))) ?_
            rintro _ _ ⟨rfl, u10, hu10, p9_0, p9_1, rfl⟩
            refine ezw_if_eq rfl rfl ⟨by omega, by omega⟩ (fun h50_10 => ?_) (fun h50_10 => ?_)
            · have hk17 := tr1.1.2.2.1
              refine ezw_aload_n rfl rfl ?_
              refine ezy_get_i hS rfl rfl rfl rfl rfl rfl (fun u11 hu11 ku11 eu11 => ?_)
              rw [nF5 47 17 (by decide)] at eu11
              replace eu11 := eu11.symm
              subst eu11
              refine ezw_bipush (6) rfl rfl ?_
              refine ezw_icmp_lt rfl rfl hu11 ⟨by decide, by decide⟩ (fun h67_11 => ?_) (fun h67_11 => ?_)
              · refine ezw_aload_n rfl rfl ?_
                refine ezw_iload_n rfl rfl ?_
                refine ezw_call0_1 rfl (by omega) (ezu_at rfl) rfl rfl rfl rfl (ezt_m67_47 hS (by omega) hu6 (ezt_TR_fr tr1 (by rw [nF5 47 15 (by decide)]) (by rw [nF5 47 16 (by decide)]) (by rw [nF5 47 17 (by decide)]) (by rw [nF5 55 1 (by decide)]) (fun _ _ _ => rfl)) (by omega)) ?_
                rintro _ _ ⟨F12, A12, rfl, hS, nF12, nA12, tr_12, rfl⟩
                refine ezw_aload_n rfl rfl ?_
                refine ezw_call0_0 rfl (by omega) (ezu_at rfl) rfl rfl rfl rfl (ezt_take hS (by omega) (by rw [nF12 1 2 (by decide), nF5 1 2 (by decide), nF_2 1 2 (by decide)]; exact hn) (by rw [nA12 2 (by decide), nA_2 2 (by decide)]; exact hc) tp (by rw [nA12 3 (by decide), nA_2 3 (by decide)]; exact hw) (ezt_ST_fr st_5 (fun j j0 j1 => by rw [nF12 1 j (by omega)]))) ?_
                rintro _ _ ⟨F13, rfl, hS, nF13, st_13, rfl⟩
                refine ezw_iinc (k := c1 + 1) (1) rfl rfl rfl (by omega) rfl ?_
                refine ezw_goto rfl rfl ?_
                exact ezw_keepE [true, true, true, false] (ihc1 (c1 + 1) (by omega) ⟨by omega, by omega⟩ F13 A12 hS (fun p j h => by rw [nF13 p j (by omega), nF12 p j (by omega), nF5 p j (by omega), nF_2 p j (by omega)]) (fun p h => by
                      funext j
                      rw [nA12 p (by omega), nA_2 p (by omega)]) (by omega) (⟨ezp_t (ezp_se c t.nT t.kT s1), t1.strg u6, (by
                      rw [hq, hm, ezp_sr_s hb z2 (by rw [← ev]; exact p9_1 (by omega)) (by omega), ← ev, ht1, ht2, (decide_eq_false (by omega) : decide (c1 + 1 = 0) = false), show (7 - (c1 + 1)).toNat = (7 - (c1 + 1)).toNat by omega]), st_13, (ezt_TR_fr tr_12 (by rw [nF13 47 15 (by decide)]) (by rw [nF13 47 16 (by decide)]) (by rw [nF13 47 17 (by decide)]) (by rw [nF13 55 1 (by decide)]) (fun _ _ _ => rfl)), ht1, ht2, ht3, ht4⟩))
              · refine ezw_aload_n rfl rfl ?_
                refine ezw_iconst (5) rfl rfl ?_
                refine ezw_call0_1 rfl (by omega) (ezu_at rfl) rfl rfl rfl rfl (ezt_m50_1 hS (by omega) ⟨by decide, by decide⟩ (by rw [nF5 1 2 (by decide), nF_2 1 2 (by decide)]; exact hn) (by rw [nA_2 2 (by decide)]; exact hc) tp st_5 (by omega)) ?_
                rintro _ _ ⟨F14, rfl, hS, nF14, st_14, rfl⟩
                refine ezw_goto rfl rfl ?_
                refine ezw_iinc (k := c1 + 1) (1) rfl rfl rfl (by omega) rfl ?_
                refine ezw_goto rfl rfl ?_
                exact ezw_keepE [true, true, true, false] (ihc1 (c1 + 1) (by omega) ⟨by omega, by omega⟩ F14 A_2 hS (fun p j h => by rw [nF14 p j (by omega), nF5 p j (by omega), nF_2 p j (by omega)]) (fun p h => by
                      funext j
                      rw [nA_2 p (by omega)]) (by omega) (⟨ezp_wr c 5 (ezp_se c t.nT t.kT s1), t1, (by
                      rw [hq, hm, ezp_sr_5 hb z2 (by rw [← ev]; exact p9_1 (by omega)) (by omega), ht1, ht2, (decide_eq_false (by omega) : decide (c1 + 1 = 0) = false), show (7 - (c1 + 1)).toNat = (7 - (c1 + 1)).toNat by omega]), st_14, (ezt_TR_fr tr1 (by rw [nF14 47 15 (by decide), nF5 47 15 (by decide)]) (by rw [nF14 47 16 (by decide), nF5 47 16 (by decide)]) (by rw [nF14 47 17 (by decide), nF5 47 17 (by decide)]) (by rw [nF14 55 1 (by decide), nF5 55 1 (by decide)]) (fun _ _ _ => rfl)), ht1, ht2, ht3, ht4⟩))
            · refine ezw_aload_n rfl rfl ?_
              refine ezw_iconst (3) rfl rfl ?_
              refine ezw_call0_1 rfl (by omega) (ezu_at rfl) rfl rfl rfl rfl (ezt_m50_1 hS (by omega) ⟨by decide, by decide⟩ (by rw [nF5 1 2 (by decide), nF_2 1 2 (by decide)]; exact hn) (by rw [nA_2 2 (by decide)]; exact hc) tp st_5 (by omega)) ?_
              rintro _ _ ⟨F15, rfl, hS, nF15, st_15, rfl⟩
              refine ezw_goto rfl rfl ?_
              refine ezw_iinc (k := c1 + 1) (1) rfl rfl rfl (by omega) rfl ?_
              refine ezw_goto rfl rfl ?_
              exact ezw_keepE [true, true, true, false] (ihc1 (c1 + 1) (by omega) ⟨by omega, by omega⟩ F15 A_2 hS (fun p j h => by rw [nF15 p j (by omega), nF5 p j (by omega), nF_2 p j (by omega)]) (fun p h => by
                    funext j
                    rw [nA_2 p (by omega)]) (by omega) (⟨ezp_wr c 3 (ezp_se c t.nT t.kT s1), t1, (by
                    rw [hq, hm, ezp_sr_3 hb z2 (by rw [← ev]; exact p9_0 (by omega)), ht1, ht2, (decide_eq_false (by omega) : decide (c1 + 1 = 0) = false), show (7 - (c1 + 1)).toNat = (7 - (c1 + 1)).toNat by omega]), st_15, (ezt_TR_fr tr1 (by rw [nF15 47 15 (by decide), nF5 47 15 (by decide)]) (by rw [nF15 47 16 (by decide), nF5 47 16 (by decide)]) (by rw [nF15 47 17 (by decide), nF5 47 17 (by decide)]) (by rw [nF15 55 1 (by decide), nF5 55 1 (by decide)]) (fun _ _ _ => rfl)), ht1, ht2, ht3, ht4⟩))
          · exact ezw_return rfl rfl ⟨F5, A_2, rfl, hS, (fun p j h => by rw [nF5 p j (by omega), nF_2 p j (by omega)]), (fun p h => by
                  funext j
                  rw [nA_2 p (by omega)]), (by
                  rw [hq, hm, ezp_sr_f hb (by rw [ht1, ht2]; exact (fun h9 => p7_1 (by omega) (st_5.1.trans h9))), ht1, ht2]
                  exact st_5), (by
                  rw [hq, hm, ezp_sr_f hb (by rw [ht1, ht2]; exact (fun h9 => p7_1 (by omega) (st_5.1.trans h9))), ht1, ht2]
                  exact (ezt_TR_fr tr1 (by rw [nF5 47 15 (by decide)]) (by rw [nF5 47 16 (by decide)]) (by rw [nF5 47 17 (by decide)]) (by rw [nF5 55 1 (by decide)]) (fun _ _ _ => rfl))), (by
                  rw [hq, hm, ezp_sr_f hb (by rw [ht1, ht2]; exact (fun h9 => p7_1 (by omega) (st_5.1.trans h9))), ht1, ht2]
                  exact ⟨ht3, ht4⟩), rfl⟩
        · refine ezw_aload_n rfl rfl ?_
          refine ezw_sipush (259) rfl rfl ?_
          refine ezw_call0_1 rfl (by omega) (ezu_at rfl) rfl rfl rfl rfl (ezt_m46_1 hS (by omega) ⟨by decide, by decide⟩ (by rw [nF_2 1 2 (by decide)]; exact hn) (by rw [nA_2 2 (by decide)]; exact hc) tp st1) ?_
          rintro _ _ ⟨rfl, u17, hu17, p16_0, p16_1, rfl⟩
          refine ezw_if_eq rfl rfl ⟨by omega, by omega⟩ (fun h26_17 => ?_) (fun h26_17 => ?_)
          · have hm : (7 - c1).toNat = (7 - (c1 + 1)).toNat + 1 := by omega
            have hb : ¬ (decide (c1 = 0) = false ∧ ezp_K c s1.2 = 259) := by
                  intro z
                  have h3 := of_decide_eq_false z.1
                  have h4 := z.2
                  have h6 := p3_0 (by omega)
                  have h5 := p16_1 (by omega)
                  omega
            refine ezw_aload_n rfl rfl ?_
            refine ezw_aload_n rfl rfl ?_
            refine ezw_iconst (0) rfl rfl ?_
            refine ezw_call0_2 rfl (by omega) (ezu_at rfl) rfl rfl rfl rfl (ezt_m62_1_47_v0 hS (by omega) (by rw [nF_2 1 2 (by decide)]; exact hn) (by rw [nA_2 2 (by decide)]; exact hc) tp st1 (ezt_NM_fr nt (by rw [nF_2 47 15 (by decide)]) (by rw [nA_2 57 (by decide)])) (ezt_NM_fr nh (by rw [nF_2 47 16 (by decide)]) (by rw [nA_2 58 (by decide)])) (by rw [nF_2 47 15 (by decide), nF_2 47 16 (by decide)]; exact tw)) ?_
            rintro _ _ ⟨F18, rfl, hS, nF18, u19, hu19, st_18, v_18, p18_2, rfl⟩
            refine ezw_istore_n rfl rfl ?_
            refine ezw_aload_n rfl rfl ?_
            refine ezw_call0_0 rfl (by omega) (ezu_at rfl) rfl rfl rfl rfl (ezt_m45_1 hS (by omega)) ?_
            rintro _ _ ⟨rfl, u21, hu21, p20_0, p20_1, rfl⟩
            refine ezw_if_ne rfl rfl ⟨by omega, by omega⟩ (fun h41_21 => ?_) (fun h41_21 => ?_)
            · have z2a := st_18.1.symm.trans (p20_0 (by omega))
              have z2 : (ezp_se c t1.nT t1.kT s1).1 = 0 := by rw [ht1, ht2]; exact z2a
              have ev : u19 = ezp_fi t1.nT t1.kT (ezp_W c s1.2) := by rw [ht1, ht2]; exact (v_18 z2a).1
              refine ezw_aload_n rfl rfl ?_
              refine ezw_iload_n rfl rfl ?_
              refine ezw_call0_1 rfl (by omega) (ezu_at rfl) rfl rfl rfl rfl (ezt_m66_47 hS (by omega) hu19 (ezt_TR_fr tr1 (by rw [nF18 47 15 (by decide)]) (by rw [nF18 47 16 (by decide)]) (by rw [nF18 47 17 (by decide)]) (by rw [nF18 55 1 (by decide)]) (fun _ _ _ => rfl))) ?_
              rintro _ _ ⟨rfl, u23, hu23, p22_0, p22_1, rfl⟩
              refine ezw_if_eq rfl rfl ⟨by omega, by omega⟩ (fun h50_23 => ?_) (fun h50_23 => ?_)
              · have hk17 := tr1.1.2.2.1
                refine ezw_aload_n rfl rfl ?_
                refine ezy_get_i hS rfl rfl rfl rfl rfl rfl (fun u24 hu24 ku24 eu24 => ?_)
                rw [nF18 47 17 (by decide)] at eu24
                replace eu24 := eu24.symm
                subst eu24
                refine ezw_bipush (6) rfl rfl ?_
                refine ezw_icmp_lt rfl rfl hu24 ⟨by decide, by decide⟩ (fun h67_24 => ?_) (fun h67_24 => ?_)
                · refine ezw_aload_n rfl rfl ?_
                  refine ezw_iload_n rfl rfl ?_
                  refine ezw_call0_1 rfl (by omega) (ezu_at rfl) rfl rfl rfl rfl (ezt_m67_47 hS (by omega) hu19 (ezt_TR_fr tr1 (by rw [nF18 47 15 (by decide)]) (by rw [nF18 47 16 (by decide)]) (by rw [nF18 47 17 (by decide)]) (by rw [nF18 55 1 (by decide)]) (fun _ _ _ => rfl)) (by omega)) ?_
                  rintro _ _ ⟨F25, A25, rfl, hS, nF25, nA25, tr_25, rfl⟩
                  refine ezw_aload_n rfl rfl ?_
                  refine ezw_call0_0 rfl (by omega) (ezu_at rfl) rfl rfl rfl rfl (ezt_take hS (by omega) (by rw [nF25 1 2 (by decide), nF18 1 2 (by decide), nF_2 1 2 (by decide)]; exact hn) (by rw [nA25 2 (by decide), nA_2 2 (by decide)]; exact hc) tp (by rw [nA25 3 (by decide), nA_2 3 (by decide)]; exact hw) (ezt_ST_fr st_18 (fun j j0 j1 => by rw [nF25 1 j (by omega)]))) ?_
                  rintro _ _ ⟨F26, rfl, hS, nF26, st_26, rfl⟩
                  refine ezw_iinc (k := c1 + 1) (1) rfl rfl rfl (by omega) rfl ?_
                  refine ezw_goto rfl rfl ?_
                  exact ezw_keepE [true, true, true, false] (ihc1 (c1 + 1) (by omega) ⟨by omega, by omega⟩ F26 A25 hS (fun p j h => by rw [nF26 p j (by omega), nF25 p j (by omega), nF18 p j (by omega), nF_2 p j (by omega)]) (fun p h => by
                        funext j
                        rw [nA25 p (by omega), nA_2 p (by omega)]) (by omega) (⟨ezp_t (ezp_se c t.nT t.kT s1), t1.strg u19, (by
                        rw [hq, hm, ezp_sr_s hb z2 (by rw [← ev]; exact p22_1 (by omega)) (by omega), ← ev, ht1, ht2, (decide_eq_false (by omega) : decide (c1 + 1 = 0) = false), show (7 - (c1 + 1)).toNat = (7 - (c1 + 1)).toNat by omega]), st_26, (ezt_TR_fr tr_25 (by rw [nF26 47 15 (by decide)]) (by rw [nF26 47 16 (by decide)]) (by rw [nF26 47 17 (by decide)]) (by rw [nF26 55 1 (by decide)]) (fun _ _ _ => rfl)), ht1, ht2, ht3, ht4⟩))
                · refine ezw_aload_n rfl rfl ?_
                  refine ezw_iconst (5) rfl rfl ?_
                  refine ezw_call0_1 rfl (by omega) (ezu_at rfl) rfl rfl rfl rfl (ezt_m50_1 hS (by omega) ⟨by decide, by decide⟩ (by rw [nF18 1 2 (by decide), nF_2 1 2 (by decide)]; exact hn) (by rw [nA_2 2 (by decide)]; exact hc) tp st_18 (by omega)) ?_
                  rintro _ _ ⟨F27, rfl, hS, nF27, st_27, rfl⟩
                  refine ezw_goto rfl rfl ?_
                  refine ezw_iinc (k := c1 + 1) (1) rfl rfl rfl (by omega) rfl ?_
                  refine ezw_goto rfl rfl ?_
                  exact ezw_keepE [true, true, true, false] (ihc1 (c1 + 1) (by omega) ⟨by omega, by omega⟩ F27 A_2 hS (fun p j h => by rw [nF27 p j (by omega), nF18 p j (by omega), nF_2 p j (by omega)]) (fun p h => by
                        funext j
                        rw [nA_2 p (by omega)]) (by omega) (⟨ezp_wr c 5 (ezp_se c t.nT t.kT s1), t1, (by
                        rw [hq, hm, ezp_sr_5 hb z2 (by rw [← ev]; exact p22_1 (by omega)) (by omega), ht1, ht2, (decide_eq_false (by omega) : decide (c1 + 1 = 0) = false), show (7 - (c1 + 1)).toNat = (7 - (c1 + 1)).toNat by omega]), st_27, (ezt_TR_fr tr1 (by rw [nF27 47 15 (by decide), nF18 47 15 (by decide)]) (by rw [nF27 47 16 (by decide), nF18 47 16 (by decide)]) (by rw [nF27 47 17 (by decide), nF18 47 17 (by decide)]) (by rw [nF27 55 1 (by decide), nF18 55 1 (by decide)]) (fun _ _ _ => rfl)), ht1, ht2, ht3, ht4⟩))
              · refine ezw_aload_n rfl rfl ?_
                refine ezw_iconst (3) rfl rfl ?_
                refine ezw_call0_1 rfl (by omega) (ezu_at rfl) rfl rfl rfl rfl (ezt_m50_1 hS (by omega) ⟨by decide, by decide⟩ (by rw [nF18 1 2 (by decide), nF_2 1 2 (by decide)]; exact hn) (by rw [nA_2 2 (by decide)]; exact hc) tp st_18 (by omega)) ?_
                rintro _ _ ⟨F28, rfl, hS, nF28, st_28, rfl⟩
                refine ezw_goto rfl rfl ?_
                refine ezw_iinc (k := c1 + 1) (1) rfl rfl rfl (by omega) rfl ?_
                refine ezw_goto rfl rfl ?_
                exact ezw_keepE [true, true, true, false] (ihc1 (c1 + 1) (by omega) ⟨by omega, by omega⟩ F28 A_2 hS (fun p j h => by rw [nF28 p j (by omega), nF18 p j (by omega), nF_2 p j (by omega)]) (fun p h => by
                      funext j
                      rw [nA_2 p (by omega)]) (by omega) (⟨ezp_wr c 3 (ezp_se c t.nT t.kT s1), t1, (by
                      rw [hq, hm, ezp_sr_3 hb z2 (by rw [← ev]; exact p22_0 (by omega)), ht1, ht2, (decide_eq_false (by omega) : decide (c1 + 1 = 0) = false), show (7 - (c1 + 1)).toNat = (7 - (c1 + 1)).toNat by omega]), st_28, (ezt_TR_fr tr1 (by rw [nF28 47 15 (by decide), nF18 47 15 (by decide)]) (by rw [nF28 47 16 (by decide), nF18 47 16 (by decide)]) (by rw [nF28 47 17 (by decide), nF18 47 17 (by decide)]) (by rw [nF28 55 1 (by decide), nF18 55 1 (by decide)]) (fun _ _ _ => rfl)), ht1, ht2, ht3, ht4⟩))
            · exact ezw_return rfl rfl ⟨F18, A_2, rfl, hS, (fun p j h => by rw [nF18 p j (by omega), nF_2 p j (by omega)]), (fun p h => by
                    funext j
                    rw [nA_2 p (by omega)]), (by
                    rw [hq, hm, ezp_sr_f hb (by rw [ht1, ht2]; exact (fun h9 => p20_1 (by omega) (st_18.1.trans h9))), ht1, ht2]
                    exact st_18), (by
                    rw [hq, hm, ezp_sr_f hb (by rw [ht1, ht2]; exact (fun h9 => p20_1 (by omega) (st_18.1.trans h9))), ht1, ht2]
                    exact (ezt_TR_fr tr1 (by rw [nF18 47 15 (by decide)]) (by rw [nF18 47 16 (by decide)]) (by rw [nF18 47 17 (by decide)]) (by rw [nF18 55 1 (by decide)]) (fun _ _ _ => rfl))), (by
                    rw [hq, hm, ezp_sr_f hb (by rw [ht1, ht2]; exact (fun h9 => p20_1 (by omega) (st_18.1.trans h9))), ht1, ht2]
                    exact ⟨ht3, ht4⟩), rfl⟩
          · exact ezw_return rfl rfl ⟨F_2, A_2, rfl, hS, (fun p j h => by rw [nF_2 p j (by omega)]), (fun p h => by
                  funext j
                  rw [nA_2 p (by omega)]), (by
                  rw [hq, show (7 - c1).toNat = (7 - (c1 + 1)).toNat + 1 by omega, ezp_sr_e (p16_0 (by omega)).1 ⟨decide_eq_false (by omega), (p16_0 (by omega)).2⟩]
                  exact st1), (by
                  rw [hq, show (7 - c1).toNat = (7 - (c1 + 1)).toNat + 1 by omega, ezp_sr_e (p16_0 (by omega)).1 ⟨decide_eq_false (by omega), (p16_0 (by omega)).2⟩]
                  exact tr1), (by
                  rw [hq, show (7 - c1).toNat = (7 - (c1 + 1)).toNat + 1 by omega, ezp_sr_e (p16_0 (by omega)).1 ⟨decide_eq_false (by omega), (p16_0 (by omega)).2⟩]
                  exact ⟨ht3, ht4⟩), rfl⟩
  exact ezw_keepE [true, true, true, false] (L2_2 (0) ⟨by decide, by decide⟩ F A hS (fun _ _ _ => rfl) (fun _ _ => rfl) (by omega) (⟨s, t, rfl, st, tr, rfl, rfl, rfl, rfl⟩))
end KT
