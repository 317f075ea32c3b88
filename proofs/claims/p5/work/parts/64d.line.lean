/-! ===== the program: TWIG, THING, OVER, ELM ===== -/
section KT
variable {l : Launch} {ρ : ezq_E} {B : Nat} {xa : Nat → Option Nat} {Hb : Heap} {D : va_G} {cA : Nat → ClassId} {d : Nat} {e : Bool × Bool}
def ezt_m51_1_30Q (e : Bool × Bool) (F : Nat → Nat → Int) (A : Nat → Int → Int) (c : Int → Int) (n : Int) (s : Int × Int) (t : ezp_D) : Option ezq_V → (Nat → ezq_C) → Prop := fun v g' => ∃ (F' : Nat → Nat → Int) (A' : Nat → Int → Int), ezu_g e F' A' = g' ∧ ezs_T F' A' ∧ (∀ p j, ¬ (p = 1 ∧ (j = 3 ∨ j = 4 ∨ j = 5 ∨ j = 6 ∨ j = 7 ∨ j = 8 ∨ j = 9) ∨ p = 30 ∧ (j = 15)) → F' p j = F p j) ∧ (∀ p, ¬ (p = 31 ∨ p = 32 ∨ p = 33 ∨ p = 34 ∨ p = 40) → A' p = A p) ∧ (ezt_ST c n (ezp_twS c t s) F') ∧ (ezt_TR 30 (ezp_twD c t s) F' A') ∧ none = v
theorem ezt_m51_1_30 {c : Int → Int} {n : Int} {s : Int × Int} {t : ezp_D} {F : Nat → Nat → Int} {A : Nat → Int → Int} (hS : ezs_T F A) (hd : 8 ≤ d) (hn : F 1 2 = n) (hc : c = ezp_ch (A 2) n) (tp : ezp_tp c n) (hw : ∀ j, 0 ≤ j → j < 48 → A 3 j = ezl_cw.getD j.toNat 0) (st : ezt_ST c n s F) (tr : ezt_TR 30 t F A) (hk : t.kT < 8) : ezw_C l ρ B xa Hb D cA 51 d [ezw_p 1, ezw_p 30] (ezu_g e F A) (ezt_m51_1_30Q e F A c n s t) := by
  refine ezw_met (k := 6) rfl rfl ?_
  have hn0 := tp.1
  have hn1 := tp.2.1
  obtain ⟨sf, sk, sc, sb, sb2⟩ := id st
  have hP := ezp_Pr tp s.2
  have c3i : s.1 = 0 → F 1 3 = ezp_K c s.2 := fun z => (sc z).2.2.1
  have c8i : s.1 = 0 → F 1 8 = ezp_P c s.2 := fun z => (sc z).1
  have c4i : s.1 = 0 → ezp_K c s.2 = 101 → F 1 4 = ezp_V c s.2 := fun z => (sc z).2.2.2.1
  have c7i : s.1 = 0 → ezp_K c s.2 = 100 → F 1 7 = ezp_v 32 (ezp_W c s.2) ∧ F 1 5 = ezp_ix (ezp_W c s.2) - 44 := fun z => (sc z).2.2.2.2
  have nt : ezt_NM 30 15 40 t.nT F A := ezt_TR_nt tr
  have nh : ezt_NM 30 16 41 t.nH F A := ezt_TR_nh tr
  have tw := ezt_TR_tn tr
  have trk := tr.2.1
  refine ezw_aload_n rfl rfl ?_
  refine ezw_aload_n rfl rfl ?_
  refine ezw_call2_2 rfl (by omega) rfl rfl (ezt_m52_1_30 hS (by omega) hn hc tp hw st nt nh tw) ?_
  rintro _ _ ⟨F1, rfl, hS, nF1, u2, hu2, st_1, v_1, rfl⟩
  refine ezw_lstore_n rfl rfl ?_
  refine ezw_aload_n rfl rfl ?_
  refine ezw_iconst (1) rfl rfl ?_
  refine ezw_call0_1 rfl (by omega) (ezu_at rfl) rfl rfl rfl rfl (ezt_m56_1 hS (by omega) ⟨by decide, by decide⟩ (by rw [nF1 1 2 (by decide)]; exact hn) hc tp hw st_1) ?_
  rintro _ _ ⟨F3, rfl, hS, nF3, st_3, rfl⟩
  refine ezw_aload_n rfl rfl ?_
  refine ezw_iconst (1) rfl rfl ?_
  refine ezw_bipush (60) rfl rfl ?_
  refine ezw_call0_2 rfl (by omega) (ezu_at rfl) rfl rfl rfl rfl (ezt_m57_1 hS (by omega) ⟨by decide, by decide⟩ ⟨by decide, by decide⟩ (by rw [nF3 1 2 (by decide), nF1 1 2 (by decide)]; exact hn) hc tp hw st_3) ?_
  rintro _ _ ⟨F4, rfl, hS, nF4, u5, hu5, st_4, v_4, p4_2, rfl⟩
  refine ezw_istore rfl rfl ?_
  refine ezw_aload_n rfl rfl ?_
  refine ezw_iconst (2) rfl rfl ?_
  refine ezw_call0_1 rfl (by omega) (ezu_at rfl) rfl rfl rfl rfl (ezt_m56_1 hS (by omega) ⟨by decide, by decide⟩ (by rw [nF4 1 2 (by decide), nF3 1 2 (by decide), nF1 1 2 (by decide)]; exact hn) hc tp hw st_4) ?_
  rintro _ _ ⟨F6, rfl, hS, nF6, st_6, rfl⟩
  refine ezw_aload_n rfl rfl ?_
  refine ezw_iconst (1) rfl rfl ?_
  refine ezw_bipush (20) rfl rfl ?_
  refine ezw_call0_2 rfl (by omega) (ezu_at rfl) rfl rfl rfl rfl (ezt_m57_1 hS (by omega) ⟨by decide, by decide⟩ ⟨by decide, by decide⟩ (by rw [nF6 1 2 (by decide), nF4 1 2 (by decide), nF3 1 2 (by decide), nF1 1 2 (by decide)]; exact hn) hc tp hw st_6) ?_
  rintro _ _ ⟨F7, rfl, hS, nF7, u8, hu8, st_7, v_7, p7_2, rfl⟩
  refine ezw_istore rfl rfl ?_
  refine ezw_aload_n rfl rfl ?_
  refine ezw_iconst (3) rfl rfl ?_
  refine ezw_call0_1 rfl (by omega) (ezu_at rfl) rfl rfl rfl rfl (ezt_m56_1 hS (by omega) ⟨by decide, by decide⟩ (by rw [nF7 1 2 (by decide), nF6 1 2 (by decide), nF4 1 2 (by decide), nF3 1 2 (by decide), nF1 1 2 (by decide)]; exact hn) hc tp hw st_7) ?_
  rintro _ _ ⟨F9, rfl, hS, nF9, st_9, rfl⟩
  refine ezw_aload_n rfl rfl ?_
  refine ezw_bipush (30) rfl rfl ?_
  refine ezw_iconst (4) rfl rfl ?_
  refine ezw_call0_2 rfl (by omega) (ezu_at rfl) rfl rfl rfl rfl (ezt_m59_1 hS (by omega) ⟨by decide, by decide⟩ ⟨by decide, by decide⟩ (by rw [nF9 1 2 (by decide), nF7 1 2 (by decide), nF6 1 2 (by decide), nF4 1 2 (by decide), nF3 1 2 (by decide), nF1 1 2 (by decide)]; exact hn) hc tp hw st_9 (by omega)) ?_
  rintro _ _ ⟨F10, rfl, hS, nF10, u11, hu11, st_10, v_10, p10_2, rfl⟩
  refine ezw_istore rfl rfl ?_
  refine ezw_aload_n rfl rfl ?_
  refine ezw_iconst (4) rfl rfl ?_
  refine ezw_call0_1 rfl (by omega) (ezu_at rfl) rfl rfl rfl rfl (ezt_m60_1 hS (by omega) ⟨by decide, by decide⟩ (by rw [nF10 1 2 (by decide), nF9 1 2 (by decide), nF7 1 2 (by decide), nF6 1 2 (by decide), nF4 1 2 (by decide), nF3 1 2 (by decide), nF1 1 2 (by decide)]; exact hn) hc tp hw st_10) ?_
  rintro _ _ ⟨F12, rfl, hS, nF12, u13, hu13, p12_0, p12_1, st_12, rfl⟩
  refine ezw_if_eq rfl rfl ⟨by omega, by omega⟩ (fun h53_13 => ?_) (fun h53_13 => ?_)
  · refine ezw_iconst (-1) rfl rfl ?_
    refine ezw_istore rfl rfl ?_
    refine ezw_aload_n rfl rfl ?_
    refine ezw_call0_0 rfl (by omega) (ezu_at rfl) rfl rfl rfl rfl (ezt_m45_1 hS (by omega)) ?_
    rintro _ _ ⟨rfl, u15, hu15, p14_0, p14_1, rfl⟩
    refine ezw_if_eq rfl rfl ⟨by omega, by omega⟩ (fun h72_15 => ?_) (fun h72_15 => ?_)
    · exact ezw_return rfl rfl ⟨F12, A, rfl, hS, (fun p j h => by rw [nF12 p j (by omega), nF10 p j (by omega), nF9 p j (by omega), nF7 p j (by omega), nF6 p j (by omega), nF4 p j (by omega), nF3 p j (by omega), nF1 p j (by omega)]), (fun _ _ => rfl), (by
            rw [ezp_twS_0 (c := c) (t := t) (s := s) (p12_1 (by omega))]
            exact st_12), (by
            rw [ezp_twD_0n (c := c) (t := t) (s := s) (p12_1 (by omega)) (fun h9 => p14_1 (by omega) (st_12.1.trans h9))]
            exact (ezt_TR_fr tr (by rw [nF12 30 15 (by decide), nF10 30 15 (by decide), nF9 30 15 (by decide), nF7 30 15 (by decide), nF6 30 15 (by decide), nF4 30 15 (by decide), nF3 30 15 (by decide), nF1 30 15 (by decide)]) (by rw [nF12 30 16 (by decide), nF10 30 16 (by decide), nF9 30 16 (by decide), nF7 30 16 (by decide), nF6 30 16 (by decide), nF4 30 16 (by decide), nF3 30 16 (by decide), nF1 30 16 (by decide)]) (by rw [nF12 30 17 (by decide), nF10 30 17 (by decide), nF9 30 17 (by decide), nF7 30 17 (by decide), nF6 30 17 (by decide), nF4 30 17 (by decide), nF3 30 17 (by decide), nF1 30 17 (by decide)]) (by rw [nF12 38 1 (by decide), nF10 38 1 (by decide), nF9 38 1 (by decide), nF7 38 1 (by decide), nF6 38 1 (by decide), nF4 38 1 (by decide), nF3 38 1 (by decide), nF1 38 1 (by decide)]) (fun _ _ _ => rfl))), rfl⟩
    · have z7b := st_12.1.symm.trans (p14_0 (by omega))
      have z7 := ezp_0tk z7b
      have z6 := ezp_0o z7
      have z5 := ezp_0w z6
      have z4 := ezp_0n z5
      have z3 := ezp_0w z4
      have z2 := ezp_0n z3
      have z1 := ezp_0w z2
      have vn := v_1 z1
      refine ezw_aload_n rfl rfl ?_
      refine ezw_lload_n rfl rfl ?_
      refine ezw_iload rfl rfl ?_
      refine ezw_iload rfl rfl ?_
      refine ezw_iload rfl rfl ?_
      refine ezw_iload rfl rfl ?_
      refine ezw_call0_5 rfl (by omega) (ezu_at rfl) rfl rfl rfl rfl (ezt_m63_30 (t := t) (wl := ezp_W c s.2) hS (by omega) hu2 hu5 hu8 hu11 ⟨by decide, by decide⟩ (ezt_TR_fr tr (by rw [nF12 30 15 (by decide), nF10 30 15 (by decide), nF9 30 15 (by decide), nF7 30 15 (by decide), nF6 30 15 (by decide), nF4 30 15 (by decide), nF3 30 15 (by decide), nF1 30 15 (by decide)]) (by rw [nF12 30 16 (by decide), nF10 30 16 (by decide), nF9 30 16 (by decide), nF7 30 16 (by decide), nF6 30 16 (by decide), nF4 30 16 (by decide), nF3 30 16 (by decide), nF1 30 16 (by decide)]) (by rw [nF12 30 17 (by decide), nF10 30 17 (by decide), nF9 30 17 (by decide), nF7 30 17 (by decide), nF6 30 17 (by decide), nF4 30 17 (by decide), nF3 30 17 (by decide), nF1 30 17 (by decide)]) (by rw [nF12 38 1 (by decide), nF10 38 1 (by decide), nF9 38 1 (by decide), nF7 38 1 (by decide), nF6 38 1 (by decide), nF4 38 1 (by decide), nF3 38 1 (by decide), nF1 38 1 (by decide)]) (fun _ _ _ => rfl)) hk (ezp_W_ok tp vn.2.2.1) vn.1) ?_
      rintro _ _ ⟨F16, A16, rfl, hS, nF16, nA16, tr_16, rfl⟩
      exact ezw_return rfl rfl ⟨F16, A16, rfl, hS, (fun p j h => by rw [nF16 p j (by omega), nF12 p j (by omega), nF10 p j (by omega), nF9 p j (by omega), nF7 p j (by omega), nF6 p j (by omega), nF4 p j (by omega), nF3 p j (by omega), nF1 p j (by omega)]), (fun p h => by
            funext j
            rw [nA16 p (by omega)]), (by
            rw [ezp_twS_0 (c := c) (t := t) (s := s) (p12_1 (by omega))]
            exact (ezt_ST_fr st_12 (fun j j0 j1 => by rw [nF16 1 j (by omega)]))), (by
            have h7 := tr_16
            rw [(v_4 z3).1, (v_7 z5).1, (v_10 z7).1] at h7
            rw [ezp_twD_0 (c := c) (t := t) (s := s) (p12_1 (by omega)) z7b]
            exact h7), rfl⟩
  · refine ezw_aload_n rfl rfl ?_
    refine ezw_aload_n rfl rfl ?_
    refine ezw_iconst (0) rfl rfl ?_
    refine ezw_call0_2 rfl (by omega) (ezu_at rfl) rfl rfl rfl rfl (ezt_m61_1_30_v0 hS (by omega) (by rw [nF12 1 2 (by decide), nF10 1 2 (by decide), nF9 1 2 (by decide), nF7 1 2 (by decide), nF6 1 2 (by decide), nF4 1 2 (by decide), nF3 1 2 (by decide), nF1 1 2 (by decide)]; exact hn) hc tp hw st_12 (ezt_NM_fr nt (by rw [nF12 30 15 (by decide), nF10 30 15 (by decide), nF9 30 15 (by decide), nF7 30 15 (by decide), nF6 30 15 (by decide), nF4 30 15 (by decide), nF3 30 15 (by decide), nF1 30 15 (by decide)]) rfl) (ezt_NM_fr nh (by rw [nF12 30 16 (by decide), nF10 30 16 (by decide), nF9 30 16 (by decide), nF7 30 16 (by decide), nF6 30 16 (by decide), nF4 30 16 (by decide), nF3 30 16 (by decide), nF1 30 16 (by decide)]) rfl) (by rw [nF12 30 15 (by decide), nF10 30 15 (by decide), nF9 30 15 (by decide), nF7 30 15 (by decide), nF6 30 15 (by decide), nF4 30 15 (by decide), nF3 30 15 (by decide), nF1 30 15 (by decide), nF12 30 16 (by decide), nF10 30 16 (by decide), nF9 30 16 (by decide), nF7 30 16 (by decide), nF6 30 16 (by decide), nF4 30 16 (by decide), nF3 30 16 (by decide), nF1 30 16 (by decide)]; exact tw)) ?_
    rintro _ _ ⟨F17, rfl, hS, nF17, u18, hu18, st_17, v_17, p17_2, rfl⟩
    refine ezw_goto rfl rfl ?_
    refine ezw_istore rfl rfl ?_
    refine ezw_aload_n rfl rfl ?_
    refine ezw_call0_0 rfl (by omega) (ezu_at rfl) rfl rfl rfl rfl (ezt_m45_1 hS (by omega)) ?_
    rintro _ _ ⟨rfl, u20, hu20, p19_0, p19_1, rfl⟩
    refine ezw_if_eq rfl rfl ⟨by omega, by omega⟩ (fun h72_20 => ?_) (fun h72_20 => ?_)
    · exact ezw_return rfl rfl ⟨F17, A, rfl, hS, (fun p j h => by rw [nF17 p j (by omega), nF12 p j (by omega), nF10 p j (by omega), nF9 p j (by omega), nF7 p j (by omega), nF6 p j (by omega), nF4 p j (by omega), nF3 p j (by omega), nF1 p j (by omega)]), (fun _ _ => rfl), (by
            rw [ezp_twS_1 (c := c) (t := t) (s := s) (p12_0 (by omega))]
            exact st_17), (by
            rw [ezp_twD_1n (c := c) (t := t) (s := s) (p12_0 (by omega)) (fun h9 => p19_1 (by omega) (st_17.1.trans h9))]
            exact (ezt_TR_fr tr (by rw [nF17 30 15 (by decide), nF12 30 15 (by decide), nF10 30 15 (by decide), nF9 30 15 (by decide), nF7 30 15 (by decide), nF6 30 15 (by decide), nF4 30 15 (by decide), nF3 30 15 (by decide), nF1 30 15 (by decide)]) (by rw [nF17 30 16 (by decide), nF12 30 16 (by decide), nF10 30 16 (by decide), nF9 30 16 (by decide), nF7 30 16 (by decide), nF6 30 16 (by decide), nF4 30 16 (by decide), nF3 30 16 (by decide), nF1 30 16 (by decide)]) (by rw [nF17 30 17 (by decide), nF12 30 17 (by decide), nF10 30 17 (by decide), nF9 30 17 (by decide), nF7 30 17 (by decide), nF6 30 17 (by decide), nF4 30 17 (by decide), nF3 30 17 (by decide), nF1 30 17 (by decide)]) (by rw [nF17 38 1 (by decide), nF12 38 1 (by decide), nF10 38 1 (by decide), nF9 38 1 (by decide), nF7 38 1 (by decide), nF6 38 1 (by decide), nF4 38 1 (by decide), nF3 38 1 (by decide), nF1 38 1 (by decide)]) (fun _ _ _ => rfl))), rfl⟩
    · have z7b := st_17.1.symm.trans (p19_0 (by omega))
      have z7 := ezp_0tk (ezp_0ta z7b)
      have z6 := ezp_0o z7
      have z5 := ezp_0w z6
      have z4 := ezp_0n z5
      have z3 := ezp_0w z4
      have z2 := ezp_0n z3
      have z1 := ezp_0w z2
      have vn := v_1 z1
      refine ezw_aload_n rfl rfl ?_
      refine ezw_lload_n rfl rfl ?_
      refine ezw_iload rfl rfl ?_
      refine ezw_iload rfl rfl ?_
      refine ezw_iload rfl rfl ?_
      refine ezw_iload rfl rfl ?_
      refine ezw_call0_5 rfl (by omega) (ezu_at rfl) rfl rfl rfl rfl (ezt_m63_30 (t := t) (wl := ezp_W c s.2) hS (by omega) hu2 hu5 hu8 hu11 hu18 (ezt_TR_fr tr (by rw [nF17 30 15 (by decide), nF12 30 15 (by decide), nF10 30 15 (by decide), nF9 30 15 (by decide), nF7 30 15 (by decide), nF6 30 15 (by decide), nF4 30 15 (by decide), nF3 30 15 (by decide), nF1 30 15 (by decide)]) (by rw [nF17 30 16 (by decide), nF12 30 16 (by decide), nF10 30 16 (by decide), nF9 30 16 (by decide), nF7 30 16 (by decide), nF6 30 16 (by decide), nF4 30 16 (by decide), nF3 30 16 (by decide), nF1 30 16 (by decide)]) (by rw [nF17 30 17 (by decide), nF12 30 17 (by decide), nF10 30 17 (by decide), nF9 30 17 (by decide), nF7 30 17 (by decide), nF6 30 17 (by decide), nF4 30 17 (by decide), nF3 30 17 (by decide), nF1 30 17 (by decide)]) (by rw [nF17 38 1 (by decide), nF12 38 1 (by decide), nF10 38 1 (by decide), nF9 38 1 (by decide), nF7 38 1 (by decide), nF6 38 1 (by decide), nF4 38 1 (by decide), nF3 38 1 (by decide), nF1 38 1 (by decide)]) (fun _ _ _ => rfl)) hk (ezp_W_ok tp vn.2.2.1) vn.1) ?_
      rintro _ _ ⟨F21, A21, rfl, hS, nF21, nA21, tr_21, rfl⟩
      exact ezw_return rfl rfl ⟨F21, A21, rfl, hS, (fun p j h => by rw [nF21 p j (by omega), nF17 p j (by omega), nF12 p j (by omega), nF10 p j (by omega), nF9 p j (by omega), nF7 p j (by omega), nF6 p j (by omega), nF4 p j (by omega), nF3 p j (by omega), nF1 p j (by omega)]), (fun p h => by
            funext j
            rw [nA21 p (by omega)]), (by
            rw [ezp_twS_1 (c := c) (t := t) (s := s) (p12_0 (by omega))]
            exact (ezt_ST_fr st_17 (fun j j0 j1 => by rw [nF21 1 j (by omega)]))), (by
            have h7 := tr_21
            rw [(v_4 z3).1, (v_7 z5).1, (v_10 z7).1, (v_17 z7b).1] at h7
            rw [ezp_twD_1 (c := c) (t := t) (s := s) (p12_0 (by omega)) z7b]
            exact h7), rfl⟩
def ezt_m70_1_30Q (e : Bool × Bool) (F : Nat → Nat → Int) (A : Nat → Int → Int) (c : Int → Int) (n : Int) (s : Int × Int) (t : ezp_D) : Option ezq_V → (Nat → ezq_C) → Prop := fun v g' => ∃ (F' : Nat → Nat → Int) (A' : Nat → Int → Int), ezu_g e F' A' = g' ∧ ezs_T F' A' ∧ (∀ p j, ¬ (p = 1 ∧ (j = 3 ∨ j = 4 ∨ j = 5 ∨ j = 6 ∨ j = 7 ∨ j = 8 ∨ j = 9) ∨ p = 30 ∧ (j = 16)) → F' p j = F p j) ∧ (∀ p, ¬ (p = 35 ∨ p = 36 ∨ p = 37 ∨ p = 41 ∨ p = 42) → A' p = A p) ∧ (ezt_ST c n (ezp_thS c t s) F') ∧ (ezt_TR 30 (ezp_thD c t s) F' A') ∧ none = v
theorem ezt_m70_1_30 {c : Int → Int} {n : Int} {s : Int × Int} {t : ezp_D} {F : Nat → Nat → Int} {A : Nat → Int → Int} (hS : ezs_T F A) (hd : 8 ≤ d) (hn : F 1 2 = n) (hc : c = ezp_ch (A 2) n) (tp : ezp_tp c n) (hw : ∀ j, 0 ≤ j → j < 48 → A 3 j = ezl_cw.getD j.toNat 0) (st : ezt_ST c n s F) (tr : ezt_TR 30 t F A) (hk : t.kH < 4) : ezw_C l ρ B xa Hb D cA 70 d [ezw_p 1, ezw_p 30] (ezu_g e F A) (ezt_m70_1_30Q e F A c n s t) := by
  refine ezw_met (k := 5) rfl rfl ?_
  have hn0 := tp.1
  have hn1 := tp.2.1
  obtain ⟨sf, sk, sc, sb, sb2⟩ := id st
  have hP := ezp_Pr tp s.2
  have c3i : s.1 = 0 → F 1 3 = ezp_K c s.2 := fun z => (sc z).2.2.1
  have c8i : s.1 = 0 → F 1 8 = ezp_P c s.2 := fun z => (sc z).1
  have c4i : s.1 = 0 → ezp_K c s.2 = 101 → F 1 4 = ezp_V c s.2 := fun z => (sc z).2.2.2.1
  have c7i : s.1 = 0 → ezp_K c s.2 = 100 → F 1 7 = ezp_v 32 (ezp_W c s.2) ∧ F 1 5 = ezp_ix (ezp_W c s.2) - 44 := fun z => (sc z).2.2.2.2
  have nt : ezt_NM 30 15 40 t.nT F A := ezt_TR_nt tr
  have nh : ezt_NM 30 16 41 t.nH F A := ezt_TR_nh tr
  have tw := ezt_TR_tn tr
  have trk := tr.2.1
  refine ezw_aload_n rfl rfl ?_
  refine ezw_aload_n rfl rfl ?_
  refine ezw_call2_2 rfl (by omega) rfl rfl (ezt_m52_1_30 hS (by omega) hn hc tp hw st nt nh tw) ?_
  rintro _ _ ⟨F1, rfl, hS, nF1, u2, hu2, st_1, v_1, rfl⟩
  refine ezw_lstore_n rfl rfl ?_
  refine ezw_aload_n rfl rfl ?_
  refine ezw_bipush (7) rfl rfl ?_
  refine ezw_call0_1 rfl (by omega) (ezu_at rfl) rfl rfl rfl rfl (ezt_m56_1 hS (by omega) ⟨by decide, by decide⟩ (by rw [nF1 1 2 (by decide)]; exact hn) hc tp hw st_1) ?_
  rintro _ _ ⟨F3, rfl, hS, nF3, st_3, rfl⟩
  refine ezw_aload_n rfl rfl ?_
  refine ezw_iconst (0) rfl rfl ?_
  refine ezw_sipush (999) rfl rfl ?_
  refine ezw_call0_2 rfl (by omega) (ezu_at rfl) rfl rfl rfl rfl (ezt_m57_1 hS (by omega) ⟨by decide, by decide⟩ ⟨by decide, by decide⟩ (by rw [nF3 1 2 (by decide), nF1 1 2 (by decide)]; exact hn) hc tp hw st_3) ?_
  rintro _ _ ⟨F4, rfl, hS, nF4, u5, hu5, st_4, v_4, p4_2, rfl⟩
  refine ezw_istore rfl rfl ?_
  refine ezw_aload_n rfl rfl ?_
  refine ezw_bipush (10) rfl rfl ?_
  refine ezw_call0_1 rfl (by omega) (ezu_at rfl) rfl rfl rfl rfl (ezt_m56_1 hS (by omega) ⟨by decide, by decide⟩ (by rw [nF4 1 2 (by decide), nF3 1 2 (by decide), nF1 1 2 (by decide)]; exact hn) hc tp hw st_4) ?_
  rintro _ _ ⟨F6, rfl, hS, nF6, st_6, rfl⟩
  refine ezw_aload_n rfl rfl ?_
  refine ezw_iconst (0) rfl rfl ?_
  refine ezw_bipush (10) rfl rfl ?_
  refine ezw_call0_2 rfl (by omega) (ezu_at rfl) rfl rfl rfl rfl (ezt_m57_1 hS (by omega) ⟨by decide, by decide⟩ ⟨by decide, by decide⟩ (by rw [nF6 1 2 (by decide), nF4 1 2 (by decide), nF3 1 2 (by decide), nF1 1 2 (by decide)]; exact hn) hc tp hw st_6) ?_
  rintro _ _ ⟨F7, rfl, hS, nF7, u8, hu8, st_7, v_7, p7_2, rfl⟩
  refine ezw_istore rfl rfl ?_
  refine ezw_aload_n rfl rfl ?_
  refine ezw_bipush (11) rfl rfl ?_
  refine ezw_call0_1 rfl (by omega) (ezu_at rfl) rfl rfl rfl rfl (ezt_m56_1 hS (by omega) ⟨by decide, by decide⟩ (by rw [nF7 1 2 (by decide), nF6 1 2 (by decide), nF4 1 2 (by decide), nF3 1 2 (by decide), nF1 1 2 (by decide)]; exact hn) hc tp hw st_7) ?_
  rintro _ _ ⟨F9, rfl, hS, nF9, st_9, rfl⟩
  refine ezw_aload_n rfl rfl ?_
  refine ezw_iconst (0) rfl rfl ?_
  refine ezw_bipush (10) rfl rfl ?_
  refine ezw_iload rfl rfl ?_
  refine ezw_isub (k := -u8 + 10) rfl (by omega) ?_
  refine ezw_call0_2 rfl (by omega) (ezu_at rfl) rfl rfl rfl rfl (ezt_m57_1 hS (by omega) ⟨by decide, by decide⟩ ⟨by omega, by omega⟩ (by rw [nF9 1 2 (by decide), nF7 1 2 (by decide), nF6 1 2 (by decide), nF4 1 2 (by decide), nF3 1 2 (by decide), nF1 1 2 (by decide)]; exact hn) hc tp hw st_9) ?_
  rintro _ _ ⟨F10, rfl, hS, nF10, u11, hu11, st_10, v_10, p10_2, rfl⟩
  refine ezw_istore rfl rfl ?_
  refine ezw_aload_n rfl rfl ?_
  refine ezw_call0_0 rfl (by omega) (ezu_at rfl) rfl rfl rfl rfl (ezt_m45_1 hS (by omega)) ?_
  rintro _ _ ⟨rfl, u13, hu13, p12_0, p12_1, rfl⟩
  refine ezw_if_eq rfl rfl ⟨by omega, by omega⟩ (fun h59_13 => ?_) (fun h59_13 => ?_)
  · exact ezw_return rfl rfl ⟨F10, A, rfl, hS, (fun p j h => by rw [nF10 p j (by omega), nF9 p j (by omega), nF7 p j (by omega), nF6 p j (by omega), nF4 p j (by omega), nF3 p j (by omega), nF1 p j (by omega)]), (fun _ _ => rfl), (by
          rw [← (show ezp_n c 0 (-u8 + 10) (ezp_th6 c t s) = ezp_thS c t s from ezp_n_c (fun z => (by have h0 : u8 = ezp_V c (ezp_th4 c t s).2 := (v_7 (ezp_0w z)).1; omega)))]
          exact st_10), (by
          rw [ezp_thD_n (c := c) (t := t) (s := s) (by rw [← (show ezp_n c 0 (-u8 + 10) (ezp_th6 c t s) = ezp_thS c t s from ezp_n_c (fun z => (by have h0 : u8 = ezp_V c (ezp_th4 c t s).2 := (v_7 (ezp_0w z)).1; omega)))]; exact (fun h9 => p12_1 (by omega) (st_10.1.trans h9)))]
          exact (ezt_TR_fr tr (by rw [nF10 30 15 (by decide), nF9 30 15 (by decide), nF7 30 15 (by decide), nF6 30 15 (by decide), nF4 30 15 (by decide), nF3 30 15 (by decide), nF1 30 15 (by decide)]) (by rw [nF10 30 16 (by decide), nF9 30 16 (by decide), nF7 30 16 (by decide), nF6 30 16 (by decide), nF4 30 16 (by decide), nF3 30 16 (by decide), nF1 30 16 (by decide)]) (by rw [nF10 30 17 (by decide), nF9 30 17 (by decide), nF7 30 17 (by decide), nF6 30 17 (by decide), nF4 30 17 (by decide), nF3 30 17 (by decide), nF1 30 17 (by decide)]) (by rw [nF10 38 1 (by decide), nF9 38 1 (by decide), nF7 38 1 (by decide), nF6 38 1 (by decide), nF4 38 1 (by decide), nF3 38 1 (by decide), nF1 38 1 (by decide)]) (fun _ _ _ => rfl))), rfl⟩
  · have z7 := st_10.1.symm.trans (p12_0 (by omega))
    have z6 := ezp_0n z7
    have z5 := ezp_0w z6
    have z4 := ezp_0n z5
    have z3 := ezp_0w z4
    have z2 := ezp_0n z3
    have z1 := ezp_0w z2
    have vn := v_1 z1
    refine ezw_aload_n rfl rfl ?_
    refine ezw_lload_n rfl rfl ?_
    refine ezw_iload rfl rfl ?_
    refine ezw_iload rfl rfl ?_
    refine ezw_iload rfl rfl ?_
    refine ezw_call0_4 rfl (by omega) (ezu_at rfl) rfl rfl rfl rfl (ezt_m71_30 (t := t) (wl := ezp_W c s.2) hS (by omega) hu2 hu5 hu8 hu11 (ezt_TR_fr tr (by rw [nF10 30 15 (by decide), nF9 30 15 (by decide), nF7 30 15 (by decide), nF6 30 15 (by decide), nF4 30 15 (by decide), nF3 30 15 (by decide), nF1 30 15 (by decide)]) (by rw [nF10 30 16 (by decide), nF9 30 16 (by decide), nF7 30 16 (by decide), nF6 30 16 (by decide), nF4 30 16 (by decide), nF3 30 16 (by decide), nF1 30 16 (by decide)]) (by rw [nF10 30 17 (by decide), nF9 30 17 (by decide), nF7 30 17 (by decide), nF6 30 17 (by decide), nF4 30 17 (by decide), nF3 30 17 (by decide), nF1 30 17 (by decide)]) (by rw [nF10 38 1 (by decide), nF9 38 1 (by decide), nF7 38 1 (by decide), nF6 38 1 (by decide), nF4 38 1 (by decide), nF3 38 1 (by decide), nF1 38 1 (by decide)]) (fun _ _ _ => rfl)) hk (ezp_W_ok tp vn.2.2.1) vn.1) ?_
    rintro _ _ ⟨F14, A14, rfl, hS, nF14, nA14, tr_14, rfl⟩
    exact ezw_return rfl rfl ⟨F14, A14, rfl, hS, (fun p j h => by rw [nF14 p j (by omega), nF10 p j (by omega), nF9 p j (by omega), nF7 p j (by omega), nF6 p j (by omega), nF4 p j (by omega), nF3 p j (by omega), nF1 p j (by omega)]), (fun p h => by
          funext j
          rw [nA14 p (by omega)]), (by
          rw [← (show ezp_n c 0 (-u8 + 10) (ezp_th6 c t s) = ezp_thS c t s from ezp_n_c (fun z => (by have h0 : u8 = ezp_V c (ezp_th4 c t s).2 := (v_7 (ezp_0w z)).1; omega)))]
          exact (ezt_ST_fr st_10 (fun j j0 j1 => by rw [nF14 1 j (by omega)]))), (by
          have h7 := tr_14
          have h8 := z7
          have h9 := (v_10 z7).1
          rw [(v_10 z7).1, (v_4 z3).1, (v_7 z5).1] at h7
          rw [ezp_thD_1 (c := c) (t := t) (s := s) (by rw [← (show ezp_n c 0 (-u8 + 10) (ezp_th6 c t s) = ezp_thS c t s from ezp_n_c (fun z => (by have h0 : u8 = ezp_V c (ezp_th4 c t s).2 := (v_7 (ezp_0w z)).1; omega)))]; exact h8)]
          exact h7), rfl⟩
def ezt_m72_1_30Q (e : Bool × Bool) (F : Nat → Nat → Int) (A : Nat → Int → Int) (c : Int → Int) (n : Int) (s : Int × Int) (t : ezp_D) : Option ezq_V → (Nat → ezq_C) → Prop := fun v g' => ∃ (F' : Nat → Nat → Int) (A' : Nat → Int → Int), ezu_g e F' A' = g' ∧ ezs_T F' A' ∧ (∀ p j, ¬ (p = 1 ∧ (j = 3 ∨ j = 4 ∨ j = 5 ∨ j = 6 ∨ j = 7 ∨ j = 8 ∨ j = 9)) → F' p j = F p j) ∧ (∀ p, ¬ (p = 42) → A' p = A p) ∧ (ezt_ST c n (ezp_ovS c t s) F') ∧ (ezt_TR 30 (ezp_ovD c t s) F' A') ∧ none = v
theorem ezt_m72_1_30 {c : Int → Int} {n : Int} {s : Int × Int} {t : ezp_D} {F : Nat → Nat → Int} {A : Nat → Int → Int} (hS : ezs_T F A) (hd : 8 ≤ d) (hn : F 1 2 = n) (hc : c = ezp_ch (A 2) n) (tp : ezp_tp c n) (hw : ∀ j, 0 ≤ j → j < 48 → A 3 j = ezl_cw.getD j.toNat 0) (st : ezt_ST c n s F) (tr : ezt_TR 30 t F A) : ezw_C l ρ B xa Hb D cA 72 d [ezw_p 1, ezw_p 30] (ezu_g e F A) (ezt_m72_1_30Q e F A c n s t) := by
  refine ezw_met (k := 2) rfl rfl ?_
  have hn0 := tp.1
  have hn1 := tp.2.1
  obtain ⟨sf, sk, sc, sb, sb2⟩ := id st
  have hP := ezp_Pr tp s.2
  have c3i : s.1 = 0 → F 1 3 = ezp_K c s.2 := fun z => (sc z).2.2.1
  have c8i : s.1 = 0 → F 1 8 = ezp_P c s.2 := fun z => (sc z).1
  have c4i : s.1 = 0 → ezp_K c s.2 = 101 → F 1 4 = ezp_V c s.2 := fun z => (sc z).2.2.2.1
  have c7i : s.1 = 0 → ezp_K c s.2 = 100 → F 1 7 = ezp_v 32 (ezp_W c s.2) ∧ F 1 5 = ezp_ix (ezp_W c s.2) - 44 := fun z => (sc z).2.2.2.2
  have nt : ezt_NM 30 15 40 t.nT F A := ezt_TR_nt tr
  have nh : ezt_NM 30 16 41 t.nH F A := ezt_TR_nh tr
  have tw := ezt_TR_tn tr
  have trk := tr.2.1
  refine ezw_aload_n rfl rfl ?_
  refine ezw_aload_n rfl rfl ?_
  refine ezw_iconst (1) rfl rfl ?_
  refine ezw_call0_2 rfl (by omega) (ezu_at rfl) rfl rfl rfl rfl (ezt_m61_1_30_v1 hS (by omega) hn hc tp hw st nt nh tw) ?_
  rintro _ _ ⟨F1, rfl, hS, nF1, u2, hu2, st_1, v_1, p1_2, rfl⟩
  refine ezw_istore_n rfl rfl ?_
  refine ezw_aload_n rfl rfl ?_
  refine ezw_call0_0 rfl (by omega) (ezu_at rfl) rfl rfl rfl rfl (ezt_m45_1 hS (by omega)) ?_
  rintro _ _ ⟨rfl, u4, hu4, p3_0, p3_1, rfl⟩
  refine ezw_if_ne rfl rfl ⟨by omega, by omega⟩ (fun h11_4 => ?_) (fun h11_4 => ?_)
  · refine ezw_aload_n rfl rfl ?_
    refine ezw_aload_n rfl rfl ?_
    refine ezw_iconst (1) rfl rfl ?_
    refine ezw_call0_2 rfl (by omega) (ezu_at rfl) rfl rfl rfl rfl (ezt_m62_1_30_v1 hS (by omega) (by rw [nF1 1 2 (by decide)]; exact hn) hc tp st_1 (ezt_NM_fr nt (by rw [nF1 30 15 (by decide)]) rfl) (ezt_NM_fr nh (by rw [nF1 30 16 (by decide)]) rfl) (by rw [nF1 30 15 (by decide), nF1 30 16 (by decide)]; exact tw)) ?_
    rintro _ _ ⟨F5, rfl, hS, nF5, u6, hu6, st_5, v_5, p5_2, rfl⟩
    refine ezw_istore_n rfl rfl ?_
    refine ezw_aload_n rfl rfl ?_
    refine ezw_call0_0 rfl (by omega) (ezu_at rfl) rfl rfl rfl rfl (ezt_m45_1 hS (by omega)) ?_
    rintro _ _ ⟨rfl, u8, hu8, p7_0, p7_1, rfl⟩
    refine ezw_if_ne rfl rfl ⟨by omega, by omega⟩ (fun h26_8 => ?_) (fun h26_8 => ?_)
    · have z2 := st_5.1.symm.trans (p7_0 (by omega))
      have z1 := ezp_0se z2
      have va := v_1 z1
      have vb := v_5 z2
      have ea : u2 = ezp_ova c t s := va.1
      have eb : u6 = ezp_ovb c t s := vb.1
      refine ezw_iload_n rfl rfl ?_
      refine ezw_iload_n rfl rfl ?_
      refine ezw_icmp_eq rfl rfl hu2 hu6 (fun h32_8 => ?_) (fun h32_8 => ?_)
      · refine ezw_aload_n rfl rfl ?_
        refine ezw_iconst (3) rfl rfl ?_
        refine ezw_call0_1 rfl (by omega) (ezu_at rfl) rfl rfl rfl rfl (ezt_m50_1 hS (by omega) ⟨by decide, by decide⟩ (by rw [nF5 1 2 (by decide), nF1 1 2 (by decide)]; exact hn) hc tp st_5 (by omega)) ?_
        rintro _ _ ⟨F9, rfl, hS, nF9, st_9, rfl⟩
        refine ezw_goto rfl rfl ?_
        exact ezw_return rfl rfl ⟨F9, A, rfl, hS, (fun p j h => by rw [nF9 p j (by omega), nF5 p j (by omega), nF1 p j (by omega)]), (fun _ _ => rfl), (by
              rw [(ezp_ov_1 (c := c) (t := t) (s := s) z2 (by rw [← ea, ← eb]; exact Or.inl (by omega))).1]
              exact st_9), (by
              rw [(ezp_ov_1 (c := c) (t := t) (s := s) z2 (by rw [← ea, ← eb]; exact Or.inl (by omega))).2]
              exact (ezt_TR_fr tr (by rw [nF9 30 15 (by decide), nF5 30 15 (by decide), nF1 30 15 (by decide)]) (by rw [nF9 30 16 (by decide), nF5 30 16 (by decide), nF1 30 16 (by decide)]) (by rw [nF9 30 17 (by decide), nF5 30 17 (by decide), nF1 30 17 (by decide)]) (by rw [nF9 38 1 (by decide), nF5 38 1 (by decide), nF1 38 1 (by decide)]) (fun _ _ _ => rfl))), rfl⟩
      · refine ezw_aload_n rfl rfl ?_
        refine ezw_iload_n rfl rfl ?_
        refine ezw_iload_n rfl rfl ?_
        refine ezw_call0_2 rfl (by omega) (ezu_at rfl) rfl rfl rfl rfl (ezt_m73_30 hS (by omega) hu2 hu6 (ezt_TR_fr tr (by rw [nF5 30 15 (by decide), nF1 30 15 (by decide)]) (by rw [nF5 30 16 (by decide), nF1 30 16 (by decide)]) (by rw [nF5 30 17 (by decide), nF1 30 17 (by decide)]) (by rw [nF5 38 1 (by decide), nF1 38 1 (by decide)]) (fun _ _ _ => rfl)) (by omega)) ?_
        rintro _ _ ⟨rfl, u11, hu11, p10_0, p10_1, rfl⟩
        refine ezw_if_eq rfl rfl ⟨by omega, by omega⟩ (fun h41_11 => ?_) (fun h41_11 => ?_)
        · refine ezw_aload_n rfl rfl ?_
          refine ezw_iload_n rfl rfl ?_
          refine ezw_iload_n rfl rfl ?_
          refine ezw_call0_2 rfl (by omega) (ezu_at rfl) rfl rfl rfl rfl (ezt_m74_30 hS (by omega) hu2 hu6 (ezt_TR_fr tr (by rw [nF5 30 15 (by decide), nF1 30 15 (by decide)]) (by rw [nF5 30 16 (by decide), nF1 30 16 (by decide)]) (by rw [nF5 30 17 (by decide), nF1 30 17 (by decide)]) (by rw [nF5 38 1 (by decide), nF1 38 1 (by decide)]) (fun _ _ _ => rfl)) (by omega)) ?_
          rintro _ _ ⟨A12, rfl, hS, nA12, tr_12, rfl⟩
          refine ezw_aload_n rfl rfl ?_
          refine ezw_call0_0 rfl (by omega) (ezu_at rfl) rfl rfl rfl rfl (ezt_take hS (by omega) (by rw [nF5 1 2 (by decide), nF1 1 2 (by decide)]; exact hn) (by rw [nA12 2 (by decide)]; exact hc) tp (by rw [nA12 3 (by decide)]; exact hw) st_5) ?_
          rintro _ _ ⟨F13, rfl, hS, nF13, st_13, rfl⟩
          exact ezw_return rfl rfl ⟨F13, A12, rfl, hS, (fun p j h => by rw [nF13 p j (by omega), nF5 p j (by omega), nF1 p j (by omega)]), (fun p h => by
                funext j
                rw [nA12 p (by omega)]), (by
                rw [(ezp_ov_0 (c := c) (t := t) (s := s) z2 (by rw [← ea, ← eb]; exact ⟨by omega, p10_1 (by omega)⟩)).1]
                exact st_13), (by
                rw [(ezp_ov_0 (c := c) (t := t) (s := s) z2 (by rw [← ea, ← eb]; exact ⟨by omega, p10_1 (by omega)⟩)).2, ← ea, ← eb]
                exact (ezt_TR_fr tr_12 (by rw [nF13 30 15 (by decide)]) (by rw [nF13 30 16 (by decide)]) (by rw [nF13 30 17 (by decide)]) (by rw [nF13 38 1 (by decide)]) (fun _ _ _ => rfl))), rfl⟩
        · refine ezw_aload_n rfl rfl ?_
          refine ezw_iconst (3) rfl rfl ?_
          refine ezw_call0_1 rfl (by omega) (ezu_at rfl) rfl rfl rfl rfl (ezt_m50_1 hS (by omega) ⟨by decide, by decide⟩ (by rw [nF5 1 2 (by decide), nF1 1 2 (by decide)]; exact hn) hc tp st_5 (by omega)) ?_
          rintro _ _ ⟨F14, rfl, hS, nF14, st_14, rfl⟩
          refine ezw_goto rfl rfl ?_
          exact ezw_return rfl rfl ⟨F14, A, rfl, hS, (fun p j h => by rw [nF14 p j (by omega), nF5 p j (by omega), nF1 p j (by omega)]), (fun _ _ => rfl), (by
                rw [(ezp_ov_1 (c := c) (t := t) (s := s) z2 (by rw [← ea, ← eb]; exact Or.inr (p10_0 (by omega)))).1]
                exact st_14), (by
                rw [(ezp_ov_1 (c := c) (t := t) (s := s) z2 (by rw [← ea, ← eb]; exact Or.inr (p10_0 (by omega)))).2]
                exact (ezt_TR_fr tr (by rw [nF14 30 15 (by decide), nF5 30 15 (by decide), nF1 30 15 (by decide)]) (by rw [nF14 30 16 (by decide), nF5 30 16 (by decide), nF1 30 16 (by decide)]) (by rw [nF14 30 17 (by decide), nF5 30 17 (by decide), nF1 30 17 (by decide)]) (by rw [nF14 38 1 (by decide), nF5 38 1 (by decide), nF1 38 1 (by decide)]) (fun _ _ _ => rfl))), rfl⟩
    · exact ezw_return rfl rfl ⟨F5, A, rfl, hS, (fun p j h => by rw [nF5 p j (by omega), nF1 p j (by omega)]), (fun _ _ => rfl), (by
            rw [(ezp_ov_n2 (c := c) (t := t) (s := s) (fun h9 => p7_1 (by omega) (st_5.1.trans h9))).1]
            exact st_5), (by
            rw [(ezp_ov_n2 (c := c) (t := t) (s := s) (fun h9 => p7_1 (by omega) (st_5.1.trans h9))).2]
            exact (ezt_TR_fr tr (by rw [nF5 30 15 (by decide), nF1 30 15 (by decide)]) (by rw [nF5 30 16 (by decide), nF1 30 16 (by decide)]) (by rw [nF5 30 17 (by decide), nF1 30 17 (by decide)]) (by rw [nF5 38 1 (by decide), nF1 38 1 (by decide)]) (fun _ _ _ => rfl))), rfl⟩
  · exact ezw_return rfl rfl ⟨F1, A, rfl, hS, (fun p j h => by rw [nF1 p j (by omega)]), (fun _ _ => rfl), (by
          rw [(ezp_ov_n1 (c := c) (t := t) (s := s) (fun h9 => p3_1 (by omega) (st_1.1.trans h9))).1]
          exact st_1), (by
          rw [(ezp_ov_n1 (c := c) (t := t) (s := s) (fun h9 => p3_1 (by omega) (st_1.1.trans h9))).2]
          exact (ezt_TR_fr tr (by rw [nF1 30 15 (by decide)]) (by rw [nF1 30 16 (by decide)]) (by rw [nF1 30 17 (by decide)]) (by rw [nF1 38 1 (by decide)]) (fun _ _ _ => rfl))), rfl⟩
def ezt_m77_1_30Q (e : Bool × Bool) (F : Nat → Nat → Int) (A : Nat → Int → Int) (c : Int → Int) (n : Int) (s : Int × Int) (t : ezp_D) : Option ezq_V → (Nat → ezq_C) → Prop := fun v g' => ∃ (F' : Nat → Nat → Int) (A' : Nat → Int → Int), ezu_g e F' A' = g' ∧ ezs_T F' A' ∧ (∀ p j, ¬ (p = 1 ∧ (j = 3 ∨ j = 4 ∨ j = 5 ∨ j = 6 ∨ j = 7 ∨ j = 8 ∨ j = 9) ∨ p = 38 ∧ (j = 1)) → F' p j = F p j) ∧ (∀ p, ¬ (p = 39) → A' p = A p) ∧ (ezt_ST c n (ezp_elS c t s) F') ∧ (ezt_TR 30 (ezp_elD c t s) F' A') ∧ none = v
theorem ezt_m77_1_30 {c : Int → Int} {n : Int} {s : Int × Int} {t : ezp_D} {F : Nat → Nat → Int} {A : Nat → Int → Int} (hS : ezs_T F A) (hd : 8 ≤ d) (hn : F 1 2 = n) (hc : c = ezp_ch (A 2) n) (tp : ezp_tp c n) (hw : ∀ j, 0 ≤ j → j < 48 → A 3 j = ezl_cw.getD j.toNat 0) (st : ezt_ST c n s F) (tr : ezt_TR 30 t F A) (hk : t.kE < 8) : ezw_C l ρ B xa Hb D cA 77 d [ezw_p 1, ezw_p 30] (ezu_g e F A) (ezt_m77_1_30Q e F A c n s t) := by
  refine ezw_met (k := 2) rfl rfl ?_
  have hn0 := tp.1
  have hn1 := tp.2.1
  obtain ⟨sf, sk, sc, sb, sb2⟩ := id st
  have hP := ezp_Pr tp s.2
  have c3i : s.1 = 0 → F 1 3 = ezp_K c s.2 := fun z => (sc z).2.2.1
  have c8i : s.1 = 0 → F 1 8 = ezp_P c s.2 := fun z => (sc z).1
  have c4i : s.1 = 0 → ezp_K c s.2 = 101 → F 1 4 = ezp_V c s.2 := fun z => (sc z).2.2.2.1
  have c7i : s.1 = 0 → ezp_K c s.2 = 100 → F 1 7 = ezp_v 32 (ezp_W c s.2) ∧ F 1 5 = ezp_ix (ezp_W c s.2) - 44 := fun z => (sc z).2.2.2.2
  have nt : ezt_NM 30 15 40 t.nT F A := ezt_TR_nt tr
  have nh : ezt_NM 30 16 41 t.nH F A := ezt_TR_nh tr
  have tw := ezt_TR_tn tr
  have trk := tr.2.1
  refine ezw_aload_n rfl rfl ?_
  refine ezw_iconst (0) rfl rfl ?_
  refine ezw_bipush (15) rfl rfl ?_
  refine ezw_call0_2 rfl (by omega) (ezu_at rfl) rfl rfl rfl rfl (ezt_m57_1 hS (by omega) ⟨by decide, by decide⟩ ⟨by decide, by decide⟩ hn hc tp hw st) ?_
  rintro _ _ ⟨F1, rfl, hS, nF1, u2, hu2, st_1, v_1, p1_2, rfl⟩
  refine ezw_istore_n rfl rfl ?_
  refine ezw_aload_n rfl rfl ?_
  refine ezw_iconst (0) rfl rfl ?_
  refine ezw_bipush (15) rfl rfl ?_
  refine ezw_call0_2 rfl (by omega) (ezu_at rfl) rfl rfl rfl rfl (ezt_m58_1 hS (by omega) ⟨by decide, by decide⟩ ⟨by decide, by decide⟩ (by rw [nF1 1 2 (by decide)]; exact hn) hc tp st_1) ?_
  rintro _ _ ⟨F3, rfl, hS, nF3, u4, hu4, st_3, v_3, p3_2, rfl⟩
  refine ezw_istore_n rfl rfl ?_
  refine ezw_aload_n rfl rfl ?_
  refine ezw_call0_0 rfl (by omega) (ezu_at rfl) rfl rfl rfl rfl (ezt_m45_1 hS (by omega)) ?_
  rintro _ _ ⟨rfl, u6, hu6, p5_0, p5_1, rfl⟩
  refine ezw_if_ne rfl rfl ⟨by omega, by omega⟩ (fun h20_6 => ?_) (fun h20_6 => ?_)
  · have z2 := st_3.1.symm.trans (p5_0 (by omega))
    have z1 := ezp_0sn z2
    have va := v_1 z1
    have vb := v_3 z2
    have ea : u2 = ezp_V c s.2 := va.1
    have eb : u4 = ezp_V c (ezp_n c 0 15 s).2 := vb.1
    refine ezw_aload_n rfl rfl ?_
    refine ezs_getp (p := 38) rfl rfl rfl rfl rfl ?_
    refine ezw_iload_n rfl rfl ?_
    refine ezw_iload_n rfl rfl ?_
    refine ezw_call0_2 rfl (by omega) (ezu_at rfl) rfl rfl rfl rfl (ezt_m78_38 hS (by omega) hu2 hu4 (ezt_TR_fr tr (by rw [nF3 30 15 (by decide), nF1 30 15 (by decide)]) (by rw [nF3 30 16 (by decide), nF1 30 16 (by decide)]) (by rw [nF3 30 17 (by decide), nF1 30 17 (by decide)]) (by rw [nF3 38 1 (by decide), nF1 38 1 (by decide)]) (fun _ _ _ => rfl)) (by omega)) ?_
    rintro _ _ ⟨rfl, u8, hu8, p7_0, p7_1, rfl⟩
    refine ezw_if_eq rfl rfl ⟨by omega, by omega⟩ (fun h33_8 => ?_) (fun h33_8 => ?_)
    · refine ezw_aload_n rfl rfl ?_
      refine ezs_getp (p := 38) rfl rfl rfl rfl rfl ?_
      refine ezw_iload_n rfl rfl ?_
      refine ezw_iload_n rfl rfl ?_
      refine ezw_call0_2 rfl (by omega) (ezu_at rfl) rfl rfl rfl rfl (ezt_m79_38 hS (by omega) hu2 hu4 (ezt_TR_fr tr (by rw [nF3 30 15 (by decide), nF1 30 15 (by decide)]) (by rw [nF3 30 16 (by decide), nF1 30 16 (by decide)]) (by rw [nF3 30 17 (by decide), nF1 30 17 (by decide)]) (by rw [nF3 38 1 (by decide), nF1 38 1 (by decide)]) (fun _ _ _ => rfl)) (by omega) (by omega)) ?_
      rintro _ _ ⟨F9, A9, rfl, hS, nF9, nA9, tr_9, rfl⟩
      refine ezw_aload_n rfl rfl ?_
      refine ezw_call0_0 rfl (by omega) (ezu_at rfl) rfl rfl rfl rfl (ezt_take hS (by omega) (by rw [nF9 1 2 (by decide), nF3 1 2 (by decide), nF1 1 2 (by decide)]; exact hn) (by rw [nA9 2 (by decide)]; exact hc) tp (by rw [nA9 3 (by decide)]; exact hw) (ezt_ST_fr st_3 (fun j j0 j1 => by rw [nF9 1 j (by omega)]))) ?_
      rintro _ _ ⟨F10, rfl, hS, nF10, st_10, rfl⟩
      exact ezw_return rfl rfl ⟨F10, A9, rfl, hS, (fun p j h => by rw [nF10 p j (by omega), nF9 p j (by omega), nF3 p j (by omega), nF1 p j (by omega)]), (fun p h => by
            funext j
            rw [nA9 p (by omega)]), (by
            rw [(ezp_el_0 (c := c) (t := t) (s := s) z2 (by rw [← ea, ← eb]; exact p7_1 (by omega))).1]
            exact st_10), (by
            rw [(ezp_el_0 (c := c) (t := t) (s := s) z2 (by rw [← ea, ← eb]; exact p7_1 (by omega))).2, ← ea, ← eb]
            exact (ezt_TR_fr tr_9 (by rw [nF10 30 15 (by decide)]) (by rw [nF10 30 16 (by decide)]) (by rw [nF10 30 17 (by decide)]) (by rw [nF10 38 1 (by decide)]) (fun _ _ _ => rfl))), rfl⟩
    · refine ezw_aload_n rfl rfl ?_
      refine ezw_iconst (3) rfl rfl ?_
      refine ezw_call0_1 rfl (by omega) (ezu_at rfl) rfl rfl rfl rfl (ezt_m50_1 hS (by omega) ⟨by decide, by decide⟩ (by rw [nF3 1 2 (by decide), nF1 1 2 (by decide)]; exact hn) hc tp st_3 (by omega)) ?_
      rintro _ _ ⟨F11, rfl, hS, nF11, st_11, rfl⟩
      refine ezw_goto rfl rfl ?_
      exact ezw_return rfl rfl ⟨F11, A, rfl, hS, (fun p j h => by rw [nF11 p j (by omega), nF3 p j (by omega), nF1 p j (by omega)]), (fun _ _ => rfl), (by
            rw [(ezp_el_1 (c := c) (t := t) (s := s) z2 (by rw [← ea, ← eb]; exact p7_0 (by omega))).1]
            exact st_11), (by
            rw [(ezp_el_1 (c := c) (t := t) (s := s) z2 (by rw [← ea, ← eb]; exact p7_0 (by omega))).2]
            exact (ezt_TR_fr tr (by rw [nF11 30 15 (by decide), nF3 30 15 (by decide), nF1 30 15 (by decide)]) (by rw [nF11 30 16 (by decide), nF3 30 16 (by decide), nF1 30 16 (by decide)]) (by rw [nF11 30 17 (by decide), nF3 30 17 (by decide), nF1 30 17 (by decide)]) (by rw [nF11 38 1 (by decide), nF3 38 1 (by decide), nF1 38 1 (by decide)]) (fun _ _ _ => rfl))), rfl⟩
  · exact ezw_return rfl rfl ⟨F3, A, rfl, hS, (fun p j h => by rw [nF3 p j (by omega), nF1 p j (by omega)]), (fun _ _ => rfl), (by
          rw [(ezp_el_n (c := c) (t := t) (s := s) (fun h9 => p5_1 (by omega) (st_3.1.trans h9))).1]
          exact st_3), (by
          rw [(ezp_el_n (c := c) (t := t) (s := s) (fun h9 => p5_1 (by omega) (st_3.1.trans h9))).2]
          exact (ezt_TR_fr tr (by rw [nF3 30 15 (by decide), nF1 30 15 (by decide)]) (by rw [nF3 30 16 (by decide), nF1 30 16 (by decide)]) (by rw [nF3 30 17 (by decide), nF1 30 17 (by decide)]) (by rw [nF3 38 1 (by decide), nF1 38 1 (by decide)]) (fun _ _ _ => rfl))), rfl⟩
def ezt_m51_1_47Q (e : Bool × Bool) (F : Nat → Nat → Int) (A : Nat → Int → Int) (c : Int → Int) (n : Int) (s : Int × Int) (t : ezp_D) : Option ezq_V → (Nat → ezq_C) → Prop := fun v g' => ∃ (F' : Nat → Nat → Int) (A' : Nat → Int → Int), ezu_g e F' A' = g' ∧ ezs_T F' A' ∧ (∀ p j, ¬ (p = 1 ∧ (j = 3 ∨ j = 4 ∨ j = 5 ∨ j = 6 ∨ j = 7 ∨ j = 8 ∨ j = 9) ∨ p = 47 ∧ (j = 15)) → F' p j = F p j) ∧ (∀ p, ¬ (p = 48 ∨ p = 49 ∨ p = 50 ∨ p = 51 ∨ p = 57) → A' p = A p) ∧ (ezt_ST c n (ezp_twS c t s) F') ∧ (ezt_TR 47 (ezp_twD c t s) F' A') ∧ none = v
theorem ezt_m51_1_47 {c : Int → Int} {n : Int} {s : Int × Int} {t : ezp_D} {F : Nat → Nat → Int} {A : Nat → Int → Int} (hS : ezs_T F A) (hd : 8 ≤ d) (hn : F 1 2 = n) (hc : c = ezp_ch (A 2) n) (tp : ezp_tp c n) (hw : ∀ j, 0 ≤ j → j < 48 → A 3 j = ezl_cw.getD j.toNat 0) (st : ezt_ST c n s F) (tr : ezt_TR 47 t F A) (hk : t.kT < 8) : ezw_C l ρ B xa Hb D cA 51 d [ezw_p 1, ezw_p 47] (ezu_g e F A) (ezt_m51_1_47Q e F A c n s t) := by
  refine ezw_met (k := 6) rfl rfl ?_
  have hn0 := tp.1
  have hn1 := tp.2.1
  obtain ⟨sf, sk, sc, sb, sb2⟩ := id st
  have hP := ezp_Pr tp s.2
  have c3i : s.1 = 0 → F 1 3 = ezp_K c s.2 := fun z => (sc z).2.2.1
  have c8i : s.1 = 0 → F 1 8 = ezp_P c s.2 := fun z => (sc z).1
  have c4i : s.1 = 0 → ezp_K c s.2 = 101 → F 1 4 = ezp_V c s.2 := fun z => (sc z).2.2.2.1
  have c7i : s.1 = 0 → ezp_K c s.2 = 100 → F 1 7 = ezp_v 32 (ezp_W c s.2) ∧ F 1 5 = ezp_ix (ezp_W c s.2) - 44 := fun z => (sc z).2.2.2.2
  have nt : ezt_NM 47 15 57 t.nT F A := ezt_TR_nt tr
  have nh : ezt_NM 47 16 58 t.nH F A := ezt_TR_nh tr
  have tw := ezt_TR_tn tr
  have trk := tr.2.1
  refine ezw_aload_n rfl rfl ?_
  refine ezw_aload_n rfl rfl ?_
  refine ezw_call2_2 rfl (by omega) rfl rfl (ezt_m52_1_47 hS (by omega) hn hc tp hw st nt nh tw) ?_
  rintro _ _ ⟨F1, rfl, hS, nF1, u2, hu2, st_1, v_1, rfl⟩
  refine ezw_lstore_n rfl rfl ?_
  refine ezw_aload_n rfl rfl ?_
  refine ezw_iconst (1) rfl rfl ?_
  refine ezw_call0_1 rfl (by omega) (ezu_at rfl) rfl rfl rfl rfl (ezt_m56_1 hS (by omega) ⟨by decide, by decide⟩ (by rw [nF1 1 2 (by decide)]; exact hn) hc tp hw st_1) ?_
  rintro _ _ ⟨F3, rfl, hS, nF3, st_3, rfl⟩
  refine ezw_aload_n rfl rfl ?_
  refine ezw_iconst (1) rfl rfl ?_
  refine ezw_bipush (60) rfl rfl ?_
  refine ezw_call0_2 rfl (by omega) (ezu_at rfl) rfl rfl rfl rfl (ezt_m57_1 hS (by omega) ⟨by decide, by decide⟩ ⟨by decide, by decide⟩ (by rw [nF3 1 2 (by decide), nF1 1 2 (by decide)]; exact hn) hc tp hw st_3) ?_
  rintro _ _ ⟨F4, rfl, hS, nF4, u5, hu5, st_4, v_4, p4_2, rfl⟩
  refine ezw_istore rfl rfl ?_
  refine ezw_aload_n rfl rfl ?_
  refine ezw_iconst (2) rfl rfl ?_
  refine ezw_call0_1 rfl (by omega) (ezu_at rfl) rfl rfl rfl rfl (ezt_m56_1 hS (by omega) ⟨by decide, by decide⟩ (by rw [nF4 1 2 (by decide), nF3 1 2 (by decide), nF1 1 2 (by decide)]; exact hn) hc tp hw st_4) ?_
  rintro _ _ ⟨F6, rfl, hS, nF6, st_6, rfl⟩
  refine ezw_aload_n rfl rfl ?_
  refine ezw_iconst (1) rfl rfl ?_
  refine ezw_bipush (20) rfl rfl ?_
  refine ezw_call0_2 rfl (by omega) (ezu_at rfl) rfl rfl rfl rfl (ezt_m57_1 hS (by omega) ⟨by decide, by decide⟩ ⟨by decide, by decide⟩ (by rw [nF6 1 2 (by decide), nF4 1 2 (by decide), nF3 1 2 (by decide), nF1 1 2 (by decide)]; exact hn) hc tp hw st_6) ?_
  rintro _ _ ⟨F7, rfl, hS, nF7, u8, hu8, st_7, v_7, p7_2, rfl⟩
  refine ezw_istore rfl rfl ?_
  refine ezw_aload_n rfl rfl ?_
  refine ezw_iconst (3) rfl rfl ?_
  refine ezw_call0_1 rfl (by omega) (ezu_at rfl) rfl rfl rfl rfl (ezt_m56_1 hS (by omega) ⟨by decide, by decide⟩ (by rw [nF7 1 2 (by decide), nF6 1 2 (by decide), nF4 1 2 (by decide), nF3 1 2 (by decide), nF1 1 2 (by decide)]; exact hn) hc tp hw st_7) ?_
  rintro _ _ ⟨F9, rfl, hS, nF9, st_9, rfl⟩
  refine ezw_aload_n rfl rfl ?_
  refine ezw_bipush (30) rfl rfl ?_
  refine ezw_iconst (4) rfl rfl ?_
  refine ezw_call0_2 rfl (by omega) (ezu_at rfl) rfl rfl rfl rfl (ezt_m59_1 hS (by omega) ⟨by decide, by decide⟩ ⟨by decide, by decide⟩ (by rw [nF9 1 2 (by decide), nF7 1 2 (by decide), nF6 1 2 (by decide), nF4 1 2 (by decide), nF3 1 2 (by decide), nF1 1 2 (by decide)]; exact hn) hc tp hw st_9 (by omega)) ?_
  rintro _ _ ⟨F10, rfl, hS, nF10, u11, hu11, st_10, v_10, p10_2, rfl⟩
  refine ezw_istore rfl rfl ?_
  refine ezw_aload_n rfl rfl ?_
  refine ezw_iconst (4) rfl rfl ?_
  refine ezw_call0_1 rfl (by omega) (ezu_at rfl) rfl rfl rfl rfl (ezt_m60_1 hS (by omega) ⟨by decide, by decide⟩ (by rw [nF10 1 2 (by decide), nF9 1 2 (by decide), nF7 1 2 (by decide), nF6 1 2 (by decide), nF4 1 2 (by decide), nF3 1 2 (by decide), nF1 1 2 (by decide)]; exact hn) hc tp hw st_10) ?_
  rintro _ _ ⟨F12, rfl, hS, nF12, u13, hu13, p12_0, p12_1, st_12, rfl⟩
  refine ezw_if_eq rfl rfl ⟨by omega, by omega⟩ (fun h53_13 => ?_) (fun h53_13 => ?_)
  · refine ezw_iconst (-1) rfl rfl ?_
    refine ezw_istore rfl rfl ?_
    refine ezw_aload_n rfl rfl ?_
    refine ezw_call0_0 rfl (by omega) (ezu_at rfl) rfl rfl rfl rfl (ezt_m45_1 hS (by omega)) ?_
    rintro _ _ ⟨rfl, u15, hu15, p14_0, p14_1, rfl⟩
    refine ezw_if_eq rfl rfl ⟨by omega, by omega⟩ (fun h72_15 => ?_) (fun h72_15 => ?_)
    · exact ezw_return rfl rfl ⟨F12, A, rfl, hS, (fun p j h => by rw [nF12 p j (by omega), nF10 p j (by omega), nF9 p j (by omega), nF7 p j (by omega), nF6 p j (by omega), nF4 p j (by omega), nF3 p j (by omega), nF1 p j (by omega)]), (fun _ _ => rfl), (by
            rw [ezp_twS_0 (c := c) (t := t) (s := s) (p12_1 (by omega))]
            exact st_12), (by
            rw [ezp_twD_0n (c := c) (t := t) (s := s) (p12_1 (by omega)) (fun h9 => p14_1 (by omega) (st_12.1.trans h9))]
            exact (ezt_TR_fr tr (by rw [nF12 47 15 (by decide), nF10 47 15 (by decide), nF9 47 15 (by decide), nF7 47 15 (by decide), nF6 47 15 (by decide), nF4 47 15 (by decide), nF3 47 15 (by decide), nF1 47 15 (by decide)]) (by rw [nF12 47 16 (by decide), nF10 47 16 (by decide), nF9 47 16 (by decide), nF7 47 16 (by decide), nF6 47 16 (by decide), nF4 47 16 (by decide), nF3 47 16 (by decide), nF1 47 16 (by decide)]) (by rw [nF12 47 17 (by decide), nF10 47 17 (by decide), nF9 47 17 (by decide), nF7 47 17 (by decide), nF6 47 17 (by decide), nF4 47 17 (by decide), nF3 47 17 (by decide), nF1 47 17 (by decide)]) (by rw [nF12 55 1 (by decide), nF10 55 1 (by decide), nF9 55 1 (by decide), nF7 55 1 (by decide), nF6 55 1 (by decide), nF4 55 1 (by decide), nF3 55 1 (by decide), nF1 55 1 (by decide)]) (fun _ _ _ => rfl))), rfl⟩
    · have z7b := st_12.1.symm.trans (p14_0 (by omega))
      have z7 := ezp_0tk z7b
      have z6 := ezp_0o z7
      have z5 := ezp_0w z6
      have z4 := ezp_0n z5
      have z3 := ezp_0w z4
      have z2 := ezp_0n z3
      have z1 := ezp_0w z2
      have vn := v_1 z1
      refine ezw_aload_n rfl rfl ?_
      refine ezw_lload_n rfl rfl ?_
      refine ezw_iload rfl rfl ?_
      refine ezw_iload rfl rfl ?_
      refine ezw_iload rfl rfl ?_
      refine ezw_iload rfl rfl ?_
      refine ezw_call0_5 rfl (by omega) (ezu_at rfl) rfl rfl rfl rfl (ezt_m63_47 (t := t) (wl := ezp_W c s.2) hS (by omega) hu2 hu5 hu8 hu11 ⟨by decide, by decide⟩ (ezt_TR_fr tr (by rw [nF12 47 15 (by decide), nF10 47 15 (by decide), nF9 47 15 (by decide), nF7 47 15 (by decide), nF6 47 15 (by decide), nF4 47 15 (by decide), nF3 47 15 (by decide), nF1 47 15 (by decide)]) (by rw [nF12 47 16 (by decide), nF10 47 16 (by decide), nF9 47 16 (by decide), nF7 47 16 (by decide), nF6 47 16 (by decide), nF4 47 16 (by decide), nF3 47 16 (by decide), nF1 47 16 (by decide)]) (by rw [nF12 47 17 (by decide), nF10 47 17 (by decide), nF9 47 17 (by decide), nF7 47 17 (by decide), nF6 47 17 (by decide), nF4 47 17 (by decide), nF3 47 17 (by decide), nF1 47 17 (by decide)]) (by rw [nF12 55 1 (by decide), nF10 55 1 (by decide), nF9 55 1 (by decide), nF7 55 1 (by decide), nF6 55 1 (by decide), nF4 55 1 (by decide), nF3 55 1 (by decide), nF1 55 1 (by decide)]) (fun _ _ _ => rfl)) hk (ezp_W_ok tp vn.2.2.1) vn.1) ?_
      rintro _ _ ⟨F16, A16, rfl, hS, nF16, nA16, tr_16, rfl⟩
      exact ezw_return rfl rfl ⟨F16, A16, rfl, hS, (fun p j h => by rw [nF16 p j (by omega), nF12 p j (by omega), nF10 p j (by omega), nF9 p j (by omega), nF7 p j (by omega), nF6 p j (by omega), nF4 p j (by omega), nF3 p j (by omega), nF1 p j (by omega)]), (fun p h => by
            funext j
            rw [nA16 p (by omega)]), (by
            rw [ezp_twS_0 (c := c) (t := t) (s := s) (p12_1 (by omega))]
            exact (ezt_ST_fr st_12 (fun j j0 j1 => by rw [nF16 1 j (by omega)]))), (by
            have h7 := tr_16
            rw [(v_4 z3).1, (v_7 z5).1, (v_10 z7).1] at h7
            rw [ezp_twD_0 (c := c) (t := t) (s := s) (p12_1 (by omega)) z7b]
            exact h7), rfl⟩
  · refine ezw_aload_n rfl rfl ?_
    refine ezw_aload_n rfl rfl ?_
    refine ezw_iconst (0) rfl rfl ?_
    refine ezw_call0_2 rfl (by omega) (ezu_at rfl) rfl rfl rfl rfl (ezt_m61_1_47_v0 hS (by omega) (by rw [nF12 1 2 (by decide), nF10 1 2 (by decide), nF9 1 2 (by decide), nF7 1 2 (by decide), nF6 1 2 (by decide), nF4 1 2 (by decide), nF3 1 2 (by decide), nF1 1 2 (by decide)]; exact hn) hc tp hw st_12 (ezt_NM_fr nt (by rw [nF12 47 15 (by decide), nF10 47 15 (by decide), nF9 47 15 (by decide), nF7 47 15 (by decide), nF6 47 15 (by decide), nF4 47 15 (by decide), nF3 47 15 (by decide), nF1 47 15 (by decide)]) rfl) (ezt_NM_fr nh (by rw [nF12 47 16 (by decide), nF10 47 16 (by decide), nF9 47 16 (by decide), nF7 47 16 (by decide), nF6 47 16 (by decide), nF4 47 16 (by decide), nF3 47 16 (by decide), nF1 47 16 (by decide)]) rfl) (by rw [nF12 47 15 (by decide), nF10 47 15 (by decide), nF9 47 15 (by decide), nF7 47 15 (by decide), nF6 47 15 (by decide), nF4 47 15 (by decide), nF3 47 15 (by decide), nF1 47 15 (by decide), nF12 47 16 (by decide), nF10 47 16 (by decide), nF9 47 16 (by decide), nF7 47 16 (by decide), nF6 47 16 (by decide), nF4 47 16 (by decide), nF3 47 16 (by decide), nF1 47 16 (by decide)]; exact tw)) ?_
    rintro _ _ ⟨F17, rfl, hS, nF17, u18, hu18, st_17, v_17, p17_2, rfl⟩
    refine ezw_goto rfl rfl ?_
    refine ezw_istore rfl rfl ?_
    refine ezw_aload_n rfl rfl ?_
    refine ezw_call0_0 rfl (by omega) (ezu_at rfl) rfl rfl rfl rfl (ezt_m45_1 hS (by omega)) ?_
    rintro _ _ ⟨rfl, u20, hu20, p19_0, p19_1, rfl⟩
    refine ezw_if_eq rfl rfl ⟨by omega, by omega⟩ (fun h72_20 => ?_) (fun h72_20 => ?_)
    · exact ezw_return rfl rfl ⟨F17, A, rfl, hS, (fun p j h => by rw [nF17 p j (by omega), nF12 p j (by omega), nF10 p j (by omega), nF9 p j (by omega), nF7 p j (by omega), nF6 p j (by omega), nF4 p j (by omega), nF3 p j (by omega), nF1 p j (by omega)]), (fun _ _ => rfl), (by
            rw [ezp_twS_1 (c := c) (t := t) (s := s) (p12_0 (by omega))]
            exact st_17), (by
            rw [ezp_twD_1n (c := c) (t := t) (s := s) (p12_0 (by omega)) (fun h9 => p19_1 (by omega) (st_17.1.trans h9))]
            exact (ezt_TR_fr tr (by rw [nF17 47 15 (by decide), nF12 47 15 (by decide), nF10 47 15 (by decide), nF9 47 15 (by decide), nF7 47 15 (by decide), nF6 47 15 (by decide), nF4 47 15 (by decide), nF3 47 15 (by decide), nF1 47 15 (by decide)]) (by rw [nF17 47 16 (by decide), nF12 47 16 (by decide), nF10 47 16 (by decide), nF9 47 16 (by decide), nF7 47 16 (by decide), nF6 47 16 (by decide), nF4 47 16 (by decide), nF3 47 16 (by decide), nF1 47 16 (by decide)]) (by rw [nF17 47 17 (by decide), nF12 47 17 (by decide), nF10 47 17 (by decide), nF9 47 17 (by decide), nF7 47 17 (by decide), nF6 47 17 (by decide), nF4 47 17 (by decide), nF3 47 17 (by decide), nF1 47 17 (by decide)]) (by rw [nF17 55 1 (by decide), nF12 55 1 (by decide), nF10 55 1 (by decide), nF9 55 1 (by decide), nF7 55 1 (by decide), nF6 55 1 (by decide), nF4 55 1 (by decide), nF3 55 1 (by decide), nF1 55 1 (by decide)]) (fun _ _ _ => rfl))), rfl⟩
    · have z7b := st_17.1.symm.trans (p19_0 (by omega))
      have z7 := ezp_0tk (ezp_0ta z7b)
      have z6 := ezp_0o z7
      have z5 := ezp_0w z6
      have z4 := ezp_0n z5
      have z3 := ezp_0w z4
      have z2 := ezp_0n z3
      have z1 := ezp_0w z2
      have vn := v_1 z1
      refine ezw_aload_n rfl rfl ?_
      refine ezw_lload_n rfl rfl ?_
      refine ezw_iload rfl rfl ?_
      refine ezw_iload rfl rfl ?_
      refine ezw_iload rfl rfl ?_
      refine ezw_iload rfl rfl ?_
      refine ezw_call0_5 rfl (by omega) (ezu_at rfl) rfl rfl rfl rfl (ezt_m63_47 (t := t) (wl := ezp_W c s.2) hS (by omega) hu2 hu5 hu8 hu11 hu18 (ezt_TR_fr tr (by rw [nF17 47 15 (by decide), nF12 47 15 (by decide), nF10 47 15 (by decide), nF9 47 15 (by decide), nF7 47 15 (by decide), nF6 47 15 (by decide), nF4 47 15 (by decide), nF3 47 15 (by decide), nF1 47 15 (by decide)]) (by rw [nF17 47 16 (by decide), nF12 47 16 (by decide), nF10 47 16 (by decide), nF9 47 16 (by decide), nF7 47 16 (by decide), nF6 47 16 (by decide), nF4 47 16 (by decide), nF3 47 16 (by decide), nF1 47 16 (by decide)]) (by rw [nF17 47 17 (by decide), nF12 47 17 (by decide), nF10 47 17 (by decide), nF9 47 17 (by decide), nF7 47 17 (by decide), nF6 47 17 (by decide), nF4 47 17 (by decide), nF3 47 17 (by decide), nF1 47 17 (by decide)]) (by rw [nF17 55 1 (by decide), nF12 55 1 (by decide), nF10 55 1 (by decide), nF9 55 1 (by decide), nF7 55 1 (by decide), nF6 55 1 (by decide), nF4 55 1 (by decide), nF3 55 1 (by decide), nF1 55 1 (by decide)]) (fun _ _ _ => rfl)) hk (ezp_W_ok tp vn.2.2.1) vn.1) ?_
      rintro _ _ ⟨F21, A21, rfl, hS, nF21, nA21, tr_21, rfl⟩
      exact ezw_return rfl rfl ⟨F21, A21, rfl, hS, (fun p j h => by rw [nF21 p j (by omega), nF17 p j (by omega), nF12 p j (by omega), nF10 p j (by omega), nF9 p j (by omega), nF7 p j (by omega), nF6 p j (by omega), nF4 p j (by omega), nF3 p j (by omega), nF1 p j (by omega)]), (fun p h => by
            funext j
            rw [nA21 p (by omega)]), (by
            rw [ezp_twS_1 (c := c) (t := t) (s := s) (p12_0 (by omega))]
            exact (ezt_ST_fr st_17 (fun j j0 j1 => by rw [nF21 1 j (by omega)]))), (by
            have h7 := tr_21
            rw [(v_4 z3).1, (v_7 z5).1, (v_10 z7).1, (v_17 z7b).1] at h7
            rw [ezp_twD_1 (c := c) (t := t) (s := s) (p12_0 (by omega)) z7b]
            exact h7), rfl⟩
def ezt_m70_1_47Q (e : Bool × Bool) (F : Nat → Nat → Int) (A : Nat → Int → Int) (c : Int → Int) (n : Int) (s : Int × Int) (t : ezp_D) : Option ezq_V → (Nat → ezq_C) → Prop := fun v g' => ∃ (F' : Nat → Nat → Int) (A' : Nat → Int → Int), ezu_g e F' A' = g' ∧ ezs_T F' A' ∧ (∀ p j, ¬ (p = 1 ∧ (j = 3 ∨ j = 4 ∨ j = 5 ∨ j = 6 ∨ j = 7 ∨ j = 8 ∨ j = 9) ∨ p = 47 ∧ (j = 16)) → F' p j = F p j) ∧ (∀ p, ¬ (p = 52 ∨ p = 53 ∨ p = 54 ∨ p = 58 ∨ p = 59) → A' p = A p) ∧ (ezt_ST c n (ezp_thS c t s) F') ∧ (ezt_TR 47 (ezp_thD c t s) F' A') ∧ none = v
theorem ezt_m70_1_47 {c : Int → Int} {n : Int} {s : Int × Int} {t : ezp_D} {F : Nat → Nat → Int} {A : Nat → Int → Int} (hS : ezs_T F A) (hd : 8 ≤ d) (hn : F 1 2 = n) (hc : c = ezp_ch (A 2) n) (tp : ezp_tp c n) (hw : ∀ j, 0 ≤ j → j < 48 → A 3 j = ezl_cw.getD j.toNat 0) (st : ezt_ST c n s F) (tr : ezt_TR 47 t F A) (hk : t.kH < 4) : ezw_C l ρ B xa Hb D cA 70 d [ezw_p 1, ezw_p 47] (ezu_g e F A) (ezt_m70_1_47Q e F A c n s t) := by
  refine ezw_met (k := 5) rfl rfl ?_
  have hn0 := tp.1
  have hn1 := tp.2.1
  obtain ⟨sf, sk, sc, sb, sb2⟩ := id st
  have hP := ezp_Pr tp s.2
  have c3i : s.1 = 0 → F 1 3 = ezp_K c s.2 := fun z => (sc z).2.2.1
  have c8i : s.1 = 0 → F 1 8 = ezp_P c s.2 := fun z => (sc z).1
  have c4i : s.1 = 0 → ezp_K c s.2 = 101 → F 1 4 = ezp_V c s.2 := fun z => (sc z).2.2.2.1
  have c7i : s.1 = 0 → ezp_K c s.2 = 100 → F 1 7 = ezp_v 32 (ezp_W c s.2) ∧ F 1 5 = ezp_ix (ezp_W c s.2) - 44 := fun z => (sc z).2.2.2.2
  have nt : ezt_NM 47 15 57 t.nT F A := ezt_TR_nt tr
  have nh : ezt_NM 47 16 58 t.nH F A := ezt_TR_nh tr
  have tw := ezt_TR_tn tr
  have trk := tr.2.1
  refine ezw_aload_n rfl rfl ?_
  refine ezw_aload_n rfl rfl ?_
  refine ezw_call2_2 rfl (by omega) rfl rfl (ezt_m52_1_47 hS (by omega) hn hc tp hw st nt nh tw) ?_
  rintro _ _ ⟨F1, rfl, hS, nF1, u2, hu2, st_1, v_1, rfl⟩
  refine ezw_lstore_n rfl rfl ?_
  refine ezw_aload_n rfl rfl ?_
  refine ezw_bipush (7) rfl rfl ?_
  refine ezw_call0_1 rfl (by omega) (ezu_at rfl) rfl rfl rfl rfl (ezt_m56_1 hS (by omega) ⟨by decide, by decide⟩ (by rw [nF1 1 2 (by decide)]; exact hn) hc tp hw st_1) ?_
  rintro _ _ ⟨F3, rfl, hS, nF3, st_3, rfl⟩
  refine ezw_aload_n rfl rfl ?_
  refine ezw_iconst (0) rfl rfl ?_
  refine ezw_sipush (999) rfl rfl ?_
  refine ezw_call0_2 rfl (by omega) (ezu_at rfl) rfl rfl rfl rfl (ezt_m57_1 hS (by omega) ⟨by decide, by decide⟩ ⟨by decide, by decide⟩ (by rw [nF3 1 2 (by decide), nF1 1 2 (by decide)]; exact hn) hc tp hw st_3) ?_
  rintro _ _ ⟨F4, rfl, hS, nF4, u5, hu5, st_4, v_4, p4_2, rfl⟩
  refine ezw_istore rfl rfl ?_
  refine ezw_aload_n rfl rfl ?_
  refine ezw_bipush (10) rfl rfl ?_
  refine ezw_call0_1 rfl (by omega) (ezu_at rfl) rfl rfl rfl rfl (ezt_m56_1 hS (by omega) ⟨by decide, by decide⟩ (by rw [nF4 1 2 (by decide), nF3 1 2 (by decide), nF1 1 2 (by decide)]; exact hn) hc tp hw st_4) ?_
  rintro _ _ ⟨F6, rfl, hS, nF6, st_6, rfl⟩
  refine ezw_aload_n rfl rfl ?_
  refine ezw_iconst (0) rfl rfl ?_
  refine ezw_bipush (10) rfl rfl ?_
  refine ezw_call0_2 rfl (by omega) (ezu_at rfl) rfl rfl rfl rfl (ezt_m57_1 hS (by omega) ⟨by decide, by decide⟩ ⟨by decide, by decide⟩ (by rw [nF6 1 2 (by decide), nF4 1 2 (by decide), nF3 1 2 (by decide), nF1 1 2 (by decide)]; exact hn) hc tp hw st_6) ?_
  rintro _ _ ⟨F7, rfl, hS, nF7, u8, hu8, st_7, v_7, p7_2, rfl⟩
  refine ezw_istore rfl rfl ?_
  refine ezw_aload_n rfl rfl ?_
  refine ezw_bipush (11) rfl rfl ?_
  refine ezw_call0_1 rfl (by omega) (ezu_at rfl) rfl rfl rfl rfl (ezt_m56_1 hS (by omega) ⟨by decide, by decide⟩ (by rw [nF7 1 2 (by decide), nF6 1 2 (by decide), nF4 1 2 (by decide), nF3 1 2 (by decide), nF1 1 2 (by decide)]; exact hn) hc tp hw st_7) ?_
  rintro _ _ ⟨F9, rfl, hS, nF9, st_9, rfl⟩
  refine ezw_aload_n rfl rfl ?_
  refine ezw_iconst (0) rfl rfl ?_
  refine ezw_bipush (10) rfl rfl ?_
  refine ezw_iload rfl rfl ?_
  refine ezw_isub (k := -u8 + 10) rfl (by omega) ?_
  refine ezw_call0_2 rfl (by omega) (ezu_at rfl) rfl rfl rfl rfl (ezt_m57_1 hS (by omega) ⟨by decide, by decide⟩ ⟨by omega, by omega⟩ (by rw [nF9 1 2 (by decide), nF7 1 2 (by decide), nF6 1 2 (by decide), nF4 1 2 (by decide), nF3 1 2 (by decide), nF1 1 2 (by decide)]; exact hn) hc tp hw st_9) ?_
  rintro _ _ ⟨F10, rfl, hS, nF10, u11, hu11, st_10, v_10, p10_2, rfl⟩
  refine ezw_istore rfl rfl ?_
  refine ezw_aload_n rfl rfl ?_
  refine ezw_call0_0 rfl (by omega) (ezu_at rfl) rfl rfl rfl rfl (ezt_m45_1 hS (by omega)) ?_
  rintro _ _ ⟨rfl, u13, hu13, p12_0, p12_1, rfl⟩
  refine ezw_if_eq rfl rfl ⟨by omega, by omega⟩ (fun h59_13 => ?_) (fun h59_13 => ?_)
  · exact ezw_return rfl rfl ⟨F10, A, rfl, hS, (fun p j h => by rw [nF10 p j (by omega), nF9 p j (by omega), nF7 p j (by omega), nF6 p j (by omega), nF4 p j (by omega), nF3 p j (by omega), nF1 p j (by omega)]), (fun _ _ => rfl), (by
          rw [← (show ezp_n c 0 (-u8 + 10) (ezp_th6 c t s) = ezp_thS c t s from ezp_n_c (fun z => (by have h0 : u8 = ezp_V c (ezp_th4 c t s).2 := (v_7 (ezp_0w z)).1; omega)))]
          exact st_10), (by
          rw [ezp_thD_n (c := c) (t := t) (s := s) (by rw [← (show ezp_n c 0 (-u8 + 10) (ezp_th6 c t s) = ezp_thS c t s from ezp_n_c (fun z => (by have h0 : u8 = ezp_V c (ezp_th4 c t s).2 := (v_7 (ezp_0w z)).1; omega)))]; exact (fun h9 => p12_1 (by omega) (st_10.1.trans h9)))]
          exact (ezt_TR_fr tr (by rw [nF10 47 15 (by decide), nF9 47 15 (by decide), nF7 47 15 (by decide), nF6 47 15 (by decide), nF4 47 15 (by decide), nF3 47 15 (by decide), nF1 47 15 (by decide)]) (by rw [nF10 47 16 (by decide), nF9 47 16 (by decide), nF7 47 16 (by decide), nF6 47 16 (by decide), nF4 47 16 (by decide), nF3 47 16 (by decide), nF1 47 16 (by decide)]) (by rw [nF10 47 17 (by decide), nF9 47 17 (by decide), nF7 47 17 (by decide), nF6 47 17 (by decide), nF4 47 17 (by decide), nF3 47 17 (by decide), nF1 47 17 (by decide)]) (by rw [nF10 55 1 (by decide), nF9 55 1 (by decide), nF7 55 1 (by decide), nF6 55 1 (by decide), nF4 55 1 (by decide), nF3 55 1 (by decide), nF1 55 1 (by decide)]) (fun _ _ _ => rfl))), rfl⟩
  · have z7 := st_10.1.symm.trans (p12_0 (by omega))
    have z6 := ezp_0n z7
    have z5 := ezp_0w z6
    have z4 := ezp_0n z5
    have z3 := ezp_0w z4
    have z2 := ezp_0n z3
    have z1 := ezp_0w z2
    have vn := v_1 z1
    refine ezw_aload_n rfl rfl ?_
    refine ezw_lload_n rfl rfl ?_
    refine ezw_iload rfl rfl ?_
    refine ezw_iload rfl rfl ?_
    refine ezw_iload rfl rfl ?_
    refine ezw_call0_4 rfl (by omega) (ezu_at rfl) rfl rfl rfl rfl (ezt_m71_47 (t := t) (wl := ezp_W c s.2) hS (by omega) hu2 hu5 hu8 hu11 (ezt_TR_fr tr (by rw [nF10 47 15 (by decide), nF9 47 15 (by decide), nF7 47 15 (by decide), nF6 47 15 (by decide), nF4 47 15 (by decide), nF3 47 15 (by decide), nF1 47 15 (by decide)]) (by rw [nF10 47 16 (by decide), nF9 47 16 (by decide), nF7 47 16 (by decide), nF6 47 16 (by decide), nF4 47 16 (by decide), nF3 47 16 (by decide), nF1 47 16 (by decide)]) (by rw [nF10 47 17 (by decide), nF9 47 17 (by decide), nF7 47 17 (by decide), nF6 47 17 (by decide), nF4 47 17 (by decide), nF3 47 17 (by decide), nF1 47 17 (by decide)]) (by rw [nF10 55 1 (by decide), nF9 55 1 (by decide), nF7 55 1 (by decide), nF6 55 1 (by decide), nF4 55 1 (by decide), nF3 55 1 (by decide), nF1 55 1 (by decide)]) (fun _ _ _ => rfl)) hk (ezp_W_ok tp vn.2.2.1) vn.1) ?_
    rintro _ _ ⟨F14, A14, rfl, hS, nF14, nA14, tr_14, rfl⟩
    exact ezw_return rfl rfl ⟨F14, A14, rfl, hS, (fun p j h => by rw [nF14 p j (by omega), nF10 p j (by omega), nF9 p j (by omega), nF7 p j (by omega), nF6 p j (by omega), nF4 p j (by omega), nF3 p j (by omega), nF1 p j (by omega)]), (fun p h => by
          funext j
          rw [nA14 p (by omega)]), (by
          rw [← (show ezp_n c 0 (-u8 + 10) (ezp_th6 c t s) = ezp_thS c t s from ezp_n_c (fun z => (by have h0 : u8 = ezp_V c (ezp_th4 c t s).2 := (v_7 (ezp_0w z)).1; omega)))]
          exact (ezt_ST_fr st_10 (fun j j0 j1 => by rw [nF14 1 j (by omega)]))), (by
          have h7 := tr_14
          have h8 := z7
          have h9 := (v_10 z7).1
          rw [(v_10 z7).1, (v_4 z3).1, (v_7 z5).1] at h7
          rw [ezp_thD_1 (c := c) (t := t) (s := s) (by rw [← (show ezp_n c 0 (-u8 + 10) (ezp_th6 c t s) = ezp_thS c t s from ezp_n_c (fun z => (by have h0 : u8 = ezp_V c (ezp_th4 c t s).2 := (v_7 (ezp_0w z)).1; omega)))]; exact h8)]
          exact h7), rfl⟩
def ezt_m72_1_47Q (e : Bool × Bool) (F : Nat → Nat → Int) (A : Nat → Int → Int) (c : Int → Int) (n : Int) (s : Int × Int) (t : ezp_D) : Option ezq_V → (Nat → ezq_C) → Prop := fun v g' => ∃ (F' : Nat → Nat → Int) (A' : Nat → Int → Int), ezu_g e F' A' = g' ∧ ezs_T F' A' ∧ (∀ p j, ¬ (p = 1 ∧ (j = 3 ∨ j = 4 ∨ j = 5 ∨ j = 6 ∨ j = 7 ∨ j = 8 ∨ j = 9)) → F' p j = F p j) ∧ (∀ p, ¬ (p = 59) → A' p = A p) ∧ (ezt_ST c n (ezp_ovS c t s) F') ∧ (ezt_TR 47 (ezp_ovD c t s) F' A') ∧ none = v
theorem ezt_m72_1_47 {c : Int → Int} {n : Int} {s : Int × Int} {t : ezp_D} {F : Nat → Nat → Int} {A : Nat → Int → Int} (hS : ezs_T F A) (hd : 8 ≤ d) (hn : F 1 2 = n) (hc : c = ezp_ch (A 2) n) (tp : ezp_tp c n) (hw : ∀ j, 0 ≤ j → j < 48 → A 3 j = ezl_cw.getD j.toNat 0) (st : ezt_ST c n s F) (tr : ezt_TR 47 t F A) : ezw_C l ρ B xa Hb D cA 72 d [ezw_p 1, ezw_p 47] (ezu_g e F A) (ezt_m72_1_47Q e F A c n s t) := by
  refine ezw_met (k := 2) rfl rfl ?_
  have hn0 := tp.1
  have hn1 := tp.2.1
  obtain ⟨sf, sk, sc, sb, sb2⟩ := id st
  have hP := ezp_Pr tp s.2
  have c3i : s.1 = 0 → F 1 3 = ezp_K c s.2 := fun z => (sc z).2.2.1
  have c8i : s.1 = 0 → F 1 8 = ezp_P c s.2 := fun z => (sc z).1
  have c4i : s.1 = 0 → ezp_K c s.2 = 101 → F 1 4 = ezp_V c s.2 := fun z => (sc z).2.2.2.1
  have c7i : s.1 = 0 → ezp_K c s.2 = 100 → F 1 7 = ezp_v 32 (ezp_W c s.2) ∧ F 1 5 = ezp_ix (ezp_W c s.2) - 44 := fun z => (sc z).2.2.2.2
  have nt : ezt_NM 47 15 57 t.nT F A := ezt_TR_nt tr
  have nh : ezt_NM 47 16 58 t.nH F A := ezt_TR_nh tr
  have tw := ezt_TR_tn tr
  have trk := tr.2.1
  refine ezw_aload_n rfl rfl ?_
  refine ezw_aload_n rfl rfl ?_
  refine ezw_iconst (1) rfl rfl ?_
  refine ezw_call0_2 rfl (by omega) (ezu_at rfl) rfl rfl rfl rfl (ezt_m61_1_47_v1 hS (by omega) hn hc tp hw st nt nh tw) ?_
  rintro _ _ ⟨F1, rfl, hS, nF1, u2, hu2, st_1, v_1, p1_2, rfl⟩
  refine ezw_istore_n rfl rfl ?_
  refine ezw_aload_n rfl rfl ?_
  refine ezw_call0_0 rfl (by omega) (ezu_at rfl) rfl rfl rfl rfl (ezt_m45_1 hS (by omega)) ?_
  rintro _ _ ⟨rfl, u4, hu4, p3_0, p3_1, rfl⟩
  refine ezw_if_ne rfl rfl ⟨by omega, by omega⟩ (fun h11_4 => ?_) (fun h11_4 => ?_)
  · refine ezw_aload_n rfl rfl ?_
    refine ezw_aload_n rfl rfl ?_
    refine ezw_iconst (1) rfl rfl ?_
    refine ezw_call0_2 rfl (by omega) (ezu_at rfl) rfl rfl rfl rfl (ezt_m62_1_47_v1 hS (by omega) (by rw [nF1 1 2 (by decide)]; exact hn) hc tp st_1 (ezt_NM_fr nt (by rw [nF1 47 15 (by decide)]) rfl) (ezt_NM_fr nh (by rw [nF1 47 16 (by decide)]) rfl) (by rw [nF1 47 15 (by decide), nF1 47 16 (by decide)]; exact tw)) ?_
    rintro _ _ ⟨F5, rfl, hS, nF5, u6, hu6, st_5, v_5, p5_2, rfl⟩
    refine ezw_istore_n rfl rfl ?_
    refine ezw_aload_n rfl rfl ?_
    refine ezw_call0_0 rfl (by omega) (ezu_at rfl) rfl rfl rfl rfl (ezt_m45_1 hS (by omega)) ?_
    rintro _ _ ⟨rfl, u8, hu8, p7_0, p7_1, rfl⟩
    refine ezw_if_ne rfl rfl ⟨by omega, by omega⟩ (fun h26_8 => ?_) (fun h26_8 => ?_)
    · have z2 := st_5.1.symm.trans (p7_0 (by omega))
      have z1 := ezp_0se z2
      have va := v_1 z1
      have vb := v_5 z2
      have ea : u2 = ezp_ova c t s := va.1
      have eb : u6 = ezp_ovb c t s := vb.1
      refine ezw_iload_n rfl rfl ?_
      refine ezw_iload_n rfl rfl ?_
      refine ezw_icmp_eq rfl rfl hu2 hu6 (fun h32_8 => ?_) (fun h32_8 => ?_)
      · refine ezw_aload_n rfl rfl ?_
        refine ezw_iconst (3) rfl rfl ?_
        refine ezw_call0_1 rfl (by omega) (ezu_at rfl) rfl rfl rfl rfl (ezt_m50_1 hS (by omega) ⟨by decide, by decide⟩ (by rw [nF5 1 2 (by decide), nF1 1 2 (by decide)]; exact hn) hc tp st_5 (by omega)) ?_
        rintro _ _ ⟨F9, rfl, hS, nF9, st_9, rfl⟩
        refine ezw_goto rfl rfl ?_
        exact ezw_return rfl rfl ⟨F9, A, rfl, hS, (fun p j h => by rw [nF9 p j (by omega), nF5 p j (by omega), nF1 p j (by omega)]), (fun _ _ => rfl), (by
              rw [(ezp_ov_1 (c := c) (t := t) (s := s) z2 (by rw [← ea, ← eb]; exact Or.inl (by omega))).1]
              exact st_9), (by
              rw [(ezp_ov_1 (c := c) (t := t) (s := s) z2 (by rw [← ea, ← eb]; exact Or.inl (by omega))).2]
              exact (ezt_TR_fr tr (by rw [nF9 47 15 (by decide), nF5 47 15 (by decide), nF1 47 15 (by decide)]) (by rw [nF9 47 16 (by decide), nF5 47 16 (by decide), nF1 47 16 (by decide)]) (by rw [nF9 47 17 (by decide), nF5 47 17 (by decide), nF1 47 17 (by decide)]) (by rw [nF9 55 1 (by decide), nF5 55 1 (by decide), nF1 55 1 (by decide)]) (fun _ _ _ => rfl))), rfl⟩
      · refine ezw_aload_n rfl rfl ?_
        refine ezw_iload_n rfl rfl ?_
        refine ezw_iload_n rfl rfl ?_
        refine ezw_call0_2 rfl (by omega) (ezu_at rfl) rfl rfl rfl rfl (ezt_m73_47 hS (by omega) hu2 hu6 (ezt_TR_fr tr (by rw [nF5 47 15 (by decide), nF1 47 15 (by decide)]) (by rw [nF5 47 16 (by decide), nF1 47 16 (by decide)]) (by rw [nF5 47 17 (by decide), nF1 47 17 (by decide)]) (by rw [nF5 55 1 (by decide), nF1 55 1 (by decide)]) (fun _ _ _ => rfl)) (by omega)) ?_
        rintro _ _ ⟨rfl, u11, hu11, p10_0, p10_1, rfl⟩
        refine ezw_if_eq rfl rfl ⟨by omega, by omega⟩ (fun h41_11 => ?_) (fun h41_11 => ?_)
        · refine ezw_aload_n rfl rfl ?_
          refine ezw_iload_n rfl rfl ?_
          refine ezw_iload_n rfl rfl ?_
          refine ezw_call0_2 rfl (by omega) (ezu_at rfl) rfl rfl rfl rfl (ezt_m74_47 hS (by omega) hu2 hu6 (ezt_TR_fr tr (by rw [nF5 47 15 (by decide), nF1 47 15 (by decide)]) (by rw [nF5 47 16 (by decide), nF1 47 16 (by decide)]) (by rw [nF5 47 17 (by decide), nF1 47 17 (by decide)]) (by rw [nF5 55 1 (by decide), nF1 55 1 (by decide)]) (fun _ _ _ => rfl)) (by omega)) ?_
          rintro _ _ ⟨A12, rfl, hS, nA12, tr_12, rfl⟩
          refine ezw_aload_n rfl rfl ?_
          refine ezw_call0_0 rfl (by omega) (ezu_at rfl) rfl rfl rfl rfl (ezt_take hS (by omega) (by rw [nF5 1 2 (by decide), nF1 1 2 (by decide)]; exact hn) (by rw [nA12 2 (by decide)]; exact hc) tp (by rw [nA12 3 (by decide)]; exact hw) st_5) ?_
          rintro _ _ ⟨F13, rfl, hS, nF13, st_13, rfl⟩
          exact ezw_return rfl rfl ⟨F13, A12, rfl, hS, (fun p j h => by rw [nF13 p j (by omega), nF5 p j (by omega), nF1 p j (by omega)]), (fun p h => by
                funext j
                rw [nA12 p (by omega)]), (by
                rw [(ezp_ov_0 (c := c) (t := t) (s := s) z2 (by rw [← ea, ← eb]; exact ⟨by omega, p10_1 (by omega)⟩)).1]
                exact st_13), (by
                rw [(ezp_ov_0 (c := c) (t := t) (s := s) z2 (by rw [← ea, ← eb]; exact ⟨by omega, p10_1 (by omega)⟩)).2, ← ea, ← eb]
                exact (ezt_TR_fr tr_12 (by rw [nF13 47 15 (by decide)]) (by rw [nF13 47 16 (by decide)]) (by rw [nF13 47 17 (by decide)]) (by rw [nF13 55 1 (by decide)]) (fun _ _ _ => rfl))), rfl⟩
        · refine ezw_aload_n rfl rfl ?_
          refine ezw_iconst (3) rfl rfl ?_
          refine ezw_call0_1 rfl (by omega) (ezu_at rfl) rfl rfl rfl rfl (ezt_m50_1 hS (by omega) ⟨by decide, by decide⟩ (by rw [nF5 1 2 (by decide), nF1 1 2 (by decide)]; exact hn) hc tp st_5 (by omega)) ?_
          rintro _ _ ⟨F14, rfl, hS, nF14, st_14, rfl⟩
          refine ezw_goto rfl rfl ?_
          exact ezw_return rfl rfl ⟨F14, A, rfl, hS, (fun p j h => by rw [nF14 p j (by omega), nF5 p j (by omega), nF1 p j (by omega)]), (fun _ _ => rfl), (by
                rw [(ezp_ov_1 (c := c) (t := t) (s := s) z2 (by rw [← ea, ← eb]; exact Or.inr (p10_0 (by omega)))).1]
                exact st_14), (by
                rw [(ezp_ov_1 (c := c) (t := t) (s := s) z2 (by rw [← ea, ← eb]; exact Or.inr (p10_0 (by omega)))).2]
                exact (ezt_TR_fr tr (by rw [nF14 47 15 (by decide), nF5 47 15 (by decide), nF1 47 15 (by decide)]) (by rw [nF14 47 16 (by decide), nF5 47 16 (by decide), nF1 47 16 (by decide)]) (by rw [nF14 47 17 (by decide), nF5 47 17 (by decide), nF1 47 17 (by decide)]) (by rw [nF14 55 1 (by decide), nF5 55 1 (by decide), nF1 55 1 (by decide)]) (fun _ _ _ => rfl))), rfl⟩
    · exact ezw_return rfl rfl ⟨F5, A, rfl, hS, (fun p j h => by rw [nF5 p j (by omega), nF1 p j (by omega)]), (fun _ _ => rfl), (by
            rw [(ezp_ov_n2 (c := c) (t := t) (s := s) (fun h9 => p7_1 (by omega) (st_5.1.trans h9))).1]
            exact st_5), (by
            rw [(ezp_ov_n2 (c := c) (t := t) (s := s) (fun h9 => p7_1 (by omega) (st_5.1.trans h9))).2]
            exact (ezt_TR_fr tr (by rw [nF5 47 15 (by decide), nF1 47 15 (by decide)]) (by rw [nF5 47 16 (by decide), nF1 47 16 (by decide)]) (by rw [nF5 47 17 (by decide), nF1 47 17 (by decide)]) (by rw [nF5 55 1 (by decide), nF1 55 1 (by decide)]) (fun _ _ _ => rfl))), rfl⟩
  · exact ezw_return rfl rfl ⟨F1, A, rfl, hS, (fun p j h => by rw [nF1 p j (by omega)]), (fun _ _ => rfl), (by
          rw [(ezp_ov_n1 (c := c) (t := t) (s := s) (fun h9 => p3_1 (by omega) (st_1.1.trans h9))).1]
          exact st_1), (by
          rw [(ezp_ov_n1 (c := c) (t := t) (s := s) (fun h9 => p3_1 (by omega) (st_1.1.trans h9))).2]
          exact (ezt_TR_fr tr (by rw [nF1 47 15 (by decide)]) (by rw [nF1 47 16 (by decide)]) (by rw [nF1 47 17 (by decide)]) (by rw [nF1 55 1 (by decide)]) (fun _ _ _ => rfl))), rfl⟩
def ezt_m77_1_47Q (e : Bool × Bool) (F : Nat → Nat → Int) (A : Nat → Int → Int) (c : Int → Int) (n : Int) (s : Int × Int) (t : ezp_D) : Option ezq_V → (Nat → ezq_C) → Prop := fun v g' => ∃ (F' : Nat → Nat → Int) (A' : Nat → Int → Int), ezu_g e F' A' = g' ∧ ezs_T F' A' ∧ (∀ p j, ¬ (p = 1 ∧ (j = 3 ∨ j = 4 ∨ j = 5 ∨ j = 6 ∨ j = 7 ∨ j = 8 ∨ j = 9) ∨ p = 55 ∧ (j = 1)) → F' p j = F p j) ∧ (∀ p, ¬ (p = 56) → A' p = A p) ∧ (ezt_ST c n (ezp_elS c t s) F') ∧ (ezt_TR 47 (ezp_elD c t s) F' A') ∧ none = v
theorem ezt_m77_1_47 {c : Int → Int} {n : Int} {s : Int × Int} {t : ezp_D} {F : Nat → Nat → Int} {A : Nat → Int → Int} (hS : ezs_T F A) (hd : 8 ≤ d) (hn : F 1 2 = n) (hc : c = ezp_ch (A 2) n) (tp : ezp_tp c n) (hw : ∀ j, 0 ≤ j → j < 48 → A 3 j = ezl_cw.getD j.toNat 0) (st : ezt_ST c n s F) (tr : ezt_TR 47 t F A) (hk : t.kE < 8) : ezw_C l ρ B xa Hb D cA 77 d [ezw_p 1, ezw_p 47] (ezu_g e F A) (ezt_m77_1_47Q e F A c n s t) := by
  refine ezw_met (k := 2) rfl rfl ?_
  have hn0 := tp.1
  have hn1 := tp.2.1
  obtain ⟨sf, sk, sc, sb, sb2⟩ := id st
  have hP := ezp_Pr tp s.2
  have c3i : s.1 = 0 → F 1 3 = ezp_K c s.2 := fun z => (sc z).2.2.1
  have c8i : s.1 = 0 → F 1 8 = ezp_P c s.2 := fun z => (sc z).1
  have c4i : s.1 = 0 → ezp_K c s.2 = 101 → F 1 4 = ezp_V c s.2 := fun z => (sc z).2.2.2.1
  have c7i : s.1 = 0 → ezp_K c s.2 = 100 → F 1 7 = ezp_v 32 (ezp_W c s.2) ∧ F 1 5 = ezp_ix (ezp_W c s.2) - 44 := fun z => (sc z).2.2.2.2
  have nt : ezt_NM 47 15 57 t.nT F A := ezt_TR_nt tr
  have nh : ezt_NM 47 16 58 t.nH F A := ezt_TR_nh tr
  have tw := ezt_TR_tn tr
  have trk := tr.2.1
  refine ezw_aload_n rfl rfl ?_
  refine ezw_iconst (0) rfl rfl ?_
  refine ezw_bipush (15) rfl rfl ?_
  refine ezw_call0_2 rfl (by omega) (ezu_at rfl) rfl rfl rfl rfl (ezt_m57_1 hS (by omega) ⟨by decide, by decide⟩ ⟨by decide, by decide⟩ hn hc tp hw st) ?_
  rintro _ _ ⟨F1, rfl, hS, nF1, u2, hu2, st_1, v_1, p1_2, rfl⟩
  refine ezw_istore_n rfl rfl ?_
  refine ezw_aload_n rfl rfl ?_
  refine ezw_iconst (0) rfl rfl ?_
  refine ezw_bipush (15) rfl rfl ?_
  refine ezw_call0_2 rfl (by omega) (ezu_at rfl) rfl rfl rfl rfl (ezt_m58_1 hS (by omega) ⟨by decide, by decide⟩ ⟨by decide, by decide⟩ (by rw [nF1 1 2 (by decide)]; exact hn) hc tp st_1) ?_
  rintro _ _ ⟨F3, rfl, hS, nF3, u4, hu4, st_3, v_3, p3_2, rfl⟩
  refine ezw_istore_n rfl rfl ?_
  refine ezw_aload_n rfl rfl ?_
  refine ezw_call0_0 rfl (by omega) (ezu_at rfl) rfl rfl rfl rfl (ezt_m45_1 hS (by omega)) ?_
  rintro _ _ ⟨rfl, u6, hu6, p5_0, p5_1, rfl⟩
  refine ezw_if_ne rfl rfl ⟨by omega, by omega⟩ (fun h20_6 => ?_) (fun h20_6 => ?_)
  · have z2 := st_3.1.symm.trans (p5_0 (by omega))
    have z1 := ezp_0sn z2
    have va := v_1 z1
    have vb := v_3 z2
    have ea : u2 = ezp_V c s.2 := va.1
    have eb : u4 = ezp_V c (ezp_n c 0 15 s).2 := vb.1
    refine ezw_aload_n rfl rfl ?_
    refine ezs_getp (p := 55) rfl rfl rfl rfl rfl ?_
    refine ezw_iload_n rfl rfl ?_
    refine ezw_iload_n rfl rfl ?_
    refine ezw_call0_2 rfl (by omega) (ezu_at rfl) rfl rfl rfl rfl (ezt_m78_55 hS (by omega) hu2 hu4 (ezt_TR_fr tr (by rw [nF3 47 15 (by decide), nF1 47 15 (by decide)]) (by rw [nF3 47 16 (by decide), nF1 47 16 (by decide)]) (by rw [nF3 47 17 (by decide), nF1 47 17 (by decide)]) (by rw [nF3 55 1 (by decide), nF1 55 1 (by decide)]) (fun _ _ _ => rfl)) (by omega)) ?_
    rintro _ _ ⟨rfl, u8, hu8, p7_0, p7_1, rfl⟩
    refine ezw_if_eq rfl rfl ⟨by omega, by omega⟩ (fun h33_8 => ?_) (fun h33_8 => ?_)
    · refine ezw_aload_n rfl rfl ?_
      refine ezs_getp (p := 55) rfl rfl rfl rfl rfl ?_
      refine ezw_iload_n rfl rfl ?_
      refine ezw_iload_n rfl rfl ?_
      refine ezw_call0_2 rfl (by omega) (ezu_at rfl) rfl rfl rfl rfl (ezt_m79_55 hS (by omega) hu2 hu4 (ezt_TR_fr tr (by rw [nF3 47 15 (by decide), nF1 47 15 (by decide)]) (by rw [nF3 47 16 (by decide), nF1 47 16 (by decide)]) (by rw [nF3 47 17 (by decide), nF1 47 17 (by decide)]) (by rw [nF3 55 1 (by decide), nF1 55 1 (by decide)]) (fun _ _ _ => rfl)) (by omega) (by omega)) ?_
      rintro _ _ ⟨F9, A9, rfl, hS, nF9, nA9, tr_9, rfl⟩
      refine ezw_aload_n rfl rfl ?_
      refine ezw_call0_0 rfl (by omega) (ezu_at rfl) rfl rfl rfl rfl (ezt_take hS (by omega) (by rw [nF9 1 2 (by decide), nF3 1 2 (by decide), nF1 1 2 (by decide)]; exact hn) (by rw [nA9 2 (by decide)]; exact hc) tp (by rw [nA9 3 (by decide)]; exact hw) (ezt_ST_fr st_3 (fun j j0 j1 => by rw [nF9 1 j (by omega)]))) ?_
      rintro _ _ ⟨F10, rfl, hS, nF10, st_10, rfl⟩
      exact ezw_return rfl rfl ⟨F10, A9, rfl, hS, (fun p j h => by rw [nF10 p j (by omega), nF9 p j (by omega), nF3 p j (by omega), nF1 p j (by omega)]), (fun p h => by
            funext j
            rw [nA9 p (by omega)]), (by
            rw [(ezp_el_0 (c := c) (t := t) (s := s) z2 (by rw [← ea, ← eb]; exact p7_1 (by omega))).1]
            exact st_10), (by
            rw [(ezp_el_0 (c := c) (t := t) (s := s) z2 (by rw [← ea, ← eb]; exact p7_1 (by omega))).2, ← ea, ← eb]
            exact (ezt_TR_fr tr_9 (by rw [nF10 47 15 (by decide)]) (by rw [nF10 47 16 (by decide)]) (by rw [nF10 47 17 (by decide)]) (by rw [nF10 55 1 (by decide)]) (fun _ _ _ => rfl))), rfl⟩
    · refine ezw_aload_n rfl rfl ?_
      refine ezw_iconst (3) rfl rfl ?_
      refine ezw_call0_1 rfl (by omega) (ezu_at rfl) rfl rfl rfl rfl (ezt_m50_1 hS (by omega) ⟨by decide, by decide⟩ (by rw [nF3 1 2 (by decide), nF1 1 2 (by decide)]; exact hn) hc tp st_3 (by omega)) ?_
      rintro _ _ ⟨F11, rfl, hS, nF11, st_11, rfl⟩
      refine ezw_goto rfl rfl ?_
      exact ezw_return rfl rfl ⟨F11, A, rfl, hS, (fun p j h => by rw [nF11 p j (by omega), nF3 p j (by omega), nF1 p j (by omega)]), (fun _ _ => rfl), (by
            rw [(ezp_el_1 (c := c) (t := t) (s := s) z2 (by rw [← ea, ← eb]; exact p7_0 (by omega))).1]
            exact st_11), (by
            rw [(ezp_el_1 (c := c) (t := t) (s := s) z2 (by rw [← ea, ← eb]; exact p7_0 (by omega))).2]
            exact (ezt_TR_fr tr (by rw [nF11 47 15 (by decide), nF3 47 15 (by decide), nF1 47 15 (by decide)]) (by rw [nF11 47 16 (by decide), nF3 47 16 (by decide), nF1 47 16 (by decide)]) (by rw [nF11 47 17 (by decide), nF3 47 17 (by decide), nF1 47 17 (by decide)]) (by rw [nF11 55 1 (by decide), nF3 55 1 (by decide), nF1 55 1 (by decide)]) (fun _ _ _ => rfl))), rfl⟩
  · exact ezw_return rfl rfl ⟨F3, A, rfl, hS, (fun p j h => by rw [nF3 p j (by omega), nF1 p j (by omega)]), (fun _ _ => rfl), (by
          rw [(ezp_el_n (c := c) (t := t) (s := s) (fun h9 => p5_1 (by omega) (st_3.1.trans h9))).1]
          exact st_3), (by
          rw [(ezp_el_n (c := c) (t := t) (s := s) (fun h9 => p5_1 (by omega) (st_3.1.trans h9))).2]
          exact (ezt_TR_fr tr (by rw [nF3 47 15 (by decide), nF1 47 15 (by decide)]) (by rw [nF3 47 16 (by decide), nF1 47 16 (by decide)]) (by rw [nF3 47 17 (by decide), nF1 47 17 (by decide)]) (by rw [nF3 55 1 (by decide), nF1 55 1 (by decide)]) (fun _ _ _ => rfl))), rfl⟩
end KT
