/-! ===== the program: names ===== -/
section KT
variable {l : Launch} {ρ : ezq_E} {B : Nat} {xa : Nat → Option Nat} {Hb : Heap} {D : va_G} {cA : Nat → ClassId} {d : Nat} {e : Bool × Bool}
def ezt_m54_40Q (e : Bool × Bool) (F : Nat → Nat → Int) (A : Nat → Int → Int) (a1 : Int) : Option ezq_V → (Nat → ezq_C) → Prop := fun v g' => ezu_g e F A = g' ∧ ∃ u : Int, (ezw_il u) ∧ (0 ≤ a1 → a1 < 8 → u = A 40 a1) ∧ some (ezw_l u) = v
theorem ezt_m54_40 {a1 : Int} {F : Nat → Nat → Int} {A : Nat → Int → Int} (hS : ezs_T F A) (hd : 0 ≤ d) (ha1 : ezw_in a1) : ezw_C l ρ B xa Hb D cA 54 d [ezw_p 40, ezw_i a1] (ezu_g e F A) (ezt_m54_40Q e F A a1) := by
  refine ezw_met (k := 0) rfl rfl ?_
  refine ezw_aload_n rfl rfl ?_
  refine ezw_ifnull rfl ?_
  refine ezw_iload_n rfl rfl ?_
  refine ezw_if_lt rfl rfl ha1 (fun h5_0 => ?_) (fun h5_0 => ?_)
  · refine ezw_lconst (0) rfl rfl ?_
    exact ezw_lreturn rfl rfl ⟨rfl, (0), ⟨by decide, by decide⟩, by omega, rfl⟩
  · refine ezw_iload_n rfl rfl ?_
    refine ezw_aload_n rfl rfl ?_
    refine ezs_alen (k := 8) rfl rfl rfl rfl (by decide) (by decide) ?_
    refine ezw_icmp_ge rfl rfl ha1 ⟨by decide, by decide⟩ (fun h11_0 => ?_) (fun h11_0 => ?_)
    · refine ezw_lconst (0) rfl rfl ?_
      exact ezw_lreturn rfl rfl ⟨rfl, (0), ⟨by decide, by decide⟩, by omega, rfl⟩
    · refine ezw_aload_n rfl rfl ?_
      refine ezw_iload_n rfl rfl ?_
      refine ezy_laload hS rfl rfl rfl (by omega) (by omega) (by decide) (fun u1 hu1 eu1 => ?_)
      refine ezw_goto rfl rfl ?_
      exact ezw_lreturn rfl rfl ⟨rfl, u1, hu1, by omega, rfl⟩
def ezt_m53_30Q (e : Bool × Bool) (F : Nat → Nat → Int) (A : Nat → Int → Int) (nm : Int → List Int) (a1 : Int) : Option ezq_V → (Nat → ezq_C) → Prop := fun v g' => ezu_g e F A = g' ∧ ∃ u : Int, (ezw_in u) ∧ (u = -1 ∨ 0 ≤ u ∧ u < F 30 15) ∧ (∀ l, ezp_ok l → a1 = ezp_v 32 l → u = ezp_fi nm (F 30 15) l) ∧ some (ezw_i u) = v
theorem ezt_m53_30 {nm : Int → List Int} {a1 : Int} {F : Nat → Nat → Int} {A : Nat → Int → Int} (hS : ezs_T F A) (hd : 1 ≤ d) (ha1 : ezw_il a1) (nt : ezt_NM 30 15 40 nm F A) (tw : F 30 15 ≤ 8) : ezw_C l ρ B xa Hb D cA 53 d [ezw_p 30, ezw_l a1] (ezu_g e F A) (ezt_m53_30Q e F A nm a1) := by
  refine ezw_met (k := 1) rfl rfl ?_
  refine ezw_iconst (0) rfl rfl ?_
  refine ezw_istore_n rfl rfl ?_
  have L2_2 : ∀ c1 : Int, ezw_in c1 → ((0) ≤ c1) → (∀ i, 0 ≤ i → i < c1 → A 40 i ≠ a1) → ezw_E l ρ B xa Hb D cA d ezq_re53 (ezt_m53_30Q e F A nm a1) 2 [some (ezw_p 30), some (ezw_l a1), none, some (ezw_i c1)] [] (ezu_g e F A) := by
    refine ezs_up ?_
    intro c1 hc1 ihc1 g_2 no_2
    refine ezw_iload_n rfl rfl ?_
    refine ezw_aload_n rfl rfl ?_
    refine ezy_get_i hS rfl rfl rfl rfl rfl rfl (fun u3 hu3 ku3 eu3 => ?_)
    replace eu3 := eu3.symm
    subst eu3
    refine ezw_icmp_ge rfl rfl hc1 hu3 (fun h7_3 => ?_) (fun h7_3 => ?_)
    · refine ezw_iconst (-1) rfl rfl ?_
      exact ezw_ireturn rfl rfl ⟨rfl, (-1), ⟨by decide, by decide⟩, by omega, fun l hl ha => (ezp_fi_no nt.1 (fun j j0 j1 hj => no_2 j j0 (by omega) (by rw [(nt.2 j j0 j1).2, hj]; exact ha.symm))).symm, rfl⟩
    · refine ezw_aload_n rfl rfl ?_
      refine ezs_getp (p := 40) rfl rfl rfl rfl rfl ?_
      refine ezw_iload_n rfl rfl ?_
      refine ezw_call3_2 rfl (by omega) rfl rfl (ezt_m54_40 hS (by omega) hc1) ?_
      rintro _ _ ⟨rfl, u5, hu5, p4_0, rfl⟩
      refine ezw_lload_n rfl rfl ?_
      refine ezw_lcmpE rfl hu5 ha1 (fun u6 hu6 => ?_)
      refine ezw_if_ne rfl rfl ⟨by omega, by omega⟩ (fun h20_6 => ?_) (fun h20_6 => ?_)
      · refine ezw_iinc (k := c1 + 1) (1) rfl rfl rfl (by omega) rfl ?_
        refine ezw_goto rfl rfl ?_
        exact ezw_keepE [true, true, false, true] (ihc1 (c1 + 1) (by omega) ⟨by omega, by omega⟩ (by omega) (fun i i0 i1 => by
              by_cases hi : i = c1
              · subst hi
                omega
              · exact no_2 i i0 (by omega)))
      · refine ezw_iload_n rfl rfl ?_
        exact ezw_ireturn rfl rfl ⟨rfl, c1, hc1, by omega, fun l hl ha => (ezp_fi_eq nt.1 (by omega) (by omega) (ezp_vinj (Or.inl rfl) _ _ (nt.2 c1 (by omega) (by omega)).1 hl (by rw [← (nt.2 c1 (by omega) (by omega)).2]; omega)) (fun j j0 j1 hj => no_2 j j0 (by omega) (by rw [(nt.2 j j0 (by omega)).2, hj]; exact ha.symm))).symm, rfl⟩
  exact ezw_keepE [true, true, false, true] (L2_2 (0) ⟨by decide, by decide⟩ (by omega) (fun i i0 i1 => by omega))
def ezt_m62_1_30_v0Q (e : Bool × Bool) (F : Nat → Nat → Int) (A : Nat → Int → Int) (c : Int → Int) (n : Int) (s : Int × Int) (nT : Int → List Int) (nH : Int → List Int) (kT : Int) (kH : Int) : Option ezq_V → (Nat → ezq_C) → Prop := fun v g' => ∃ (F' : Nat → Nat → Int), ezu_g e F' A = g' ∧ ezs_T F' A ∧ (∀ p j, ¬ (p = 1 ∧ (j = 6)) → F' p j = F p j) ∧ ∃ u : Int, (ezw_in u) ∧ (ezt_ST c n (ezp_se c nT kT s) F') ∧ ((ezp_se c nT kT s).1 = 0 → u = ezp_fi nT kT (ezp_W c s.2) ∧ 0 ≤ u ∧ u < kT ∧ s.1 = 0 ∧ ezp_K c s.2 = 100) ∧ (-1 ≤ u ∧ u < 8) ∧ some (ezw_i u) = v
theorem ezt_m62_1_30_v0 {c : Int → Int} {n : Int} {s : Int × Int} {nT : Int → List Int} {nH : Int → List Int} {kT : Int} {kH : Int} {F : Nat → Nat → Int} {A : Nat → Int → Int} (hS : ezs_T F A) (hd : 2 ≤ d) (hn : F 1 2 = n) (hc : c = ezp_ch (A 2) n) (tp : ezp_tp c n) (st : ezt_ST c n s F) (nt : ezt_NM 30 15 40 nT F A) (nh : ezt_NM 30 16 41 nH F A) (tw : F 30 15 = kT ∧ F 30 16 = kH ∧ F 30 15 ≤ 8 ∧ F 30 16 ≤ 4) : ezw_C l ρ B xa Hb D cA 62 d [ezw_p 1, ezw_p 30, ezw_i (0)] (ezu_g e F A) (ezt_m62_1_30_v0Q e F A c n s nT nH kT kH) := by
  refine ezw_met (k := 1) rfl rfl ?_
  have hn0 := tp.1
  have hn1 := tp.2.1
  obtain ⟨sf, sk, sc, sb, sb2⟩ := id st
  have hP := ezp_Pr tp s.2
  have c3i : s.1 = 0 → F 1 3 = ezp_K c s.2 := fun z => (sc z).2.2.1
  have c8i : s.1 = 0 → F 1 8 = ezp_P c s.2 := fun z => (sc z).1
  have c4i : s.1 = 0 → ezp_K c s.2 = 101 → F 1 4 = ezp_V c s.2 := fun z => (sc z).2.2.2.1
  have c7i : s.1 = 0 → ezp_K c s.2 = 100 → F 1 7 = ezp_v 32 (ezp_W c s.2) ∧ F 1 5 = ezp_ix (ezp_W c s.2) - 44 := fun z => (sc z).2.2.2.2
  have twb := tw
  obtain ⟨rfl, rfl, twc⟩ := twb
  have nt0 := nt.1
  have nh0 := nh.1
  refine ezw_aload_n rfl rfl ?_
  refine ezy_get_i hS rfl rfl rfl rfl rfl rfl (fun u1 hu1 ku1 eu1 => ?_)
  replace eu1 := eu1.symm
  subst eu1
  refine ezw_bipush (100) rfl rfl ?_
  refine ezw_icmp_eq rfl rfl hu1 ⟨by decide, by decide⟩ (fun h6_1 => ?_) (fun h6_1 => ?_)
  · refine ezw_iload_n rfl rfl ?_
    refine ezw_if_eq rfl rfl ⟨by decide, by decide⟩ (fun h17_1 => ?_) (fun h17_1 => absurd h17_1 (by omega))
    refine ezw_aload_n rfl rfl ?_
    refine ezw_aload_n rfl rfl ?_
    refine ezy_get_l hS rfl rfl rfl rfl rfl (fun u2 hu2 eu2 => ?_)
    replace eu2 := eu2.symm
    subst eu2
    refine ezw_call0_1 rfl (by omega) (ezu_at rfl) rfl rfl rfl rfl (ezt_m53_30 hS (by omega) hu2 nt (by omega)) ?_
    rintro _ _ ⟨rfl, u4, hu4, p3_0, fi_3, rfl⟩
    refine ezw_istore_n rfl rfl ?_
    refine ezw_iload_n rfl rfl ?_
    refine ezw_iconst (-1) rfl rfl ?_
    refine ezw_icmp_ne rfl rfl hu4 ⟨by decide, by decide⟩ (fun h42_4 => ?_) (fun h42_4 => ?_)
    · refine ezw_iload_n rfl rfl ?_
      exact ezw_ireturn rfl rfl ⟨F, rfl, hS, (fun _ _ _ => rfl), u4, hu4, by
            unfold ezp_se
            by_cases hz : s.1 = 0
            · have hw7 := c7i hz (by omega)
              have hf := fi_3 _ (ezp_W_ok tp (by omega)) hw7.1
              rw [if_pos ⟨hz, by omega⟩, if_neg (by omega)]
              exact st
            · rw [if_neg (fun z => hz z.1), ezp_wr_n hz]
              exact st, fun z => by
            unfold ezp_se at z
            by_cases hz : s.1 = 0
            · have hw7 := c7i hz (by omega)
              have hf := fi_3 _ (ezp_W_ok tp (by omega)) hw7.1
              rw [if_pos ⟨hz, by omega⟩] at z
              by_cases hm : ezp_fi nT (F 30 15) (ezp_W c s.2) = -1
              · rw [if_pos hm] at z
                exact absurd z (ezp_wr_f (by omega) hP.1)
              · exact ⟨by omega, by omega, by omega, by omega, by omega⟩
            · rw [if_neg (fun y => hz y.1), ezp_wr_n hz] at z
              exact absurd z hz, by omega, rfl⟩
    · refine ezw_aload_n rfl rfl ?_
      refine ezw_iconst (2) rfl rfl ?_
      refine ezw_call0_1 rfl (by omega) (ezu_at rfl) rfl rfl rfl rfl (ezt_m50_1 hS (by omega) ⟨by decide, by decide⟩ hn hc tp st (by omega)) ?_
      rintro _ _ ⟨F5, rfl, hS, nF5, st_5, rfl⟩
      refine ezw_iload_n rfl rfl ?_
      exact ezw_ireturn rfl rfl ⟨F5, rfl, hS, (fun p j h => by rw [nF5 p j (by omega)]), u4, hu4, by
            unfold ezp_se
            by_cases hz : s.1 = 0
            · have hw7 := c7i hz (by omega)
              have hf := fi_3 _ (ezp_W_ok tp (by omega)) hw7.1
              rw [if_pos ⟨hz, by omega⟩, if_pos (by omega)]
              exact st_5
            · have h4 := st_5
              rw [ezp_wr_n hz] at h4
              rw [if_neg (fun z => hz z.1), ezp_wr_n hz]
              exact h4, fun z => by
            unfold ezp_se at z
            by_cases hz : s.1 = 0
            · have hw7 := c7i hz (by omega)
              have hf := fi_3 _ (ezp_W_ok tp (by omega)) hw7.1
              rw [if_pos ⟨hz, by omega⟩] at z
              by_cases hm : ezp_fi nT (F 30 15) (ezp_W c s.2) = -1
              · rw [if_pos hm] at z
                exact absurd z (ezp_wr_f (by omega) hP.1)
              · exact ⟨by omega, by omega, by omega, by omega, by omega⟩
            · rw [if_neg (fun y => hz y.1), ezp_wr_n hz] at z
              exact absurd z hz, by omega, rfl⟩
  · refine ezw_aload_n rfl rfl ?_
    refine ezw_iconst (1) rfl rfl ?_
    refine ezw_call0_1 rfl (by omega) (ezu_at rfl) rfl rfl rfl rfl (ezt_m50_1 hS (by omega) ⟨by decide, by decide⟩ hn hc tp st (by omega)) ?_
    rintro _ _ ⟨F6, rfl, hS, nF6, st_6, rfl⟩
    refine ezw_iconst (-1) rfl rfl ?_
    exact ezw_ireturn rfl rfl ⟨F6, rfl, hS, (fun p j h => by rw [nF6 p j (by omega)]), (-1), ⟨by decide, by decide⟩, by
          unfold ezp_se
          rw [if_neg (by omega)]
          exact st_6, fun z => by
          unfold ezp_se at z
          rw [if_neg (by omega)] at z
          exact absurd z (ezp_wr_f (by omega) hP.1), by omega, rfl⟩
def ezt_m54_41Q (e : Bool × Bool) (F : Nat → Nat → Int) (A : Nat → Int → Int) (a1 : Int) : Option ezq_V → (Nat → ezq_C) → Prop := fun v g' => ezu_g e F A = g' ∧ ∃ u : Int, (ezw_il u) ∧ (0 ≤ a1 → a1 < 4 → u = A 41 a1) ∧ some (ezw_l u) = v
theorem ezt_m54_41 {a1 : Int} {F : Nat → Nat → Int} {A : Nat → Int → Int} (hS : ezs_T F A) (hd : 0 ≤ d) (ha1 : ezw_in a1) : ezw_C l ρ B xa Hb D cA 54 d [ezw_p 41, ezw_i a1] (ezu_g e F A) (ezt_m54_41Q e F A a1) := by
  refine ezw_met (k := 0) rfl rfl ?_
  refine ezw_aload_n rfl rfl ?_
  refine ezw_ifnull rfl ?_
  refine ezw_iload_n rfl rfl ?_
  refine ezw_if_lt rfl rfl ha1 (fun h5_0 => ?_) (fun h5_0 => ?_)
  · refine ezw_lconst (0) rfl rfl ?_
    exact ezw_lreturn rfl rfl ⟨rfl, (0), ⟨by decide, by decide⟩, by omega, rfl⟩
  · refine ezw_iload_n rfl rfl ?_
    refine ezw_aload_n rfl rfl ?_
    refine ezs_alen (k := 4) rfl rfl rfl rfl (by decide) (by decide) ?_
    refine ezw_icmp_ge rfl rfl ha1 ⟨by decide, by decide⟩ (fun h11_0 => ?_) (fun h11_0 => ?_)
    · refine ezw_lconst (0) rfl rfl ?_
      exact ezw_lreturn rfl rfl ⟨rfl, (0), ⟨by decide, by decide⟩, by omega, rfl⟩
    · refine ezw_aload_n rfl rfl ?_
      refine ezw_iload_n rfl rfl ?_
      refine ezy_laload hS rfl rfl rfl (by omega) (by omega) (by decide) (fun u1 hu1 eu1 => ?_)
      refine ezw_goto rfl rfl ?_
      exact ezw_lreturn rfl rfl ⟨rfl, u1, hu1, by omega, rfl⟩
def ezt_m55_30Q (e : Bool × Bool) (F : Nat → Nat → Int) (A : Nat → Int → Int) (nm : Int → List Int) (a1 : Int) : Option ezq_V → (Nat → ezq_C) → Prop := fun v g' => ezu_g e F A = g' ∧ ∃ u : Int, (ezw_in u) ∧ (u = -1 ∨ 0 ≤ u ∧ u < F 30 16) ∧ (∀ l, ezp_ok l → a1 = ezp_v 32 l → u = ezp_fi nm (F 30 16) l) ∧ some (ezw_i u) = v
theorem ezt_m55_30 {nm : Int → List Int} {a1 : Int} {F : Nat → Nat → Int} {A : Nat → Int → Int} (hS : ezs_T F A) (hd : 1 ≤ d) (ha1 : ezw_il a1) (nt : ezt_NM 30 16 41 nm F A) (tw : F 30 16 ≤ 4) : ezw_C l ρ B xa Hb D cA 55 d [ezw_p 30, ezw_l a1] (ezu_g e F A) (ezt_m55_30Q e F A nm a1) := by
  refine ezw_met (k := 1) rfl rfl ?_
  refine ezw_iconst (0) rfl rfl ?_
  refine ezw_istore_n rfl rfl ?_
  have L2_2 : ∀ c1 : Int, ezw_in c1 → ((0) ≤ c1) → (∀ i, 0 ≤ i → i < c1 → A 41 i ≠ a1) → ezw_E l ρ B xa Hb D cA d ezq_re55 (ezt_m55_30Q e F A nm a1) 2 [some (ezw_p 30), some (ezw_l a1), none, some (ezw_i c1)] [] (ezu_g e F A) := by
    refine ezs_up ?_
    intro c1 hc1 ihc1 g_2 no_2
    refine ezw_iload_n rfl rfl ?_
    refine ezw_aload_n rfl rfl ?_
    refine ezy_get_i hS rfl rfl rfl rfl rfl rfl (fun u3 hu3 ku3 eu3 => ?_)
    replace eu3 := eu3.symm
    subst eu3
    refine ezw_icmp_ge rfl rfl hc1 hu3 (fun h7_3 => ?_) (fun h7_3 => ?_)
    · refine ezw_iconst (-1) rfl rfl ?_
      exact ezw_ireturn rfl rfl ⟨rfl, (-1), ⟨by decide, by decide⟩, by omega, fun l hl ha => (ezp_fi_no nt.1 (fun j j0 j1 hj => no_2 j j0 (by omega) (by rw [(nt.2 j j0 j1).2, hj]; exact ha.symm))).symm, rfl⟩
    · refine ezw_aload_n rfl rfl ?_
      refine ezs_getp (p := 41) rfl rfl rfl rfl rfl ?_
      refine ezw_iload_n rfl rfl ?_
      refine ezw_call3_2 rfl (by omega) rfl rfl (ezt_m54_41 hS (by omega) hc1) ?_
      rintro _ _ ⟨rfl, u5, hu5, p4_0, rfl⟩
      refine ezw_lload_n rfl rfl ?_
      refine ezw_lcmpE rfl hu5 ha1 (fun u6 hu6 => ?_)
      refine ezw_if_ne rfl rfl ⟨by omega, by omega⟩ (fun h20_6 => ?_) (fun h20_6 => ?_)
      · refine ezw_iinc (k := c1 + 1) (1) rfl rfl rfl (by omega) rfl ?_
        refine ezw_goto rfl rfl ?_
        exact ezw_keepE [true, true, false, true] (ihc1 (c1 + 1) (by omega) ⟨by omega, by omega⟩ (by omega) (fun i i0 i1 => by
              by_cases hi : i = c1
              · subst hi
                omega
              · exact no_2 i i0 (by omega)))
      · refine ezw_iload_n rfl rfl ?_
        exact ezw_ireturn rfl rfl ⟨rfl, c1, hc1, by omega, fun l hl ha => (ezp_fi_eq nt.1 (by omega) (by omega) (ezp_vinj (Or.inl rfl) _ _ (nt.2 c1 (by omega) (by omega)).1 hl (by rw [← (nt.2 c1 (by omega) (by omega)).2]; omega)) (fun j j0 j1 hj => no_2 j j0 (by omega) (by rw [(nt.2 j j0 (by omega)).2, hj]; exact ha.symm))).symm, rfl⟩
  exact ezw_keepE [true, true, false, true] (L2_2 (0) ⟨by decide, by decide⟩ (by omega) (fun i i0 i1 => by omega))
def ezt_m62_1_30_v1Q (e : Bool × Bool) (F : Nat → Nat → Int) (A : Nat → Int → Int) (c : Int → Int) (n : Int) (s : Int × Int) (nT : Int → List Int) (nH : Int → List Int) (kT : Int) (kH : Int) : Option ezq_V → (Nat → ezq_C) → Prop := fun v g' => ∃ (F' : Nat → Nat → Int), ezu_g e F' A = g' ∧ ezs_T F' A ∧ (∀ p j, ¬ (p = 1 ∧ (j = 6)) → F' p j = F p j) ∧ ∃ u : Int, (ezw_in u) ∧ (ezt_ST c n (ezp_se c nH kH s) F') ∧ ((ezp_se c nH kH s).1 = 0 → u = ezp_fi nH kH (ezp_W c s.2) ∧ 0 ≤ u ∧ u < kH ∧ s.1 = 0 ∧ ezp_K c s.2 = 100) ∧ (-1 ≤ u ∧ u < 4) ∧ some (ezw_i u) = v
theorem ezt_m62_1_30_v1 {c : Int → Int} {n : Int} {s : Int × Int} {nT : Int → List Int} {nH : Int → List Int} {kT : Int} {kH : Int} {F : Nat → Nat → Int} {A : Nat → Int → Int} (hS : ezs_T F A) (hd : 2 ≤ d) (hn : F 1 2 = n) (hc : c = ezp_ch (A 2) n) (tp : ezp_tp c n) (st : ezt_ST c n s F) (nt : ezt_NM 30 15 40 nT F A) (nh : ezt_NM 30 16 41 nH F A) (tw : F 30 15 = kT ∧ F 30 16 = kH ∧ F 30 15 ≤ 8 ∧ F 30 16 ≤ 4) : ezw_C l ρ B xa Hb D cA 62 d [ezw_p 1, ezw_p 30, ezw_i (1)] (ezu_g e F A) (ezt_m62_1_30_v1Q e F A c n s nT nH kT kH) := by
  refine ezw_met (k := 1) rfl rfl ?_
  have hn0 := tp.1
  have hn1 := tp.2.1
  obtain ⟨sf, sk, sc, sb, sb2⟩ := id st
  have hP := ezp_Pr tp s.2
  have c3i : s.1 = 0 → F 1 3 = ezp_K c s.2 := fun z => (sc z).2.2.1
  have c8i : s.1 = 0 → F 1 8 = ezp_P c s.2 := fun z => (sc z).1
  have c4i : s.1 = 0 → ezp_K c s.2 = 101 → F 1 4 = ezp_V c s.2 := fun z => (sc z).2.2.2.1
  have c7i : s.1 = 0 → ezp_K c s.2 = 100 → F 1 7 = ezp_v 32 (ezp_W c s.2) ∧ F 1 5 = ezp_ix (ezp_W c s.2) - 44 := fun z => (sc z).2.2.2.2
  have twb := tw
  obtain ⟨rfl, rfl, twc⟩ := twb
  have nt0 := nt.1
  have nh0 := nh.1
  refine ezw_aload_n rfl rfl ?_
  refine ezy_get_i hS rfl rfl rfl rfl rfl rfl (fun u1 hu1 ku1 eu1 => ?_)
  replace eu1 := eu1.symm
  subst eu1
  refine ezw_bipush (100) rfl rfl ?_
  refine ezw_icmp_eq rfl rfl hu1 ⟨by decide, by decide⟩ (fun h6_1 => ?_) (fun h6_1 => ?_)
  · refine ezw_iload_n rfl rfl ?_
    refine ezw_if_eq rfl rfl ⟨by decide, by decide⟩ (fun h17_1 => absurd h17_1 (by omega)) (fun h17_1 => ?_)
    refine ezw_aload_n rfl rfl ?_
    refine ezw_aload_n rfl rfl ?_
    refine ezy_get_l hS rfl rfl rfl rfl rfl (fun u2 hu2 eu2 => ?_)
    replace eu2 := eu2.symm
    subst eu2
    refine ezw_call0_1 rfl (by omega) (ezu_at rfl) rfl rfl rfl rfl (ezt_m55_30 hS (by omega) hu2 nh (by omega)) ?_
    rintro _ _ ⟨rfl, u4, hu4, p3_0, fi_3, rfl⟩
    refine ezw_goto rfl rfl ?_
    refine ezw_istore_n rfl rfl ?_
    refine ezw_iload_n rfl rfl ?_
    refine ezw_iconst (-1) rfl rfl ?_
    refine ezw_icmp_ne rfl rfl hu4 ⟨by decide, by decide⟩ (fun h42_4 => ?_) (fun h42_4 => ?_)
    · refine ezw_iload_n rfl rfl ?_
      exact ezw_ireturn rfl rfl ⟨F, rfl, hS, (fun _ _ _ => rfl), u4, hu4, by
            unfold ezp_se
            by_cases hz : s.1 = 0
            · have hw7 := c7i hz (by omega)
              have hf := fi_3 _ (ezp_W_ok tp (by omega)) hw7.1
              rw [if_pos ⟨hz, by omega⟩, if_neg (by omega)]
              exact st
            · rw [if_neg (fun z => hz z.1), ezp_wr_n hz]
              exact st, fun z => by
            unfold ezp_se at z
            by_cases hz : s.1 = 0
            · have hw7 := c7i hz (by omega)
              have hf := fi_3 _ (ezp_W_ok tp (by omega)) hw7.1
              rw [if_pos ⟨hz, by omega⟩] at z
              by_cases hm : ezp_fi nH (F 30 16) (ezp_W c s.2) = -1
              · rw [if_pos hm] at z
                exact absurd z (ezp_wr_f (by omega) hP.1)
              · exact ⟨by omega, by omega, by omega, by omega, by omega⟩
            · rw [if_neg (fun y => hz y.1), ezp_wr_n hz] at z
              exact absurd z hz, by omega, rfl⟩
    · refine ezw_aload_n rfl rfl ?_
      refine ezw_iconst (2) rfl rfl ?_
      refine ezw_call0_1 rfl (by omega) (ezu_at rfl) rfl rfl rfl rfl (ezt_m50_1 hS (by omega) ⟨by decide, by decide⟩ hn hc tp st (by omega)) ?_
      rintro _ _ ⟨F5, rfl, hS, nF5, st_5, rfl⟩
      refine ezw_iload_n rfl rfl ?_
      exact ezw_ireturn rfl rfl ⟨F5, rfl, hS, (fun p j h => by rw [nF5 p j (by omega)]), u4, hu4, by
            unfold ezp_se
            by_cases hz : s.1 = 0
            · have hw7 := c7i hz (by omega)
              have hf := fi_3 _ (ezp_W_ok tp (by omega)) hw7.1
              rw [if_pos ⟨hz, by omega⟩, if_pos (by omega)]
              exact st_5
            · have h4 := st_5
              rw [ezp_wr_n hz] at h4
              rw [if_neg (fun z => hz z.1), ezp_wr_n hz]
              exact h4, fun z => by
            unfold ezp_se at z
            by_cases hz : s.1 = 0
            · have hw7 := c7i hz (by omega)
              have hf := fi_3 _ (ezp_W_ok tp (by omega)) hw7.1
              rw [if_pos ⟨hz, by omega⟩] at z
              by_cases hm : ezp_fi nH (F 30 16) (ezp_W c s.2) = -1
              · rw [if_pos hm] at z
                exact absurd z (ezp_wr_f (by omega) hP.1)
              · exact ⟨by omega, by omega, by omega, by omega, by omega⟩
            · rw [if_neg (fun y => hz y.1), ezp_wr_n hz] at z
              exact absurd z hz, by omega, rfl⟩
  · refine ezw_aload_n rfl rfl ?_
    refine ezw_iconst (1) rfl rfl ?_
    refine ezw_call0_1 rfl (by omega) (ezu_at rfl) rfl rfl rfl rfl (ezt_m50_1 hS (by omega) ⟨by decide, by decide⟩ hn hc tp st (by omega)) ?_
    rintro _ _ ⟨F6, rfl, hS, nF6, st_6, rfl⟩
    refine ezw_iconst (-1) rfl rfl ?_
    exact ezw_ireturn rfl rfl ⟨F6, rfl, hS, (fun p j h => by rw [nF6 p j (by omega)]), (-1), ⟨by decide, by decide⟩, by
          unfold ezp_se
          rw [if_neg (by omega)]
          exact st_6, fun z => by
          unfold ezp_se at z
          rw [if_neg (by omega)] at z
          exact absurd z (ezp_wr_f (by omega) hP.1), by omega, rfl⟩
def ezt_m61_1_30_v0Q (e : Bool × Bool) (F : Nat → Nat → Int) (A : Nat → Int → Int) (c : Int → Int) (n : Int) (s : Int × Int) (nT : Int → List Int) (nH : Int → List Int) (kT : Int) (kH : Int) : Option ezq_V → (Nat → ezq_C) → Prop := fun v g' => ∃ (F' : Nat → Nat → Int), ezu_g e F' A = g' ∧ ezs_T F' A ∧ (∀ p j, ¬ (p = 1 ∧ (j = 3 ∨ j = 4 ∨ j = 5 ∨ j = 6 ∨ j = 7 ∨ j = 8 ∨ j = 9)) → F' p j = F p j) ∧ ∃ u : Int, (ezw_in u) ∧ (ezt_ST c n (ezp_ta c nT kT s) F') ∧ ((ezp_ta c nT kT s).1 = 0 → u = ezp_fi nT kT (ezp_W c s.2) ∧ 0 ≤ u ∧ u < kT ∧ s.1 = 0 ∧ ezp_K c s.2 = 100) ∧ (-1 ≤ u ∧ u < 8) ∧ some (ezw_i u) = v
theorem ezt_m61_1_30_v0 {c : Int → Int} {n : Int} {s : Int × Int} {nT : Int → List Int} {nH : Int → List Int} {kT : Int} {kH : Int} {F : Nat → Nat → Int} {A : Nat → Int → Int} (hS : ezs_T F A) (hd : 7 ≤ d) (hn : F 1 2 = n) (hc : c = ezp_ch (A 2) n) (tp : ezp_tp c n) (hw : ∀ j, 0 ≤ j → j < 48 → A 3 j = ezl_cw.getD j.toNat 0) (st : ezt_ST c n s F) (nt : ezt_NM 30 15 40 nT F A) (nh : ezt_NM 30 16 41 nH F A) (tw : F 30 15 = kT ∧ F 30 16 = kH ∧ F 30 15 ≤ 8 ∧ F 30 16 ≤ 4) : ezw_C l ρ B xa Hb D cA 61 d [ezw_p 1, ezw_p 30, ezw_i (0)] (ezu_g e F A) (ezt_m61_1_30_v0Q e F A c n s nT nH kT kH) := by
  refine ezw_met (k := 1) rfl rfl ?_
  refine ezw_aload_n rfl rfl ?_
  refine ezw_aload_n rfl rfl ?_
  refine ezw_iload_n rfl rfl ?_
  refine ezw_call0_2 rfl (by omega) (ezu_at rfl) rfl rfl rfl rfl (ezt_m62_1_30_v0 hS (by omega) hn hc tp st nt nh tw) ?_
  rintro _ _ ⟨F1, rfl, hS, nF1, u2, hu2, st_1, v_1, p1_2, rfl⟩
  have sf2 := st_1.1
  refine ezw_istore_n rfl rfl ?_
  refine ezw_aload_n rfl rfl ?_
  refine ezw_call0_0 rfl (by omega) (ezu_at rfl) rfl rfl rfl rfl (ezt_m45_1 hS (by omega)) ?_
  rintro _ _ ⟨rfl, u4, hu4, p3_0, p3_1, rfl⟩
  refine ezw_if_eq rfl rfl ⟨by omega, by omega⟩ (fun h11_4 => ?_) (fun h11_4 => ?_)
  · refine ezw_iload_n rfl rfl ?_
    exact ezw_ireturn rfl rfl ⟨F1, rfl, hS, (fun p j h => by rw [nF1 p j (by omega)]), u2, hu2, by
          unfold ezp_ta
          rw [ezp_t_n (by omega)]
          exact st_1, fun z => by
          unfold ezp_ta at z
          rw [ezp_t1] at z
          exact v_1 z, by omega, rfl⟩
  · refine ezw_aload_n rfl rfl ?_
    refine ezw_call0_0 rfl (by omega) (ezu_at rfl) rfl rfl rfl rfl (ezt_take hS (by omega) (by rw [nF1 1 2 (by decide)]; exact hn) hc tp hw st_1) ?_
    rintro _ _ ⟨F5, rfl, hS, nF5, st_5, rfl⟩
    refine ezw_iload_n rfl rfl ?_
    exact ezw_ireturn rfl rfl ⟨F5, rfl, hS, (fun p j h => by rw [nF5 p j (by omega), nF1 p j (by omega)]), u2, hu2, st_5, fun z => by
          unfold ezp_ta at z
          rw [ezp_t1] at z
          exact v_1 z, by omega, rfl⟩
def ezt_m61_1_30_v1Q (e : Bool × Bool) (F : Nat → Nat → Int) (A : Nat → Int → Int) (c : Int → Int) (n : Int) (s : Int × Int) (nT : Int → List Int) (nH : Int → List Int) (kT : Int) (kH : Int) : Option ezq_V → (Nat → ezq_C) → Prop := fun v g' => ∃ (F' : Nat → Nat → Int), ezu_g e F' A = g' ∧ ezs_T F' A ∧ (∀ p j, ¬ (p = 1 ∧ (j = 3 ∨ j = 4 ∨ j = 5 ∨ j = 6 ∨ j = 7 ∨ j = 8 ∨ j = 9)) → F' p j = F p j) ∧ ∃ u : Int, (ezw_in u) ∧ (ezt_ST c n (ezp_ta c nH kH s) F') ∧ ((ezp_ta c nH kH s).1 = 0 → u = ezp_fi nH kH (ezp_W c s.2) ∧ 0 ≤ u ∧ u < kH ∧ s.1 = 0 ∧ ezp_K c s.2 = 100) ∧ (-1 ≤ u ∧ u < 4) ∧ some (ezw_i u) = v
theorem ezt_m61_1_30_v1 {c : Int → Int} {n : Int} {s : Int × Int} {nT : Int → List Int} {nH : Int → List Int} {kT : Int} {kH : Int} {F : Nat → Nat → Int} {A : Nat → Int → Int} (hS : ezs_T F A) (hd : 7 ≤ d) (hn : F 1 2 = n) (hc : c = ezp_ch (A 2) n) (tp : ezp_tp c n) (hw : ∀ j, 0 ≤ j → j < 48 → A 3 j = ezl_cw.getD j.toNat 0) (st : ezt_ST c n s F) (nt : ezt_NM 30 15 40 nT F A) (nh : ezt_NM 30 16 41 nH F A) (tw : F 30 15 = kT ∧ F 30 16 = kH ∧ F 30 15 ≤ 8 ∧ F 30 16 ≤ 4) : ezw_C l ρ B xa Hb D cA 61 d [ezw_p 1, ezw_p 30, ezw_i (1)] (ezu_g e F A) (ezt_m61_1_30_v1Q e F A c n s nT nH kT kH) := by
  refine ezw_met (k := 1) rfl rfl ?_
  refine ezw_aload_n rfl rfl ?_
  refine ezw_aload_n rfl rfl ?_
  refine ezw_iload_n rfl rfl ?_
  refine ezw_call0_2 rfl (by omega) (ezu_at rfl) rfl rfl rfl rfl (ezt_m62_1_30_v1 hS (by omega) hn hc tp st nt nh tw) ?_
  rintro _ _ ⟨F1, rfl, hS, nF1, u2, hu2, st_1, v_1, p1_2, rfl⟩
  have sf2 := st_1.1
  refine ezw_istore_n rfl rfl ?_
  refine ezw_aload_n rfl rfl ?_
  refine ezw_call0_0 rfl (by omega) (ezu_at rfl) rfl rfl rfl rfl (ezt_m45_1 hS (by omega)) ?_
  rintro _ _ ⟨rfl, u4, hu4, p3_0, p3_1, rfl⟩
  refine ezw_if_eq rfl rfl ⟨by omega, by omega⟩ (fun h11_4 => ?_) (fun h11_4 => ?_)
  · refine ezw_iload_n rfl rfl ?_
    exact ezw_ireturn rfl rfl ⟨F1, rfl, hS, (fun p j h => by rw [nF1 p j (by omega)]), u2, hu2, by
          unfold ezp_ta
          rw [ezp_t_n (by omega)]
          exact st_1, fun z => by
          unfold ezp_ta at z
          rw [ezp_t1] at z
          exact v_1 z, by omega, rfl⟩
  · refine ezw_aload_n rfl rfl ?_
    refine ezw_call0_0 rfl (by omega) (ezu_at rfl) rfl rfl rfl rfl (ezt_take hS (by omega) (by rw [nF1 1 2 (by decide)]; exact hn) hc tp hw st_1) ?_
    rintro _ _ ⟨F5, rfl, hS, nF5, st_5, rfl⟩
    refine ezw_iload_n rfl rfl ?_
    exact ezw_ireturn rfl rfl ⟨F5, rfl, hS, (fun p j h => by rw [nF5 p j (by omega), nF1 p j (by omega)]), u2, hu2, st_5, fun z => by
          unfold ezp_ta at z
          rw [ezp_t1] at z
          exact v_1 z, by omega, rfl⟩
def ezt_m52_1_30Q (e : Bool × Bool) (F : Nat → Nat → Int) (A : Nat → Int → Int) (c : Int → Int) (n : Int) (s : Int × Int) (nT : Int → List Int) (nH : Int → List Int) (kT : Int) (kH : Int) : Option ezq_V → (Nat → ezq_C) → Prop := fun v g' => ∃ (F' : Nat → Nat → Int), ezu_g e F' A = g' ∧ ezs_T F' A ∧ (∀ p j, ¬ (p = 1 ∧ (j = 3 ∨ j = 4 ∨ j = 5 ∨ j = 6 ∨ j = 7 ∨ j = 8 ∨ j = 9)) → F' p j = F p j) ∧ ∃ u : Int, (ezw_il u) ∧ (ezt_ST c n (ezp_nn c nT kT nH kH s) F') ∧ ((ezp_nn c nT kT nH kH s).1 = 0 → u = ezp_v 32 (ezp_W c s.2) ∧ s.1 = 0 ∧ ezp_K c s.2 = 100 ∧ ezp_fi nT kT (ezp_W c s.2) = -1 ∧ ezp_fi nH kH (ezp_W c s.2) = -1) ∧ some (ezw_l u) = v
theorem ezt_m52_1_30 {c : Int → Int} {n : Int} {s : Int × Int} {nT : Int → List Int} {nH : Int → List Int} {kT : Int} {kH : Int} {F : Nat → Nat → Int} {A : Nat → Int → Int} (hS : ezs_T F A) (hd : 7 ≤ d) (hn : F 1 2 = n) (hc : c = ezp_ch (A 2) n) (tp : ezp_tp c n) (hw : ∀ j, 0 ≤ j → j < 48 → A 3 j = ezl_cw.getD j.toNat 0) (st : ezt_ST c n s F) (nt : ezt_NM 30 15 40 nT F A) (nh : ezt_NM 30 16 41 nH F A) (tw : F 30 15 = kT ∧ F 30 16 = kH ∧ F 30 15 ≤ 8 ∧ F 30 16 ≤ 4) : ezw_C l ρ B xa Hb D cA 52 d [ezw_p 1, ezw_p 30] (ezu_g e F A) (ezt_m52_1_30Q e F A c n s nT nH kT kH) := by
  refine ezw_met (k := 2) rfl rfl ?_
  have hn0 := tp.1
  have hn1 := tp.2.1
  obtain ⟨sf, sk, sc, sb, sb2⟩ := id st
  have hP := ezp_Pr tp s.2
  have c3i : s.1 = 0 → F 1 3 = ezp_K c s.2 := fun z => (sc z).2.2.1
  have c8i : s.1 = 0 → F 1 8 = ezp_P c s.2 := fun z => (sc z).1
  have c4i : s.1 = 0 → ezp_K c s.2 = 101 → F 1 4 = ezp_V c s.2 := fun z => (sc z).2.2.2.1
  have c7i : s.1 = 0 → ezp_K c s.2 = 100 → F 1 7 = ezp_v 32 (ezp_W c s.2) ∧ F 1 5 = ezp_ix (ezp_W c s.2) - 44 := fun z => (sc z).2.2.2.2
  have twb := tw
  obtain ⟨rfl, rfl, twc⟩ := twb
  have nt0 := nt.1
  have nh0 := nh.1
  refine ezw_aload_n rfl rfl ?_
  refine ezy_get_i hS rfl rfl rfl rfl rfl rfl (fun u1 hu1 ku1 eu1 => ?_)
  replace eu1 := eu1.symm
  subst eu1
  refine ezw_bipush (100) rfl rfl ?_
  refine ezw_icmp_eq rfl rfl hu1 ⟨by decide, by decide⟩ (fun h6_1 => ?_) (fun h6_1 => ?_)
  · refine ezw_aload_n rfl rfl ?_
    refine ezy_get_l hS rfl rfl rfl rfl rfl (fun u2 hu2 eu2 => ?_)
    replace eu2 := eu2.symm
    subst eu2
    refine ezw_lstore_n rfl rfl ?_
    refine ezw_aload_n rfl rfl ?_
    refine ezw_lload_n rfl rfl ?_
    refine ezw_call0_1 rfl (by omega) (ezu_at rfl) rfl rfl rfl rfl (ezt_m53_30 hS (by omega) hu2 nt (by omega)) ?_
    rintro _ _ ⟨rfl, u4, hu4, p3_0, fi_3, rfl⟩
    refine ezw_iconst (-1) rfl rfl ?_
    refine ezw_icmp_ne rfl rfl hu4 ⟨by decide, by decide⟩ (fun h27_4 => ?_) (fun h27_4 => ?_)
    · refine ezw_aload_n rfl rfl ?_
      refine ezw_iconst (3) rfl rfl ?_
      refine ezw_call0_1 rfl (by omega) (ezu_at rfl) rfl rfl rfl rfl (ezt_m50_1 hS (by omega) ⟨by decide, by decide⟩ hn hc tp st (by omega)) ?_
      rintro _ _ ⟨F5, rfl, hS, nF5, st_5, rfl⟩
      refine ezw_goto rfl rfl ?_
      refine ezw_lload_n rfl rfl ?_
      exact ezw_lreturn rfl rfl ⟨F5, rfl, hS, (fun p j h => by rw [nF5 p j (by omega)]), (F 1 7), hu2, by
            unfold ezp_nn
            by_cases hz : s.1 = 0
            · have hw7 := c7i hz (by omega)
              have hf53 := fi_3 _ (ezp_W_ok tp (by omega)) hw7.1
              rw [if_pos ⟨hz, by omega⟩, if_pos (by omega)]
              exact st_5
            · have h4 := st_5
              rw [ezp_wr_n hz] at h4
              rw [if_neg (fun z => hz z.1), ezp_wr_n hz]
              exact h4, fun z => by
            unfold ezp_nn at z
            by_cases hz : s.1 = 0
            · have hw7 := c7i hz (by omega)
              have hf53 := fi_3 _ (ezp_W_ok tp (by omega)) hw7.1
              rw [if_pos ⟨hz, by omega⟩] at z
              by_cases hm : ezp_fi nT (F 30 15) (ezp_W c s.2) ≠ -1 ∨ ezp_fi nH (F 30 16) (ezp_W c s.2) ≠ -1
              · rw [if_pos hm] at z
                exact absurd z (ezp_wr_f (by omega) hP.1)
              · exact ⟨by omega, by omega, by omega, by omega, by omega⟩
            · rw [if_neg (fun y => hz y.1), ezp_wr_n hz] at z
              exact absurd z hz, rfl⟩
    · refine ezw_aload_n rfl rfl ?_
      refine ezw_lload_n rfl rfl ?_
      refine ezw_call0_1 rfl (by omega) (ezu_at rfl) rfl rfl rfl rfl (ezt_m55_30 hS (by omega) hu2 nh (by omega)) ?_
      rintro _ _ ⟨rfl, u7, hu7, p6_0, fi_6, rfl⟩
      refine ezw_iconst (-1) rfl rfl ?_
      refine ezw_icmp_eq rfl rfl hu7 ⟨by decide, by decide⟩ (fun h36_7 => ?_) (fun h36_7 => ?_)
      · refine ezw_aload_n rfl rfl ?_
        refine ezw_call0_0 rfl (by omega) (ezu_at rfl) rfl rfl rfl rfl (ezt_take hS (by omega) hn hc tp hw st) ?_
        rintro _ _ ⟨F8, rfl, hS, nF8, st_8, rfl⟩
        refine ezw_lload_n rfl rfl ?_
        exact ezw_lreturn rfl rfl ⟨F8, rfl, hS, (fun p j h => by rw [nF8 p j (by omega)]), (F 1 7), hu2, by
              unfold ezp_nn
              by_cases hz : s.1 = 0
              · have hw7 := c7i hz (by omega)
                have hf53 := fi_3 _ (ezp_W_ok tp (by omega)) hw7.1
                have hf55 := fi_6 _ (ezp_W_ok tp (by omega)) hw7.1
                rw [if_pos ⟨hz, by omega⟩, if_neg (by omega)]
                exact st_8
              · rw [if_neg (fun z => hz z.1), ezp_wr_n hz, ← ezp_t_n hz]
                exact st_8, fun z => by
              unfold ezp_nn at z
              by_cases hz : s.1 = 0
              · have hw7 := c7i hz (by omega)
                have hf53 := fi_3 _ (ezp_W_ok tp (by omega)) hw7.1
                have hf55 := fi_6 _ (ezp_W_ok tp (by omega)) hw7.1
                rw [if_pos ⟨hz, by omega⟩] at z
                by_cases hm : ezp_fi nT (F 30 15) (ezp_W c s.2) ≠ -1 ∨ ezp_fi nH (F 30 16) (ezp_W c s.2) ≠ -1
                · rw [if_pos hm] at z
                  exact absurd z (ezp_wr_f (by omega) hP.1)
                · exact ⟨by omega, by omega, by omega, by omega, by omega⟩
              · rw [if_neg (fun y => hz y.1), ezp_wr_n hz] at z
                exact absurd z hz, rfl⟩
      · refine ezw_aload_n rfl rfl ?_
        refine ezw_iconst (3) rfl rfl ?_
        refine ezw_call0_1 rfl (by omega) (ezu_at rfl) rfl rfl rfl rfl (ezt_m50_1 hS (by omega) ⟨by decide, by decide⟩ hn hc tp st (by omega)) ?_
        rintro _ _ ⟨F9, rfl, hS, nF9, st_9, rfl⟩
        refine ezw_goto rfl rfl ?_
        refine ezw_lload_n rfl rfl ?_
        exact ezw_lreturn rfl rfl ⟨F9, rfl, hS, (fun p j h => by rw [nF9 p j (by omega)]), (F 1 7), hu2, by
              unfold ezp_nn
              by_cases hz : s.1 = 0
              · have hw7 := c7i hz (by omega)
                have hf53 := fi_3 _ (ezp_W_ok tp (by omega)) hw7.1
                have hf55 := fi_6 _ (ezp_W_ok tp (by omega)) hw7.1
                rw [if_pos ⟨hz, by omega⟩, if_pos (by omega)]
                exact st_9
              · have h4 := st_9
                rw [ezp_wr_n hz] at h4
                rw [if_neg (fun z => hz z.1), ezp_wr_n hz]
                exact h4, fun z => by
              unfold ezp_nn at z
              by_cases hz : s.1 = 0
              · have hw7 := c7i hz (by omega)
                have hf53 := fi_3 _ (ezp_W_ok tp (by omega)) hw7.1
                have hf55 := fi_6 _ (ezp_W_ok tp (by omega)) hw7.1
                rw [if_pos ⟨hz, by omega⟩] at z
                by_cases hm : ezp_fi nT (F 30 15) (ezp_W c s.2) ≠ -1 ∨ ezp_fi nH (F 30 16) (ezp_W c s.2) ≠ -1
                · rw [if_pos hm] at z
                  exact absurd z (ezp_wr_f (by omega) hP.1)
                · exact ⟨by omega, by omega, by omega, by omega, by omega⟩
              · rw [if_neg (fun y => hz y.1), ezp_wr_n hz] at z
                exact absurd z hz, rfl⟩
  · refine ezw_aload_n rfl rfl ?_
    refine ezw_iconst (1) rfl rfl ?_
    refine ezw_call0_1 rfl (by omega) (ezu_at rfl) rfl rfl rfl rfl (ezt_m50_1 hS (by omega) ⟨by decide, by decide⟩ hn hc tp st (by omega)) ?_
    rintro _ _ ⟨F10, rfl, hS, nF10, st_10, rfl⟩
    refine ezw_lconst (0) rfl rfl ?_
    exact ezw_lreturn rfl rfl ⟨F10, rfl, hS, (fun p j h => by rw [nF10 p j (by omega)]), (0), ⟨by decide, by decide⟩, by
          unfold ezp_nn
          rw [if_neg (by omega)]
          exact st_10, fun z => by
          unfold ezp_nn at z
          rw [if_neg (by omega)] at z
          exact absurd z (ezp_wr_f (by omega) hP.1), rfl⟩
def ezt_m54_57Q (e : Bool × Bool) (F : Nat → Nat → Int) (A : Nat → Int → Int) (a1 : Int) : Option ezq_V → (Nat → ezq_C) → Prop := fun v g' => ezu_g e F A = g' ∧ ∃ u : Int, (ezw_il u) ∧ (0 ≤ a1 → a1 < 8 → u = A 57 a1) ∧ some (ezw_l u) = v
theorem ezt_m54_57 {a1 : Int} {F : Nat → Nat → Int} {A : Nat → Int → Int} (hS : ezs_T F A) (hd : 0 ≤ d) (ha1 : ezw_in a1) : ezw_C l ρ B xa Hb D cA 54 d [ezw_p 57, ezw_i a1] (ezu_g e F A) (ezt_m54_57Q e F A a1) := by
  refine ezw_met (k := 0) rfl rfl ?_
  refine ezw_aload_n rfl rfl ?_
  refine ezw_ifnull rfl ?_
  refine ezw_iload_n rfl rfl ?_
  refine ezw_if_lt rfl rfl ha1 (fun h5_0 => ?_) (fun h5_0 => ?_)
  · refine ezw_lconst (0) rfl rfl ?_
    exact ezw_lreturn rfl rfl ⟨rfl, (0), ⟨by decide, by decide⟩, by omega, rfl⟩
  · refine ezw_iload_n rfl rfl ?_
    refine ezw_aload_n rfl rfl ?_
    refine ezs_alen (k := 8) rfl rfl rfl rfl (by decide) (by decide) ?_
    refine ezw_icmp_ge rfl rfl ha1 ⟨by decide, by decide⟩ (fun h11_0 => ?_) (fun h11_0 => ?_)
    · refine ezw_lconst (0) rfl rfl ?_
      exact ezw_lreturn rfl rfl ⟨rfl, (0), ⟨by decide, by decide⟩, by omega, rfl⟩
    · refine ezw_aload_n rfl rfl ?_
      refine ezw_iload_n rfl rfl ?_
      refine ezy_laload hS rfl rfl rfl (by omega) (by omega) (by decide) (fun u1 hu1 eu1 => ?_)
      refine ezw_goto rfl rfl ?_
      exact ezw_lreturn rfl rfl ⟨rfl, u1, hu1, by omega, rfl⟩
def ezt_m53_47Q (e : Bool × Bool) (F : Nat → Nat → Int) (A : Nat → Int → Int) (nm : Int → List Int) (a1 : Int) : Option ezq_V → (Nat → ezq_C) → Prop := fun v g' => ezu_g e F A = g' ∧ ∃ u : Int, (ezw_in u) ∧ (u = -1 ∨ 0 ≤ u ∧ u < F 47 15) ∧ (∀ l, ezp_ok l → a1 = ezp_v 32 l → u = ezp_fi nm (F 47 15) l) ∧ some (ezw_i u) = v
theorem ezt_m53_47 {nm : Int → List Int} {a1 : Int} {F : Nat → Nat → Int} {A : Nat → Int → Int} (hS : ezs_T F A) (hd : 1 ≤ d) (ha1 : ezw_il a1) (nt : ezt_NM 47 15 57 nm F A) (tw : F 47 15 ≤ 8) : ezw_C l ρ B xa Hb D cA 53 d [ezw_p 47, ezw_l a1] (ezu_g e F A) (ezt_m53_47Q e F A nm a1) := by
  refine ezw_met (k := 1) rfl rfl ?_
  refine ezw_iconst (0) rfl rfl ?_
  refine ezw_istore_n rfl rfl ?_
  have L2_2 : ∀ c1 : Int, ezw_in c1 → ((0) ≤ c1) → (∀ i, 0 ≤ i → i < c1 → A 57 i ≠ a1) → ezw_E l ρ B xa Hb D cA d ezq_re53 (ezt_m53_47Q e F A nm a1) 2 [some (ezw_p 47), some (ezw_l a1), none, some (ezw_i c1)] [] (ezu_g e F A) := by
    refine ezs_up ?_
    intro c1 hc1 ihc1 g_2 no_2
    refine ezw_iload_n rfl rfl ?_
    refine ezw_aload_n rfl rfl ?_
    refine ezy_get_i hS rfl rfl rfl rfl rfl rfl (fun u3 hu3 ku3 eu3 => ?_)
    replace eu3 := eu3.symm
    subst eu3
    refine ezw_icmp_ge rfl rfl hc1 hu3 (fun h7_3 => ?_) (fun h7_3 => ?_)
    · refine ezw_iconst (-1) rfl rfl ?_
      exact ezw_ireturn rfl rfl ⟨rfl, (-1), ⟨by decide, by decide⟩, by omega, fun l hl ha => (ezp_fi_no nt.1 (fun j j0 j1 hj => no_2 j j0 (by omega) (by rw [(nt.2 j j0 j1).2, hj]; exact ha.symm))).symm, rfl⟩
    · refine ezw_aload_n rfl rfl ?_
      refine ezs_getp (p := 57) rfl rfl rfl rfl rfl ?_
      refine ezw_iload_n rfl rfl ?_
      refine ezw_call3_2 rfl (by omega) rfl rfl (ezt_m54_57 hS (by omega) hc1) ?_
      rintro _ _ ⟨rfl, u5, hu5, p4_0, rfl⟩
      refine ezw_lload_n rfl rfl ?_
      refine ezw_lcmpE rfl hu5 ha1 (fun u6 hu6 => ?_)
      refine ezw_if_ne rfl rfl ⟨by omega, by omega⟩ (fun h20_6 => ?_) (fun h20_6 => ?_)
      · refine ezw_iinc (k := c1 + 1) (1) rfl rfl rfl (by omega) rfl ?_
        refine ezw_goto rfl rfl ?_
        exact ezw_keepE [true, true, false, true] (ihc1 (c1 + 1) (by omega) ⟨by omega, by omega⟩ (by omega) (fun i i0 i1 => by
              by_cases hi : i = c1
              · subst hi
                omega
              · exact no_2 i i0 (by omega)))
      · refine ezw_iload_n rfl rfl ?_
        exact ezw_ireturn rfl rfl ⟨rfl, c1, hc1, by omega, fun l hl ha => (ezp_fi_eq nt.1 (by omega) (by omega) (ezp_vinj (Or.inl rfl) _ _ (nt.2 c1 (by omega) (by omega)).1 hl (by rw [← (nt.2 c1 (by omega) (by omega)).2]; omega)) (fun j j0 j1 hj => no_2 j j0 (by omega) (by rw [(nt.2 j j0 (by omega)).2, hj]; exact ha.symm))).symm, rfl⟩
  exact ezw_keepE [true, true, false, true] (L2_2 (0) ⟨by decide, by decide⟩ (by omega) (fun i i0 i1 => by omega))
def ezt_m62_1_47_v0Q (e : Bool × Bool) (F : Nat → Nat → Int) (A : Nat → Int → Int) (c : Int → Int) (n : Int) (s : Int × Int) (nT : Int → List Int) (nH : Int → List Int) (kT : Int) (kH : Int) : Option ezq_V → (Nat → ezq_C) → Prop := fun v g' => ∃ (F' : Nat → Nat → Int), ezu_g e F' A = g' ∧ ezs_T F' A ∧ (∀ p j, ¬ (p = 1 ∧ (j = 6)) → F' p j = F p j) ∧ ∃ u : Int, (ezw_in u) ∧ (ezt_ST c n (ezp_se c nT kT s) F') ∧ ((ezp_se c nT kT s).1 = 0 → u = ezp_fi nT kT (ezp_W c s.2) ∧ 0 ≤ u ∧ u < kT ∧ s.1 = 0 ∧ ezp_K c s.2 = 100) ∧ (-1 ≤ u ∧ u < 8) ∧ some (ezw_i u) = v
theorem ezt_m62_1_47_v0 {c : Int → Int} {n : Int} {s : Int × Int} {nT : Int → List Int} {nH : Int → List Int} {kT : Int} {kH : Int} {F : Nat → Nat → Int} {A : Nat → Int → Int} (hS : ezs_T F A) (hd : 2 ≤ d) (hn : F 1 2 = n) (hc : c = ezp_ch (A 2) n) (tp : ezp_tp c n) (st : ezt_ST c n s F) (nt : ezt_NM 47 15 57 nT F A) (nh : ezt_NM 47 16 58 nH F A) (tw : F 47 15 = kT ∧ F 47 16 = kH ∧ F 47 15 ≤ 8 ∧ F 47 16 ≤ 4) : ezw_C l ρ B xa Hb D cA 62 d [ezw_p 1, ezw_p 47, ezw_i (0)] (ezu_g e F A) (ezt_m62_1_47_v0Q e F A c n s nT nH kT kH) := by
  refine ezw_met (k := 1) rfl rfl ?_
  have hn0 := tp.1
  have hn1 := tp.2.1
  obtain ⟨sf, sk, sc, sb, sb2⟩ := id st
  have hP := ezp_Pr tp s.2
  have c3i : s.1 = 0 → F 1 3 = ezp_K c s.2 := fun z => (sc z).2.2.1
  have c8i : s.1 = 0 → F 1 8 = ezp_P c s.2 := fun z => (sc z).1
  have c4i : s.1 = 0 → ezp_K c s.2 = 101 → F 1 4 = ezp_V c s.2 := fun z => (sc z).2.2.2.1
  have c7i : s.1 = 0 → ezp_K c s.2 = 100 → F 1 7 = ezp_v 32 (ezp_W c s.2) ∧ F 1 5 = ezp_ix (ezp_W c s.2) - 44 := fun z => (sc z).2.2.2.2
  have twb := tw
  obtain ⟨rfl, rfl, twc⟩ := twb
  have nt0 := nt.1
  have nh0 := nh.1
  refine ezw_aload_n rfl rfl ?_
  refine ezy_get_i hS rfl rfl rfl rfl rfl rfl (fun u1 hu1 ku1 eu1 => ?_)
  replace eu1 := eu1.symm
  subst eu1
  refine ezw_bipush (100) rfl rfl ?_
  refine ezw_icmp_eq rfl rfl hu1 ⟨by decide, by decide⟩ (fun h6_1 => ?_) (fun h6_1 => ?_)
  · refine ezw_iload_n rfl rfl ?_
    refine ezw_if_eq rfl rfl ⟨by decide, by decide⟩ (fun h17_1 => ?_) (fun h17_1 => absurd h17_1 (by omega))
    refine ezw_aload_n rfl rfl ?_
    refine ezw_aload_n rfl rfl ?_
    refine ezy_get_l hS rfl rfl rfl rfl rfl (fun u2 hu2 eu2 => ?_)
    replace eu2 := eu2.symm
    subst eu2
    refine ezw_call0_1 rfl (by omega) (ezu_at rfl) rfl rfl rfl rfl (ezt_m53_47 hS (by omega) hu2 nt (by omega)) ?_
    rintro _ _ ⟨rfl, u4, hu4, p3_0, fi_3, rfl⟩
    refine ezw_istore_n rfl rfl ?_
    refine ezw_iload_n rfl rfl ?_
    refine ezw_iconst (-1) rfl rfl ?_
    refine ezw_icmp_ne rfl rfl hu4 ⟨by decide, by decide⟩ (fun h42_4 => ?_) (fun h42_4 => ?_)
    · refine ezw_iload_n rfl rfl ?_
      exact ezw_ireturn rfl rfl ⟨F, rfl, hS, (fun _ _ _ => rfl), u4, hu4, by
            unfold ezp_se
            by_cases hz : s.1 = 0
            · have hw7 := c7i hz (by omega)
              have hf := fi_3 _ (ezp_W_ok tp (by omega)) hw7.1
              rw [if_pos ⟨hz, by omega⟩, if_neg (by omega)]
              exact st
            · rw [if_neg (fun z => hz z.1), ezp_wr_n hz]
              exact st, fun z => by
            unfold ezp_se at z
            by_cases hz : s.1 = 0
            · have hw7 := c7i hz (by omega)
              have hf := fi_3 _ (ezp_W_ok tp (by omega)) hw7.1
              rw [if_pos ⟨hz, by omega⟩] at z
              by_cases hm : ezp_fi nT (F 47 15) (ezp_W c s.2) = -1
              · rw [if_pos hm] at z
                exact absurd z (ezp_wr_f (by omega) hP.1)
              · exact ⟨by omega, by omega, by omega, by omega, by omega⟩
            · rw [if_neg (fun y => hz y.1), ezp_wr_n hz] at z
              exact absurd z hz, by omega, rfl⟩
    · refine ezw_aload_n rfl rfl ?_
      refine ezw_iconst (2) rfl rfl ?_
      refine ezw_call0_1 rfl (by omega) (ezu_at rfl) rfl rfl rfl rfl (ezt_m50_1 hS (by omega) ⟨by decide, by decide⟩ hn hc tp st (by omega)) ?_
      rintro _ _ ⟨F5, rfl, hS, nF5, st_5, rfl⟩
      refine ezw_iload_n rfl rfl ?_
      exact ezw_ireturn rfl rfl ⟨F5, rfl, hS, (fun p j h => by rw [nF5 p j (by omega)]), u4, hu4, by
            unfold ezp_se
            by_cases hz : s.1 = 0
            · have hw7 := c7i hz (by omega)
              have hf := fi_3 _ (ezp_W_ok tp (by omega)) hw7.1
              rw [if_pos ⟨hz, by omega⟩, if_pos (by omega)]
              exact st_5
            · have h4 := st_5
              rw [ezp_wr_n hz] at h4
              rw [if_neg (fun z => hz z.1), ezp_wr_n hz]
              exact h4, fun z => by
            unfold ezp_se at z
            by_cases hz : s.1 = 0
            · have hw7 := c7i hz (by omega)
              have hf := fi_3 _ (ezp_W_ok tp (by omega)) hw7.1
              rw [if_pos ⟨hz, by omega⟩] at z
              by_cases hm : ezp_fi nT (F 47 15) (ezp_W c s.2) = -1
              · rw [if_pos hm] at z
                exact absurd z (ezp_wr_f (by omega) hP.1)
              · exact ⟨by omega, by omega, by omega, by omega, by omega⟩
            · rw [if_neg (fun y => hz y.1), ezp_wr_n hz] at z
              exact absurd z hz, by omega, rfl⟩
  · refine ezw_aload_n rfl rfl ?_
    refine ezw_iconst (1) rfl rfl ?_
    refine ezw_call0_1 rfl (by omega) (ezu_at rfl) rfl rfl rfl rfl (ezt_m50_1 hS (by omega) ⟨by decide, by decide⟩ hn hc tp st (by omega)) ?_
    rintro _ _ ⟨F6, rfl, hS, nF6, st_6, rfl⟩
    refine ezw_iconst (-1) rfl rfl ?_
    exact ezw_ireturn rfl rfl ⟨F6, rfl, hS, (fun p j h => by rw [nF6 p j (by omega)]), (-1), ⟨by decide, by decide⟩, by
          unfold ezp_se
          rw [if_neg (by omega)]
          exact st_6, fun z => by
          unfold ezp_se at z
          rw [if_neg (by omega)] at z
          exact absurd z (ezp_wr_f (by omega) hP.1), by omega, rfl⟩
def ezt_m54_58Q (e : Bool × Bool) (F : Nat → Nat → Int) (A : Nat → Int → Int) (a1 : Int) : Option ezq_V → (Nat → ezq_C) → Prop := fun v g' => ezu_g e F A = g' ∧ ∃ u : Int, (ezw_il u) ∧ (0 ≤ a1 → a1 < 4 → u = A 58 a1) ∧ some (ezw_l u) = v
theorem ezt_m54_58 {a1 : Int} {F : Nat → Nat → Int} {A : Nat → Int → Int} (hS : ezs_T F A) (hd : 0 ≤ d) (ha1 : ezw_in a1) : ezw_C l ρ B xa Hb D cA 54 d [ezw_p 58, ezw_i a1] (ezu_g e F A) (ezt_m54_58Q e F A a1) := by
  refine ezw_met (k := 0) rfl rfl ?_
  refine ezw_aload_n rfl rfl ?_
  refine ezw_ifnull rfl ?_
  refine ezw_iload_n rfl rfl ?_
  refine ezw_if_lt rfl rfl ha1 (fun h5_0 => ?_) (fun h5_0 => ?_)
  · refine ezw_lconst (0) rfl rfl ?_
    exact ezw_lreturn rfl rfl ⟨rfl, (0), ⟨by decide, by decide⟩, by omega, rfl⟩
  · refine ezw_iload_n rfl rfl ?_
    refine ezw_aload_n rfl rfl ?_
    refine ezs_alen (k := 4) rfl rfl rfl rfl (by decide) (by decide) ?_
    refine ezw_icmp_ge rfl rfl ha1 ⟨by decide, by decide⟩ (fun h11_0 => ?_) (fun h11_0 => ?_)
    · refine ezw_lconst (0) rfl rfl ?_
      exact ezw_lreturn rfl rfl ⟨rfl, (0), ⟨by decide, by decide⟩, by omega, rfl⟩
    · refine ezw_aload_n rfl rfl ?_
      refine ezw_iload_n rfl rfl ?_
      refine ezy_laload hS rfl rfl rfl (by omega) (by omega) (by decide) (fun u1 hu1 eu1 => ?_)
      refine ezw_goto rfl rfl ?_
      exact ezw_lreturn rfl rfl ⟨rfl, u1, hu1, by omega, rfl⟩
def ezt_m55_47Q (e : Bool × Bool) (F : Nat → Nat → Int) (A : Nat → Int → Int) (nm : Int → List Int) (a1 : Int) : Option ezq_V → (Nat → ezq_C) → Prop := fun v g' => ezu_g e F A = g' ∧ ∃ u : Int, (ezw_in u) ∧ (u = -1 ∨ 0 ≤ u ∧ u < F 47 16) ∧ (∀ l, ezp_ok l → a1 = ezp_v 32 l → u = ezp_fi nm (F 47 16) l) ∧ some (ezw_i u) = v
theorem ezt_m55_47 {nm : Int → List Int} {a1 : Int} {F : Nat → Nat → Int} {A : Nat → Int → Int} (hS : ezs_T F A) (hd : 1 ≤ d) (ha1 : ezw_il a1) (nt : ezt_NM 47 16 58 nm F A) (tw : F 47 16 ≤ 4) : ezw_C l ρ B xa Hb D cA 55 d [ezw_p 47, ezw_l a1] (ezu_g e F A) (ezt_m55_47Q e F A nm a1) := by
  refine ezw_met (k := 1) rfl rfl ?_
  refine ezw_iconst (0) rfl rfl ?_
  refine ezw_istore_n rfl rfl ?_
  have L2_2 : ∀ c1 : Int, ezw_in c1 → ((0) ≤ c1) → (∀ i, 0 ≤ i → i < c1 → A 58 i ≠ a1) → ezw_E l ρ B xa Hb D cA d ezq_re55 (ezt_m55_47Q e F A nm a1) 2 [some (ezw_p 47), some (ezw_l a1), none, some (ezw_i c1)] [] (ezu_g e F A) := by
    refine ezs_up ?_
    intro c1 hc1 ihc1 g_2 no_2
    refine ezw_iload_n rfl rfl ?_
    refine ezw_aload_n rfl rfl ?_
    refine ezy_get_i hS rfl rfl rfl rfl rfl rfl (fun u3 hu3 ku3 eu3 => ?_)
    replace eu3 := eu3.symm
    subst eu3
    refine ezw_icmp_ge rfl rfl hc1 hu3 (fun h7_3 => ?_) (fun h7_3 => ?_)
    · refine ezw_iconst (-1) rfl rfl ?_
      exact ezw_ireturn rfl rfl ⟨rfl, (-1), ⟨by decide, by decide⟩, by omega, fun l hl ha => (ezp_fi_no nt.1 (fun j j0 j1 hj => no_2 j j0 (by omega) (by rw [(nt.2 j j0 j1).2, hj]; exact ha.symm))).symm, rfl⟩
    · refine ezw_aload_n rfl rfl ?_
      refine ezs_getp (p := 58) rfl rfl rfl rfl rfl ?_
      refine ezw_iload_n rfl rfl ?_
      refine ezw_call3_2 rfl (by omega) rfl rfl (ezt_m54_58 hS (by omega) hc1) ?_
      rintro _ _ ⟨rfl, u5, hu5, p4_0, rfl⟩
      refine ezw_lload_n rfl rfl ?_
      refine ezw_lcmpE rfl hu5 ha1 (fun u6 hu6 => ?_)
      refine ezw_if_ne rfl rfl ⟨by omega, by omega⟩ (fun h20_6 => ?_) (fun h20_6 => ?_)
      · refine ezw_iinc (k := c1 + 1) (1) rfl rfl rfl (by omega) rfl ?_
        refine ezw_goto rfl rfl ?_
        exact ezw_keepE [true, true, false, true] (ihc1 (c1 + 1) (by omega) ⟨by omega, by omega⟩ (by omega) (fun i i0 i1 => by
              by_cases hi : i = c1
              · subst hi
                omega
              · exact no_2 i i0 (by omega)))
      · refine ezw_iload_n rfl rfl ?_
        exact ezw_ireturn rfl rfl ⟨rfl, c1, hc1, by omega, fun l hl ha => (ezp_fi_eq nt.1 (by omega) (by omega) (ezp_vinj (Or.inl rfl) _ _ (nt.2 c1 (by omega) (by omega)).1 hl (by rw [← (nt.2 c1 (by omega) (by omega)).2]; omega)) (fun j j0 j1 hj => no_2 j j0 (by omega) (by rw [(nt.2 j j0 (by omega)).2, hj]; exact ha.symm))).symm, rfl⟩
  exact ezw_keepE [true, true, false, true] (L2_2 (0) ⟨by decide, by decide⟩ (by omega) (fun i i0 i1 => by omega))
def ezt_m62_1_47_v1Q (e : Bool × Bool) (F : Nat → Nat → Int) (A : Nat → Int → Int) (c : Int → Int) (n : Int) (s : Int × Int) (nT : Int → List Int) (nH : Int → List Int) (kT : Int) (kH : Int) : Option ezq_V → (Nat → ezq_C) → Prop := fun v g' => ∃ (F' : Nat → Nat → Int), ezu_g e F' A = g' ∧ ezs_T F' A ∧ (∀ p j, ¬ (p = 1 ∧ (j = 6)) → F' p j = F p j) ∧ ∃ u : Int, (ezw_in u) ∧ (ezt_ST c n (ezp_se c nH kH s) F') ∧ ((ezp_se c nH kH s).1 = 0 → u = ezp_fi nH kH (ezp_W c s.2) ∧ 0 ≤ u ∧ u < kH ∧ s.1 = 0 ∧ ezp_K c s.2 = 100) ∧ (-1 ≤ u ∧ u < 4) ∧ some (ezw_i u) = v
theorem ezt_m62_1_47_v1 {c : Int → Int} {n : Int} {s : Int × Int} {nT : Int → List Int} {nH : Int → List Int} {kT : Int} {kH : Int} {F : Nat → Nat → Int} {A : Nat → Int → Int} (hS : ezs_T F A) (hd : 2 ≤ d) (hn : F 1 2 = n) (hc : c = ezp_ch (A 2) n) (tp : ezp_tp c n) (st : ezt_ST c n s F) (nt : ezt_NM 47 15 57 nT F A) (nh : ezt_NM 47 16 58 nH F A) (tw : F 47 15 = kT ∧ F 47 16 = kH ∧ F 47 15 ≤ 8 ∧ F 47 16 ≤ 4) : ezw_C l ρ B xa Hb D cA 62 d [ezw_p 1, ezw_p 47, ezw_i (1)] (ezu_g e F A) (ezt_m62_1_47_v1Q e F A c n s nT nH kT kH) := by
  refine ezw_met (k := 1) rfl rfl ?_
  have hn0 := tp.1
  have hn1 := tp.2.1
  obtain ⟨sf, sk, sc, sb, sb2⟩ := id st
  have hP := ezp_Pr tp s.2
  have c3i : s.1 = 0 → F 1 3 = ezp_K c s.2 := fun z => (sc z).2.2.1
  have c8i : s.1 = 0 → F 1 8 = ezp_P c s.2 := fun z => (sc z).1
  have c4i : s.1 = 0 → ezp_K c s.2 = 101 → F 1 4 = ezp_V c s.2 := fun z => (sc z).2.2.2.1
  have c7i : s.1 = 0 → ezp_K c s.2 = 100 → F 1 7 = ezp_v 32 (ezp_W c s.2) ∧ F 1 5 = ezp_ix (ezp_W c s.2) - 44 := fun z => (sc z).2.2.2.2
  have twb := tw
  obtain ⟨rfl, rfl, twc⟩ := twb
  have nt0 := nt.1
  have nh0 := nh.1
  refine ezw_aload_n rfl rfl ?_
  refine ezy_get_i hS rfl rfl rfl rfl rfl rfl (fun u1 hu1 ku1 eu1 => ?_)
  replace eu1 := eu1.symm
  subst eu1
  refine ezw_bipush (100) rfl rfl ?_
  refine ezw_icmp_eq rfl rfl hu1 ⟨by decide, by decide⟩ (fun h6_1 => ?_) (fun h6_1 => ?_)
  · refine ezw_iload_n rfl rfl ?_
    refine ezw_if_eq rfl rfl ⟨by decide, by decide⟩ (fun h17_1 => absurd h17_1 (by omega)) (fun h17_1 => ?_)
    refine ezw_aload_n rfl rfl ?_
    refine ezw_aload_n rfl rfl ?_
    refine ezy_get_l hS rfl rfl rfl rfl rfl (fun u2 hu2 eu2 => ?_)
    replace eu2 := eu2.symm
    subst eu2
    refine ezw_call0_1 rfl (by omega) (ezu_at rfl) rfl rfl rfl rfl (ezt_m55_47 hS (by omega) hu2 nh (by omega)) ?_
    rintro _ _ ⟨rfl, u4, hu4, p3_0, fi_3, rfl⟩
    refine ezw_goto rfl rfl ?_
    refine ezw_istore_n rfl rfl ?_
    refine ezw_iload_n rfl rfl ?_
    refine ezw_iconst (-1) rfl rfl ?_
    refine ezw_icmp_ne rfl rfl hu4 ⟨by decide, by decide⟩ (fun h42_4 => ?_) (fun h42_4 => ?_)
    · refine ezw_iload_n rfl rfl ?_
      exact ezw_ireturn rfl rfl ⟨F, rfl, hS, (fun _ _ _ => rfl), u4, hu4, by
            unfold ezp_se
            by_cases hz : s.1 = 0
            · have hw7 := c7i hz (by omega)
              have hf := fi_3 _ (ezp_W_ok tp (by omega)) hw7.1
              rw [if_pos ⟨hz, by omega⟩, if_neg (by omega)]
              exact st
            · rw [if_neg (fun z => hz z.1), ezp_wr_n hz]
              exact st, fun z => by
            unfold ezp_se at z
            by_cases hz : s.1 = 0
            · have hw7 := c7i hz (by omega)
              have hf := fi_3 _ (ezp_W_ok tp (by omega)) hw7.1
              rw [if_pos ⟨hz, by omega⟩] at z
              by_cases hm : ezp_fi nH (F 47 16) (ezp_W c s.2) = -1
              · rw [if_pos hm] at z
                exact absurd z (ezp_wr_f (by omega) hP.1)
              · exact ⟨by omega, by omega, by omega, by omega, by omega⟩
            · rw [if_neg (fun y => hz y.1), ezp_wr_n hz] at z
              exact absurd z hz, by omega, rfl⟩
    · refine ezw_aload_n rfl rfl ?_
      refine ezw_iconst (2) rfl rfl ?_
      refine ezw_call0_1 rfl (by omega) (ezu_at rfl) rfl rfl rfl rfl (ezt_m50_1 hS (by omega) ⟨by decide, by decide⟩ hn hc tp st (by omega)) ?_
      rintro _ _ ⟨F5, rfl, hS, nF5, st_5, rfl⟩
      refine ezw_iload_n rfl rfl ?_
      exact ezw_ireturn rfl rfl ⟨F5, rfl, hS, (fun p j h => by rw [nF5 p j (by omega)]), u4, hu4, by
            unfold ezp_se
            by_cases hz : s.1 = 0
            · have hw7 := c7i hz (by omega)
              have hf := fi_3 _ (ezp_W_ok tp (by omega)) hw7.1
              rw [if_pos ⟨hz, by omega⟩, if_pos (by omega)]
              exact st_5
            · have h4 := st_5
              rw [ezp_wr_n hz] at h4
              rw [if_neg (fun z => hz z.1), ezp_wr_n hz]
              exact h4, fun z => by
            unfold ezp_se at z
            by_cases hz : s.1 = 0
            · have hw7 := c7i hz (by omega)
              have hf := fi_3 _ (ezp_W_ok tp (by omega)) hw7.1
              rw [if_pos ⟨hz, by omega⟩] at z
              by_cases hm : ezp_fi nH (F 47 16) (ezp_W c s.2) = -1
              · rw [if_pos hm] at z
                exact absurd z (ezp_wr_f (by omega) hP.1)
              · exact ⟨by omega, by omega, by omega, by omega, by omega⟩
            · rw [if_neg (fun y => hz y.1), ezp_wr_n hz] at z
              exact absurd z hz, by omega, rfl⟩
  · refine ezw_aload_n rfl rfl ?_
    refine ezw_iconst (1) rfl rfl ?_
    refine ezw_call0_1 rfl (by omega) (ezu_at rfl) rfl rfl rfl rfl (ezt_m50_1 hS (by omega) ⟨by decide, by decide⟩ hn hc tp st (by omega)) ?_
    rintro _ _ ⟨F6, rfl, hS, nF6, st_6, rfl⟩
    refine ezw_iconst (-1) rfl rfl ?_
    exact ezw_ireturn rfl rfl ⟨F6, rfl, hS, (fun p j h => by rw [nF6 p j (by omega)]), (-1), ⟨by decide, by decide⟩, by
          unfold ezp_se
          rw [if_neg (by omega)]
          exact st_6, fun z => by
          unfold ezp_se at z
          rw [if_neg (by omega)] at z
          exact absurd z (ezp_wr_f (by omega) hP.1), by omega, rfl⟩
def ezt_m61_1_47_v0Q (e : Bool × Bool) (F : Nat → Nat → Int) (A : Nat → Int → Int) (c : Int → Int) (n : Int) (s : Int × Int) (nT : Int → List Int) (nH : Int → List Int) (kT : Int) (kH : Int) : Option ezq_V → (Nat → ezq_C) → Prop := fun v g' => ∃ (F' : Nat → Nat → Int), ezu_g e F' A = g' ∧ ezs_T F' A ∧ (∀ p j, ¬ (p = 1 ∧ (j = 3 ∨ j = 4 ∨ j = 5 ∨ j = 6 ∨ j = 7 ∨ j = 8 ∨ j = 9)) → F' p j = F p j) ∧ ∃ u : Int, (ezw_in u) ∧ (ezt_ST c n (ezp_ta c nT kT s) F') ∧ ((ezp_ta c nT kT s).1 = 0 → u = ezp_fi nT kT (ezp_W c s.2) ∧ 0 ≤ u ∧ u < kT ∧ s.1 = 0 ∧ ezp_K c s.2 = 100) ∧ (-1 ≤ u ∧ u < 8) ∧ some (ezw_i u) = v
theorem ezt_m61_1_47_v0 {c : Int → Int} {n : Int} {s : Int × Int} {nT : Int → List Int} {nH : Int → List Int} {kT : Int} {kH : Int} {F : Nat → Nat → Int} {A : Nat → Int → Int} (hS : ezs_T F A) (hd : 7 ≤ d) (hn : F 1 2 = n) (hc : c = ezp_ch (A 2) n) (tp : ezp_tp c n) (hw : ∀ j, 0 ≤ j → j < 48 → A 3 j = ezl_cw.getD j.toNat 0) (st : ezt_ST c n s F) (nt : ezt_NM 47 15 57 nT F A) (nh : ezt_NM 47 16 58 nH F A) (tw : F 47 15 = kT ∧ F 47 16 = kH ∧ F 47 15 ≤ 8 ∧ F 47 16 ≤ 4) : ezw_C l ρ B xa Hb D cA 61 d [ezw_p 1, ezw_p 47, ezw_i (0)] (ezu_g e F A) (ezt_m61_1_47_v0Q e F A c n s nT nH kT kH) := by
  refine ezw_met (k := 1) rfl rfl ?_
  refine ezw_aload_n rfl rfl ?_
  refine ezw_aload_n rfl rfl ?_
  refine ezw_iload_n rfl rfl ?_
  refine ezw_call0_2 rfl (by omega) (ezu_at rfl) rfl rfl rfl rfl (ezt_m62_1_47_v0 hS (by omega) hn hc tp st nt nh tw) ?_
  rintro _ _ ⟨F1, rfl, hS, nF1, u2, hu2, st_1, v_1, p1_2, rfl⟩
  have sf2 := st_1.1
  refine ezw_istore_n rfl rfl ?_
  refine ezw_aload_n rfl rfl ?_
  refine ezw_call0_0 rfl (by omega) (ezu_at rfl) rfl rfl rfl rfl (ezt_m45_1 hS (by omega)) ?_
  rintro _ _ ⟨rfl, u4, hu4, p3_0, p3_1, rfl⟩
  refine ezw_if_eq rfl rfl ⟨by omega, by omega⟩ (fun h11_4 => ?_) (fun h11_4 => ?_)
  · refine ezw_iload_n rfl rfl ?_
    exact ezw_ireturn rfl rfl ⟨F1, rfl, hS, (fun p j h => by rw [nF1 p j (by omega)]), u2, hu2, by
          unfold ezp_ta
          rw [ezp_t_n (by omega)]
          exact st_1, fun z => by
          unfold ezp_ta at z
          rw [ezp_t1] at z
          exact v_1 z, by omega, rfl⟩
  · refine ezw_aload_n rfl rfl ?_
    refine ezw_call0_0 rfl (by omega) (ezu_at rfl) rfl rfl rfl rfl (ezt_take hS (by omega) (by rw [nF1 1 2 (by decide)]; exact hn) hc tp hw st_1) ?_
    rintro _ _ ⟨F5, rfl, hS, nF5, st_5, rfl⟩
    refine ezw_iload_n rfl rfl ?_
    exact ezw_ireturn rfl rfl ⟨F5, rfl, hS, (fun p j h => by rw [nF5 p j (by omega), nF1 p j (by omega)]), u2, hu2, st_5, fun z => by
          unfold ezp_ta at z
          rw [ezp_t1] at z
          exact v_1 z, by omega, rfl⟩
def ezt_m61_1_47_v1Q (e : Bool × Bool) (F : Nat → Nat → Int) (A : Nat → Int → Int) (c : Int → Int) (n : Int) (s : Int × Int) (nT : Int → List Int) (nH : Int → List Int) (kT : Int) (kH : Int) : Option ezq_V → (Nat → ezq_C) → Prop := fun v g' => ∃ (F' : Nat → Nat → Int), ezu_g e F' A = g' ∧ ezs_T F' A ∧ (∀ p j, ¬ (p = 1 ∧ (j = 3 ∨ j = 4 ∨ j = 5 ∨ j = 6 ∨ j = 7 ∨ j = 8 ∨ j = 9)) → F' p j = F p j) ∧ ∃ u : Int, (ezw_in u) ∧ (ezt_ST c n (ezp_ta c nH kH s) F') ∧ ((ezp_ta c nH kH s).1 = 0 → u = ezp_fi nH kH (ezp_W c s.2) ∧ 0 ≤ u ∧ u < kH ∧ s.1 = 0 ∧ ezp_K c s.2 = 100) ∧ (-1 ≤ u ∧ u < 4) ∧ some (ezw_i u) = v
theorem ezt_m61_1_47_v1 {c : Int → Int} {n : Int} {s : Int × Int} {nT : Int → List Int} {nH : Int → List Int} {kT : Int} {kH : Int} {F : Nat → Nat → Int} {A : Nat → Int → Int} (hS : ezs_T F A) (hd : 7 ≤ d) (hn : F 1 2 = n) (hc : c = ezp_ch (A 2) n) (tp : ezp_tp c n) (hw : ∀ j, 0 ≤ j → j < 48 → A 3 j = ezl_cw.getD j.toNat 0) (st : ezt_ST c n s F) (nt : ezt_NM 47 15 57 nT F A) (nh : ezt_NM 47 16 58 nH F A) (tw : F 47 15 = kT ∧ F 47 16 = kH ∧ F 47 15 ≤ 8 ∧ F 47 16 ≤ 4) : ezw_C l ρ B xa Hb D cA 61 d [ezw_p 1, ezw_p 47, ezw_i (1)] (ezu_g e F A) (ezt_m61_1_47_v1Q e F A c n s nT nH kT kH) := by
  refine ezw_met (k := 1) rfl rfl ?_
  refine ezw_aload_n rfl rfl ?_
  refine ezw_aload_n rfl rfl ?_
  refine ezw_iload_n rfl rfl ?_
  refine ezw_call0_2 rfl (by omega) (ezu_at rfl) rfl rfl rfl rfl (ezt_m62_1_47_v1 hS (by omega) hn hc tp st nt nh tw) ?_
  rintro _ _ ⟨F1, rfl, hS, nF1, u2, hu2, st_1, v_1, p1_2, rfl⟩
  have sf2 := st_1.1
  refine ezw_istore_n rfl rfl ?_
  refine ezw_aload_n rfl rfl ?_
  refine ezw_call0_0 rfl (by omega) (ezu_at rfl) rfl rfl rfl rfl (ezt_m45_1 hS (by omega)) ?_
  rintro _ _ ⟨rfl, u4, hu4, p3_0, p3_1, rfl⟩
  refine ezw_if_eq rfl rfl ⟨by omega, by omega⟩ (fun h11_4 => ?_) (fun h11_4 => ?_)
  · refine ezw_iload_n rfl rfl ?_
    exact ezw_ireturn rfl rfl ⟨F1, rfl, hS, (fun p j h => by rw [nF1 p j (by omega)]), u2, hu2, by
          unfold ezp_ta
          rw [ezp_t_n (by omega)]
          exact st_1, fun z => by
          unfold ezp_ta at z
          rw [ezp_t1] at z
          exact v_1 z, by omega, rfl⟩
  · refine ezw_aload_n rfl rfl ?_
    refine ezw_call0_0 rfl (by omega) (ezu_at rfl) rfl rfl rfl rfl (ezt_take hS (by omega) (by rw [nF1 1 2 (by decide)]; exact hn) hc tp hw st_1) ?_
    rintro _ _ ⟨F5, rfl, hS, nF5, st_5, rfl⟩
    refine ezw_iload_n rfl rfl ?_
    exact ezw_ireturn rfl rfl ⟨F5, rfl, hS, (fun p j h => by rw [nF5 p j (by omega), nF1 p j (by omega)]), u2, hu2, st_5, fun z => by
          unfold ezp_ta at z
          rw [ezp_t1] at z
          exact v_1 z, by omega, rfl⟩
def ezt_m52_1_47Q (e : Bool × Bool) (F : Nat → Nat → Int) (A : Nat → Int → Int) (c : Int → Int) (n : Int) (s : Int × Int) (nT : Int → List Int) (nH : Int → List Int) (kT : Int) (kH : Int) : Option ezq_V → (Nat → ezq_C) → Prop := fun v g' => ∃ (F' : Nat → Nat → Int), ezu_g e F' A = g' ∧ ezs_T F' A ∧ (∀ p j, ¬ (p = 1 ∧ (j = 3 ∨ j = 4 ∨ j = 5 ∨ j = 6 ∨ j = 7 ∨ j = 8 ∨ j = 9)) → F' p j = F p j) ∧ ∃ u : Int, (ezw_il u) ∧ (ezt_ST c n (ezp_nn c nT kT nH kH s) F') ∧ ((ezp_nn c nT kT nH kH s).1 = 0 → u = ezp_v 32 (ezp_W c s.2) ∧ s.1 = 0 ∧ ezp_K c s.2 = 100 ∧ ezp_fi nT kT (ezp_W c s.2) = -1 ∧ ezp_fi nH kH (ezp_W c s.2) = -1) ∧ some (ezw_l u) = v
theorem ezt_m52_1_47 {c : Int → Int} {n : Int} {s : Int × Int} {nT : Int → List Int} {nH : Int → List Int} {kT : Int} {kH : Int} {F : Nat → Nat → Int} {A : Nat → Int → Int} (hS : ezs_T F A) (hd : 7 ≤ d) (hn : F 1 2 = n) (hc : c = ezp_ch (A 2) n) (tp : ezp_tp c n) (hw : ∀ j, 0 ≤ j → j < 48 → A 3 j = ezl_cw.getD j.toNat 0) (st : ezt_ST c n s F) (nt : ezt_NM 47 15 57 nT F A) (nh : ezt_NM 47 16 58 nH F A) (tw : F 47 15 = kT ∧ F 47 16 = kH ∧ F 47 15 ≤ 8 ∧ F 47 16 ≤ 4) : ezw_C l ρ B xa Hb D cA 52 d [ezw_p 1, ezw_p 47] (ezu_g e F A) (ezt_m52_1_47Q e F A c n s nT nH kT kH) := by
  refine ezw_met (k := 2) rfl rfl ?_
  have hn0 := tp.1
  have hn1 := tp.2.1
  obtain ⟨sf, sk, sc, sb, sb2⟩ := id st
  have hP := ezp_Pr tp s.2
  have c3i : s.1 = 0 → F 1 3 = ezp_K c s.2 := fun z => (sc z).2.2.1
  have c8i : s.1 = 0 → F 1 8 = ezp_P c s.2 := fun z => (sc z).1
  have c4i : s.1 = 0 → ezp_K c s.2 = 101 → F 1 4 = ezp_V c s.2 := fun z => (sc z).2.2.2.1
  have c7i : s.1 = 0 → ezp_K c s.2 = 100 → F 1 7 = ezp_v 32 (ezp_W c s.2) ∧ F 1 5 = ezp_ix (ezp_W c s.2) - 44 := fun z => (sc z).2.2.2.2
  have twb := tw
  obtain ⟨rfl, rfl, twc⟩ := twb
  have nt0 := nt.1
  have nh0 := nh.1
  refine ezw_aload_n rfl rfl ?_
  refine ezy_get_i hS rfl rfl rfl rfl rfl rfl (fun u1 hu1 ku1 eu1 => ?_)
  replace eu1 := eu1.symm
  subst eu1
  refine ezw_bipush (100) rfl rfl ?_
  refine ezw_icmp_eq rfl rfl hu1 ⟨by decide, by decide⟩ (fun h6_1 => ?_) (fun h6_1 => ?_)
  · refine ezw_aload_n rfl rfl ?_
    refine ezy_get_l hS rfl rfl rfl rfl rfl (fun u2 hu2 eu2 => ?_)
    replace eu2 := eu2.symm
    subst eu2
    refine ezw_lstore_n rfl rfl ?_
    refine ezw_aload_n rfl rfl ?_
    refine ezw_lload_n rfl rfl ?_
    refine ezw_call0_1 rfl (by omega) (ezu_at rfl) rfl rfl rfl rfl (ezt_m53_47 hS (by omega) hu2 nt (by omega)) ?_
    rintro _ _ ⟨rfl, u4, hu4, p3_0, fi_3, rfl⟩
    refine ezw_iconst (-1) rfl rfl ?_
    refine ezw_icmp_ne rfl rfl hu4 ⟨by decide, by decide⟩ (fun h27_4 => ?_) (fun h27_4 => ?_)
    · refine ezw_aload_n rfl rfl ?_
      refine ezw_iconst (3) rfl rfl ?_
      refine ezw_call0_1 rfl (by omega) (ezu_at rfl) rfl rfl rfl rfl (ezt_m50_1 hS (by omega) ⟨by decide, by decide⟩ hn hc tp st (by omega)) ?_
      rintro _ _ ⟨F5, rfl, hS, nF5, st_5, rfl⟩
      refine ezw_goto rfl rfl ?_
      refine ezw_lload_n rfl rfl ?_
      exact ezw_lreturn rfl rfl ⟨F5, rfl, hS, (fun p j h => by rw [nF5 p j (by omega)]), (F 1 7), hu2, by
            unfold ezp_nn
            by_cases hz : s.1 = 0
            · have hw7 := c7i hz (by omega)
              have hf53 := fi_3 _ (ezp_W_ok tp (by omega)) hw7.1
              rw [if_pos ⟨hz, by omega⟩, if_pos (by omega)]
              exact st_5
            · have h4 := st_5
              rw [ezp_wr_n hz] at h4
              rw [if_neg (fun z => hz z.1), ezp_wr_n hz]
              exact h4, fun z => by
            unfold ezp_nn at z
            by_cases hz : s.1 = 0
            · have hw7 := c7i hz (by omega)
              have hf53 := fi_3 _ (ezp_W_ok tp (by omega)) hw7.1
              rw [if_pos ⟨hz, by omega⟩] at z
              by_cases hm : ezp_fi nT (F 47 15) (ezp_W c s.2) ≠ -1 ∨ ezp_fi nH (F 47 16) (ezp_W c s.2) ≠ -1
              · rw [if_pos hm] at z
                exact absurd z (ezp_wr_f (by omega) hP.1)
              · exact ⟨by omega, by omega, by omega, by omega, by omega⟩
            · rw [if_neg (fun y => hz y.1), ezp_wr_n hz] at z
              exact absurd z hz, rfl⟩
    · refine ezw_aload_n rfl rfl ?_
      refine ezw_lload_n rfl rfl ?_
      refine ezw_call0_1 rfl (by omega) (ezu_at rfl) rfl rfl rfl rfl (ezt_m55_47 hS (by omega) hu2 nh (by omega)) ?_
      rintro _ _ ⟨rfl, u7, hu7, p6_0, fi_6, rfl⟩
      refine ezw_iconst (-1) rfl rfl ?_
      refine ezw_icmp_eq rfl rfl hu7 ⟨by decide, by decide⟩ (fun h36_7 => ?_) (fun h36_7 => ?_)
      · refine ezw_aload_n rfl rfl ?_
        refine ezw_call0_0 rfl (by omega) (ezu_at rfl) rfl rfl rfl rfl (ezt_take hS (by omega) hn hc tp hw st) ?_
        rintro _ _ ⟨F8, rfl, hS, nF8, st_8, rfl⟩
        refine ezw_lload_n rfl rfl ?_
        exact ezw_lreturn rfl rfl ⟨F8, rfl, hS, (fun p j h => by rw [nF8 p j (by omega)]), (F 1 7), hu2, by
              unfold ezp_nn
              by_cases hz : s.1 = 0
              · have hw7 := c7i hz (by omega)
                have hf53 := fi_3 _ (ezp_W_ok tp (by omega)) hw7.1
                have hf55 := fi_6 _ (ezp_W_ok tp (by omega)) hw7.1
                rw [if_pos ⟨hz, by omega⟩, if_neg (by omega)]
                exact st_8
              · rw [if_neg (fun z => hz z.1), ezp_wr_n hz, ← ezp_t_n hz]
                exact st_8, fun z => by
              unfold ezp_nn at z
              by_cases hz : s.1 = 0
              · have hw7 := c7i hz (by omega)
                have hf53 := fi_3 _ (ezp_W_ok tp (by omega)) hw7.1
                have hf55 := fi_6 _ (ezp_W_ok tp (by omega)) hw7.1
                rw [if_pos ⟨hz, by omega⟩] at z
                by_cases hm : ezp_fi nT (F 47 15) (ezp_W c s.2) ≠ -1 ∨ ezp_fi nH (F 47 16) (ezp_W c s.2) ≠ -1
                · rw [if_pos hm] at z
                  exact absurd z (ezp_wr_f (by omega) hP.1)
                · exact ⟨by omega, by omega, by omega, by omega, by omega⟩
              · rw [if_neg (fun y => hz y.1), ezp_wr_n hz] at z
                exact absurd z hz, rfl⟩
      · refine ezw_aload_n rfl rfl ?_
        refine ezw_iconst (3) rfl rfl ?_
        refine ezw_call0_1 rfl (by omega) (ezu_at rfl) rfl rfl rfl rfl (ezt_m50_1 hS (by omega) ⟨by decide, by decide⟩ hn hc tp st (by omega)) ?_
        rintro _ _ ⟨F9, rfl, hS, nF9, st_9, rfl⟩
        refine ezw_goto rfl rfl ?_
        refine ezw_lload_n rfl rfl ?_
        exact ezw_lreturn rfl rfl ⟨F9, rfl, hS, (fun p j h => by rw [nF9 p j (by omega)]), (F 1 7), hu2, by
              unfold ezp_nn
              by_cases hz : s.1 = 0
              · have hw7 := c7i hz (by omega)
                have hf53 := fi_3 _ (ezp_W_ok tp (by omega)) hw7.1
                have hf55 := fi_6 _ (ezp_W_ok tp (by omega)) hw7.1
                rw [if_pos ⟨hz, by omega⟩, if_pos (by omega)]
                exact st_9
              · have h4 := st_9
                rw [ezp_wr_n hz] at h4
                rw [if_neg (fun z => hz z.1), ezp_wr_n hz]
                exact h4, fun z => by
              unfold ezp_nn at z
              by_cases hz : s.1 = 0
              · have hw7 := c7i hz (by omega)
                have hf53 := fi_3 _ (ezp_W_ok tp (by omega)) hw7.1
                have hf55 := fi_6 _ (ezp_W_ok tp (by omega)) hw7.1
                rw [if_pos ⟨hz, by omega⟩] at z
                by_cases hm : ezp_fi nT (F 47 15) (ezp_W c s.2) ≠ -1 ∨ ezp_fi nH (F 47 16) (ezp_W c s.2) ≠ -1
                · rw [if_pos hm] at z
                  exact absurd z (ezp_wr_f (by omega) hP.1)
                · exact ⟨by omega, by omega, by omega, by omega, by omega⟩
              · rw [if_neg (fun y => hz y.1), ezp_wr_n hz] at z
                exact absurd z hz, rfl⟩
  · refine ezw_aload_n rfl rfl ?_
    refine ezw_iconst (1) rfl rfl ?_
    refine ezw_call0_1 rfl (by omega) (ezu_at rfl) rfl rfl rfl rfl (ezt_m50_1 hS (by omega) ⟨by decide, by decide⟩ hn hc tp st (by omega)) ?_
    rintro _ _ ⟨F10, rfl, hS, nF10, st_10, rfl⟩
    refine ezw_lconst (0) rfl rfl ?_
    exact ezw_lreturn rfl rfl ⟨F10, rfl, hS, (fun p j h => by rw [nF10 p j (by omega)]), (0), ⟨by decide, by decide⟩, by
          unfold ezp_nn
          rw [if_neg (by omega)]
          exact st_10, fun z => by
          unfold ezp_nn at z
          rw [if_neg (by omega)] at z
          exact absurd z (ezp_wr_f (by omega) hP.1), rfl⟩
end KT
