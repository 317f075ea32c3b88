/-! ===== the program: the law of TEAR ===== -/
section KT
variable {l : Launch} {ρ : ezq_E} {B : Nat} {xa : Nat → Option Nat} {Hb : Heap} {D : va_G} {cA : Nat → ClassId} {d : Nat} {e : Bool × Bool}
def ezt_m81_9_1_v4_v5Q (e : Bool × Bool) (F : Nat → Nat → Int) (A : Nat → Int → Int) (c : Int → Int) (n : Int) (x : ezp_X) : Option ezq_V → (Nat → ezq_C) → Prop := fun v g' => ∃ (F' : Nat → Nat → Int) (A' : Nat → Int → Int), ezu_g e F' A' = g' ∧ ezs_T F' A' ∧ (∀ p j, ¬ (p = 1 ∧ (j = 3 ∨ j = 4 ∨ j = 5 ∨ j = 6 ∨ j = 7 ∨ j = 8 ∨ j = 9) ∨ p = 9 ∧ (j = 4)) → F' p j = F p j) ∧ (∀ p, ¬ (p = 10) → A' p = A p) ∧ (ezt_ST c n (ezp_rk c (ezp_pt c 0) 0 x).1 F') ∧ (ezt_LW 9 (ezp_rk c (ezp_pt c 0) 0 x).2 F' A') ∧ none = v
theorem ezt_m81_9_1_v4_v5 {c : Int → Int} {n : Int} {x : ezp_X} {F : Nat → Nat → Int} {A : Nat → Int → Int} (hS : ezs_T F A) (hd : 2 ≤ d) (hn : F 1 2 = n) (hc : c = ezp_ch (A 2) n) (tp : ezp_tp c n) (hw : ∀ j, 0 ≤ j → j < 48 → A 3 j = ezl_cw.getD j.toNat 0) (st : ezt_ST c n x.1 F) (lw : ezt_LW 9 x.2 F A) : ezw_C l ρ B xa Hb D cA 81 d [ezw_p 9, ezw_p 1, ezw_i (4), ezw_i (5)] (ezu_g e F A) (ezt_m81_9_1_v4_v5Q e F A c n x) := by
  refine ezw_met (k := 2) rfl rfl ?_
  refine ezw_iload_n rfl rfl ?_
  refine ezw_iconst (4) rfl rfl ?_
  refine ezw_icmp_lt rfl rfl ⟨by decide, by decide⟩ ⟨by decide, by decide⟩ (fun h2_0 => absurd h2_0 (by omega)) (fun h2_0 => ?_)
  refine ezw_aload_n rfl rfl ?_
  refine ezw_aload_n rfl rfl ?_
  refine ezw_iload_n rfl rfl ?_
  refine ezw_call0_2 rfl (by omega) (ezu_at rfl) rfl rfl rfl rfl (ezt_m82_9_1_v5 (x := x) hS (by omega) hn hc tp hw st lw) ?_
  rintro _ _ ⟨F1, A1, rfl, hS, nF1, nA1, st_1, lw_1, rfl⟩
  exact ezw_return rfl rfl ⟨F1, A1, rfl, hS, (fun p j h => by rw [nF1 p j (by omega)]), (fun p h => by
        funext j
        rw [nA1 p (by omega)]), st_1, lw_1, rfl⟩
def ezt_m81_9_1_v3_v5Q (e : Bool × Bool) (F : Nat → Nat → Int) (A : Nat → Int → Int) (c : Int → Int) (n : Int) (x : ezp_X) : Option ezq_V → (Nat → ezq_C) → Prop := fun v g' => ∃ (F' : Nat → Nat → Int) (A' : Nat → Int → Int), ezu_g e F' A' = g' ∧ ezs_T F' A' ∧ (∀ p j, ¬ (p = 1 ∧ (j = 3 ∨ j = 4 ∨ j = 5 ∨ j = 6 ∨ j = 7 ∨ j = 8 ∨ j = 9) ∨ p = 9 ∧ (j = 4)) → F' p j = F p j) ∧ (∀ p, ¬ (p = 10) → A' p = A p) ∧ (ezt_ST c n (ezp_rk c (ezp_pt c 0) 1 x).1 F') ∧ (ezt_LW 9 (ezp_rk c (ezp_pt c 0) 1 x).2 F' A') ∧ none = v
theorem ezt_m81_9_1_v3_v5 {c : Int → Int} {n : Int} {x : ezp_X} {F : Nat → Nat → Int} {A : Nat → Int → Int} (hS : ezs_T F A) (hd : 7 ≤ d) (hn : F 1 2 = n) (hc : c = ezp_ch (A 2) n) (tp : ezp_tp c n) (hw : ∀ j, 0 ≤ j → j < 48 → A 3 j = ezl_cw.getD j.toNat 0) (st : ezt_ST c n x.1 F) (lw : ezt_LW 9 x.2 F A) : ezw_C l ρ B xa Hb D cA 81 d [ezw_p 9, ezw_p 1, ezw_i (3), ezw_i (5)] (ezu_g e F A) (ezt_m81_9_1_v3_v5Q e F A c n x) := by
  refine ezw_met (k := 2) rfl rfl ?_
  refine ezw_iload_n rfl rfl ?_
  refine ezw_iconst (4) rfl rfl ?_
  refine ezw_icmp_lt rfl rfl ⟨by decide, by decide⟩ ⟨by decide, by decide⟩ (fun h2_0 => ?_) (fun h2_0 => absurd h2_0 (by omega))
  refine ezw_aload_n rfl rfl ?_
  refine ezw_aload_n rfl rfl ?_
  refine ezw_iload_n rfl rfl ?_
  refine ezw_iconst (1) rfl rfl ?_
  refine ezw_iadd (k := (4)) rfl (by omega) ?_
  refine ezw_iload_n rfl rfl ?_
  refine ezw_call0_3 rfl (by omega) (ezu_at rfl) rfl rfl rfl rfl (ezt_m81_9_1_v4_v5 (x := x) hS (by omega) hn hc tp hw st lw) ?_
  rintro _ _ ⟨F1, A1, rfl, hS, nF1, nA1, st_1, lw_1, rfl⟩
  refine ezw_iconst (0) rfl rfl ?_
  refine ezw_istore rfl rfl ?_
  have L24_3 : ∀ c2 : Int, ezw_in c2 → ∀ F_3 : Nat → Nat → Int, ∀ A_3 : Nat → Int → Int, ezs_T F_3 A_3 → (∀ p j, ¬ (p = 1 ∧ (j = 3 ∨ j = 4 ∨ j = 5 ∨ j = 6 ∨ j = 7 ∨ j = 8 ∨ j = 9) ∨ p = 9 ∧ (j = 4)) → F_3 p j = F1 p j) → (∀ p, ¬ (p = 10) → A_3 p = A1 p) → ((0) ≤ c2) → (∃ x1, ezp_rk c (ezp_pt c 0) 1 x = ezp_lp c 3 (ezp_rk c (ezp_pt c 0) 0) (1000 - c2).toNat x1 ∧ ezt_ST c n x1.1 F_3 ∧ ezt_LW 9 x1.2 F_3 A_3) → ezw_E l ρ B xa Hb D cA d ezq_re81 (ezt_m81_9_1_v3_v5Q e F A c n x) 24 [some (ezw_p 9), some (ezw_p 1), some (ezw_i (3)), some (ezw_i (5)), some (ezw_i c2), none] [] (ezu_g e F_3 A_3) := by
    refine ezs_up ?_
    intro c2 hc2 ihc2 F_3 A_3 hS nF_3 nA_3 g_3 iv_3
    obtain ⟨x1, hq, st1, lw1⟩ := iv_3
    have hs1 := st1.1
    refine ezw_iload rfl rfl ?_
    refine ezw_sipush (1000) rfl rfl ?_
    refine ezw_icmp_ge rfl rfl hc2 ⟨by decide, by decide⟩ (fun h29_3 => ?_) (fun h29_3 => ?_)
    · exact ezw_return rfl rfl ⟨F_3, A_3, rfl, hS, (fun p j h => by rw [nF_3 p j (by omega), nF1 p j (by omega)]), (fun p h => by
            funext j
            rw [nA_3 p (by omega), nA1 p (by omega)]), (by
            rw [hq, show (1000 - c2).toNat = 0 by omega]
            exact st1), (by
            rw [hq, show (1000 - c2).toNat = 0 by omega]
            exact lw1), rfl⟩
    · refine ezw_aload_n rfl rfl ?_
      refine ezw_call0_0 rfl (by omega) (ezu_at rfl) rfl rfl rfl rfl (ezt_m45_1 hS (by omega)) ?_
      rintro _ _ ⟨rfl, u5, hu5, p4_0, p4_1, rfl⟩
      refine ezw_if_eq rfl rfl ⟨by omega, by omega⟩ (fun h36_5 => ?_) (fun h36_5 => ?_)
      · exact ezw_return rfl rfl ⟨F_3, A_3, rfl, hS, (fun p j h => by rw [nF_3 p j (by omega), nF1 p j (by omega)]), (fun p h => by
              funext j
              rw [nA_3 p (by omega), nA1 p (by omega)]), (by
              rw [hq, ezp_lp_n (by have h8 := p4_1 (by omega); omega)]
              exact st1), (by
              rw [hq, ezp_lp_n (by have h8 := p4_1 (by omega); omega)]
              exact lw1), rfl⟩
      · have z1 : x1.1.1 = 0 := by have h0 := p4_0 (by omega); omega
        have k3 := (st1.2.2.1 z1).2.2.1
        have hm : (1000 - c2).toNat = (1000 - (c2 + 1)).toNat + 1 := by omega
        refine ezw_aload_n rfl rfl ?_
        refine ezy_get_i hS rfl rfl rfl rfl rfl rfl (fun u6 hu6 ku6 eu6 => ?_)
        replace eu6 := eu6.symm
        subst eu6
        refine ezw_iload_n rfl rfl ?_
        refine ezw_call2_2 rfl (by omega) rfl rfl (ezt_m84_v3 hS (by omega) hu6) ?_
        rintro _ _ ⟨rfl, u8, hu8, v_7, rfl⟩
        refine ezw_istore rfl rfl ?_
        have eo : u8 = ezp_op (ezp_K c x1.1.2) 3 := by rw [← k3]; exact v_7
        refine ezw_iload rfl rfl ?_
        refine ezw_if_ne rfl rfl hu8 (fun h51_8 => ?_) (fun h51_8 => ?_)
        · refine ezw_aload_n rfl rfl ?_
          refine ezw_call0_0 rfl (by omega) (ezu_at rfl) rfl rfl rfl rfl (ezt_take hS (by omega) (by rw [nF_3 1 2 (by decide), nF1 1 2 (by decide)]; exact hn) (by rw [nA_3 2 (by decide), nA1 2 (by decide)]; exact hc) tp (by rw [nA_3 3 (by decide), nA1 3 (by decide)]; exact hw) st1) ?_
          rintro _ _ ⟨F9, rfl, hS, nF9, st_9, rfl⟩
          refine ezw_aload_n rfl rfl ?_
          refine ezw_aload_n rfl rfl ?_
          refine ezw_iload_n rfl rfl ?_
          refine ezw_iconst (1) rfl rfl ?_
          refine ezw_iadd (k := (4)) rfl (by omega) ?_
          refine ezw_iload_n rfl rfl ?_
          refine ezw_call0_3 rfl (by omega) (ezu_at rfl) rfl rfl rfl rfl (ezt_m81_9_1_v4_v5 (x := (ezp_t x1.1, x1.2)) hS (by omega) (by rw [nF9 1 2 (by decide), nF_3 1 2 (by decide), nF1 1 2 (by decide)]; exact hn) (by rw [nA_3 2 (by decide), nA1 2 (by decide)]; exact hc) tp (by rw [nA_3 3 (by decide), nA1 3 (by decide)]; exact hw) st_9 (ezt_LW_fr (F' := F9) (A' := A_3) lw1 (by rw [nF9 9 4 (by decide)]) rfl)) ?_
          rintro _ _ ⟨F10, A10, rfl, hS, nF10, nA10, st_10, lw_10, rfl⟩
          refine ezw_aload_n rfl rfl ?_
          refine ezw_iload rfl rfl ?_
          refine ezw_call0_1 rfl (by omega) (ezu_at rfl) rfl rfl rfl rfl (ezt_m83_9 hS (by omega) hu8 lw_10) ?_
          rintro _ _ ⟨F11, A11, rfl, hS, nF11, nA11, lw_11, rfl⟩
          refine ezw_iload_n rfl rfl ?_
          refine ezw_iconst (1) rfl rfl ?_
          refine ezw_icmp_ne rfl rfl ⟨by decide, by decide⟩ ⟨by decide, by decide⟩ (fun h76_11 => ?_) (fun h76_11 => absurd h76_11 (by omega))
          refine ezw_iinc (k := c2 + 1) (1) rfl rfl rfl (by omega) rfl ?_
          refine ezw_goto rfl rfl ?_
          exact ezw_keepE [true, true, true, true, true, false] (ihc2 (c2 + 1) (by omega) ⟨by omega, by omega⟩ F11 A11 hS (fun p j h => by rw [nF11 p j (by omega), nF10 p j (by omega), nF9 p j (by omega), nF_3 p j (by omega)]) (fun p h => by
                funext j
                rw [nA11 p (by omega), nA10 p (by omega), nA_3 p (by omega)]) (by omega) (⟨ezp_l1 c 3 (ezp_rk c (ezp_pt c 0) 0) x1, (by rw [hq, hm, ezp_lp_s z1 (by omega) (by decide), show (1000 - (c2 + 1)).toNat = (1000 - (c2 + 1)).toNat by omega]), (ezt_ST_fr st_10 (fun j j0 j1 => by rw [nF11 1 j (by omega)])), (by have h7 := lw_11; rw [eo] at h7; exact h7)⟩))
        · exact ezw_return rfl rfl ⟨F_3, A_3, rfl, hS, (fun p j h => by rw [nF_3 p j (by omega), nF1 p j (by omega)]), (fun p h => by
                funext j
                rw [nA_3 p (by omega), nA1 p (by omega)]), (by
                rw [hq, hm, ezp_lp_0 z1 (by omega)]
                exact st1), (by
                rw [hq, hm, ezp_lp_0 z1 (by omega)]
                exact lw1), rfl⟩
  exact ezw_keepE [true, true, true, true, true, false] (L24_3 (0) ⟨by decide, by decide⟩ F1 A1 hS (fun _ _ _ => rfl) (fun _ _ => rfl) (by omega) (⟨(ezp_rk c (ezp_pt c 0) 0) x, rfl, st_1, lw_1⟩))
def ezt_m81_9_1_v2_v5Q (e : Bool × Bool) (F : Nat → Nat → Int) (A : Nat → Int → Int) (c : Int → Int) (n : Int) (x : ezp_X) : Option ezq_V → (Nat → ezq_C) → Prop := fun v g' => ∃ (F' : Nat → Nat → Int) (A' : Nat → Int → Int), ezu_g e F' A' = g' ∧ ezs_T F' A' ∧ (∀ p j, ¬ (p = 1 ∧ (j = 3 ∨ j = 4 ∨ j = 5 ∨ j = 6 ∨ j = 7 ∨ j = 8 ∨ j = 9) ∨ p = 9 ∧ (j = 4)) → F' p j = F p j) ∧ (∀ p, ¬ (p = 10) → A' p = A p) ∧ (ezt_ST c n (ezp_rk c (ezp_pt c 0) 2 x).1 F') ∧ (ezt_LW 9 (ezp_rk c (ezp_pt c 0) 2 x).2 F' A') ∧ none = v
theorem ezt_m81_9_1_v2_v5 {c : Int → Int} {n : Int} {x : ezp_X} {F : Nat → Nat → Int} {A : Nat → Int → Int} (hS : ezs_T F A) (hd : 8 ≤ d) (hn : F 1 2 = n) (hc : c = ezp_ch (A 2) n) (tp : ezp_tp c n) (hw : ∀ j, 0 ≤ j → j < 48 → A 3 j = ezl_cw.getD j.toNat 0) (st : ezt_ST c n x.1 F) (lw : ezt_LW 9 x.2 F A) : ezw_C l ρ B xa Hb D cA 81 d [ezw_p 9, ezw_p 1, ezw_i (2), ezw_i (5)] (ezu_g e F A) (ezt_m81_9_1_v2_v5Q e F A c n x) := by
  refine ezw_met (k := 2) rfl rfl ?_
  refine ezw_iload_n rfl rfl ?_
  refine ezw_iconst (4) rfl rfl ?_
  refine ezw_icmp_lt rfl rfl ⟨by decide, by decide⟩ ⟨by decide, by decide⟩ (fun h2_0 => ?_) (fun h2_0 => absurd h2_0 (by omega))
  refine ezw_aload_n rfl rfl ?_
  refine ezw_aload_n rfl rfl ?_
  refine ezw_iload_n rfl rfl ?_
  refine ezw_iconst (1) rfl rfl ?_
  refine ezw_iadd (k := (3)) rfl (by omega) ?_
  refine ezw_iload_n rfl rfl ?_
  refine ezw_call0_3 rfl (by omega) (ezu_at rfl) rfl rfl rfl rfl (ezt_m81_9_1_v3_v5 (x := x) hS (by omega) hn hc tp hw st lw) ?_
  rintro _ _ ⟨F1, A1, rfl, hS, nF1, nA1, st_1, lw_1, rfl⟩
  refine ezw_iconst (0) rfl rfl ?_
  refine ezw_istore rfl rfl ?_
  have L24_3 : ∀ c2 : Int, ezw_in c2 → ∀ F_3 : Nat → Nat → Int, ∀ A_3 : Nat → Int → Int, ezs_T F_3 A_3 → (∀ p j, ¬ (p = 1 ∧ (j = 3 ∨ j = 4 ∨ j = 5 ∨ j = 6 ∨ j = 7 ∨ j = 8 ∨ j = 9) ∨ p = 9 ∧ (j = 4)) → F_3 p j = F1 p j) → (∀ p, ¬ (p = 10) → A_3 p = A1 p) → ((0) ≤ c2) → (∃ x1, ezp_rk c (ezp_pt c 0) 2 x = ezp_lp c 2 (ezp_rk c (ezp_pt c 0) 1) (1000 - c2).toNat x1 ∧ ezt_ST c n x1.1 F_3 ∧ ezt_LW 9 x1.2 F_3 A_3) → ezw_E l ρ B xa Hb D cA d ezq_re81 (ezt_m81_9_1_v2_v5Q e F A c n x) 24 [some (ezw_p 9), some (ezw_p 1), some (ezw_i (2)), some (ezw_i (5)), some (ezw_i c2), none] [] (ezu_g e F_3 A_3) := by
    refine ezs_up ?_
    intro c2 hc2 ihc2 F_3 A_3 hS nF_3 nA_3 g_3 iv_3
    obtain ⟨x1, hq, st1, lw1⟩ := iv_3
    have hs1 := st1.1
    refine ezw_iload rfl rfl ?_
    refine ezw_sipush (1000) rfl rfl ?_
    refine ezw_icmp_ge rfl rfl hc2 ⟨by decide, by decide⟩ (fun h29_3 => ?_) (fun h29_3 => ?_)
    · exact ezw_return rfl rfl ⟨F_3, A_3, rfl, hS, (fun p j h => by rw [nF_3 p j (by omega), nF1 p j (by omega)]), (fun p h => by
            funext j
            rw [nA_3 p (by omega), nA1 p (by omega)]), (by
            rw [hq, show (1000 - c2).toNat = 0 by omega]
            exact st1), (by
            rw [hq, show (1000 - c2).toNat = 0 by omega]
            exact lw1), rfl⟩
    · refine ezw_aload_n rfl rfl ?_
      refine ezw_call0_0 rfl (by omega) (ezu_at rfl) rfl rfl rfl rfl (ezt_m45_1 hS (by omega)) ?_
      rintro _ _ ⟨rfl, u5, hu5, p4_0, p4_1, rfl⟩
      refine ezw_if_eq rfl rfl ⟨by omega, by omega⟩ (fun h36_5 => ?_) (fun h36_5 => ?_)
      · exact ezw_return rfl rfl ⟨F_3, A_3, rfl, hS, (fun p j h => by rw [nF_3 p j (by omega), nF1 p j (by omega)]), (fun p h => by
              funext j
              rw [nA_3 p (by omega), nA1 p (by omega)]), (by
              rw [hq, ezp_lp_n (by have h8 := p4_1 (by omega); omega)]
              exact st1), (by
              rw [hq, ezp_lp_n (by have h8 := p4_1 (by omega); omega)]
              exact lw1), rfl⟩
      · have z1 : x1.1.1 = 0 := by have h0 := p4_0 (by omega); omega
        have k3 := (st1.2.2.1 z1).2.2.1
        have hm : (1000 - c2).toNat = (1000 - (c2 + 1)).toNat + 1 := by omega
        refine ezw_aload_n rfl rfl ?_
        refine ezy_get_i hS rfl rfl rfl rfl rfl rfl (fun u6 hu6 ku6 eu6 => ?_)
        replace eu6 := eu6.symm
        subst eu6
        refine ezw_iload_n rfl rfl ?_
        refine ezw_call2_2 rfl (by omega) rfl rfl (ezt_m84_v2 hS (by omega) hu6) ?_
        rintro _ _ ⟨rfl, u8, hu8, v_7, rfl⟩
        refine ezw_istore rfl rfl ?_
        have eo : u8 = ezp_op (ezp_K c x1.1.2) 2 := by rw [← k3]; exact v_7
        refine ezw_iload rfl rfl ?_
        refine ezw_if_ne rfl rfl hu8 (fun h51_8 => ?_) (fun h51_8 => ?_)
        · refine ezw_aload_n rfl rfl ?_
          refine ezw_call0_0 rfl (by omega) (ezu_at rfl) rfl rfl rfl rfl (ezt_take hS (by omega) (by rw [nF_3 1 2 (by decide), nF1 1 2 (by decide)]; exact hn) (by rw [nA_3 2 (by decide), nA1 2 (by decide)]; exact hc) tp (by rw [nA_3 3 (by decide), nA1 3 (by decide)]; exact hw) st1) ?_
          rintro _ _ ⟨F9, rfl, hS, nF9, st_9, rfl⟩
          refine ezw_aload_n rfl rfl ?_
          refine ezw_aload_n rfl rfl ?_
          refine ezw_iload_n rfl rfl ?_
          refine ezw_iconst (1) rfl rfl ?_
          refine ezw_iadd (k := (3)) rfl (by omega) ?_
          refine ezw_iload_n rfl rfl ?_
          refine ezw_call0_3 rfl (by omega) (ezu_at rfl) rfl rfl rfl rfl (ezt_m81_9_1_v3_v5 (x := (ezp_t x1.1, x1.2)) hS (by omega) (by rw [nF9 1 2 (by decide), nF_3 1 2 (by decide), nF1 1 2 (by decide)]; exact hn) (by rw [nA_3 2 (by decide), nA1 2 (by decide)]; exact hc) tp (by rw [nA_3 3 (by decide), nA1 3 (by decide)]; exact hw) st_9 (ezt_LW_fr (F' := F9) (A' := A_3) lw1 (by rw [nF9 9 4 (by decide)]) rfl)) ?_
          rintro _ _ ⟨F10, A10, rfl, hS, nF10, nA10, st_10, lw_10, rfl⟩
          refine ezw_aload_n rfl rfl ?_
          refine ezw_iload rfl rfl ?_
          refine ezw_call0_1 rfl (by omega) (ezu_at rfl) rfl rfl rfl rfl (ezt_m83_9 hS (by omega) hu8 lw_10) ?_
          rintro _ _ ⟨F11, A11, rfl, hS, nF11, nA11, lw_11, rfl⟩
          refine ezw_iload_n rfl rfl ?_
          refine ezw_iconst (1) rfl rfl ?_
          refine ezw_icmp_ne rfl rfl ⟨by decide, by decide⟩ ⟨by decide, by decide⟩ (fun h76_11 => ?_) (fun h76_11 => absurd h76_11 (by omega))
          refine ezw_iinc (k := c2 + 1) (1) rfl rfl rfl (by omega) rfl ?_
          refine ezw_goto rfl rfl ?_
          exact ezw_keepE [true, true, true, true, true, false] (ihc2 (c2 + 1) (by omega) ⟨by omega, by omega⟩ F11 A11 hS (fun p j h => by rw [nF11 p j (by omega), nF10 p j (by omega), nF9 p j (by omega), nF_3 p j (by omega)]) (fun p h => by
                funext j
                rw [nA11 p (by omega), nA10 p (by omega), nA_3 p (by omega)]) (by omega) (⟨ezp_l1 c 2 (ezp_rk c (ezp_pt c 0) 1) x1, (by rw [hq, hm, ezp_lp_s z1 (by omega) (by decide), show (1000 - (c2 + 1)).toNat = (1000 - (c2 + 1)).toNat by omega]), (ezt_ST_fr st_10 (fun j j0 j1 => by rw [nF11 1 j (by omega)])), (by have h7 := lw_11; rw [eo] at h7; exact h7)⟩))
        · exact ezw_return rfl rfl ⟨F_3, A_3, rfl, hS, (fun p j h => by rw [nF_3 p j (by omega), nF1 p j (by omega)]), (fun p h => by
                funext j
                rw [nA_3 p (by omega), nA1 p (by omega)]), (by
                rw [hq, hm, ezp_lp_0 z1 (by omega)]
                exact st1), (by
                rw [hq, hm, ezp_lp_0 z1 (by omega)]
                exact lw1), rfl⟩
  exact ezw_keepE [true, true, true, true, true, false] (L24_3 (0) ⟨by decide, by decide⟩ F1 A1 hS (fun _ _ _ => rfl) (fun _ _ => rfl) (by omega) (⟨(ezp_rk c (ezp_pt c 0) 1) x, rfl, st_1, lw_1⟩))
def ezt_m81_9_1_v1_v5Q (e : Bool × Bool) (F : Nat → Nat → Int) (A : Nat → Int → Int) (c : Int → Int) (n : Int) (x : ezp_X) : Option ezq_V → (Nat → ezq_C) → Prop := fun v g' => ∃ (F' : Nat → Nat → Int) (A' : Nat → Int → Int), ezu_g e F' A' = g' ∧ ezs_T F' A' ∧ (∀ p j, ¬ (p = 1 ∧ (j = 3 ∨ j = 4 ∨ j = 5 ∨ j = 6 ∨ j = 7 ∨ j = 8 ∨ j = 9) ∨ p = 9 ∧ (j = 4)) → F' p j = F p j) ∧ (∀ p, ¬ (p = 10) → A' p = A p) ∧ (ezt_ST c n (ezp_rk c (ezp_pt c 0) 3 x).1 F') ∧ (ezt_LW 9 (ezp_rk c (ezp_pt c 0) 3 x).2 F' A') ∧ none = v
theorem ezt_m81_9_1_v1_v5 {c : Int → Int} {n : Int} {x : ezp_X} {F : Nat → Nat → Int} {A : Nat → Int → Int} (hS : ezs_T F A) (hd : 9 ≤ d) (hn : F 1 2 = n) (hc : c = ezp_ch (A 2) n) (tp : ezp_tp c n) (hw : ∀ j, 0 ≤ j → j < 48 → A 3 j = ezl_cw.getD j.toNat 0) (st : ezt_ST c n x.1 F) (lw : ezt_LW 9 x.2 F A) : ezw_C l ρ B xa Hb D cA 81 d [ezw_p 9, ezw_p 1, ezw_i (1), ezw_i (5)] (ezu_g e F A) (ezt_m81_9_1_v1_v5Q e F A c n x) := by
  refine ezw_met (k := 2) rfl rfl ?_
  refine ezw_iload_n rfl rfl ?_
  refine ezw_iconst (4) rfl rfl ?_
  refine ezw_icmp_lt rfl rfl ⟨by decide, by decide⟩ ⟨by decide, by decide⟩ (fun h2_0 => ?_) (fun h2_0 => absurd h2_0 (by omega))
  refine ezw_aload_n rfl rfl ?_
  refine ezw_aload_n rfl rfl ?_
  refine ezw_iload_n rfl rfl ?_
  refine ezw_iconst (1) rfl rfl ?_
  refine ezw_iadd (k := (2)) rfl (by omega) ?_
  refine ezw_iload_n rfl rfl ?_
  refine ezw_call0_3 rfl (by omega) (ezu_at rfl) rfl rfl rfl rfl (ezt_m81_9_1_v2_v5 (x := x) hS (by omega) hn hc tp hw st lw) ?_
  rintro _ _ ⟨F1, A1, rfl, hS, nF1, nA1, st_1, lw_1, rfl⟩
  refine ezw_iconst (0) rfl rfl ?_
  refine ezw_istore rfl rfl ?_
  have L24_3 : ∀ c2 : Int, ezw_in c2 → ∀ F_3 : Nat → Nat → Int, ∀ A_3 : Nat → Int → Int, ezs_T F_3 A_3 → (∀ p j, ¬ (p = 1 ∧ (j = 3 ∨ j = 4 ∨ j = 5 ∨ j = 6 ∨ j = 7 ∨ j = 8 ∨ j = 9) ∨ p = 9 ∧ (j = 4)) → F_3 p j = F1 p j) → (∀ p, ¬ (p = 10) → A_3 p = A1 p) → ((0) ≤ c2) → (∃ x1, ezp_rk c (ezp_pt c 0) 3 x = ezp_lp c 1 (ezp_rk c (ezp_pt c 0) 2) (1000 - c2).toNat x1 ∧ ezt_ST c n x1.1 F_3 ∧ ezt_LW 9 x1.2 F_3 A_3) → ezw_E l ρ B xa Hb D cA d ezq_re81 (ezt_m81_9_1_v1_v5Q e F A c n x) 24 [some (ezw_p 9), some (ezw_p 1), some (ezw_i (1)), some (ezw_i (5)), some (ezw_i c2), none] [] (ezu_g e F_3 A_3) := by
    refine ezs_up ?_
    intro c2 hc2 ihc2 F_3 A_3 hS nF_3 nA_3 g_3 iv_3
    obtain ⟨x1, hq, st1, lw1⟩ := iv_3
    have hs1 := st1.1
    refine ezw_iload rfl rfl ?_
    refine ezw_sipush (1000) rfl rfl ?_
    refine ezw_icmp_ge rfl rfl hc2 ⟨by decide, by decide⟩ (fun h29_3 => ?_) (fun h29_3 => ?_)
    · exact ezw_return rfl rfl ⟨F_3, A_3, rfl, hS, (fun p j h => by rw [nF_3 p j (by omega), nF1 p j (by omega)]), (fun p h => by
            funext j
            rw [nA_3 p (by omega), nA1 p (by omega)]), (by
            rw [hq, show (1000 - c2).toNat = 0 by omega]
            exact st1), (by
            rw [hq, show (1000 - c2).toNat = 0 by omega]
            exact lw1), rfl⟩
    · refine ezw_aload_n rfl rfl ?_
      refine ezw_call0_0 rfl (by omega) (ezu_at rfl) rfl rfl rfl rfl (ezt_m45_1 hS (by omega)) ?_
      rintro _ _ ⟨rfl, u5, hu5, p4_0, p4_1, rfl⟩
      refine ezw_if_eq rfl rfl ⟨by omega, by omega⟩ (fun h36_5 => ?_) (fun h36_5 => ?_)
      · exact ezw_return rfl rfl ⟨F_3, A_3, rfl, hS, (fun p j h => by rw [nF_3 p j (by omega), nF1 p j (by omega)]), (fun p h => by
              funext j
              rw [nA_3 p (by omega), nA1 p (by omega)]), (by
              rw [hq, ezp_lp_n (by have h8 := p4_1 (by omega); omega)]
              exact st1), (by
              rw [hq, ezp_lp_n (by have h8 := p4_1 (by omega); omega)]
              exact lw1), rfl⟩
      · have z1 : x1.1.1 = 0 := by have h0 := p4_0 (by omega); omega
        have k3 := (st1.2.2.1 z1).2.2.1
        have hm : (1000 - c2).toNat = (1000 - (c2 + 1)).toNat + 1 := by omega
        refine ezw_aload_n rfl rfl ?_
        refine ezy_get_i hS rfl rfl rfl rfl rfl rfl (fun u6 hu6 ku6 eu6 => ?_)
        replace eu6 := eu6.symm
        subst eu6
        refine ezw_iload_n rfl rfl ?_
        refine ezw_call2_2 rfl (by omega) rfl rfl (ezt_m84_v1 hS (by omega) hu6) ?_
        rintro _ _ ⟨rfl, u8, hu8, v_7, rfl⟩
        refine ezw_istore rfl rfl ?_
        have eo : u8 = ezp_op (ezp_K c x1.1.2) 1 := by rw [← k3]; exact v_7
        refine ezw_iload rfl rfl ?_
        refine ezw_if_ne rfl rfl hu8 (fun h51_8 => ?_) (fun h51_8 => ?_)
        · refine ezw_aload_n rfl rfl ?_
          refine ezw_call0_0 rfl (by omega) (ezu_at rfl) rfl rfl rfl rfl (ezt_take hS (by omega) (by rw [nF_3 1 2 (by decide), nF1 1 2 (by decide)]; exact hn) (by rw [nA_3 2 (by decide), nA1 2 (by decide)]; exact hc) tp (by rw [nA_3 3 (by decide), nA1 3 (by decide)]; exact hw) st1) ?_
          rintro _ _ ⟨F9, rfl, hS, nF9, st_9, rfl⟩
          refine ezw_aload_n rfl rfl ?_
          refine ezw_aload_n rfl rfl ?_
          refine ezw_iload_n rfl rfl ?_
          refine ezw_iconst (1) rfl rfl ?_
          refine ezw_iadd (k := (2)) rfl (by omega) ?_
          refine ezw_iload_n rfl rfl ?_
          refine ezw_call0_3 rfl (by omega) (ezu_at rfl) rfl rfl rfl rfl (ezt_m81_9_1_v2_v5 (x := (ezp_t x1.1, x1.2)) hS (by omega) (by rw [nF9 1 2 (by decide), nF_3 1 2 (by decide), nF1 1 2 (by decide)]; exact hn) (by rw [nA_3 2 (by decide), nA1 2 (by decide)]; exact hc) tp (by rw [nA_3 3 (by decide), nA1 3 (by decide)]; exact hw) st_9 (ezt_LW_fr (F' := F9) (A' := A_3) lw1 (by rw [nF9 9 4 (by decide)]) rfl)) ?_
          rintro _ _ ⟨F10, A10, rfl, hS, nF10, nA10, st_10, lw_10, rfl⟩
          refine ezw_aload_n rfl rfl ?_
          refine ezw_iload rfl rfl ?_
          refine ezw_call0_1 rfl (by omega) (ezu_at rfl) rfl rfl rfl rfl (ezt_m83_9 hS (by omega) hu8 lw_10) ?_
          rintro _ _ ⟨F11, A11, rfl, hS, nF11, nA11, lw_11, rfl⟩
          refine ezw_iload_n rfl rfl ?_
          refine ezw_iconst (1) rfl rfl ?_
          refine ezw_icmp_ne rfl rfl ⟨by decide, by decide⟩ ⟨by decide, by decide⟩ (fun h76_11 => absurd h76_11 (by omega)) (fun h76_11 => ?_)
          exact ezw_return rfl rfl ⟨F11, A11, rfl, hS, (fun p j h => by rw [nF11 p j (by omega), nF10 p j (by omega), nF9 p j (by omega), nF_3 p j (by omega), nF1 p j (by omega)]), (fun p h => by
                funext j
                rw [nA11 p (by omega), nA10 p (by omega), nA_3 p (by omega), nA1 p (by omega)]), (by
                rw [hq, hm, ezp_lp_1 z1 (by omega) (by decide)]
                exact (ezt_ST_fr st_10 (fun j j0 j1 => by rw [nF11 1 j (by omega)]))), (by
                rw [hq, hm, ezp_lp_1 z1 (by omega) (by decide)]
                exact (by have h7 := lw_11; rw [eo] at h7; exact h7)), rfl⟩
        · exact ezw_return rfl rfl ⟨F_3, A_3, rfl, hS, (fun p j h => by rw [nF_3 p j (by omega), nF1 p j (by omega)]), (fun p h => by
                funext j
                rw [nA_3 p (by omega), nA1 p (by omega)]), (by
                rw [hq, hm, ezp_lp_0 z1 (by omega)]
                exact st1), (by
                rw [hq, hm, ezp_lp_0 z1 (by omega)]
                exact lw1), rfl⟩
  exact ezw_keepE [true, true, true, true, true, false] (L24_3 (0) ⟨by decide, by decide⟩ F1 A1 hS (fun _ _ _ => rfl) (fun _ _ => rfl) (by omega) (⟨(ezp_rk c (ezp_pt c 0) 2) x, rfl, st_1, lw_1⟩))
def ezt_m81_9_1_v0_v5Q (e : Bool × Bool) (F : Nat → Nat → Int) (A : Nat → Int → Int) (c : Int → Int) (n : Int) (x : ezp_X) : Option ezq_V → (Nat → ezq_C) → Prop := fun v g' => ∃ (F' : Nat → Nat → Int) (A' : Nat → Int → Int), ezu_g e F' A' = g' ∧ ezs_T F' A' ∧ (∀ p j, ¬ (p = 1 ∧ (j = 3 ∨ j = 4 ∨ j = 5 ∨ j = 6 ∨ j = 7 ∨ j = 8 ∨ j = 9) ∨ p = 9 ∧ (j = 4)) → F' p j = F p j) ∧ (∀ p, ¬ (p = 10) → A' p = A p) ∧ (ezt_ST c n (ezp_rk c (ezp_pt c 0) 4 x).1 F') ∧ (ezt_LW 9 (ezp_rk c (ezp_pt c 0) 4 x).2 F' A') ∧ none = v
theorem ezt_m81_9_1_v0_v5 {c : Int → Int} {n : Int} {x : ezp_X} {F : Nat → Nat → Int} {A : Nat → Int → Int} (hS : ezs_T F A) (hd : 10 ≤ d) (hn : F 1 2 = n) (hc : c = ezp_ch (A 2) n) (tp : ezp_tp c n) (hw : ∀ j, 0 ≤ j → j < 48 → A 3 j = ezl_cw.getD j.toNat 0) (st : ezt_ST c n x.1 F) (lw : ezt_LW 9 x.2 F A) : ezw_C l ρ B xa Hb D cA 81 d [ezw_p 9, ezw_p 1, ezw_i (0), ezw_i (5)] (ezu_g e F A) (ezt_m81_9_1_v0_v5Q e F A c n x) := by
  refine ezw_met (k := 2) rfl rfl ?_
  refine ezw_iload_n rfl rfl ?_
  refine ezw_iconst (4) rfl rfl ?_
  refine ezw_icmp_lt rfl rfl ⟨by decide, by decide⟩ ⟨by decide, by decide⟩ (fun h2_0 => ?_) (fun h2_0 => absurd h2_0 (by omega))
  refine ezw_aload_n rfl rfl ?_
  refine ezw_aload_n rfl rfl ?_
  refine ezw_iload_n rfl rfl ?_
  refine ezw_iconst (1) rfl rfl ?_
  refine ezw_iadd (k := (1)) rfl (by omega) ?_
  refine ezw_iload_n rfl rfl ?_
  refine ezw_call0_3 rfl (by omega) (ezu_at rfl) rfl rfl rfl rfl (ezt_m81_9_1_v1_v5 (x := x) hS (by omega) hn hc tp hw st lw) ?_
  rintro _ _ ⟨F1, A1, rfl, hS, nF1, nA1, st_1, lw_1, rfl⟩
  refine ezw_iconst (0) rfl rfl ?_
  refine ezw_istore rfl rfl ?_
  have L24_3 : ∀ c2 : Int, ezw_in c2 → ∀ F_3 : Nat → Nat → Int, ∀ A_3 : Nat → Int → Int, ezs_T F_3 A_3 → (∀ p j, ¬ (p = 1 ∧ (j = 3 ∨ j = 4 ∨ j = 5 ∨ j = 6 ∨ j = 7 ∨ j = 8 ∨ j = 9) ∨ p = 9 ∧ (j = 4)) → F_3 p j = F1 p j) → (∀ p, ¬ (p = 10) → A_3 p = A1 p) → ((0) ≤ c2) → (∃ x1, ezp_rk c (ezp_pt c 0) 4 x = ezp_lp c 0 (ezp_rk c (ezp_pt c 0) 3) (1000 - c2).toNat x1 ∧ ezt_ST c n x1.1 F_3 ∧ ezt_LW 9 x1.2 F_3 A_3) → ezw_E l ρ B xa Hb D cA d ezq_re81 (ezt_m81_9_1_v0_v5Q e F A c n x) 24 [some (ezw_p 9), some (ezw_p 1), some (ezw_i (0)), some (ezw_i (5)), some (ezw_i c2), none] [] (ezu_g e F_3 A_3) := by
    refine ezs_up ?_
    intro c2 hc2 ihc2 F_3 A_3 hS nF_3 nA_3 g_3 iv_3
    obtain ⟨x1, hq, st1, lw1⟩ := iv_3
    have hs1 := st1.1
    refine ezw_iload rfl rfl ?_
    refine ezw_sipush (1000) rfl rfl ?_
    refine ezw_icmp_ge rfl rfl hc2 ⟨by decide, by decide⟩ (fun h29_3 => ?_) (fun h29_3 => ?_)
    · exact ezw_return rfl rfl ⟨F_3, A_3, rfl, hS, (fun p j h => by rw [nF_3 p j (by omega), nF1 p j (by omega)]), (fun p h => by
            funext j
            rw [nA_3 p (by omega), nA1 p (by omega)]), (by
            rw [hq, show (1000 - c2).toNat = 0 by omega]
            exact st1), (by
            rw [hq, show (1000 - c2).toNat = 0 by omega]
            exact lw1), rfl⟩
    · refine ezw_aload_n rfl rfl ?_
      refine ezw_call0_0 rfl (by omega) (ezu_at rfl) rfl rfl rfl rfl (ezt_m45_1 hS (by omega)) ?_
      rintro _ _ ⟨rfl, u5, hu5, p4_0, p4_1, rfl⟩
      refine ezw_if_eq rfl rfl ⟨by omega, by omega⟩ (fun h36_5 => ?_) (fun h36_5 => ?_)
      · exact ezw_return rfl rfl ⟨F_3, A_3, rfl, hS, (fun p j h => by rw [nF_3 p j (by omega), nF1 p j (by omega)]), (fun p h => by
              funext j
              rw [nA_3 p (by omega), nA1 p (by omega)]), (by
              rw [hq, ezp_lp_n (by have h8 := p4_1 (by omega); omega)]
              exact st1), (by
              rw [hq, ezp_lp_n (by have h8 := p4_1 (by omega); omega)]
              exact lw1), rfl⟩
      · have z1 : x1.1.1 = 0 := by have h0 := p4_0 (by omega); omega
        have k3 := (st1.2.2.1 z1).2.2.1
        have hm : (1000 - c2).toNat = (1000 - (c2 + 1)).toNat + 1 := by omega
        refine ezw_aload_n rfl rfl ?_
        refine ezy_get_i hS rfl rfl rfl rfl rfl rfl (fun u6 hu6 ku6 eu6 => ?_)
        replace eu6 := eu6.symm
        subst eu6
        refine ezw_iload_n rfl rfl ?_
        refine ezw_call2_2 rfl (by omega) rfl rfl (ezt_m84_v0 hS (by omega) hu6) ?_
        rintro _ _ ⟨rfl, u8, hu8, v_7, rfl⟩
        refine ezw_istore rfl rfl ?_
        have eo : u8 = ezp_op (ezp_K c x1.1.2) 0 := by rw [← k3]; exact v_7
        refine ezw_iload rfl rfl ?_
        refine ezw_if_ne rfl rfl hu8 (fun h51_8 => ?_) (fun h51_8 => ?_)
        · refine ezw_aload_n rfl rfl ?_
          refine ezw_call0_0 rfl (by omega) (ezu_at rfl) rfl rfl rfl rfl (ezt_take hS (by omega) (by rw [nF_3 1 2 (by decide), nF1 1 2 (by decide)]; exact hn) (by rw [nA_3 2 (by decide), nA1 2 (by decide)]; exact hc) tp (by rw [nA_3 3 (by decide), nA1 3 (by decide)]; exact hw) st1) ?_
          rintro _ _ ⟨F9, rfl, hS, nF9, st_9, rfl⟩
          refine ezw_aload_n rfl rfl ?_
          refine ezw_aload_n rfl rfl ?_
          refine ezw_iload_n rfl rfl ?_
          refine ezw_iconst (1) rfl rfl ?_
          refine ezw_iadd (k := (1)) rfl (by omega) ?_
          refine ezw_iload_n rfl rfl ?_
          refine ezw_call0_3 rfl (by omega) (ezu_at rfl) rfl rfl rfl rfl (ezt_m81_9_1_v1_v5 (x := (ezp_t x1.1, x1.2)) hS (by omega) (by rw [nF9 1 2 (by decide), nF_3 1 2 (by decide), nF1 1 2 (by decide)]; exact hn) (by rw [nA_3 2 (by decide), nA1 2 (by decide)]; exact hc) tp (by rw [nA_3 3 (by decide), nA1 3 (by decide)]; exact hw) st_9 (ezt_LW_fr (F' := F9) (A' := A_3) lw1 (by rw [nF9 9 4 (by decide)]) rfl)) ?_
          rintro _ _ ⟨F10, A10, rfl, hS, nF10, nA10, st_10, lw_10, rfl⟩
          refine ezw_aload_n rfl rfl ?_
          refine ezw_iload rfl rfl ?_
          refine ezw_call0_1 rfl (by omega) (ezu_at rfl) rfl rfl rfl rfl (ezt_m83_9 hS (by omega) hu8 lw_10) ?_
          rintro _ _ ⟨F11, A11, rfl, hS, nF11, nA11, lw_11, rfl⟩
          refine ezw_iload_n rfl rfl ?_
          refine ezw_iconst (1) rfl rfl ?_
          refine ezw_icmp_ne rfl rfl ⟨by decide, by decide⟩ ⟨by decide, by decide⟩ (fun h76_11 => ?_) (fun h76_11 => absurd h76_11 (by omega))
          refine ezw_iinc (k := c2 + 1) (1) rfl rfl rfl (by omega) rfl ?_
          refine ezw_goto rfl rfl ?_
          exact ezw_keepE [true, true, true, true, true, false] (ihc2 (c2 + 1) (by omega) ⟨by omega, by omega⟩ F11 A11 hS (fun p j h => by rw [nF11 p j (by omega), nF10 p j (by omega), nF9 p j (by omega), nF_3 p j (by omega)]) (fun p h => by
                funext j
                rw [nA11 p (by omega), nA10 p (by omega), nA_3 p (by omega)]) (by omega) (⟨ezp_l1 c 0 (ezp_rk c (ezp_pt c 0) 3) x1, (by rw [hq, hm, ezp_lp_s z1 (by omega) (by decide), show (1000 - (c2 + 1)).toNat = (1000 - (c2 + 1)).toNat by omega]), (ezt_ST_fr st_10 (fun j j0 j1 => by rw [nF11 1 j (by omega)])), (by have h7 := lw_11; rw [eo] at h7; exact h7)⟩))
        · exact ezw_return rfl rfl ⟨F_3, A_3, rfl, hS, (fun p j h => by rw [nF_3 p j (by omega), nF1 p j (by omega)]), (fun p h => by
                funext j
                rw [nA_3 p (by omega), nA1 p (by omega)]), (by
                rw [hq, hm, ezp_lp_0 z1 (by omega)]
                exact st1), (by
                rw [hq, hm, ezp_lp_0 z1 (by omega)]
                exact lw1), rfl⟩
  exact ezw_keepE [true, true, true, true, true, false] (L24_3 (0) ⟨by decide, by decide⟩ F1 A1 hS (fun _ _ _ => rfl) (fun _ _ => rfl) (by omega) (⟨(ezp_rk c (ezp_pt c 0) 3) x, rfl, st_1, lw_1⟩))
def ezt_m82_9_1_v4Q (e : Bool × Bool) (F : Nat → Nat → Int) (A : Nat → Int → Int) (c : Int → Int) (n : Int) (x : ezp_X) : Option ezq_V → (Nat → ezq_C) → Prop := fun v g' => ∃ (F' : Nat → Nat → Int) (A' : Nat → Int → Int), ezu_g e F' A' = g' ∧ ezs_T F' A' ∧ (∀ p j, ¬ (p = 1 ∧ (j = 3 ∨ j = 4 ∨ j = 5 ∨ j = 6 ∨ j = 7 ∨ j = 8 ∨ j = 9) ∨ p = 9 ∧ (j = 4)) → F' p j = F p j) ∧ (∀ p, ¬ (p = 10) → A' p = A p) ∧ (ezt_ST c n (ezp_pt c 1 x).1 F') ∧ (ezt_LW 9 (ezp_pt c 1 x).2 F' A') ∧ none = v
theorem ezt_m82_9_1_v4 {c : Int → Int} {n : Int} {x : ezp_X} {F : Nat → Nat → Int} {A : Nat → Int → Int} (hS : ezs_T F A) (hd : 11 ≤ d) (hn : F 1 2 = n) (hc : c = ezp_ch (A 2) n) (tp : ezp_tp c n) (hw : ∀ j, 0 ≤ j → j < 48 → A 3 j = ezl_cw.getD j.toNat 0) (st : ezt_ST c n x.1 F) (lw : ezt_LW 9 x.2 F A) : ezw_C l ρ B xa Hb D cA 82 d [ezw_p 9, ezw_p 1, ezw_i (4)] (ezu_g e F A) (ezt_m82_9_1_v4Q e F A c n x) := by
  refine ezw_met (k := 2) rfl rfl ?_
  have hn0 := tp.1
  have hn1 := tp.2.1
  obtain ⟨sf, sk, sc, sb, sb2⟩ := id st
  have hP := ezp_Pr tp x.1.2
  have c3i : x.1.1 = 0 → F 1 3 = ezp_K c x.1.2 := fun z => (sc z).2.2.1
  have c8i : x.1.1 = 0 → F 1 8 = ezp_P c x.1.2 := fun z => (sc z).1
  have c4i : x.1.1 = 0 → ezp_K c x.1.2 = 101 → F 1 4 = ezp_V c x.1.2 := fun z => (sc z).2.2.2.1
  have c7i : x.1.1 = 0 → ezp_K c x.1.2 = 100 → F 1 7 = ezp_v 32 (ezp_W c x.1.2) ∧ F 1 5 = ezp_ix (ezp_W c x.1.2) - 44 := fun z => (sc z).2.2.2.2
  refine ezw_aload_n rfl rfl ?_
  refine ezw_bipush (100) rfl rfl ?_
  refine ezw_call0_1 rfl (by omega) (ezu_at rfl) rfl rfl rfl rfl (ezt_m46_1 hS (by omega) ⟨by decide, by decide⟩ hn hc tp st) ?_
  rintro _ _ ⟨rfl, u2, hu2, p1_0, p1_1, rfl⟩
  have J21_4 : ∀ y3 : Int, ezw_in y3 → (y3 = 1 ∧ (x.1.1 = 0 ∧ ezp_K c x.1.2 = 100 ∧ 0 ≤ ezp_ix (ezp_W c x.1.2) - 44) ∨ y3 = 0 ∧ ¬ (x.1.1 = 0 ∧ ezp_K c x.1.2 = 100 ∧ 0 ≤ ezp_ix (ezp_W c x.1.2) - 44)) → ezw_E l ρ B xa Hb D cA d ezq_re82 (ezt_m82_9_1_v4Q e F A c n x) 21 [some (ezw_p 9), some (ezw_p 1), some (ezw_i (4)), none, none] [ezw_i y3] (ezu_g e F A) := by
    intro y3 hy3 jf_4
    refine ezw_istore_n rfl rfl ?_
    refine ezw_iload_n rfl rfl ?_
    have J59_6 : ∀ y5 : Int, ezw_in y5 → (y5 = 1 ∧ ((x.1.1 = 0 ∧ ezp_K c x.1.2 = 100 ∧ 0 ≤ ezp_ix (ezp_W c x.1.2) - 44) ∨ x.1.1 = 0 ∧ (ezp_K c x.1.2 = 101 ∨ ezp_K c x.1.2 = 41 ∨ ezp_K c x.1.2 = 240)) ∨ y5 = 0 ∧ ¬ ((x.1.1 = 0 ∧ ezp_K c x.1.2 = 100 ∧ 0 ≤ ezp_ix (ezp_W c x.1.2) - 44) ∨ x.1.1 = 0 ∧ (ezp_K c x.1.2 = 101 ∨ ezp_K c x.1.2 = 41 ∨ ezp_K c x.1.2 = 240))) → ezw_E l ρ B xa Hb D cA d ezq_re82 (ezt_m82_9_1_v4Q e F A c n x) 59 [some (ezw_p 9), some (ezw_p 1), some (ezw_i (4)), some (ezw_i y3), none] [ezw_i y5] (ezu_g e F A) := by
      intro y5 hy5 jp_6
      refine ezw_istore rfl rfl ?_
      refine ezw_iload rfl rfl ?_
      refine ezw_if_eq rfl rfl hy5 (fun h63_6 => ?_) (fun h63_6 => ?_)
      · refine ezw_aload_n rfl rfl ?_
        refine ezw_iload rfl rfl ?_
        refine ezw_if_eq rfl rfl hy5 (fun h74_6 => ?_) (fun h74_6 => ?_)
        · refine ezw_iconst (1) rfl rfl ?_
          refine ezw_call0_1 rfl (by omega) (ezu_at rfl) rfl rfl rfl rfl (ezt_m50_1 hS (by omega) ⟨by decide, by decide⟩ hn hc tp st (by omega)) ?_
          rintro _ _ ⟨F7, rfl, hS, nF7, st_7, rfl⟩
          refine ezw_goto rfl rfl ?_
          exact ezw_return rfl rfl ⟨F7, A, rfl, hS, (fun p j h => by rw [nF7 p j (by omega)]), (fun _ _ => rfl), (by
                first
                  | (exfalso; omega)
                  | (rw [ezp_pt_s]
                     repeat (first | rw [if_pos (by omega)] | rw [if_neg (by omega)])
                     exact st_7)), (by
                first
                  | (exfalso; omega)
                  | (rw [ezp_pt_s]
                     repeat (first | rw [if_pos (by omega)] | rw [if_neg (by omega)])
                     exact (ezt_LW_fr (F' := F7) (A' := A) lw (by rw [nF7 9 4 (by decide)]) rfl))), rfl⟩
        · refine ezw_iconst (5) rfl rfl ?_
          refine ezw_goto rfl rfl ?_
          refine ezw_call0_1 rfl (by omega) (ezu_at rfl) rfl rfl rfl rfl (ezt_m50_1 hS (by omega) ⟨by decide, by decide⟩ hn hc tp st (by omega)) ?_
          rintro _ _ ⟨F8, rfl, hS, nF8, st_8, rfl⟩
          refine ezw_goto rfl rfl ?_
          exact ezw_return rfl rfl ⟨F8, A, rfl, hS, (fun p j h => by rw [nF8 p j (by omega)]), (fun _ _ => rfl), (by
                first
                  | (exfalso; omega)
                  | (rw [ezp_pt_s]
                     repeat (first | rw [if_pos (by omega)] | rw [if_neg (by omega)])
                     exact st_8)), (by
                first
                  | (exfalso; omega)
                  | (rw [ezp_pt_s]
                     repeat (first | rw [if_pos (by omega)] | rw [if_neg (by omega)])
                     exact (ezt_LW_fr (F' := F8) (A' := A) lw (by rw [nF8 9 4 (by decide)]) rfl))), rfl⟩
      · refine ezw_iload_n rfl rfl ?_
        refine ezw_iconst (5) rfl rfl ?_
        refine ezw_icmp_lt rfl rfl ⟨by decide, by decide⟩ ⟨by decide, by decide⟩ (fun h68_8 => ?_) (fun h68_8 => absurd h68_8 (by omega))
        refine ezw_iload_n rfl rfl ?_
        refine ezw_if_eq rfl rfl hy3 (fun h89_8 => ?_) (fun h89_8 => ?_)
        · refine ezw_aload_n rfl rfl ?_
          refine ezw_bipush (101) rfl rfl ?_
          refine ezw_call0_1 rfl (by omega) (ezu_at rfl) rfl rfl rfl rfl (ezt_m46_1 hS (by omega) ⟨by decide, by decide⟩ hn hc tp st) ?_
          rintro _ _ ⟨rfl, u10, hu10, p9_0, p9_1, rfl⟩
          refine ezw_if_eq rfl rfl ⟨by omega, by omega⟩ (fun h115_10 => ?_) (fun h115_10 => ?_)
          · refine ezw_aload_n rfl rfl ?_
            refine ezw_bipush (41) rfl rfl ?_
            refine ezw_call0_1 rfl (by omega) (ezu_at rfl) rfl rfl rfl rfl (ezt_m46_1 hS (by omega) ⟨by decide, by decide⟩ hn hc tp st) ?_
            rintro _ _ ⟨rfl, u12, hu12, p11_0, p11_1, rfl⟩
            refine ezw_if_eq rfl rfl ⟨by omega, by omega⟩ (fun h139_12 => ?_) (fun h139_12 => ?_)
            · refine ezw_aload_n rfl rfl ?_
              refine ezw_call0_0 rfl (by omega) (ezu_at rfl) rfl rfl rfl rfl (ezt_take hS (by omega) hn hc tp hw st) ?_
              rintro _ _ ⟨F13, rfl, hS, nF13, st_13, rfl⟩
              refine ezw_aload_n rfl rfl ?_
              refine ezw_aload_n rfl rfl ?_
              refine ezw_iconst (0) rfl rfl ?_
              refine ezw_iload_n rfl rfl ?_
              refine ezw_iconst (1) rfl rfl ?_
              refine ezw_iadd (k := (5)) rfl (by omega) ?_
              refine ezw_call0_3 rfl (by omega) (ezu_at rfl) rfl rfl rfl rfl (ezt_m81_9_1_v0_v5 (x := (ezp_t x.1, x.2)) hS (by omega) (by rw [nF13 1 2 (by decide)]; exact hn) hc tp hw st_13 (ezt_LW_fr (F' := F13) (A' := A) lw (by rw [nF13 9 4 (by decide)]) rfl)) ?_
              rintro _ _ ⟨F14, A14, rfl, hS, nF14, nA14, st_14, lw_14, rfl⟩
              refine ezw_aload_n rfl rfl ?_
              refine ezw_sipush (241) rfl rfl ?_
              refine ezw_call0_1 rfl (by omega) (ezu_at rfl) rfl rfl rfl rfl (ezt_m46_1 hS (by omega) ⟨by decide, by decide⟩ (by rw [nF14 1 2 (by decide), nF13 1 2 (by decide)]; exact hn) (by rw [nA14 2 (by decide)]; exact hc) tp st_14) ?_
              rintro _ _ ⟨rfl, u16, hu16, p15_0, p15_1, rfl⟩
              refine ezw_if_eq rfl rfl ⟨by omega, by omega⟩ (fun h183_16 => ?_) (fun h183_16 => ?_)
              · refine ezw_aload_n rfl rfl ?_
                refine ezw_iconst (1) rfl rfl ?_
                refine ezw_call0_1 rfl (by omega) (ezu_at rfl) rfl rfl rfl rfl (ezt_m50_1 hS (by omega) ⟨by decide, by decide⟩ (by rw [nF14 1 2 (by decide), nF13 1 2 (by decide)]; exact hn) (by rw [nA14 2 (by decide)]; exact hc) tp st_14 (by omega)) ?_
                rintro _ _ ⟨F17, rfl, hS, nF17, st_17, rfl⟩
                exact ezw_return rfl rfl ⟨F17, A14, rfl, hS, (fun p j h => by rw [nF17 p j (by omega), nF14 p j (by omega), nF13 p j (by omega)]), (fun p h => by
                      funext j
                      rw [nA14 p (by omega)]), (by
                      first
                        | (exfalso; omega)
                        | (rw [ezp_pt_s]
                           repeat (first | rw [if_pos (by omega)] | rw [if_neg (by omega)])
                           show ezt_ST c n (ezp_cl c _) _
                           unfold ezp_cl
                           rw [if_neg (fun z => (p15_1 (by omega)).elim (fun y => y z.1) (fun y => y z.2))]
                           exact st_17)), (by
                      first
                        | (exfalso; omega)
                        | (rw [ezp_pt_s]
                           repeat (first | rw [if_pos (by omega)] | rw [if_neg (by omega)])
                           exact (ezt_LW_fr (F' := F17) (A' := A14) lw_14 (by rw [nF17 9 4 (by decide)]) rfl))), rfl⟩
              · refine ezw_aload_n rfl rfl ?_
                refine ezw_call0_0 rfl (by omega) (ezu_at rfl) rfl rfl rfl rfl (ezt_take hS (by omega) (by rw [nF14 1 2 (by decide), nF13 1 2 (by decide)]; exact hn) (by rw [nA14 2 (by decide)]; exact hc) tp (by rw [nA14 3 (by decide)]; exact hw) st_14) ?_
                rintro _ _ ⟨F18, rfl, hS, nF18, st_18, rfl⟩
                refine ezw_goto rfl rfl ?_
                exact ezw_return rfl rfl ⟨F18, A14, rfl, hS, (fun p j h => by rw [nF18 p j (by omega), nF14 p j (by omega), nF13 p j (by omega)]), (fun p h => by
                      funext j
                      rw [nA14 p (by omega)]), (by
                      first
                        | (exfalso; omega)
                        | (rw [ezp_pt_s]
                           repeat (first | rw [if_pos (by omega)] | rw [if_neg (by omega)])
                           show ezt_ST c n (ezp_cl c _) _
                           unfold ezp_cl
                           rw [if_pos (p15_0 (by omega))]
                           exact st_18)), (by
                      first
                        | (exfalso; omega)
                        | (rw [ezp_pt_s]
                           repeat (first | rw [if_pos (by omega)] | rw [if_neg (by omega)])
                           exact (ezt_LW_fr (F' := F18) (A' := A14) lw_14 (by rw [nF18 9 4 (by decide)]) rfl))), rfl⟩
            · refine ezw_aload_n rfl rfl ?_
              refine ezw_call0_0 rfl (by omega) (ezu_at rfl) rfl rfl rfl rfl (ezt_take hS (by omega) hn hc tp hw st) ?_
              rintro _ _ ⟨F19, rfl, hS, nF19, st_19, rfl⟩
              refine ezw_aload_n rfl rfl ?_
              refine ezw_aload_n rfl rfl ?_
              refine ezw_iload_n rfl rfl ?_
              refine ezw_iconst (1) rfl rfl ?_
              refine ezw_iadd (k := (5)) rfl (by omega) ?_
              refine ezw_call0_2 rfl (by omega) (ezu_at rfl) rfl rfl rfl rfl (ezt_m82_9_1_v5 (x := (ezp_t x.1, x.2)) hS (by omega) (by rw [nF19 1 2 (by decide)]; exact hn) hc tp hw st_19 (ezt_LW_fr (F' := F19) (A' := A) lw (by rw [nF19 9 4 (by decide)]) rfl)) ?_
              rintro _ _ ⟨F20, A20, rfl, hS, nF20, nA20, st_20, lw_20, rfl⟩
              refine ezw_aload_n rfl rfl ?_
              refine ezw_bipush (-5) rfl rfl ?_
              refine ezw_call0_1 rfl (by omega) (ezu_at rfl) rfl rfl rfl rfl (ezt_m83_9 hS (by omega) ⟨by decide, by decide⟩ lw_20) ?_
              rintro _ _ ⟨F21, A21, rfl, hS, nF21, nA21, lw_21, rfl⟩
              refine ezw_goto rfl rfl ?_
              exact ezw_return rfl rfl ⟨F21, A21, rfl, hS, (fun p j h => by rw [nF21 p j (by omega), nF20 p j (by omega), nF19 p j (by omega)]), (fun p h => by
                    funext j
                    rw [nA21 p (by omega), nA20 p (by omega)]), (by
                    first
                      | (exfalso; omega)
                      | (rw [ezp_pt_s]
                         repeat (first | rw [if_pos (by omega)] | rw [if_neg (by omega)])
                         exact (ezt_ST_fr st_20 (fun j j0 j1 => by rw [nF21 1 j (by omega)])))), (by
                    first
                      | (exfalso; omega)
                      | (rw [ezp_pt_s]
                         repeat (first | rw [if_pos (by omega)] | rw [if_neg (by omega)])
                         exact lw_21)), rfl⟩
          · refine ezw_aload_n rfl rfl ?_
            refine ezw_aload_n rfl rfl ?_
            refine ezy_get_i hS rfl rfl rfl rfl rfl rfl (fun u22 hu22 ku22 eu22 => ?_)
            replace eu22 := eu22.symm
            subst eu22
            have ru22 : 0 ≤ (F 1 4) ∧ (F 1 4) ≤ 9999 := ku22
            have f4 := c4i (by omega) (by omega)
            refine ezw_call0_1 rfl (by omega) (ezu_at rfl) rfl rfl rfl rfl (ezt_m83_9 hS (by omega) hu22 lw) ?_
            rintro _ _ ⟨F23, A23, rfl, hS, nF23, nA23, lw_23, rfl⟩
            refine ezw_aload_n rfl rfl ?_
            refine ezw_call0_0 rfl (by omega) (ezu_at rfl) rfl rfl rfl rfl (ezt_take hS (by omega) (by rw [nF23 1 2 (by decide)]; exact hn) (by rw [nA23 2 (by decide)]; exact hc) tp (by rw [nA23 3 (by decide)]; exact hw) (ezt_ST_fr st (fun j j0 j1 => by rw [nF23 1 j (by omega)]))) ?_
            rintro _ _ ⟨F24, rfl, hS, nF24, st_24, rfl⟩
            refine ezw_goto rfl rfl ?_
            exact ezw_return rfl rfl ⟨F24, A23, rfl, hS, (fun p j h => by rw [nF24 p j (by omega), nF23 p j (by omega)]), (fun p h => by
                  funext j
                  rw [nA23 p (by omega)]), (by
                  first
                    | (exfalso; omega)
                    | (rw [ezp_pt_s]
                       repeat (first | rw [if_pos (by omega)] | rw [if_neg (by omega)])
                       exact st_24)), (by
                  first
                    | (exfalso; omega)
                    | (rw [ezp_pt_s]
                       repeat (first | rw [if_pos (by omega)] | rw [if_neg (by omega)])
                       have h7 := (ezt_LW_fr (F' := F24) (A' := A23) lw_23 (by rw [nF24 9 4 (by decide)]) rfl)
                       rw [show (F 1 4) = ezp_V c x.1.2 by omega] at h7
                       exact h7)), rfl⟩
        · refine ezw_aload_n rfl rfl ?_
          refine ezw_iconst (-1) rfl rfl ?_
          refine ezw_aload_n rfl rfl ?_
          refine ezy_get_i hS rfl rfl rfl rfl rfl rfl (fun u25 hu25 ku25 eu25 => ?_)
          replace eu25 := eu25.symm
          subst eu25
          refine ezw_isub (k := -(F 1 5) - 1) rfl (by omega) ?_
          have f5 := (c7i (by omega) (by omega)).2
          refine ezw_call0_1 rfl (by omega) (ezu_at rfl) rfl rfl rfl rfl (ezt_m83_9 hS (by omega) ⟨by omega, by omega⟩ lw) ?_
          rintro _ _ ⟨F26, A26, rfl, hS, nF26, nA26, lw_26, rfl⟩
          refine ezw_aload_n rfl rfl ?_
          refine ezw_call0_0 rfl (by omega) (ezu_at rfl) rfl rfl rfl rfl (ezt_take hS (by omega) (by rw [nF26 1 2 (by decide)]; exact hn) (by rw [nA26 2 (by decide)]; exact hc) tp (by rw [nA26 3 (by decide)]; exact hw) (ezt_ST_fr st (fun j j0 j1 => by rw [nF26 1 j (by omega)]))) ?_
          rintro _ _ ⟨F27, rfl, hS, nF27, st_27, rfl⟩
          refine ezw_goto rfl rfl ?_
          exact ezw_return rfl rfl ⟨F27, A26, rfl, hS, (fun p j h => by rw [nF27 p j (by omega), nF26 p j (by omega)]), (fun p h => by
                funext j
                rw [nA26 p (by omega)]), (by
                first
                  | (exfalso; omega)
                  | (rw [ezp_pt_s]
                     repeat (first | rw [if_pos (by omega)] | rw [if_neg (by omega)])
                     exact st_27)), (by
                first
                  | (exfalso; omega)
                  | (rw [ezp_pt_s]
                     repeat (first | rw [if_pos (by omega)] | rw [if_neg (by omega)])
                     have h7 := (ezt_LW_fr (F' := F27) (A' := A26) lw_26 (by rw [nF27 9 4 (by decide)]) rfl)
                     rw [show -(F 1 5) - 1 = -1 - (ezp_ix (ezp_W c x.1.2) - 44) by omega] at h7
                     exact h7)), rfl⟩
    refine ezw_if_ne rfl rfl hy3 (fun h23_4 => ?_) (fun h23_4 => ?_)
    · refine ezw_iconst (1) rfl rfl ?_
      refine ezw_goto rfl rfl ?_
      exact ezw_keepE [true, true, true, true, false] (J59_6 (1) ⟨by decide, by decide⟩ (by omega))
    · refine ezw_aload_n rfl rfl ?_
      refine ezw_bipush (101) rfl rfl ?_
      refine ezw_call0_1 rfl (by omega) (ezu_at rfl) rfl rfl rfl rfl (ezt_m46_1 hS (by omega) ⟨by decide, by decide⟩ hn hc tp st) ?_
      rintro _ _ ⟨rfl, u29, hu29, p28_0, p28_1, rfl⟩
      refine ezw_if_ne rfl rfl ⟨by omega, by omega⟩ (fun h32_29 => ?_) (fun h32_29 => ?_)
      · refine ezw_iconst (1) rfl rfl ?_
        refine ezw_goto rfl rfl ?_
        exact ezw_keepE [true, true, true, true, false] (J59_6 (1) ⟨by decide, by decide⟩ (by omega))
      · refine ezw_aload_n rfl rfl ?_
        refine ezw_bipush (41) rfl rfl ?_
        refine ezw_call0_1 rfl (by omega) (ezu_at rfl) rfl rfl rfl rfl (ezt_m46_1 hS (by omega) ⟨by decide, by decide⟩ hn hc tp st) ?_
        rintro _ _ ⟨rfl, u31, hu31, p30_0, p30_1, rfl⟩
        refine ezw_if_ne rfl rfl ⟨by omega, by omega⟩ (fun h41_31 => ?_) (fun h41_31 => ?_)
        · refine ezw_iconst (1) rfl rfl ?_
          refine ezw_goto rfl rfl ?_
          exact ezw_keepE [true, true, true, true, false] (J59_6 (1) ⟨by decide, by decide⟩ (by omega))
        · refine ezw_aload_n rfl rfl ?_
          refine ezw_sipush (240) rfl rfl ?_
          refine ezw_call0_1 rfl (by omega) (ezu_at rfl) rfl rfl rfl rfl (ezt_m46_1 hS (by omega) ⟨by decide, by decide⟩ hn hc tp st) ?_
          rintro _ _ ⟨rfl, u33, hu33, p32_0, p32_1, rfl⟩
          refine ezw_if_eq rfl rfl ⟨by omega, by omega⟩ (fun h51_33 => ?_) (fun h51_33 => ?_)
          · refine ezw_iconst (0) rfl rfl ?_
            exact ezw_keepE [true, true, true, true, false] (J59_6 (0) ⟨by decide, by decide⟩ (by omega))
          · refine ezw_iconst (1) rfl rfl ?_
            refine ezw_goto rfl rfl ?_
            exact ezw_keepE [true, true, true, true, false] (J59_6 (1) ⟨by decide, by decide⟩ (by omega))
  refine ezw_if_eq rfl rfl ⟨by omega, by omega⟩ (fun h6_2 => ?_) (fun h6_2 => ?_)
  · refine ezw_iconst (0) rfl rfl ?_
    exact ezw_keepE [true, true, true, false, false] (J21_4 (0) ⟨by decide, by decide⟩ (by omega))
  · refine ezw_aload_n rfl rfl ?_
    have f5 := (c7i (p1_0 (by omega)).1 (p1_0 (by omega)).2).2
    refine ezy_get_i hS rfl rfl rfl rfl rfl rfl (fun u34 hu34 ku34 eu34 => ?_)
    replace eu34 := eu34.symm
    subst eu34
    refine ezw_if_lt rfl rfl hu34 (fun h13_34 => ?_) (fun h13_34 => ?_)
    · refine ezw_iconst (0) rfl rfl ?_
      exact ezw_keepE [true, true, true, false, false] (J21_4 (0) ⟨by decide, by decide⟩ (by omega))
    · refine ezw_iconst (1) rfl rfl ?_
      refine ezw_goto rfl rfl ?_
      exact ezw_keepE [true, true, true, false, false] (J21_4 (1) ⟨by decide, by decide⟩ (by omega))
def ezt_m81_9_1_v4_v4Q (e : Bool × Bool) (F : Nat → Nat → Int) (A : Nat → Int → Int) (c : Int → Int) (n : Int) (x : ezp_X) : Option ezq_V → (Nat → ezq_C) → Prop := fun v g' => ∃ (F' : Nat → Nat → Int) (A' : Nat → Int → Int), ezu_g e F' A' = g' ∧ ezs_T F' A' ∧ (∀ p j, ¬ (p = 1 ∧ (j = 3 ∨ j = 4 ∨ j = 5 ∨ j = 6 ∨ j = 7 ∨ j = 8 ∨ j = 9) ∨ p = 9 ∧ (j = 4)) → F' p j = F p j) ∧ (∀ p, ¬ (p = 10) → A' p = A p) ∧ (ezt_ST c n (ezp_rk c (ezp_pt c 1) 0 x).1 F') ∧ (ezt_LW 9 (ezp_rk c (ezp_pt c 1) 0 x).2 F' A') ∧ none = v
theorem ezt_m81_9_1_v4_v4 {c : Int → Int} {n : Int} {x : ezp_X} {F : Nat → Nat → Int} {A : Nat → Int → Int} (hS : ezs_T F A) (hd : 12 ≤ d) (hn : F 1 2 = n) (hc : c = ezp_ch (A 2) n) (tp : ezp_tp c n) (hw : ∀ j, 0 ≤ j → j < 48 → A 3 j = ezl_cw.getD j.toNat 0) (st : ezt_ST c n x.1 F) (lw : ezt_LW 9 x.2 F A) : ezw_C l ρ B xa Hb D cA 81 d [ezw_p 9, ezw_p 1, ezw_i (4), ezw_i (4)] (ezu_g e F A) (ezt_m81_9_1_v4_v4Q e F A c n x) := by
  refine ezw_met (k := 2) rfl rfl ?_
  refine ezw_iload_n rfl rfl ?_
  refine ezw_iconst (4) rfl rfl ?_
  refine ezw_icmp_lt rfl rfl ⟨by decide, by decide⟩ ⟨by decide, by decide⟩ (fun h2_0 => absurd h2_0 (by omega)) (fun h2_0 => ?_)
  refine ezw_aload_n rfl rfl ?_
  refine ezw_aload_n rfl rfl ?_
  refine ezw_iload_n rfl rfl ?_
  refine ezw_call0_2 rfl (by omega) (ezu_at rfl) rfl rfl rfl rfl (ezt_m82_9_1_v4 (x := x) hS (by omega) hn hc tp hw st lw) ?_
  rintro _ _ ⟨F1, A1, rfl, hS, nF1, nA1, st_1, lw_1, rfl⟩
  exact ezw_return rfl rfl ⟨F1, A1, rfl, hS, (fun p j h => by rw [nF1 p j (by omega)]), (fun p h => by
        funext j
        rw [nA1 p (by omega)]), st_1, lw_1, rfl⟩
def ezt_m81_9_1_v3_v4Q (e : Bool × Bool) (F : Nat → Nat → Int) (A : Nat → Int → Int) (c : Int → Int) (n : Int) (x : ezp_X) : Option ezq_V → (Nat → ezq_C) → Prop := fun v g' => ∃ (F' : Nat → Nat → Int) (A' : Nat → Int → Int), ezu_g e F' A' = g' ∧ ezs_T F' A' ∧ (∀ p j, ¬ (p = 1 ∧ (j = 3 ∨ j = 4 ∨ j = 5 ∨ j = 6 ∨ j = 7 ∨ j = 8 ∨ j = 9) ∨ p = 9 ∧ (j = 4)) → F' p j = F p j) ∧ (∀ p, ¬ (p = 10) → A' p = A p) ∧ (ezt_ST c n (ezp_rk c (ezp_pt c 1) 1 x).1 F') ∧ (ezt_LW 9 (ezp_rk c (ezp_pt c 1) 1 x).2 F' A') ∧ none = v
theorem ezt_m81_9_1_v3_v4 {c : Int → Int} {n : Int} {x : ezp_X} {F : Nat → Nat → Int} {A : Nat → Int → Int} (hS : ezs_T F A) (hd : 13 ≤ d) (hn : F 1 2 = n) (hc : c = ezp_ch (A 2) n) (tp : ezp_tp c n) (hw : ∀ j, 0 ≤ j → j < 48 → A 3 j = ezl_cw.getD j.toNat 0) (st : ezt_ST c n x.1 F) (lw : ezt_LW 9 x.2 F A) : ezw_C l ρ B xa Hb D cA 81 d [ezw_p 9, ezw_p 1, ezw_i (3), ezw_i (4)] (ezu_g e F A) (ezt_m81_9_1_v3_v4Q e F A c n x) := by
  refine ezw_met (k := 2) rfl rfl ?_
  refine ezw_iload_n rfl rfl ?_
  refine ezw_iconst (4) rfl rfl ?_
  refine ezw_icmp_lt rfl rfl ⟨by decide, by decide⟩ ⟨by decide, by decide⟩ (fun h2_0 => ?_) (fun h2_0 => absurd h2_0 (by omega))
  refine ezw_aload_n rfl rfl ?_
  refine ezw_aload_n rfl rfl ?_
  refine ezw_iload_n rfl rfl ?_
  refine ezw_iconst (1) rfl rfl ?_
  refine ezw_iadd (k := (4)) rfl (by omega) ?_
  refine ezw_iload_n rfl rfl ?_
  refine ezw_call0_3 rfl (by omega) (ezu_at rfl) rfl rfl rfl rfl (ezt_m81_9_1_v4_v4 (x := x) hS (by omega) hn hc tp hw st lw) ?_
  rintro _ _ ⟨F1, A1, rfl, hS, nF1, nA1, st_1, lw_1, rfl⟩
  refine ezw_iconst (0) rfl rfl ?_
  refine ezw_istore rfl rfl ?_
  have L24_3 : ∀ c2 : Int, ezw_in c2 → ∀ F_3 : Nat → Nat → Int, ∀ A_3 : Nat → Int → Int, ezs_T F_3 A_3 → (∀ p j, ¬ (p = 1 ∧ (j = 3 ∨ j = 4 ∨ j = 5 ∨ j = 6 ∨ j = 7 ∨ j = 8 ∨ j = 9) ∨ p = 9 ∧ (j = 4)) → F_3 p j = F1 p j) → (∀ p, ¬ (p = 10) → A_3 p = A1 p) → ((0) ≤ c2) → (∃ x1, ezp_rk c (ezp_pt c 1) 1 x = ezp_lp c 3 (ezp_rk c (ezp_pt c 1) 0) (1000 - c2).toNat x1 ∧ ezt_ST c n x1.1 F_3 ∧ ezt_LW 9 x1.2 F_3 A_3) → ezw_E l ρ B xa Hb D cA d ezq_re81 (ezt_m81_9_1_v3_v4Q e F A c n x) 24 [some (ezw_p 9), some (ezw_p 1), some (ezw_i (3)), some (ezw_i (4)), some (ezw_i c2), none] [] (ezu_g e F_3 A_3) := by
    refine ezs_up ?_
    intro c2 hc2 ihc2 F_3 A_3 hS nF_3 nA_3 g_3 iv_3
    obtain ⟨x1, hq, st1, lw1⟩ := iv_3
    have hs1 := st1.1
    refine ezw_iload rfl rfl ?_
    refine ezw_sipush (1000) rfl rfl ?_
    refine ezw_icmp_ge rfl rfl hc2 ⟨by decide, by decide⟩ (fun h29_3 => ?_) (fun h29_3 => ?_)
    · exact ezw_return rfl rfl ⟨F_3, A_3, rfl, hS, (fun p j h => by rw [nF_3 p j (by omega), nF1 p j (by omega)]), (fun p h => by
            funext j
            rw [nA_3 p (by omega), nA1 p (by omega)]), (by
            rw [hq, show (1000 - c2).toNat = 0 by omega]
            exact st1), (by
            rw [hq, show (1000 - c2).toNat = 0 by omega]
            exact lw1), rfl⟩
    · refine ezw_aload_n rfl rfl ?_
      refine ezw_call0_0 rfl (by omega) (ezu_at rfl) rfl rfl rfl rfl (ezt_m45_1 hS (by omega)) ?_
      rintro _ _ ⟨rfl, u5, hu5, p4_0, p4_1, rfl⟩
      refine ezw_if_eq rfl rfl ⟨by omega, by omega⟩ (fun h36_5 => ?_) (fun h36_5 => ?_)
      · exact ezw_return rfl rfl ⟨F_3, A_3, rfl, hS, (fun p j h => by rw [nF_3 p j (by omega), nF1 p j (by omega)]), (fun p h => by
              funext j
              rw [nA_3 p (by omega), nA1 p (by omega)]), (by
              rw [hq, ezp_lp_n (by have h8 := p4_1 (by omega); omega)]
              exact st1), (by
              rw [hq, ezp_lp_n (by have h8 := p4_1 (by omega); omega)]
              exact lw1), rfl⟩
      · have z1 : x1.1.1 = 0 := by have h0 := p4_0 (by omega); omega
        have k3 := (st1.2.2.1 z1).2.2.1
        have hm : (1000 - c2).toNat = (1000 - (c2 + 1)).toNat + 1 := by omega
        refine ezw_aload_n rfl rfl ?_
        refine ezy_get_i hS rfl rfl rfl rfl rfl rfl (fun u6 hu6 ku6 eu6 => ?_)
        replace eu6 := eu6.symm
        subst eu6
        refine ezw_iload_n rfl rfl ?_
        refine ezw_call2_2 rfl (by omega) rfl rfl (ezt_m84_v3 hS (by omega) hu6) ?_
        rintro _ _ ⟨rfl, u8, hu8, v_7, rfl⟩
        refine ezw_istore rfl rfl ?_
        have eo : u8 = ezp_op (ezp_K c x1.1.2) 3 := by rw [← k3]; exact v_7
        refine ezw_iload rfl rfl ?_
        refine ezw_if_ne rfl rfl hu8 (fun h51_8 => ?_) (fun h51_8 => ?_)
        · refine ezw_aload_n rfl rfl ?_
          refine ezw_call0_0 rfl (by omega) (ezu_at rfl) rfl rfl rfl rfl (ezt_take hS (by omega) (by rw [nF_3 1 2 (by decide), nF1 1 2 (by decide)]; exact hn) (by rw [nA_3 2 (by decide), nA1 2 (by decide)]; exact hc) tp (by rw [nA_3 3 (by decide), nA1 3 (by decide)]; exact hw) st1) ?_
          rintro _ _ ⟨F9, rfl, hS, nF9, st_9, rfl⟩
          refine ezw_aload_n rfl rfl ?_
          refine ezw_aload_n rfl rfl ?_
          refine ezw_iload_n rfl rfl ?_
          refine ezw_iconst (1) rfl rfl ?_
          refine ezw_iadd (k := (4)) rfl (by omega) ?_
          refine ezw_iload_n rfl rfl ?_
          refine ezw_call0_3 rfl (by omega) (ezu_at rfl) rfl rfl rfl rfl (ezt_m81_9_1_v4_v4 (x := (ezp_t x1.1, x1.2)) hS (by omega) (by rw [nF9 1 2 (by decide), nF_3 1 2 (by decide), nF1 1 2 (by decide)]; exact hn) (by rw [nA_3 2 (by decide), nA1 2 (by decide)]; exact hc) tp (by rw [nA_3 3 (by decide), nA1 3 (by decide)]; exact hw) st_9 (ezt_LW_fr (F' := F9) (A' := A_3) lw1 (by rw [nF9 9 4 (by decide)]) rfl)) ?_
          rintro _ _ ⟨F10, A10, rfl, hS, nF10, nA10, st_10, lw_10, rfl⟩
          refine ezw_aload_n rfl rfl ?_
          refine ezw_iload rfl rfl ?_
          refine ezw_call0_1 rfl (by omega) (ezu_at rfl) rfl rfl rfl rfl (ezt_m83_9 hS (by omega) hu8 lw_10) ?_
          rintro _ _ ⟨F11, A11, rfl, hS, nF11, nA11, lw_11, rfl⟩
          refine ezw_iload_n rfl rfl ?_
          refine ezw_iconst (1) rfl rfl ?_
          refine ezw_icmp_ne rfl rfl ⟨by decide, by decide⟩ ⟨by decide, by decide⟩ (fun h76_11 => ?_) (fun h76_11 => absurd h76_11 (by omega))
          refine ezw_iinc (k := c2 + 1) (1) rfl rfl rfl (by omega) rfl ?_
          refine ezw_goto rfl rfl ?_
          exact ezw_keepE [true, true, true, true, true, false] (ihc2 (c2 + 1) (by omega) ⟨by omega, by omega⟩ F11 A11 hS (fun p j h => by rw [nF11 p j (by omega), nF10 p j (by omega), nF9 p j (by omega), nF_3 p j (by omega)]) (fun p h => by
                funext j
                rw [nA11 p (by omega), nA10 p (by omega), nA_3 p (by omega)]) (by omega) (⟨ezp_l1 c 3 (ezp_rk c (ezp_pt c 1) 0) x1, (by rw [hq, hm, ezp_lp_s z1 (by omega) (by decide), show (1000 - (c2 + 1)).toNat = (1000 - (c2 + 1)).toNat by omega]), (ezt_ST_fr st_10 (fun j j0 j1 => by rw [nF11 1 j (by omega)])), (by have h7 := lw_11; rw [eo] at h7; exact h7)⟩))
        · exact ezw_return rfl rfl ⟨F_3, A_3, rfl, hS, (fun p j h => by rw [nF_3 p j (by omega), nF1 p j (by omega)]), (fun p h => by
                funext j
                rw [nA_3 p (by omega), nA1 p (by omega)]), (by
                rw [hq, hm, ezp_lp_0 z1 (by omega)]
                exact st1), (by
                rw [hq, hm, ezp_lp_0 z1 (by omega)]
                exact lw1), rfl⟩
  exact ezw_keepE [true, true, true, true, true, false] (L24_3 (0) ⟨by decide, by decide⟩ F1 A1 hS (fun _ _ _ => rfl) (fun _ _ => rfl) (by omega) (⟨(ezp_rk c (ezp_pt c 1) 0) x, rfl, st_1, lw_1⟩))
def ezt_m81_9_1_v2_v4Q (e : Bool × Bool) (F : Nat → Nat → Int) (A : Nat → Int → Int) (c : Int → Int) (n : Int) (x : ezp_X) : Option ezq_V → (Nat → ezq_C) → Prop := fun v g' => ∃ (F' : Nat → Nat → Int) (A' : Nat → Int → Int), ezu_g e F' A' = g' ∧ ezs_T F' A' ∧ (∀ p j, ¬ (p = 1 ∧ (j = 3 ∨ j = 4 ∨ j = 5 ∨ j = 6 ∨ j = 7 ∨ j = 8 ∨ j = 9) ∨ p = 9 ∧ (j = 4)) → F' p j = F p j) ∧ (∀ p, ¬ (p = 10) → A' p = A p) ∧ (ezt_ST c n (ezp_rk c (ezp_pt c 1) 2 x).1 F') ∧ (ezt_LW 9 (ezp_rk c (ezp_pt c 1) 2 x).2 F' A') ∧ none = v
theorem ezt_m81_9_1_v2_v4 {c : Int → Int} {n : Int} {x : ezp_X} {F : Nat → Nat → Int} {A : Nat → Int → Int} (hS : ezs_T F A) (hd : 14 ≤ d) (hn : F 1 2 = n) (hc : c = ezp_ch (A 2) n) (tp : ezp_tp c n) (hw : ∀ j, 0 ≤ j → j < 48 → A 3 j = ezl_cw.getD j.toNat 0) (st : ezt_ST c n x.1 F) (lw : ezt_LW 9 x.2 F A) : ezw_C l ρ B xa Hb D cA 81 d [ezw_p 9, ezw_p 1, ezw_i (2), ezw_i (4)] (ezu_g e F A) (ezt_m81_9_1_v2_v4Q e F A c n x) := by
  refine ezw_met (k := 2) rfl rfl ?_
  refine ezw_iload_n rfl rfl ?_
  refine ezw_iconst (4) rfl rfl ?_
  refine ezw_icmp_lt rfl rfl ⟨by decide, by decide⟩ ⟨by decide, by decide⟩ (fun h2_0 => ?_) (fun h2_0 => absurd h2_0 (by omega))
  refine ezw_aload_n rfl rfl ?_
  refine ezw_aload_n rfl rfl ?_
  refine ezw_iload_n rfl rfl ?_
  refine ezw_iconst (1) rfl rfl ?_
  refine ezw_iadd (k := (3)) rfl (by omega) ?_
  refine ezw_iload_n rfl rfl ?_
  refine ezw_call0_3 rfl (by omega) (ezu_at rfl) rfl rfl rfl rfl (ezt_m81_9_1_v3_v4 (x := x) hS (by omega) hn hc tp hw st lw) ?_
  rintro _ _ ⟨F1, A1, rfl, hS, nF1, nA1, st_1, lw_1, rfl⟩
  refine ezw_iconst (0) rfl rfl ?_
  refine ezw_istore rfl rfl ?_
  have L24_3 : ∀ c2 : Int, ezw_in c2 → ∀ F_3 : Nat → Nat → Int, ∀ A_3 : Nat → Int → Int, ezs_T F_3 A_3 → (∀ p j, ¬ (p = 1 ∧ (j = 3 ∨ j = 4 ∨ j = 5 ∨ j = 6 ∨ j = 7 ∨ j = 8 ∨ j = 9) ∨ p = 9 ∧ (j = 4)) → F_3 p j = F1 p j) → (∀ p, ¬ (p = 10) → A_3 p = A1 p) → ((0) ≤ c2) → (∃ x1, ezp_rk c (ezp_pt c 1) 2 x = ezp_lp c 2 (ezp_rk c (ezp_pt c 1) 1) (1000 - c2).toNat x1 ∧ ezt_ST c n x1.1 F_3 ∧ ezt_LW 9 x1.2 F_3 A_3) → ezw_E l ρ B xa Hb D cA d ezq_re81 (ezt_m81_9_1_v2_v4Q e F A c n x) 24 [some (ezw_p 9), some (ezw_p 1), some (ezw_i (2)), some (ezw_i (4)), some (ezw_i c2), none] [] (ezu_g e F_3 A_3) := by
    refine ezs_up ?_
    intro c2 hc2 ihc2 F_3 A_3 hS nF_3 nA_3 g_3 iv_3
    obtain ⟨x1, hq, st1, lw1⟩ := iv_3
    have hs1 := st1.1
    refine ezw_iload rfl rfl ?_
    refine ezw_sipush (1000) rfl rfl ?_
    refine ezw_icmp_ge rfl rfl hc2 ⟨by decide, by decide⟩ (fun h29_3 => ?_) (fun h29_3 => ?_)
    · exact ezw_return rfl rfl ⟨F_3, A_3, rfl, hS, (fun p j h => by rw [nF_3 p j (by omega), nF1 p j (by omega)]), (fun p h => by
            funext j
            rw [nA_3 p (by omega), nA1 p (by omega)]), (by
            rw [hq, show (1000 - c2).toNat = 0 by omega]
            exact st1), (by
            rw [hq, show (1000 - c2).toNat = 0 by omega]
            exact lw1), rfl⟩
    · refine ezw_aload_n rfl rfl ?_
      refine ezw_call0_0 rfl (by omega) (ezu_at rfl) rfl rfl rfl rfl (ezt_m45_1 hS (by omega)) ?_
      rintro _ _ ⟨rfl, u5, hu5, p4_0, p4_1, rfl⟩
      refine ezw_if_eq rfl rfl ⟨by omega, by omega⟩ (fun h36_5 => ?_) (fun h36_5 => ?_)
      · exact ezw_return rfl rfl ⟨F_3, A_3, rfl, hS, (fun p j h => by rw [nF_3 p j (by omega), nF1 p j (by omega)]), (fun p h => by
              funext j
              rw [nA_3 p (by omega), nA1 p (by omega)]), (by
              rw [hq, ezp_lp_n (by have h8 := p4_1 (by omega); omega)]
              exact st1), (by
              rw [hq, ezp_lp_n (by have h8 := p4_1 (by omega); omega)]
              exact lw1), rfl⟩
      · have z1 : x1.1.1 = 0 := by have h0 := p4_0 (by omega); omega
        have k3 := (st1.2.2.1 z1).2.2.1
        have hm : (1000 - c2).toNat = (1000 - (c2 + 1)).toNat + 1 := by omega
        refine ezw_aload_n rfl rfl ?_
        refine ezy_get_i hS rfl rfl rfl rfl rfl rfl (fun u6 hu6 ku6 eu6 => ?_)
        replace eu6 := eu6.symm
        subst eu6
        refine ezw_iload_n rfl rfl ?_
        refine ezw_call2_2 rfl (by omega) rfl rfl (ezt_m84_v2 hS (by omega) hu6) ?_
        rintro _ _ ⟨rfl, u8, hu8, v_7, rfl⟩
        refine ezw_istore rfl rfl ?_
        have eo : u8 = ezp_op (ezp_K c x1.1.2) 2 := by rw [← k3]; exact v_7
        refine ezw_iload rfl rfl ?_
        refine ezw_if_ne rfl rfl hu8 (fun h51_8 => ?_) (fun h51_8 => ?_)
        · refine ezw_aload_n rfl rfl ?_
          refine ezw_call0_0 rfl (by omega) (ezu_at rfl) rfl rfl rfl rfl (ezt_take hS (by omega) (by rw [nF_3 1 2 (by decide), nF1 1 2 (by decide)]; exact hn) (by rw [nA_3 2 (by decide), nA1 2 (by decide)]; exact hc) tp (by rw [nA_3 3 (by decide), nA1 3 (by decide)]; exact hw) st1) ?_
          rintro _ _ ⟨F9, rfl, hS, nF9, st_9, rfl⟩
          refine ezw_aload_n rfl rfl ?_
          refine ezw_aload_n rfl rfl ?_
          refine ezw_iload_n rfl rfl ?_
          refine ezw_iconst (1) rfl rfl ?_
          refine ezw_iadd (k := (3)) rfl (by omega) ?_
          refine ezw_iload_n rfl rfl ?_
          refine ezw_call0_3 rfl (by omega) (ezu_at rfl) rfl rfl rfl rfl (ezt_m81_9_1_v3_v4 (x := (ezp_t x1.1, x1.2)) hS (by omega) (by rw [nF9 1 2 (by decide), nF_3 1 2 (by decide), nF1 1 2 (by decide)]; exact hn) (by rw [nA_3 2 (by decide), nA1 2 (by decide)]; exact hc) tp (by rw [nA_3 3 (by decide), nA1 3 (by decide)]; exact hw) st_9 (ezt_LW_fr (F' := F9) (A' := A_3) lw1 (by rw [nF9 9 4 (by decide)]) rfl)) ?_
          rintro _ _ ⟨F10, A10, rfl, hS, nF10, nA10, st_10, lw_10, rfl⟩
          refine ezw_aload_n rfl rfl ?_
          refine ezw_iload rfl rfl ?_
          refine ezw_call0_1 rfl (by omega) (ezu_at rfl) rfl rfl rfl rfl (ezt_m83_9 hS (by omega) hu8 lw_10) ?_
          rintro _ _ ⟨F11, A11, rfl, hS, nF11, nA11, lw_11, rfl⟩
          refine ezw_iload_n rfl rfl ?_
          refine ezw_iconst (1) rfl rfl ?_
          refine ezw_icmp_ne rfl rfl ⟨by decide, by decide⟩ ⟨by decide, by decide⟩ (fun h76_11 => ?_) (fun h76_11 => absurd h76_11 (by omega))
          refine ezw_iinc (k := c2 + 1) (1) rfl rfl rfl (by omega) rfl ?_
          refine ezw_goto rfl rfl ?_
          exact ezw_keepE [true, true, true, true, true, false] (ihc2 (c2 + 1) (by omega) ⟨by omega, by omega⟩ F11 A11 hS (fun p j h => by rw [nF11 p j (by omega), nF10 p j (by omega), nF9 p j (by omega), nF_3 p j (by omega)]) (fun p h => by
                funext j
                rw [nA11 p (by omega), nA10 p (by omega), nA_3 p (by omega)]) (by omega) (⟨ezp_l1 c 2 (ezp_rk c (ezp_pt c 1) 1) x1, (by rw [hq, hm, ezp_lp_s z1 (by omega) (by decide), show (1000 - (c2 + 1)).toNat = (1000 - (c2 + 1)).toNat by omega]), (ezt_ST_fr st_10 (fun j j0 j1 => by rw [nF11 1 j (by omega)])), (by have h7 := lw_11; rw [eo] at h7; exact h7)⟩))
        · exact ezw_return rfl rfl ⟨F_3, A_3, rfl, hS, (fun p j h => by rw [nF_3 p j (by omega), nF1 p j (by omega)]), (fun p h => by
                funext j
                rw [nA_3 p (by omega), nA1 p (by omega)]), (by
                rw [hq, hm, ezp_lp_0 z1 (by omega)]
                exact st1), (by
                rw [hq, hm, ezp_lp_0 z1 (by omega)]
                exact lw1), rfl⟩
  exact ezw_keepE [true, true, true, true, true, false] (L24_3 (0) ⟨by decide, by decide⟩ F1 A1 hS (fun _ _ _ => rfl) (fun _ _ => rfl) (by omega) (⟨(ezp_rk c (ezp_pt c 1) 1) x, rfl, st_1, lw_1⟩))
def ezt_m81_9_1_v1_v4Q (e : Bool × Bool) (F : Nat → Nat → Int) (A : Nat → Int → Int) (c : Int → Int) (n : Int) (x : ezp_X) : Option ezq_V → (Nat → ezq_C) → Prop := fun v g' => ∃ (F' : Nat → Nat → Int) (A' : Nat → Int → Int), ezu_g e F' A' = g' ∧ ezs_T F' A' ∧ (∀ p j, ¬ (p = 1 ∧ (j = 3 ∨ j = 4 ∨ j = 5 ∨ j = 6 ∨ j = 7 ∨ j = 8 ∨ j = 9) ∨ p = 9 ∧ (j = 4)) → F' p j = F p j) ∧ (∀ p, ¬ (p = 10) → A' p = A p) ∧ (ezt_ST c n (ezp_rk c (ezp_pt c 1) 3 x).1 F') ∧ (ezt_LW 9 (ezp_rk c (ezp_pt c 1) 3 x).2 F' A') ∧ none = v
theorem ezt_m81_9_1_v1_v4 {c : Int → Int} {n : Int} {x : ezp_X} {F : Nat → Nat → Int} {A : Nat → Int → Int} (hS : ezs_T F A) (hd : 15 ≤ d) (hn : F 1 2 = n) (hc : c = ezp_ch (A 2) n) (tp : ezp_tp c n) (hw : ∀ j, 0 ≤ j → j < 48 → A 3 j = ezl_cw.getD j.toNat 0) (st : ezt_ST c n x.1 F) (lw : ezt_LW 9 x.2 F A) : ezw_C l ρ B xa Hb D cA 81 d [ezw_p 9, ezw_p 1, ezw_i (1), ezw_i (4)] (ezu_g e F A) (ezt_m81_9_1_v1_v4Q e F A c n x) := by
  refine ezw_met (k := 2) rfl rfl ?_
  refine ezw_iload_n rfl rfl ?_
  refine ezw_iconst (4) rfl rfl ?_
  refine ezw_icmp_lt rfl rfl ⟨by decide, by decide⟩ ⟨by decide, by decide⟩ (fun h2_0 => ?_) (fun h2_0 => absurd h2_0 (by omega))
  refine ezw_aload_n rfl rfl ?_
  refine ezw_aload_n rfl rfl ?_
  refine ezw_iload_n rfl rfl ?_
  refine ezw_iconst (1) rfl rfl ?_
  refine ezw_iadd (k := (2)) rfl (by omega) ?_
  refine ezw_iload_n rfl rfl ?_
  refine ezw_call0_3 rfl (by omega) (ezu_at rfl) rfl rfl rfl rfl (ezt_m81_9_1_v2_v4 (x := x) hS (by omega) hn hc tp hw st lw) ?_
  rintro _ _ ⟨F1, A1, rfl, hS, nF1, nA1, st_1, lw_1, rfl⟩
  refine ezw_iconst (0) rfl rfl ?_
  refine ezw_istore rfl rfl ?_
  have L24_3 : ∀ c2 : Int, ezw_in c2 → ∀ F_3 : Nat → Nat → Int, ∀ A_3 : Nat → Int → Int, ezs_T F_3 A_3 → (∀ p j, ¬ (p = 1 ∧ (j = 3 ∨ j = 4 ∨ j = 5 ∨ j = 6 ∨ j = 7 ∨ j = 8 ∨ j = 9) ∨ p = 9 ∧ (j = 4)) → F_3 p j = F1 p j) → (∀ p, ¬ (p = 10) → A_3 p = A1 p) → ((0) ≤ c2) → (∃ x1, ezp_rk c (ezp_pt c 1) 3 x = ezp_lp c 1 (ezp_rk c (ezp_pt c 1) 2) (1000 - c2).toNat x1 ∧ ezt_ST c n x1.1 F_3 ∧ ezt_LW 9 x1.2 F_3 A_3) → ezw_E l ρ B xa Hb D cA d ezq_re81 (ezt_m81_9_1_v1_v4Q e F A c n x) 24 [some (ezw_p 9), some (ezw_p 1), some (ezw_i (1)), some (ezw_i (4)), some (ezw_i c2), none] [] (ezu_g e F_3 A_3) := by
    refine ezs_up ?_
    intro c2 hc2 ihc2 F_3 A_3 hS nF_3 nA_3 g_3 iv_3
    obtain ⟨x1, hq, st1, lw1⟩ := iv_3
    have hs1 := st1.1
    refine ezw_iload rfl rfl ?_
    refine ezw_sipush (1000) rfl rfl ?_
    refine ezw_icmp_ge rfl rfl hc2 ⟨by decide, by decide⟩ (fun h29_3 => ?_) (fun h29_3 => ?_)
    · exact ezw_return rfl rfl ⟨F_3, A_3, rfl, hS, (fun p j h => by rw [nF_3 p j (by omega), nF1 p j (by omega)]), (fun p h => by
            funext j
            rw [nA_3 p (by omega), nA1 p (by omega)]), (by
            rw [hq, show (1000 - c2).toNat = 0 by omega]
            exact st1), (by
            rw [hq, show (1000 - c2).toNat = 0 by omega]
            exact lw1), rfl⟩
    · refine ezw_aload_n rfl rfl ?_
      refine ezw_call0_0 rfl (by omega) (ezu_at rfl) rfl rfl rfl rfl (ezt_m45_1 hS (by omega)) ?_
      rintro _ _ ⟨rfl, u5, hu5, p4_0, p4_1, rfl⟩
      refine ezw_if_eq rfl rfl ⟨by omega, by omega⟩ (fun h36_5 => ?_) (fun h36_5 => ?_)
      · exact ezw_return rfl rfl ⟨F_3, A_3, rfl, hS, (fun p j h => by rw [nF_3 p j (by omega), nF1 p j (by omega)]), (fun p h => by
              funext j
              rw [nA_3 p (by omega), nA1 p (by omega)]), (by
              rw [hq, ezp_lp_n (by have h8 := p4_1 (by omega); omega)]
              exact st1), (by
              rw [hq, ezp_lp_n (by have h8 := p4_1 (by omega); omega)]
              exact lw1), rfl⟩
      · have z1 : x1.1.1 = 0 := by have h0 := p4_0 (by omega); omega
        have k3 := (st1.2.2.1 z1).2.2.1
        have hm : (1000 - c2).toNat = (1000 - (c2 + 1)).toNat + 1 := by omega
        refine ezw_aload_n rfl rfl ?_
        refine ezy_get_i hS rfl rfl rfl rfl rfl rfl (fun u6 hu6 ku6 eu6 => ?_)
        replace eu6 := eu6.symm
        subst eu6
        refine ezw_iload_n rfl rfl ?_
        refine ezw_call2_2 rfl (by omega) rfl rfl (ezt_m84_v1 hS (by omega) hu6) ?_
        rintro _ _ ⟨rfl, u8, hu8, v_7, rfl⟩
        refine ezw_istore rfl rfl ?_
        have eo : u8 = ezp_op (ezp_K c x1.1.2) 1 := by rw [← k3]; exact v_7
        refine ezw_iload rfl rfl ?_
        refine ezw_if_ne rfl rfl hu8 (fun h51_8 => ?_) (fun h51_8 => ?_)
        · refine ezw_aload_n rfl rfl ?_
          refine ezw_call0_0 rfl (by omega) (ezu_at rfl) rfl rfl rfl rfl (ezt_take hS (by omega) (by rw [nF_3 1 2 (by decide), nF1 1 2 (by decide)]; exact hn) (by rw [nA_3 2 (by decide), nA1 2 (by decide)]; exact hc) tp (by rw [nA_3 3 (by decide), nA1 3 (by decide)]; exact hw) st1) ?_
          rintro _ _ ⟨F9, rfl, hS, nF9, st_9, rfl⟩
          refine ezw_aload_n rfl rfl ?_
          refine ezw_aload_n rfl rfl ?_
          refine ezw_iload_n rfl rfl ?_
          refine ezw_iconst (1) rfl rfl ?_
          refine ezw_iadd (k := (2)) rfl (by omega) ?_
          refine ezw_iload_n rfl rfl ?_
          refine ezw_call0_3 rfl (by omega) (ezu_at rfl) rfl rfl rfl rfl (ezt_m81_9_1_v2_v4 (x := (ezp_t x1.1, x1.2)) hS (by omega) (by rw [nF9 1 2 (by decide), nF_3 1 2 (by decide), nF1 1 2 (by decide)]; exact hn) (by rw [nA_3 2 (by decide), nA1 2 (by decide)]; exact hc) tp (by rw [nA_3 3 (by decide), nA1 3 (by decide)]; exact hw) st_9 (ezt_LW_fr (F' := F9) (A' := A_3) lw1 (by rw [nF9 9 4 (by decide)]) rfl)) ?_
          rintro _ _ ⟨F10, A10, rfl, hS, nF10, nA10, st_10, lw_10, rfl⟩
          refine ezw_aload_n rfl rfl ?_
          refine ezw_iload rfl rfl ?_
          refine ezw_call0_1 rfl (by omega) (ezu_at rfl) rfl rfl rfl rfl (ezt_m83_9 hS (by omega) hu8 lw_10) ?_
          rintro _ _ ⟨F11, A11, rfl, hS, nF11, nA11, lw_11, rfl⟩
          refine ezw_iload_n rfl rfl ?_
          refine ezw_iconst (1) rfl rfl ?_
          refine ezw_icmp_ne rfl rfl ⟨by decide, by decide⟩ ⟨by decide, by decide⟩ (fun h76_11 => absurd h76_11 (by omega)) (fun h76_11 => ?_)
          exact ezw_return rfl rfl ⟨F11, A11, rfl, hS, (fun p j h => by rw [nF11 p j (by omega), nF10 p j (by omega), nF9 p j (by omega), nF_3 p j (by omega), nF1 p j (by omega)]), (fun p h => by
                funext j
                rw [nA11 p (by omega), nA10 p (by omega), nA_3 p (by omega), nA1 p (by omega)]), (by
                rw [hq, hm, ezp_lp_1 z1 (by omega) (by decide)]
                exact (ezt_ST_fr st_10 (fun j j0 j1 => by rw [nF11 1 j (by omega)]))), (by
                rw [hq, hm, ezp_lp_1 z1 (by omega) (by decide)]
                exact (by have h7 := lw_11; rw [eo] at h7; exact h7)), rfl⟩
        · exact ezw_return rfl rfl ⟨F_3, A_3, rfl, hS, (fun p j h => by rw [nF_3 p j (by omega), nF1 p j (by omega)]), (fun p h => by
                funext j
                rw [nA_3 p (by omega), nA1 p (by omega)]), (by
                rw [hq, hm, ezp_lp_0 z1 (by omega)]
                exact st1), (by
                rw [hq, hm, ezp_lp_0 z1 (by omega)]
                exact lw1), rfl⟩
  exact ezw_keepE [true, true, true, true, true, false] (L24_3 (0) ⟨by decide, by decide⟩ F1 A1 hS (fun _ _ _ => rfl) (fun _ _ => rfl) (by omega) (⟨(ezp_rk c (ezp_pt c 1) 2) x, rfl, st_1, lw_1⟩))
def ezt_m81_9_1_v0_v4Q (e : Bool × Bool) (F : Nat → Nat → Int) (A : Nat → Int → Int) (c : Int → Int) (n : Int) (x : ezp_X) : Option ezq_V → (Nat → ezq_C) → Prop := fun v g' => ∃ (F' : Nat → Nat → Int) (A' : Nat → Int → Int), ezu_g e F' A' = g' ∧ ezs_T F' A' ∧ (∀ p j, ¬ (p = 1 ∧ (j = 3 ∨ j = 4 ∨ j = 5 ∨ j = 6 ∨ j = 7 ∨ j = 8 ∨ j = 9) ∨ p = 9 ∧ (j = 4)) → F' p j = F p j) ∧ (∀ p, ¬ (p = 10) → A' p = A p) ∧ (ezt_ST c n (ezp_rk c (ezp_pt c 1) 4 x).1 F') ∧ (ezt_LW 9 (ezp_rk c (ezp_pt c 1) 4 x).2 F' A') ∧ none = v
theorem ezt_m81_9_1_v0_v4 {c : Int → Int} {n : Int} {x : ezp_X} {F : Nat → Nat → Int} {A : Nat → Int → Int} (hS : ezs_T F A) (hd : 16 ≤ d) (hn : F 1 2 = n) (hc : c = ezp_ch (A 2) n) (tp : ezp_tp c n) (hw : ∀ j, 0 ≤ j → j < 48 → A 3 j = ezl_cw.getD j.toNat 0) (st : ezt_ST c n x.1 F) (lw : ezt_LW 9 x.2 F A) : ezw_C l ρ B xa Hb D cA 81 d [ezw_p 9, ezw_p 1, ezw_i (0), ezw_i (4)] (ezu_g e F A) (ezt_m81_9_1_v0_v4Q e F A c n x) := by
  refine ezw_met (k := 2) rfl rfl ?_
  refine ezw_iload_n rfl rfl ?_
  refine ezw_iconst (4) rfl rfl ?_
  refine ezw_icmp_lt rfl rfl ⟨by decide, by decide⟩ ⟨by decide, by decide⟩ (fun h2_0 => ?_) (fun h2_0 => absurd h2_0 (by omega))
  refine ezw_aload_n rfl rfl ?_
  refine ezw_aload_n rfl rfl ?_
  refine ezw_iload_n rfl rfl ?_
  refine ezw_iconst (1) rfl rfl ?_
  refine ezw_iadd (k := (1)) rfl (by omega) ?_
  refine ezw_iload_n rfl rfl ?_
  refine ezw_call0_3 rfl (by omega) (ezu_at rfl) rfl rfl rfl rfl (ezt_m81_9_1_v1_v4 (x := x) hS (by omega) hn hc tp hw st lw) ?_
  rintro _ _ ⟨F1, A1, rfl, hS, nF1, nA1, st_1, lw_1, rfl⟩
  refine ezw_iconst (0) rfl rfl ?_
  refine ezw_istore rfl rfl ?_
  have L24_3 : ∀ c2 : Int, ezw_in c2 → ∀ F_3 : Nat → Nat → Int, ∀ A_3 : Nat → Int → Int, ezs_T F_3 A_3 → (∀ p j, ¬ (p = 1 ∧ (j = 3 ∨ j = 4 ∨ j = 5 ∨ j = 6 ∨ j = 7 ∨ j = 8 ∨ j = 9) ∨ p = 9 ∧ (j = 4)) → F_3 p j = F1 p j) → (∀ p, ¬ (p = 10) → A_3 p = A1 p) → ((0) ≤ c2) → (∃ x1, ezp_rk c (ezp_pt c 1) 4 x = ezp_lp c 0 (ezp_rk c (ezp_pt c 1) 3) (1000 - c2).toNat x1 ∧ ezt_ST c n x1.1 F_3 ∧ ezt_LW 9 x1.2 F_3 A_3) → ezw_E l ρ B xa Hb D cA d ezq_re81 (ezt_m81_9_1_v0_v4Q e F A c n x) 24 [some (ezw_p 9), some (ezw_p 1), some (ezw_i (0)), some (ezw_i (4)), some (ezw_i c2), none] [] (ezu_g e F_3 A_3) := by
    refine ezs_up ?_
    intro c2 hc2 ihc2 F_3 A_3 hS nF_3 nA_3 g_3 iv_3
    obtain ⟨x1, hq, st1, lw1⟩ := iv_3
    have hs1 := st1.1
    refine ezw_iload rfl rfl ?_
    refine ezw_sipush (1000) rfl rfl ?_
    refine ezw_icmp_ge rfl rfl hc2 ⟨by decide, by decide⟩ (fun h29_3 => ?_) (fun h29_3 => ?_)
    · exact ezw_return rfl rfl ⟨F_3, A_3, rfl, hS, (fun p j h => by rw [nF_3 p j (by omega), nF1 p j (by omega)]), (fun p h => by
            funext j
            rw [nA_3 p (by omega), nA1 p (by omega)]), (by
            rw [hq, show (1000 - c2).toNat = 0 by omega]
            exact st1), (by
            rw [hq, show (1000 - c2).toNat = 0 by omega]
            exact lw1), rfl⟩
    · refine ezw_aload_n rfl rfl ?_
      refine ezw_call0_0 rfl (by omega) (ezu_at rfl) rfl rfl rfl rfl (ezt_m45_1 hS (by omega)) ?_
      rintro _ _ ⟨rfl, u5, hu5, p4_0, p4_1, rfl⟩
      refine ezw_if_eq rfl rfl ⟨by omega, by omega⟩ (fun h36_5 => ?_) (fun h36_5 => ?_)
      · exact ezw_return rfl rfl ⟨F_3, A_3, rfl, hS, (fun p j h => by rw [nF_3 p j (by omega), nF1 p j (by omega)]), (fun p h => by
              funext j
              rw [nA_3 p (by omega), nA1 p (by omega)]), (by
              rw [hq, ezp_lp_n (by have h8 := p4_1 (by omega); omega)]
              exact st1), (by
              rw [hq, ezp_lp_n (by have h8 := p4_1 (by omega); omega)]
              exact lw1), rfl⟩
      · have z1 : x1.1.1 = 0 := by have h0 := p4_0 (by omega); omega
        have k3 := (st1.2.2.1 z1).2.2.1
        have hm : (1000 - c2).toNat = (1000 - (c2 + 1)).toNat + 1 := by omega
        refine ezw_aload_n rfl rfl ?_
        refine ezy_get_i hS rfl rfl rfl rfl rfl rfl (fun u6 hu6 ku6 eu6 => ?_)
        replace eu6 := eu6.symm
        subst eu6
        refine ezw_iload_n rfl rfl ?_
        refine ezw_call2_2 rfl (by omega) rfl rfl (ezt_m84_v0 hS (by omega) hu6) ?_
        rintro _ _ ⟨rfl, u8, hu8, v_7, rfl⟩
        refine ezw_istore rfl rfl ?_
        have eo : u8 = ezp_op (ezp_K c x1.1.2) 0 := by rw [← k3]; exact v_7
        refine ezw_iload rfl rfl ?_
        refine ezw_if_ne rfl rfl hu8 (fun h51_8 => ?_) (fun h51_8 => ?_)
        · refine ezw_aload_n rfl rfl ?_
          refine ezw_call0_0 rfl (by omega) (ezu_at rfl) rfl rfl rfl rfl (ezt_take hS (by omega) (by rw [nF_3 1 2 (by decide), nF1 1 2 (by decide)]; exact hn) (by rw [nA_3 2 (by decide), nA1 2 (by decide)]; exact hc) tp (by rw [nA_3 3 (by decide), nA1 3 (by decide)]; exact hw) st1) ?_
          rintro _ _ ⟨F9, rfl, hS, nF9, st_9, rfl⟩
          refine ezw_aload_n rfl rfl ?_
          refine ezw_aload_n rfl rfl ?_
          refine ezw_iload_n rfl rfl ?_
          refine ezw_iconst (1) rfl rfl ?_
          refine ezw_iadd (k := (1)) rfl (by omega) ?_
          refine ezw_iload_n rfl rfl ?_
          refine ezw_call0_3 rfl (by omega) (ezu_at rfl) rfl rfl rfl rfl (ezt_m81_9_1_v1_v4 (x := (ezp_t x1.1, x1.2)) hS (by omega) (by rw [nF9 1 2 (by decide), nF_3 1 2 (by decide), nF1 1 2 (by decide)]; exact hn) (by rw [nA_3 2 (by decide), nA1 2 (by decide)]; exact hc) tp (by rw [nA_3 3 (by decide), nA1 3 (by decide)]; exact hw) st_9 (ezt_LW_fr (F' := F9) (A' := A_3) lw1 (by rw [nF9 9 4 (by decide)]) rfl)) ?_
          rintro _ _ ⟨F10, A10, rfl, hS, nF10, nA10, st_10, lw_10, rfl⟩
          refine ezw_aload_n rfl rfl ?_
          refine ezw_iload rfl rfl ?_
          refine ezw_call0_1 rfl (by omega) (ezu_at rfl) rfl rfl rfl rfl (ezt_m83_9 hS (by omega) hu8 lw_10) ?_
          rintro _ _ ⟨F11, A11, rfl, hS, nF11, nA11, lw_11, rfl⟩
          refine ezw_iload_n rfl rfl ?_
          refine ezw_iconst (1) rfl rfl ?_
          refine ezw_icmp_ne rfl rfl ⟨by decide, by decide⟩ ⟨by decide, by decide⟩ (fun h76_11 => ?_) (fun h76_11 => absurd h76_11 (by omega))
          refine ezw_iinc (k := c2 + 1) (1) rfl rfl rfl (by omega) rfl ?_
          refine ezw_goto rfl rfl ?_
          exact ezw_keepE [true, true, true, true, true, false] (ihc2 (c2 + 1) (by omega) ⟨by omega, by omega⟩ F11 A11 hS (fun p j h => by rw [nF11 p j (by omega), nF10 p j (by omega), nF9 p j (by omega), nF_3 p j (by omega)]) (fun p h => by
                funext j
                rw [nA11 p (by omega), nA10 p (by omega), nA_3 p (by omega)]) (by omega) (⟨ezp_l1 c 0 (ezp_rk c (ezp_pt c 1) 3) x1, (by rw [hq, hm, ezp_lp_s z1 (by omega) (by decide), show (1000 - (c2 + 1)).toNat = (1000 - (c2 + 1)).toNat by omega]), (ezt_ST_fr st_10 (fun j j0 j1 => by rw [nF11 1 j (by omega)])), (by have h7 := lw_11; rw [eo] at h7; exact h7)⟩))
        · exact ezw_return rfl rfl ⟨F_3, A_3, rfl, hS, (fun p j h => by rw [nF_3 p j (by omega), nF1 p j (by omega)]), (fun p h => by
                funext j
                rw [nA_3 p (by omega), nA1 p (by omega)]), (by
                rw [hq, hm, ezp_lp_0 z1 (by omega)]
                exact st1), (by
                rw [hq, hm, ezp_lp_0 z1 (by omega)]
                exact lw1), rfl⟩
  exact ezw_keepE [true, true, true, true, true, false] (L24_3 (0) ⟨by decide, by decide⟩ F1 A1 hS (fun _ _ _ => rfl) (fun _ _ => rfl) (by omega) (⟨(ezp_rk c (ezp_pt c 1) 3) x, rfl, st_1, lw_1⟩))
def ezt_m82_9_1_v3Q (e : Bool × Bool) (F : Nat → Nat → Int) (A : Nat → Int → Int) (c : Int → Int) (n : Int) (x : ezp_X) : Option ezq_V → (Nat → ezq_C) → Prop := fun v g' => ∃ (F' : Nat → Nat → Int) (A' : Nat → Int → Int), ezu_g e F' A' = g' ∧ ezs_T F' A' ∧ (∀ p j, ¬ (p = 1 ∧ (j = 3 ∨ j = 4 ∨ j = 5 ∨ j = 6 ∨ j = 7 ∨ j = 8 ∨ j = 9) ∨ p = 9 ∧ (j = 4)) → F' p j = F p j) ∧ (∀ p, ¬ (p = 10) → A' p = A p) ∧ (ezt_ST c n (ezp_pt c 2 x).1 F') ∧ (ezt_LW 9 (ezp_pt c 2 x).2 F' A') ∧ none = v
theorem ezt_m82_9_1_v3 {c : Int → Int} {n : Int} {x : ezp_X} {F : Nat → Nat → Int} {A : Nat → Int → Int} (hS : ezs_T F A) (hd : 17 ≤ d) (hn : F 1 2 = n) (hc : c = ezp_ch (A 2) n) (tp : ezp_tp c n) (hw : ∀ j, 0 ≤ j → j < 48 → A 3 j = ezl_cw.getD j.toNat 0) (st : ezt_ST c n x.1 F) (lw : ezt_LW 9 x.2 F A) : ezw_C l ρ B xa Hb D cA 82 d [ezw_p 9, ezw_p 1, ezw_i (3)] (ezu_g e F A) (ezt_m82_9_1_v3Q e F A c n x) := by
  refine ezw_met (k := 2) rfl rfl ?_
  have hn0 := tp.1
  have hn1 := tp.2.1
  obtain ⟨sf, sk, sc, sb, sb2⟩ := id st
  have hP := ezp_Pr tp x.1.2
  have c3i : x.1.1 = 0 → F 1 3 = ezp_K c x.1.2 := fun z => (sc z).2.2.1
  have c8i : x.1.1 = 0 → F 1 8 = ezp_P c x.1.2 := fun z => (sc z).1
  have c4i : x.1.1 = 0 → ezp_K c x.1.2 = 101 → F 1 4 = ezp_V c x.1.2 := fun z => (sc z).2.2.2.1
  have c7i : x.1.1 = 0 → ezp_K c x.1.2 = 100 → F 1 7 = ezp_v 32 (ezp_W c x.1.2) ∧ F 1 5 = ezp_ix (ezp_W c x.1.2) - 44 := fun z => (sc z).2.2.2.2
  refine ezw_aload_n rfl rfl ?_
  refine ezw_bipush (100) rfl rfl ?_
  refine ezw_call0_1 rfl (by omega) (ezu_at rfl) rfl rfl rfl rfl (ezt_m46_1 hS (by omega) ⟨by decide, by decide⟩ hn hc tp st) ?_
  rintro _ _ ⟨rfl, u2, hu2, p1_0, p1_1, rfl⟩
  have J21_4 : ∀ y3 : Int, ezw_in y3 → (y3 = 1 ∧ (x.1.1 = 0 ∧ ezp_K c x.1.2 = 100 ∧ 0 ≤ ezp_ix (ezp_W c x.1.2) - 44) ∨ y3 = 0 ∧ ¬ (x.1.1 = 0 ∧ ezp_K c x.1.2 = 100 ∧ 0 ≤ ezp_ix (ezp_W c x.1.2) - 44)) → ezw_E l ρ B xa Hb D cA d ezq_re82 (ezt_m82_9_1_v3Q e F A c n x) 21 [some (ezw_p 9), some (ezw_p 1), some (ezw_i (3)), none, none] [ezw_i y3] (ezu_g e F A) := by
    intro y3 hy3 jf_4
    refine ezw_istore_n rfl rfl ?_
    refine ezw_iload_n rfl rfl ?_
    have J59_6 : ∀ y5 : Int, ezw_in y5 → (y5 = 1 ∧ ((x.1.1 = 0 ∧ ezp_K c x.1.2 = 100 ∧ 0 ≤ ezp_ix (ezp_W c x.1.2) - 44) ∨ x.1.1 = 0 ∧ (ezp_K c x.1.2 = 101 ∨ ezp_K c x.1.2 = 41 ∨ ezp_K c x.1.2 = 240)) ∨ y5 = 0 ∧ ¬ ((x.1.1 = 0 ∧ ezp_K c x.1.2 = 100 ∧ 0 ≤ ezp_ix (ezp_W c x.1.2) - 44) ∨ x.1.1 = 0 ∧ (ezp_K c x.1.2 = 101 ∨ ezp_K c x.1.2 = 41 ∨ ezp_K c x.1.2 = 240))) → ezw_E l ρ B xa Hb D cA d ezq_re82 (ezt_m82_9_1_v3Q e F A c n x) 59 [some (ezw_p 9), some (ezw_p 1), some (ezw_i (3)), some (ezw_i y3), none] [ezw_i y5] (ezu_g e F A) := by
      intro y5 hy5 jp_6
      refine ezw_istore rfl rfl ?_
      refine ezw_iload rfl rfl ?_
      refine ezw_if_eq rfl rfl hy5 (fun h63_6 => ?_) (fun h63_6 => ?_)
      · refine ezw_aload_n rfl rfl ?_
        refine ezw_iload rfl rfl ?_
        refine ezw_if_eq rfl rfl hy5 (fun h74_6 => ?_) (fun h74_6 => ?_)
        · refine ezw_iconst (1) rfl rfl ?_
          refine ezw_call0_1 rfl (by omega) (ezu_at rfl) rfl rfl rfl rfl (ezt_m50_1 hS (by omega) ⟨by decide, by decide⟩ hn hc tp st (by omega)) ?_
          rintro _ _ ⟨F7, rfl, hS, nF7, st_7, rfl⟩
          refine ezw_goto rfl rfl ?_
          exact ezw_return rfl rfl ⟨F7, A, rfl, hS, (fun p j h => by rw [nF7 p j (by omega)]), (fun _ _ => rfl), (by
                first
                  | (exfalso; omega)
                  | (rw [ezp_pt_s]
                     repeat (first | rw [if_pos (by omega)] | rw [if_neg (by omega)])
                     exact st_7)), (by
                first
                  | (exfalso; omega)
                  | (rw [ezp_pt_s]
                     repeat (first | rw [if_pos (by omega)] | rw [if_neg (by omega)])
                     exact (ezt_LW_fr (F' := F7) (A' := A) lw (by rw [nF7 9 4 (by decide)]) rfl))), rfl⟩
        · refine ezw_iconst (5) rfl rfl ?_
          refine ezw_goto rfl rfl ?_
          refine ezw_call0_1 rfl (by omega) (ezu_at rfl) rfl rfl rfl rfl (ezt_m50_1 hS (by omega) ⟨by decide, by decide⟩ hn hc tp st (by omega)) ?_
          rintro _ _ ⟨F8, rfl, hS, nF8, st_8, rfl⟩
          refine ezw_goto rfl rfl ?_
          exact ezw_return rfl rfl ⟨F8, A, rfl, hS, (fun p j h => by rw [nF8 p j (by omega)]), (fun _ _ => rfl), (by
                first
                  | (exfalso; omega)
                  | (rw [ezp_pt_s]
                     repeat (first | rw [if_pos (by omega)] | rw [if_neg (by omega)])
                     exact st_8)), (by
                first
                  | (exfalso; omega)
                  | (rw [ezp_pt_s]
                     repeat (first | rw [if_pos (by omega)] | rw [if_neg (by omega)])
                     exact (ezt_LW_fr (F' := F8) (A' := A) lw (by rw [nF8 9 4 (by decide)]) rfl))), rfl⟩
      · refine ezw_iload_n rfl rfl ?_
        refine ezw_iconst (5) rfl rfl ?_
        refine ezw_icmp_lt rfl rfl ⟨by decide, by decide⟩ ⟨by decide, by decide⟩ (fun h68_8 => ?_) (fun h68_8 => absurd h68_8 (by omega))
        refine ezw_iload_n rfl rfl ?_
        refine ezw_if_eq rfl rfl hy3 (fun h89_8 => ?_) (fun h89_8 => ?_)
        · refine ezw_aload_n rfl rfl ?_
          refine ezw_bipush (101) rfl rfl ?_
          refine ezw_call0_1 rfl (by omega) (ezu_at rfl) rfl rfl rfl rfl (ezt_m46_1 hS (by omega) ⟨by decide, by decide⟩ hn hc tp st) ?_
          rintro _ _ ⟨rfl, u10, hu10, p9_0, p9_1, rfl⟩
          refine ezw_if_eq rfl rfl ⟨by omega, by omega⟩ (fun h115_10 => ?_) (fun h115_10 => ?_)
          · refine ezw_aload_n rfl rfl ?_
            refine ezw_bipush (41) rfl rfl ?_
            refine ezw_call0_1 rfl (by omega) (ezu_at rfl) rfl rfl rfl rfl (ezt_m46_1 hS (by omega) ⟨by decide, by decide⟩ hn hc tp st) ?_
            rintro _ _ ⟨rfl, u12, hu12, p11_0, p11_1, rfl⟩
            refine ezw_if_eq rfl rfl ⟨by omega, by omega⟩ (fun h139_12 => ?_) (fun h139_12 => ?_)
            · refine ezw_aload_n rfl rfl ?_
              refine ezw_call0_0 rfl (by omega) (ezu_at rfl) rfl rfl rfl rfl (ezt_take hS (by omega) hn hc tp hw st) ?_
              rintro _ _ ⟨F13, rfl, hS, nF13, st_13, rfl⟩
              refine ezw_aload_n rfl rfl ?_
              refine ezw_aload_n rfl rfl ?_
              refine ezw_iconst (0) rfl rfl ?_
              refine ezw_iload_n rfl rfl ?_
              refine ezw_iconst (1) rfl rfl ?_
              refine ezw_iadd (k := (4)) rfl (by omega) ?_
              refine ezw_call0_3 rfl (by omega) (ezu_at rfl) rfl rfl rfl rfl (ezt_m81_9_1_v0_v4 (x := (ezp_t x.1, x.2)) hS (by omega) (by rw [nF13 1 2 (by decide)]; exact hn) hc tp hw st_13 (ezt_LW_fr (F' := F13) (A' := A) lw (by rw [nF13 9 4 (by decide)]) rfl)) ?_
              rintro _ _ ⟨F14, A14, rfl, hS, nF14, nA14, st_14, lw_14, rfl⟩
              refine ezw_aload_n rfl rfl ?_
              refine ezw_sipush (241) rfl rfl ?_
              refine ezw_call0_1 rfl (by omega) (ezu_at rfl) rfl rfl rfl rfl (ezt_m46_1 hS (by omega) ⟨by decide, by decide⟩ (by rw [nF14 1 2 (by decide), nF13 1 2 (by decide)]; exact hn) (by rw [nA14 2 (by decide)]; exact hc) tp st_14) ?_
              rintro _ _ ⟨rfl, u16, hu16, p15_0, p15_1, rfl⟩
              refine ezw_if_eq rfl rfl ⟨by omega, by omega⟩ (fun h183_16 => ?_) (fun h183_16 => ?_)
              · refine ezw_aload_n rfl rfl ?_
                refine ezw_iconst (1) rfl rfl ?_
                refine ezw_call0_1 rfl (by omega) (ezu_at rfl) rfl rfl rfl rfl (ezt_m50_1 hS (by omega) ⟨by decide, by decide⟩ (by rw [nF14 1 2 (by decide), nF13 1 2 (by decide)]; exact hn) (by rw [nA14 2 (by decide)]; exact hc) tp st_14 (by omega)) ?_
                rintro _ _ ⟨F17, rfl, hS, nF17, st_17, rfl⟩
                exact ezw_return rfl rfl ⟨F17, A14, rfl, hS, (fun p j h => by rw [nF17 p j (by omega), nF14 p j (by omega), nF13 p j (by omega)]), (fun p h => by
                      funext j
                      rw [nA14 p (by omega)]), (by
                      first
                        | (exfalso; omega)
                        | (rw [ezp_pt_s]
                           repeat (first | rw [if_pos (by omega)] | rw [if_neg (by omega)])
                           show ezt_ST c n (ezp_cl c _) _
                           unfold ezp_cl
                           rw [if_neg (fun z => (p15_1 (by omega)).elim (fun y => y z.1) (fun y => y z.2))]
                           exact st_17)), (by
                      first
                        | (exfalso; omega)
                        | (rw [ezp_pt_s]
                           repeat (first | rw [if_pos (by omega)] | rw [if_neg (by omega)])
                           exact (ezt_LW_fr (F' := F17) (A' := A14) lw_14 (by rw [nF17 9 4 (by decide)]) rfl))), rfl⟩
              · refine ezw_aload_n rfl rfl ?_
                refine ezw_call0_0 rfl (by omega) (ezu_at rfl) rfl rfl rfl rfl (ezt_take hS (by omega) (by rw [nF14 1 2 (by decide), nF13 1 2 (by decide)]; exact hn) (by rw [nA14 2 (by decide)]; exact hc) tp (by rw [nA14 3 (by decide)]; exact hw) st_14) ?_
                rintro _ _ ⟨F18, rfl, hS, nF18, st_18, rfl⟩
                refine ezw_goto rfl rfl ?_
                exact ezw_return rfl rfl ⟨F18, A14, rfl, hS, (fun p j h => by rw [nF18 p j (by omega), nF14 p j (by omega), nF13 p j (by omega)]), (fun p h => by
                      funext j
                      rw [nA14 p (by omega)]), (by
                      first
                        | (exfalso; omega)
                        | (rw [ezp_pt_s]
                           repeat (first | rw [if_pos (by omega)] | rw [if_neg (by omega)])
                           show ezt_ST c n (ezp_cl c _) _
                           unfold ezp_cl
                           rw [if_pos (p15_0 (by omega))]
                           exact st_18)), (by
                      first
                        | (exfalso; omega)
                        | (rw [ezp_pt_s]
                           repeat (first | rw [if_pos (by omega)] | rw [if_neg (by omega)])
                           exact (ezt_LW_fr (F' := F18) (A' := A14) lw_14 (by rw [nF18 9 4 (by decide)]) rfl))), rfl⟩
            · refine ezw_aload_n rfl rfl ?_
              refine ezw_call0_0 rfl (by omega) (ezu_at rfl) rfl rfl rfl rfl (ezt_take hS (by omega) hn hc tp hw st) ?_
              rintro _ _ ⟨F19, rfl, hS, nF19, st_19, rfl⟩
              refine ezw_aload_n rfl rfl ?_
              refine ezw_aload_n rfl rfl ?_
              refine ezw_iload_n rfl rfl ?_
              refine ezw_iconst (1) rfl rfl ?_
              refine ezw_iadd (k := (4)) rfl (by omega) ?_
              refine ezw_call0_2 rfl (by omega) (ezu_at rfl) rfl rfl rfl rfl (ezt_m82_9_1_v4 (x := (ezp_t x.1, x.2)) hS (by omega) (by rw [nF19 1 2 (by decide)]; exact hn) hc tp hw st_19 (ezt_LW_fr (F' := F19) (A' := A) lw (by rw [nF19 9 4 (by decide)]) rfl)) ?_
              rintro _ _ ⟨F20, A20, rfl, hS, nF20, nA20, st_20, lw_20, rfl⟩
              refine ezw_aload_n rfl rfl ?_
              refine ezw_bipush (-5) rfl rfl ?_
              refine ezw_call0_1 rfl (by omega) (ezu_at rfl) rfl rfl rfl rfl (ezt_m83_9 hS (by omega) ⟨by decide, by decide⟩ lw_20) ?_
              rintro _ _ ⟨F21, A21, rfl, hS, nF21, nA21, lw_21, rfl⟩
              refine ezw_goto rfl rfl ?_
              exact ezw_return rfl rfl ⟨F21, A21, rfl, hS, (fun p j h => by rw [nF21 p j (by omega), nF20 p j (by omega), nF19 p j (by omega)]), (fun p h => by
                    funext j
                    rw [nA21 p (by omega), nA20 p (by omega)]), (by
                    first
                      | (exfalso; omega)
                      | (rw [ezp_pt_s]
                         repeat (first | rw [if_pos (by omega)] | rw [if_neg (by omega)])
                         exact (ezt_ST_fr st_20 (fun j j0 j1 => by rw [nF21 1 j (by omega)])))), (by
                    first
                      | (exfalso; omega)
                      | (rw [ezp_pt_s]
                         repeat (first | rw [if_pos (by omega)] | rw [if_neg (by omega)])
                         exact lw_21)), rfl⟩
          · refine ezw_aload_n rfl rfl ?_
            refine ezw_aload_n rfl rfl ?_
            refine ezy_get_i hS rfl rfl rfl rfl rfl rfl (fun u22 hu22 ku22 eu22 => ?_)
            replace eu22 := eu22.symm
            subst eu22
            have ru22 : 0 ≤ (F 1 4) ∧ (F 1 4) ≤ 9999 := ku22
            have f4 := c4i (by omega) (by omega)
            refine ezw_call0_1 rfl (by omega) (ezu_at rfl) rfl rfl rfl rfl (ezt_m83_9 hS (by omega) hu22 lw) ?_
            rintro _ _ ⟨F23, A23, rfl, hS, nF23, nA23, lw_23, rfl⟩
            refine ezw_aload_n rfl rfl ?_
            refine ezw_call0_0 rfl (by omega) (ezu_at rfl) rfl rfl rfl rfl (ezt_take hS (by omega) (by rw [nF23 1 2 (by decide)]; exact hn) (by rw [nA23 2 (by decide)]; exact hc) tp (by rw [nA23 3 (by decide)]; exact hw) (ezt_ST_fr st (fun j j0 j1 => by rw [nF23 1 j (by omega)]))) ?_
            rintro _ _ ⟨F24, rfl, hS, nF24, st_24, rfl⟩
            refine ezw_goto rfl rfl ?_
            exact ezw_return rfl rfl ⟨F24, A23, rfl, hS, (fun p j h => by rw [nF24 p j (by omega), nF23 p j (by omega)]), (fun p h => by
                  funext j
                  rw [nA23 p (by omega)]), (by
                  first
                    | (exfalso; omega)
                    | (rw [ezp_pt_s]
                       repeat (first | rw [if_pos (by omega)] | rw [if_neg (by omega)])
                       exact st_24)), (by
                  first
                    | (exfalso; omega)
                    | (rw [ezp_pt_s]
                       repeat (first | rw [if_pos (by omega)] | rw [if_neg (by omega)])
                       have h7 := (ezt_LW_fr (F' := F24) (A' := A23) lw_23 (by rw [nF24 9 4 (by decide)]) rfl)
                       rw [show (F 1 4) = ezp_V c x.1.2 by omega] at h7
                       exact h7)), rfl⟩
        · refine ezw_aload_n rfl rfl ?_
          refine ezw_iconst (-1) rfl rfl ?_
          refine ezw_aload_n rfl rfl ?_
          refine ezy_get_i hS rfl rfl rfl rfl rfl rfl (fun u25 hu25 ku25 eu25 => ?_)
          replace eu25 := eu25.symm
          subst eu25
          refine ezw_isub (k := -(F 1 5) - 1) rfl (by omega) ?_
          have f5 := (c7i (by omega) (by omega)).2
          refine ezw_call0_1 rfl (by omega) (ezu_at rfl) rfl rfl rfl rfl (ezt_m83_9 hS (by omega) ⟨by omega, by omega⟩ lw) ?_
          rintro _ _ ⟨F26, A26, rfl, hS, nF26, nA26, lw_26, rfl⟩
          refine ezw_aload_n rfl rfl ?_
          refine ezw_call0_0 rfl (by omega) (ezu_at rfl) rfl rfl rfl rfl (ezt_take hS (by omega) (by rw [nF26 1 2 (by decide)]; exact hn) (by rw [nA26 2 (by decide)]; exact hc) tp (by rw [nA26 3 (by decide)]; exact hw) (ezt_ST_fr st (fun j j0 j1 => by rw [nF26 1 j (by omega)]))) ?_
          rintro _ _ ⟨F27, rfl, hS, nF27, st_27, rfl⟩
          refine ezw_goto rfl rfl ?_
          exact ezw_return rfl rfl ⟨F27, A26, rfl, hS, (fun p j h => by rw [nF27 p j (by omega), nF26 p j (by omega)]), (fun p h => by
                funext j
                rw [nA26 p (by omega)]), (by
                first
                  | (exfalso; omega)
                  | (rw [ezp_pt_s]
                     repeat (first | rw [if_pos (by omega)] | rw [if_neg (by omega)])
                     exact st_27)), (by
                first
                  | (exfalso; omega)
                  | (rw [ezp_pt_s]
                     repeat (first | rw [if_pos (by omega)] | rw [if_neg (by omega)])
                     have h7 := (ezt_LW_fr (F' := F27) (A' := A26) lw_26 (by rw [nF27 9 4 (by decide)]) rfl)
                     rw [show -(F 1 5) - 1 = -1 - (ezp_ix (ezp_W c x.1.2) - 44) by omega] at h7
                     exact h7)), rfl⟩
    refine ezw_if_ne rfl rfl hy3 (fun h23_4 => ?_) (fun h23_4 => ?_)
    · refine ezw_iconst (1) rfl rfl ?_
      refine ezw_goto rfl rfl ?_
      exact ezw_keepE [true, true, true, true, false] (J59_6 (1) ⟨by decide, by decide⟩ (by omega))
    · refine ezw_aload_n rfl rfl ?_
      refine ezw_bipush (101) rfl rfl ?_
      refine ezw_call0_1 rfl (by omega) (ezu_at rfl) rfl rfl rfl rfl (ezt_m46_1 hS (by omega) ⟨by decide, by decide⟩ hn hc tp st) ?_
      rintro _ _ ⟨rfl, u29, hu29, p28_0, p28_1, rfl⟩
      refine ezw_if_ne rfl rfl ⟨by omega, by omega⟩ (fun h32_29 => ?_) (fun h32_29 => ?_)
      · refine ezw_iconst (1) rfl rfl ?_
        refine ezw_goto rfl rfl ?_
        exact ezw_keepE [true, true, true, true, false] (J59_6 (1) ⟨by decide, by decide⟩ (by omega))
      · refine ezw_aload_n rfl rfl ?_
        refine ezw_bipush (41) rfl rfl ?_
        refine ezw_call0_1 rfl (by omega) (ezu_at rfl) rfl rfl rfl rfl (ezt_m46_1 hS (by omega) ⟨by decide, by decide⟩ hn hc tp st) ?_
        rintro _ _ ⟨rfl, u31, hu31, p30_0, p30_1, rfl⟩
        refine ezw_if_ne rfl rfl ⟨by omega, by omega⟩ (fun h41_31 => ?_) (fun h41_31 => ?_)
        · refine ezw_iconst (1) rfl rfl ?_
          refine ezw_goto rfl rfl ?_
          exact ezw_keepE [true, true, true, true, false] (J59_6 (1) ⟨by decide, by decide⟩ (by omega))
        · refine ezw_aload_n rfl rfl ?_
          refine ezw_sipush (240) rfl rfl ?_
          refine ezw_call0_1 rfl (by omega) (ezu_at rfl) rfl rfl rfl rfl (ezt_m46_1 hS (by omega) ⟨by decide, by decide⟩ hn hc tp st) ?_
          rintro _ _ ⟨rfl, u33, hu33, p32_0, p32_1, rfl⟩
          refine ezw_if_eq rfl rfl ⟨by omega, by omega⟩ (fun h51_33 => ?_) (fun h51_33 => ?_)
          · refine ezw_iconst (0) rfl rfl ?_
            exact ezw_keepE [true, true, true, true, false] (J59_6 (0) ⟨by decide, by decide⟩ (by omega))
          · refine ezw_iconst (1) rfl rfl ?_
            refine ezw_goto rfl rfl ?_
            exact ezw_keepE [true, true, true, true, false] (J59_6 (1) ⟨by decide, by decide⟩ (by omega))
  refine ezw_if_eq rfl rfl ⟨by omega, by omega⟩ (fun h6_2 => ?_) (fun h6_2 => ?_)
  · refine ezw_iconst (0) rfl rfl ?_
    exact ezw_keepE [true, true, true, false, false] (J21_4 (0) ⟨by decide, by decide⟩ (by omega))
  · refine ezw_aload_n rfl rfl ?_
    have f5 := (c7i (p1_0 (by omega)).1 (p1_0 (by omega)).2).2
    refine ezy_get_i hS rfl rfl rfl rfl rfl rfl (fun u34 hu34 ku34 eu34 => ?_)
    replace eu34 := eu34.symm
    subst eu34
    refine ezw_if_lt rfl rfl hu34 (fun h13_34 => ?_) (fun h13_34 => ?_)
    · refine ezw_iconst (0) rfl rfl ?_
      exact ezw_keepE [true, true, true, false, false] (J21_4 (0) ⟨by decide, by decide⟩ (by omega))
    · refine ezw_iconst (1) rfl rfl ?_
      refine ezw_goto rfl rfl ?_
      exact ezw_keepE [true, true, true, false, false] (J21_4 (1) ⟨by decide, by decide⟩ (by omega))
def ezt_m81_9_1_v4_v3Q (e : Bool × Bool) (F : Nat → Nat → Int) (A : Nat → Int → Int) (c : Int → Int) (n : Int) (x : ezp_X) : Option ezq_V → (Nat → ezq_C) → Prop := fun v g' => ∃ (F' : Nat → Nat → Int) (A' : Nat → Int → Int), ezu_g e F' A' = g' ∧ ezs_T F' A' ∧ (∀ p j, ¬ (p = 1 ∧ (j = 3 ∨ j = 4 ∨ j = 5 ∨ j = 6 ∨ j = 7 ∨ j = 8 ∨ j = 9) ∨ p = 9 ∧ (j = 4)) → F' p j = F p j) ∧ (∀ p, ¬ (p = 10) → A' p = A p) ∧ (ezt_ST c n (ezp_rk c (ezp_pt c 2) 0 x).1 F') ∧ (ezt_LW 9 (ezp_rk c (ezp_pt c 2) 0 x).2 F' A') ∧ none = v
theorem ezt_m81_9_1_v4_v3 {c : Int → Int} {n : Int} {x : ezp_X} {F : Nat → Nat → Int} {A : Nat → Int → Int} (hS : ezs_T F A) (hd : 18 ≤ d) (hn : F 1 2 = n) (hc : c = ezp_ch (A 2) n) (tp : ezp_tp c n) (hw : ∀ j, 0 ≤ j → j < 48 → A 3 j = ezl_cw.getD j.toNat 0) (st : ezt_ST c n x.1 F) (lw : ezt_LW 9 x.2 F A) : ezw_C l ρ B xa Hb D cA 81 d [ezw_p 9, ezw_p 1, ezw_i (4), ezw_i (3)] (ezu_g e F A) (ezt_m81_9_1_v4_v3Q e F A c n x) := by
  refine ezw_met (k := 2) rfl rfl ?_
  refine ezw_iload_n rfl rfl ?_
  refine ezw_iconst (4) rfl rfl ?_
  refine ezw_icmp_lt rfl rfl ⟨by decide, by decide⟩ ⟨by decide, by decide⟩ (fun h2_0 => absurd h2_0 (by omega)) (fun h2_0 => ?_)
  refine ezw_aload_n rfl rfl ?_
  refine ezw_aload_n rfl rfl ?_
  refine ezw_iload_n rfl rfl ?_
  refine ezw_call0_2 rfl (by omega) (ezu_at rfl) rfl rfl rfl rfl (ezt_m82_9_1_v3 (x := x) hS (by omega) hn hc tp hw st lw) ?_
  rintro _ _ ⟨F1, A1, rfl, hS, nF1, nA1, st_1, lw_1, rfl⟩
  exact ezw_return rfl rfl ⟨F1, A1, rfl, hS, (fun p j h => by rw [nF1 p j (by omega)]), (fun p h => by
        funext j
        rw [nA1 p (by omega)]), st_1, lw_1, rfl⟩
def ezt_m81_9_1_v3_v3Q (e : Bool × Bool) (F : Nat → Nat → Int) (A : Nat → Int → Int) (c : Int → Int) (n : Int) (x : ezp_X) : Option ezq_V → (Nat → ezq_C) → Prop := fun v g' => ∃ (F' : Nat → Nat → Int) (A' : Nat → Int → Int), ezu_g e F' A' = g' ∧ ezs_T F' A' ∧ (∀ p j, ¬ (p = 1 ∧ (j = 3 ∨ j = 4 ∨ j = 5 ∨ j = 6 ∨ j = 7 ∨ j = 8 ∨ j = 9) ∨ p = 9 ∧ (j = 4)) → F' p j = F p j) ∧ (∀ p, ¬ (p = 10) → A' p = A p) ∧ (ezt_ST c n (ezp_rk c (ezp_pt c 2) 1 x).1 F') ∧ (ezt_LW 9 (ezp_rk c (ezp_pt c 2) 1 x).2 F' A') ∧ none = v
theorem ezt_m81_9_1_v3_v3 {c : Int → Int} {n : Int} {x : ezp_X} {F : Nat → Nat → Int} {A : Nat → Int → Int} (hS : ezs_T F A) (hd : 19 ≤ d) (hn : F 1 2 = n) (hc : c = ezp_ch (A 2) n) (tp : ezp_tp c n) (hw : ∀ j, 0 ≤ j → j < 48 → A 3 j = ezl_cw.getD j.toNat 0) (st : ezt_ST c n x.1 F) (lw : ezt_LW 9 x.2 F A) : ezw_C l ρ B xa Hb D cA 81 d [ezw_p 9, ezw_p 1, ezw_i (3), ezw_i (3)] (ezu_g e F A) (ezt_m81_9_1_v3_v3Q e F A c n x) := by
  refine ezw_met (k := 2) rfl rfl ?_
  refine ezw_iload_n rfl rfl ?_
  refine ezw_iconst (4) rfl rfl ?_
  refine ezw_icmp_lt rfl rfl ⟨by decide, by decide⟩ ⟨by decide, by decide⟩ (fun h2_0 => ?_) (fun h2_0 => absurd h2_0 (by omega))
  refine ezw_aload_n rfl rfl ?_
  refine ezw_aload_n rfl rfl ?_
  refine ezw_iload_n rfl rfl ?_
  refine ezw_iconst (1) rfl rfl ?_
  refine ezw_iadd (k := (4)) rfl (by omega) ?_
  refine ezw_iload_n rfl rfl ?_
  refine ezw_call0_3 rfl (by omega) (ezu_at rfl) rfl rfl rfl rfl (ezt_m81_9_1_v4_v3 (x := x) hS (by omega) hn hc tp hw st lw) ?_
  rintro _ _ ⟨F1, A1, rfl, hS, nF1, nA1, st_1, lw_1, rfl⟩
  refine ezw_iconst (0) rfl rfl ?_
  refine ezw_istore rfl rfl ?_
  have L24_3 : ∀ c2 : Int, ezw_in c2 → ∀ F_3 : Nat → Nat → Int, ∀ A_3 : Nat → Int → Int, ezs_T F_3 A_3 → (∀ p j, ¬ (p = 1 ∧ (j = 3 ∨ j = 4 ∨ j = 5 ∨ j = 6 ∨ j = 7 ∨ j = 8 ∨ j = 9) ∨ p = 9 ∧ (j = 4)) → F_3 p j = F1 p j) → (∀ p, ¬ (p = 10) → A_3 p = A1 p) → ((0) ≤ c2) → (∃ x1, ezp_rk c (ezp_pt c 2) 1 x = ezp_lp c 3 (ezp_rk c (ezp_pt c 2) 0) (1000 - c2).toNat x1 ∧ ezt_ST c n x1.1 F_3 ∧ ezt_LW 9 x1.2 F_3 A_3) → ezw_E l ρ B xa Hb D cA d ezq_re81 (ezt_m81_9_1_v3_v3Q e F A c n x) 24 [some (ezw_p 9), some (ezw_p 1), some (ezw_i (3)), some (ezw_i (3)), some (ezw_i c2), none] [] (ezu_g e F_3 A_3) := by
    refine ezs_up ?_
    intro c2 hc2 ihc2 F_3 A_3 hS nF_3 nA_3 g_3 iv_3
    obtain ⟨x1, hq, st1, lw1⟩ := iv_3
    have hs1 := st1.1
    refine ezw_iload rfl rfl ?_
    refine ezw_sipush (1000) rfl rfl ?_
    refine ezw_icmp_ge rfl rfl hc2 ⟨by decide, by decide⟩ (fun h29_3 => ?_) (fun h29_3 => ?_)
    · exact ezw_return rfl rfl ⟨F_3, A_3, rfl, hS, (fun p j h => by rw [nF_3 p j (by omega), nF1 p j (by omega)]), (fun p h => by
            funext j
            rw [nA_3 p (by omega), nA1 p (by omega)]), (by
            rw [hq, show (1000 - c2).toNat = 0 by omega]
            exact st1), (by
            rw [hq, show (1000 - c2).toNat = 0 by omega]
            exact lw1), rfl⟩
    · refine ezw_aload_n rfl rfl ?_
      refine ezw_call0_0 rfl (by omega) (ezu_at rfl) rfl rfl rfl rfl (ezt_m45_1 hS (by omega)) ?_
      rintro _ _ ⟨rfl, u5, hu5, p4_0, p4_1, rfl⟩
      refine ezw_if_eq rfl rfl ⟨by omega, by omega⟩ (fun h36_5 => ?_) (fun h36_5 => ?_)
      · exact ezw_return rfl rfl ⟨F_3, A_3, rfl, hS, (fun p j h => by rw [nF_3 p j (by omega), nF1 p j (by omega)]), (fun p h => by
              funext j
              rw [nA_3 p (by omega), nA1 p (by omega)]), (by
              rw [hq, ezp_lp_n (by have h8 := p4_1 (by omega); omega)]
              exact st1), (by
              rw [hq, ezp_lp_n (by have h8 := p4_1 (by omega); omega)]
              exact lw1), rfl⟩
      · have z1 : x1.1.1 = 0 := by have h0 := p4_0 (by omega); omega
        have k3 := (st1.2.2.1 z1).2.2.1
        have hm : (1000 - c2).toNat = (1000 - (c2 + 1)).toNat + 1 := by omega
        refine ezw_aload_n rfl rfl ?_
        refine ezy_get_i hS rfl rfl rfl rfl rfl rfl (fun u6 hu6 ku6 eu6 => ?_)
        replace eu6 := eu6.symm
        subst eu6
        refine ezw_iload_n rfl rfl ?_
        refine ezw_call2_2 rfl (by omega) rfl rfl (ezt_m84_v3 hS (by omega) hu6) ?_
        rintro _ _ ⟨rfl, u8, hu8, v_7, rfl⟩
        refine ezw_istore rfl rfl ?_
        have eo : u8 = ezp_op (ezp_K c x1.1.2) 3 := by rw [← k3]; exact v_7
        refine ezw_iload rfl rfl ?_
        refine ezw_if_ne rfl rfl hu8 (fun h51_8 => ?_) (fun h51_8 => ?_)
        · refine ezw_aload_n rfl rfl ?_
          refine ezw_call0_0 rfl (by omega) (ezu_at rfl) rfl rfl rfl rfl (ezt_take hS (by omega) (by rw [nF_3 1 2 (by decide), nF1 1 2 (by decide)]; exact hn) (by rw [nA_3 2 (by decide), nA1 2 (by decide)]; exact hc) tp (by rw [nA_3 3 (by decide), nA1 3 (by decide)]; exact hw) st1) ?_
          rintro _ _ ⟨F9, rfl, hS, nF9, st_9, rfl⟩
          refine ezw_aload_n rfl rfl ?_
          refine ezw_aload_n rfl rfl ?_
          refine ezw_iload_n rfl rfl ?_
          refine ezw_iconst (1) rfl rfl ?_
          refine ezw_iadd (k := (4)) rfl (by omega) ?_
          refine ezw_iload_n rfl rfl ?_
          refine ezw_call0_3 rfl (by omega) (ezu_at rfl) rfl rfl rfl rfl (ezt_m81_9_1_v4_v3 (x := (ezp_t x1.1, x1.2)) hS (by omega) (by rw [nF9 1 2 (by decide), nF_3 1 2 (by decide), nF1 1 2 (by decide)]; exact hn) (by rw [nA_3 2 (by decide), nA1 2 (by decide)]; exact hc) tp (by rw [nA_3 3 (by decide), nA1 3 (by decide)]; exact hw) st_9 (ezt_LW_fr (F' := F9) (A' := A_3) lw1 (by rw [nF9 9 4 (by decide)]) rfl)) ?_
          rintro _ _ ⟨F10, A10, rfl, hS, nF10, nA10, st_10, lw_10, rfl⟩
          refine ezw_aload_n rfl rfl ?_
          refine ezw_iload rfl rfl ?_
          refine ezw_call0_1 rfl (by omega) (ezu_at rfl) rfl rfl rfl rfl (ezt_m83_9 hS (by omega) hu8 lw_10) ?_
          rintro _ _ ⟨F11, A11, rfl, hS, nF11, nA11, lw_11, rfl⟩
          refine ezw_iload_n rfl rfl ?_
          refine ezw_iconst (1) rfl rfl ?_
          refine ezw_icmp_ne rfl rfl ⟨by decide, by decide⟩ ⟨by decide, by decide⟩ (fun h76_11 => ?_) (fun h76_11 => absurd h76_11 (by omega))
          refine ezw_iinc (k := c2 + 1) (1) rfl rfl rfl (by omega) rfl ?_
          refine ezw_goto rfl rfl ?_
          exact ezw_keepE [true, true, true, true, true, false] (ihc2 (c2 + 1) (by omega) ⟨by omega, by omega⟩ F11 A11 hS (fun p j h => by rw [nF11 p j (by omega), nF10 p j (by omega), nF9 p j (by omega), nF_3 p j (by omega)]) (fun p h => by
                funext j
                rw [nA11 p (by omega), nA10 p (by omega), nA_3 p (by omega)]) (by omega) (⟨ezp_l1 c 3 (ezp_rk c (ezp_pt c 2) 0) x1, (by rw [hq, hm, ezp_lp_s z1 (by omega) (by decide), show (1000 - (c2 + 1)).toNat = (1000 - (c2 + 1)).toNat by omega]), (ezt_ST_fr st_10 (fun j j0 j1 => by rw [nF11 1 j (by omega)])), (by have h7 := lw_11; rw [eo] at h7; exact h7)⟩))
        · exact ezw_return rfl rfl ⟨F_3, A_3, rfl, hS, (fun p j h => by rw [nF_3 p j (by omega), nF1 p j (by omega)]), (fun p h => by
                funext j
                rw [nA_3 p (by omega), nA1 p (by omega)]), (by
                rw [hq, hm, ezp_lp_0 z1 (by omega)]
                exact st1), (by
                rw [hq, hm, ezp_lp_0 z1 (by omega)]
                exact lw1), rfl⟩
  exact ezw_keepE [true, true, true, true, true, false] (L24_3 (0) ⟨by decide, by decide⟩ F1 A1 hS (fun _ _ _ => rfl) (fun _ _ => rfl) (by omega) (⟨(ezp_rk c (ezp_pt c 2) 0) x, rfl, st_1, lw_1⟩))
def ezt_m81_9_1_v2_v3Q (e : Bool × Bool) (F : Nat → Nat → Int) (A : Nat → Int → Int) (c : Int → Int) (n : Int) (x : ezp_X) : Option ezq_V → (Nat → ezq_C) → Prop := fun v g' => ∃ (F' : Nat → Nat → Int) (A' : Nat → Int → Int), ezu_g e F' A' = g' ∧ ezs_T F' A' ∧ (∀ p j, ¬ (p = 1 ∧ (j = 3 ∨ j = 4 ∨ j = 5 ∨ j = 6 ∨ j = 7 ∨ j = 8 ∨ j = 9) ∨ p = 9 ∧ (j = 4)) → F' p j = F p j) ∧ (∀ p, ¬ (p = 10) → A' p = A p) ∧ (ezt_ST c n (ezp_rk c (ezp_pt c 2) 2 x).1 F') ∧ (ezt_LW 9 (ezp_rk c (ezp_pt c 2) 2 x).2 F' A') ∧ none = v
theorem ezt_m81_9_1_v2_v3 {c : Int → Int} {n : Int} {x : ezp_X} {F : Nat → Nat → Int} {A : Nat → Int → Int} (hS : ezs_T F A) (hd : 20 ≤ d) (hn : F 1 2 = n) (hc : c = ezp_ch (A 2) n) (tp : ezp_tp c n) (hw : ∀ j, 0 ≤ j → j < 48 → A 3 j = ezl_cw.getD j.toNat 0) (st : ezt_ST c n x.1 F) (lw : ezt_LW 9 x.2 F A) : ezw_C l ρ B xa Hb D cA 81 d [ezw_p 9, ezw_p 1, ezw_i (2), ezw_i (3)] (ezu_g e F A) (ezt_m81_9_1_v2_v3Q e F A c n x) := by
  refine ezw_met (k := 2) rfl rfl ?_
  refine ezw_iload_n rfl rfl ?_
  refine ezw_iconst (4) rfl rfl ?_
  refine ezw_icmp_lt rfl rfl ⟨by decide, by decide⟩ ⟨by decide, by decide⟩ (fun h2_0 => ?_) (fun h2_0 => absurd h2_0 (by omega))
  refine ezw_aload_n rfl rfl ?_
  refine ezw_aload_n rfl rfl ?_
  refine ezw_iload_n rfl rfl ?_
  refine ezw_iconst (1) rfl rfl ?_
  refine ezw_iadd (k := (3)) rfl (by omega) ?_
  refine ezw_iload_n rfl rfl ?_
  refine ezw_call0_3 rfl (by omega) (ezu_at rfl) rfl rfl rfl rfl (ezt_m81_9_1_v3_v3 (x := x) hS (by omega) hn hc tp hw st lw) ?_
  rintro _ _ ⟨F1, A1, rfl, hS, nF1, nA1, st_1, lw_1, rfl⟩
  refine ezw_iconst (0) rfl rfl ?_
  refine ezw_istore rfl rfl ?_
  have L24_3 : ∀ c2 : Int, ezw_in c2 → ∀ F_3 : Nat → Nat → Int, ∀ A_3 : Nat → Int → Int, ezs_T F_3 A_3 → (∀ p j, ¬ (p = 1 ∧ (j = 3 ∨ j = 4 ∨ j = 5 ∨ j = 6 ∨ j = 7 ∨ j = 8 ∨ j = 9) ∨ p = 9 ∧ (j = 4)) → F_3 p j = F1 p j) → (∀ p, ¬ (p = 10) → A_3 p = A1 p) → ((0) ≤ c2) → (∃ x1, ezp_rk c (ezp_pt c 2) 2 x = ezp_lp c 2 (ezp_rk c (ezp_pt c 2) 1) (1000 - c2).toNat x1 ∧ ezt_ST c n x1.1 F_3 ∧ ezt_LW 9 x1.2 F_3 A_3) → ezw_E l ρ B xa Hb D cA d ezq_re81 (ezt_m81_9_1_v2_v3Q e F A c n x) 24 [some (ezw_p 9), some (ezw_p 1), some (ezw_i (2)), some (ezw_i (3)), some (ezw_i c2), none] [] (ezu_g e F_3 A_3) := by
    refine ezs_up ?_
    intro c2 hc2 ihc2 F_3 A_3 hS nF_3 nA_3 g_3 iv_3
    obtain ⟨x1, hq, st1, lw1⟩ := iv_3
    have hs1 := st1.1
    refine ezw_iload rfl rfl ?_
    refine ezw_sipush (1000) rfl rfl ?_
    refine ezw_icmp_ge rfl rfl hc2 ⟨by decide, by decide⟩ (fun h29_3 => ?_) (fun h29_3 => ?_)
    · exact ezw_return rfl rfl ⟨F_3, A_3, rfl, hS, (fun p j h => by rw [nF_3 p j (by omega), nF1 p j (by omega)]), (fun p h => by
            funext j
            rw [nA_3 p (by omega), nA1 p (by omega)]), (by
            rw [hq, show (1000 - c2).toNat = 0 by omega]
            exact st1), (by
            rw [hq, show (1000 - c2).toNat = 0 by omega]
            exact lw1), rfl⟩
    · refine ezw_aload_n rfl rfl ?_
      refine ezw_call0_0 rfl (by omega) (ezu_at rfl) rfl rfl rfl rfl (ezt_m45_1 hS (by omega)) ?_
      rintro _ _ ⟨rfl, u5, hu5, p4_0, p4_1, rfl⟩
      refine ezw_if_eq rfl rfl ⟨by omega, by omega⟩ (fun h36_5 => ?_) (fun h36_5 => ?_)
      · exact ezw_return rfl rfl ⟨F_3, A_3, rfl, hS, (fun p j h => by rw [nF_3 p j (by omega), nF1 p j (by omega)]), (fun p h => by
              funext j
              rw [nA_3 p (by omega), nA1 p (by omega)]), (by
              rw [hq, ezp_lp_n (by have h8 := p4_1 (by omega); omega)]
              exact st1), (by
              rw [hq, ezp_lp_n (by have h8 := p4_1 (by omega); omega)]
              exact lw1), rfl⟩
      · have z1 : x1.1.1 = 0 := by have h0 := p4_0 (by omega); omega
        have k3 := (st1.2.2.1 z1).2.2.1
        have hm : (1000 - c2).toNat = (1000 - (c2 + 1)).toNat + 1 := by omega
        refine ezw_aload_n rfl rfl ?_
        refine ezy_get_i hS rfl rfl rfl rfl rfl rfl (fun u6 hu6 ku6 eu6 => ?_)
        replace eu6 := eu6.symm
        subst eu6
        refine ezw_iload_n rfl rfl ?_
        refine ezw_call2_2 rfl (by omega) rfl rfl (ezt_m84_v2 hS (by omega) hu6) ?_
        rintro _ _ ⟨rfl, u8, hu8, v_7, rfl⟩
        refine ezw_istore rfl rfl ?_
        have eo : u8 = ezp_op (ezp_K c x1.1.2) 2 := by rw [← k3]; exact v_7
        refine ezw_iload rfl rfl ?_
        refine ezw_if_ne rfl rfl hu8 (fun h51_8 => ?_) (fun h51_8 => ?_)
        · refine ezw_aload_n rfl rfl ?_
          refine ezw_call0_0 rfl (by omega) (ezu_at rfl) rfl rfl rfl rfl (ezt_take hS (by omega) (by rw [nF_3 1 2 (by decide), nF1 1 2 (by decide)]; exact hn) (by rw [nA_3 2 (by decide), nA1 2 (by decide)]; exact hc) tp (by rw [nA_3 3 (by decide), nA1 3 (by decide)]; exact hw) st1) ?_
          rintro _ _ ⟨F9, rfl, hS, nF9, st_9, rfl⟩
          refine ezw_aload_n rfl rfl ?_
          refine ezw_aload_n rfl rfl ?_
          refine ezw_iload_n rfl rfl ?_
          refine ezw_iconst (1) rfl rfl ?_
          refine ezw_iadd (k := (3)) rfl (by omega) ?_
          refine ezw_iload_n rfl rfl ?_
          refine ezw_call0_3 rfl (by omega) (ezu_at rfl) rfl rfl rfl rfl (ezt_m81_9_1_v3_v3 (x := (ezp_t x1.1, x1.2)) hS (by omega) (by rw [nF9 1 2 (by decide), nF_3 1 2 (by decide), nF1 1 2 (by decide)]; exact hn) (by rw [nA_3 2 (by decide), nA1 2 (by decide)]; exact hc) tp (by rw [nA_3 3 (by decide), nA1 3 (by decide)]; exact hw) st_9 (ezt_LW_fr (F' := F9) (A' := A_3) lw1 (by rw [nF9 9 4 (by decide)]) rfl)) ?_
          rintro _ _ ⟨F10, A10, rfl, hS, nF10, nA10, st_10, lw_10, rfl⟩
          refine ezw_aload_n rfl rfl ?_
          refine ezw_iload rfl rfl ?_
          refine ezw_call0_1 rfl (by omega) (ezu_at rfl) rfl rfl rfl rfl (ezt_m83_9 hS (by omega) hu8 lw_10) ?_
          rintro _ _ ⟨F11, A11, rfl, hS, nF11, nA11, lw_11, rfl⟩
          refine ezw_iload_n rfl rfl ?_
          refine ezw_iconst (1) rfl rfl ?_
          refine ezw_icmp_ne rfl rfl ⟨by decide, by decide⟩ ⟨by decide, by decide⟩ (fun h76_11 => ?_) (fun h76_11 => absurd h76_11 (by omega))
          refine ezw_iinc (k := c2 + 1) (1) rfl rfl rfl (by omega) rfl ?_
          refine ezw_goto rfl rfl ?_
          exact ezw_keepE [true, true, true, true, true, false] (ihc2 (c2 + 1) (by omega) ⟨by omega, by omega⟩ F11 A11 hS (fun p j h => by rw [nF11 p j (by omega), nF10 p j (by omega), nF9 p j (by omega), nF_3 p j (by omega)]) (fun p h => by
                funext j
                rw [nA11 p (by omega), nA10 p (by omega), nA_3 p (by omega)]) (by omega) (⟨ezp_l1 c 2 (ezp_rk c (ezp_pt c 2) 1) x1, (by rw [hq, hm, ezp_lp_s z1 (by omega) (by decide), show (1000 - (c2 + 1)).toNat = (1000 - (c2 + 1)).toNat by omega]), (ezt_ST_fr st_10 (fun j j0 j1 => by rw [nF11 1 j (by omega)])), (by have h7 := lw_11; rw [eo] at h7; exact h7)⟩))
        · exact ezw_return rfl rfl ⟨F_3, A_3, rfl, hS, (fun p j h => by rw [nF_3 p j (by omega), nF1 p j (by omega)]), (fun p h => by
                funext j
                rw [nA_3 p (by omega), nA1 p (by omega)]), (by
                rw [hq, hm, ezp_lp_0 z1 (by omega)]
                exact st1), (by
                rw [hq, hm, ezp_lp_0 z1 (by omega)]
                exact lw1), rfl⟩
  exact ezw_keepE [true, true, true, true, true, false] (L24_3 (0) ⟨by decide, by decide⟩ F1 A1 hS (fun _ _ _ => rfl) (fun _ _ => rfl) (by omega) (⟨(ezp_rk c (ezp_pt c 2) 1) x, rfl, st_1, lw_1⟩))
def ezt_m81_9_1_v1_v3Q (e : Bool × Bool) (F : Nat → Nat → Int) (A : Nat → Int → Int) (c : Int → Int) (n : Int) (x : ezp_X) : Option ezq_V → (Nat → ezq_C) → Prop := fun v g' => ∃ (F' : Nat → Nat → Int) (A' : Nat → Int → Int), ezu_g e F' A' = g' ∧ ezs_T F' A' ∧ (∀ p j, ¬ (p = 1 ∧ (j = 3 ∨ j = 4 ∨ j = 5 ∨ j = 6 ∨ j = 7 ∨ j = 8 ∨ j = 9) ∨ p = 9 ∧ (j = 4)) → F' p j = F p j) ∧ (∀ p, ¬ (p = 10) → A' p = A p) ∧ (ezt_ST c n (ezp_rk c (ezp_pt c 2) 3 x).1 F') ∧ (ezt_LW 9 (ezp_rk c (ezp_pt c 2) 3 x).2 F' A') ∧ none = v
theorem ezt_m81_9_1_v1_v3 {c : Int → Int} {n : Int} {x : ezp_X} {F : Nat → Nat → Int} {A : Nat → Int → Int} (hS : ezs_T F A) (hd : 21 ≤ d) (hn : F 1 2 = n) (hc : c = ezp_ch (A 2) n) (tp : ezp_tp c n) (hw : ∀ j, 0 ≤ j → j < 48 → A 3 j = ezl_cw.getD j.toNat 0) (st : ezt_ST c n x.1 F) (lw : ezt_LW 9 x.2 F A) : ezw_C l ρ B xa Hb D cA 81 d [ezw_p 9, ezw_p 1, ezw_i (1), ezw_i (3)] (ezu_g e F A) (ezt_m81_9_1_v1_v3Q e F A c n x) := by
  refine ezw_met (k := 2) rfl rfl ?_
  refine ezw_iload_n rfl rfl ?_
  refine ezw_iconst (4) rfl rfl ?_
  refine ezw_icmp_lt rfl rfl ⟨by decide, by decide⟩ ⟨by decide, by decide⟩ (fun h2_0 => ?_) (fun h2_0 => absurd h2_0 (by omega))
  refine ezw_aload_n rfl rfl ?_
  refine ezw_aload_n rfl rfl ?_
  refine ezw_iload_n rfl rfl ?_
  refine ezw_iconst (1) rfl rfl ?_
  refine ezw_iadd (k := (2)) rfl (by omega) ?_
  refine ezw_iload_n rfl rfl ?_
  refine ezw_call0_3 rfl (by omega) (ezu_at rfl) rfl rfl rfl rfl (ezt_m81_9_1_v2_v3 (x := x) hS (by omega) hn hc tp hw st lw) ?_
  rintro _ _ ⟨F1, A1, rfl, hS, nF1, nA1, st_1, lw_1, rfl⟩
  refine ezw_iconst (0) rfl rfl ?_
  refine ezw_istore rfl rfl ?_
  have L24_3 : ∀ c2 : Int, ezw_in c2 → ∀ F_3 : Nat → Nat → Int, ∀ A_3 : Nat → Int → Int, ezs_T F_3 A_3 → (∀ p j, ¬ (p = 1 ∧ (j = 3 ∨ j = 4 ∨ j = 5 ∨ j = 6 ∨ j = 7 ∨ j = 8 ∨ j = 9) ∨ p = 9 ∧ (j = 4)) → F_3 p j = F1 p j) → (∀ p, ¬ (p = 10) → A_3 p = A1 p) → ((0) ≤ c2) → (∃ x1, ezp_rk c (ezp_pt c 2) 3 x = ezp_lp c 1 (ezp_rk c (ezp_pt c 2) 2) (1000 - c2).toNat x1 ∧ ezt_ST c n x1.1 F_3 ∧ ezt_LW 9 x1.2 F_3 A_3) → ezw_E l ρ B xa Hb D cA d ezq_re81 (ezt_m81_9_1_v1_v3Q e F A c n x) 24 [some (ezw_p 9), some (ezw_p 1), some (ezw_i (1)), some (ezw_i (3)), some (ezw_i c2), none] [] (ezu_g e F_3 A_3) := by
    refine ezs_up ?_
    intro c2 hc2 ihc2 F_3 A_3 hS nF_3 nA_3 g_3 iv_3
    obtain ⟨x1, hq, st1, lw1⟩ := iv_3
    have hs1 := st1.1
    refine ezw_iload rfl rfl ?_
    refine ezw_sipush (1000) rfl rfl ?_
    refine ezw_icmp_ge rfl rfl hc2 ⟨by decide, by decide⟩ (fun h29_3 => ?_) (fun h29_3 => ?_)
    · exact ezw_return rfl rfl ⟨F_3, A_3, rfl, hS, (fun p j h => by rw [nF_3 p j (by omega), nF1 p j (by omega)]), (fun p h => by
            funext j
            rw [nA_3 p (by omega), nA1 p (by omega)]), (by
            rw [hq, show (1000 - c2).toNat = 0 by omega]
            exact st1), (by
            rw [hq, show (1000 - c2).toNat = 0 by omega]
            exact lw1), rfl⟩
    · refine ezw_aload_n rfl rfl ?_
      refine ezw_call0_0 rfl (by omega) (ezu_at rfl) rfl rfl rfl rfl (ezt_m45_1 hS (by omega)) ?_
      rintro _ _ ⟨rfl, u5, hu5, p4_0, p4_1, rfl⟩
      refine ezw_if_eq rfl rfl ⟨by omega, by omega⟩ (fun h36_5 => ?_) (fun h36_5 => ?_)
      · exact ezw_return rfl rfl ⟨F_3, A_3, rfl, hS, (fun p j h => by rw [nF_3 p j (by omega), nF1 p j (by omega)]), (fun p h => by
              funext j
              rw [nA_3 p (by omega), nA1 p (by omega)]), (by
              rw [hq, ezp_lp_n (by have h8 := p4_1 (by omega); omega)]
              exact st1), (by
              rw [hq, ezp_lp_n (by have h8 := p4_1 (by omega); omega)]
              exact lw1), rfl⟩
      · have z1 : x1.1.1 = 0 := by have h0 := p4_0 (by omega); omega
        have k3 := (st1.2.2.1 z1).2.2.1
        have hm : (1000 - c2).toNat = (1000 - (c2 + 1)).toNat + 1 := by omega
        refine ezw_aload_n rfl rfl ?_
        refine ezy_get_i hS rfl rfl rfl rfl rfl rfl (fun u6 hu6 ku6 eu6 => ?_)
        replace eu6 := eu6.symm
        subst eu6
        refine ezw_iload_n rfl rfl ?_
        refine ezw_call2_2 rfl (by omega) rfl rfl (ezt_m84_v1 hS (by omega) hu6) ?_
        rintro _ _ ⟨rfl, u8, hu8, v_7, rfl⟩
        refine ezw_istore rfl rfl ?_
        have eo : u8 = ezp_op (ezp_K c x1.1.2) 1 := by rw [← k3]; exact v_7
        refine ezw_iload rfl rfl ?_
        refine ezw_if_ne rfl rfl hu8 (fun h51_8 => ?_) (fun h51_8 => ?_)
        · refine ezw_aload_n rfl rfl ?_
          refine ezw_call0_0 rfl (by omega) (ezu_at rfl) rfl rfl rfl rfl (ezt_take hS (by omega) (by rw [nF_3 1 2 (by decide), nF1 1 2 (by decide)]; exact hn) (by rw [nA_3 2 (by decide), nA1 2 (by decide)]; exact hc) tp (by rw [nA_3 3 (by decide), nA1 3 (by decide)]; exact hw) st1) ?_
          rintro _ _ ⟨F9, rfl, hS, nF9, st_9, rfl⟩
          refine ezw_aload_n rfl rfl ?_
          refine ezw_aload_n rfl rfl ?_
          refine ezw_iload_n rfl rfl ?_
          refine ezw_iconst (1) rfl rfl ?_
          refine ezw_iadd (k := (2)) rfl (by omega) ?_
          refine ezw_iload_n rfl rfl ?_
          refine ezw_call0_3 rfl (by omega) (ezu_at rfl) rfl rfl rfl rfl (ezt_m81_9_1_v2_v3 (x := (ezp_t x1.1, x1.2)) hS (by omega) (by rw [nF9 1 2 (by decide), nF_3 1 2 (by decide), nF1 1 2 (by decide)]; exact hn) (by rw [nA_3 2 (by decide), nA1 2 (by decide)]; exact hc) tp (by rw [nA_3 3 (by decide), nA1 3 (by decide)]; exact hw) st_9 (ezt_LW_fr (F' := F9) (A' := A_3) lw1 (by rw [nF9 9 4 (by decide)]) rfl)) ?_
          rintro _ _ ⟨F10, A10, rfl, hS, nF10, nA10, st_10, lw_10, rfl⟩
          refine ezw_aload_n rfl rfl ?_
          refine ezw_iload rfl rfl ?_
          refine ezw_call0_1 rfl (by omega) (ezu_at rfl) rfl rfl rfl rfl (ezt_m83_9 hS (by omega) hu8 lw_10) ?_
          rintro _ _ ⟨F11, A11, rfl, hS, nF11, nA11, lw_11, rfl⟩
          refine ezw_iload_n rfl rfl ?_
          refine ezw_iconst (1) rfl rfl ?_
          refine ezw_icmp_ne rfl rfl ⟨by decide, by decide⟩ ⟨by decide, by decide⟩ (fun h76_11 => absurd h76_11 (by omega)) (fun h76_11 => ?_)
          exact ezw_return rfl rfl ⟨F11, A11, rfl, hS, (fun p j h => by rw [nF11 p j (by omega), nF10 p j (by omega), nF9 p j (by omega), nF_3 p j (by omega), nF1 p j (by omega)]), (fun p h => by
                funext j
                rw [nA11 p (by omega), nA10 p (by omega), nA_3 p (by omega), nA1 p (by omega)]), (by
                rw [hq, hm, ezp_lp_1 z1 (by omega) (by decide)]
                exact (ezt_ST_fr st_10 (fun j j0 j1 => by rw [nF11 1 j (by omega)]))), (by
                rw [hq, hm, ezp_lp_1 z1 (by omega) (by decide)]
                exact (by have h7 := lw_11; rw [eo] at h7; exact h7)), rfl⟩
        · exact ezw_return rfl rfl ⟨F_3, A_3, rfl, hS, (fun p j h => by rw [nF_3 p j (by omega), nF1 p j (by omega)]), (fun p h => by
                funext j
                rw [nA_3 p (by omega), nA1 p (by omega)]), (by
                rw [hq, hm, ezp_lp_0 z1 (by omega)]
                exact st1), (by
                rw [hq, hm, ezp_lp_0 z1 (by omega)]
                exact lw1), rfl⟩
  exact ezw_keepE [true, true, true, true, true, false] (L24_3 (0) ⟨by decide, by decide⟩ F1 A1 hS (fun _ _ _ => rfl) (fun _ _ => rfl) (by omega) (⟨(ezp_rk c (ezp_pt c 2) 2) x, rfl, st_1, lw_1⟩))
def ezt_m81_9_1_v0_v3Q (e : Bool × Bool) (F : Nat → Nat → Int) (A : Nat → Int → Int) (c : Int → Int) (n : Int) (x : ezp_X) : Option ezq_V → (Nat → ezq_C) → Prop := fun v g' => ∃ (F' : Nat → Nat → Int) (A' : Nat → Int → Int), ezu_g e F' A' = g' ∧ ezs_T F' A' ∧ (∀ p j, ¬ (p = 1 ∧ (j = 3 ∨ j = 4 ∨ j = 5 ∨ j = 6 ∨ j = 7 ∨ j = 8 ∨ j = 9) ∨ p = 9 ∧ (j = 4)) → F' p j = F p j) ∧ (∀ p, ¬ (p = 10) → A' p = A p) ∧ (ezt_ST c n (ezp_rk c (ezp_pt c 2) 4 x).1 F') ∧ (ezt_LW 9 (ezp_rk c (ezp_pt c 2) 4 x).2 F' A') ∧ none = v
theorem ezt_m81_9_1_v0_v3 {c : Int → Int} {n : Int} {x : ezp_X} {F : Nat → Nat → Int} {A : Nat → Int → Int} (hS : ezs_T F A) (hd : 22 ≤ d) (hn : F 1 2 = n) (hc : c = ezp_ch (A 2) n) (tp : ezp_tp c n) (hw : ∀ j, 0 ≤ j → j < 48 → A 3 j = ezl_cw.getD j.toNat 0) (st : ezt_ST c n x.1 F) (lw : ezt_LW 9 x.2 F A) : ezw_C l ρ B xa Hb D cA 81 d [ezw_p 9, ezw_p 1, ezw_i (0), ezw_i (3)] (ezu_g e F A) (ezt_m81_9_1_v0_v3Q e F A c n x) := by
  refine ezw_met (k := 2) rfl rfl ?_
  refine ezw_iload_n rfl rfl ?_
  refine ezw_iconst (4) rfl rfl ?_
  refine ezw_icmp_lt rfl rfl ⟨by decide, by decide⟩ ⟨by decide, by decide⟩ (fun h2_0 => ?_) (fun h2_0 => absurd h2_0 (by omega))
  refine ezw_aload_n rfl rfl ?_
  refine ezw_aload_n rfl rfl ?_
  refine ezw_iload_n rfl rfl ?_
  refine ezw_iconst (1) rfl rfl ?_
  refine ezw_iadd (k := (1)) rfl (by omega) ?_
  refine ezw_iload_n rfl rfl ?_
  refine ezw_call0_3 rfl (by omega) (ezu_at rfl) rfl rfl rfl rfl (ezt_m81_9_1_v1_v3 (x := x) hS (by omega) hn hc tp hw st lw) ?_
  rintro _ _ ⟨F1, A1, rfl, hS, nF1, nA1, st_1, lw_1, rfl⟩
  refine ezw_iconst (0) rfl rfl ?_
  refine ezw_istore rfl rfl ?_
  have L24_3 : ∀ c2 : Int, ezw_in c2 → ∀ F_3 : Nat → Nat → Int, ∀ A_3 : Nat → Int → Int, ezs_T F_3 A_3 → (∀ p j, ¬ (p = 1 ∧ (j = 3 ∨ j = 4 ∨ j = 5 ∨ j = 6 ∨ j = 7 ∨ j = 8 ∨ j = 9) ∨ p = 9 ∧ (j = 4)) → F_3 p j = F1 p j) → (∀ p, ¬ (p = 10) → A_3 p = A1 p) → ((0) ≤ c2) → (∃ x1, ezp_rk c (ezp_pt c 2) 4 x = ezp_lp c 0 (ezp_rk c (ezp_pt c 2) 3) (1000 - c2).toNat x1 ∧ ezt_ST c n x1.1 F_3 ∧ ezt_LW 9 x1.2 F_3 A_3) → ezw_E l ρ B xa Hb D cA d ezq_re81 (ezt_m81_9_1_v0_v3Q e F A c n x) 24 [some (ezw_p 9), some (ezw_p 1), some (ezw_i (0)), some (ezw_i (3)), some (ezw_i c2), none] [] (ezu_g e F_3 A_3) := by
    refine ezs_up ?_
    intro c2 hc2 ihc2 F_3 A_3 hS nF_3 nA_3 g_3 iv_3
    obtain ⟨x1, hq, st1, lw1⟩ := iv_3
    have hs1 := st1.1
    refine ezw_iload rfl rfl ?_
    refine ezw_sipush (1000) rfl rfl ?_
    refine ezw_icmp_ge rfl rfl hc2 ⟨by decide, by decide⟩ (fun h29_3 => ?_) (fun h29_3 => ?_)
    · exact ezw_return rfl rfl ⟨F_3, A_3, rfl, hS, (fun p j h => by rw [nF_3 p j (by omega), nF1 p j (by omega)]), (fun p h => by
            funext j
            rw [nA_3 p (by omega), nA1 p (by omega)]), (by
            rw [hq, show (1000 - c2).toNat = 0 by omega]
            exact st1), (by
            rw [hq, show (1000 - c2).toNat = 0 by omega]
            exact lw1), rfl⟩
    · refine ezw_aload_n rfl rfl ?_
      refine ezw_call0_0 rfl (by omega) (ezu_at rfl) rfl rfl rfl rfl (ezt_m45_1 hS (by omega)) ?_
      rintro _ _ ⟨rfl, u5, hu5, p4_0, p4_1, rfl⟩
      refine ezw_if_eq rfl rfl ⟨by omega, by omega⟩ (fun h36_5 => ?_) (fun h36_5 => ?_)
      · exact ezw_return rfl rfl ⟨F_3, A_3, rfl, hS, (fun p j h => by rw [nF_3 p j (by omega), nF1 p j (by omega)]), (fun p h => by
              funext j
              rw [nA_3 p (by omega), nA1 p (by omega)]), (by
              rw [hq, ezp_lp_n (by have h8 := p4_1 (by omega); omega)]
              exact st1), (by
              rw [hq, ezp_lp_n (by have h8 := p4_1 (by omega); omega)]
              exact lw1), rfl⟩
      · have z1 : x1.1.1 = 0 := by have h0 := p4_0 (by omega); omega
        have k3 := (st1.2.2.1 z1).2.2.1
        have hm : (1000 - c2).toNat = (1000 - (c2 + 1)).toNat + 1 := by omega
        refine ezw_aload_n rfl rfl ?_
        refine ezy_get_i hS rfl rfl rfl rfl rfl rfl (fun u6 hu6 ku6 eu6 => ?_)
        replace eu6 := eu6.symm
        subst eu6
        refine ezw_iload_n rfl rfl ?_
        refine ezw_call2_2 rfl (by omega) rfl rfl (ezt_m84_v0 hS (by omega) hu6) ?_
        rintro _ _ ⟨rfl, u8, hu8, v_7, rfl⟩
        refine ezw_istore rfl rfl ?_
        have eo : u8 = ezp_op (ezp_K c x1.1.2) 0 := by rw [← k3]; exact v_7
        refine ezw_iload rfl rfl ?_
        refine ezw_if_ne rfl rfl hu8 (fun h51_8 => ?_) (fun h51_8 => ?_)
        · refine ezw_aload_n rfl rfl ?_
          refine ezw_call0_0 rfl (by omega) (ezu_at rfl) rfl rfl rfl rfl (ezt_take hS (by omega) (by rw [nF_3 1 2 (by decide), nF1 1 2 (by decide)]; exact hn) (by rw [nA_3 2 (by decide), nA1 2 (by decide)]; exact hc) tp (by rw [nA_3 3 (by decide), nA1 3 (by decide)]; exact hw) st1) ?_
          rintro _ _ ⟨F9, rfl, hS, nF9, st_9, rfl⟩
          refine ezw_aload_n rfl rfl ?_
          refine ezw_aload_n rfl rfl ?_
          refine ezw_iload_n rfl rfl ?_
          refine ezw_iconst (1) rfl rfl ?_
          refine ezw_iadd (k := (1)) rfl (by omega) ?_
          refine ezw_iload_n rfl rfl ?_
          refine ezw_call0_3 rfl (by omega) (ezu_at rfl) rfl rfl rfl rfl (ezt_m81_9_1_v1_v3 (x := (ezp_t x1.1, x1.2)) hS (by omega) (by rw [nF9 1 2 (by decide), nF_3 1 2 (by decide), nF1 1 2 (by decide)]; exact hn) (by rw [nA_3 2 (by decide), nA1 2 (by decide)]; exact hc) tp (by rw [nA_3 3 (by decide), nA1 3 (by decide)]; exact hw) st_9 (ezt_LW_fr (F' := F9) (A' := A_3) lw1 (by rw [nF9 9 4 (by decide)]) rfl)) ?_
          rintro _ _ ⟨F10, A10, rfl, hS, nF10, nA10, st_10, lw_10, rfl⟩
          refine ezw_aload_n rfl rfl ?_
          refine ezw_iload rfl rfl ?_
          refine ezw_call0_1 rfl (by omega) (ezu_at rfl) rfl rfl rfl rfl (ezt_m83_9 hS (by omega) hu8 lw_10) ?_
          rintro _ _ ⟨F11, A11, rfl, hS, nF11, nA11, lw_11, rfl⟩
          refine ezw_iload_n rfl rfl ?_
          refine ezw_iconst (1) rfl rfl ?_
          refine ezw_icmp_ne rfl rfl ⟨by decide, by decide⟩ ⟨by decide, by decide⟩ (fun h76_11 => ?_) (fun h76_11 => absurd h76_11 (by omega))
          refine ezw_iinc (k := c2 + 1) (1) rfl rfl rfl (by omega) rfl ?_
          refine ezw_goto rfl rfl ?_
          exact ezw_keepE [true, true, true, true, true, false] (ihc2 (c2 + 1) (by omega) ⟨by omega, by omega⟩ F11 A11 hS (fun p j h => by rw [nF11 p j (by omega), nF10 p j (by omega), nF9 p j (by omega), nF_3 p j (by omega)]) (fun p h => by
                funext j
                rw [nA11 p (by omega), nA10 p (by omega), nA_3 p (by omega)]) (by omega) (⟨ezp_l1 c 0 (ezp_rk c (ezp_pt c 2) 3) x1, (by rw [hq, hm, ezp_lp_s z1 (by omega) (by decide), show (1000 - (c2 + 1)).toNat = (1000 - (c2 + 1)).toNat by omega]), (ezt_ST_fr st_10 (fun j j0 j1 => by rw [nF11 1 j (by omega)])), (by have h7 := lw_11; rw [eo] at h7; exact h7)⟩))
        · exact ezw_return rfl rfl ⟨F_3, A_3, rfl, hS, (fun p j h => by rw [nF_3 p j (by omega), nF1 p j (by omega)]), (fun p h => by
                funext j
                rw [nA_3 p (by omega), nA1 p (by omega)]), (by
                rw [hq, hm, ezp_lp_0 z1 (by omega)]
                exact st1), (by
                rw [hq, hm, ezp_lp_0 z1 (by omega)]
                exact lw1), rfl⟩
  exact ezw_keepE [true, true, true, true, true, false] (L24_3 (0) ⟨by decide, by decide⟩ F1 A1 hS (fun _ _ _ => rfl) (fun _ _ => rfl) (by omega) (⟨(ezp_rk c (ezp_pt c 2) 3) x, rfl, st_1, lw_1⟩))
def ezt_m82_9_1_v2Q (e : Bool × Bool) (F : Nat → Nat → Int) (A : Nat → Int → Int) (c : Int → Int) (n : Int) (x : ezp_X) : Option ezq_V → (Nat → ezq_C) → Prop := fun v g' => ∃ (F' : Nat → Nat → Int) (A' : Nat → Int → Int), ezu_g e F' A' = g' ∧ ezs_T F' A' ∧ (∀ p j, ¬ (p = 1 ∧ (j = 3 ∨ j = 4 ∨ j = 5 ∨ j = 6 ∨ j = 7 ∨ j = 8 ∨ j = 9) ∨ p = 9 ∧ (j = 4)) → F' p j = F p j) ∧ (∀ p, ¬ (p = 10) → A' p = A p) ∧ (ezt_ST c n (ezp_pt c 3 x).1 F') ∧ (ezt_LW 9 (ezp_pt c 3 x).2 F' A') ∧ none = v
theorem ezt_m82_9_1_v2 {c : Int → Int} {n : Int} {x : ezp_X} {F : Nat → Nat → Int} {A : Nat → Int → Int} (hS : ezs_T F A) (hd : 23 ≤ d) (hn : F 1 2 = n) (hc : c = ezp_ch (A 2) n) (tp : ezp_tp c n) (hw : ∀ j, 0 ≤ j → j < 48 → A 3 j = ezl_cw.getD j.toNat 0) (st : ezt_ST c n x.1 F) (lw : ezt_LW 9 x.2 F A) : ezw_C l ρ B xa Hb D cA 82 d [ezw_p 9, ezw_p 1, ezw_i (2)] (ezu_g e F A) (ezt_m82_9_1_v2Q e F A c n x) := by
  refine ezw_met (k := 2) rfl rfl ?_
  have hn0 := tp.1
  have hn1 := tp.2.1
  obtain ⟨sf, sk, sc, sb, sb2⟩ := id st
  have hP := ezp_Pr tp x.1.2
  have c3i : x.1.1 = 0 → F 1 3 = ezp_K c x.1.2 := fun z => (sc z).2.2.1
  have c8i : x.1.1 = 0 → F 1 8 = ezp_P c x.1.2 := fun z => (sc z).1
  have c4i : x.1.1 = 0 → ezp_K c x.1.2 = 101 → F 1 4 = ezp_V c x.1.2 := fun z => (sc z).2.2.2.1
  have c7i : x.1.1 = 0 → ezp_K c x.1.2 = 100 → F 1 7 = ezp_v 32 (ezp_W c x.1.2) ∧ F 1 5 = ezp_ix (ezp_W c x.1.2) - 44 := fun z => (sc z).2.2.2.2
  refine ezw_aload_n rfl rfl ?_
  refine ezw_bipush (100) rfl rfl ?_
  refine ezw_call0_1 rfl (by omega) (ezu_at rfl) rfl rfl rfl rfl (ezt_m46_1 hS (by omega) ⟨by decide, by decide⟩ hn hc tp st) ?_
  rintro _ _ ⟨rfl, u2, hu2, p1_0, p1_1, rfl⟩
  have J21_4 : ∀ y3 : Int, ezw_in y3 → (y3 = 1 ∧ (x.1.1 = 0 ∧ ezp_K c x.1.2 = 100 ∧ 0 ≤ ezp_ix (ezp_W c x.1.2) - 44) ∨ y3 = 0 ∧ ¬ (x.1.1 = 0 ∧ ezp_K c x.1.2 = 100 ∧ 0 ≤ ezp_ix (ezp_W c x.1.2) - 44)) → ezw_E l ρ B xa Hb D cA d ezq_re82 (ezt_m82_9_1_v2Q e F A c n x) 21 [some (ezw_p 9), some (ezw_p 1), some (ezw_i (2)), none, none] [ezw_i y3] (ezu_g e F A) := by
    intro y3 hy3 jf_4
    refine ezw_istore_n rfl rfl ?_
    refine ezw_iload_n rfl rfl ?_
    have J59_6 : ∀ y5 : Int, ezw_in y5 → (y5 = 1 ∧ ((x.1.1 = 0 ∧ ezp_K c x.1.2 = 100 ∧ 0 ≤ ezp_ix (ezp_W c x.1.2) - 44) ∨ x.1.1 = 0 ∧ (ezp_K c x.1.2 = 101 ∨ ezp_K c x.1.2 = 41 ∨ ezp_K c x.1.2 = 240)) ∨ y5 = 0 ∧ ¬ ((x.1.1 = 0 ∧ ezp_K c x.1.2 = 100 ∧ 0 ≤ ezp_ix (ezp_W c x.1.2) - 44) ∨ x.1.1 = 0 ∧ (ezp_K c x.1.2 = 101 ∨ ezp_K c x.1.2 = 41 ∨ ezp_K c x.1.2 = 240))) → ezw_E l ρ B xa Hb D cA d ezq_re82 (ezt_m82_9_1_v2Q e F A c n x) 59 [some (ezw_p 9), some (ezw_p 1), some (ezw_i (2)), some (ezw_i y3), none] [ezw_i y5] (ezu_g e F A) := by
      intro y5 hy5 jp_6
      refine ezw_istore rfl rfl ?_
      refine ezw_iload rfl rfl ?_
      refine ezw_if_eq rfl rfl hy5 (fun h63_6 => ?_) (fun h63_6 => ?_)
      · refine ezw_aload_n rfl rfl ?_
        refine ezw_iload rfl rfl ?_
        refine ezw_if_eq rfl rfl hy5 (fun h74_6 => ?_) (fun h74_6 => ?_)
        · refine ezw_iconst (1) rfl rfl ?_
          refine ezw_call0_1 rfl (by omega) (ezu_at rfl) rfl rfl rfl rfl (ezt_m50_1 hS (by omega) ⟨by decide, by decide⟩ hn hc tp st (by omega)) ?_
          rintro _ _ ⟨F7, rfl, hS, nF7, st_7, rfl⟩
          refine ezw_goto rfl rfl ?_
          exact ezw_return rfl rfl ⟨F7, A, rfl, hS, (fun p j h => by rw [nF7 p j (by omega)]), (fun _ _ => rfl), (by
                first
                  | (exfalso; omega)
                  | (rw [ezp_pt_s]
                     repeat (first | rw [if_pos (by omega)] | rw [if_neg (by omega)])
                     exact st_7)), (by
                first
                  | (exfalso; omega)
                  | (rw [ezp_pt_s]
                     repeat (first | rw [if_pos (by omega)] | rw [if_neg (by omega)])
                     exact (ezt_LW_fr (F' := F7) (A' := A) lw (by rw [nF7 9 4 (by decide)]) rfl))), rfl⟩
        · refine ezw_iconst (5) rfl rfl ?_
          refine ezw_goto rfl rfl ?_
          refine ezw_call0_1 rfl (by omega) (ezu_at rfl) rfl rfl rfl rfl (ezt_m50_1 hS (by omega) ⟨by decide, by decide⟩ hn hc tp st (by omega)) ?_
          rintro _ _ ⟨F8, rfl, hS, nF8, st_8, rfl⟩
          refine ezw_goto rfl rfl ?_
          exact ezw_return rfl rfl ⟨F8, A, rfl, hS, (fun p j h => by rw [nF8 p j (by omega)]), (fun _ _ => rfl), (by
                first
                  | (exfalso; omega)
                  | (rw [ezp_pt_s]
                     repeat (first | rw [if_pos (by omega)] | rw [if_neg (by omega)])
                     exact st_8)), (by
                first
                  | (exfalso; omega)
                  | (rw [ezp_pt_s]
                     repeat (first | rw [if_pos (by omega)] | rw [if_neg (by omega)])
                     exact (ezt_LW_fr (F' := F8) (A' := A) lw (by rw [nF8 9 4 (by decide)]) rfl))), rfl⟩
      · refine ezw_iload_n rfl rfl ?_
        refine ezw_iconst (5) rfl rfl ?_
        refine ezw_icmp_lt rfl rfl ⟨by decide, by decide⟩ ⟨by decide, by decide⟩ (fun h68_8 => ?_) (fun h68_8 => absurd h68_8 (by omega))
        refine ezw_iload_n rfl rfl ?_
        refine ezw_if_eq rfl rfl hy3 (fun h89_8 => ?_) (fun h89_8 => ?_)
        · refine ezw_aload_n rfl rfl ?_
          refine ezw_bipush (101) rfl rfl ?_
          refine ezw_call0_1 rfl (by omega) (ezu_at rfl) rfl rfl rfl rfl (ezt_m46_1 hS (by omega) ⟨by decide, by decide⟩ hn hc tp st) ?_
          rintro _ _ ⟨rfl, u10, hu10, p9_0, p9_1, rfl⟩
          refine ezw_if_eq rfl rfl ⟨by omega, by omega⟩ (fun h115_10 => ?_) (fun h115_10 => ?_)
          · refine ezw_aload_n rfl rfl ?_
            refine ezw_bipush (41) rfl rfl ?_
            refine ezw_call0_1 rfl (by omega) (ezu_at rfl) rfl rfl rfl rfl (ezt_m46_1 hS (by omega) ⟨by decide, by decide⟩ hn hc tp st) ?_
            rintro _ _ ⟨rfl, u12, hu12, p11_0, p11_1, rfl⟩
            refine ezw_if_eq rfl rfl ⟨by omega, by omega⟩ (fun h139_12 => ?_) (fun h139_12 => ?_)
            · refine ezw_aload_n rfl rfl ?_
              refine ezw_call0_0 rfl (by omega) (ezu_at rfl) rfl rfl rfl rfl (ezt_take hS (by omega) hn hc tp hw st) ?_
              rintro _ _ ⟨F13, rfl, hS, nF13, st_13, rfl⟩
              refine ezw_aload_n rfl rfl ?_
              refine ezw_aload_n rfl rfl ?_
              refine ezw_iconst (0) rfl rfl ?_
              refine ezw_iload_n rfl rfl ?_
              refine ezw_iconst (1) rfl rfl ?_
              refine ezw_iadd (k := (3)) rfl (by omega) ?_
              refine ezw_call0_3 rfl (by omega) (ezu_at rfl) rfl rfl rfl rfl (ezt_m81_9_1_v0_v3 (x := (ezp_t x.1, x.2)) hS (by omega) (by rw [nF13 1 2 (by decide)]; exact hn) hc tp hw st_13 (ezt_LW_fr (F' := F13) (A' := A) lw (by rw [nF13 9 4 (by decide)]) rfl)) ?_
              rintro _ _ ⟨F14, A14, rfl, hS, nF14, nA14, st_14, lw_14, rfl⟩
              refine ezw_aload_n rfl rfl ?_
              refine ezw_sipush (241) rfl rfl ?_
              refine ezw_call0_1 rfl (by omega) (ezu_at rfl) rfl rfl rfl rfl (ezt_m46_1 hS (by omega) ⟨by decide, by decide⟩ (by rw [nF14 1 2 (by decide), nF13 1 2 (by decide)]; exact hn) (by rw [nA14 2 (by decide)]; exact hc) tp st_14) ?_
              rintro _ _ ⟨rfl, u16, hu16, p15_0, p15_1, rfl⟩
              refine ezw_if_eq rfl rfl ⟨by omega, by omega⟩ (fun h183_16 => ?_) (fun h183_16 => ?_)
              · refine ezw_aload_n rfl rfl ?_
                refine ezw_iconst (1) rfl rfl ?_
                refine ezw_call0_1 rfl (by omega) (ezu_at rfl) rfl rfl rfl rfl (ezt_m50_1 hS (by omega) ⟨by decide, by decide⟩ (by rw [nF14 1 2 (by decide), nF13 1 2 (by decide)]; exact hn) (by rw [nA14 2 (by decide)]; exact hc) tp st_14 (by omega)) ?_
                rintro _ _ ⟨F17, rfl, hS, nF17, st_17, rfl⟩
                exact ezw_return rfl rfl ⟨F17, A14, rfl, hS, (fun p j h => by rw [nF17 p j (by omega), nF14 p j (by omega), nF13 p j (by omega)]), (fun p h => by
                      funext j
                      rw [nA14 p (by omega)]), (by
                      first
                        | (exfalso; omega)
                        | (rw [ezp_pt_s]
                           repeat (first | rw [if_pos (by omega)] | rw [if_neg (by omega)])
                           show ezt_ST c n (ezp_cl c _) _
                           unfold ezp_cl
                           rw [if_neg (fun z => (p15_1 (by omega)).elim (fun y => y z.1) (fun y => y z.2))]
                           exact st_17)), (by
                      first
                        | (exfalso; omega)
                        | (rw [ezp_pt_s]
                           repeat (first | rw [if_pos (by omega)] | rw [if_neg (by omega)])
                           exact (ezt_LW_fr (F' := F17) (A' := A14) lw_14 (by rw [nF17 9 4 (by decide)]) rfl))), rfl⟩
              · refine ezw_aload_n rfl rfl ?_
                refine ezw_call0_0 rfl (by omega) (ezu_at rfl) rfl rfl rfl rfl (ezt_take hS (by omega) (by rw [nF14 1 2 (by decide), nF13 1 2 (by decide)]; exact hn) (by rw [nA14 2 (by decide)]; exact hc) tp (by rw [nA14 3 (by decide)]; exact hw) st_14) ?_
                rintro _ _ ⟨F18, rfl, hS, nF18, st_18, rfl⟩
                refine ezw_goto rfl rfl ?_
                exact ezw_return rfl rfl ⟨F18, A14, rfl, hS, (fun p j h => by rw [nF18 p j (by omega), nF14 p j (by omega), nF13 p j (by omega)]), (fun p h => by
                      funext j
                      rw [nA14 p (by omega)]), (by
                      first
                        | (exfalso; omega)
                        | (rw [ezp_pt_s]
                           repeat (first | rw [if_pos (by omega)] | rw [if_neg (by omega)])
                           show ezt_ST c n (ezp_cl c _) _
                           unfold ezp_cl
                           rw [if_pos (p15_0 (by omega))]
                           exact st_18)), (by
                      first
                        | (exfalso; omega)
                        | (rw [ezp_pt_s]
                           repeat (first | rw [if_pos (by omega)] | rw [if_neg (by omega)])
                           exact (ezt_LW_fr (F' := F18) (A' := A14) lw_14 (by rw [nF18 9 4 (by decide)]) rfl))), rfl⟩
            · refine ezw_aload_n rfl rfl ?_
              refine ezw_call0_0 rfl (by omega) (ezu_at rfl) rfl rfl rfl rfl (ezt_take hS (by omega) hn hc tp hw st) ?_
              rintro _ _ ⟨F19, rfl, hS, nF19, st_19, rfl⟩
              refine ezw_aload_n rfl rfl ?_
              refine ezw_aload_n rfl rfl ?_
              refine ezw_iload_n rfl rfl ?_
              refine ezw_iconst (1) rfl rfl ?_
              refine ezw_iadd (k := (3)) rfl (by omega) ?_
              refine ezw_call0_2 rfl (by omega) (ezu_at rfl) rfl rfl rfl rfl (ezt_m82_9_1_v3 (x := (ezp_t x.1, x.2)) hS (by omega) (by rw [nF19 1 2 (by decide)]; exact hn) hc tp hw st_19 (ezt_LW_fr (F' := F19) (A' := A) lw (by rw [nF19 9 4 (by decide)]) rfl)) ?_
              rintro _ _ ⟨F20, A20, rfl, hS, nF20, nA20, st_20, lw_20, rfl⟩
              refine ezw_aload_n rfl rfl ?_
              refine ezw_bipush (-5) rfl rfl ?_
              refine ezw_call0_1 rfl (by omega) (ezu_at rfl) rfl rfl rfl rfl (ezt_m83_9 hS (by omega) ⟨by decide, by decide⟩ lw_20) ?_
              rintro _ _ ⟨F21, A21, rfl, hS, nF21, nA21, lw_21, rfl⟩
              refine ezw_goto rfl rfl ?_
              exact ezw_return rfl rfl ⟨F21, A21, rfl, hS, (fun p j h => by rw [nF21 p j (by omega), nF20 p j (by omega), nF19 p j (by omega)]), (fun p h => by
                    funext j
                    rw [nA21 p (by omega), nA20 p (by omega)]), (by
                    first
                      | (exfalso; omega)
                      | (rw [ezp_pt_s]
                         repeat (first | rw [if_pos (by omega)] | rw [if_neg (by omega)])
                         exact (ezt_ST_fr st_20 (fun j j0 j1 => by rw [nF21 1 j (by omega)])))), (by
                    first
                      | (exfalso; omega)
                      | (rw [ezp_pt_s]
                         repeat (first | rw [if_pos (by omega)] | rw [if_neg (by omega)])
                         exact lw_21)), rfl⟩
          · refine ezw_aload_n rfl rfl ?_
            refine ezw_aload_n rfl rfl ?_
            refine ezy_get_i hS rfl rfl rfl rfl rfl rfl (fun u22 hu22 ku22 eu22 => ?_)
            replace eu22 := eu22.symm
            subst eu22
            have ru22 : 0 ≤ (F 1 4) ∧ (F 1 4) ≤ 9999 := ku22
            have f4 := c4i (by omega) (by omega)
            refine ezw_call0_1 rfl (by omega) (ezu_at rfl) rfl rfl rfl rfl (ezt_m83_9 hS (by omega) hu22 lw) ?_
            rintro _ _ ⟨F23, A23, rfl, hS, nF23, nA23, lw_23, rfl⟩
            refine ezw_aload_n rfl rfl ?_
            refine ezw_call0_0 rfl (by omega) (ezu_at rfl) rfl rfl rfl rfl (ezt_take hS (by omega) (by rw [nF23 1 2 (by decide)]; exact hn) (by rw [nA23 2 (by decide)]; exact hc) tp (by rw [nA23 3 (by decide)]; exact hw) (ezt_ST_fr st (fun j j0 j1 => by rw [nF23 1 j (by omega)]))) ?_
            rintro _ _ ⟨F24, rfl, hS, nF24, st_24, rfl⟩
            refine ezw_goto rfl rfl ?_
            exact ezw_return rfl rfl ⟨F24, A23, rfl, hS, (fun p j h => by rw [nF24 p j (by omega), nF23 p j (by omega)]), (fun p h => by
                  funext j
                  rw [nA23 p (by omega)]), (by
                  first
                    | (exfalso; omega)
                    | (rw [ezp_pt_s]
                       repeat (first | rw [if_pos (by omega)] | rw [if_neg (by omega)])
                       exact st_24)), (by
                  first
                    | (exfalso; omega)
                    | (rw [ezp_pt_s]
                       repeat (first | rw [if_pos (by omega)] | rw [if_neg (by omega)])
                       have h7 := (ezt_LW_fr (F' := F24) (A' := A23) lw_23 (by rw [nF24 9 4 (by decide)]) rfl)
                       rw [show (F 1 4) = ezp_V c x.1.2 by omega] at h7
                       exact h7)), rfl⟩
        · refine ezw_aload_n rfl rfl ?_
          refine ezw_iconst (-1) rfl rfl ?_
          refine ezw_aload_n rfl rfl ?_
          refine ezy_get_i hS rfl rfl rfl rfl rfl rfl (fun u25 hu25 ku25 eu25 => ?_)
          replace eu25 := eu25.symm
          subst eu25
          refine ezw_isub (k := -(F 1 5) - 1) rfl (by omega) ?_
          have f5 := (c7i (by omega) (by omega)).2
          refine ezw_call0_1 rfl (by omega) (ezu_at rfl) rfl rfl rfl rfl (ezt_m83_9 hS (by omega) ⟨by omega, by omega⟩ lw) ?_
          rintro _ _ ⟨F26, A26, rfl, hS, nF26, nA26, lw_26, rfl⟩
          refine ezw_aload_n rfl rfl ?_
          refine ezw_call0_0 rfl (by omega) (ezu_at rfl) rfl rfl rfl rfl (ezt_take hS (by omega) (by rw [nF26 1 2 (by decide)]; exact hn) (by rw [nA26 2 (by decide)]; exact hc) tp (by rw [nA26 3 (by decide)]; exact hw) (ezt_ST_fr st (fun j j0 j1 => by rw [nF26 1 j (by omega)]))) ?_
          rintro _ _ ⟨F27, rfl, hS, nF27, st_27, rfl⟩
          refine ezw_goto rfl rfl ?_
          exact ezw_return rfl rfl ⟨F27, A26, rfl, hS, (fun p j h => by rw [nF27 p j (by omega), nF26 p j (by omega)]), (fun p h => by
                funext j
                rw [nA26 p (by omega)]), (by
                first
                  | (exfalso; omega)
                  | (rw [ezp_pt_s]
                     repeat (first | rw [if_pos (by omega)] | rw [if_neg (by omega)])
                     exact st_27)), (by
                first
                  | (exfalso; omega)
                  | (rw [ezp_pt_s]
                     repeat (first | rw [if_pos (by omega)] | rw [if_neg (by omega)])
                     have h7 := (ezt_LW_fr (F' := F27) (A' := A26) lw_26 (by rw [nF27 9 4 (by decide)]) rfl)
                     rw [show -(F 1 5) - 1 = -1 - (ezp_ix (ezp_W c x.1.2) - 44) by omega] at h7
                     exact h7)), rfl⟩
    refine ezw_if_ne rfl rfl hy3 (fun h23_4 => ?_) (fun h23_4 => ?_)
    · refine ezw_iconst (1) rfl rfl ?_
      refine ezw_goto rfl rfl ?_
      exact ezw_keepE [true, true, true, true, false] (J59_6 (1) ⟨by decide, by decide⟩ (by omega))
    · refine ezw_aload_n rfl rfl ?_
      refine ezw_bipush (101) rfl rfl ?_
      refine ezw_call0_1 rfl (by omega) (ezu_at rfl) rfl rfl rfl rfl (ezt_m46_1 hS (by omega) ⟨by decide, by decide⟩ hn hc tp st) ?_
      rintro _ _ ⟨rfl, u29, hu29, p28_0, p28_1, rfl⟩
      refine ezw_if_ne rfl rfl ⟨by omega, by omega⟩ (fun h32_29 => ?_) (fun h32_29 => ?_)
      · refine ezw_iconst (1) rfl rfl ?_
        refine ezw_goto rfl rfl ?_
        exact ezw_keepE [true, true, true, true, false] (J59_6 (1) ⟨by decide, by decide⟩ (by omega))
      · refine ezw_aload_n rfl rfl ?_
        refine ezw_bipush (41) rfl rfl ?_
        refine ezw_call0_1 rfl (by omega) (ezu_at rfl) rfl rfl rfl rfl (ezt_m46_1 hS (by omega) ⟨by decide, by decide⟩ hn hc tp st) ?_
        rintro _ _ ⟨rfl, u31, hu31, p30_0, p30_1, rfl⟩
        refine ezw_if_ne rfl rfl ⟨by omega, by omega⟩ (fun h41_31 => ?_) (fun h41_31 => ?_)
        · refine ezw_iconst (1) rfl rfl ?_
          refine ezw_goto rfl rfl ?_
          exact ezw_keepE [true, true, true, true, false] (J59_6 (1) ⟨by decide, by decide⟩ (by omega))
        · refine ezw_aload_n rfl rfl ?_
          refine ezw_sipush (240) rfl rfl ?_
          refine ezw_call0_1 rfl (by omega) (ezu_at rfl) rfl rfl rfl rfl (ezt_m46_1 hS (by omega) ⟨by decide, by decide⟩ hn hc tp st) ?_
          rintro _ _ ⟨rfl, u33, hu33, p32_0, p32_1, rfl⟩
          refine ezw_if_eq rfl rfl ⟨by omega, by omega⟩ (fun h51_33 => ?_) (fun h51_33 => ?_)
          · refine ezw_iconst (0) rfl rfl ?_
            exact ezw_keepE [true, true, true, true, false] (J59_6 (0) ⟨by decide, by decide⟩ (by omega))
          · refine ezw_iconst (1) rfl rfl ?_
            refine ezw_goto rfl rfl ?_
            exact ezw_keepE [true, true, true, true, false] (J59_6 (1) ⟨by decide, by decide⟩ (by omega))
  refine ezw_if_eq rfl rfl ⟨by omega, by omega⟩ (fun h6_2 => ?_) (fun h6_2 => ?_)
  · refine ezw_iconst (0) rfl rfl ?_
    exact ezw_keepE [true, true, true, false, false] (J21_4 (0) ⟨by decide, by decide⟩ (by omega))
  · refine ezw_aload_n rfl rfl ?_
    have f5 := (c7i (p1_0 (by omega)).1 (p1_0 (by omega)).2).2
    refine ezy_get_i hS rfl rfl rfl rfl rfl rfl (fun u34 hu34 ku34 eu34 => ?_)
    replace eu34 := eu34.symm
    subst eu34
    refine ezw_if_lt rfl rfl hu34 (fun h13_34 => ?_) (fun h13_34 => ?_)
    · refine ezw_iconst (0) rfl rfl ?_
      exact ezw_keepE [true, true, true, false, false] (J21_4 (0) ⟨by decide, by decide⟩ (by omega))
    · refine ezw_iconst (1) rfl rfl ?_
      refine ezw_goto rfl rfl ?_
      exact ezw_keepE [true, true, true, false, false] (J21_4 (1) ⟨by decide, by decide⟩ (by omega))
def ezt_m81_9_1_v4_v2Q (e : Bool × Bool) (F : Nat → Nat → Int) (A : Nat → Int → Int) (c : Int → Int) (n : Int) (x : ezp_X) : Option ezq_V → (Nat → ezq_C) → Prop := fun v g' => ∃ (F' : Nat → Nat → Int) (A' : Nat → Int → Int), ezu_g e F' A' = g' ∧ ezs_T F' A' ∧ (∀ p j, ¬ (p = 1 ∧ (j = 3 ∨ j = 4 ∨ j = 5 ∨ j = 6 ∨ j = 7 ∨ j = 8 ∨ j = 9) ∨ p = 9 ∧ (j = 4)) → F' p j = F p j) ∧ (∀ p, ¬ (p = 10) → A' p = A p) ∧ (ezt_ST c n (ezp_rk c (ezp_pt c 3) 0 x).1 F') ∧ (ezt_LW 9 (ezp_rk c (ezp_pt c 3) 0 x).2 F' A') ∧ none = v
theorem ezt_m81_9_1_v4_v2 {c : Int → Int} {n : Int} {x : ezp_X} {F : Nat → Nat → Int} {A : Nat → Int → Int} (hS : ezs_T F A) (hd : 24 ≤ d) (hn : F 1 2 = n) (hc : c = ezp_ch (A 2) n) (tp : ezp_tp c n) (hw : ∀ j, 0 ≤ j → j < 48 → A 3 j = ezl_cw.getD j.toNat 0) (st : ezt_ST c n x.1 F) (lw : ezt_LW 9 x.2 F A) : ezw_C l ρ B xa Hb D cA 81 d [ezw_p 9, ezw_p 1, ezw_i (4), ezw_i (2)] (ezu_g e F A) (ezt_m81_9_1_v4_v2Q e F A c n x) := by
  refine ezw_met (k := 2) rfl rfl ?_
  refine ezw_iload_n rfl rfl ?_
  refine ezw_iconst (4) rfl rfl ?_
  refine ezw_icmp_lt rfl rfl ⟨by decide, by decide⟩ ⟨by decide, by decide⟩ (fun h2_0 => absurd h2_0 (by omega)) (fun h2_0 => ?_)
  refine ezw_aload_n rfl rfl ?_
  refine ezw_aload_n rfl rfl ?_
  refine ezw_iload_n rfl rfl ?_
  refine ezw_call0_2 rfl (by omega) (ezu_at rfl) rfl rfl rfl rfl (ezt_m82_9_1_v2 (x := x) hS (by omega) hn hc tp hw st lw) ?_
  rintro _ _ ⟨F1, A1, rfl, hS, nF1, nA1, st_1, lw_1, rfl⟩
  exact ezw_return rfl rfl ⟨F1, A1, rfl, hS, (fun p j h => by rw [nF1 p j (by omega)]), (fun p h => by
        funext j
        rw [nA1 p (by omega)]), st_1, lw_1, rfl⟩
def ezt_m81_9_1_v3_v2Q (e : Bool × Bool) (F : Nat → Nat → Int) (A : Nat → Int → Int) (c : Int → Int) (n : Int) (x : ezp_X) : Option ezq_V → (Nat → ezq_C) → Prop := fun v g' => ∃ (F' : Nat → Nat → Int) (A' : Nat → Int → Int), ezu_g e F' A' = g' ∧ ezs_T F' A' ∧ (∀ p j, ¬ (p = 1 ∧ (j = 3 ∨ j = 4 ∨ j = 5 ∨ j = 6 ∨ j = 7 ∨ j = 8 ∨ j = 9) ∨ p = 9 ∧ (j = 4)) → F' p j = F p j) ∧ (∀ p, ¬ (p = 10) → A' p = A p) ∧ (ezt_ST c n (ezp_rk c (ezp_pt c 3) 1 x).1 F') ∧ (ezt_LW 9 (ezp_rk c (ezp_pt c 3) 1 x).2 F' A') ∧ none = v
theorem ezt_m81_9_1_v3_v2 {c : Int → Int} {n : Int} {x : ezp_X} {F : Nat → Nat → Int} {A : Nat → Int → Int} (hS : ezs_T F A) (hd : 25 ≤ d) (hn : F 1 2 = n) (hc : c = ezp_ch (A 2) n) (tp : ezp_tp c n) (hw : ∀ j, 0 ≤ j → j < 48 → A 3 j = ezl_cw.getD j.toNat 0) (st : ezt_ST c n x.1 F) (lw : ezt_LW 9 x.2 F A) : ezw_C l ρ B xa Hb D cA 81 d [ezw_p 9, ezw_p 1, ezw_i (3), ezw_i (2)] (ezu_g e F A) (ezt_m81_9_1_v3_v2Q e F A c n x) := by
  refine ezw_met (k := 2) rfl rfl ?_
  refine ezw_iload_n rfl rfl ?_
  refine ezw_iconst (4) rfl rfl ?_
  refine ezw_icmp_lt rfl rfl ⟨by decide, by decide⟩ ⟨by decide, by decide⟩ (fun h2_0 => ?_) (fun h2_0 => absurd h2_0 (by omega))
  refine ezw_aload_n rfl rfl ?_
  refine ezw_aload_n rfl rfl ?_
  refine ezw_iload_n rfl rfl ?_
  refine ezw_iconst (1) rfl rfl ?_
  refine ezw_iadd (k := (4)) rfl (by omega) ?_
  refine ezw_iload_n rfl rfl ?_
  refine ezw_call0_3 rfl (by omega) (ezu_at rfl) rfl rfl rfl rfl (ezt_m81_9_1_v4_v2 (x := x) hS (by omega) hn hc tp hw st lw) ?_
  rintro _ _ ⟨F1, A1, rfl, hS, nF1, nA1, st_1, lw_1, rfl⟩
  refine ezw_iconst (0) rfl rfl ?_
  refine ezw_istore rfl rfl ?_
  have L24_3 : ∀ c2 : Int, ezw_in c2 → ∀ F_3 : Nat → Nat → Int, ∀ A_3 : Nat → Int → Int, ezs_T F_3 A_3 → (∀ p j, ¬ (p = 1 ∧ (j = 3 ∨ j = 4 ∨ j = 5 ∨ j = 6 ∨ j = 7 ∨ j = 8 ∨ j = 9) ∨ p = 9 ∧ (j = 4)) → F_3 p j = F1 p j) → (∀ p, ¬ (p = 10) → A_3 p = A1 p) → ((0) ≤ c2) → (∃ x1, ezp_rk c (ezp_pt c 3) 1 x = ezp_lp c 3 (ezp_rk c (ezp_pt c 3) 0) (1000 - c2).toNat x1 ∧ ezt_ST c n x1.1 F_3 ∧ ezt_LW 9 x1.2 F_3 A_3) → ezw_E l ρ B xa Hb D cA d ezq_re81 (ezt_m81_9_1_v3_v2Q e F A c n x) 24 [some (ezw_p 9), some (ezw_p 1), some (ezw_i (3)), some (ezw_i (2)), some (ezw_i c2), none] [] (ezu_g e F_3 A_3) := by
    refine ezs_up ?_
    intro c2 hc2 ihc2 F_3 A_3 hS nF_3 nA_3 g_3 iv_3
    obtain ⟨x1, hq, st1, lw1⟩ := iv_3
    have hs1 := st1.1
    refine ezw_iload rfl rfl ?_
    refine ezw_sipush (1000) rfl rfl ?_
    refine ezw_icmp_ge rfl rfl hc2 ⟨by decide, by decide⟩ (fun h29_3 => ?_) (fun h29_3 => ?_)
    · exact ezw_return rfl rfl ⟨F_3, A_3, rfl, hS, (fun p j h => by rw [nF_3 p j (by omega), nF1 p j (by omega)]), (fun p h => by
            funext j
            rw [nA_3 p (by omega), nA1 p (by omega)]), (by
            rw [hq, show (1000 - c2).toNat = 0 by omega]
            exact st1), (by
            rw [hq, show (1000 - c2).toNat = 0 by omega]
            exact lw1), rfl⟩
    · refine ezw_aload_n rfl rfl ?_
      refine ezw_call0_0 rfl (by omega) (ezu_at rfl) rfl rfl rfl rfl (ezt_m45_1 hS (by omega)) ?_
      rintro _ _ ⟨rfl, u5, hu5, p4_0, p4_1, rfl⟩
      refine ezw_if_eq rfl rfl ⟨by omega, by omega⟩ (fun h36_5 => ?_) (fun h36_5 => ?_)
      · exact ezw_return rfl rfl ⟨F_3, A_3, rfl, hS, (fun p j h => by rw [nF_3 p j (by omega), nF1 p j (by omega)]), (fun p h => by
              funext j
              rw [nA_3 p (by omega), nA1 p (by omega)]), (by
              rw [hq, ezp_lp_n (by have h8 := p4_1 (by omega); omega)]
              exact st1), (by
              rw [hq, ezp_lp_n (by have h8 := p4_1 (by omega); omega)]
              exact lw1), rfl⟩
      · have z1 : x1.1.1 = 0 := by have h0 := p4_0 (by omega); omega
        have k3 := (st1.2.2.1 z1).2.2.1
        have hm : (1000 - c2).toNat = (1000 - (c2 + 1)).toNat + 1 := by omega
        refine ezw_aload_n rfl rfl ?_
        refine ezy_get_i hS rfl rfl rfl rfl rfl rfl (fun u6 hu6 ku6 eu6 => ?_)
        replace eu6 := eu6.symm
        subst eu6
        refine ezw_iload_n rfl rfl ?_
        refine ezw_call2_2 rfl (by omega) rfl rfl (ezt_m84_v3 hS (by omega) hu6) ?_
        rintro _ _ ⟨rfl, u8, hu8, v_7, rfl⟩
        refine ezw_istore rfl rfl ?_
        have eo : u8 = ezp_op (ezp_K c x1.1.2) 3 := by rw [← k3]; exact v_7
        refine ezw_iload rfl rfl ?_
        refine ezw_if_ne rfl rfl hu8 (fun h51_8 => ?_) (fun h51_8 => ?_)
        · refine ezw_aload_n rfl rfl ?_
          refine ezw_call0_0 rfl (by omega) (ezu_at rfl) rfl rfl rfl rfl (ezt_take hS (by omega) (by rw [nF_3 1 2 (by decide), nF1 1 2 (by decide)]; exact hn) (by rw [nA_3 2 (by decide), nA1 2 (by decide)]; exact hc) tp (by rw [nA_3 3 (by decide), nA1 3 (by decide)]; exact hw) st1) ?_
          rintro _ _ ⟨F9, rfl, hS, nF9, st_9, rfl⟩
          refine ezw_aload_n rfl rfl ?_
          refine ezw_aload_n rfl rfl ?_
          refine ezw_iload_n rfl rfl ?_
          refine ezw_iconst (1) rfl rfl ?_
          refine ezw_iadd (k := (4)) rfl (by omega) ?_
          refine ezw_iload_n rfl rfl ?_
          refine ezw_call0_3 rfl (by omega) (ezu_at rfl) rfl rfl rfl rfl (ezt_m81_9_1_v4_v2 (x := (ezp_t x1.1, x1.2)) hS (by omega) (by rw [nF9 1 2 (by decide), nF_3 1 2 (by decide), nF1 1 2 (by decide)]; exact hn) (by rw [nA_3 2 (by decide), nA1 2 (by decide)]; exact hc) tp (by rw [nA_3 3 (by decide), nA1 3 (by decide)]; exact hw) st_9 (ezt_LW_fr (F' := F9) (A' := A_3) lw1 (by rw [nF9 9 4 (by decide)]) rfl)) ?_
          rintro _ _ ⟨F10, A10, rfl, hS, nF10, nA10, st_10, lw_10, rfl⟩
          refine ezw_aload_n rfl rfl ?_
          refine ezw_iload rfl rfl ?_
          refine ezw_call0_1 rfl (by omega) (ezu_at rfl) rfl rfl rfl rfl (ezt_m83_9 hS (by omega) hu8 lw_10) ?_
          rintro _ _ ⟨F11, A11, rfl, hS, nF11, nA11, lw_11, rfl⟩
          refine ezw_iload_n rfl rfl ?_
          refine ezw_iconst (1) rfl rfl ?_
          refine ezw_icmp_ne rfl rfl ⟨by decide, by decide⟩ ⟨by decide, by decide⟩ (fun h76_11 => ?_) (fun h76_11 => absurd h76_11 (by omega))
          refine ezw_iinc (k := c2 + 1) (1) rfl rfl rfl (by omega) rfl ?_
          refine ezw_goto rfl rfl ?_
          exact ezw_keepE [true, true, true, true, true, false] (ihc2 (c2 + 1) (by omega) ⟨by omega, by omega⟩ F11 A11 hS (fun p j h => by rw [nF11 p j (by omega), nF10 p j (by omega), nF9 p j (by omega), nF_3 p j (by omega)]) (fun p h => by
                funext j
                rw [nA11 p (by omega), nA10 p (by omega), nA_3 p (by omega)]) (by omega) (⟨ezp_l1 c 3 (ezp_rk c (ezp_pt c 3) 0) x1, (by rw [hq, hm, ezp_lp_s z1 (by omega) (by decide), show (1000 - (c2 + 1)).toNat = (1000 - (c2 + 1)).toNat by omega]), (ezt_ST_fr st_10 (fun j j0 j1 => by rw [nF11 1 j (by omega)])), (by have h7 := lw_11; rw [eo] at h7; exact h7)⟩))
        · exact ezw_return rfl rfl ⟨F_3, A_3, rfl, hS, (fun p j h => by rw [nF_3 p j (by omega), nF1 p j (by omega)]), (fun p h => by
                funext j
                rw [nA_3 p (by omega), nA1 p (by omega)]), (by
                rw [hq, hm, ezp_lp_0 z1 (by omega)]
                exact st1), (by
                rw [hq, hm, ezp_lp_0 z1 (by omega)]
                exact lw1), rfl⟩
  exact ezw_keepE [true, true, true, true, true, false] (L24_3 (0) ⟨by decide, by decide⟩ F1 A1 hS (fun _ _ _ => rfl) (fun _ _ => rfl) (by omega) (⟨(ezp_rk c (ezp_pt c 3) 0) x, rfl, st_1, lw_1⟩))
def ezt_m81_9_1_v2_v2Q (e : Bool × Bool) (F : Nat → Nat → Int) (A : Nat → Int → Int) (c : Int → Int) (n : Int) (x : ezp_X) : Option ezq_V → (Nat → ezq_C) → Prop := fun v g' => ∃ (F' : Nat → Nat → Int) (A' : Nat → Int → Int), ezu_g e F' A' = g' ∧ ezs_T F' A' ∧ (∀ p j, ¬ (p = 1 ∧ (j = 3 ∨ j = 4 ∨ j = 5 ∨ j = 6 ∨ j = 7 ∨ j = 8 ∨ j = 9) ∨ p = 9 ∧ (j = 4)) → F' p j = F p j) ∧ (∀ p, ¬ (p = 10) → A' p = A p) ∧ (ezt_ST c n (ezp_rk c (ezp_pt c 3) 2 x).1 F') ∧ (ezt_LW 9 (ezp_rk c (ezp_pt c 3) 2 x).2 F' A') ∧ none = v
theorem ezt_m81_9_1_v2_v2 {c : Int → Int} {n : Int} {x : ezp_X} {F : Nat → Nat → Int} {A : Nat → Int → Int} (hS : ezs_T F A) (hd : 26 ≤ d) (hn : F 1 2 = n) (hc : c = ezp_ch (A 2) n) (tp : ezp_tp c n) (hw : ∀ j, 0 ≤ j → j < 48 → A 3 j = ezl_cw.getD j.toNat 0) (st : ezt_ST c n x.1 F) (lw : ezt_LW 9 x.2 F A) : ezw_C l ρ B xa Hb D cA 81 d [ezw_p 9, ezw_p 1, ezw_i (2), ezw_i (2)] (ezu_g e F A) (ezt_m81_9_1_v2_v2Q e F A c n x) := by
  refine ezw_met (k := 2) rfl rfl ?_
  refine ezw_iload_n rfl rfl ?_
  refine ezw_iconst (4) rfl rfl ?_
  refine ezw_icmp_lt rfl rfl ⟨by decide, by decide⟩ ⟨by decide, by decide⟩ (fun h2_0 => ?_) (fun h2_0 => absurd h2_0 (by omega))
  refine ezw_aload_n rfl rfl ?_
  refine ezw_aload_n rfl rfl ?_
  refine ezw_iload_n rfl rfl ?_
  refine ezw_iconst (1) rfl rfl ?_
  refine ezw_iadd (k := (3)) rfl (by omega) ?_
  refine ezw_iload_n rfl rfl ?_
  refine ezw_call0_3 rfl (by omega) (ezu_at rfl) rfl rfl rfl rfl (ezt_m81_9_1_v3_v2 (x := x) hS (by omega) hn hc tp hw st lw) ?_
  rintro _ _ ⟨F1, A1, rfl, hS, nF1, nA1, st_1, lw_1, rfl⟩
  refine ezw_iconst (0) rfl rfl ?_
  refine ezw_istore rfl rfl ?_
  have L24_3 : ∀ c2 : Int, ezw_in c2 → ∀ F_3 : Nat → Nat → Int, ∀ A_3 : Nat → Int → Int, ezs_T F_3 A_3 → (∀ p j, ¬ (p = 1 ∧ (j = 3 ∨ j = 4 ∨ j = 5 ∨ j = 6 ∨ j = 7 ∨ j = 8 ∨ j = 9) ∨ p = 9 ∧ (j = 4)) → F_3 p j = F1 p j) → (∀ p, ¬ (p = 10) → A_3 p = A1 p) → ((0) ≤ c2) → (∃ x1, ezp_rk c (ezp_pt c 3) 2 x = ezp_lp c 2 (ezp_rk c (ezp_pt c 3) 1) (1000 - c2).toNat x1 ∧ ezt_ST c n x1.1 F_3 ∧ ezt_LW 9 x1.2 F_3 A_3) → ezw_E l ρ B xa Hb D cA d ezq_re81 (ezt_m81_9_1_v2_v2Q e F A c n x) 24 [some (ezw_p 9), some (ezw_p 1), some (ezw_i (2)), some (ezw_i (2)), some (ezw_i c2), none] [] (ezu_g e F_3 A_3) := by
    refine ezs_up ?_
    intro c2 hc2 ihc2 F_3 A_3 hS nF_3 nA_3 g_3 iv_3
    obtain ⟨x1, hq, st1, lw1⟩ := iv_3
    have hs1 := st1.1
    refine ezw_iload rfl rfl ?_
    refine ezw_sipush (1000) rfl rfl ?_
    refine ezw_icmp_ge rfl rfl hc2 ⟨by decide, by decide⟩ (fun h29_3 => ?_) (fun h29_3 => ?_)
    · exact ezw_return rfl rfl ⟨F_3, A_3, rfl, hS, (fun p j h => by rw [nF_3 p j (by omega), nF1 p j (by omega)]), (fun p h => by
            funext j
            rw [nA_3 p (by omega), nA1 p (by omega)]), (by
            rw [hq, show (1000 - c2).toNat = 0 by omega]
            exact st1), (by
            rw [hq, show (1000 - c2).toNat = 0 by omega]
            exact lw1), rfl⟩
    · refine ezw_aload_n rfl rfl ?_
      refine ezw_call0_0 rfl (by omega) (ezu_at rfl) rfl rfl rfl rfl (ezt_m45_1 hS (by omega)) ?_
      rintro _ _ ⟨rfl, u5, hu5, p4_0, p4_1, rfl⟩
      refine ezw_if_eq rfl rfl ⟨by omega, by omega⟩ (fun h36_5 => ?_) (fun h36_5 => ?_)
      · exact ezw_return rfl rfl ⟨F_3, A_3, rfl, hS, (fun p j h => by rw [nF_3 p j (by omega), nF1 p j (by omega)]), (fun p h => by
              funext j
              rw [nA_3 p (by omega), nA1 p (by omega)]), (by
              rw [hq, ezp_lp_n (by have h8 := p4_1 (by omega); omega)]
              exact st1), (by
              rw [hq, ezp_lp_n (by have h8 := p4_1 (by omega); omega)]
              exact lw1), rfl⟩
      · have z1 : x1.1.1 = 0 := by have h0 := p4_0 (by omega); omega
        have k3 := (st1.2.2.1 z1).2.2.1
        have hm : (1000 - c2).toNat = (1000 - (c2 + 1)).toNat + 1 := by omega
        refine ezw_aload_n rfl rfl ?_
        refine ezy_get_i hS rfl rfl rfl rfl rfl rfl (fun u6 hu6 ku6 eu6 => ?_)
        replace eu6 := eu6.symm
        subst eu6
        refine ezw_iload_n rfl rfl ?_
        refine ezw_call2_2 rfl (by omega) rfl rfl (ezt_m84_v2 hS (by omega) hu6) ?_
        rintro _ _ ⟨rfl, u8, hu8, v_7, rfl⟩
        refine ezw_istore rfl rfl ?_
        have eo : u8 = ezp_op (ezp_K c x1.1.2) 2 := by rw [← k3]; exact v_7
        refine ezw_iload rfl rfl ?_
        refine ezw_if_ne rfl rfl hu8 (fun h51_8 => ?_) (fun h51_8 => ?_)
        · refine ezw_aload_n rfl rfl ?_
          refine ezw_call0_0 rfl (by omega) (ezu_at rfl) rfl rfl rfl rfl (ezt_take hS (by omega) (by rw [nF_3 1 2 (by decide), nF1 1 2 (by decide)]; exact hn) (by rw [nA_3 2 (by decide), nA1 2 (by decide)]; exact hc) tp (by rw [nA_3 3 (by decide), nA1 3 (by decide)]; exact hw) st1) ?_
          rintro _ _ ⟨F9, rfl, hS, nF9, st_9, rfl⟩
          refine ezw_aload_n rfl rfl ?_
          refine ezw_aload_n rfl rfl ?_
          refine ezw_iload_n rfl rfl ?_
          refine ezw_iconst (1) rfl rfl ?_
          refine ezw_iadd (k := (3)) rfl (by omega) ?_
          refine ezw_iload_n rfl rfl ?_
          refine ezw_call0_3 rfl (by omega) (ezu_at rfl) rfl rfl rfl rfl (ezt_m81_9_1_v3_v2 (x := (ezp_t x1.1, x1.2)) hS (by omega) (by rw [nF9 1 2 (by decide), nF_3 1 2 (by decide), nF1 1 2 (by decide)]; exact hn) (by rw [nA_3 2 (by decide), nA1 2 (by decide)]; exact hc) tp (by rw [nA_3 3 (by decide), nA1 3 (by decide)]; exact hw) st_9 (ezt_LW_fr (F' := F9) (A' := A_3) lw1 (by rw [nF9 9 4 (by decide)]) rfl)) ?_
          rintro _ _ ⟨F10, A10, rfl, hS, nF10, nA10, st_10, lw_10, rfl⟩
          refine ezw_aload_n rfl rfl ?_
          refine ezw_iload rfl rfl ?_
          refine ezw_call0_1 rfl (by omega) (ezu_at rfl) rfl rfl rfl rfl (ezt_m83_9 hS (by omega) hu8 lw_10) ?_
          rintro _ _ ⟨F11, A11, rfl, hS, nF11, nA11, lw_11, rfl⟩
          refine ezw_iload_n rfl rfl ?_
          refine ezw_iconst (1) rfl rfl ?_
          refine ezw_icmp_ne rfl rfl ⟨by decide, by decide⟩ ⟨by decide, by decide⟩ (fun h76_11 => ?_) (fun h76_11 => absurd h76_11 (by omega))
          refine ezw_iinc (k := c2 + 1) (1) rfl rfl rfl (by omega) rfl ?_
          refine ezw_goto rfl rfl ?_
          exact ezw_keepE [true, true, true, true, true, false] (ihc2 (c2 + 1) (by omega) ⟨by omega, by omega⟩ F11 A11 hS (fun p j h => by rw [nF11 p j (by omega), nF10 p j (by omega), nF9 p j (by omega), nF_3 p j (by omega)]) (fun p h => by
                funext j
                rw [nA11 p (by omega), nA10 p (by omega), nA_3 p (by omega)]) (by omega) (⟨ezp_l1 c 2 (ezp_rk c (ezp_pt c 3) 1) x1, (by rw [hq, hm, ezp_lp_s z1 (by omega) (by decide), show (1000 - (c2 + 1)).toNat = (1000 - (c2 + 1)).toNat by omega]), (ezt_ST_fr st_10 (fun j j0 j1 => by rw [nF11 1 j (by omega)])), (by have h7 := lw_11; rw [eo] at h7; exact h7)⟩))
        · exact ezw_return rfl rfl ⟨F_3, A_3, rfl, hS, (fun p j h => by rw [nF_3 p j (by omega), nF1 p j (by omega)]), (fun p h => by
                funext j
                rw [nA_3 p (by omega), nA1 p (by omega)]), (by
                rw [hq, hm, ezp_lp_0 z1 (by omega)]
                exact st1), (by
                rw [hq, hm, ezp_lp_0 z1 (by omega)]
                exact lw1), rfl⟩
  exact ezw_keepE [true, true, true, true, true, false] (L24_3 (0) ⟨by decide, by decide⟩ F1 A1 hS (fun _ _ _ => rfl) (fun _ _ => rfl) (by omega) (⟨(ezp_rk c (ezp_pt c 3) 1) x, rfl, st_1, lw_1⟩))
def ezt_m81_9_1_v1_v2Q (e : Bool × Bool) (F : Nat → Nat → Int) (A : Nat → Int → Int) (c : Int → Int) (n : Int) (x : ezp_X) : Option ezq_V → (Nat → ezq_C) → Prop := fun v g' => ∃ (F' : Nat → Nat → Int) (A' : Nat → Int → Int), ezu_g e F' A' = g' ∧ ezs_T F' A' ∧ (∀ p j, ¬ (p = 1 ∧ (j = 3 ∨ j = 4 ∨ j = 5 ∨ j = 6 ∨ j = 7 ∨ j = 8 ∨ j = 9) ∨ p = 9 ∧ (j = 4)) → F' p j = F p j) ∧ (∀ p, ¬ (p = 10) → A' p = A p) ∧ (ezt_ST c n (ezp_rk c (ezp_pt c 3) 3 x).1 F') ∧ (ezt_LW 9 (ezp_rk c (ezp_pt c 3) 3 x).2 F' A') ∧ none = v
theorem ezt_m81_9_1_v1_v2 {c : Int → Int} {n : Int} {x : ezp_X} {F : Nat → Nat → Int} {A : Nat → Int → Int} (hS : ezs_T F A) (hd : 27 ≤ d) (hn : F 1 2 = n) (hc : c = ezp_ch (A 2) n) (tp : ezp_tp c n) (hw : ∀ j, 0 ≤ j → j < 48 → A 3 j = ezl_cw.getD j.toNat 0) (st : ezt_ST c n x.1 F) (lw : ezt_LW 9 x.2 F A) : ezw_C l ρ B xa Hb D cA 81 d [ezw_p 9, ezw_p 1, ezw_i (1), ezw_i (2)] (ezu_g e F A) (ezt_m81_9_1_v1_v2Q e F A c n x) := by
  refine ezw_met (k := 2) rfl rfl ?_
  refine ezw_iload_n rfl rfl ?_
  refine ezw_iconst (4) rfl rfl ?_
  refine ezw_icmp_lt rfl rfl ⟨by decide, by decide⟩ ⟨by decide, by decide⟩ (fun h2_0 => ?_) (fun h2_0 => absurd h2_0 (by omega))
  refine ezw_aload_n rfl rfl ?_
  refine ezw_aload_n rfl rfl ?_
  refine ezw_iload_n rfl rfl ?_
  refine ezw_iconst (1) rfl rfl ?_
  refine ezw_iadd (k := (2)) rfl (by omega) ?_
  refine ezw_iload_n rfl rfl ?_
  refine ezw_call0_3 rfl (by omega) (ezu_at rfl) rfl rfl rfl rfl (ezt_m81_9_1_v2_v2 (x := x) hS (by omega) hn hc tp hw st lw) ?_
  rintro _ _ ⟨F1, A1, rfl, hS, nF1, nA1, st_1, lw_1, rfl⟩
  refine ezw_iconst (0) rfl rfl ?_
  refine ezw_istore rfl rfl ?_
  have L24_3 : ∀ c2 : Int, ezw_in c2 → ∀ F_3 : Nat → Nat → Int, ∀ A_3 : Nat → Int → Int, ezs_T F_3 A_3 → (∀ p j, ¬ (p = 1 ∧ (j = 3 ∨ j = 4 ∨ j = 5 ∨ j = 6 ∨ j = 7 ∨ j = 8 ∨ j = 9) ∨ p = 9 ∧ (j = 4)) → F_3 p j = F1 p j) → (∀ p, ¬ (p = 10) → A_3 p = A1 p) → ((0) ≤ c2) → (∃ x1, ezp_rk c (ezp_pt c 3) 3 x = ezp_lp c 1 (ezp_rk c (ezp_pt c 3) 2) (1000 - c2).toNat x1 ∧ ezt_ST c n x1.1 F_3 ∧ ezt_LW 9 x1.2 F_3 A_3) → ezw_E l ρ B xa Hb D cA d ezq_re81 (ezt_m81_9_1_v1_v2Q e F A c n x) 24 [some (ezw_p 9), some (ezw_p 1), some (ezw_i (1)), some (ezw_i (2)), some (ezw_i c2), none] [] (ezu_g e F_3 A_3) := by
    refine ezs_up ?_
    intro c2 hc2 ihc2 F_3 A_3 hS nF_3 nA_3 g_3 iv_3
    obtain ⟨x1, hq, st1, lw1⟩ := iv_3
    have hs1 := st1.1
    refine ezw_iload rfl rfl ?_
    refine ezw_sipush (1000) rfl rfl ?_
    refine ezw_icmp_ge rfl rfl hc2 ⟨by decide, by decide⟩ (fun h29_3 => ?_) (fun h29_3 => ?_)
    · exact ezw_return rfl rfl ⟨F_3, A_3, rfl, hS, (fun p j h => by rw [nF_3 p j (by omega), nF1 p j (by omega)]), (fun p h => by
            funext j
            rw [nA_3 p (by omega), nA1 p (by omega)]), (by
            rw [hq, show (1000 - c2).toNat = 0 by omega]
            exact st1), (by
            rw [hq, show (1000 - c2).toNat = 0 by omega]
            exact lw1), rfl⟩
    · refine ezw_aload_n rfl rfl ?_
      refine ezw_call0_0 rfl (by omega) (ezu_at rfl) rfl rfl rfl rfl (ezt_m45_1 hS (by omega)) ?_
      rintro _ _ ⟨rfl, u5, hu5, p4_0, p4_1, rfl⟩
      refine ezw_if_eq rfl rfl ⟨by omega, by omega⟩ (fun h36_5 => ?_) (fun h36_5 => ?_)
      · exact ezw_return rfl rfl ⟨F_3, A_3, rfl, hS, (fun p j h => by rw [nF_3 p j (by omega), nF1 p j (by omega)]), (fun p h => by
              funext j
              rw [nA_3 p (by omega), nA1 p (by omega)]), (by
              rw [hq, ezp_lp_n (by have h8 := p4_1 (by omega); omega)]
              exact st1), (by
              rw [hq, ezp_lp_n (by have h8 := p4_1 (by omega); omega)]
              exact lw1), rfl⟩
      · have z1 : x1.1.1 = 0 := by have h0 := p4_0 (by omega); omega
        have k3 := (st1.2.2.1 z1).2.2.1
        have hm : (1000 - c2).toNat = (1000 - (c2 + 1)).toNat + 1 := by omega
        refine ezw_aload_n rfl rfl ?_
        refine ezy_get_i hS rfl rfl rfl rfl rfl rfl (fun u6 hu6 ku6 eu6 => ?_)
        replace eu6 := eu6.symm
        subst eu6
        refine ezw_iload_n rfl rfl ?_
        refine ezw_call2_2 rfl (by omega) rfl rfl (ezt_m84_v1 hS (by omega) hu6) ?_
        rintro _ _ ⟨rfl, u8, hu8, v_7, rfl⟩
        refine ezw_istore rfl rfl ?_
        have eo : u8 = ezp_op (ezp_K c x1.1.2) 1 := by rw [← k3]; exact v_7
        refine ezw_iload rfl rfl ?_
        refine ezw_if_ne rfl rfl hu8 (fun h51_8 => ?_) (fun h51_8 => ?_)
        · refine ezw_aload_n rfl rfl ?_
          refine ezw_call0_0 rfl (by omega) (ezu_at rfl) rfl rfl rfl rfl (ezt_take hS (by omega) (by rw [nF_3 1 2 (by decide), nF1 1 2 (by decide)]; exact hn) (by rw [nA_3 2 (by decide), nA1 2 (by decide)]; exact hc) tp (by rw [nA_3 3 (by decide), nA1 3 (by decide)]; exact hw) st1) ?_
          rintro _ _ ⟨F9, rfl, hS, nF9, st_9, rfl⟩
          refine ezw_aload_n rfl rfl ?_
          refine ezw_aload_n rfl rfl ?_
          refine ezw_iload_n rfl rfl ?_
          refine ezw_iconst (1) rfl rfl ?_
          refine ezw_iadd (k := (2)) rfl (by omega) ?_
          refine ezw_iload_n rfl rfl ?_
          refine ezw_call0_3 rfl (by omega) (ezu_at rfl) rfl rfl rfl rfl (ezt_m81_9_1_v2_v2 (x := (ezp_t x1.1, x1.2)) hS (by omega) (by rw [nF9 1 2 (by decide), nF_3 1 2 (by decide), nF1 1 2 (by decide)]; exact hn) (by rw [nA_3 2 (by decide), nA1 2 (by decide)]; exact hc) tp (by rw [nA_3 3 (by decide), nA1 3 (by decide)]; exact hw) st_9 (ezt_LW_fr (F' := F9) (A' := A_3) lw1 (by rw [nF9 9 4 (by decide)]) rfl)) ?_
          rintro _ _ ⟨F10, A10, rfl, hS, nF10, nA10, st_10, lw_10, rfl⟩
          refine ezw_aload_n rfl rfl ?_
          refine ezw_iload rfl rfl ?_
          refine ezw_call0_1 rfl (by omega) (ezu_at rfl) rfl rfl rfl rfl (ezt_m83_9 hS (by omega) hu8 lw_10) ?_
          rintro _ _ ⟨F11, A11, rfl, hS, nF11, nA11, lw_11, rfl⟩
          refine ezw_iload_n rfl rfl ?_
          refine ezw_iconst (1) rfl rfl ?_
          refine ezw_icmp_ne rfl rfl ⟨by decide, by decide⟩ ⟨by decide, by decide⟩ (fun h76_11 => absurd h76_11 (by omega)) (fun h76_11 => ?_)
          exact ezw_return rfl rfl ⟨F11, A11, rfl, hS, (fun p j h => by rw [nF11 p j (by omega), nF10 p j (by omega), nF9 p j (by omega), nF_3 p j (by omega), nF1 p j (by omega)]), (fun p h => by
                funext j
                rw [nA11 p (by omega), nA10 p (by omega), nA_3 p (by omega), nA1 p (by omega)]), (by
                rw [hq, hm, ezp_lp_1 z1 (by omega) (by decide)]
                exact (ezt_ST_fr st_10 (fun j j0 j1 => by rw [nF11 1 j (by omega)]))), (by
                rw [hq, hm, ezp_lp_1 z1 (by omega) (by decide)]
                exact (by have h7 := lw_11; rw [eo] at h7; exact h7)), rfl⟩
        · exact ezw_return rfl rfl ⟨F_3, A_3, rfl, hS, (fun p j h => by rw [nF_3 p j (by omega), nF1 p j (by omega)]), (fun p h => by
                funext j
                rw [nA_3 p (by omega), nA1 p (by omega)]), (by
                rw [hq, hm, ezp_lp_0 z1 (by omega)]
                exact st1), (by
                rw [hq, hm, ezp_lp_0 z1 (by omega)]
                exact lw1), rfl⟩
  exact ezw_keepE [true, true, true, true, true, false] (L24_3 (0) ⟨by decide, by decide⟩ F1 A1 hS (fun _ _ _ => rfl) (fun _ _ => rfl) (by omega) (⟨(ezp_rk c (ezp_pt c 3) 2) x, rfl, st_1, lw_1⟩))
def ezt_m81_9_1_v0_v2Q (e : Bool × Bool) (F : Nat → Nat → Int) (A : Nat → Int → Int) (c : Int → Int) (n : Int) (x : ezp_X) : Option ezq_V → (Nat → ezq_C) → Prop := fun v g' => ∃ (F' : Nat → Nat → Int) (A' : Nat → Int → Int), ezu_g e F' A' = g' ∧ ezs_T F' A' ∧ (∀ p j, ¬ (p = 1 ∧ (j = 3 ∨ j = 4 ∨ j = 5 ∨ j = 6 ∨ j = 7 ∨ j = 8 ∨ j = 9) ∨ p = 9 ∧ (j = 4)) → F' p j = F p j) ∧ (∀ p, ¬ (p = 10) → A' p = A p) ∧ (ezt_ST c n (ezp_rk c (ezp_pt c 3) 4 x).1 F') ∧ (ezt_LW 9 (ezp_rk c (ezp_pt c 3) 4 x).2 F' A') ∧ none = v
theorem ezt_m81_9_1_v0_v2 {c : Int → Int} {n : Int} {x : ezp_X} {F : Nat → Nat → Int} {A : Nat → Int → Int} (hS : ezs_T F A) (hd : 28 ≤ d) (hn : F 1 2 = n) (hc : c = ezp_ch (A 2) n) (tp : ezp_tp c n) (hw : ∀ j, 0 ≤ j → j < 48 → A 3 j = ezl_cw.getD j.toNat 0) (st : ezt_ST c n x.1 F) (lw : ezt_LW 9 x.2 F A) : ezw_C l ρ B xa Hb D cA 81 d [ezw_p 9, ezw_p 1, ezw_i (0), ezw_i (2)] (ezu_g e F A) (ezt_m81_9_1_v0_v2Q e F A c n x) := by
  refine ezw_met (k := 2) rfl rfl ?_
  refine ezw_iload_n rfl rfl ?_
  refine ezw_iconst (4) rfl rfl ?_
  refine ezw_icmp_lt rfl rfl ⟨by decide, by decide⟩ ⟨by decide, by decide⟩ (fun h2_0 => ?_) (fun h2_0 => absurd h2_0 (by omega))
  refine ezw_aload_n rfl rfl ?_
  refine ezw_aload_n rfl rfl ?_
  refine ezw_iload_n rfl rfl ?_
  refine ezw_iconst (1) rfl rfl ?_
  refine ezw_iadd (k := (1)) rfl (by omega) ?_
  refine ezw_iload_n rfl rfl ?_
  refine ezw_call0_3 rfl (by omega) (ezu_at rfl) rfl rfl rfl rfl (ezt_m81_9_1_v1_v2 (x := x) hS (by omega) hn hc tp hw st lw) ?_
  rintro _ _ ⟨F1, A1, rfl, hS, nF1, nA1, st_1, lw_1, rfl⟩
  refine ezw_iconst (0) rfl rfl ?_
  refine ezw_istore rfl rfl ?_
  have L24_3 : ∀ c2 : Int, ezw_in c2 → ∀ F_3 : Nat → Nat → Int, ∀ A_3 : Nat → Int → Int, ezs_T F_3 A_3 → (∀ p j, ¬ (p = 1 ∧ (j = 3 ∨ j = 4 ∨ j = 5 ∨ j = 6 ∨ j = 7 ∨ j = 8 ∨ j = 9) ∨ p = 9 ∧ (j = 4)) → F_3 p j = F1 p j) → (∀ p, ¬ (p = 10) → A_3 p = A1 p) → ((0) ≤ c2) → (∃ x1, ezp_rk c (ezp_pt c 3) 4 x = ezp_lp c 0 (ezp_rk c (ezp_pt c 3) 3) (1000 - c2).toNat x1 ∧ ezt_ST c n x1.1 F_3 ∧ ezt_LW 9 x1.2 F_3 A_3) → ezw_E l ρ B xa Hb D cA d ezq_re81 (ezt_m81_9_1_v0_v2Q e F A c n x) 24 [some (ezw_p 9), some (ezw_p 1), some (ezw_i (0)), some (ezw_i (2)), some (ezw_i c2), none] [] (ezu_g e F_3 A_3) := by
    refine ezs_up ?_
    intro c2 hc2 ihc2 F_3 A_3 hS nF_3 nA_3 g_3 iv_3
    obtain ⟨x1, hq, st1, lw1⟩ := iv_3
    have hs1 := st1.1
    refine ezw_iload rfl rfl ?_
    refine ezw_sipush (1000) rfl rfl ?_
    refine ezw_icmp_ge rfl rfl hc2 ⟨by decide, by decide⟩ (fun h29_3 => ?_) (fun h29_3 => ?_)
    · exact ezw_return rfl rfl ⟨F_3, A_3, rfl, hS, (fun p j h => by rw [nF_3 p j (by omega), nF1 p j (by omega)]), (fun p h => by
            funext j
            rw [nA_3 p (by omega), nA1 p (by omega)]), (by
            rw [hq, show (1000 - c2).toNat = 0 by omega]
            exact st1), (by
            rw [hq, show (1000 - c2).toNat = 0 by omega]
            exact lw1), rfl⟩
    · refine ezw_aload_n rfl rfl ?_
      refine ezw_call0_0 rfl (by omega) (ezu_at rfl) rfl rfl rfl rfl (ezt_m45_1 hS (by omega)) ?_
      rintro _ _ ⟨rfl, u5, hu5, p4_0, p4_1, rfl⟩
      refine ezw_if_eq rfl rfl ⟨by omega, by omega⟩ (fun h36_5 => ?_) (fun h36_5 => ?_)
      · exact ezw_return rfl rfl ⟨F_3, A_3, rfl, hS, (fun p j h => by rw [nF_3 p j (by omega), nF1 p j (by omega)]), (fun p h => by
              funext j
              rw [nA_3 p (by omega), nA1 p (by omega)]), (by
              rw [hq, ezp_lp_n (by have h8 := p4_1 (by omega); omega)]
              exact st1), (by
              rw [hq, ezp_lp_n (by have h8 := p4_1 (by omega); omega)]
              exact lw1), rfl⟩
      · have z1 : x1.1.1 = 0 := by have h0 := p4_0 (by omega); omega
        have k3 := (st1.2.2.1 z1).2.2.1
        have hm : (1000 - c2).toNat = (1000 - (c2 + 1)).toNat + 1 := by omega
        refine ezw_aload_n rfl rfl ?_
        refine ezy_get_i hS rfl rfl rfl rfl rfl rfl (fun u6 hu6 ku6 eu6 => ?_)
        replace eu6 := eu6.symm
        subst eu6
        refine ezw_iload_n rfl rfl ?_
        refine ezw_call2_2 rfl (by omega) rfl rfl (ezt_m84_v0 hS (by omega) hu6) ?_
        rintro _ _ ⟨rfl, u8, hu8, v_7, rfl⟩
        refine ezw_istore rfl rfl ?_
        have eo : u8 = ezp_op (ezp_K c x1.1.2) 0 := by rw [← k3]; exact v_7
        refine ezw_iload rfl rfl ?_
        refine ezw_if_ne rfl rfl hu8 (fun h51_8 => ?_) (fun h51_8 => ?_)
        · refine ezw_aload_n rfl rfl ?_
          refine ezw_call0_0 rfl (by omega) (ezu_at rfl) rfl rfl rfl rfl (ezt_take hS (by omega) (by rw [nF_3 1 2 (by decide), nF1 1 2 (by decide)]; exact hn) (by rw [nA_3 2 (by decide), nA1 2 (by decide)]; exact hc) tp (by rw [nA_3 3 (by decide), nA1 3 (by decide)]; exact hw) st1) ?_
          rintro _ _ ⟨F9, rfl, hS, nF9, st_9, rfl⟩
          refine ezw_aload_n rfl rfl ?_
          refine ezw_aload_n rfl rfl ?_
          refine ezw_iload_n rfl rfl ?_
          refine ezw_iconst (1) rfl rfl ?_
          refine ezw_iadd (k := (1)) rfl (by omega) ?_
          refine ezw_iload_n rfl rfl ?_
          refine ezw_call0_3 rfl (by omega) (ezu_at rfl) rfl rfl rfl rfl (ezt_m81_9_1_v1_v2 (x := (ezp_t x1.1, x1.2)) hS (by omega) (by rw [nF9 1 2 (by decide), nF_3 1 2 (by decide), nF1 1 2 (by decide)]; exact hn) (by rw [nA_3 2 (by decide), nA1 2 (by decide)]; exact hc) tp (by rw [nA_3 3 (by decide), nA1 3 (by decide)]; exact hw) st_9 (ezt_LW_fr (F' := F9) (A' := A_3) lw1 (by rw [nF9 9 4 (by decide)]) rfl)) ?_
          rintro _ _ ⟨F10, A10, rfl, hS, nF10, nA10, st_10, lw_10, rfl⟩
          refine ezw_aload_n rfl rfl ?_
          refine ezw_iload rfl rfl ?_
          refine ezw_call0_1 rfl (by omega) (ezu_at rfl) rfl rfl rfl rfl (ezt_m83_9 hS (by omega) hu8 lw_10) ?_
          rintro _ _ ⟨F11, A11, rfl, hS, nF11, nA11, lw_11, rfl⟩
          refine ezw_iload_n rfl rfl ?_
          refine ezw_iconst (1) rfl rfl ?_
          refine ezw_icmp_ne rfl rfl ⟨by decide, by decide⟩ ⟨by decide, by decide⟩ (fun h76_11 => ?_) (fun h76_11 => absurd h76_11 (by omega))
          refine ezw_iinc (k := c2 + 1) (1) rfl rfl rfl (by omega) rfl ?_
          refine ezw_goto rfl rfl ?_
          exact ezw_keepE [true, true, true, true, true, false] (ihc2 (c2 + 1) (by omega) ⟨by omega, by omega⟩ F11 A11 hS (fun p j h => by rw [nF11 p j (by omega), nF10 p j (by omega), nF9 p j (by omega), nF_3 p j (by omega)]) (fun p h => by
                funext j
                rw [nA11 p (by omega), nA10 p (by omega), nA_3 p (by omega)]) (by omega) (⟨ezp_l1 c 0 (ezp_rk c (ezp_pt c 3) 3) x1, (by rw [hq, hm, ezp_lp_s z1 (by omega) (by decide), show (1000 - (c2 + 1)).toNat = (1000 - (c2 + 1)).toNat by omega]), (ezt_ST_fr st_10 (fun j j0 j1 => by rw [nF11 1 j (by omega)])), (by have h7 := lw_11; rw [eo] at h7; exact h7)⟩))
        · exact ezw_return rfl rfl ⟨F_3, A_3, rfl, hS, (fun p j h => by rw [nF_3 p j (by omega), nF1 p j (by omega)]), (fun p h => by
                funext j
                rw [nA_3 p (by omega), nA1 p (by omega)]), (by
                rw [hq, hm, ezp_lp_0 z1 (by omega)]
                exact st1), (by
                rw [hq, hm, ezp_lp_0 z1 (by omega)]
                exact lw1), rfl⟩
  exact ezw_keepE [true, true, true, true, true, false] (L24_3 (0) ⟨by decide, by decide⟩ F1 A1 hS (fun _ _ _ => rfl) (fun _ _ => rfl) (by omega) (⟨(ezp_rk c (ezp_pt c 3) 3) x, rfl, st_1, lw_1⟩))
def ezt_m82_9_1_v1Q (e : Bool × Bool) (F : Nat → Nat → Int) (A : Nat → Int → Int) (c : Int → Int) (n : Int) (x : ezp_X) : Option ezq_V → (Nat → ezq_C) → Prop := fun v g' => ∃ (F' : Nat → Nat → Int) (A' : Nat → Int → Int), ezu_g e F' A' = g' ∧ ezs_T F' A' ∧ (∀ p j, ¬ (p = 1 ∧ (j = 3 ∨ j = 4 ∨ j = 5 ∨ j = 6 ∨ j = 7 ∨ j = 8 ∨ j = 9) ∨ p = 9 ∧ (j = 4)) → F' p j = F p j) ∧ (∀ p, ¬ (p = 10) → A' p = A p) ∧ (ezt_ST c n (ezp_pt c 4 x).1 F') ∧ (ezt_LW 9 (ezp_pt c 4 x).2 F' A') ∧ none = v
theorem ezt_m82_9_1_v1 {c : Int → Int} {n : Int} {x : ezp_X} {F : Nat → Nat → Int} {A : Nat → Int → Int} (hS : ezs_T F A) (hd : 29 ≤ d) (hn : F 1 2 = n) (hc : c = ezp_ch (A 2) n) (tp : ezp_tp c n) (hw : ∀ j, 0 ≤ j → j < 48 → A 3 j = ezl_cw.getD j.toNat 0) (st : ezt_ST c n x.1 F) (lw : ezt_LW 9 x.2 F A) : ezw_C l ρ B xa Hb D cA 82 d [ezw_p 9, ezw_p 1, ezw_i (1)] (ezu_g e F A) (ezt_m82_9_1_v1Q e F A c n x) := by
  refine ezw_met (k := 2) rfl rfl ?_
  have hn0 := tp.1
  have hn1 := tp.2.1
  obtain ⟨sf, sk, sc, sb, sb2⟩ := id st
  have hP := ezp_Pr tp x.1.2
  have c3i : x.1.1 = 0 → F 1 3 = ezp_K c x.1.2 := fun z => (sc z).2.2.1
  have c8i : x.1.1 = 0 → F 1 8 = ezp_P c x.1.2 := fun z => (sc z).1
  have c4i : x.1.1 = 0 → ezp_K c x.1.2 = 101 → F 1 4 = ezp_V c x.1.2 := fun z => (sc z).2.2.2.1
  have c7i : x.1.1 = 0 → ezp_K c x.1.2 = 100 → F 1 7 = ezp_v 32 (ezp_W c x.1.2) ∧ F 1 5 = ezp_ix (ezp_W c x.1.2) - 44 := fun z => (sc z).2.2.2.2
  refine ezw_aload_n rfl rfl ?_
  refine ezw_bipush (100) rfl rfl ?_
  refine ezw_call0_1 rfl (by omega) (ezu_at rfl) rfl rfl rfl rfl (ezt_m46_1 hS (by omega) ⟨by decide, by decide⟩ hn hc tp st) ?_
  rintro _ _ ⟨rfl, u2, hu2, p1_0, p1_1, rfl⟩
  have J21_4 : ∀ y3 : Int, ezw_in y3 → (y3 = 1 ∧ (x.1.1 = 0 ∧ ezp_K c x.1.2 = 100 ∧ 0 ≤ ezp_ix (ezp_W c x.1.2) - 44) ∨ y3 = 0 ∧ ¬ (x.1.1 = 0 ∧ ezp_K c x.1.2 = 100 ∧ 0 ≤ ezp_ix (ezp_W c x.1.2) - 44)) → ezw_E l ρ B xa Hb D cA d ezq_re82 (ezt_m82_9_1_v1Q e F A c n x) 21 [some (ezw_p 9), some (ezw_p 1), some (ezw_i (1)), none, none] [ezw_i y3] (ezu_g e F A) := by
    intro y3 hy3 jf_4
    refine ezw_istore_n rfl rfl ?_
    refine ezw_iload_n rfl rfl ?_
    have J59_6 : ∀ y5 : Int, ezw_in y5 → (y5 = 1 ∧ ((x.1.1 = 0 ∧ ezp_K c x.1.2 = 100 ∧ 0 ≤ ezp_ix (ezp_W c x.1.2) - 44) ∨ x.1.1 = 0 ∧ (ezp_K c x.1.2 = 101 ∨ ezp_K c x.1.2 = 41 ∨ ezp_K c x.1.2 = 240)) ∨ y5 = 0 ∧ ¬ ((x.1.1 = 0 ∧ ezp_K c x.1.2 = 100 ∧ 0 ≤ ezp_ix (ezp_W c x.1.2) - 44) ∨ x.1.1 = 0 ∧ (ezp_K c x.1.2 = 101 ∨ ezp_K c x.1.2 = 41 ∨ ezp_K c x.1.2 = 240))) → ezw_E l ρ B xa Hb D cA d ezq_re82 (ezt_m82_9_1_v1Q e F A c n x) 59 [some (ezw_p 9), some (ezw_p 1), some (ezw_i (1)), some (ezw_i y3), none] [ezw_i y5] (ezu_g e F A) := by
      intro y5 hy5 jp_6
      refine ezw_istore rfl rfl ?_
      refine ezw_iload rfl rfl ?_
      refine ezw_if_eq rfl rfl hy5 (fun h63_6 => ?_) (fun h63_6 => ?_)
      · refine ezw_aload_n rfl rfl ?_
        refine ezw_iload rfl rfl ?_
        refine ezw_if_eq rfl rfl hy5 (fun h74_6 => ?_) (fun h74_6 => ?_)
        · refine ezw_iconst (1) rfl rfl ?_
          refine ezw_call0_1 rfl (by omega) (ezu_at rfl) rfl rfl rfl rfl (ezt_m50_1 hS (by omega) ⟨by decide, by decide⟩ hn hc tp st (by omega)) ?_
          rintro _ _ ⟨F7, rfl, hS, nF7, st_7, rfl⟩
          refine ezw_goto rfl rfl ?_
          exact ezw_return rfl rfl ⟨F7, A, rfl, hS, (fun p j h => by rw [nF7 p j (by omega)]), (fun _ _ => rfl), (by
                first
                  | (exfalso; omega)
                  | (rw [ezp_pt_s]
                     repeat (first | rw [if_pos (by omega)] | rw [if_neg (by omega)])
                     exact st_7)), (by
                first
                  | (exfalso; omega)
                  | (rw [ezp_pt_s]
                     repeat (first | rw [if_pos (by omega)] | rw [if_neg (by omega)])
                     exact (ezt_LW_fr (F' := F7) (A' := A) lw (by rw [nF7 9 4 (by decide)]) rfl))), rfl⟩
        · refine ezw_iconst (5) rfl rfl ?_
          refine ezw_goto rfl rfl ?_
          refine ezw_call0_1 rfl (by omega) (ezu_at rfl) rfl rfl rfl rfl (ezt_m50_1 hS (by omega) ⟨by decide, by decide⟩ hn hc tp st (by omega)) ?_
          rintro _ _ ⟨F8, rfl, hS, nF8, st_8, rfl⟩
          refine ezw_goto rfl rfl ?_
          exact ezw_return rfl rfl ⟨F8, A, rfl, hS, (fun p j h => by rw [nF8 p j (by omega)]), (fun _ _ => rfl), (by
                first
                  | (exfalso; omega)
                  | (rw [ezp_pt_s]
                     repeat (first | rw [if_pos (by omega)] | rw [if_neg (by omega)])
                     exact st_8)), (by
                first
                  | (exfalso; omega)
                  | (rw [ezp_pt_s]
                     repeat (first | rw [if_pos (by omega)] | rw [if_neg (by omega)])
                     exact (ezt_LW_fr (F' := F8) (A' := A) lw (by rw [nF8 9 4 (by decide)]) rfl))), rfl⟩
      · refine ezw_iload_n rfl rfl ?_
        refine ezw_iconst (5) rfl rfl ?_
        refine ezw_icmp_lt rfl rfl ⟨by decide, by decide⟩ ⟨by decide, by decide⟩ (fun h68_8 => ?_) (fun h68_8 => absurd h68_8 (by omega))
        refine ezw_iload_n rfl rfl ?_
        refine ezw_if_eq rfl rfl hy3 (fun h89_8 => ?_) (fun h89_8 => ?_)
        · refine ezw_aload_n rfl rfl ?_
          refine ezw_bipush (101) rfl rfl ?_
          refine ezw_call0_1 rfl (by omega) (ezu_at rfl) rfl rfl rfl rfl (ezt_m46_1 hS (by omega) ⟨by decide, by decide⟩ hn hc tp st) ?_
          rintro _ _ ⟨rfl, u10, hu10, p9_0, p9_1, rfl⟩
          refine ezw_if_eq rfl rfl ⟨by omega, by omega⟩ (fun h115_10 => ?_) (fun h115_10 => ?_)
          · refine ezw_aload_n rfl rfl ?_
            refine ezw_bipush (41) rfl rfl ?_
            refine ezw_call0_1 rfl (by omega) (ezu_at rfl) rfl rfl rfl rfl (ezt_m46_1 hS (by omega) ⟨by decide, by decide⟩ hn hc tp st) ?_
            rintro _ _ ⟨rfl, u12, hu12, p11_0, p11_1, rfl⟩
            refine ezw_if_eq rfl rfl ⟨by omega, by omega⟩ (fun h139_12 => ?_) (fun h139_12 => ?_)
            · refine ezw_aload_n rfl rfl ?_
              refine ezw_call0_0 rfl (by omega) (ezu_at rfl) rfl rfl rfl rfl (ezt_take hS (by omega) hn hc tp hw st) ?_
              rintro _ _ ⟨F13, rfl, hS, nF13, st_13, rfl⟩
              refine ezw_aload_n rfl rfl ?_
              refine ezw_aload_n rfl rfl ?_
              refine ezw_iconst (0) rfl rfl ?_
              refine ezw_iload_n rfl rfl ?_
              refine ezw_iconst (1) rfl rfl ?_
              refine ezw_iadd (k := (2)) rfl (by omega) ?_
              refine ezw_call0_3 rfl (by omega) (ezu_at rfl) rfl rfl rfl rfl (ezt_m81_9_1_v0_v2 (x := (ezp_t x.1, x.2)) hS (by omega) (by rw [nF13 1 2 (by decide)]; exact hn) hc tp hw st_13 (ezt_LW_fr (F' := F13) (A' := A) lw (by rw [nF13 9 4 (by decide)]) rfl)) ?_
              rintro _ _ ⟨F14, A14, rfl, hS, nF14, nA14, st_14, lw_14, rfl⟩
              refine ezw_aload_n rfl rfl ?_
              refine ezw_sipush (241) rfl rfl ?_
              refine ezw_call0_1 rfl (by omega) (ezu_at rfl) rfl rfl rfl rfl (ezt_m46_1 hS (by omega) ⟨by decide, by decide⟩ (by rw [nF14 1 2 (by decide), nF13 1 2 (by decide)]; exact hn) (by rw [nA14 2 (by decide)]; exact hc) tp st_14) ?_
              rintro _ _ ⟨rfl, u16, hu16, p15_0, p15_1, rfl⟩
              refine ezw_if_eq rfl rfl ⟨by omega, by omega⟩ (fun h183_16 => ?_) (fun h183_16 => ?_)
              · refine ezw_aload_n rfl rfl ?_
                refine ezw_iconst (1) rfl rfl ?_
                refine ezw_call0_1 rfl (by omega) (ezu_at rfl) rfl rfl rfl rfl (ezt_m50_1 hS (by omega) ⟨by decide, by decide⟩ (by rw [nF14 1 2 (by decide), nF13 1 2 (by decide)]; exact hn) (by rw [nA14 2 (by decide)]; exact hc) tp st_14 (by omega)) ?_
                rintro _ _ ⟨F17, rfl, hS, nF17, st_17, rfl⟩
                exact ezw_return rfl rfl ⟨F17, A14, rfl, hS, (fun p j h => by rw [nF17 p j (by omega), nF14 p j (by omega), nF13 p j (by omega)]), (fun p h => by
                      funext j
                      rw [nA14 p (by omega)]), (by
                      first
                        | (exfalso; omega)
                        | (rw [ezp_pt_s]
                           repeat (first | rw [if_pos (by omega)] | rw [if_neg (by omega)])
                           show ezt_ST c n (ezp_cl c _) _
                           unfold ezp_cl
                           rw [if_neg (fun z => (p15_1 (by omega)).elim (fun y => y z.1) (fun y => y z.2))]
                           exact st_17)), (by
                      first
                        | (exfalso; omega)
                        | (rw [ezp_pt_s]
                           repeat (first | rw [if_pos (by omega)] | rw [if_neg (by omega)])
                           exact (ezt_LW_fr (F' := F17) (A' := A14) lw_14 (by rw [nF17 9 4 (by decide)]) rfl))), rfl⟩
              · refine ezw_aload_n rfl rfl ?_
                refine ezw_call0_0 rfl (by omega) (ezu_at rfl) rfl rfl rfl rfl (ezt_take hS (by omega) (by rw [nF14 1 2 (by decide), nF13 1 2 (by decide)]; exact hn) (by rw [nA14 2 (by decide)]; exact hc) tp (by rw [nA14 3 (by decide)]; exact hw) st_14) ?_
                rintro _ _ ⟨F18, rfl, hS, nF18, st_18, rfl⟩
                refine ezw_goto rfl rfl ?_
                exact ezw_return rfl rfl ⟨F18, A14, rfl, hS, (fun p j h => by rw [nF18 p j (by omega), nF14 p j (by omega), nF13 p j (by omega)]), (fun p h => by
                      funext j
                      rw [nA14 p (by omega)]), (by
                      first
                        | (exfalso; omega)
                        | (rw [ezp_pt_s]
                           repeat (first | rw [if_pos (by omega)] | rw [if_neg (by omega)])
                           show ezt_ST c n (ezp_cl c _) _
                           unfold ezp_cl
                           rw [if_pos (p15_0 (by omega))]
                           exact st_18)), (by
                      first
                        | (exfalso; omega)
                        | (rw [ezp_pt_s]
                           repeat (first | rw [if_pos (by omega)] | rw [if_neg (by omega)])
                           exact (ezt_LW_fr (F' := F18) (A' := A14) lw_14 (by rw [nF18 9 4 (by decide)]) rfl))), rfl⟩
            · refine ezw_aload_n rfl rfl ?_
              refine ezw_call0_0 rfl (by omega) (ezu_at rfl) rfl rfl rfl rfl (ezt_take hS (by omega) hn hc tp hw st) ?_
              rintro _ _ ⟨F19, rfl, hS, nF19, st_19, rfl⟩
              refine ezw_aload_n rfl rfl ?_
              refine ezw_aload_n rfl rfl ?_
              refine ezw_iload_n rfl rfl ?_
              refine ezw_iconst (1) rfl rfl ?_
              refine ezw_iadd (k := (2)) rfl (by omega) ?_
              refine ezw_call0_2 rfl (by omega) (ezu_at rfl) rfl rfl rfl rfl (ezt_m82_9_1_v2 (x := (ezp_t x.1, x.2)) hS (by omega) (by rw [nF19 1 2 (by decide)]; exact hn) hc tp hw st_19 (ezt_LW_fr (F' := F19) (A' := A) lw (by rw [nF19 9 4 (by decide)]) rfl)) ?_
              rintro _ _ ⟨F20, A20, rfl, hS, nF20, nA20, st_20, lw_20, rfl⟩
              refine ezw_aload_n rfl rfl ?_
              refine ezw_bipush (-5) rfl rfl ?_
              refine ezw_call0_1 rfl (by omega) (ezu_at rfl) rfl rfl rfl rfl (ezt_m83_9 hS (by omega) ⟨by decide, by decide⟩ lw_20) ?_
              rintro _ _ ⟨F21, A21, rfl, hS, nF21, nA21, lw_21, rfl⟩
              refine ezw_goto rfl rfl ?_
              exact ezw_return rfl rfl ⟨F21, A21, rfl, hS, (fun p j h => by rw [nF21 p j (by omega), nF20 p j (by omega), nF19 p j (by omega)]), (fun p h => by
                    funext j
                    rw [nA21 p (by omega), nA20 p (by omega)]), (by
                    first
                      | (exfalso; omega)
                      | (rw [ezp_pt_s]
                         repeat (first | rw [if_pos (by omega)] | rw [if_neg (by omega)])
                         exact (ezt_ST_fr st_20 (fun j j0 j1 => by rw [nF21 1 j (by omega)])))), (by
                    first
                      | (exfalso; omega)
                      | (rw [ezp_pt_s]
                         repeat (first | rw [if_pos (by omega)] | rw [if_neg (by omega)])
                         exact lw_21)), rfl⟩
          · refine ezw_aload_n rfl rfl ?_
            refine ezw_aload_n rfl rfl ?_
            refine ezy_get_i hS rfl rfl rfl rfl rfl rfl (fun u22 hu22 ku22 eu22 => ?_)
            replace eu22 := eu22.symm
            subst eu22
            have ru22 : 0 ≤ (F 1 4) ∧ (F 1 4) ≤ 9999 := ku22
            have f4 := c4i (by omega) (by omega)
            refine ezw_call0_1 rfl (by omega) (ezu_at rfl) rfl rfl rfl rfl (ezt_m83_9 hS (by omega) hu22 lw) ?_
            rintro _ _ ⟨F23, A23, rfl, hS, nF23, nA23, lw_23, rfl⟩
            refine ezw_aload_n rfl rfl ?_
            refine ezw_call0_0 rfl (by omega) (ezu_at rfl) rfl rfl rfl rfl (ezt_take hS (by omega) (by rw [nF23 1 2 (by decide)]; exact hn) (by rw [nA23 2 (by decide)]; exact hc) tp (by rw [nA23 3 (by decide)]; exact hw) (ezt_ST_fr st (fun j j0 j1 => by rw [nF23 1 j (by omega)]))) ?_
            rintro _ _ ⟨F24, rfl, hS, nF24, st_24, rfl⟩
            refine ezw_goto rfl rfl ?_
            exact ezw_return rfl rfl ⟨F24, A23, rfl, hS, (fun p j h => by rw [nF24 p j (by omega), nF23 p j (by omega)]), (fun p h => by
                  funext j
                  rw [nA23 p (by omega)]), (by
                  first
                    | (exfalso; omega)
                    | (rw [ezp_pt_s]
                       repeat (first | rw [if_pos (by omega)] | rw [if_neg (by omega)])
                       exact st_24)), (by
                  first
                    | (exfalso; omega)
                    | (rw [ezp_pt_s]
                       repeat (first | rw [if_pos (by omega)] | rw [if_neg (by omega)])
                       have h7 := (ezt_LW_fr (F' := F24) (A' := A23) lw_23 (by rw [nF24 9 4 (by decide)]) rfl)
                       rw [show (F 1 4) = ezp_V c x.1.2 by omega] at h7
                       exact h7)), rfl⟩
        · refine ezw_aload_n rfl rfl ?_
          refine ezw_iconst (-1) rfl rfl ?_
          refine ezw_aload_n rfl rfl ?_
          refine ezy_get_i hS rfl rfl rfl rfl rfl rfl (fun u25 hu25 ku25 eu25 => ?_)
          replace eu25 := eu25.symm
          subst eu25
          refine ezw_isub (k := -(F 1 5) - 1) rfl (by omega) ?_
          have f5 := (c7i (by omega) (by omega)).2
          refine ezw_call0_1 rfl (by omega) (ezu_at rfl) rfl rfl rfl rfl (ezt_m83_9 hS (by omega) ⟨by omega, by omega⟩ lw) ?_
          rintro _ _ ⟨F26, A26, rfl, hS, nF26, nA26, lw_26, rfl⟩
          refine ezw_aload_n rfl rfl ?_
          refine ezw_call0_0 rfl (by omega) (ezu_at rfl) rfl rfl rfl rfl (ezt_take hS (by omega) (by rw [nF26 1 2 (by decide)]; exact hn) (by rw [nA26 2 (by decide)]; exact hc) tp (by rw [nA26 3 (by decide)]; exact hw) (ezt_ST_fr st (fun j j0 j1 => by rw [nF26 1 j (by omega)]))) ?_
          rintro _ _ ⟨F27, rfl, hS, nF27, st_27, rfl⟩
          refine ezw_goto rfl rfl ?_
          exact ezw_return rfl rfl ⟨F27, A26, rfl, hS, (fun p j h => by rw [nF27 p j (by omega), nF26 p j (by omega)]), (fun p h => by
                funext j
                rw [nA26 p (by omega)]), (by
                first
                  | (exfalso; omega)
                  | (rw [ezp_pt_s]
                     repeat (first | rw [if_pos (by omega)] | rw [if_neg (by omega)])
                     exact st_27)), (by
                first
                  | (exfalso; omega)
                  | (rw [ezp_pt_s]
                     repeat (first | rw [if_pos (by omega)] | rw [if_neg (by omega)])
                     have h7 := (ezt_LW_fr (F' := F27) (A' := A26) lw_26 (by rw [nF27 9 4 (by decide)]) rfl)
                     rw [show -(F 1 5) - 1 = -1 - (ezp_ix (ezp_W c x.1.2) - 44) by omega] at h7
                     exact h7)), rfl⟩
    refine ezw_if_ne rfl rfl hy3 (fun h23_4 => ?_) (fun h23_4 => ?_)
    · refine ezw_iconst (1) rfl rfl ?_
      refine ezw_goto rfl rfl ?_
      exact ezw_keepE [true, true, true, true, false] (J59_6 (1) ⟨by decide, by decide⟩ (by omega))
    · refine ezw_aload_n rfl rfl ?_
      refine ezw_bipush (101) rfl rfl ?_
      refine ezw_call0_1 rfl (by omega) (ezu_at rfl) rfl rfl rfl rfl (ezt_m46_1 hS (by omega) ⟨by decide, by decide⟩ hn hc tp st) ?_
      rintro _ _ ⟨rfl, u29, hu29, p28_0, p28_1, rfl⟩
      refine ezw_if_ne rfl rfl ⟨by omega, by omega⟩ (fun h32_29 => ?_) (fun h32_29 => ?_)
      · refine ezw_iconst (1) rfl rfl ?_
        refine ezw_goto rfl rfl ?_
        exact ezw_keepE [true, true, true, true, false] (J59_6 (1) ⟨by decide, by decide⟩ (by omega))
      · refine ezw_aload_n rfl rfl ?_
        refine ezw_bipush (41) rfl rfl ?_
        refine ezw_call0_1 rfl (by omega) (ezu_at rfl) rfl rfl rfl rfl (ezt_m46_1 hS (by omega) ⟨by decide, by decide⟩ hn hc tp st) ?_
        rintro _ _ ⟨rfl, u31, hu31, p30_0, p30_1, rfl⟩
        refine ezw_if_ne rfl rfl ⟨by omega, by omega⟩ (fun h41_31 => ?_) (fun h41_31 => ?_)
        · refine ezw_iconst (1) rfl rfl ?_
          refine ezw_goto rfl rfl ?_
          exact ezw_keepE [true, true, true, true, false] (J59_6 (1) ⟨by decide, by decide⟩ (by omega))
        · refine ezw_aload_n rfl rfl ?_
          refine ezw_sipush (240) rfl rfl ?_
          refine ezw_call0_1 rfl (by omega) (ezu_at rfl) rfl rfl rfl rfl (ezt_m46_1 hS (by omega) ⟨by decide, by decide⟩ hn hc tp st) ?_
          rintro _ _ ⟨rfl, u33, hu33, p32_0, p32_1, rfl⟩
          refine ezw_if_eq rfl rfl ⟨by omega, by omega⟩ (fun h51_33 => ?_) (fun h51_33 => ?_)
          · refine ezw_iconst (0) rfl rfl ?_
            exact ezw_keepE [true, true, true, true, false] (J59_6 (0) ⟨by decide, by decide⟩ (by omega))
          · refine ezw_iconst (1) rfl rfl ?_
            refine ezw_goto rfl rfl ?_
            exact ezw_keepE [true, true, true, true, false] (J59_6 (1) ⟨by decide, by decide⟩ (by omega))
  refine ezw_if_eq rfl rfl ⟨by omega, by omega⟩ (fun h6_2 => ?_) (fun h6_2 => ?_)
  · refine ezw_iconst (0) rfl rfl ?_
    exact ezw_keepE [true, true, true, false, false] (J21_4 (0) ⟨by decide, by decide⟩ (by omega))
  · refine ezw_aload_n rfl rfl ?_
    have f5 := (c7i (p1_0 (by omega)).1 (p1_0 (by omega)).2).2
    refine ezy_get_i hS rfl rfl rfl rfl rfl rfl (fun u34 hu34 ku34 eu34 => ?_)
    replace eu34 := eu34.symm
    subst eu34
    refine ezw_if_lt rfl rfl hu34 (fun h13_34 => ?_) (fun h13_34 => ?_)
    · refine ezw_iconst (0) rfl rfl ?_
      exact ezw_keepE [true, true, true, false, false] (J21_4 (0) ⟨by decide, by decide⟩ (by omega))
    · refine ezw_iconst (1) rfl rfl ?_
      refine ezw_goto rfl rfl ?_
      exact ezw_keepE [true, true, true, false, false] (J21_4 (1) ⟨by decide, by decide⟩ (by omega))
def ezt_m81_9_1_v4_v1Q (e : Bool × Bool) (F : Nat → Nat → Int) (A : Nat → Int → Int) (c : Int → Int) (n : Int) (x : ezp_X) : Option ezq_V → (Nat → ezq_C) → Prop := fun v g' => ∃ (F' : Nat → Nat → Int) (A' : Nat → Int → Int), ezu_g e F' A' = g' ∧ ezs_T F' A' ∧ (∀ p j, ¬ (p = 1 ∧ (j = 3 ∨ j = 4 ∨ j = 5 ∨ j = 6 ∨ j = 7 ∨ j = 8 ∨ j = 9) ∨ p = 9 ∧ (j = 4)) → F' p j = F p j) ∧ (∀ p, ¬ (p = 10) → A' p = A p) ∧ (ezt_ST c n (ezp_rk c (ezp_pt c 4) 0 x).1 F') ∧ (ezt_LW 9 (ezp_rk c (ezp_pt c 4) 0 x).2 F' A') ∧ none = v
theorem ezt_m81_9_1_v4_v1 {c : Int → Int} {n : Int} {x : ezp_X} {F : Nat → Nat → Int} {A : Nat → Int → Int} (hS : ezs_T F A) (hd : 30 ≤ d) (hn : F 1 2 = n) (hc : c = ezp_ch (A 2) n) (tp : ezp_tp c n) (hw : ∀ j, 0 ≤ j → j < 48 → A 3 j = ezl_cw.getD j.toNat 0) (st : ezt_ST c n x.1 F) (lw : ezt_LW 9 x.2 F A) : ezw_C l ρ B xa Hb D cA 81 d [ezw_p 9, ezw_p 1, ezw_i (4), ezw_i (1)] (ezu_g e F A) (ezt_m81_9_1_v4_v1Q e F A c n x) := by
  refine ezw_met (k := 2) rfl rfl ?_
  refine ezw_iload_n rfl rfl ?_
  refine ezw_iconst (4) rfl rfl ?_
  refine ezw_icmp_lt rfl rfl ⟨by decide, by decide⟩ ⟨by decide, by decide⟩ (fun h2_0 => absurd h2_0 (by omega)) (fun h2_0 => ?_)
  refine ezw_aload_n rfl rfl ?_
  refine ezw_aload_n rfl rfl ?_
  refine ezw_iload_n rfl rfl ?_
  refine ezw_call0_2 rfl (by omega) (ezu_at rfl) rfl rfl rfl rfl (ezt_m82_9_1_v1 (x := x) hS (by omega) hn hc tp hw st lw) ?_
  rintro _ _ ⟨F1, A1, rfl, hS, nF1, nA1, st_1, lw_1, rfl⟩
  exact ezw_return rfl rfl ⟨F1, A1, rfl, hS, (fun p j h => by rw [nF1 p j (by omega)]), (fun p h => by
        funext j
        rw [nA1 p (by omega)]), st_1, lw_1, rfl⟩
def ezt_m81_9_1_v3_v1Q (e : Bool × Bool) (F : Nat → Nat → Int) (A : Nat → Int → Int) (c : Int → Int) (n : Int) (x : ezp_X) : Option ezq_V → (Nat → ezq_C) → Prop := fun v g' => ∃ (F' : Nat → Nat → Int) (A' : Nat → Int → Int), ezu_g e F' A' = g' ∧ ezs_T F' A' ∧ (∀ p j, ¬ (p = 1 ∧ (j = 3 ∨ j = 4 ∨ j = 5 ∨ j = 6 ∨ j = 7 ∨ j = 8 ∨ j = 9) ∨ p = 9 ∧ (j = 4)) → F' p j = F p j) ∧ (∀ p, ¬ (p = 10) → A' p = A p) ∧ (ezt_ST c n (ezp_rk c (ezp_pt c 4) 1 x).1 F') ∧ (ezt_LW 9 (ezp_rk c (ezp_pt c 4) 1 x).2 F' A') ∧ none = v
theorem ezt_m81_9_1_v3_v1 {c : Int → Int} {n : Int} {x : ezp_X} {F : Nat → Nat → Int} {A : Nat → Int → Int} (hS : ezs_T F A) (hd : 31 ≤ d) (hn : F 1 2 = n) (hc : c = ezp_ch (A 2) n) (tp : ezp_tp c n) (hw : ∀ j, 0 ≤ j → j < 48 → A 3 j = ezl_cw.getD j.toNat 0) (st : ezt_ST c n x.1 F) (lw : ezt_LW 9 x.2 F A) : ezw_C l ρ B xa Hb D cA 81 d [ezw_p 9, ezw_p 1, ezw_i (3), ezw_i (1)] (ezu_g e F A) (ezt_m81_9_1_v3_v1Q e F A c n x) := by
  refine ezw_met (k := 2) rfl rfl ?_
  refine ezw_iload_n rfl rfl ?_
  refine ezw_iconst (4) rfl rfl ?_
  refine ezw_icmp_lt rfl rfl ⟨by decide, by decide⟩ ⟨by decide, by decide⟩ (fun h2_0 => ?_) (fun h2_0 => absurd h2_0 (by omega))
  refine ezw_aload_n rfl rfl ?_
  refine ezw_aload_n rfl rfl ?_
  refine ezw_iload_n rfl rfl ?_
  refine ezw_iconst (1) rfl rfl ?_
  refine ezw_iadd (k := (4)) rfl (by omega) ?_
  refine ezw_iload_n rfl rfl ?_
  refine ezw_call0_3 rfl (by omega) (ezu_at rfl) rfl rfl rfl rfl (ezt_m81_9_1_v4_v1 (x := x) hS (by omega) hn hc tp hw st lw) ?_
  rintro _ _ ⟨F1, A1, rfl, hS, nF1, nA1, st_1, lw_1, rfl⟩
  refine ezw_iconst (0) rfl rfl ?_
  refine ezw_istore rfl rfl ?_
  have L24_3 : ∀ c2 : Int, ezw_in c2 → ∀ F_3 : Nat → Nat → Int, ∀ A_3 : Nat → Int → Int, ezs_T F_3 A_3 → (∀ p j, ¬ (p = 1 ∧ (j = 3 ∨ j = 4 ∨ j = 5 ∨ j = 6 ∨ j = 7 ∨ j = 8 ∨ j = 9) ∨ p = 9 ∧ (j = 4)) → F_3 p j = F1 p j) → (∀ p, ¬ (p = 10) → A_3 p = A1 p) → ((0) ≤ c2) → (∃ x1, ezp_rk c (ezp_pt c 4) 1 x = ezp_lp c 3 (ezp_rk c (ezp_pt c 4) 0) (1000 - c2).toNat x1 ∧ ezt_ST c n x1.1 F_3 ∧ ezt_LW 9 x1.2 F_3 A_3) → ezw_E l ρ B xa Hb D cA d ezq_re81 (ezt_m81_9_1_v3_v1Q e F A c n x) 24 [some (ezw_p 9), some (ezw_p 1), some (ezw_i (3)), some (ezw_i (1)), some (ezw_i c2), none] [] (ezu_g e F_3 A_3) := by
    refine ezs_up ?_
    intro c2 hc2 ihc2 F_3 A_3 hS nF_3 nA_3 g_3 iv_3
    obtain ⟨x1, hq, st1, lw1⟩ := iv_3
    have hs1 := st1.1
    refine ezw_iload rfl rfl ?_
    refine ezw_sipush (1000) rfl rfl ?_
    refine ezw_icmp_ge rfl rfl hc2 ⟨by decide, by decide⟩ (fun h29_3 => ?_) (fun h29_3 => ?_)
    · exact ezw_return rfl rfl ⟨F_3, A_3, rfl, hS, (fun p j h => by rw [nF_3 p j (by omega), nF1 p j (by omega)]), (fun p h => by
            funext j
            rw [nA_3 p (by omega), nA1 p (by omega)]), (by
            rw [hq, show (1000 - c2).toNat = 0 by omega]
            exact st1), (by
            rw [hq, show (1000 - c2).toNat = 0 by omega]
            exact lw1), rfl⟩
    · refine ezw_aload_n rfl rfl ?_
      refine ezw_call0_0 rfl (by omega) (ezu_at rfl) rfl rfl rfl rfl (ezt_m45_1 hS (by omega)) ?_
      rintro _ _ ⟨rfl, u5, hu5, p4_0, p4_1, rfl⟩
      refine ezw_if_eq rfl rfl ⟨by omega, by omega⟩ (fun h36_5 => ?_) (fun h36_5 => ?_)
      · exact ezw_return rfl rfl ⟨F_3, A_3, rfl, hS, (fun p j h => by rw [nF_3 p j (by omega), nF1 p j (by omega)]), (fun p h => by
              funext j
              rw [nA_3 p (by omega), nA1 p (by omega)]), (by
              rw [hq, ezp_lp_n (by have h8 := p4_1 (by omega); omega)]
              exact st1), (by
              rw [hq, ezp_lp_n (by have h8 := p4_1 (by omega); omega)]
              exact lw1), rfl⟩
      · have z1 : x1.1.1 = 0 := by have h0 := p4_0 (by omega); omega
        have k3 := (st1.2.2.1 z1).2.2.1
        have hm : (1000 - c2).toNat = (1000 - (c2 + 1)).toNat + 1 := by omega
        refine ezw_aload_n rfl rfl ?_
        refine ezy_get_i hS rfl rfl rfl rfl rfl rfl (fun u6 hu6 ku6 eu6 => ?_)
        replace eu6 := eu6.symm
        subst eu6
        refine ezw_iload_n rfl rfl ?_
        refine ezw_call2_2 rfl (by omega) rfl rfl (ezt_m84_v3 hS (by omega) hu6) ?_
        rintro _ _ ⟨rfl, u8, hu8, v_7, rfl⟩
        refine ezw_istore rfl rfl ?_
        have eo : u8 = ezp_op (ezp_K c x1.1.2) 3 := by rw [← k3]; exact v_7
        refine ezw_iload rfl rfl ?_
        refine ezw_if_ne rfl rfl hu8 (fun h51_8 => ?_) (fun h51_8 => ?_)
        · refine ezw_aload_n rfl rfl ?_
          refine ezw_call0_0 rfl (by omega) (ezu_at rfl) rfl rfl rfl rfl (ezt_take hS (by omega) (by rw [nF_3 1 2 (by decide), nF1 1 2 (by decide)]; exact hn) (by rw [nA_3 2 (by decide), nA1 2 (by decide)]; exact hc) tp (by rw [nA_3 3 (by decide), nA1 3 (by decide)]; exact hw) st1) ?_
          rintro _ _ ⟨F9, rfl, hS, nF9, st_9, rfl⟩
          refine ezw_aload_n rfl rfl ?_
          refine ezw_aload_n rfl rfl ?_
          refine ezw_iload_n rfl rfl ?_
          refine ezw_iconst (1) rfl rfl ?_
          refine ezw_iadd (k := (4)) rfl (by omega) ?_
          refine ezw_iload_n rfl rfl ?_
          refine ezw_call0_3 rfl (by omega) (ezu_at rfl) rfl rfl rfl rfl (ezt_m81_9_1_v4_v1 (x := (ezp_t x1.1, x1.2)) hS (by omega) (by rw [nF9 1 2 (by decide), nF_3 1 2 (by decide), nF1 1 2 (by decide)]; exact hn) (by rw [nA_3 2 (by decide), nA1 2 (by decide)]; exact hc) tp (by rw [nA_3 3 (by decide), nA1 3 (by decide)]; exact hw) st_9 (ezt_LW_fr (F' := F9) (A' := A_3) lw1 (by rw [nF9 9 4 (by decide)]) rfl)) ?_
          rintro _ _ ⟨F10, A10, rfl, hS, nF10, nA10, st_10, lw_10, rfl⟩
          refine ezw_aload_n rfl rfl ?_
          refine ezw_iload rfl rfl ?_
          refine ezw_call0_1 rfl (by omega) (ezu_at rfl) rfl rfl rfl rfl (ezt_m83_9 hS (by omega) hu8 lw_10) ?_
          rintro _ _ ⟨F11, A11, rfl, hS, nF11, nA11, lw_11, rfl⟩
          refine ezw_iload_n rfl rfl ?_
          refine ezw_iconst (1) rfl rfl ?_
          refine ezw_icmp_ne rfl rfl ⟨by decide, by decide⟩ ⟨by decide, by decide⟩ (fun h76_11 => ?_) (fun h76_11 => absurd h76_11 (by omega))
          refine ezw_iinc (k := c2 + 1) (1) rfl rfl rfl (by omega) rfl ?_
          refine ezw_goto rfl rfl ?_
          exact ezw_keepE [true, true, true, true, true, false] (ihc2 (c2 + 1) (by omega) ⟨by omega, by omega⟩ F11 A11 hS (fun p j h => by rw [nF11 p j (by omega), nF10 p j (by omega), nF9 p j (by omega), nF_3 p j (by omega)]) (fun p h => by
                funext j
                rw [nA11 p (by omega), nA10 p (by omega), nA_3 p (by omega)]) (by omega) (⟨ezp_l1 c 3 (ezp_rk c (ezp_pt c 4) 0) x1, (by rw [hq, hm, ezp_lp_s z1 (by omega) (by decide), show (1000 - (c2 + 1)).toNat = (1000 - (c2 + 1)).toNat by omega]), (ezt_ST_fr st_10 (fun j j0 j1 => by rw [nF11 1 j (by omega)])), (by have h7 := lw_11; rw [eo] at h7; exact h7)⟩))
        · exact ezw_return rfl rfl ⟨F_3, A_3, rfl, hS, (fun p j h => by rw [nF_3 p j (by omega), nF1 p j (by omega)]), (fun p h => by
                funext j
                rw [nA_3 p (by omega), nA1 p (by omega)]), (by
                rw [hq, hm, ezp_lp_0 z1 (by omega)]
                exact st1), (by
                rw [hq, hm, ezp_lp_0 z1 (by omega)]
                exact lw1), rfl⟩
  exact ezw_keepE [true, true, true, true, true, false] (L24_3 (0) ⟨by decide, by decide⟩ F1 A1 hS (fun _ _ _ => rfl) (fun _ _ => rfl) (by omega) (⟨(ezp_rk c (ezp_pt c 4) 0) x, rfl, st_1, lw_1⟩))
def ezt_m81_9_1_v2_v1Q (e : Bool × Bool) (F : Nat → Nat → Int) (A : Nat → Int → Int) (c : Int → Int) (n : Int) (x : ezp_X) : Option ezq_V → (Nat → ezq_C) → Prop := fun v g' => ∃ (F' : Nat → Nat → Int) (A' : Nat → Int → Int), ezu_g e F' A' = g' ∧ ezs_T F' A' ∧ (∀ p j, ¬ (p = 1 ∧ (j = 3 ∨ j = 4 ∨ j = 5 ∨ j = 6 ∨ j = 7 ∨ j = 8 ∨ j = 9) ∨ p = 9 ∧ (j = 4)) → F' p j = F p j) ∧ (∀ p, ¬ (p = 10) → A' p = A p) ∧ (ezt_ST c n (ezp_rk c (ezp_pt c 4) 2 x).1 F') ∧ (ezt_LW 9 (ezp_rk c (ezp_pt c 4) 2 x).2 F' A') ∧ none = v
theorem ezt_m81_9_1_v2_v1 {c : Int → Int} {n : Int} {x : ezp_X} {F : Nat → Nat → Int} {A : Nat → Int → Int} (hS : ezs_T F A) (hd : 32 ≤ d) (hn : F 1 2 = n) (hc : c = ezp_ch (A 2) n) (tp : ezp_tp c n) (hw : ∀ j, 0 ≤ j → j < 48 → A 3 j = ezl_cw.getD j.toNat 0) (st : ezt_ST c n x.1 F) (lw : ezt_LW 9 x.2 F A) : ezw_C l ρ B xa Hb D cA 81 d [ezw_p 9, ezw_p 1, ezw_i (2), ezw_i (1)] (ezu_g e F A) (ezt_m81_9_1_v2_v1Q e F A c n x) := by
  refine ezw_met (k := 2) rfl rfl ?_
  refine ezw_iload_n rfl rfl ?_
  refine ezw_iconst (4) rfl rfl ?_
  refine ezw_icmp_lt rfl rfl ⟨by decide, by decide⟩ ⟨by decide, by decide⟩ (fun h2_0 => ?_) (fun h2_0 => absurd h2_0 (by omega))
  refine ezw_aload_n rfl rfl ?_
  refine ezw_aload_n rfl rfl ?_
  refine ezw_iload_n rfl rfl ?_
  refine ezw_iconst (1) rfl rfl ?_
  refine ezw_iadd (k := (3)) rfl (by omega) ?_
  refine ezw_iload_n rfl rfl ?_
  refine ezw_call0_3 rfl (by omega) (ezu_at rfl) rfl rfl rfl rfl (ezt_m81_9_1_v3_v1 (x := x) hS (by omega) hn hc tp hw st lw) ?_
  rintro _ _ ⟨F1, A1, rfl, hS, nF1, nA1, st_1, lw_1, rfl⟩
  refine ezw_iconst (0) rfl rfl ?_
  refine ezw_istore rfl rfl ?_
  have L24_3 : ∀ c2 : Int, ezw_in c2 → ∀ F_3 : Nat → Nat → Int, ∀ A_3 : Nat → Int → Int, ezs_T F_3 A_3 → (∀ p j, ¬ (p = 1 ∧ (j = 3 ∨ j = 4 ∨ j = 5 ∨ j = 6 ∨ j = 7 ∨ j = 8 ∨ j = 9) ∨ p = 9 ∧ (j = 4)) → F_3 p j = F1 p j) → (∀ p, ¬ (p = 10) → A_3 p = A1 p) → ((0) ≤ c2) → (∃ x1, ezp_rk c (ezp_pt c 4) 2 x = ezp_lp c 2 (ezp_rk c (ezp_pt c 4) 1) (1000 - c2).toNat x1 ∧ ezt_ST c n x1.1 F_3 ∧ ezt_LW 9 x1.2 F_3 A_3) → ezw_E l ρ B xa Hb D cA d ezq_re81 (ezt_m81_9_1_v2_v1Q e F A c n x) 24 [some (ezw_p 9), some (ezw_p 1), some (ezw_i (2)), some (ezw_i (1)), some (ezw_i c2), none] [] (ezu_g e F_3 A_3) := by
    refine ezs_up ?_
    intro c2 hc2 ihc2 F_3 A_3 hS nF_3 nA_3 g_3 iv_3
    obtain ⟨x1, hq, st1, lw1⟩ := iv_3
    have hs1 := st1.1
    refine ezw_iload rfl rfl ?_
    refine ezw_sipush (1000) rfl rfl ?_
    refine ezw_icmp_ge rfl rfl hc2 ⟨by decide, by decide⟩ (fun h29_3 => ?_) (fun h29_3 => ?_)
    · exact ezw_return rfl rfl ⟨F_3, A_3, rfl, hS, (fun p j h => by rw [nF_3 p j (by omega), nF1 p j (by omega)]), (fun p h => by
            funext j
            rw [nA_3 p (by omega), nA1 p (by omega)]), (by
            rw [hq, show (1000 - c2).toNat = 0 by omega]
            exact st1), (by
            rw [hq, show (1000 - c2).toNat = 0 by omega]
            exact lw1), rfl⟩
    · refine ezw_aload_n rfl rfl ?_
      refine ezw_call0_0 rfl (by omega) (ezu_at rfl) rfl rfl rfl rfl (ezt_m45_1 hS (by omega)) ?_
      rintro _ _ ⟨rfl, u5, hu5, p4_0, p4_1, rfl⟩
      refine ezw_if_eq rfl rfl ⟨by omega, by omega⟩ (fun h36_5 => ?_) (fun h36_5 => ?_)
      · exact ezw_return rfl rfl ⟨F_3, A_3, rfl, hS, (fun p j h => by rw [nF_3 p j (by omega), nF1 p j (by omega)]), (fun p h => by
              funext j
              rw [nA_3 p (by omega), nA1 p (by omega)]), (by
              rw [hq, ezp_lp_n (by have h8 := p4_1 (by omega); omega)]
              exact st1), (by
              rw [hq, ezp_lp_n (by have h8 := p4_1 (by omega); omega)]
              exact lw1), rfl⟩
      · have z1 : x1.1.1 = 0 := by have h0 := p4_0 (by omega); omega
        have k3 := (st1.2.2.1 z1).2.2.1
        have hm : (1000 - c2).toNat = (1000 - (c2 + 1)).toNat + 1 := by omega
        refine ezw_aload_n rfl rfl ?_
        refine ezy_get_i hS rfl rfl rfl rfl rfl rfl (fun u6 hu6 ku6 eu6 => ?_)
        replace eu6 := eu6.symm
        subst eu6
        refine ezw_iload_n rfl rfl ?_
        refine ezw_call2_2 rfl (by omega) rfl rfl (ezt_m84_v2 hS (by omega) hu6) ?_
        rintro _ _ ⟨rfl, u8, hu8, v_7, rfl⟩
        refine ezw_istore rfl rfl ?_
        have eo : u8 = ezp_op (ezp_K c x1.1.2) 2 := by rw [← k3]; exact v_7
        refine ezw_iload rfl rfl ?_
        refine ezw_if_ne rfl rfl hu8 (fun h51_8 => ?_) (fun h51_8 => ?_)
        · refine ezw_aload_n rfl rfl ?_
          refine ezw_call0_0 rfl (by omega) (ezu_at rfl) rfl rfl rfl rfl (ezt_take hS (by omega) (by rw [nF_3 1 2 (by decide), nF1 1 2 (by decide)]; exact hn) (by rw [nA_3 2 (by decide), nA1 2 (by decide)]; exact hc) tp (by rw [nA_3 3 (by decide), nA1 3 (by decide)]; exact hw) st1) ?_
          rintro _ _ ⟨F9, rfl, hS, nF9, st_9, rfl⟩
          refine ezw_aload_n rfl rfl ?_
          refine ezw_aload_n rfl rfl ?_
          refine ezw_iload_n rfl rfl ?_
          refine ezw_iconst (1) rfl rfl ?_
          refine ezw_iadd (k := (3)) rfl (by omega) ?_
          refine ezw_iload_n rfl rfl ?_
          refine ezw_call0_3 rfl (by omega) (ezu_at rfl) rfl rfl rfl rfl (ezt_m81_9_1_v3_v1 (x := (ezp_t x1.1, x1.2)) hS (by omega) (by rw [nF9 1 2 (by decide), nF_3 1 2 (by decide), nF1 1 2 (by decide)]; exact hn) (by rw [nA_3 2 (by decide), nA1 2 (by decide)]; exact hc) tp (by rw [nA_3 3 (by decide), nA1 3 (by decide)]; exact hw) st_9 (ezt_LW_fr (F' := F9) (A' := A_3) lw1 (by rw [nF9 9 4 (by decide)]) rfl)) ?_
          rintro _ _ ⟨F10, A10, rfl, hS, nF10, nA10, st_10, lw_10, rfl⟩
          refine ezw_aload_n rfl rfl ?_
          refine ezw_iload rfl rfl ?_
          refine ezw_call0_1 rfl (by omega) (ezu_at rfl) rfl rfl rfl rfl (ezt_m83_9 hS (by omega) hu8 lw_10) ?_
          rintro _ _ ⟨F11, A11, rfl, hS, nF11, nA11, lw_11, rfl⟩
          refine ezw_iload_n rfl rfl ?_
          refine ezw_iconst (1) rfl rfl ?_
          refine ezw_icmp_ne rfl rfl ⟨by decide, by decide⟩ ⟨by decide, by decide⟩ (fun h76_11 => ?_) (fun h76_11 => absurd h76_11 (by omega))
          refine ezw_iinc (k := c2 + 1) (1) rfl rfl rfl (by omega) rfl ?_
          refine ezw_goto rfl rfl ?_
          exact ezw_keepE [true, true, true, true, true, false] (ihc2 (c2 + 1) (by omega) ⟨by omega, by omega⟩ F11 A11 hS (fun p j h => by rw [nF11 p j (by omega), nF10 p j (by omega), nF9 p j (by omega), nF_3 p j (by omega)]) (fun p h => by
                funext j
                rw [nA11 p (by omega), nA10 p (by omega), nA_3 p (by omega)]) (by omega) (⟨ezp_l1 c 2 (ezp_rk c (ezp_pt c 4) 1) x1, (by rw [hq, hm, ezp_lp_s z1 (by omega) (by decide), show (1000 - (c2 + 1)).toNat = (1000 - (c2 + 1)).toNat by omega]), (ezt_ST_fr st_10 (fun j j0 j1 => by rw [nF11 1 j (by omega)])), (by have h7 := lw_11; rw [eo] at h7; exact h7)⟩))
        · exact ezw_return rfl rfl ⟨F_3, A_3, rfl, hS, (fun p j h => by rw [nF_3 p j (by omega), nF1 p j (by omega)]), (fun p h => by
                funext j
                rw [nA_3 p (by omega), nA1 p (by omega)]), (by
                rw [hq, hm, ezp_lp_0 z1 (by omega)]
                exact st1), (by
                rw [hq, hm, ezp_lp_0 z1 (by omega)]
                exact lw1), rfl⟩
  exact ezw_keepE [true, true, true, true, true, false] (L24_3 (0) ⟨by decide, by decide⟩ F1 A1 hS (fun _ _ _ => rfl) (fun _ _ => rfl) (by omega) (⟨(ezp_rk c (ezp_pt c 4) 1) x, rfl, st_1, lw_1⟩))
def ezt_m81_9_1_v1_v1Q (e : Bool × Bool) (F : Nat → Nat → Int) (A : Nat → Int → Int) (c : Int → Int) (n : Int) (x : ezp_X) : Option ezq_V → (Nat → ezq_C) → Prop := fun v g' => ∃ (F' : Nat → Nat → Int) (A' : Nat → Int → Int), ezu_g e F' A' = g' ∧ ezs_T F' A' ∧ (∀ p j, ¬ (p = 1 ∧ (j = 3 ∨ j = 4 ∨ j = 5 ∨ j = 6 ∨ j = 7 ∨ j = 8 ∨ j = 9) ∨ p = 9 ∧ (j = 4)) → F' p j = F p j) ∧ (∀ p, ¬ (p = 10) → A' p = A p) ∧ (ezt_ST c n (ezp_rk c (ezp_pt c 4) 3 x).1 F') ∧ (ezt_LW 9 (ezp_rk c (ezp_pt c 4) 3 x).2 F' A') ∧ none = v
theorem ezt_m81_9_1_v1_v1 {c : Int → Int} {n : Int} {x : ezp_X} {F : Nat → Nat → Int} {A : Nat → Int → Int} (hS : ezs_T F A) (hd : 33 ≤ d) (hn : F 1 2 = n) (hc : c = ezp_ch (A 2) n) (tp : ezp_tp c n) (hw : ∀ j, 0 ≤ j → j < 48 → A 3 j = ezl_cw.getD j.toNat 0) (st : ezt_ST c n x.1 F) (lw : ezt_LW 9 x.2 F A) : ezw_C l ρ B xa Hb D cA 81 d [ezw_p 9, ezw_p 1, ezw_i (1), ezw_i (1)] (ezu_g e F A) (ezt_m81_9_1_v1_v1Q e F A c n x) := by
  refine ezw_met (k := 2) rfl rfl ?_
  refine ezw_iload_n rfl rfl ?_
  refine ezw_iconst (4) rfl rfl ?_
  refine ezw_icmp_lt rfl rfl ⟨by decide, by decide⟩ ⟨by decide, by decide⟩ (fun h2_0 => ?_) (fun h2_0 => absurd h2_0 (by omega))
  refine ezw_aload_n rfl rfl ?_
  refine ezw_aload_n rfl rfl ?_
  refine ezw_iload_n rfl rfl ?_
  refine ezw_iconst (1) rfl rfl ?_
  refine ezw_iadd (k := (2)) rfl (by omega) ?_
  refine ezw_iload_n rfl rfl ?_
  refine ezw_call0_3 rfl (by omega) (ezu_at rfl) rfl rfl rfl rfl (ezt_m81_9_1_v2_v1 (x := x) hS (by omega) hn hc tp hw st lw) ?_
  rintro _ _ ⟨F1, A1, rfl, hS, nF1, nA1, st_1, lw_1, rfl⟩
  refine ezw_iconst (0) rfl rfl ?_
  refine ezw_istore rfl rfl ?_
  have L24_3 : ∀ c2 : Int, ezw_in c2 → ∀ F_3 : Nat → Nat → Int, ∀ A_3 : Nat → Int → Int, ezs_T F_3 A_3 → (∀ p j, ¬ (p = 1 ∧ (j = 3 ∨ j = 4 ∨ j = 5 ∨ j = 6 ∨ j = 7 ∨ j = 8 ∨ j = 9) ∨ p = 9 ∧ (j = 4)) → F_3 p j = F1 p j) → (∀ p, ¬ (p = 10) → A_3 p = A1 p) → ((0) ≤ c2) → (∃ x1, ezp_rk c (ezp_pt c 4) 3 x = ezp_lp c 1 (ezp_rk c (ezp_pt c 4) 2) (1000 - c2).toNat x1 ∧ ezt_ST c n x1.1 F_3 ∧ ezt_LW 9 x1.2 F_3 A_3) → ezw_E l ρ B xa Hb D cA d ezq_re81 (ezt_m81_9_1_v1_v1Q e F A c n x) 24 [some (ezw_p 9), some (ezw_p 1), some (ezw_i (1)), some (ezw_i (1)), some (ezw_i c2), none] [] (ezu_g e F_3 A_3) := by
    refine ezs_up ?_
    intro c2 hc2 ihc2 F_3 A_3 hS nF_3 nA_3 g_3 iv_3
    obtain ⟨x1, hq, st1, lw1⟩ := iv_3
    have hs1 := st1.1
    refine ezw_iload rfl rfl ?_
    refine ezw_sipush (1000) rfl rfl ?_
    refine ezw_icmp_ge rfl rfl hc2 ⟨by decide, by decide⟩ (fun h29_3 => ?_) (fun h29_3 => ?_)
    · exact ezw_return rfl rfl ⟨F_3, A_3, rfl, hS, (fun p j h => by rw [nF_3 p j (by omega), nF1 p j (by omega)]), (fun p h => by
            funext j
            rw [nA_3 p (by omega), nA1 p (by omega)]), (by
            rw [hq, show (1000 - c2).toNat = 0 by omega]
            exact st1), (by
            rw [hq, show (1000 - c2).toNat = 0 by omega]
            exact lw1), rfl⟩
    · refine ezw_aload_n rfl rfl ?_
      refine ezw_call0_0 rfl (by omega) (ezu_at rfl) rfl rfl rfl rfl (ezt_m45_1 hS (by omega)) ?_
      rintro _ _ ⟨rfl, u5, hu5, p4_0, p4_1, rfl⟩
      refine ezw_if_eq rfl rfl ⟨by omega, by omega⟩ (fun h36_5 => ?_) (fun h36_5 => ?_)
      · exact ezw_return rfl rfl ⟨F_3, A_3, rfl, hS, (fun p j h => by rw [nF_3 p j (by omega), nF1 p j (by omega)]), (fun p h => by
              funext j
              rw [nA_3 p (by omega), nA1 p (by omega)]), (by
              rw [hq, ezp_lp_n (by have h8 := p4_1 (by omega); omega)]
              exact st1), (by
              rw [hq, ezp_lp_n (by have h8 := p4_1 (by omega); omega)]
              exact lw1), rfl⟩
      · have z1 : x1.1.1 = 0 := by have h0 := p4_0 (by omega); omega
        have k3 := (st1.2.2.1 z1).2.2.1
        have hm : (1000 - c2).toNat = (1000 - (c2 + 1)).toNat + 1 := by omega
        refine ezw_aload_n rfl rfl ?_
        refine ezy_get_i hS rfl rfl rfl rfl rfl rfl (fun u6 hu6 ku6 eu6 => ?_)
        replace eu6 := eu6.symm
        subst eu6
        refine ezw_iload_n rfl rfl ?_
        refine ezw_call2_2 rfl (by omega) rfl rfl (ezt_m84_v1 hS (by omega) hu6) ?_
        rintro _ _ ⟨rfl, u8, hu8, v_7, rfl⟩
        refine ezw_istore rfl rfl ?_
        have eo : u8 = ezp_op (ezp_K c x1.1.2) 1 := by rw [← k3]; exact v_7
        refine ezw_iload rfl rfl ?_
        refine ezw_if_ne rfl rfl hu8 (fun h51_8 => ?_) (fun h51_8 => ?_)
        · refine ezw_aload_n rfl rfl ?_
          refine ezw_call0_0 rfl (by omega) (ezu_at rfl) rfl rfl rfl rfl (ezt_take hS (by omega) (by rw [nF_3 1 2 (by decide), nF1 1 2 (by decide)]; exact hn) (by rw [nA_3 2 (by decide), nA1 2 (by decide)]; exact hc) tp (by rw [nA_3 3 (by decide), nA1 3 (by decide)]; exact hw) st1) ?_
          rintro _ _ ⟨F9, rfl, hS, nF9, st_9, rfl⟩
          refine ezw_aload_n rfl rfl ?_
          refine ezw_aload_n rfl rfl ?_
          refine ezw_iload_n rfl rfl ?_
          refine ezw_iconst (1) rfl rfl ?_
          refine ezw_iadd (k := (2)) rfl (by omega) ?_
          refine ezw_iload_n rfl rfl ?_
          refine ezw_call0_3 rfl (by omega) (ezu_at rfl) rfl rfl rfl rfl (ezt_m81_9_1_v2_v1 (x := (ezp_t x1.1, x1.2)) hS (by omega) (by rw [nF9 1 2 (by decide), nF_3 1 2 (by decide), nF1 1 2 (by decide)]; exact hn) (by rw [nA_3 2 (by decide), nA1 2 (by decide)]; exact hc) tp (by rw [nA_3 3 (by decide), nA1 3 (by decide)]; exact hw) st_9 (ezt_LW_fr (F' := F9) (A' := A_3) lw1 (by rw [nF9 9 4 (by decide)]) rfl)) ?_
          rintro _ _ ⟨F10, A10, rfl, hS, nF10, nA10, st_10, lw_10, rfl⟩
          refine ezw_aload_n rfl rfl ?_
          refine ezw_iload rfl rfl ?_
          refine ezw_call0_1 rfl (by omega) (ezu_at rfl) rfl rfl rfl rfl (ezt_m83_9 hS (by omega) hu8 lw_10) ?_
          rintro _ _ ⟨F11, A11, rfl, hS, nF11, nA11, lw_11, rfl⟩
          refine ezw_iload_n rfl rfl ?_
          refine ezw_iconst (1) rfl rfl ?_
          refine ezw_icmp_ne rfl rfl ⟨by decide, by decide⟩ ⟨by decide, by decide⟩ (fun h76_11 => absurd h76_11 (by omega)) (fun h76_11 => ?_)
          exact ezw_return rfl rfl ⟨F11, A11, rfl, hS, (fun p j h => by rw [nF11 p j (by omega), nF10 p j (by omega), nF9 p j (by omega), nF_3 p j (by omega), nF1 p j (by omega)]), (fun p h => by
                funext j
                rw [nA11 p (by omega), nA10 p (by omega), nA_3 p (by omega), nA1 p (by omega)]), (by
                rw [hq, hm, ezp_lp_1 z1 (by omega) (by decide)]
                exact (ezt_ST_fr st_10 (fun j j0 j1 => by rw [nF11 1 j (by omega)]))), (by
                rw [hq, hm, ezp_lp_1 z1 (by omega) (by decide)]
                exact (by have h7 := lw_11; rw [eo] at h7; exact h7)), rfl⟩
        · exact ezw_return rfl rfl ⟨F_3, A_3, rfl, hS, (fun p j h => by rw [nF_3 p j (by omega), nF1 p j (by omega)]), (fun p h => by
                funext j
                rw [nA_3 p (by omega), nA1 p (by omega)]), (by
                rw [hq, hm, ezp_lp_0 z1 (by omega)]
                exact st1), (by
                rw [hq, hm, ezp_lp_0 z1 (by omega)]
                exact lw1), rfl⟩
  exact ezw_keepE [true, true, true, true, true, false] (L24_3 (0) ⟨by decide, by decide⟩ F1 A1 hS (fun _ _ _ => rfl) (fun _ _ => rfl) (by omega) (⟨(ezp_rk c (ezp_pt c 4) 2) x, rfl, st_1, lw_1⟩))
def ezt_m81_9_1_v0_v1Q (e : Bool × Bool) (F : Nat → Nat → Int) (A : Nat → Int → Int) (c : Int → Int) (n : Int) (x : ezp_X) : Option ezq_V → (Nat → ezq_C) → Prop := fun v g' => ∃ (F' : Nat → Nat → Int) (A' : Nat → Int → Int), ezu_g e F' A' = g' ∧ ezs_T F' A' ∧ (∀ p j, ¬ (p = 1 ∧ (j = 3 ∨ j = 4 ∨ j = 5 ∨ j = 6 ∨ j = 7 ∨ j = 8 ∨ j = 9) ∨ p = 9 ∧ (j = 4)) → F' p j = F p j) ∧ (∀ p, ¬ (p = 10) → A' p = A p) ∧ (ezt_ST c n (ezp_rk c (ezp_pt c 4) 4 x).1 F') ∧ (ezt_LW 9 (ezp_rk c (ezp_pt c 4) 4 x).2 F' A') ∧ none = v
theorem ezt_m81_9_1_v0_v1 {c : Int → Int} {n : Int} {x : ezp_X} {F : Nat → Nat → Int} {A : Nat → Int → Int} (hS : ezs_T F A) (hd : 34 ≤ d) (hn : F 1 2 = n) (hc : c = ezp_ch (A 2) n) (tp : ezp_tp c n) (hw : ∀ j, 0 ≤ j → j < 48 → A 3 j = ezl_cw.getD j.toNat 0) (st : ezt_ST c n x.1 F) (lw : ezt_LW 9 x.2 F A) : ezw_C l ρ B xa Hb D cA 81 d [ezw_p 9, ezw_p 1, ezw_i (0), ezw_i (1)] (ezu_g e F A) (ezt_m81_9_1_v0_v1Q e F A c n x) := by
  refine ezw_met (k := 2) rfl rfl ?_
  refine ezw_iload_n rfl rfl ?_
  refine ezw_iconst (4) rfl rfl ?_
  refine ezw_icmp_lt rfl rfl ⟨by decide, by decide⟩ ⟨by decide, by decide⟩ (fun h2_0 => ?_) (fun h2_0 => absurd h2_0 (by omega))
  refine ezw_aload_n rfl rfl ?_
  refine ezw_aload_n rfl rfl ?_
  refine ezw_iload_n rfl rfl ?_
  refine ezw_iconst (1) rfl rfl ?_
  refine ezw_iadd (k := (1)) rfl (by omega) ?_
  refine ezw_iload_n rfl rfl ?_
  refine ezw_call0_3 rfl (by omega) (ezu_at rfl) rfl rfl rfl rfl (ezt_m81_9_1_v1_v1 (x := x) hS (by omega) hn hc tp hw st lw) ?_
  rintro _ _ ⟨F1, A1, rfl, hS, nF1, nA1, st_1, lw_1, rfl⟩
  refine ezw_iconst (0) rfl rfl ?_
  refine ezw_istore rfl rfl ?_
  have L24_3 : ∀ c2 : Int, ezw_in c2 → ∀ F_3 : Nat → Nat → Int, ∀ A_3 : Nat → Int → Int, ezs_T F_3 A_3 → (∀ p j, ¬ (p = 1 ∧ (j = 3 ∨ j = 4 ∨ j = 5 ∨ j = 6 ∨ j = 7 ∨ j = 8 ∨ j = 9) ∨ p = 9 ∧ (j = 4)) → F_3 p j = F1 p j) → (∀ p, ¬ (p = 10) → A_3 p = A1 p) → ((0) ≤ c2) → (∃ x1, ezp_rk c (ezp_pt c 4) 4 x = ezp_lp c 0 (ezp_rk c (ezp_pt c 4) 3) (1000 - c2).toNat x1 ∧ ezt_ST c n x1.1 F_3 ∧ ezt_LW 9 x1.2 F_3 A_3) → ezw_E l ρ B xa Hb D cA d ezq_re81 (ezt_m81_9_1_v0_v1Q e F A c n x) 24 [some (ezw_p 9), some (ezw_p 1), some (ezw_i (0)), some (ezw_i (1)), some (ezw_i c2), none] [] (ezu_g e F_3 A_3) := by
    refine ezs_up ?_
    intro c2 hc2 ihc2 F_3 A_3 hS nF_3 nA_3 g_3 iv_3
    obtain ⟨x1, hq, st1, lw1⟩ := iv_3
    have hs1 := st1.1
    refine ezw_iload rfl rfl ?_
    refine ezw_sipush (1000) rfl rfl ?_
    refine ezw_icmp_ge rfl rfl hc2 ⟨by decide, by decide⟩ (fun h29_3 => ?_) (fun h29_3 => ?_)
    · exact ezw_return rfl rfl ⟨F_3, A_3, rfl, hS, (fun p j h => by rw [nF_3 p j (by omega), nF1 p j (by omega)]), (fun p h => by
            funext j
            rw [nA_3 p (by omega), nA1 p (by omega)]), (by
            rw [hq, show (1000 - c2).toNat = 0 by omega]
            exact st1), (by
            rw [hq, show (1000 - c2).toNat = 0 by omega]
            exact lw1), rfl⟩
    · refine ezw_aload_n rfl rfl ?_
      refine ezw_call0_0 rfl (by omega) (ezu_at rfl) rfl rfl rfl rfl (ezt_m45_1 hS (by omega)) ?_
      rintro _ _ ⟨rfl, u5, hu5, p4_0, p4_1, rfl⟩
      refine ezw_if_eq rfl rfl ⟨by omega, by omega⟩ (fun h36_5 => ?_) (fun h36_5 => ?_)
      · exact ezw_return rfl rfl ⟨F_3, A_3, rfl, hS, (fun p j h => by rw [nF_3 p j (by omega), nF1 p j (by omega)]), (fun p h => by
              funext j
              rw [nA_3 p (by omega), nA1 p (by omega)]), (by
              rw [hq, ezp_lp_n (by have h8 := p4_1 (by omega); omega)]
              exact st1), (by
              rw [hq, ezp_lp_n (by have h8 := p4_1 (by omega); omega)]
              exact lw1), rfl⟩
      · have z1 : x1.1.1 = 0 := by have h0 := p4_0 (by omega); omega
        have k3 := (st1.2.2.1 z1).2.2.1
        have hm : (1000 - c2).toNat = (1000 - (c2 + 1)).toNat + 1 := by omega
        refine ezw_aload_n rfl rfl ?_
        refine ezy_get_i hS rfl rfl rfl rfl rfl rfl (fun u6 hu6 ku6 eu6 => ?_)
        replace eu6 := eu6.symm
        subst eu6
        refine ezw_iload_n rfl rfl ?_
        refine ezw_call2_2 rfl (by omega) rfl rfl (ezt_m84_v0 hS (by omega) hu6) ?_
        rintro _ _ ⟨rfl, u8, hu8, v_7, rfl⟩
        refine ezw_istore rfl rfl ?_
        have eo : u8 = ezp_op (ezp_K c x1.1.2) 0 := by rw [← k3]; exact v_7
        refine ezw_iload rfl rfl ?_
        refine ezw_if_ne rfl rfl hu8 (fun h51_8 => ?_) (fun h51_8 => ?_)
        · refine ezw_aload_n rfl rfl ?_
          refine ezw_call0_0 rfl (by omega) (ezu_at rfl) rfl rfl rfl rfl (ezt_take hS (by omega) (by rw [nF_3 1 2 (by decide), nF1 1 2 (by decide)]; exact hn) (by rw [nA_3 2 (by decide), nA1 2 (by decide)]; exact hc) tp (by rw [nA_3 3 (by decide), nA1 3 (by decide)]; exact hw) st1) ?_
          rintro _ _ ⟨F9, rfl, hS, nF9, st_9, rfl⟩
          refine ezw_aload_n rfl rfl ?_
          refine ezw_aload_n rfl rfl ?_
          refine ezw_iload_n rfl rfl ?_
          refine ezw_iconst (1) rfl rfl ?_
          refine ezw_iadd (k := (1)) rfl (by omega) ?_
          refine ezw_iload_n rfl rfl ?_
          refine ezw_call0_3 rfl (by omega) (ezu_at rfl) rfl rfl rfl rfl (ezt_m81_9_1_v1_v1 (x := (ezp_t x1.1, x1.2)) hS (by omega) (by rw [nF9 1 2 (by decide), nF_3 1 2 (by decide), nF1 1 2 (by decide)]; exact hn) (by rw [nA_3 2 (by decide), nA1 2 (by decide)]; exact hc) tp (by rw [nA_3 3 (by decide), nA1 3 (by decide)]; exact hw) st_9 (ezt_LW_fr (F' := F9) (A' := A_3) lw1 (by rw [nF9 9 4 (by decide)]) rfl)) ?_
          rintro _ _ ⟨F10, A10, rfl, hS, nF10, nA10, st_10, lw_10, rfl⟩
          refine ezw_aload_n rfl rfl ?_
          refine ezw_iload rfl rfl ?_
          refine ezw_call0_1 rfl (by omega) (ezu_at rfl) rfl rfl rfl rfl (ezt_m83_9 hS (by omega) hu8 lw_10) ?_
          rintro _ _ ⟨F11, A11, rfl, hS, nF11, nA11, lw_11, rfl⟩
          refine ezw_iload_n rfl rfl ?_
          refine ezw_iconst (1) rfl rfl ?_
          refine ezw_icmp_ne rfl rfl ⟨by decide, by decide⟩ ⟨by decide, by decide⟩ (fun h76_11 => ?_) (fun h76_11 => absurd h76_11 (by omega))
          refine ezw_iinc (k := c2 + 1) (1) rfl rfl rfl (by omega) rfl ?_
          refine ezw_goto rfl rfl ?_
          exact ezw_keepE [true, true, true, true, true, false] (ihc2 (c2 + 1) (by omega) ⟨by omega, by omega⟩ F11 A11 hS (fun p j h => by rw [nF11 p j (by omega), nF10 p j (by omega), nF9 p j (by omega), nF_3 p j (by omega)]) (fun p h => by
                funext j
                rw [nA11 p (by omega), nA10 p (by omega), nA_3 p (by omega)]) (by omega) (⟨ezp_l1 c 0 (ezp_rk c (ezp_pt c 4) 3) x1, (by rw [hq, hm, ezp_lp_s z1 (by omega) (by decide), show (1000 - (c2 + 1)).toNat = (1000 - (c2 + 1)).toNat by omega]), (ezt_ST_fr st_10 (fun j j0 j1 => by rw [nF11 1 j (by omega)])), (by have h7 := lw_11; rw [eo] at h7; exact h7)⟩))
        · exact ezw_return rfl rfl ⟨F_3, A_3, rfl, hS, (fun p j h => by rw [nF_3 p j (by omega), nF1 p j (by omega)]), (fun p h => by
                funext j
                rw [nA_3 p (by omega), nA1 p (by omega)]), (by
                rw [hq, hm, ezp_lp_0 z1 (by omega)]
                exact st1), (by
                rw [hq, hm, ezp_lp_0 z1 (by omega)]
                exact lw1), rfl⟩
  exact ezw_keepE [true, true, true, true, true, false] (L24_3 (0) ⟨by decide, by decide⟩ F1 A1 hS (fun _ _ _ => rfl) (fun _ _ => rfl) (by omega) (⟨(ezp_rk c (ezp_pt c 4) 3) x, rfl, st_1, lw_1⟩))
def ezt_m82_9_1_v0Q (e : Bool × Bool) (F : Nat → Nat → Int) (A : Nat → Int → Int) (c : Int → Int) (n : Int) (x : ezp_X) : Option ezq_V → (Nat → ezq_C) → Prop := fun v g' => ∃ (F' : Nat → Nat → Int) (A' : Nat → Int → Int), ezu_g e F' A' = g' ∧ ezs_T F' A' ∧ (∀ p j, ¬ (p = 1 ∧ (j = 3 ∨ j = 4 ∨ j = 5 ∨ j = 6 ∨ j = 7 ∨ j = 8 ∨ j = 9) ∨ p = 9 ∧ (j = 4)) → F' p j = F p j) ∧ (∀ p, ¬ (p = 10) → A' p = A p) ∧ (ezt_ST c n (ezp_pt c 5 x).1 F') ∧ (ezt_LW 9 (ezp_pt c 5 x).2 F' A') ∧ none = v
theorem ezt_m82_9_1_v0 {c : Int → Int} {n : Int} {x : ezp_X} {F : Nat → Nat → Int} {A : Nat → Int → Int} (hS : ezs_T F A) (hd : 35 ≤ d) (hn : F 1 2 = n) (hc : c = ezp_ch (A 2) n) (tp : ezp_tp c n) (hw : ∀ j, 0 ≤ j → j < 48 → A 3 j = ezl_cw.getD j.toNat 0) (st : ezt_ST c n x.1 F) (lw : ezt_LW 9 x.2 F A) : ezw_C l ρ B xa Hb D cA 82 d [ezw_p 9, ezw_p 1, ezw_i (0)] (ezu_g e F A) (ezt_m82_9_1_v0Q e F A c n x) := by
  refine ezw_met (k := 2) rfl rfl ?_
  have hn0 := tp.1
  have hn1 := tp.2.1
  obtain ⟨sf, sk, sc, sb, sb2⟩ := id st
  have hP := ezp_Pr tp x.1.2
  have c3i : x.1.1 = 0 → F 1 3 = ezp_K c x.1.2 := fun z => (sc z).2.2.1
  have c8i : x.1.1 = 0 → F 1 8 = ezp_P c x.1.2 := fun z => (sc z).1
  have c4i : x.1.1 = 0 → ezp_K c x.1.2 = 101 → F 1 4 = ezp_V c x.1.2 := fun z => (sc z).2.2.2.1
  have c7i : x.1.1 = 0 → ezp_K c x.1.2 = 100 → F 1 7 = ezp_v 32 (ezp_W c x.1.2) ∧ F 1 5 = ezp_ix (ezp_W c x.1.2) - 44 := fun z => (sc z).2.2.2.2
  refine ezw_aload_n rfl rfl ?_
  refine ezw_bipush (100) rfl rfl ?_
  refine ezw_call0_1 rfl (by omega) (ezu_at rfl) rfl rfl rfl rfl (ezt_m46_1 hS (by omega) ⟨by decide, by decide⟩ hn hc tp st) ?_
  rintro _ _ ⟨rfl, u2, hu2, p1_0, p1_1, rfl⟩
  have J21_4 : ∀ y3 : Int, ezw_in y3 → (y3 = 1 ∧ (x.1.1 = 0 ∧ ezp_K c x.1.2 = 100 ∧ 0 ≤ ezp_ix (ezp_W c x.1.2) - 44) ∨ y3 = 0 ∧ ¬ (x.1.1 = 0 ∧ ezp_K c x.1.2 = 100 ∧ 0 ≤ ezp_ix (ezp_W c x.1.2) - 44)) → ezw_E l ρ B xa Hb D cA d ezq_re82 (ezt_m82_9_1_v0Q e F A c n x) 21 [some (ezw_p 9), some (ezw_p 1), some (ezw_i (0)), none, none] [ezw_i y3] (ezu_g e F A) := by
    intro y3 hy3 jf_4
    refine ezw_istore_n rfl rfl ?_
    refine ezw_iload_n rfl rfl ?_
    have J59_6 : ∀ y5 : Int, ezw_in y5 → (y5 = 1 ∧ ((x.1.1 = 0 ∧ ezp_K c x.1.2 = 100 ∧ 0 ≤ ezp_ix (ezp_W c x.1.2) - 44) ∨ x.1.1 = 0 ∧ (ezp_K c x.1.2 = 101 ∨ ezp_K c x.1.2 = 41 ∨ ezp_K c x.1.2 = 240)) ∨ y5 = 0 ∧ ¬ ((x.1.1 = 0 ∧ ezp_K c x.1.2 = 100 ∧ 0 ≤ ezp_ix (ezp_W c x.1.2) - 44) ∨ x.1.1 = 0 ∧ (ezp_K c x.1.2 = 101 ∨ ezp_K c x.1.2 = 41 ∨ ezp_K c x.1.2 = 240))) → ezw_E l ρ B xa Hb D cA d ezq_re82 (ezt_m82_9_1_v0Q e F A c n x) 59 [some (ezw_p 9), some (ezw_p 1), some (ezw_i (0)), some (ezw_i y3), none] [ezw_i y5] (ezu_g e F A) := by
      intro y5 hy5 jp_6
      refine ezw_istore rfl rfl ?_
      refine ezw_iload rfl rfl ?_
      refine ezw_if_eq rfl rfl hy5 (fun h63_6 => ?_) (fun h63_6 => ?_)
      · refine ezw_aload_n rfl rfl ?_
        refine ezw_iload rfl rfl ?_
        refine ezw_if_eq rfl rfl hy5 (fun h74_6 => ?_) (fun h74_6 => ?_)
        · refine ezw_iconst (1) rfl rfl ?_
          refine ezw_call0_1 rfl (by omega) (ezu_at rfl) rfl rfl rfl rfl (ezt_m50_1 hS (by omega) ⟨by decide, by decide⟩ hn hc tp st (by omega)) ?_
          rintro _ _ ⟨F7, rfl, hS, nF7, st_7, rfl⟩
          refine ezw_goto rfl rfl ?_
          exact ezw_return rfl rfl ⟨F7, A, rfl, hS, (fun p j h => by rw [nF7 p j (by omega)]), (fun _ _ => rfl), (by
                first
                  | (exfalso; omega)
                  | (rw [ezp_pt_s]
                     repeat (first | rw [if_pos (by omega)] | rw [if_neg (by omega)])
                     exact st_7)), (by
                first
                  | (exfalso; omega)
                  | (rw [ezp_pt_s]
                     repeat (first | rw [if_pos (by omega)] | rw [if_neg (by omega)])
                     exact (ezt_LW_fr (F' := F7) (A' := A) lw (by rw [nF7 9 4 (by decide)]) rfl))), rfl⟩
        · refine ezw_iconst (5) rfl rfl ?_
          refine ezw_goto rfl rfl ?_
          refine ezw_call0_1 rfl (by omega) (ezu_at rfl) rfl rfl rfl rfl (ezt_m50_1 hS (by omega) ⟨by decide, by decide⟩ hn hc tp st (by omega)) ?_
          rintro _ _ ⟨F8, rfl, hS, nF8, st_8, rfl⟩
          refine ezw_goto rfl rfl ?_
          exact ezw_return rfl rfl ⟨F8, A, rfl, hS, (fun p j h => by rw [nF8 p j (by omega)]), (fun _ _ => rfl), (by
                first
                  | (exfalso; omega)
                  | (rw [ezp_pt_s]
                     repeat (first | rw [if_pos (by omega)] | rw [if_neg (by omega)])
                     exact st_8)), (by
                first
                  | (exfalso; omega)
                  | (rw [ezp_pt_s]
                     repeat (first | rw [if_pos (by omega)] | rw [if_neg (by omega)])
                     exact (ezt_LW_fr (F' := F8) (A' := A) lw (by rw [nF8 9 4 (by decide)]) rfl))), rfl⟩
      · refine ezw_iload_n rfl rfl ?_
        refine ezw_iconst (5) rfl rfl ?_
        refine ezw_icmp_lt rfl rfl ⟨by decide, by decide⟩ ⟨by decide, by decide⟩ (fun h68_8 => ?_) (fun h68_8 => absurd h68_8 (by omega))
        refine ezw_iload_n rfl rfl ?_
        refine ezw_if_eq rfl rfl hy3 (fun h89_8 => ?_) (fun h89_8 => ?_)
        · refine ezw_aload_n rfl rfl ?_
          refine ezw_bipush (101) rfl rfl ?_
          refine ezw_call0_1 rfl (by omega) (ezu_at rfl) rfl rfl rfl rfl (ezt_m46_1 hS (by omega) ⟨by decide, by decide⟩ hn hc tp st) ?_
          rintro _ _ ⟨rfl, u10, hu10, p9_0, p9_1, rfl⟩
          refine ezw_if_eq rfl rfl ⟨by omega, by omega⟩ (fun h115_10 => ?_) (fun h115_10 => ?_)
          · refine ezw_aload_n rfl rfl ?_
            refine ezw_bipush (41) rfl rfl ?_
            refine ezw_call0_1 rfl (by omega) (ezu_at rfl) rfl rfl rfl rfl (ezt_m46_1 hS (by omega) ⟨by decide, by decide⟩ hn hc tp st) ?_
            rintro _ _ ⟨rfl, u12, hu12, p11_0, p11_1, rfl⟩
            refine ezw_if_eq rfl rfl ⟨by omega, by omega⟩ (fun h139_12 => ?_) (fun h139_12 => ?_)
            · refine ezw_aload_n rfl rfl ?_
              refine ezw_call0_0 rfl (by omega) (ezu_at rfl) rfl rfl rfl rfl (ezt_take hS (by omega) hn hc tp hw st) ?_
              rintro _ _ ⟨F13, rfl, hS, nF13, st_13, rfl⟩
              refine ezw_aload_n rfl rfl ?_
              refine ezw_aload_n rfl rfl ?_
              refine ezw_iconst (0) rfl rfl ?_
              refine ezw_iload_n rfl rfl ?_
              refine ezw_iconst (1) rfl rfl ?_
              refine ezw_iadd (k := (1)) rfl (by omega) ?_
              refine ezw_call0_3 rfl (by omega) (ezu_at rfl) rfl rfl rfl rfl (ezt_m81_9_1_v0_v1 (x := (ezp_t x.1, x.2)) hS (by omega) (by rw [nF13 1 2 (by decide)]; exact hn) hc tp hw st_13 (ezt_LW_fr (F' := F13) (A' := A) lw (by rw [nF13 9 4 (by decide)]) rfl)) ?_
              rintro _ _ ⟨F14, A14, rfl, hS, nF14, nA14, st_14, lw_14, rfl⟩
              refine ezw_aload_n rfl rfl ?_
              refine ezw_sipush (241) rfl rfl ?_
              refine ezw_call0_1 rfl (by omega) (ezu_at rfl) rfl rfl rfl rfl (ezt_m46_1 hS (by omega) ⟨by decide, by decide⟩ (by rw [nF14 1 2 (by decide), nF13 1 2 (by decide)]; exact hn) (by rw [nA14 2 (by decide)]; exact hc) tp st_14) ?_
              rintro _ _ ⟨rfl, u16, hu16, p15_0, p15_1, rfl⟩
              refine ezw_if_eq rfl rfl ⟨by omega, by omega⟩ (fun h183_16 => ?_) (fun h183_16 => ?_)
              · refine ezw_aload_n rfl rfl ?_
                refine ezw_iconst (1) rfl rfl ?_
                refine ezw_call0_1 rfl (by omega) (ezu_at rfl) rfl rfl rfl rfl (ezt_m50_1 hS (by omega) ⟨by decide, by decide⟩ (by rw [nF14 1 2 (by decide), nF13 1 2 (by decide)]; exact hn) (by rw [nA14 2 (by decide)]; exact hc) tp st_14 (by omega)) ?_
                rintro _ _ ⟨F17, rfl, hS, nF17, st_17, rfl⟩
                exact ezw_return rfl rfl ⟨F17, A14, rfl, hS, (fun p j h => by rw [nF17 p j (by omega), nF14 p j (by omega), nF13 p j (by omega)]), (fun p h => by
                      funext j
                      rw [nA14 p (by omega)]), (by
                      first
                        | (exfalso; omega)
                        | (rw [ezp_pt_s]
                           repeat (first | rw [if_pos (by omega)] | rw [if_neg (by omega)])
                           show ezt_ST c n (ezp_cl c _) _
                           unfold ezp_cl
                           rw [if_neg (fun z => (p15_1 (by omega)).elim (fun y => y z.1) (fun y => y z.2))]
                           exact st_17)), (by
                      first
                        | (exfalso; omega)
                        | (rw [ezp_pt_s]
                           repeat (first | rw [if_pos (by omega)] | rw [if_neg (by omega)])
                           exact (ezt_LW_fr (F' := F17) (A' := A14) lw_14 (by rw [nF17 9 4 (by decide)]) rfl))), rfl⟩
              · refine ezw_aload_n rfl rfl ?_
                refine ezw_call0_0 rfl (by omega) (ezu_at rfl) rfl rfl rfl rfl (ezt_take hS (by omega) (by rw [nF14 1 2 (by decide), nF13 1 2 (by decide)]; exact hn) (by rw [nA14 2 (by decide)]; exact hc) tp (by rw [nA14 3 (by decide)]; exact hw) st_14) ?_
                rintro _ _ ⟨F18, rfl, hS, nF18, st_18, rfl⟩
                refine ezw_goto rfl rfl ?_
                exact ezw_return rfl rfl ⟨F18, A14, rfl, hS, (fun p j h => by rw [nF18 p j (by omega), nF14 p j (by omega), nF13 p j (by omega)]), (fun p h => by
                      funext j
                      rw [nA14 p (by omega)]), (by
                      first
                        | (exfalso; omega)
                        | (rw [ezp_pt_s]
                           repeat (first | rw [if_pos (by omega)] | rw [if_neg (by omega)])
                           show ezt_ST c n (ezp_cl c _) _
                           unfold ezp_cl
                           rw [if_pos (p15_0 (by omega))]
                           exact st_18)), (by
                      first
                        | (exfalso; omega)
                        | (rw [ezp_pt_s]
                           repeat (first | rw [if_pos (by omega)] | rw [if_neg (by omega)])
                           exact (ezt_LW_fr (F' := F18) (A' := A14) lw_14 (by rw [nF18 9 4 (by decide)]) rfl))), rfl⟩
            · refine ezw_aload_n rfl rfl ?_
              refine ezw_call0_0 rfl (by omega) (ezu_at rfl) rfl rfl rfl rfl (ezt_take hS (by omega) hn hc tp hw st) ?_
              rintro _ _ ⟨F19, rfl, hS, nF19, st_19, rfl⟩
              refine ezw_aload_n rfl rfl ?_
              refine ezw_aload_n rfl rfl ?_
              refine ezw_iload_n rfl rfl ?_
              refine ezw_iconst (1) rfl rfl ?_
              refine ezw_iadd (k := (1)) rfl (by omega) ?_
              refine ezw_call0_2 rfl (by omega) (ezu_at rfl) rfl rfl rfl rfl (ezt_m82_9_1_v1 (x := (ezp_t x.1, x.2)) hS (by omega) (by rw [nF19 1 2 (by decide)]; exact hn) hc tp hw st_19 (ezt_LW_fr (F' := F19) (A' := A) lw (by rw [nF19 9 4 (by decide)]) rfl)) ?_
              rintro _ _ ⟨F20, A20, rfl, hS, nF20, nA20, st_20, lw_20, rfl⟩
              refine ezw_aload_n rfl rfl ?_
              refine ezw_bipush (-5) rfl rfl ?_
              refine ezw_call0_1 rfl (by omega) (ezu_at rfl) rfl rfl rfl rfl (ezt_m83_9 hS (by omega) ⟨by decide, by decide⟩ lw_20) ?_
              rintro _ _ ⟨F21, A21, rfl, hS, nF21, nA21, lw_21, rfl⟩
              refine ezw_goto rfl rfl ?_
              exact ezw_return rfl rfl ⟨F21, A21, rfl, hS, (fun p j h => by rw [nF21 p j (by omega), nF20 p j (by omega), nF19 p j (by omega)]), (fun p h => by
                    funext j
                    rw [nA21 p (by omega), nA20 p (by omega)]), (by
                    first
                      | (exfalso; omega)
                      | (rw [ezp_pt_s]
                         repeat (first | rw [if_pos (by omega)] | rw [if_neg (by omega)])
                         exact (ezt_ST_fr st_20 (fun j j0 j1 => by rw [nF21 1 j (by omega)])))), (by
                    first
                      | (exfalso; omega)
                      | (rw [ezp_pt_s]
                         repeat (first | rw [if_pos (by omega)] | rw [if_neg (by omega)])
                         exact lw_21)), rfl⟩
          · refine ezw_aload_n rfl rfl ?_
            refine ezw_aload_n rfl rfl ?_
            refine ezy_get_i hS rfl rfl rfl rfl rfl rfl (fun u22 hu22 ku22 eu22 => ?_)
            replace eu22 := eu22.symm
            subst eu22
            have ru22 : 0 ≤ (F 1 4) ∧ (F 1 4) ≤ 9999 := ku22
            have f4 := c4i (by omega) (by omega)
            refine ezw_call0_1 rfl (by omega) (ezu_at rfl) rfl rfl rfl rfl (ezt_m83_9 hS (by omega) hu22 lw) ?_
            rintro _ _ ⟨F23, A23, rfl, hS, nF23, nA23, lw_23, rfl⟩
            refine ezw_aload_n rfl rfl ?_
            refine ezw_call0_0 rfl (by omega) (ezu_at rfl) rfl rfl rfl rfl (ezt_take hS (by omega) (by rw [nF23 1 2 (by decide)]; exact hn) (by rw [nA23 2 (by decide)]; exact hc) tp (by rw [nA23 3 (by decide)]; exact hw) (ezt_ST_fr st (fun j j0 j1 => by rw [nF23 1 j (by omega)]))) ?_
            rintro _ _ ⟨F24, rfl, hS, nF24, st_24, rfl⟩
            refine ezw_goto rfl rfl ?_
            exact ezw_return rfl rfl ⟨F24, A23, rfl, hS, (fun p j h => by rw [nF24 p j (by omega), nF23 p j (by omega)]), (fun p h => by
                  funext j
                  rw [nA23 p (by omega)]), (by
                  first
                    | (exfalso; omega)
                    | (rw [ezp_pt_s]
                       repeat (first | rw [if_pos (by omega)] | rw [if_neg (by omega)])
                       exact st_24)), (by
                  first
                    | (exfalso; omega)
                    | (rw [ezp_pt_s]
                       repeat (first | rw [if_pos (by omega)] | rw [if_neg (by omega)])
                       have h7 := (ezt_LW_fr (F' := F24) (A' := A23) lw_23 (by rw [nF24 9 4 (by decide)]) rfl)
                       rw [show (F 1 4) = ezp_V c x.1.2 by omega] at h7
                       exact h7)), rfl⟩
        · refine ezw_aload_n rfl rfl ?_
          refine ezw_iconst (-1) rfl rfl ?_
          refine ezw_aload_n rfl rfl ?_
          refine ezy_get_i hS rfl rfl rfl rfl rfl rfl (fun u25 hu25 ku25 eu25 => ?_)
          replace eu25 := eu25.symm
          subst eu25
          refine ezw_isub (k := -(F 1 5) - 1) rfl (by omega) ?_
          have f5 := (c7i (by omega) (by omega)).2
          refine ezw_call0_1 rfl (by omega) (ezu_at rfl) rfl rfl rfl rfl (ezt_m83_9 hS (by omega) ⟨by omega, by omega⟩ lw) ?_
          rintro _ _ ⟨F26, A26, rfl, hS, nF26, nA26, lw_26, rfl⟩
          refine ezw_aload_n rfl rfl ?_
          refine ezw_call0_0 rfl (by omega) (ezu_at rfl) rfl rfl rfl rfl (ezt_take hS (by omega) (by rw [nF26 1 2 (by decide)]; exact hn) (by rw [nA26 2 (by decide)]; exact hc) tp (by rw [nA26 3 (by decide)]; exact hw) (ezt_ST_fr st (fun j j0 j1 => by rw [nF26 1 j (by omega)]))) ?_
          rintro _ _ ⟨F27, rfl, hS, nF27, st_27, rfl⟩
          refine ezw_goto rfl rfl ?_
          exact ezw_return rfl rfl ⟨F27, A26, rfl, hS, (fun p j h => by rw [nF27 p j (by omega), nF26 p j (by omega)]), (fun p h => by
                funext j
                rw [nA26 p (by omega)]), (by
                first
                  | (exfalso; omega)
                  | (rw [ezp_pt_s]
                     repeat (first | rw [if_pos (by omega)] | rw [if_neg (by omega)])
                     exact st_27)), (by
                first
                  | (exfalso; omega)
                  | (rw [ezp_pt_s]
                     repeat (first | rw [if_pos (by omega)] | rw [if_neg (by omega)])
                     have h7 := (ezt_LW_fr (F' := F27) (A' := A26) lw_26 (by rw [nF27 9 4 (by decide)]) rfl)
                     rw [show -(F 1 5) - 1 = -1 - (ezp_ix (ezp_W c x.1.2) - 44) by omega] at h7
                     exact h7)), rfl⟩
    refine ezw_if_ne rfl rfl hy3 (fun h23_4 => ?_) (fun h23_4 => ?_)
    · refine ezw_iconst (1) rfl rfl ?_
      refine ezw_goto rfl rfl ?_
      exact ezw_keepE [true, true, true, true, false] (J59_6 (1) ⟨by decide, by decide⟩ (by omega))
    · refine ezw_aload_n rfl rfl ?_
      refine ezw_bipush (101) rfl rfl ?_
      refine ezw_call0_1 rfl (by omega) (ezu_at rfl) rfl rfl rfl rfl (ezt_m46_1 hS (by omega) ⟨by decide, by decide⟩ hn hc tp st) ?_
      rintro _ _ ⟨rfl, u29, hu29, p28_0, p28_1, rfl⟩
      refine ezw_if_ne rfl rfl ⟨by omega, by omega⟩ (fun h32_29 => ?_) (fun h32_29 => ?_)
      · refine ezw_iconst (1) rfl rfl ?_
        refine ezw_goto rfl rfl ?_
        exact ezw_keepE [true, true, true, true, false] (J59_6 (1) ⟨by decide, by decide⟩ (by omega))
      · refine ezw_aload_n rfl rfl ?_
        refine ezw_bipush (41) rfl rfl ?_
        refine ezw_call0_1 rfl (by omega) (ezu_at rfl) rfl rfl rfl rfl (ezt_m46_1 hS (by omega) ⟨by decide, by decide⟩ hn hc tp st) ?_
        rintro _ _ ⟨rfl, u31, hu31, p30_0, p30_1, rfl⟩
        refine ezw_if_ne rfl rfl ⟨by omega, by omega⟩ (fun h41_31 => ?_) (fun h41_31 => ?_)
        · refine ezw_iconst (1) rfl rfl ?_
          refine ezw_goto rfl rfl ?_
          exact ezw_keepE [true, true, true, true, false] (J59_6 (1) ⟨by decide, by decide⟩ (by omega))
        · refine ezw_aload_n rfl rfl ?_
          refine ezw_sipush (240) rfl rfl ?_
          refine ezw_call0_1 rfl (by omega) (ezu_at rfl) rfl rfl rfl rfl (ezt_m46_1 hS (by omega) ⟨by decide, by decide⟩ hn hc tp st) ?_
          rintro _ _ ⟨rfl, u33, hu33, p32_0, p32_1, rfl⟩
          refine ezw_if_eq rfl rfl ⟨by omega, by omega⟩ (fun h51_33 => ?_) (fun h51_33 => ?_)
          · refine ezw_iconst (0) rfl rfl ?_
            exact ezw_keepE [true, true, true, true, false] (J59_6 (0) ⟨by decide, by decide⟩ (by omega))
          · refine ezw_iconst (1) rfl rfl ?_
            refine ezw_goto rfl rfl ?_
            exact ezw_keepE [true, true, true, true, false] (J59_6 (1) ⟨by decide, by decide⟩ (by omega))
  refine ezw_if_eq rfl rfl ⟨by omega, by omega⟩ (fun h6_2 => ?_) (fun h6_2 => ?_)
  · refine ezw_iconst (0) rfl rfl ?_
    exact ezw_keepE [true, true, true, false, false] (J21_4 (0) ⟨by decide, by decide⟩ (by omega))
  · refine ezw_aload_n rfl rfl ?_
    have f5 := (c7i (p1_0 (by omega)).1 (p1_0 (by omega)).2).2
    refine ezy_get_i hS rfl rfl rfl rfl rfl rfl (fun u34 hu34 ku34 eu34 => ?_)
    replace eu34 := eu34.symm
    subst eu34
    refine ezw_if_lt rfl rfl hu34 (fun h13_34 => ?_) (fun h13_34 => ?_)
    · refine ezw_iconst (0) rfl rfl ?_
      exact ezw_keepE [true, true, true, false, false] (J21_4 (0) ⟨by decide, by decide⟩ (by omega))
    · refine ezw_iconst (1) rfl rfl ?_
      refine ezw_goto rfl rfl ?_
      exact ezw_keepE [true, true, true, false, false] (J21_4 (1) ⟨by decide, by decide⟩ (by omega))
def ezt_m81_9_1_v4_v0Q (e : Bool × Bool) (F : Nat → Nat → Int) (A : Nat → Int → Int) (c : Int → Int) (n : Int) (x : ezp_X) : Option ezq_V → (Nat → ezq_C) → Prop := fun v g' => ∃ (F' : Nat → Nat → Int) (A' : Nat → Int → Int), ezu_g e F' A' = g' ∧ ezs_T F' A' ∧ (∀ p j, ¬ (p = 1 ∧ (j = 3 ∨ j = 4 ∨ j = 5 ∨ j = 6 ∨ j = 7 ∨ j = 8 ∨ j = 9) ∨ p = 9 ∧ (j = 4)) → F' p j = F p j) ∧ (∀ p, ¬ (p = 10) → A' p = A p) ∧ (ezt_ST c n (ezp_rk c (ezp_pt c 5) 0 x).1 F') ∧ (ezt_LW 9 (ezp_rk c (ezp_pt c 5) 0 x).2 F' A') ∧ none = v
theorem ezt_m81_9_1_v4_v0 {c : Int → Int} {n : Int} {x : ezp_X} {F : Nat → Nat → Int} {A : Nat → Int → Int} (hS : ezs_T F A) (hd : 36 ≤ d) (hn : F 1 2 = n) (hc : c = ezp_ch (A 2) n) (tp : ezp_tp c n) (hw : ∀ j, 0 ≤ j → j < 48 → A 3 j = ezl_cw.getD j.toNat 0) (st : ezt_ST c n x.1 F) (lw : ezt_LW 9 x.2 F A) : ezw_C l ρ B xa Hb D cA 81 d [ezw_p 9, ezw_p 1, ezw_i (4), ezw_i (0)] (ezu_g e F A) (ezt_m81_9_1_v4_v0Q e F A c n x) := by
  refine ezw_met (k := 2) rfl rfl ?_
  refine ezw_iload_n rfl rfl ?_
  refine ezw_iconst (4) rfl rfl ?_
  refine ezw_icmp_lt rfl rfl ⟨by decide, by decide⟩ ⟨by decide, by decide⟩ (fun h2_0 => absurd h2_0 (by omega)) (fun h2_0 => ?_)
  refine ezw_aload_n rfl rfl ?_
  refine ezw_aload_n rfl rfl ?_
  refine ezw_iload_n rfl rfl ?_
  refine ezw_call0_2 rfl (by omega) (ezu_at rfl) rfl rfl rfl rfl (ezt_m82_9_1_v0 (x := x) hS (by omega) hn hc tp hw st lw) ?_
  rintro _ _ ⟨F1, A1, rfl, hS, nF1, nA1, st_1, lw_1, rfl⟩
  exact ezw_return rfl rfl ⟨F1, A1, rfl, hS, (fun p j h => by rw [nF1 p j (by omega)]), (fun p h => by
        funext j
        rw [nA1 p (by omega)]), st_1, lw_1, rfl⟩
def ezt_m81_9_1_v3_v0Q (e : Bool × Bool) (F : Nat → Nat → Int) (A : Nat → Int → Int) (c : Int → Int) (n : Int) (x : ezp_X) : Option ezq_V → (Nat → ezq_C) → Prop := fun v g' => ∃ (F' : Nat → Nat → Int) (A' : Nat → Int → Int), ezu_g e F' A' = g' ∧ ezs_T F' A' ∧ (∀ p j, ¬ (p = 1 ∧ (j = 3 ∨ j = 4 ∨ j = 5 ∨ j = 6 ∨ j = 7 ∨ j = 8 ∨ j = 9) ∨ p = 9 ∧ (j = 4)) → F' p j = F p j) ∧ (∀ p, ¬ (p = 10) → A' p = A p) ∧ (ezt_ST c n (ezp_rk c (ezp_pt c 5) 1 x).1 F') ∧ (ezt_LW 9 (ezp_rk c (ezp_pt c 5) 1 x).2 F' A') ∧ none = v
theorem ezt_m81_9_1_v3_v0 {c : Int → Int} {n : Int} {x : ezp_X} {F : Nat → Nat → Int} {A : Nat → Int → Int} (hS : ezs_T F A) (hd : 37 ≤ d) (hn : F 1 2 = n) (hc : c = ezp_ch (A 2) n) (tp : ezp_tp c n) (hw : ∀ j, 0 ≤ j → j < 48 → A 3 j = ezl_cw.getD j.toNat 0) (st : ezt_ST c n x.1 F) (lw : ezt_LW 9 x.2 F A) : ezw_C l ρ B xa Hb D cA 81 d [ezw_p 9, ezw_p 1, ezw_i (3), ezw_i (0)] (ezu_g e F A) (ezt_m81_9_1_v3_v0Q e F A c n x) := by
  refine ezw_met (k := 2) rfl rfl ?_
  refine ezw_iload_n rfl rfl ?_
  refine ezw_iconst (4) rfl rfl ?_
  refine ezw_icmp_lt rfl rfl ⟨by decide, by decide⟩ ⟨by decide, by decide⟩ (fun h2_0 => ?_) (fun h2_0 => absurd h2_0 (by omega))
  refine ezw_aload_n rfl rfl ?_
  refine ezw_aload_n rfl rfl ?_
  refine ezw_iload_n rfl rfl ?_
  refine ezw_iconst (1) rfl rfl ?_
  refine ezw_iadd (k := (4)) rfl (by omega) ?_
  refine ezw_iload_n rfl rfl ?_
  refine ezw_call0_3 rfl (by omega) (ezu_at rfl) rfl rfl rfl rfl (ezt_m81_9_1_v4_v0 (x := x) hS (by omega) hn hc tp hw st lw) ?_
  rintro _ _ ⟨F1, A1, rfl, hS, nF1, nA1, st_1, lw_1, rfl⟩
  refine ezw_iconst (0) rfl rfl ?_
  refine ezw_istore rfl rfl ?_
  have L24_3 : ∀ c2 : Int, ezw_in c2 → ∀ F_3 : Nat → Nat → Int, ∀ A_3 : Nat → Int → Int, ezs_T F_3 A_3 → (∀ p j, ¬ (p = 1 ∧ (j = 3 ∨ j = 4 ∨ j = 5 ∨ j = 6 ∨ j = 7 ∨ j = 8 ∨ j = 9) ∨ p = 9 ∧ (j = 4)) → F_3 p j = F1 p j) → (∀ p, ¬ (p = 10) → A_3 p = A1 p) → ((0) ≤ c2) → (∃ x1, ezp_rk c (ezp_pt c 5) 1 x = ezp_lp c 3 (ezp_rk c (ezp_pt c 5) 0) (1000 - c2).toNat x1 ∧ ezt_ST c n x1.1 F_3 ∧ ezt_LW 9 x1.2 F_3 A_3) → ezw_E l ρ B xa Hb D cA d ezq_re81 (ezt_m81_9_1_v3_v0Q e F A c n x) 24 [some (ezw_p 9), some (ezw_p 1), some (ezw_i (3)), some (ezw_i (0)), some (ezw_i c2), none] [] (ezu_g e F_3 A_3) := by
    refine ezs_up ?_
    intro c2 hc2 ihc2 F_3 A_3 hS nF_3 nA_3 g_3 iv_3
    obtain ⟨x1, hq, st1, lw1⟩ := iv_3
    have hs1 := st1.1
    refine ezw_iload rfl rfl ?_
    refine ezw_sipush (1000) rfl rfl ?_
    refine ezw_icmp_ge rfl rfl hc2 ⟨by decide, by decide⟩ (fun h29_3 => ?_) (fun h29_3 => ?_)
    · exact ezw_return rfl rfl ⟨F_3, A_3, rfl, hS, (fun p j h => by rw [nF_3 p j (by omega), nF1 p j (by omega)]), (fun p h => by
            funext j
            rw [nA_3 p (by omega), nA1 p (by omega)]), (by
            rw [hq, show (1000 - c2).toNat = 0 by omega]
            exact st1), (by
            rw [hq, show (1000 - c2).toNat = 0 by omega]
            exact lw1), rfl⟩
    · refine ezw_aload_n rfl rfl ?_
      refine ezw_call0_0 rfl (by omega) (ezu_at rfl) rfl rfl rfl rfl (ezt_m45_1 hS (by omega)) ?_
      rintro _ _ ⟨rfl, u5, hu5, p4_0, p4_1, rfl⟩
      refine ezw_if_eq rfl rfl ⟨by omega, by omega⟩ (fun h36_5 => ?_) (fun h36_5 => ?_)
      · exact ezw_return rfl rfl ⟨F_3, A_3, rfl, hS, (fun p j h => by rw [nF_3 p j (by omega), nF1 p j (by omega)]), (fun p h => by
              funext j
              rw [nA_3 p (by omega), nA1 p (by omega)]), (by
              rw [hq, ezp_lp_n (by have h8 := p4_1 (by omega); omega)]
              exact st1), (by
              rw [hq, ezp_lp_n (by have h8 := p4_1 (by omega); omega)]
              exact lw1), rfl⟩
      · have z1 : x1.1.1 = 0 := by have h0 := p4_0 (by omega); omega
        have k3 := (st1.2.2.1 z1).2.2.1
        have hm : (1000 - c2).toNat = (1000 - (c2 + 1)).toNat + 1 := by omega
        refine ezw_aload_n rfl rfl ?_
        refine ezy_get_i hS rfl rfl rfl rfl rfl rfl (fun u6 hu6 ku6 eu6 => ?_)
        replace eu6 := eu6.symm
        subst eu6
        refine ezw_iload_n rfl rfl ?_
        refine ezw_call2_2 rfl (by omega) rfl rfl (ezt_m84_v3 hS (by omega) hu6) ?_
        rintro _ _ ⟨rfl, u8, hu8, v_7, rfl⟩
        refine ezw_istore rfl rfl ?_
        have eo : u8 = ezp_op (ezp_K c x1.1.2) 3 := by rw [← k3]; exact v_7
        refine ezw_iload rfl rfl ?_
        refine ezw_if_ne rfl rfl hu8 (fun h51_8 => ?_) (fun h51_8 => ?_)
        · refine ezw_aload_n rfl rfl ?_
          refine ezw_call0_0 rfl (by omega) (ezu_at rfl) rfl rfl rfl rfl (ezt_take hS (by omega) (by rw [nF_3 1 2 (by decide), nF1 1 2 (by decide)]; exact hn) (by rw [nA_3 2 (by decide), nA1 2 (by decide)]; exact hc) tp (by rw [nA_3 3 (by decide), nA1 3 (by decide)]; exact hw) st1) ?_
          rintro _ _ ⟨F9, rfl, hS, nF9, st_9, rfl⟩
          refine ezw_aload_n rfl rfl ?_
          refine ezw_aload_n rfl rfl ?_
          refine ezw_iload_n rfl rfl ?_
          refine ezw_iconst (1) rfl rfl ?_
          refine ezw_iadd (k := (4)) rfl (by omega) ?_
          refine ezw_iload_n rfl rfl ?_
          refine ezw_call0_3 rfl (by omega) (ezu_at rfl) rfl rfl rfl rfl (ezt_m81_9_1_v4_v0 (x := (ezp_t x1.1, x1.2)) hS (by omega) (by rw [nF9 1 2 (by decide), nF_3 1 2 (by decide), nF1 1 2 (by decide)]; exact hn) (by rw [nA_3 2 (by decide), nA1 2 (by decide)]; exact hc) tp (by rw [nA_3 3 (by decide), nA1 3 (by decide)]; exact hw) st_9 (ezt_LW_fr (F' := F9) (A' := A_3) lw1 (by rw [nF9 9 4 (by decide)]) rfl)) ?_
          rintro _ _ ⟨F10, A10, rfl, hS, nF10, nA10, st_10, lw_10, rfl⟩
          refine ezw_aload_n rfl rfl ?_
          refine ezw_iload rfl rfl ?_
          refine ezw_call0_1 rfl (by omega) (ezu_at rfl) rfl rfl rfl rfl (ezt_m83_9 hS (by omega) hu8 lw_10) ?_
          rintro _ _ ⟨F11, A11, rfl, hS, nF11, nA11, lw_11, rfl⟩
          refine ezw_iload_n rfl rfl ?_
          refine ezw_iconst (1) rfl rfl ?_
          refine ezw_icmp_ne rfl rfl ⟨by decide, by decide⟩ ⟨by decide, by decide⟩ (fun h76_11 => ?_) (fun h76_11 => absurd h76_11 (by omega))
          refine ezw_iinc (k := c2 + 1) (1) rfl rfl rfl (by omega) rfl ?_
          refine ezw_goto rfl rfl ?_
          exact ezw_keepE [true, true, true, true, true, false] (ihc2 (c2 + 1) (by omega) ⟨by omega, by omega⟩ F11 A11 hS (fun p j h => by rw [nF11 p j (by omega), nF10 p j (by omega), nF9 p j (by omega), nF_3 p j (by omega)]) (fun p h => by
                funext j
                rw [nA11 p (by omega), nA10 p (by omega), nA_3 p (by omega)]) (by omega) (⟨ezp_l1 c 3 (ezp_rk c (ezp_pt c 5) 0) x1, (by rw [hq, hm, ezp_lp_s z1 (by omega) (by decide), show (1000 - (c2 + 1)).toNat = (1000 - (c2 + 1)).toNat by omega]), (ezt_ST_fr st_10 (fun j j0 j1 => by rw [nF11 1 j (by omega)])), (by have h7 := lw_11; rw [eo] at h7; exact h7)⟩))
        · exact ezw_return rfl rfl ⟨F_3, A_3, rfl, hS, (fun p j h => by rw [nF_3 p j (by omega), nF1 p j (by omega)]), (fun p h => by
                funext j
                rw [nA_3 p (by omega), nA1 p (by omega)]), (by
                rw [hq, hm, ezp_lp_0 z1 (by omega)]
                exact st1), (by
                rw [hq, hm, ezp_lp_0 z1 (by omega)]
                exact lw1), rfl⟩
  exact ezw_keepE [true, true, true, true, true, false] (L24_3 (0) ⟨by decide, by decide⟩ F1 A1 hS (fun _ _ _ => rfl) (fun _ _ => rfl) (by omega) (⟨(ezp_rk c (ezp_pt c 5) 0) x, rfl, st_1, lw_1⟩))
def ezt_m81_9_1_v2_v0Q (e : Bool × Bool) (F : Nat → Nat → Int) (A : Nat → Int → Int) (c : Int → Int) (n : Int) (x : ezp_X) : Option ezq_V → (Nat → ezq_C) → Prop := fun v g' => ∃ (F' : Nat → Nat → Int) (A' : Nat → Int → Int), ezu_g e F' A' = g' ∧ ezs_T F' A' ∧ (∀ p j, ¬ (p = 1 ∧ (j = 3 ∨ j = 4 ∨ j = 5 ∨ j = 6 ∨ j = 7 ∨ j = 8 ∨ j = 9) ∨ p = 9 ∧ (j = 4)) → F' p j = F p j) ∧ (∀ p, ¬ (p = 10) → A' p = A p) ∧ (ezt_ST c n (ezp_rk c (ezp_pt c 5) 2 x).1 F') ∧ (ezt_LW 9 (ezp_rk c (ezp_pt c 5) 2 x).2 F' A') ∧ none = v
theorem ezt_m81_9_1_v2_v0 {c : Int → Int} {n : Int} {x : ezp_X} {F : Nat → Nat → Int} {A : Nat → Int → Int} (hS : ezs_T F A) (hd : 38 ≤ d) (hn : F 1 2 = n) (hc : c = ezp_ch (A 2) n) (tp : ezp_tp c n) (hw : ∀ j, 0 ≤ j → j < 48 → A 3 j = ezl_cw.getD j.toNat 0) (st : ezt_ST c n x.1 F) (lw : ezt_LW 9 x.2 F A) : ezw_C l ρ B xa Hb D cA 81 d [ezw_p 9, ezw_p 1, ezw_i (2), ezw_i (0)] (ezu_g e F A) (ezt_m81_9_1_v2_v0Q e F A c n x) := by
  refine ezw_met (k := 2) rfl rfl ?_
  refine ezw_iload_n rfl rfl ?_
  refine ezw_iconst (4) rfl rfl ?_
  refine ezw_icmp_lt rfl rfl ⟨by decide, by decide⟩ ⟨by decide, by decide⟩ (fun h2_0 => ?_) (fun h2_0 => absurd h2_0 (by omega))
  refine ezw_aload_n rfl rfl ?_
  refine ezw_aload_n rfl rfl ?_
  refine ezw_iload_n rfl rfl ?_
  refine ezw_iconst (1) rfl rfl ?_
  refine ezw_iadd (k := (3)) rfl (by omega) ?_
  refine ezw_iload_n rfl rfl ?_
  refine ezw_call0_3 rfl (by omega) (ezu_at rfl) rfl rfl rfl rfl (ezt_m81_9_1_v3_v0 (x := x) hS (by omega) hn hc tp hw st lw) ?_
  rintro _ _ ⟨F1, A1, rfl, hS, nF1, nA1, st_1, lw_1, rfl⟩
  refine ezw_iconst (0) rfl rfl ?_
  refine ezw_istore rfl rfl ?_
  have L24_3 : ∀ c2 : Int, ezw_in c2 → ∀ F_3 : Nat → Nat → Int, ∀ A_3 : Nat → Int → Int, ezs_T F_3 A_3 → (∀ p j, ¬ (p = 1 ∧ (j = 3 ∨ j = 4 ∨ j = 5 ∨ j = 6 ∨ j = 7 ∨ j = 8 ∨ j = 9) ∨ p = 9 ∧ (j = 4)) → F_3 p j = F1 p j) → (∀ p, ¬ (p = 10) → A_3 p = A1 p) → ((0) ≤ c2) → (∃ x1, ezp_rk c (ezp_pt c 5) 2 x = ezp_lp c 2 (ezp_rk c (ezp_pt c 5) 1) (1000 - c2).toNat x1 ∧ ezt_ST c n x1.1 F_3 ∧ ezt_LW 9 x1.2 F_3 A_3) → ezw_E l ρ B xa Hb D cA d ezq_re81 (ezt_m81_9_1_v2_v0Q e F A c n x) 24 [some (ezw_p 9), some (ezw_p 1), some (ezw_i (2)), some (ezw_i (0)), some (ezw_i c2), none] [] (ezu_g e F_3 A_3) := by
    refine ezs_up ?_
    intro c2 hc2 ihc2 F_3 A_3 hS nF_3 nA_3 g_3 iv_3
    obtain ⟨x1, hq, st1, lw1⟩ := iv_3
    have hs1 := st1.1
    refine ezw_iload rfl rfl ?_
    refine ezw_sipush (1000) rfl rfl ?_
    refine ezw_icmp_ge rfl rfl hc2 ⟨by decide, by decide⟩ (fun h29_3 => ?_) (fun h29_3 => ?_)
    · exact ezw_return rfl rfl ⟨F_3, A_3, rfl, hS, (fun p j h => by rw [nF_3 p j (by omega), nF1 p j (by omega)]), (fun p h => by
            funext j
            rw [nA_3 p (by omega), nA1 p (by omega)]), (by
            rw [hq, show (1000 - c2).toNat = 0 by omega]
            exact st1), (by
            rw [hq, show (1000 - c2).toNat = 0 by omega]
            exact lw1), rfl⟩
    · refine ezw_aload_n rfl rfl ?_
      refine ezw_call0_0 rfl (by omega) (ezu_at rfl) rfl rfl rfl rfl (ezt_m45_1 hS (by omega)) ?_
      rintro _ _ ⟨rfl, u5, hu5, p4_0, p4_1, rfl⟩
      refine ezw_if_eq rfl rfl ⟨by omega, by omega⟩ (fun h36_5 => ?_) (fun h36_5 => ?_)
      · exact ezw_return rfl rfl ⟨F_3, A_3, rfl, hS, (fun p j h => by rw [nF_3 p j (by omega), nF1 p j (by omega)]), (fun p h => by
              funext j
              rw [nA_3 p (by omega), nA1 p (by omega)]), (by
              rw [hq, ezp_lp_n (by have h8 := p4_1 (by omega); omega)]
              exact st1), (by
              rw [hq, ezp_lp_n (by have h8 := p4_1 (by omega); omega)]
              exact lw1), rfl⟩
      · have z1 : x1.1.1 = 0 := by have h0 := p4_0 (by omega); omega
        have k3 := (st1.2.2.1 z1).2.2.1
        have hm : (1000 - c2).toNat = (1000 - (c2 + 1)).toNat + 1 := by omega
        refine ezw_aload_n rfl rfl ?_
        refine ezy_get_i hS rfl rfl rfl rfl rfl rfl (fun u6 hu6 ku6 eu6 => ?_)
        replace eu6 := eu6.symm
        subst eu6
        refine ezw_iload_n rfl rfl ?_
        refine ezw_call2_2 rfl (by omega) rfl rfl (ezt_m84_v2 hS (by omega) hu6) ?_
        rintro _ _ ⟨rfl, u8, hu8, v_7, rfl⟩
        refine ezw_istore rfl rfl ?_
        have eo : u8 = ezp_op (ezp_K c x1.1.2) 2 := by rw [← k3]; exact v_7
        refine ezw_iload rfl rfl ?_
        refine ezw_if_ne rfl rfl hu8 (fun h51_8 => ?_) (fun h51_8 => ?_)
        · refine ezw_aload_n rfl rfl ?_
          refine ezw_call0_0 rfl (by omega) (ezu_at rfl) rfl rfl rfl rfl (ezt_take hS (by omega) (by rw [nF_3 1 2 (by decide), nF1 1 2 (by decide)]; exact hn) (by rw [nA_3 2 (by decide), nA1 2 (by decide)]; exact hc) tp (by rw [nA_3 3 (by decide), nA1 3 (by decide)]; exact hw) st1) ?_
          rintro _ _ ⟨F9, rfl, hS, nF9, st_9, rfl⟩
          refine ezw_aload_n rfl rfl ?_
          refine ezw_aload_n rfl rfl ?_
          refine ezw_iload_n rfl rfl ?_
          refine ezw_iconst (1) rfl rfl ?_
          refine ezw_iadd (k := (3)) rfl (by omega) ?_
          refine ezw_iload_n rfl rfl ?_
          refine ezw_call0_3 rfl (by omega) (ezu_at rfl) rfl rfl rfl rfl (ezt_m81_9_1_v3_v0 (x := (ezp_t x1.1, x1.2)) hS (by omega) (by rw [nF9 1 2 (by decide), nF_3 1 2 (by decide), nF1 1 2 (by decide)]; exact hn) (by rw [nA_3 2 (by decide), nA1 2 (by decide)]; exact hc) tp (by rw [nA_3 3 (by decide), nA1 3 (by decide)]; exact hw) st_9 (ezt_LW_fr (F' := F9) (A' := A_3) lw1 (by rw [nF9 9 4 (by decide)]) rfl)) ?_
          rintro _ _ ⟨F10, A10, rfl, hS, nF10, nA10, st_10, lw_10, rfl⟩
          refine ezw_aload_n rfl rfl ?_
          refine ezw_iload rfl rfl ?_
          refine ezw_call0_1 rfl (by omega) (ezu_at rfl) rfl rfl rfl rfl (ezt_m83_9 hS (by omega) hu8 lw_10) ?_
          rintro _ _ ⟨F11, A11, rfl, hS, nF11, nA11, lw_11, rfl⟩
          refine ezw_iload_n rfl rfl ?_
          refine ezw_iconst (1) rfl rfl ?_
          refine ezw_icmp_ne rfl rfl ⟨by decide, by decide⟩ ⟨by decide, by decide⟩ (fun h76_11 => ?_) (fun h76_11 => absurd h76_11 (by omega))
          refine ezw_iinc (k := c2 + 1) (1) rfl rfl rfl (by omega) rfl ?_
          refine ezw_goto rfl rfl ?_
          exact ezw_keepE [true, true, true, true, true, false] (ihc2 (c2 + 1) (by omega) ⟨by omega, by omega⟩ F11 A11 hS (fun p j h => by rw [nF11 p j (by omega), nF10 p j (by omega), nF9 p j (by omega), nF_3 p j (by omega)]) (fun p h => by
                funext j
                rw [nA11 p (by omega), nA10 p (by omega), nA_3 p (by omega)]) (by omega) (⟨ezp_l1 c 2 (ezp_rk c (ezp_pt c 5) 1) x1, (by rw [hq, hm, ezp_lp_s z1 (by omega) (by decide), show (1000 - (c2 + 1)).toNat = (1000 - (c2 + 1)).toNat by omega]), (ezt_ST_fr st_10 (fun j j0 j1 => by rw [nF11 1 j (by omega)])), (by have h7 := lw_11; rw [eo] at h7; exact h7)⟩))
        · exact ezw_return rfl rfl ⟨F_3, A_3, rfl, hS, (fun p j h => by rw [nF_3 p j (by omega), nF1 p j (by omega)]), (fun p h => by
                funext j
                rw [nA_3 p (by omega), nA1 p (by omega)]), (by
                rw [hq, hm, ezp_lp_0 z1 (by omega)]
                exact st1), (by
                rw [hq, hm, ezp_lp_0 z1 (by omega)]
                exact lw1), rfl⟩
  exact ezw_keepE [true, true, true, true, true, false] (L24_3 (0) ⟨by decide, by decide⟩ F1 A1 hS (fun _ _ _ => rfl) (fun _ _ => rfl) (by omega) (⟨(ezp_rk c (ezp_pt c 5) 1) x, rfl, st_1, lw_1⟩))
def ezt_m81_9_1_v1_v0Q (e : Bool × Bool) (F : Nat → Nat → Int) (A : Nat → Int → Int) (c : Int → Int) (n : Int) (x : ezp_X) : Option ezq_V → (Nat → ezq_C) → Prop := fun v g' => ∃ (F' : Nat → Nat → Int) (A' : Nat → Int → Int), ezu_g e F' A' = g' ∧ ezs_T F' A' ∧ (∀ p j, ¬ (p = 1 ∧ (j = 3 ∨ j = 4 ∨ j = 5 ∨ j = 6 ∨ j = 7 ∨ j = 8 ∨ j = 9) ∨ p = 9 ∧ (j = 4)) → F' p j = F p j) ∧ (∀ p, ¬ (p = 10) → A' p = A p) ∧ (ezt_ST c n (ezp_rk c (ezp_pt c 5) 3 x).1 F') ∧ (ezt_LW 9 (ezp_rk c (ezp_pt c 5) 3 x).2 F' A') ∧ none = v
theorem ezt_m81_9_1_v1_v0 {c : Int → Int} {n : Int} {x : ezp_X} {F : Nat → Nat → Int} {A : Nat → Int → Int} (hS : ezs_T F A) (hd : 39 ≤ d) (hn : F 1 2 = n) (hc : c = ezp_ch (A 2) n) (tp : ezp_tp c n) (hw : ∀ j, 0 ≤ j → j < 48 → A 3 j = ezl_cw.getD j.toNat 0) (st : ezt_ST c n x.1 F) (lw : ezt_LW 9 x.2 F A) : ezw_C l ρ B xa Hb D cA 81 d [ezw_p 9, ezw_p 1, ezw_i (1), ezw_i (0)] (ezu_g e F A) (ezt_m81_9_1_v1_v0Q e F A c n x) := by
  refine ezw_met (k := 2) rfl rfl ?_
  refine ezw_iload_n rfl rfl ?_
  refine ezw_iconst (4) rfl rfl ?_
  refine ezw_icmp_lt rfl rfl ⟨by decide, by decide⟩ ⟨by decide, by decide⟩ (fun h2_0 => ?_) (fun h2_0 => absurd h2_0 (by omega))
  refine ezw_aload_n rfl rfl ?_
  refine ezw_aload_n rfl rfl ?_
  refine ezw_iload_n rfl rfl ?_
  refine ezw_iconst (1) rfl rfl ?_
  refine ezw_iadd (k := (2)) rfl (by omega) ?_
  refine ezw_iload_n rfl rfl ?_
  refine ezw_call0_3 rfl (by omega) (ezu_at rfl) rfl rfl rfl rfl (ezt_m81_9_1_v2_v0 (x := x) hS (by omega) hn hc tp hw st lw) ?_
  rintro _ _ ⟨F1, A1, rfl, hS, nF1, nA1, st_1, lw_1, rfl⟩
  refine ezw_iconst (0) rfl rfl ?_
  refine ezw_istore rfl rfl ?_
  have L24_3 : ∀ c2 : Int, ezw_in c2 → ∀ F_3 : Nat → Nat → Int, ∀ A_3 : Nat → Int → Int, ezs_T F_3 A_3 → (∀ p j, ¬ (p = 1 ∧ (j = 3 ∨ j = 4 ∨ j = 5 ∨ j = 6 ∨ j = 7 ∨ j = 8 ∨ j = 9) ∨ p = 9 ∧ (j = 4)) → F_3 p j = F1 p j) → (∀ p, ¬ (p = 10) → A_3 p = A1 p) → ((0) ≤ c2) → (∃ x1, ezp_rk c (ezp_pt c 5) 3 x = ezp_lp c 1 (ezp_rk c (ezp_pt c 5) 2) (1000 - c2).toNat x1 ∧ ezt_ST c n x1.1 F_3 ∧ ezt_LW 9 x1.2 F_3 A_3) → ezw_E l ρ B xa Hb D cA d ezq_re81 (ezt_m81_9_1_v1_v0Q e F A c n x) 24 [some (ezw_p 9), some (ezw_p 1), some (ezw_i (1)), some (ezw_i (0)), some (ezw_i c2), none] [] (ezu_g e F_3 A_3) := by
    refine ezs_up ?_
    intro c2 hc2 ihc2 F_3 A_3 hS nF_3 nA_3 g_3 iv_3
    obtain ⟨x1, hq, st1, lw1⟩ := iv_3
    have hs1 := st1.1
    refine ezw_iload rfl rfl ?_
    refine ezw_sipush (1000) rfl rfl ?_
    refine ezw_icmp_ge rfl rfl hc2 ⟨by decide, by decide⟩ (fun h29_3 => ?_) (fun h29_3 => ?_)
    · exact ezw_return rfl rfl ⟨F_3, A_3, rfl, hS, (fun p j h => by rw [nF_3 p j (by omega), nF1 p j (by omega)]), (fun p h => by
            funext j
            rw [nA_3 p (by omega), nA1 p (by omega)]), (by
            rw [hq, show (1000 - c2).toNat = 0 by omega]
            exact st1), (by
            rw [hq, show (1000 - c2).toNat = 0 by omega]
            exact lw1), rfl⟩
    · refine ezw_aload_n rfl rfl ?_
      refine ezw_call0_0 rfl (by omega) (ezu_at rfl) rfl rfl rfl rfl (ezt_m45_1 hS (by omega)) ?_
      rintro _ _ ⟨rfl, u5, hu5, p4_0, p4_1, rfl⟩
      refine ezw_if_eq rfl rfl ⟨by omega, by omega⟩ (fun h36_5 => ?_) (fun h36_5 => ?_)
      · exact ezw_return rfl rfl ⟨F_3, A_3, rfl, hS, (fun p j h => by rw [nF_3 p j (by omega), nF1 p j (by omega)]), (fun p h => by
              funext j
              rw [nA_3 p (by omega), nA1 p (by omega)]), (by
              rw [hq, ezp_lp_n (by have h8 := p4_1 (by omega); omega)]
              exact st1), (by
              rw [hq, ezp_lp_n (by have h8 := p4_1 (by omega); omega)]
              exact lw1), rfl⟩
      · have z1 : x1.1.1 = 0 := by have h0 := p4_0 (by omega); omega
        have k3 := (st1.2.2.1 z1).2.2.1
        have hm : (1000 - c2).toNat = (1000 - (c2 + 1)).toNat + 1 := by omega
        refine ezw_aload_n rfl rfl ?_
        refine ezy_get_i hS rfl rfl rfl rfl rfl rfl (fun u6 hu6 ku6 eu6 => ?_)
        replace eu6 := eu6.symm
        subst eu6
        refine ezw_iload_n rfl rfl ?_
        refine ezw_call2_2 rfl (by omega) rfl rfl (ezt_m84_v1 hS (by omega) hu6) ?_
        rintro _ _ ⟨rfl, u8, hu8, v_7, rfl⟩
        refine ezw_istore rfl rfl ?_
        have eo : u8 = ezp_op (ezp_K c x1.1.2) 1 := by rw [← k3]; exact v_7
        refine ezw_iload rfl rfl ?_
        refine ezw_if_ne rfl rfl hu8 (fun h51_8 => ?_) (fun h51_8 => ?_)
        · refine ezw_aload_n rfl rfl ?_
          refine ezw_call0_0 rfl (by omega) (ezu_at rfl) rfl rfl rfl rfl (ezt_take hS (by omega) (by rw [nF_3 1 2 (by decide), nF1 1 2 (by decide)]; exact hn) (by rw [nA_3 2 (by decide), nA1 2 (by decide)]; exact hc) tp (by rw [nA_3 3 (by decide), nA1 3 (by decide)]; exact hw) st1) ?_
          rintro _ _ ⟨F9, rfl, hS, nF9, st_9, rfl⟩
          refine ezw_aload_n rfl rfl ?_
          refine ezw_aload_n rfl rfl ?_
          refine ezw_iload_n rfl rfl ?_
          refine ezw_iconst (1) rfl rfl ?_
          refine ezw_iadd (k := (2)) rfl (by omega) ?_
          refine ezw_iload_n rfl rfl ?_
          refine ezw_call0_3 rfl (by omega) (ezu_at rfl) rfl rfl rfl rfl (ezt_m81_9_1_v2_v0 (x := (ezp_t x1.1, x1.2)) hS (by omega) (by rw [nF9 1 2 (by decide), nF_3 1 2 (by decide), nF1 1 2 (by decide)]; exact hn) (by rw [nA_3 2 (by decide), nA1 2 (by decide)]; exact hc) tp (by rw [nA_3 3 (by decide), nA1 3 (by decide)]; exact hw) st_9 (ezt_LW_fr (F' := F9) (A' := A_3) lw1 (by rw [nF9 9 4 (by decide)]) rfl)) ?_
          rintro _ _ ⟨F10, A10, rfl, hS, nF10, nA10, st_10, lw_10, rfl⟩
          refine ezw_aload_n rfl rfl ?_
          refine ezw_iload rfl rfl ?_
          refine ezw_call0_1 rfl (by omega) (ezu_at rfl) rfl rfl rfl rfl (ezt_m83_9 hS (by omega) hu8 lw_10) ?_
          rintro _ _ ⟨F11, A11, rfl, hS, nF11, nA11, lw_11, rfl⟩
          refine ezw_iload_n rfl rfl ?_
          refine ezw_iconst (1) rfl rfl ?_
          refine ezw_icmp_ne rfl rfl ⟨by decide, by decide⟩ ⟨by decide, by decide⟩ (fun h76_11 => absurd h76_11 (by omega)) (fun h76_11 => ?_)
          exact ezw_return rfl rfl ⟨F11, A11, rfl, hS, (fun p j h => by rw [nF11 p j (by omega), nF10 p j (by omega), nF9 p j (by omega), nF_3 p j (by omega), nF1 p j (by omega)]), (fun p h => by
                funext j
                rw [nA11 p (by omega), nA10 p (by omega), nA_3 p (by omega), nA1 p (by omega)]), (by
                rw [hq, hm, ezp_lp_1 z1 (by omega) (by decide)]
                exact (ezt_ST_fr st_10 (fun j j0 j1 => by rw [nF11 1 j (by omega)]))), (by
                rw [hq, hm, ezp_lp_1 z1 (by omega) (by decide)]
                exact (by have h7 := lw_11; rw [eo] at h7; exact h7)), rfl⟩
        · exact ezw_return rfl rfl ⟨F_3, A_3, rfl, hS, (fun p j h => by rw [nF_3 p j (by omega), nF1 p j (by omega)]), (fun p h => by
                funext j
                rw [nA_3 p (by omega), nA1 p (by omega)]), (by
                rw [hq, hm, ezp_lp_0 z1 (by omega)]
                exact st1), (by
                rw [hq, hm, ezp_lp_0 z1 (by omega)]
                exact lw1), rfl⟩
  exact ezw_keepE [true, true, true, true, true, false] (L24_3 (0) ⟨by decide, by decide⟩ F1 A1 hS (fun _ _ _ => rfl) (fun _ _ => rfl) (by omega) (⟨(ezp_rk c (ezp_pt c 5) 2) x, rfl, st_1, lw_1⟩))
def ezt_m81_9_1_v0_v0Q (e : Bool × Bool) (F : Nat → Nat → Int) (A : Nat → Int → Int) (c : Int → Int) (n : Int) (x : ezp_X) : Option ezq_V → (Nat → ezq_C) → Prop := fun v g' => ∃ (F' : Nat → Nat → Int) (A' : Nat → Int → Int), ezu_g e F' A' = g' ∧ ezs_T F' A' ∧ (∀ p j, ¬ (p = 1 ∧ (j = 3 ∨ j = 4 ∨ j = 5 ∨ j = 6 ∨ j = 7 ∨ j = 8 ∨ j = 9) ∨ p = 9 ∧ (j = 4)) → F' p j = F p j) ∧ (∀ p, ¬ (p = 10) → A' p = A p) ∧ (ezt_ST c n (ezp_rk c (ezp_pt c 5) 4 x).1 F') ∧ (ezt_LW 9 (ezp_rk c (ezp_pt c 5) 4 x).2 F' A') ∧ none = v
theorem ezt_m81_9_1_v0_v0 {c : Int → Int} {n : Int} {x : ezp_X} {F : Nat → Nat → Int} {A : Nat → Int → Int} (hS : ezs_T F A) (hd : 40 ≤ d) (hn : F 1 2 = n) (hc : c = ezp_ch (A 2) n) (tp : ezp_tp c n) (hw : ∀ j, 0 ≤ j → j < 48 → A 3 j = ezl_cw.getD j.toNat 0) (st : ezt_ST c n x.1 F) (lw : ezt_LW 9 x.2 F A) : ezw_C l ρ B xa Hb D cA 81 d [ezw_p 9, ezw_p 1, ezw_i (0), ezw_i (0)] (ezu_g e F A) (ezt_m81_9_1_v0_v0Q e F A c n x) := by
  refine ezw_met (k := 2) rfl rfl ?_
  refine ezw_iload_n rfl rfl ?_
  refine ezw_iconst (4) rfl rfl ?_
  refine ezw_icmp_lt rfl rfl ⟨by decide, by decide⟩ ⟨by decide, by decide⟩ (fun h2_0 => ?_) (fun h2_0 => absurd h2_0 (by omega))
  refine ezw_aload_n rfl rfl ?_
  refine ezw_aload_n rfl rfl ?_
  refine ezw_iload_n rfl rfl ?_
  refine ezw_iconst (1) rfl rfl ?_
  refine ezw_iadd (k := (1)) rfl (by omega) ?_
  refine ezw_iload_n rfl rfl ?_
  refine ezw_call0_3 rfl (by omega) (ezu_at rfl) rfl rfl rfl rfl (ezt_m81_9_1_v1_v0 (x := x) hS (by omega) hn hc tp hw st lw) ?_
  rintro _ _ ⟨F1, A1, rfl, hS, nF1, nA1, st_1, lw_1, rfl⟩
  refine ezw_iconst (0) rfl rfl ?_
  refine ezw_istore rfl rfl ?_
  have L24_3 : ∀ c2 : Int, ezw_in c2 → ∀ F_3 : Nat → Nat → Int, ∀ A_3 : Nat → Int → Int, ezs_T F_3 A_3 → (∀ p j, ¬ (p = 1 ∧ (j = 3 ∨ j = 4 ∨ j = 5 ∨ j = 6 ∨ j = 7 ∨ j = 8 ∨ j = 9) ∨ p = 9 ∧ (j = 4)) → F_3 p j = F1 p j) → (∀ p, ¬ (p = 10) → A_3 p = A1 p) → ((0) ≤ c2) → (∃ x1, ezp_rk c (ezp_pt c 5) 4 x = ezp_lp c 0 (ezp_rk c (ezp_pt c 5) 3) (1000 - c2).toNat x1 ∧ ezt_ST c n x1.1 F_3 ∧ ezt_LW 9 x1.2 F_3 A_3) → ezw_E l ρ B xa Hb D cA d ezq_re81 (ezt_m81_9_1_v0_v0Q e F A c n x) 24 [some (ezw_p 9), some (ezw_p 1), some (ezw_i (0)), some (ezw_i (0)), some (ezw_i c2), none] [] (ezu_g e F_3 A_3) := by
    refine ezs_up ?_
    intro c2 hc2 ihc2 F_3 A_3 hS nF_3 nA_3 g_3 iv_3
    obtain ⟨x1, hq, st1, lw1⟩ := iv_3
    have hs1 := st1.1
    refine ezw_iload rfl rfl ?_
    refine ezw_sipush (1000) rfl rfl ?_
    refine ezw_icmp_ge rfl rfl hc2 ⟨by decide, by decide⟩ (fun h29_3 => ?_) (fun h29_3 => ?_)
    · exact ezw_return rfl rfl ⟨F_3, A_3, rfl, hS, (fun p j h => by rw [nF_3 p j (by omega), nF1 p j (by omega)]), (fun p h => by
            funext j
            rw [nA_3 p (by omega), nA1 p (by omega)]), (by
            rw [hq, show (1000 - c2).toNat = 0 by omega]
            exact st1), (by
            rw [hq, show (1000 - c2).toNat = 0 by omega]
            exact lw1), rfl⟩
    · refine ezw_aload_n rfl rfl ?_
      refine ezw_call0_0 rfl (by omega) (ezu_at rfl) rfl rfl rfl rfl (ezt_m45_1 hS (by omega)) ?_
      rintro _ _ ⟨rfl, u5, hu5, p4_0, p4_1, rfl⟩
      refine ezw_if_eq rfl rfl ⟨by omega, by omega⟩ (fun h36_5 => ?_) (fun h36_5 => ?_)
      · exact ezw_return rfl rfl ⟨F_3, A_3, rfl, hS, (fun p j h => by rw [nF_3 p j (by omega), nF1 p j (by omega)]), (fun p h => by
              funext j
              rw [nA_3 p (by omega), nA1 p (by omega)]), (by
              rw [hq, ezp_lp_n (by have h8 := p4_1 (by omega); omega)]
              exact st1), (by
              rw [hq, ezp_lp_n (by have h8 := p4_1 (by omega); omega)]
              exact lw1), rfl⟩
      · have z1 : x1.1.1 = 0 := by have h0 := p4_0 (by omega); omega
        have k3 := (st1.2.2.1 z1).2.2.1
        have hm : (1000 - c2).toNat = (1000 - (c2 + 1)).toNat + 1 := by omega
        refine ezw_aload_n rfl rfl ?_
        refine ezy_get_i hS rfl rfl rfl rfl rfl rfl (fun u6 hu6 ku6 eu6 => ?_)
        replace eu6 := eu6.symm
        subst eu6
        refine ezw_iload_n rfl rfl ?_
        refine ezw_call2_2 rfl (by omega) rfl rfl (ezt_m84_v0 hS (by omega) hu6) ?_
        rintro _ _ ⟨rfl, u8, hu8, v_7, rfl⟩
        refine ezw_istore rfl rfl ?_
        have eo : u8 = ezp_op (ezp_K c x1.1.2) 0 := by rw [← k3]; exact v_7
        refine ezw_iload rfl rfl ?_
        refine ezw_if_ne rfl rfl hu8 (fun h51_8 => ?_) (fun h51_8 => ?_)
        · refine ezw_aload_n rfl rfl ?_
          refine ezw_call0_0 rfl (by omega) (ezu_at rfl) rfl rfl rfl rfl (ezt_take hS (by omega) (by rw [nF_3 1 2 (by decide), nF1 1 2 (by decide)]; exact hn) (by rw [nA_3 2 (by decide), nA1 2 (by decide)]; exact hc) tp (by rw [nA_3 3 (by decide), nA1 3 (by decide)]; exact hw) st1) ?_
          rintro _ _ ⟨F9, rfl, hS, nF9, st_9, rfl⟩
          refine ezw_aload_n rfl rfl ?_
          refine ezw_aload_n rfl rfl ?_
          refine ezw_iload_n rfl rfl ?_
          refine ezw_iconst (1) rfl rfl ?_
          refine ezw_iadd (k := (1)) rfl (by omega) ?_
          refine ezw_iload_n rfl rfl ?_
          refine ezw_call0_3 rfl (by omega) (ezu_at rfl) rfl rfl rfl rfl (ezt_m81_9_1_v1_v0 (x := (ezp_t x1.1, x1.2)) hS (by omega) (by rw [nF9 1 2 (by decide), nF_3 1 2 (by decide), nF1 1 2 (by decide)]; exact hn) (by rw [nA_3 2 (by decide), nA1 2 (by decide)]; exact hc) tp (by rw [nA_3 3 (by decide), nA1 3 (by decide)]; exact hw) st_9 (ezt_LW_fr (F' := F9) (A' := A_3) lw1 (by rw [nF9 9 4 (by decide)]) rfl)) ?_
          rintro _ _ ⟨F10, A10, rfl, hS, nF10, nA10, st_10, lw_10, rfl⟩
          refine ezw_aload_n rfl rfl ?_
          refine ezw_iload rfl rfl ?_
          refine ezw_call0_1 rfl (by omega) (ezu_at rfl) rfl rfl rfl rfl (ezt_m83_9 hS (by omega) hu8 lw_10) ?_
          rintro _ _ ⟨F11, A11, rfl, hS, nF11, nA11, lw_11, rfl⟩
          refine ezw_iload_n rfl rfl ?_
          refine ezw_iconst (1) rfl rfl ?_
          refine ezw_icmp_ne rfl rfl ⟨by decide, by decide⟩ ⟨by decide, by decide⟩ (fun h76_11 => ?_) (fun h76_11 => absurd h76_11 (by omega))
          refine ezw_iinc (k := c2 + 1) (1) rfl rfl rfl (by omega) rfl ?_
          refine ezw_goto rfl rfl ?_
          exact ezw_keepE [true, true, true, true, true, false] (ihc2 (c2 + 1) (by omega) ⟨by omega, by omega⟩ F11 A11 hS (fun p j h => by rw [nF11 p j (by omega), nF10 p j (by omega), nF9 p j (by omega), nF_3 p j (by omega)]) (fun p h => by
                funext j
                rw [nA11 p (by omega), nA10 p (by omega), nA_3 p (by omega)]) (by omega) (⟨ezp_l1 c 0 (ezp_rk c (ezp_pt c 5) 3) x1, (by rw [hq, hm, ezp_lp_s z1 (by omega) (by decide), show (1000 - (c2 + 1)).toNat = (1000 - (c2 + 1)).toNat by omega]), (ezt_ST_fr st_10 (fun j j0 j1 => by rw [nF11 1 j (by omega)])), (by have h7 := lw_11; rw [eo] at h7; exact h7)⟩))
        · exact ezw_return rfl rfl ⟨F_3, A_3, rfl, hS, (fun p j h => by rw [nF_3 p j (by omega), nF1 p j (by omega)]), (fun p h => by
                funext j
                rw [nA_3 p (by omega), nA1 p (by omega)]), (by
                rw [hq, hm, ezp_lp_0 z1 (by omega)]
                exact st1), (by
                rw [hq, hm, ezp_lp_0 z1 (by omega)]
                exact lw1), rfl⟩
  exact ezw_keepE [true, true, true, true, true, false] (L24_3 (0) ⟨by decide, by decide⟩ F1 A1 hS (fun _ _ _ => rfl) (fun _ _ => rfl) (by omega) (⟨(ezp_rk c (ezp_pt c 5) 3) x, rfl, st_1, lw_1⟩))
def ezt_m80_9_1Q (e : Bool × Bool) (F : Nat → Nat → Int) (A : Nat → Int → Int) (c : Int → Int) (n : Int) (s : Int × Int) : Option ezq_V → (Nat → ezq_C) → Prop := fun v g' => ∃ (F' : Nat → Nat → Int) (A' : Nat → Int → Int), ezu_g e F' A' = g' ∧ ezs_T F' A' ∧ (∀ p j, ¬ (p = 1 ∧ (j = 3 ∨ j = 4 ∨ j = 5 ∨ j = 6 ∨ j = 7 ∨ j = 8 ∨ j = 9) ∨ p = 9 ∧ (j = 3 ∨ j = 4)) → F' p j = F p j) ∧ (∀ p, ¬ (p = 10) → A' p = A p) ∧ (ezt_ST c n ((ezp_rk c (ezp_pt c 5) 4 (s, (0, fun _ => 0))).1) F') ∧ (ezt_LW 9 (ezp_rk c (ezp_pt c 5) 4 (s, (0, fun _ => 0))).2 F' A') ∧ (F' 9 3 = 1) ∧ none = v
theorem ezt_m80_9_1 {c : Int → Int} {n : Int} {s : Int × Int} {F : Nat → Nat → Int} {A : Nat → Int → Int} (hS : ezs_T F A) (hd : 41 ≤ d) (hn : F 1 2 = n) (hc : c = ezp_ch (A 2) n) (tp : ezp_tp c n) (hw : ∀ j, 0 ≤ j → j < 48 → A 3 j = ezl_cw.getD j.toNat 0) (st : ezt_ST c n s F) : ezw_C l ρ B xa Hb D cA 80 d [ezw_p 9, ezw_p 1] (ezu_g e F A) (ezt_m80_9_1Q e F A c n s) := by
  refine ezw_met (k := 0) rfl rfl ?_
  refine ezw_aload_n rfl rfl ?_
  refine ezw_iconst (1) rfl rfl ?_
  refine ezy_put_z hS rfl rfl rfl rfl ⟨by omega, by omega⟩ rfl (show ezs_fk 9 3 _ from ⟨by omega, by omega⟩) (fun F1 hS mF1 nF1 => ?_)
  refine ezw_aload_n rfl rfl ?_
  refine ezw_iconst (0) rfl rfl ?_
  refine ezy_put_i hS rfl rfl rfl rfl rfl ⟨by decide, by decide⟩ (fun F2 hS mF2 nF2 => ?_)
  refine ezw_aload_n rfl rfl ?_
  refine ezw_aload_n rfl rfl ?_
  refine ezw_iconst (0) rfl rfl ?_
  refine ezw_iconst (0) rfl rfl ?_
  refine ezw_call0_3 rfl (by omega) (ezu_at rfl) rfl rfl rfl rfl (ezt_m81_9_1_v0_v0 (x := (s, (0, fun _ => 0))) hS (by omega) (by rw [nF2 1 2 (by decide), nF1 1 2 (by decide)]; exact hn) hc tp hw (ezt_ST_fr st (fun j j0 j1 => by rw [nF2 1 j (by omega), nF1 1 j (by omega)])) ⟨Int.le_refl 0, fun _ => ⟨mF2, fun j j0 j1 => absurd (show j < 0 from j1) (by omega)⟩⟩) ?_
  rintro _ _ ⟨F3, A3, rfl, hS, nF3, nA3, st_3, lw_3, rfl⟩
  have w9_3 : F3 9 3 = (1) := by rw [nF3 9 3 (by decide), nF2 9 3 (by decide), mF1]
  exact ezw_return rfl rfl ⟨F3, A3, rfl, hS, (fun p j h => by rw [nF3 p j (by omega), nF2 p j (by omega), nF1 p j (by omega)]), (fun p h => by
        funext j
        rw [nA3 p (by omega)]), st_3, lw_3, (by rw [nF3 9 3 (by decide), nF2 9 3 (by decide), mF1]), rfl⟩
end KT
