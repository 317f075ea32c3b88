/-! ===== the program: ranks of the other law ===== -/
section KT
variable {l : Launch} {ρ : ezq_E} {B : Nat} {xa : Nat → Option Nat} {Hb : Heap} {D : va_G} {cA : Nat → ClassId} {d : Nat} {e : Bool × Bool}
def ezt_m81_9_1_v4_v5Q (e : Bool × Bool) (F : Nat → Nat → Int) (A : Nat → Int → Int) (c : Int → Int) (n : Int) (x : ezp_X) : Option ezq_V → (Nat → ezq_C) → Prop := fun v g' => ∃ (F' : Nat → Nat → Int) (A' : Nat → Int → Int), ezu_g e F' A' = g' ∧ ezs_T F' A' ∧ (∀ p j, ¬ (p = 1 ∧ (j = 3 ∨ j = 4 ∨ j = 5 ∨ j = 6 ∨ j = 7 ∨ j = 8 ∨ j = 9) ∨ p = 9 ∧ (j = 4)) → F' p j = F p j) ∧ (∀ p, ¬ (p = 10) → A' p = A p) ∧ (ezt_ST c n (ezp_rk c (ezp_pt c 0) 0 x).1 F') ∧ (ezt_LW 9 (ezp_rk c (ezp_pt c 0) 0 x).2 F' A') ∧ none = v
theorem ezt_m81_9_1_v4_v5 {c : Int → Int} {n : Int} {x : ezp_X} {F : Nat → Nat → Int} {A : Nat → Int → Int} (hS : ezs_T F A) (hd : 2 ≤ d) (hn : F 1 2 = n) (hc : c = ezp_ch (A 2) n) (tp : ezp_tp c n) (hw : ∀ j, 0 ≤ j → j < 48 → A 3 j = ezl_cw.getD j.toNat 0) (st : ezt_ST c n x.1 F) (lw : ezt_LW 9 x.2 F A) : ezw_C l ρ B xa Hb D cA 81 d [ezw_p 9, ezw_p 1, ezw_i (4), ezw_i (5)] (ezu_g e F A) (ezt_m81_9_1_v4_v5Q e F A c n x) := by
  refine ezw_met (k := 2) rfl rfl ?_
  refine ezw_iload_n rfl rfl ?_
  refine ezw_iconst (4) rfl rfl ?_
  refine ezw_icmp_lt rfl rfl ⟨by decide, by decide⟩ ⟨by decide, by decide⟩ (fun h2_0 => absurd h2_0 (by omega)) (fun h2_0 => ?_)
  refine ezw_aload_n rfl rfl ?_
  refine ezw_aload_n rfl rfl ?_
  refine ezw_iload_n rfl rfl ?_
  refine ezw_call0_2 rfl (by omega) (ezu_at rfl) rfl rfl rfl rfl (ezt_m82_9_1_v5 (x := x) hS (by omega) hn hc tp hw st lw) ?_
  rintro _ _ ⟨F1, A1, rfl, hS, nF1, nA1, st_1, lw_1, rfl⟩
  exact ezw_return rfl rfl ⟨F1, A1, rfl, hS, (fun p j h => by rw [nF1 p j (fun z => h (z.elim (fun y => (Or.inl ⟨y.1, y.2⟩)) (fun y => (Or.inr ⟨y.1, y.2⟩))))]), (fun p h => by
        funext j
        rw [nA1 p (fun z => h (z))]), st_1, lw_1, rfl⟩
def ezt_m81_9_1_v3_v5Q (e : Bool × Bool) (F : Nat → Nat → Int) (A : Nat → Int → Int) (c : Int → Int) (n : Int) (x : ezp_X) : Option ezq_V → (Nat → ezq_C) → Prop := fun v g' => ∃ (F' : Nat → Nat → Int) (A' : Nat → Int → Int), ezu_g e F' A' = g' ∧ ezs_T F' A' ∧ (∀ p j, ¬ (p = 1 ∧ (j = 3 ∨ j = 4 ∨ j = 5 ∨ j = 6 ∨ j = 7 ∨ j = 8 ∨ j = 9) ∨ p = 9 ∧ (j = 4)) → F' p j = F p j) ∧ (∀ p, ¬ (p = 10) → A' p = A p) ∧ (ezt_ST c n (ezp_rk c (ezp_pt c 0) 1 x).1 F') ∧ (ezt_LW 9 (ezp_rk c (ezp_pt c 0) 1 x).2 F' A') ∧ none = v
theorem ezt_m81_9_1_v3_v5 {c : Int → Int} {n : Int} {x : ezp_X} {F : Nat → Nat → Int} {A : Nat → Int → Int} (hS : ezs_T F A) (hd : 7 ≤ d) (hn : F 1 2 = n) (hc : c = ezp_ch (A 2) n) (tp : ezp_tp c n) (hw : ∀ j, 0 ≤ j → j < 48 → A 3 j = ezl_cw.getD j.toNat 0) (st : ezt_ST c n x.1 F) (lw : ezt_LW 9 x.2 F A) : ezw_C l ρ B xa Hb D cA 81 d [ezw_p 9, ezw_p 1, ezw_i (3), ezw_i (5)] (ezu_g e F A) (ezt_m81_9_1_v3_v5Q e F A c n x) := by
  refine ezw_met (k := 2) rfl rfl ?_
  refine ezw_iload_n rfl rfl ?_
  refine ezw_iconst (4) rfl rfl ?_
  refine ezw_icmp_lt rfl rfl ⟨by decide, by decide⟩ ⟨by decide, by decide⟩ (fun h2_0 => ?_) (fun h2_0 => absurd h2_0 (by omega))
  refine ezw_aload_n rfl rfl ?_
  refine ezw_aload_n rfl rfl ?_
  refine ezw_iload_n rfl rfl ?_
  refine ezw_iconst (1) rfl rfl ?_
  refine ezw_iadd (k := (4)) rfl (by omega) ?_
  refine ezw_iload_n rfl rfl ?_
  refine ezw_call0_3 rfl (by omega) (ezu_at rfl) rfl rfl rfl rfl (ezt_m81_9_1_v4_v5 (x := x) hS (by omega) hn hc tp hw st lw) ?_
  rintro _ _ ⟨F1, A1, rfl, hS, nF1, nA1, st_1, lw_1, rfl⟩
  refine ezw_iconst (0) rfl rfl ?_
  refine ezw_istore rfl rfl ?_
  have L24_3 : ∀ c2 : Int, ezw_in c2 → ∀ F_3 : Nat → Nat → Int, ∀ A_3 : Nat → Int → Int, ezs_T F_3 A_3 → (∀ p j, ¬ (p = 1 ∧ (j = 3 ∨ j = 4 ∨ j = 5 ∨ j = 6 ∨ j = 7 ∨ j = 8 ∨ j = 9) ∨ p = 9 ∧ (j = 4)) → F_3 p j = F1 p j) → (∀ p, ¬ (p = 10) → A_3 p = A1 p) → ((0) ≤ c2) → (∃ x1, ezp_rk c (ezp_pt c 0) 1 x = ezp_lp c 3 (ezp_rk c (ezp_pt c 0) 0) (1000 - c2).toNat x1 ∧ ezt_ST c n x1.1 F_3 ∧ ezt_LW 9 x1.2 F_3 A_3) → ezw_E l ρ B xa Hb D cA d ezq_re81 (ezt_m81_9_1_v3_v5Q e F A c n x) 24 [some (ezw_p 9), some (ezw_p 1), some (ezw_i (3)), some (ezw_i (5)), some (ezw_i c2), none] [] (ezu_g e F_3 A_3) := by
    refine ezs_up ?_
    intro c2 hc2 ihc2 F_3 A_3 hS nF_3 nA_3 g_3 iv_3
    obtain ⟨x1, hq, st1, lw1⟩ := iv_3
    have hs1 := st1.1
    refine ezw_iload rfl rfl ?_
    refine ezw_sipush (1000) rfl rfl ?_
    refine ezw_icmp_ge rfl rfl hc2 ⟨by decide, by decide⟩ (fun h29_3 => ?_) (fun h29_3 => ?_)
    · exact ezw_return rfl rfl ⟨F_3, A_3, rfl, hS, (fun p j h => by rw [nF_3 p j (fun z => h (z.elim (fun y => (Or.inl ⟨y.1, y.2⟩)) (fun y => (Or.inr ⟨y.1, y.2⟩)))), nF1 p j (fun z => h (z.elim (fun y => (Or.inl ⟨y.1, y.2⟩)) (fun y => (Or.inr ⟨y.1, y.2⟩))))]), (fun p h => by
            funext j
            rw [nA_3 p (fun z => h (z)), nA1 p (fun z => h (z))]), (by
            rw [hq, show (1000 - c2).toNat = 0 by omega]
            exact st1), (by
            rw [hq, show (1000 - c2).toNat = 0 by omega]
            exact lw1), rfl⟩
    · refine ezw_aload_n rfl rfl ?_
      refine ezw_call0_0 rfl (by omega) (ezu_at rfl) rfl rfl rfl rfl (ezt_m45_1 hS (by omega)) ?_
      rintro _ _ ⟨rfl, u5, hu5, p4_0, p4_1, rfl⟩
      refine ezw_if_eq rfl rfl ⟨by omega, by omega⟩ (fun h36_5 => ?_) (fun h36_5 => ?_)
      · exact ezw_return rfl rfl ⟨F_3, A_3, rfl, hS, (fun p j h => by rw [nF_3 p j (fun z => h (z.elim (fun y => (Or.inl ⟨y.1, y.2⟩)) (fun y => (Or.inr ⟨y.1, y.2⟩)))), nF1 p j (fun z => h (z.elim (fun y => (Or.inl ⟨y.1, y.2⟩)) (fun y => (Or.inr ⟨y.1, y.2⟩))))]), (fun p h => by
              funext j
              rw [nA_3 p (fun z => h (z)), nA1 p (fun z => h (z))]), (by
              rw [hq, ezp_lp_n (by have h8 := p4_1 (by omega); omega)]
              exact st1), (by
              rw [hq, ezp_lp_n (by have h8 := p4_1 (by omega); omega)]
              exact lw1), rfl⟩
      · have z1 : x1.1.1 = 0 := by have h0 := p4_0 (by omega); omega
        have k3 := (st1.2.2.1 z1).2.2.1
        have hm : (1000 - c2).toNat = (1000 - (c2 + 1)).toNat + 1 := by omega
        refine ezw_aload_n rfl rfl ?_
        refine ezy_get_i hS rfl rfl rfl rfl rfl rfl (fun u6 hu6 ku6 eu6 => ?_)
        replace eu6 := eu6.symm
        subst eu6
        refine ezw_iload_n rfl rfl ?_
        refine ezw_call2_2 rfl (by omega) rfl rfl (ezt_m84_v3 hS (by omega) hu6) ?_
        rintro _ _ ⟨rfl, u8, hu8, v_7, rfl⟩
        refine ezw_istore rfl rfl ?_
        have eo : u8 = ezp_op (ezp_K c x1.1.2) 3 := by rw [← k3]; exact v_7
        refine ezw_iload rfl rfl ?_
        refine ezw_if_ne rfl rfl hu8 (fun h51_8 => ?_) (fun h51_8 => ?_)
        · refine ezw_aload_n rfl rfl ?_
          refine ezw_call0_0 rfl (by omega) (ezu_at rfl) rfl rfl rfl rfl (ezt_take hS (by omega) (by rw [nF_3 1 2 (by decide), nF1 1 2 (by decide)]; exact hn) (by rw [nA_3 2 (by decide), nA1 2 (by decide)]; exact hc) tp (by rw [nA_3 3 (by decide), nA1 3 (by decide)]; exact hw) st1) ?_
          rintro _ _ ⟨F9, rfl, hS, nF9, st_9, rfl⟩
          refine ezw_aload_n rfl rfl ?_
          refine ezw_aload_n rfl rfl ?_
          refine ezw_iload_n rfl rfl ?_
          refine ezw_iconst (1) rfl rfl ?_
          refine ezw_iadd (k := (4)) rfl (by omega) ?_
          refine ezw_iload_n rfl rfl ?_
          refine ezw_call0_3 rfl (by omega) (ezu_at rfl) rfl rfl rfl rfl (ezt_m81_9_1_v4_v5 (x := (ezp_t x1.1, x1.2)) hS (by omega) (by rw [nF9 1 2 (by decide), nF_3 1 2 (by decide), nF1 1 2 (by decide)]; exact hn) (by rw [nA_3 2 (by decide), nA1 2 (by decide)]; exact hc) tp (by rw [nA_3 3 (by decide), nA1 3 (by decide)]; exact hw) st_9 (ezt_LW_fr (F' := F9) (A' := A_3) lw1 (by rw [nF9 9 4 (by decide)]) rfl)) ?_
          rintro _ _ ⟨F10, A10, rfl, hS, nF10, nA10, st_10, lw_10, rfl⟩
          refine ezw_aload_n rfl rfl ?_
          refine ezw_iload rfl rfl ?_
          refine ezw_call0_1 rfl (by omega) (ezu_at rfl) rfl rfl rfl rfl (ezt_m83_9 hS (by omega) hu8 lw_10) ?_
          rintro _ _ ⟨F11, A11, rfl, hS, nF11, nA11, lw_11, rfl⟩
          refine ezw_iload_n rfl rfl ?_
          refine ezw_iconst (1) rfl rfl ?_
          refine ezw_icmp_ne rfl rfl ⟨by decide, by decide⟩ ⟨by decide, by decide⟩ (fun h76_11 => ?_) (fun h76_11 => absurd h76_11 (by omega))
          refine ezw_iinc (k := c2 + 1) (1) rfl rfl rfl (by omega) rfl ?_
          refine ezw_goto rfl rfl ?_
          exact ezw_keepE [true, true, true, true, true, false] (ihc2 (c2 + 1) (by omega) ⟨by omega, by omega⟩ F11 A11 hS (fun p j h => by rw [nF11 p j (fun z => h (Or.inr ⟨z.1, z.2⟩)), nF10 p j (fun z => h (z.elim (fun y => (Or.inl ⟨y.1, y.2⟩)) (fun y => (Or.inr ⟨y.1, y.2⟩)))), nF9 p j (fun z => h (Or.inl ⟨z.1, (z.2.elim (fun y => (Or.inl y)) (fun y => (y.elim (fun y => (Or.inr (Or.inl y))) (fun y => (y.elim (fun y => (Or.inr (Or.inr (Or.inl y)))) (fun y => (y.elim (fun y => (Or.inr (Or.inr (Or.inr (Or.inr (Or.inl y)))))) (fun y => (y.elim (fun y => (Or.inr (Or.inr (Or.inr (Or.inr (Or.inr (Or.inl y))))))) (fun y => (Or.inr (Or.inr (Or.inr (Or.inr (Or.inr (Or.inr y))))))))))))))))⟩)), nF_3 p j (fun z => h (z.elim (fun y => (Or.inl ⟨y.1, y.2⟩)) (fun y => (Or.inr ⟨y.1, y.2⟩))))]) (fun p h => by
                funext j
                rw [nA11 p (fun z => h (z)), nA10 p (fun z => h (z)), nA_3 p (fun z => h (z))]) (by omega) (⟨ezp_l1 c 3 (ezp_rk c (ezp_pt c 0) 0) x1, (by rw [hq, hm, ezp_lp_s z1 (by omega) (by decide), show (1000 - (c2 + 1)).toNat = (1000 - (c2 + 1)).toNat by omega]), (ezt_ST_fr st_10 (fun j j0 j1 => by rw [nF11 1 j (by omega)])), (by have h7 := lw_11; rw [eo] at h7; exact h7)⟩))
        · exact ezw_return rfl rfl ⟨F_3, A_3, rfl, hS, (fun p j h => by rw [nF_3 p j (fun z => h (z.elim (fun y => (Or.inl ⟨y.1, y.2⟩)) (fun y => (Or.inr ⟨y.1, y.2⟩)))), nF1 p j (fun z => h (z.elim (fun y => (Or.inl ⟨y.1, y.2⟩)) (fun y => (Or.inr ⟨y.1, y.2⟩))))]), (fun p h => by
                funext j
                rw [nA_3 p (fun z => h (z)), nA1 p (fun z => h (z))]), (by
                rw [hq, hm, ezp_lp_0 z1 (by omega)]
                exact st1), (by
                rw [hq, hm, ezp_lp_0 z1 (by omega)]
                exact lw1), rfl⟩
  exact ezw_keepE [true, true, true, true, true, false] (L24_3 (0) ⟨by decide, by decide⟩ F1 A1 hS (fun _ _ _ => rfl) (fun _ _ => rfl) (by omega) (⟨(ezp_rk c (ezp_pt c 0) 0) x, rfl, st_1, lw_1⟩))
def ezt_m81_9_1_v2_v5Q (e : Bool × Bool) (F : Nat → Nat → Int) (A : Nat → Int → Int) (c : Int → Int) (n : Int) (x : ezp_X) : Option ezq_V → (Nat → ezq_C) → Prop := fun v g' => ∃ (F' : Nat → Nat → Int) (A' : Nat → Int → Int), ezu_g e F' A' = g' ∧ ezs_T F' A' ∧ (∀ p j, ¬ (p = 1 ∧ (j = 3 ∨ j = 4 ∨ j = 5 ∨ j = 6 ∨ j = 7 ∨ j = 8 ∨ j = 9) ∨ p = 9 ∧ (j = 4)) → F' p j = F p j) ∧ (∀ p, ¬ (p = 10) → A' p = A p) ∧ (ezt_ST c n (ezp_rk c (ezp_pt c 0) 2 x).1 F') ∧ (ezt_LW 9 (ezp_rk c (ezp_pt c 0) 2 x).2 F' A') ∧ none = v
theorem ezt_m81_9_1_v2_v5 {c : Int → Int} {n : Int} {x : ezp_X} {F : Nat → Nat → Int} {A : Nat → Int → Int} (hS : ezs_T F A) (hd : 8 ≤ d) (hn : F 1 2 = n) (hc : c = ezp_ch (A 2) n) (tp : ezp_tp c n) (hw : ∀ j, 0 ≤ j → j < 48 → A 3 j = ezl_cw.getD j.toNat 0) (st : ezt_ST c n x.1 F) (lw : ezt_LW 9 x.2 F A) : ezw_C l ρ B xa Hb D cA 81 d [ezw_p 9, ezw_p 1, ezw_i (2), ezw_i (5)] (ezu_g e F A) (ezt_m81_9_1_v2_v5Q e F A c n x) := by
  refine ezw_met (k := 2) rfl rfl ?_
  refine ezw_iload_n rfl rfl ?_
  refine ezw_iconst (4) rfl rfl ?_
  refine ezw_icmp_lt rfl rfl ⟨by decide, by decide⟩ ⟨by decide, by decide⟩ (fun h2_0 => ?_) (fun h2_0 => absurd h2_0 (by omega))
  refine ezw_aload_n rfl rfl ?_
  refine ezw_aload_n rfl rfl ?_
  refine ezw_iload_n rfl rfl ?_
  refine ezw_iconst (1) rfl rfl ?_
  refine ezw_iadd (k := (3)) rfl (by omega) ?_
  refine ezw_iload_n rfl rfl ?_
  refine ezw_call0_3 rfl (by omega) (ezu_at rfl) rfl rfl rfl rfl (ezt_m81_9_1_v3_v5 (x := x) hS (by omega) hn hc tp hw st lw) ?_
  rintro _ _ ⟨F1, A1, rfl, hS, nF1, nA1, st_1, lw_1, rfl⟩
  refine ezw_iconst (0) rfl rfl ?_
  refine ezw_istore rfl rfl ?_
  have L24_3 : ∀ c2 : Int, ezw_in c2 → ∀ F_3 : Nat → Nat → Int, ∀ A_3 : Nat → Int → Int, ezs_T F_3 A_3 → (∀ p j, ¬ (p = 1 ∧ (j = 3 ∨ j = 4 ∨ j = 5 ∨ j = 6 ∨ j = 7 ∨ j = 8 ∨ j = 9) ∨ p = 9 ∧ (j = 4)) → F_3 p j = F1 p j) → (∀ p, ¬ (p = 10) → A_3 p = A1 p) → ((0) ≤ c2) → (∃ x1, ezp_rk c (ezp_pt c 0) 2 x = ezp_lp c 2 (ezp_rk c (ezp_pt c 0) 1) (1000 - c2).toNat x1 ∧ ezt_ST c n x1.1 F_3 ∧ ezt_LW 9 x1.2 F_3 A_3) → ezw_E l ρ B xa Hb D cA d ezq_re81 (ezt_m81_9_1_v2_v5Q e F A c n x) 24 [some (ezw_p 9), some (ezw_p 1), some (ezw_i (2)), some (ezw_i (5)), some (ezw_i c2), none] [] (ezu_g e F_3 A_3) := by
    refine ezs_up ?_
    intro c2 hc2 ihc2 F_3 A_3 hS nF_3 nA_3 g_3 iv_3
    obtain ⟨x1, hq, st1, lw1⟩ := iv_3
    have hs1 := st1.1
    refine ezw_iload rfl rfl ?_
    refine ezw_sipush (1000) rfl rfl ?_
    refine ezw_icmp_ge rfl rfl hc2 ⟨by decide, by decide⟩ (fun h29_3 => ?_) (fun h29_3 => ?_)
    · exact ezw_return rfl rfl ⟨F_3, A_3, rfl, hS, (fun p j h => by rw [nF_3 p j (fun z => h (z.elim (fun y => (Or.inl ⟨y.1, y.2⟩)) (fun y => (Or.inr ⟨y.1, y.2⟩)))), nF1 p j (fun z => h (z.elim (fun y => (Or.inl ⟨y.1, y.2⟩)) (fun y => (Or.inr ⟨y.1, y.2⟩))))]), (fun p h => by
            funext j
            rw [nA_3 p (fun z => h (z)), nA1 p (fun z => h (z))]), (by
            rw [hq, show (1000 - c2).toNat = 0 by omega]
            exact st1), (by
            rw [hq, show (1000 - c2).toNat = 0 by omega]
            exact lw1), rfl⟩
    · refine ezw_aload_n rfl rfl ?_
      refine ezw_call0_0 rfl (by omega) (ezu_at rfl) rfl rfl rfl rfl (ezt_m45_1 hS (by omega)) ?_
      rintro _ _ ⟨rfl, u5, hu5, p4_0, p4_1, rfl⟩
      refine ezw_if_eq rfl rfl ⟨by omega, by omega⟩ (fun h36_5 => ?_) (fun h36_5 => ?_)
      · exact ezw_return rfl rfl ⟨F_3, A_3, rfl, hS, (fun p j h => by rw [nF_3 p j (fun z => h (z.elim (fun y => (Or.inl ⟨y.1, y.2⟩)) (fun y => (Or.inr ⟨y.1, y.2⟩)))), nF1 p j (fun z => h (z.elim (fun y => (Or.inl ⟨y.1, y.2⟩)) (fun y => (Or.inr ⟨y.1, y.2⟩))))]), (fun p h => by
              funext j
              rw [nA_3 p (fun z => h (z)), nA1 p (fun z => h (z))]), (by
              rw [hq, ezp_lp_n (by have h8 := p4_1 (by omega); omega)]
              exact st1), (by
              rw [hq, ezp_lp_n (by have h8 := p4_1 (by omega); omega)]
              exact lw1), rfl⟩
      · have z1 : x1.1.1 = 0 := by have h0 := p4_0 (by omega); omega
        have k3 := (st1.2.2.1 z1).2.2.1
        have hm : (1000 - c2).toNat = (1000 - (c2 + 1)).toNat + 1 := by omega
        refine ezw_aload_n rfl rfl ?_
        refine ezy_get_i hS rfl rfl rfl rfl rfl rfl (fun u6 hu6 ku6 eu6 => ?_)
        replace eu6 := eu6.symm
        subst eu6
        refine ezw_iload_n rfl rfl ?_
        refine ezw_call2_2 rfl (by omega) rfl rfl (ezt_m84_v2 hS (by omega) hu6) ?_
        rintro _ _ ⟨rfl, u8, hu8, v_7, rfl⟩
        refine ezw_istore rfl rfl ?_
        have eo : u8 = ezp_op (ezp_K c x1.1.2) 2 := by rw [← k3]; exact v_7
        refine ezw_iload rfl rfl ?_
        refine ezw_if_ne rfl rfl hu8 (fun h51_8 => ?_) (fun h51_8 => ?_)
        · refine ezw_aload_n rfl rfl ?_
          refine ezw_call0_0 rfl (by omega) (ezu_at rfl) rfl rfl rfl rfl (ezt_take hS (by omega) (by rw [nF_3 1 2 (by decide), nF1 1 2 (by decide)]; exact hn) (by rw [nA_3 2 (by decide), nA1 2 (by decide)]; exact hc) tp (by rw [nA_3 3 (by decide), nA1 3 (by decide)]; exact hw) st1) ?_
          rintro _ _ ⟨F9, rfl, hS, nF9, st_9, rfl⟩
          refine ezw_aload_n rfl rfl ?_
          refine ezw_aload_n rfl rfl ?_
          refine ezw_iload_n rfl rfl ?_
          refine ezw_iconst (1) rfl rfl ?_
          refine ezw_iadd (k := (3)) rfl (by omega) ?_
          refine ezw_iload_n rfl rfl ?_
          refine ezw_call0_3 rfl (by omega) (ezu_at rfl) rfl rfl rfl rfl (ezt_m81_9_1_v3_v5 (x := (ezp_t x1.1, x1.2)) hS (by omega) (by rw [nF9 1 2 (by decide), nF_3 1 2 (by decide), nF1 1 2 (by decide)]; exact hn) (by rw [nA_3 2 (by decide), nA1 2 (by decide)]; exact hc) tp (by rw [nA_3 3 (by decide), nA1 3 (by decide)]; exact hw) st_9 (ezt_LW_fr (F' := F9) (A' := A_3) lw1 (by rw [nF9 9 4 (by decide)]) rfl)) ?_
          rintro _ _ ⟨F10, A10, rfl, hS, nF10, nA10, st_10, lw_10, rfl⟩
          refine ezw_aload_n rfl rfl ?_
          refine ezw_iload rfl rfl ?_
          refine ezw_call0_1 rfl (by omega) (ezu_at rfl) rfl rfl rfl rfl (ezt_m83_9 hS (by omega) hu8 lw_10) ?_
          rintro _ _ ⟨F11, A11, rfl, hS, nF11, nA11, lw_11, rfl⟩
          refine ezw_iload_n rfl rfl ?_
          refine ezw_iconst (1) rfl rfl ?_
          refine ezw_icmp_ne rfl rfl ⟨by decide, by decide⟩ ⟨by decide, by decide⟩ (fun h76_11 => ?_) (fun h76_11 => absurd h76_11 (by omega))
          refine ezw_iinc (k := c2 + 1) (1) rfl rfl rfl (by omega) rfl ?_
          refine ezw_goto rfl rfl ?_
          exact ezw_keepE [true, true, true, true, true, false] (ihc2 (c2 + 1) (by omega) ⟨by omega, by omega⟩ F11 A11 hS (fun p j h => by rw [nF11 p j (fun z => h (Or.inr ⟨z.1, z.2⟩)), nF10 p j (fun z => h (z.elim (fun y => (Or.inl ⟨y.1, y.2⟩)) (fun y => (Or.inr ⟨y.1, y.2⟩)))), nF9 p j (fun z => h (Or.inl ⟨z.1, (z.2.elim (fun y => (Or.inl y)) (fun y => (y.elim (fun y => (Or.inr (Or.inl y))) (fun y => (y.elim (fun y => (Or.inr (Or.inr (Or.inl y)))) (fun y => (y.elim (fun y => (Or.inr (Or.inr (Or.inr (Or.inr (Or.inl y)))))) (fun y => (y.elim (fun y => (Or.inr (Or.inr (Or.inr (Or.inr (Or.inr (Or.inl y))))))) (fun y => (Or.inr (Or.inr (Or.inr (Or.inr (Or.inr (Or.inr y))))))))))))))))⟩)), nF_3 p j (fun z => h (z.elim (fun y => (Or.inl ⟨y.1, y.2⟩)) (fun y => (Or.inr ⟨y.1, y.2⟩))))]) (fun p h => by
                funext j
                rw [nA11 p (fun z => h (z)), nA10 p (fun z => h (z)), nA_3 p (fun z => h (z))]) (by omega) (⟨ezp_l1 c 2 (ezp_rk c (ezp_pt c 0) 1) x1, (by rw [hq, hm, ezp_lp_s z1 (by omega) (by decide), show (1000 - (c2 + 1)).toNat = (1000 - (c2 + 1)).toNat by omega]), (ezt_ST_fr st_10 (fun j j0 j1 => by rw [nF11 1 j (by omega)])), (by have h7 := lw_11; rw [eo] at h7; exact h7)⟩))
        · exact ezw_return rfl rfl ⟨F_3, A_3, rfl, hS, (fun p j h => by rw [nF_3 p j (fun z => h (z.elim (fun y => (Or.inl ⟨y.1, y.2⟩)) (fun y => (Or.inr ⟨y.1, y.2⟩)))), nF1 p j (fun z => h (z.elim (fun y => (Or.inl ⟨y.1, y.2⟩)) (fun y => (Or.inr ⟨y.1, y.2⟩))))]), (fun p h => by
                funext j
                rw [nA_3 p (fun z => h (z)), nA1 p (fun z => h (z))]), (by
                rw [hq, hm, ezp_lp_0 z1 (by omega)]
                exact st1), (by
                rw [hq, hm, ezp_lp_0 z1 (by omega)]
                exact lw1), rfl⟩
  exact ezw_keepE [true, true, true, true, true, false] (L24_3 (0) ⟨by decide, by decide⟩ F1 A1 hS (fun _ _ _ => rfl) (fun _ _ => rfl) (by omega) (⟨(ezp_rk c (ezp_pt c 0) 1) x, rfl, st_1, lw_1⟩))
def ezt_m81_9_1_v1_v5Q (e : Bool × Bool) (F : Nat → Nat → Int) (A : Nat → Int → Int) (c : Int → Int) (n : Int) (x : ezp_X) : Option ezq_V → (Nat → ezq_C) → Prop := fun v g' => ∃ (F' : Nat → Nat → Int) (A' : Nat → Int → Int), ezu_g e F' A' = g' ∧ ezs_T F' A' ∧ (∀ p j, ¬ (p = 1 ∧ (j = 3 ∨ j = 4 ∨ j = 5 ∨ j = 6 ∨ j = 7 ∨ j = 8 ∨ j = 9) ∨ p = 9 ∧ (j = 4)) → F' p j = F p j) ∧ (∀ p, ¬ (p = 10) → A' p = A p) ∧ (ezt_ST c n (ezp_rk c (ezp_pt c 0) 3 x).1 F') ∧ (ezt_LW 9 (ezp_rk c (ezp_pt c 0) 3 x).2 F' A') ∧ none = v
theorem ezt_m81_9_1_v1_v5 {c : Int → Int} {n : Int} {x : ezp_X} {F : Nat → Nat → Int} {A : Nat → Int → Int} (hS : ezs_T F A) (hd : 9 ≤ d) (hn : F 1 2 = n) (hc : c = ezp_ch (A 2) n) (tp : ezp_tp c n) (hw : ∀ j, 0 ≤ j → j < 48 → A 3 j = ezl_cw.getD j.toNat 0) (st : ezt_ST c n x.1 F) (lw : ezt_LW 9 x.2 F A) : ezw_C l ρ B xa Hb D cA 81 d [ezw_p 9, ezw_p 1, ezw_i (1), ezw_i (5)] (ezu_g e F A) (ezt_m81_9_1_v1_v5Q e F A c n x) := by
  refine ezw_met (k := 2) rfl rfl ?_
  refine ezw_iload_n rfl rfl ?_
  refine ezw_iconst (4) rfl rfl ?_
  refine ezw_icmp_lt rfl rfl ⟨by decide, by decide⟩ ⟨by decide, by decide⟩ (fun h2_0 => ?_) (fun h2_0 => absurd h2_0 (by omega))
  refine ezw_aload_n rfl rfl ?_
  refine ezw_aload_n rfl rfl ?_
  refine ezw_iload_n rfl rfl ?_
  refine ezw_iconst (1) rfl rfl ?_
  refine ezw_iadd (k := (2)) rfl (by omega) ?_
  refine ezw_iload_n rfl rfl ?_
  refine ezw_call0_3 rfl (by omega) (ezu_at rfl) rfl rfl rfl rfl (ezt_m81_9_1_v2_v5 (x := x) hS (by omega) hn hc tp hw st lw) ?_
  rintro _ _ ⟨F1, A1, rfl, hS, nF1, nA1, st_1, lw_1, rfl⟩
  refine ezw_iconst (0) rfl rfl ?_
  refine ezw_istore rfl rfl ?_
  have L24_3 : ∀ c2 : Int, ezw_in c2 → ∀ F_3 : Nat → Nat → Int, ∀ A_3 : Nat → Int → Int, ezs_T F_3 A_3 → (∀ p j, ¬ (p = 1 ∧ (j = 3 ∨ j = 4 ∨ j = 5 ∨ j = 6 ∨ j = 7 ∨ j = 8 ∨ j = 9) ∨ p = 9 ∧ (j = 4)) → F_3 p j = F1 p j) → (∀ p, ¬ (p = 10) → A_3 p = A1 p) → ((0) ≤ c2) → (∃ x1, ezp_rk c (ezp_pt c 0) 3 x = ezp_lp c 1 (ezp_rk c (ezp_pt c 0) 2) (1000 - c2).toNat x1 ∧ ezt_ST c n x1.1 F_3 ∧ ezt_LW 9 x1.2 F_3 A_3) → ezw_E l ρ B xa Hb D cA d ezq_re81 (ezt_m81_9_1_v1_v5Q e F A c n x) 24 [some (ezw_p 9), some (ezw_p 1), some (ezw_i (1)), some (ezw_i (5)), some (ezw_i c2), none] [] (ezu_g e F_3 A_3) := by
    refine ezs_up ?_
    intro c2 hc2 ihc2 F_3 A_3 hS nF_3 nA_3 g_3 iv_3
    obtain ⟨x1, hq, st1, lw1⟩ := iv_3
    have hs1 := st1.1
    refine ezw_iload rfl rfl ?_
    refine ezw_sipush (1000) rfl rfl ?_
    refine ezw_icmp_ge rfl rfl hc2 ⟨by decide, by decide⟩ (fun h29_3 => ?_) (fun h29_3 => ?_)
    · exact ezw_return rfl rfl ⟨F_3, A_3, rfl, hS, (fun p j h => by rw [nF_3 p j (fun z => h (z.elim (fun y => (Or.inl ⟨y.1, y.2⟩)) (fun y => (Or.inr ⟨y.1, y.2⟩)))), nF1 p j (fun z => h (z.elim (fun y => (Or.inl ⟨y.1, y.2⟩)) (fun y => (Or.inr ⟨y.1, y.2⟩))))]), (fun p h => by
            funext j
            rw [nA_3 p (fun z => h (z)), nA1 p (fun z => h (z))]), (by
            rw [hq, show (1000 - c2).toNat = 0 by omega]
            exact st1), (by
            rw [hq, show (1000 - c2).toNat = 0 by omega]
            exact lw1), rfl⟩
    · refine ezw_aload_n rfl rfl ?_
      refine ezw_call0_0 rfl (by omega) (ezu_at rfl) rfl rfl rfl rfl (ezt_m45_1 hS (by omega)) ?_
      rintro _ _ ⟨rfl, u5, hu5, p4_0, p4_1, rfl⟩
      refine ezw_if_eq rfl rfl ⟨by omega, by omega⟩ (fun h36_5 => ?_) (fun h36_5 => ?_)
      · exact ezw_return rfl rfl ⟨F_3, A_3, rfl, hS, (fun p j h => by rw [nF_3 p j (fun z => h (z.elim (fun y => (Or.inl ⟨y.1, y.2⟩)) (fun y => (Or.inr ⟨y.1, y.2⟩)))), nF1 p j (fun z => h (z.elim (fun y => (Or.inl ⟨y.1, y.2⟩)) (fun y => (Or.inr ⟨y.1, y.2⟩))))]), (fun p h => by
              funext j
              rw [nA_3 p (fun z => h (z)), nA1 p (fun z => h (z))]), (by
              rw [hq, ezp_lp_n (by have h8 := p4_1 (by omega); omega)]
              exact st1), (by
              rw [hq, ezp_lp_n (by have h8 := p4_1 (by omega); omega)]
              exact lw1), rfl⟩
      · have z1 : x1.1.1 = 0 := by have h0 := p4_0 (by omega); omega
        have k3 := (st1.2.2.1 z1).2.2.1
        have hm : (1000 - c2).toNat = (1000 - (c2 + 1)).toNat + 1 := by omega
        refine ezw_aload_n rfl rfl ?_
        refine ezy_get_i hS rfl rfl rfl rfl rfl rfl (fun u6 hu6 ku6 eu6 => ?_)
        replace eu6 := eu6.symm
        subst eu6
        refine ezw_iload_n rfl rfl ?_
        refine ezw_call2_2 rfl (by omega) rfl rfl (ezt_m84_v1 hS (by omega) hu6) ?_
        rintro _ _ ⟨rfl, u8, hu8, v_7, rfl⟩
        refine ezw_istore rfl rfl ?_
        have eo : u8 = ezp_op (ezp_K c x1.1.2) 1 := by rw [← k3]; exact v_7
        refine ezw_iload rfl rfl ?_
        refine ezw_if_ne rfl rfl hu8 (fun h51_8 => ?_) (fun h51_8 => ?_)
        · refine ezw_aload_n rfl rfl ?_
          refine ezw_call0_0 rfl (by omega) (ezu_at rfl) rfl rfl rfl rfl (ezt_take hS (by omega) (by rw [nF_3 1 2 (by decide), nF1 1 2 (by decide)]; exact hn) (by rw [nA_3 2 (by decide), nA1 2 (by decide)]; exact hc) tp (by rw [nA_3 3 (by decide), nA1 3 (by decide)]; exact hw) st1) ?_
          rintro _ _ ⟨F9, rfl, hS, nF9, st_9, rfl⟩
          refine ezw_aload_n rfl rfl ?_
          refine ezw_aload_n rfl rfl ?_
          refine ezw_iload_n rfl rfl ?_
          refine ezw_iconst (1) rfl rfl ?_
          refine ezw_iadd (k := (2)) rfl (by omega) ?_
          refine ezw_iload_n rfl rfl ?_
          refine ezw_call0_3 rfl (by omega) (ezu_at rfl) rfl rfl rfl rfl (ezt_m81_9_1_v2_v5 (x := (ezp_t x1.1, x1.2)) hS (by omega) (by rw [nF9 1 2 (by decide), nF_3 1 2 (by decide), nF1 1 2 (by decide)]; exact hn) (by rw [nA_3 2 (by decide), nA1 2 (by decide)]; exact hc) tp (by rw [nA_3 3 (by decide), nA1 3 (by decide)]; exact hw) st_9 (ezt_LW_fr (F' := F9) (A' := A_3) lw1 (by rw [nF9 9 4 (by decide)]) rfl)) ?_
          rintro _ _ ⟨F10, A10, rfl, hS, nF10, nA10, st_10, lw_10, rfl⟩
          refine ezw_aload_n rfl rfl ?_
          refine ezw_iload rfl rfl ?_
          refine ezw_call0_1 rfl (by omega) (ezu_at rfl) rfl rfl rfl rfl (ezt_m83_9 hS (by omega) hu8 lw_10) ?_
          rintro _ _ ⟨F11, A11, rfl, hS, nF11, nA11, lw_11, rfl⟩
          refine ezw_iload_n rfl rfl ?_
          refine ezw_iconst (1) rfl rfl ?_
          refine ezw_icmp_ne rfl rfl ⟨by decide, by decide⟩ ⟨by decide, by decide⟩ (fun h76_11 => absurd h76_11 (by omega)) (fun h76_11 => ?_)
          exact ezw_return rfl rfl ⟨F11, A11, rfl, hS, (fun p j h => by rw [nF11 p j (fun z => h (Or.inr ⟨z.1, z.2⟩)), nF10 p j (fun z => h (z.elim (fun y => (Or.inl ⟨y.1, y.2⟩)) (fun y => (Or.inr ⟨y.1, y.2⟩)))), nF9 p j (fun z => h (Or.inl ⟨z.1, (z.2.elim (fun y => (Or.inl y)) (fun y => (y.elim (fun y => (Or.inr (Or.inl y))) (fun y => (y.elim (fun y => (Or.inr (Or.inr (Or.inl y)))) (fun y => (y.elim (fun y => (Or.inr (Or.inr (Or.inr (Or.inr (Or.inl y)))))) (fun y => (y.elim (fun y => (Or.inr (Or.inr (Or.inr (Or.inr (Or.inr (Or.inl y))))))) (fun y => (Or.inr (Or.inr (Or.inr (Or.inr (Or.inr (Or.inr y))))))))))))))))⟩)), nF_3 p j (fun z => h (z.elim (fun y => (Or.inl ⟨y.1, y.2⟩)) (fun y => (Or.inr ⟨y.1, y.2⟩)))), nF1 p j (fun z => h (z.elim (fun y => (Or.inl ⟨y.1, y.2⟩)) (fun y => (Or.inr ⟨y.1, y.2⟩))))]), (fun p h => by
                funext j
                rw [nA11 p (fun z => h (z)), nA10 p (fun z => h (z)), nA_3 p (fun z => h (z)), nA1 p (fun z => h (z))]), (by
                rw [hq, hm, ezp_lp_1 z1 (by omega) (by decide)]
                exact (ezt_ST_fr st_10 (fun j j0 j1 => by rw [nF11 1 j (by omega)]))), (by
                rw [hq, hm, ezp_lp_1 z1 (by omega) (by decide)]
                exact (by have h7 := lw_11; rw [eo] at h7; exact h7)), rfl⟩
        · exact ezw_return rfl rfl ⟨F_3, A_3, rfl, hS, (fun p j h => by rw [nF_3 p j (fun z => h (z.elim (fun y => (Or.inl ⟨y.1, y.2⟩)) (fun y => (Or.inr ⟨y.1, y.2⟩)))), nF1 p j (fun z => h (z.elim (fun y => (Or.inl ⟨y.1, y.2⟩)) (fun y => (Or.inr ⟨y.1, y.2⟩))))]), (fun p h => by
                funext j
                rw [nA_3 p (fun z => h (z)), nA1 p (fun z => h (z))]), (by
                rw [hq, hm, ezp_lp_0 z1 (by omega)]
                exact st1), (by
                rw [hq, hm, ezp_lp_0 z1 (by omega)]
                exact lw1), rfl⟩
  exact ezw_keepE [true, true, true, true, true, false] (L24_3 (0) ⟨by decide, by decide⟩ F1 A1 hS (fun _ _ _ => rfl) (fun _ _ => rfl) (by omega) (⟨(ezp_rk c (ezp_pt c 0) 2) x, rfl, st_1, lw_1⟩))
def ezt_m81_9_1_v0_v5Q (e : Bool × Bool) (F : Nat → Nat → Int) (A : Nat → Int → Int) (c : Int → Int) (n : Int) (x : ezp_X) : Option ezq_V → (Nat → ezq_C) → Prop := fun v g' => ∃ (F' : Nat → Nat → Int) (A' : Nat → Int → Int), ezu_g e F' A' = g' ∧ ezs_T F' A' ∧ (∀ p j, ¬ (p = 1 ∧ (j = 3 ∨ j = 4 ∨ j = 5 ∨ j = 6 ∨ j = 7 ∨ j = 8 ∨ j = 9) ∨ p = 9 ∧ (j = 4)) → F' p j = F p j) ∧ (∀ p, ¬ (p = 10) → A' p = A p) ∧ (ezt_ST c n (ezp_rk c (ezp_pt c 0) 4 x).1 F') ∧ (ezt_LW 9 (ezp_rk c (ezp_pt c 0) 4 x).2 F' A') ∧ none = v
theorem ezt_m81_9_1_v0_v5 {c : Int → Int} {n : Int} {x : ezp_X} {F : Nat → Nat → Int} {A : Nat → Int → Int} (hS : ezs_T F A) (hd : 10 ≤ d) (hn : F 1 2 = n) (hc : c = ezp_ch (A 2) n) (tp : ezp_tp c n) (hw : ∀ j, 0 ≤ j → j < 48 → A 3 j = ezl_cw.getD j.toNat 0) (st : ezt_ST c n x.1 F) (lw : ezt_LW 9 x.2 F A) : ezw_C l ρ B xa Hb D cA 81 d [ezw_p 9, ezw_p 1, ezw_i (0), ezw_i (5)] (ezu_g e F A) (ezt_m81_9_1_v0_v5Q e F A c n x) := by
  refine ezw_met (k := 2) rfl rfl ?_
  refine ezw_iload_n rfl rfl ?_
  refine ezw_iconst (4) rfl rfl ?_
  refine ezw_icmp_lt rfl rfl ⟨by decide, by decide⟩ ⟨by decide, by decide⟩ (fun h2_0 => ?_) (fun h2_0 => absurd h2_0 (by omega))
  refine ezw_aload_n rfl rfl ?_
  refine ezw_aload_n rfl rfl ?_
  refine ezw_iload_n rfl rfl ?_
  refine ezw_iconst (1) rfl rfl ?_
  refine ezw_iadd (k := (1)) rfl (by omega) ?_
  refine ezw_iload_n rfl rfl ?_
  refine ezw_call0_3 rfl (by omega) (ezu_at rfl) rfl rfl rfl rfl (ezt_m81_9_1_v1_v5 (x := x) hS (by omega) hn hc tp hw st lw) ?_
  rintro _ _ ⟨F1, A1, rfl, hS, nF1, nA1, st_1, lw_1, rfl⟩
  refine ezw_iconst (0) rfl rfl ?_
  refine ezw_istore rfl rfl ?_
  have L24_3 : ∀ c2 : Int, ezw_in c2 → ∀ F_3 : Nat → Nat → Int, ∀ A_3 : Nat → Int → Int, ezs_T F_3 A_3 → (∀ p j, ¬ (p = 1 ∧ (j = 3 ∨ j = 4 ∨ j = 5 ∨ j = 6 ∨ j = 7 ∨ j = 8 ∨ j = 9) ∨ p = 9 ∧ (j = 4)) → F_3 p j = F1 p j) → (∀ p, ¬ (p = 10) → A_3 p = A1 p) → ((0) ≤ c2) → (∃ x1, ezp_rk c (ezp_pt c 0) 4 x = ezp_lp c 0 (ezp_rk c (ezp_pt c 0) 3) (1000 - c2).toNat x1 ∧ ezt_ST c n x1.1 F_3 ∧ ezt_LW 9 x1.2 F_3 A_3) → ezw_E l ρ B xa Hb D cA d ezq_re81 (ezt_m81_9_1_v0_v5Q e F A c n x) 24 [some (ezw_p 9), some (ezw_p 1), some (ezw_i (0)), some (ezw_i (5)), some (ezw_i c2), none] [] (ezu_g e F_3 A_3) := by
    refine ezs_up ?_
    intro c2 hc2 ihc2 F_3 A_3 hS nF_3 nA_3 g_3 iv_3
    obtain ⟨x1, hq, st1, lw1⟩ := iv_3
    have hs1 := st1.1
    refine ezw_iload rfl rfl ?_
    refine ezw_sipush (1000) rfl rfl ?_
    refine ezw_icmp_ge rfl rfl hc2 ⟨by decide, by decide⟩ (fun h29_3 => ?_) (fun h29_3 => ?_)
    · exact ezw_return rfl rfl ⟨F_3, A_3, rfl, hS, (fun p j h => by rw [nF_3 p j (fun z => h (z.elim (fun y => (Or.inl ⟨y.1, y.2⟩)) (fun y => (Or.inr ⟨y.1, y.2⟩)))), nF1 p j (fun z => h (z.elim (fun y => (Or.inl ⟨y.1, y.2⟩)) (fun y => (Or.inr ⟨y.1, y.2⟩))))]), (fun p h => by
            funext j
            rw [nA_3 p (fun z => h (z)), nA1 p (fun z => h (z))]), (by
            rw [hq, show (1000 - c2).toNat = 0 by omega]
            exact st1), (by
            rw [hq, show (1000 - c2).toNat = 0 by omega]
            exact lw1), rfl⟩
    · refine ezw_aload_n rfl rfl ?_
      refine ezw_call0_0 rfl (by omega) (ezu_at rfl) rfl rfl rfl rfl (ezt_m45_1 hS (by omega)) ?_
      rintro _ _ ⟨rfl, u5, hu5, p4_0, p4_1, rfl⟩
      refine ezw_if_eq rfl rfl ⟨by omega, by omega⟩ (fun h36_5 => ?_) (fun h36_5 => ?_)
      · exact ezw_return rfl rfl ⟨F_3, A_3, rfl, hS, (fun p j h => by rw [nF_3 p j (fun z => h (z.elim (fun y => (Or.inl ⟨y.1, y.2⟩)) (fun y => (Or.inr ⟨y.1, y.2⟩)))), nF1 p j (fun z => h (z.elim (fun y => (Or.inl ⟨y.1, y.2⟩)) (fun y => (Or.inr ⟨y.1, y.2⟩))))]), (fun p h => by
              funext j
              rw [nA_3 p (fun z => h (z)), nA1 p (fun z => h (z))]), (by
              rw [hq, ezp_lp_n (by have h8 := p4_1 (by omega); omega)]
              exact st1), (by
              rw [hq, ezp_lp_n (by have h8 := p4_1 (by omega); omega)]
              exact lw1), rfl⟩
      · have z1 : x1.1.1 = 0 := by have h0 := p4_0 (by omega); omega
        have k3 := (st1.2.2.1 z1).2.2.1
        have hm : (1000 - c2).toNat = (1000 - (c2 + 1)).toNat + 1 := by omega
        refine ezw_aload_n rfl rfl ?_
        refine ezy_get_i hS rfl rfl rfl rfl rfl rfl (fun u6 hu6 ku6 eu6 => ?_)
        replace eu6 := eu6.symm
        subst eu6
        refine ezw_iload_n rfl rfl ?_
        refine ezw_call2_2 rfl (by omega) rfl rfl (ezt_m84_v0 hS (by omega) hu6) ?_
        rintro _ _ ⟨rfl, u8, hu8, v_7, rfl⟩
        refine ezw_istore rfl rfl ?_
        have eo : u8 = ezp_op (ezp_K c x1.1.2) 0 := by rw [← k3]; exact v_7
        refine ezw_iload rfl rfl ?_
        refine ezw_if_ne rfl rfl hu8 (fun h51_8 => ?_) (fun h51_8 => ?_)
        · refine ezw_aload_n rfl rfl ?_
          refine ezw_call0_0 rfl (by omega) (ezu_at rfl) rfl rfl rfl rfl (ezt_take hS (by omega) (by rw [nF_3 1 2 (by decide), nF1 1 2 (by decide)]; exact hn) (by rw [nA_3 2 (by decide), nA1 2 (by decide)]; exact hc) tp (by rw [nA_3 3 (by decide), nA1 3 (by decide)]; exact hw) st1) ?_
          rintro _ _ ⟨F9, rfl, hS, nF9, st_9, rfl⟩
          refine ezw_aload_n rfl rfl ?_
          refine ezw_aload_n rfl rfl ?_
          refine ezw_iload_n rfl rfl ?_
          refine ezw_iconst (1) rfl rfl ?_
          refine ezw_iadd (k := (1)) rfl (by omega) ?_
          refine ezw_iload_n rfl rfl ?_
          refine ezw_call0_3 rfl (by omega) (ezu_at rfl) rfl rfl rfl rfl (ezt_m81_9_1_v1_v5 (x := (ezp_t x1.1, x1.2)) hS (by omega) (by rw [nF9 1 2 (by decide), nF_3 1 2 (by decide), nF1 1 2 (by decide)]; exact hn) (by rw [nA_3 2 (by decide), nA1 2 (by decide)]; exact hc) tp (by rw [nA_3 3 (by decide), nA1 3 (by decide)]; exact hw) st_9 (ezt_LW_fr (F' := F9) (A' := A_3) lw1 (by rw [nF9 9 4 (by decide)]) rfl)) ?_
          rintro _ _ ⟨F10, A10, rfl, hS, nF10, nA10, st_10, lw_10, rfl⟩
          refine ezw_aload_n rfl rfl ?_
          refine ezw_iload rfl rfl ?_
          refine ezw_call0_1 rfl (by omega) (ezu_at rfl) rfl rfl rfl rfl (ezt_m83_9 hS (by omega) hu8 lw_10) ?_
          rintro _ _ ⟨F11, A11, rfl, hS, nF11, nA11, lw_11, rfl⟩
          refine ezw_iload_n rfl rfl ?_
          refine ezw_iconst (1) rfl rfl ?_
          refine ezw_icmp_ne rfl rfl ⟨by decide, by decide⟩ ⟨by decide, by decide⟩ (fun h76_11 => ?_) (fun h76_11 => absurd h76_11 (by omega))
          refine ezw_iinc (k := c2 + 1) (1) rfl rfl rfl (by omega) rfl ?_
          refine ezw_goto rfl rfl ?_
          exact ezw_keepE [true, true, true, true, true, false] (ihc2 (c2 + 1) (by omega) ⟨by omega, by omega⟩ F11 A11 hS (fun p j h => by rw [nF11 p j (fun z => h (Or.inr ⟨z.1, z.2⟩)), nF10 p j (fun z => h (z.elim (fun y => (Or.inl ⟨y.1, y.2⟩)) (fun y => (Or.inr ⟨y.1, y.2⟩)))), nF9 p j (fun z => h (Or.inl ⟨z.1, (z.2.elim (fun y => (Or.inl y)) (fun y => (y.elim (fun y => (Or.inr (Or.inl y))) (fun y => (y.elim (fun y => (Or.inr (Or.inr (Or.inl y)))) (fun y => (y.elim (fun y => (Or.inr (Or.inr (Or.inr (Or.inr (Or.inl y)))))) (fun y => (y.elim (fun y => (Or.inr (Or.inr (Or.inr (Or.inr (Or.inr (Or.inl y))))))) (fun y => (Or.inr (Or.inr (Or.inr (Or.inr (Or.inr (Or.inr y))))))))))))))))⟩)), nF_3 p j (fun z => h (z.elim (fun y => (Or.inl ⟨y.1, y.2⟩)) (fun y => (Or.inr ⟨y.1, y.2⟩))))]) (fun p h => by
                funext j
                rw [nA11 p (fun z => h (z)), nA10 p (fun z => h (z)), nA_3 p (fun z => h (z))]) (by omega) (⟨ezp_l1 c 0 (ezp_rk c (ezp_pt c 0) 3) x1, (by rw [hq, hm, ezp_lp_s z1 (by omega) (by decide), show (1000 - (c2 + 1)).toNat = (1000 - (c2 + 1)).toNat by omega]), (ezt_ST_fr st_10 (fun j j0 j1 => by rw [nF11 1 j (by omega)])), (by have h7 := lw_11; rw [eo] at h7; exact h7)⟩))
        · exact ezw_return rfl rfl ⟨F_3, A_3, rfl, hS, (fun p j h => by rw [nF_3 p j (fun z => h (z.elim (fun y => (Or.inl ⟨y.1, y.2⟩)) (fun y => (Or.inr ⟨y.1, y.2⟩)))), nF1 p j (fun z => h (z.elim (fun y => (Or.inl ⟨y.1, y.2⟩)) (fun y => (Or.inr ⟨y.1, y.2⟩))))]), (fun p h => by
                funext j
                rw [nA_3 p (fun z => h (z)), nA1 p (fun z => h (z))]), (by
                rw [hq, hm, ezp_lp_0 z1 (by omega)]
                exact st1), (by
                rw [hq, hm, ezp_lp_0 z1 (by omega)]
                exact lw1), rfl⟩
  exact ezw_keepE [true, true, true, true, true, false] (L24_3 (0) ⟨by decide, by decide⟩ F1 A1 hS (fun _ _ _ => rfl) (fun _ _ => rfl) (by omega) (⟨(ezp_rk c (ezp_pt c 0) 3) x, rfl, st_1, lw_1⟩))
end KT
