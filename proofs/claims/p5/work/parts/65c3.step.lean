/-! ===== the program: laws, a level more ===== -/
section KT
variable {l : Launch} {ρ : ezq_E} {B : Nat} {xa : Nat → Option Nat} {Hb : Heap} {D : va_G} {cA : Nat → ClassId} {d : Nat} {e : Bool × Bool}
def ezt_m82_5_1_vSQ (e : Bool × Bool) (F : Nat → Nat → Int) (A : Nat → Int → Int) (ml : Nat) (mm : Nat) (dd : Int) (c : Int → Int) (n : Int) (x : ezp_X) : Option ezq_V → (Nat → ezq_C) → Prop := fun v g' => ∃ (F' : Nat → Nat → Int) (A' : Nat → Int → Int), ezu_g e F' A' = g' ∧ ezs_T F' A' ∧ (∀ p j, ¬ (p = 1 ∧ (j = 3 ∨ j = 4 ∨ j = 5 ∨ j = 6 ∨ j = 7 ∨ j = 8 ∨ j = 9) ∨ p = 5 ∧ (j = 4)) → F' p j = F p j) ∧ (∀ p, ¬ (p = 6) → A' p = A p) ∧ (ezt_ST c n (ezp_pt c ml x).1 F') ∧ (ezt_LW 5 (ezp_pt c ml x).2 F' A') ∧ none = v
theorem ezt_m82_5_1_vS {ml : Nat} {mm : Nat} {dd : Int} {c : Int → Int} {n : Int} {x : ezp_X} {F : Nat → Nat → Int} {A : Nat → Int → Int} (hS : ezs_T F A) (hd : 6 * mm + 11 ≤ d) (hml : ml = mm + 1) (hm4 : mm ≤ 4) (hdd : dd = 5 - (ml : Int)) (i82 : ezt_I82_5 l ρ B xa Hb D cA mm) (i81 : ezt_I81_5 l ρ B xa Hb D cA mm) (hn : F 1 2 = n) (hc : c = ezp_ch (A 2) n) (tp : ezp_tp c n) (hw : ∀ j, 0 ≤ j → j < 48 → A 3 j = ezl_cw.getD j.toNat 0) (st : ezt_ST c n x.1 F) (lw : ezt_LW 5 x.2 F A) : ezw_C l ρ B xa Hb D cA 82 d [ezw_p 5, ezw_p 1, ezw_i dd] (ezu_g e F A) (ezt_m82_5_1_vSQ e F A ml mm dd c n x) := by
  refine ezw_met (k := 2) rfl rfl ?_
  have hn0 := tp.1
  have hn1 := tp.2.1
  obtain ⟨sf, sk, sc, sb, sb2⟩ := id st
  have hP := ezp_Pr tp x.1.2
  have c3i : x.1.1 = 0 → F 1 3 = ezp_K c x.1.2 := fun z => (sc z).2.2.1
  have c8i : x.1.1 = 0 → F 1 8 = ezp_P c x.1.2 := fun z => (sc z).1
  have c4i : x.1.1 = 0 → ezp_K c x.1.2 = 101 → F 1 4 = ezp_V c x.1.2 := fun z => (sc z).2.2.2.1
  have c7i : x.1.1 = 0 → ezp_K c x.1.2 = 100 → F 1 7 = ezp_v 32 (ezp_W c x.1.2) ∧ F 1 5 = ezp_ix (ezp_W c x.1.2) - 44 := fun z => (sc z).2.2.2.2
  refine ezw_aload_n rfl rfl ?_
  refine ezw_bipush (100) rfl rfl ?_
  refine ezw_call0_1 rfl (by omega) (ezu_at rfl) rfl rfl rfl rfl (ezt_m46_1 hS (by omega) ⟨by decide, by decide⟩ hn hc tp st) ?_
  rintro _ _ ⟨rfl, u2, hu2, p1_0, p1_1, rfl⟩
  have J21_4 : ∀ y3 : Int, ezw_in y3 → (y3 = 1 ∧ (x.1.1 = 0 ∧ ezp_K c x.1.2 = 100 ∧ 0 ≤ ezp_ix (ezp_W c x.1.2) - 44) ∨ y3 = 0 ∧ ¬ (x.1.1 = 0 ∧ ezp_K c x.1.2 = 100 ∧ 0 ≤ ezp_ix (ezp_W c x.1.2) - 44)) → ezw_E l ρ B xa Hb D cA d ezq_re82 (ezt_m82_5_1_vSQ e F A ml mm dd c n x) 21 [some (ezw_p 5), some (ezw_p 1), some (ezw_i dd), none, none] [ezw_i y3] (ezu_g e F A) := by
    intro y3 hy3 jf_4
    refine ezw_istore_n rfl rfl ?_
    refine ezw_iload_n rfl rfl ?_
    have J59_6 : ∀ y5 : Int, ezw_in y5 → (y5 = 1 ∧ ((x.1.1 = 0 ∧ ezp_K c x.1.2 = 100 ∧ 0 ≤ ezp_ix (ezp_W c x.1.2) - 44) ∨ x.1.1 = 0 ∧ (ezp_K c x.1.2 = 101 ∨ ezp_K c x.1.2 = 41 ∨ ezp_K c x.1.2 = 240)) ∨ y5 = 0 ∧ ¬ ((x.1.1 = 0 ∧ ezp_K c x.1.2 = 100 ∧ 0 ≤ ezp_ix (ezp_W c x.1.2) - 44) ∨ x.1.1 = 0 ∧ (ezp_K c x.1.2 = 101 ∨ ezp_K c x.1.2 = 41 ∨ ezp_K c x.1.2 = 240))) → ezw_E l ρ B xa Hb D cA d ezq_re82 (ezt_m82_5_1_vSQ e F A ml mm dd c n x) 59 [some (ezw_p 5), some (ezw_p 1), some (ezw_i dd), some (ezw_i y3), none] [ezw_i y5] (ezu_g e F A) := by
      intro y5 hy5 jp_6
      refine ezw_istore rfl rfl ?_
      refine ezw_iload rfl rfl ?_
      refine ezw_if_eq rfl rfl hy5 (fun h63_6 => ?_) (fun h63_6 => ?_)
      · refine ezw_aload_n rfl rfl ?_
        refine ezw_iload rfl rfl ?_
        refine ezw_if_eq rfl rfl hy5 (fun h74_6 => ?_) (fun h74_6 => ?_)
        · refine ezw_iconst (1) rfl rfl ?_
          refine ezw_call0_1 rfl (by omega) (ezu_at rfl) rfl rfl rfl rfl (ezt_m50_1 hS (by omega) ⟨by decide, by decide⟩ hn hc tp st (by omega)) ?_
          rintro _ _ ⟨F7, rfl, hS, nF7, st_7, rfl⟩
          refine ezw_goto rfl rfl ?_
          exact ezw_return rfl rfl ⟨F7, A, rfl, hS, (fun p j h => by rw [nF7 p j (fun z => h (Or.inl ⟨z.1, (Or.inr (Or.inr (Or.inr (Or.inl z.2))))⟩))]), (fun _ _ => rfl), (by
                first
                  | (exfalso; omega)
                  | (rw [hml, ezp_pt_s]
                     repeat (first | rw [if_pos (by omega)] | rw [if_neg (by omega)])
                     exact st_7)), (by
                first
                  | (exfalso; omega)
                  | (rw [hml, ezp_pt_s]
                     repeat (first | rw [if_pos (by omega)] | rw [if_neg (by omega)])
                     exact (ezt_LW_fr (F' := F7) (A' := A) lw (by rw [nF7 5 4 (by decide)]) rfl))), rfl⟩
        · refine ezw_iconst (5) rfl rfl ?_
          refine ezw_goto rfl rfl ?_
          refine ezw_call0_1 rfl (by omega) (ezu_at rfl) rfl rfl rfl rfl (ezt_m50_1 hS (by omega) ⟨by decide, by decide⟩ hn hc tp st (by omega)) ?_
          rintro _ _ ⟨F8, rfl, hS, nF8, st_8, rfl⟩
          refine ezw_goto rfl rfl ?_
          exact ezw_return rfl rfl ⟨F8, A, rfl, hS, (fun p j h => by rw [nF8 p j (fun z => h (Or.inl ⟨z.1, (Or.inr (Or.inr (Or.inr (Or.inl z.2))))⟩))]), (fun _ _ => rfl), (by
                first
                  | (exfalso; omega)
                  | (rw [hml, ezp_pt_s]
                     repeat (first | rw [if_pos (by omega)] | rw [if_neg (by omega)])
                     exact st_8)), (by
                first
                  | (exfalso; omega)
                  | (rw [hml, ezp_pt_s]
                     repeat (first | rw [if_pos (by omega)] | rw [if_neg (by omega)])
                     exact (ezt_LW_fr (F' := F8) (A' := A) lw (by rw [nF8 5 4 (by decide)]) rfl))), rfl⟩
      · refine ezw_iload_n rfl rfl ?_
        refine ezw_iconst (5) rfl rfl ?_
        refine ezw_icmp_lt rfl rfl ⟨by omega, by omega⟩ ⟨by decide, by decide⟩ (fun h68_8 => ?_) (fun h68_8 => ?_)
        · refine ezw_iload_n rfl rfl ?_
          refine ezw_if_eq rfl rfl hy3 (fun h89_8 => ?_) (fun h89_8 => ?_)
          · refine ezw_aload_n rfl rfl ?_
            refine ezw_bipush (101) rfl rfl ?_
            refine ezw_call0_1 rfl (by omega) (ezu_at rfl) rfl rfl rfl rfl (ezt_m46_1 hS (by omega) ⟨by decide, by decide⟩ hn hc tp st) ?_
            rintro _ _ ⟨rfl, u10, hu10, p9_0, p9_1, rfl⟩
            refine ezw_if_eq rfl rfl ⟨by omega, by omega⟩ (fun h115_10 => ?_) (fun h115_10 => ?_)
            · refine ezw_aload_n rfl rfl ?_
              refine ezw_bipush (41) rfl rfl ?_
              refine ezw_call0_1 rfl (by omega) (ezu_at rfl) rfl rfl rfl rfl (ezt_m46_1 hS (by omega) ⟨by decide, by decide⟩ hn hc tp st) ?_
              rintro _ _ ⟨rfl, u12, hu12, p11_0, p11_1, rfl⟩
              refine ezw_if_eq rfl rfl ⟨by omega, by omega⟩ (fun h139_12 => ?_) (fun h139_12 => ?_)
              · refine ezw_aload_n rfl rfl ?_
                refine ezw_call0_0 rfl (by omega) (ezu_at rfl) rfl rfl rfl rfl (ezt_take hS (by omega) hn hc tp hw st) ?_
                rintro _ _ ⟨F13, rfl, hS, nF13, st_13, rfl⟩
                refine ezw_aload_n rfl rfl ?_
                refine ezw_aload_n rfl rfl ?_
                refine ezw_iconst (0) rfl rfl ?_
                refine ezw_iload_n rfl rfl ?_
                refine ezw_iconst (1) rfl rfl ?_
                refine ezw_iadd (k := dd + 1) rfl (by omega) ?_
                refine ezw_call0_3 rfl (by omega) (ezu_at rfl) rfl rfl rfl rfl ((i81 _ _ _ _ _ (ezp_t x.1, x.2) _ _ hS (by omega) (by rw [nF13 1 2 (by decide)]; exact hn) hc tp hw st_13 (ezt_LW_fr (F' := F13) (A' := A) lw (by rw [nF13 5 4 (by decide)]) rfl) (by omega))) ?_
                rintro _ _ ⟨F14, A14, rfl, hS, nF14, nA14, st_14, lw_14, rfl⟩
                refine ezw_aload_n rfl rfl ?_
                refine ezw_sipush (241) rfl rfl ?_
                refine ezw_call0_1 rfl (by omega) (ezu_at rfl) rfl rfl rfl rfl (ezt_m46_1 hS (by omega) ⟨by decide, by decide⟩ (by rw [nF14 1 2 (by decide), nF13 1 2 (by decide)]; exact hn) (by rw [nA14 2 (by decide)]; exact hc) tp st_14) ?_
                rintro _ _ ⟨rfl, u16, hu16, p15_0, p15_1, rfl⟩
                refine ezw_if_eq rfl rfl ⟨by omega, by omega⟩ (fun h183_16 => ?_) (fun h183_16 => ?_)
                · refine ezw_aload_n rfl rfl ?_
                  refine ezw_iconst (1) rfl rfl ?_
                  refine ezw_call0_1 rfl (by omega) (ezu_at rfl) rfl rfl rfl rfl (ezt_m50_1 hS (by omega) ⟨by decide, by decide⟩ (by rw [nF14 1 2 (by decide), nF13 1 2 (by decide)]; exact hn) (by rw [nA14 2 (by decide)]; exact hc) tp st_14 (by omega)) ?_
                  rintro _ _ ⟨F17, rfl, hS, nF17, st_17, rfl⟩
                  exact ezw_return rfl rfl ⟨F17, A14, rfl, hS, (fun p j h => by rw [nF17 p j (fun z => h (Or.inl ⟨z.1, (Or.inr (Or.inr (Or.inr (Or.inl z.2))))⟩)), nF14 p j (fun z => h (z.elim (fun y => (Or.inl ⟨y.1, y.2⟩)) (fun y => (Or.inr ⟨y.1, y.2⟩)))), nF13 p j (fun z => h (Or.inl ⟨z.1, (z.2.elim (fun y => (Or.inl y)) (fun y => (y.elim (fun y => (Or.inr (Or.inl y))) (fun y => (y.elim (fun y => (Or.inr (Or.inr (Or.inl y)))) (fun y => (y.elim (fun y => (Or.inr (Or.inr (Or.inr (Or.inr (Or.inl y)))))) (fun y => (y.elim (fun y => (Or.inr (Or.inr (Or.inr (Or.inr (Or.inr (Or.inl y))))))) (fun y => (Or.inr (Or.inr (Or.inr (Or.inr (Or.inr (Or.inr y))))))))))))))))⟩))]), (fun p h => by
                        funext j
                        rw [nA14 p (fun z => h (z))]), (by
                        first
                          | (exfalso; omega)
                          | (rw [hml, ezp_pt_s]
                             repeat (first | rw [if_pos (by omega)] | rw [if_neg (by omega)])
                             show ezt_ST c n (ezp_cl c _) _
                             unfold ezp_cl
                             rw [if_neg (fun z => (p15_1 (by omega)).elim (fun y => y z.1) (fun y => y z.2))]
                             exact st_17)), (by
                        first
                          | (exfalso; omega)
                          | (rw [hml, ezp_pt_s]
                             repeat (first | rw [if_pos (by omega)] | rw [if_neg (by omega)])
                             exact (ezt_LW_fr (F' := F17) (A' := A14) lw_14 (by rw [nF17 5 4 (by decide)]) rfl))), rfl⟩
                · refine ezw_aload_n rfl rfl ?_
                  refine ezw_call0_0 rfl (by omega) (ezu_at rfl) rfl rfl rfl rfl (ezt_take hS (by omega) (by rw [nF14 1 2 (by decide), nF13 1 2 (by decide)]; exact hn) (by rw [nA14 2 (by decide)]; exact hc) tp (by rw [nA14 3 (by decide)]; exact hw) st_14) ?_
                  rintro _ _ ⟨F18, rfl, hS, nF18, st_18, rfl⟩
                  refine ezw_goto rfl rfl ?_
                  exact ezw_return rfl rfl ⟨F18, A14, rfl, hS, (fun p j h => by rw [nF18 p j (fun z => h (Or.inl ⟨z.1, (z.2.elim (fun y => (Or.inl y)) (fun y => (y.elim (fun y => (Or.inr (Or.inl y))) (fun y => (y.elim (fun y => (Or.inr (Or.inr (Or.inl y)))) (fun y => (y.elim (fun y => (Or.inr (Or.inr (Or.inr (Or.inr (Or.inl y)))))) (fun y => (y.elim (fun y => (Or.inr (Or.inr (Or.inr (Or.inr (Or.inr (Or.inl y))))))) (fun y => (Or.inr (Or.inr (Or.inr (Or.inr (Or.inr (Or.inr y))))))))))))))))⟩)), nF14 p j (fun z => h (z.elim (fun y => (Or.inl ⟨y.1, y.2⟩)) (fun y => (Or.inr ⟨y.1, y.2⟩)))), nF13 p j (fun z => h (Or.inl ⟨z.1, (z.2.elim (fun y => (Or.inl y)) (fun y => (y.elim (fun y => (Or.inr (Or.inl y))) (fun y => (y.elim (fun y => (Or.inr (Or.inr (Or.inl y)))) (fun y => (y.elim (fun y => (Or.inr (Or.inr (Or.inr (Or.inr (Or.inl y)))))) (fun y => (y.elim (fun y => (Or.inr (Or.inr (Or.inr (Or.inr (Or.inr (Or.inl y))))))) (fun y => (Or.inr (Or.inr (Or.inr (Or.inr (Or.inr (Or.inr y))))))))))))))))⟩))]), (fun p h => by
                        funext j
                        rw [nA14 p (fun z => h (z))]), (by
                        first
                          | (exfalso; omega)
                          | (rw [hml, ezp_pt_s]
                             repeat (first | rw [if_pos (by omega)] | rw [if_neg (by omega)])
                             show ezt_ST c n (ezp_cl c _) _
                             unfold ezp_cl
                             rw [if_pos (p15_0 (by omega))]
                             exact st_18)), (by
                        first
                          | (exfalso; omega)
                          | (rw [hml, ezp_pt_s]
                             repeat (first | rw [if_pos (by omega)] | rw [if_neg (by omega)])
                             exact (ezt_LW_fr (F' := F18) (A' := A14) lw_14 (by rw [nF18 5 4 (by decide)]) rfl))), rfl⟩
              · refine ezw_aload_n rfl rfl ?_
                refine ezw_call0_0 rfl (by omega) (ezu_at rfl) rfl rfl rfl rfl (ezt_take hS (by omega) hn hc tp hw st) ?_
                rintro _ _ ⟨F19, rfl, hS, nF19, st_19, rfl⟩
                refine ezw_aload_n rfl rfl ?_
                refine ezw_aload_n rfl rfl ?_
                refine ezw_iload_n rfl rfl ?_
                refine ezw_iconst (1) rfl rfl ?_
                refine ezw_iadd (k := dd + 1) rfl (by omega) ?_
                refine ezw_call0_2 rfl (by omega) (ezu_at rfl) rfl rfl rfl rfl ((i82 _ _ _ _ _ (ezp_t x.1, x.2) _ _ hS (by omega) (by rw [nF19 1 2 (by decide)]; exact hn) hc tp hw st_19 (ezt_LW_fr (F' := F19) (A' := A) lw (by rw [nF19 5 4 (by decide)]) rfl) (by omega))) ?_
                rintro _ _ ⟨F20, A20, rfl, hS, nF20, nA20, st_20, lw_20, rfl⟩
                refine ezw_aload_n rfl rfl ?_
                refine ezw_bipush (-5) rfl rfl ?_
                refine ezw_call0_1 rfl (by omega) (ezu_at rfl) rfl rfl rfl rfl (ezt_m83_5 hS (by omega) ⟨by decide, by decide⟩ lw_20) ?_
                rintro _ _ ⟨F21, A21, rfl, hS, nF21, nA21, lw_21, rfl⟩
                refine ezw_goto rfl rfl ?_
                exact ezw_return rfl rfl ⟨F21, A21, rfl, hS, (fun p j h => by rw [nF21 p j (fun z => h (Or.inr ⟨z.1, z.2⟩)), nF20 p j (fun z => h (z.elim (fun y => (Or.inl ⟨y.1, y.2⟩)) (fun y => (Or.inr ⟨y.1, y.2⟩)))), nF19 p j (fun z => h (Or.inl ⟨z.1, (z.2.elim (fun y => (Or.inl y)) (fun y => (y.elim (fun y => (Or.inr (Or.inl y))) (fun y => (y.elim (fun y => (Or.inr (Or.inr (Or.inl y)))) (fun y => (y.elim (fun y => (Or.inr (Or.inr (Or.inr (Or.inr (Or.inl y)))))) (fun y => (y.elim (fun y => (Or.inr (Or.inr (Or.inr (Or.inr (Or.inr (Or.inl y))))))) (fun y => (Or.inr (Or.inr (Or.inr (Or.inr (Or.inr (Or.inr y))))))))))))))))⟩))]), (fun p h => by
                      funext j
                      rw [nA21 p (fun z => h (z)), nA20 p (fun z => h (z))]), (by
                      first
                        | (exfalso; omega)
                        | (rw [hml, ezp_pt_s]
                           repeat (first | rw [if_pos (by omega)] | rw [if_neg (by omega)])
                           exact (ezt_ST_fr st_20 (fun j j0 j1 => by rw [nF21 1 j (by omega)])))), (by
                      first
                        | (exfalso; omega)
                        | (rw [hml, ezp_pt_s]
                           repeat (first | rw [if_pos (by omega)] | rw [if_neg (by omega)])
                           exact lw_21)), rfl⟩
            · refine ezw_aload_n rfl rfl ?_
              refine ezw_aload_n rfl rfl ?_
              refine ezy_get_i hS rfl rfl rfl rfl rfl rfl (fun u22 hu22 ku22 eu22 => ?_)
              replace eu22 := eu22.symm
              subst eu22
              have ru22 : 0 ≤ (F 1 4) ∧ (F 1 4) ≤ 9999 := ku22
              have f4 := c4i (by omega) (by omega)
              refine ezw_call0_1 rfl (by omega) (ezu_at rfl) rfl rfl rfl rfl (ezt_m83_5 hS (by omega) hu22 lw) ?_
              rintro _ _ ⟨F23, A23, rfl, hS, nF23, nA23, lw_23, rfl⟩
              refine ezw_aload_n rfl rfl ?_
              refine ezw_call0_0 rfl (by omega) (ezu_at rfl) rfl rfl rfl rfl (ezt_take hS (by omega) (by rw [nF23 1 2 (by decide)]; exact hn) (by rw [nA23 2 (by decide)]; exact hc) tp (by rw [nA23 3 (by decide)]; exact hw) (ezt_ST_fr st (fun j j0 j1 => by rw [nF23 1 j (by omega)]))) ?_
              rintro _ _ ⟨F24, rfl, hS, nF24, st_24, rfl⟩
              refine ezw_goto rfl rfl ?_
              exact ezw_return rfl rfl ⟨F24, A23, rfl, hS, (fun p j h => by rw [nF24 p j (fun z => h (Or.inl ⟨z.1, (z.2.elim (fun y => (Or.inl y)) (fun y => (y.elim (fun y => (Or.inr (Or.inl y))) (fun y => (y.elim (fun y => (Or.inr (Or.inr (Or.inl y)))) (fun y => (y.elim (fun y => (Or.inr (Or.inr (Or.inr (Or.inr (Or.inl y)))))) (fun y => (y.elim (fun y => (Or.inr (Or.inr (Or.inr (Or.inr (Or.inr (Or.inl y))))))) (fun y => (Or.inr (Or.inr (Or.inr (Or.inr (Or.inr (Or.inr y))))))))))))))))⟩)), nF23 p j (fun z => h (Or.inr ⟨z.1, z.2⟩))]), (fun p h => by
                    funext j
                    rw [nA23 p (fun z => h (z))]), (by
                    first
                      | (exfalso; omega)
                      | (rw [hml, ezp_pt_s]
                         repeat (first | rw [if_pos (by omega)] | rw [if_neg (by omega)])
                         exact st_24)), (by
                    first
                      | (exfalso; omega)
                      | (rw [hml, ezp_pt_s]
                         repeat (first | rw [if_pos (by omega)] | rw [if_neg (by omega)])
                         have h7 := (ezt_LW_fr (F' := F24) (A' := A23) lw_23 (by rw [nF24 5 4 (by decide)]) rfl)
                         rw [show (F 1 4) = ezp_V c x.1.2 by omega] at h7
                         exact h7)), rfl⟩
          · refine ezw_aload_n rfl rfl ?_
            refine ezw_iconst (-1) rfl rfl ?_
            refine ezw_aload_n rfl rfl ?_
            refine ezy_get_i hS rfl rfl rfl rfl rfl rfl (fun u25 hu25 ku25 eu25 => ?_)
            replace eu25 := eu25.symm
            subst eu25
            refine ezw_isub (k := -(F 1 5) - 1) rfl (by omega) ?_
            have f5 := (c7i (by omega) (by omega)).2
            refine ezw_call0_1 rfl (by omega) (ezu_at rfl) rfl rfl rfl rfl (ezt_m83_5 hS (by omega) ⟨by omega, by omega⟩ lw) ?_
            rintro _ _ ⟨F26, A26, rfl, hS, nF26, nA26, lw_26, rfl⟩
            refine ezw_aload_n rfl rfl ?_
            refine ezw_call0_0 rfl (by omega) (ezu_at rfl) rfl rfl rfl rfl (ezt_take hS (by omega) (by rw [nF26 1 2 (by decide)]; exact hn) (by rw [nA26 2 (by decide)]; exact hc) tp (by rw [nA26 3 (by decide)]; exact hw) (ezt_ST_fr st (fun j j0 j1 => by rw [nF26 1 j (by omega)]))) ?_
            rintro _ _ ⟨F27, rfl, hS, nF27, st_27, rfl⟩
            refine ezw_goto rfl rfl ?_
            exact ezw_return rfl rfl ⟨F27, A26, rfl, hS, (fun p j h => by rw [nF27 p j (fun z => h (Or.inl ⟨z.1, (z.2.elim (fun y => (Or.inl y)) (fun y => (y.elim (fun y => (Or.inr (Or.inl y))) (fun y => (y.elim (fun y => (Or.inr (Or.inr (Or.inl y)))) (fun y => (y.elim (fun y => (Or.inr (Or.inr (Or.inr (Or.inr (Or.inl y)))))) (fun y => (y.elim (fun y => (Or.inr (Or.inr (Or.inr (Or.inr (Or.inr (Or.inl y))))))) (fun y => (Or.inr (Or.inr (Or.inr (Or.inr (Or.inr (Or.inr y))))))))))))))))⟩)), nF26 p j (fun z => h (Or.inr ⟨z.1, z.2⟩))]), (fun p h => by
                  funext j
                  rw [nA26 p (fun z => h (z))]), (by
                  first
                    | (exfalso; omega)
                    | (rw [hml, ezp_pt_s]
                       repeat (first | rw [if_pos (by omega)] | rw [if_neg (by omega)])
                       exact st_27)), (by
                  first
                    | (exfalso; omega)
                    | (rw [hml, ezp_pt_s]
                       repeat (first | rw [if_pos (by omega)] | rw [if_neg (by omega)])
                       have h7 := (ezt_LW_fr (F' := F27) (A' := A26) lw_26 (by rw [nF27 5 4 (by decide)]) rfl)
                       rw [show -(F 1 5) - 1 = -1 - (ezp_ix (ezp_W c x.1.2) - 44) by omega] at h7
                       exact h7)), rfl⟩
        · refine ezw_aload_n rfl rfl ?_
          refine ezw_iload rfl rfl ?_
          refine ezw_if_eq rfl rfl hy5 (fun h74_27 => ?_) (fun h74_27 => ?_)
          · refine ezw_iconst (1) rfl rfl ?_
            refine ezw_call0_1 rfl (by omega) (ezu_at rfl) rfl rfl rfl rfl (ezt_m50_1 hS (by omega) ⟨by decide, by decide⟩ hn hc tp st (by omega)) ?_
            rintro _ _ ⟨F28, rfl, hS, nF28, st_28, rfl⟩
            refine ezw_goto rfl rfl ?_
            exact ezw_return rfl rfl ⟨F28, A, rfl, hS, (fun p j h => by rw [nF28 p j (fun z => h (Or.inl ⟨z.1, (Or.inr (Or.inr (Or.inr (Or.inl z.2))))⟩))]), (fun _ _ => rfl), (by
                  first
                    | (exfalso; omega)
                    | (rw [hml, ezp_pt_s]
                       repeat (first | rw [if_pos (by omega)] | rw [if_neg (by omega)])
                       exact st_28)), (by
                  first
                    | (exfalso; omega)
                    | (rw [hml, ezp_pt_s]
                       repeat (first | rw [if_pos (by omega)] | rw [if_neg (by omega)])
                       exact (ezt_LW_fr (F' := F28) (A' := A) lw (by rw [nF28 5 4 (by decide)]) rfl))), rfl⟩
          · refine ezw_iconst (5) rfl rfl ?_
            refine ezw_goto rfl rfl ?_
            refine ezw_call0_1 rfl (by omega) (ezu_at rfl) rfl rfl rfl rfl (ezt_m50_1 hS (by omega) ⟨by decide, by decide⟩ hn hc tp st (by omega)) ?_
            rintro _ _ ⟨F29, rfl, hS, nF29, st_29, rfl⟩
            refine ezw_goto rfl rfl ?_
            exact ezw_return rfl rfl ⟨F29, A, rfl, hS, (fun p j h => by rw [nF29 p j (fun z => h (Or.inl ⟨z.1, (Or.inr (Or.inr (Or.inr (Or.inl z.2))))⟩))]), (fun _ _ => rfl), (by
                  first
                    | (exfalso; omega)
                    | (rw [hml, ezp_pt_s]
                       repeat (first | rw [if_pos (by omega)] | rw [if_neg (by omega)])
                       exact st_29)), (by
                  first
                    | (exfalso; omega)
                    | (rw [hml, ezp_pt_s]
                       repeat (first | rw [if_pos (by omega)] | rw [if_neg (by omega)])
                       exact (ezt_LW_fr (F' := F29) (A' := A) lw (by rw [nF29 5 4 (by decide)]) rfl))), rfl⟩
    refine ezw_if_ne rfl rfl hy3 (fun h23_4 => ?_) (fun h23_4 => ?_)
    · refine ezw_iconst (1) rfl rfl ?_
      refine ezw_goto rfl rfl ?_
      exact ezw_keepE [true, true, true, true, false] (J59_6 (1) ⟨by decide, by decide⟩ (by omega))
    · refine ezw_aload_n rfl rfl ?_
      refine ezw_bipush (101) rfl rfl ?_
      refine ezw_call0_1 rfl (by omega) (ezu_at rfl) rfl rfl rfl rfl (ezt_m46_1 hS (by omega) ⟨by decide, by decide⟩ hn hc tp st) ?_
      rintro _ _ ⟨rfl, u31, hu31, p30_0, p30_1, rfl⟩
      refine ezw_if_ne rfl rfl ⟨by omega, by omega⟩ (fun h32_31 => ?_) (fun h32_31 => ?_)
      · refine ezw_iconst (1) rfl rfl ?_
        refine ezw_goto rfl rfl ?_
        exact ezw_keepE [true, true, true, true, false] (J59_6 (1) ⟨by decide, by decide⟩ (by omega))
      · refine ezw_aload_n rfl rfl ?_
        refine ezw_bipush (41) rfl rfl ?_
        refine ezw_call0_1 rfl (by omega) (ezu_at rfl) rfl rfl rfl rfl (ezt_m46_1 hS (by omega) ⟨by decide, by decide⟩ hn hc tp st) ?_
        rintro _ _ ⟨rfl, u33, hu33, p32_0, p32_1, rfl⟩
        refine ezw_if_ne rfl rfl ⟨by omega, by omega⟩ (fun h41_33 => ?_) (fun h41_33 => ?_)
        · refine ezw_iconst (1) rfl rfl ?_
          refine ezw_goto rfl rfl ?_
          exact ezw_keepE [true, true, true, true, false] (J59_6 (1) ⟨by decide, by decide⟩ (by omega))
        · refine ezw_aload_n rfl rfl ?_
          refine ezw_sipush (240) rfl rfl ?_
          refine ezw_call0_1 rfl (by omega) (ezu_at rfl) rfl rfl rfl rfl (ezt_m46_1 hS (by omega) ⟨by decide, by decide⟩ hn hc tp st) ?_
          rintro _ _ ⟨rfl, u35, hu35, p34_0, p34_1, rfl⟩
          refine ezw_if_eq rfl rfl ⟨by omega, by omega⟩ (fun h51_35 => ?_) (fun h51_35 => ?_)
          · refine ezw_iconst (0) rfl rfl ?_
            exact ezw_keepE [true, true, true, true, false] (J59_6 (0) ⟨by decide, by decide⟩ (by omega))
          · refine ezw_iconst (1) rfl rfl ?_
            refine ezw_goto rfl rfl ?_
            exact ezw_keepE [true, true, true, true, false] (J59_6 (1) ⟨by decide, by decide⟩ (by omega))
  refine ezw_if_eq rfl rfl ⟨by omega, by omega⟩ (fun h6_2 => ?_) (fun h6_2 => ?_)
  · refine ezw_iconst (0) rfl rfl ?_
    exact ezw_keepE [true, true, true, false, false] (J21_4 (0) ⟨by decide, by decide⟩ (by omega))
  · refine ezw_aload_n rfl rfl ?_
    have f5 := (c7i (p1_0 (by omega)).1 (p1_0 (by omega)).2).2
    refine ezy_get_i hS rfl rfl rfl rfl rfl rfl (fun u36 hu36 ku36 eu36 => ?_)
    replace eu36 := eu36.symm
    subst eu36
    refine ezw_if_lt rfl rfl hu36 (fun h13_36 => ?_) (fun h13_36 => ?_)
    · refine ezw_iconst (0) rfl rfl ?_
      exact ezw_keepE [true, true, true, false, false] (J21_4 (0) ⟨by decide, by decide⟩ (by omega))
    · refine ezw_iconst (1) rfl rfl ?_
      refine ezw_goto rfl rfl ?_
      exact ezw_keepE [true, true, true, false, false] (J21_4 (1) ⟨by decide, by decide⟩ (by omega))
def ezt_m81_5_1_v4_vSQ (e : Bool × Bool) (F : Nat → Nat → Int) (A : Nat → Int → Int) (ml : Nat) (mm : Nat) (dd : Int) (c : Int → Int) (n : Int) (x : ezp_X) : Option ezq_V → (Nat → ezq_C) → Prop := fun v g' => ∃ (F' : Nat → Nat → Int) (A' : Nat → Int → Int), ezu_g e F' A' = g' ∧ ezs_T F' A' ∧ (∀ p j, ¬ (p = 1 ∧ (j = 3 ∨ j = 4 ∨ j = 5 ∨ j = 6 ∨ j = 7 ∨ j = 8 ∨ j = 9) ∨ p = 5 ∧ (j = 4)) → F' p j = F p j) ∧ (∀ p, ¬ (p = 6) → A' p = A p) ∧ (ezt_ST c n (ezp_rk c (ezp_pt c ml) 0 x).1 F') ∧ (ezt_LW 5 (ezp_rk c (ezp_pt c ml) 0 x).2 F' A') ∧ none = v
theorem ezt_m81_5_1_v4_vS {ml : Nat} {mm : Nat} {dd : Int} {c : Int → Int} {n : Int} {x : ezp_X} {F : Nat → Nat → Int} {A : Nat → Int → Int} (hS : ezs_T F A) (hd : 6 * mm + 12 ≤ d) (hml : ml = mm + 1) (hm4 : mm ≤ 4) (hdd : dd = 5 - (ml : Int)) (i82 : ezt_I82_5 l ρ B xa Hb D cA mm) (i81 : ezt_I81_5 l ρ B xa Hb D cA mm) (hn : F 1 2 = n) (hc : c = ezp_ch (A 2) n) (tp : ezp_tp c n) (hw : ∀ j, 0 ≤ j → j < 48 → A 3 j = ezl_cw.getD j.toNat 0) (st : ezt_ST c n x.1 F) (lw : ezt_LW 5 x.2 F A) : ezw_C l ρ B xa Hb D cA 81 d [ezw_p 5, ezw_p 1, ezw_i (4), ezw_i dd] (ezu_g e F A) (ezt_m81_5_1_v4_vSQ e F A ml mm dd c n x) := by
  refine ezw_met (k := 2) rfl rfl ?_
  refine ezw_iload_n rfl rfl ?_
  refine ezw_iconst (4) rfl rfl ?_
  refine ezw_icmp_lt rfl rfl ⟨by decide, by decide⟩ ⟨by decide, by decide⟩ (fun h2_0 => absurd h2_0 (by omega)) (fun h2_0 => ?_)
  refine ezw_aload_n rfl rfl ?_
  refine ezw_aload_n rfl rfl ?_
  refine ezw_iload_n rfl rfl ?_
  refine ezw_call0_2 rfl (by omega) (ezu_at rfl) rfl rfl rfl rfl (ezt_m82_5_1_vS (x := x) hS (by omega) hml hm4 hdd i82 i81 hn hc tp hw st lw) ?_
  rintro _ _ ⟨F1, A1, rfl, hS, nF1, nA1, st_1, lw_1, rfl⟩
  exact ezw_return rfl rfl ⟨F1, A1, rfl, hS, (fun p j h => by rw [nF1 p j (fun z => h (z.elim (fun y => (Or.inl ⟨y.1, y.2⟩)) (fun y => (Or.inr ⟨y.1, y.2⟩))))]), (fun p h => by
        funext j
        rw [nA1 p (fun z => h (z))]), st_1, lw_1, rfl⟩
def ezt_m81_5_1_v3_vSQ (e : Bool × Bool) (F : Nat → Nat → Int) (A : Nat → Int → Int) (ml : Nat) (mm : Nat) (dd : Int) (c : Int → Int) (n : Int) (x : ezp_X) : Option ezq_V → (Nat → ezq_C) → Prop := fun v g' => ∃ (F' : Nat → Nat → Int) (A' : Nat → Int → Int), ezu_g e F' A' = g' ∧ ezs_T F' A' ∧ (∀ p j, ¬ (p = 1 ∧ (j = 3 ∨ j = 4 ∨ j = 5 ∨ j = 6 ∨ j = 7 ∨ j = 8 ∨ j = 9) ∨ p = 5 ∧ (j = 4)) → F' p j = F p j) ∧ (∀ p, ¬ (p = 6) → A' p = A p) ∧ (ezt_ST c n (ezp_rk c (ezp_pt c ml) 1 x).1 F') ∧ (ezt_LW 5 (ezp_rk c (ezp_pt c ml) 1 x).2 F' A') ∧ none = v
theorem ezt_m81_5_1_v3_vS {ml : Nat} {mm : Nat} {dd : Int} {c : Int → Int} {n : Int} {x : ezp_X} {F : Nat → Nat → Int} {A : Nat → Int → Int} (hS : ezs_T F A) (hd : 6 * mm + 13 ≤ d) (hml : ml = mm + 1) (hm4 : mm ≤ 4) (hdd : dd = 5 - (ml : Int)) (i82 : ezt_I82_5 l ρ B xa Hb D cA mm) (i81 : ezt_I81_5 l ρ B xa Hb D cA mm) (hn : F 1 2 = n) (hc : c = ezp_ch (A 2) n) (tp : ezp_tp c n) (hw : ∀ j, 0 ≤ j → j < 48 → A 3 j = ezl_cw.getD j.toNat 0) (st : ezt_ST c n x.1 F) (lw : ezt_LW 5 x.2 F A) : ezw_C l ρ B xa Hb D cA 81 d [ezw_p 5, ezw_p 1, ezw_i (3), ezw_i dd] (ezu_g e F A) (ezt_m81_5_1_v3_vSQ e F A ml mm dd c n x) := by
  refine ezw_met (k := 2) rfl rfl ?_
  refine ezw_iload_n rfl rfl ?_
  refine ezw_iconst (4) rfl rfl ?_
  refine ezw_icmp_lt rfl rfl ⟨by decide, by decide⟩ ⟨by decide, by decide⟩ (fun h2_0 => ?_) (fun h2_0 => absurd h2_0 (by omega))
  refine ezw_aload_n rfl rfl ?_
  refine ezw_aload_n rfl rfl ?_
  refine ezw_iload_n rfl rfl ?_
  refine ezw_iconst (1) rfl rfl ?_
  refine ezw_iadd (k := (4)) rfl (by omega) ?_
  refine ezw_iload_n rfl rfl ?_
  refine ezw_call0_3 rfl (by omega) (ezu_at rfl) rfl rfl rfl rfl (ezt_m81_5_1_v4_vS (x := x) hS (by omega) hml hm4 hdd i82 i81 hn hc tp hw st lw) ?_
  rintro _ _ ⟨F1, A1, rfl, hS, nF1, nA1, st_1, lw_1, rfl⟩
  refine ezw_iconst (0) rfl rfl ?_
  refine ezw_istore rfl rfl ?_
  have L24_3 : ∀ c2 : Int, ezw_in c2 → ∀ F_3 : Nat → Nat → Int, ∀ A_3 : Nat → Int → Int, ezs_T F_3 A_3 → (∀ p j, ¬ (p = 1 ∧ (j = 3 ∨ j = 4 ∨ j = 5 ∨ j = 6 ∨ j = 7 ∨ j = 8 ∨ j = 9) ∨ p = 5 ∧ (j = 4)) → F_3 p j = F1 p j) → (∀ p, ¬ (p = 6) → A_3 p = A1 p) → ((0) ≤ c2) → (∃ x1, ezp_rk c (ezp_pt c ml) 1 x = ezp_lp c 3 (ezp_rk c (ezp_pt c ml) 0) (1000 - c2).toNat x1 ∧ ezt_ST c n x1.1 F_3 ∧ ezt_LW 5 x1.2 F_3 A_3) → ezw_E l ρ B xa Hb D cA d ezq_re81 (ezt_m81_5_1_v3_vSQ e F A ml mm dd c n x) 24 [some (ezw_p 5), some (ezw_p 1), some (ezw_i (3)), some (ezw_i dd), some (ezw_i c2), none] [] (ezu_g e F_3 A_3) := by
    refine ezs_up ?_
    intro c2 hc2 ihc2 F_3 A_3 hS nF_3 nA_3 g_3 iv_3
    obtain ⟨x1, hq, st1, lw1⟩ := iv_3
    have hs1 := st1.1
    refine ezw_iload rfl rfl ?_
    refine ezw_sipush (1000) rfl rfl ?_
    refine ezw_icmp_ge rfl rfl hc2 ⟨by decide, by decide⟩ (fun h29_3 => ?_) (fun h29_3 => ?_)
    · exact ezw_return rfl rfl ⟨F_3, A_3, rfl, hS, (fun p j h => by rw [nF_3 p j (fun z => h (z.elim (fun y => (Or.inl ⟨y.1, y.2⟩)) (fun y => (Or.inr ⟨y.1, y.2⟩)))), nF1 p j (fun z => h (z.elim (fun y => (Or.inl ⟨y.1, y.2⟩)) (fun y => (Or.inr ⟨y.1, y.2⟩))))]), (fun p h => by
            funext j
            rw [nA_3 p (fun z => h (z)), nA1 p (fun z => h (z))]), (by
            rw [hq, show (1000 - c2).toNat = 0 by omega]
            exact st1), (by
            rw [hq, show (1000 - c2).toNat = 0 by omega]
            exact lw1), rfl⟩
    · refine ezw_aload_n rfl rfl ?_
      refine ezw_call0_0 rfl (by omega) (ezu_at rfl) rfl rfl rfl rfl (ezt_m45_1 hS (by omega)) ?_
      rintro _ _ ⟨rfl, u5, hu5, p4_0, p4_1, rfl⟩
      refine ezw_if_eq rfl rfl ⟨by omega, by omega⟩ (fun h36_5 => ?_) (fun h36_5 => ?_)
      · exact ezw_return rfl rfl ⟨F_3, A_3, rfl, hS, (fun p j h => by rw [nF_3 p j (fun z => h (z.elim (fun y => (Or.inl ⟨y.1, y.2⟩)) (fun y => (Or.inr ⟨y.1, y.2⟩)))), nF1 p j (fun z => h (z.elim (fun y => (Or.inl ⟨y.1, y.2⟩)) (fun y => (Or.inr ⟨y.1, y.2⟩))))]), (fun p h => by
              funext j
              rw [nA_3 p (fun z => h (z)), nA1 p (fun z => h (z))]), (by
              rw [hq, ezp_lp_n (by have h8 := p4_1 (by omega); omega)]
              exact st1), (by
              rw [hq, ezp_lp_n (by have h8 := p4_1 (by omega); omega)]
              exact lw1), rfl⟩
      · have z1 : x1.1.1 = 0 := by have h0 := p4_0 (by omega); omega
        have k3 := (st1.2.2.1 z1).2.2.1
        have hm : (1000 - c2).toNat = (1000 - (c2 + 1)).toNat + 1 := by omega
        refine ezw_aload_n rfl rfl ?_
        refine ezy_get_i hS rfl rfl rfl rfl rfl rfl (fun u6 hu6 ku6 eu6 => ?_)
        replace eu6 := eu6.symm
        subst eu6
        refine ezw_iload_n rfl rfl ?_
        refine ezw_call2_2 rfl (by omega) rfl rfl (ezt_m84_v3 hS (by omega) hu6) ?_
        rintro _ _ ⟨rfl, u8, hu8, v_7, rfl⟩
        refine ezw_istore rfl rfl ?_
        have eo : u8 = ezp_op (ezp_K c x1.1.2) 3 := by rw [← k3]; exact v_7
        refine ezw_iload rfl rfl ?_
        refine ezw_if_ne rfl rfl hu8 (fun h51_8 => ?_) (fun h51_8 => ?_)
        · refine ezw_aload_n rfl rfl ?_
          refine ezw_call0_0 rfl (by omega) (ezu_at rfl) rfl rfl rfl rfl (ezt_take hS (by omega) (by rw [nF_3 1 2 (by decide), nF1 1 2 (by decide)]; exact hn) (by rw [nA_3 2 (by decide), nA1 2 (by decide)]; exact hc) tp (by rw [nA_3 3 (by decide), nA1 3 (by decide)]; exact hw) st1) ?_
          rintro _ _ ⟨F9, rfl, hS, nF9, st_9, rfl⟩
          refine ezw_aload_n rfl rfl ?_
          refine ezw_aload_n rfl rfl ?_
          refine ezw_iload_n rfl rfl ?_
          refine ezw_iconst (1) rfl rfl ?_
          refine ezw_iadd (k := (4)) rfl (by omega) ?_
          refine ezw_iload_n rfl rfl ?_
          refine ezw_call0_3 rfl (by omega) (ezu_at rfl) rfl rfl rfl rfl (ezt_m81_5_1_v4_vS (x := (ezp_t x1.1, x1.2)) hS (by omega) hml hm4 hdd i82 i81 (by rw [nF9 1 2 (by decide), nF_3 1 2 (by decide), nF1 1 2 (by decide)]; exact hn) (by rw [nA_3 2 (by decide), nA1 2 (by decide)]; exact hc) tp (by rw [nA_3 3 (by decide), nA1 3 (by decide)]; exact hw) st_9 (ezt_LW_fr (F' := F9) (A' := A_3) lw1 (by rw [nF9 5 4 (by decide)]) rfl)) ?_
          rintro _ _ ⟨F10, A10, rfl, hS, nF10, nA10, st_10, lw_10, rfl⟩
          refine ezw_aload_n rfl rfl ?_
          refine ezw_iload rfl rfl ?_
          refine ezw_call0_1 rfl (by omega) (ezu_at rfl) rfl rfl rfl rfl (ezt_m83_5 hS (by omega) hu8 lw_10) ?_
          rintro _ _ ⟨F11, A11, rfl, hS, nF11, nA11, lw_11, rfl⟩
          refine ezw_iload_n rfl rfl ?_
          refine ezw_iconst (1) rfl rfl ?_
          refine ezw_icmp_ne rfl rfl ⟨by decide, by decide⟩ ⟨by decide, by decide⟩ (fun h76_11 => ?_) (fun h76_11 => absurd h76_11 (by omega))
          refine ezw_iinc (k := c2 + 1) (1) rfl rfl rfl (by omega) rfl ?_
          refine ezw_goto rfl rfl ?_
          exact ezw_keepE [true, true, true, true, true, false] (ihc2 (c2 + 1) (by omega) ⟨by omega, by omega⟩ F11 A11 hS (fun p j h => by rw [nF11 p j (fun z => h (Or.inr ⟨z.1, z.2⟩)), nF10 p j (fun z => h (z.elim (fun y => (Or.inl ⟨y.1, y.2⟩)) (fun y => (Or.inr ⟨y.1, y.2⟩)))), nF9 p j (fun z => h (Or.inl ⟨z.1, (z.2.elim (fun y => (Or.inl y)) (fun y => (y.elim (fun y => (Or.inr (Or.inl y))) (fun y => (y.elim (fun y => (Or.inr (Or.inr (Or.inl y)))) (fun y => (y.elim (fun y => (Or.inr (Or.inr (Or.inr (Or.inr (Or.inl y)))))) (fun y => (y.elim (fun y => (Or.inr (Or.inr (Or.inr (Or.inr (Or.inr (Or.inl y))))))) (fun y => (Or.inr (Or.inr (Or.inr (Or.inr (Or.inr (Or.inr y))))))))))))))))⟩)), nF_3 p j (fun z => h (z.elim (fun y => (Or.inl ⟨y.1, y.2⟩)) (fun y => (Or.inr ⟨y.1, y.2⟩))))]) (fun p h => by
                funext j
                rw [nA11 p (fun z => h (z)), nA10 p (fun z => h (z)), nA_3 p (fun z => h (z))]) (by omega) (⟨ezp_l1 c 3 (ezp_rk c (ezp_pt c ml) 0) x1, (by rw [hq, hm, ezp_lp_s z1 (by omega) (by decide), show (1000 - (c2 + 1)).toNat = (1000 - (c2 + 1)).toNat by omega]), (ezt_ST_fr st_10 (fun j j0 j1 => by rw [nF11 1 j (by omega)])), (by have h7 := lw_11; rw [eo] at h7; exact h7)⟩))
        · exact ezw_return rfl rfl ⟨F_3, A_3, rfl, hS, (fun p j h => by rw [nF_3 p j (fun z => h (z.elim (fun y => (Or.inl ⟨y.1, y.2⟩)) (fun y => (Or.inr ⟨y.1, y.2⟩)))), nF1 p j (fun z => h (z.elim (fun y => (Or.inl ⟨y.1, y.2⟩)) (fun y => (Or.inr ⟨y.1, y.2⟩))))]), (fun p h => by
                funext j
                rw [nA_3 p (fun z => h (z)), nA1 p (fun z => h (z))]), (by
                rw [hq, hm, ezp_lp_0 z1 (by omega)]
                exact st1), (by
                rw [hq, hm, ezp_lp_0 z1 (by omega)]
                exact lw1), rfl⟩
  exact ezw_keepE [true, true, true, true, true, false] (L24_3 (0) ⟨by decide, by decide⟩ F1 A1 hS (fun _ _ _ => rfl) (fun _ _ => rfl) (by omega) (⟨(ezp_rk c (ezp_pt c ml) 0) x, rfl, st_1, lw_1⟩))
def ezt_m81_5_1_v2_vSQ (e : Bool × Bool) (F : Nat → Nat → Int) (A : Nat → Int → Int) (ml : Nat) (mm : Nat) (dd : Int) (c : Int → Int) (n : Int) (x : ezp_X) : Option ezq_V → (Nat → ezq_C) → Prop := fun v g' => ∃ (F' : Nat → Nat → Int) (A' : Nat → Int → Int), ezu_g e F' A' = g' ∧ ezs_T F' A' ∧ (∀ p j, ¬ (p = 1 ∧ (j = 3 ∨ j = 4 ∨ j = 5 ∨ j = 6 ∨ j = 7 ∨ j = 8 ∨ j = 9) ∨ p = 5 ∧ (j = 4)) → F' p j = F p j) ∧ (∀ p, ¬ (p = 6) → A' p = A p) ∧ (ezt_ST c n (ezp_rk c (ezp_pt c ml) 2 x).1 F') ∧ (ezt_LW 5 (ezp_rk c (ezp_pt c ml) 2 x).2 F' A') ∧ none = v
theorem ezt_m81_5_1_v2_vS {ml : Nat} {mm : Nat} {dd : Int} {c : Int → Int} {n : Int} {x : ezp_X} {F : Nat → Nat → Int} {A : Nat → Int → Int} (hS : ezs_T F A) (hd : 6 * mm + 14 ≤ d) (hml : ml = mm + 1) (hm4 : mm ≤ 4) (hdd : dd = 5 - (ml : Int)) (i82 : ezt_I82_5 l ρ B xa Hb D cA mm) (i81 : ezt_I81_5 l ρ B xa Hb D cA mm) (hn : F 1 2 = n) (hc : c = ezp_ch (A 2) n) (tp : ezp_tp c n) (hw : ∀ j, 0 ≤ j → j < 48 → A 3 j = ezl_cw.getD j.toNat 0) (st : ezt_ST c n x.1 F) (lw : ezt_LW 5 x.2 F A) : ezw_C l ρ B xa Hb D cA 81 d [ezw_p 5, ezw_p 1, ezw_i (2), ezw_i dd] (ezu_g e F A) (ezt_m81_5_1_v2_vSQ e F A ml mm dd c n x) := by
  refine ezw_met (k := 2) rfl rfl ?_
  refine ezw_iload_n rfl rfl ?_
  refine ezw_iconst (4) rfl rfl ?_
  refine ezw_icmp_lt rfl rfl ⟨by decide, by decide⟩ ⟨by decide, by decide⟩ (fun h2_0 => ?_) (fun h2_0 => absurd h2_0 (by omega))
  refine ezw_aload_n rfl rfl ?_
  refine ezw_aload_n rfl rfl ?_
  refine ezw_iload_n rfl rfl ?_
  refine ezw_iconst (1) rfl rfl ?_
  refine ezw_iadd (k := (3)) rfl (by omega) ?_
  refine ezw_iload_n rfl rfl ?_
  refine ezw_call0_3 rfl (by omega) (ezu_at rfl) rfl rfl rfl rfl (ezt_m81_5_1_v3_vS (x := x) hS (by omega) hml hm4 hdd i82 i81 hn hc tp hw st lw) ?_
  rintro _ _ ⟨F1, A1, rfl, hS, nF1, nA1, st_1, lw_1, rfl⟩
  refine ezw_iconst (0) rfl rfl ?_
  refine ezw_istore rfl rfl ?_
  have L24_3 : ∀ c2 : Int, ezw_in c2 → ∀ F_3 : Nat → Nat → Int, ∀ A_3 : Nat → Int → Int, ezs_T F_3 A_3 → (∀ p j, ¬ (p = 1 ∧ (j = 3 ∨ j = 4 ∨ j = 5 ∨ j = 6 ∨ j = 7 ∨ j = 8 ∨ j = 9) ∨ p = 5 ∧ (j = 4)) → F_3 p j = F1 p j) → (∀ p, ¬ (p = 6) → A_3 p = A1 p) → ((0) ≤ c2) → (∃ x1, ezp_rk c (ezp_pt c ml) 2 x = ezp_lp c 2 (ezp_rk c (ezp_pt c ml) 1) (1000 - c2).toNat x1 ∧ ezt_ST c n x1.1 F_3 ∧ ezt_LW 5 x1.2 F_3 A_3) → ezw_E l ρ B xa Hb D cA d ezq_re81 (ezt_m81_5_1_v2_vSQ e F A ml mm dd c n x) 24 [some (ezw_p 5), some (ezw_p 1), some (ezw_i (2)), some (ezw_i dd), some (ezw_i c2), none] [] (ezu_g e F_3 A_3) := by
    refine ezs_up ?_
    intro c2 hc2 ihc2 F_3 A_3 hS nF_3 nA_3 g_3 iv_3
    obtain ⟨x1, hq, st1, lw1⟩ := iv_3
    have hs1 := st1.1
    refine ezw_iload rfl rfl ?_
    refine ezw_sipush (1000) rfl rfl ?_
    refine ezw_icmp_ge rfl rfl hc2 ⟨by decide, by decide⟩ (fun h29_3 => ?_) (fun h29_3 => ?_)
    · exact ezw_return rfl rfl ⟨F_3, A_3, rfl, hS, (fun p j h => by rw [nF_3 p j (fun z => h (z.elim (fun y => (Or.inl ⟨y.1, y.2⟩)) (fun y => (Or.inr ⟨y.1, y.2⟩)))), nF1 p j (fun z => h (z.elim (fun y => (Or.inl ⟨y.1, y.2⟩)) (fun y => (Or.inr ⟨y.1, y.2⟩))))]), (fun p h => by
            funext j
            rw [nA_3 p (fun z => h (z)), nA1 p (fun z => h (z))]), (by
            rw [hq, show (1000 - c2).toNat = 0 by omega]
            exact st1), (by
            rw [hq, show (1000 - c2).toNat = 0 by omega]
            exact lw1), rfl⟩
    · refine ezw_aload_n rfl rfl ?_
      refine ezw_call0_0 rfl (by omega) (ezu_at rfl) rfl rfl rfl rfl (ezt_m45_1 hS (by omega)) ?_
      rintro _ _ ⟨rfl, u5, hu5, p4_0, p4_1, rfl⟩
      refine ezw_if_eq rfl rfl ⟨by omega, by omega⟩ (fun h36_5 => ?_) (fun h36_5 => ?_)
      · exact ezw_return rfl rfl ⟨F_3, A_3, rfl, hS, (fun p j h => by rw [nF_3 p j (fun z => h (z.elim (fun y => (Or.inl ⟨y.1, y.2⟩)) (fun y => (Or.inr ⟨y.1, y.2⟩)))), nF1 p j (fun z => h (z.elim (fun y => (Or.inl ⟨y.1, y.2⟩)) (fun y => (Or.inr ⟨y.1, y.2⟩))))]), (fun p h => by
              funext j
              rw [nA_3 p (fun z => h (z)), nA1 p (fun z => h (z))]), (by
              rw [hq, ezp_lp_n (by have h8 := p4_1 (by omega); omega)]
              exact st1), (by
              rw [hq, ezp_lp_n (by have h8 := p4_1 (by omega); omega)]
              exact lw1), rfl⟩
      · have z1 : x1.1.1 = 0 := by have h0 := p4_0 (by omega); omega
        have k3 := (st1.2.2.1 z1).2.2.1
        have hm : (1000 - c2).toNat = (1000 - (c2 + 1)).toNat + 1 := by omega
        refine ezw_aload_n rfl rfl ?_
        refine ezy_get_i hS rfl rfl rfl rfl rfl rfl (fun u6 hu6 ku6 eu6 => ?_)
        replace eu6 := eu6.symm
        subst eu6
        refine ezw_iload_n rfl rfl ?_
        refine ezw_call2_2 rfl (by omega) rfl rfl (ezt_m84_v2 hS (by omega) hu6) ?_
        rintro _ _ ⟨rfl, u8, hu8, v_7, rfl⟩
        refine ezw_istore rfl rfl ?_
        have eo : u8 = ezp_op (ezp_K c x1.1.2) 2 := by rw [← k3]; exact v_7
        refine ezw_iload rfl rfl ?_
        refine ezw_if_ne rfl rfl hu8 (fun h51_8 => ?_) (fun h51_8 => ?_)
        · refine ezw_aload_n rfl rfl ?_
          refine ezw_call0_0 rfl (by omega) (ezu_at rfl) rfl rfl rfl rfl (ezt_take hS (by omega) (by rw [nF_3 1 2 (by decide), nF1 1 2 (by decide)]; exact hn) (by rw [nA_3 2 (by decide), nA1 2 (by decide)]; exact hc) tp (by rw [nA_3 3 (by decide), nA1 3 (by decide)]; exact hw) st1) ?_
          rintro _ _ ⟨F9, rfl, hS, nF9, st_9, rfl⟩
          refine ezw_aload_n rfl rfl ?_
          refine ezw_aload_n rfl rfl ?_
          refine ezw_iload_n rfl rfl ?_
          refine ezw_iconst (1) rfl rfl ?_
          refine ezw_iadd (k := (3)) rfl (by omega) ?_
          refine ezw_iload_n rfl rfl ?_
          refine ezw_call0_3 rfl (by omega) (ezu_at rfl) rfl rfl rfl rfl (ezt_m81_5_1_v3_vS (x := (ezp_t x1.1, x1.2)) hS (by omega) hml hm4 hdd i82 i81 (by rw [nF9 1 2 (by decide), nF_3 1 2 (by decide), nF1 1 2 (by decide)]; exact hn) (by rw [nA_3 2 (by decide), nA1 2 (by decide)]; exact hc) tp (by rw [nA_3 3 (by decide), nA1 3 (by decide)]; exact hw) st_9 (ezt_LW_fr (F' := F9) (A' := A_3) lw1 (by rw [nF9 5 4 (by decide)]) rfl)) ?_
          rintro _ _ ⟨F10, A10, rfl, hS, nF10, nA10, st_10, lw_10, rfl⟩
          refine ezw_aload_n rfl rfl ?_
          refine ezw_iload rfl rfl ?_
          refine ezw_call0_1 rfl (by omega) (ezu_at rfl) rfl rfl rfl rfl (ezt_m83_5 hS (by omega) hu8 lw_10) ?_
          rintro _ _ ⟨F11, A11, rfl, hS, nF11, nA11, lw_11, rfl⟩
          refine ezw_iload_n rfl rfl ?_
          refine ezw_iconst (1) rfl rfl ?_
          refine ezw_icmp_ne rfl rfl ⟨by decide, by decide⟩ ⟨by decide, by decide⟩ (fun h76_11 => ?_) (fun h76_11 => absurd h76_11 (by omega))
          refine ezw_iinc (k := c2 + 1) (1) rfl rfl rfl (by omega) rfl ?_
          refine ezw_goto rfl rfl ?_
          exact ezw_keepE [true, true, true, true, true, false] (ihc2 (c2 + 1) (by omega) ⟨by omega, by omega⟩ F11 A11 hS (fun p j h => by rw [nF11 p j (fun z => h (Or.inr ⟨z.1, z.2⟩)), nF10 p j (fun z => h (z.elim (fun y => (Or.inl ⟨y.1, y.2⟩)) (fun y => (Or.inr ⟨y.1, y.2⟩)))), nF9 p j (fun z => h (Or.inl ⟨z.1, (z.2.elim (fun y => (Or.inl y)) (fun y => (y.elim (fun y => (Or.inr (Or.inl y))) (fun y => (y.elim (fun y => (Or.inr (Or.inr (Or.inl y)))) (fun y => (y.elim (fun y => (Or.inr (Or.inr (Or.inr (Or.inr (Or.inl y)))))) (fun y => (y.elim (fun y => (Or.inr (Or.inr (Or.inr (Or.inr (Or.inr (Or.inl y))))))) (fun y => (Or.inr (Or.inr (Or.inr (Or.inr (Or.inr (Or.inr y))))))))))))))))⟩)), nF_3 p j (fun z => h (z.elim (fun y => (Or.inl ⟨y.1, y.2⟩)) (fun y => (Or.inr ⟨y.1, y.2⟩))))]) (fun p h => by
                funext j
                rw [nA11 p (fun z => h (z)), nA10 p (fun z => h (z)), nA_3 p (fun z => h (z))]) (by omega) (⟨ezp_l1 c 2 (ezp_rk c (ezp_pt c ml) 1) x1, (by rw [hq, hm, ezp_lp_s z1 (by omega) (by decide), show (1000 - (c2 + 1)).toNat = (1000 - (c2 + 1)).toNat by omega]), (ezt_ST_fr st_10 (fun j j0 j1 => by rw [nF11 1 j (by omega)])), (by have h7 := lw_11; rw [eo] at h7; exact h7)⟩))
        · exact ezw_return rfl rfl ⟨F_3, A_3, rfl, hS, (fun p j h => by rw [nF_3 p j (fun z => h (z.elim (fun y => (Or.inl ⟨y.1, y.2⟩)) (fun y => (Or.inr ⟨y.1, y.2⟩)))), nF1 p j (fun z => h (z.elim (fun y => (Or.inl ⟨y.1, y.2⟩)) (fun y => (Or.inr ⟨y.1, y.2⟩))))]), (fun p h => by
                funext j
                rw [nA_3 p (fun z => h (z)), nA1 p (fun z => h (z))]), (by
                rw [hq, hm, ezp_lp_0 z1 (by omega)]
                exact st1), (by
                rw [hq, hm, ezp_lp_0 z1 (by omega)]
                exact lw1), rfl⟩
  exact ezw_keepE [true, true, true, true, true, false] (L24_3 (0) ⟨by decide, by decide⟩ F1 A1 hS (fun _ _ _ => rfl) (fun _ _ => rfl) (by omega) (⟨(ezp_rk c (ezp_pt c ml) 1) x, rfl, st_1, lw_1⟩))
def ezt_m81_5_1_v1_vSQ (e : Bool × Bool) (F : Nat → Nat → Int) (A : Nat → Int → Int) (ml : Nat) (mm : Nat) (dd : Int) (c : Int → Int) (n : Int) (x : ezp_X) : Option ezq_V → (Nat → ezq_C) → Prop := fun v g' => ∃ (F' : Nat → Nat → Int) (A' : Nat → Int → Int), ezu_g e F' A' = g' ∧ ezs_T F' A' ∧ (∀ p j, ¬ (p = 1 ∧ (j = 3 ∨ j = 4 ∨ j = 5 ∨ j = 6 ∨ j = 7 ∨ j = 8 ∨ j = 9) ∨ p = 5 ∧ (j = 4)) → F' p j = F p j) ∧ (∀ p, ¬ (p = 6) → A' p = A p) ∧ (ezt_ST c n (ezp_rk c (ezp_pt c ml) 3 x).1 F') ∧ (ezt_LW 5 (ezp_rk c (ezp_pt c ml) 3 x).2 F' A') ∧ none = v
theorem ezt_m81_5_1_v1_vS {ml : Nat} {mm : Nat} {dd : Int} {c : Int → Int} {n : Int} {x : ezp_X} {F : Nat → Nat → Int} {A : Nat → Int → Int} (hS : ezs_T F A) (hd : 6 * mm + 15 ≤ d) (hml : ml = mm + 1) (hm4 : mm ≤ 4) (hdd : dd = 5 - (ml : Int)) (i82 : ezt_I82_5 l ρ B xa Hb D cA mm) (i81 : ezt_I81_5 l ρ B xa Hb D cA mm) (hn : F 1 2 = n) (hc : c = ezp_ch (A 2) n) (tp : ezp_tp c n) (hw : ∀ j, 0 ≤ j → j < 48 → A 3 j = ezl_cw.getD j.toNat 0) (st : ezt_ST c n x.1 F) (lw : ezt_LW 5 x.2 F A) : ezw_C l ρ B xa Hb D cA 81 d [ezw_p 5, ezw_p 1, ezw_i (1), ezw_i dd] (ezu_g e F A) (ezt_m81_5_1_v1_vSQ e F A ml mm dd c n x) := by
  refine ezw_met (k := 2) rfl rfl ?_
  refine ezw_iload_n rfl rfl ?_
  refine ezw_iconst (4) rfl rfl ?_
  refine ezw_icmp_lt rfl rfl ⟨by decide, by decide⟩ ⟨by decide, by decide⟩ (fun h2_0 => ?_) (fun h2_0 => absurd h2_0 (by omega))
  refine ezw_aload_n rfl rfl ?_
  refine ezw_aload_n rfl rfl ?_
  refine ezw_iload_n rfl rfl ?_
  refine ezw_iconst (1) rfl rfl ?_
  refine ezw_iadd (k := (2)) rfl (by omega) ?_
  refine ezw_iload_n rfl rfl ?_
  refine ezw_call0_3 rfl (by omega) (ezu_at rfl) rfl rfl rfl rfl (ezt_m81_5_1_v2_vS (x := x) hS (by omega) hml hm4 hdd i82 i81 hn hc tp hw st lw) ?_
  rintro _ _ ⟨F1, A1, rfl, hS, nF1, nA1, st_1, lw_1, rfl⟩
  refine ezw_iconst (0) rfl rfl ?_
  refine ezw_istore rfl rfl ?_
  have L24_3 : ∀ c2 : Int, ezw_in c2 → ∀ F_3 : Nat → Nat → Int, ∀ A_3 : Nat → Int → Int, ezs_T F_3 A_3 → (∀ p j, ¬ (p = 1 ∧ (j = 3 ∨ j = 4 ∨ j = 5 ∨ j = 6 ∨ j = 7 ∨ j = 8 ∨ j = 9) ∨ p = 5 ∧ (j = 4)) → F_3 p j = F1 p j) → (∀ p, ¬ (p = 6) → A_3 p = A1 p) → ((0) ≤ c2) → (∃ x1, ezp_rk c (ezp_pt c ml) 3 x = ezp_lp c 1 (ezp_rk c (ezp_pt c ml) 2) (1000 - c2).toNat x1 ∧ ezt_ST c n x1.1 F_3 ∧ ezt_LW 5 x1.2 F_3 A_3) → ezw_E l ρ B xa Hb D cA d ezq_re81 (ezt_m81_5_1_v1_vSQ e F A ml mm dd c n x) 24 [some (ezw_p 5), some (ezw_p 1), some (ezw_i (1)), some (ezw_i dd), some (ezw_i c2), none] [] (ezu_g e F_3 A_3) := by
    refine ezs_up ?_
    intro c2 hc2 ihc2 F_3 A_3 hS nF_3 nA_3 g_3 iv_3
    obtain ⟨x1, hq, st1, lw1⟩ := iv_3
    have hs1 := st1.1
    refine ezw_iload rfl rfl ?_
    refine ezw_sipush (1000) rfl rfl ?_
    refine ezw_icmp_ge rfl rfl hc2 ⟨by decide, by decide⟩ (fun h29_3 => ?_) (fun h29_3 => ?_)
    · exact ezw_return rfl rfl ⟨F_3, A_3, rfl, hS, (fun p j h => by rw [nF_3 p j (fun z => h (z.elim (fun y => (Or.inl ⟨y.1, y.2⟩)) (fun y => (Or.inr ⟨y.1, y.2⟩)))), nF1 p j (fun z => h (z.elim (fun y => (Or.inl ⟨y.1, y.2⟩)) (fun y => (Or.inr ⟨y.1, y.2⟩))))]), (fun p h => by
            funext j
            rw [nA_3 p (fun z => h (z)), nA1 p (fun z => h (z))]), (by
            rw [hq, show (1000 - c2).toNat = 0 by omega]
            exact st1), (by
            rw [hq, show (1000 - c2).toNat = 0 by omega]
            exact lw1), rfl⟩
    · refine ezw_aload_n rfl rfl ?_
      refine ezw_call0_0 rfl (by omega) (ezu_at rfl) rfl rfl rfl rfl (ezt_m45_1 hS (by omega)) ?_
      rintro _ _ ⟨rfl, u5, hu5, p4_0, p4_1, rfl⟩
      refine ezw_if_eq rfl rfl ⟨by omega, by omega⟩ (fun h36_5 => ?_) (fun h36_5 => ?_)
      · exact ezw_return rfl rfl ⟨F_3, A_3, rfl, hS, (fun p j h => by rw [nF_3 p j (fun z => h (z.elim (fun y => (Or.inl ⟨y.1, y.2⟩)) (fun y => (Or.inr ⟨y.1, y.2⟩)))), nF1 p j (fun z => h (z.elim (fun y => (Or.inl ⟨y.1, y.2⟩)) (fun y => (Or.inr ⟨y.1, y.2⟩))))]), (fun p h => by
              funext j
              rw [nA_3 p (fun z => h (z)), nA1 p (fun z => h (z))]), (by
              rw [hq, ezp_lp_n (by have h8 := p4_1 (by omega); omega)]
              exact st1), (by
              rw [hq, ezp_lp_n (by have h8 := p4_1 (by omega); omega)]
              exact lw1), rfl⟩
      · have z1 : x1.1.1 = 0 := by have h0 := p4_0 (by omega); omega
        have k3 := (st1.2.2.1 z1).2.2.1
        have hm : (1000 - c2).toNat = (1000 - (c2 + 1)).toNat + 1 := by omega
        refine ezw_aload_n rfl rfl ?_
        refine ezy_get_i hS rfl rfl rfl rfl rfl rfl (fun u6 hu6 ku6 eu6 => ?_)
        replace eu6 := eu6.symm
        subst eu6
        refine ezw_iload_n rfl rfl ?_
        refine ezw_call2_2 rfl (by omega) rfl rfl (ezt_m84_v1 hS (by omega) hu6) ?_
        rintro _ _ ⟨rfl, u8, hu8, v_7, rfl⟩
        refine ezw_istore rfl rfl ?_
        have eo : u8 = ezp_op (ezp_K c x1.1.2) 1 := by rw [← k3]; exact v_7
        refine ezw_iload rfl rfl ?_
        refine ezw_if_ne rfl rfl hu8 (fun h51_8 => ?_) (fun h51_8 => ?_)
        · refine ezw_aload_n rfl rfl ?_
          refine ezw_call0_0 rfl (by omega) (ezu_at rfl) rfl rfl rfl rfl (ezt_take hS (by omega) (by rw [nF_3 1 2 (by decide), nF1 1 2 (by decide)]; exact hn) (by rw [nA_3 2 (by decide), nA1 2 (by decide)]; exact hc) tp (by rw [nA_3 3 (by decide), nA1 3 (by decide)]; exact hw) st1) ?_
          rintro _ _ ⟨F9, rfl, hS, nF9, st_9, rfl⟩
          refine ezw_aload_n rfl rfl ?_
          refine ezw_aload_n rfl rfl ?_
          refine ezw_iload_n rfl rfl ?_
          refine ezw_iconst (1) rfl rfl ?_
          refine ezw_iadd (k := (2)) rfl (by omega) ?_
          refine ezw_iload_n rfl rfl ?_
          refine ezw_call0_3 rfl (by omega) (ezu_at rfl) rfl rfl rfl rfl (ezt_m81_5_1_v2_vS (x := (ezp_t x1.1, x1.2)) hS (by omega) hml hm4 hdd i82 i81 (by rw [nF9 1 2 (by decide), nF_3 1 2 (by decide), nF1 1 2 (by decide)]; exact hn) (by rw [nA_3 2 (by decide), nA1 2 (by decide)]; exact hc) tp (by rw [nA_3 3 (by decide), nA1 3 (by decide)]; exact hw) st_9 (ezt_LW_fr (F' := F9) (A' := A_3) lw1 (by rw [nF9 5 4 (by decide)]) rfl)) ?_
          rintro _ _ ⟨F10, A10, rfl, hS, nF10, nA10, st_10, lw_10, rfl⟩
          refine ezw_aload_n rfl rfl ?_
          refine ezw_iload rfl rfl ?_
          refine ezw_call0_1 rfl (by omega) (ezu_at rfl) rfl rfl rfl rfl (ezt_m83_5 hS (by omega) hu8 lw_10) ?_
          rintro _ _ ⟨F11, A11, rfl, hS, nF11, nA11, lw_11, rfl⟩
          refine ezw_iload_n rfl rfl ?_
          refine ezw_iconst (1) rfl rfl ?_
          refine ezw_icmp_ne rfl rfl ⟨by decide, by decide⟩ ⟨by decide, by decide⟩ (fun h76_11 => absurd h76_11 (by omega)) (fun h76_11 => ?_)
          exact ezw_return rfl rfl ⟨F11, A11, rfl, hS, (fun p j h => by rw [nF11 p j (fun z => h (Or.inr ⟨z.1, z.2⟩)), nF10 p j (fun z => h (z.elim (fun y => (Or.inl ⟨y.1, y.2⟩)) (fun y => (Or.inr ⟨y.1, y.2⟩)))), nF9 p j (fun z => h (Or.inl ⟨z.1, (z.2.elim (fun y => (Or.inl y)) (fun y => (y.elim (fun y => (Or.inr (Or.inl y))) (fun y => (y.elim (fun y => (Or.inr (Or.inr (Or.inl y)))) (fun y => (y.elim (fun y => (Or.inr (Or.inr (Or.inr (Or.inr (Or.inl y)))))) (fun y => (y.elim (fun y => (Or.inr (Or.inr (Or.inr (Or.inr (Or.inr (Or.inl y))))))) (fun y => (Or.inr (Or.inr (Or.inr (Or.inr (Or.inr (Or.inr y))))))))))))))))⟩)), nF_3 p j (fun z => h (z.elim (fun y => (Or.inl ⟨y.1, y.2⟩)) (fun y => (Or.inr ⟨y.1, y.2⟩)))), nF1 p j (fun z => h (z.elim (fun y => (Or.inl ⟨y.1, y.2⟩)) (fun y => (Or.inr ⟨y.1, y.2⟩))))]), (fun p h => by
                funext j
                rw [nA11 p (fun z => h (z)), nA10 p (fun z => h (z)), nA_3 p (fun z => h (z)), nA1 p (fun z => h (z))]), (by
                rw [hq, hm, ezp_lp_1 z1 (by omega) (by decide)]
                exact (ezt_ST_fr st_10 (fun j j0 j1 => by rw [nF11 1 j (by omega)]))), (by
                rw [hq, hm, ezp_lp_1 z1 (by omega) (by decide)]
                exact (by have h7 := lw_11; rw [eo] at h7; exact h7)), rfl⟩
        · exact ezw_return rfl rfl ⟨F_3, A_3, rfl, hS, (fun p j h => by rw [nF_3 p j (fun z => h (z.elim (fun y => (Or.inl ⟨y.1, y.2⟩)) (fun y => (Or.inr ⟨y.1, y.2⟩)))), nF1 p j (fun z => h (z.elim (fun y => (Or.inl ⟨y.1, y.2⟩)) (fun y => (Or.inr ⟨y.1, y.2⟩))))]), (fun p h => by
                funext j
                rw [nA_3 p (fun z => h (z)), nA1 p (fun z => h (z))]), (by
                rw [hq, hm, ezp_lp_0 z1 (by omega)]
                exact st1), (by
                rw [hq, hm, ezp_lp_0 z1 (by omega)]
                exact lw1), rfl⟩
  exact ezw_keepE [true, true, true, true, true, false] (L24_3 (0) ⟨by decide, by decide⟩ F1 A1 hS (fun _ _ _ => rfl) (fun _ _ => rfl) (by omega) (⟨(ezp_rk c (ezp_pt c ml) 2) x, rfl, st_1, lw_1⟩))
def ezt_m81_5_1_v0_vSQ (e : Bool × Bool) (F : Nat → Nat → Int) (A : Nat → Int → Int) (ml : Nat) (mm : Nat) (dd : Int) (c : Int → Int) (n : Int) (x : ezp_X) : Option ezq_V → (Nat → ezq_C) → Prop := fun v g' => ∃ (F' : Nat → Nat → Int) (A' : Nat → Int → Int), ezu_g e F' A' = g' ∧ ezs_T F' A' ∧ (∀ p j, ¬ (p = 1 ∧ (j = 3 ∨ j = 4 ∨ j = 5 ∨ j = 6 ∨ j = 7 ∨ j = 8 ∨ j = 9) ∨ p = 5 ∧ (j = 4)) → F' p j = F p j) ∧ (∀ p, ¬ (p = 6) → A' p = A p) ∧ (ezt_ST c n (ezp_rk c (ezp_pt c ml) 4 x).1 F') ∧ (ezt_LW 5 (ezp_rk c (ezp_pt c ml) 4 x).2 F' A') ∧ none = v
theorem ezt_m81_5_1_v0_vS {ml : Nat} {mm : Nat} {dd : Int} {c : Int → Int} {n : Int} {x : ezp_X} {F : Nat → Nat → Int} {A : Nat → Int → Int} (hS : ezs_T F A) (hd : 6 * mm + 16 ≤ d) (hml : ml = mm + 1) (hm4 : mm ≤ 4) (hdd : dd = 5 - (ml : Int)) (i82 : ezt_I82_5 l ρ B xa Hb D cA mm) (i81 : ezt_I81_5 l ρ B xa Hb D cA mm) (hn : F 1 2 = n) (hc : c = ezp_ch (A 2) n) (tp : ezp_tp c n) (hw : ∀ j, 0 ≤ j → j < 48 → A 3 j = ezl_cw.getD j.toNat 0) (st : ezt_ST c n x.1 F) (lw : ezt_LW 5 x.2 F A) : ezw_C l ρ B xa Hb D cA 81 d [ezw_p 5, ezw_p 1, ezw_i (0), ezw_i dd] (ezu_g e F A) (ezt_m81_5_1_v0_vSQ e F A ml mm dd c n x) := by
  refine ezw_met (k := 2) rfl rfl ?_
  refine ezw_iload_n rfl rfl ?_
  refine ezw_iconst (4) rfl rfl ?_
  refine ezw_icmp_lt rfl rfl ⟨by decide, by decide⟩ ⟨by decide, by decide⟩ (fun h2_0 => ?_) (fun h2_0 => absurd h2_0 (by omega))
  refine ezw_aload_n rfl rfl ?_
  refine ezw_aload_n rfl rfl ?_
  refine ezw_iload_n rfl rfl ?_
  refine ezw_iconst (1) rfl rfl ?_
  refine ezw_iadd (k := (1)) rfl (by omega) ?_
  refine ezw_iload_n rfl rfl ?_
  refine ezw_call0_3 rfl (by omega) (ezu_at rfl) rfl rfl rfl rfl (ezt_m81_5_1_v1_vS (x := x) hS (by omega) hml hm4 hdd i82 i81 hn hc tp hw st lw) ?_
  rintro _ _ ⟨F1, A1, rfl, hS, nF1, nA1, st_1, lw_1, rfl⟩
  refine ezw_iconst (0) rfl rfl ?_
  refine ezw_istore rfl rfl ?_
  have L24_3 : ∀ c2 : Int, ezw_in c2 → ∀ F_3 : Nat → Nat → Int, ∀ A_3 : Nat → Int → Int, ezs_T F_3 A_3 → (∀ p j, ¬ (p = 1 ∧ (j = 3 ∨ j = 4 ∨ j = 5 ∨ j = 6 ∨ j = 7 ∨ j = 8 ∨ j = 9) ∨ p = 5 ∧ (j = 4)) → F_3 p j = F1 p j) → (∀ p, ¬ (p = 6) → A_3 p = A1 p) → ((0) ≤ c2) → (∃ x1, ezp_rk c (ezp_pt c ml) 4 x = ezp_lp c 0 (ezp_rk c (ezp_pt c ml) 3) (1000 - c2).toNat x1 ∧ ezt_ST c n x1.1 F_3 ∧ ezt_LW 5 x1.2 F_3 A_3) → ezw_E l ρ B xa Hb D cA d ezq_re81 (ezt_m81_5_1_v0_vSQ e F A ml mm dd c n x) 24 [some (ezw_p 5), some (ezw_p 1), some (ezw_i (0)), some (ezw_i dd), some (ezw_i c2), none] [] (ezu_g e F_3 A_3) := by
    refine ezs_up ?_
    intro c2 hc2 ihc2 F_3 A_3 hS nF_3 nA_3 g_3 iv_3
    obtain ⟨x1, hq, st1, lw1⟩ := iv_3
    have hs1 := st1.1
    refine ezw_iload rfl rfl ?_
    refine ezw_sipush (1000) rfl rfl ?_
    refine ezw_icmp_ge rfl rfl hc2 ⟨by decide, by decide⟩ (fun h29_3 => ?_) (fun h29_3 => ?_)
    · exact ezw_return rfl rfl ⟨F_3, A_3, rfl, hS, (fun p j h => by rw [nF_3 p j (fun z => h (z.elim (fun y => (Or.inl ⟨y.1, y.2⟩)) (fun y => (Or.inr ⟨y.1, y.2⟩)))), nF1 p j (fun z => h (z.elim (fun y => (Or.inl ⟨y.1, y.2⟩)) (fun y => (Or.inr ⟨y.1, y.2⟩))))]), (fun p h => by
            funext j
            rw [nA_3 p (fun z => h (z)), nA1 p (fun z => h (z))]), (by
            rw [hq, show (1000 - c2).toNat = 0 by omega]
            exact st1), (by
            rw [hq, show (1000 - c2).toNat = 0 by omega]
            exact lw1), rfl⟩
    · refine ezw_aload_n rfl rfl ?_
      refine ezw_call0_0 rfl (by omega) (ezu_at rfl) rfl rfl rfl rfl (ezt_m45_1 hS (by omega)) ?_
      rintro _ _ ⟨rfl, u5, hu5, p4_0, p4_1, rfl⟩
      refine ezw_if_eq rfl rfl ⟨by omega, by omega⟩ (fun h36_5 => ?_) (fun h36_5 => ?_)
      · exact ezw_return rfl rfl ⟨F_3, A_3, rfl, hS, (fun p j h => by rw [nF_3 p j (fun z => h (z.elim (fun y => (Or.inl ⟨y.1, y.2⟩)) (fun y => (Or.inr ⟨y.1, y.2⟩)))), nF1 p j (fun z => h (z.elim (fun y => (Or.inl ⟨y.1, y.2⟩)) (fun y => (Or.inr ⟨y.1, y.2⟩))))]), (fun p h => by
              funext j
              rw [nA_3 p (fun z => h (z)), nA1 p (fun z => h (z))]), (by
              rw [hq, ezp_lp_n (by have h8 := p4_1 (by omega); omega)]
              exact st1), (by
              rw [hq, ezp_lp_n (by have h8 := p4_1 (by omega); omega)]
              exact lw1), rfl⟩
      · have z1 : x1.1.1 = 0 := by have h0 := p4_0 (by omega); omega
        have k3 := (st1.2.2.1 z1).2.2.1
        have hm : (1000 - c2).toNat = (1000 - (c2 + 1)).toNat + 1 := by omega
        refine ezw_aload_n rfl rfl ?_
        refine ezy_get_i hS rfl rfl rfl rfl rfl rfl (fun u6 hu6 ku6 eu6 => ?_)
        replace eu6 := eu6.symm
        subst eu6
        refine ezw_iload_n rfl rfl ?_
        refine ezw_call2_2 rfl (by omega) rfl rfl (ezt_m84_v0 hS (by omega) hu6) ?_
        rintro _ _ ⟨rfl, u8, hu8, v_7, rfl⟩
        refine ezw_istore rfl rfl ?_
        have eo : u8 = ezp_op (ezp_K c x1.1.2) 0 := by rw [← k3]; exact v_7
        refine ezw_iload rfl rfl ?_
        refine ezw_if_ne rfl rfl hu8 (fun h51_8 => ?_) (fun h51_8 => ?_)
        · refine ezw_aload_n rfl rfl ?_
          refine ezw_call0_0 rfl (by omega) (ezu_at rfl) rfl rfl rfl rfl (ezt_take hS (by omega) (by rw [nF_3 1 2 (by decide), nF1 1 2 (by decide)]; exact hn) (by rw [nA_3 2 (by decide), nA1 2 (by decide)]; exact hc) tp (by rw [nA_3 3 (by decide), nA1 3 (by decide)]; exact hw) st1) ?_
          rintro _ _ ⟨F9, rfl, hS, nF9, st_9, rfl⟩
          refine ezw_aload_n rfl rfl ?_
          refine ezw_aload_n rfl rfl ?_
          refine ezw_iload_n rfl rfl ?_
          refine ezw_iconst (1) rfl rfl ?_
          refine ezw_iadd (k := (1)) rfl (by omega) ?_
          refine ezw_iload_n rfl rfl ?_
          refine ezw_call0_3 rfl (by omega) (ezu_at rfl) rfl rfl rfl rfl (ezt_m81_5_1_v1_vS (x := (ezp_t x1.1, x1.2)) hS (by omega) hml hm4 hdd i82 i81 (by rw [nF9 1 2 (by decide), nF_3 1 2 (by decide), nF1 1 2 (by decide)]; exact hn) (by rw [nA_3 2 (by decide), nA1 2 (by decide)]; exact hc) tp (by rw [nA_3 3 (by decide), nA1 3 (by decide)]; exact hw) st_9 (ezt_LW_fr (F' := F9) (A' := A_3) lw1 (by rw [nF9 5 4 (by decide)]) rfl)) ?_
          rintro _ _ ⟨F10, A10, rfl, hS, nF10, nA10, st_10, lw_10, rfl⟩
          refine ezw_aload_n rfl rfl ?_
          refine ezw_iload rfl rfl ?_
          refine ezw_call0_1 rfl (by omega) (ezu_at rfl) rfl rfl rfl rfl (ezt_m83_5 hS (by omega) hu8 lw_10) ?_
          rintro _ _ ⟨F11, A11, rfl, hS, nF11, nA11, lw_11, rfl⟩
          refine ezw_iload_n rfl rfl ?_
          refine ezw_iconst (1) rfl rfl ?_
          refine ezw_icmp_ne rfl rfl ⟨by decide, by decide⟩ ⟨by decide, by decide⟩ (fun h76_11 => ?_) (fun h76_11 => absurd h76_11 (by omega))
          refine ezw_iinc (k := c2 + 1) (1) rfl rfl rfl (by omega) rfl ?_
          refine ezw_goto rfl rfl ?_
          exact ezw_keepE [true, true, true, true, true, false] (ihc2 (c2 + 1) (by omega) ⟨by omega, by omega⟩ F11 A11 hS (fun p j h => by rw [nF11 p j (fun z => h (Or.inr ⟨z.1, z.2⟩)), nF10 p j (fun z => h (z.elim (fun y => (Or.inl ⟨y.1, y.2⟩)) (fun y => (Or.inr ⟨y.1, y.2⟩)))), nF9 p j (fun z => h (Or.inl ⟨z.1, (z.2.elim (fun y => (Or.inl y)) (fun y => (y.elim (fun y => (Or.inr (Or.inl y))) (fun y => (y.elim (fun y => (Or.inr (Or.inr (Or.inl y)))) (fun y => (y.elim (fun y => (Or.inr (Or.inr (Or.inr (Or.inr (Or.inl y)))))) (fun y => (y.elim (fun y => (Or.inr (Or.inr (Or.inr (Or.inr (Or.inr (Or.inl y))))))) (fun y => (Or.inr (Or.inr (Or.inr (Or.inr (Or.inr (Or.inr y))))))))))))))))⟩)), nF_3 p j (fun z => h (z.elim (fun y => (Or.inl ⟨y.1, y.2⟩)) (fun y => (Or.inr ⟨y.1, y.2⟩))))]) (fun p h => by
                funext j
                rw [nA11 p (fun z => h (z)), nA10 p (fun z => h (z)), nA_3 p (fun z => h (z))]) (by omega) (⟨ezp_l1 c 0 (ezp_rk c (ezp_pt c ml) 3) x1, (by rw [hq, hm, ezp_lp_s z1 (by omega) (by decide), show (1000 - (c2 + 1)).toNat = (1000 - (c2 + 1)).toNat by omega]), (ezt_ST_fr st_10 (fun j j0 j1 => by rw [nF11 1 j (by omega)])), (by have h7 := lw_11; rw [eo] at h7; exact h7)⟩))
        · exact ezw_return rfl rfl ⟨F_3, A_3, rfl, hS, (fun p j h => by rw [nF_3 p j (fun z => h (z.elim (fun y => (Or.inl ⟨y.1, y.2⟩)) (fun y => (Or.inr ⟨y.1, y.2⟩)))), nF1 p j (fun z => h (z.elim (fun y => (Or.inl ⟨y.1, y.2⟩)) (fun y => (Or.inr ⟨y.1, y.2⟩))))]), (fun p h => by
                funext j
                rw [nA_3 p (fun z => h (z)), nA1 p (fun z => h (z))]), (by
                rw [hq, hm, ezp_lp_0 z1 (by omega)]
                exact st1), (by
                rw [hq, hm, ezp_lp_0 z1 (by omega)]
                exact lw1), rfl⟩
  exact ezw_keepE [true, true, true, true, true, false] (L24_3 (0) ⟨by decide, by decide⟩ F1 A1 hS (fun _ _ _ => rfl) (fun _ _ => rfl) (by omega) (⟨(ezp_rk c (ezp_pt c ml) 3) x, rfl, st_1, lw_1⟩))
def ezt_m82_9_1_vSQ (e : Bool × Bool) (F : Nat → Nat → Int) (A : Nat → Int → Int) (ml : Nat) (mm : Nat) (dd : Int) (c : Int → Int) (n : Int) (x : ezp_X) : Option ezq_V → (Nat → ezq_C) → Prop := fun v g' => ∃ (F' : Nat → Nat → Int) (A' : Nat → Int → Int), ezu_g e F' A' = g' ∧ ezs_T F' A' ∧ (∀ p j, ¬ (p = 1 ∧ (j = 3 ∨ j = 4 ∨ j = 5 ∨ j = 6 ∨ j = 7 ∨ j = 8 ∨ j = 9) ∨ p = 9 ∧ (j = 4)) → F' p j = F p j) ∧ (∀ p, ¬ (p = 10) → A' p = A p) ∧ (ezt_ST c n (ezp_pt c ml x).1 F') ∧ (ezt_LW 9 (ezp_pt c ml x).2 F' A') ∧ none = v
theorem ezt_m82_9_1_vS {ml : Nat} {mm : Nat} {dd : Int} {c : Int → Int} {n : Int} {x : ezp_X} {F : Nat → Nat → Int} {A : Nat → Int → Int} (hS : ezs_T F A) (hd : 6 * mm + 11 ≤ d) (hml : ml = mm + 1) (hm4 : mm ≤ 4) (hdd : dd = 5 - (ml : Int)) (i82 : ezt_I82_9 l ρ B xa Hb D cA mm) (i81 : ezt_I81_9 l ρ B xa Hb D cA mm) (hn : F 1 2 = n) (hc : c = ezp_ch (A 2) n) (tp : ezp_tp c n) (hw : ∀ j, 0 ≤ j → j < 48 → A 3 j = ezl_cw.getD j.toNat 0) (st : ezt_ST c n x.1 F) (lw : ezt_LW 9 x.2 F A) : ezw_C l ρ B xa Hb D cA 82 d [ezw_p 9, ezw_p 1, ezw_i dd] (ezu_g e F A) (ezt_m82_9_1_vSQ e F A ml mm dd c n x) := by
  refine ezw_met (k := 2) rfl rfl ?_
  have hn0 := tp.1
  have hn1 := tp.2.1
  obtain ⟨sf, sk, sc, sb, sb2⟩ := id st
  have hP := ezp_Pr tp x.1.2
  have c3i : x.1.1 = 0 → F 1 3 = ezp_K c x.1.2 := fun z => (sc z).2.2.1
  have c8i : x.1.1 = 0 → F 1 8 = ezp_P c x.1.2 := fun z => (sc z).1
  have c4i : x.1.1 = 0 → ezp_K c x.1.2 = 101 → F 1 4 = ezp_V c x.1.2 := fun z => (sc z).2.2.2.1
  have c7i : x.1.1 = 0 → ezp_K c x.1.2 = 100 → F 1 7 = ezp_v 32 (ezp_W c x.1.2) ∧ F 1 5 = ezp_ix (ezp_W c x.1.2) - 44 := fun z => (sc z).2.2.2.2
  refine ezw_aload_n rfl rfl ?_
  refine ezw_bipush (100) rfl rfl ?_
  refine ezw_call0_1 rfl (by omega) (ezu_at rfl) rfl rfl rfl rfl (ezt_m46_1 hS (by omega) ⟨by decide, by decide⟩ hn hc tp st) ?_
  rintro _ _ ⟨rfl, u2, hu2, p1_0, p1_1, rfl⟩
  have J21_4 : ∀ y3 : Int, ezw_in y3 → (y3 = 1 ∧ (x.1.1 = 0 ∧ ezp_K c x.1.2 = 100 ∧ 0 ≤ ezp_ix (ezp_W c x.1.2) - 44) ∨ y3 = 0 ∧ ¬ (x.1.1 = 0 ∧ ezp_K c x.1.2 = 100 ∧ 0 ≤ ezp_ix (ezp_W c x.1.2) - 44)) → ezw_E l ρ B xa Hb D cA d ezq_re82 (ezt_m82_9_1_vSQ e F A ml mm dd c n x) 21 [some (ezw_p 9), some (ezw_p 1), some (ezw_i dd), none, none] [ezw_i y3] (ezu_g e F A) := by
    intro y3 hy3 jf_4
    refine ezw_istore_n rfl rfl ?_
    refine ezw_iload_n rfl rfl ?_
    have J59_6 : ∀ y5 : Int, ezw_in y5 → (y5 = 1 ∧ ((x.1.1 = 0 ∧ ezp_K c x.1.2 = 100 ∧ 0 ≤ ezp_ix (ezp_W c x.1.2) - 44) ∨ x.1.1 = 0 ∧ (ezp_K c x.1.2 = 101 ∨ ezp_K c x.1.2 = 41 ∨ ezp_K c x.1.2 = 240)) ∨ y5 = 0 ∧ ¬ ((x.1.1 = 0 ∧ ezp_K c x.1.2 = 100 ∧ 0 ≤ ezp_ix (ezp_W c x.1.2) - 44) ∨ x.1.1 = 0 ∧ (ezp_K c x.1.2 = 101 ∨ ezp_K c x.1.2 = 41 ∨ ezp_K c x.1.2 = 240))) → ezw_E l ρ B xa Hb D cA d ezq_re82 (ezt_m82_9_1_vSQ e F A ml mm dd c n x) 59 [some (ezw_p 9), some (ezw_p 1), some (ezw_i dd), some (ezw_i y3), none] [ezw_i y5] (ezu_g e F A) := by
      intro y5 hy5 jp_6
      refine ezw_istore rfl rfl ?_
      refine ezw_iload rfl rfl ?_
      refine ezw_if_eq rfl rfl hy5 (fun h63_6 => ?_) (fun h63_6 => ?_)
      · refine ezw_aload_n rfl rfl ?_
        refine ezw_iload rfl rfl ?_
        refine ezw_if_eq rfl rfl hy5 (fun h74_6 => ?_) (fun h74_6 => ?_)
        · refine ezw_iconst (1) rfl rfl ?_
          refine ezw_call0_1 rfl (by omega) (ezu_at rfl) rfl rfl rfl rfl (ezt_m50_1 hS (by omega) ⟨by decide, by decide⟩ hn hc tp st (by omega)) ?_
          rintro _ _ ⟨F7, rfl, hS, nF7, st_7, rfl⟩
          refine ezw_goto rfl rfl ?_
          exact ezw_return rfl rfl ⟨F7, A, rfl, hS, (fun p j h => by rw [nF7 p j (fun z => h (Or.inl ⟨z.1, (Or.inr (Or.inr (Or.inr (Or.inl z.2))))⟩))]), (fun _ _ => rfl), (by
                first
                  | (exfalso; omega)
                  | (rw [hml, ezp_pt_s]
                     repeat (first | rw [if_pos (by omega)] | rw [if_neg (by omega)])
                     exact st_7)), (by
                first
                  | (exfalso; omega)
                  | (rw [hml, ezp_pt_s]
                     repeat (first | rw [if_pos (by omega)] | rw [if_neg (by omega)])
                     exact (ezt_LW_fr (F' := F7) (A' := A) lw (by rw [nF7 9 4 (by decide)]) rfl))), rfl⟩
        · refine ezw_iconst (5) rfl rfl ?_
          refine ezw_goto rfl rfl ?_
          refine ezw_call0_1 rfl (by omega) (ezu_at rfl) rfl rfl rfl rfl (ezt_m50_1 hS (by omega) ⟨by decide, by decide⟩ hn hc tp st (by omega)) ?_
          rintro _ _ ⟨F8, rfl, hS, nF8, st_8, rfl⟩
          refine ezw_goto rfl rfl ?_
          exact ezw_return rfl rfl ⟨F8, A, rfl, hS, (fun p j h => by rw [nF8 p j (fun z => h (Or.inl ⟨z.1, (Or.inr (Or.inr (Or.inr (Or.inl z.2))))⟩))]), (fun _ _ => rfl), (by
                first
                  | (exfalso; omega)
                  | (rw [hml, ezp_pt_s]
                     repeat (first | rw [if_pos (by omega)] | rw [if_neg (by omega)])
                     exact st_8)), (by
                first
                  | (exfalso; omega)
                  | (rw [hml, ezp_pt_s]
                     repeat (first | rw [if_pos (by omega)] | rw [if_neg (by omega)])
                     exact (ezt_LW_fr (F' := F8) (A' := A) lw (by rw [nF8 9 4 (by decide)]) rfl))), rfl⟩
      · refine ezw_iload_n rfl rfl ?_
        refine ezw_iconst (5) rfl rfl ?_
        refine ezw_icmp_lt rfl rfl ⟨by omega, by omega⟩ ⟨by decide, by decide⟩ (fun h68_8 => ?_) (fun h68_8 => ?_)
        · refine ezw_iload_n rfl rfl ?_
          refine ezw_if_eq rfl rfl hy3 (fun h89_8 => ?_) (fun h89_8 => ?_)
          · refine ezw_aload_n rfl rfl ?_
            refine ezw_bipush (101) rfl rfl ?_
            refine ezw_call0_1 rfl (by omega) (ezu_at rfl) rfl rfl rfl rfl (ezt_m46_1 hS (by omega) ⟨by decide, by decide⟩ hn hc tp st) ?_
            rintro _ _ ⟨rfl, u10, hu10, p9_0, p9_1, rfl⟩
            refine ezw_if_eq rfl rfl ⟨by omega, by omega⟩ (fun h115_10 => ?_) (fun h115_10 => ?_)
            · refine ezw_aload_n rfl rfl ?_
              refine ezw_bipush (41) rfl rfl ?_
              refine ezw_call0_1 rfl (by omega) (ezu_at rfl) rfl rfl rfl rfl (ezt_m46_1 hS (by omega) ⟨by decide, by decide⟩ hn hc tp st) ?_
              rintro _ _ ⟨rfl, u12, hu12, p11_0, p11_1, rfl⟩
              refine ezw_if_eq rfl rfl ⟨by omega, by omega⟩ (fun h139_12 => ?_) (fun h139_12 => ?_)
              · refine ezw_aload_n rfl rfl ?_
                refine ezw_call0_0 rfl (by omega) (ezu_at rfl) rfl rfl rfl rfl (ezt_take hS (by omega) hn hc tp hw st) ?_
                rintro _ _ ⟨F13, rfl, hS, nF13, st_13, rfl⟩
                refine ezw_aload_n rfl rfl ?_
                refine ezw_aload_n rfl rfl ?_
                refine ezw_iconst (0) rfl rfl ?_
                refine ezw_iload_n rfl rfl ?_
                refine ezw_iconst (1) rfl rfl ?_
                refine ezw_iadd (k := dd + 1) rfl (by omega) ?_
                refine ezw_call0_3 rfl (by omega) (ezu_at rfl) rfl rfl rfl rfl ((i81 _ _ _ _ _ (ezp_t x.1, x.2) _ _ hS (by omega) (by rw [nF13 1 2 (by decide)]; exact hn) hc tp hw st_13 (ezt_LW_fr (F' := F13) (A' := A) lw (by rw [nF13 9 4 (by decide)]) rfl) (by omega))) ?_
                rintro _ _ ⟨F14, A14, rfl, hS, nF14, nA14, st_14, lw_14, rfl⟩
                refine ezw_aload_n rfl rfl ?_
                refine ezw_sipush (241) rfl rfl ?_
                refine ezw_call0_1 rfl (by omega) (ezu_at rfl) rfl rfl rfl rfl (ezt_m46_1 hS (by omega) ⟨by decide, by decide⟩ (by rw [nF14 1 2 (by decide), nF13 1 2 (by decide)]; exact hn) (by rw [nA14 2 (by decide)]; exact hc) tp st_14) ?_
                rintro _ _ ⟨rfl, u16, hu16, p15_0, p15_1, rfl⟩
                refine ezw_if_eq rfl rfl ⟨by omega, by omega⟩ (fun h183_16 => ?_) (fun h183_16 => ?_)
                · refine ezw_aload_n rfl rfl ?_
                  refine ezw_iconst (1) rfl rfl ?_
                  refine ezw_call0_1 rfl (by omega) (ezu_at rfl) rfl rfl rfl rfl (ezt_m50_1 hS (by omega) ⟨by decide, by decide⟩ (by rw [nF14 1 2 (by decide), nF13 1 2 (by decide)]; exact hn) (by rw [nA14 2 (by decide)]; exact hc) tp st_14 (by omega)) ?_
                  rintro _ _ ⟨F17, rfl, hS, nF17, st_17, rfl⟩
                  exact ezw_return rfl rfl ⟨F17, A14, rfl, hS, (fun p j h => by rw [nF17 p j (fun z => h (Or.inl ⟨z.1, (Or.inr (Or.inr (Or.inr (Or.inl z.2))))⟩)), nF14 p j (fun z => h (z.elim (fun y => (Or.inl ⟨y.1, y.2⟩)) (fun y => (Or.inr ⟨y.1, y.2⟩)))), nF13 p j (fun z => h (Or.inl ⟨z.1, (z.2.elim (fun y => (Or.inl y)) (fun y => (y.elim (fun y => (Or.inr (Or.inl y))) (fun y => (y.elim (fun y => (Or.inr (Or.inr (Or.inl y)))) (fun y => (y.elim (fun y => (Or.inr (Or.inr (Or.inr (Or.inr (Or.inl y)))))) (fun y => (y.elim (fun y => (Or.inr (Or.inr (Or.inr (Or.inr (Or.inr (Or.inl y))))))) (fun y => (Or.inr (Or.inr (Or.inr (Or.inr (Or.inr (Or.inr y))))))))))))))))⟩))]), (fun p h => by
                        funext j
                        rw [nA14 p (fun z => h (z))]), (by
                        first
                          | (exfalso; omega)
                          | (rw [hml, ezp_pt_s]
                             repeat (first | rw [if_pos (by omega)] | rw [if_neg (by omega)])
                             show ezt_ST c n (ezp_cl c _) _
                             unfold ezp_cl
                             rw [if_neg (fun z => (p15_1 (by omega)).elim (fun y => y z.1) (fun y => y z.2))]
                             exact st_17)), (by
                        first
                          | (exfalso; omega)
                          | (rw [hml, ezp_pt_s]
                             repeat (first | rw [if_pos (by omega)] | rw [if_neg (by omega)])
                             exact (ezt_LW_fr (F' := F17) (A' := A14) lw_14 (by rw [nF17 9 4 (by decide)]) rfl))), rfl⟩
                · refine ezw_aload_n rfl rfl ?_
                  refine ezw_call0_0 rfl (by omega) (ezu_at rfl) rfl rfl rfl rfl (ezt_take hS (by omega) (by rw [nF14 1 2 (by decide), nF13 1 2 (by decide)]; exact hn) (by rw [nA14 2 (by decide)]; exact hc) tp (by rw [nA14 3 (by decide)]; exact hw) st_14) ?_
                  rintro _ _ ⟨F18, rfl, hS, nF18, st_18, rfl⟩
                  refine ezw_goto rfl rfl ?_
                  exact ezw_return rfl rfl ⟨F18, A14, rfl, hS, (fun p j h => by rw [nF18 p j (fun z => h (Or.inl ⟨z.1, (z.2.elim (fun y => (Or.inl y)) (fun y => (y.elim (fun y => (Or.inr (Or.inl y))) (fun y => (y.elim (fun y => (Or.inr (Or.inr (Or.inl y)))) (fun y => (y.elim (fun y => (Or.inr (Or.inr (Or.inr (Or.inr (Or.inl y)))))) (fun y => (y.elim (fun y => (Or.inr (Or.inr (Or.inr (Or.inr (Or.inr (Or.inl y))))))) (fun y => (Or.inr (Or.inr (Or.inr (Or.inr (Or.inr (Or.inr y))))))))))))))))⟩)), nF14 p j (fun z => h (z.elim (fun y => (Or.inl ⟨y.1, y.2⟩)) (fun y => (Or.inr ⟨y.1, y.2⟩)))), nF13 p j (fun z => h (Or.inl ⟨z.1, (z.2.elim (fun y => (Or.inl y)) (fun y => (y.elim (fun y => (Or.inr (Or.inl y))) (fun y => (y.elim (fun y => (Or.inr (Or.inr (Or.inl y)))) (fun y => (y.elim (fun y => (Or.inr (Or.inr (Or.inr (Or.inr (Or.inl y)))))) (fun y => (y.elim (fun y => (Or.inr (Or.inr (Or.inr (Or.inr (Or.inr (Or.inl y))))))) (fun y => (Or.inr (Or.inr (Or.inr (Or.inr (Or.inr (Or.inr y))))))))))))))))⟩))]), (fun p h => by
                        funext j
                        rw [nA14 p (fun z => h (z))]), (by
                        first
                          | (exfalso; omega)
                          | (rw [hml, ezp_pt_s]
                             repeat (first | rw [if_pos (by omega)] | rw [if_neg (by omega)])
                             show ezt_ST c n (ezp_cl c _) _
                             unfold ezp_cl
                             rw [if_pos (p15_0 (by omega))]
                             exact st_18)), (by
                        first
                          | (exfalso; omega)
                          | (rw [hml, ezp_pt_s]
                             repeat (first | rw [if_pos (by omega)] | rw [if_neg (by omega)])
                             exact (ezt_LW_fr (F' := F18) (A' := A14) lw_14 (by rw [nF18 9 4 (by decide)]) rfl))), rfl⟩
              · refine ezw_aload_n rfl rfl ?_
                refine ezw_call0_0 rfl (by omega) (ezu_at rfl) rfl rfl rfl rfl (ezt_take hS (by omega) hn hc tp hw st) ?_
                rintro _ _ ⟨F19, rfl, hS, nF19, st_19, rfl⟩
                refine ezw_aload_n rfl rfl ?_
                refine ezw_aload_n rfl rfl ?_
                refine ezw_iload_n rfl rfl ?_
                refine ezw_iconst (1) rfl rfl ?_
                refine ezw_iadd (k := dd + 1) rfl (by omega) ?_
                refine ezw_call0_2 rfl (by omega) (ezu_at rfl) rfl rfl rfl rfl ((i82 _ _ _ _ _ (ezp_t x.1, x.2) _ _ hS (by omega) (by rw [nF19 1 2 (by decide)]; exact hn) hc tp hw st_19 (ezt_LW_fr (F' := F19) (A' := A) lw (by rw [nF19 9 4 (by decide)]) rfl) (by omega))) ?_
                rintro _ _ ⟨F20, A20, rfl, hS, nF20, nA20, st_20, lw_20, rfl⟩
                refine ezw_aload_n rfl rfl ?_
                refine ezw_bipush (-5) rfl rfl ?_
                refine ezw_call0_1 rfl (by omega) (ezu_at rfl) rfl rfl rfl rfl (ezt_m83_9 hS (by omega) ⟨by decide, by decide⟩ lw_20) ?_
                rintro _ _ ⟨F21, A21, rfl, hS, nF21, nA21, lw_21, rfl⟩
                refine ezw_goto rfl rfl ?_
                exact ezw_return rfl rfl ⟨F21, A21, rfl, hS, (fun p j h => by rw [nF21 p j (fun z => h (Or.inr ⟨z.1, z.2⟩)), nF20 p j (fun z => h (z.elim (fun y => (Or.inl ⟨y.1, y.2⟩)) (fun y => (Or.inr ⟨y.1, y.2⟩)))), nF19 p j (fun z => h (Or.inl ⟨z.1, (z.2.elim (fun y => (Or.inl y)) (fun y => (y.elim (fun y => (Or.inr (Or.inl y))) (fun y => (y.elim (fun y => (Or.inr (Or.inr (Or.inl y)))) (fun y => (y.elim (fun y => (Or.inr (Or.inr (Or.inr (Or.inr (Or.inl y)))))) (fun y => (y.elim (fun y => (Or.inr (Or.inr (Or.inr (Or.inr (Or.inr (Or.inl y))))))) (fun y => (Or.inr (Or.inr (Or.inr (Or.inr (Or.inr (Or.inr y))))))))))))))))⟩))]), (fun p h => by
                      funext j
                      rw [nA21 p (fun z => h (z)), nA20 p (fun z => h (z))]), (by
                      first
                        | (exfalso; omega)
                        | (rw [hml, ezp_pt_s]
                           repeat (first | rw [if_pos (by omega)] | rw [if_neg (by omega)])
                           exact (ezt_ST_fr st_20 (fun j j0 j1 => by rw [nF21 1 j (by omega)])))), (by
                      first
                        | (exfalso; omega)
                        | (rw [hml, ezp_pt_s]
                           repeat (first | rw [if_pos (by omega)] | rw [if_neg (by omega)])
                           exact lw_21)), rfl⟩
            · refine ezw_aload_n rfl rfl ?_
              refine ezw_aload_n rfl rfl ?_
              refine ezy_get_i hS rfl rfl rfl rfl rfl rfl (fun u22 hu22 ku22 eu22 => ?_)
              replace eu22 := eu22.symm
              subst eu22
              have ru22 : 0 ≤ (F 1 4) ∧ (F 1 4) ≤ 9999 := ku22
              have f4 := c4i (by omega) (by omega)
              refine ezw_call0_1 rfl (by omega) (ezu_at rfl) rfl rfl rfl rfl (ezt_m83_9 hS (by omega) hu22 lw) ?_
              rintro _ _ ⟨F23, A23, rfl, hS, nF23, nA23, lw_23, rfl⟩
              refine ezw_aload_n rfl rfl ?_
              refine ezw_call0_0 rfl (by omega) (ezu_at rfl) rfl rfl rfl rfl (ezt_take hS (by omega) (by rw [nF23 1 2 (by decide)]; exact hn) (by rw [nA23 2 (by decide)]; exact hc) tp (by rw [nA23 3 (by decide)]; exact hw) (ezt_ST_fr st (fun j j0 j1 => by rw [nF23 1 j (by omega)]))) ?_
              rintro _ _ ⟨F24, rfl, hS, nF24, st_24, rfl⟩
              refine ezw_goto rfl rfl ?_
              exact ezw_return rfl rfl ⟨F24, A23, rfl, hS, (fun p j h => by rw [nF24 p j (fun z => h (Or.inl ⟨z.1, (z.2.elim (fun y => (Or.inl y)) (fun y => (y.elim (fun y => (Or.inr (Or.inl y))) (fun y => (y.elim (fun y => (Or.inr (Or.inr (Or.inl y)))) (fun y => (y.elim (fun y => (Or.inr (Or.inr (Or.inr (Or.inr (Or.inl y)))))) (fun y => (y.elim (fun y => (Or.inr (Or.inr (Or.inr (Or.inr (Or.inr (Or.inl y))))))) (fun y => (Or.inr (Or.inr (Or.inr (Or.inr (Or.inr (Or.inr y))))))))))))))))⟩)), nF23 p j (fun z => h (Or.inr ⟨z.1, z.2⟩))]), (fun p h => by
                    funext j
                    rw [nA23 p (fun z => h (z))]), (by
                    first
                      | (exfalso; omega)
                      | (rw [hml, ezp_pt_s]
                         repeat (first | rw [if_pos (by omega)] | rw [if_neg (by omega)])
                         exact st_24)), (by
                    first
                      | (exfalso; omega)
                      | (rw [hml, ezp_pt_s]
                         repeat (first | rw [if_pos (by omega)] | rw [if_neg (by omega)])
                         have h7 := (ezt_LW_fr (F' := F24) (A' := A23) lw_23 (by rw [nF24 9 4 (by decide)]) rfl)
                         rw [show (F 1 4) = ezp_V c x.1.2 by omega] at h7
                         exact h7)), rfl⟩
          · refine ezw_aload_n rfl rfl ?_
            refine ezw_iconst (-1) rfl rfl ?_
            refine ezw_aload_n rfl rfl ?_
            refine ezy_get_i hS rfl rfl rfl rfl rfl rfl (fun u25 hu25 ku25 eu25 => ?_)
            replace eu25 := eu25.symm
            subst eu25
            refine ezw_isub (k := -(F 1 5) - 1) rfl (by omega) ?_
            have f5 := (c7i (by omega) (by omega)).2
            refine ezw_call0_1 rfl (by omega) (ezu_at rfl) rfl rfl rfl rfl (ezt_m83_9 hS (by omega) ⟨by omega, by omega⟩ lw) ?_
            rintro _ _ ⟨F26, A26, rfl, hS, nF26, nA26, lw_26, rfl⟩
            refine ezw_aload_n rfl rfl ?_
            refine ezw_call0_0 rfl (by omega) (ezu_at rfl) rfl rfl rfl rfl (ezt_take hS (by omega) (by rw [nF26 1 2 (by decide)]; exact hn) (by rw [nA26 2 (by decide)]; exact hc) tp (by rw [nA26 3 (by decide)]; exact hw) (ezt_ST_fr st (fun j j0 j1 => by rw [nF26 1 j (by omega)]))) ?_
            rintro _ _ ⟨F27, rfl, hS, nF27, st_27, rfl⟩
            refine ezw_goto rfl rfl ?_
            exact ezw_return rfl rfl ⟨F27, A26, rfl, hS, (fun p j h => by rw [nF27 p j (fun z => h (Or.inl ⟨z.1, (z.2.elim (fun y => (Or.inl y)) (fun y => (y.elim (fun y => (Or.inr (Or.inl y))) (fun y => (y.elim (fun y => (Or.inr (Or.inr (Or.inl y)))) (fun y => (y.elim (fun y => (Or.inr (Or.inr (Or.inr (Or.inr (Or.inl y)))))) (fun y => (y.elim (fun y => (Or.inr (Or.inr (Or.inr (Or.inr (Or.inr (Or.inl y))))))) (fun y => (Or.inr (Or.inr (Or.inr (Or.inr (Or.inr (Or.inr y))))))))))))))))⟩)), nF26 p j (fun z => h (Or.inr ⟨z.1, z.2⟩))]), (fun p h => by
                  funext j
                  rw [nA26 p (fun z => h (z))]), (by
                  first
                    | (exfalso; omega)
                    | (rw [hml, ezp_pt_s]
                       repeat (first | rw [if_pos (by omega)] | rw [if_neg (by omega)])
                       exact st_27)), (by
                  first
                    | (exfalso; omega)
                    | (rw [hml, ezp_pt_s]
                       repeat (first | rw [if_pos (by omega)] | rw [if_neg (by omega)])
                       have h7 := (ezt_LW_fr (F' := F27) (A' := A26) lw_26 (by rw [nF27 9 4 (by decide)]) rfl)
                       rw [show -(F 1 5) - 1 = -1 - (ezp_ix (ezp_W c x.1.2) - 44) by omega] at h7
                       exact h7)), rfl⟩
        · refine ezw_aload_n rfl rfl ?_
          refine ezw_iload rfl rfl ?_
          refine ezw_if_eq rfl rfl hy5 (fun h74_27 => ?_) (fun h74_27 => ?_)
          · refine ezw_iconst (1) rfl rfl ?_
            refine ezw_call0_1 rfl (by omega) (ezu_at rfl) rfl rfl rfl rfl (ezt_m50_1 hS (by omega) ⟨by decide, by decide⟩ hn hc tp st (by omega)) ?_
            rintro _ _ ⟨F28, rfl, hS, nF28, st_28, rfl⟩
            refine ezw_goto rfl rfl ?_
            exact ezw_return rfl rfl ⟨F28, A, rfl, hS, (fun p j h => by rw [nF28 p j (fun z => h (Or.inl ⟨z.1, (Or.inr (Or.inr (Or.inr (Or.inl z.2))))⟩))]), (fun _ _ => rfl), (by
                  first
                    | (exfalso; omega)
                    | (rw [hml, ezp_pt_s]
                       repeat (first | rw [if_pos (by omega)] | rw [if_neg (by omega)])
                       exact st_28)), (by
                  first
                    | (exfalso; omega)
                    | (rw [hml, ezp_pt_s]
                       repeat (first | rw [if_pos (by omega)] | rw [if_neg (by omega)])
                       exact (ezt_LW_fr (F' := F28) (A' := A) lw (by rw [nF28 9 4 (by decide)]) rfl))), rfl⟩
          · refine ezw_iconst (5) rfl rfl ?_
            refine ezw_goto rfl rfl ?_
            refine ezw_call0_1 rfl (by omega) (ezu_at rfl) rfl rfl rfl rfl (ezt_m50_1 hS (by omega) ⟨by decide, by decide⟩ hn hc tp st (by omega)) ?_
            rintro _ _ ⟨F29, rfl, hS, nF29, st_29, rfl⟩
            refine ezw_goto rfl rfl ?_
            exact ezw_return rfl rfl ⟨F29, A, rfl, hS, (fun p j h => by rw [nF29 p j (fun z => h (Or.inl ⟨z.1, (Or.inr (Or.inr (Or.inr (Or.inl z.2))))⟩))]), (fun _ _ => rfl), (by
                  first
                    | (exfalso; omega)
                    | (rw [hml, ezp_pt_s]
                       repeat (first | rw [if_pos (by omega)] | rw [if_neg (by omega)])
                       exact st_29)), (by
                  first
                    | (exfalso; omega)
                    | (rw [hml, ezp_pt_s]
                       repeat (first | rw [if_pos (by omega)] | rw [if_neg (by omega)])
                       exact (ezt_LW_fr (F' := F29) (A' := A) lw (by rw [nF29 9 4 (by decide)]) rfl))), rfl⟩
    refine ezw_if_ne rfl rfl hy3 (fun h23_4 => ?_) (fun h23_4 => ?_)
    · refine ezw_iconst (1) rfl rfl ?_
      refine ezw_goto rfl rfl ?_
      exact ezw_keepE [true, true, true, true, false] (J59_6 (1) ⟨by decide, by decide⟩ (by omega))
    · refine ezw_aload_n rfl rfl ?_
      refine ezw_bipush (101) rfl rfl ?_
      refine ezw_call0_1 rfl (by omega) (ezu_at rfl) rfl rfl rfl rfl (ezt_m46_1 hS (by omega) ⟨by decide, by decide⟩ hn hc tp st) ?_
      rintro _ _ ⟨rfl, u31, hu31, p30_0, p30_1, rfl⟩
      refine ezw_if_ne rfl rfl ⟨by omega, by omega⟩ (fun h32_31 => ?_) (fun h32_31 => ?_)
      · refine ezw_iconst (1) rfl rfl ?_
        refine ezw_goto rfl rfl ?_
        exact ezw_keepE [true, true, true, true, false] (J59_6 (1) ⟨by decide, by decide⟩ (by omega))
      · refine ezw_aload_n rfl rfl ?_
        refine ezw_bipush (41) rfl rfl ?_
        refine ezw_call0_1 rfl (by omega) (ezu_at rfl) rfl rfl rfl rfl (ezt_m46_1 hS (by omega) ⟨by decide, by decide⟩ hn hc tp st) ?_
        rintro _ _ ⟨rfl, u33, hu33, p32_0, p32_1, rfl⟩
        refine ezw_if_ne rfl rfl ⟨by omega, by omega⟩ (fun h41_33 => ?_) (fun h41_33 => ?_)
        · refine ezw_iconst (1) rfl rfl ?_
          refine ezw_goto rfl rfl ?_
          exact ezw_keepE [true, true, true, true, false] (J59_6 (1) ⟨by decide, by decide⟩ (by omega))
        · refine ezw_aload_n rfl rfl ?_
          refine ezw_sipush (240) rfl rfl ?_
          refine ezw_call0_1 rfl (by omega) (ezu_at rfl) rfl rfl rfl rfl (ezt_m46_1 hS (by omega) ⟨by decide, by decide⟩ hn hc tp st) ?_
          rintro _ _ ⟨rfl, u35, hu35, p34_0, p34_1, rfl⟩
          refine ezw_if_eq rfl rfl ⟨by omega, by omega⟩ (fun h51_35 => ?_) (fun h51_35 => ?_)
          · refine ezw_iconst (0) rfl rfl ?_
            exact ezw_keepE [true, true, true, true, false] (J59_6 (0) ⟨by decide, by decide⟩ (by omega))
          · refine ezw_iconst (1) rfl rfl ?_
            refine ezw_goto rfl rfl ?_
            exact ezw_keepE [true, true, true, true, false] (J59_6 (1) ⟨by decide, by decide⟩ (by omega))
  refine ezw_if_eq rfl rfl ⟨by omega, by omega⟩ (fun h6_2 => ?_) (fun h6_2 => ?_)
  · refine ezw_iconst (0) rfl rfl ?_
    exact ezw_keepE [true, true, true, false, false] (J21_4 (0) ⟨by decide, by decide⟩ (by omega))
  · refine ezw_aload_n rfl rfl ?_
    have f5 := (c7i (p1_0 (by omega)).1 (p1_0 (by omega)).2).2
    refine ezy_get_i hS rfl rfl rfl rfl rfl rfl (fun u36 hu36 ku36 eu36 => ?_)
    replace eu36 := eu36.symm
    subst eu36
    refine ezw_if_lt rfl rfl hu36 (fun h13_36 => ?_) (fun h13_36 => ?_)
    · refine ezw_iconst (0) rfl rfl ?_
      exact ezw_keepE [true, true, true, false, false] (J21_4 (0) ⟨by decide, by decide⟩ (by omega))
    · refine ezw_iconst (1) rfl rfl ?_
      refine ezw_goto rfl rfl ?_
      exact ezw_keepE [true, true, true, false, false] (J21_4 (1) ⟨by decide, by decide⟩ (by omega))
def ezt_m81_9_1_v4_vSQ (e : Bool × Bool) (F : Nat → Nat → Int) (A : Nat → Int → Int) (ml : Nat) (mm : Nat) (dd : Int) (c : Int → Int) (n : Int) (x : ezp_X) : Option ezq_V → (Nat → ezq_C) → Prop := fun v g' => ∃ (F' : Nat → Nat → Int) (A' : Nat → Int → Int), ezu_g e F' A' = g' ∧ ezs_T F' A' ∧ (∀ p j, ¬ (p = 1 ∧ (j = 3 ∨ j = 4 ∨ j = 5 ∨ j = 6 ∨ j = 7 ∨ j = 8 ∨ j = 9) ∨ p = 9 ∧ (j = 4)) → F' p j = F p j) ∧ (∀ p, ¬ (p = 10) → A' p = A p) ∧ (ezt_ST c n (ezp_rk c (ezp_pt c ml) 0 x).1 F') ∧ (ezt_LW 9 (ezp_rk c (ezp_pt c ml) 0 x).2 F' A') ∧ none = v
theorem ezt_m81_9_1_v4_vS {ml : Nat} {mm : Nat} {dd : Int} {c : Int → Int} {n : Int} {x : ezp_X} {F : Nat → Nat → Int} {A : Nat → Int → Int} (hS : ezs_T F A) (hd : 6 * mm + 12 ≤ d) (hml : ml = mm + 1) (hm4 : mm ≤ 4) (hdd : dd = 5 - (ml : Int)) (i82 : ezt_I82_9 l ρ B xa Hb D cA mm) (i81 : ezt_I81_9 l ρ B xa Hb D cA mm) (hn : F 1 2 = n) (hc : c = ezp_ch (A 2) n) (tp : ezp_tp c n) (hw : ∀ j, 0 ≤ j → j < 48 → A 3 j = ezl_cw.getD j.toNat 0) (st : ezt_ST c n x.1 F) (lw : ezt_LW 9 x.2 F A) : ezw_C l ρ B xa Hb D cA 81 d [ezw_p 9, ezw_p 1, ezw_i (4), ezw_i dd] (ezu_g e F A) (ezt_m81_9_1_v4_vSQ e F A ml mm dd c n x) := by
  refine ezw_met (k := 2) rfl rfl ?_
  refine ezw_iload_n rfl rfl ?_
  refine ezw_iconst (4) rfl rfl ?_
  refine ezw_icmp_lt rfl rfl ⟨by decide, by decide⟩ ⟨by decide, by decide⟩ (fun h2_0 => absurd h2_0 (by omega)) (fun h2_0 => ?_)
  refine ezw_aload_n rfl rfl ?_
  refine ezw_aload_n rfl rfl ?_
  refine ezw_iload_n rfl rfl ?_
  refine ezw_call0_2 rfl (by omega) (ezu_at rfl) rfl rfl rfl rfl (ezt_m82_9_1_vS (x := x) hS (by omega) hml hm4 hdd i82 i81 hn hc tp hw st lw) ?_
  rintro _ _ ⟨F1, A1, rfl, hS, nF1, nA1, st_1, lw_1, rfl⟩
  exact ezw_return rfl rfl ⟨F1, A1, rfl, hS, (fun p j h => by rw [nF1 p j (fun z => h (z.elim (fun y => (Or.inl ⟨y.1, y.2⟩)) (fun y => (Or.inr ⟨y.1, y.2⟩))))]), (fun p h => by
        funext j
        rw [nA1 p (fun z => h (z))]), st_1, lw_1, rfl⟩
def ezt_m81_9_1_v3_vSQ (e : Bool × Bool) (F : Nat → Nat → Int) (A : Nat → Int → Int) (ml : Nat) (mm : Nat) (dd : Int) (c : Int → Int) (n : Int) (x : ezp_X) : Option ezq_V → (Nat → ezq_C) → Prop := fun v g' => ∃ (F' : Nat → Nat → Int) (A' : Nat → Int → Int), ezu_g e F' A' = g' ∧ ezs_T F' A' ∧ (∀ p j, ¬ (p = 1 ∧ (j = 3 ∨ j = 4 ∨ j = 5 ∨ j = 6 ∨ j = 7 ∨ j = 8 ∨ j = 9) ∨ p = 9 ∧ (j = 4)) → F' p j = F p j) ∧ (∀ p, ¬ (p = 10) → A' p = A p) ∧ (ezt_ST c n (ezp_rk c (ezp_pt c ml) 1 x).1 F') ∧ (ezt_LW 9 (ezp_rk c (ezp_pt c ml) 1 x).2 F' A') ∧ none = v
theorem ezt_m81_9_1_v3_vS {ml : Nat} {mm : Nat} {dd : Int} {c : Int → Int} {n : Int} {x : ezp_X} {F : Nat → Nat → Int} {A : Nat → Int → Int} (hS : ezs_T F A) (hd : 6 * mm + 13 ≤ d) (hml : ml = mm + 1) (hm4 : mm ≤ 4) (hdd : dd = 5 - (ml : Int)) (i82 : ezt_I82_9 l ρ B xa Hb D cA mm) (i81 : ezt_I81_9 l ρ B xa Hb D cA mm) (hn : F 1 2 = n) (hc : c = ezp_ch (A 2) n) (tp : ezp_tp c n) (hw : ∀ j, 0 ≤ j → j < 48 → A 3 j = ezl_cw.getD j.toNat 0) (st : ezt_ST c n x.1 F) (lw : ezt_LW 9 x.2 F A) : ezw_C l ρ B xa Hb D cA 81 d [ezw_p 9, ezw_p 1, ezw_i (3), ezw_i dd] (ezu_g e F A) (ezt_m81_9_1_v3_vSQ e F A ml mm dd c n x) := by
  refine ezw_met (k := 2) rfl rfl ?_
  refine ezw_iload_n rfl rfl ?_
  refine ezw_iconst (4) rfl rfl ?_
  refine ezw_icmp_lt rfl rfl ⟨by decide, by decide⟩ ⟨by decide, by decide⟩ (fun h2_0 => ?_) (fun h2_0 => absurd h2_0 (by omega))
  refine ezw_aload_n rfl rfl ?_
  refine ezw_aload_n rfl rfl ?_
  refine ezw_iload_n rfl rfl ?_
  refine ezw_iconst (1) rfl rfl ?_
  refine ezw_iadd (k := (4)) rfl (by omega) ?_
  refine ezw_iload_n rfl rfl ?_
  refine ezw_call0_3 rfl (by omega) (ezu_at rfl) rfl rfl rfl rfl (ezt_m81_9_1_v4_vS (x := x) hS (by omega) hml hm4 hdd i82 i81 hn hc tp hw st lw) ?_
  rintro _ _ ⟨F1, A1, rfl, hS, nF1, nA1, st_1, lw_1, rfl⟩
  refine ezw_iconst (0) rfl rfl ?_
  refine ezw_istore rfl rfl ?_
  have L24_3 : ∀ c2 : Int, ezw_in c2 → ∀ F_3 : Nat → Nat → Int, ∀ A_3 : Nat → Int → Int, ezs_T F_3 A_3 → (∀ p j, ¬ (p = 1 ∧ (j = 3 ∨ j = 4 ∨ j = 5 ∨ j = 6 ∨ j = 7 ∨ j = 8 ∨ j = 9) ∨ p = 9 ∧ (j = 4)) → F_3 p j = F1 p j) → (∀ p, ¬ (p = 10) → A_3 p = A1 p) → ((0) ≤ c2) → (∃ x1, ezp_rk c (ezp_pt c ml) 1 x = ezp_lp c 3 (ezp_rk c (ezp_pt c ml) 0) (1000 - c2).toNat x1 ∧ ezt_ST c n x1.1 F_3 ∧ ezt_LW 9 x1.2 F_3 A_3) → ezw_E l ρ B xa Hb D cA d ezq_re81 (ezt_m81_9_1_v3_vSQ e F A ml mm dd c n x) 24 [some (ezw_p 9), some (ezw_p 1), some (ezw_i (3)), some (ezw_i dd), some (ezw_i c2), none] [] (ezu_g e F_3 A_3) := by
    refine ezs_up ?_
    intro c2 hc2 ihc2 F_3 A_3 hS nF_3 nA_3 g_3 iv_3
    obtain ⟨x1, hq, st1, lw1⟩ := iv_3
    have hs1 := st1.1
    refine ezw_iload rfl rfl ?_
    refine ezw_sipush (1000) rfl rfl ?_
    refine ezw_icmp_ge rfl rfl hc2 ⟨by decide, by decide⟩ (fun h29_3 => ?_) (fun h29_3 => ?_)
    · exact ezw_return rfl rfl ⟨F_3, A_3, rfl, hS, (fun p j h => by rw [nF_3 p j (fun z => h (z.elim (fun y => (Or.inl ⟨y.1, y.2⟩)) (fun y => (Or.inr ⟨y.1, y.2⟩)))), nF1 p j (fun z => h (z.elim (fun y => (Or.inl ⟨y.1, y.2⟩)) (fun y => (Or.inr ⟨y.1, y.2⟩))))]), (fun p h => by
            funext j
            rw [nA_3 p (fun z => h (z)), nA1 p (fun z => h (z))]), (by
            rw [hq, show (1000 - c2).toNat = 0 by omega]
            exact st1), (by
            rw [hq, show (1000 - c2).toNat = 0 by omega]
            exact lw1), rfl⟩
    · refine ezw_aload_n rfl rfl ?_
      refine ezw_call0_0 rfl (by omega) (ezu_at rfl) rfl rfl rfl rfl (ezt_m45_1 hS (by omega)) ?_
      rintro _ _ ⟨rfl, u5, hu5, p4_0, p4_1, rfl⟩
      refine ezw_if_eq rfl rfl ⟨by omega, by omega⟩ (fun h36_5 => ?_) (fun h36_5 => ?_)
      · exact ezw_return rfl rfl ⟨F_3, A_3, rfl, hS, (fun p j h => by rw [nF_3 p j (fun z => h (z.elim (fun y => (Or.inl ⟨y.1, y.2⟩)) (fun y => (Or.inr ⟨y.1, y.2⟩)))), nF1 p j (fun z => h (z.elim (fun y => (Or.inl ⟨y.1, y.2⟩)) (fun y => (Or.inr ⟨y.1, y.2⟩))))]), (fun p h => by
              funext j
              rw [nA_3 p (fun z => h (z)), nA1 p (fun z => h (z))]), (by
              rw [hq, ezp_lp_n (by have h8 := p4_1 (by omega); omega)]
              exact st1), (by
              rw [hq, ezp_lp_n (by have h8 := p4_1 (by omega); omega)]
              exact lw1), rfl⟩
      · have z1 : x1.1.1 = 0 := by have h0 := p4_0 (by omega); omega
        have k3 := (st1.2.2.1 z1).2.2.1
        have hm : (1000 - c2).toNat = (1000 - (c2 + 1)).toNat + 1 := by omega
        refine ezw_aload_n rfl rfl ?_
        refine ezy_get_i hS rfl rfl rfl rfl rfl rfl (fun u6 hu6 ku6 eu6 => ?_)
        replace eu6 := eu6.symm
        subst eu6
        refine ezw_iload_n rfl rfl ?_
        refine ezw_call2_2 rfl (by omega) rfl rfl (ezt_m84_v3 hS (by omega) hu6) ?_
        rintro _ _ ⟨rfl, u8, hu8, v_7, rfl⟩
        refine ezw_istore rfl rfl ?_
        have eo : u8 = ezp_op (ezp_K c x1.1.2) 3 := by rw [← k3]; exact v_7
        refine ezw_iload rfl rfl ?_
        refine ezw_if_ne rfl rfl hu8 (fun h51_8 => ?_) (fun h51_8 => ?_)
        · refine ezw_aload_n rfl rfl ?_
          refine ezw_call0_0 rfl (by omega) (ezu_at rfl) rfl rfl rfl rfl (ezt_take hS (by omega) (by rw [nF_3 1 2 (by decide), nF1 1 2 (by decide)]; exact hn) (by rw [nA_3 2 (by decide), nA1 2 (by decide)]; exact hc) tp (by rw [nA_3 3 (by decide), nA1 3 (by decide)]; exact hw) st1) ?_
          rintro _ _ ⟨F9, rfl, hS, nF9, st_9, rfl⟩
          refine ezw_aload_n rfl rfl ?_
          refine ezw_aload_n rfl rfl ?_
          refine ezw_iload_n rfl rfl ?_
          refine ezw_iconst (1) rfl rfl ?_
          refine ezw_iadd (k := (4)) rfl (by omega) ?_
          refine ezw_iload_n rfl rfl ?_
          refine ezw_call0_3 rfl (by omega) (ezu_at rfl) rfl rfl rfl rfl (ezt_m81_9_1_v4_vS (x := (ezp_t x1.1, x1.2)) hS (by omega) hml hm4 hdd i82 i81 (by rw [nF9 1 2 (by decide), nF_3 1 2 (by decide), nF1 1 2 (by decide)]; exact hn) (by rw [nA_3 2 (by decide), nA1 2 (by decide)]; exact hc) tp (by rw [nA_3 3 (by decide), nA1 3 (by decide)]; exact hw) st_9 (ezt_LW_fr (F' := F9) (A' := A_3) lw1 (by rw [nF9 9 4 (by decide)]) rfl)) ?_
          rintro _ _ ⟨F10, A10, rfl, hS, nF10, nA10, st_10, lw_10, rfl⟩
          refine ezw_aload_n rfl rfl ?_
          refine ezw_iload rfl rfl ?_
          refine ezw_call0_1 rfl (by omega) (ezu_at rfl) rfl rfl rfl rfl (ezt_m83_9 hS (by omega) hu8 lw_10) ?_
          rintro _ _ ⟨F11, A11, rfl, hS, nF11, nA11, lw_11, rfl⟩
          refine ezw_iload_n rfl rfl ?_
          refine ezw_iconst (1) rfl rfl ?_
          refine ezw_icmp_ne rfl rfl ⟨by decide, by decide⟩ ⟨by decide, by decide⟩ (fun h76_11 => ?_) (fun h76_11 => absurd h76_11 (by omega))
          refine ezw_iinc (k := c2 + 1) (1) rfl rfl rfl (by omega) rfl ?_
          refine ezw_goto rfl rfl ?_
          exact ezw_keepE [true, true, true, true, true, false] (ihc2 (c2 + 1) (by omega) ⟨by omega, by omega⟩ F11 A11 hS (fun p j h => by rw [nF11 p j (fun z => h (Or.inr ⟨z.1, z.2⟩)), nF10 p j (fun z => h (z.elim (fun y => (Or.inl ⟨y.1, y.2⟩)) (fun y => (Or.inr ⟨y.1, y.2⟩)))), nF9 p j (fun z => h (Or.inl ⟨z.1, (z.2.elim (fun y => (Or.inl y)) (fun y => (y.elim (fun y => (Or.inr (Or.inl y))) (fun y => (y.elim (fun y => (Or.inr (Or.inr (Or.inl y)))) (fun y => (y.elim (fun y => (Or.inr (Or.inr (Or.inr (Or.inr (Or.inl y)))))) (fun y => (y.elim (fun y => (Or.inr (Or.inr (Or.inr (Or.inr (Or.inr (Or.inl y))))))) (fun y => (Or.inr (Or.inr (Or.inr (Or.inr (Or.inr (Or.inr y))))))))))))))))⟩)), nF_3 p j (fun z => h (z.elim (fun y => (Or.inl ⟨y.1, y.2⟩)) (fun y => (Or.inr ⟨y.1, y.2⟩))))]) (fun p h => by
                funext j
                rw [nA11 p (fun z => h (z)), nA10 p (fun z => h (z)), nA_3 p (fun z => h (z))]) (by omega) (⟨ezp_l1 c 3 (ezp_rk c (ezp_pt c ml) 0) x1, (by rw [hq, hm, ezp_lp_s z1 (by omega) (by decide), show (1000 - (c2 + 1)).toNat = (1000 - (c2 + 1)).toNat by omega]), (ezt_ST_fr st_10 (fun j j0 j1 => by rw [nF11 1 j (by omega)])), (by have h7 := lw_11; rw [eo] at h7; exact h7)⟩))
        · exact ezw_return rfl rfl ⟨F_3, A_3, rfl, hS, (fun p j h => by rw [nF_3 p j (fun z => h (z.elim (fun y => (Or.inl ⟨y.1, y.2⟩)) (fun y => (Or.inr ⟨y.1, y.2⟩)))), nF1 p j (fun z => h (z.elim (fun y => (Or.inl ⟨y.1, y.2⟩)) (fun y => (Or.inr ⟨y.1, y.2⟩))))]), (fun p h => by
                funext j
                rw [nA_3 p (fun z => h (z)), nA1 p (fun z => h (z))]), (by
                rw [hq, hm, ezp_lp_0 z1 (by omega)]
                exact st1), (by
                rw [hq, hm, ezp_lp_0 z1 (by omega)]
                exact lw1), rfl⟩
  exact ezw_keepE [true, true, true, true, true, false] (L24_3 (0) ⟨by decide, by decide⟩ F1 A1 hS (fun _ _ _ => rfl) (fun _ _ => rfl) (by omega) (⟨(ezp_rk c (ezp_pt c ml) 0) x, rfl, st_1, lw_1⟩))
def ezt_m81_9_1_v2_vSQ (e : Bool × Bool) (F : Nat → Nat → Int) (A : Nat → Int → Int) (ml : Nat) (mm : Nat) (dd : Int) (c : Int → Int) (n : Int) (x : ezp_X) : Option ezq_V → (Nat → ezq_C) → Prop := fun v g' => ∃ (F' : Nat → Nat → Int) (A' : Nat → Int → Int), ezu_g e F' A' = g' ∧ ezs_T F' A' ∧ (∀ p j, ¬ (p = 1 ∧ (j = 3 ∨ j = 4 ∨ j = 5 ∨ j = 6 ∨ j = 7 ∨ j = 8 ∨ j = 9) ∨ p = 9 ∧ (j = 4)) → F' p j = F p j) ∧ (∀ p, ¬ (p = 10) → A' p = A p) ∧ (ezt_ST c n (ezp_rk c (ezp_pt c ml) 2 x).1 F') ∧ (ezt_LW 9 (ezp_rk c (ezp_pt c ml) 2 x).2 F' A') ∧ none = v
theorem ezt_m81_9_1_v2_vS {ml : Nat} {mm : Nat} {dd : Int} {c : Int → Int} {n : Int} {x : ezp_X} {F : Nat → Nat → Int} {A : Nat → Int → Int} (hS : ezs_T F A) (hd : 6 * mm + 14 ≤ d) (hml : ml = mm + 1) (hm4 : mm ≤ 4) (hdd : dd = 5 - (ml : Int)) (i82 : ezt_I82_9 l ρ B xa Hb D cA mm) (i81 : ezt_I81_9 l ρ B xa Hb D cA mm) (hn : F 1 2 = n) (hc : c = ezp_ch (A 2) n) (tp : ezp_tp c n) (hw : ∀ j, 0 ≤ j → j < 48 → A 3 j = ezl_cw.getD j.toNat 0) (st : ezt_ST c n x.1 F) (lw : ezt_LW 9 x.2 F A) : ezw_C l ρ B xa Hb D cA 81 d [ezw_p 9, ezw_p 1, ezw_i (2), ezw_i dd] (ezu_g e F A) (ezt_m81_9_1_v2_vSQ e F A ml mm dd c n x) := by
  refine ezw_met (k := 2) rfl rfl ?_
  refine ezw_iload_n rfl rfl ?_
  refine ezw_iconst (4) rfl rfl ?_
  refine ezw_icmp_lt rfl rfl ⟨by decide, by decide⟩ ⟨by decide, by decide⟩ (fun h2_0 => ?_) (fun h2_0 => absurd h2_0 (by omega))
  refine ezw_aload_n rfl rfl ?_
  refine ezw_aload_n rfl rfl ?_
  refine ezw_iload_n rfl rfl ?_
  refine ezw_iconst (1) rfl rfl ?_
  refine ezw_iadd (k := (3)) rfl (by omega) ?_
  refine ezw_iload_n rfl rfl ?_
  refine ezw_call0_3 rfl (by omega) (ezu_at rfl) rfl rfl rfl rfl (ezt_m81_9_1_v3_vS (x := x) hS (by omega) hml hm4 hdd i82 i81 hn hc tp hw st lw) ?_
  rintro _ _ ⟨F1, A1, rfl, hS, nF1, nA1, st_1, lw_1, rfl⟩
  refine ezw_iconst (0) rfl rfl ?_
  refine ezw_istore rfl rfl ?_
  have L24_3 : ∀ c2 : Int, ezw_in c2 → ∀ F_3 : Nat → Nat → Int, ∀ A_3 : Nat → Int → Int, ezs_T F_3 A_3 → (∀ p j, ¬ (p = 1 ∧ (j = 3 ∨ j = 4 ∨ j = 5 ∨ j = 6 ∨ j = 7 ∨ j = 8 ∨ j = 9) ∨ p = 9 ∧ (j = 4)) → F_3 p j = F1 p j) → (∀ p, ¬ (p = 10) → A_3 p = A1 p) → ((0) ≤ c2) → (∃ x1, ezp_rk c (ezp_pt c ml) 2 x = ezp_lp c 2 (ezp_rk c (ezp_pt c ml) 1) (1000 - c2).toNat x1 ∧ ezt_ST c n x1.1 F_3 ∧ ezt_LW 9 x1.2 F_3 A_3) → ezw_E l ρ B xa Hb D cA d ezq_re81 (ezt_m81_9_1_v2_vSQ e F A ml mm dd c n x) 24 [some (ezw_p 9), some (ezw_p 1), some (ezw_i (2)), some (ezw_i dd), some (ezw_i c2), none] [] (ezu_g e F_3 A_3) := by
    refine ezs_up ?_
    intro c2 hc2 ihc2 F_3 A_3 hS nF_3 nA_3 g_3 iv_3
    obtain ⟨x1, hq, st1, lw1⟩ := iv_3
    have hs1 := st1.1
    refine ezw_iload rfl rfl ?_
    refine ezw_sipush (1000) rfl rfl ?_
    refine ezw_icmp_ge rfl rfl hc2 ⟨by decide, by decide⟩ (fun h29_3 => ?_) (fun h29_3 => ?_)
    · exact ezw_return rfl rfl ⟨F_3, A_3, rfl, hS, (fun p j h => by rw [nF_3 p j (fun z => h (z.elim (fun y => (Or.inl ⟨y.1, y.2⟩)) (fun y => (Or.inr ⟨y.1, y.2⟩)))), nF1 p j (fun z => h (z.elim (fun y => (Or.inl ⟨y.1, y.2⟩)) (fun y => (Or.inr ⟨y.1, y.2⟩))))]), (fun p h => by
            funext j
            rw [nA_3 p (fun z => h (z)), nA1 p (fun z => h (z))]), (by
            rw [hq, show (1000 - c2).toNat = 0 by omega]
            exact st1), (by
            rw [hq, show (1000 - c2).toNat = 0 by omega]
            exact lw1), rfl⟩
    · refine ezw_aload_n rfl rfl ?_
      refine ezw_call0_0 rfl (by omega) (ezu_at rfl) rfl rfl rfl rfl (ezt_m45_1 hS (by omega)) ?_
      rintro _ _ ⟨rfl, u5, hu5, p4_0, p4_1, rfl⟩
      refine ezw_if_eq rfl rfl ⟨by omega, by omega⟩ (fun h36_5 => ?_) (fun h36_5 => ?_)
      · exact ezw_return rfl rfl ⟨F_3, A_3, rfl, hS, (fun p j h => by rw [nF_3 p j (fun z => h (z.elim (fun y => (Or.inl ⟨y.1, y.2⟩)) (fun y => (Or.inr ⟨y.1, y.2⟩)))), nF1 p j (fun z => h (z.elim (fun y => (Or.inl ⟨y.1, y.2⟩)) (fun y => (Or.inr ⟨y.1, y.2⟩))))]), (fun p h => by
              funext j
              rw [nA_3 p (fun z => h (z)), nA1 p (fun z => h (z))]), (by
              rw [hq, ezp_lp_n (by have h8 := p4_1 (by omega); omega)]
              exact st1), (by
              rw [hq, ezp_lp_n (by have h8 := p4_1 (by omega); omega)]
              exact lw1), rfl⟩
      · have z1 : x1.1.1 = 0 := by have h0 := p4_0 (by omega); omega
        have k3 := (st1.2.2.1 z1).2.2.1
        have hm : (1000 - c2).toNat = (1000 - (c2 + 1)).toNat + 1 := by omega
        refine ezw_aload_n rfl rfl ?_
        refine ezy_get_i hS rfl rfl rfl rfl rfl rfl (fun u6 hu6 ku6 eu6 => ?_)
        replace eu6 := eu6.symm
        subst eu6
        refine ezw_iload_n rfl rfl ?_
        refine ezw_call2_2 rfl (by omega) rfl rfl (ezt_m84_v2 hS (by omega) hu6) ?_
        rintro _ _ ⟨rfl, u8, hu8, v_7, rfl⟩
        refine ezw_istore rfl rfl ?_
        have eo : u8 = ezp_op (ezp_K c x1.1.2) 2 := by rw [← k3]; exact v_7
        refine ezw_iload rfl rfl ?_
        refine ezw_if_ne rfl rfl hu8 (fun h51_8 => ?_) (fun h51_8 => ?_)
        · refine ezw_aload_n rfl rfl ?_
          refine ezw_call0_0 rfl (by omega) (ezu_at rfl) rfl rfl rfl rfl (ezt_take hS (by omega) (by rw [nF_3 1 2 (by decide), nF1 1 2 (by decide)]; exact hn) (by rw [nA_3 2 (by decide), nA1 2 (by decide)]; exact hc) tp (by rw [nA_3 3 (by decide), nA1 3 (by decide)]; exact hw) st1) ?_
          rintro _ _ ⟨F9, rfl, hS, nF9, st_9, rfl⟩
          refine ezw_aload_n rfl rfl ?_
          refine ezw_aload_n rfl rfl ?_
          refine ezw_iload_n rfl rfl ?_
          refine ezw_iconst (1) rfl rfl ?_
          refine ezw_iadd (k := (3)) rfl (by omega) ?_
          refine ezw_iload_n rfl rfl ?_
          refine ezw_call0_3 rfl (by omega) (ezu_at rfl) rfl rfl rfl rfl (ezt_m81_9_1_v3_vS (x := (ezp_t x1.1, x1.2)) hS (by omega) hml hm4 hdd i82 i81 (by rw [nF9 1 2 (by decide), nF_3 1 2 (by decide), nF1 1 2 (by decide)]; exact hn) (by rw [nA_3 2 (by decide), nA1 2 (by decide)]; exact hc) tp (by rw [nA_3 3 (by decide), nA1 3 (by decide)]; exact hw) st_9 (ezt_LW_fr (F' := F9) (A' := A_3) lw1 (by rw [nF9 9 4 (by decide)]) rfl)) ?_
          rintro _ _ ⟨F10, A10, rfl, hS, nF10, nA10, st_10, lw_10, rfl⟩
          refine ezw_aload_n rfl rfl ?_
          refine ezw_iload rfl rfl ?_
          refine ezw_call0_1 rfl (by omega) (ezu_at rfl) rfl rfl rfl rfl (ezt_m83_9 hS (by omega) hu8 lw_10) ?_
          rintro _ _ ⟨F11, A11, rfl, hS, nF11, nA11, lw_11, rfl⟩
          refine ezw_iload_n rfl rfl ?_
          refine ezw_iconst (1) rfl rfl ?_
          refine ezw_icmp_ne rfl rfl ⟨by decide, by decide⟩ ⟨by decide, by decide⟩ (fun h76_11 => ?_) (fun h76_11 => absurd h76_11 (by omega))
          refine ezw_iinc (k := c2 + 1) (1) rfl rfl rfl (by omega) rfl ?_
          refine ezw_goto rfl rfl ?_
          exact ezw_keepE [true, true, true, true, true, false] (ihc2 (c2 + 1) (by omega) ⟨by omega, by omega⟩ F11 A11 hS (fun p j h => by rw [nF11 p j (fun z => h (Or.inr ⟨z.1, z.2⟩)), nF10 p j (fun z => h (z.elim (fun y => (Or.inl ⟨y.1, y.2⟩)) (fun y => (Or.inr ⟨y.1, y.2⟩)))), nF9 p j (fun z => h (Or.inl ⟨z.1, (z.2.elim (fun y => (Or.inl y)) (fun y => (y.elim (fun y => (Or.inr (Or.inl y))) (fun y => (y.elim (fun y => (Or.inr (Or.inr (Or.inl y)))) (fun y => (y.elim (fun y => (Or.inr (Or.inr (Or.inr (Or.inr (Or.inl y)))))) (fun y => (y.elim (fun y => (Or.inr (Or.inr (Or.inr (Or.inr (Or.inr (Or.inl y))))))) (fun y => (Or.inr (Or.inr (Or.inr (Or.inr (Or.inr (Or.inr y))))))))))))))))⟩)), nF_3 p j (fun z => h (z.elim (fun y => (Or.inl ⟨y.1, y.2⟩)) (fun y => (Or.inr ⟨y.1, y.2⟩))))]) (fun p h => by
                funext j
                rw [nA11 p (fun z => h (z)), nA10 p (fun z => h (z)), nA_3 p (fun z => h (z))]) (by omega) (⟨ezp_l1 c 2 (ezp_rk c (ezp_pt c ml) 1) x1, (by rw [hq, hm, ezp_lp_s z1 (by omega) (by decide), show (1000 - (c2 + 1)).toNat = (1000 - (c2 + 1)).toNat by omega]), (ezt_ST_fr st_10 (fun j j0 j1 => by rw [nF11 1 j (by omega)])), (by have h7 := lw_11; rw [eo] at h7; exact h7)⟩))
        · exact ezw_return rfl rfl ⟨F_3, A_3, rfl, hS, (fun p j h => by rw [nF_3 p j (fun z => h (z.elim (fun y => (Or.inl ⟨y.1, y.2⟩)) (fun y => (Or.inr ⟨y.1, y.2⟩)))), nF1 p j (fun z => h (z.elim (fun y => (Or.inl ⟨y.1, y.2⟩)) (fun y => (Or.inr ⟨y.1, y.2⟩))))]), (fun p h => by
                funext j
                rw [nA_3 p (fun z => h (z)), nA1 p (fun z => h (z))]), (by
                rw [hq, hm, ezp_lp_0 z1 (by omega)]
                exact st1), (by
                rw [hq, hm, ezp_lp_0 z1 (by omega)]
                exact lw1), rfl⟩
  exact ezw_keepE [true, true, true, true, true, false] (L24_3 (0) ⟨by decide, by decide⟩ F1 A1 hS (fun _ _ _ => rfl) (fun _ _ => rfl) (by omega) (⟨(ezp_rk c (ezp_pt c ml) 1) x, rfl, st_1, lw_1⟩))
def ezt_m81_9_1_v1_vSQ (e : Bool × Bool) (F : Nat → Nat → Int) (A : Nat → Int → Int) (ml : Nat) (mm : Nat) (dd : Int) (c : Int → Int) (n : Int) (x : ezp_X) : Option ezq_V → (Nat → ezq_C) → Prop := fun v g' => ∃ (F' : Nat → Nat → Int) (A' : Nat → Int → Int), ezu_g e F' A' = g' ∧ ezs_T F' A' ∧ (∀ p j, ¬ (p = 1 ∧ (j = 3 ∨ j = 4 ∨ j = 5 ∨ j = 6 ∨ j = 7 ∨ j = 8 ∨ j = 9) ∨ p = 9 ∧ (j = 4)) → F' p j = F p j) ∧ (∀ p, ¬ (p = 10) → A' p = A p) ∧ (ezt_ST c n (ezp_rk c (ezp_pt c ml) 3 x).1 F') ∧ (ezt_LW 9 (ezp_rk c (ezp_pt c ml) 3 x).2 F' A') ∧ none = v
theorem ezt_m81_9_1_v1_vS {ml : Nat} {mm : Nat} {dd : Int} {c : Int → Int} {n : Int} {x : ezp_X} {F : Nat → Nat → Int} {A : Nat → Int → Int} (hS : ezs_T F A) (hd : 6 * mm + 15 ≤ d) (hml : ml = mm + 1) (hm4 : mm ≤ 4) (hdd : dd = 5 - (ml : Int)) (i82 : ezt_I82_9 l ρ B xa Hb D cA mm) (i81 : ezt_I81_9 l ρ B xa Hb D cA mm) (hn : F 1 2 = n) (hc : c = ezp_ch (A 2) n) (tp : ezp_tp c n) (hw : ∀ j, 0 ≤ j → j < 48 → A 3 j = ezl_cw.getD j.toNat 0) (st : ezt_ST c n x.1 F) (lw : ezt_LW 9 x.2 F A) : ezw_C l ρ B xa Hb D cA 81 d [ezw_p 9, ezw_p 1, ezw_i (1), ezw_i dd] (ezu_g e F A) (ezt_m81_9_1_v1_vSQ e F A ml mm dd c n x) := by
  refine ezw_met (k := 2) rfl rfl ?_
  refine ezw_iload_n rfl rfl ?_
  refine ezw_iconst (4) rfl rfl ?_
  refine ezw_icmp_lt rfl rfl ⟨by decide, by decide⟩ ⟨by decide, by decide⟩ (fun h2_0 => ?_) (fun h2_0 => absurd h2_0 (by omega))
  refine ezw_aload_n rfl rfl ?_
  refine ezw_aload_n rfl rfl ?_
  refine ezw_iload_n rfl rfl ?_
  refine ezw_iconst (1) rfl rfl ?_
  refine ezw_iadd (k := (2)) rfl (by omega) ?_
  refine ezw_iload_n rfl rfl ?_
  refine ezw_call0_3 rfl (by omega) (ezu_at rfl) rfl rfl rfl rfl (ezt_m81_9_1_v2_vS (x := x) hS (by omega) hml hm4 hdd i82 i81 hn hc tp hw st lw) ?_
  rintro _ _ ⟨F1, A1, rfl, hS, nF1, nA1, st_1, lw_1, rfl⟩
  refine ezw_iconst (0) rfl rfl ?_
  refine ezw_istore rfl rfl ?_
  have L24_3 : ∀ c2 : Int, ezw_in c2 → ∀ F_3 : Nat → Nat → Int, ∀ A_3 : Nat → Int → Int, ezs_T F_3 A_3 → (∀ p j, ¬ (p = 1 ∧ (j = 3 ∨ j = 4 ∨ j = 5 ∨ j = 6 ∨ j = 7 ∨ j = 8 ∨ j = 9) ∨ p = 9 ∧ (j = 4)) → F_3 p j = F1 p j) → (∀ p, ¬ (p = 10) → A_3 p = A1 p) → ((0) ≤ c2) → (∃ x1, ezp_rk c (ezp_pt c ml) 3 x = ezp_lp c 1 (ezp_rk c (ezp_pt c ml) 2) (1000 - c2).toNat x1 ∧ ezt_ST c n x1.1 F_3 ∧ ezt_LW 9 x1.2 F_3 A_3) → ezw_E l ρ B xa Hb D cA d ezq_re81 (ezt_m81_9_1_v1_vSQ e F A ml mm dd c n x) 24 [some (ezw_p 9), some (ezw_p 1), some (ezw_i (1)), some (ezw_i dd), some (ezw_i c2), none] [] (ezu_g e F_3 A_3) := by
    refine ezs_up ?_
    intro c2 hc2 ihc2 F_3 A_3 hS nF_3 nA_3 g_3 iv_3
    obtain ⟨x1, hq, st1, lw1⟩ := iv_3
    have hs1 := st1.1
    refine ezw_iload rfl rfl ?_
    refine ezw_sipush (1000) rfl rfl ?_
    refine ezw_icmp_ge rfl rfl hc2 ⟨by decide, by decide⟩ (fun h29_3 => ?_) (fun h29_3 => ?_)
    · exact ezw_return rfl rfl ⟨F_3, A_3, rfl, hS, (fun p j h => by rw [nF_3 p j (fun z => h (z.elim (fun y => (Or.inl ⟨y.1, y.2⟩)) (fun y => (Or.inr ⟨y.1, y.2⟩)))), nF1 p j (fun z => h (z.elim (fun y => (Or.inl ⟨y.1, y.2⟩)) (fun y => (Or.inr ⟨y.1, y.2⟩))))]), (fun p h => by
            funext j
            rw [nA_3 p (fun z => h (z)), nA1 p (fun z => h (z))]), (by
            rw [hq, show (1000 - c2).toNat = 0 by omega]
            exact st1), (by
            rw [hq, show (1000 - c2).toNat = 0 by omega]
            exact lw1), rfl⟩
    · refine ezw_aload_n rfl rfl ?_
      refine ezw_call0_0 rfl (by omega) (ezu_at rfl) rfl rfl rfl rfl (ezt_m45_1 hS (by omega)) ?_
      rintro _ _ ⟨rfl, u5, hu5, p4_0, p4_1, rfl⟩
      refine ezw_if_eq rfl rfl ⟨by omega, by omega⟩ (fun h36_5 => ?_) (fun h36_5 => ?_)
      · exact ezw_return rfl rfl ⟨F_3, A_3, rfl, hS, (fun p j h => by rw [nF_3 p j (fun z => h (z.elim (fun y => (Or.inl ⟨y.1, y.2⟩)) (fun y => (Or.inr ⟨y.1, y.2⟩)))), nF1 p j (fun z => h (z.elim (fun y => (Or.inl ⟨y.1, y.2⟩)) (fun y => (Or.inr ⟨y.1, y.2⟩))))]), (fun p h => by
              funext j
              rw [nA_3 p (fun z => h (z)), nA1 p (fun z => h (z))]), (by
              rw [hq, ezp_lp_n (by have h8 := p4_1 (by omega); omega)]
              exact st1), (by
              rw [hq, ezp_lp_n (by have h8 := p4_1 (by omega); omega)]
              exact lw1), rfl⟩
      · have z1 : x1.1.1 = 0 := by have h0 := p4_0 (by omega); omega
        have k3 := (st1.2.2.1 z1).2.2.1
        have hm : (1000 - c2).toNat = (1000 - (c2 + 1)).toNat + 1 := by omega
        refine ezw_aload_n rfl rfl ?_
        refine ezy_get_i hS rfl rfl rfl rfl rfl rfl (fun u6 hu6 ku6 eu6 => ?_)
        replace eu6 := eu6.symm
        subst eu6
        refine ezw_iload_n rfl rfl ?_
        refine ezw_call2_2 rfl (by omega) rfl rfl (ezt_m84_v1 hS (by omega) hu6) ?_
        rintro _ _ ⟨rfl, u8, hu8, v_7, rfl⟩
        refine ezw_istore rfl rfl ?_
        have eo : u8 = ezp_op (ezp_K c x1.1.2) 1 := by rw [← k3]; exact v_7
        refine ezw_iload rfl rfl ?_
        refine ezw_if_ne rfl rfl hu8 (fun h51_8 => ?_) (fun h51_8 => ?_)
        · refine ezw_aload_n rfl rfl ?_
          refine ezw_call0_0 rfl (by omega) (ezu_at rfl) rfl rfl rfl rfl (ezt_take hS (by omega) (by rw [nF_3 1 2 (by decide), nF1 1 2 (by decide)]; exact hn) (by rw [nA_3 2 (by decide), nA1 2 (by decide)]; exact hc) tp (by rw [nA_3 3 (by decide), nA1 3 (by decide)]; exact hw) st1) ?_
          rintro _ _ ⟨F9, rfl, hS, nF9, st_9, rfl⟩
          refine ezw_aload_n rfl rfl ?_
          refine ezw_aload_n rfl rfl ?_
          refine ezw_iload_n rfl rfl ?_
          refine ezw_iconst (1) rfl rfl ?_
          refine ezw_iadd (k := (2)) rfl (by omega) ?_
          refine ezw_iload_n rfl rfl ?_
          refine ezw_call0_3 rfl (by omega) (ezu_at rfl) rfl rfl rfl rfl (ezt_m81_9_1_v2_vS (x := (ezp_t x1.1, x1.2)) hS (by omega) hml hm4 hdd i82 i81 (by rw [nF9 1 2 (by decide), nF_3 1 2 (by decide), nF1 1 2 (by decide)]; exact hn) (by rw [nA_3 2 (by decide), nA1 2 (by decide)]; exact hc) tp (by rw [nA_3 3 (by decide), nA1 3 (by decide)]; exact hw) st_9 (ezt_LW_fr (F' := F9) (A' := A_3) lw1 (by rw [nF9 9 4 (by decide)]) rfl)) ?_
          rintro _ _ ⟨F10, A10, rfl, hS, nF10, nA10, st_10, lw_10, rfl⟩
          refine ezw_aload_n rfl rfl ?_
          refine ezw_iload rfl rfl ?_
          refine ezw_call0_1 rfl (by omega) (ezu_at rfl) rfl rfl rfl rfl (ezt_m83_9 hS (by omega) hu8 lw_10) ?_
          rintro _ _ ⟨F11, A11, rfl, hS, nF11, nA11, lw_11, rfl⟩
          refine ezw_iload_n rfl rfl ?_
          refine ezw_iconst (1) rfl rfl ?_
          refine ezw_icmp_ne rfl rfl ⟨by decide, by decide⟩ ⟨by decide, by decide⟩ (fun h76_11 => absurd h76_11 (by omega)) (fun h76_11 => ?_)
          exact ezw_return rfl rfl ⟨F11, A11, rfl, hS, (fun p j h => by rw [nF11 p j (fun z => h (Or.inr ⟨z.1, z.2⟩)), nF10 p j (fun z => h (z.elim (fun y => (Or.inl ⟨y.1, y.2⟩)) (fun y => (Or.inr ⟨y.1, y.2⟩)))), nF9 p j (fun z => h (Or.inl ⟨z.1, (z.2.elim (fun y => (Or.inl y)) (fun y => (y.elim (fun y => (Or.inr (Or.inl y))) (fun y => (y.elim (fun y => (Or.inr (Or.inr (Or.inl y)))) (fun y => (y.elim (fun y => (Or.inr (Or.inr (Or.inr (Or.inr (Or.inl y)))))) (fun y => (y.elim (fun y => (Or.inr (Or.inr (Or.inr (Or.inr (Or.inr (Or.inl y))))))) (fun y => (Or.inr (Or.inr (Or.inr (Or.inr (Or.inr (Or.inr y))))))))))))))))⟩)), nF_3 p j (fun z => h (z.elim (fun y => (Or.inl ⟨y.1, y.2⟩)) (fun y => (Or.inr ⟨y.1, y.2⟩)))), nF1 p j (fun z => h (z.elim (fun y => (Or.inl ⟨y.1, y.2⟩)) (fun y => (Or.inr ⟨y.1, y.2⟩))))]), (fun p h => by
                funext j
                rw [nA11 p (fun z => h (z)), nA10 p (fun z => h (z)), nA_3 p (fun z => h (z)), nA1 p (fun z => h (z))]), (by
                rw [hq, hm, ezp_lp_1 z1 (by omega) (by decide)]
                exact (ezt_ST_fr st_10 (fun j j0 j1 => by rw [nF11 1 j (by omega)]))), (by
                rw [hq, hm, ezp_lp_1 z1 (by omega) (by decide)]
                exact (by have h7 := lw_11; rw [eo] at h7; exact h7)), rfl⟩
        · exact ezw_return rfl rfl ⟨F_3, A_3, rfl, hS, (fun p j h => by rw [nF_3 p j (fun z => h (z.elim (fun y => (Or.inl ⟨y.1, y.2⟩)) (fun y => (Or.inr ⟨y.1, y.2⟩)))), nF1 p j (fun z => h (z.elim (fun y => (Or.inl ⟨y.1, y.2⟩)) (fun y => (Or.inr ⟨y.1, y.2⟩))))]), (fun p h => by
                funext j
                rw [nA_3 p (fun z => h (z)), nA1 p (fun z => h (z))]), (by
                rw [hq, hm, ezp_lp_0 z1 (by omega)]
                exact st1), (by
                rw [hq, hm, ezp_lp_0 z1 (by omega)]
                exact lw1), rfl⟩
  exact ezw_keepE [true, true, true, true, true, false] (L24_3 (0) ⟨by decide, by decide⟩ F1 A1 hS (fun _ _ _ => rfl) (fun _ _ => rfl) (by omega) (⟨(ezp_rk c (ezp_pt c ml) 2) x, rfl, st_1, lw_1⟩))
def ezt_m81_9_1_v0_vSQ (e : Bool × Bool) (F : Nat → Nat → Int) (A : Nat → Int → Int) (ml : Nat) (mm : Nat) (dd : Int) (c : Int → Int) (n : Int) (x : ezp_X) : Option ezq_V → (Nat → ezq_C) → Prop := fun v g' => ∃ (F' : Nat → Nat → Int) (A' : Nat → Int → Int), ezu_g e F' A' = g' ∧ ezs_T F' A' ∧ (∀ p j, ¬ (p = 1 ∧ (j = 3 ∨ j = 4 ∨ j = 5 ∨ j = 6 ∨ j = 7 ∨ j = 8 ∨ j = 9) ∨ p = 9 ∧ (j = 4)) → F' p j = F p j) ∧ (∀ p, ¬ (p = 10) → A' p = A p) ∧ (ezt_ST c n (ezp_rk c (ezp_pt c ml) 4 x).1 F') ∧ (ezt_LW 9 (ezp_rk c (ezp_pt c ml) 4 x).2 F' A') ∧ none = v
theorem ezt_m81_9_1_v0_vS {ml : Nat} {mm : Nat} {dd : Int} {c : Int → Int} {n : Int} {x : ezp_X} {F : Nat → Nat → Int} {A : Nat → Int → Int} (hS : ezs_T F A) (hd : 6 * mm + 16 ≤ d) (hml : ml = mm + 1) (hm4 : mm ≤ 4) (hdd : dd = 5 - (ml : Int)) (i82 : ezt_I82_9 l ρ B xa Hb D cA mm) (i81 : ezt_I81_9 l ρ B xa Hb D cA mm) (hn : F 1 2 = n) (hc : c = ezp_ch (A 2) n) (tp : ezp_tp c n) (hw : ∀ j, 0 ≤ j → j < 48 → A 3 j = ezl_cw.getD j.toNat 0) (st : ezt_ST c n x.1 F) (lw : ezt_LW 9 x.2 F A) : ezw_C l ρ B xa Hb D cA 81 d [ezw_p 9, ezw_p 1, ezw_i (0), ezw_i dd] (ezu_g e F A) (ezt_m81_9_1_v0_vSQ e F A ml mm dd c n x) := by
  refine ezw_met (k := 2) rfl rfl ?_
  refine ezw_iload_n rfl rfl ?_
  refine ezw_iconst (4) rfl rfl ?_
  refine ezw_icmp_lt rfl rfl ⟨by decide, by decide⟩ ⟨by decide, by decide⟩ (fun h2_0 => ?_) (fun h2_0 => absurd h2_0 (by omega))
  refine ezw_aload_n rfl rfl ?_
  refine ezw_aload_n rfl rfl ?_
  refine ezw_iload_n rfl rfl ?_
  refine ezw_iconst (1) rfl rfl ?_
  refine ezw_iadd (k := (1)) rfl (by omega) ?_
  refine ezw_iload_n rfl rfl ?_
  refine ezw_call0_3 rfl (by omega) (ezu_at rfl) rfl rfl rfl rfl (ezt_m81_9_1_v1_vS (x := x) hS (by omega) hml hm4 hdd i82 i81 hn hc tp hw st lw) ?_
  rintro _ _ ⟨F1, A1, rfl, hS, nF1, nA1, st_1, lw_1, rfl⟩
  refine ezw_iconst (0) rfl rfl ?_
  refine ezw_istore rfl rfl ?_
  have L24_3 : ∀ c2 : Int, ezw_in c2 → ∀ F_3 : Nat → Nat → Int, ∀ A_3 : Nat → Int → Int, ezs_T F_3 A_3 → (∀ p j, ¬ (p = 1 ∧ (j = 3 ∨ j = 4 ∨ j = 5 ∨ j = 6 ∨ j = 7 ∨ j = 8 ∨ j = 9) ∨ p = 9 ∧ (j = 4)) → F_3 p j = F1 p j) → (∀ p, ¬ (p = 10) → A_3 p = A1 p) → ((0) ≤ c2) → (∃ x1, ezp_rk c (ezp_pt c ml) 4 x = ezp_lp c 0 (ezp_rk c (ezp_pt c ml) 3) (1000 - c2).toNat x1 ∧ ezt_ST c n x1.1 F_3 ∧ ezt_LW 9 x1.2 F_3 A_3) → ezw_E l ρ B xa Hb D cA d ezq_re81 (ezt_m81_9_1_v0_vSQ e F A ml mm dd c n x) 24 [some (ezw_p 9), some (ezw_p 1), some (ezw_i (0)), some (ezw_i dd), some (ezw_i c2), none] [] (ezu_g e F_3 A_3) := by
    refine ezs_up ?_
    intro c2 hc2 ihc2 F_3 A_3 hS nF_3 nA_3 g_3 iv_3
    obtain ⟨x1, hq, st1, lw1⟩ := iv_3
    have hs1 := st1.1
    refine ezw_iload rfl rfl ?_
    refine ezw_sipush (1000) rfl rfl ?_
    refine ezw_icmp_ge rfl rfl hc2 ⟨by decide, by decide⟩ (fun h29_3 => ?_) (fun h29_3 => ?_)
    · exact ezw_return rfl rfl ⟨F_3, A_3, rfl, hS, (fun p j h => by rw [nF_3 p j (fun z => h (z.elim (fun y => (Or.inl ⟨y.1, y.2⟩)) (fun y => (Or.inr ⟨y.1, y.2⟩)))), nF1 p j (fun z => h (z.elim (fun y => (Or.inl ⟨y.1, y.2⟩)) (fun y => (Or.inr ⟨y.1, y.2⟩))))]), (fun p h => by
            funext j
            rw [nA_3 p (fun z => h (z)), nA1 p (fun z => h (z))]), (by
            rw [hq, show (1000 - c2).toNat = 0 by omega]
            exact st1), (by
            rw [hq, show (1000 - c2).toNat = 0 by omega]
            exact lw1), rfl⟩
    · refine ezw_aload_n rfl rfl ?_
      refine ezw_call0_0 rfl (by omega) (ezu_at rfl) rfl rfl rfl rfl (ezt_m45_1 hS (by omega)) ?_
      rintro _ _ ⟨rfl, u5, hu5, p4_0, p4_1, rfl⟩
      refine ezw_if_eq rfl rfl ⟨by omega, by omega⟩ (fun h36_5 => ?_) (fun h36_5 => ?_)
      · exact ezw_return rfl rfl ⟨F_3, A_3, rfl, hS, (fun p j h => by rw [nF_3 p j (fun z => h (z.elim (fun y => (Or.inl ⟨y.1, y.2⟩)) (fun y => (Or.inr ⟨y.1, y.2⟩)))), nF1 p j (fun z => h (z.elim (fun y => (Or.inl ⟨y.1, y.2⟩)) (fun y => (Or.inr ⟨y.1, y.2⟩))))]), (fun p h => by
              funext j
              rw [nA_3 p (fun z => h (z)), nA1 p (fun z => h (z))]), (by
              rw [hq, ezp_lp_n (by have h8 := p4_1 (by omega); omega)]
              exact st1), (by
              rw [hq, ezp_lp_n (by have h8 := p4_1 (by omega); omega)]
              exact lw1), rfl⟩
      · have z1 : x1.1.1 = 0 := by have h0 := p4_0 (by omega); omega
        have k3 := (st1.2.2.1 z1).2.2.1
        have hm : (1000 - c2).toNat = (1000 - (c2 + 1)).toNat + 1 := by omega
        refine ezw_aload_n rfl rfl ?_
        refine ezy_get_i hS rfl rfl rfl rfl rfl rfl (fun u6 hu6 ku6 eu6 => ?_)
        replace eu6 := eu6.symm
        subst eu6
        refine ezw_iload_n rfl rfl ?_
        refine ezw_call2_2 rfl (by omega) rfl rfl (ezt_m84_v0 hS (by omega) hu6) ?_
        rintro _ _ ⟨rfl, u8, hu8, v_7, rfl⟩
        refine ezw_istore rfl rfl ?_
        have eo : u8 = ezp_op (ezp_K c x1.1.2) 0 := by rw [← k3]; exact v_7
        refine ezw_iload rfl rfl ?_
        refine ezw_if_ne rfl rfl hu8 (fun h51_8 => ?_) (fun h51_8 => ?_)
        · refine ezw_aload_n rfl rfl ?_
          refine ezw_call0_0 rfl (by omega) (ezu_at rfl) rfl rfl rfl rfl (ezt_take hS (by omega) (by rw [nF_3 1 2 (by decide), nF1 1 2 (by decide)]; exact hn) (by rw [nA_3 2 (by decide), nA1 2 (by decide)]; exact hc) tp (by rw [nA_3 3 (by decide), nA1 3 (by decide)]; exact hw) st1) ?_
          rintro _ _ ⟨F9, rfl, hS, nF9, st_9, rfl⟩
          refine ezw_aload_n rfl rfl ?_
          refine ezw_aload_n rfl rfl ?_
          refine ezw_iload_n rfl rfl ?_
          refine ezw_iconst (1) rfl rfl ?_
          refine ezw_iadd (k := (1)) rfl (by omega) ?_
          refine ezw_iload_n rfl rfl ?_
          refine ezw_call0_3 rfl (by omega) (ezu_at rfl) rfl rfl rfl rfl (ezt_m81_9_1_v1_vS (x := (ezp_t x1.1, x1.2)) hS (by omega) hml hm4 hdd i82 i81 (by rw [nF9 1 2 (by decide), nF_3 1 2 (by decide), nF1 1 2 (by decide)]; exact hn) (by rw [nA_3 2 (by decide), nA1 2 (by decide)]; exact hc) tp (by rw [nA_3 3 (by decide), nA1 3 (by decide)]; exact hw) st_9 (ezt_LW_fr (F' := F9) (A' := A_3) lw1 (by rw [nF9 9 4 (by decide)]) rfl)) ?_
          rintro _ _ ⟨F10, A10, rfl, hS, nF10, nA10, st_10, lw_10, rfl⟩
          refine ezw_aload_n rfl rfl ?_
          refine ezw_iload rfl rfl ?_
          refine ezw_call0_1 rfl (by omega) (ezu_at rfl) rfl rfl rfl rfl (ezt_m83_9 hS (by omega) hu8 lw_10) ?_
          rintro _ _ ⟨F11, A11, rfl, hS, nF11, nA11, lw_11, rfl⟩
          refine ezw_iload_n rfl rfl ?_
          refine ezw_iconst (1) rfl rfl ?_
          refine ezw_icmp_ne rfl rfl ⟨by decide, by decide⟩ ⟨by decide, by decide⟩ (fun h76_11 => ?_) (fun h76_11 => absurd h76_11 (by omega))
          refine ezw_iinc (k := c2 + 1) (1) rfl rfl rfl (by omega) rfl ?_
          refine ezw_goto rfl rfl ?_
          exact ezw_keepE [true, true, true, true, true, false] (ihc2 (c2 + 1) (by omega) ⟨by omega, by omega⟩ F11 A11 hS (fun p j h => by rw [nF11 p j (fun z => h (Or.inr ⟨z.1, z.2⟩)), nF10 p j (fun z => h (z.elim (fun y => (Or.inl ⟨y.1, y.2⟩)) (fun y => (Or.inr ⟨y.1, y.2⟩)))), nF9 p j (fun z => h (Or.inl ⟨z.1, (z.2.elim (fun y => (Or.inl y)) (fun y => (y.elim (fun y => (Or.inr (Or.inl y))) (fun y => (y.elim (fun y => (Or.inr (Or.inr (Or.inl y)))) (fun y => (y.elim (fun y => (Or.inr (Or.inr (Or.inr (Or.inr (Or.inl y)))))) (fun y => (y.elim (fun y => (Or.inr (Or.inr (Or.inr (Or.inr (Or.inr (Or.inl y))))))) (fun y => (Or.inr (Or.inr (Or.inr (Or.inr (Or.inr (Or.inr y))))))))))))))))⟩)), nF_3 p j (fun z => h (z.elim (fun y => (Or.inl ⟨y.1, y.2⟩)) (fun y => (Or.inr ⟨y.1, y.2⟩))))]) (fun p h => by
                funext j
                rw [nA11 p (fun z => h (z)), nA10 p (fun z => h (z)), nA_3 p (fun z => h (z))]) (by omega) (⟨ezp_l1 c 0 (ezp_rk c (ezp_pt c ml) 3) x1, (by rw [hq, hm, ezp_lp_s z1 (by omega) (by decide), show (1000 - (c2 + 1)).toNat = (1000 - (c2 + 1)).toNat by omega]), (ezt_ST_fr st_10 (fun j j0 j1 => by rw [nF11 1 j (by omega)])), (by have h7 := lw_11; rw [eo] at h7; exact h7)⟩))
        · exact ezw_return rfl rfl ⟨F_3, A_3, rfl, hS, (fun p j h => by rw [nF_3 p j (fun z => h (z.elim (fun y => (Or.inl ⟨y.1, y.2⟩)) (fun y => (Or.inr ⟨y.1, y.2⟩)))), nF1 p j (fun z => h (z.elim (fun y => (Or.inl ⟨y.1, y.2⟩)) (fun y => (Or.inr ⟨y.1, y.2⟩))))]), (fun p h => by
                funext j
                rw [nA_3 p (fun z => h (z)), nA1 p (fun z => h (z))]), (by
                rw [hq, hm, ezp_lp_0 z1 (by omega)]
                exact st1), (by
                rw [hq, hm, ezp_lp_0 z1 (by omega)]
                exact lw1), rfl⟩
  exact ezw_keepE [true, true, true, true, true, false] (L24_3 (0) ⟨by decide, by decide⟩ F1 A1 hS (fun _ _ _ => rfl) (fun _ _ => rfl) (by omega) (⟨(ezp_rk c (ezp_pt c ml) 3) x, rfl, st_1, lw_1⟩))
end KT
