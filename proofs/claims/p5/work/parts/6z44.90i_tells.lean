/-! ===== the class: what is told, reckoned ===== -/
section KT
variable {l : Launch} {ρ : ezq_E} {B : Nat} {xa : Nat → Option Nat} {Hb : Heap} {D : va_G} {cA : Nat → ClassId} {d : Nat} {e : Bool × Bool}
def ezt_m161nQ (e : Bool × Bool) (F : Nat → Nat → Int) (A : Nat → Int → Int) (a0 : Int) (a1 : Int) : Option ezq_V → (Nat → ezq_C) → Prop := fun v g' => ezu_g e F A = g' ∧ ∃ u : Int, (ezw_il u) ∧ (u = a0 ^ (a1).toNat) ∧ (0 ≤ u ∧ u ≤ 1000000000000) ∧ some (ezw_l u) = v
theorem ezt_m161n {a0 a1 : Int} {F : Nat → Nat → Int} {A : Nat → Int → Int} (hS : ezs_T F A) (hd : 0 ≤ d) (ha0 : ezw_in a0) (ha1 : ezw_in a1) (ga : 0 ≤ a0 ∧ a0 ≤ 10 ∧ 0 ≤ a1 ∧ a1 ≤ 12) : ezw_C l ρ B xa Hb D cA 161 d [ezw_i a0, ezw_i a1] (ezu_g e F A) (ezt_m161nQ e F A a0 a1) := by
  refine ezw_met (k := 3) rfl rfl ?_
  refine ezw_lconst (1) rfl rfl ?_
  refine ezw_lstore_n rfl rfl ?_
  refine ezw_iconst (0) rfl rfl ?_
  refine ezw_istore rfl rfl ?_
  have L5_2 : ∀ c1 : Int, ezw_in c1 → ∀ y3 : Int, ezw_il y3 → ((0) ≤ c1) → (c1 ≤ a1) → (y3 = a0 ^ (c1).toNat) → ezw_E l ρ B xa Hb D cA d ezq_re161 (ezt_m161nQ e F A a0 a1) 5 [some (ezw_i a0), some (ezw_i a1), some (ezw_l y3), none, some (ezw_i c1)] [] (ezu_g e F A) := by
    refine ezs_up ?_
    intro c1 hc1 ihc1 y3 hy3 g_2 cb_2 pw_2
    refine ezw_iload rfl rfl ?_
    refine ezw_iload_n rfl rfl ?_
    refine ezw_icmp_ge rfl rfl hc1 ha1 (fun h8_3 => ?_) (fun h8_3 => ?_)
    · refine ezw_lload_n rfl rfl ?_
      exact ezw_lreturn rfl rfl ⟨rfl, y3, hy3, (by rw [pw_2, show c1 = a1 by omega]), (by rw [pw_2]; exact ezn_pow_12 ga.1 ga.2.1 (by omega)), rfl⟩
    · refine ezw_iload rfl rfl ?_
      refine ezw_bipush (12) rfl rfl ?_
      refine ezw_icmp_ge rfl rfl hc1 ⟨by decide, by decide⟩ (fun h15_3 => ?_) (fun h15_3 => ?_)
      · refine ezw_lload_n rfl rfl ?_
        exact ezw_lreturn rfl rfl ⟨rfl, y3, hy3, (by rw [pw_2, show c1 = a1 by omega]), (by rw [pw_2]; exact ezn_pow_12 ga.1 ga.2.1 (by omega)), rfl⟩
      · have h9 := ezn_pow_12 (b := a0) (t := c1 + 1) ga.1 ga.2.1 (by omega)
        rw [ezn_pow_s (by omega), ← pw_2] at h9
        refine ezw_lload_n rfl rfl ?_
        refine ezw_iload_n rfl rfl ?_
        refine ezw_i2l rfl ha0 rfl ?_
        refine ezw_lmul (k := (y3 * a0)) rfl rfl ?_
        refine ezw_lstore_n rfl rfl ?_
        refine ezw_iinc (k := c1 + 1) (1) rfl rfl rfl (by omega) rfl ?_
        refine ezw_goto rfl rfl ?_
        exact ezw_keepE [true, true, true, false, true] (ihc1 (c1 + 1) (by omega) ⟨by omega, by omega⟩ (y3 * a0) ⟨by omega, by omega⟩ (by omega) (by omega) (by rw [ezn_pow_s (by omega), ← pw_2]))
  exact ezw_keepE [true, true, true, false, true] (L5_2 (0) ⟨by decide, by decide⟩ (1) ⟨by decide, by decide⟩ (by omega) (by omega) (Int.pow_zero a0).symm)
def ezt_m160_16_30nQ (e : Bool × Bool) (F : Nat → Nat → Int) (A : Nat → Int → Int) (y : ezp_D) (qc : ezn_Q) (c : Int → Int) (a2 : Int) : Option ezq_V → (Nat → ezq_C) → Prop := fun v g' => ezu_g e F A = g' ∧ ∃ u : Int, (ezw_il u) ∧ (u = ezn_pd qc y c a2) ∧ some (ezw_l u) = v
theorem ezt_m160_16_30n {y : ezp_D} {qc : ezn_Q} {c : Int → Int} {a2 : Int} {F : Nat → Nat → Int} {A : Nat → Int → Int} (hS : ezs_T F A) (hd : 2 ≤ d) (ha2 : ezw_in a2) (tr : ezt_TR 30 y F A) (nu : ezt_NU 30 y A) (hB : ezp_B y) (cq : ezn_CQ qc y 30 A) (qr : ezn_QR qc) (ct : ∀ j, 0 ≤ j → j < 8 → A 17 j = c j) (tb : ezn_TB c) (ga : 0 ≤ a2 ∧ a2 < y.kT) : ezw_C l ρ B xa Hb D cA 160 d [ezw_p 16, ezw_p 30, ezw_i a2] (ezu_g e F A) (ezt_m160_16_30nQ e F A y qc c a2) := by
  refine ezw_met (k := 4) rfl rfl ?_
  refine ezw_lconst (1) rfl rfl ?_
  refine ezw_lstore_n rfl rfl ?_
  refine ezw_iconst (0) rfl rfl ?_
  refine ezw_istore rfl rfl ?_
  have L5_2 : ∀ c1 : Int, ezw_in c1 → ∀ y3 : Int, ezw_il y3 → ((0) ≤ c1) → (c1 ≤ 4) → (y3 = ezn_pdn qc y c a2 (c1).toNat) → ezw_E l ρ B xa Hb D cA d ezq_re160 (ezt_m160_16_30nQ e F A y qc c a2) 5 [some (ezw_p 16), some (ezw_p 30), some (ezw_i a2), some (ezw_l y3), none, some (ezw_i c1), none] [] (ezu_g e F A) := by
    refine ezs_up ?_
    intro c1 hc1 ihc1 y3 hy3 g_2 cb_2 pd_2
    refine ezw_iload rfl rfl ?_
    refine ezw_iconst (4) rfl rfl ?_
    refine ezw_icmp_ge rfl rfl hc1 ⟨by decide, by decide⟩ (fun h8_3 => ?_) (fun h8_3 => ?_)
    · refine ezw_lload_n rfl rfl ?_
      exact ezw_lreturn rfl rfl ⟨rfl, y3, hy3, (by
            rw [pd_2, show c1 = 4 by omega]
            rfl), rfl⟩
    · refine ezw_aload_n rfl rfl ?_
      refine ezw_iload_n rfl rfl ?_
      refine ezw_iconst (0) rfl rfl ?_
      refine ezw_iload rfl rfl ?_
      refine ezw_iconst (0) rfl rfl ?_
      refine ezw_call0_4 rfl (by omega) (ezu_at rfl) rfl rfl rfl rfl (ezt_m113_30n hS (by omega) ha2 ⟨by decide, by decide⟩ hc1 ⟨by decide, by decide⟩ tr nu hB cq qr (by omega)) ?_
      rintro _ _ ⟨rfl, u5, hu5, an_4, rfl⟩
      refine ezw_istore rfl rfl ?_
      have hr9 : u5 = ezn_r0 qc y a2 c1 := an_4
      have hq9 : 0 ≤ ezn_r0 qc y a2 c1 ∧ ezn_r0 qc y a2 c1 ≤ 10 := qr _ _ _ _ _
      have cc1 := ezn_TB_i tb (j := 2 * c1) (by omega) (by omega)
      have cc2 := ezn_TB_i tb (j := 2 * c1 + 1) (by omega) (by omega)
      have cc3 := ct (2 * c1) (by omega) (by omega)
      have cc4 := ct (2 * c1 + 1) (by omega) (by omega)
      have b1 := ezn_pdn_b (y := y) (t := a2) qr tb (n := (c1).toNat) (by omega)
      rw [← pd_2] at b1
      have b2 := ezn_pdn_h (y := y) (t := a2) (i := c1) qr tb (by omega) (by omega)
      have b3 := ezn_pdn_b (y := y) (t := a2) qr tb (n := (c1 + 1).toNat) (by omega)
      rw [ezn_pdn_s (by omega)] at b3
      rw [← pd_2] at b2 b3
      refine ezw_lload_n rfl rfl ?_
      refine ezw_bipush (10) rfl rfl ?_
      refine ezw_iload rfl rfl ?_
      refine ezw_isub (k := -u5 + 10) rfl (by omega) ?_
      refine ezw_aload_n rfl rfl ?_
      refine ezs_getp (p := 17) rfl rfl rfl rfl rfl ?_
      refine ezw_iconst (2) rfl rfl ?_
      refine ezw_iload rfl rfl ?_
      refine ezw_imul (k := 2 * c1) rfl (by omega) ?_
      refine ezw_call3_2 rfl (by omega) rfl rfl (ezt_m27_17o hS (by omega) ⟨by omega, by omega⟩) ?_
      rintro _ _ ⟨rfl, u7, hu7, v_6, o_6, rfl⟩
      have k1 := v_6 (by omega) (by omega)
      refine ezw_call2_2 rfl (by omega) rfl rfl (ezt_m161n hS (by omega) ⟨by omega, by omega⟩ hu7 (by omega)) ?_
      rintro _ _ ⟨rfl, u9, hu9, an_8, r_8, rfl⟩
      have hA : u9 = (10 - ezn_r0 qc y a2 c1) ^ (c (2 * c1)).toNat := by
        rw [an_8, hr9, k1, cc3, show (-ezn_r0 qc y a2 c1 + 10 : Int) = 10 - ezn_r0 qc y a2 c1 by omega]
      rw [← hA] at b2 b3
      refine ezw_lmul (k := (y3 * u9)) rfl rfl ?_
      refine ezw_lstore_n rfl rfl ?_
      refine ezw_lload_n rfl rfl ?_
      refine ezw_iload rfl rfl ?_
      refine ezw_aload_n rfl rfl ?_
      refine ezs_getp (p := 17) rfl rfl rfl rfl rfl ?_
      refine ezw_iconst (2) rfl rfl ?_
      refine ezw_iload rfl rfl ?_
      refine ezw_imul (k := 2 * c1) rfl (by omega) ?_
      refine ezw_iconst (1) rfl rfl ?_
      refine ezw_iadd (k := 2 * c1 + 1) rfl (by omega) ?_
      refine ezw_call3_2 rfl (by omega) rfl rfl (ezt_m27_17o hS (by omega) ⟨by omega, by omega⟩) ?_
      rintro _ _ ⟨rfl, u11, hu11, v_10, o_10, rfl⟩
      have k2 := v_10 (by omega) (by omega)
      refine ezw_call2_2 rfl (by omega) rfl rfl (ezt_m161n hS (by omega) hu5 hu11 (by omega)) ?_
      rintro _ _ ⟨rfl, u13, hu13, an_12, r_12, rfl⟩
      have hC : u13 = (ezn_r0 qc y a2 c1) ^ (c (2 * c1 + 1)).toNat := by
        rw [an_12, hr9, k2, cc4]
      rw [← hC] at b3
      refine ezw_lmul (k := ((y3 * u9) * u13)) rfl rfl ?_
      refine ezw_lstore_n rfl rfl ?_
      refine ezw_iinc (k := c1 + 1) (1) rfl rfl rfl (by omega) rfl ?_
      refine ezw_goto rfl rfl ?_
      exact ezw_keepE [true, true, true, true, false, true, false] (ihc1 (c1 + 1) (by omega) ⟨by omega, by omega⟩ (((y3 * u9) * u13)) ⟨by omega, by omega⟩ (by omega) (by omega) (by rw [ezn_pdn_s (by omega), ← pd_2, ← hA, ← hC]))
  exact ezw_keepE [true, true, true, true, false, true, false] (L5_2 (0) ⟨by decide, by decide⟩ (1) ⟨by decide, by decide⟩ (by omega) (by omega) rfl)
def ezt_m163_16_30nQ (e : Bool × Bool) (F : Nat → Nat → Int) (A : Nat → Int → Int) (y : ezp_D) (qc : ezn_Q) (c : Int → Int) : Option ezq_V → (Nat → ezq_C) → Prop := fun v g' => ezu_g e F A = g' ∧ ∃ u : Int, (ezw_in u) ∧ (u = ezn_bs (ezn_pd qc y c) y.kT.toNat) ∧ some (ezw_i u) = v
theorem ezt_m163_16_30n {y : ezp_D} {qc : ezn_Q} {c : Int → Int} {F : Nat → Nat → Int} {A : Nat → Int → Int} (hS : ezs_T F A) (hd : 3 ≤ d) (tr : ezt_TR 30 y F A) (nu : ezt_NU 30 y A) (hB : ezp_B y) (cq : ezn_CQ qc y 30 A) (qr : ezn_QR qc) (ct : ∀ j, 0 ≤ j → j < 8 → A 17 j = c j) (tb : ezn_TB c) : ezw_C l ρ B xa Hb D cA 163 d [ezw_p 16, ezw_p 30] (ezu_g e F A) (ezt_m163_16_30nQ e F A y qc c) := by
  refine ezw_met (k := 6) rfl rfl ?_
  obtain ⟨⟨c1, c2, c3, c4⟩, ⟨d1, d2, d3, d4, d5, d6, d7, d8⟩, e3, e4, e5, e6⟩ := id tr
  obtain ⟨b1, b2', b3, b4, b5, b6, b7, ⟨b8, b8'⟩, b9⟩ := id hB
  refine ezw_iconst (-1) rfl rfl ?_
  refine ezw_istore_n rfl rfl ?_
  refine ezw_lconst (0) rfl rfl ?_
  refine ezw_lstore_n rfl rfl ?_
  refine ezw_iconst (0) rfl rfl ?_
  refine ezw_istore rfl rfl ?_
  have L7_2 : ∀ c1 : Int, ezw_in c1 → ∀ y3 : Int, ezw_in y3 → ∀ y4 : Int, ezw_il y4 → ((0) ≤ c1) → (c1 ≤ y.kT) → (y4 = ezn_gr (ezn_pd qc y c) (c1).toNat) → (y3 = ezn_bs (ezn_pd qc y c) (c1).toNat) → (-1 ≤ y3 ∧ y3 ≤ 8 ∧ 0 ≤ y4 ∧ y4 ≤ 1000000000000) → ezw_E l ρ B xa Hb D cA d ezq_re163 (ezt_m163_16_30nQ e F A y qc c) 7 [some (ezw_p 16), some (ezw_p 30), some (ezw_i y3), some (ezw_l y4), none, some (ezw_i c1), none, none] [] (ezu_g e F A) := by
    refine ezs_up ?_
    intro c1 hc1 ihc1 y3 hy3 y4 hy4 g_2 cb_2 gr_2 bs_2 br_2
    refine ezw_iload rfl rfl ?_
    refine ezw_aload_n rfl rfl ?_
    refine ezy_get_i hS rfl rfl rfl rfl rfl rfl (fun u5 hu5 ku5 eu5 => ?_)
    replace eu5 := eu5.symm
    subst eu5
    refine ezw_icmp_ge rfl rfl hc1 hu5 (fun h13_5 => ?_) (fun h13_5 => ?_)
    · refine ezw_iload_n rfl rfl ?_
      exact ezw_ireturn rfl rfl ⟨rfl, y3, hy3, (by rw [bs_2, show c1 = y.kT by omega]), rfl⟩
    · refine ezw_aload_n rfl rfl ?_
      refine ezw_aload_n rfl rfl ?_
      refine ezw_iload rfl rfl ?_
      refine ezw_call0_2 rfl (by omega) (ezu_at rfl) rfl rfl rfl rfl (ezt_m160_16_30n hS (by omega) hc1 tr nu hB cq qr ct tb (by omega)) ?_
      rintro _ _ ⟨rfl, u7, hu7, an_6, rfl⟩
      refine ezw_lstore rfl rfl ?_
      have hp9 := an_6
      have pb9 := ezn_pd_b (y := y) qr tb (c1)
      refine ezw_lload rfl rfl ?_
      refine ezw_lload_n rfl rfl ?_
      refine ezw_lcmpE rfl hu7 hy4 (fun u8 hu8 => ?_)
      refine ezw_if_le rfl rfl ⟨by omega, by omega⟩ (fun h29_8 => ?_) (fun h29_8 => ?_)
      · refine ezw_iinc (k := c1 + 1) (1) rfl rfl rfl (by omega) rfl ?_
        refine ezw_goto rfl rfl ?_
        exact ezw_keepE [true, true, true, true, false, true, false, false] (ihc1 (c1 + 1) (by omega) ⟨by omega, by omega⟩ y3 hy3 y4 hy4 (by omega) (by omega) (by
              rw [ezn_gr_s (by omega), ← gr_2]
              first
                | (rw [if_pos (by omega)] <;> omega)
                | (rw [if_neg (by omega)] <;> omega)) (by
              rw [ezn_bs_s (by omega), ← gr_2, ← bs_2]
              first
                | (rw [if_pos (by omega)] <;> omega)
                | (rw [if_neg (by omega)] <;> omega)) (by omega))
      · refine ezw_lload rfl rfl ?_
        refine ezw_lstore_n rfl rfl ?_
        refine ezw_iload rfl rfl ?_
        refine ezw_istore_n rfl rfl ?_
        refine ezw_iinc (k := c1 + 1) (1) rfl rfl rfl (by omega) rfl ?_
        refine ezw_goto rfl rfl ?_
        exact ezw_keepE [true, true, true, true, false, true, false, false] (ihc1 (c1 + 1) (by omega) ⟨by omega, by omega⟩ c1 hc1 u7 hu7 (by omega) (by omega) (by
              rw [ezn_gr_s (by omega), ← gr_2]
              first
                | (rw [if_pos (by omega)] <;> omega)
                | (rw [if_neg (by omega)] <;> omega)) (by
              rw [ezn_bs_s (by omega), ← gr_2, ← bs_2]
              first
                | (rw [if_pos (by omega)] <;> omega)
                | (rw [if_neg (by omega)] <;> omega)) (by omega))
  exact ezw_keepE [true, true, true, true, false, true, false, false] (L7_2 (0) ⟨by decide, by decide⟩ (-1) ⟨by decide, by decide⟩ (0) ⟨by decide, by decide⟩ (by omega) (by omega) rfl rfl (by omega))
def ezt_m164_16_30nQ (e : Bool × Bool) (F : Nat → Nat → Int) (A : Nat → Int → Int) (y : ezp_D) (qc : ezn_Q) (c : Int → Int) (a2 : Int) : Option ezq_V → (Nat → ezq_C) → Prop := fun v g' => ezu_g e F A = g' ∧ ∃ u : Int, (ezw_in u) ∧ (u = ezn_ml (ezn_pd qc y c) y.kT.toNat) ∧ some (ezw_i u) = v
theorem ezt_m164_16_30n {y : ezp_D} {qc : ezn_Q} {c : Int → Int} {a2 : Int} {F : Nat → Nat → Int} {A : Nat → Int → Int} (hS : ezs_T F A) (hd : 3 ≤ d) (ha2 : ezw_in a2) (tr : ezt_TR 30 y F A) (nu : ezt_NU 30 y A) (hB : ezp_B y) (cq : ezn_CQ qc y 30 A) (qr : ezn_QR qc) (ct : ∀ j, 0 ≤ j → j < 8 → A 17 j = c j) (tb : ezn_TB c) (lk : a2 = ezn_bs (ezn_pd qc y c) y.kT.toNat) (l0 : 0 ≤ a2) : ezw_C l ρ B xa Hb D cA 164 d [ezw_p 16, ezw_p 30, ezw_i a2] (ezu_g e F A) (ezt_m164_16_30nQ e F A y qc c a2) := by
  refine ezw_met (k := 3) rfl rfl ?_
  obtain ⟨⟨c1, c2, c3, c4⟩, ⟨d1, d2, d3, d4, d5, d6, d7, d8⟩, e3, e4, e5, e6⟩ := id tr
  obtain ⟨b1, b2', b3, b4, b5, b6, b7, ⟨b8, b8'⟩, b9⟩ := id hB
  have hbr := ezn_bs_r (ezn_pd qc y c) y.kT.toNat
  refine ezw_lconst (0) rfl rfl ?_
  refine ezw_lstore_n rfl rfl ?_
  refine ezw_iconst (0) rfl rfl ?_
  refine ezw_istore rfl rfl ?_
  have L5_2 : ∀ c1 : Int, ezw_in c1 → ∀ y3 : Int, ezw_il y3 → ((0) ≤ c1) → (c1 ≤ y.kT) → (y3 = ezp_sm (ezn_pd qc y c) (c1).toNat) → (0 ≤ y3 ∧ y3 ≤ 1000000000000 * c1) → ezw_E l ρ B xa Hb D cA d ezq_re164 (ezt_m164_16_30nQ e F A y qc c a2) 5 [some (ezw_p 16), some (ezw_p 30), some (ezw_i a2), some (ezw_l y3), none, some (ezw_i c1)] [] (ezu_g e F A) := by
    refine ezs_up ?_
    intro c1 hc1 ihc1 y3 hy3 g_2 cb_2 sm_2 sr_2
    refine ezw_iload rfl rfl ?_
    refine ezw_aload_n rfl rfl ?_
    refine ezy_get_i hS rfl rfl rfl rfl rfl rfl (fun u4 hu4 ku4 eu4 => ?_)
    replace eu4 := eu4.symm
    subst eu4
    refine ezw_icmp_ge rfl rfl hc1 hu4 (fun h11_4 => ?_) (fun h11_4 => ?_)
    · have hsm : y3 = ezp_sm (ezn_pd qc y c) y.kT.toNat := by rw [sm_2, show c1 = y.kT by omega]
      have hsb := ezn_sm_b (f := (ezn_pd qc y c)) (fun k => ezn_pd_b (y := y) qr tb k) y.kT.toNat
      have hbs := ezn_bs_r (ezn_pd qc y c) y.kT.toNat
      have hle := hsb.2.2 a2 (by omega) (by omega)
      have hga := hbs.2.2.2.2.1 (by omega)
      rw [← lk] at hga
      refine ezw_lload_n rfl rfl ?_
      refine ezw_lconst (0) rfl rfl ?_
      refine ezw_lcmpE rfl hy3 ⟨by decide, by decide⟩ (fun u5 hu5 => ?_)
      refine ezw_if_gt rfl rfl ⟨by omega, by omega⟩ (fun h33_5 => ?_) (fun h33_5 => ?_)
      · refine ezw_aload_n rfl rfl ?_
        refine ezw_aload_n rfl rfl ?_
        refine ezw_iload_n rfl rfl ?_
        refine ezw_call0_2 rfl (by omega) (ezu_at rfl) rfl rfl rfl rfl (ezt_m160_16_30n hS (by omega) ha2 tr nu hB cq qr ct tb (by omega)) ?_
        rintro _ _ ⟨rfl, u7, hu7, an_6, rfl⟩
        have hp8 := an_6
        have hdv : (1000000 * u7) / y3 ≤ 1000000 ∧ 0 ≤ (1000000 * u7) / y3 := by
          constructor
          · exact Int.ediv_le_of_le_mul (by omega) (by omega)
          · exact Int.ediv_nonneg (by omega) (by omega)
        refine ezw_ldc2_w (1000000) rfl rfl ?_
        refine ezw_lmul (k := 1000000 * u7) rfl (by omega) ?_
        refine ezw_lload_n rfl rfl ?_
        refine ezw_ldiv rfl ⟨by omega, by omega⟩ hy3 (by omega) (k := ((1000000 * u7) / y3)) (Int.tdiv_eq_ediv_of_nonneg (by omega)) ?_
        refine ezw_l2i rfl rfl ?_
        exact ezw_ireturn rfl rfl ⟨rfl, ((1000000 * u7) / y3), ⟨by omega, by omega⟩, (by
              unfold ezn_ml
              first
                | (exfalso; omega)
                | (rw [← hsm, ← hga.1, ← hp8]; congr 1; omega)), rfl⟩
      · refine ezw_iconst (-1) rfl rfl ?_
        refine ezw_goto rfl rfl ?_
        exact ezw_ireturn rfl rfl ⟨rfl, (-1), ⟨by decide, by decide⟩, (by
              unfold ezn_ml
              first
                | (exfalso; omega)
                | (rw [← hsm, ← hga.1, ← hp8]; congr 1; omega)), rfl⟩
    · refine ezw_lload_n rfl rfl ?_
      refine ezw_aload_n rfl rfl ?_
      refine ezw_aload_n rfl rfl ?_
      refine ezw_iload rfl rfl ?_
      refine ezw_call0_2 rfl (by omega) (ezu_at rfl) rfl rfl rfl rfl (ezt_m160_16_30n hS (by omega) hc1 tr nu hB cq qr ct tb (by omega)) ?_
      rintro _ _ ⟨rfl, u9, hu9, an_8, rfl⟩
      have hp9 := an_8
      have pb9 := ezn_pd_b (y := y) qr tb (c1)
      refine ezw_ladd (k := y3 + u9) rfl (by omega) ?_
      refine ezw_lstore_n rfl rfl ?_
      refine ezw_iinc (k := c1 + 1) (1) rfl rfl rfl (by omega) rfl ?_
      refine ezw_goto rfl rfl ?_
      exact ezw_keepE [true, true, true, true, false, true] (ihc1 (c1 + 1) (by omega) ⟨by omega, by omega⟩ (y3 + u9) ⟨by omega, by omega⟩ (by omega) (by omega) (by rw [ezp_sm_n (by omega), ← sm_2]; omega) (by omega))
  exact ezw_keepE [true, true, true, true, false, true] (L5_2 (0) ⟨by decide, by decide⟩ (0) ⟨by decide, by decide⟩ (by omega) (by omega) rfl (by omega))
def ezt_m167_16_30nQ (e : Bool × Bool) (F : Nat → Nat → Int) (A : Nat → Int → Int) (y : ezp_D) (qc : ezn_Q) (c : Int → Int) (a2 : Int) : Option ezq_V → (Nat → ezq_C) → Prop := fun v g' => ezu_g e F A = g' ∧ ∃ u : Int, (ezw_il u) ∧ (u = ezn_sh qc y c a2) ∧ (0 ≤ u ∧ u ≤ 20000000000000) ∧ some (ezw_l u) = v
theorem ezt_m167_16_30n {y : ezp_D} {qc : ezn_Q} {c : Int → Int} {a2 : Int} {F : Nat → Nat → Int} {A : Nat → Int → Int} (hS : ezs_T F A) (hd : 3 ≤ d) (ha2 : ezw_in a2) (tr : ezt_TR 30 y F A) (nu : ezt_NU 30 y A) (hB : ezp_B y) (cq : ezn_CQ qc y 30 A) (qr : ezn_QR qc) (ct : ∀ j, 0 ≤ j → j < 8 → A 17 j = c j) (tb : ezn_TB c) (ga : 0 ≤ a2 ∧ a2 < 4) : ezw_C l ρ B xa Hb D cA 167 d [ezw_p 16, ezw_p 30, ezw_i a2] (ezu_g e F A) (ezt_m167_16_30nQ e F A y qc c a2) := by
  refine ezw_met (k := 8) rfl rfl ?_
  obtain ⟨⟨c1, c2, c3, c4⟩, ⟨d1, d2, d3, d4, d5, d6, d7, d8⟩, e3, e4, e5, e6⟩ := id tr
  obtain ⟨b1, b2', b3, b4, b5, b6, b7, ⟨b8, b8'⟩, b9⟩ := id hB
  refine ezw_lconst (0) rfl rfl ?_
  refine ezw_lstore_n rfl rfl ?_
  refine ezw_lconst (0) rfl rfl ?_
  refine ezw_lstore rfl rfl ?_
  refine ezw_iconst (0) rfl rfl ?_
  refine ezw_istore rfl rfl ?_
  have L8_2 : ∀ c1 : Int, ezw_in c1 → ∀ y3 : Int, ezw_il y3 → ∀ y4 : Int, ezw_il y4 → ((0) ≤ c1) → (c1 ≤ y.kT) → (y3 = ezn_gr (fun t => ezn_pd qc y c t * ezn_r0 qc y t a2) (c1).toNat) → (y4 = ezn_gr (fun t => ezn_pd qc y c t * (10 - ezn_r0 qc y t a2)) (c1).toNat) → (0 ≤ y3 ∧ y3 ≤ 10000000000000 ∧ 0 ≤ y4 ∧ y4 ≤ 10000000000000) → ezw_E l ρ B xa Hb D cA d ezq_re167 (ezt_m167_16_30nQ e F A y qc c a2) 8 [some (ezw_p 16), some (ezw_p 30), some (ezw_i a2), some (ezw_l y3), none, some (ezw_l y4), none, some (ezw_i c1), none, none, none] [] (ezu_g e F A) := by
    refine ezs_up ?_
    intro c1 hc1 ihc1 y3 hy3 y4 hy4 g_2 cb_2 gr_2 gn_2 br_2
    refine ezw_iload rfl rfl ?_
    refine ezw_aload_n rfl rfl ?_
    refine ezy_get_i hS rfl rfl rfl rfl rfl rfl (fun u5 hu5 ku5 eu5 => ?_)
    replace eu5 := eu5.symm
    subst eu5
    refine ezw_icmp_ge rfl rfl hc1 hu5 (fun h14_5 => ?_) (fun h14_5 => ?_)
    · refine ezw_lload_n rfl rfl ?_
      refine ezw_lload rfl rfl ?_
      refine ezw_ladd (k := y3 + y4) rfl (by omega) ?_
      exact ezw_lreturn rfl rfl ⟨rfl, y3 + y4, ⟨by omega, by omega⟩, (by
            unfold ezn_sh
            rw [gr_2, gn_2, show c1 = y.kT by omega]), by omega, rfl⟩
    · refine ezw_aload_n rfl rfl ?_
      refine ezw_aload_n rfl rfl ?_
      refine ezw_iload rfl rfl ?_
      refine ezw_call0_2 rfl (by omega) (ezu_at rfl) rfl rfl rfl rfl (ezt_m160_16_30n hS (by omega) hc1 tr nu hB cq qr ct tb (by omega)) ?_
      rintro _ _ ⟨rfl, u7, hu7, an_6, rfl⟩
      refine ezw_lstore rfl rfl ?_
      refine ezw_aload_n rfl rfl ?_
      refine ezw_iload rfl rfl ?_
      refine ezw_iconst (0) rfl rfl ?_
      refine ezw_iload_n rfl rfl ?_
      refine ezw_iconst (0) rfl rfl ?_
      refine ezw_call0_4 rfl (by omega) (ezu_at rfl) rfl rfl rfl rfl (ezt_m113_30n hS (by omega) hc1 ⟨by decide, by decide⟩ ha2 ⟨by decide, by decide⟩ tr nu hB cq qr (by omega)) ?_
      rintro _ _ ⟨rfl, u9, hu9, an_8, rfl⟩
      refine ezw_istore rfl rfl ?_
      have hp9 := an_6
      have hr9 : u9 = ezn_r0 qc y c1 a2 := an_8
      have pb9 := ezn_pd_b (y := y) qr tb (c1)
      have hq9 : 0 ≤ ezn_r0 qc y c1 a2 ∧ ezn_r0 qc y c1 a2 ≤ 10 := qr _ _ _ _ _
      have m1 : 0 ≤ u7 * u9 ∧ u7 * u9 ≤ 10000000000000 := by
        constructor
        · exact Int.mul_nonneg (by omega) (by omega)
        · exact Int.le_trans (Int.mul_le_mul (c := 1000000000000) (d := 10) (by omega) (by omega) (by omega) (by decide)) (by decide)
      have m2 : 0 ≤ u7 * (10 - u9) ∧ u7 * (10 - u9) ≤ 10000000000000 := by
        constructor
        · exact Int.mul_nonneg (by omega) (by omega)
        · exact Int.le_trans (Int.mul_le_mul (c := 1000000000000) (d := 10) (by omega) (by omega) (by omega) (by decide)) (by decide)
      have g1 := ezn_gr_s (f := (fun t => ezn_pd qc y c t * ezn_r0 qc y t a2)) (i := c1) (by omega)
      have g2 := ezn_gr_s (f := (fun t => ezn_pd qc y c t * (10 - ezn_r0 qc y t a2))) (i := c1) (by omega)
      simp only [← hp9, ← hr9] at g1 g2
      rw [show (10 - u9 : Int) = -u9 + 10 by omega] at m2 g2
      refine ezw_lload_n rfl rfl ?_
      refine ezw_lload rfl rfl ?_
      refine ezw_iload rfl rfl ?_
      refine ezw_i2l rfl hu9 rfl ?_
      refine ezw_lmul (k := (u7 * u9)) rfl rfl ?_
      refine ezn_mmaxl rfl hy3 ⟨by omega, by omega⟩ rfl (fun u10 hu10 => ?_)
      refine ezw_lstore_n rfl rfl ?_
      refine ezw_lload rfl rfl ?_
      refine ezw_lload rfl rfl ?_
      refine ezw_bipush (10) rfl rfl ?_
      refine ezw_iload rfl rfl ?_
      refine ezw_isub (k := -u9 + 10) rfl (by omega) ?_
      refine ezw_i2l rfl ⟨by omega, by omega⟩ rfl ?_
      refine ezw_lmul (k := (u7 * (-u9 + 10))) rfl rfl ?_
      refine ezn_mmaxl rfl hy4 ⟨by omega, by omega⟩ rfl (fun u11 hu11 => ?_)
      refine ezw_lstore rfl rfl ?_
      refine ezw_iinc (k := c1 + 1) (1) rfl rfl rfl (by omega) rfl ?_
      refine ezw_goto rfl rfl ?_
      exact ezw_keepE [true, true, true, true, false, true, false, true, false, false, false] (ihc1 (c1 + 1) (by omega) ⟨by omega, by omega⟩ u10 ⟨by omega, by omega⟩ u11 ⟨by omega, by omega⟩ (by omega) (by omega) (by
            rw [g1]
            split <;> omega) (by
            rw [g2]
            split <;> omega) (by omega))
  exact ezw_keepE [true, true, true, true, false, true, false, true, false, false, false] (L8_2 (0) ⟨by decide, by decide⟩ (0) ⟨by decide, by decide⟩ (0) ⟨by decide, by decide⟩ (by omega) (by omega) rfl rfl (by omega))
def ezt_m166_16_30nQ (e : Bool × Bool) (F : Nat → Nat → Int) (A : Nat → Int → Int) (y : ezp_D) (qc : ezn_Q) (c : Int → Int) : Option ezq_V → (Nat → ezq_C) → Prop := fun v g' => ezu_g e F A = g' ∧ ∃ u : Int, (ezw_in u) ∧ (u = ezn_te qc y c) ∧ some (ezw_i u) = v
theorem ezt_m166_16_30n {y : ezp_D} {qc : ezn_Q} {c : Int → Int} {F : Nat → Nat → Int} {A : Nat → Int → Int} (hS : ezs_T F A) (hd : 4 ≤ d) (tr : ezt_TR 30 y F A) (nu : ezt_NU 30 y A) (hB : ezp_B y) (cq : ezn_CQ qc y 30 A) (qr : ezn_QR qc) (ct : ∀ j, 0 ≤ j → j < 8 → A 17 j = c j) (tb : ezn_TB c) (sp : 0 < ezn_sh qc y c 0) : ezw_C l ρ B xa Hb D cA 166 d [ezw_p 16, ezw_p 30] (ezu_g e F A) (ezt_m166_16_30nQ e F A y qc c) := by
  refine ezw_met (k := 6) rfl rfl ?_
  obtain ⟨⟨c1, c2, c3, c4⟩, ⟨d1, d2, d3, d4, d5, d6, d7, d8⟩, e3, e4, e5, e6⟩ := id tr
  obtain ⟨b1, b2', b3, b4, b5, b6, b7, ⟨b8, b8'⟩, b9⟩ := id hB
  refine ezw_iconst (-1) rfl rfl ?_
  refine ezw_istore_n rfl rfl ?_
  refine ezw_ldc2_w (-1) rfl rfl ?_
  refine ezw_lstore_n rfl rfl ?_
  refine ezw_iconst (0) rfl rfl ?_
  refine ezw_istore rfl rfl ?_
  have L9_2 : ∀ c1 : Int, ezw_in c1 → ∀ y3 : Int, ezw_in y3 → ∀ y4 : Int, ezw_il y4 → ((0) ≤ c1) → (c1 ≤ 4) → (c1 = 0 ∧ y3 = -1 ∧ y4 = -1 ∨ 1 ≤ c1 ∧ y3 = ezn_bs (ezn_sh qc y c) (c1).toNat ∧ y4 = ezn_gr (ezn_sh qc y c) (c1).toNat) → (-1 ≤ y3 ∧ y3 ≤ 4 ∧ -1 ≤ y4 ∧ y4 ≤ 20000000000000) → ezw_E l ρ B xa Hb D cA d ezq_re166 (ezt_m166_16_30nQ e F A y qc c) 9 [some (ezw_p 16), some (ezw_p 30), some (ezw_i y3), some (ezw_l y4), none, some (ezw_i c1), none, none] [] (ezu_g e F A) := by
    refine ezs_up ?_
    intro c1 hc1 ihc1 y3 hy3 y4 hy4 g_2 cb_2 bg_2 br_2
    refine ezw_iload rfl rfl ?_
    refine ezw_iconst (4) rfl rfl ?_
    refine ezw_icmp_ge rfl rfl hc1 ⟨by decide, by decide⟩ (fun h12_4 => ?_) (fun h12_4 => ?_)
    · refine ezw_iload_n rfl rfl ?_
      exact ezw_ireturn rfl rfl ⟨rfl, y3, hy3, (by
            rcases bg_2 with ⟨z1, z2, z3⟩ | ⟨z1, z2, z3⟩
            · omega
            · rw [z2, show c1 = 4 by omega]
              rfl), rfl⟩
    · refine ezw_aload_n rfl rfl ?_
      refine ezw_aload_n rfl rfl ?_
      refine ezw_iload rfl rfl ?_
      refine ezw_call0_2 rfl (by omega) (ezu_at rfl) rfl rfl rfl rfl (ezt_m167_16_30n hS (by omega) hc1 tr nu hB cq qr ct tb (by omega)) ?_
      rintro _ _ ⟨rfl, u6, hu6, an_5, r_5, rfl⟩
      have hs9 := an_5
      have g1 := ezn_gr_s (f := (ezn_sh qc y c)) (i := c1) (by omega)
      have g2 := ezn_bs_s (f := (ezn_sh qc y c)) (i := c1) (by omega)
      rw [← hs9] at g1 g2
      refine ezw_lstore rfl rfl ?_
      refine ezw_lload rfl rfl ?_
      refine ezw_lload_n rfl rfl ?_
      refine ezw_lcmpE rfl hu6 hy4 (fun u7 hu7 => ?_)
      refine ezw_if_le rfl rfl ⟨by omega, by omega⟩ (fun h28_7 => ?_) (fun h28_7 => ?_)
      · refine ezw_iinc (k := c1 + 1) (1) rfl rfl rfl (by omega) rfl ?_
        refine ezw_goto rfl rfl ?_
        exact ezw_keepE [true, true, true, true, false, true, false, false] (ihc1 (c1 + 1) (by omega) ⟨by omega, by omega⟩ y3 hy3 y4 hy4 (by omega) (by omega) (by
              refine Or.inr ⟨by omega, ?_, ?_⟩
              · rw [g2]
                rcases bg_2 with ⟨z1, z2, z3⟩ | ⟨z1, z2, z3⟩
                · have e0 : ezn_gr (ezn_sh qc y c) (0 : Int).toNat = 0 := rfl
                  subst z1
                  first
                    | (exfalso; omega)
                    | (rw [e0, if_pos (by omega)])
                · rw [← z2, ← z3]
                  first
                    | (rw [if_pos (by omega)])
                    | (rw [if_neg (by omega)])
              · rw [g1]
                rcases bg_2 with ⟨z1, z2, z3⟩ | ⟨z1, z2, z3⟩
                · have e0 : ezn_gr (ezn_sh qc y c) (0 : Int).toNat = 0 := rfl
                  subst z1
                  first
                    | (exfalso; omega)
                    | (rw [e0, if_pos (by omega)])
                · rw [← z3]
                  first
                    | (rw [if_pos (by omega)])
                    | (rw [if_neg (by omega)])) (by omega))
      · refine ezw_lload rfl rfl ?_
        refine ezw_lstore_n rfl rfl ?_
        refine ezw_iload rfl rfl ?_
        refine ezw_istore_n rfl rfl ?_
        refine ezw_iinc (k := c1 + 1) (1) rfl rfl rfl (by omega) rfl ?_
        refine ezw_goto rfl rfl ?_
        exact ezw_keepE [true, true, true, true, false, true, false, false] (ihc1 (c1 + 1) (by omega) ⟨by omega, by omega⟩ c1 hc1 u6 hu6 (by omega) (by omega) (by
              refine Or.inr ⟨by omega, ?_, ?_⟩
              · rw [g2]
                rcases bg_2 with ⟨z1, z2, z3⟩ | ⟨z1, z2, z3⟩
                · have e0 : ezn_gr (ezn_sh qc y c) (0 : Int).toNat = 0 := rfl
                  subst z1
                  first
                    | (exfalso; omega)
                    | (rw [e0, if_pos (by omega)])
                · rw [← z2, ← z3]
                  first
                    | (rw [if_pos (by omega)])
                    | (rw [if_neg (by omega)])
              · rw [g1]
                rcases bg_2 with ⟨z1, z2, z3⟩ | ⟨z1, z2, z3⟩
                · have e0 : ezn_gr (ezn_sh qc y c) (0 : Int).toNat = 0 := rfl
                  subst z1
                  first
                    | (exfalso; omega)
                    | (rw [e0, if_pos (by omega)])
                · rw [← z3]
                  first
                    | (rw [if_pos (by omega)])
                    | (rw [if_neg (by omega)])) (by omega))
  exact ezw_keepE [true, true, true, true, false, true, false, false] (L9_2 (0) ⟨by decide, by decide⟩ (-1) ⟨by decide, by decide⟩ (-1) ⟨by decide, by decide⟩ (by omega) (by omega) (by omega) (by omega))
def ezt_m160_16_47nQ (e : Bool × Bool) (F : Nat → Nat → Int) (A : Nat → Int → Int) (y : ezp_D) (qc : ezn_Q) (c : Int → Int) (a2 : Int) : Option ezq_V → (Nat → ezq_C) → Prop := fun v g' => ezu_g e F A = g' ∧ ∃ u : Int, (ezw_il u) ∧ (u = ezn_pd qc y c a2) ∧ some (ezw_l u) = v
theorem ezt_m160_16_47n {y : ezp_D} {qc : ezn_Q} {c : Int → Int} {a2 : Int} {F : Nat → Nat → Int} {A : Nat → Int → Int} (hS : ezs_T F A) (hd : 2 ≤ d) (ha2 : ezw_in a2) (tr : ezt_TR 47 y F A) (nu : ezt_NU 47 y A) (hB : ezp_B y) (cq : ezn_CQ qc y 47 A) (qr : ezn_QR qc) (ct : ∀ j, 0 ≤ j → j < 8 → A 17 j = c j) (tb : ezn_TB c) (ga : 0 ≤ a2 ∧ a2 < y.kT) : ezw_C l ρ B xa Hb D cA 160 d [ezw_p 16, ezw_p 47, ezw_i a2] (ezu_g e F A) (ezt_m160_16_47nQ e F A y qc c a2) := by
  refine ezw_met (k := 4) rfl rfl ?_
  refine ezw_lconst (1) rfl rfl ?_
  refine ezw_lstore_n rfl rfl ?_
  refine ezw_iconst (0) rfl rfl ?_
  refine ezw_istore rfl rfl ?_
  have L5_2 : ∀ c1 : Int, ezw_in c1 → ∀ y3 : Int, ezw_il y3 → ((0) ≤ c1) → (c1 ≤ 4) → (y3 = ezn_pdn qc y c a2 (c1).toNat) → ezw_E l ρ B xa Hb D cA d ezq_re160 (ezt_m160_16_47nQ e F A y qc c a2) 5 [some (ezw_p 16), some (ezw_p 47), some (ezw_i a2), some (ezw_l y3), none, some (ezw_i c1), none] [] (ezu_g e F A) := by
    refine ezs_up ?_
    intro c1 hc1 ihc1 y3 hy3 g_2 cb_2 pd_2
    refine ezw_iload rfl rfl ?_
    refine ezw_iconst (4) rfl rfl ?_
    refine ezw_icmp_ge rfl rfl hc1 ⟨by decide, by decide⟩ (fun h8_3 => ?_) (fun h8_3 => ?_)
    · refine ezw_lload_n rfl rfl ?_
      exact ezw_lreturn rfl rfl ⟨rfl, y3, hy3, (by
            rw [pd_2, show c1 = 4 by omega]
            rfl), rfl⟩
    · refine ezw_aload_n rfl rfl ?_
      refine ezw_iload_n rfl rfl ?_
      refine ezw_iconst (0) rfl rfl ?_
      refine ezw_iload rfl rfl ?_
      refine ezw_iconst (0) rfl rfl ?_
      refine ezw_call0_4 rfl (by omega) (ezu_at rfl) rfl rfl rfl rfl (ezt_m113_47n hS (by omega) ha2 ⟨by decide, by decide⟩ hc1 ⟨by decide, by decide⟩ tr nu hB cq qr (by omega)) ?_
      rintro _ _ ⟨rfl, u5, hu5, an_4, rfl⟩
      refine ezw_istore rfl rfl ?_
      have hr9 : u5 = ezn_r0 qc y a2 c1 := an_4
      have hq9 : 0 ≤ ezn_r0 qc y a2 c1 ∧ ezn_r0 qc y a2 c1 ≤ 10 := qr _ _ _ _ _
      have cc1 := ezn_TB_i tb (j := 2 * c1) (by omega) (by omega)
      have cc2 := ezn_TB_i tb (j := 2 * c1 + 1) (by omega) (by omega)
      have cc3 := ct (2 * c1) (by omega) (by omega)
      have cc4 := ct (2 * c1 + 1) (by omega) (by omega)
      have b1 := ezn_pdn_b (y := y) (t := a2) qr tb (n := (c1).toNat) (by omega)
      rw [← pd_2] at b1
      have b2 := ezn_pdn_h (y := y) (t := a2) (i := c1) qr tb (by omega) (by omega)
      have b3 := ezn_pdn_b (y := y) (t := a2) qr tb (n := (c1 + 1).toNat) (by omega)
      rw [ezn_pdn_s (by omega)] at b3
      rw [← pd_2] at b2 b3
      refine ezw_lload_n rfl rfl ?_
      refine ezw_bipush (10) rfl rfl ?_
      refine ezw_iload rfl rfl ?_
      refine ezw_isub (k := -u5 + 10) rfl (by omega) ?_
      refine ezw_aload_n rfl rfl ?_
      refine ezs_getp (p := 17) rfl rfl rfl rfl rfl ?_
      refine ezw_iconst (2) rfl rfl ?_
      refine ezw_iload rfl rfl ?_
      refine ezw_imul (k := 2 * c1) rfl (by omega) ?_
      refine ezw_call3_2 rfl (by omega) rfl rfl (ezt_m27_17o hS (by omega) ⟨by omega, by omega⟩) ?_
      rintro _ _ ⟨rfl, u7, hu7, v_6, o_6, rfl⟩
      have k1 := v_6 (by omega) (by omega)
      refine ezw_call2_2 rfl (by omega) rfl rfl (ezt_m161n hS (by omega) ⟨by omega, by omega⟩ hu7 (by omega)) ?_
      rintro _ _ ⟨rfl, u9, hu9, an_8, r_8, rfl⟩
      have hA : u9 = (10 - ezn_r0 qc y a2 c1) ^ (c (2 * c1)).toNat := by
        rw [an_8, hr9, k1, cc3, show (-ezn_r0 qc y a2 c1 + 10 : Int) = 10 - ezn_r0 qc y a2 c1 by omega]
      rw [← hA] at b2 b3
      refine ezw_lmul (k := (y3 * u9)) rfl rfl ?_
      refine ezw_lstore_n rfl rfl ?_
      refine ezw_lload_n rfl rfl ?_
      refine ezw_iload rfl rfl ?_
      refine ezw_aload_n rfl rfl ?_
      refine ezs_getp (p := 17) rfl rfl rfl rfl rfl ?_
      refine ezw_iconst (2) rfl rfl ?_
      refine ezw_iload rfl rfl ?_
      refine ezw_imul (k := 2 * c1) rfl (by omega) ?_
      refine ezw_iconst (1) rfl rfl ?_
      refine ezw_iadd (k := 2 * c1 + 1) rfl (by omega) ?_
      refine ezw_call3_2 rfl (by omega) rfl rfl (ezt_m27_17o hS (by omega) ⟨by omega, by omega⟩) ?_
      rintro _ _ ⟨rfl, u11, hu11, v_10, o_10, rfl⟩
      have k2 := v_10 (by omega) (by omega)
      refine ezw_call2_2 rfl (by omega) rfl rfl (ezt_m161n hS (by omega) hu5 hu11 (by omega)) ?_
      rintro _ _ ⟨rfl, u13, hu13, an_12, r_12, rfl⟩
      have hC : u13 = (ezn_r0 qc y a2 c1) ^ (c (2 * c1 + 1)).toNat := by
        rw [an_12, hr9, k2, cc4]
      rw [← hC] at b3
      refine ezw_lmul (k := ((y3 * u9) * u13)) rfl rfl ?_
      refine ezw_lstore_n rfl rfl ?_
      refine ezw_iinc (k := c1 + 1) (1) rfl rfl rfl (by omega) rfl ?_
      refine ezw_goto rfl rfl ?_
      exact ezw_keepE [true, true, true, true, false, true, false] (ihc1 (c1 + 1) (by omega) ⟨by omega, by omega⟩ (((y3 * u9) * u13)) ⟨by omega, by omega⟩ (by omega) (by omega) (by rw [ezn_pdn_s (by omega), ← pd_2, ← hA, ← hC]))
  exact ezw_keepE [true, true, true, true, false, true, false] (L5_2 (0) ⟨by decide, by decide⟩ (1) ⟨by decide, by decide⟩ (by omega) (by omega) rfl)
def ezt_m163_16_47nQ (e : Bool × Bool) (F : Nat → Nat → Int) (A : Nat → Int → Int) (y : ezp_D) (qc : ezn_Q) (c : Int → Int) : Option ezq_V → (Nat → ezq_C) → Prop := fun v g' => ezu_g e F A = g' ∧ ∃ u : Int, (ezw_in u) ∧ (u = ezn_bs (ezn_pd qc y c) y.kT.toNat) ∧ some (ezw_i u) = v
theorem ezt_m163_16_47n {y : ezp_D} {qc : ezn_Q} {c : Int → Int} {F : Nat → Nat → Int} {A : Nat → Int → Int} (hS : ezs_T F A) (hd : 3 ≤ d) (tr : ezt_TR 47 y F A) (nu : ezt_NU 47 y A) (hB : ezp_B y) (cq : ezn_CQ qc y 47 A) (qr : ezn_QR qc) (ct : ∀ j, 0 ≤ j → j < 8 → A 17 j = c j) (tb : ezn_TB c) : ezw_C l ρ B xa Hb D cA 163 d [ezw_p 16, ezw_p 47] (ezu_g e F A) (ezt_m163_16_47nQ e F A y qc c) := by
  refine ezw_met (k := 6) rfl rfl ?_
  obtain ⟨⟨c1, c2, c3, c4⟩, ⟨d1, d2, d3, d4, d5, d6, d7, d8⟩, e3, e4, e5, e6⟩ := id tr
  obtain ⟨b1, b2', b3, b4, b5, b6, b7, ⟨b8, b8'⟩, b9⟩ := id hB
  refine ezw_iconst (-1) rfl rfl ?_
  refine ezw_istore_n rfl rfl ?_
  refine ezw_lconst (0) rfl rfl ?_
  refine ezw_lstore_n rfl rfl ?_
  refine ezw_iconst (0) rfl rfl ?_
  refine ezw_istore rfl rfl ?_
  have L7_2 : ∀ c1 : Int, ezw_in c1 → ∀ y3 : Int, ezw_in y3 → ∀ y4 : Int, ezw_il y4 → ((0) ≤ c1) → (c1 ≤ y.kT) → (y4 = ezn_gr (ezn_pd qc y c) (c1).toNat) → (y3 = ezn_bs (ezn_pd qc y c) (c1).toNat) → (-1 ≤ y3 ∧ y3 ≤ 8 ∧ 0 ≤ y4 ∧ y4 ≤ 1000000000000) → ezw_E l ρ B xa Hb D cA d ezq_re163 (ezt_m163_16_47nQ e F A y qc c) 7 [some (ezw_p 16), some (ezw_p 47), some (ezw_i y3), some (ezw_l y4), none, some (ezw_i c1), none, none] [] (ezu_g e F A) := by
    refine ezs_up ?_
    intro c1 hc1 ihc1 y3 hy3 y4 hy4 g_2 cb_2 gr_2 bs_2 br_2
    refine ezw_iload rfl rfl ?_
    refine ezw_aload_n rfl rfl ?_
    refine ezy_get_i hS rfl rfl rfl rfl rfl rfl (fun u5 hu5 ku5 eu5 => ?_)
    replace eu5 := eu5.symm
    subst eu5
    refine ezw_icmp_ge rfl rfl hc1 hu5 (fun h13_5 => ?_) (fun h13_5 => ?_)
    · refine ezw_iload_n rfl rfl ?_
      exact ezw_ireturn rfl rfl ⟨rfl, y3, hy3, (by rw [bs_2, show c1 = y.kT by omega]), rfl⟩
    · refine ezw_aload_n rfl rfl ?_
      refine ezw_aload_n rfl rfl ?_
      refine ezw_iload rfl rfl ?_
      refine ezw_call0_2 rfl (by omega) (ezu_at rfl) rfl rfl rfl rfl (ezt_m160_16_47n hS (by omega) hc1 tr nu hB cq qr ct tb (by omega)) ?_
      rintro _ _ ⟨rfl, u7, hu7, an_6, rfl⟩
      refine ezw_lstore rfl rfl ?_
      have hp9 := an_6
      have pb9 := ezn_pd_b (y := y) qr tb (c1)
      refine ezw_lload rfl rfl ?_
      refine ezw_lload_n rfl rfl ?_
      refine ezw_lcmpE rfl hu7 hy4 (fun u8 hu8 => ?_)
      refine ezw_if_le rfl rfl ⟨by omega, by omega⟩ (fun h29_8 => ?_) (fun h29_8 => ?_)
      · refine ezw_iinc (k := c1 + 1) (1) rfl rfl rfl (by omega) rfl ?_
        refine ezw_goto rfl rfl ?_
        exact ezw_keepE [true, true, true, true, false, true, false, false] (ihc1 (c1 + 1) (by omega) ⟨by omega, by omega⟩ y3 hy3 y4 hy4 (by omega) (by omega) (by
              rw [ezn_gr_s (by omega), ← gr_2]
              first
                | (rw [if_pos (by omega)] <;> omega)
                | (rw [if_neg (by omega)] <;> omega)) (by
              rw [ezn_bs_s (by omega), ← gr_2, ← bs_2]
              first
                | (rw [if_pos (by omega)] <;> omega)
                | (rw [if_neg (by omega)] <;> omega)) (by omega))
      · refine ezw_lload rfl rfl ?_
        refine ezw_lstore_n rfl rfl ?_
        refine ezw_iload rfl rfl ?_
        refine ezw_istore_n rfl rfl ?_
        refine ezw_iinc (k := c1 + 1) (1) rfl rfl rfl (by omega) rfl ?_
        refine ezw_goto rfl rfl ?_
        exact ezw_keepE [true, true, true, true, false, true, false, false] (ihc1 (c1 + 1) (by omega) ⟨by omega, by omega⟩ c1 hc1 u7 hu7 (by omega) (by omega) (by
              rw [ezn_gr_s (by omega), ← gr_2]
              first
                | (rw [if_pos (by omega)] <;> omega)
                | (rw [if_neg (by omega)] <;> omega)) (by
              rw [ezn_bs_s (by omega), ← gr_2, ← bs_2]
              first
                | (rw [if_pos (by omega)] <;> omega)
                | (rw [if_neg (by omega)] <;> omega)) (by omega))
  exact ezw_keepE [true, true, true, true, false, true, false, false] (L7_2 (0) ⟨by decide, by decide⟩ (-1) ⟨by decide, by decide⟩ (0) ⟨by decide, by decide⟩ (by omega) (by omega) rfl rfl (by omega))
def ezt_m164_16_47nQ (e : Bool × Bool) (F : Nat → Nat → Int) (A : Nat → Int → Int) (y : ezp_D) (qc : ezn_Q) (c : Int → Int) (a2 : Int) : Option ezq_V → (Nat → ezq_C) → Prop := fun v g' => ezu_g e F A = g' ∧ ∃ u : Int, (ezw_in u) ∧ (u = ezn_ml (ezn_pd qc y c) y.kT.toNat) ∧ some (ezw_i u) = v
theorem ezt_m164_16_47n {y : ezp_D} {qc : ezn_Q} {c : Int → Int} {a2 : Int} {F : Nat → Nat → Int} {A : Nat → Int → Int} (hS : ezs_T F A) (hd : 3 ≤ d) (ha2 : ezw_in a2) (tr : ezt_TR 47 y F A) (nu : ezt_NU 47 y A) (hB : ezp_B y) (cq : ezn_CQ qc y 47 A) (qr : ezn_QR qc) (ct : ∀ j, 0 ≤ j → j < 8 → A 17 j = c j) (tb : ezn_TB c) (lk : a2 = ezn_bs (ezn_pd qc y c) y.kT.toNat) (l0 : 0 ≤ a2) : ezw_C l ρ B xa Hb D cA 164 d [ezw_p 16, ezw_p 47, ezw_i a2] (ezu_g e F A) (ezt_m164_16_47nQ e F A y qc c a2) := by
  refine ezw_met (k := 3) rfl rfl ?_
  obtain ⟨⟨c1, c2, c3, c4⟩, ⟨d1, d2, d3, d4, d5, d6, d7, d8⟩, e3, e4, e5, e6⟩ := id tr
  obtain ⟨b1, b2', b3, b4, b5, b6, b7, ⟨b8, b8'⟩, b9⟩ := id hB
  have hbr := ezn_bs_r (ezn_pd qc y c) y.kT.toNat
  refine ezw_lconst (0) rfl rfl ?_
  refine ezw_lstore_n rfl rfl ?_
  refine ezw_iconst (0) rfl rfl ?_
  refine ezw_istore rfl rfl ?_
  have L5_2 : ∀ c1 : Int, ezw_in c1 → ∀ y3 : Int, ezw_il y3 → ((0) ≤ c1) → (c1 ≤ y.kT) → (y3 = ezp_sm (ezn_pd qc y c) (c1).toNat) → (0 ≤ y3 ∧ y3 ≤ 1000000000000 * c1) → ezw_E l ρ B xa Hb D cA d ezq_re164 (ezt_m164_16_47nQ e F A y qc c a2) 5 [some (ezw_p 16), some (ezw_p 47), some (ezw_i a2), some (ezw_l y3), none, some (ezw_i c1)] [] (ezu_g e F A) := by
    refine ezs_up ?_
    intro c1 hc1 ihc1 y3 hy3 g_2 cb_2 sm_2 sr_2
    refine ezw_iload rfl rfl ?_
    refine ezw_aload_n rfl rfl ?_
    refine ezy_get_i hS rfl rfl rfl rfl rfl rfl (fun u4 hu4 ku4 eu4 => ?_)
    replace eu4 := eu4.symm
    subst eu4
    refine ezw_icmp_ge rfl rfl hc1 hu4 (fun h11_4 => ?_) (fun h11_4 => ?_)
    · have hsm : y3 = ezp_sm (ezn_pd qc y c) y.kT.toNat := by rw [sm_2, show c1 = y.kT by omega]
      have hsb := ezn_sm_b (f := (ezn_pd qc y c)) (fun k => ezn_pd_b (y := y) qr tb k) y.kT.toNat
      have hbs := ezn_bs_r (ezn_pd qc y c) y.kT.toNat
      have hle := hsb.2.2 a2 (by omega) (by omega)
      have hga := hbs.2.2.2.2.1 (by omega)
      rw [← lk] at hga
      refine ezw_lload_n rfl rfl ?_
      refine ezw_lconst (0) rfl rfl ?_
      refine ezw_lcmpE rfl hy3 ⟨by decide, by decide⟩ (fun u5 hu5 => ?_)
      refine ezw_if_gt rfl rfl ⟨by omega, by omega⟩ (fun h33_5 => ?_) (fun h33_5 => ?_)
      · refine ezw_aload_n rfl rfl ?_
        refine ezw_aload_n rfl rfl ?_
        refine ezw_iload_n rfl rfl ?_
        refine ezw_call0_2 rfl (by omega) (ezu_at rfl) rfl rfl rfl rfl (ezt_m160_16_47n hS (by omega) ha2 tr nu hB cq qr ct tb (by omega)) ?_
        rintro _ _ ⟨rfl, u7, hu7, an_6, rfl⟩
        have hp8 := an_6
        have hdv : (1000000 * u7) / y3 ≤ 1000000 ∧ 0 ≤ (1000000 * u7) / y3 := by
          constructor
          · exact Int.ediv_le_of_le_mul (by omega) (by omega)
          · exact Int.ediv_nonneg (by omega) (by omega)
        refine ezw_ldc2_w (1000000) rfl rfl ?_
        refine ezw_lmul (k := 1000000 * u7) rfl (by omega) ?_
        refine ezw_lload_n rfl rfl ?_
        refine ezw_ldiv rfl ⟨by omega, by omega⟩ hy3 (by omega) (k := ((1000000 * u7) / y3)) (Int.tdiv_eq_ediv_of_nonneg (by omega)) ?_
        refine ezw_l2i rfl rfl ?_
        exact ezw_ireturn rfl rfl ⟨rfl, ((1000000 * u7) / y3), ⟨by omega, by omega⟩, (by
              unfold ezn_ml
              first
                | (exfalso; omega)
                | (rw [← hsm, ← hga.1, ← hp8]; congr 1; omega)), rfl⟩
      · refine ezw_iconst (-1) rfl rfl ?_
        refine ezw_goto rfl rfl ?_
        exact ezw_ireturn rfl rfl ⟨rfl, (-1), ⟨by decide, by decide⟩, (by
              unfold ezn_ml
              first
                | (exfalso; omega)
                | (rw [← hsm, ← hga.1, ← hp8]; congr 1; omega)), rfl⟩
    · refine ezw_lload_n rfl rfl ?_
      refine ezw_aload_n rfl rfl ?_
      refine ezw_aload_n rfl rfl ?_
      refine ezw_iload rfl rfl ?_
      refine ezw_call0_2 rfl (by omega) (ezu_at rfl) rfl rfl rfl rfl (ezt_m160_16_47n hS (by omega) hc1 tr nu hB cq qr ct tb (by omega)) ?_
      rintro _ _ ⟨rfl, u9, hu9, an_8, rfl⟩
      have hp9 := an_8
      have pb9 := ezn_pd_b (y := y) qr tb (c1)
      refine ezw_ladd (k := y3 + u9) rfl (by omega) ?_
      refine ezw_lstore_n rfl rfl ?_
      refine ezw_iinc (k := c1 + 1) (1) rfl rfl rfl (by omega) rfl ?_
      refine ezw_goto rfl rfl ?_
      exact ezw_keepE [true, true, true, true, false, true] (ihc1 (c1 + 1) (by omega) ⟨by omega, by omega⟩ (y3 + u9) ⟨by omega, by omega⟩ (by omega) (by omega) (by rw [ezp_sm_n (by omega), ← sm_2]; omega) (by omega))
  exact ezw_keepE [true, true, true, true, false, true] (L5_2 (0) ⟨by decide, by decide⟩ (0) ⟨by decide, by decide⟩ (by omega) (by omega) rfl (by omega))
def ezt_m167_16_47nQ (e : Bool × Bool) (F : Nat → Nat → Int) (A : Nat → Int → Int) (y : ezp_D) (qc : ezn_Q) (c : Int → Int) (a2 : Int) : Option ezq_V → (Nat → ezq_C) → Prop := fun v g' => ezu_g e F A = g' ∧ ∃ u : Int, (ezw_il u) ∧ (u = ezn_sh qc y c a2) ∧ (0 ≤ u ∧ u ≤ 20000000000000) ∧ some (ezw_l u) = v
theorem ezt_m167_16_47n {y : ezp_D} {qc : ezn_Q} {c : Int → Int} {a2 : Int} {F : Nat → Nat → Int} {A : Nat → Int → Int} (hS : ezs_T F A) (hd : 3 ≤ d) (ha2 : ezw_in a2) (tr : ezt_TR 47 y F A) (nu : ezt_NU 47 y A) (hB : ezp_B y) (cq : ezn_CQ qc y 47 A) (qr : ezn_QR qc) (ct : ∀ j, 0 ≤ j → j < 8 → A 17 j = c j) (tb : ezn_TB c) (ga : 0 ≤ a2 ∧ a2 < 4) : ezw_C l ρ B xa Hb D cA 167 d [ezw_p 16, ezw_p 47, ezw_i a2] (ezu_g e F A) (ezt_m167_16_47nQ e F A y qc c a2) := by
  refine ezw_met (k := 8) rfl rfl ?_
  obtain ⟨⟨c1, c2, c3, c4⟩, ⟨d1, d2, d3, d4, d5, d6, d7, d8⟩, e3, e4, e5, e6⟩ := id tr
  obtain ⟨b1, b2', b3, b4, b5, b6, b7, ⟨b8, b8'⟩, b9⟩ := id hB
  refine ezw_lconst (0) rfl rfl ?_
  refine ezw_lstore_n rfl rfl ?_
  refine ezw_lconst (0) rfl rfl ?_
  refine ezw_lstore rfl rfl ?_
  refine ezw_iconst (0) rfl rfl ?_
  refine ezw_istore rfl rfl ?_
  have L8_2 : ∀ c1 : Int, ezw_in c1 → ∀ y3 : Int, ezw_il y3 → ∀ y4 : Int, ezw_il y4 → ((0) ≤ c1) → (c1 ≤ y.kT) → (y3 = ezn_gr (fun t => ezn_pd qc y c t * ezn_r0 qc y t a2) (c1).toNat) → (y4 = ezn_gr (fun t => ezn_pd qc y c t * (10 - ezn_r0 qc y t a2)) (c1).toNat) → (0 ≤ y3 ∧ y3 ≤ 10000000000000 ∧ 0 ≤ y4 ∧ y4 ≤ 10000000000000) → ezw_E l ρ B xa Hb D cA d ezq_re167 (ezt_m167_16_47nQ e F A y qc c a2) 8 [some (ezw_p 16), some (ezw_p 47), some (ezw_i a2), some (ezw_l y3), none, some (ezw_l y4), none, some (ezw_i c1), none, none, none] [] (ezu_g e F A) := by
    refine ezs_up ?_
    intro c1 hc1 ihc1 y3 hy3 y4 hy4 g_2 cb_2 gr_2 gn_2 br_2
    refine ezw_iload rfl rfl ?_
    refine ezw_aload_n rfl rfl ?_
    refine ezy_get_i hS rfl rfl rfl rfl rfl rfl (fun u5 hu5 ku5 eu5 => ?_)
    replace eu5 := eu5.symm
    subst eu5
    refine ezw_icmp_ge rfl rfl hc1 hu5 (fun h14_5 => ?_) (fun h14_5 => ?_)
    · refine ezw_lload_n rfl rfl ?_
      refine ezw_lload rfl rfl ?_
      refine ezw_ladd (k := y3 + y4) rfl (by omega) ?_
      exact ezw_lreturn rfl rfl ⟨rfl, y3 + y4, ⟨by omega, by omega⟩, (by
            unfold ezn_sh
            rw [gr_2, gn_2, show c1 = y.kT by omega]), by omega, rfl⟩
    · refine ezw_aload_n rfl rfl ?_
      refine ezw_aload_n rfl rfl ?_
      refine ezw_iload rfl rfl ?_
      refine ezw_call0_2 rfl (by omega) (ezu_at rfl) rfl rfl rfl rfl (ezt_m160_16_47n hS (by omega) hc1 tr nu hB cq qr ct tb (by omega)) ?_
      rintro _ _ ⟨rfl, u7, hu7, an_6, rfl⟩
      refine ezw_lstore rfl rfl ?_
      refine ezw_aload_n rfl rfl ?_
      refine ezw_iload rfl rfl ?_
      refine ezw_iconst (0) rfl rfl ?_
      refine ezw_iload_n rfl rfl ?_
      refine ezw_iconst (0) rfl rfl ?_
      refine ezw_call0_4 rfl (by omega) (ezu_at rfl) rfl rfl rfl rfl (ezt_m113_47n hS (by omega) hc1 ⟨by decide, by decide⟩ ha2 ⟨by decide, by decide⟩ tr nu hB cq qr (by omega)) ?_
      rintro _ _ ⟨rfl, u9, hu9, an_8, rfl⟩
      refine ezw_istore rfl rfl ?_
      have hp9 := an_6
      have hr9 : u9 = ezn_r0 qc y c1 a2 := an_8
      have pb9 := ezn_pd_b (y := y) qr tb (c1)
      have hq9 : 0 ≤ ezn_r0 qc y c1 a2 ∧ ezn_r0 qc y c1 a2 ≤ 10 := qr _ _ _ _ _
      have m1 : 0 ≤ u7 * u9 ∧ u7 * u9 ≤ 10000000000000 := by
        constructor
        · exact Int.mul_nonneg (by omega) (by omega)
        · exact Int.le_trans (Int.mul_le_mul (c := 1000000000000) (d := 10) (by omega) (by omega) (by omega) (by decide)) (by decide)
      have m2 : 0 ≤ u7 * (10 - u9) ∧ u7 * (10 - u9) ≤ 10000000000000 := by
        constructor
        · exact Int.mul_nonneg (by omega) (by omega)
        · exact Int.le_trans (Int.mul_le_mul (c := 1000000000000) (d := 10) (by omega) (by omega) (by omega) (by decide)) (by decide)
      have g1 := ezn_gr_s (f := (fun t => ezn_pd qc y c t * ezn_r0 qc y t a2)) (i := c1) (by omega)
      have g2 := ezn_gr_s (f := (fun t => ezn_pd qc y c t * (10 - ezn_r0 qc y t a2))) (i := c1) (by omega)
      simp only [← hp9, ← hr9] at g1 g2
      rw [show (10 - u9 : Int) = -u9 + 10 by omega] at m2 g2
      refine ezw_lload_n rfl rfl ?_
      refine ezw_lload rfl rfl ?_
      refine ezw_iload rfl rfl ?_
      refine ezw_i2l rfl hu9 rfl ?_
      refine ezw_lmul (k := (u7 * u9)) rfl rfl ?_
      refine ezn_mmaxl rfl hy3 ⟨by omega, by omega⟩ rfl (fun u10 hu10 => ?_)
      refine ezw_lstore_n rfl rfl ?_
      refine ezw_lload rfl rfl ?_
      refine ezw_lload rfl rfl ?_
      refine ezw_bipush (10) rfl rfl ?_
      refine ezw_iload rfl rfl ?_
      refine ezw_isub (k := -u9 + 10) rfl (by omega) ?_
      refine ezw_i2l rfl ⟨by omega, by omega⟩ rfl ?_
      refine ezw_lmul (k := (u7 * (-u9 + 10))) rfl rfl ?_
      refine ezn_mmaxl rfl hy4 ⟨by omega, by omega⟩ rfl (fun u11 hu11 => ?_)
      refine ezw_lstore rfl rfl ?_
      refine ezw_iinc (k := c1 + 1) (1) rfl rfl rfl (by omega) rfl ?_
      refine ezw_goto rfl rfl ?_
      exact ezw_keepE [true, true, true, true, false, true, false, true, false, false, false] (ihc1 (c1 + 1) (by omega) ⟨by omega, by omega⟩ u10 ⟨by omega, by omega⟩ u11 ⟨by omega, by omega⟩ (by omega) (by omega) (by
            rw [g1]
            split <;> omega) (by
            rw [g2]
            split <;> omega) (by omega))
  exact ezw_keepE [true, true, true, true, false, true, false, true, false, false, false] (L8_2 (0) ⟨by decide, by decide⟩ (0) ⟨by decide, by decide⟩ (0) ⟨by decide, by decide⟩ (by omega) (by omega) rfl rfl (by omega))
def ezt_m166_16_47nQ (e : Bool × Bool) (F : Nat → Nat → Int) (A : Nat → Int → Int) (y : ezp_D) (qc : ezn_Q) (c : Int → Int) : Option ezq_V → (Nat → ezq_C) → Prop := fun v g' => ezu_g e F A = g' ∧ ∃ u : Int, (ezw_in u) ∧ (u = ezn_te qc y c) ∧ some (ezw_i u) = v
theorem ezt_m166_16_47n {y : ezp_D} {qc : ezn_Q} {c : Int → Int} {F : Nat → Nat → Int} {A : Nat → Int → Int} (hS : ezs_T F A) (hd : 4 ≤ d) (tr : ezt_TR 47 y F A) (nu : ezt_NU 47 y A) (hB : ezp_B y) (cq : ezn_CQ qc y 47 A) (qr : ezn_QR qc) (ct : ∀ j, 0 ≤ j → j < 8 → A 17 j = c j) (tb : ezn_TB c) (sp : 0 < ezn_sh qc y c 0) : ezw_C l ρ B xa Hb D cA 166 d [ezw_p 16, ezw_p 47] (ezu_g e F A) (ezt_m166_16_47nQ e F A y qc c) := by
  refine ezw_met (k := 6) rfl rfl ?_
  obtain ⟨⟨c1, c2, c3, c4⟩, ⟨d1, d2, d3, d4, d5, d6, d7, d8⟩, e3, e4, e5, e6⟩ := id tr
  obtain ⟨b1, b2', b3, b4, b5, b6, b7, ⟨b8, b8'⟩, b9⟩ := id hB
  refine ezw_iconst (-1) rfl rfl ?_
  refine ezw_istore_n rfl rfl ?_
  refine ezw_ldc2_w (-1) rfl rfl ?_
  refine ezw_lstore_n rfl rfl ?_
  refine ezw_iconst (0) rfl rfl ?_
  refine ezw_istore rfl rfl ?_
  have L9_2 : ∀ c1 : Int, ezw_in c1 → ∀ y3 : Int, ezw_in y3 → ∀ y4 : Int, ezw_il y4 → ((0) ≤ c1) → (c1 ≤ 4) → (c1 = 0 ∧ y3 = -1 ∧ y4 = -1 ∨ 1 ≤ c1 ∧ y3 = ezn_bs (ezn_sh qc y c) (c1).toNat ∧ y4 = ezn_gr (ezn_sh qc y c) (c1).toNat) → (-1 ≤ y3 ∧ y3 ≤ 4 ∧ -1 ≤ y4 ∧ y4 ≤ 20000000000000) → ezw_E l ρ B xa Hb D cA d ezq_re166 (ezt_m166_16_47nQ e F A y qc c) 9 [some (ezw_p 16), some (ezw_p 47), some (ezw_i y3), some (ezw_l y4), none, some (ezw_i c1), none, none] [] (ezu_g e F A) := by
    refine ezs_up ?_
    intro c1 hc1 ihc1 y3 hy3 y4 hy4 g_2 cb_2 bg_2 br_2
    refine ezw_iload rfl rfl ?_
    refine ezw_iconst (4) rfl rfl ?_
    refine ezw_icmp_ge rfl rfl hc1 ⟨by decide, by decide⟩ (fun h12_4 => ?_) (fun h12_4 => ?_)
    · refine ezw_iload_n rfl rfl ?_
      exact ezw_ireturn rfl rfl ⟨rfl, y3, hy3, (by
            rcases bg_2 with ⟨z1, z2, z3⟩ | ⟨z1, z2, z3⟩
            · omega
            · rw [z2, show c1 = 4 by omega]
              rfl), rfl⟩
    · refine ezw_aload_n rfl rfl ?_
      refine ezw_aload_n rfl rfl ?_
      refine ezw_iload rfl rfl ?_
      refine ezw_call0_2 rfl (by omega) (ezu_at rfl) rfl rfl rfl rfl (ezt_m167_16_47n hS (by omega) hc1 tr nu hB cq qr ct tb (by omega)) ?_
      rintro _ _ ⟨rfl, u6, hu6, an_5, r_5, rfl⟩
      have hs9 := an_5
      have g1 := ezn_gr_s (f := (ezn_sh qc y c)) (i := c1) (by omega)
      have g2 := ezn_bs_s (f := (ezn_sh qc y c)) (i := c1) (by omega)
      rw [← hs9] at g1 g2
      refine ezw_lstore rfl rfl ?_
      refine ezw_lload rfl rfl ?_
      refine ezw_lload_n rfl rfl ?_
      refine ezw_lcmpE rfl hu6 hy4 (fun u7 hu7 => ?_)
      refine ezw_if_le rfl rfl ⟨by omega, by omega⟩ (fun h28_7 => ?_) (fun h28_7 => ?_)
      · refine ezw_iinc (k := c1 + 1) (1) rfl rfl rfl (by omega) rfl ?_
        refine ezw_goto rfl rfl ?_
        exact ezw_keepE [true, true, true, true, false, true, false, false] (ihc1 (c1 + 1) (by omega) ⟨by omega, by omega⟩ y3 hy3 y4 hy4 (by omega) (by omega) (by
              refine Or.inr ⟨by omega, ?_, ?_⟩
              · rw [g2]
                rcases bg_2 with ⟨z1, z2, z3⟩ | ⟨z1, z2, z3⟩
                · have e0 : ezn_gr (ezn_sh qc y c) (0 : Int).toNat = 0 := rfl
                  subst z1
                  first
                    | (exfalso; omega)
                    | (rw [e0, if_pos (by omega)])
                · rw [← z2, ← z3]
                  first
                    | (rw [if_pos (by omega)])
                    | (rw [if_neg (by omega)])
              · rw [g1]
                rcases bg_2 with ⟨z1, z2, z3⟩ | ⟨z1, z2, z3⟩
                · have e0 : ezn_gr (ezn_sh qc y c) (0 : Int).toNat = 0 := rfl
                  subst z1
                  first
                    | (exfalso; omega)
                    | (rw [e0, if_pos (by omega)])
                · rw [← z3]
                  first
                    | (rw [if_pos (by omega)])
                    | (rw [if_neg (by omega)])) (by omega))
      · refine ezw_lload rfl rfl ?_
        refine ezw_lstore_n rfl rfl ?_
        refine ezw_iload rfl rfl ?_
        refine ezw_istore_n rfl rfl ?_
        refine ezw_iinc (k := c1 + 1) (1) rfl rfl rfl (by omega) rfl ?_
        refine ezw_goto rfl rfl ?_
        exact ezw_keepE [true, true, true, true, false, true, false, false] (ihc1 (c1 + 1) (by omega) ⟨by omega, by omega⟩ c1 hc1 u6 hu6 (by omega) (by omega) (by
              refine Or.inr ⟨by omega, ?_, ?_⟩
              · rw [g2]
                rcases bg_2 with ⟨z1, z2, z3⟩ | ⟨z1, z2, z3⟩
                · have e0 : ezn_gr (ezn_sh qc y c) (0 : Int).toNat = 0 := rfl
                  subst z1
                  first
                    | (exfalso; omega)
                    | (rw [e0, if_pos (by omega)])
                · rw [← z2, ← z3]
                  first
                    | (rw [if_pos (by omega)])
                    | (rw [if_neg (by omega)])
              · rw [g1]
                rcases bg_2 with ⟨z1, z2, z3⟩ | ⟨z1, z2, z3⟩
                · have e0 : ezn_gr (ezn_sh qc y c) (0 : Int).toNat = 0 := rfl
                  subst z1
                  first
                    | (exfalso; omega)
                    | (rw [e0, if_pos (by omega)])
                · rw [← z3]
                  first
                    | (rw [if_pos (by omega)])
                    | (rw [if_neg (by omega)])) (by omega))
  exact ezw_keepE [true, true, true, true, false, true, false, false] (L9_2 (0) ⟨by decide, by decide⟩ (-1) ⟨by decide, by decide⟩ (-1) ⟨by decide, by decide⟩ (by omega) (by omega) (by omega) (by omega))
def ezt_m159_0n_fQ (b2 : Bool) (F : Nat → Nat → Int) (A : Nat → Int → Int) (y : ezp_D) (qc : ezn_Q) (c : Int → Int) : Option ezq_V → (Nat → ezq_C) → Prop := fun v g' => ezu_g (false, b2) F A = g' ∧ ∃ u : Int, (ezw_in u) ∧ (u = ezn_ft (ezn_pd qc y c) y.kT.toNat) ∧ some (ezw_i u) = v
theorem ezt_m159_0n_f {b2 : Bool} {y : ezp_D} {qc : ezn_Q} {c : Int → Int} {F : Nat → Nat → Int} {A : Nat → Int → Int} (hS : ezs_T F A) (hd : 3 ≤ d) (tr : ezt_TR 30 y F A) (nu : ezt_NU 30 y A) (hB : ezp_B y) (cq : ezn_CQ qc y 30 A) (qr : ezn_QR qc) (ct : ∀ j, 0 ≤ j → j < 8 → A 17 j = c j) (tb : ezn_TB c) : ezw_C l ρ B xa Hb D cA 159 d [ezw_p 0] (ezu_g (false, b2) F A) (ezt_m159_0n_fQ b2 F A y qc c) := by
  refine ezw_met (k := 2) rfl rfl ?_
  obtain ⟨⟨c1, c2, c3, c4⟩, ⟨d1, d2, d3, d4, d5, d6, d7, d8⟩, e3, e4, e5, e6⟩ := id tr
  obtain ⟨b1, b2', b3, b4, b5, b6, b7, ⟨b8, b8'⟩, b9⟩ := id hB
  refine ezw_iconst (0) rfl rfl ?_
  refine ezw_istore_n rfl rfl ?_
  refine ezw_iconst (0) rfl rfl ?_
  refine ezw_istore_n rfl rfl ?_
  have L4_2 : ∀ c1 : Int, ezw_in c1 → ∀ y3 : Int, ezw_in y3 → ((0) ≤ c1) → (c1 ≤ y.kT) → (y3 = ezn_ft (ezn_pd qc y c) (c1).toNat) → (0 ≤ y3 ∧ y3 < 256) → ezw_E l ρ B xa Hb D cA d ezq_re159 (ezt_m159_0n_fQ b2 F A y qc c) 4 [some (ezw_p 0), some (ezw_i y3), some (ezw_i c1)] [] (ezu_g (false, b2) F A) := by
    refine ezs_up ?_
    intro c1 hc1 ihc1 y3 hy3 g_2 cb_2 ft_2 fr_2
    refine ezw_iload_n rfl rfl ?_
    refine ezw_aload_n rfl rfl ?_
    refine ezs_getp (p := 30) rfl rfl rfl rfl rfl ?_
    refine ezy_get_i hS rfl rfl rfl rfl rfl rfl (fun u4 hu4 ku4 eu4 => ?_)
    replace eu4 := eu4.symm
    subst eu4
    refine ezw_icmp_ge rfl rfl hc1 hu4 (fun h12_4 => ?_) (fun h12_4 => ?_)
    · refine ezw_iload_n rfl rfl ?_
      exact ezw_ireturn rfl rfl ⟨rfl, y3, hy3, (by rw [ft_2, show c1 = y.kT by omega]), rfl⟩
    · refine ezw_aload_n rfl rfl ?_
      refine ezs_getp (p := 16) rfl rfl rfl rfl rfl ?_
      refine ezw_aload_n rfl rfl ?_
      refine ezs_getp (p := 30) rfl rfl rfl rfl rfl ?_
      refine ezw_iload_n rfl rfl ?_
      refine ezw_call0_2 rfl (by omega) (ezu_at rfl) rfl rfl rfl rfl (ezt_m160_16_30n hS (by omega) hc1 tr nu hB cq qr ct tb (by omega)) ?_
      rintro _ _ ⟨rfl, u6, hu6, an_5, rfl⟩
      have hp9 := an_5
      have pb9 := ezn_pd_b (y := y) qr tb (c1)
      have hf9 := ezn_ft_r (ezn_pd qc y c) (c1).toNat (by omega)
      have ho9 := ezt_or1 (v := y3) (j := c1) 8 (by decide) (by omega) (by omega) (by omega) (by omega)
      refine ezw_lconst (0) rfl rfl ?_
      refine ezw_lcmpE rfl hu6 ⟨by decide, by decide⟩ (fun u7 hu7 => ?_)
      refine ezw_if_le rfl rfl ⟨by omega, by omega⟩ (fun h29_7 => ?_) (fun h29_7 => ?_)
      · refine ezw_iinc (k := c1 + 1) (1) rfl rfl rfl (by omega) rfl ?_
        refine ezw_goto rfl rfl ?_
        exact ezw_keepE [true, true, true] (ihc1 (c1 + 1) (by omega) ⟨by omega, by omega⟩ y3 hy3 (by omega) (by omega) (by
              rw [ezn_ft_s (by omega), ← ft_2]
              first
                | (rw [if_pos (by omega)])
                | (rw [if_neg (by omega)])) (by omega))
      · refine ezw_iload_n rfl rfl ?_
        refine ezw_iconst (1) rfl rfl ?_
        refine ezw_iload_n rfl rfl ?_
        refine ezw_ishl rfl (by omega) (by omega) (k := (1 * 2 ^ (c1).toNat)) (rfl) ?_
        refine ezw_ior rfl (k := ezw_or y3 (1 * 2 ^ (c1).toNat)) rfl ?_
        refine ezw_istore_n rfl rfl ?_
        refine ezw_iinc (k := c1 + 1) (1) rfl rfl rfl (by omega) rfl ?_
        refine ezw_goto rfl rfl ?_
        exact ezw_keepE [true, true, true] (ihc1 (c1 + 1) (by omega) ⟨by omega, by omega⟩ ((ezw_or y3 (1 * 2 ^ (c1).toNat))) ⟨by omega, by omega⟩ (by omega) (by omega) (by
              rw [ezn_ft_s (by omega), ← ft_2]
              first
                | (rw [if_pos (by omega)])
                | (rw [if_neg (by omega)])) (by omega))
  exact ezw_keepE [true, true, true] (L4_2 (0) ⟨by decide, by decide⟩ (0) ⟨by decide, by decide⟩ (by omega) (by omega) rfl (by omega))
def ezt_m162_0n_fQ (b2 : Bool) (F : Nat → Nat → Int) (A : Nat → Int → Int) (y : ezp_D) (qc : ezn_Q) (c : Int → Int) (a1 : Int) : Option ezq_V → (Nat → ezq_C) → Prop := fun v g' => ezu_g (false, b2) F A = g' ∧ ∃ u : Int, (ezw_in u) ∧ (u = ezn_li qc y c a1) ∧ some (ezw_i u) = v
theorem ezt_m162_0n_f {b2 : Bool} {y : ezp_D} {qc : ezn_Q} {c : Int → Int} {a1 : Int} {F : Nat → Nat → Int} {A : Nat → Int → Int} (hS : ezs_T F A) (hd : 4 ≤ d) (ha1 : ezw_in a1) (tr : ezt_TR 30 y F A) (nu : ezt_NU 30 y A) (hB : ezp_B y) (cq : ezn_CQ qc y 30 A) (qr : ezn_QR qc) (ct : ∀ j, 0 ≤ j → j < 8 → A 17 j = c j) (tb : ezn_TB c) : ezw_C l ρ B xa Hb D cA 162 d [ezw_p 0, ezw_i a1] (ezu_g (false, b2) F A) (ezt_m162_0n_fQ b2 F A y qc c a1) := by
  refine ezw_met (k := 1) rfl rfl ?_
  obtain ⟨⟨c1, c2, c3, c4⟩, ⟨d1, d2, d3, d4, d5, d6, d7, d8⟩, e3, e4, e5, e6⟩ := id tr
  obtain ⟨b1, b2', b3, b4, b5, b6, b7, ⟨b8, b8'⟩, b9⟩ := id hB
  refine ezw_aload_n rfl rfl ?_
  refine ezs_getp (p := 16) rfl rfl rfl rfl rfl ?_
  refine ezw_aload_n rfl rfl ?_
  refine ezs_getp (p := 30) rfl rfl rfl rfl rfl ?_
  refine ezw_call0_1 rfl (by omega) (ezu_at rfl) rfl rfl rfl rfl (ezt_m163_16_30n hS (by omega) tr nu hB cq qr ct tb) ?_
  rintro _ _ ⟨rfl, u2, hu2, an_1, rfl⟩
  have hb9 := an_1
  have hbr := ezn_bs_r (ezn_pd qc y c) y.kT.toNat
  refine ezw_istore_n rfl rfl ?_
  refine ezw_iload_n rfl rfl ?_
  refine ezw_iconst (-1) rfl rfl ?_
  refine ezw_icmp_ne rfl rfl hu2 ⟨by decide, by decide⟩ (fun h14_2 => ?_) (fun h14_2 => ?_)
  · refine ezw_iload_n rfl rfl ?_
    by_cases q3 : a1 = (0)
    · refine ezw_lookupswitchE (v := 0) (p := 48) q3 rfl (by rfl) ?_
      refine ezw_iload_n rfl rfl ?_
      exact ezw_ireturn rfl rfl ⟨rfl, u2, hu2, (by
            unfold ezn_li
            (repeat (first | rw [if_pos (by omega)] | rw [if_neg (by omega)]))
            try first | exact an_1 | omega), rfl⟩
    by_cases q4 : a1 = (1)
    · refine ezw_lookupswitchE (v := 1) (p := 50) q4 rfl (by rfl) ?_
      refine ezw_aload_n rfl rfl ?_
      refine ezs_getp (p := 16) rfl rfl rfl rfl rfl ?_
      refine ezw_aload_n rfl rfl ?_
      refine ezs_getp (p := 30) rfl rfl rfl rfl rfl ?_
      refine ezw_iload_n rfl rfl ?_
      refine ezw_call0_2 rfl (by omega) (ezu_at rfl) rfl rfl rfl rfl (ezt_m164_16_30n hS (by omega) hu2 tr nu hB cq qr ct tb (by omega) (by omega)) ?_
      rintro _ _ ⟨rfl, u6, hu6, an_5, rfl⟩
      exact ezw_ireturn rfl rfl ⟨rfl, u6, hu6, (by
            unfold ezn_li
            (repeat (first | rw [if_pos (by omega)] | rw [if_neg (by omega)]))
            try first | exact an_5 | omega), rfl⟩
    refine ezw_lookupswitch (p := 63) rfl (ezs_swd ha1 (And.intro (And.intro ⟨by decide, by decide⟩ (fun z => q3 z.symm)) (And.intro (And.intro ⟨by decide, by decide⟩ (fun z => q4 z.symm)) True.intro)) rfl) ?_
    refine ezw_iconst (-1) rfl rfl ?_
    exact ezw_ireturn rfl rfl ⟨rfl, (-1), ⟨by decide, by decide⟩, (by
          unfold ezn_li
          (repeat (first | rw [if_pos (by omega)] | rw [if_neg (by omega)]))
          try first | exact an_1 | omega), rfl⟩
  · refine ezw_iconst (-1) rfl rfl ?_
    exact ezw_ireturn rfl rfl ⟨rfl, (-1), ⟨by decide, by decide⟩, (by
          unfold ezn_li
          (repeat (first | rw [if_pos (by omega)] | rw [if_neg (by omega)]))
          try first | exact an_1 | omega), rfl⟩
def ezt_m165_0n_fQ (b2 : Bool) (F : Nat → Nat → Int) (A : Nat → Int → Int) (y : ezp_D) (qc : ezn_Q) (c : Int → Int) : Option ezq_V → (Nat → ezq_C) → Prop := fun v g' => ezu_g (false, b2) F A = g' ∧ ∃ u : Int, (ezw_in u) ∧ (u = (if ezn_bs (ezn_pd qc y c) y.kT.toNat = -1 then -1 else ezn_te qc y c)) ∧ some (ezw_i u) = v
theorem ezt_m165_0n_f {b2 : Bool} {y : ezp_D} {qc : ezn_Q} {c : Int → Int} {F : Nat → Nat → Int} {A : Nat → Int → Int} (hS : ezs_T F A) (hd : 5 ≤ d) (tr : ezt_TR 30 y F A) (nu : ezt_NU 30 y A) (hB : ezp_B y) (cq : ezn_CQ qc y 30 A) (qr : ezn_QR qc) (ct : ∀ j, 0 ≤ j → j < 8 → A 17 j = c j) (tb : ezn_TB c) : ezw_C l ρ B xa Hb D cA 165 d [ezw_p 0] (ezu_g (false, b2) F A) (ezt_m165_0n_fQ b2 F A y qc c) := by
  refine ezw_met (k := 0) rfl rfl ?_
  obtain ⟨⟨c1, c2, c3, c4⟩, ⟨d1, d2, d3, d4, d5, d6, d7, d8⟩, e3, e4, e5, e6⟩ := id tr
  obtain ⟨b1, b2', b3, b4, b5, b6, b7, ⟨b8, b8'⟩, b9⟩ := id hB
  refine ezw_aload_n rfl rfl ?_
  refine ezs_getp (p := 16) rfl rfl rfl rfl rfl ?_
  refine ezw_aload_n rfl rfl ?_
  refine ezs_getp (p := 30) rfl rfl rfl rfl rfl ?_
  refine ezw_call0_1 rfl (by omega) (ezu_at rfl) rfl rfl rfl rfl (ezt_m163_16_30n hS (by omega) tr nu hB cq qr ct tb) ?_
  rintro _ _ ⟨rfl, u2, hu2, an_1, rfl⟩
  have hb9 := an_1
  have hbr := ezn_bs_r (ezn_pd qc y c) y.kT.toNat
  refine ezw_iconst (-1) rfl rfl ?_
  refine ezw_icmp_ne rfl rfl hu2 ⟨by decide, by decide⟩ (fun h12_2 => ?_) (fun h12_2 => ?_)
  · refine ezw_aload_n rfl rfl ?_
    refine ezs_getp (p := 16) rfl rfl rfl rfl rfl ?_
    refine ezw_aload_n rfl rfl ?_
    refine ezs_getp (p := 30) rfl rfl rfl rfl rfl ?_
    refine ezw_call0_1 rfl (by omega) (ezu_at rfl) rfl rfl rfl rfl (ezt_m166_16_30n hS (by omega) tr nu hB cq qr ct tb (ezn_sh_p qr tb (by omega))) ?_
    rintro _ _ ⟨rfl, u4, hu4, an_3, rfl⟩
    exact ezw_ireturn rfl rfl ⟨rfl, u4, hu4, (by rw [if_neg (by omega)]; exact an_3), rfl⟩
  · refine ezw_iconst (-1) rfl rfl ?_
    refine ezw_goto rfl rfl ?_
    exact ezw_ireturn rfl rfl ⟨rfl, (-1), ⟨by decide, by decide⟩, (by rw [if_pos (by omega)]), rfl⟩
def ezt_m159_0n_tQ (b2 : Bool) (F : Nat → Nat → Int) (A : Nat → Int → Int) (y : ezp_D) (qc : ezn_Q) (c : Int → Int) : Option ezq_V → (Nat → ezq_C) → Prop := fun v g' => ezu_g (true, b2) F A = g' ∧ ∃ u : Int, (ezw_in u) ∧ (u = ezn_ft (ezn_pd qc y c) y.kT.toNat) ∧ some (ezw_i u) = v
theorem ezt_m159_0n_t {b2 : Bool} {y : ezp_D} {qc : ezn_Q} {c : Int → Int} {F : Nat → Nat → Int} {A : Nat → Int → Int} (hS : ezs_T F A) (hd : 3 ≤ d) (tr : ezt_TR 47 y F A) (nu : ezt_NU 47 y A) (hB : ezp_B y) (cq : ezn_CQ qc y 47 A) (qr : ezn_QR qc) (ct : ∀ j, 0 ≤ j → j < 8 → A 17 j = c j) (tb : ezn_TB c) : ezw_C l ρ B xa Hb D cA 159 d [ezw_p 0] (ezu_g (true, b2) F A) (ezt_m159_0n_tQ b2 F A y qc c) := by
  refine ezw_met (k := 2) rfl rfl ?_
  obtain ⟨⟨c1, c2, c3, c4⟩, ⟨d1, d2, d3, d4, d5, d6, d7, d8⟩, e3, e4, e5, e6⟩ := id tr
  obtain ⟨b1, b2', b3, b4, b5, b6, b7, ⟨b8, b8'⟩, b9⟩ := id hB
  refine ezw_iconst (0) rfl rfl ?_
  refine ezw_istore_n rfl rfl ?_
  refine ezw_iconst (0) rfl rfl ?_
  refine ezw_istore_n rfl rfl ?_
  have L4_2 : ∀ c1 : Int, ezw_in c1 → ∀ y3 : Int, ezw_in y3 → ((0) ≤ c1) → (c1 ≤ y.kT) → (y3 = ezn_ft (ezn_pd qc y c) (c1).toNat) → (0 ≤ y3 ∧ y3 < 256) → ezw_E l ρ B xa Hb D cA d ezq_re159 (ezt_m159_0n_tQ b2 F A y qc c) 4 [some (ezw_p 0), some (ezw_i y3), some (ezw_i c1)] [] (ezu_g (true, b2) F A) := by
    refine ezs_up ?_
    intro c1 hc1 ihc1 y3 hy3 g_2 cb_2 ft_2 fr_2
    refine ezw_iload_n rfl rfl ?_
    refine ezw_aload_n rfl rfl ?_
    refine ezs_getp (p := 47) rfl rfl rfl rfl rfl ?_
    refine ezy_get_i hS rfl rfl rfl rfl rfl rfl (fun u4 hu4 ku4 eu4 => ?_)
    replace eu4 := eu4.symm
    subst eu4
    refine ezw_icmp_ge rfl rfl hc1 hu4 (fun h12_4 => ?_) (fun h12_4 => ?_)
    · refine ezw_iload_n rfl rfl ?_
      exact ezw_ireturn rfl rfl ⟨rfl, y3, hy3, (by rw [ft_2, show c1 = y.kT by omega]), rfl⟩
    · refine ezw_aload_n rfl rfl ?_
      refine ezs_getp (p := 16) rfl rfl rfl rfl rfl ?_
      refine ezw_aload_n rfl rfl ?_
      refine ezs_getp (p := 47) rfl rfl rfl rfl rfl ?_
      refine ezw_iload_n rfl rfl ?_
      refine ezw_call0_2 rfl (by omega) (ezu_at rfl) rfl rfl rfl rfl (ezt_m160_16_47n hS (by omega) hc1 tr nu hB cq qr ct tb (by omega)) ?_
      rintro _ _ ⟨rfl, u6, hu6, an_5, rfl⟩
      have hp9 := an_5
      have pb9 := ezn_pd_b (y := y) qr tb (c1)
      have hf9 := ezn_ft_r (ezn_pd qc y c) (c1).toNat (by omega)
      have ho9 := ezt_or1 (v := y3) (j := c1) 8 (by decide) (by omega) (by omega) (by omega) (by omega)
      refine ezw_lconst (0) rfl rfl ?_
      refine ezw_lcmpE rfl hu6 ⟨by decide, by decide⟩ (fun u7 hu7 => ?_)
      refine ezw_if_le rfl rfl ⟨by omega, by omega⟩ (fun h29_7 => ?_) (fun h29_7 => ?_)
      · refine ezw_iinc (k := c1 + 1) (1) rfl rfl rfl (by omega) rfl ?_
        refine ezw_goto rfl rfl ?_
        exact ezw_keepE [true, true, true] (ihc1 (c1 + 1) (by omega) ⟨by omega, by omega⟩ y3 hy3 (by omega) (by omega) (by
              rw [ezn_ft_s (by omega), ← ft_2]
              first
                | (rw [if_pos (by omega)])
                | (rw [if_neg (by omega)])) (by omega))
      · refine ezw_iload_n rfl rfl ?_
        refine ezw_iconst (1) rfl rfl ?_
        refine ezw_iload_n rfl rfl ?_
        refine ezw_ishl rfl (by omega) (by omega) (k := (1 * 2 ^ (c1).toNat)) (rfl) ?_
        refine ezw_ior rfl (k := ezw_or y3 (1 * 2 ^ (c1).toNat)) rfl ?_
        refine ezw_istore_n rfl rfl ?_
        refine ezw_iinc (k := c1 + 1) (1) rfl rfl rfl (by omega) rfl ?_
        refine ezw_goto rfl rfl ?_
        exact ezw_keepE [true, true, true] (ihc1 (c1 + 1) (by omega) ⟨by omega, by omega⟩ ((ezw_or y3 (1 * 2 ^ (c1).toNat))) ⟨by omega, by omega⟩ (by omega) (by omega) (by
              rw [ezn_ft_s (by omega), ← ft_2]
              first
                | (rw [if_pos (by omega)])
                | (rw [if_neg (by omega)])) (by omega))
  exact ezw_keepE [true, true, true] (L4_2 (0) ⟨by decide, by decide⟩ (0) ⟨by decide, by decide⟩ (by omega) (by omega) rfl (by omega))
def ezt_m162_0n_tQ (b2 : Bool) (F : Nat → Nat → Int) (A : Nat → Int → Int) (y : ezp_D) (qc : ezn_Q) (c : Int → Int) (a1 : Int) : Option ezq_V → (Nat → ezq_C) → Prop := fun v g' => ezu_g (true, b2) F A = g' ∧ ∃ u : Int, (ezw_in u) ∧ (u = ezn_li qc y c a1) ∧ some (ezw_i u) = v
theorem ezt_m162_0n_t {b2 : Bool} {y : ezp_D} {qc : ezn_Q} {c : Int → Int} {a1 : Int} {F : Nat → Nat → Int} {A : Nat → Int → Int} (hS : ezs_T F A) (hd : 4 ≤ d) (ha1 : ezw_in a1) (tr : ezt_TR 47 y F A) (nu : ezt_NU 47 y A) (hB : ezp_B y) (cq : ezn_CQ qc y 47 A) (qr : ezn_QR qc) (ct : ∀ j, 0 ≤ j → j < 8 → A 17 j = c j) (tb : ezn_TB c) : ezw_C l ρ B xa Hb D cA 162 d [ezw_p 0, ezw_i a1] (ezu_g (true, b2) F A) (ezt_m162_0n_tQ b2 F A y qc c a1) := by
  refine ezw_met (k := 1) rfl rfl ?_
  obtain ⟨⟨c1, c2, c3, c4⟩, ⟨d1, d2, d3, d4, d5, d6, d7, d8⟩, e3, e4, e5, e6⟩ := id tr
  obtain ⟨b1, b2', b3, b4, b5, b6, b7, ⟨b8, b8'⟩, b9⟩ := id hB
  refine ezw_aload_n rfl rfl ?_
  refine ezs_getp (p := 16) rfl rfl rfl rfl rfl ?_
  refine ezw_aload_n rfl rfl ?_
  refine ezs_getp (p := 47) rfl rfl rfl rfl rfl ?_
  refine ezw_call0_1 rfl (by omega) (ezu_at rfl) rfl rfl rfl rfl (ezt_m163_16_47n hS (by omega) tr nu hB cq qr ct tb) ?_
  rintro _ _ ⟨rfl, u2, hu2, an_1, rfl⟩
  have hb9 := an_1
  have hbr := ezn_bs_r (ezn_pd qc y c) y.kT.toNat
  refine ezw_istore_n rfl rfl ?_
  refine ezw_iload_n rfl rfl ?_
  refine ezw_iconst (-1) rfl rfl ?_
  refine ezw_icmp_ne rfl rfl hu2 ⟨by decide, by decide⟩ (fun h14_2 => ?_) (fun h14_2 => ?_)
  · refine ezw_iload_n rfl rfl ?_
    by_cases q3 : a1 = (0)
    · refine ezw_lookupswitchE (v := 0) (p := 48) q3 rfl (by rfl) ?_
      refine ezw_iload_n rfl rfl ?_
      exact ezw_ireturn rfl rfl ⟨rfl, u2, hu2, (by
            unfold ezn_li
            (repeat (first | rw [if_pos (by omega)] | rw [if_neg (by omega)]))
            try first | exact an_1 | omega), rfl⟩
    by_cases q4 : a1 = (1)
    · refine ezw_lookupswitchE (v := 1) (p := 50) q4 rfl (by rfl) ?_
      refine ezw_aload_n rfl rfl ?_
      refine ezs_getp (p := 16) rfl rfl rfl rfl rfl ?_
      refine ezw_aload_n rfl rfl ?_
      refine ezs_getp (p := 47) rfl rfl rfl rfl rfl ?_
      refine ezw_iload_n rfl rfl ?_
      refine ezw_call0_2 rfl (by omega) (ezu_at rfl) rfl rfl rfl rfl (ezt_m164_16_47n hS (by omega) hu2 tr nu hB cq qr ct tb (by omega) (by omega)) ?_
      rintro _ _ ⟨rfl, u6, hu6, an_5, rfl⟩
      exact ezw_ireturn rfl rfl ⟨rfl, u6, hu6, (by
            unfold ezn_li
            (repeat (first | rw [if_pos (by omega)] | rw [if_neg (by omega)]))
            try first | exact an_5 | omega), rfl⟩
    refine ezw_lookupswitch (p := 63) rfl (ezs_swd ha1 (And.intro (And.intro ⟨by decide, by decide⟩ (fun z => q3 z.symm)) (And.intro (And.intro ⟨by decide, by decide⟩ (fun z => q4 z.symm)) True.intro)) rfl) ?_
    refine ezw_iconst (-1) rfl rfl ?_
    exact ezw_ireturn rfl rfl ⟨rfl, (-1), ⟨by decide, by decide⟩, (by
          unfold ezn_li
          (repeat (first | rw [if_pos (by omega)] | rw [if_neg (by omega)]))
          try first | exact an_1 | omega), rfl⟩
  · refine ezw_iconst (-1) rfl rfl ?_
    exact ezw_ireturn rfl rfl ⟨rfl, (-1), ⟨by decide, by decide⟩, (by
          unfold ezn_li
          (repeat (first | rw [if_pos (by omega)] | rw [if_neg (by omega)]))
          try first | exact an_1 | omega), rfl⟩
def ezt_m165_0n_tQ (b2 : Bool) (F : Nat → Nat → Int) (A : Nat → Int → Int) (y : ezp_D) (qc : ezn_Q) (c : Int → Int) : Option ezq_V → (Nat → ezq_C) → Prop := fun v g' => ezu_g (true, b2) F A = g' ∧ ∃ u : Int, (ezw_in u) ∧ (u = (if ezn_bs (ezn_pd qc y c) y.kT.toNat = -1 then -1 else ezn_te qc y c)) ∧ some (ezw_i u) = v
theorem ezt_m165_0n_t {b2 : Bool} {y : ezp_D} {qc : ezn_Q} {c : Int → Int} {F : Nat → Nat → Int} {A : Nat → Int → Int} (hS : ezs_T F A) (hd : 5 ≤ d) (tr : ezt_TR 47 y F A) (nu : ezt_NU 47 y A) (hB : ezp_B y) (cq : ezn_CQ qc y 47 A) (qr : ezn_QR qc) (ct : ∀ j, 0 ≤ j → j < 8 → A 17 j = c j) (tb : ezn_TB c) : ezw_C l ρ B xa Hb D cA 165 d [ezw_p 0] (ezu_g (true, b2) F A) (ezt_m165_0n_tQ b2 F A y qc c) := by
  refine ezw_met (k := 0) rfl rfl ?_
  obtain ⟨⟨c1, c2, c3, c4⟩, ⟨d1, d2, d3, d4, d5, d6, d7, d8⟩, e3, e4, e5, e6⟩ := id tr
  obtain ⟨b1, b2', b3, b4, b5, b6, b7, ⟨b8, b8'⟩, b9⟩ := id hB
  refine ezw_aload_n rfl rfl ?_
  refine ezs_getp (p := 16) rfl rfl rfl rfl rfl ?_
  refine ezw_aload_n rfl rfl ?_
  refine ezs_getp (p := 47) rfl rfl rfl rfl rfl ?_
  refine ezw_call0_1 rfl (by omega) (ezu_at rfl) rfl rfl rfl rfl (ezt_m163_16_47n hS (by omega) tr nu hB cq qr ct tb) ?_
  rintro _ _ ⟨rfl, u2, hu2, an_1, rfl⟩
  have hb9 := an_1
  have hbr := ezn_bs_r (ezn_pd qc y c) y.kT.toNat
  refine ezw_iconst (-1) rfl rfl ?_
  refine ezw_icmp_ne rfl rfl hu2 ⟨by decide, by decide⟩ (fun h12_2 => ?_) (fun h12_2 => ?_)
  · refine ezw_aload_n rfl rfl ?_
    refine ezs_getp (p := 16) rfl rfl rfl rfl rfl ?_
    refine ezw_aload_n rfl rfl ?_
    refine ezs_getp (p := 47) rfl rfl rfl rfl rfl ?_
    refine ezw_call0_1 rfl (by omega) (ezu_at rfl) rfl rfl rfl rfl (ezt_m166_16_47n hS (by omega) tr nu hB cq qr ct tb (ezn_sh_p qr tb (by omega))) ?_
    rintro _ _ ⟨rfl, u4, hu4, an_3, rfl⟩
    exact ezw_ireturn rfl rfl ⟨rfl, u4, hu4, (by rw [if_neg (by omega)]; exact an_3), rfl⟩
  · refine ezw_iconst (-1) rfl rfl ?_
    refine ezw_goto rfl rfl ?_
    exact ezw_ireturn rfl rfl ⟨rfl, (-1), ⟨by decide, by decide⟩, (by rw [if_pos (by omega)]), rfl⟩
end KT
