/-! ===== the class: how it stands ===== -/
section KT
variable {l : Launch} {ρ : ezq_E} {B : Nat} {xa : Nat → Option Nat} {Hb : Heap} {D : va_G} {cA : Nat → ClassId} {d : Nat} {e : Bool × Bool}
def ezt_m107nQ (e : Bool × Bool) (F : Nat → Nat → Int) (A : Nat → Int → Int) (a0 : Int) : Option ezq_V → (Nat → ezq_C) → Prop := fun v g' => ezu_g e F A = g' ∧ ∃ u : Int, (ezw_in u) ∧ (u = ezn_lo a0) ∧ some (ezw_i u) = v
theorem ezt_m107n {a0 : Int} {F : Nat → Nat → Int} {A : Nat → Int → Int} (hS : ezs_T F A) (hd : 1 ≤ d) (ha0 : ezw_in a0) (ga : 0 ≤ a0 ∧ a0 < 64) : ezw_C l ρ B xa Hb D cA 107 d [ezw_i a0] (ezu_g e F A) (ezt_m107nQ e F A a0) := by
  refine ezw_met (k := 1) rfl rfl ?_
  refine ezw_iconst (5) rfl rfl ?_
  refine ezw_istore_n rfl rfl ?_
  have L2_2 : ∀ c1 : Int, ezw_in c1 → (c1 ≤ (5)) → (-1 ≤ c1) → (∀ q, c1 < q → q < 6 → ezt_b a0 q = 0) → ezw_E l ρ B xa Hb D cA d ezq_re107 (ezt_m107nQ e F A a0) 2 [some (ezw_i a0), some (ezw_i c1)] [] (ezu_g e F A) := by
    refine ezs_dn ?_
    intro c1 hc1 ihc1 g_2 cb_2 z_2
    refine ezw_iload_n rfl rfl ?_
    refine ezw_if_lt rfl rfl hc1 (fun h3_2 => ?_) (fun h3_2 => ?_)
    · refine ezw_iconst (-1) rfl rfl ?_
      exact ezw_ireturn rfl rfl ⟨rfl, (-1), ⟨by decide, by decide⟩, (ezn_lo_z ga.1 ga.2 (fun q q0 q1 => z_2 q (by omega) q1)).1.symm, rfl⟩
    · refine ezw_iload_n rfl rfl ?_
      refine ezw_iload_n rfl rfl ?_
      refine ezw_call3_2 rfl (by omega) rfl rfl (ezt_m49o hS (by omega) ha0 hc1) ?_
      rintro _ _ ⟨rfl, u4, hu4, v_3, o_3, rfl⟩
      refine ezw_iconst (1) rfl rfl ?_
      refine ezw_icmp_ne rfl rfl hu4 ⟨by decide, by decide⟩ (fun h12_4 => ?_) (fun h12_4 => ?_)
      · refine ezw_iinc (k := c1 - 1) (-1) rfl rfl rfl (by omega) rfl ?_
        refine ezw_goto rfl rfl ?_
        exact ezw_keepE [true, true] (ihc1 (c1 - 1) (by omega) ⟨by omega, by omega⟩ (by omega) (by omega) (fun q q0 q1 => by
              by_cases hq : q = c1
              · rw [hq]
                have h9 := v_3 (by omega) (by omega)
                have h8 := ezn_b01 a0 c1
                omega
              · exact z_2 q (by omega) q1))
      · refine ezw_iload_n rfl rfl ?_
        exact ezw_ireturn rfl rfl ⟨rfl, c1, hc1, (ezn_lo_of ga.1 ga.2 (by omega) (by omega) (by have h9 := v_3 (by omega) (by omega); omega) z_2).1.symm, rfl⟩
  exact ezw_keepE [true, true] (L2_2 (5) ⟨by decide, by decide⟩ (by omega) (by omega) (fun q q0 q1 => by omega))
def ezt_m27_43oQ (e : Bool × Bool) (F : Nat → Nat → Int) (A : Nat → Int → Int) (a1 : Int) : Option ezq_V → (Nat → ezq_C) → Prop := fun v g' => ezu_g e F A = g' ∧ ∃ u : Int, (ezw_in u) ∧ (0 ≤ a1 → a1 < 6 → u = A 43 a1) ∧ (a1 < 0 ∨ 6 ≤ a1 → u = 0) ∧ some (ezw_i u) = v
theorem ezt_m27_43o {a1 : Int} {F : Nat → Nat → Int} {A : Nat → Int → Int} (hS : ezs_T F A) (hd : 0 ≤ d) (ha1 : ezw_in a1) : ezw_C l ρ B xa Hb D cA 27 d [ezw_p 43, ezw_i a1] (ezu_g e F A) (ezt_m27_43oQ e F A a1) := by
  refine ezw_met (k := 0) rfl rfl ?_
  refine ezw_aload_n rfl rfl ?_
  refine ezw_ifnull rfl ?_
  refine ezw_iload_n rfl rfl ?_
  refine ezw_if_lt rfl rfl ha1 (fun h5_0 => ?_) (fun h5_0 => ?_)
  · refine ezw_iconst (0) rfl rfl ?_
    exact ezw_ireturn rfl rfl ⟨rfl, (0), ⟨by decide, by decide⟩, by omega, by omega, rfl⟩
  · refine ezw_iload_n rfl rfl ?_
    refine ezw_aload_n rfl rfl ?_
    refine ezs_alen (k := 6) rfl rfl rfl rfl (by decide) (by decide) ?_
    refine ezw_icmp_ge rfl rfl ha1 ⟨by decide, by decide⟩ (fun h11_0 => ?_) (fun h11_0 => ?_)
    · refine ezw_iconst (0) rfl rfl ?_
      exact ezw_ireturn rfl rfl ⟨rfl, (0), ⟨by decide, by decide⟩, by omega, by omega, rfl⟩
    · refine ezw_aload_n rfl rfl ?_
      refine ezw_iload_n rfl rfl ?_
      refine ezy_iaload hS rfl rfl rfl (by omega) (by omega) (by decide) (fun u1 hu1 ku1 eu1 => ?_)
      refine ezw_goto rfl rfl ?_
      exact ezw_ireturn rfl rfl ⟨rfl, u1, hu1, by omega, by omega, rfl⟩
def ezt_m108_30nQ (e : Bool × Bool) (F : Nat → Nat → Int) (A : Nat → Int → Int) (y : ezp_D) (a1 : Int) : Option ezq_V → (Nat → ezq_C) → Prop := fun v g' => ezu_g e F A = g' ∧ ∃ u : Int, (ezw_in u) ∧ (u = ezn_sa y a1) ∧ some (ezw_i u) = v
theorem ezt_m108_30n {y : ezp_D} {a1 : Int} {F : Nat → Nat → Int} {A : Nat → Int → Int} (hS : ezs_T F A) (hd : 1 ≤ d) (ha1 : ezw_in a1) (tr : ezt_TR 30 y F A) (nu : ezt_NU 30 y A) (hB : ezp_B y) : ezw_C l ρ B xa Hb D cA 108 d [ezw_p 30, ezw_i a1] (ezu_g e F A) (ezt_m108_30nQ e F A y a1) := by
  refine ezw_met (k := 0) rfl rfl ?_
  obtain ⟨⟨c1, c2, c3, c4⟩, ⟨d1, d2, d3, d4, d5, d6, d7, d8⟩, e3, e4, e5, e6⟩ := id tr
  obtain ⟨b1, b2', b3, b4, b5, b6, b7, ⟨b8, b8'⟩, b9⟩ := id hB
  refine ezw_iload_n rfl rfl ?_
  refine ezw_if_lt rfl rfl ha1 (fun h1_0 => ?_) (fun h1_0 => ?_)
  · refine ezw_iconst (-1) rfl rfl ?_
    exact ezw_ireturn rfl rfl ⟨rfl, (-1), ⟨by decide, by decide⟩, (by unfold ezn_sa; rw [if_neg (by omega)]), rfl⟩
  · refine ezw_iload_n rfl rfl ?_
    refine ezw_aload_n rfl rfl ?_
    refine ezy_get_i hS rfl rfl rfl rfl rfl rfl (fun u1 hu1 ku1 eu1 => ?_)
    replace eu1 := eu1.symm
    subst eu1
    refine ezw_icmp_ge rfl rfl ha1 hu1 (fun h9_1 => ?_) (fun h9_1 => ?_)
    · refine ezw_iconst (-1) rfl rfl ?_
      exact ezw_ireturn rfl rfl ⟨rfl, (-1), ⟨by decide, by decide⟩, (by unfold ezn_sa; rw [if_neg (by omega)]), rfl⟩
    · refine ezw_aload_n rfl rfl ?_
      refine ezs_getp (p := 43) rfl rfl rfl rfl rfl ?_
      refine ezw_iload_n rfl rfl ?_
      refine ezw_call3_2 rfl (by omega) rfl rfl (ezt_m27_43o hS (by omega) ha1) ?_
      rintro _ _ ⟨rfl, u3, hu3, v_2, o_2, rfl⟩
      refine ezw_goto rfl rfl ?_
      exact ezw_ireturn rfl rfl ⟨rfl, u3, hu3, (by
            unfold ezn_sa
            rw [if_pos (by omega)]
            have h9 := v_2 (by omega) (by omega)
            rw [h9]
            exact e5 a1 (by omega) (by omega)), rfl⟩
def ezt_m27_60oQ (e : Bool × Bool) (F : Nat → Nat → Int) (A : Nat → Int → Int) (a1 : Int) : Option ezq_V → (Nat → ezq_C) → Prop := fun v g' => ezu_g e F A = g' ∧ ∃ u : Int, (ezw_in u) ∧ (0 ≤ a1 → a1 < 6 → u = A 60 a1) ∧ (a1 < 0 ∨ 6 ≤ a1 → u = 0) ∧ some (ezw_i u) = v
theorem ezt_m27_60o {a1 : Int} {F : Nat → Nat → Int} {A : Nat → Int → Int} (hS : ezs_T F A) (hd : 0 ≤ d) (ha1 : ezw_in a1) : ezw_C l ρ B xa Hb D cA 27 d [ezw_p 60, ezw_i a1] (ezu_g e F A) (ezt_m27_60oQ e F A a1) := by
  refine ezw_met (k := 0) rfl rfl ?_
  refine ezw_aload_n rfl rfl ?_
  refine ezw_ifnull rfl ?_
  refine ezw_iload_n rfl rfl ?_
  refine ezw_if_lt rfl rfl ha1 (fun h5_0 => ?_) (fun h5_0 => ?_)
  · refine ezw_iconst (0) rfl rfl ?_
    exact ezw_ireturn rfl rfl ⟨rfl, (0), ⟨by decide, by decide⟩, by omega, by omega, rfl⟩
  · refine ezw_iload_n rfl rfl ?_
    refine ezw_aload_n rfl rfl ?_
    refine ezs_alen (k := 6) rfl rfl rfl rfl (by decide) (by decide) ?_
    refine ezw_icmp_ge rfl rfl ha1 ⟨by decide, by decide⟩ (fun h11_0 => ?_) (fun h11_0 => ?_)
    · refine ezw_iconst (0) rfl rfl ?_
      exact ezw_ireturn rfl rfl ⟨rfl, (0), ⟨by decide, by decide⟩, by omega, by omega, rfl⟩
    · refine ezw_aload_n rfl rfl ?_
      refine ezw_iload_n rfl rfl ?_
      refine ezy_iaload hS rfl rfl rfl (by omega) (by omega) (by decide) (fun u1 hu1 ku1 eu1 => ?_)
      refine ezw_goto rfl rfl ?_
      exact ezw_ireturn rfl rfl ⟨rfl, u1, hu1, by omega, by omega, rfl⟩
def ezt_m108_47nQ (e : Bool × Bool) (F : Nat → Nat → Int) (A : Nat → Int → Int) (y : ezp_D) (a1 : Int) : Option ezq_V → (Nat → ezq_C) → Prop := fun v g' => ezu_g e F A = g' ∧ ∃ u : Int, (ezw_in u) ∧ (u = ezn_sa y a1) ∧ some (ezw_i u) = v
theorem ezt_m108_47n {y : ezp_D} {a1 : Int} {F : Nat → Nat → Int} {A : Nat → Int → Int} (hS : ezs_T F A) (hd : 1 ≤ d) (ha1 : ezw_in a1) (tr : ezt_TR 47 y F A) (nu : ezt_NU 47 y A) (hB : ezp_B y) : ezw_C l ρ B xa Hb D cA 108 d [ezw_p 47, ezw_i a1] (ezu_g e F A) (ezt_m108_47nQ e F A y a1) := by
  refine ezw_met (k := 0) rfl rfl ?_
  obtain ⟨⟨c1, c2, c3, c4⟩, ⟨d1, d2, d3, d4, d5, d6, d7, d8⟩, e3, e4, e5, e6⟩ := id tr
  obtain ⟨b1, b2', b3, b4, b5, b6, b7, ⟨b8, b8'⟩, b9⟩ := id hB
  refine ezw_iload_n rfl rfl ?_
  refine ezw_if_lt rfl rfl ha1 (fun h1_0 => ?_) (fun h1_0 => ?_)
  · refine ezw_iconst (-1) rfl rfl ?_
    exact ezw_ireturn rfl rfl ⟨rfl, (-1), ⟨by decide, by decide⟩, (by unfold ezn_sa; rw [if_neg (by omega)]), rfl⟩
  · refine ezw_iload_n rfl rfl ?_
    refine ezw_aload_n rfl rfl ?_
    refine ezy_get_i hS rfl rfl rfl rfl rfl rfl (fun u1 hu1 ku1 eu1 => ?_)
    replace eu1 := eu1.symm
    subst eu1
    refine ezw_icmp_ge rfl rfl ha1 hu1 (fun h9_1 => ?_) (fun h9_1 => ?_)
    · refine ezw_iconst (-1) rfl rfl ?_
      exact ezw_ireturn rfl rfl ⟨rfl, (-1), ⟨by decide, by decide⟩, (by unfold ezn_sa; rw [if_neg (by omega)]), rfl⟩
    · refine ezw_aload_n rfl rfl ?_
      refine ezs_getp (p := 60) rfl rfl rfl rfl rfl ?_
      refine ezw_iload_n rfl rfl ?_
      refine ezw_call3_2 rfl (by omega) rfl rfl (ezt_m27_60o hS (by omega) ha1) ?_
      rintro _ _ ⟨rfl, u3, hu3, v_2, o_2, rfl⟩
      refine ezw_goto rfl rfl ?_
      exact ezw_ireturn rfl rfl ⟨rfl, u3, hu3, (by
            unfold ezn_sa
            rw [if_pos (by omega)]
            have h9 := v_2 (by omega) (by omega)
            rw [h9]
            exact e5 a1 (by omega) (by omega)), rfl⟩
def ezt_m106_13_30nQ (e : Bool × Bool) (F : Nat → Nat → Int) (A : Nat → Int → Int) (y : ezp_D) (w : ezn_N) : Option ezq_V → (Nat → ezq_C) → Prop := fun v g' => ezu_g e F A = g' ∧ ∃ u : Int, (ezw_in u) ∧ (u = ezn_la y w) ∧ some (ezw_i u) = v
theorem ezt_m106_13_30n {y : ezp_D} {w : ezn_N} {F : Nat → Nat → Int} {A : Nat → Int → Int} (hS : ezs_T F A) (hd : 2 ≤ d) (tr : ezt_TR 30 y F A) (nu : ezt_NU 30 y A) (hB : ezp_B y) (cw : ezn_C 13 w F) (wb : ezn_B y w) : ezw_C l ρ B xa Hb D cA 106 d [ezw_p 13, ezw_p 30] (ezu_g e F A) (ezt_m106_13_30nQ e F A y w) := by
  refine ezw_met (k := 0) rfl rfl ?_
  obtain ⟨w0, w1, w2, w3, w4, w5, w6⟩ := id cw
  obtain ⟨⟨x0, x1⟩, x2, x3, x4, x5, x6, x7, x8, x9, x10, x11, x12⟩ := id wb
  refine ezw_aload_n rfl rfl ?_
  refine ezw_aload_n rfl rfl ?_
  refine ezy_get_i hS rfl rfl rfl rfl rfl rfl (fun u1 hu1 ku1 eu1 => ?_)
  replace eu1 := eu1.symm
  subst eu1
  refine ezw_call2_1 rfl (by omega) rfl rfl (ezt_m107n hS (by omega) hu1 (by omega)) ?_
  rintro _ _ ⟨rfl, u3, hu3, an_2, rfl⟩
  refine ezw_call0_1 rfl (by omega) (ezu_at rfl) rfl rfl rfl rfl (ezt_m108_30n hS (by omega) hu3 tr nu hB) ?_
  rintro _ _ ⟨rfl, u5, hu5, an_4, rfl⟩
  exact ezw_ireturn rfl rfl ⟨rfl, u5, hu5, (by rw [an_4, an_2, w0]; exact ezn_la_sa wb), rfl⟩
def ezt_m109_13_30nQ (e : Bool × Bool) (F : Nat → Nat → Int) (A : Nat → Int → Int) (y : ezp_D) (w : ezn_N) (a2 : Int) : Option ezq_V → (Nat → ezq_C) → Prop := fun v g' => ezu_g e F A = g' ∧ ∃ u : Int, (ezw_in u) ∧ (u = ezn_ps y w a2 6) ∧ some (ezw_i u) = v
theorem ezt_m109_13_30n {y : ezp_D} {w : ezn_N} {a2 : Int} {F : Nat → Nat → Int} {A : Nat → Int → Int} (hS : ezs_T F A) (hd : 2 ≤ d) (ha2 : ezw_in a2) (tr : ezt_TR 30 y F A) (nu : ezt_NU 30 y A) (hB : ezp_B y) (cw : ezn_C 13 w F) (wb : ezn_B y w) : ezw_C l ρ B xa Hb D cA 109 d [ezw_p 13, ezw_p 30, ezw_i a2] (ezu_g e F A) (ezt_m109_13_30nQ e F A y w a2) := by
  refine ezw_met (k := 1) rfl rfl ?_
  obtain ⟨w0, w1, w2, w3, w4, w5, w6⟩ := id cw
  obtain ⟨⟨x0, x1⟩, x2, x3, x4, x5, x6, x7, x8, x9, x10, x11, x12⟩ := id wb
  refine ezw_iconst (0) rfl rfl ?_
  refine ezw_istore_n rfl rfl ?_
  have L2_2 : ∀ c1 : Int, ezw_in c1 → ((0) ≤ c1) → (c1 ≤ 6) → (ezn_ps y w a2 6 = ezn_ps y w a2 (6 - c1).toNat) → ezw_E l ρ B xa Hb D cA d ezq_re109 (ezt_m109_13_30nQ e F A y w a2) 2 [some (ezw_p 13), some (ezw_p 30), some (ezw_i a2), some (ezw_i c1)] [] (ezu_g e F A) := by
    refine ezs_up ?_
    intro c1 hc1 ihc1 g_2 cb_2 ps_2
    refine ezw_iload_n rfl rfl ?_
    refine ezw_bipush (6) rfl rfl ?_
    refine ezw_icmp_ge rfl rfl hc1 ⟨by decide, by decide⟩ (fun h5_2 => ?_) (fun h5_2 => ?_)
    · refine ezw_iconst (-1) rfl rfl ?_
      exact ezw_ireturn rfl rfl ⟨rfl, (-1), ⟨by decide, by decide⟩, (by rw [ps_2, show c1 = 6 by omega]; rfl), rfl⟩
    · refine ezw_aload_n rfl rfl ?_
      refine ezy_get_i hS rfl rfl rfl rfl rfl rfl (fun u3 hu3 ku3 eu3 => ?_)
      replace eu3 := eu3.symm
      subst eu3
      refine ezw_iload_n rfl rfl ?_
      refine ezw_call3_2 rfl (by omega) rfl rfl (ezt_m49o hS (by omega) hu3 hc1) ?_
      rintro _ _ ⟨rfl, u5, hu5, v_4, o_4, rfl⟩
      refine ezw_iconst (1) rfl rfl ?_
      refine ezw_icmp_ne rfl rfl hu5 ⟨by decide, by decide⟩ (fun h17_5 => ?_) (fun h17_5 => ?_)
      · refine ezw_iinc (k := c1 + 1) (1) rfl rfl rfl (by omega) rfl ?_
        refine ezw_goto rfl rfl ?_
        exact ezw_keepE [true, true, true, true] (ihc1 (c1 + 1) (by omega) ⟨by omega, by omega⟩ (by omega) (by omega) (by
              rw [ps_2]
              refine ezn_ps_F (by omega) (by omega) (fun hz => ?_)
              have h9 := v_4 (by omega) (by omega)
              rw [w0] at h9
              omega))
      · refine ezw_aload_n rfl rfl ?_
        refine ezw_iload_n rfl rfl ?_
        refine ezw_call0_1 rfl (by omega) (ezu_at rfl) rfl rfl rfl rfl (ezt_m108_30n hS (by omega) hc1 tr nu hB) ?_
        rintro _ _ ⟨rfl, u7, hu7, an_6, rfl⟩
        refine ezw_iload_n rfl rfl ?_
        refine ezw_icmp_ne rfl rfl hu7 ha2 (fun h26_7 => ?_) (fun h26_7 => ?_)
        · refine ezw_iinc (k := c1 + 1) (1) rfl rfl rfl (by omega) rfl ?_
          refine ezw_goto rfl rfl ?_
          exact ezw_keepE [true, true, true, true] (ihc1 (c1 + 1) (by omega) ⟨by omega, by omega⟩ (by omega) (by omega) (by
                rw [ps_2]
                refine ezn_ps_F (by omega) (by omega) (fun hz => ?_)
                have h9 := v_4 (by omega) (by omega)
                rw [w0] at h9
                have h8 := x2 c1 (by omega) (by omega) hz.1
                have h7 := an_6
                unfold ezn_sa at h7
                rw [if_pos ⟨by omega, h8⟩] at h7
                omega))
        · refine ezw_iload_n rfl rfl ?_
          exact ezw_ireturn rfl rfl ⟨rfl, c1, hc1, (by
                have h9 := v_4 (by omega) (by omega)
                rw [w0] at h9
                have hb : ezt_b w.ov c1 = 1 := by omega
                have h8 := x2 c1 (by omega) (by omega) hb
                have h7 := an_6
                unfold ezn_sa at h7
                rw [if_pos ⟨by omega, h8⟩] at h7
                rw [ps_2]
                exact (ezn_ps_T (by omega) (by omega) ⟨hb, by omega⟩).symm), rfl⟩
  exact ezw_keepE [true, true, true, true] (L2_2 (0) ⟨by decide, by decide⟩ (by omega) (by omega) rfl)
def ezt_m106_13_47nQ (e : Bool × Bool) (F : Nat → Nat → Int) (A : Nat → Int → Int) (y : ezp_D) (w : ezn_N) : Option ezq_V → (Nat → ezq_C) → Prop := fun v g' => ezu_g e F A = g' ∧ ∃ u : Int, (ezw_in u) ∧ (u = ezn_la y w) ∧ some (ezw_i u) = v
theorem ezt_m106_13_47n {y : ezp_D} {w : ezn_N} {F : Nat → Nat → Int} {A : Nat → Int → Int} (hS : ezs_T F A) (hd : 2 ≤ d) (tr : ezt_TR 47 y F A) (nu : ezt_NU 47 y A) (hB : ezp_B y) (cw : ezn_C 13 w F) (wb : ezn_B y w) : ezw_C l ρ B xa Hb D cA 106 d [ezw_p 13, ezw_p 47] (ezu_g e F A) (ezt_m106_13_47nQ e F A y w) := by
  refine ezw_met (k := 0) rfl rfl ?_
  obtain ⟨w0, w1, w2, w3, w4, w5, w6⟩ := id cw
  obtain ⟨⟨x0, x1⟩, x2, x3, x4, x5, x6, x7, x8, x9, x10, x11, x12⟩ := id wb
  refine ezw_aload_n rfl rfl ?_
  refine ezw_aload_n rfl rfl ?_
  refine ezy_get_i hS rfl rfl rfl rfl rfl rfl (fun u1 hu1 ku1 eu1 => ?_)
  replace eu1 := eu1.symm
  subst eu1
  refine ezw_call2_1 rfl (by omega) rfl rfl (ezt_m107n hS (by omega) hu1 (by omega)) ?_
  rintro _ _ ⟨rfl, u3, hu3, an_2, rfl⟩
  refine ezw_call0_1 rfl (by omega) (ezu_at rfl) rfl rfl rfl rfl (ezt_m108_47n hS (by omega) hu3 tr nu hB) ?_
  rintro _ _ ⟨rfl, u5, hu5, an_4, rfl⟩
  exact ezw_ireturn rfl rfl ⟨rfl, u5, hu5, (by rw [an_4, an_2, w0]; exact ezn_la_sa wb), rfl⟩
def ezt_m109_13_47nQ (e : Bool × Bool) (F : Nat → Nat → Int) (A : Nat → Int → Int) (y : ezp_D) (w : ezn_N) (a2 : Int) : Option ezq_V → (Nat → ezq_C) → Prop := fun v g' => ezu_g e F A = g' ∧ ∃ u : Int, (ezw_in u) ∧ (u = ezn_ps y w a2 6) ∧ some (ezw_i u) = v
theorem ezt_m109_13_47n {y : ezp_D} {w : ezn_N} {a2 : Int} {F : Nat → Nat → Int} {A : Nat → Int → Int} (hS : ezs_T F A) (hd : 2 ≤ d) (ha2 : ezw_in a2) (tr : ezt_TR 47 y F A) (nu : ezt_NU 47 y A) (hB : ezp_B y) (cw : ezn_C 13 w F) (wb : ezn_B y w) : ezw_C l ρ B xa Hb D cA 109 d [ezw_p 13, ezw_p 47, ezw_i a2] (ezu_g e F A) (ezt_m109_13_47nQ e F A y w a2) := by
  refine ezw_met (k := 1) rfl rfl ?_
  obtain ⟨w0, w1, w2, w3, w4, w5, w6⟩ := id cw
  obtain ⟨⟨x0, x1⟩, x2, x3, x4, x5, x6, x7, x8, x9, x10, x11, x12⟩ := id wb
  refine ezw_iconst (0) rfl rfl ?_
  refine ezw_istore_n rfl rfl ?_
  have L2_2 : ∀ c1 : Int, ezw_in c1 → ((0) ≤ c1) → (c1 ≤ 6) → (ezn_ps y w a2 6 = ezn_ps y w a2 (6 - c1).toNat) → ezw_E l ρ B xa Hb D cA d ezq_re109 (ezt_m109_13_47nQ e F A y w a2) 2 [some (ezw_p 13), some (ezw_p 47), some (ezw_i a2), some (ezw_i c1)] [] (ezu_g e F A) := by
    refine ezs_up ?_
    intro c1 hc1 ihc1 g_2 cb_2 ps_2
    refine ezw_iload_n rfl rfl ?_
    refine ezw_bipush (6) rfl rfl ?_
    refine ezw_icmp_ge rfl rfl hc1 ⟨by decide, by decide⟩ (fun h5_2 => ?_) (fun h5_2 => ?_)
    · refine ezw_iconst (-1) rfl rfl ?_
      exact ezw_ireturn rfl rfl ⟨rfl, (-1), ⟨by decide, by decide⟩, (by rw [ps_2, show c1 = 6 by omega]; rfl), rfl⟩
    · refine ezw_aload_n rfl rfl ?_
      refine ezy_get_i hS rfl rfl rfl rfl rfl rfl (fun u3 hu3 ku3 eu3 => ?_)
      replace eu3 := eu3.symm
      subst eu3
      refine ezw_iload_n rfl rfl ?_
      refine ezw_call3_2 rfl (by omega) rfl rfl (ezt_m49o hS (by omega) hu3 hc1) ?_
      rintro _ _ ⟨rfl, u5, hu5, v_4, o_4, rfl⟩
      refine ezw_iconst (1) rfl rfl ?_
      refine ezw_icmp_ne rfl rfl hu5 ⟨by decide, by decide⟩ (fun h17_5 => ?_) (fun h17_5 => ?_)
      · refine ezw_iinc (k := c1 + 1) (1) rfl rfl rfl (by omega) rfl ?_
        refine ezw_goto rfl rfl ?_
        exact ezw_keepE [true, true, true, true] (ihc1 (c1 + 1) (by omega) ⟨by omega, by omega⟩ (by omega) (by omega) (by
              rw [ps_2]
              refine ezn_ps_F (by omega) (by omega) (fun hz => ?_)
              have h9 := v_4 (by omega) (by omega)
              rw [w0] at h9
              omega))
      · refine ezw_aload_n rfl rfl ?_
        refine ezw_iload_n rfl rfl ?_
        refine ezw_call0_1 rfl (by omega) (ezu_at rfl) rfl rfl rfl rfl (ezt_m108_47n hS (by omega) hc1 tr nu hB) ?_
        rintro _ _ ⟨rfl, u7, hu7, an_6, rfl⟩
        refine ezw_iload_n rfl rfl ?_
        refine ezw_icmp_ne rfl rfl hu7 ha2 (fun h26_7 => ?_) (fun h26_7 => ?_)
        · refine ezw_iinc (k := c1 + 1) (1) rfl rfl rfl (by omega) rfl ?_
          refine ezw_goto rfl rfl ?_
          exact ezw_keepE [true, true, true, true] (ihc1 (c1 + 1) (by omega) ⟨by omega, by omega⟩ (by omega) (by omega) (by
                rw [ps_2]
                refine ezn_ps_F (by omega) (by omega) (fun hz => ?_)
                have h9 := v_4 (by omega) (by omega)
                rw [w0] at h9
                have h8 := x2 c1 (by omega) (by omega) hz.1
                have h7 := an_6
                unfold ezn_sa at h7
                rw [if_pos ⟨by omega, h8⟩] at h7
                omega))
        · refine ezw_iload_n rfl rfl ?_
          exact ezw_ireturn rfl rfl ⟨rfl, c1, hc1, (by
                have h9 := v_4 (by omega) (by omega)
                rw [w0] at h9
                have hb : ezt_b w.ov c1 = 1 := by omega
                have h8 := x2 c1 (by omega) (by omega) hb
                have h7 := an_6
                unfold ezn_sa at h7
                rw [if_pos ⟨by omega, h8⟩] at h7
                rw [ps_2]
                exact (ezn_ps_T (by omega) (by omega) ⟨hb, by omega⟩).symm), rfl⟩
  exact ezw_keepE [true, true, true, true] (L2_2 (0) ⟨by decide, by decide⟩ (by omega) (by omega) rfl)
def ezt_m131_13nQ (e : Bool × Bool) (F : Nat → Nat → Int) (A : Nat → Int → Int) (y : ezp_D) (w : ezn_N) : Option ezq_V → (Nat → ezq_C) → Prop := fun v g' => ezu_g e F A = g' ∧ ∃ u : Int, (ezw_in u) ∧ (u = ezn_cn w.ov) ∧ some (ezw_i u) = v
theorem ezt_m131_13n {y : ezp_D} {w : ezn_N} {F : Nat → Nat → Int} {A : Nat → Int → Int} (hS : ezs_T F A) (hd : 1 ≤ d) (cw : ezn_C 13 w F) (wb : ezn_B y w) : ezw_C l ρ B xa Hb D cA 131 d [ezw_p 13] (ezu_g e F A) (ezt_m131_13nQ e F A y w) := by
  refine ezw_met (k := 0) rfl rfl ?_
  obtain ⟨w0, w1, w2, w3, w4, w5, w6⟩ := id cw
  obtain ⟨⟨x0, x1⟩, x2, x3, x4, x5, x6, x7, x8, x9, x10, x11, x12⟩ := id wb
  refine ezw_aload_n rfl rfl ?_
  refine ezy_get_i hS rfl rfl rfl rfl rfl rfl (fun u1 hu1 ku1 eu1 => ?_)
  replace eu1 := eu1.symm
  subst eu1
  refine ezw_call2_1 rfl (by omega) rfl rfl (ezt_m132n hS (by omega) hu1 (by omega)) ?_
  rintro _ _ ⟨rfl, u3, hu3, an_2, rfl⟩
  exact ezw_ireturn rfl rfl ⟨rfl, u3, hu3, (by rw [an_2, w0]), rfl⟩
def ezt_m94_13_30nQ (e : Bool × Bool) (F : Nat → Nat → Int) (A : Nat → Int → Int) (y : ezp_D) : Option ezq_V → (Nat → ezq_C) → Prop := fun v g' => ∃ (F' : Nat → Nat → Int), ezu_g e F' A = g' ∧ ezs_T F' A ∧ (∀ p j, ¬ (p = 13 ∧ (j = 0 ∨ j = 1 ∨ j = 2 ∨ j = 3 ∨ j = 4 ∨ j = 5 ∨ j = 6)) → F' p j = F p j) ∧ (ezn_C 13 (ezn_bg y) F') ∧ none = v
theorem ezt_m94_13_30n {y : ezp_D} {F : Nat → Nat → Int} {A : Nat → Int → Int} (hS : ezs_T F A) (hd : 2 ≤ d) (tr : ezt_TR 30 y F A) (nu : ezt_NU 30 y A) (hB : ezp_B y) : ezw_C l ρ B xa Hb D cA 94 d [ezw_p 13, ezw_p 30] (ezu_g e F A) (ezt_m94_13_30nQ e F A y) := by
  refine ezw_met (k := 0) rfl rfl ?_
  obtain ⟨⟨c1, c2, c3, c4⟩, ⟨d1, d2, d3, d4, d5, d6, d7, d8⟩, e3, e4, e5, e6⟩ := id tr
  obtain ⟨b1, b2', b3, b4, b5, b6, b7, ⟨b8, b8'⟩, b9⟩ := id hB
  have n1 : A 44 1 = y.nu 1 := nu 1 (by decide) (by decide)
  have nb1 : 0 ≤ y.nu 1 ∧ y.nu 1 ≤ 99 := b8 1 (by decide) (by decide)
  have n2 : A 44 2 = y.nu 2 := nu 2 (by decide) (by decide)
  have nb2 : 0 ≤ y.nu 2 ∧ y.nu 2 ≤ 3 := b8 2 (by decide) (by decide)
  have p1 := (ezn_full (k := F 30 17) (by omega) (by omega)).1
  have p2 := (ezn_full (k := F 30 16) (by omega) (by omega)).1
  refine ezw_aload_n rfl rfl ?_
  refine ezw_iconst (1) rfl rfl ?_
  refine ezw_aload_n rfl rfl ?_
  refine ezy_get_i hS rfl rfl rfl rfl rfl rfl (fun u1 hu1 ku1 eu1 => ?_)
  replace eu1 := eu1.symm
  subst eu1
  refine ezw_ishl rfl (by omega) (by omega) (k := (1 * 2 ^ ((F 30 17)).toNat)) (rfl) ?_
  refine ezw_iconst (1) rfl rfl ?_
  refine ezw_isub (k := (1 * 2 ^ ((F 30 17)).toNat) - 1) rfl (by omega) ?_
  refine ezy_put_i hS rfl rfl rfl rfl rfl ⟨by omega, by omega⟩ (fun F2 hS mF2 nF2 => ?_)
  refine ezw_aload_n rfl rfl ?_
  refine ezw_iconst (0) rfl rfl ?_
  refine ezy_put_i hS rfl rfl rfl rfl rfl ⟨by decide, by decide⟩ (fun F3 hS mF3 nF3 => ?_)
  refine ezw_aload_n rfl rfl ?_
  refine ezw_bipush (12) rfl rfl ?_
  refine ezy_put_i hS rfl rfl rfl rfl rfl ⟨by decide, by decide⟩ (fun F4 hS mF4 nF4 => ?_)
  refine ezw_aload_n rfl rfl ?_
  refine ezw_aload_n rfl rfl ?_
  refine ezw_iconst (2) rfl rfl ?_
  refine ezw_call0_1 rfl (by omega) (ezu_at rfl) rfl rfl rfl rfl (ezt_m95_30o hS (by omega) ⟨by decide, by decide⟩) ?_
  rintro _ _ ⟨rfl, u6, hu6, v_5, rfl⟩
  have z3 := v_5 (by omega) (by omega)
  refine ezy_put_i hS rfl rfl rfl rfl rfl hu6 (fun F7 hS mF7 nF7 => ?_)
  refine ezw_aload_n rfl rfl ?_
  refine ezw_aload_n rfl rfl ?_
  refine ezy_get_i hS rfl rfl rfl rfl rfl rfl (fun u8 hu8 ku8 eu8 => ?_)
  rw [nF7 30 17 (by decide), nF4 30 17 (by decide), nF3 30 17 (by decide), nF2 30 17 (by decide)] at eu8
  replace eu8 := eu8.symm
  subst eu8
  have J45_10 : ∀ y9 : Int, ezw_in y9 → (y9 = (if 0 < y.kS then 0 else 1)) → ezw_E l ρ B xa Hb D cA d ezq_re94 (ezt_m94_13_30nQ e F A y) 45 [some (ezw_p 13), some (ezw_p 30)] [ezw_i y9, ezw_p 13] (ezu_g e F7 A) := by
    intro y9 hy9 v_10
    refine ezy_put_i hS rfl rfl rfl rfl rfl hy9 (fun F11 hS mF11 nF11 => ?_)
    refine ezw_aload_n rfl rfl ?_
    refine ezw_aload_n rfl rfl ?_
    refine ezw_iconst (1) rfl rfl ?_
    refine ezw_call0_1 rfl (by omega) (ezu_at rfl) rfl rfl rfl rfl (ezt_m95_30o hS (by omega) ⟨by decide, by decide⟩) ?_
    rintro _ _ ⟨rfl, u13, hu13, v_12, rfl⟩
    have z5 := v_12 (by omega) (by omega)
    refine ezy_put_i hS rfl rfl rfl rfl rfl hu13 (fun F14 hS mF14 nF14 => ?_)
    refine ezw_aload_n rfl rfl ?_
    refine ezw_iconst (1) rfl rfl ?_
    refine ezw_aload_n rfl rfl ?_
    refine ezy_get_i hS rfl rfl rfl rfl rfl rfl (fun u15 hu15 ku15 eu15 => ?_)
    rw [nF14 30 16 (by decide), nF11 30 16 (by decide), nF7 30 16 (by decide), nF4 30 16 (by decide), nF3 30 16 (by decide), nF2 30 16 (by decide)] at eu15
    replace eu15 := eu15.symm
    subst eu15
    refine ezw_ishl rfl (by omega) (by omega) (k := (1 * 2 ^ ((F 30 16)).toNat)) (rfl) ?_
    refine ezw_iconst (1) rfl rfl ?_
    refine ezw_isub (k := (1 * 2 ^ ((F 30 16)).toNat) - 1) rfl (by omega) ?_
    refine ezy_put_i hS rfl rfl rfl rfl rfl ⟨by omega, by omega⟩ (fun F16 hS mF16 nF16 => ?_)
    have g0 : F16 13 0 = (1 * 2 ^ ((F 30 17)).toNat) - 1 := by rw [nF16 13 0 (by decide), nF14 13 0 (by decide), nF11 13 0 (by decide), nF7 13 0 (by decide), nF4 13 0 (by decide), nF3 13 0 (by decide), mF2]
    have g1 : F16 13 1 = (0) := by rw [nF16 13 1 (by decide), nF14 13 1 (by decide), nF11 13 1 (by decide), nF7 13 1 (by decide), nF4 13 1 (by decide), mF3]
    have g2 : F16 13 2 = (12) := by rw [nF16 13 2 (by decide), nF14 13 2 (by decide), nF11 13 2 (by decide), nF7 13 2 (by decide), mF4]
    have g3 : F16 13 3 = u6 := by rw [nF16 13 3 (by decide), nF14 13 3 (by decide), nF11 13 3 (by decide), mF7]
    have g4 : F16 13 4 = y9 := by rw [nF16 13 4 (by decide), nF14 13 4 (by decide), mF11]
    have g5 : F16 13 5 = u13 := by rw [nF16 13 5 (by decide), mF14]
    have g6 : F16 13 6 = (1 * 2 ^ ((F 30 16)).toNat) - 1 := by rw [mF16]
    exact ezw_return rfl rfl ⟨F16, rfl, hS, (fun p j h => by rw [nF16 p j (fun z => h (⟨z.1, (Or.inr (Or.inr (Or.inr (Or.inr (Or.inr (Or.inr z.2))))))⟩)), nF14 p j (fun z => h (⟨z.1, (Or.inr (Or.inr (Or.inr (Or.inr (Or.inr (Or.inl z.2))))))⟩)), nF11 p j (fun z => h (⟨z.1, (Or.inr (Or.inr (Or.inr (Or.inr (Or.inl z.2)))))⟩)), nF7 p j (fun z => h (⟨z.1, (Or.inr (Or.inr (Or.inr (Or.inl z.2))))⟩)), nF4 p j (fun z => h (⟨z.1, (Or.inr (Or.inr (Or.inl z.2)))⟩)), nF3 p j (fun z => h (⟨z.1, (Or.inr (Or.inl z.2))⟩)), nF2 p j (fun z => h (⟨z.1, (Or.inl z.2)⟩))]), ⟨(by rw [g0, c3]; rfl), (by rw [g1]; rfl), (by rw [g2]; rfl), (by rw [g3]; show _ = y.nu 2; omega), (by rw [g4]; exact v_10), (by rw [g5]; show _ = y.nu 1; omega), (by rw [g6, c2]; rfl)⟩, rfl⟩
  refine ezw_if_le rfl rfl hu8 (fun h37_8 => ?_) (fun h37_8 => ?_)
  · refine ezw_iconst (1) rfl rfl ?_
    exact ezw_keepE [true, true] (J45_10 (1) ⟨by decide, by decide⟩ (by
          first
            | (rw [if_pos (by omega)])
            | (rw [if_neg (by omega)])))
  · refine ezw_iconst (0) rfl rfl ?_
    refine ezw_goto rfl rfl ?_
    exact ezw_keepE [true, true] (J45_10 (0) ⟨by decide, by decide⟩ (by
          first
            | (rw [if_pos (by omega)])
            | (rw [if_neg (by omega)])))
def ezt_m94_13_47nQ (e : Bool × Bool) (F : Nat → Nat → Int) (A : Nat → Int → Int) (y : ezp_D) : Option ezq_V → (Nat → ezq_C) → Prop := fun v g' => ∃ (F' : Nat → Nat → Int), ezu_g e F' A = g' ∧ ezs_T F' A ∧ (∀ p j, ¬ (p = 13 ∧ (j = 0 ∨ j = 1 ∨ j = 2 ∨ j = 3 ∨ j = 4 ∨ j = 5 ∨ j = 6)) → F' p j = F p j) ∧ (ezn_C 13 (ezn_bg y) F') ∧ none = v
theorem ezt_m94_13_47n {y : ezp_D} {F : Nat → Nat → Int} {A : Nat → Int → Int} (hS : ezs_T F A) (hd : 2 ≤ d) (tr : ezt_TR 47 y F A) (nu : ezt_NU 47 y A) (hB : ezp_B y) : ezw_C l ρ B xa Hb D cA 94 d [ezw_p 13, ezw_p 47] (ezu_g e F A) (ezt_m94_13_47nQ e F A y) := by
  refine ezw_met (k := 0) rfl rfl ?_
  obtain ⟨⟨c1, c2, c3, c4⟩, ⟨d1, d2, d3, d4, d5, d6, d7, d8⟩, e3, e4, e5, e6⟩ := id tr
  obtain ⟨b1, b2', b3, b4, b5, b6, b7, ⟨b8, b8'⟩, b9⟩ := id hB
  have n1 : A 61 1 = y.nu 1 := nu 1 (by decide) (by decide)
  have nb1 : 0 ≤ y.nu 1 ∧ y.nu 1 ≤ 99 := b8 1 (by decide) (by decide)
  have n2 : A 61 2 = y.nu 2 := nu 2 (by decide) (by decide)
  have nb2 : 0 ≤ y.nu 2 ∧ y.nu 2 ≤ 3 := b8 2 (by decide) (by decide)
  have p1 := (ezn_full (k := F 47 17) (by omega) (by omega)).1
  have p2 := (ezn_full (k := F 47 16) (by omega) (by omega)).1
  refine ezw_aload_n rfl rfl ?_
  refine ezw_iconst (1) rfl rfl ?_
  refine ezw_aload_n rfl rfl ?_
  refine ezy_get_i hS rfl rfl rfl rfl rfl rfl (fun u1 hu1 ku1 eu1 => ?_)
  replace eu1 := eu1.symm
  subst eu1
  refine ezw_ishl rfl (by omega) (by omega) (k := (1 * 2 ^ ((F 47 17)).toNat)) (rfl) ?_
  refine ezw_iconst (1) rfl rfl ?_
  refine ezw_isub (k := (1 * 2 ^ ((F 47 17)).toNat) - 1) rfl (by omega) ?_
  refine ezy_put_i hS rfl rfl rfl rfl rfl ⟨by omega, by omega⟩ (fun F2 hS mF2 nF2 => ?_)
  refine ezw_aload_n rfl rfl ?_
  refine ezw_iconst (0) rfl rfl ?_
  refine ezy_put_i hS rfl rfl rfl rfl rfl ⟨by decide, by decide⟩ (fun F3 hS mF3 nF3 => ?_)
  refine ezw_aload_n rfl rfl ?_
  refine ezw_bipush (12) rfl rfl ?_
  refine ezy_put_i hS rfl rfl rfl rfl rfl ⟨by decide, by decide⟩ (fun F4 hS mF4 nF4 => ?_)
  refine ezw_aload_n rfl rfl ?_
  refine ezw_aload_n rfl rfl ?_
  refine ezw_iconst (2) rfl rfl ?_
  refine ezw_call0_1 rfl (by omega) (ezu_at rfl) rfl rfl rfl rfl (ezt_m95_47o hS (by omega) ⟨by decide, by decide⟩) ?_
  rintro _ _ ⟨rfl, u6, hu6, v_5, rfl⟩
  have z3 := v_5 (by omega) (by omega)
  refine ezy_put_i hS rfl rfl rfl rfl rfl hu6 (fun F7 hS mF7 nF7 => ?_)
  refine ezw_aload_n rfl rfl ?_
  refine ezw_aload_n rfl rfl ?_
  refine ezy_get_i hS rfl rfl rfl rfl rfl rfl (fun u8 hu8 ku8 eu8 => ?_)
  rw [nF7 47 17 (by decide), nF4 47 17 (by decide), nF3 47 17 (by decide), nF2 47 17 (by decide)] at eu8
  replace eu8 := eu8.symm
  subst eu8
  have J45_10 : ∀ y9 : Int, ezw_in y9 → (y9 = (if 0 < y.kS then 0 else 1)) → ezw_E l ρ B xa Hb D cA d ezq_re94 (ezt_m94_13_47nQ e F A y) 45 [some (ezw_p 13), some (ezw_p 47)] [ezw_i y9, ezw_p 13] (ezu_g e F7 A) := by
    intro y9 hy9 v_10
    refine ezy_put_i hS rfl rfl rfl rfl rfl hy9 (fun F11 hS mF11 nF11 => ?_)
    refine ezw_aload_n rfl rfl ?_
    refine ezw_aload_n rfl rfl ?_
    refine ezw_iconst (1) rfl rfl ?_
    refine ezw_call0_1 rfl (by omega) (ezu_at rfl) rfl rfl rfl rfl (ezt_m95_47o hS (by omega) ⟨by decide, by decide⟩) ?_
    rintro _ _ ⟨rfl, u13, hu13, v_12, rfl⟩
    have z5 := v_12 (by omega) (by omega)
    refine ezy_put_i hS rfl rfl rfl rfl rfl hu13 (fun F14 hS mF14 nF14 => ?_)
    refine ezw_aload_n rfl rfl ?_
    refine ezw_iconst (1) rfl rfl ?_
    refine ezw_aload_n rfl rfl ?_
    refine ezy_get_i hS rfl rfl rfl rfl rfl rfl (fun u15 hu15 ku15 eu15 => ?_)
    rw [nF14 47 16 (by decide), nF11 47 16 (by decide), nF7 47 16 (by decide), nF4 47 16 (by decide), nF3 47 16 (by decide), nF2 47 16 (by decide)] at eu15
    replace eu15 := eu15.symm
    subst eu15
    refine ezw_ishl rfl (by omega) (by omega) (k := (1 * 2 ^ ((F 47 16)).toNat)) (rfl) ?_
    refine ezw_iconst (1) rfl rfl ?_
    refine ezw_isub (k := (1 * 2 ^ ((F 47 16)).toNat) - 1) rfl (by omega) ?_
    refine ezy_put_i hS rfl rfl rfl rfl rfl ⟨by omega, by omega⟩ (fun F16 hS mF16 nF16 => ?_)
    have g0 : F16 13 0 = (1 * 2 ^ ((F 47 17)).toNat) - 1 := by rw [nF16 13 0 (by decide), nF14 13 0 (by decide), nF11 13 0 (by decide), nF7 13 0 (by decide), nF4 13 0 (by decide), nF3 13 0 (by decide), mF2]
    have g1 : F16 13 1 = (0) := by rw [nF16 13 1 (by decide), nF14 13 1 (by decide), nF11 13 1 (by decide), nF7 13 1 (by decide), nF4 13 1 (by decide), mF3]
    have g2 : F16 13 2 = (12) := by rw [nF16 13 2 (by decide), nF14 13 2 (by decide), nF11 13 2 (by decide), nF7 13 2 (by decide), mF4]
    have g3 : F16 13 3 = u6 := by rw [nF16 13 3 (by decide), nF14 13 3 (by decide), nF11 13 3 (by decide), mF7]
    have g4 : F16 13 4 = y9 := by rw [nF16 13 4 (by decide), nF14 13 4 (by decide), mF11]
    have g5 : F16 13 5 = u13 := by rw [nF16 13 5 (by decide), mF14]
    have g6 : F16 13 6 = (1 * 2 ^ ((F 47 16)).toNat) - 1 := by rw [mF16]
    exact ezw_return rfl rfl ⟨F16, rfl, hS, (fun p j h => by rw [nF16 p j (fun z => h (⟨z.1, (Or.inr (Or.inr (Or.inr (Or.inr (Or.inr (Or.inr z.2))))))⟩)), nF14 p j (fun z => h (⟨z.1, (Or.inr (Or.inr (Or.inr (Or.inr (Or.inr (Or.inl z.2))))))⟩)), nF11 p j (fun z => h (⟨z.1, (Or.inr (Or.inr (Or.inr (Or.inr (Or.inl z.2)))))⟩)), nF7 p j (fun z => h (⟨z.1, (Or.inr (Or.inr (Or.inr (Or.inl z.2))))⟩)), nF4 p j (fun z => h (⟨z.1, (Or.inr (Or.inr (Or.inl z.2)))⟩)), nF3 p j (fun z => h (⟨z.1, (Or.inr (Or.inl z.2))⟩)), nF2 p j (fun z => h (⟨z.1, (Or.inl z.2)⟩))]), ⟨(by rw [g0, c3]; rfl), (by rw [g1]; rfl), (by rw [g2]; rfl), (by rw [g3]; show _ = y.nu 2; omega), (by rw [g4]; exact v_10), (by rw [g5]; show _ = y.nu 1; omega), (by rw [g6, c2]; rfl)⟩, rfl⟩
  refine ezw_if_le rfl rfl hu8 (fun h37_8 => ?_) (fun h37_8 => ?_)
  · refine ezw_iconst (1) rfl rfl ?_
    exact ezw_keepE [true, true] (J45_10 (1) ⟨by decide, by decide⟩ (by
          first
            | (rw [if_pos (by omega)])
            | (rw [if_neg (by omega)])))
  · refine ezw_iconst (0) rfl rfl ?_
    refine ezw_goto rfl rfl ?_
    exact ezw_keepE [true, true] (J45_10 (0) ⟨by decide, by decide⟩ (by
          first
            | (rw [if_pos (by omega)])
            | (rw [if_neg (by omega)])))
def ezt_m119_13nQ (e : Bool × Bool) (F : Nat → Nat → Int) (A : Nat → Int → Int) (y : ezp_D) (w : ezn_N) : Option ezq_V → (Nat → ezq_C) → Prop := fun v g' => ezu_g e F A = g' ∧ ∃ u : Int, (ezw_il u) ∧ (u = ezn_pk w) ∧ some (ezw_l u) = v
theorem ezt_m119_13n {y : ezp_D} {w : ezn_N} {F : Nat → Nat → Int} {A : Nat → Int → Int} (hS : ezs_T F A) (hd : 0 ≤ d) (cw : ezn_C 13 w F) (wb : ezn_B y w) : ezw_C l ρ B xa Hb D cA 119 d [ezw_p 13] (ezu_g e F A) (ezt_m119_13nQ e F A y w) := by
  refine ezw_met (k := 2) rfl rfl ?_
  obtain ⟨w0, w1, w2, w3, w4, w5, w6⟩ := id cw
  obtain ⟨⟨x0, x1⟩, x2, x3, x4, x5, x6, x7, x8, x9, x10, x11, x12⟩ := id wb
  refine ezw_aload_n rfl rfl ?_
  refine ezy_get_i hS rfl rfl rfl rfl rfl rfl (fun u1 hu1 ku1 eu1 => ?_)
  replace eu1 := eu1.symm
  subst eu1
  refine ezw_i2l rfl hu1 rfl ?_
  refine ezw_lstore_n rfl rfl ?_
  refine ezw_lload_n rfl rfl ?_
  refine ezw_iconst (4) rfl rfl ?_
  refine ezw_lshl rfl (by omega) (by omega) (k := 16 * (F 13 0)) (by rw [ezn_t4]; omega) ?_
  refine ezw_aload_n rfl rfl ?_
  refine ezy_get_i hS rfl rfl rfl rfl rfl rfl (fun u2 hu2 ku2 eu2 => ?_)
  replace eu2 := eu2.symm
  subst eu2
  refine ezw_i2l rfl hu2 rfl ?_
  refine ezw_lor rfl (k := 16 * (F 13 0) + (F 13 1)) ((ezn_orl 4 16 (by decide) (by omega) (by omega) (by omega) (by omega) (by omega)).trans (by omega)) ?_
  refine ezw_lstore_n rfl rfl ?_
  refine ezw_lload_n rfl rfl ?_
  refine ezw_iconst (5) rfl rfl ?_
  refine ezw_lshl rfl (by omega) (by omega) (k := 512 * (F 13 0) + 32 * (F 13 1)) (by rw [ezn_t5]; omega) ?_
  refine ezw_aload_n rfl rfl ?_
  refine ezy_get_i hS rfl rfl rfl rfl rfl rfl (fun u3 hu3 ku3 eu3 => ?_)
  replace eu3 := eu3.symm
  subst eu3
  refine ezw_i2l rfl hu3 rfl ?_
  refine ezw_lor rfl (k := 512 * (F 13 0) + 32 * (F 13 1) + (F 13 2)) ((ezn_orl 5 32 (by decide) (by omega) (by omega) (by omega) (by omega) (by omega)).trans (by omega)) ?_
  refine ezw_lstore_n rfl rfl ?_
  refine ezw_lload_n rfl rfl ?_
  refine ezw_iconst (2) rfl rfl ?_
  refine ezw_lshl rfl (by omega) (by omega) (k := 2048 * (F 13 0) + 128 * (F 13 1) + 4 * (F 13 2)) (by rw [ezn_t2]; omega) ?_
  refine ezw_aload_n rfl rfl ?_
  refine ezy_get_i hS rfl rfl rfl rfl rfl rfl (fun u4 hu4 ku4 eu4 => ?_)
  replace eu4 := eu4.symm
  subst eu4
  refine ezw_i2l rfl hu4 rfl ?_
  refine ezw_lor rfl (k := 2048 * (F 13 0) + 128 * (F 13 1) + 4 * (F 13 2) + (F 13 3)) ((ezn_orl 2 4 (by decide) (by omega) (by omega) (by omega) (by omega) (by omega)).trans (by omega)) ?_
  refine ezw_lstore_n rfl rfl ?_
  refine ezw_lload_n rfl rfl ?_
  refine ezw_iconst (2) rfl rfl ?_
  refine ezw_lshl rfl (by omega) (by omega) (k := 8192 * (F 13 0) + 512 * (F 13 1) + 16 * (F 13 2) + 4 * (F 13 3)) (by rw [ezn_t2]; omega) ?_
  refine ezw_aload_n rfl rfl ?_
  refine ezy_get_i hS rfl rfl rfl rfl rfl rfl (fun u5 hu5 ku5 eu5 => ?_)
  replace eu5 := eu5.symm
  subst eu5
  refine ezw_i2l rfl hu5 rfl ?_
  refine ezw_lor rfl (k := 8192 * (F 13 0) + 512 * (F 13 1) + 16 * (F 13 2) + 4 * (F 13 3) + (F 13 4)) ((ezn_orl 2 4 (by decide) (by omega) (by omega) (by omega) (by omega) (by omega)).trans (by omega)) ?_
  refine ezw_lstore_n rfl rfl ?_
  refine ezw_lload_n rfl rfl ?_
  refine ezw_bipush (7) rfl rfl ?_
  refine ezw_lshl rfl (by omega) (by omega) (k := 1048576 * (F 13 0) + 65536 * (F 13 1) + 2048 * (F 13 2) + 512 * (F 13 3) + 128 * (F 13 4)) (by rw [ezn_t7]; omega) ?_
  refine ezw_aload_n rfl rfl ?_
  refine ezy_get_i hS rfl rfl rfl rfl rfl rfl (fun u6 hu6 ku6 eu6 => ?_)
  replace eu6 := eu6.symm
  subst eu6
  refine ezw_i2l rfl hu6 rfl ?_
  refine ezw_lor rfl (k := 1048576 * (F 13 0) + 65536 * (F 13 1) + 2048 * (F 13 2) + 512 * (F 13 3) + 128 * (F 13 4) + (F 13 5)) ((ezn_orl 7 128 (by decide) (by omega) (by omega) (by omega) (by omega) (by omega)).trans (by omega)) ?_
  refine ezw_lstore_n rfl rfl ?_
  refine ezw_lload_n rfl rfl ?_
  refine ezw_iconst (4) rfl rfl ?_
  refine ezw_lshl rfl (by omega) (by omega) (k := 16777216 * (F 13 0) + 1048576 * (F 13 1) + 32768 * (F 13 2) + 8192 * (F 13 3) + 2048 * (F 13 4) + 16 * (F 13 5)) (by rw [ezn_t4]; omega) ?_
  refine ezw_aload_n rfl rfl ?_
  refine ezy_get_i hS rfl rfl rfl rfl rfl rfl (fun u7 hu7 ku7 eu7 => ?_)
  replace eu7 := eu7.symm
  subst eu7
  refine ezw_i2l rfl hu7 rfl ?_
  refine ezw_lor rfl (k := 16777216 * (F 13 0) + 1048576 * (F 13 1) + 32768 * (F 13 2) + 8192 * (F 13 3) + 2048 * (F 13 4) + 16 * (F 13 5) + (F 13 6)) ((ezn_orl 4 16 (by decide) (by omega) (by omega) (by omega) (by omega) (by omega)).trans (by omega)) ?_
  exact ezw_lreturn rfl rfl ⟨rfl, 16777216 * (F 13 0) + 1048576 * (F 13 1) + 32768 * (F 13 2) + 8192 * (F 13 3) + 2048 * (F 13 4) + 16 * (F 13 5) + (F 13 6), ⟨by omega, by omega⟩, (by
        unfold ezn_pk
        omega), rfl⟩
def ezt_m140_13nQ (e : Bool × Bool) (F : Nat → Nat → Int) (A : Nat → Int → Int) (y : ezp_D) (w : ezn_N) (a1 : Int) : Option ezq_V → (Nat → ezq_C) → Prop := fun v g' => ∃ (F' : Nat → Nat → Int), ezu_g e F' A = g' ∧ ezs_T F' A ∧ (∀ p j, ¬ (p = 13 ∧ (j = 0 ∨ j = 1 ∨ j = 2 ∨ j = 3 ∨ j = 4 ∨ j = 5 ∨ j = 6)) → F' p j = F p j) ∧ (ezn_C 13 w F') ∧ none = v
theorem ezt_m140_13n {y : ezp_D} {w : ezn_N} {a1 : Int} {F : Nat → Nat → Int} {A : Nat → Int → Int} (hS : ezs_T F A) (hd : 0 ≤ d) (ha1 : ezw_il a1) (pk : a1 = ezn_pk w) (wb : ezn_B y w) : ezw_C l ρ B xa Hb D cA 140 d [ezw_p 13, ezw_l a1] (ezu_g e F A) (ezt_m140_13nQ e F A y w a1) := by
  refine ezw_met (k := 0) rfl rfl ?_
  obtain ⟨⟨x0, x1⟩, x2, x3, x4, x5, x6, x7, x8, x9, x10, x11, x12⟩ := id wb
  have pk2 : a1 = 16777216 * w.ov + 1048576 * w.ti + 32768 * w.ho + 8192 * w.wi + 2048 * w.ki + 16 * w.pa + w.ha := pk
  refine ezw_aload_n rfl rfl ?_
  refine ezw_lload_n rfl rfl ?_
  refine ezw_ldc2_w (15) rfl rfl ?_
  refine ezw_land rfl (k := (a1 % 16)) (ezn_andl 4 16 15 (by decide) (by decide) (by omega) (by omega)) ?_
  refine ezw_l2i rfl rfl ?_
  refine ezy_put_i hS rfl rfl rfl rfl rfl ⟨by omega, by omega⟩ (fun F1 hS mF1 nF1 => ?_)
  refine ezw_aload_n rfl rfl ?_
  refine ezw_lload_n rfl rfl ?_
  refine ezw_iconst (4) rfl rfl ?_
  refine ezw_lshr rfl ha1 (by omega) (by omega) (k := (a1 / 16)) (by rw [ezn_t4]) ?_
  refine ezw_ldc2_w (127) rfl rfl ?_
  refine ezw_land rfl (k := (((a1 / 16)) % 128)) (ezn_andl 7 128 127 (by decide) (by decide) (by omega) (by omega)) ?_
  refine ezw_l2i rfl rfl ?_
  refine ezy_put_i hS rfl rfl rfl rfl rfl ⟨by omega, by omega⟩ (fun F2 hS mF2 nF2 => ?_)
  refine ezw_aload_n rfl rfl ?_
  refine ezw_lload_n rfl rfl ?_
  refine ezw_bipush (11) rfl rfl ?_
  refine ezw_lshr rfl ha1 (by omega) (by omega) (k := (a1 / 2048)) (by rw [ezn_t11]) ?_
  refine ezw_ldc2_w (3) rfl rfl ?_
  refine ezw_land rfl (k := (((a1 / 2048)) % 4)) (ezn_andl 2 4 3 (by decide) (by decide) (by omega) (by omega)) ?_
  refine ezw_l2i rfl rfl ?_
  refine ezy_put_i hS rfl rfl rfl rfl rfl ⟨by omega, by omega⟩ (fun F3 hS mF3 nF3 => ?_)
  refine ezw_aload_n rfl rfl ?_
  refine ezw_lload_n rfl rfl ?_
  refine ezw_bipush (13) rfl rfl ?_
  refine ezw_lshr rfl ha1 (by omega) (by omega) (k := (a1 / 8192)) (by rw [ezn_t13]) ?_
  refine ezw_ldc2_w (3) rfl rfl ?_
  refine ezw_land rfl (k := (((a1 / 8192)) % 4)) (ezn_andl 2 4 3 (by decide) (by decide) (by omega) (by omega)) ?_
  refine ezw_l2i rfl rfl ?_
  refine ezy_put_i hS rfl rfl rfl rfl rfl ⟨by omega, by omega⟩ (fun F4 hS mF4 nF4 => ?_)
  refine ezw_aload_n rfl rfl ?_
  refine ezw_lload_n rfl rfl ?_
  refine ezw_bipush (15) rfl rfl ?_
  refine ezw_lshr rfl ha1 (by omega) (by omega) (k := (a1 / 32768)) (by rw [ezn_t15]) ?_
  refine ezw_ldc2_w (31) rfl rfl ?_
  refine ezw_land rfl (k := (((a1 / 32768)) % 32)) (ezn_andl 5 32 31 (by decide) (by decide) (by omega) (by omega)) ?_
  refine ezw_l2i rfl rfl ?_
  refine ezy_put_i hS rfl rfl rfl rfl rfl ⟨by omega, by omega⟩ (fun F5 hS mF5 nF5 => ?_)
  refine ezw_aload_n rfl rfl ?_
  refine ezw_lload_n rfl rfl ?_
  refine ezw_bipush (20) rfl rfl ?_
  refine ezw_lshr rfl ha1 (by omega) (by omega) (k := (a1 / 1048576)) (by rw [ezn_t20]) ?_
  refine ezw_ldc2_w (15) rfl rfl ?_
  refine ezw_land rfl (k := (((a1 / 1048576)) % 16)) (ezn_andl 4 16 15 (by decide) (by decide) (by omega) (by omega)) ?_
  refine ezw_l2i rfl rfl ?_
  refine ezy_put_i hS rfl rfl rfl rfl rfl ⟨by omega, by omega⟩ (fun F6 hS mF6 nF6 => ?_)
  refine ezw_aload_n rfl rfl ?_
  refine ezw_lload_n rfl rfl ?_
  refine ezw_bipush (24) rfl rfl ?_
  refine ezw_lshr rfl ha1 (by omega) (by omega) (k := (a1 / 16777216)) (by rw [ezn_t24]) ?_
  refine ezw_ldc2_w (63) rfl rfl ?_
  refine ezw_land rfl (k := (((a1 / 16777216)) % 64)) (ezn_andl 6 64 63 (by decide) (by decide) (by omega) (by omega)) ?_
  refine ezw_l2i rfl rfl ?_
  refine ezy_put_i hS rfl rfl rfl rfl rfl ⟨by omega, by omega⟩ (fun F7 hS mF7 nF7 => ?_)
  have g0 : F7 13 0 = (((a1 / 16777216)) % 64) := by rw [mF7]
  have g1 : F7 13 1 = (((a1 / 1048576)) % 16) := by rw [nF7 13 1 (by decide), mF6]
  have g2 : F7 13 2 = (((a1 / 32768)) % 32) := by rw [nF7 13 2 (by decide), nF6 13 2 (by decide), mF5]
  have g3 : F7 13 3 = (((a1 / 8192)) % 4) := by rw [nF7 13 3 (by decide), nF6 13 3 (by decide), nF5 13 3 (by decide), mF4]
  have g4 : F7 13 4 = (((a1 / 2048)) % 4) := by rw [nF7 13 4 (by decide), nF6 13 4 (by decide), nF5 13 4 (by decide), nF4 13 4 (by decide), mF3]
  have g5 : F7 13 5 = (((a1 / 16)) % 128) := by rw [nF7 13 5 (by decide), nF6 13 5 (by decide), nF5 13 5 (by decide), nF4 13 5 (by decide), nF3 13 5 (by decide), mF2]
  have g6 : F7 13 6 = (a1 % 16) := by rw [nF7 13 6 (by decide), nF6 13 6 (by decide), nF5 13 6 (by decide), nF4 13 6 (by decide), nF3 13 6 (by decide), nF2 13 6 (by decide), mF1]
  exact ezw_return rfl rfl ⟨F7, rfl, hS, (fun p j h => by rw [nF7 p j (fun z => h (⟨z.1, (Or.inl z.2)⟩)), nF6 p j (fun z => h (⟨z.1, (Or.inr (Or.inl z.2))⟩)), nF5 p j (fun z => h (⟨z.1, (Or.inr (Or.inr (Or.inl z.2)))⟩)), nF4 p j (fun z => h (⟨z.1, (Or.inr (Or.inr (Or.inr (Or.inl z.2))))⟩)), nF3 p j (fun z => h (⟨z.1, (Or.inr (Or.inr (Or.inr (Or.inr (Or.inl z.2)))))⟩)), nF2 p j (fun z => h (⟨z.1, (Or.inr (Or.inr (Or.inr (Or.inr (Or.inr (Or.inl z.2))))))⟩)), nF1 p j (fun z => h (⟨z.1, (Or.inr (Or.inr (Or.inr (Or.inr (Or.inr (Or.inr z.2))))))⟩))]), ⟨(by rw [g0]; omega), (by rw [g1]; omega), (by rw [g2]; omega), (by rw [g3]; omega), (by rw [g4]; omega), (by rw [g5]; omega), (by rw [g6]; omega)⟩, rfl⟩
def ezt_m122_13nQ (e : Bool × Bool) (F : Nat → Nat → Int) (A : Nat → Int → Int) (y : ezp_D) (w : ezn_N) (a1 : Int) : Option ezq_V → (Nat → ezq_C) → Prop := fun v g' => ∃ (F' : Nat → Nat → Int), ezu_g e F' A = g' ∧ ezs_T F' A ∧ (∀ p j, ¬ (p = 13 ∧ (j = 0 ∨ j = 1 ∨ j = 4)) → F' p j = F p j) ∧ (ezn_C 13 (ezn_off w a1) F') ∧ none = v
theorem ezt_m122_13n {y : ezp_D} {w : ezn_N} {a1 : Int} {F : Nat → Nat → Int} {A : Nat → Int → Int} (hS : ezs_T F A) (hd : 2 ≤ d) (ha1 : ezw_in a1) (cw : ezn_C 13 w F) (wb : ezn_B y w) (ga : 0 ≤ a1 ∧ a1 < 6 ∧ ezt_b w.ov a1 = 1) : ezw_C l ρ B xa Hb D cA 122 d [ezw_p 13, ezw_i a1] (ezu_g e F A) (ezt_m122_13nQ e F A y w a1) := by
  refine ezw_met (k := 0) rfl rfl ?_
  obtain ⟨w0, w1, w2, w3, w4, w5, w6⟩ := id cw
  obtain ⟨⟨x0, x1⟩, x2, x3, x4, x5, x6, x7, x8, x9, x10, x11, x12⟩ := id wb
  obtain ⟨m1, m2, m3, m4⟩ := ezn_rm x0 x1 ga.1 ga.2.1 ga.2.2
  refine ezw_iload_n rfl rfl ?_
  refine ezw_aload_n rfl rfl ?_
  refine ezy_get_i hS rfl rfl rfl rfl rfl rfl (fun u1 hu1 ku1 eu1 => ?_)
  replace eu1 := eu1.symm
  subst eu1
  refine ezw_call2_1 rfl (by omega) rfl rfl (ezt_m107n hS (by omega) hu1 (by omega)) ?_
  rintro _ _ ⟨rfl, u3, hu3, an_2, rfl⟩
  have hl : u3 = ezn_lo w.ov := by rw [an_2, w0]
  refine ezw_icmp_ne rfl rfl ha1 hu3 (fun h8_3 => ?_) (fun h8_3 => ?_)
  · refine ezw_aload_n rfl rfl ?_
    refine ezw_dup rfl rfl ?_
    refine ezy_get_i hS rfl rfl rfl rfl rfl rfl (fun u4 hu4 ku4 eu4 => ?_)
    replace eu4 := eu4.symm
    subst eu4
    refine ezw_iconst (1) rfl rfl ?_
    refine ezw_iload_n rfl rfl ?_
    refine ezw_ishl rfl (by omega) (by omega) (k := (1 * 2 ^ (a1).toNat)) (rfl) ?_
    refine ezw_iconst (-1) rfl rfl ?_
    refine ezw_ixor rfl (k := ezw_xor (1 * 2 ^ (a1).toNat) (-1)) rfl ?_
    refine ezw_iand rfl (k := (F 13 0) - 2 ^ (a1).toNat) (by rw [w0]; exact ezn_andn x0 x1 ga.1 ga.2.1 ga.2.2) ?_
    refine ezy_put_i hS rfl rfl rfl rfl rfl ⟨by omega, by omega⟩ (fun F5 hS mF5 nF5 => ?_)
    refine ezw_aload_n rfl rfl ?_
    refine ezy_get_i hS rfl rfl rfl rfl rfl rfl (fun u6 hu6 ku6 eu6 => ?_)
    rw [mF5] at eu6
    replace eu6 := eu6.symm
    subst eu6
    refine ezw_if_ne rfl rfl hu6 (fun h34_6 => ?_) (fun h34_6 => ?_)
    · have g0 : F5 13 0 = (F 13 0) - 2 ^ (a1).toNat := by rw [mF5]
      have g1 : F5 13 1 = (F 13 1) := by rw [nF5 13 1 (by decide)]
      have g2 : F5 13 2 = (F 13 2) := by rw [nF5 13 2 (by decide)]
      have g3 : F5 13 3 = (F 13 3) := by rw [nF5 13 3 (by decide)]
      have g4 : F5 13 4 = (F 13 4) := by rw [nF5 13 4 (by decide)]
      have g5 : F5 13 5 = (F 13 5) := by rw [nF5 13 5 (by decide)]
      have g6 : F5 13 6 = (F 13 6) := by rw [nF5 13 6 (by decide)]
      exact ezw_return rfl rfl ⟨F5, rfl, hS, (fun p j h => by rw [nF5 p j (fun z => h (⟨z.1, (Or.inl z.2)⟩))]), ⟨(by rw [g0]; show _ = w.ov - 2 ^ a1.toNat; omega), (by
            rw [g1]
            show _ = if a1 = ezn_lo w.ov then 0 else w.ti
            first
              | (rw [if_pos (by omega)])
              | (rw [if_neg (by omega)]; omega)), (by rw [g2]; exact w2), (by rw [g3]; exact w3), (by
            rw [g4]
            show _ = if w.ov - 2 ^ a1.toNat = 0 then 1 else w.ki
            first
              | (rw [if_pos (by omega)])
              | (rw [if_neg (by omega)]; omega)), (by rw [g5]; exact w5), (by rw [g6]; exact w6)⟩, rfl⟩
    · refine ezw_aload_n rfl rfl ?_
      refine ezw_iconst (1) rfl rfl ?_
      refine ezy_put_i hS rfl rfl rfl rfl rfl ⟨by decide, by decide⟩ (fun F7 hS mF7 nF7 => ?_)
      have g0 : F7 13 0 = (F 13 0) - 2 ^ (a1).toNat := by rw [nF7 13 0 (by decide), mF5]
      have g1 : F7 13 1 = (F 13 1) := by rw [nF7 13 1 (by decide), nF5 13 1 (by decide)]
      have g2 : F7 13 2 = (F 13 2) := by rw [nF7 13 2 (by decide), nF5 13 2 (by decide)]
      have g3 : F7 13 3 = (F 13 3) := by rw [nF7 13 3 (by decide), nF5 13 3 (by decide)]
      have g4 : F7 13 4 = (1) := by rw [mF7]
      have g5 : F7 13 5 = (F 13 5) := by rw [nF7 13 5 (by decide), nF5 13 5 (by decide)]
      have g6 : F7 13 6 = (F 13 6) := by rw [nF7 13 6 (by decide), nF5 13 6 (by decide)]
      exact ezw_return rfl rfl ⟨F7, rfl, hS, (fun p j h => by rw [nF7 p j (fun z => h (⟨z.1, (Or.inr (Or.inr z.2))⟩)), nF5 p j (fun z => h (⟨z.1, (Or.inl z.2)⟩))]), ⟨(by rw [g0]; show _ = w.ov - 2 ^ a1.toNat; omega), (by
            rw [g1]
            show _ = if a1 = ezn_lo w.ov then 0 else w.ti
            first
              | (rw [if_pos (by omega)])
              | (rw [if_neg (by omega)]; omega)), (by rw [g2]; exact w2), (by rw [g3]; exact w3), (by
            rw [g4]
            show _ = if w.ov - 2 ^ a1.toNat = 0 then 1 else w.ki
            first
              | (rw [if_pos (by omega)])
              | (rw [if_neg (by omega)]; omega)), (by rw [g5]; exact w5), (by rw [g6]; exact w6)⟩, rfl⟩
  · refine ezw_aload_n rfl rfl ?_
    refine ezw_iconst (0) rfl rfl ?_
    refine ezy_put_i hS rfl rfl rfl rfl rfl ⟨by decide, by decide⟩ (fun F8 hS mF8 nF8 => ?_)
    refine ezw_aload_n rfl rfl ?_
    refine ezw_dup rfl rfl ?_
    refine ezy_get_i hS rfl rfl rfl rfl rfl rfl (fun u9 hu9 ku9 eu9 => ?_)
    rw [nF8 13 0 (by decide)] at eu9
    replace eu9 := eu9.symm
    subst eu9
    refine ezw_iconst (1) rfl rfl ?_
    refine ezw_iload_n rfl rfl ?_
    refine ezw_ishl rfl (by omega) (by omega) (k := (1 * 2 ^ (a1).toNat)) (rfl) ?_
    refine ezw_iconst (-1) rfl rfl ?_
    refine ezw_ixor rfl (k := ezw_xor (1 * 2 ^ (a1).toNat) (-1)) rfl ?_
    refine ezw_iand rfl (k := (F 13 0) - 2 ^ (a1).toNat) (by rw [w0]; exact ezn_andn x0 x1 ga.1 ga.2.1 ga.2.2) ?_
    refine ezy_put_i hS rfl rfl rfl rfl rfl ⟨by omega, by omega⟩ (fun F10 hS mF10 nF10 => ?_)
    refine ezw_aload_n rfl rfl ?_
    refine ezy_get_i hS rfl rfl rfl rfl rfl rfl (fun u11 hu11 ku11 eu11 => ?_)
    rw [mF10] at eu11
    replace eu11 := eu11.symm
    subst eu11
    refine ezw_if_ne rfl rfl hu11 (fun h34_11 => ?_) (fun h34_11 => ?_)
    · have g0 : F10 13 0 = (F 13 0) - 2 ^ (a1).toNat := by rw [mF10]
      have g1 : F10 13 1 = (0) := by rw [nF10 13 1 (by decide), mF8]
      have g2 : F10 13 2 = (F 13 2) := by rw [nF10 13 2 (by decide), nF8 13 2 (by decide)]
      have g3 : F10 13 3 = (F 13 3) := by rw [nF10 13 3 (by decide), nF8 13 3 (by decide)]
      have g4 : F10 13 4 = (F 13 4) := by rw [nF10 13 4 (by decide), nF8 13 4 (by decide)]
      have g5 : F10 13 5 = (F 13 5) := by rw [nF10 13 5 (by decide), nF8 13 5 (by decide)]
      have g6 : F10 13 6 = (F 13 6) := by rw [nF10 13 6 (by decide), nF8 13 6 (by decide)]
      exact ezw_return rfl rfl ⟨F10, rfl, hS, (fun p j h => by rw [nF10 p j (fun z => h (⟨z.1, (Or.inl z.2)⟩)), nF8 p j (fun z => h (⟨z.1, (Or.inr (Or.inl z.2))⟩))]), ⟨(by rw [g0]; show _ = w.ov - 2 ^ a1.toNat; omega), (by
            rw [g1]
            show _ = if a1 = ezn_lo w.ov then 0 else w.ti
            first
              | (rw [if_pos (by omega)])
              | (rw [if_neg (by omega)]; omega)), (by rw [g2]; exact w2), (by rw [g3]; exact w3), (by
            rw [g4]
            show _ = if w.ov - 2 ^ a1.toNat = 0 then 1 else w.ki
            first
              | (rw [if_pos (by omega)])
              | (rw [if_neg (by omega)]; omega)), (by rw [g5]; exact w5), (by rw [g6]; exact w6)⟩, rfl⟩
    · refine ezw_aload_n rfl rfl ?_
      refine ezw_iconst (1) rfl rfl ?_
      refine ezy_put_i hS rfl rfl rfl rfl rfl ⟨by decide, by decide⟩ (fun F12 hS mF12 nF12 => ?_)
      have g0 : F12 13 0 = (F 13 0) - 2 ^ (a1).toNat := by rw [nF12 13 0 (by decide), mF10]
      have g1 : F12 13 1 = (0) := by rw [nF12 13 1 (by decide), nF10 13 1 (by decide), mF8]
      have g2 : F12 13 2 = (F 13 2) := by rw [nF12 13 2 (by decide), nF10 13 2 (by decide), nF8 13 2 (by decide)]
      have g3 : F12 13 3 = (F 13 3) := by rw [nF12 13 3 (by decide), nF10 13 3 (by decide), nF8 13 3 (by decide)]
      have g4 : F12 13 4 = (1) := by rw [mF12]
      have g5 : F12 13 5 = (F 13 5) := by rw [nF12 13 5 (by decide), nF10 13 5 (by decide), nF8 13 5 (by decide)]
      have g6 : F12 13 6 = (F 13 6) := by rw [nF12 13 6 (by decide), nF10 13 6 (by decide), nF8 13 6 (by decide)]
      exact ezw_return rfl rfl ⟨F12, rfl, hS, (fun p j h => by rw [nF12 p j (fun z => h (⟨z.1, (Or.inr (Or.inr z.2))⟩)), nF10 p j (fun z => h (⟨z.1, (Or.inl z.2)⟩)), nF8 p j (fun z => h (⟨z.1, (Or.inr (Or.inl z.2))⟩))]), ⟨(by rw [g0]; show _ = w.ov - 2 ^ a1.toNat; omega), (by
            rw [g1]
            show _ = if a1 = ezn_lo w.ov then 0 else w.ti
            first
              | (rw [if_pos (by omega)])
              | (rw [if_neg (by omega)]; omega)), (by rw [g2]; exact w2), (by rw [g3]; exact w3), (by
            rw [g4]
            show _ = if w.ov - 2 ^ a1.toNat = 0 then 1 else w.ki
            first
              | (rw [if_pos (by omega)])
              | (rw [if_neg (by omega)]; omega)), (by rw [g5]; exact w5), (by rw [g6]; exact w6)⟩, rfl⟩
def ezt_m114nQ (e : Bool × Bool) (F : Nat → Nat → Int) (A : Nat → Int → Int) (a0 : Int) (a1 : Int) : Option ezq_V → (Nat → ezq_C) → Prop := fun v g' => ezu_g e F A = g' ∧ ∃ u : Int, (ezw_in u) ∧ (u = ezn_aw a0 a1) ∧ some (ezw_i u) = v
theorem ezt_m114n {a0 a1 : Int} {F : Nat → Nat → Int} {A : Nat → Int → Int} (hS : ezs_T F A) (hd : 0 ≤ d) (ha0 : ezw_in a0) (ha1 : ezw_in a1) (ga : 0 ≤ a0 ∧ a0 < 4 ∧ 0 ≤ a1 ∧ a1 < 4) : ezw_C l ρ B xa Hb D cA 114 d [ezw_i a0, ezw_i a1] (ezu_g e F A) (ezt_m114nQ e F A a0 a1) := by
  refine ezw_met (k := 1) rfl rfl ?_
  refine ezw_iload_n rfl rfl ?_
  refine ezw_iload_n rfl rfl ?_
  refine ezw_isub (k := a0 - a1) rfl (by omega) ?_
  refine ezw_mabsE rfl ⟨by omega, by omega⟩ rfl (fun u1 hu1 => ?_)
  refine ezw_istore_n rfl rfl ?_
  refine ezw_iload_n rfl rfl ?_
  refine ezw_iconst (4) rfl rfl ?_
  refine ezw_iload_n rfl rfl ?_
  refine ezw_isub (k := -u1 + 4) rfl (by omega) ?_
  refine ezw_mminE rfl ⟨by omega, by omega⟩ ⟨by omega, by omega⟩ rfl (fun u2 hu2 => ?_)
  exact ezw_ireturn rfl rfl ⟨rfl, u2, ⟨by omega, by omega⟩, (by
        unfold ezn_aw
        split <;> omega), rfl⟩
def ezt_m92nQ (e : Bool × Bool) (F : Nat → Nat → Int) (A : Nat → Int → Int) (a0 : Int) (a1 : Int) (a2 : Int) (a3 : Int) : Option ezq_V → (Nat → ezq_C) → Prop := fun v g' => ezu_g e F A = g' ∧ ∃ u : Int, (ezw_in u) ∧ (u = 60 * a0 + 6 * a1 + 2 * a2 + a3) ∧ some (ezw_i u) = v
theorem ezt_m92n {a0 a1 a2 a3 : Int} {F : Nat → Nat → Int} {A : Nat → Int → Int} (hS : ezs_T F A) (hd : 0 ≤ d) (ha0 : ezw_in a0) (ha1 : ezw_in a1) (ha2 : ezw_in a2) (ha3 : ezw_in a3) (ga : 0 ≤ a0 ∧ a0 ≤ 8 ∧ 0 ≤ a1 ∧ a1 ≤ 9 ∧ 0 ≤ a2 ∧ a2 ≤ 2 ∧ 0 ≤ a3 ∧ a3 ≤ 1) : ezw_C l ρ B xa Hb D cA 92 d [ezw_i a0, ezw_i a1, ezw_i a2, ezw_i a3] (ezu_g e F A) (ezt_m92nQ e F A a0 a1 a2 a3) := by
  refine ezw_met (k := 0) rfl rfl ?_
  refine ezw_iload_n rfl rfl ?_
  refine ezw_bipush (10) rfl rfl ?_
  refine ezw_imul (k := 10 * a0) rfl (by omega) ?_
  refine ezw_iload_n rfl rfl ?_
  refine ezw_iadd (k := 10 * a0 + a1) rfl (by omega) ?_
  refine ezw_iconst (3) rfl rfl ?_
  refine ezw_imul (k := 30 * a0 + 3 * a1) rfl (by omega) ?_
  refine ezw_iload_n rfl rfl ?_
  refine ezw_iadd (k := 30 * a0 + 3 * a1 + a2) rfl (by omega) ?_
  refine ezw_iconst (2) rfl rfl ?_
  refine ezw_imul (k := 60 * a0 + 6 * a1 + 2 * a2) rfl (by omega) ?_
  refine ezw_iload_n rfl rfl ?_
  refine ezw_iadd (k := 60 * a0 + 6 * a1 + 2 * a2 + a3) rfl (by omega) ?_
  exact ezw_ireturn rfl rfl ⟨rfl, 60 * a0 + 6 * a1 + 2 * a2 + a3, ⟨by omega, by omega⟩, by omega, rfl⟩
def ezt_m27_33oQ (e : Bool × Bool) (F : Nat → Nat → Int) (A : Nat → Int → Int) (a1 : Int) : Option ezq_V → (Nat → ezq_C) → Prop := fun v g' => ezu_g e F A = g' ∧ ∃ u : Int, (ezw_in u) ∧ (0 ≤ a1 → a1 < 8 → u = A 33 a1) ∧ (a1 < 0 ∨ 8 ≤ a1 → u = 0) ∧ some (ezw_i u) = v
theorem ezt_m27_33o {a1 : Int} {F : Nat → Nat → Int} {A : Nat → Int → Int} (hS : ezs_T F A) (hd : 0 ≤ d) (ha1 : ezw_in a1) : ezw_C l ρ B xa Hb D cA 27 d [ezw_p 33, ezw_i a1] (ezu_g e F A) (ezt_m27_33oQ e F A a1) := by
  refine ezw_met (k := 0) rfl rfl ?_
  refine ezw_aload_n rfl rfl ?_
  refine ezw_ifnull rfl ?_
  refine ezw_iload_n rfl rfl ?_
  refine ezw_if_lt rfl rfl ha1 (fun h5_0 => ?_) (fun h5_0 => ?_)
  · refine ezw_iconst (0) rfl rfl ?_
    exact ezw_ireturn rfl rfl ⟨rfl, (0), ⟨by decide, by decide⟩, by omega, by omega, rfl⟩
  · refine ezw_iload_n rfl rfl ?_
    refine ezw_aload_n rfl rfl ?_
    refine ezs_alen (k := 8) rfl rfl rfl rfl (by decide) (by decide) ?_
    refine ezw_icmp_ge rfl rfl ha1 ⟨by decide, by decide⟩ (fun h11_0 => ?_) (fun h11_0 => ?_)
    · refine ezw_iconst (0) rfl rfl ?_
      exact ezw_ireturn rfl rfl ⟨rfl, (0), ⟨by decide, by decide⟩, by omega, by omega, rfl⟩
    · refine ezw_aload_n rfl rfl ?_
      refine ezw_iload_n rfl rfl ?_
      refine ezy_iaload hS rfl rfl rfl (by omega) (by omega) (by decide) (fun u1 hu1 ku1 eu1 => ?_)
      refine ezw_goto rfl rfl ?_
      exact ezw_ireturn rfl rfl ⟨rfl, u1, hu1, by omega, by omega, rfl⟩
def ezt_m27_45oQ (e : Bool × Bool) (F : Nat → Nat → Int) (A : Nat → Int → Int) (a1 : Int) : Option ezq_V → (Nat → ezq_C) → Prop := fun v g' => ezu_g e F A = g' ∧ ∃ u : Int, (ezw_in u) ∧ (0 ≤ a1 → a1 < 480 → u = A 45 a1) ∧ (a1 < 0 ∨ 480 ≤ a1 → u = 0) ∧ some (ezw_i u) = v
theorem ezt_m27_45o {a1 : Int} {F : Nat → Nat → Int} {A : Nat → Int → Int} (hS : ezs_T F A) (hd : 0 ≤ d) (ha1 : ezw_in a1) : ezw_C l ρ B xa Hb D cA 27 d [ezw_p 45, ezw_i a1] (ezu_g e F A) (ezt_m27_45oQ e F A a1) := by
  refine ezw_met (k := 0) rfl rfl ?_
  refine ezw_aload_n rfl rfl ?_
  refine ezw_ifnull rfl ?_
  refine ezw_iload_n rfl rfl ?_
  refine ezw_if_lt rfl rfl ha1 (fun h5_0 => ?_) (fun h5_0 => ?_)
  · refine ezw_iconst (0) rfl rfl ?_
    exact ezw_ireturn rfl rfl ⟨rfl, (0), ⟨by decide, by decide⟩, by omega, by omega, rfl⟩
  · refine ezw_iload_n rfl rfl ?_
    refine ezw_aload_n rfl rfl ?_
    refine ezs_alen (k := 480) rfl rfl rfl rfl (by decide) (by decide) ?_
    refine ezw_icmp_ge rfl rfl ha1 ⟨by decide, by decide⟩ (fun h11_0 => ?_) (fun h11_0 => ?_)
    · refine ezw_iconst (0) rfl rfl ?_
      exact ezw_ireturn rfl rfl ⟨rfl, (0), ⟨by decide, by decide⟩, by omega, by omega, rfl⟩
    · refine ezw_aload_n rfl rfl ?_
      refine ezw_iload_n rfl rfl ?_
      refine ezy_iaload hS rfl rfl rfl (by omega) (by omega) (by decide) (fun u1 hu1 ku1 eu1 => ?_)
      refine ezw_goto rfl rfl ?_
      exact ezw_ireturn rfl rfl ⟨rfl, u1, hu1, by omega, by omega, rfl⟩
def ezt_m113_30nQ (e : Bool × Bool) (F : Nat → Nat → Int) (A : Nat → Int → Int) (y : ezp_D) (qc : ezn_Q) (a1 : Int) (a2 : Int) (a3 : Int) (a4 : Int) : Option ezq_V → (Nat → ezq_C) → Prop := fun v g' => ezu_g e F A = g' ∧ ∃ u : Int, (ezw_in u) ∧ (u = qc 0 a1 a2 (ezn_aw a3 (y.si a1)) a4) ∧ some (ezw_i u) = v
theorem ezt_m113_30n {y : ezp_D} {qc : ezn_Q} {a1 a2 a3 a4 : Int} {F : Nat → Nat → Int} {A : Nat → Int → Int} (hS : ezs_T F A) (hd : 1 ≤ d) (ha1 : ezw_in a1) (ha2 : ezw_in a2) (ha3 : ezw_in a3) (ha4 : ezw_in a4) (tr : ezt_TR 30 y F A) (nu : ezt_NU 30 y A) (hB : ezp_B y) (cq : ezn_CQ qc y 30 A) (qr : ezn_QR qc) (ga : 0 ≤ a1 ∧ a1 < y.kT ∧ 0 ≤ a2 ∧ a2 ≤ 9 ∧ 0 ≤ a3 ∧ a3 < 4 ∧ 0 ≤ a4 ∧ a4 ≤ 1) : ezw_C l ρ B xa Hb D cA 113 d [ezw_p 30, ezw_i a1, ezw_i a2, ezw_i a3, ezw_i a4] (ezu_g e F A) (ezt_m113_30nQ e F A y qc a1 a2 a3 a4) := by
  refine ezw_met (k := 0) rfl rfl ?_
  obtain ⟨⟨c1, c2, c3, c4⟩, ⟨d1, d2, d3, d4, d5, d6, d7, d8⟩, e3, e4, e5, e6⟩ := id tr
  obtain ⟨b1, b2', b3, b4, b5, b6, b7, ⟨b8, b8'⟩, b9⟩ := id hB
  refine ezw_aload_n rfl rfl ?_
  refine ezs_getp (p := 45) rfl rfl rfl rfl rfl ?_
  refine ezw_iload_n rfl rfl ?_
  refine ezw_iload_n rfl rfl ?_
  refine ezw_iload_n rfl rfl ?_
  refine ezw_aload_n rfl rfl ?_
  refine ezs_getp (p := 33) rfl rfl rfl rfl rfl ?_
  refine ezw_iload_n rfl rfl ?_
  refine ezw_call3_2 rfl (by omega) rfl rfl (ezt_m27_33o hS (by omega) ha1) ?_
  rintro _ _ ⟨rfl, u2, hu2, v_1, o_1, rfl⟩
  have f1 : A 33 a1 = y.si a1 := (e3 a1 (by omega) (by omega)).2.2.2.1
  have f2 := (b1 a1 (by omega) (by omega)).2.2.1
  have f3 := v_1 (by omega) (by omega)
  refine ezw_call3_2 rfl (by omega) rfl rfl (ezt_m114n hS (by omega) ha3 hu2 (by omega)) ?_
  rintro _ _ ⟨rfl, u4, hu4, an_3, rfl⟩
  refine ezw_iload rfl rfl ?_
  have J28_6 : ∀ y5 : Int, ezw_in y5 → (y5 = a4) → ezw_E l ρ B xa Hb D cA d ezq_re113 (ezt_m113_30nQ e F A y qc a1 a2 a3 a4) 28 [some (ezw_p 30), some (ezw_i a1), some (ezw_i a2), some (ezw_i a3), some (ezw_i a4)] [ezw_i y5, ezw_i u4, ezw_i a2, ezw_i a1, ezw_p 45] (ezu_g e F A) := by
    intro y5 hy5 v_6
    have f4 := ezn_aw_r a3 (y.si a1)
    have f5 : u4 = ezn_aw a3 (y.si a1) := by rw [an_3, show u2 = y.si a1 by omega]
    refine ezw_call2_4 rfl (by omega) rfl rfl (ezt_m92n hS (by omega) ha1 ha2 hu4 hy5 (by omega)) ?_
    rintro _ _ ⟨rfl, u8, hu8, an_7, rfl⟩
    refine ezw_call3_2 rfl (by omega) rfl rfl (ezt_m27_45o hS (by omega) hu8) ?_
    rintro _ _ ⟨rfl, u10, hu10, v_9, o_9, rfl⟩
    exact ezw_ireturn rfl rfl ⟨rfl, u10, hu10, (by
          have h9 := v_9 (by omega) (by omega)
          have h8 := (cq a1 a2 (ezn_aw a3 (y.si a1)) a4 (by omega) (by omega) (by omega) (by omega) (by omega) (by omega) (by omega) (by omega)).1
          rw [h9, an_7, show 60 * a1 + 6 * a2 + 2 * u4 + y5 = 60 * a1 + 6 * a2 + 2 * ezn_aw a3 (y.si a1) + a4 by omega]
          exact h8), rfl⟩
  refine ezw_if_eq rfl rfl ha4 (fun h20_4 => ?_) (fun h20_4 => ?_)
  · refine ezw_iconst (0) rfl rfl ?_
    exact ezw_keepE [true, true, true, true, true] (J28_6 (0) ⟨by decide, by decide⟩ (by omega))
  · refine ezw_iconst (1) rfl rfl ?_
    refine ezw_goto rfl rfl ?_
    exact ezw_keepE [true, true, true, true, true] (J28_6 (1) ⟨by decide, by decide⟩ (by omega))
def ezt_m27_46oQ (e : Bool × Bool) (F : Nat → Nat → Int) (A : Nat → Int → Int) (a1 : Int) : Option ezq_V → (Nat → ezq_C) → Prop := fun v g' => ezu_g e F A = g' ∧ ∃ u : Int, (ezw_in u) ∧ (0 ≤ a1 → a1 < 480 → u = A 46 a1) ∧ (a1 < 0 ∨ 480 ≤ a1 → u = 0) ∧ some (ezw_i u) = v
theorem ezt_m27_46o {a1 : Int} {F : Nat → Nat → Int} {A : Nat → Int → Int} (hS : ezs_T F A) (hd : 0 ≤ d) (ha1 : ezw_in a1) : ezw_C l ρ B xa Hb D cA 27 d [ezw_p 46, ezw_i a1] (ezu_g e F A) (ezt_m27_46oQ e F A a1) := by
  refine ezw_met (k := 0) rfl rfl ?_
  refine ezw_aload_n rfl rfl ?_
  refine ezw_ifnull rfl ?_
  refine ezw_iload_n rfl rfl ?_
  refine ezw_if_lt rfl rfl ha1 (fun h5_0 => ?_) (fun h5_0 => ?_)
  · refine ezw_iconst (0) rfl rfl ?_
    exact ezw_ireturn rfl rfl ⟨rfl, (0), ⟨by decide, by decide⟩, by omega, by omega, rfl⟩
  · refine ezw_iload_n rfl rfl ?_
    refine ezw_aload_n rfl rfl ?_
    refine ezs_alen (k := 480) rfl rfl rfl rfl (by decide) (by decide) ?_
    refine ezw_icmp_ge rfl rfl ha1 ⟨by decide, by decide⟩ (fun h11_0 => ?_) (fun h11_0 => ?_)
    · refine ezw_iconst (0) rfl rfl ?_
      exact ezw_ireturn rfl rfl ⟨rfl, (0), ⟨by decide, by decide⟩, by omega, by omega, rfl⟩
    · refine ezw_aload_n rfl rfl ?_
      refine ezw_iload_n rfl rfl ?_
      refine ezy_iaload hS rfl rfl rfl (by omega) (by omega) (by decide) (fun u1 hu1 ku1 eu1 => ?_)
      refine ezw_goto rfl rfl ?_
      exact ezw_ireturn rfl rfl ⟨rfl, u1, hu1, by omega, by omega, rfl⟩
def ezt_m116_30nQ (e : Bool × Bool) (F : Nat → Nat → Int) (A : Nat → Int → Int) (y : ezp_D) (qc : ezn_Q) (a1 : Int) (a2 : Int) (a3 : Int) (a4 : Int) : Option ezq_V → (Nat → ezq_C) → Prop := fun v g' => ezu_g e F A = g' ∧ ∃ u : Int, (ezw_in u) ∧ (u = qc 1 a1 a2 (ezn_aw a3 (y.si a1)) a4) ∧ some (ezw_i u) = v
theorem ezt_m116_30n {y : ezp_D} {qc : ezn_Q} {a1 a2 a3 a4 : Int} {F : Nat → Nat → Int} {A : Nat → Int → Int} (hS : ezs_T F A) (hd : 1 ≤ d) (ha1 : ezw_in a1) (ha2 : ezw_in a2) (ha3 : ezw_in a3) (ha4 : ezw_in a4) (tr : ezt_TR 30 y F A) (nu : ezt_NU 30 y A) (hB : ezp_B y) (cq : ezn_CQ qc y 30 A) (qr : ezn_QR qc) (ga : 0 ≤ a1 ∧ a1 < y.kT ∧ 0 ≤ a2 ∧ a2 ≤ 9 ∧ 0 ≤ a3 ∧ a3 < 4 ∧ 0 ≤ a4 ∧ a4 ≤ 1) : ezw_C l ρ B xa Hb D cA 116 d [ezw_p 30, ezw_i a1, ezw_i a2, ezw_i a3, ezw_i a4] (ezu_g e F A) (ezt_m116_30nQ e F A y qc a1 a2 a3 a4) := by
  refine ezw_met (k := 0) rfl rfl ?_
  obtain ⟨⟨c1, c2, c3, c4⟩, ⟨d1, d2, d3, d4, d5, d6, d7, d8⟩, e3, e4, e5, e6⟩ := id tr
  obtain ⟨b1, b2', b3, b4, b5, b6, b7, ⟨b8, b8'⟩, b9⟩ := id hB
  refine ezw_aload_n rfl rfl ?_
  refine ezs_getp (p := 46) rfl rfl rfl rfl rfl ?_
  refine ezw_iload_n rfl rfl ?_
  refine ezw_iload_n rfl rfl ?_
  refine ezw_iload_n rfl rfl ?_
  refine ezw_aload_n rfl rfl ?_
  refine ezs_getp (p := 33) rfl rfl rfl rfl rfl ?_
  refine ezw_iload_n rfl rfl ?_
  refine ezw_call3_2 rfl (by omega) rfl rfl (ezt_m27_33o hS (by omega) ha1) ?_
  rintro _ _ ⟨rfl, u2, hu2, v_1, o_1, rfl⟩
  have f1 : A 33 a1 = y.si a1 := (e3 a1 (by omega) (by omega)).2.2.2.1
  have f2 := (b1 a1 (by omega) (by omega)).2.2.1
  have f3 := v_1 (by omega) (by omega)
  refine ezw_call3_2 rfl (by omega) rfl rfl (ezt_m114n hS (by omega) ha3 hu2 (by omega)) ?_
  rintro _ _ ⟨rfl, u4, hu4, an_3, rfl⟩
  refine ezw_iload rfl rfl ?_
  have J28_6 : ∀ y5 : Int, ezw_in y5 → (y5 = a4) → ezw_E l ρ B xa Hb D cA d ezq_re116 (ezt_m116_30nQ e F A y qc a1 a2 a3 a4) 28 [some (ezw_p 30), some (ezw_i a1), some (ezw_i a2), some (ezw_i a3), some (ezw_i a4)] [ezw_i y5, ezw_i u4, ezw_i a2, ezw_i a1, ezw_p 46] (ezu_g e F A) := by
    intro y5 hy5 v_6
    have f4 := ezn_aw_r a3 (y.si a1)
    have f5 : u4 = ezn_aw a3 (y.si a1) := by rw [an_3, show u2 = y.si a1 by omega]
    refine ezw_call2_4 rfl (by omega) rfl rfl (ezt_m92n hS (by omega) ha1 ha2 hu4 hy5 (by omega)) ?_
    rintro _ _ ⟨rfl, u8, hu8, an_7, rfl⟩
    refine ezw_call3_2 rfl (by omega) rfl rfl (ezt_m27_46o hS (by omega) hu8) ?_
    rintro _ _ ⟨rfl, u10, hu10, v_9, o_9, rfl⟩
    exact ezw_ireturn rfl rfl ⟨rfl, u10, hu10, (by
          have h9 := v_9 (by omega) (by omega)
          have h8 := (cq a1 a2 (ezn_aw a3 (y.si a1)) a4 (by omega) (by omega) (by omega) (by omega) (by omega) (by omega) (by omega) (by omega)).2
          rw [h9, an_7, show 60 * a1 + 6 * a2 + 2 * u4 + y5 = 60 * a1 + 6 * a2 + 2 * ezn_aw a3 (y.si a1) + a4 by omega]
          exact h8), rfl⟩
  refine ezw_if_eq rfl rfl ha4 (fun h20_4 => ?_) (fun h20_4 => ?_)
  · refine ezw_iconst (0) rfl rfl ?_
    exact ezw_keepE [true, true, true, true, true] (J28_6 (0) ⟨by decide, by decide⟩ (by omega))
  · refine ezw_iconst (1) rfl rfl ?_
    refine ezw_goto rfl rfl ?_
    exact ezw_keepE [true, true, true, true, true] (J28_6 (1) ⟨by decide, by decide⟩ (by omega))
def ezt_m27_50oQ (e : Bool × Bool) (F : Nat → Nat → Int) (A : Nat → Int → Int) (a1 : Int) : Option ezq_V → (Nat → ezq_C) → Prop := fun v g' => ezu_g e F A = g' ∧ ∃ u : Int, (ezw_in u) ∧ (0 ≤ a1 → a1 < 8 → u = A 50 a1) ∧ (a1 < 0 ∨ 8 ≤ a1 → u = 0) ∧ some (ezw_i u) = v
theorem ezt_m27_50o {a1 : Int} {F : Nat → Nat → Int} {A : Nat → Int → Int} (hS : ezs_T F A) (hd : 0 ≤ d) (ha1 : ezw_in a1) : ezw_C l ρ B xa Hb D cA 27 d [ezw_p 50, ezw_i a1] (ezu_g e F A) (ezt_m27_50oQ e F A a1) := by
  refine ezw_met (k := 0) rfl rfl ?_
  refine ezw_aload_n rfl rfl ?_
  refine ezw_ifnull rfl ?_
  refine ezw_iload_n rfl rfl ?_
  refine ezw_if_lt rfl rfl ha1 (fun h5_0 => ?_) (fun h5_0 => ?_)
  · refine ezw_iconst (0) rfl rfl ?_
    exact ezw_ireturn rfl rfl ⟨rfl, (0), ⟨by decide, by decide⟩, by omega, by omega, rfl⟩
  · refine ezw_iload_n rfl rfl ?_
    refine ezw_aload_n rfl rfl ?_
    refine ezs_alen (k := 8) rfl rfl rfl rfl (by decide) (by decide) ?_
    refine ezw_icmp_ge rfl rfl ha1 ⟨by decide, by decide⟩ (fun h11_0 => ?_) (fun h11_0 => ?_)
    · refine ezw_iconst (0) rfl rfl ?_
      exact ezw_ireturn rfl rfl ⟨rfl, (0), ⟨by decide, by decide⟩, by omega, by omega, rfl⟩
    · refine ezw_aload_n rfl rfl ?_
      refine ezw_iload_n rfl rfl ?_
      refine ezy_iaload hS rfl rfl rfl (by omega) (by omega) (by decide) (fun u1 hu1 ku1 eu1 => ?_)
      refine ezw_goto rfl rfl ?_
      exact ezw_ireturn rfl rfl ⟨rfl, u1, hu1, by omega, by omega, rfl⟩
def ezt_m27_62oQ (e : Bool × Bool) (F : Nat → Nat → Int) (A : Nat → Int → Int) (a1 : Int) : Option ezq_V → (Nat → ezq_C) → Prop := fun v g' => ezu_g e F A = g' ∧ ∃ u : Int, (ezw_in u) ∧ (0 ≤ a1 → a1 < 480 → u = A 62 a1) ∧ (a1 < 0 ∨ 480 ≤ a1 → u = 0) ∧ some (ezw_i u) = v
theorem ezt_m27_62o {a1 : Int} {F : Nat → Nat → Int} {A : Nat → Int → Int} (hS : ezs_T F A) (hd : 0 ≤ d) (ha1 : ezw_in a1) : ezw_C l ρ B xa Hb D cA 27 d [ezw_p 62, ezw_i a1] (ezu_g e F A) (ezt_m27_62oQ e F A a1) := by
  refine ezw_met (k := 0) rfl rfl ?_
  refine ezw_aload_n rfl rfl ?_
  refine ezw_ifnull rfl ?_
  refine ezw_iload_n rfl rfl ?_
  refine ezw_if_lt rfl rfl ha1 (fun h5_0 => ?_) (fun h5_0 => ?_)
  · refine ezw_iconst (0) rfl rfl ?_
    exact ezw_ireturn rfl rfl ⟨rfl, (0), ⟨by decide, by decide⟩, by omega, by omega, rfl⟩
  · refine ezw_iload_n rfl rfl ?_
    refine ezw_aload_n rfl rfl ?_
    refine ezs_alen (k := 480) rfl rfl rfl rfl (by decide) (by decide) ?_
    refine ezw_icmp_ge rfl rfl ha1 ⟨by decide, by decide⟩ (fun h11_0 => ?_) (fun h11_0 => ?_)
    · refine ezw_iconst (0) rfl rfl ?_
      exact ezw_ireturn rfl rfl ⟨rfl, (0), ⟨by decide, by decide⟩, by omega, by omega, rfl⟩
    · refine ezw_aload_n rfl rfl ?_
      refine ezw_iload_n rfl rfl ?_
      refine ezy_iaload hS rfl rfl rfl (by omega) (by omega) (by decide) (fun u1 hu1 ku1 eu1 => ?_)
      refine ezw_goto rfl rfl ?_
      exact ezw_ireturn rfl rfl ⟨rfl, u1, hu1, by omega, by omega, rfl⟩
def ezt_m113_47nQ (e : Bool × Bool) (F : Nat → Nat → Int) (A : Nat → Int → Int) (y : ezp_D) (qc : ezn_Q) (a1 : Int) (a2 : Int) (a3 : Int) (a4 : Int) : Option ezq_V → (Nat → ezq_C) → Prop := fun v g' => ezu_g e F A = g' ∧ ∃ u : Int, (ezw_in u) ∧ (u = qc 0 a1 a2 (ezn_aw a3 (y.si a1)) a4) ∧ some (ezw_i u) = v
theorem ezt_m113_47n {y : ezp_D} {qc : ezn_Q} {a1 a2 a3 a4 : Int} {F : Nat → Nat → Int} {A : Nat → Int → Int} (hS : ezs_T F A) (hd : 1 ≤ d) (ha1 : ezw_in a1) (ha2 : ezw_in a2) (ha3 : ezw_in a3) (ha4 : ezw_in a4) (tr : ezt_TR 47 y F A) (nu : ezt_NU 47 y A) (hB : ezp_B y) (cq : ezn_CQ qc y 47 A) (qr : ezn_QR qc) (ga : 0 ≤ a1 ∧ a1 < y.kT ∧ 0 ≤ a2 ∧ a2 ≤ 9 ∧ 0 ≤ a3 ∧ a3 < 4 ∧ 0 ≤ a4 ∧ a4 ≤ 1) : ezw_C l ρ B xa Hb D cA 113 d [ezw_p 47, ezw_i a1, ezw_i a2, ezw_i a3, ezw_i a4] (ezu_g e F A) (ezt_m113_47nQ e F A y qc a1 a2 a3 a4) := by
  refine ezw_met (k := 0) rfl rfl ?_
  obtain ⟨⟨c1, c2, c3, c4⟩, ⟨d1, d2, d3, d4, d5, d6, d7, d8⟩, e3, e4, e5, e6⟩ := id tr
  obtain ⟨b1, b2', b3, b4, b5, b6, b7, ⟨b8, b8'⟩, b9⟩ := id hB
  refine ezw_aload_n rfl rfl ?_
  refine ezs_getp (p := 62) rfl rfl rfl rfl rfl ?_
  refine ezw_iload_n rfl rfl ?_
  refine ezw_iload_n rfl rfl ?_
  refine ezw_iload_n rfl rfl ?_
  refine ezw_aload_n rfl rfl ?_
  refine ezs_getp (p := 50) rfl rfl rfl rfl rfl ?_
  refine ezw_iload_n rfl rfl ?_
  refine ezw_call3_2 rfl (by omega) rfl rfl (ezt_m27_50o hS (by omega) ha1) ?_
  rintro _ _ ⟨rfl, u2, hu2, v_1, o_1, rfl⟩
  have f1 : A 50 a1 = y.si a1 := (e3 a1 (by omega) (by omega)).2.2.2.1
  have f2 := (b1 a1 (by omega) (by omega)).2.2.1
  have f3 := v_1 (by omega) (by omega)
  refine ezw_call3_2 rfl (by omega) rfl rfl (ezt_m114n hS (by omega) ha3 hu2 (by omega)) ?_
  rintro _ _ ⟨rfl, u4, hu4, an_3, rfl⟩
  refine ezw_iload rfl rfl ?_
  have J28_6 : ∀ y5 : Int, ezw_in y5 → (y5 = a4) → ezw_E l ρ B xa Hb D cA d ezq_re113 (ezt_m113_47nQ e F A y qc a1 a2 a3 a4) 28 [some (ezw_p 47), some (ezw_i a1), some (ezw_i a2), some (ezw_i a3), some (ezw_i a4)] [ezw_i y5, ezw_i u4, ezw_i a2, ezw_i a1, ezw_p 62] (ezu_g e F A) := by
    intro y5 hy5 v_6
    have f4 := ezn_aw_r a3 (y.si a1)
    have f5 : u4 = ezn_aw a3 (y.si a1) := by rw [an_3, show u2 = y.si a1 by omega]
    refine ezw_call2_4 rfl (by omega) rfl rfl (ezt_m92n hS (by omega) ha1 ha2 hu4 hy5 (by omega)) ?_
    rintro _ _ ⟨rfl, u8, hu8, an_7, rfl⟩
    refine ezw_call3_2 rfl (by omega) rfl rfl (ezt_m27_62o hS (by omega) hu8) ?_
    rintro _ _ ⟨rfl, u10, hu10, v_9, o_9, rfl⟩
    exact ezw_ireturn rfl rfl ⟨rfl, u10, hu10, (by
          have h9 := v_9 (by omega) (by omega)
          have h8 := (cq a1 a2 (ezn_aw a3 (y.si a1)) a4 (by omega) (by omega) (by omega) (by omega) (by omega) (by omega) (by omega) (by omega)).1
          rw [h9, an_7, show 60 * a1 + 6 * a2 + 2 * u4 + y5 = 60 * a1 + 6 * a2 + 2 * ezn_aw a3 (y.si a1) + a4 by omega]
          exact h8), rfl⟩
  refine ezw_if_eq rfl rfl ha4 (fun h20_4 => ?_) (fun h20_4 => ?_)
  · refine ezw_iconst (0) rfl rfl ?_
    exact ezw_keepE [true, true, true, true, true] (J28_6 (0) ⟨by decide, by decide⟩ (by omega))
  · refine ezw_iconst (1) rfl rfl ?_
    refine ezw_goto rfl rfl ?_
    exact ezw_keepE [true, true, true, true, true] (J28_6 (1) ⟨by decide, by decide⟩ (by omega))
def ezt_m27_63oQ (e : Bool × Bool) (F : Nat → Nat → Int) (A : Nat → Int → Int) (a1 : Int) : Option ezq_V → (Nat → ezq_C) → Prop := fun v g' => ezu_g e F A = g' ∧ ∃ u : Int, (ezw_in u) ∧ (0 ≤ a1 → a1 < 480 → u = A 63 a1) ∧ (a1 < 0 ∨ 480 ≤ a1 → u = 0) ∧ some (ezw_i u) = v
theorem ezt_m27_63o {a1 : Int} {F : Nat → Nat → Int} {A : Nat → Int → Int} (hS : ezs_T F A) (hd : 0 ≤ d) (ha1 : ezw_in a1) : ezw_C l ρ B xa Hb D cA 27 d [ezw_p 63, ezw_i a1] (ezu_g e F A) (ezt_m27_63oQ e F A a1) := by
  refine ezw_met (k := 0) rfl rfl ?_
  refine ezw_aload_n rfl rfl ?_
  refine ezw_ifnull rfl ?_
  refine ezw_iload_n rfl rfl ?_
  refine ezw_if_lt rfl rfl ha1 (fun h5_0 => ?_) (fun h5_0 => ?_)
  · refine ezw_iconst (0) rfl rfl ?_
    exact ezw_ireturn rfl rfl ⟨rfl, (0), ⟨by decide, by decide⟩, by omega, by omega, rfl⟩
  · refine ezw_iload_n rfl rfl ?_
    refine ezw_aload_n rfl rfl ?_
    refine ezs_alen (k := 480) rfl rfl rfl rfl (by decide) (by decide) ?_
    refine ezw_icmp_ge rfl rfl ha1 ⟨by decide, by decide⟩ (fun h11_0 => ?_) (fun h11_0 => ?_)
    · refine ezw_iconst (0) rfl rfl ?_
      exact ezw_ireturn rfl rfl ⟨rfl, (0), ⟨by decide, by decide⟩, by omega, by omega, rfl⟩
    · refine ezw_aload_n rfl rfl ?_
      refine ezw_iload_n rfl rfl ?_
      refine ezy_iaload hS rfl rfl rfl (by omega) (by omega) (by decide) (fun u1 hu1 ku1 eu1 => ?_)
      refine ezw_goto rfl rfl ?_
      exact ezw_ireturn rfl rfl ⟨rfl, u1, hu1, by omega, by omega, rfl⟩
def ezt_m116_47nQ (e : Bool × Bool) (F : Nat → Nat → Int) (A : Nat → Int → Int) (y : ezp_D) (qc : ezn_Q) (a1 : Int) (a2 : Int) (a3 : Int) (a4 : Int) : Option ezq_V → (Nat → ezq_C) → Prop := fun v g' => ezu_g e F A = g' ∧ ∃ u : Int, (ezw_in u) ∧ (u = qc 1 a1 a2 (ezn_aw a3 (y.si a1)) a4) ∧ some (ezw_i u) = v
theorem ezt_m116_47n {y : ezp_D} {qc : ezn_Q} {a1 a2 a3 a4 : Int} {F : Nat → Nat → Int} {A : Nat → Int → Int} (hS : ezs_T F A) (hd : 1 ≤ d) (ha1 : ezw_in a1) (ha2 : ezw_in a2) (ha3 : ezw_in a3) (ha4 : ezw_in a4) (tr : ezt_TR 47 y F A) (nu : ezt_NU 47 y A) (hB : ezp_B y) (cq : ezn_CQ qc y 47 A) (qr : ezn_QR qc) (ga : 0 ≤ a1 ∧ a1 < y.kT ∧ 0 ≤ a2 ∧ a2 ≤ 9 ∧ 0 ≤ a3 ∧ a3 < 4 ∧ 0 ≤ a4 ∧ a4 ≤ 1) : ezw_C l ρ B xa Hb D cA 116 d [ezw_p 47, ezw_i a1, ezw_i a2, ezw_i a3, ezw_i a4] (ezu_g e F A) (ezt_m116_47nQ e F A y qc a1 a2 a3 a4) := by
  refine ezw_met (k := 0) rfl rfl ?_
  obtain ⟨⟨c1, c2, c3, c4⟩, ⟨d1, d2, d3, d4, d5, d6, d7, d8⟩, e3, e4, e5, e6⟩ := id tr
  obtain ⟨b1, b2', b3, b4, b5, b6, b7, ⟨b8, b8'⟩, b9⟩ := id hB
  refine ezw_aload_n rfl rfl ?_
  refine ezs_getp (p := 63) rfl rfl rfl rfl rfl ?_
  refine ezw_iload_n rfl rfl ?_
  refine ezw_iload_n rfl rfl ?_
  refine ezw_iload_n rfl rfl ?_
  refine ezw_aload_n rfl rfl ?_
  refine ezs_getp (p := 50) rfl rfl rfl rfl rfl ?_
  refine ezw_iload_n rfl rfl ?_
  refine ezw_call3_2 rfl (by omega) rfl rfl (ezt_m27_50o hS (by omega) ha1) ?_
  rintro _ _ ⟨rfl, u2, hu2, v_1, o_1, rfl⟩
  have f1 : A 50 a1 = y.si a1 := (e3 a1 (by omega) (by omega)).2.2.2.1
  have f2 := (b1 a1 (by omega) (by omega)).2.2.1
  have f3 := v_1 (by omega) (by omega)
  refine ezw_call3_2 rfl (by omega) rfl rfl (ezt_m114n hS (by omega) ha3 hu2 (by omega)) ?_
  rintro _ _ ⟨rfl, u4, hu4, an_3, rfl⟩
  refine ezw_iload rfl rfl ?_
  have J28_6 : ∀ y5 : Int, ezw_in y5 → (y5 = a4) → ezw_E l ρ B xa Hb D cA d ezq_re116 (ezt_m116_47nQ e F A y qc a1 a2 a3 a4) 28 [some (ezw_p 47), some (ezw_i a1), some (ezw_i a2), some (ezw_i a3), some (ezw_i a4)] [ezw_i y5, ezw_i u4, ezw_i a2, ezw_i a1, ezw_p 63] (ezu_g e F A) := by
    intro y5 hy5 v_6
    have f4 := ezn_aw_r a3 (y.si a1)
    have f5 : u4 = ezn_aw a3 (y.si a1) := by rw [an_3, show u2 = y.si a1 by omega]
    refine ezw_call2_4 rfl (by omega) rfl rfl (ezt_m92n hS (by omega) ha1 ha2 hu4 hy5 (by omega)) ?_
    rintro _ _ ⟨rfl, u8, hu8, an_7, rfl⟩
    refine ezw_call3_2 rfl (by omega) rfl rfl (ezt_m27_63o hS (by omega) hu8) ?_
    rintro _ _ ⟨rfl, u10, hu10, v_9, o_9, rfl⟩
    exact ezw_ireturn rfl rfl ⟨rfl, u10, hu10, (by
          have h9 := v_9 (by omega) (by omega)
          have h8 := (cq a1 a2 (ezn_aw a3 (y.si a1)) a4 (by omega) (by omega) (by omega) (by omega) (by omega) (by omega) (by omega) (by omega)).2
          rw [h9, an_7, show 60 * a1 + 6 * a2 + 2 * u4 + y5 = 60 * a1 + 6 * a2 + 2 * ezn_aw a3 (y.si a1) + a4 by omega]
          exact h8), rfl⟩
  refine ezw_if_eq rfl rfl ha4 (fun h20_4 => ?_) (fun h20_4 => ?_)
  · refine ezw_iconst (0) rfl rfl ?_
    exact ezw_keepE [true, true, true, true, true] (J28_6 (0) ⟨by decide, by decide⟩ (by omega))
  · refine ezw_iconst (1) rfl rfl ?_
    refine ezw_goto rfl rfl ?_
    exact ezw_keepE [true, true, true, true, true] (J28_6 (1) ⟨by decide, by decide⟩ (by omega))
end KT
