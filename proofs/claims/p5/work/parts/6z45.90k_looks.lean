/-! ===== the class: what is looked at ===== -/
section KT
variable {l : Launch} {ρ : ezq_E} {B : Nat} {xa : Nat → Option Nat} {Hb : Heap} {D : va_G} {cA : Nat → ClassId} {d : Nat} {e : Bool × Bool}
def ezt_m105_0n_fQ (b2 : Bool) (F : Nat → Nat → Int) (A : Nat → Int → Int) (y : ezp_D) (w : ezn_N) (a1 : Int) (a2 : Int) : Option ezq_V → (Nat → ezq_C) → Prop := fun v g' => ezu_g (false, b2) F A = g' ∧ ∃ u : Int, (ezw_in u) ∧ (u = ezn_tw y w a1 a2) ∧ some (ezw_i u) = v
theorem ezt_m105_0n_f {b2 : Bool} {y : ezp_D} {w : ezn_N} {a1 a2 : Int} {F : Nat → Nat → Int} {A : Nat → Int → Int} (hS : ezs_T F A) (hd : 3 ≤ d) (ha1 : ezw_in a1) (ha2 : ezw_in a2) (tr : ezt_TR 30 y F A) (nu : ezt_NU 30 y A) (hB : ezp_B y) (cw : ezn_C 13 w F) (wb : ezn_B y w) : ezw_C l ρ B xa Hb D cA 105 d [ezw_p 0, ezw_i a1, ezw_i a2] (ezu_g (false, b2) F A) (ezt_m105_0n_fQ b2 F A y w a1 a2) := by
  refine ezw_met (k := 0) rfl rfl ?_
  obtain ⟨⟨c1, c2, c3, c4⟩, ⟨d1, d2, d3, d4, d5, d6, d7, d8⟩, e3, e4, e5, e6⟩ := id tr
  obtain ⟨b1, b2', b3, b4, b5, b6, b7, ⟨b8, b8'⟩, b9⟩ := id hB
  obtain ⟨w0, w1, w2, w3, w4, w5, w6⟩ := id cw
  obtain ⟨⟨x0, x1⟩, x2, x3, x4, x5, x6, x7, x8, x9, x10, x11, x12⟩ := id wb
  refine ezw_iload_n rfl rfl ?_
  refine ezw_if_lt rfl rfl ha1 (fun h1_0 => ?_) (fun h1_0 => ?_)
  · refine ezw_iconst (-1) rfl rfl ?_
    exact ezw_ireturn rfl rfl ⟨rfl, (-1), ⟨by decide, by decide⟩, (by
          unfold ezn_tw
          (repeat (first | rw [if_pos (by omega)] | rw [if_neg (by omega)]))
          try omega), rfl⟩
  · refine ezw_iload_n rfl rfl ?_
    refine ezw_aload_n rfl rfl ?_
    refine ezs_getp (p := 30) rfl rfl rfl rfl rfl ?_
    refine ezy_get_i hS rfl rfl rfl rfl rfl rfl (fun u1 hu1 ku1 eu1 => ?_)
    replace eu1 := eu1.symm
    subst eu1
    refine ezw_icmp_lt rfl rfl ha1 hu1 (fun h12_1 => ?_) (fun h12_1 => ?_)
    · obtain ⟨-, f1, f2, f3, f4⟩ := e3 a1 (by omega) (by omega)
      replace f1 : A 31 a1 = y.hi a1 := f1
      replace f2 : A 32 a1 = y.th a1 := f2
      replace f3 : A 33 a1 = y.si a1 := f3
      replace f4 : A 34 a1 = y.on a1 := f4
      refine ezw_iload_n rfl rfl ?_
      by_cases q2 : a2 = (0)
      · refine ezw_tableswitchE (v := 0) (p := 56) q2 rfl (by rfl) ?_
        refine ezw_aload_n rfl rfl ?_
        refine ezs_getp (p := 30) rfl rfl rfl rfl rfl ?_
        refine ezs_getp (p := 31) rfl rfl rfl rfl rfl ?_
        refine ezw_iload_n rfl rfl ?_
        refine ezw_call2_2 rfl (by omega) rfl rfl (ezt_m27_31o hS (by omega) ha1) ?_
        rintro _ _ ⟨rfl, u4, hu4, v_3, o_3, rfl⟩
        have z9 := v_3 (by omega) (by omega)
        exact ezw_ireturn rfl rfl ⟨rfl, u4, hu4, (by
              unfold ezn_tw
              (repeat (first | rw [if_pos (by omega)] | rw [if_neg (by omega)]))
              try omega), rfl⟩
      by_cases q5 : a2 = (1)
      · refine ezw_tableswitchE (v := 1) (p := 68) q5 rfl (by rfl) ?_
        refine ezw_aload_n rfl rfl ?_
        refine ezs_getp (p := 30) rfl rfl rfl rfl rfl ?_
        refine ezs_getp (p := 32) rfl rfl rfl rfl rfl ?_
        refine ezw_iload_n rfl rfl ?_
        refine ezw_call2_2 rfl (by omega) rfl rfl (ezt_m27_32o hS (by omega) ha1) ?_
        rintro _ _ ⟨rfl, u7, hu7, v_6, o_6, rfl⟩
        have z9 := v_6 (by omega) (by omega)
        exact ezw_ireturn rfl rfl ⟨rfl, u7, hu7, (by
              unfold ezn_tw
              (repeat (first | rw [if_pos (by omega)] | rw [if_neg (by omega)]))
              try omega), rfl⟩
      by_cases q8 : a2 = (2)
      · refine ezw_tableswitchE (v := 2) (p := 80) q8 rfl (by rfl) ?_
        refine ezw_aload_n rfl rfl ?_
        refine ezs_getp (p := 30) rfl rfl rfl rfl rfl ?_
        refine ezs_getp (p := 33) rfl rfl rfl rfl rfl ?_
        refine ezw_iload_n rfl rfl ?_
        refine ezw_call2_2 rfl (by omega) rfl rfl (ezt_m27_33o hS (by omega) ha1) ?_
        rintro _ _ ⟨rfl, u10, hu10, v_9, o_9, rfl⟩
        have z9 := v_9 (by omega) (by omega)
        exact ezw_ireturn rfl rfl ⟨rfl, u10, hu10, (by
              unfold ezn_tw
              (repeat (first | rw [if_pos (by omega)] | rw [if_neg (by omega)]))
              try omega), rfl⟩
      by_cases q11 : a2 = (3)
      · refine ezw_tableswitchE (v := 3) (p := 92) q11 rfl (by rfl) ?_
        refine ezw_aload_n rfl rfl ?_
        refine ezs_getp (p := 30) rfl rfl rfl rfl rfl ?_
        refine ezs_getp (p := 34) rfl rfl rfl rfl rfl ?_
        refine ezw_iload_n rfl rfl ?_
        refine ezw_call2_2 rfl (by omega) rfl rfl (ezt_m27_34o hS (by omega) ha1) ?_
        rintro _ _ ⟨rfl, u13, hu13, v_12, o_12, rfl⟩
        have z9 := v_12 (by omega) (by omega)
        exact ezw_ireturn rfl rfl ⟨rfl, u13, hu13, (by
              unfold ezn_tw
              (repeat (first | rw [if_pos (by omega)] | rw [if_neg (by omega)]))
              try omega), rfl⟩
      by_cases q14 : a2 = (4)
      · refine ezw_tableswitchE (v := 4) (p := 104) q14 rfl (by rfl) ?_
        refine ezw_iload_n rfl rfl ?_
        refine ezw_aload_n rfl rfl ?_
        refine ezs_getp (p := 13) rfl rfl rfl rfl rfl ?_
        refine ezw_aload_n rfl rfl ?_
        refine ezs_getp (p := 30) rfl rfl rfl rfl rfl ?_
        refine ezw_call0_1 rfl (by omega) (ezu_at rfl) rfl rfl rfl rfl (ezt_m106_13_30n hS (by omega) tr nu hB cw wb) ?_
        rintro _ _ ⟨rfl, u16, hu16, an_15, rfl⟩
        have z9 := an_15
        refine ezw_icmp_ne rfl rfl ha1 hu16 (fun h116_16 => ?_) (fun h116_16 => ?_)
        · refine ezw_iconst (0) rfl rfl ?_
          exact ezw_ireturn rfl rfl ⟨rfl, (0), ⟨by decide, by decide⟩, (by
                unfold ezn_tw
                (repeat (first | rw [if_pos (by omega)] | rw [if_neg (by omega)]))
                try omega), rfl⟩
        · refine ezw_aload_n rfl rfl ?_
          refine ezs_getp (p := 13) rfl rfl rfl rfl rfl ?_
          refine ezy_get_i hS rfl rfl rfl rfl rfl rfl (fun u17 hu17 ku17 eu17 => ?_)
          replace eu17 := eu17.symm
          subst eu17
          refine ezw_goto rfl rfl ?_
          exact ezw_ireturn rfl rfl ⟨rfl, (F 13 1), hu17, (by
                unfold ezn_tw
                (repeat (first | rw [if_pos (by omega)] | rw [if_neg (by omega)]))
                try omega), rfl⟩
      by_cases q18 : a2 = (5)
      · refine ezw_tableswitchE (v := 5) (p := 131) q18 rfl (by rfl) ?_
        refine ezw_aload_n rfl rfl ?_
        refine ezs_getp (p := 13) rfl rfl rfl rfl rfl ?_
        refine ezw_aload_n rfl rfl ?_
        refine ezs_getp (p := 30) rfl rfl rfl rfl rfl ?_
        refine ezw_iload_n rfl rfl ?_
        refine ezw_call0_2 rfl (by omega) (ezu_at rfl) rfl rfl rfl rfl (ezt_m109_13_30n hS (by omega) ha1 tr nu hB cw wb) ?_
        rintro _ _ ⟨rfl, u20, hu20, an_19, rfl⟩
        have z9 := an_19
        refine ezw_iconst (-1) rfl rfl ?_
        refine ezw_icmp_ne rfl rfl hu20 ⟨by decide, by decide⟩ (fun h144_20 => ?_) (fun h144_20 => ?_)
        · refine ezw_iconst (1) rfl rfl ?_
          exact ezw_ireturn rfl rfl ⟨rfl, (1), ⟨by decide, by decide⟩, (by
                unfold ezn_tw
                (repeat (first | rw [if_pos (by omega)] | rw [if_neg (by omega)]))
                try omega), rfl⟩
        · refine ezw_iconst (0) rfl rfl ?_
          refine ezw_goto rfl rfl ?_
          exact ezw_ireturn rfl rfl ⟨rfl, (0), ⟨by decide, by decide⟩, (by
                unfold ezn_tw
                (repeat (first | rw [if_pos (by omega)] | rw [if_neg (by omega)]))
                try omega), rfl⟩
      refine ezw_tableswitch (p := 153) rfl (ezs_swd ha2 (And.intro (And.intro ⟨by decide, by decide⟩ (fun z => q2 z.symm)) (And.intro (And.intro ⟨by decide, by decide⟩ (fun z => q5 z.symm)) (And.intro (And.intro ⟨by decide, by decide⟩ (fun z => q8 z.symm)) (And.intro (And.intro ⟨by decide, by decide⟩ (fun z => q11 z.symm)) (And.intro (And.intro ⟨by decide, by decide⟩ (fun z => q14 z.symm)) (And.intro (And.intro ⟨by decide, by decide⟩ (fun z => q18 z.symm)) True.intro)))))) rfl) ?_
      refine ezw_iconst (-1) rfl rfl ?_
      exact ezw_ireturn rfl rfl ⟨rfl, (-1), ⟨by decide, by decide⟩, (by
            unfold ezn_tw
            (repeat (first | rw [if_pos (by omega)] | rw [if_neg (by omega)]))
            try omega), rfl⟩
    · refine ezw_iconst (-1) rfl rfl ?_
      exact ezw_ireturn rfl rfl ⟨rfl, (-1), ⟨by decide, by decide⟩, (by
            unfold ezn_tw
            (repeat (first | rw [if_pos (by omega)] | rw [if_neg (by omega)]))
            try omega), rfl⟩
def ezt_m110_0n_fQ (b2 : Bool) (F : Nat → Nat → Int) (A : Nat → Int → Int) (y : ezp_D) (w : ezn_N) (a1 : Int) (a2 : Int) : Option ezq_V → (Nat → ezq_C) → Prop := fun v g' => ezu_g (false, b2) F A = g' ∧ ∃ u : Int, (ezw_in u) ∧ (u = ezn_tg y w a1 a2) ∧ some (ezw_i u) = v
theorem ezt_m110_0n_f {b2 : Bool} {y : ezp_D} {w : ezn_N} {a1 a2 : Int} {F : Nat → Nat → Int} {A : Nat → Int → Int} (hS : ezs_T F A) (hd : 1 ≤ d) (ha1 : ezw_in a1) (ha2 : ezw_in a2) (tr : ezt_TR 30 y F A) (nu : ezt_NU 30 y A) (hB : ezp_B y) (cw : ezn_C 13 w F) (wb : ezn_B y w) : ezw_C l ρ B xa Hb D cA 110 d [ezw_p 0, ezw_i a1, ezw_i a2] (ezu_g (false, b2) F A) (ezt_m110_0n_fQ b2 F A y w a1 a2) := by
  refine ezw_met (k := 0) rfl rfl ?_
  obtain ⟨⟨c1, c2, c3, c4⟩, ⟨d1, d2, d3, d4, d5, d6, d7, d8⟩, e3, e4, e5, e6⟩ := id tr
  obtain ⟨b1, b2', b3, b4, b5, b6, b7, ⟨b8, b8'⟩, b9⟩ := id hB
  obtain ⟨w0, w1, w2, w3, w4, w5, w6⟩ := id cw
  obtain ⟨⟨x0, x1⟩, x2, x3, x4, x5, x6, x7, x8, x9, x10, x11, x12⟩ := id wb
  refine ezw_iload_n rfl rfl ?_
  refine ezw_if_lt rfl rfl ha1 (fun h1_0 => ?_) (fun h1_0 => ?_)
  · refine ezw_iconst (-1) rfl rfl ?_
    exact ezw_ireturn rfl rfl ⟨rfl, (-1), ⟨by decide, by decide⟩, (by
          unfold ezn_tg
          (repeat (first | rw [if_pos (by omega)] | rw [if_neg (by omega)]))
          try omega), rfl⟩
  · refine ezw_iload_n rfl rfl ?_
    refine ezw_aload_n rfl rfl ?_
    refine ezs_getp (p := 30) rfl rfl rfl rfl rfl ?_
    refine ezy_get_i hS rfl rfl rfl rfl rfl rfl (fun u1 hu1 ku1 eu1 => ?_)
    replace eu1 := eu1.symm
    subst eu1
    refine ezw_icmp_lt rfl rfl ha1 hu1 (fun h12_1 => ?_) (fun h12_1 => ?_)
    · obtain ⟨-, f1, f2, f3, -⟩ := e4 a1 (by omega) (by omega)
      replace f1 : A 35 a1 = y.wo a1 := f1
      replace f2 : A 36 a1 = y.st a1 := f2
      replace f3 : A 37 a1 = y.fr a1 := f3
      refine ezw_iload_n rfl rfl ?_
      by_cases q2 : a2 = (0)
      · refine ezw_tableswitchE (v := 0) (p := 48) q2 rfl (by rfl) ?_
        refine ezw_aload_n rfl rfl ?_
        refine ezs_getp (p := 30) rfl rfl rfl rfl rfl ?_
        refine ezs_getp (p := 35) rfl rfl rfl rfl rfl ?_
        refine ezw_iload_n rfl rfl ?_
        refine ezw_call2_2 rfl (by omega) rfl rfl (ezt_m27_35o hS (by omega) ha1) ?_
        rintro _ _ ⟨rfl, u4, hu4, v_3, o_3, rfl⟩
        have z9 := v_3 (by omega) (by omega)
        exact ezw_ireturn rfl rfl ⟨rfl, u4, hu4, (by
              unfold ezn_tg
              (repeat (first | rw [if_pos (by omega)] | rw [if_neg (by omega)]))
              try omega), rfl⟩
      by_cases q5 : a2 = (1)
      · refine ezw_tableswitchE (v := 1) (p := 60) q5 rfl (by rfl) ?_
        refine ezw_aload_n rfl rfl ?_
        refine ezs_getp (p := 30) rfl rfl rfl rfl rfl ?_
        refine ezs_getp (p := 36) rfl rfl rfl rfl rfl ?_
        refine ezw_iload_n rfl rfl ?_
        refine ezw_call2_2 rfl (by omega) rfl rfl (ezt_m27_36o hS (by omega) ha1) ?_
        rintro _ _ ⟨rfl, u7, hu7, v_6, o_6, rfl⟩
        have z9 := v_6 (by omega) (by omega)
        exact ezw_ireturn rfl rfl ⟨rfl, u7, hu7, (by
              unfold ezn_tg
              (repeat (first | rw [if_pos (by omega)] | rw [if_neg (by omega)]))
              try omega), rfl⟩
      by_cases q8 : a2 = (2)
      · refine ezw_tableswitchE (v := 2) (p := 72) q8 rfl (by rfl) ?_
        refine ezw_aload_n rfl rfl ?_
        refine ezs_getp (p := 30) rfl rfl rfl rfl rfl ?_
        refine ezs_getp (p := 37) rfl rfl rfl rfl rfl ?_
        refine ezw_iload_n rfl rfl ?_
        refine ezw_call2_2 rfl (by omega) rfl rfl (ezt_m27_37o hS (by omega) ha1) ?_
        rintro _ _ ⟨rfl, u10, hu10, v_9, o_9, rfl⟩
        have z9 := v_9 (by omega) (by omega)
        exact ezw_ireturn rfl rfl ⟨rfl, u10, hu10, (by
              unfold ezn_tg
              (repeat (first | rw [if_pos (by omega)] | rw [if_neg (by omega)]))
              try omega), rfl⟩
      by_cases q11 : a2 = (3)
      · refine ezw_tableswitchE (v := 3) (p := 84) q11 rfl (by rfl) ?_
        refine ezw_aload_n rfl rfl ?_
        refine ezs_getp (p := 13) rfl rfl rfl rfl rfl ?_
        refine ezy_get_i hS rfl rfl rfl rfl rfl rfl (fun u12 hu12 ku12 eu12 => ?_)
        replace eu12 := eu12.symm
        subst eu12
        refine ezw_iload_n rfl rfl ?_
        refine ezw_call2_2 rfl (by omega) rfl rfl (ezt_m49o hS (by omega) hu12 ha1) ?_
        rintro _ _ ⟨rfl, u14, hu14, v_13, o_13, rfl⟩
        have z9 := v_13 (by omega) (by omega)
        rw [w6] at z9
        exact ezw_ireturn rfl rfl ⟨rfl, u14, hu14, (by
              unfold ezn_tg
              (repeat (first | rw [if_pos (by omega)] | rw [if_neg (by omega)]))
              try omega), rfl⟩
      refine ezw_tableswitch (p := 96) rfl (ezs_swd ha2 (And.intro (And.intro ⟨by decide, by decide⟩ (fun z => q2 z.symm)) (And.intro (And.intro ⟨by decide, by decide⟩ (fun z => q5 z.symm)) (And.intro (And.intro ⟨by decide, by decide⟩ (fun z => q8 z.symm)) (And.intro (And.intro ⟨by decide, by decide⟩ (fun z => q11 z.symm)) True.intro)))) rfl) ?_
      refine ezw_iconst (-1) rfl rfl ?_
      exact ezw_ireturn rfl rfl ⟨rfl, (-1), ⟨by decide, by decide⟩, (by
            unfold ezn_tg
            (repeat (first | rw [if_pos (by omega)] | rw [if_neg (by omega)]))
            try omega), rfl⟩
    · refine ezw_iconst (-1) rfl rfl ?_
      exact ezw_ireturn rfl rfl ⟨rfl, (-1), ⟨by decide, by decide⟩, (by
            unfold ezn_tg
            (repeat (first | rw [if_pos (by omega)] | rw [if_neg (by omega)]))
            try omega), rfl⟩
def ezt_m111_0n_fQ (b2 : Bool) (F : Nat → Nat → Int) (A : Nat → Int → Int) (y : ezp_D) (w : ezn_N) (qc : ezn_Q) (a1 : Int) (a2 : Int) (a3 : Int) : Option ezq_V → (Nat → ezq_C) → Prop := fun v g' => ezu_g (false, b2) F A = g' ∧ ∃ u : Int, (ezw_in u) ∧ (u = ezn_cc qc y w a1 a2 a3) ∧ some (ezw_i u) = v
theorem ezt_m111_0n_f {b2 : Bool} {y : ezp_D} {w : ezn_N} {qc : ezn_Q} {a1 a2 a3 : Int} {F : Nat → Nat → Int} {A : Nat → Int → Int} (hS : ezs_T F A) (hd : 3 ≤ d) (ha1 : ezw_in a1) (ha2 : ezw_in a2) (ha3 : ezw_in a3) (tr : ezt_TR 30 y F A) (nu : ezt_NU 30 y A) (hB : ezp_B y) (cw : ezn_C 13 w F) (wb : ezn_B y w) (cq : ezn_CQ qc y 30 A) (qr : ezn_QR qc) (gb : 0 ≤ a2 ∧ a2 ≤ 1) : ezw_C l ρ B xa Hb D cA 111 d [ezw_p 0, ezw_i a1, ezw_i a2, ezw_i a3] (ezu_g (false, b2) F A) (ezt_m111_0n_fQ b2 F A y w qc a1 a2 a3) := by
  refine ezw_met (k := 1) rfl rfl ?_
  obtain ⟨w0, w1, w2, w3, w4, w5, w6⟩ := id cw
  obtain ⟨⟨x0, x1⟩, x2, x3, x4, x5, x6, x7, x8, x9, x10, x11, x12⟩ := id wb
  refine ezw_iload_n rfl rfl ?_
  refine ezw_call2_1 rfl (by omega) rfl rfl (ezt_m112o hS (by omega) ha1) ?_
  rintro _ _ ⟨rfl, u2, hu2, p1_0, p1_1, rfl⟩
  refine ezw_if_eq rfl rfl ⟨by omega, by omega⟩ (fun h4_2 => ?_) (fun h4_2 => ?_)
  · refine ezw_iconst (-1) rfl rfl ?_
    exact ezw_ireturn rfl rfl ⟨rfl, (-1), ⟨by decide, by decide⟩, (by
          unfold ezn_cc
          (repeat (first | rw [if_pos (by omega)] | rw [if_neg (by omega)]))
          try omega), rfl⟩
  · refine ezw_aload_n rfl rfl ?_
    refine ezs_getp (p := 13) rfl rfl rfl rfl rfl ?_
    refine ezy_get_i hS rfl rfl rfl rfl rfl rfl (fun u3 hu3 ku3 eu3 => ?_)
    replace eu3 := eu3.symm
    subst eu3
    refine ezw_if_eq rfl rfl hu3 (fun h14_3 => ?_) (fun h14_3 => ?_)
    · refine ezw_aload_n rfl rfl ?_
      refine ezs_getp (p := 13) rfl rfl rfl rfl rfl ?_
      refine ezw_aload_n rfl rfl ?_
      refine ezs_getp (p := 30) rfl rfl rfl rfl rfl ?_
      refine ezw_call0_1 rfl (by omega) (ezu_at rfl) rfl rfl rfl rfl (ezt_m106_13_30n hS (by omega) tr nu hB cw wb) ?_
      rintro _ _ ⟨rfl, u5, hu5, an_4, rfl⟩
      refine ezw_istore rfl rfl ?_
      have hl := ezn_la_r hB wb (by omega)
      have hl2 := an_4
      refine ezw_iload_n rfl rfl ?_
      by_cases q6 : a3 = (0)
      · refine ezw_lookupswitchE (v := 0) (p := 60) q6 rfl (by rfl) ?_
        refine ezw_aload_n rfl rfl ?_
        refine ezs_getp (p := 30) rfl rfl rfl rfl rfl ?_
        refine ezw_iload rfl rfl ?_
        refine ezw_aload_n rfl rfl ?_
        refine ezs_getp (p := 13) rfl rfl rfl rfl rfl ?_
        refine ezy_get_i hS rfl rfl rfl rfl rfl rfl (fun u7 hu7 ku7 eu7 => ?_)
        replace eu7 := eu7.symm
        subst eu7
        refine ezw_iload_n rfl rfl ?_
        refine ezw_iload_n rfl rfl ?_
        refine ezw_call0_4 rfl (by omega) (ezu_at rfl) rfl rfl rfl rfl (ezt_m113_30n hS (by omega) hu5 hu7 ha1 ha2 tr nu hB cq qr (by omega)) ?_
        rintro _ _ ⟨rfl, u9, hu9, an_8, rfl⟩
        have z9 : u9 = ezn_ch qc y w 0 a1 a2 := by
          rw [an_8, an_4, w1]
          rfl
        exact ezw_ireturn rfl rfl ⟨rfl, u9, hu9, (by
              unfold ezn_cc
              (repeat (first | rw [if_pos (by omega)] | rw [if_neg (by omega)]))
              try omega), rfl⟩
      by_cases q10 : a3 = (1)
      · refine ezw_lookupswitchE (v := 1) (p := 79) q10 rfl (by rfl) ?_
        refine ezw_aload_n rfl rfl ?_
        refine ezs_getp (p := 30) rfl rfl rfl rfl rfl ?_
        refine ezw_iload rfl rfl ?_
        refine ezw_aload_n rfl rfl ?_
        refine ezs_getp (p := 13) rfl rfl rfl rfl rfl ?_
        refine ezy_get_i hS rfl rfl rfl rfl rfl rfl (fun u11 hu11 ku11 eu11 => ?_)
        replace eu11 := eu11.symm
        subst eu11
        refine ezw_iload_n rfl rfl ?_
        refine ezw_iload_n rfl rfl ?_
        refine ezw_call0_4 rfl (by omega) (ezu_at rfl) rfl rfl rfl rfl (ezt_m116_30n hS (by omega) hu5 hu11 ha1 ha2 tr nu hB cq qr (by omega)) ?_
        rintro _ _ ⟨rfl, u13, hu13, an_12, rfl⟩
        have z9 : u13 = ezn_ch qc y w 1 a1 a2 := by
          rw [an_12, an_4, w1]
          rfl
        exact ezw_ireturn rfl rfl ⟨rfl, u13, hu13, (by
              unfold ezn_cc
              (repeat (first | rw [if_pos (by omega)] | rw [if_neg (by omega)]))
              try omega), rfl⟩
      refine ezw_lookupswitch (p := 98) rfl (ezs_swd ha3 (And.intro (And.intro ⟨by decide, by decide⟩ (fun z => q6 z.symm)) (And.intro (And.intro ⟨by decide, by decide⟩ (fun z => q10 z.symm)) True.intro)) rfl) ?_
      refine ezw_iconst (-1) rfl rfl ?_
      exact ezw_ireturn rfl rfl ⟨rfl, (-1), ⟨by decide, by decide⟩, (by
            unfold ezn_cc
            (repeat (first | rw [if_pos (by omega)] | rw [if_neg (by omega)]))
            try omega), rfl⟩
    · refine ezw_iconst (-1) rfl rfl ?_
      exact ezw_ireturn rfl rfl ⟨rfl, (-1), ⟨by decide, by decide⟩, (by
            unfold ezn_cc
            (repeat (first | rw [if_pos (by omega)] | rw [if_neg (by omega)]))
            try omega), rfl⟩
def ezt_m174_13_30nQ (e : Bool × Bool) (F : Nat → Nat → Int) (A : Nat → Int → Int) (y : ezp_D) (w : ezn_N) : Option ezq_V → (Nat → ezq_C) → Prop := fun v g' => ezu_g e F A = g' ∧ ∃ u : Int, (ezw_in u) ∧ (u = ezn_las y w) ∧ some (ezw_i u) = v
theorem ezt_m174_13_30n {y : ezp_D} {w : ezn_N} {F : Nat → Nat → Int} {A : Nat → Int → Int} (hS : ezs_T F A) (hd : 3 ≤ d) (tr : ezt_TR 30 y F A) (nu : ezt_NU 30 y A) (hB : ezp_B y) (cw : ezn_C 13 w F) (wb : ezn_B y w) : ezw_C l ρ B xa Hb D cA 174 d [ezw_p 13, ezw_p 30] (ezu_g e F A) (ezt_m174_13_30nQ e F A y w) := by
  refine ezw_met (k := 3) rfl rfl ?_
  obtain ⟨⟨c1, c2, c3, c4⟩, ⟨d1, d2, d3, d4, d5, d6, d7, d8⟩, e3, e4, e5, e6⟩ := id tr
  obtain ⟨b1, b2', b3, b4, b5, b6, b7, ⟨b8, b8'⟩, b9⟩ := id hB
  obtain ⟨w0, w1, w2, w3, w4, w5, w6⟩ := id cw
  obtain ⟨⟨x0, x1⟩, x2, x3, x4, x5, x6, x7, x8, x9, x10, x11, x12⟩ := id wb
  have n6 : A 44 6 = y.nu 6 := nu 6 (by decide) (by decide)
  have nb6 : 0 ≤ y.nu 6 ∧ y.nu 6 ≤ 9 := b8 6 (by decide) (by decide)
  refine ezw_aload_n rfl rfl ?_
  refine ezy_get_i hS rfl rfl rfl rfl rfl rfl (fun u1 hu1 ku1 eu1 => ?_)
  replace eu1 := eu1.symm
  subst eu1
  refine ezw_istore_n rfl rfl ?_
  refine ezw_aload_n rfl rfl ?_
  refine ezy_get_i hS rfl rfl rfl rfl rfl rfl (fun u2 hu2 ku2 eu2 => ?_)
  replace eu2 := eu2.symm
  subst eu2
  refine ezw_istore_n rfl rfl ?_
  refine ezw_iconst (0) rfl rfl ?_
  refine ezw_istore rfl rfl ?_
  have L13_4 : ∀ c3 : Int, ezw_in c3 → ∀ y5 : Int, ezw_in y5 → ∀ y6 : Int, ezw_in y6 → ((0) ≤ c3) → (c3 ≤ 241) → (0 ≤ y5 ∧ y5 ≤ 23 ∧ 0 ≤ y6 ∧ y6 ≤ 99) → (ezn_las y w = ezn_ls1 y (241 - c3).toNat c3 y5 y6) → ezw_E l ρ B xa Hb D cA d ezq_re174 (ezt_m174_13_30nQ e F A y w) 13 [some (ezw_p 13), some (ezw_p 30), some (ezw_i y5), some (ezw_i y6), some (ezw_i c3)] [] (ezu_g e F A) := by
    refine ezs_up ?_
    intro c3 hc3 ihc3 y5 hy5 y6 hy6 g_4 cb_4 lr_4 la_4
    refine ezw_iload rfl rfl ?_
    refine ezw_sipush (240) rfl rfl ?_
    refine ezw_icmp_gt rfl rfl hc3 ⟨by decide, by decide⟩ (fun h18_6 => ?_) (fun h18_6 => ?_)
    · refine ezw_iconst (-1) rfl rfl ?_
      exact ezw_ireturn rfl rfl ⟨rfl, (-1), ⟨by decide, by decide⟩, (by rw [la_4, show (241 - c3).toNat = 0 by omega]; rfl), rfl⟩
    · refine ezw_iload_n rfl rfl ?_
      refine ezw_if_gt rfl rfl hy6 (fun h22_6 => ?_) (fun h22_6 => ?_)
      · refine ezw_iload_n rfl rfl ?_
        refine ezw_iconst (1) rfl rfl ?_
        refine ezw_iadd (k := y5 + 1) rfl (by omega) ?_
        refine ezw_bipush (24) rfl rfl ?_
        refine ezm_irem rfl ⟨by omega, by omega⟩ ⟨by decide, by decide⟩ (by decide) (fun u7 hu7 ku7 => ?_)
        have hm9 : (y5 + 1) % 24 = u7 := by omega
        refine ezw_istore_n rfl rfl ?_
        refine ezw_aload_n rfl rfl ?_
        refine ezw_iload_n rfl rfl ?_
        refine ezw_iload_n rfl rfl ?_
        refine ezw_call2_3 rfl (by omega) rfl rfl (ezt_m129_30n hS (by omega) hu7 hy6 tr nu hB (by omega)) ?_
        rintro _ _ ⟨rfl, u9, hu9, an_8, rfl⟩
        have hd9 := an_8
        have hdr := ezn_dw_r (y := y) (h := u7) (pa := y6) (by omega) (by omega)
        refine ezw_istore_n rfl rfl ?_
        refine ezw_iinc (k := c3 + 1) (1) rfl rfl rfl (by omega) rfl ?_
        refine ezw_goto rfl rfl ?_
        exact ezw_keepE [true, true, true, true, true] (ihc3 (c3 + 1) (by omega) ⟨by omega, by omega⟩ u7 hu7 u9 hu9 (by omega) (by omega) (by omega) (by
              rw [la_4, ezn_ls1_T (by omega) (by omega) (by omega), hm9, ← hd9]))
      · refine ezw_iload rfl rfl ?_
        exact ezw_ireturn rfl rfl ⟨rfl, c3, hc3, (by rw [la_4]; exact (ezn_ls1_F (by omega) (by omega) (by omega)).symm), rfl⟩
  exact ezw_keepE [true, true, true, true, true] (L13_4 (0) ⟨by decide, by decide⟩ (F 13 2) hu1 (F 13 5) hu2 (by omega) (by omega) (by omega) (by unfold ezn_las; rw [w2, w5]; rfl))
def ezt_m176_0n_fQ (b2 : Bool) (F : Nat → Nat → Int) (A : Nat → Int → Int) (y : ezp_D) (w : ezn_N) : Option ezq_V → (Nat → ezq_C) → Prop := fun v g' => ezu_g (false, b2) F A = g' ∧ ∃ u : Int, (ezw_in u) ∧ (u = ezn_las y w) ∧ some (ezw_i u) = v
theorem ezt_m176_0n_f {b2 : Bool} {y : ezp_D} {w : ezn_N} {F : Nat → Nat → Int} {A : Nat → Int → Int} (hS : ezs_T F A) (hd : 4 ≤ d) (tr : ezt_TR 30 y F A) (nu : ezt_NU 30 y A) (hB : ezp_B y) (cw : ezn_C 13 w F) (wb : ezn_B y w) : ezw_C l ρ B xa Hb D cA 176 d [ezw_p 0] (ezu_g (false, b2) F A) (ezt_m176_0n_fQ b2 F A y w) := by
  refine ezw_met (k := 0) rfl rfl ?_
  refine ezw_aload_n rfl rfl ?_
  refine ezs_getp (p := 13) rfl rfl rfl rfl rfl ?_
  refine ezw_aload_n rfl rfl ?_
  refine ezs_getp (p := 30) rfl rfl rfl rfl rfl ?_
  refine ezw_call0_1 rfl (by omega) (ezu_at rfl) rfl rfl rfl rfl (ezt_m174_13_30n hS (by omega) tr nu hB cw wb) ?_
  rintro _ _ ⟨rfl, u2, hu2, an_1, rfl⟩
  exact ezw_ireturn rfl rfl ⟨rfl, u2, hu2, an_1, rfl⟩
def ezt_m105_0n_tQ (b2 : Bool) (F : Nat → Nat → Int) (A : Nat → Int → Int) (y : ezp_D) (w : ezn_N) (a1 : Int) (a2 : Int) : Option ezq_V → (Nat → ezq_C) → Prop := fun v g' => ezu_g (true, b2) F A = g' ∧ ∃ u : Int, (ezw_in u) ∧ (u = ezn_tw y w a1 a2) ∧ some (ezw_i u) = v
theorem ezt_m105_0n_t {b2 : Bool} {y : ezp_D} {w : ezn_N} {a1 a2 : Int} {F : Nat → Nat → Int} {A : Nat → Int → Int} (hS : ezs_T F A) (hd : 3 ≤ d) (ha1 : ezw_in a1) (ha2 : ezw_in a2) (tr : ezt_TR 47 y F A) (nu : ezt_NU 47 y A) (hB : ezp_B y) (cw : ezn_C 13 w F) (wb : ezn_B y w) : ezw_C l ρ B xa Hb D cA 105 d [ezw_p 0, ezw_i a1, ezw_i a2] (ezu_g (true, b2) F A) (ezt_m105_0n_tQ b2 F A y w a1 a2) := by
  refine ezw_met (k := 0) rfl rfl ?_
  obtain ⟨⟨c1, c2, c3, c4⟩, ⟨d1, d2, d3, d4, d5, d6, d7, d8⟩, e3, e4, e5, e6⟩ := id tr
  obtain ⟨b1, b2', b3, b4, b5, b6, b7, ⟨b8, b8'⟩, b9⟩ := id hB
  obtain ⟨w0, w1, w2, w3, w4, w5, w6⟩ := id cw
  obtain ⟨⟨x0, x1⟩, x2, x3, x4, x5, x6, x7, x8, x9, x10, x11, x12⟩ := id wb
  refine ezw_iload_n rfl rfl ?_
  refine ezw_if_lt rfl rfl ha1 (fun h1_0 => ?_) (fun h1_0 => ?_)
  · refine ezw_iconst (-1) rfl rfl ?_
    exact ezw_ireturn rfl rfl ⟨rfl, (-1), ⟨by decide, by decide⟩, (by
          unfold ezn_tw
          (repeat (first | rw [if_pos (by omega)] | rw [if_neg (by omega)]))
          try omega), rfl⟩
  · refine ezw_iload_n rfl rfl ?_
    refine ezw_aload_n rfl rfl ?_
    refine ezs_getp (p := 47) rfl rfl rfl rfl rfl ?_
    refine ezy_get_i hS rfl rfl rfl rfl rfl rfl (fun u1 hu1 ku1 eu1 => ?_)
    replace eu1 := eu1.symm
    subst eu1
    refine ezw_icmp_lt rfl rfl ha1 hu1 (fun h12_1 => ?_) (fun h12_1 => ?_)
    · obtain ⟨-, f1, f2, f3, f4⟩ := e3 a1 (by omega) (by omega)
      replace f1 : A 48 a1 = y.hi a1 := f1
      replace f2 : A 49 a1 = y.th a1 := f2
      replace f3 : A 50 a1 = y.si a1 := f3
      replace f4 : A 51 a1 = y.on a1 := f4
      refine ezw_iload_n rfl rfl ?_
      by_cases q2 : a2 = (0)
      · refine ezw_tableswitchE (v := 0) (p := 56) q2 rfl (by rfl) ?_
        refine ezw_aload_n rfl rfl ?_
        refine ezs_getp (p := 47) rfl rfl rfl rfl rfl ?_
        refine ezs_getp (p := 48) rfl rfl rfl rfl rfl ?_
        refine ezw_iload_n rfl rfl ?_
        refine ezw_call2_2 rfl (by omega) rfl rfl (ezt_m27_48o hS (by omega) ha1) ?_
        rintro _ _ ⟨rfl, u4, hu4, v_3, o_3, rfl⟩
        have z9 := v_3 (by omega) (by omega)
        exact ezw_ireturn rfl rfl ⟨rfl, u4, hu4, (by
              unfold ezn_tw
              (repeat (first | rw [if_pos (by omega)] | rw [if_neg (by omega)]))
              try omega), rfl⟩
      by_cases q5 : a2 = (1)
      · refine ezw_tableswitchE (v := 1) (p := 68) q5 rfl (by rfl) ?_
        refine ezw_aload_n rfl rfl ?_
        refine ezs_getp (p := 47) rfl rfl rfl rfl rfl ?_
        refine ezs_getp (p := 49) rfl rfl rfl rfl rfl ?_
        refine ezw_iload_n rfl rfl ?_
        refine ezw_call2_2 rfl (by omega) rfl rfl (ezt_m27_49o hS (by omega) ha1) ?_
        rintro _ _ ⟨rfl, u7, hu7, v_6, o_6, rfl⟩
        have z9 := v_6 (by omega) (by omega)
        exact ezw_ireturn rfl rfl ⟨rfl, u7, hu7, (by
              unfold ezn_tw
              (repeat (first | rw [if_pos (by omega)] | rw [if_neg (by omega)]))
              try omega), rfl⟩
      by_cases q8 : a2 = (2)
      · refine ezw_tableswitchE (v := 2) (p := 80) q8 rfl (by rfl) ?_
        refine ezw_aload_n rfl rfl ?_
        refine ezs_getp (p := 47) rfl rfl rfl rfl rfl ?_
        refine ezs_getp (p := 50) rfl rfl rfl rfl rfl ?_
        refine ezw_iload_n rfl rfl ?_
        refine ezw_call2_2 rfl (by omega) rfl rfl (ezt_m27_50o hS (by omega) ha1) ?_
        rintro _ _ ⟨rfl, u10, hu10, v_9, o_9, rfl⟩
        have z9 := v_9 (by omega) (by omega)
        exact ezw_ireturn rfl rfl ⟨rfl, u10, hu10, (by
              unfold ezn_tw
              (repeat (first | rw [if_pos (by omega)] | rw [if_neg (by omega)]))
              try omega), rfl⟩
      by_cases q11 : a2 = (3)
      · refine ezw_tableswitchE (v := 3) (p := 92) q11 rfl (by rfl) ?_
        refine ezw_aload_n rfl rfl ?_
        refine ezs_getp (p := 47) rfl rfl rfl rfl rfl ?_
        refine ezs_getp (p := 51) rfl rfl rfl rfl rfl ?_
        refine ezw_iload_n rfl rfl ?_
        refine ezw_call2_2 rfl (by omega) rfl rfl (ezt_m27_51o hS (by omega) ha1) ?_
        rintro _ _ ⟨rfl, u13, hu13, v_12, o_12, rfl⟩
        have z9 := v_12 (by omega) (by omega)
        exact ezw_ireturn rfl rfl ⟨rfl, u13, hu13, (by
              unfold ezn_tw
              (repeat (first | rw [if_pos (by omega)] | rw [if_neg (by omega)]))
              try omega), rfl⟩
      by_cases q14 : a2 = (4)
      · refine ezw_tableswitchE (v := 4) (p := 104) q14 rfl (by rfl) ?_
        refine ezw_iload_n rfl rfl ?_
        refine ezw_aload_n rfl rfl ?_
        refine ezs_getp (p := 13) rfl rfl rfl rfl rfl ?_
        refine ezw_aload_n rfl rfl ?_
        refine ezs_getp (p := 47) rfl rfl rfl rfl rfl ?_
        refine ezw_call0_1 rfl (by omega) (ezu_at rfl) rfl rfl rfl rfl (ezt_m106_13_47n hS (by omega) tr nu hB cw wb) ?_
        rintro _ _ ⟨rfl, u16, hu16, an_15, rfl⟩
        have z9 := an_15
        refine ezw_icmp_ne rfl rfl ha1 hu16 (fun h116_16 => ?_) (fun h116_16 => ?_)
        · refine ezw_iconst (0) rfl rfl ?_
          exact ezw_ireturn rfl rfl ⟨rfl, (0), ⟨by decide, by decide⟩, (by
                unfold ezn_tw
                (repeat (first | rw [if_pos (by omega)] | rw [if_neg (by omega)]))
                try omega), rfl⟩
        · refine ezw_aload_n rfl rfl ?_
          refine ezs_getp (p := 13) rfl rfl rfl rfl rfl ?_
          refine ezy_get_i hS rfl rfl rfl rfl rfl rfl (fun u17 hu17 ku17 eu17 => ?_)
          replace eu17 := eu17.symm
          subst eu17
          refine ezw_goto rfl rfl ?_
          exact ezw_ireturn rfl rfl ⟨rfl, (F 13 1), hu17, (by
                unfold ezn_tw
                (repeat (first | rw [if_pos (by omega)] | rw [if_neg (by omega)]))
                try omega), rfl⟩
      by_cases q18 : a2 = (5)
      · refine ezw_tableswitchE (v := 5) (p := 131) q18 rfl (by rfl) ?_
        refine ezw_aload_n rfl rfl ?_
        refine ezs_getp (p := 13) rfl rfl rfl rfl rfl ?_
        refine ezw_aload_n rfl rfl ?_
        refine ezs_getp (p := 47) rfl rfl rfl rfl rfl ?_
        refine ezw_iload_n rfl rfl ?_
        refine ezw_call0_2 rfl (by omega) (ezu_at rfl) rfl rfl rfl rfl (ezt_m109_13_47n hS (by omega) ha1 tr nu hB cw wb) ?_
        rintro _ _ ⟨rfl, u20, hu20, an_19, rfl⟩
        have z9 := an_19
        refine ezw_iconst (-1) rfl rfl ?_
        refine ezw_icmp_ne rfl rfl hu20 ⟨by decide, by decide⟩ (fun h144_20 => ?_) (fun h144_20 => ?_)
        · refine ezw_iconst (1) rfl rfl ?_
          exact ezw_ireturn rfl rfl ⟨rfl, (1), ⟨by decide, by decide⟩, (by
                unfold ezn_tw
                (repeat (first | rw [if_pos (by omega)] | rw [if_neg (by omega)]))
                try omega), rfl⟩
        · refine ezw_iconst (0) rfl rfl ?_
          refine ezw_goto rfl rfl ?_
          exact ezw_ireturn rfl rfl ⟨rfl, (0), ⟨by decide, by decide⟩, (by
                unfold ezn_tw
                (repeat (first | rw [if_pos (by omega)] | rw [if_neg (by omega)]))
                try omega), rfl⟩
      refine ezw_tableswitch (p := 153) rfl (ezs_swd ha2 (And.intro (And.intro ⟨by decide, by decide⟩ (fun z => q2 z.symm)) (And.intro (And.intro ⟨by decide, by decide⟩ (fun z => q5 z.symm)) (And.intro (And.intro ⟨by decide, by decide⟩ (fun z => q8 z.symm)) (And.intro (And.intro ⟨by decide, by decide⟩ (fun z => q11 z.symm)) (And.intro (And.intro ⟨by decide, by decide⟩ (fun z => q14 z.symm)) (And.intro (And.intro ⟨by decide, by decide⟩ (fun z => q18 z.symm)) True.intro)))))) rfl) ?_
      refine ezw_iconst (-1) rfl rfl ?_
      exact ezw_ireturn rfl rfl ⟨rfl, (-1), ⟨by decide, by decide⟩, (by
            unfold ezn_tw
            (repeat (first | rw [if_pos (by omega)] | rw [if_neg (by omega)]))
            try omega), rfl⟩
    · refine ezw_iconst (-1) rfl rfl ?_
      exact ezw_ireturn rfl rfl ⟨rfl, (-1), ⟨by decide, by decide⟩, (by
            unfold ezn_tw
            (repeat (first | rw [if_pos (by omega)] | rw [if_neg (by omega)]))
            try omega), rfl⟩
def ezt_m110_0n_tQ (b2 : Bool) (F : Nat → Nat → Int) (A : Nat → Int → Int) (y : ezp_D) (w : ezn_N) (a1 : Int) (a2 : Int) : Option ezq_V → (Nat → ezq_C) → Prop := fun v g' => ezu_g (true, b2) F A = g' ∧ ∃ u : Int, (ezw_in u) ∧ (u = ezn_tg y w a1 a2) ∧ some (ezw_i u) = v
theorem ezt_m110_0n_t {b2 : Bool} {y : ezp_D} {w : ezn_N} {a1 a2 : Int} {F : Nat → Nat → Int} {A : Nat → Int → Int} (hS : ezs_T F A) (hd : 1 ≤ d) (ha1 : ezw_in a1) (ha2 : ezw_in a2) (tr : ezt_TR 47 y F A) (nu : ezt_NU 47 y A) (hB : ezp_B y) (cw : ezn_C 13 w F) (wb : ezn_B y w) : ezw_C l ρ B xa Hb D cA 110 d [ezw_p 0, ezw_i a1, ezw_i a2] (ezu_g (true, b2) F A) (ezt_m110_0n_tQ b2 F A y w a1 a2) := by
  refine ezw_met (k := 0) rfl rfl ?_
  obtain ⟨⟨c1, c2, c3, c4⟩, ⟨d1, d2, d3, d4, d5, d6, d7, d8⟩, e3, e4, e5, e6⟩ := id tr
  obtain ⟨b1, b2', b3, b4, b5, b6, b7, ⟨b8, b8'⟩, b9⟩ := id hB
  obtain ⟨w0, w1, w2, w3, w4, w5, w6⟩ := id cw
  obtain ⟨⟨x0, x1⟩, x2, x3, x4, x5, x6, x7, x8, x9, x10, x11, x12⟩ := id wb
  refine ezw_iload_n rfl rfl ?_
  refine ezw_if_lt rfl rfl ha1 (fun h1_0 => ?_) (fun h1_0 => ?_)
  · refine ezw_iconst (-1) rfl rfl ?_
    exact ezw_ireturn rfl rfl ⟨rfl, (-1), ⟨by decide, by decide⟩, (by
          unfold ezn_tg
          (repeat (first | rw [if_pos (by omega)] | rw [if_neg (by omega)]))
          try omega), rfl⟩
  · refine ezw_iload_n rfl rfl ?_
    refine ezw_aload_n rfl rfl ?_
    refine ezs_getp (p := 47) rfl rfl rfl rfl rfl ?_
    refine ezy_get_i hS rfl rfl rfl rfl rfl rfl (fun u1 hu1 ku1 eu1 => ?_)
    replace eu1 := eu1.symm
    subst eu1
    refine ezw_icmp_lt rfl rfl ha1 hu1 (fun h12_1 => ?_) (fun h12_1 => ?_)
    · obtain ⟨-, f1, f2, f3, -⟩ := e4 a1 (by omega) (by omega)
      replace f1 : A 52 a1 = y.wo a1 := f1
      replace f2 : A 53 a1 = y.st a1 := f2
      replace f3 : A 54 a1 = y.fr a1 := f3
      refine ezw_iload_n rfl rfl ?_
      by_cases q2 : a2 = (0)
      · refine ezw_tableswitchE (v := 0) (p := 48) q2 rfl (by rfl) ?_
        refine ezw_aload_n rfl rfl ?_
        refine ezs_getp (p := 47) rfl rfl rfl rfl rfl ?_
        refine ezs_getp (p := 52) rfl rfl rfl rfl rfl ?_
        refine ezw_iload_n rfl rfl ?_
        refine ezw_call2_2 rfl (by omega) rfl rfl (ezt_m27_52o hS (by omega) ha1) ?_
        rintro _ _ ⟨rfl, u4, hu4, v_3, o_3, rfl⟩
        have z9 := v_3 (by omega) (by omega)
        exact ezw_ireturn rfl rfl ⟨rfl, u4, hu4, (by
              unfold ezn_tg
              (repeat (first | rw [if_pos (by omega)] | rw [if_neg (by omega)]))
              try omega), rfl⟩
      by_cases q5 : a2 = (1)
      · refine ezw_tableswitchE (v := 1) (p := 60) q5 rfl (by rfl) ?_
        refine ezw_aload_n rfl rfl ?_
        refine ezs_getp (p := 47) rfl rfl rfl rfl rfl ?_
        refine ezs_getp (p := 53) rfl rfl rfl rfl rfl ?_
        refine ezw_iload_n rfl rfl ?_
        refine ezw_call2_2 rfl (by omega) rfl rfl (ezt_m27_53o hS (by omega) ha1) ?_
        rintro _ _ ⟨rfl, u7, hu7, v_6, o_6, rfl⟩
        have z9 := v_6 (by omega) (by omega)
        exact ezw_ireturn rfl rfl ⟨rfl, u7, hu7, (by
              unfold ezn_tg
              (repeat (first | rw [if_pos (by omega)] | rw [if_neg (by omega)]))
              try omega), rfl⟩
      by_cases q8 : a2 = (2)
      · refine ezw_tableswitchE (v := 2) (p := 72) q8 rfl (by rfl) ?_
        refine ezw_aload_n rfl rfl ?_
        refine ezs_getp (p := 47) rfl rfl rfl rfl rfl ?_
        refine ezs_getp (p := 54) rfl rfl rfl rfl rfl ?_
        refine ezw_iload_n rfl rfl ?_
        refine ezw_call2_2 rfl (by omega) rfl rfl (ezt_m27_54o hS (by omega) ha1) ?_
        rintro _ _ ⟨rfl, u10, hu10, v_9, o_9, rfl⟩
        have z9 := v_9 (by omega) (by omega)
        exact ezw_ireturn rfl rfl ⟨rfl, u10, hu10, (by
              unfold ezn_tg
              (repeat (first | rw [if_pos (by omega)] | rw [if_neg (by omega)]))
              try omega), rfl⟩
      by_cases q11 : a2 = (3)
      · refine ezw_tableswitchE (v := 3) (p := 84) q11 rfl (by rfl) ?_
        refine ezw_aload_n rfl rfl ?_
        refine ezs_getp (p := 13) rfl rfl rfl rfl rfl ?_
        refine ezy_get_i hS rfl rfl rfl rfl rfl rfl (fun u12 hu12 ku12 eu12 => ?_)
        replace eu12 := eu12.symm
        subst eu12
        refine ezw_iload_n rfl rfl ?_
        refine ezw_call2_2 rfl (by omega) rfl rfl (ezt_m49o hS (by omega) hu12 ha1) ?_
        rintro _ _ ⟨rfl, u14, hu14, v_13, o_13, rfl⟩
        have z9 := v_13 (by omega) (by omega)
        rw [w6] at z9
        exact ezw_ireturn rfl rfl ⟨rfl, u14, hu14, (by
              unfold ezn_tg
              (repeat (first | rw [if_pos (by omega)] | rw [if_neg (by omega)]))
              try omega), rfl⟩
      refine ezw_tableswitch (p := 96) rfl (ezs_swd ha2 (And.intro (And.intro ⟨by decide, by decide⟩ (fun z => q2 z.symm)) (And.intro (And.intro ⟨by decide, by decide⟩ (fun z => q5 z.symm)) (And.intro (And.intro ⟨by decide, by decide⟩ (fun z => q8 z.symm)) (And.intro (And.intro ⟨by decide, by decide⟩ (fun z => q11 z.symm)) True.intro)))) rfl) ?_
      refine ezw_iconst (-1) rfl rfl ?_
      exact ezw_ireturn rfl rfl ⟨rfl, (-1), ⟨by decide, by decide⟩, (by
            unfold ezn_tg
            (repeat (first | rw [if_pos (by omega)] | rw [if_neg (by omega)]))
            try omega), rfl⟩
    · refine ezw_iconst (-1) rfl rfl ?_
      exact ezw_ireturn rfl rfl ⟨rfl, (-1), ⟨by decide, by decide⟩, (by
            unfold ezn_tg
            (repeat (first | rw [if_pos (by omega)] | rw [if_neg (by omega)]))
            try omega), rfl⟩
def ezt_m111_0n_tQ (b2 : Bool) (F : Nat → Nat → Int) (A : Nat → Int → Int) (y : ezp_D) (w : ezn_N) (qc : ezn_Q) (a1 : Int) (a2 : Int) (a3 : Int) : Option ezq_V → (Nat → ezq_C) → Prop := fun v g' => ezu_g (true, b2) F A = g' ∧ ∃ u : Int, (ezw_in u) ∧ (u = ezn_cc qc y w a1 a2 a3) ∧ some (ezw_i u) = v
theorem ezt_m111_0n_t {b2 : Bool} {y : ezp_D} {w : ezn_N} {qc : ezn_Q} {a1 a2 a3 : Int} {F : Nat → Nat → Int} {A : Nat → Int → Int} (hS : ezs_T F A) (hd : 3 ≤ d) (ha1 : ezw_in a1) (ha2 : ezw_in a2) (ha3 : ezw_in a3) (tr : ezt_TR 47 y F A) (nu : ezt_NU 47 y A) (hB : ezp_B y) (cw : ezn_C 13 w F) (wb : ezn_B y w) (cq : ezn_CQ qc y 47 A) (qr : ezn_QR qc) (gb : 0 ≤ a2 ∧ a2 ≤ 1) : ezw_C l ρ B xa Hb D cA 111 d [ezw_p 0, ezw_i a1, ezw_i a2, ezw_i a3] (ezu_g (true, b2) F A) (ezt_m111_0n_tQ b2 F A y w qc a1 a2 a3) := by
  refine ezw_met (k := 1) rfl rfl ?_
  obtain ⟨w0, w1, w2, w3, w4, w5, w6⟩ := id cw
  obtain ⟨⟨x0, x1⟩, x2, x3, x4, x5, x6, x7, x8, x9, x10, x11, x12⟩ := id wb
  refine ezw_iload_n rfl rfl ?_
  refine ezw_call2_1 rfl (by omega) rfl rfl (ezt_m112o hS (by omega) ha1) ?_
  rintro _ _ ⟨rfl, u2, hu2, p1_0, p1_1, rfl⟩
  refine ezw_if_eq rfl rfl ⟨by omega, by omega⟩ (fun h4_2 => ?_) (fun h4_2 => ?_)
  · refine ezw_iconst (-1) rfl rfl ?_
    exact ezw_ireturn rfl rfl ⟨rfl, (-1), ⟨by decide, by decide⟩, (by
          unfold ezn_cc
          (repeat (first | rw [if_pos (by omega)] | rw [if_neg (by omega)]))
          try omega), rfl⟩
  · refine ezw_aload_n rfl rfl ?_
    refine ezs_getp (p := 13) rfl rfl rfl rfl rfl ?_
    refine ezy_get_i hS rfl rfl rfl rfl rfl rfl (fun u3 hu3 ku3 eu3 => ?_)
    replace eu3 := eu3.symm
    subst eu3
    refine ezw_if_eq rfl rfl hu3 (fun h14_3 => ?_) (fun h14_3 => ?_)
    · refine ezw_aload_n rfl rfl ?_
      refine ezs_getp (p := 13) rfl rfl rfl rfl rfl ?_
      refine ezw_aload_n rfl rfl ?_
      refine ezs_getp (p := 47) rfl rfl rfl rfl rfl ?_
      refine ezw_call0_1 rfl (by omega) (ezu_at rfl) rfl rfl rfl rfl (ezt_m106_13_47n hS (by omega) tr nu hB cw wb) ?_
      rintro _ _ ⟨rfl, u5, hu5, an_4, rfl⟩
      refine ezw_istore rfl rfl ?_
      have hl := ezn_la_r hB wb (by omega)
      have hl2 := an_4
      refine ezw_iload_n rfl rfl ?_
      by_cases q6 : a3 = (0)
      · refine ezw_lookupswitchE (v := 0) (p := 60) q6 rfl (by rfl) ?_
        refine ezw_aload_n rfl rfl ?_
        refine ezs_getp (p := 47) rfl rfl rfl rfl rfl ?_
        refine ezw_iload rfl rfl ?_
        refine ezw_aload_n rfl rfl ?_
        refine ezs_getp (p := 13) rfl rfl rfl rfl rfl ?_
        refine ezy_get_i hS rfl rfl rfl rfl rfl rfl (fun u7 hu7 ku7 eu7 => ?_)
        replace eu7 := eu7.symm
        subst eu7
        refine ezw_iload_n rfl rfl ?_
        refine ezw_iload_n rfl rfl ?_
        refine ezw_call0_4 rfl (by omega) (ezu_at rfl) rfl rfl rfl rfl (ezt_m113_47n hS (by omega) hu5 hu7 ha1 ha2 tr nu hB cq qr (by omega)) ?_
        rintro _ _ ⟨rfl, u9, hu9, an_8, rfl⟩
        have z9 : u9 = ezn_ch qc y w 0 a1 a2 := by
          rw [an_8, an_4, w1]
          rfl
        exact ezw_ireturn rfl rfl ⟨rfl, u9, hu9, (by
              unfold ezn_cc
              (repeat (first | rw [if_pos (by omega)] | rw [if_neg (by omega)]))
              try omega), rfl⟩
      by_cases q10 : a3 = (1)
      · refine ezw_lookupswitchE (v := 1) (p := 79) q10 rfl (by rfl) ?_
        refine ezw_aload_n rfl rfl ?_
        refine ezs_getp (p := 47) rfl rfl rfl rfl rfl ?_
        refine ezw_iload rfl rfl ?_
        refine ezw_aload_n rfl rfl ?_
        refine ezs_getp (p := 13) rfl rfl rfl rfl rfl ?_
        refine ezy_get_i hS rfl rfl rfl rfl rfl rfl (fun u11 hu11 ku11 eu11 => ?_)
        replace eu11 := eu11.symm
        subst eu11
        refine ezw_iload_n rfl rfl ?_
        refine ezw_iload_n rfl rfl ?_
        refine ezw_call0_4 rfl (by omega) (ezu_at rfl) rfl rfl rfl rfl (ezt_m116_47n hS (by omega) hu5 hu11 ha1 ha2 tr nu hB cq qr (by omega)) ?_
        rintro _ _ ⟨rfl, u13, hu13, an_12, rfl⟩
        have z9 : u13 = ezn_ch qc y w 1 a1 a2 := by
          rw [an_12, an_4, w1]
          rfl
        exact ezw_ireturn rfl rfl ⟨rfl, u13, hu13, (by
              unfold ezn_cc
              (repeat (first | rw [if_pos (by omega)] | rw [if_neg (by omega)]))
              try omega), rfl⟩
      refine ezw_lookupswitch (p := 98) rfl (ezs_swd ha3 (And.intro (And.intro ⟨by decide, by decide⟩ (fun z => q6 z.symm)) (And.intro (And.intro ⟨by decide, by decide⟩ (fun z => q10 z.symm)) True.intro)) rfl) ?_
      refine ezw_iconst (-1) rfl rfl ?_
      exact ezw_ireturn rfl rfl ⟨rfl, (-1), ⟨by decide, by decide⟩, (by
            unfold ezn_cc
            (repeat (first | rw [if_pos (by omega)] | rw [if_neg (by omega)]))
            try omega), rfl⟩
    · refine ezw_iconst (-1) rfl rfl ?_
      exact ezw_ireturn rfl rfl ⟨rfl, (-1), ⟨by decide, by decide⟩, (by
            unfold ezn_cc
            (repeat (first | rw [if_pos (by omega)] | rw [if_neg (by omega)]))
            try omega), rfl⟩
def ezt_m174_13_47nQ (e : Bool × Bool) (F : Nat → Nat → Int) (A : Nat → Int → Int) (y : ezp_D) (w : ezn_N) : Option ezq_V → (Nat → ezq_C) → Prop := fun v g' => ezu_g e F A = g' ∧ ∃ u : Int, (ezw_in u) ∧ (u = ezn_las y w) ∧ some (ezw_i u) = v
theorem ezt_m174_13_47n {y : ezp_D} {w : ezn_N} {F : Nat → Nat → Int} {A : Nat → Int → Int} (hS : ezs_T F A) (hd : 3 ≤ d) (tr : ezt_TR 47 y F A) (nu : ezt_NU 47 y A) (hB : ezp_B y) (cw : ezn_C 13 w F) (wb : ezn_B y w) : ezw_C l ρ B xa Hb D cA 174 d [ezw_p 13, ezw_p 47] (ezu_g e F A) (ezt_m174_13_47nQ e F A y w) := by
  refine ezw_met (k := 3) rfl rfl ?_
  obtain ⟨⟨c1, c2, c3, c4⟩, ⟨d1, d2, d3, d4, d5, d6, d7, d8⟩, e3, e4, e5, e6⟩ := id tr
  obtain ⟨b1, b2', b3, b4, b5, b6, b7, ⟨b8, b8'⟩, b9⟩ := id hB
  obtain ⟨w0, w1, w2, w3, w4, w5, w6⟩ := id cw
  obtain ⟨⟨x0, x1⟩, x2, x3, x4, x5, x6, x7, x8, x9, x10, x11, x12⟩ := id wb
  have n6 : A 61 6 = y.nu 6 := nu 6 (by decide) (by decide)
  have nb6 : 0 ≤ y.nu 6 ∧ y.nu 6 ≤ 9 := b8 6 (by decide) (by decide)
  refine ezw_aload_n rfl rfl ?_
  refine ezy_get_i hS rfl rfl rfl rfl rfl rfl (fun u1 hu1 ku1 eu1 => ?_)
  replace eu1 := eu1.symm
  subst eu1
  refine ezw_istore_n rfl rfl ?_
  refine ezw_aload_n rfl rfl ?_
  refine ezy_get_i hS rfl rfl rfl rfl rfl rfl (fun u2 hu2 ku2 eu2 => ?_)
  replace eu2 := eu2.symm
  subst eu2
  refine ezw_istore_n rfl rfl ?_
  refine ezw_iconst (0) rfl rfl ?_
  refine ezw_istore rfl rfl ?_
  have L13_4 : ∀ c3 : Int, ezw_in c3 → ∀ y5 : Int, ezw_in y5 → ∀ y6 : Int, ezw_in y6 → ((0) ≤ c3) → (c3 ≤ 241) → (0 ≤ y5 ∧ y5 ≤ 23 ∧ 0 ≤ y6 ∧ y6 ≤ 99) → (ezn_las y w = ezn_ls1 y (241 - c3).toNat c3 y5 y6) → ezw_E l ρ B xa Hb D cA d ezq_re174 (ezt_m174_13_47nQ e F A y w) 13 [some (ezw_p 13), some (ezw_p 47), some (ezw_i y5), some (ezw_i y6), some (ezw_i c3)] [] (ezu_g e F A) := by
    refine ezs_up ?_
    intro c3 hc3 ihc3 y5 hy5 y6 hy6 g_4 cb_4 lr_4 la_4
    refine ezw_iload rfl rfl ?_
    refine ezw_sipush (240) rfl rfl ?_
    refine ezw_icmp_gt rfl rfl hc3 ⟨by decide, by decide⟩ (fun h18_6 => ?_) (fun h18_6 => ?_)
    · refine ezw_iconst (-1) rfl rfl ?_
      exact ezw_ireturn rfl rfl ⟨rfl, (-1), ⟨by decide, by decide⟩, (by rw [la_4, show (241 - c3).toNat = 0 by omega]; rfl), rfl⟩
    · refine ezw_iload_n rfl rfl ?_
      refine ezw_if_gt rfl rfl hy6 (fun h22_6 => ?_) (fun h22_6 => ?_)
      · refine ezw_iload_n rfl rfl ?_
        refine ezw_iconst (1) rfl rfl ?_
        refine ezw_iadd (k := y5 + 1) rfl (by omega) ?_
        refine ezw_bipush (24) rfl rfl ?_
        refine ezm_irem rfl ⟨by omega, by omega⟩ ⟨by decide, by decide⟩ (by decide) (fun u7 hu7 ku7 => ?_)
        have hm9 : (y5 + 1) % 24 = u7 := by omega
        refine ezw_istore_n rfl rfl ?_
        refine ezw_aload_n rfl rfl ?_
        refine ezw_iload_n rfl rfl ?_
        refine ezw_iload_n rfl rfl ?_
        refine ezw_call2_3 rfl (by omega) rfl rfl (ezt_m129_47n hS (by omega) hu7 hy6 tr nu hB (by omega)) ?_
        rintro _ _ ⟨rfl, u9, hu9, an_8, rfl⟩
        have hd9 := an_8
        have hdr := ezn_dw_r (y := y) (h := u7) (pa := y6) (by omega) (by omega)
        refine ezw_istore_n rfl rfl ?_
        refine ezw_iinc (k := c3 + 1) (1) rfl rfl rfl (by omega) rfl ?_
        refine ezw_goto rfl rfl ?_
        exact ezw_keepE [true, true, true, true, true] (ihc3 (c3 + 1) (by omega) ⟨by omega, by omega⟩ u7 hu7 u9 hu9 (by omega) (by omega) (by omega) (by
              rw [la_4, ezn_ls1_T (by omega) (by omega) (by omega), hm9, ← hd9]))
      · refine ezw_iload rfl rfl ?_
        exact ezw_ireturn rfl rfl ⟨rfl, c3, hc3, (by rw [la_4]; exact (ezn_ls1_F (by omega) (by omega) (by omega)).symm), rfl⟩
  exact ezw_keepE [true, true, true, true, true] (L13_4 (0) ⟨by decide, by decide⟩ (F 13 2) hu1 (F 13 5) hu2 (by omega) (by omega) (by omega) (by unfold ezn_las; rw [w2, w5]; rfl))
def ezt_m176_0n_tQ (b2 : Bool) (F : Nat → Nat → Int) (A : Nat → Int → Int) (y : ezp_D) (w : ezn_N) : Option ezq_V → (Nat → ezq_C) → Prop := fun v g' => ezu_g (true, b2) F A = g' ∧ ∃ u : Int, (ezw_in u) ∧ (u = ezn_las y w) ∧ some (ezw_i u) = v
theorem ezt_m176_0n_t {b2 : Bool} {y : ezp_D} {w : ezn_N} {F : Nat → Nat → Int} {A : Nat → Int → Int} (hS : ezs_T F A) (hd : 4 ≤ d) (tr : ezt_TR 47 y F A) (nu : ezt_NU 47 y A) (hB : ezp_B y) (cw : ezn_C 13 w F) (wb : ezn_B y w) : ezw_C l ρ B xa Hb D cA 176 d [ezw_p 0] (ezu_g (true, b2) F A) (ezt_m176_0n_tQ b2 F A y w) := by
  refine ezw_met (k := 0) rfl rfl ?_
  refine ezw_aload_n rfl rfl ?_
  refine ezs_getp (p := 13) rfl rfl rfl rfl rfl ?_
  refine ezw_aload_n rfl rfl ?_
  refine ezs_getp (p := 47) rfl rfl rfl rfl rfl ?_
  refine ezw_call0_1 rfl (by omega) (ezu_at rfl) rfl rfl rfl rfl (ezt_m174_13_47n hS (by omega) tr nu hB cw wb) ?_
  rintro _ _ ⟨rfl, u2, hu2, an_1, rfl⟩
  exact ezw_ireturn rfl rfl ⟨rfl, u2, hu2, an_1, rfl⟩
end KT
