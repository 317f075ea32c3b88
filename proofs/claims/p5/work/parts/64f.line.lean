/-! ===== the program: what a line begins with ===== -/
section KT
variable {l : Launch} {ρ : ezq_E} {B : Nat} {xa : Nat → Option Nat} {Hb : Heap} {D : va_G} {cA : Nat → ClassId} {d : Nat} {e : Bool × Bool}
def ezt_m48_4_1_30Q (e : Bool × Bool) (F : Nat → Nat → Int) (A : Nat → Int → Int) (c : Int → Int) (n : Int) (s : Int × Int) (t : ezp_D) (a3 : Int) : Option ezq_V → (Nat → ezq_C) → Prop := fun v g' => ∃ (F' : Nat → Nat → Int), ezu_g e F' A = g' ∧ ezs_T F' A ∧ (∀ p j, ¬ (p = 1 ∧ (j = 6)) → F' p j = F p j) ∧ (ezt_ST c n (ezp_cf c t s) F') ∧ none = v
theorem ezt_m48_4_1_30 {c : Int → Int} {n : Int} {s : Int × Int} {t : ezp_D} {a3 : Int} {F : Nat → Nat → Int} {A : Nat → Int → Int} (hS : ezs_T F A) (hd : 1 ≤ d) (ha3 : ezw_in a3) (hn : F 1 2 = n) (hc : c = ezp_ch (A 2) n) (tp : ezp_tp c n) (st : ezt_ST c n s F) (tr : ezt_TR 30 t F A) (di : ezt_DI t F) (z0 : s.1 = 0) (w3 : a3 = ezp_K c s.2) : ezw_C l ρ B xa Hb D cA 48 d [ezw_p 4, ezw_p 1, ezw_p 30, ezw_i a3] (ezu_g e F A) (ezt_m48_4_1_30Q e F A c n s t a3) := by
  refine ezw_met (k := 2) rfl rfl ?_
  obtain ⟨⟨c1, c2, c3, c4⟩, ⟨d1, d2, d3, d4, d5, d6, d7, d8⟩, e3, e4, e5, e6⟩ := id tr
  have c4 : F 38 1 = t.kE := c4
  refine ezw_iconst (0) rfl rfl ?_
  refine ezw_istore rfl rfl ?_
  refine ezw_iconst (0) rfl rfl ?_
  refine ezw_istore rfl rfl ?_
  refine ezw_iload_n rfl rfl ?_
  by_cases q1 : a3 = (0)
  · refine ezw_tableswitchE (v := 0) (p := 112) q1 rfl (by rfl) ?_
    refine ezw_aload_n rfl rfl ?_
    refine ezy_get_i hS rfl rfl rfl rfl rfl rfl (fun u2 hu2 ku2 eu2 => ?_)
    replace eu2 := eu2.symm
    subst eu2
    refine ezw_bipush (8) rfl rfl ?_
    refine ezw_icmp_lt rfl rfl hu2 ⟨by decide, by decide⟩ (fun h118_2 => ?_) (fun h118_2 => ?_)
    · refine ezw_iconst (0) rfl rfl ?_
      refine ezw_istore rfl rfl ?_
      refine ezw_goto rfl rfl ?_
      refine ezw_iload rfl rfl ?_
      refine ezw_if_eq rfl rfl ⟨by decide, by decide⟩ (fun h203_2 => ?_) (fun h203_2 => absurd h203_2 (by omega))
      refine ezw_iload rfl rfl ?_
      refine ezw_if_eq rfl rfl ⟨by decide, by decide⟩ (fun h213_2 => ?_) (fun h213_2 => absurd h213_2 (by omega))
      exact ezw_return rfl rfl ⟨F, rfl, hS, (fun _ _ _ => rfl), (by
            unfold ezp_cf
            repeat (first | rw [if_pos (by omega)] | rw [if_neg (by omega)])
            exact st), rfl⟩
    · refine ezw_iconst (1) rfl rfl ?_
      refine ezw_goto rfl rfl ?_
      refine ezw_istore rfl rfl ?_
      refine ezw_goto rfl rfl ?_
      refine ezw_iload rfl rfl ?_
      refine ezw_if_eq rfl rfl ⟨by decide, by decide⟩ (fun h203_2 => ?_) (fun h203_2 => absurd h203_2 (by omega))
      refine ezw_iload rfl rfl ?_
      refine ezw_if_eq rfl rfl ⟨by decide, by decide⟩ (fun h213_2 => absurd h213_2 (by omega)) (fun h213_2 => ?_)
      refine ezw_aload_n rfl rfl ?_
      refine ezw_iconst (5) rfl rfl ?_
      refine ezw_call0_1 rfl (by omega) (ezu_at rfl) rfl rfl rfl rfl (ezt_m50_1 hS (by omega) ⟨by decide, by decide⟩ hn hc tp st (by omega)) ?_
      rintro _ _ ⟨F3, rfl, hS, nF3, st_3, rfl⟩
      exact ezw_return rfl rfl ⟨F3, rfl, hS, (fun p j h => by rw [nF3 p j (by omega)]), (by
            unfold ezp_cf
            repeat (first | rw [if_pos (by omega)] | rw [if_neg (by omega)])
            exact st_3), rfl⟩
  by_cases q4 : a3 = (1)
  · refine ezw_tableswitchE (v := 1) (p := 196) q4 rfl (by rfl) ?_
    refine ezw_aload_n rfl rfl ?_
    refine ezw_iconst (1) rfl rfl ?_
    refine ezw_call0_1 rfl (by omega) (ezu_at rfl) rfl rfl rfl rfl (ezt_m50_1 hS (by omega) ⟨by decide, by decide⟩ hn hc tp st (by omega)) ?_
    rintro _ _ ⟨F5, rfl, hS, nF5, st_5, rfl⟩
    refine ezw_iload rfl rfl ?_
    refine ezw_if_eq rfl rfl ⟨by decide, by decide⟩ (fun h203_5 => ?_) (fun h203_5 => absurd h203_5 (by omega))
    refine ezw_iload rfl rfl ?_
    refine ezw_if_eq rfl rfl ⟨by decide, by decide⟩ (fun h213_5 => ?_) (fun h213_5 => absurd h213_5 (by omega))
    exact ezw_return rfl rfl ⟨F5, rfl, hS, (fun p j h => by rw [nF5 p j (by omega)]), (by
          unfold ezp_cf
          repeat (first | rw [if_pos (by omega)] | rw [if_neg (by omega)])
          exact st_5), rfl⟩
  by_cases q6 : a3 = (2)
  · refine ezw_tableswitchE (v := 2) (p := 196) q6 rfl (by rfl) ?_
    refine ezw_aload_n rfl rfl ?_
    refine ezw_iconst (1) rfl rfl ?_
    refine ezw_call0_1 rfl (by omega) (ezu_at rfl) rfl rfl rfl rfl (ezt_m50_1 hS (by omega) ⟨by decide, by decide⟩ hn hc tp st (by omega)) ?_
    rintro _ _ ⟨F7, rfl, hS, nF7, st_7, rfl⟩
    refine ezw_iload rfl rfl ?_
    refine ezw_if_eq rfl rfl ⟨by decide, by decide⟩ (fun h203_7 => ?_) (fun h203_7 => absurd h203_7 (by omega))
    refine ezw_iload rfl rfl ?_
    refine ezw_if_eq rfl rfl ⟨by decide, by decide⟩ (fun h213_7 => ?_) (fun h213_7 => absurd h213_7 (by omega))
    exact ezw_return rfl rfl ⟨F7, rfl, hS, (fun p j h => by rw [nF7 p j (by omega)]), (by
          unfold ezp_cf
          repeat (first | rw [if_pos (by omega)] | rw [if_neg (by omega)])
          exact st_7), rfl⟩
  by_cases q8 : a3 = (3)
  · refine ezw_tableswitchE (v := 3) (p := 196) q8 rfl (by rfl) ?_
    refine ezw_aload_n rfl rfl ?_
    refine ezw_iconst (1) rfl rfl ?_
    refine ezw_call0_1 rfl (by omega) (ezu_at rfl) rfl rfl rfl rfl (ezt_m50_1 hS (by omega) ⟨by decide, by decide⟩ hn hc tp st (by omega)) ?_
    rintro _ _ ⟨F9, rfl, hS, nF9, st_9, rfl⟩
    refine ezw_iload rfl rfl ?_
    refine ezw_if_eq rfl rfl ⟨by decide, by decide⟩ (fun h203_9 => ?_) (fun h203_9 => absurd h203_9 (by omega))
    refine ezw_iload rfl rfl ?_
    refine ezw_if_eq rfl rfl ⟨by decide, by decide⟩ (fun h213_9 => ?_) (fun h213_9 => absurd h213_9 (by omega))
    exact ezw_return rfl rfl ⟨F9, rfl, hS, (fun p j h => by rw [nF9 p j (by omega)]), (by
          unfold ezp_cf
          repeat (first | rw [if_pos (by omega)] | rw [if_neg (by omega)])
          exact st_9), rfl⟩
  by_cases q10 : a3 = (4)
  · refine ezw_tableswitchE (v := 4) (p := 196) q10 rfl (by rfl) ?_
    refine ezw_aload_n rfl rfl ?_
    refine ezw_iconst (1) rfl rfl ?_
    refine ezw_call0_1 rfl (by omega) (ezu_at rfl) rfl rfl rfl rfl (ezt_m50_1 hS (by omega) ⟨by decide, by decide⟩ hn hc tp st (by omega)) ?_
    rintro _ _ ⟨F11, rfl, hS, nF11, st_11, rfl⟩
    refine ezw_iload rfl rfl ?_
    refine ezw_if_eq rfl rfl ⟨by decide, by decide⟩ (fun h203_11 => ?_) (fun h203_11 => absurd h203_11 (by omega))
    refine ezw_iload rfl rfl ?_
    refine ezw_if_eq rfl rfl ⟨by decide, by decide⟩ (fun h213_11 => ?_) (fun h213_11 => absurd h213_11 (by omega))
    exact ezw_return rfl rfl ⟨F11, rfl, hS, (fun p j h => by rw [nF11 p j (by omega)]), (by
          unfold ezp_cf
          repeat (first | rw [if_pos (by omega)] | rw [if_neg (by omega)])
          exact st_11), rfl⟩
  by_cases q12 : a3 = (5)
  · refine ezw_tableswitchE (v := 5) (p := 174) q12 rfl (by rfl) ?_
    refine ezw_aload_n rfl rfl ?_
    refine ezy_get_i hS rfl rfl rfl rfl rfl rfl (fun u13 hu13 ku13 eu13 => ?_)
    replace eu13 := eu13.symm
    subst eu13
    refine ezw_iload_n rfl rfl ?_
    refine ezw_call3_2 rfl (by omega) rfl rfl (ezt_m49 hS (by omega) hu13 ha3) ?_
    rintro _ _ ⟨rfl, u15, hu15, v_14, rfl⟩
    have hdi := di.2 a3 (by omega) (by omega)
    have hbt := v_14 (by omega) (by omega)
    rw [w3] at hdi hbt
    refine ezw_iconst (1) rfl rfl ?_
    refine ezw_icmp_ne rfl rfl hu15 ⟨by decide, by decide⟩ (fun h183_15 => ?_) (fun h183_15 => ?_)
    · refine ezw_iconst (0) rfl rfl ?_
      refine ezw_istore rfl rfl ?_
      refine ezw_goto rfl rfl ?_
      refine ezw_iload rfl rfl ?_
      refine ezw_if_eq rfl rfl ⟨by decide, by decide⟩ (fun h203_15 => ?_) (fun h203_15 => absurd h203_15 (by omega))
      refine ezw_iload rfl rfl ?_
      refine ezw_if_eq rfl rfl ⟨by decide, by decide⟩ (fun h213_15 => ?_) (fun h213_15 => absurd h213_15 (by omega))
      exact ezw_return rfl rfl ⟨F, rfl, hS, (fun _ _ _ => rfl), (by
            unfold ezp_cf
            repeat (first | rw [if_pos (by omega)] | rw [if_neg (by omega)])
            exact st), rfl⟩
    · refine ezw_iconst (1) rfl rfl ?_
      refine ezw_goto rfl rfl ?_
      refine ezw_istore rfl rfl ?_
      refine ezw_goto rfl rfl ?_
      refine ezw_iload rfl rfl ?_
      refine ezw_if_eq rfl rfl ⟨by decide, by decide⟩ (fun h203_15 => absurd h203_15 (by omega)) (fun h203_15 => ?_)
      refine ezw_aload_n rfl rfl ?_
      refine ezw_iconst (3) rfl rfl ?_
      refine ezw_call0_1 rfl (by omega) (ezu_at rfl) rfl rfl rfl rfl (ezt_m50_1 hS (by omega) ⟨by decide, by decide⟩ hn hc tp st (by omega)) ?_
      rintro _ _ ⟨F16, rfl, hS, nF16, st_16, rfl⟩
      refine ezw_iload rfl rfl ?_
      refine ezw_if_eq rfl rfl ⟨by decide, by decide⟩ (fun h213_16 => ?_) (fun h213_16 => absurd h213_16 (by omega))
      exact ezw_return rfl rfl ⟨F16, rfl, hS, (fun p j h => by rw [nF16 p j (by omega)]), (by
            unfold ezp_cf
            repeat (first | rw [if_pos (by omega)] | rw [if_neg (by omega)])
            exact st_16), rfl⟩
  by_cases q17 : a3 = (6)
  · refine ezw_tableswitchE (v := 6) (p := 174) q17 rfl (by rfl) ?_
    refine ezw_aload_n rfl rfl ?_
    refine ezy_get_i hS rfl rfl rfl rfl rfl rfl (fun u18 hu18 ku18 eu18 => ?_)
    replace eu18 := eu18.symm
    subst eu18
    refine ezw_iload_n rfl rfl ?_
    refine ezw_call3_2 rfl (by omega) rfl rfl (ezt_m49 hS (by omega) hu18 ha3) ?_
    rintro _ _ ⟨rfl, u20, hu20, v_19, rfl⟩
    have hdi := di.2 a3 (by omega) (by omega)
    have hbt := v_19 (by omega) (by omega)
    rw [w3] at hdi hbt
    refine ezw_iconst (1) rfl rfl ?_
    refine ezw_icmp_ne rfl rfl hu20 ⟨by decide, by decide⟩ (fun h183_20 => ?_) (fun h183_20 => ?_)
    · refine ezw_iconst (0) rfl rfl ?_
      refine ezw_istore rfl rfl ?_
      refine ezw_goto rfl rfl ?_
      refine ezw_iload rfl rfl ?_
      refine ezw_if_eq rfl rfl ⟨by decide, by decide⟩ (fun h203_20 => ?_) (fun h203_20 => absurd h203_20 (by omega))
      refine ezw_iload rfl rfl ?_
      refine ezw_if_eq rfl rfl ⟨by decide, by decide⟩ (fun h213_20 => ?_) (fun h213_20 => absurd h213_20 (by omega))
      exact ezw_return rfl rfl ⟨F, rfl, hS, (fun _ _ _ => rfl), (by
            unfold ezp_cf
            repeat (first | rw [if_pos (by omega)] | rw [if_neg (by omega)])
            exact st), rfl⟩
    · refine ezw_iconst (1) rfl rfl ?_
      refine ezw_goto rfl rfl ?_
      refine ezw_istore rfl rfl ?_
      refine ezw_goto rfl rfl ?_
      refine ezw_iload rfl rfl ?_
      refine ezw_if_eq rfl rfl ⟨by decide, by decide⟩ (fun h203_20 => absurd h203_20 (by omega)) (fun h203_20 => ?_)
      refine ezw_aload_n rfl rfl ?_
      refine ezw_iconst (3) rfl rfl ?_
      refine ezw_call0_1 rfl (by omega) (ezu_at rfl) rfl rfl rfl rfl (ezt_m50_1 hS (by omega) ⟨by decide, by decide⟩ hn hc tp st (by omega)) ?_
      rintro _ _ ⟨F21, rfl, hS, nF21, st_21, rfl⟩
      refine ezw_iload rfl rfl ?_
      refine ezw_if_eq rfl rfl ⟨by decide, by decide⟩ (fun h213_21 => ?_) (fun h213_21 => absurd h213_21 (by omega))
      exact ezw_return rfl rfl ⟨F21, rfl, hS, (fun p j h => by rw [nF21 p j (by omega)]), (by
            unfold ezp_cf
            repeat (first | rw [if_pos (by omega)] | rw [if_neg (by omega)])
            exact st_21), rfl⟩
  by_cases q22 : a3 = (7)
  · refine ezw_tableswitchE (v := 7) (p := 196) q22 rfl (by rfl) ?_
    refine ezw_aload_n rfl rfl ?_
    refine ezw_iconst (1) rfl rfl ?_
    refine ezw_call0_1 rfl (by omega) (ezu_at rfl) rfl rfl rfl rfl (ezt_m50_1 hS (by omega) ⟨by decide, by decide⟩ hn hc tp st (by omega)) ?_
    rintro _ _ ⟨F23, rfl, hS, nF23, st_23, rfl⟩
    refine ezw_iload rfl rfl ?_
    refine ezw_if_eq rfl rfl ⟨by decide, by decide⟩ (fun h203_23 => ?_) (fun h203_23 => absurd h203_23 (by omega))
    refine ezw_iload rfl rfl ?_
    refine ezw_if_eq rfl rfl ⟨by decide, by decide⟩ (fun h213_23 => ?_) (fun h213_23 => absurd h213_23 (by omega))
    exact ezw_return rfl rfl ⟨F23, rfl, hS, (fun p j h => by rw [nF23 p j (by omega)]), (by
          unfold ezp_cf
          repeat (first | rw [if_pos (by omega)] | rw [if_neg (by omega)])
          exact st_23), rfl⟩
  by_cases q24 : a3 = (8)
  · refine ezw_tableswitchE (v := 8) (p := 196) q24 rfl (by rfl) ?_
    refine ezw_aload_n rfl rfl ?_
    refine ezw_iconst (1) rfl rfl ?_
    refine ezw_call0_1 rfl (by omega) (ezu_at rfl) rfl rfl rfl rfl (ezt_m50_1 hS (by omega) ⟨by decide, by decide⟩ hn hc tp st (by omega)) ?_
    rintro _ _ ⟨F25, rfl, hS, nF25, st_25, rfl⟩
    refine ezw_iload rfl rfl ?_
    refine ezw_if_eq rfl rfl ⟨by decide, by decide⟩ (fun h203_25 => ?_) (fun h203_25 => absurd h203_25 (by omega))
    refine ezw_iload rfl rfl ?_
    refine ezw_if_eq rfl rfl ⟨by decide, by decide⟩ (fun h213_25 => ?_) (fun h213_25 => absurd h213_25 (by omega))
    exact ezw_return rfl rfl ⟨F25, rfl, hS, (fun p j h => by rw [nF25 p j (by omega)]), (by
          unfold ezp_cf
          repeat (first | rw [if_pos (by omega)] | rw [if_neg (by omega)])
          exact st_25), rfl⟩
  by_cases q26 : a3 = (9)
  · refine ezw_tableswitchE (v := 9) (p := 131) q26 rfl (by rfl) ?_
    refine ezw_aload_n rfl rfl ?_
    refine ezy_get_i hS rfl rfl rfl rfl rfl rfl (fun u27 hu27 ku27 eu27 => ?_)
    replace eu27 := eu27.symm
    subst eu27
    refine ezw_iconst (4) rfl rfl ?_
    refine ezw_icmp_lt rfl rfl hu27 ⟨by decide, by decide⟩ (fun h136_27 => ?_) (fun h136_27 => ?_)
    · refine ezw_iconst (0) rfl rfl ?_
      refine ezw_istore rfl rfl ?_
      refine ezw_goto rfl rfl ?_
      refine ezw_iload rfl rfl ?_
      refine ezw_if_eq rfl rfl ⟨by decide, by decide⟩ (fun h203_27 => ?_) (fun h203_27 => absurd h203_27 (by omega))
      refine ezw_iload rfl rfl ?_
      refine ezw_if_eq rfl rfl ⟨by decide, by decide⟩ (fun h213_27 => ?_) (fun h213_27 => absurd h213_27 (by omega))
      exact ezw_return rfl rfl ⟨F, rfl, hS, (fun _ _ _ => rfl), (by
            unfold ezp_cf
            repeat (first | rw [if_pos (by omega)] | rw [if_neg (by omega)])
            exact st), rfl⟩
    · refine ezw_iconst (1) rfl rfl ?_
      refine ezw_goto rfl rfl ?_
      refine ezw_istore rfl rfl ?_
      refine ezw_goto rfl rfl ?_
      refine ezw_iload rfl rfl ?_
      refine ezw_if_eq rfl rfl ⟨by decide, by decide⟩ (fun h203_27 => ?_) (fun h203_27 => absurd h203_27 (by omega))
      refine ezw_iload rfl rfl ?_
      refine ezw_if_eq rfl rfl ⟨by decide, by decide⟩ (fun h213_27 => absurd h213_27 (by omega)) (fun h213_27 => ?_)
      refine ezw_aload_n rfl rfl ?_
      refine ezw_iconst (5) rfl rfl ?_
      refine ezw_call0_1 rfl (by omega) (ezu_at rfl) rfl rfl rfl rfl (ezt_m50_1 hS (by omega) ⟨by decide, by decide⟩ hn hc tp st (by omega)) ?_
      rintro _ _ ⟨F28, rfl, hS, nF28, st_28, rfl⟩
      exact ezw_return rfl rfl ⟨F28, rfl, hS, (fun p j h => by rw [nF28 p j (by omega)]), (by
            unfold ezp_cf
            repeat (first | rw [if_pos (by omega)] | rw [if_neg (by omega)])
            exact st_28), rfl⟩
  by_cases q29 : a3 = (10)
  · refine ezw_tableswitchE (v := 10) (p := 196) q29 rfl (by rfl) ?_
    refine ezw_aload_n rfl rfl ?_
    refine ezw_iconst (1) rfl rfl ?_
    refine ezw_call0_1 rfl (by omega) (ezu_at rfl) rfl rfl rfl rfl (ezt_m50_1 hS (by omega) ⟨by decide, by decide⟩ hn hc tp st (by omega)) ?_
    rintro _ _ ⟨F30, rfl, hS, nF30, st_30, rfl⟩
    refine ezw_iload rfl rfl ?_
    refine ezw_if_eq rfl rfl ⟨by decide, by decide⟩ (fun h203_30 => ?_) (fun h203_30 => absurd h203_30 (by omega))
    refine ezw_iload rfl rfl ?_
    refine ezw_if_eq rfl rfl ⟨by decide, by decide⟩ (fun h213_30 => ?_) (fun h213_30 => absurd h213_30 (by omega))
    exact ezw_return rfl rfl ⟨F30, rfl, hS, (fun p j h => by rw [nF30 p j (by omega)]), (by
          unfold ezp_cf
          repeat (first | rw [if_pos (by omega)] | rw [if_neg (by omega)])
          exact st_30), rfl⟩
  by_cases q31 : a3 = (11)
  · refine ezw_tableswitchE (v := 11) (p := 196) q31 rfl (by rfl) ?_
    refine ezw_aload_n rfl rfl ?_
    refine ezw_iconst (1) rfl rfl ?_
    refine ezw_call0_1 rfl (by omega) (ezu_at rfl) rfl rfl rfl rfl (ezt_m50_1 hS (by omega) ⟨by decide, by decide⟩ hn hc tp st (by omega)) ?_
    rintro _ _ ⟨F32, rfl, hS, nF32, st_32, rfl⟩
    refine ezw_iload rfl rfl ?_
    refine ezw_if_eq rfl rfl ⟨by decide, by decide⟩ (fun h203_32 => ?_) (fun h203_32 => absurd h203_32 (by omega))
    refine ezw_iload rfl rfl ?_
    refine ezw_if_eq rfl rfl ⟨by decide, by decide⟩ (fun h213_32 => ?_) (fun h213_32 => absurd h213_32 (by omega))
    exact ezw_return rfl rfl ⟨F32, rfl, hS, (fun p j h => by rw [nF32 p j (by omega)]), (by
          unfold ezp_cf
          repeat (first | rw [if_pos (by omega)] | rw [if_neg (by omega)])
          exact st_32), rfl⟩
  by_cases q33 : a3 = (12)
  · refine ezw_tableswitchE (v := 12) (p := 171) q33 rfl (by rfl) ?_
    refine ezw_goto rfl rfl ?_
    refine ezw_iload rfl rfl ?_
    refine ezw_if_eq rfl rfl ⟨by decide, by decide⟩ (fun h203_33 => ?_) (fun h203_33 => absurd h203_33 (by omega))
    refine ezw_iload rfl rfl ?_
    refine ezw_if_eq rfl rfl ⟨by decide, by decide⟩ (fun h213_33 => ?_) (fun h213_33 => absurd h213_33 (by omega))
    exact ezw_return rfl rfl ⟨F, rfl, hS, (fun _ _ _ => rfl), (by
          unfold ezp_cf
          repeat (first | rw [if_pos (by omega)] | rw [if_neg (by omega)])
          exact st), rfl⟩
  by_cases q34 : a3 = (13)
  · refine ezw_tableswitchE (v := 13) (p := 174) q34 rfl (by rfl) ?_
    refine ezw_aload_n rfl rfl ?_
    refine ezy_get_i hS rfl rfl rfl rfl rfl rfl (fun u35 hu35 ku35 eu35 => ?_)
    replace eu35 := eu35.symm
    subst eu35
    refine ezw_iload_n rfl rfl ?_
    refine ezw_call3_2 rfl (by omega) rfl rfl (ezt_m49 hS (by omega) hu35 ha3) ?_
    rintro _ _ ⟨rfl, u37, hu37, v_36, rfl⟩
    have hdi := di.2 a3 (by omega) (by omega)
    have hbt := v_36 (by omega) (by omega)
    rw [w3] at hdi hbt
    refine ezw_iconst (1) rfl rfl ?_
    refine ezw_icmp_ne rfl rfl hu37 ⟨by decide, by decide⟩ (fun h183_37 => ?_) (fun h183_37 => ?_)
    · refine ezw_iconst (0) rfl rfl ?_
      refine ezw_istore rfl rfl ?_
      refine ezw_goto rfl rfl ?_
      refine ezw_iload rfl rfl ?_
      refine ezw_if_eq rfl rfl ⟨by decide, by decide⟩ (fun h203_37 => ?_) (fun h203_37 => absurd h203_37 (by omega))
      refine ezw_iload rfl rfl ?_
      refine ezw_if_eq rfl rfl ⟨by decide, by decide⟩ (fun h213_37 => ?_) (fun h213_37 => absurd h213_37 (by omega))
      exact ezw_return rfl rfl ⟨F, rfl, hS, (fun _ _ _ => rfl), (by
            unfold ezp_cf
            repeat (first | rw [if_pos (by omega)] | rw [if_neg (by omega)])
            exact st), rfl⟩
    · refine ezw_iconst (1) rfl rfl ?_
      refine ezw_goto rfl rfl ?_
      refine ezw_istore rfl rfl ?_
      refine ezw_goto rfl rfl ?_
      refine ezw_iload rfl rfl ?_
      refine ezw_if_eq rfl rfl ⟨by decide, by decide⟩ (fun h203_37 => absurd h203_37 (by omega)) (fun h203_37 => ?_)
      refine ezw_aload_n rfl rfl ?_
      refine ezw_iconst (3) rfl rfl ?_
      refine ezw_call0_1 rfl (by omega) (ezu_at rfl) rfl rfl rfl rfl (ezt_m50_1 hS (by omega) ⟨by decide, by decide⟩ hn hc tp st (by omega)) ?_
      rintro _ _ ⟨F38, rfl, hS, nF38, st_38, rfl⟩
      refine ezw_iload rfl rfl ?_
      refine ezw_if_eq rfl rfl ⟨by decide, by decide⟩ (fun h213_38 => ?_) (fun h213_38 => absurd h213_38 (by omega))
      exact ezw_return rfl rfl ⟨F38, rfl, hS, (fun p j h => by rw [nF38 p j (by omega)]), (by
            unfold ezp_cf
            repeat (first | rw [if_pos (by omega)] | rw [if_neg (by omega)])
            exact st_38), rfl⟩
  by_cases q39 : a3 = (14)
  · refine ezw_tableswitchE (v := 14) (p := 174) q39 rfl (by rfl) ?_
    refine ezw_aload_n rfl rfl ?_
    refine ezy_get_i hS rfl rfl rfl rfl rfl rfl (fun u40 hu40 ku40 eu40 => ?_)
    replace eu40 := eu40.symm
    subst eu40
    refine ezw_iload_n rfl rfl ?_
    refine ezw_call3_2 rfl (by omega) rfl rfl (ezt_m49 hS (by omega) hu40 ha3) ?_
    rintro _ _ ⟨rfl, u42, hu42, v_41, rfl⟩
    have hdi := di.2 a3 (by omega) (by omega)
    have hbt := v_41 (by omega) (by omega)
    rw [w3] at hdi hbt
    refine ezw_iconst (1) rfl rfl ?_
    refine ezw_icmp_ne rfl rfl hu42 ⟨by decide, by decide⟩ (fun h183_42 => ?_) (fun h183_42 => ?_)
    · refine ezw_iconst (0) rfl rfl ?_
      refine ezw_istore rfl rfl ?_
      refine ezw_goto rfl rfl ?_
      refine ezw_iload rfl rfl ?_
      refine ezw_if_eq rfl rfl ⟨by decide, by decide⟩ (fun h203_42 => ?_) (fun h203_42 => absurd h203_42 (by omega))
      refine ezw_iload rfl rfl ?_
      refine ezw_if_eq rfl rfl ⟨by decide, by decide⟩ (fun h213_42 => ?_) (fun h213_42 => absurd h213_42 (by omega))
      exact ezw_return rfl rfl ⟨F, rfl, hS, (fun _ _ _ => rfl), (by
            unfold ezp_cf
            repeat (first | rw [if_pos (by omega)] | rw [if_neg (by omega)])
            exact st), rfl⟩
    · refine ezw_iconst (1) rfl rfl ?_
      refine ezw_goto rfl rfl ?_
      refine ezw_istore rfl rfl ?_
      refine ezw_goto rfl rfl ?_
      refine ezw_iload rfl rfl ?_
      refine ezw_if_eq rfl rfl ⟨by decide, by decide⟩ (fun h203_42 => absurd h203_42 (by omega)) (fun h203_42 => ?_)
      refine ezw_aload_n rfl rfl ?_
      refine ezw_iconst (3) rfl rfl ?_
      refine ezw_call0_1 rfl (by omega) (ezu_at rfl) rfl rfl rfl rfl (ezt_m50_1 hS (by omega) ⟨by decide, by decide⟩ hn hc tp st (by omega)) ?_
      rintro _ _ ⟨F43, rfl, hS, nF43, st_43, rfl⟩
      refine ezw_iload rfl rfl ?_
      refine ezw_if_eq rfl rfl ⟨by decide, by decide⟩ (fun h213_43 => ?_) (fun h213_43 => absurd h213_43 (by omega))
      exact ezw_return rfl rfl ⟨F43, rfl, hS, (fun p j h => by rw [nF43 p j (by omega)]), (by
            unfold ezp_cf
            repeat (first | rw [if_pos (by omega)] | rw [if_neg (by omega)])
            exact st_43), rfl⟩
  by_cases q44 : a3 = (15)
  · refine ezw_tableswitchE (v := 15) (p := 174) q44 rfl (by rfl) ?_
    refine ezw_aload_n rfl rfl ?_
    refine ezy_get_i hS rfl rfl rfl rfl rfl rfl (fun u45 hu45 ku45 eu45 => ?_)
    replace eu45 := eu45.symm
    subst eu45
    refine ezw_iload_n rfl rfl ?_
    refine ezw_call3_2 rfl (by omega) rfl rfl (ezt_m49 hS (by omega) hu45 ha3) ?_
    rintro _ _ ⟨rfl, u47, hu47, v_46, rfl⟩
    have hdi := di.2 a3 (by omega) (by omega)
    have hbt := v_46 (by omega) (by omega)
    rw [w3] at hdi hbt
    refine ezw_iconst (1) rfl rfl ?_
    refine ezw_icmp_ne rfl rfl hu47 ⟨by decide, by decide⟩ (fun h183_47 => ?_) (fun h183_47 => ?_)
    · refine ezw_iconst (0) rfl rfl ?_
      refine ezw_istore rfl rfl ?_
      refine ezw_goto rfl rfl ?_
      refine ezw_iload rfl rfl ?_
      refine ezw_if_eq rfl rfl ⟨by decide, by decide⟩ (fun h203_47 => ?_) (fun h203_47 => absurd h203_47 (by omega))
      refine ezw_iload rfl rfl ?_
      refine ezw_if_eq rfl rfl ⟨by decide, by decide⟩ (fun h213_47 => ?_) (fun h213_47 => absurd h213_47 (by omega))
      exact ezw_return rfl rfl ⟨F, rfl, hS, (fun _ _ _ => rfl), (by
            unfold ezp_cf
            repeat (first | rw [if_pos (by omega)] | rw [if_neg (by omega)])
            exact st), rfl⟩
    · refine ezw_iconst (1) rfl rfl ?_
      refine ezw_goto rfl rfl ?_
      refine ezw_istore rfl rfl ?_
      refine ezw_goto rfl rfl ?_
      refine ezw_iload rfl rfl ?_
      refine ezw_if_eq rfl rfl ⟨by decide, by decide⟩ (fun h203_47 => absurd h203_47 (by omega)) (fun h203_47 => ?_)
      refine ezw_aload_n rfl rfl ?_
      refine ezw_iconst (3) rfl rfl ?_
      refine ezw_call0_1 rfl (by omega) (ezu_at rfl) rfl rfl rfl rfl (ezt_m50_1 hS (by omega) ⟨by decide, by decide⟩ hn hc tp st (by omega)) ?_
      rintro _ _ ⟨F48, rfl, hS, nF48, st_48, rfl⟩
      refine ezw_iload rfl rfl ?_
      refine ezw_if_eq rfl rfl ⟨by decide, by decide⟩ (fun h213_48 => ?_) (fun h213_48 => absurd h213_48 (by omega))
      exact ezw_return rfl rfl ⟨F48, rfl, hS, (fun p j h => by rw [nF48 p j (by omega)]), (by
            unfold ezp_cf
            repeat (first | rw [if_pos (by omega)] | rw [if_neg (by omega)])
            exact st_48), rfl⟩
  by_cases q49 : a3 = (16)
  · refine ezw_tableswitchE (v := 16) (p := 174) q49 rfl (by rfl) ?_
    refine ezw_aload_n rfl rfl ?_
    refine ezy_get_i hS rfl rfl rfl rfl rfl rfl (fun u50 hu50 ku50 eu50 => ?_)
    replace eu50 := eu50.symm
    subst eu50
    refine ezw_iload_n rfl rfl ?_
    refine ezw_call3_2 rfl (by omega) rfl rfl (ezt_m49 hS (by omega) hu50 ha3) ?_
    rintro _ _ ⟨rfl, u52, hu52, v_51, rfl⟩
    have hdi := di.2 a3 (by omega) (by omega)
    have hbt := v_51 (by omega) (by omega)
    rw [w3] at hdi hbt
    refine ezw_iconst (1) rfl rfl ?_
    refine ezw_icmp_ne rfl rfl hu52 ⟨by decide, by decide⟩ (fun h183_52 => ?_) (fun h183_52 => ?_)
    · refine ezw_iconst (0) rfl rfl ?_
      refine ezw_istore rfl rfl ?_
      refine ezw_goto rfl rfl ?_
      refine ezw_iload rfl rfl ?_
      refine ezw_if_eq rfl rfl ⟨by decide, by decide⟩ (fun h203_52 => ?_) (fun h203_52 => absurd h203_52 (by omega))
      refine ezw_iload rfl rfl ?_
      refine ezw_if_eq rfl rfl ⟨by decide, by decide⟩ (fun h213_52 => ?_) (fun h213_52 => absurd h213_52 (by omega))
      exact ezw_return rfl rfl ⟨F, rfl, hS, (fun _ _ _ => rfl), (by
            unfold ezp_cf
            repeat (first | rw [if_pos (by omega)] | rw [if_neg (by omega)])
            exact st), rfl⟩
    · refine ezw_iconst (1) rfl rfl ?_
      refine ezw_goto rfl rfl ?_
      refine ezw_istore rfl rfl ?_
      refine ezw_goto rfl rfl ?_
      refine ezw_iload rfl rfl ?_
      refine ezw_if_eq rfl rfl ⟨by decide, by decide⟩ (fun h203_52 => absurd h203_52 (by omega)) (fun h203_52 => ?_)
      refine ezw_aload_n rfl rfl ?_
      refine ezw_iconst (3) rfl rfl ?_
      refine ezw_call0_1 rfl (by omega) (ezu_at rfl) rfl rfl rfl rfl (ezt_m50_1 hS (by omega) ⟨by decide, by decide⟩ hn hc tp st (by omega)) ?_
      rintro _ _ ⟨F53, rfl, hS, nF53, st_53, rfl⟩
      refine ezw_iload rfl rfl ?_
      refine ezw_if_eq rfl rfl ⟨by decide, by decide⟩ (fun h213_53 => ?_) (fun h213_53 => absurd h213_53 (by omega))
      exact ezw_return rfl rfl ⟨F53, rfl, hS, (fun p j h => by rw [nF53 p j (by omega)]), (by
            unfold ezp_cf
            repeat (first | rw [if_pos (by omega)] | rw [if_neg (by omega)])
            exact st_53), rfl⟩
  by_cases q54 : a3 = (17)
  · refine ezw_tableswitchE (v := 17) (p := 196) q54 rfl (by rfl) ?_
    refine ezw_aload_n rfl rfl ?_
    refine ezw_iconst (1) rfl rfl ?_
    refine ezw_call0_1 rfl (by omega) (ezu_at rfl) rfl rfl rfl rfl (ezt_m50_1 hS (by omega) ⟨by decide, by decide⟩ hn hc tp st (by omega)) ?_
    rintro _ _ ⟨F55, rfl, hS, nF55, st_55, rfl⟩
    refine ezw_iload rfl rfl ?_
    refine ezw_if_eq rfl rfl ⟨by decide, by decide⟩ (fun h203_55 => ?_) (fun h203_55 => absurd h203_55 (by omega))
    refine ezw_iload rfl rfl ?_
    refine ezw_if_eq rfl rfl ⟨by decide, by decide⟩ (fun h213_55 => ?_) (fun h213_55 => absurd h213_55 (by omega))
    exact ezw_return rfl rfl ⟨F55, rfl, hS, (fun p j h => by rw [nF55 p j (by omega)]), (by
          unfold ezp_cf
          repeat (first | rw [if_pos (by omega)] | rw [if_neg (by omega)])
          exact st_55), rfl⟩
  by_cases q56 : a3 = (18)
  · refine ezw_tableswitchE (v := 18) (p := 174) q56 rfl (by rfl) ?_
    refine ezw_aload_n rfl rfl ?_
    refine ezy_get_i hS rfl rfl rfl rfl rfl rfl (fun u57 hu57 ku57 eu57 => ?_)
    replace eu57 := eu57.symm
    subst eu57
    refine ezw_iload_n rfl rfl ?_
    refine ezw_call3_2 rfl (by omega) rfl rfl (ezt_m49 hS (by omega) hu57 ha3) ?_
    rintro _ _ ⟨rfl, u59, hu59, v_58, rfl⟩
    have hdi := di.2 a3 (by omega) (by omega)
    have hbt := v_58 (by omega) (by omega)
    rw [w3] at hdi hbt
    refine ezw_iconst (1) rfl rfl ?_
    refine ezw_icmp_ne rfl rfl hu59 ⟨by decide, by decide⟩ (fun h183_59 => ?_) (fun h183_59 => ?_)
    · refine ezw_iconst (0) rfl rfl ?_
      refine ezw_istore rfl rfl ?_
      refine ezw_goto rfl rfl ?_
      refine ezw_iload rfl rfl ?_
      refine ezw_if_eq rfl rfl ⟨by decide, by decide⟩ (fun h203_59 => ?_) (fun h203_59 => absurd h203_59 (by omega))
      refine ezw_iload rfl rfl ?_
      refine ezw_if_eq rfl rfl ⟨by decide, by decide⟩ (fun h213_59 => ?_) (fun h213_59 => absurd h213_59 (by omega))
      exact ezw_return rfl rfl ⟨F, rfl, hS, (fun _ _ _ => rfl), (by
            unfold ezp_cf
            repeat (first | rw [if_pos (by omega)] | rw [if_neg (by omega)])
            exact st), rfl⟩
    · refine ezw_iconst (1) rfl rfl ?_
      refine ezw_goto rfl rfl ?_
      refine ezw_istore rfl rfl ?_
      refine ezw_goto rfl rfl ?_
      refine ezw_iload rfl rfl ?_
      refine ezw_if_eq rfl rfl ⟨by decide, by decide⟩ (fun h203_59 => absurd h203_59 (by omega)) (fun h203_59 => ?_)
      refine ezw_aload_n rfl rfl ?_
      refine ezw_iconst (3) rfl rfl ?_
      refine ezw_call0_1 rfl (by omega) (ezu_at rfl) rfl rfl rfl rfl (ezt_m50_1 hS (by omega) ⟨by decide, by decide⟩ hn hc tp st (by omega)) ?_
      rintro _ _ ⟨F60, rfl, hS, nF60, st_60, rfl⟩
      refine ezw_iload rfl rfl ?_
      refine ezw_if_eq rfl rfl ⟨by decide, by decide⟩ (fun h213_60 => ?_) (fun h213_60 => absurd h213_60 (by omega))
      exact ezw_return rfl rfl ⟨F60, rfl, hS, (fun p j h => by rw [nF60 p j (by omega)]), (by
            unfold ezp_cf
            repeat (first | rw [if_pos (by omega)] | rw [if_neg (by omega)])
            exact st_60), rfl⟩
  by_cases q61 : a3 = (19)
  · refine ezw_tableswitchE (v := 19) (p := 174) q61 rfl (by rfl) ?_
    refine ezw_aload_n rfl rfl ?_
    refine ezy_get_i hS rfl rfl rfl rfl rfl rfl (fun u62 hu62 ku62 eu62 => ?_)
    replace eu62 := eu62.symm
    subst eu62
    refine ezw_iload_n rfl rfl ?_
    refine ezw_call3_2 rfl (by omega) rfl rfl (ezt_m49 hS (by omega) hu62 ha3) ?_
    rintro _ _ ⟨rfl, u64, hu64, v_63, rfl⟩
    have hdi := di.2 a3 (by omega) (by omega)
    have hbt := v_63 (by omega) (by omega)
    rw [w3] at hdi hbt
    refine ezw_iconst (1) rfl rfl ?_
    refine ezw_icmp_ne rfl rfl hu64 ⟨by decide, by decide⟩ (fun h183_64 => ?_) (fun h183_64 => ?_)
    · refine ezw_iconst (0) rfl rfl ?_
      refine ezw_istore rfl rfl ?_
      refine ezw_goto rfl rfl ?_
      refine ezw_iload rfl rfl ?_
      refine ezw_if_eq rfl rfl ⟨by decide, by decide⟩ (fun h203_64 => ?_) (fun h203_64 => absurd h203_64 (by omega))
      refine ezw_iload rfl rfl ?_
      refine ezw_if_eq rfl rfl ⟨by decide, by decide⟩ (fun h213_64 => ?_) (fun h213_64 => absurd h213_64 (by omega))
      exact ezw_return rfl rfl ⟨F, rfl, hS, (fun _ _ _ => rfl), (by
            unfold ezp_cf
            repeat (first | rw [if_pos (by omega)] | rw [if_neg (by omega)])
            exact st), rfl⟩
    · refine ezw_iconst (1) rfl rfl ?_
      refine ezw_goto rfl rfl ?_
      refine ezw_istore rfl rfl ?_
      refine ezw_goto rfl rfl ?_
      refine ezw_iload rfl rfl ?_
      refine ezw_if_eq rfl rfl ⟨by decide, by decide⟩ (fun h203_64 => absurd h203_64 (by omega)) (fun h203_64 => ?_)
      refine ezw_aload_n rfl rfl ?_
      refine ezw_iconst (3) rfl rfl ?_
      refine ezw_call0_1 rfl (by omega) (ezu_at rfl) rfl rfl rfl rfl (ezt_m50_1 hS (by omega) ⟨by decide, by decide⟩ hn hc tp st (by omega)) ?_
      rintro _ _ ⟨F65, rfl, hS, nF65, st_65, rfl⟩
      refine ezw_iload rfl rfl ?_
      refine ezw_if_eq rfl rfl ⟨by decide, by decide⟩ (fun h213_65 => ?_) (fun h213_65 => absurd h213_65 (by omega))
      exact ezw_return rfl rfl ⟨F65, rfl, hS, (fun p j h => by rw [nF65 p j (by omega)]), (by
            unfold ezp_cf
            repeat (first | rw [if_pos (by omega)] | rw [if_neg (by omega)])
            exact st_65), rfl⟩
  by_cases q66 : a3 = (20)
  · refine ezw_tableswitchE (v := 20) (p := 149) q66 rfl (by rfl) ?_
    refine ezw_aload_n rfl rfl ?_
    refine ezs_getp (p := 38) rfl rfl rfl rfl rfl ?_
    refine ezy_get_i hS rfl rfl rfl rfl rfl rfl (fun u67 hu67 ku67 eu67 => ?_)
    replace eu67 := eu67.symm
    subst eu67
    refine ezw_bipush (8) rfl rfl ?_
    refine ezw_icmp_lt rfl rfl hu67 ⟨by decide, by decide⟩ (fun h158_67 => ?_) (fun h158_67 => ?_)
    · refine ezw_iconst (0) rfl rfl ?_
      refine ezw_istore rfl rfl ?_
      refine ezw_goto rfl rfl ?_
      refine ezw_iload rfl rfl ?_
      refine ezw_if_eq rfl rfl ⟨by decide, by decide⟩ (fun h203_67 => ?_) (fun h203_67 => absurd h203_67 (by omega))
      refine ezw_iload rfl rfl ?_
      refine ezw_if_eq rfl rfl ⟨by decide, by decide⟩ (fun h213_67 => ?_) (fun h213_67 => absurd h213_67 (by omega))
      exact ezw_return rfl rfl ⟨F, rfl, hS, (fun _ _ _ => rfl), (by
            unfold ezp_cf
            repeat (first | rw [if_pos (by omega)] | rw [if_neg (by omega)])
            exact st), rfl⟩
    · refine ezw_iconst (1) rfl rfl ?_
      refine ezw_goto rfl rfl ?_
      refine ezw_istore rfl rfl ?_
      refine ezw_goto rfl rfl ?_
      refine ezw_iload rfl rfl ?_
      refine ezw_if_eq rfl rfl ⟨by decide, by decide⟩ (fun h203_67 => ?_) (fun h203_67 => absurd h203_67 (by omega))
      refine ezw_iload rfl rfl ?_
      refine ezw_if_eq rfl rfl ⟨by decide, by decide⟩ (fun h213_67 => absurd h213_67 (by omega)) (fun h213_67 => ?_)
      refine ezw_aload_n rfl rfl ?_
      refine ezw_iconst (5) rfl rfl ?_
      refine ezw_call0_1 rfl (by omega) (ezu_at rfl) rfl rfl rfl rfl (ezt_m50_1 hS (by omega) ⟨by decide, by decide⟩ hn hc tp st (by omega)) ?_
      rintro _ _ ⟨F68, rfl, hS, nF68, st_68, rfl⟩
      exact ezw_return rfl rfl ⟨F68, rfl, hS, (fun p j h => by rw [nF68 p j (by omega)]), (by
            unfold ezp_cf
            repeat (first | rw [if_pos (by omega)] | rw [if_neg (by omega)])
            exact st_68), rfl⟩
  by_cases q69 : a3 = (21)
  · refine ezw_tableswitchE (v := 21) (p := 174) q69 rfl (by rfl) ?_
    refine ezw_aload_n rfl rfl ?_
    refine ezy_get_i hS rfl rfl rfl rfl rfl rfl (fun u70 hu70 ku70 eu70 => ?_)
    replace eu70 := eu70.symm
    subst eu70
    refine ezw_iload_n rfl rfl ?_
    refine ezw_call3_2 rfl (by omega) rfl rfl (ezt_m49 hS (by omega) hu70 ha3) ?_
    rintro _ _ ⟨rfl, u72, hu72, v_71, rfl⟩
    have hdi := di.2 a3 (by omega) (by omega)
    have hbt := v_71 (by omega) (by omega)
    rw [w3] at hdi hbt
    refine ezw_iconst (1) rfl rfl ?_
    refine ezw_icmp_ne rfl rfl hu72 ⟨by decide, by decide⟩ (fun h183_72 => ?_) (fun h183_72 => ?_)
    · refine ezw_iconst (0) rfl rfl ?_
      refine ezw_istore rfl rfl ?_
      refine ezw_goto rfl rfl ?_
      refine ezw_iload rfl rfl ?_
      refine ezw_if_eq rfl rfl ⟨by decide, by decide⟩ (fun h203_72 => ?_) (fun h203_72 => absurd h203_72 (by omega))
      refine ezw_iload rfl rfl ?_
      refine ezw_if_eq rfl rfl ⟨by decide, by decide⟩ (fun h213_72 => ?_) (fun h213_72 => absurd h213_72 (by omega))
      exact ezw_return rfl rfl ⟨F, rfl, hS, (fun _ _ _ => rfl), (by
            unfold ezp_cf
            repeat (first | rw [if_pos (by omega)] | rw [if_neg (by omega)])
            exact st), rfl⟩
    · refine ezw_iconst (1) rfl rfl ?_
      refine ezw_goto rfl rfl ?_
      refine ezw_istore rfl rfl ?_
      refine ezw_goto rfl rfl ?_
      refine ezw_iload rfl rfl ?_
      refine ezw_if_eq rfl rfl ⟨by decide, by decide⟩ (fun h203_72 => absurd h203_72 (by omega)) (fun h203_72 => ?_)
      refine ezw_aload_n rfl rfl ?_
      refine ezw_iconst (3) rfl rfl ?_
      refine ezw_call0_1 rfl (by omega) (ezu_at rfl) rfl rfl rfl rfl (ezt_m50_1 hS (by omega) ⟨by decide, by decide⟩ hn hc tp st (by omega)) ?_
      rintro _ _ ⟨F73, rfl, hS, nF73, st_73, rfl⟩
      refine ezw_iload rfl rfl ?_
      refine ezw_if_eq rfl rfl ⟨by decide, by decide⟩ (fun h213_73 => ?_) (fun h213_73 => absurd h213_73 (by omega))
      exact ezw_return rfl rfl ⟨F73, rfl, hS, (fun p j h => by rw [nF73 p j (by omega)]), (by
            unfold ezp_cf
            repeat (first | rw [if_pos (by omega)] | rw [if_neg (by omega)])
            exact st_73), rfl⟩
  by_cases q74 : a3 = (22)
  · refine ezw_tableswitchE (v := 22) (p := 174) q74 rfl (by rfl) ?_
    refine ezw_aload_n rfl rfl ?_
    refine ezy_get_i hS rfl rfl rfl rfl rfl rfl (fun u75 hu75 ku75 eu75 => ?_)
    replace eu75 := eu75.symm
    subst eu75
    refine ezw_iload_n rfl rfl ?_
    refine ezw_call3_2 rfl (by omega) rfl rfl (ezt_m49 hS (by omega) hu75 ha3) ?_
    rintro _ _ ⟨rfl, u77, hu77, v_76, rfl⟩
    have hdi := di.2 a3 (by omega) (by omega)
    have hbt := v_76 (by omega) (by omega)
    rw [w3] at hdi hbt
    refine ezw_iconst (1) rfl rfl ?_
    refine ezw_icmp_ne rfl rfl hu77 ⟨by decide, by decide⟩ (fun h183_77 => ?_) (fun h183_77 => ?_)
    · refine ezw_iconst (0) rfl rfl ?_
      refine ezw_istore rfl rfl ?_
      refine ezw_goto rfl rfl ?_
      refine ezw_iload rfl rfl ?_
      refine ezw_if_eq rfl rfl ⟨by decide, by decide⟩ (fun h203_77 => ?_) (fun h203_77 => absurd h203_77 (by omega))
      refine ezw_iload rfl rfl ?_
      refine ezw_if_eq rfl rfl ⟨by decide, by decide⟩ (fun h213_77 => ?_) (fun h213_77 => absurd h213_77 (by omega))
      exact ezw_return rfl rfl ⟨F, rfl, hS, (fun _ _ _ => rfl), (by
            unfold ezp_cf
            repeat (first | rw [if_pos (by omega)] | rw [if_neg (by omega)])
            exact st), rfl⟩
    · refine ezw_iconst (1) rfl rfl ?_
      refine ezw_goto rfl rfl ?_
      refine ezw_istore rfl rfl ?_
      refine ezw_goto rfl rfl ?_
      refine ezw_iload rfl rfl ?_
      refine ezw_if_eq rfl rfl ⟨by decide, by decide⟩ (fun h203_77 => absurd h203_77 (by omega)) (fun h203_77 => ?_)
      refine ezw_aload_n rfl rfl ?_
      refine ezw_iconst (3) rfl rfl ?_
      refine ezw_call0_1 rfl (by omega) (ezu_at rfl) rfl rfl rfl rfl (ezt_m50_1 hS (by omega) ⟨by decide, by decide⟩ hn hc tp st (by omega)) ?_
      rintro _ _ ⟨F78, rfl, hS, nF78, st_78, rfl⟩
      refine ezw_iload rfl rfl ?_
      refine ezw_if_eq rfl rfl ⟨by decide, by decide⟩ (fun h213_78 => ?_) (fun h213_78 => absurd h213_78 (by omega))
      exact ezw_return rfl rfl ⟨F78, rfl, hS, (fun p j h => by rw [nF78 p j (by omega)]), (by
            unfold ezp_cf
            repeat (first | rw [if_pos (by omega)] | rw [if_neg (by omega)])
            exact st_78), rfl⟩
  refine ezw_tableswitch (p := 196) rfl (ezs_swd ha3 (And.intro (And.intro ⟨by decide, by decide⟩ (fun z => q1 z.symm)) (And.intro (And.intro ⟨by decide, by decide⟩ (fun z => q4 z.symm)) (And.intro (And.intro ⟨by decide, by decide⟩ (fun z => q6 z.symm)) (And.intro (And.intro ⟨by decide, by decide⟩ (fun z => q8 z.symm)) (And.intro (And.intro ⟨by decide, by decide⟩ (fun z => q10 z.symm)) (And.intro (And.intro ⟨by decide, by decide⟩ (fun z => q12 z.symm)) (And.intro (And.intro ⟨by decide, by decide⟩ (fun z => q17 z.symm)) (And.intro (And.intro ⟨by decide, by decide⟩ (fun z => q22 z.symm)) (And.intro (And.intro ⟨by decide, by decide⟩ (fun z => q24 z.symm)) (And.intro (And.intro ⟨by decide, by decide⟩ (fun z => q26 z.symm)) (And.intro (And.intro ⟨by decide, by decide⟩ (fun z => q29 z.symm)) (And.intro (And.intro ⟨by decide, by decide⟩ (fun z => q31 z.symm)) (And.intro (And.intro ⟨by decide, by decide⟩ (fun z => q33 z.symm)) (And.intro (And.intro ⟨by decide, by decide⟩ (fun z => q34 z.symm)) (And.intro (And.intro ⟨by decide, by decide⟩ (fun z => q39 z.symm)) (And.intro (And.intro ⟨by decide, by decide⟩ (fun z => q44 z.symm)) (And.intro (And.intro ⟨by decide, by decide⟩ (fun z => q49 z.symm)) (And.intro (And.intro ⟨by decide, by decide⟩ (fun z => q54 z.symm)) (And.intro (And.intro ⟨by decide, by decide⟩ (fun z => q56 z.symm)) (And.intro (And.intro ⟨by decide, by decide⟩ (fun z => q61 z.symm)) (And.intro (And.intro ⟨by decide, by decide⟩ (fun z => q66 z.symm)) (And.intro (And.intro ⟨by decide, by decide⟩ (fun z => q69 z.symm)) (And.intro (And.intro ⟨by decide, by decide⟩ (fun z => q74 z.symm)) True.intro))))))))))))))))))))))) rfl) ?_
  refine ezw_aload_n rfl rfl ?_
  refine ezw_iconst (1) rfl rfl ?_
  refine ezw_call0_1 rfl (by omega) (ezu_at rfl) rfl rfl rfl rfl (ezt_m50_1 hS (by omega) ⟨by decide, by decide⟩ hn hc tp st (by omega)) ?_
  rintro _ _ ⟨F79, rfl, hS, nF79, st_79, rfl⟩
  refine ezw_iload rfl rfl ?_
  refine ezw_if_eq rfl rfl ⟨by decide, by decide⟩ (fun h203_79 => ?_) (fun h203_79 => absurd h203_79 (by omega))
  refine ezw_iload rfl rfl ?_
  refine ezw_if_eq rfl rfl ⟨by decide, by decide⟩ (fun h213_79 => ?_) (fun h213_79 => absurd h213_79 (by omega))
  exact ezw_return rfl rfl ⟨F79, rfl, hS, (fun p j h => by rw [nF79 p j (by omega)]), (by
        unfold ezp_cf
        repeat (first | rw [if_pos (by omega)] | rw [if_neg (by omega)])
        exact st_79), rfl⟩
def ezt_m48_4_1_47Q (e : Bool × Bool) (F : Nat → Nat → Int) (A : Nat → Int → Int) (c : Int → Int) (n : Int) (s : Int × Int) (t : ezp_D) (a3 : Int) : Option ezq_V → (Nat → ezq_C) → Prop := fun v g' => ∃ (F' : Nat → Nat → Int), ezu_g e F' A = g' ∧ ezs_T F' A ∧ (∀ p j, ¬ (p = 1 ∧ (j = 6)) → F' p j = F p j) ∧ (ezt_ST c n (ezp_cf c t s) F') ∧ none = v
theorem ezt_m48_4_1_47 {c : Int → Int} {n : Int} {s : Int × Int} {t : ezp_D} {a3 : Int} {F : Nat → Nat → Int} {A : Nat → Int → Int} (hS : ezs_T F A) (hd : 1 ≤ d) (ha3 : ezw_in a3) (hn : F 1 2 = n) (hc : c = ezp_ch (A 2) n) (tp : ezp_tp c n) (st : ezt_ST c n s F) (tr : ezt_TR 47 t F A) (di : ezt_DI t F) (z0 : s.1 = 0) (w3 : a3 = ezp_K c s.2) : ezw_C l ρ B xa Hb D cA 48 d [ezw_p 4, ezw_p 1, ezw_p 47, ezw_i a3] (ezu_g e F A) (ezt_m48_4_1_47Q e F A c n s t a3) := by
  refine ezw_met (k := 2) rfl rfl ?_
  obtain ⟨⟨c1, c2, c3, c4⟩, ⟨d1, d2, d3, d4, d5, d6, d7, d8⟩, e3, e4, e5, e6⟩ := id tr
  have c4 : F 55 1 = t.kE := c4
  refine ezw_iconst (0) rfl rfl ?_
  refine ezw_istore rfl rfl ?_
  refine ezw_iconst (0) rfl rfl ?_
  refine ezw_istore rfl rfl ?_
  refine ezw_iload_n rfl rfl ?_
  by_cases q1 : a3 = (0)
  · refine ezw_tableswitchE (v := 0) (p := 112) q1 rfl (by rfl) ?_
    refine ezw_aload_n rfl rfl ?_
    refine ezy_get_i hS rfl rfl rfl rfl rfl rfl (fun u2 hu2 ku2 eu2 => ?_)
    replace eu2 := eu2.symm
    subst eu2
    refine ezw_bipush (8) rfl rfl ?_
    refine ezw_icmp_lt rfl rfl hu2 ⟨by decide, by decide⟩ (fun h118_2 => ?_) (fun h118_2 => ?_)
    · refine ezw_iconst (0) rfl rfl ?_
      refine ezw_istore rfl rfl ?_
      refine ezw_goto rfl rfl ?_
      refine ezw_iload rfl rfl ?_
      refine ezw_if_eq rfl rfl ⟨by decide, by decide⟩ (fun h203_2 => ?_) (fun h203_2 => absurd h203_2 (by omega))
      refine ezw_iload rfl rfl ?_
      refine ezw_if_eq rfl rfl ⟨by decide, by decide⟩ (fun h213_2 => ?_) (fun h213_2 => absurd h213_2 (by omega))
      exact ezw_return rfl rfl ⟨F, rfl, hS, (fun _ _ _ => rfl), (by
            unfold ezp_cf
            repeat (first | rw [if_pos (by omega)] | rw [if_neg (by omega)])
            exact st), rfl⟩
    · refine ezw_iconst (1) rfl rfl ?_
      refine ezw_goto rfl rfl ?_
      refine ezw_istore rfl rfl ?_
      refine ezw_goto rfl rfl ?_
      refine ezw_iload rfl rfl ?_
      refine ezw_if_eq rfl rfl ⟨by decide, by decide⟩ (fun h203_2 => ?_) (fun h203_2 => absurd h203_2 (by omega))
      refine ezw_iload rfl rfl ?_
      refine ezw_if_eq rfl rfl ⟨by decide, by decide⟩ (fun h213_2 => absurd h213_2 (by omega)) (fun h213_2 => ?_)
      refine ezw_aload_n rfl rfl ?_
      refine ezw_iconst (5) rfl rfl ?_
      refine ezw_call0_1 rfl (by omega) (ezu_at rfl) rfl rfl rfl rfl (ezt_m50_1 hS (by omega) ⟨by decide, by decide⟩ hn hc tp st (by omega)) ?_
      rintro _ _ ⟨F3, rfl, hS, nF3, st_3, rfl⟩
      exact ezw_return rfl rfl ⟨F3, rfl, hS, (fun p j h => by rw [nF3 p j (by omega)]), (by
            unfold ezp_cf
            repeat (first | rw [if_pos (by omega)] | rw [if_neg (by omega)])
            exact st_3), rfl⟩
  by_cases q4 : a3 = (1)
  · refine ezw_tableswitchE (v := 1) (p := 196) q4 rfl (by rfl) ?_
    refine ezw_aload_n rfl rfl ?_
    refine ezw_iconst (1) rfl rfl ?_
    refine ezw_call0_1 rfl (by omega) (ezu_at rfl) rfl rfl rfl rfl (ezt_m50_1 hS (by omega) ⟨by decide, by decide⟩ hn hc tp st (by omega)) ?_
    rintro _ _ ⟨F5, rfl, hS, nF5, st_5, rfl⟩
    refine ezw_iload rfl rfl ?_
    refine ezw_if_eq rfl rfl ⟨by decide, by decide⟩ (fun h203_5 => ?_) (fun h203_5 => absurd h203_5 (by omega))
    refine ezw_iload rfl rfl ?_
    refine ezw_if_eq rfl rfl ⟨by decide, by decide⟩ (fun h213_5 => ?_) (fun h213_5 => absurd h213_5 (by omega))
    exact ezw_return rfl rfl ⟨F5, rfl, hS, (fun p j h => by rw [nF5 p j (by omega)]), (by
          unfold ezp_cf
          repeat (first | rw [if_pos (by omega)] | rw [if_neg (by omega)])
          exact st_5), rfl⟩
  by_cases q6 : a3 = (2)
  · refine ezw_tableswitchE (v := 2) (p := 196) q6 rfl (by rfl) ?_
    refine ezw_aload_n rfl rfl ?_
    refine ezw_iconst (1) rfl rfl ?_
    refine ezw_call0_1 rfl (by omega) (ezu_at rfl) rfl rfl rfl rfl (ezt_m50_1 hS (by omega) ⟨by decide, by decide⟩ hn hc tp st (by omega)) ?_
    rintro _ _ ⟨F7, rfl, hS, nF7, st_7, rfl⟩
    refine ezw_iload rfl rfl ?_
    refine ezw_if_eq rfl rfl ⟨by decide, by decide⟩ (fun h203_7 => ?_) (fun h203_7 => absurd h203_7 (by omega))
    refine ezw_iload rfl rfl ?_
    refine ezw_if_eq rfl rfl ⟨by decide, by decide⟩ (fun h213_7 => ?_) (fun h213_7 => absurd h213_7 (by omega))
    exact ezw_return rfl rfl ⟨F7, rfl, hS, (fun p j h => by rw [nF7 p j (by omega)]), (by
          unfold ezp_cf
          repeat (first | rw [if_pos (by omega)] | rw [if_neg (by omega)])
          exact st_7), rfl⟩
  by_cases q8 : a3 = (3)
  · refine ezw_tableswitchE (v := 3) (p := 196) q8 rfl (by rfl) ?_
    refine ezw_aload_n rfl rfl ?_
    refine ezw_iconst (1) rfl rfl ?_
    refine ezw_call0_1 rfl (by omega) (ezu_at rfl) rfl rfl rfl rfl (ezt_m50_1 hS (by omega) ⟨by decide, by decide⟩ hn hc tp st (by omega)) ?_
    rintro _ _ ⟨F9, rfl, hS, nF9, st_9, rfl⟩
    refine ezw_iload rfl rfl ?_
    refine ezw_if_eq rfl rfl ⟨by decide, by decide⟩ (fun h203_9 => ?_) (fun h203_9 => absurd h203_9 (by omega))
    refine ezw_iload rfl rfl ?_
    refine ezw_if_eq rfl rfl ⟨by decide, by decide⟩ (fun h213_9 => ?_) (fun h213_9 => absurd h213_9 (by omega))
    exact ezw_return rfl rfl ⟨F9, rfl, hS, (fun p j h => by rw [nF9 p j (by omega)]), (by
          unfold ezp_cf
          repeat (first | rw [if_pos (by omega)] | rw [if_neg (by omega)])
          exact st_9), rfl⟩
  by_cases q10 : a3 = (4)
  · refine ezw_tableswitchE (v := 4) (p := 196) q10 rfl (by rfl) ?_
    refine ezw_aload_n rfl rfl ?_
    refine ezw_iconst (1) rfl rfl ?_
    refine ezw_call0_1 rfl (by omega) (ezu_at rfl) rfl rfl rfl rfl (ezt_m50_1 hS (by omega) ⟨by decide, by decide⟩ hn hc tp st (by omega)) ?_
    rintro _ _ ⟨F11, rfl, hS, nF11, st_11, rfl⟩
    refine ezw_iload rfl rfl ?_
    refine ezw_if_eq rfl rfl ⟨by decide, by decide⟩ (fun h203_11 => ?_) (fun h203_11 => absurd h203_11 (by omega))
    refine ezw_iload rfl rfl ?_
    refine ezw_if_eq rfl rfl ⟨by decide, by decide⟩ (fun h213_11 => ?_) (fun h213_11 => absurd h213_11 (by omega))
    exact ezw_return rfl rfl ⟨F11, rfl, hS, (fun p j h => by rw [nF11 p j (by omega)]), (by
          unfold ezp_cf
          repeat (first | rw [if_pos (by omega)] | rw [if_neg (by omega)])
          exact st_11), rfl⟩
  by_cases q12 : a3 = (5)
  · refine ezw_tableswitchE (v := 5) (p := 174) q12 rfl (by rfl) ?_
    refine ezw_aload_n rfl rfl ?_
    refine ezy_get_i hS rfl rfl rfl rfl rfl rfl (fun u13 hu13 ku13 eu13 => ?_)
    replace eu13 := eu13.symm
    subst eu13
    refine ezw_iload_n rfl rfl ?_
    refine ezw_call3_2 rfl (by omega) rfl rfl (ezt_m49 hS (by omega) hu13 ha3) ?_
    rintro _ _ ⟨rfl, u15, hu15, v_14, rfl⟩
    have hdi := di.2 a3 (by omega) (by omega)
    have hbt := v_14 (by omega) (by omega)
    rw [w3] at hdi hbt
    refine ezw_iconst (1) rfl rfl ?_
    refine ezw_icmp_ne rfl rfl hu15 ⟨by decide, by decide⟩ (fun h183_15 => ?_) (fun h183_15 => ?_)
    · refine ezw_iconst (0) rfl rfl ?_
      refine ezw_istore rfl rfl ?_
      refine ezw_goto rfl rfl ?_
      refine ezw_iload rfl rfl ?_
      refine ezw_if_eq rfl rfl ⟨by decide, by decide⟩ (fun h203_15 => ?_) (fun h203_15 => absurd h203_15 (by omega))
      refine ezw_iload rfl rfl ?_
      refine ezw_if_eq rfl rfl ⟨by decide, by decide⟩ (fun h213_15 => ?_) (fun h213_15 => absurd h213_15 (by omega))
      exact ezw_return rfl rfl ⟨F, rfl, hS, (fun _ _ _ => rfl), (by
            unfold ezp_cf
            repeat (first | rw [if_pos (by omega)] | rw [if_neg (by omega)])
            exact st), rfl⟩
    · refine ezw_iconst (1) rfl rfl ?_
      refine ezw_goto rfl rfl ?_
      refine ezw_istore rfl rfl ?_
      refine ezw_goto rfl rfl ?_
      refine ezw_iload rfl rfl ?_
      refine ezw_if_eq rfl rfl ⟨by decide, by decide⟩ (fun h203_15 => absurd h203_15 (by omega)) (fun h203_15 => ?_)
      refine ezw_aload_n rfl rfl ?_
      refine ezw_iconst (3) rfl rfl ?_
      refine ezw_call0_1 rfl (by omega) (ezu_at rfl) rfl rfl rfl rfl (ezt_m50_1 hS (by omega) ⟨by decide, by decide⟩ hn hc tp st (by omega)) ?_
      rintro _ _ ⟨F16, rfl, hS, nF16, st_16, rfl⟩
      refine ezw_iload rfl rfl ?_
      refine ezw_if_eq rfl rfl ⟨by decide, by decide⟩ (fun h213_16 => ?_) (fun h213_16 => absurd h213_16 (by omega))
      exact ezw_return rfl rfl ⟨F16, rfl, hS, (fun p j h => by rw [nF16 p j (by omega)]), (by
            unfold ezp_cf
            repeat (first | rw [if_pos (by omega)] | rw [if_neg (by omega)])
            exact st_16), rfl⟩
  by_cases q17 : a3 = (6)
  · refine ezw_tableswitchE (v := 6) (p := 174) q17 rfl (by rfl) ?_
    refine ezw_aload_n rfl rfl ?_
    refine ezy_get_i hS rfl rfl rfl rfl rfl rfl (fun u18 hu18 ku18 eu18 => ?_)
    replace eu18 := eu18.symm
    subst eu18
    refine ezw_iload_n rfl rfl ?_
    refine ezw_call3_2 rfl (by omega) rfl rfl (ezt_m49 hS (by omega) hu18 ha3) ?_
    rintro _ _ ⟨rfl, u20, hu20, v_19, rfl⟩
    have hdi := di.2 a3 (by omega) (by omega)
    have hbt := v_19 (by omega) (by omega)
    rw [w3] at hdi hbt
    refine ezw_iconst (1) rfl rfl ?_
    refine ezw_icmp_ne rfl rfl hu20 ⟨by decide, by decide⟩ (fun h183_20 => ?_) (fun h183_20 => ?_)
    · refine ezw_iconst (0) rfl rfl ?_
      refine ezw_istore rfl rfl ?_
      refine ezw_goto rfl rfl ?_
      refine ezw_iload rfl rfl ?_
      refine ezw_if_eq rfl rfl ⟨by decide, by decide⟩ (fun h203_20 => ?_) (fun h203_20 => absurd h203_20 (by omega))
      refine ezw_iload rfl rfl ?_
      refine ezw_if_eq rfl rfl ⟨by decide, by decide⟩ (fun h213_20 => ?_) (fun h213_20 => absurd h213_20 (by omega))
      exact ezw_return rfl rfl ⟨F, rfl, hS, (fun _ _ _ => rfl), (by
            unfold ezp_cf
            repeat (first | rw [if_pos (by omega)] | rw [if_neg (by omega)])
            exact st), rfl⟩
    · refine ezw_iconst (1) rfl rfl ?_
      refine ezw_goto rfl rfl ?_
      refine ezw_istore rfl rfl ?_
      refine ezw_goto rfl rfl ?_
      refine ezw_iload rfl rfl ?_
      refine ezw_if_eq rfl rfl ⟨by decide, by decide⟩ (fun h203_20 => absurd h203_20 (by omega)) (fun h203_20 => ?_)
      refine ezw_aload_n rfl rfl ?_
      refine ezw_iconst (3) rfl rfl ?_
      refine ezw_call0_1 rfl (by omega) (ezu_at rfl) rfl rfl rfl rfl (ezt_m50_1 hS (by omega) ⟨by decide, by decide⟩ hn hc tp st (by omega)) ?_
      rintro _ _ ⟨F21, rfl, hS, nF21, st_21, rfl⟩
      refine ezw_iload rfl rfl ?_
      refine ezw_if_eq rfl rfl ⟨by decide, by decide⟩ (fun h213_21 => ?_) (fun h213_21 => absurd h213_21 (by omega))
      exact ezw_return rfl rfl ⟨F21, rfl, hS, (fun p j h => by rw [nF21 p j (by omega)]), (by
            unfold ezp_cf
            repeat (first | rw [if_pos (by omega)] | rw [if_neg (by omega)])
            exact st_21), rfl⟩
  by_cases q22 : a3 = (7)
  · refine ezw_tableswitchE (v := 7) (p := 196) q22 rfl (by rfl) ?_
    refine ezw_aload_n rfl rfl ?_
    refine ezw_iconst (1) rfl rfl ?_
    refine ezw_call0_1 rfl (by omega) (ezu_at rfl) rfl rfl rfl rfl (ezt_m50_1 hS (by omega) ⟨by decide, by decide⟩ hn hc tp st (by omega)) ?_
    rintro _ _ ⟨F23, rfl, hS, nF23, st_23, rfl⟩
    refine ezw_iload rfl rfl ?_
    refine ezw_if_eq rfl rfl ⟨by decide, by decide⟩ (fun h203_23 => ?_) (fun h203_23 => absurd h203_23 (by omega))
    refine ezw_iload rfl rfl ?_
    refine ezw_if_eq rfl rfl ⟨by decide, by decide⟩ (fun h213_23 => ?_) (fun h213_23 => absurd h213_23 (by omega))
    exact ezw_return rfl rfl ⟨F23, rfl, hS, (fun p j h => by rw [nF23 p j (by omega)]), (by
          unfold ezp_cf
          repeat (first | rw [if_pos (by omega)] | rw [if_neg (by omega)])
          exact st_23), rfl⟩
  by_cases q24 : a3 = (8)
  · refine ezw_tableswitchE (v := 8) (p := 196) q24 rfl (by rfl) ?_
    refine ezw_aload_n rfl rfl ?_
    refine ezw_iconst (1) rfl rfl ?_
    refine ezw_call0_1 rfl (by omega) (ezu_at rfl) rfl rfl rfl rfl (ezt_m50_1 hS (by omega) ⟨by decide, by decide⟩ hn hc tp st (by omega)) ?_
    rintro _ _ ⟨F25, rfl, hS, nF25, st_25, rfl⟩
    refine ezw_iload rfl rfl ?_
    refine ezw_if_eq rfl rfl ⟨by decide, by decide⟩ (fun h203_25 => ?_) (fun h203_25 => absurd h203_25 (by omega))
    refine ezw_iload rfl rfl ?_
    refine ezw_if_eq rfl rfl ⟨by decide, by decide⟩ (fun h213_25 => ?_) (fun h213_25 => absurd h213_25 (by omega))
    exact ezw_return rfl rfl ⟨F25, rfl, hS, (fun p j h => by rw [nF25 p j (by omega)]), (by
          unfold ezp_cf
          repeat (first | rw [if_pos (by omega)] | rw [if_neg (by omega)])
          exact st_25), rfl⟩
  by_cases q26 : a3 = (9)
  · refine ezw_tableswitchE (v := 9) (p := 131) q26 rfl (by rfl) ?_
    refine ezw_aload_n rfl rfl ?_
    refine ezy_get_i hS rfl rfl rfl rfl rfl rfl (fun u27 hu27 ku27 eu27 => ?_)
    replace eu27 := eu27.symm
    subst eu27
    refine ezw_iconst (4) rfl rfl ?_
    refine ezw_icmp_lt rfl rfl hu27 ⟨by decide, by decide⟩ (fun h136_27 => ?_) (fun h136_27 => ?_)
    · refine ezw_iconst (0) rfl rfl ?_
      refine ezw_istore rfl rfl ?_
      refine ezw_goto rfl rfl ?_
      refine ezw_iload rfl rfl ?_
      refine ezw_if_eq rfl rfl ⟨by decide, by decide⟩ (fun h203_27 => ?_) (fun h203_27 => absurd h203_27 (by omega))
      refine ezw_iload rfl rfl ?_
      refine ezw_if_eq rfl rfl ⟨by decide, by decide⟩ (fun h213_27 => ?_) (fun h213_27 => absurd h213_27 (by omega))
      exact ezw_return rfl rfl ⟨F, rfl, hS, (fun _ _ _ => rfl), (by
            unfold ezp_cf
            repeat (first | rw [if_pos (by omega)] | rw [if_neg (by omega)])
            exact st), rfl⟩
    · refine ezw_iconst (1) rfl rfl ?_
      refine ezw_goto rfl rfl ?_
      refine ezw_istore rfl rfl ?_
      refine ezw_goto rfl rfl ?_
      refine ezw_iload rfl rfl ?_
      refine ezw_if_eq rfl rfl ⟨by decide, by decide⟩ (fun h203_27 => ?_) (fun h203_27 => absurd h203_27 (by omega))
      refine ezw_iload rfl rfl ?_
      refine ezw_if_eq rfl rfl ⟨by decide, by decide⟩ (fun h213_27 => absurd h213_27 (by omega)) (fun h213_27 => ?_)
      refine ezw_aload_n rfl rfl ?_
      refine ezw_iconst (5) rfl rfl ?_
      refine ezw_call0_1 rfl (by omega) (ezu_at rfl) rfl rfl rfl rfl (ezt_m50_1 hS (by omega) ⟨by decide, by decide⟩ hn hc tp st (by omega)) ?_
      rintro _ _ ⟨F28, rfl, hS, nF28, st_28, rfl⟩
      exact ezw_return rfl rfl ⟨F28, rfl, hS, (fun p j h => by rw [nF28 p j (by omega)]), (by
            unfold ezp_cf
            repeat (first | rw [if_pos (by omega)] | rw [if_neg (by omega)])
            exact st_28), rfl⟩
  by_cases q29 : a3 = (10)
  · refine ezw_tableswitchE (v := 10) (p := 196) q29 rfl (by rfl) ?_
    refine ezw_aload_n rfl rfl ?_
    refine ezw_iconst (1) rfl rfl ?_
    refine ezw_call0_1 rfl (by omega) (ezu_at rfl) rfl rfl rfl rfl (ezt_m50_1 hS (by omega) ⟨by decide, by decide⟩ hn hc tp st (by omega)) ?_
    rintro _ _ ⟨F30, rfl, hS, nF30, st_30, rfl⟩
    refine ezw_iload rfl rfl ?_
    refine ezw_if_eq rfl rfl ⟨by decide, by decide⟩ (fun h203_30 => ?_) (fun h203_30 => absurd h203_30 (by omega))
    refine ezw_iload rfl rfl ?_
    refine ezw_if_eq rfl rfl ⟨by decide, by decide⟩ (fun h213_30 => ?_) (fun h213_30 => absurd h213_30 (by omega))
    exact ezw_return rfl rfl ⟨F30, rfl, hS, (fun p j h => by rw [nF30 p j (by omega)]), (by
          unfold ezp_cf
          repeat (first | rw [if_pos (by omega)] | rw [if_neg (by omega)])
          exact st_30), rfl⟩
  by_cases q31 : a3 = (11)
  · refine ezw_tableswitchE (v := 11) (p := 196) q31 rfl (by rfl) ?_
    refine ezw_aload_n rfl rfl ?_
    refine ezw_iconst (1) rfl rfl ?_
    refine ezw_call0_1 rfl (by omega) (ezu_at rfl) rfl rfl rfl rfl (ezt_m50_1 hS (by omega) ⟨by decide, by decide⟩ hn hc tp st (by omega)) ?_
    rintro _ _ ⟨F32, rfl, hS, nF32, st_32, rfl⟩
    refine ezw_iload rfl rfl ?_
    refine ezw_if_eq rfl rfl ⟨by decide, by decide⟩ (fun h203_32 => ?_) (fun h203_32 => absurd h203_32 (by omega))
    refine ezw_iload rfl rfl ?_
    refine ezw_if_eq rfl rfl ⟨by decide, by decide⟩ (fun h213_32 => ?_) (fun h213_32 => absurd h213_32 (by omega))
    exact ezw_return rfl rfl ⟨F32, rfl, hS, (fun p j h => by rw [nF32 p j (by omega)]), (by
          unfold ezp_cf
          repeat (first | rw [if_pos (by omega)] | rw [if_neg (by omega)])
          exact st_32), rfl⟩
  by_cases q33 : a3 = (12)
  · refine ezw_tableswitchE (v := 12) (p := 171) q33 rfl (by rfl) ?_
    refine ezw_goto rfl rfl ?_
    refine ezw_iload rfl rfl ?_
    refine ezw_if_eq rfl rfl ⟨by decide, by decide⟩ (fun h203_33 => ?_) (fun h203_33 => absurd h203_33 (by omega))
    refine ezw_iload rfl rfl ?_
    refine ezw_if_eq rfl rfl ⟨by decide, by decide⟩ (fun h213_33 => ?_) (fun h213_33 => absurd h213_33 (by omega))
    exact ezw_return rfl rfl ⟨F, rfl, hS, (fun _ _ _ => rfl), (by
          unfold ezp_cf
          repeat (first | rw [if_pos (by omega)] | rw [if_neg (by omega)])
          exact st), rfl⟩
  by_cases q34 : a3 = (13)
  · refine ezw_tableswitchE (v := 13) (p := 174) q34 rfl (by rfl) ?_
    refine ezw_aload_n rfl rfl ?_
    refine ezy_get_i hS rfl rfl rfl rfl rfl rfl (fun u35 hu35 ku35 eu35 => ?_)
    replace eu35 := eu35.symm
    subst eu35
    refine ezw_iload_n rfl rfl ?_
    refine ezw_call3_2 rfl (by omega) rfl rfl (ezt_m49 hS (by omega) hu35 ha3) ?_
    rintro _ _ ⟨rfl, u37, hu37, v_36, rfl⟩
    have hdi := di.2 a3 (by omega) (by omega)
    have hbt := v_36 (by omega) (by omega)
    rw [w3] at hdi hbt
    refine ezw_iconst (1) rfl rfl ?_
    refine ezw_icmp_ne rfl rfl hu37 ⟨by decide, by decide⟩ (fun h183_37 => ?_) (fun h183_37 => ?_)
    · refine ezw_iconst (0) rfl rfl ?_
      refine ezw_istore rfl rfl ?_
      refine ezw_goto rfl rfl ?_
      refine ezw_iload rfl rfl ?_
      refine ezw_if_eq rfl rfl ⟨by decide, by decide⟩ (fun h203_37 => ?_) (fun h203_37 => absurd h203_37 (by omega))
      refine ezw_iload rfl rfl ?_
      refine ezw_if_eq rfl rfl ⟨by decide, by decide⟩ (fun h213_37 => ?_) (fun h213_37 => absurd h213_37 (by omega))
      exact ezw_return rfl rfl ⟨F, rfl, hS, (fun _ _ _ => rfl), (by
            unfold ezp_cf
            repeat (first | rw [if_pos (by omega)] | rw [if_neg (by omega)])
            exact st), rfl⟩
    · refine ezw_iconst (1) rfl rfl ?_
      refine ezw_goto rfl rfl ?_
      refine ezw_istore rfl rfl ?_
      refine ezw_goto rfl rfl ?_
      refine ezw_iload rfl rfl ?_
      refine ezw_if_eq rfl rfl ⟨by decide, by decide⟩ (fun h203_37 => absurd h203_37 (by omega)) (fun h203_37 => ?_)
      refine ezw_aload_n rfl rfl ?_
      refine ezw_iconst (3) rfl rfl ?_
      refine ezw_call0_1 rfl (by omega) (ezu_at rfl) rfl rfl rfl rfl (ezt_m50_1 hS (by omega) ⟨by decide, by decide⟩ hn hc tp st (by omega)) ?_
      rintro _ _ ⟨F38, rfl, hS, nF38, st_38, rfl⟩
      refine ezw_iload rfl rfl ?_
      refine ezw_if_eq rfl rfl ⟨by decide, by decide⟩ (fun h213_38 => ?_) (fun h213_38 => absurd h213_38 (by omega))
      exact ezw_return rfl rfl ⟨F38, rfl, hS, (fun p j h => by rw [nF38 p j (by omega)]), (by
            unfold ezp_cf
            repeat (first | rw [if_pos (by omega)] | rw [if_neg (by omega)])
            exact st_38), rfl⟩
  by_cases q39 : a3 = (14)
  · refine ezw_tableswitchE (v := 14) (p := 174) q39 rfl (by rfl) ?_
    refine ezw_aload_n rfl rfl ?_
    refine ezy_get_i hS rfl rfl rfl rfl rfl rfl (fun u40 hu40 ku40 eu40 => ?_)
    replace eu40 := eu40.symm
    subst eu40
    refine ezw_iload_n rfl rfl ?_
    refine ezw_call3_2 rfl (by omega) rfl rfl (ezt_m49 hS (by omega) hu40 ha3) ?_
    rintro _ _ ⟨rfl, u42, hu42, v_41, rfl⟩
    have hdi := di.2 a3 (by omega) (by omega)
    have hbt := v_41 (by omega) (by omega)
    rw [w3] at hdi hbt
    refine ezw_iconst (1) rfl rfl ?_
    refine ezw_icmp_ne rfl rfl hu42 ⟨by decide, by decide⟩ (fun h183_42 => ?_) (fun h183_42 => ?_)
    · refine ezw_iconst (0) rfl rfl ?_
      refine ezw_istore rfl rfl ?_
      refine ezw_goto rfl rfl ?_
      refine ezw_iload rfl rfl ?_
      refine ezw_if_eq rfl rfl ⟨by decide, by decide⟩ (fun h203_42 => ?_) (fun h203_42 => absurd h203_42 (by omega))
      refine ezw_iload rfl rfl ?_
      refine ezw_if_eq rfl rfl ⟨by decide, by decide⟩ (fun h213_42 => ?_) (fun h213_42 => absurd h213_42 (by omega))
      exact ezw_return rfl rfl ⟨F, rfl, hS, (fun _ _ _ => rfl), (by
            unfold ezp_cf
            repeat (first | rw [if_pos (by omega)] | rw [if_neg (by omega)])
            exact st), rfl⟩
    · refine ezw_iconst (1) rfl rfl ?_
      refine ezw_goto rfl rfl ?_
      refine ezw_istore rfl rfl ?_
      refine ezw_goto rfl rfl ?_
      refine ezw_iload rfl rfl ?_
      refine ezw_if_eq rfl rfl ⟨by decide, by decide⟩ (fun h203_42 => absurd h203_42 (by omega)) (fun h203_42 => ?_)
      refine ezw_aload_n rfl rfl ?_
      refine ezw_iconst (3) rfl rfl ?_
      refine ezw_call0_1 rfl (by omega) (ezu_at rfl) rfl rfl rfl rfl (ezt_m50_1 hS (by omega) ⟨by decide, by decide⟩ hn hc tp st (by omega)) ?_
      rintro _ _ ⟨F43, rfl, hS, nF43, st_43, rfl⟩
      refine ezw_iload rfl rfl ?_
      refine ezw_if_eq rfl rfl ⟨by decide, by decide⟩ (fun h213_43 => ?_) (fun h213_43 => absurd h213_43 (by omega))
      exact ezw_return rfl rfl ⟨F43, rfl, hS, (fun p j h => by rw [nF43 p j (by omega)]), (by
            unfold ezp_cf
            repeat (first | rw [if_pos (by omega)] | rw [if_neg (by omega)])
            exact st_43), rfl⟩
  by_cases q44 : a3 = (15)
  · refine ezw_tableswitchE (v := 15) (p := 174) q44 rfl (by rfl) ?_
    refine ezw_aload_n rfl rfl ?_
    refine ezy_get_i hS rfl rfl rfl rfl rfl rfl (fun u45 hu45 ku45 eu45 => ?_)
    replace eu45 := eu45.symm
    subst eu45
    refine ezw_iload_n rfl rfl ?_
    refine ezw_call3_2 rfl (by omega) rfl rfl (ezt_m49 hS (by omega) hu45 ha3) ?_
    rintro _ _ ⟨rfl, u47, hu47, v_46, rfl⟩
    have hdi := di.2 a3 (by omega) (by omega)
    have hbt := v_46 (by omega) (by omega)
    rw [w3] at hdi hbt
    refine ezw_iconst (1) rfl rfl ?_
    refine ezw_icmp_ne rfl rfl hu47 ⟨by decide, by decide⟩ (fun h183_47 => ?_) (fun h183_47 => ?_)
    · refine ezw_iconst (0) rfl rfl ?_
      refine ezw_istore rfl rfl ?_
      refine ezw_goto rfl rfl ?_
      refine ezw_iload rfl rfl ?_
      refine ezw_if_eq rfl rfl ⟨by decide, by decide⟩ (fun h203_47 => ?_) (fun h203_47 => absurd h203_47 (by omega))
      refine ezw_iload rfl rfl ?_
      refine ezw_if_eq rfl rfl ⟨by decide, by decide⟩ (fun h213_47 => ?_) (fun h213_47 => absurd h213_47 (by omega))
      exact ezw_return rfl rfl ⟨F, rfl, hS, (fun _ _ _ => rfl), (by
            unfold ezp_cf
            repeat (first | rw [if_pos (by omega)] | rw [if_neg (by omega)])
            exact st), rfl⟩
    · refine ezw_iconst (1) rfl rfl ?_
      refine ezw_goto rfl rfl ?_
      refine ezw_istore rfl rfl ?_
      refine ezw_goto rfl rfl ?_
      refine ezw_iload rfl rfl ?_
      refine ezw_if_eq rfl rfl ⟨by decide, by decide⟩ (fun h203_47 => absurd h203_47 (by omega)) (fun h203_47 => ?_)
      refine ezw_aload_n rfl rfl ?_
      refine ezw_iconst (3) rfl rfl ?_
      refine ezw_call0_1 rfl (by omega) (ezu_at rfl) rfl rfl rfl rfl (ezt_m50_1 hS (by omega) ⟨by decide, by decide⟩ hn hc tp st (by omega)) ?_
      rintro _ _ ⟨F48, rfl, hS, nF48, st_48, rfl⟩
      refine ezw_iload rfl rfl ?_
      refine ezw_if_eq rfl rfl ⟨by decide, by decide⟩ (fun h213_48 => ?_) (fun h213_48 => absurd h213_48 (by omega))
      exact ezw_return rfl rfl ⟨F48, rfl, hS, (fun p j h => by rw [nF48 p j (by omega)]), (by
            unfold ezp_cf
            repeat (first | rw [if_pos (by omega)] | rw [if_neg (by omega)])
            exact st_48), rfl⟩
  by_cases q49 : a3 = (16)
  · refine ezw_tableswitchE (v := 16) (p := 174) q49 rfl (by rfl) ?_
    refine ezw_aload_n rfl rfl ?_
    refine ezy_get_i hS rfl rfl rfl rfl rfl rfl (fun u50 hu50 ku50 eu50 => ?_)
    replace eu50 := eu50.symm
    subst eu50
    refine ezw_iload_n rfl rfl ?_
    refine ezw_call3_2 rfl (by omega) rfl rfl (ezt_m49 hS (by omega) hu50 ha3) ?_
    rintro _ _ ⟨rfl, u52, hu52, v_51, rfl⟩
    have hdi := di.2 a3 (by omega) (by omega)
    have hbt := v_51 (by omega) (by omega)
    rw [w3] at hdi hbt
    refine ezw_iconst (1) rfl rfl ?_
    refine ezw_icmp_ne rfl rfl hu52 ⟨by decide, by decide⟩ (fun h183_52 => ?_) (fun h183_52 => ?_)
    · refine ezw_iconst (0) rfl rfl ?_
      refine ezw_istore rfl rfl ?_
      refine ezw_goto rfl rfl ?_
      refine ezw_iload rfl rfl ?_
      refine ezw_if_eq rfl rfl ⟨by decide, by decide⟩ (fun h203_52 => ?_) (fun h203_52 => absurd h203_52 (by omega))
      refine ezw_iload rfl rfl ?_
      refine ezw_if_eq rfl rfl ⟨by decide, by decide⟩ (fun h213_52 => ?_) (fun h213_52 => absurd h213_52 (by omega))
      exact ezw_return rfl rfl ⟨F, rfl, hS, (fun _ _ _ => rfl), (by
            unfold ezp_cf
            repeat (first | rw [if_pos (by omega)] | rw [if_neg (by omega)])
            exact st), rfl⟩
    · refine ezw_iconst (1) rfl rfl ?_
      refine ezw_goto rfl rfl ?_
      refine ezw_istore rfl rfl ?_
      refine ezw_goto rfl rfl ?_
      refine ezw_iload rfl rfl ?_
      refine ezw_if_eq rfl rfl ⟨by decide, by decide⟩ (fun h203_52 => absurd h203_52 (by omega)) (fun h203_52 => ?_)
      refine ezw_aload_n rfl rfl ?_
      refine ezw_iconst (3) rfl rfl ?_
      refine ezw_call0_1 rfl (by omega) (ezu_at rfl) rfl rfl rfl rfl (ezt_m50_1 hS (by omega) ⟨by decide, by decide⟩ hn hc tp st (by omega)) ?_
      rintro _ _ ⟨F53, rfl, hS, nF53, st_53, rfl⟩
      refine ezw_iload rfl rfl ?_
      refine ezw_if_eq rfl rfl ⟨by decide, by decide⟩ (fun h213_53 => ?_) (fun h213_53 => absurd h213_53 (by omega))
      exact ezw_return rfl rfl ⟨F53, rfl, hS, (fun p j h => by rw [nF53 p j (by omega)]), (by
            unfold ezp_cf
            repeat (first | rw [if_pos (by omega)] | rw [if_neg (by omega)])
            exact st_53), rfl⟩
  by_cases q54 : a3 = (17)
  · refine ezw_tableswitchE (v := 17) (p := 196) q54 rfl (by rfl) ?_
    refine ezw_aload_n rfl rfl ?_
    refine ezw_iconst (1) rfl rfl ?_
    refine ezw_call0_1 rfl (by omega) (ezu_at rfl) rfl rfl rfl rfl (ezt_m50_1 hS (by omega) ⟨by decide, by decide⟩ hn hc tp st (by omega)) ?_
    rintro _ _ ⟨F55, rfl, hS, nF55, st_55, rfl⟩
    refine ezw_iload rfl rfl ?_
    refine ezw_if_eq rfl rfl ⟨by decide, by decide⟩ (fun h203_55 => ?_) (fun h203_55 => absurd h203_55 (by omega))
    refine ezw_iload rfl rfl ?_
    refine ezw_if_eq rfl rfl ⟨by decide, by decide⟩ (fun h213_55 => ?_) (fun h213_55 => absurd h213_55 (by omega))
    exact ezw_return rfl rfl ⟨F55, rfl, hS, (fun p j h => by rw [nF55 p j (by omega)]), (by
          unfold ezp_cf
          repeat (first | rw [if_pos (by omega)] | rw [if_neg (by omega)])
          exact st_55), rfl⟩
  by_cases q56 : a3 = (18)
  · refine ezw_tableswitchE (v := 18) (p := 174) q56 rfl (by rfl) ?_
    refine ezw_aload_n rfl rfl ?_
    refine ezy_get_i hS rfl rfl rfl rfl rfl rfl (fun u57 hu57 ku57 eu57 => ?_)
    replace eu57 := eu57.symm
    subst eu57
    refine ezw_iload_n rfl rfl ?_
    refine ezw_call3_2 rfl (by omega) rfl rfl (ezt_m49 hS (by omega) hu57 ha3) ?_
    rintro _ _ ⟨rfl, u59, hu59, v_58, rfl⟩
    have hdi := di.2 a3 (by omega) (by omega)
    have hbt := v_58 (by omega) (by omega)
    rw [w3] at hdi hbt
    refine ezw_iconst (1) rfl rfl ?_
    refine ezw_icmp_ne rfl rfl hu59 ⟨by decide, by decide⟩ (fun h183_59 => ?_) (fun h183_59 => ?_)
    · refine ezw_iconst (0) rfl rfl ?_
      refine ezw_istore rfl rfl ?_
      refine ezw_goto rfl rfl ?_
      refine ezw_iload rfl rfl ?_
      refine ezw_if_eq rfl rfl ⟨by decide, by decide⟩ (fun h203_59 => ?_) (fun h203_59 => absurd h203_59 (by omega))
      refine ezw_iload rfl rfl ?_
      refine ezw_if_eq rfl rfl ⟨by decide, by decide⟩ (fun h213_59 => ?_) (fun h213_59 => absurd h213_59 (by omega))
      exact ezw_return rfl rfl ⟨F, rfl, hS, (fun _ _ _ => rfl), (by
            unfold ezp_cf
            repeat (first | rw [if_pos (by omega)] | rw [if_neg (by omega)])
            exact st), rfl⟩
    · refine ezw_iconst (1) rfl rfl ?_
      refine ezw_goto rfl rfl ?_
      refine ezw_istore rfl rfl ?_
      refine ezw_goto rfl rfl ?_
      refine ezw_iload rfl rfl ?_
      refine ezw_if_eq rfl rfl ⟨by decide, by decide⟩ (fun h203_59 => absurd h203_59 (by omega)) (fun h203_59 => ?_)
      refine ezw_aload_n rfl rfl ?_
      refine ezw_iconst (3) rfl rfl ?_
      refine ezw_call0_1 rfl (by omega) (ezu_at rfl) rfl rfl rfl rfl (ezt_m50_1 hS (by omega) ⟨by decide, by decide⟩ hn hc tp st (by omega)) ?_
      rintro _ _ ⟨F60, rfl, hS, nF60, st_60, rfl⟩
      refine ezw_iload rfl rfl ?_
      refine ezw_if_eq rfl rfl ⟨by decide, by decide⟩ (fun h213_60 => ?_) (fun h213_60 => absurd h213_60 (by omega))
      exact ezw_return rfl rfl ⟨F60, rfl, hS, (fun p j h => by rw [nF60 p j (by omega)]), (by
            unfold ezp_cf
            repeat (first | rw [if_pos (by omega)] | rw [if_neg (by omega)])
            exact st_60), rfl⟩
  by_cases q61 : a3 = (19)
  · refine ezw_tableswitchE (v := 19) (p := 174) q61 rfl (by rfl) ?_
    refine ezw_aload_n rfl rfl ?_
    refine ezy_get_i hS rfl rfl rfl rfl rfl rfl (fun u62 hu62 ku62 eu62 => ?_)
    replace eu62 := eu62.symm
    subst eu62
    refine ezw_iload_n rfl rfl ?_
    refine ezw_call3_2 rfl (by omega) rfl rfl (ezt_m49 hS (by omega) hu62 ha3) ?_
    rintro _ _ ⟨rfl, u64, hu64, v_63, rfl⟩
    have hdi := di.2 a3 (by omega) (by omega)
    have hbt := v_63 (by omega) (by omega)
    rw [w3] at hdi hbt
    refine ezw_iconst (1) rfl rfl ?_
    refine ezw_icmp_ne rfl rfl hu64 ⟨by decide, by decide⟩ (fun h183_64 => ?_) (fun h183_64 => ?_)
    · refine ezw_iconst (0) rfl rfl ?_
      refine ezw_istore rfl rfl ?_
      refine ezw_goto rfl rfl ?_
      refine ezw_iload rfl rfl ?_
      refine ezw_if_eq rfl rfl ⟨by decide, by decide⟩ (fun h203_64 => ?_) (fun h203_64 => absurd h203_64 (by omega))
      refine ezw_iload rfl rfl ?_
      refine ezw_if_eq rfl rfl ⟨by decide, by decide⟩ (fun h213_64 => ?_) (fun h213_64 => absurd h213_64 (by omega))
      exact ezw_return rfl rfl ⟨F, rfl, hS, (fun _ _ _ => rfl), (by
            unfold ezp_cf
            repeat (first | rw [if_pos (by omega)] | rw [if_neg (by omega)])
            exact st), rfl⟩
    · refine ezw_iconst (1) rfl rfl ?_
      refine ezw_goto rfl rfl ?_
      refine ezw_istore rfl rfl ?_
      refine ezw_goto rfl rfl ?_
      refine ezw_iload rfl rfl ?_
      refine ezw_if_eq rfl rfl ⟨by decide, by decide⟩ (fun h203_64 => absurd h203_64 (by omega)) (fun h203_64 => ?_)
      refine ezw_aload_n rfl rfl ?_
      refine ezw_iconst (3) rfl rfl ?_
      refine ezw_call0_1 rfl (by omega) (ezu_at rfl) rfl rfl rfl rfl (ezt_m50_1 hS (by omega) ⟨by decide, by decide⟩ hn hc tp st (by omega)) ?_
      rintro _ _ ⟨F65, rfl, hS, nF65, st_65, rfl⟩
      refine ezw_iload rfl rfl ?_
      refine ezw_if_eq rfl rfl ⟨by decide, by decide⟩ (fun h213_65 => ?_) (fun h213_65 => absurd h213_65 (by omega))
      exact ezw_return rfl rfl ⟨F65, rfl, hS, (fun p j h => by rw [nF65 p j (by omega)]), (by
            unfold ezp_cf
            repeat (first | rw [if_pos (by omega)] | rw [if_neg (by omega)])
            exact st_65), rfl⟩
  by_cases q66 : a3 = (20)
  · refine ezw_tableswitchE (v := 20) (p := 149) q66 rfl (by rfl) ?_
    refine ezw_aload_n rfl rfl ?_
    refine ezs_getp (p := 55) rfl rfl rfl rfl rfl ?_
    refine ezy_get_i hS rfl rfl rfl rfl rfl rfl (fun u67 hu67 ku67 eu67 => ?_)
    replace eu67 := eu67.symm
    subst eu67
    refine ezw_bipush (8) rfl rfl ?_
    refine ezw_icmp_lt rfl rfl hu67 ⟨by decide, by decide⟩ (fun h158_67 => ?_) (fun h158_67 => ?_)
    · refine ezw_iconst (0) rfl rfl ?_
      refine ezw_istore rfl rfl ?_
      refine ezw_goto rfl rfl ?_
      refine ezw_iload rfl rfl ?_
      refine ezw_if_eq rfl rfl ⟨by decide, by decide⟩ (fun h203_67 => ?_) (fun h203_67 => absurd h203_67 (by omega))
      refine ezw_iload rfl rfl ?_
      refine ezw_if_eq rfl rfl ⟨by decide, by decide⟩ (fun h213_67 => ?_) (fun h213_67 => absurd h213_67 (by omega))
      exact ezw_return rfl rfl ⟨F, rfl, hS, (fun _ _ _ => rfl), (by
            unfold ezp_cf
            repeat (first | rw [if_pos (by omega)] | rw [if_neg (by omega)])
            exact st), rfl⟩
    · refine ezw_iconst (1) rfl rfl ?_
      refine ezw_goto rfl rfl ?_
      refine ezw_istore rfl rfl ?_
      refine ezw_goto rfl rfl ?_
      refine ezw_iload rfl rfl ?_
      refine ezw_if_eq rfl rfl ⟨by decide, by decide⟩ (fun h203_67 => ?_) (fun h203_67 => absurd h203_67 (by omega))
      refine ezw_iload rfl rfl ?_
      refine ezw_if_eq rfl rfl ⟨by decide, by decide⟩ (fun h213_67 => absurd h213_67 (by omega)) (fun h213_67 => ?_)
      refine ezw_aload_n rfl rfl ?_
      refine ezw_iconst (5) rfl rfl ?_
      refine ezw_call0_1 rfl (by omega) (ezu_at rfl) rfl rfl rfl rfl (ezt_m50_1 hS (by omega) ⟨by decide, by decide⟩ hn hc tp st (by omega)) ?_
      rintro _ _ ⟨F68, rfl, hS, nF68, st_68, rfl⟩
      exact ezw_return rfl rfl ⟨F68, rfl, hS, (fun p j h => by rw [nF68 p j (by omega)]), (by
            unfold ezp_cf
            repeat (first | rw [if_pos (by omega)] | rw [if_neg (by omega)])
            exact st_68), rfl⟩
  by_cases q69 : a3 = (21)
  · refine ezw_tableswitchE (v := 21) (p := 174) q69 rfl (by rfl) ?_
    refine ezw_aload_n rfl rfl ?_
    refine ezy_get_i hS rfl rfl rfl rfl rfl rfl (fun u70 hu70 ku70 eu70 => ?_)
    replace eu70 := eu70.symm
    subst eu70
    refine ezw_iload_n rfl rfl ?_
    refine ezw_call3_2 rfl (by omega) rfl rfl (ezt_m49 hS (by omega) hu70 ha3) ?_
    rintro _ _ ⟨rfl, u72, hu72, v_71, rfl⟩
    have hdi := di.2 a3 (by omega) (by omega)
    have hbt := v_71 (by omega) (by omega)
    rw [w3] at hdi hbt
    refine ezw_iconst (1) rfl rfl ?_
    refine ezw_icmp_ne rfl rfl hu72 ⟨by decide, by decide⟩ (fun h183_72 => ?_) (fun h183_72 => ?_)
    · refine ezw_iconst (0) rfl rfl ?_
      refine ezw_istore rfl rfl ?_
      refine ezw_goto rfl rfl ?_
      refine ezw_iload rfl rfl ?_
      refine ezw_if_eq rfl rfl ⟨by decide, by decide⟩ (fun h203_72 => ?_) (fun h203_72 => absurd h203_72 (by omega))
      refine ezw_iload rfl rfl ?_
      refine ezw_if_eq rfl rfl ⟨by decide, by decide⟩ (fun h213_72 => ?_) (fun h213_72 => absurd h213_72 (by omega))
      exact ezw_return rfl rfl ⟨F, rfl, hS, (fun _ _ _ => rfl), (by
            unfold ezp_cf
            repeat (first | rw [if_pos (by omega)] | rw [if_neg (by omega)])
            exact st), rfl⟩
    · refine ezw_iconst (1) rfl rfl ?_
      refine ezw_goto rfl rfl ?_
      refine ezw_istore rfl rfl ?_
      refine ezw_goto rfl rfl ?_
      refine ezw_iload rfl rfl ?_
      refine ezw_if_eq rfl rfl ⟨by decide, by decide⟩ (fun h203_72 => absurd h203_72 (by omega)) (fun h203_72 => ?_)
      refine ezw_aload_n rfl rfl ?_
      refine ezw_iconst (3) rfl rfl ?_
      refine ezw_call0_1 rfl (by omega) (ezu_at rfl) rfl rfl rfl rfl (ezt_m50_1 hS (by omega) ⟨by decide, by decide⟩ hn hc tp st (by omega)) ?_
      rintro _ _ ⟨F73, rfl, hS, nF73, st_73, rfl⟩
      refine ezw_iload rfl rfl ?_
      refine ezw_if_eq rfl rfl ⟨by decide, by decide⟩ (fun h213_73 => ?_) (fun h213_73 => absurd h213_73 (by omega))
      exact ezw_return rfl rfl ⟨F73, rfl, hS, (fun p j h => by rw [nF73 p j (by omega)]), (by
            unfold ezp_cf
            repeat (first | rw [if_pos (by omega)] | rw [if_neg (by omega)])
            exact st_73), rfl⟩
  by_cases q74 : a3 = (22)
  · refine ezw_tableswitchE (v := 22) (p := 174) q74 rfl (by rfl) ?_
    refine ezw_aload_n rfl rfl ?_
    refine ezy_get_i hS rfl rfl rfl rfl rfl rfl (fun u75 hu75 ku75 eu75 => ?_)
    replace eu75 := eu75.symm
    subst eu75
    refine ezw_iload_n rfl rfl ?_
    refine ezw_call3_2 rfl (by omega) rfl rfl (ezt_m49 hS (by omega) hu75 ha3) ?_
    rintro _ _ ⟨rfl, u77, hu77, v_76, rfl⟩
    have hdi := di.2 a3 (by omega) (by omega)
    have hbt := v_76 (by omega) (by omega)
    rw [w3] at hdi hbt
    refine ezw_iconst (1) rfl rfl ?_
    refine ezw_icmp_ne rfl rfl hu77 ⟨by decide, by decide⟩ (fun h183_77 => ?_) (fun h183_77 => ?_)
    · refine ezw_iconst (0) rfl rfl ?_
      refine ezw_istore rfl rfl ?_
      refine ezw_goto rfl rfl ?_
      refine ezw_iload rfl rfl ?_
      refine ezw_if_eq rfl rfl ⟨by decide, by decide⟩ (fun h203_77 => ?_) (fun h203_77 => absurd h203_77 (by omega))
      refine ezw_iload rfl rfl ?_
      refine ezw_if_eq rfl rfl ⟨by decide, by decide⟩ (fun h213_77 => ?_) (fun h213_77 => absurd h213_77 (by omega))
      exact ezw_return rfl rfl ⟨F, rfl, hS, (fun _ _ _ => rfl), (by
            unfold ezp_cf
            repeat (first | rw [if_pos (by omega)] | rw [if_neg (by omega)])
            exact st), rfl⟩
    · refine ezw_iconst (1) rfl rfl ?_
      refine ezw_goto rfl rfl ?_
      refine ezw_istore rfl rfl ?_
      refine ezw_goto rfl rfl ?_
      refine ezw_iload rfl rfl ?_
      refine ezw_if_eq rfl rfl ⟨by decide, by decide⟩ (fun h203_77 => absurd h203_77 (by omega)) (fun h203_77 => ?_)
      refine ezw_aload_n rfl rfl ?_
      refine ezw_iconst (3) rfl rfl ?_
      refine ezw_call0_1 rfl (by omega) (ezu_at rfl) rfl rfl rfl rfl (ezt_m50_1 hS (by omega) ⟨by decide, by decide⟩ hn hc tp st (by omega)) ?_
      rintro _ _ ⟨F78, rfl, hS, nF78, st_78, rfl⟩
      refine ezw_iload rfl rfl ?_
      refine ezw_if_eq rfl rfl ⟨by decide, by decide⟩ (fun h213_78 => ?_) (fun h213_78 => absurd h213_78 (by omega))
      exact ezw_return rfl rfl ⟨F78, rfl, hS, (fun p j h => by rw [nF78 p j (by omega)]), (by
            unfold ezp_cf
            repeat (first | rw [if_pos (by omega)] | rw [if_neg (by omega)])
            exact st_78), rfl⟩
  refine ezw_tableswitch (p := 196) rfl (ezs_swd ha3 (And.intro (And.intro ⟨by decide, by decide⟩ (fun z => q1 z.symm)) (And.intro (And.intro ⟨by decide, by decide⟩ (fun z => q4 z.symm)) (And.intro (And.intro ⟨by decide, by decide⟩ (fun z => q6 z.symm)) (And.intro (And.intro ⟨by decide, by decide⟩ (fun z => q8 z.symm)) (And.intro (And.intro ⟨by decide, by decide⟩ (fun z => q10 z.symm)) (And.intro (And.intro ⟨by decide, by decide⟩ (fun z => q12 z.symm)) (And.intro (And.intro ⟨by decide, by decide⟩ (fun z => q17 z.symm)) (And.intro (And.intro ⟨by decide, by decide⟩ (fun z => q22 z.symm)) (And.intro (And.intro ⟨by decide, by decide⟩ (fun z => q24 z.symm)) (And.intro (And.intro ⟨by decide, by decide⟩ (fun z => q26 z.symm)) (And.intro (And.intro ⟨by decide, by decide⟩ (fun z => q29 z.symm)) (And.intro (And.intro ⟨by decide, by decide⟩ (fun z => q31 z.symm)) (And.intro (And.intro ⟨by decide, by decide⟩ (fun z => q33 z.symm)) (And.intro (And.intro ⟨by decide, by decide⟩ (fun z => q34 z.symm)) (And.intro (And.intro ⟨by decide, by decide⟩ (fun z => q39 z.symm)) (And.intro (And.intro ⟨by decide, by decide⟩ (fun z => q44 z.symm)) (And.intro (And.intro ⟨by decide, by decide⟩ (fun z => q49 z.symm)) (And.intro (And.intro ⟨by decide, by decide⟩ (fun z => q54 z.symm)) (And.intro (And.intro ⟨by decide, by decide⟩ (fun z => q56 z.symm)) (And.intro (And.intro ⟨by decide, by decide⟩ (fun z => q61 z.symm)) (And.intro (And.intro ⟨by decide, by decide⟩ (fun z => q66 z.symm)) (And.intro (And.intro ⟨by decide, by decide⟩ (fun z => q69 z.symm)) (And.intro (And.intro ⟨by decide, by decide⟩ (fun z => q74 z.symm)) True.intro))))))))))))))))))))))) rfl) ?_
  refine ezw_aload_n rfl rfl ?_
  refine ezw_iconst (1) rfl rfl ?_
  refine ezw_call0_1 rfl (by omega) (ezu_at rfl) rfl rfl rfl rfl (ezt_m50_1 hS (by omega) ⟨by decide, by decide⟩ hn hc tp st (by omega)) ?_
  rintro _ _ ⟨F79, rfl, hS, nF79, st_79, rfl⟩
  refine ezw_iload rfl rfl ?_
  refine ezw_if_eq rfl rfl ⟨by decide, by decide⟩ (fun h203_79 => ?_) (fun h203_79 => absurd h203_79 (by omega))
  refine ezw_iload rfl rfl ?_
  refine ezw_if_eq rfl rfl ⟨by decide, by decide⟩ (fun h213_79 => ?_) (fun h213_79 => absurd h213_79 (by omega))
  exact ezw_return rfl rfl ⟨F79, rfl, hS, (fun p j h => by rw [nF79 p j (by omega)]), (by
        unfold ezp_cf
        repeat (first | rw [if_pos (by omega)] | rw [if_neg (by omega)])
        exact st_79), rfl⟩
end KT
