/-! ===== the program: laws, as they are told ===== -/
section KT
variable {l : Launch} {ρ : ezq_E} {B : Nat} {xa : Nat → Option Nat} {Hb : Heap} {D : va_G} {cA : Nat → ClassId} {d : Nat} {e : Bool × Bool}
def ezt_m21_6Q (e : Bool × Bool) (F : Nat → Nat → Int) (A : Nat → Int → Int) (a1 : Int) (a2 : Int) : Option ezq_V → (Nat → ezq_C) → Prop := fun v g' => ∃ (A' : Nat → Int → Int), ezu_g e F A' = g' ∧ ezs_T F A' ∧ (∀ p, ¬ (p = 6) → A' p = A p) ∧ (0 ≤ a1 → a1 < 1000 → A' 6 a1 = a2) ∧ (∀ j, j ≠ a1 → A' 6 j = A 6 j) ∧ none = v
theorem ezt_m21_6 {a1 a2 : Int} {F : Nat → Nat → Int} {A : Nat → Int → Int} (hS : ezs_T F A) (hd : 0 ≤ d) (ha1 : ezw_in a1) (ha2 : ezw_in a2) : ezw_C l ρ B xa Hb D cA 21 d [ezw_p 6, ezw_i a1, ezw_i a2] (ezu_g e F A) (ezt_m21_6Q e F A a1 a2) := by
  refine ezw_met (k := 0) rfl rfl ?_
  refine ezw_aload_n rfl rfl ?_
  refine ezw_ifnull rfl ?_
  refine ezw_iload_n rfl rfl ?_
  refine ezw_if_lt rfl rfl ha1 (fun h5_0 => ?_) (fun h5_0 => ?_)
  · exact ezw_return rfl rfl ⟨A, rfl, hS, (fun _ _ => rfl), (by omega), (fun _ _ => rfl), rfl⟩
  · refine ezw_iload_n rfl rfl ?_
    refine ezw_aload_n rfl rfl ?_
    refine ezs_alen (k := 1000) rfl rfl rfl rfl (by decide) (by decide) ?_
    refine ezw_icmp_ge rfl rfl ha1 ⟨by decide, by decide⟩ (fun h11_0 => ?_) (fun h11_0 => ?_)
    · exact ezw_return rfl rfl ⟨A, rfl, hS, (fun _ _ => rfl), (by omega), (fun _ _ => rfl), rfl⟩
    · refine ezw_aload_n rfl rfl ?_
      refine ezw_iload_n rfl rfl ?_
      refine ezw_iload_n rfl rfl ?_
      refine ezy_iastore hS rfl rfl rfl (by omega) (by omega) (by decide) ha2 (fun A1 hS mA1 nA1 => ?_)
      exact ezw_return rfl rfl ⟨A1, rfl, hS, (fun p h => by
            funext j
            rw [nA1 p j (by omega)]), (fun _ _ => mA1), (fun j hj => nA1 6 j (by omega)), rfl⟩
def ezt_m83_5Q (e : Bool × Bool) (F : Nat → Nat → Int) (A : Nat → Int → Int) (y : Int × (Int → Int)) (a1 : Int) : Option ezq_V → (Nat → ezq_C) → Prop := fun v g' => ∃ (F' : Nat → Nat → Int) (A' : Nat → Int → Int), ezu_g e F' A' = g' ∧ ezs_T F' A' ∧ (∀ p j, ¬ (p = 5 ∧ (j = 4)) → F' p j = F p j) ∧ (∀ p, ¬ (p = 6) → A' p = A p) ∧ (ezt_LW 5 (ezp_em a1 y) F' A') ∧ none = v
theorem ezt_m83_5 {y : Int × (Int → Int)} {a1 : Int} {F : Nat → Nat → Int} {A : Nat → Int → Int} (hS : ezs_T F A) (hd : 1 ≤ d) (ha1 : ezw_in a1) (lw : ezt_LW 5 y F A) : ezw_C l ρ B xa Hb D cA 83 d [ezw_p 5, ezw_i a1] (ezu_g e F A) (ezt_m83_5Q e F A y a1) := by
  refine ezw_met (k := 0) rfl rfl ?_
  refine ezw_aload_n rfl rfl ?_
  refine ezs_getp (p := 6) rfl rfl rfl rfl rfl ?_
  refine ezw_aload_n rfl rfl ?_
  refine ezy_get_i hS rfl rfl rfl rfl rfl rfl (fun u1 hu1 ku1 eu1 => ?_)
  replace eu1 := eu1.symm
  subst eu1
  refine ezw_iload_n rfl rfl ?_
  refine ezw_call3_3 rfl (by omega) rfl rfl (ezt_m21_6 hS (by omega) hu1 ha1) ?_
  rintro _ _ ⟨A2, rfl, hS, nA2, m_2, n_2, rfl⟩
  refine ezw_aload_n rfl rfl ?_
  refine ezw_dup rfl rfl ?_
  refine ezy_get_i hS rfl rfl rfl rfl rfl rfl (fun u3 hu3 ku3 eu3 => ?_)
  replace eu3 := eu3.symm
  subst eu3
  refine ezw_iconst (1) rfl rfl ?_
  refine ezt_iadd rfl (fun u4 hu4 ku4 => ?_)
  refine ezy_put_i hS rfl rfl rfl rfl rfl hu4 (fun F5 hS mF5 nF5 => ?_)
  exact ezw_return rfl rfl ⟨F5, A2, rfl, hS, (fun p j h => by rw [nF5 p j (by omega)]), (fun p h => by
        funext j
        rw [nA2 p (by omega)]), (ezt_LW_em (F' := F5) (A' := A2) lw (fun z => (mF5).trans (ku4 z)) m_2 n_2), rfl⟩
def ezt_m21_10Q (e : Bool × Bool) (F : Nat → Nat → Int) (A : Nat → Int → Int) (a1 : Int) (a2 : Int) : Option ezq_V → (Nat → ezq_C) → Prop := fun v g' => ∃ (A' : Nat → Int → Int), ezu_g e F A' = g' ∧ ezs_T F A' ∧ (∀ p, ¬ (p = 10) → A' p = A p) ∧ (0 ≤ a1 → a1 < 1000 → A' 10 a1 = a2) ∧ (∀ j, j ≠ a1 → A' 10 j = A 10 j) ∧ none = v
theorem ezt_m21_10 {a1 a2 : Int} {F : Nat → Nat → Int} {A : Nat → Int → Int} (hS : ezs_T F A) (hd : 0 ≤ d) (ha1 : ezw_in a1) (ha2 : ezw_in a2) : ezw_C l ρ B xa Hb D cA 21 d [ezw_p 10, ezw_i a1, ezw_i a2] (ezu_g e F A) (ezt_m21_10Q e F A a1 a2) := by
  refine ezw_met (k := 0) rfl rfl ?_
  refine ezw_aload_n rfl rfl ?_
  refine ezw_ifnull rfl ?_
  refine ezw_iload_n rfl rfl ?_
  refine ezw_if_lt rfl rfl ha1 (fun h5_0 => ?_) (fun h5_0 => ?_)
  · exact ezw_return rfl rfl ⟨A, rfl, hS, (fun _ _ => rfl), (by omega), (fun _ _ => rfl), rfl⟩
  · refine ezw_iload_n rfl rfl ?_
    refine ezw_aload_n rfl rfl ?_
    refine ezs_alen (k := 1000) rfl rfl rfl rfl (by decide) (by decide) ?_
    refine ezw_icmp_ge rfl rfl ha1 ⟨by decide, by decide⟩ (fun h11_0 => ?_) (fun h11_0 => ?_)
    · exact ezw_return rfl rfl ⟨A, rfl, hS, (fun _ _ => rfl), (by omega), (fun _ _ => rfl), rfl⟩
    · refine ezw_aload_n rfl rfl ?_
      refine ezw_iload_n rfl rfl ?_
      refine ezw_iload_n rfl rfl ?_
      refine ezy_iastore hS rfl rfl rfl (by omega) (by omega) (by decide) ha2 (fun A1 hS mA1 nA1 => ?_)
      exact ezw_return rfl rfl ⟨A1, rfl, hS, (fun p h => by
            funext j
            rw [nA1 p j (by omega)]), (fun _ _ => mA1), (fun j hj => nA1 10 j (by omega)), rfl⟩
def ezt_m83_9Q (e : Bool × Bool) (F : Nat → Nat → Int) (A : Nat → Int → Int) (y : Int × (Int → Int)) (a1 : Int) : Option ezq_V → (Nat → ezq_C) → Prop := fun v g' => ∃ (F' : Nat → Nat → Int) (A' : Nat → Int → Int), ezu_g e F' A' = g' ∧ ezs_T F' A' ∧ (∀ p j, ¬ (p = 9 ∧ (j = 4)) → F' p j = F p j) ∧ (∀ p, ¬ (p = 10) → A' p = A p) ∧ (ezt_LW 9 (ezp_em a1 y) F' A') ∧ none = v
theorem ezt_m83_9 {y : Int × (Int → Int)} {a1 : Int} {F : Nat → Nat → Int} {A : Nat → Int → Int} (hS : ezs_T F A) (hd : 1 ≤ d) (ha1 : ezw_in a1) (lw : ezt_LW 9 y F A) : ezw_C l ρ B xa Hb D cA 83 d [ezw_p 9, ezw_i a1] (ezu_g e F A) (ezt_m83_9Q e F A y a1) := by
  refine ezw_met (k := 0) rfl rfl ?_
  refine ezw_aload_n rfl rfl ?_
  refine ezs_getp (p := 10) rfl rfl rfl rfl rfl ?_
  refine ezw_aload_n rfl rfl ?_
  refine ezy_get_i hS rfl rfl rfl rfl rfl rfl (fun u1 hu1 ku1 eu1 => ?_)
  replace eu1 := eu1.symm
  subst eu1
  refine ezw_iload_n rfl rfl ?_
  refine ezw_call3_3 rfl (by omega) rfl rfl (ezt_m21_10 hS (by omega) hu1 ha1) ?_
  rintro _ _ ⟨A2, rfl, hS, nA2, m_2, n_2, rfl⟩
  refine ezw_aload_n rfl rfl ?_
  refine ezw_dup rfl rfl ?_
  refine ezy_get_i hS rfl rfl rfl rfl rfl rfl (fun u3 hu3 ku3 eu3 => ?_)
  replace eu3 := eu3.symm
  subst eu3
  refine ezw_iconst (1) rfl rfl ?_
  refine ezt_iadd rfl (fun u4 hu4 ku4 => ?_)
  refine ezy_put_i hS rfl rfl rfl rfl rfl hu4 (fun F5 hS mF5 nF5 => ?_)
  exact ezw_return rfl rfl ⟨F5, A2, rfl, hS, (fun p j h => by rw [nF5 p j (by omega)]), (fun p h => by
        funext j
        rw [nA2 p (by omega)]), (ezt_LW_em (F' := F5) (A' := A2) lw (fun z => (mF5).trans (ku4 z)) m_2 n_2), rfl⟩
def ezt_m84_v0Q (e : Bool × Bool) (F : Nat → Nat → Int) (A : Nat → Int → Int) (a0 : Int) : Option ezq_V → (Nat → ezq_C) → Prop := fun v g' => ezu_g e F A = g' ∧ ∃ u : Int, (ezw_in u) ∧ (u = ezp_op a0 0) ∧ some (ezw_i u) = v
theorem ezt_m84_v0 {a0 : Int} {F : Nat → Nat → Int} {A : Nat → Int → Int} (hS : ezs_T F A) (hd : 0 ≤ d) (ha0 : ezw_in a0) : ezw_C l ρ B xa Hb D cA 84 d [ezw_i a0, ezw_i (0)] (ezu_g e F A) (ezt_m84_v0Q e F A a0) := by
  refine ezw_met (k := 0) rfl rfl ?_
  refine ezw_iload_n rfl rfl ?_
  refine ezw_tableswitchE (v := 0) (p := 32) rfl rfl (by rfl) ?_
  refine ezw_iload_n rfl rfl ?_
  refine ezw_bipush (42) rfl rfl ?_
  refine ezw_icmp_ne rfl rfl ha0 ⟨by decide, by decide⟩ (fun h35_0 => ?_) (fun h35_0 => ?_)
  · refine ezw_iload_n rfl rfl ?_
    refine ezw_bipush (43) rfl rfl ?_
    refine ezw_icmp_ne rfl rfl ha0 ⟨by decide, by decide⟩ (fun h46_0 => ?_) (fun h46_0 => ?_)
    · refine ezw_iconst (0) rfl rfl ?_
      exact ezw_ireturn rfl rfl ⟨rfl, (0), ⟨by decide, by decide⟩, (by
            unfold ezp_op
            repeat (first | rw [if_pos (by omega)] | rw [if_neg (by omega)])), rfl⟩
    · refine ezw_bipush (-7) rfl rfl ?_
      refine ezw_goto rfl rfl ?_
      exact ezw_ireturn rfl rfl ⟨rfl, (-7), ⟨by decide, by decide⟩, (by
            unfold ezp_op
            repeat (first | rw [if_pos (by omega)] | rw [if_neg (by omega)])), rfl⟩
  · refine ezw_bipush (-6) rfl rfl ?_
    refine ezw_goto rfl rfl ?_
    exact ezw_ireturn rfl rfl ⟨rfl, (-6), ⟨by decide, by decide⟩, (by
          unfold ezp_op
          repeat (first | rw [if_pos (by omega)] | rw [if_neg (by omega)])), rfl⟩
def ezt_m84_v1Q (e : Bool × Bool) (F : Nat → Nat → Int) (A : Nat → Int → Int) (a0 : Int) : Option ezq_V → (Nat → ezq_C) → Prop := fun v g' => ezu_g e F A = g' ∧ ∃ u : Int, (ezw_in u) ∧ (u = ezp_op a0 1) ∧ some (ezw_i u) = v
theorem ezt_m84_v1 {a0 : Int} {F : Nat → Nat → Int} {A : Nat → Int → Int} (hS : ezs_T F A) (hd : 0 ≤ d) (ha0 : ezw_in a0) : ezw_C l ρ B xa Hb D cA 84 d [ezw_i a0, ezw_i (1)] (ezu_g e F A) (ezt_m84_v1Q e F A a0) := by
  refine ezw_met (k := 0) rfl rfl ?_
  refine ezw_iload_n rfl rfl ?_
  refine ezw_tableswitchE (v := 1) (p := 56) rfl rfl (by rfl) ?_
  refine ezw_iload_n rfl rfl ?_
  refine ezw_sipush (260) rfl rfl ?_
  refine ezw_icmp_ne rfl rfl ha0 ⟨by decide, by decide⟩ (fun h60_0 => ?_) (fun h60_0 => ?_)
  · refine ezw_iload_n rfl rfl ?_
    refine ezw_sipush (261) rfl rfl ?_
    refine ezw_icmp_ne rfl rfl ha0 ⟨by decide, by decide⟩ (fun h72_0 => ?_) (fun h72_0 => ?_)
    · refine ezw_iconst (0) rfl rfl ?_
      exact ezw_ireturn rfl rfl ⟨rfl, (0), ⟨by decide, by decide⟩, (by
            unfold ezp_op
            repeat (first | rw [if_pos (by omega)] | rw [if_neg (by omega)])), rfl⟩
    · refine ezw_bipush (-9) rfl rfl ?_
      refine ezw_goto rfl rfl ?_
      exact ezw_ireturn rfl rfl ⟨rfl, (-9), ⟨by decide, by decide⟩, (by
            unfold ezp_op
            repeat (first | rw [if_pos (by omega)] | rw [if_neg (by omega)])), rfl⟩
  · refine ezw_bipush (-8) rfl rfl ?_
    refine ezw_goto rfl rfl ?_
    exact ezw_ireturn rfl rfl ⟨rfl, (-8), ⟨by decide, by decide⟩, (by
          unfold ezp_op
          repeat (first | rw [if_pos (by omega)] | rw [if_neg (by omega)])), rfl⟩
def ezt_m84_v2Q (e : Bool × Bool) (F : Nat → Nat → Int) (A : Nat → Int → Int) (a0 : Int) : Option ezq_V → (Nat → ezq_C) → Prop := fun v g' => ezu_g e F A = g' ∧ ∃ u : Int, (ezw_in u) ∧ (u = ezp_op a0 2) ∧ some (ezw_i u) = v
theorem ezt_m84_v2 {a0 : Int} {F : Nat → Nat → Int} {A : Nat → Int → Int} (hS : ezs_T F A) (hd : 0 ≤ d) (ha0 : ezw_in a0) : ezw_C l ρ B xa Hb D cA 84 d [ezw_i a0, ezw_i (2)] (ezu_g e F A) (ezt_m84_v2Q e F A a0) := by
  refine ezw_met (k := 0) rfl rfl ?_
  refine ezw_iload_n rfl rfl ?_
  refine ezw_tableswitchE (v := 2) (p := 82) rfl rfl (by rfl) ?_
  refine ezw_iload_n rfl rfl ?_
  refine ezw_sipush (243) rfl rfl ?_
  refine ezw_icmp_ne rfl rfl ha0 ⟨by decide, by decide⟩ (fun h86_0 => ?_) (fun h86_0 => ?_)
  · refine ezw_iload_n rfl rfl ?_
    refine ezw_sipush (245) rfl rfl ?_
    refine ezw_icmp_ne rfl rfl ha0 ⟨by decide, by decide⟩ (fun h98_0 => ?_) (fun h98_0 => ?_)
    · refine ezw_iconst (0) rfl rfl ?_
      exact ezw_ireturn rfl rfl ⟨rfl, (0), ⟨by decide, by decide⟩, (by
            unfold ezp_op
            repeat (first | rw [if_pos (by omega)] | rw [if_neg (by omega)])), rfl⟩
    · refine ezw_bipush (-11) rfl rfl ?_
      refine ezw_goto rfl rfl ?_
      exact ezw_ireturn rfl rfl ⟨rfl, (-11), ⟨by decide, by decide⟩, (by
            unfold ezp_op
            repeat (first | rw [if_pos (by omega)] | rw [if_neg (by omega)])), rfl⟩
  · refine ezw_bipush (-10) rfl rfl ?_
    refine ezw_goto rfl rfl ?_
    exact ezw_ireturn rfl rfl ⟨rfl, (-10), ⟨by decide, by decide⟩, (by
          unfold ezp_op
          repeat (first | rw [if_pos (by omega)] | rw [if_neg (by omega)])), rfl⟩
def ezt_m84_v3Q (e : Bool × Bool) (F : Nat → Nat → Int) (A : Nat → Int → Int) (a0 : Int) : Option ezq_V → (Nat → ezq_C) → Prop := fun v g' => ezu_g e F A = g' ∧ ∃ u : Int, (ezw_in u) ∧ (u = ezp_op a0 3) ∧ some (ezw_i u) = v
theorem ezt_m84_v3 {a0 : Int} {F : Nat → Nat → Int} {A : Nat → Int → Int} (hS : ezs_T F A) (hd : 0 ≤ d) (ha0 : ezw_in a0) : ezw_C l ρ B xa Hb D cA 84 d [ezw_i a0, ezw_i (3)] (ezu_g e F A) (ezt_m84_v3Q e F A a0) := by
  refine ezw_met (k := 0) rfl rfl ?_
  refine ezw_iload_n rfl rfl ?_
  refine ezw_tableswitchE (v := 3) (p := 108) rfl rfl (by rfl) ?_
  refine ezw_iload_n rfl rfl ?_
  refine ezw_sipush (242) rfl rfl ?_
  refine ezw_icmp_ne rfl rfl ha0 ⟨by decide, by decide⟩ (fun h112_0 => ?_) (fun h112_0 => ?_)
  · refine ezw_iconst (0) rfl rfl ?_
    exact ezw_ireturn rfl rfl ⟨rfl, (0), ⟨by decide, by decide⟩, (by
          unfold ezp_op
          repeat (first | rw [if_pos (by omega)] | rw [if_neg (by omega)])), rfl⟩
  · refine ezw_bipush (-12) rfl rfl ?_
    refine ezw_goto rfl rfl ?_
    exact ezw_ireturn rfl rfl ⟨rfl, (-12), ⟨by decide, by decide⟩, (by
          unfold ezp_op
          repeat (first | rw [if_pos (by omega)] | rw [if_neg (by omega)])), rfl⟩
def ezt_m82_5_1_v5Q (e : Bool × Bool) (F : Nat → Nat → Int) (A : Nat → Int → Int) (c : Int → Int) (n : Int) (x : ezp_X) : Option ezq_V → (Nat → ezq_C) → Prop := fun v g' => ∃ (F' : Nat → Nat → Int) (A' : Nat → Int → Int), ezu_g e F' A' = g' ∧ ezs_T F' A' ∧ (∀ p j, ¬ (p = 1 ∧ (j = 3 ∨ j = 4 ∨ j = 5 ∨ j = 6 ∨ j = 7 ∨ j = 8 ∨ j = 9) ∨ p = 5 ∧ (j = 4)) → F' p j = F p j) ∧ (∀ p, ¬ (p = 6) → A' p = A p) ∧ (ezt_ST c n (ezp_pt c 0 x).1 F') ∧ (ezt_LW 5 (ezp_pt c 0 x).2 F' A') ∧ none = v
theorem ezt_m82_5_1_v5 {c : Int → Int} {n : Int} {x : ezp_X} {F : Nat → Nat → Int} {A : Nat → Int → Int} (hS : ezs_T F A) (hd : 1 ≤ d) (hn : F 1 2 = n) (hc : c = ezp_ch (A 2) n) (tp : ezp_tp c n) (hw : ∀ j, 0 ≤ j → j < 48 → A 3 j = ezl_cw.getD j.toNat 0) (st : ezt_ST c n x.1 F) (lw : ezt_LW 5 x.2 F A) : ezw_C l ρ B xa Hb D cA 82 d [ezw_p 5, ezw_p 1, ezw_i (5)] (ezu_g e F A) (ezt_m82_5_1_v5Q e F A c n x) := by
  refine ezw_met (k := 2) rfl rfl ?_
  have hn0 := tp.1
  have hn1 := tp.2.1
  obtain ⟨sf, sk, sc, sb, sb2⟩ := id st
  have hP := ezp_Pr tp x.1.2
  have c3i : x.1.1 = 0 → F 1 3 = ezp_K c x.1.2 := fun z => (sc z).2.2.1
  have c8i : x.1.1 = 0 → F 1 8 = ezp_P c x.1.2 := fun z => (sc z).1
  have c4i : x.1.1 = 0 → ezp_K c x.1.2 = 101 → F 1 4 = ezp_V c x.1.2 := fun z => (sc z).2.2.2.1
  have c7i : x.1.1 = 0 → ezp_K c x.1.2 = 100 → F 1 7 = ezp_v 32 (ezp_W c x.1.2) ∧ F 1 5 = ezp_ix (ezp_W c x.1.2) - 44 := fun z => (sc z).2.2.2.2
  refine ezw_aload_n rfl rfl ?_
  refine ezw_bipush (100) rfl rfl ?_
  refine ezw_call0_1 rfl (by omega) (ezu_at rfl) rfl rfl rfl rfl (ezt_m46_1 hS (by omega) ⟨by decide, by decide⟩ hn hc tp st) ?_
  rintro _ _ ⟨rfl, u2, hu2, p1_0, p1_1, rfl⟩
  have J21_4 : ∀ y3 : Int, ezw_in y3 → (y3 = 1 ∧ (x.1.1 = 0 ∧ ezp_K c x.1.2 = 100 ∧ 0 ≤ ezp_ix (ezp_W c x.1.2) - 44) ∨ y3 = 0 ∧ ¬ (x.1.1 = 0 ∧ ezp_K c x.1.2 = 100 ∧ 0 ≤ ezp_ix (ezp_W c x.1.2) - 44)) → ezw_E l ρ B xa Hb D cA d ezq_re82 (ezt_m82_5_1_v5Q e F A c n x) 21 [some (ezw_p 5), some (ezw_p 1), some (ezw_i (5)), none, none] [ezw_i y3] (ezu_g e F A) := by
    intro y3 hy3 jf_4
    refine ezw_istore_n rfl rfl ?_
    refine ezw_iload_n rfl rfl ?_
    have J59_6 : ∀ y5 : Int, ezw_in y5 → (y5 = 1 ∧ ((x.1.1 = 0 ∧ ezp_K c x.1.2 = 100 ∧ 0 ≤ ezp_ix (ezp_W c x.1.2) - 44) ∨ x.1.1 = 0 ∧ (ezp_K c x.1.2 = 101 ∨ ezp_K c x.1.2 = 41 ∨ ezp_K c x.1.2 = 240)) ∨ y5 = 0 ∧ ¬ ((x.1.1 = 0 ∧ ezp_K c x.1.2 = 100 ∧ 0 ≤ ezp_ix (ezp_W c x.1.2) - 44) ∨ x.1.1 = 0 ∧ (ezp_K c x.1.2 = 101 ∨ ezp_K c x.1.2 = 41 ∨ ezp_K c x.1.2 = 240))) → ezw_E l ρ B xa Hb D cA d ezq_re82 (ezt_m82_5_1_v5Q e F A c n x) 59 [some (ezw_p 5), some (ezw_p 1), some (ezw_i (5)), some (ezw_i y3), none] [ezw_i y5] (ezu_g e F A) := by
      intro y5 hy5 jp_6
      refine ezw_istore rfl rfl ?_
      refine ezw_iload rfl rfl ?_
      refine ezw_if_eq rfl rfl hy5 (fun h63_6 => ?_) (fun h63_6 => ?_)
      · refine ezw_aload_n rfl rfl ?_
        refine ezw_iload rfl rfl ?_
        refine ezw_if_eq rfl rfl hy5 (fun h74_6 => ?_) (fun h74_6 => ?_)
        · refine ezw_iconst (1) rfl rfl ?_
          refine ezw_call0_1 rfl (by omega) (ezu_at rfl) rfl rfl rfl rfl (ezt_m50_1 hS (by omega) ⟨by decide, by decide⟩ hn hc tp st (by omega)) ?_
          rintro _ _ ⟨F7, rfl, hS, nF7, st_7, rfl⟩
          refine ezw_goto rfl rfl ?_
          exact ezw_return rfl rfl ⟨F7, A, rfl, hS, (fun p j h => by rw [nF7 p j (by omega)]), (fun _ _ => rfl), (by
                first
                  | (exfalso; omega)
                  | (rw [ezp_pt_0]
                     repeat (first | rw [if_pos (by omega)] | rw [if_neg (by omega)])
                     exact st_7)), (by
                first
                  | (exfalso; omega)
                  | (rw [ezp_pt_0]
                     repeat (first | rw [if_pos (by omega)] | rw [if_neg (by omega)])
                     exact (ezt_LW_fr lw (by rw [nF7 5 4 (by decide)]) rfl))), rfl⟩
        · refine ezw_iconst (5) rfl rfl ?_
          refine ezw_goto rfl rfl ?_
          refine ezw_call0_1 rfl (by omega) (ezu_at rfl) rfl rfl rfl rfl (ezt_m50_1 hS (by omega) ⟨by decide, by decide⟩ hn hc tp st (by omega)) ?_
          rintro _ _ ⟨F8, rfl, hS, nF8, st_8, rfl⟩
          refine ezw_goto rfl rfl ?_
          exact ezw_return rfl rfl ⟨F8, A, rfl, hS, (fun p j h => by rw [nF8 p j (by omega)]), (fun _ _ => rfl), (by
                first
                  | (exfalso; omega)
                  | (rw [ezp_pt_0]
                     repeat (first | rw [if_pos (by omega)] | rw [if_neg (by omega)])
                     exact st_8)), (by
                first
                  | (exfalso; omega)
                  | (rw [ezp_pt_0]
                     repeat (first | rw [if_pos (by omega)] | rw [if_neg (by omega)])
                     exact (ezt_LW_fr lw (by rw [nF8 5 4 (by decide)]) rfl))), rfl⟩
      · refine ezw_iload_n rfl rfl ?_
        refine ezw_iconst (5) rfl rfl ?_
        refine ezw_icmp_lt rfl rfl ⟨by decide, by decide⟩ ⟨by decide, by decide⟩ (fun h68_8 => absurd h68_8 (by omega)) (fun h68_8 => ?_)
        refine ezw_aload_n rfl rfl ?_
        refine ezw_iload rfl rfl ?_
        refine ezw_if_eq rfl rfl hy5 (fun h74_8 => ?_) (fun h74_8 => ?_)
        · refine ezw_iconst (1) rfl rfl ?_
          refine ezw_call0_1 rfl (by omega) (ezu_at rfl) rfl rfl rfl rfl (ezt_m50_1 hS (by omega) ⟨by decide, by decide⟩ hn hc tp st (by omega)) ?_
          rintro _ _ ⟨F9, rfl, hS, nF9, st_9, rfl⟩
          refine ezw_goto rfl rfl ?_
          exact ezw_return rfl rfl ⟨F9, A, rfl, hS, (fun p j h => by rw [nF9 p j (by omega)]), (fun _ _ => rfl), (by
                first
                  | (exfalso; omega)
                  | (rw [ezp_pt_0]
                     repeat (first | rw [if_pos (by omega)] | rw [if_neg (by omega)])
                     exact st_9)), (by
                first
                  | (exfalso; omega)
                  | (rw [ezp_pt_0]
                     repeat (first | rw [if_pos (by omega)] | rw [if_neg (by omega)])
                     exact (ezt_LW_fr lw (by rw [nF9 5 4 (by decide)]) rfl))), rfl⟩
        · refine ezw_iconst (5) rfl rfl ?_
          refine ezw_goto rfl rfl ?_
          refine ezw_call0_1 rfl (by omega) (ezu_at rfl) rfl rfl rfl rfl (ezt_m50_1 hS (by omega) ⟨by decide, by decide⟩ hn hc tp st (by omega)) ?_
          rintro _ _ ⟨F10, rfl, hS, nF10, st_10, rfl⟩
          refine ezw_goto rfl rfl ?_
          exact ezw_return rfl rfl ⟨F10, A, rfl, hS, (fun p j h => by rw [nF10 p j (by omega)]), (fun _ _ => rfl), (by
                first
                  | (exfalso; omega)
                  | (rw [ezp_pt_0]
                     repeat (first | rw [if_pos (by omega)] | rw [if_neg (by omega)])
                     exact st_10)), (by
                first
                  | (exfalso; omega)
                  | (rw [ezp_pt_0]
                     repeat (first | rw [if_pos (by omega)] | rw [if_neg (by omega)])
                     exact (ezt_LW_fr lw (by rw [nF10 5 4 (by decide)]) rfl))), rfl⟩
    refine ezw_if_ne rfl rfl hy3 (fun h23_4 => ?_) (fun h23_4 => ?_)
    · refine ezw_iconst (1) rfl rfl ?_
      refine ezw_goto rfl rfl ?_
      exact ezw_keepE [true, true, true, true, false] (J59_6 (1) ⟨by decide, by decide⟩ (by omega))
    · refine ezw_aload_n rfl rfl ?_
      refine ezw_bipush (101) rfl rfl ?_
      refine ezw_call0_1 rfl (by omega) (ezu_at rfl) rfl rfl rfl rfl (ezt_m46_1 hS (by omega) ⟨by decide, by decide⟩ hn hc tp st) ?_
      rintro _ _ ⟨rfl, u12, hu12, p11_0, p11_1, rfl⟩
      refine ezw_if_ne rfl rfl ⟨by omega, by omega⟩ (fun h32_12 => ?_) (fun h32_12 => ?_)
      · refine ezw_iconst (1) rfl rfl ?_
        refine ezw_goto rfl rfl ?_
        exact ezw_keepE [true, true, true, true, false] (J59_6 (1) ⟨by decide, by decide⟩ (by omega))
      · refine ezw_aload_n rfl rfl ?_
        refine ezw_bipush (41) rfl rfl ?_
        refine ezw_call0_1 rfl (by omega) (ezu_at rfl) rfl rfl rfl rfl (ezt_m46_1 hS (by omega) ⟨by decide, by decide⟩ hn hc tp st) ?_
        rintro _ _ ⟨rfl, u14, hu14, p13_0, p13_1, rfl⟩
        refine ezw_if_ne rfl rfl ⟨by omega, by omega⟩ (fun h41_14 => ?_) (fun h41_14 => ?_)
        · refine ezw_iconst (1) rfl rfl ?_
          refine ezw_goto rfl rfl ?_
          exact ezw_keepE [true, true, true, true, false] (J59_6 (1) ⟨by decide, by decide⟩ (by omega))
        · refine ezw_aload_n rfl rfl ?_
          refine ezw_sipush (240) rfl rfl ?_
          refine ezw_call0_1 rfl (by omega) (ezu_at rfl) rfl rfl rfl rfl (ezt_m46_1 hS (by omega) ⟨by decide, by decide⟩ hn hc tp st) ?_
          rintro _ _ ⟨rfl, u16, hu16, p15_0, p15_1, rfl⟩
          refine ezw_if_eq rfl rfl ⟨by omega, by omega⟩ (fun h51_16 => ?_) (fun h51_16 => ?_)
          · refine ezw_iconst (0) rfl rfl ?_
            exact ezw_keepE [true, true, true, true, false] (J59_6 (0) ⟨by decide, by decide⟩ (by omega))
          · refine ezw_iconst (1) rfl rfl ?_
            refine ezw_goto rfl rfl ?_
            exact ezw_keepE [true, true, true, true, false] (J59_6 (1) ⟨by decide, by decide⟩ (by omega))
  refine ezw_if_eq rfl rfl ⟨by omega, by omega⟩ (fun h6_2 => ?_) (fun h6_2 => ?_)
  · refine ezw_iconst (0) rfl rfl ?_
    exact ezw_keepE [true, true, true, false, false] (J21_4 (0) ⟨by decide, by decide⟩ (by omega))
  · refine ezw_aload_n rfl rfl ?_
    have f5 := (c7i (p1_0 (by omega)).1 (p1_0 (by omega)).2).2
    refine ezy_get_i hS rfl rfl rfl rfl rfl rfl (fun u17 hu17 ku17 eu17 => ?_)
    replace eu17 := eu17.symm
    subst eu17
    refine ezw_if_lt rfl rfl hu17 (fun h13_17 => ?_) (fun h13_17 => ?_)
    · refine ezw_iconst (0) rfl rfl ?_
      exact ezw_keepE [true, true, true, false, false] (J21_4 (0) ⟨by decide, by decide⟩ (by omega))
    · refine ezw_iconst (1) rfl rfl ?_
      refine ezw_goto rfl rfl ?_
      exact ezw_keepE [true, true, true, false, false] (J21_4 (1) ⟨by decide, by decide⟩ (by omega))
def ezt_m82_9_1_v5Q (e : Bool × Bool) (F : Nat → Nat → Int) (A : Nat → Int → Int) (c : Int → Int) (n : Int) (x : ezp_X) : Option ezq_V → (Nat → ezq_C) → Prop := fun v g' => ∃ (F' : Nat → Nat → Int) (A' : Nat → Int → Int), ezu_g e F' A' = g' ∧ ezs_T F' A' ∧ (∀ p j, ¬ (p = 1 ∧ (j = 3 ∨ j = 4 ∨ j = 5 ∨ j = 6 ∨ j = 7 ∨ j = 8 ∨ j = 9) ∨ p = 9 ∧ (j = 4)) → F' p j = F p j) ∧ (∀ p, ¬ (p = 10) → A' p = A p) ∧ (ezt_ST c n (ezp_pt c 0 x).1 F') ∧ (ezt_LW 9 (ezp_pt c 0 x).2 F' A') ∧ none = v
theorem ezt_m82_9_1_v5 {c : Int → Int} {n : Int} {x : ezp_X} {F : Nat → Nat → Int} {A : Nat → Int → Int} (hS : ezs_T F A) (hd : 1 ≤ d) (hn : F 1 2 = n) (hc : c = ezp_ch (A 2) n) (tp : ezp_tp c n) (hw : ∀ j, 0 ≤ j → j < 48 → A 3 j = ezl_cw.getD j.toNat 0) (st : ezt_ST c n x.1 F) (lw : ezt_LW 9 x.2 F A) : ezw_C l ρ B xa Hb D cA 82 d [ezw_p 9, ezw_p 1, ezw_i (5)] (ezu_g e F A) (ezt_m82_9_1_v5Q e F A c n x) := by
  refine ezw_met (k := 2) rfl rfl ?_
  have hn0 := tp.1
  have hn1 := tp.2.1
  obtain ⟨sf, sk, sc, sb, sb2⟩ := id st
  have hP := ezp_Pr tp x.1.2
  have c3i : x.1.1 = 0 → F 1 3 = ezp_K c x.1.2 := fun z => (sc z).2.2.1
  have c8i : x.1.1 = 0 → F 1 8 = ezp_P c x.1.2 := fun z => (sc z).1
  have c4i : x.1.1 = 0 → ezp_K c x.1.2 = 101 → F 1 4 = ezp_V c x.1.2 := fun z => (sc z).2.2.2.1
  have c7i : x.1.1 = 0 → ezp_K c x.1.2 = 100 → F 1 7 = ezp_v 32 (ezp_W c x.1.2) ∧ F 1 5 = ezp_ix (ezp_W c x.1.2) - 44 := fun z => (sc z).2.2.2.2
  refine ezw_aload_n rfl rfl ?_
  refine ezw_bipush (100) rfl rfl ?_
  refine ezw_call0_1 rfl (by omega) (ezu_at rfl) rfl rfl rfl rfl (ezt_m46_1 hS (by omega) ⟨by decide, by decide⟩ hn hc tp st) ?_
  rintro _ _ ⟨rfl, u2, hu2, p1_0, p1_1, rfl⟩
  have J21_4 : ∀ y3 : Int, ezw_in y3 → (y3 = 1 ∧ (x.1.1 = 0 ∧ ezp_K c x.1.2 = 100 ∧ 0 ≤ ezp_ix (ezp_W c x.1.2) - 44) ∨ y3 = 0 ∧ ¬ (x.1.1 = 0 ∧ ezp_K c x.1.2 = 100 ∧ 0 ≤ ezp_ix (ezp_W c x.1.2) - 44)) → ezw_E l ρ B xa Hb D cA d ezq_re82 (ezt_m82_9_1_v5Q e F A c n x) 21 [some (ezw_p 9), some (ezw_p 1), some (ezw_i (5)), none, none] [ezw_i y3] (ezu_g e F A) := by
    intro y3 hy3 jf_4
    refine ezw_istore_n rfl rfl ?_
    refine ezw_iload_n rfl rfl ?_
    have J59_6 : ∀ y5 : Int, ezw_in y5 → (y5 = 1 ∧ ((x.1.1 = 0 ∧ ezp_K c x.1.2 = 100 ∧ 0 ≤ ezp_ix (ezp_W c x.1.2) - 44) ∨ x.1.1 = 0 ∧ (ezp_K c x.1.2 = 101 ∨ ezp_K c x.1.2 = 41 ∨ ezp_K c x.1.2 = 240)) ∨ y5 = 0 ∧ ¬ ((x.1.1 = 0 ∧ ezp_K c x.1.2 = 100 ∧ 0 ≤ ezp_ix (ezp_W c x.1.2) - 44) ∨ x.1.1 = 0 ∧ (ezp_K c x.1.2 = 101 ∨ ezp_K c x.1.2 = 41 ∨ ezp_K c x.1.2 = 240))) → ezw_E l ρ B xa Hb D cA d ezq_re82 (ezt_m82_9_1_v5Q e F A c n x) 59 [some (ezw_p 9), some (ezw_p 1), some (ezw_i (5)), some (ezw_i y3), none] [ezw_i y5] (ezu_g e F A) := by
      intro y5 hy5 jp_6
      refine ezw_istore rfl rfl ?_
      refine ezw_iload rfl rfl ?_
      refine ezw_if_eq rfl rfl hy5 (fun h63_6 => ?_) (fun h63_6 => ?_)
      · refine ezw_aload_n rfl rfl ?_
        refine ezw_iload rfl rfl ?_
        refine ezw_if_eq rfl rfl hy5 (fun h74_6 => ?_) (fun h74_6 => ?_)
        · refine ezw_iconst (1) rfl rfl ?_
          refine ezw_call0_1 rfl (by omega) (ezu_at rfl) rfl rfl rfl rfl (ezt_m50_1 hS (by omega) ⟨by decide, by decide⟩ hn hc tp st (by omega)) ?_
          rintro _ _ ⟨F7, rfl, hS, nF7, st_7, rfl⟩
          refine ezw_goto rfl rfl ?_
          exact ezw_return rfl rfl ⟨F7, A, rfl, hS, (fun p j h => by rw [nF7 p j (by omega)]), (fun _ _ => rfl), (by
                first
                  | (exfalso; omega)
                  | (rw [ezp_pt_0]
                     repeat (first | rw [if_pos (by omega)] | rw [if_neg (by omega)])
                     exact st_7)), (by
                first
                  | (exfalso; omega)
                  | (rw [ezp_pt_0]
                     repeat (first | rw [if_pos (by omega)] | rw [if_neg (by omega)])
                     exact (ezt_LW_fr lw (by rw [nF7 9 4 (by decide)]) rfl))), rfl⟩
        · refine ezw_iconst (5) rfl rfl ?_
          refine ezw_goto rfl rfl ?_
          refine ezw_call0_1 rfl (by omega) (ezu_at rfl) rfl rfl rfl rfl (ezt_m50_1 hS (by omega) ⟨by decide, by decide⟩ hn hc tp st (by omega)) ?_
          rintro _ _ ⟨F8, rfl, hS, nF8, st_8, rfl⟩
          refine ezw_goto rfl rfl ?_
          exact ezw_return rfl rfl ⟨F8, A, rfl, hS, (fun p j h => by rw [nF8 p j (by omega)]), (fun _ _ => rfl), (by
                first
                  | (exfalso; omega)
                  | (rw [ezp_pt_0]
                     repeat (first | rw [if_pos (by omega)] | rw [if_neg (by omega)])
                     exact st_8)), (by
                first
                  | (exfalso; omega)
                  | (rw [ezp_pt_0]
                     repeat (first | rw [if_pos (by omega)] | rw [if_neg (by omega)])
                     exact (ezt_LW_fr lw (by rw [nF8 9 4 (by decide)]) rfl))), rfl⟩
      · refine ezw_iload_n rfl rfl ?_
        refine ezw_iconst (5) rfl rfl ?_
        refine ezw_icmp_lt rfl rfl ⟨by decide, by decide⟩ ⟨by decide, by decide⟩ (fun h68_8 => absurd h68_8 (by omega)) (fun h68_8 => ?_)
        refine ezw_aload_n rfl rfl ?_
        refine ezw_iload rfl rfl ?_
        refine ezw_if_eq rfl rfl hy5 (fun h74_8 => ?_) (fun h74_8 => ?_)
        · refine ezw_iconst (1) rfl rfl ?_
          refine ezw_call0_1 rfl (by omega) (ezu_at rfl) rfl rfl rfl rfl (ezt_m50_1 hS (by omega) ⟨by decide, by decide⟩ hn hc tp st (by omega)) ?_
          rintro _ _ ⟨F9, rfl, hS, nF9, st_9, rfl⟩
          refine ezw_goto rfl rfl ?_
          exact ezw_return rfl rfl ⟨F9, A, rfl, hS, (fun p j h => by rw [nF9 p j (by omega)]), (fun _ _ => rfl), (by
                first
                  | (exfalso; omega)
                  | (rw [ezp_pt_0]
                     repeat (first | rw [if_pos (by omega)] | rw [if_neg (by omega)])
                     exact st_9)), (by
                first
                  | (exfalso; omega)
                  | (rw [ezp_pt_0]
                     repeat (first | rw [if_pos (by omega)] | rw [if_neg (by omega)])
                     exact (ezt_LW_fr lw (by rw [nF9 9 4 (by decide)]) rfl))), rfl⟩
        · refine ezw_iconst (5) rfl rfl ?_
          refine ezw_goto rfl rfl ?_
          refine ezw_call0_1 rfl (by omega) (ezu_at rfl) rfl rfl rfl rfl (ezt_m50_1 hS (by omega) ⟨by decide, by decide⟩ hn hc tp st (by omega)) ?_
          rintro _ _ ⟨F10, rfl, hS, nF10, st_10, rfl⟩
          refine ezw_goto rfl rfl ?_
          exact ezw_return rfl rfl ⟨F10, A, rfl, hS, (fun p j h => by rw [nF10 p j (by omega)]), (fun _ _ => rfl), (by
                first
                  | (exfalso; omega)
                  | (rw [ezp_pt_0]
                     repeat (first | rw [if_pos (by omega)] | rw [if_neg (by omega)])
                     exact st_10)), (by
                first
                  | (exfalso; omega)
                  | (rw [ezp_pt_0]
                     repeat (first | rw [if_pos (by omega)] | rw [if_neg (by omega)])
                     exact (ezt_LW_fr lw (by rw [nF10 9 4 (by decide)]) rfl))), rfl⟩
    refine ezw_if_ne rfl rfl hy3 (fun h23_4 => ?_) (fun h23_4 => ?_)
    · refine ezw_iconst (1) rfl rfl ?_
      refine ezw_goto rfl rfl ?_
      exact ezw_keepE [true, true, true, true, false] (J59_6 (1) ⟨by decide, by decide⟩ (by omega))
    · refine ezw_aload_n rfl rfl ?_
      refine ezw_bipush (101) rfl rfl ?_
      refine ezw_call0_1 rfl (by omega) (ezu_at rfl) rfl rfl rfl rfl (ezt_m46_1 hS (by omega) ⟨by decide, by decide⟩ hn hc tp st) ?_
      rintro _ _ ⟨rfl, u12, hu12, p11_0, p11_1, rfl⟩
      refine ezw_if_ne rfl rfl ⟨by omega, by omega⟩ (fun h32_12 => ?_) (fun h32_12 => ?_)
      · refine ezw_iconst (1) rfl rfl ?_
        refine ezw_goto rfl rfl ?_
        exact ezw_keepE [true, true, true, true, false] (J59_6 (1) ⟨by decide, by decide⟩ (by omega))
      · refine ezw_aload_n rfl rfl ?_
        refine ezw_bipush (41) rfl rfl ?_
        refine ezw_call0_1 rfl (by omega) (ezu_at rfl) rfl rfl rfl rfl (ezt_m46_1 hS (by omega) ⟨by decide, by decide⟩ hn hc tp st) ?_
        rintro _ _ ⟨rfl, u14, hu14, p13_0, p13_1, rfl⟩
        refine ezw_if_ne rfl rfl ⟨by omega, by omega⟩ (fun h41_14 => ?_) (fun h41_14 => ?_)
        · refine ezw_iconst (1) rfl rfl ?_
          refine ezw_goto rfl rfl ?_
          exact ezw_keepE [true, true, true, true, false] (J59_6 (1) ⟨by decide, by decide⟩ (by omega))
        · refine ezw_aload_n rfl rfl ?_
          refine ezw_sipush (240) rfl rfl ?_
          refine ezw_call0_1 rfl (by omega) (ezu_at rfl) rfl rfl rfl rfl (ezt_m46_1 hS (by omega) ⟨by decide, by decide⟩ hn hc tp st) ?_
          rintro _ _ ⟨rfl, u16, hu16, p15_0, p15_1, rfl⟩
          refine ezw_if_eq rfl rfl ⟨by omega, by omega⟩ (fun h51_16 => ?_) (fun h51_16 => ?_)
          · refine ezw_iconst (0) rfl rfl ?_
            exact ezw_keepE [true, true, true, true, false] (J59_6 (0) ⟨by decide, by decide⟩ (by omega))
          · refine ezw_iconst (1) rfl rfl ?_
            refine ezw_goto rfl rfl ?_
            exact ezw_keepE [true, true, true, true, false] (J59_6 (1) ⟨by decide, by decide⟩ (by omega))
  refine ezw_if_eq rfl rfl ⟨by omega, by omega⟩ (fun h6_2 => ?_) (fun h6_2 => ?_)
  · refine ezw_iconst (0) rfl rfl ?_
    exact ezw_keepE [true, true, true, false, false] (J21_4 (0) ⟨by decide, by decide⟩ (by omega))
  · refine ezw_aload_n rfl rfl ?_
    have f5 := (c7i (p1_0 (by omega)).1 (p1_0 (by omega)).2).2
    refine ezy_get_i hS rfl rfl rfl rfl rfl rfl (fun u17 hu17 ku17 eu17 => ?_)
    replace eu17 := eu17.symm
    subst eu17
    refine ezw_if_lt rfl rfl hu17 (fun h13_17 => ?_) (fun h13_17 => ?_)
    · refine ezw_iconst (0) rfl rfl ?_
      exact ezw_keepE [true, true, true, false, false] (J21_4 (0) ⟨by decide, by decide⟩ (by omega))
    · refine ezw_iconst (1) rfl rfl ?_
      refine ezw_goto rfl rfl ?_
      exact ezw_keepE [true, true, true, false, false] (J21_4 (1) ⟨by decide, by decide⟩ (by omega))
end KT
