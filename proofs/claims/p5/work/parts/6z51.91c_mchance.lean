/-! ===== the model: a chance ===== -/
section KM6
variable {l : Launch} {ρ : ezq_E} {B : Nat} {xa : Nat → Option Nat} {Hb : Heap} {D : va_G} {cA : Nat → ClassId} {d : Nat} {e : Bool × Bool} {F : Nat → Nat → Int} {A : Nat → Int → Int} {i0 i2 i3 i7 i8 i13 i18 i19 i20 i25 i29 i30 i31 i36 i37 i38 : Int} {r73 r74 r75 r76 r77 r78 r79 r80 r81 r82 r83 r84 r85 r86 r87 r88 r89 r90 r91 r92 r93 r94 r95 : Int → Int}
def ezm_m271nQ (e : Bool × Bool) (F : Nat → Nat → Int) (A : Nat → Int → Int) (i0 i2 i3 i7 i8 i13 i18 i19 i20 i25 i29 i30 i31 i36 i37 i38 : Int) (r73 r74 r75 r76 r77 r78 r79 r80 r81 r82 r83 r84 r85 r86 r87 r88 r89 r90 r91 r92 r93 r94 r95 : Int → Int) (a0 : Int) (a1 : Int) (a2 : Int) : Option ezq_V → (Nat → ezq_C) → Prop := fun v g' => ezm_h e F A i0 i2 i3 i7 i8 i13 i18 i19 i20 i25 i29 i30 i31 i36 i37 i38 r73 r74 r75 r76 r77 r78 r79 r80 r81 r82 r83 r84 r85 r86 r87 r88 r89 r90 r91 r92 r93 r94 r95 = g' ∧ ∃ u : Int, (ezw_in u) ∧ (∀ e, -12 ≤ e → e ≤ -6 → a0 = ezm_mo e → u = ezv_bin e a1 a2) ∧ some (ezw_i u) = v
theorem ezm_m271n {a0 a1 a2 : Int} (hT : ezm_T i0 i2 i3 i7 i8 i13 i18 i19 i20 i25 i29 i30 i31 i36 i37 i38 r73 r74 r75 r76 r77 r78 r79 r80 r81 r82 r83 r84 r85 r86 r87 r88 r89 r90 r91 r92 r93 r94 r95) (hd : 0 ≤ d) (ha0 : ezw_in a0) (ha1 : ezw_in a1) (ha2 : ezw_in a2) : ezw_C l ρ B xa Hb D cA 271 d [ezw_i a0, ezw_i a1, ezw_i a2] (ezm_h e F A i0 i2 i3 i7 i8 i13 i18 i19 i20 i25 i29 i30 i31 i36 i37 i38 r73 r74 r75 r76 r77 r78 r79 r80 r81 r82 r83 r84 r85 r86 r87 r88 r89 r90 r91 r92 r93 r94 r95) (ezm_m271nQ  e F A i0 i2 i3 i7 i8 i13 i18 i19 i20 i25 i29 i30 i31 i36 i37 i38 r73 r74 r75 r76 r77 r78 r79 r80 r81 r82 r83 r84 r85 r86 r87 r88 r89 r90 r91 r92 r93 r94 r95 a0 a1 a2) := by
  refine ezw_met (k := 0) rfl rfl ?_
  refine ezw_iload_n rfl rfl ?_
  by_cases q1 : a0 = (4)
  · refine ezw_tableswitchE (v := 4) (p := 40) q1 rfl (by rfl) ?_
    refine ezw_iload_n rfl rfl ?_
    refine ezw_iload_n rfl rfl ?_
    refine ezv_iadd rfl ?_
    exact ezw_ireturn rfl rfl ⟨rfl, (ezv_w (a1 + a2)), (ezv_w_in _), (fun e e0 e1 he => by
          have hi := ezm_moI e0
          unfold ezv_bin
          repeat (first | rw [if_pos (by omega)] | rw [if_neg (by omega)])), rfl⟩
  by_cases q2 : a0 = (5)
  · refine ezw_tableswitchE (v := 5) (p := 44) q2 rfl (by rfl) ?_
    refine ezw_iload_n rfl rfl ?_
    refine ezw_iload_n rfl rfl ?_
    refine ezv_isub rfl ?_
    exact ezw_ireturn rfl rfl ⟨rfl, (ezv_w (a1 - a2)), (ezv_w_in _), (fun e e0 e1 he => by
          have hi := ezm_moI e0
          unfold ezv_bin
          repeat (first | rw [if_pos (by omega)] | rw [if_neg (by omega)])), rfl⟩
  by_cases q3 : a0 = (6)
  · refine ezw_tableswitchE (v := 6) (p := 48) q3 rfl (by rfl) ?_
    refine ezw_iload_n rfl rfl ?_
    refine ezw_iload_n rfl rfl ?_
    refine ezv_imul rfl ?_
    exact ezw_ireturn rfl rfl ⟨rfl, (ezv_w (a1 * a2)), (ezv_w_in _), (fun e e0 e1 he => by
          have hi := ezm_moI e0
          unfold ezv_bin
          repeat (first | rw [if_pos (by omega)] | rw [if_neg (by omega)])), rfl⟩
  by_cases q4 : a0 = (7)
  · refine ezw_tableswitchE (v := 7) (p := 52) q4 rfl (by rfl) ?_
    refine ezw_iload_n rfl rfl ?_
    refine ezw_iload_n rfl rfl ?_
    refine ezw_icmp_ge rfl rfl ha1 ha2 (fun h54_4 => ?_) (fun h54_4 => ?_)
    · refine ezw_iconst (0) rfl rfl ?_
      exact ezw_ireturn rfl rfl ⟨rfl, (0), ⟨by decide, by decide⟩, (fun e e0 e1 he => by
            have hi := ezm_moI e0
            unfold ezv_bin
            repeat (first | rw [if_pos (by omega)] | rw [if_neg (by omega)])), rfl⟩
    · refine ezw_iconst (1) rfl rfl ?_
      refine ezw_goto rfl rfl ?_
      exact ezw_ireturn rfl rfl ⟨rfl, (1), ⟨by decide, by decide⟩, (fun e e0 e1 he => by
            have hi := ezm_moI e0
            unfold ezv_bin
            repeat (first | rw [if_pos (by omega)] | rw [if_neg (by omega)])), rfl⟩
  by_cases q5 : a0 = (8)
  · refine ezw_tableswitchE (v := 8) (p := 63) q5 rfl (by rfl) ?_
    refine ezw_iload_n rfl rfl ?_
    refine ezw_iload_n rfl rfl ?_
    refine ezw_icmp_ne rfl rfl ha1 ha2 (fun h65_5 => ?_) (fun h65_5 => ?_)
    · refine ezw_iconst (0) rfl rfl ?_
      exact ezw_ireturn rfl rfl ⟨rfl, (0), ⟨by decide, by decide⟩, (fun e e0 e1 he => by
            have hi := ezm_moI e0
            unfold ezv_bin
            repeat (first | rw [if_pos (by omega)] | rw [if_neg (by omega)])), rfl⟩
    · refine ezw_iconst (1) rfl rfl ?_
      refine ezw_goto rfl rfl ?_
      exact ezw_ireturn rfl rfl ⟨rfl, (1), ⟨by decide, by decide⟩, (fun e e0 e1 he => by
            have hi := ezm_moI e0
            unfold ezv_bin
            repeat (first | rw [if_pos (by omega)] | rw [if_neg (by omega)])), rfl⟩
  by_cases q6 : a0 = (9)
  · refine ezw_tableswitchE (v := 9) (p := 74) q6 rfl (by rfl) ?_
    refine ezw_iload_n rfl rfl ?_
    refine ezw_if_eq rfl rfl ha1 (fun h75_6 => ?_) (fun h75_6 => ?_)
    · refine ezw_iconst (0) rfl rfl ?_
      exact ezw_ireturn rfl rfl ⟨rfl, (0), ⟨by decide, by decide⟩, (fun e e0 e1 he => by
            have hi := ezm_moI e0
            unfold ezv_bin
            repeat (first | rw [if_pos (by omega)] | rw [if_neg (by omega)])), rfl⟩
    · refine ezw_iload_n rfl rfl ?_
      refine ezw_if_eq rfl rfl ha2 (fun h79_6 => ?_) (fun h79_6 => ?_)
      · refine ezw_iconst (0) rfl rfl ?_
        exact ezw_ireturn rfl rfl ⟨rfl, (0), ⟨by decide, by decide⟩, (fun e e0 e1 he => by
              have hi := ezm_moI e0
              unfold ezv_bin
              repeat (first | rw [if_pos (by omega)] | rw [if_neg (by omega)])), rfl⟩
      · refine ezw_iconst (1) rfl rfl ?_
        refine ezw_goto rfl rfl ?_
        exact ezw_ireturn rfl rfl ⟨rfl, (1), ⟨by decide, by decide⟩, (fun e e0 e1 he => by
              have hi := ezm_moI e0
              unfold ezv_bin
              repeat (first | rw [if_pos (by omega)] | rw [if_neg (by omega)])), rfl⟩
  refine ezw_tableswitch (p := 88) rfl (ezs_swd ha0 (And.intro (And.intro ⟨by decide, by decide⟩ (fun z => q1 z.symm)) (And.intro (And.intro ⟨by decide, by decide⟩ (fun z => q2 z.symm)) (And.intro (And.intro ⟨by decide, by decide⟩ (fun z => q3 z.symm)) (And.intro (And.intro ⟨by decide, by decide⟩ (fun z => q4 z.symm)) (And.intro (And.intro ⟨by decide, by decide⟩ (fun z => q5 z.symm)) (And.intro (And.intro ⟨by decide, by decide⟩ (fun z => q6 z.symm)) True.intro)))))) rfl) ?_
  refine ezw_iload_n rfl rfl ?_
  refine ezw_if_ne rfl rfl ha1 (fun h89_6 => ?_) (fun h89_6 => ?_)
  · refine ezw_iconst (1) rfl rfl ?_
    refine ezw_goto rfl rfl ?_
    exact ezw_ireturn rfl rfl ⟨rfl, (1), ⟨by decide, by decide⟩, (fun e e0 e1 he => by
          have hi := ezm_moI e0
          unfold ezv_bin
          repeat (first | rw [if_pos (by omega)] | rw [if_neg (by omega)])), rfl⟩
  · refine ezw_iload_n rfl rfl ?_
    refine ezw_if_eq rfl rfl ha2 (fun h93_6 => ?_) (fun h93_6 => ?_)
    · refine ezw_iconst (0) rfl rfl ?_
      exact ezw_ireturn rfl rfl ⟨rfl, (0), ⟨by decide, by decide⟩, (fun e e0 e1 he => by
            have hi := ezm_moI e0
            unfold ezv_bin
            repeat (first | rw [if_pos (by omega)] | rw [if_neg (by omega)])), rfl⟩
    · refine ezw_iconst (1) rfl rfl ?_
      refine ezw_goto rfl rfl ?_
      exact ezw_ireturn rfl rfl ⟨rfl, (1), ⟨by decide, by decide⟩, (fun e e0 e1 he => by
            have hi := ezm_moI e0
            unfold ezv_bin
            repeat (first | rw [if_pos (by omega)] | rw [if_neg (by omega)])), rfl⟩
def ezm_m270nQ (e : Bool × Bool) (F : Nat → Nat → Int) (A : Nat → Int → Int) (i0 i2 i3 i7 i8 i13 i18 i19 i20 i25 i29 i30 i31 i36 i37 i38 : Int) (r73 r74 r75 r76 r77 r78 r79 r80 r81 r82 r83 r84 r85 r86 r87 r88 r89 r90 r91 r92 r93 r94 r95 : Int → Int) (R2 : Int × (Int → Int)) (fc : Int → Int) (a1 : Int) : Option ezq_V → (Nat → ezq_C) → Prop := fun v g' => ∃  (x87 : Int → Int), ezm_h e F A i0 i2 i3 i7 i8 i13 i18 i19 i20 i25 i29 i30 i31 i36 i37 i38 r73 r74 r75 r76 r77 r78 r79 r80 r81 r82 r83 r84 r85 r86 x87 r88 r89 r90 r91 r92 r93 r94 r95 = g' ∧ ezm_T i0 i2 i3 i7 i8 i13 i18 i19 i20 i25 i29 i30 i31 i36 i37 i38 r73 r74 r75 r76 r77 r78 r79 r80 r81 r82 r83 r84 r85 r86 x87 r88 r89 r90 r91 r92 r93 r94 r95 ∧ ∃ u : Int, (ezw_in u) ∧ (u = ezv_val fc R2) ∧ some (ezw_i u) = v
theorem ezm_m270n {R2 : Int × (Int → Int)} {fc : Int → Int} {a1 : Int} (hT : ezm_T i0 i2 i3 i7 i8 i13 i18 i19 i20 i25 i29 i30 i31 i36 i37 i38 r73 r74 r75 r76 r77 r78 r79 r80 r81 r82 r83 r84 r85 r86 r87 r88 r89 r90 r91 r92 r93 r94 r95) (hd : 1 ≤ d) (ha1 : ezw_in a1) (hy : ezv_L R2) (k0 : 0 ≤ a1 ∧ a1 + R2.1 + 1 ≤ 1100) (cd : ∀ j, 0 ≤ j → j < R2.1 → r79 (a1 + j) = ezm_mo (R2.2 j) ∧ r80 (a1 + j) = ezm_ma (R2.2 j)) (ce : r79 (a1 + R2.1) = 0) (hf : ∀ k, 0 ≤ k → k < 4 → r86 k = fc k) : ezw_C l ρ B xa Hb D cA 270 d [ezw_p 72, ezw_i a1] (ezm_h e F A i0 i2 i3 i7 i8 i13 i18 i19 i20 i25 i29 i30 i31 i36 i37 i38 r73 r74 r75 r76 r77 r78 r79 r80 r81 r82 r83 r84 r85 r86 r87 r88 r89 r90 r91 r92 r93 r94 r95) (ezm_m270nQ  e F A i0 i2 i3 i7 i8 i13 i18 i19 i20 i25 i29 i30 i31 i36 i37 i38 r73 r74 r75 r76 r77 r78 r79 r80 r81 r82 r83 r84 r85 r86 r87 r88 r89 r90 r91 r92 r93 r94 r95 R2 fc a1) := by
  refine ezw_met (k := 3) rfl rfl ?_
  have hy0 := hy.1
  have hy1000 := hy.2.1
  refine ezw_iconst (0) rfl rfl ?_
  refine ezw_istore_n rfl rfl ?_
  refine ezw_iload_n rfl rfl ?_
  refine ezw_istore_n rfl rfl ?_
  have L4_2 : ∀ c1 : Int, ezw_in c1 → ∀ y3 : Int, ezw_in y3 → ∀ x87_2 : Int → Int, ezm_T i0 i2 i3 i7 i8 i13 i18 i19 i20 i25 i29 i30 i31 i36 i37 i38 r73 r74 r75 r76 r77 r78 r79 r80 r81 r82 r83 r84 r85 r86 x87_2 r88 r89 r90 r91 r92 r93 r94 r95 → (a1 ≤ c1) → (c1 ≤ a1 + R2.1) → (∃ pl : List Int, y3 = (pl.length : Int) ∧ ezv_P pl x87_2 ∧ pl.length ≤ 32 ∧ ezv_rn fc R2.2 (R2.1 - (c1 - a1)).toNat (c1 - a1) pl = some [ezv_val fc R2]) → ezw_E l ρ B xa Hb D cA d ezq_re270 (ezm_m270nQ  e F A i0 i2 i3 i7 i8 i13 i18 i19 i20 i25 i29 i30 i31 i36 i37 i38 r73 r74 r75 r76 r77 r78 r79 r80 r81 r82 r83 r84 r85 r86 r87 r88 r89 r90 r91 r92 r93 r94 r95 R2 fc a1) 4 [some (ezw_p 72), some (ezw_i a1), some (ezw_i y3), some (ezw_i c1), none] [] (ezm_h e F A i0 i2 i3 i7 i8 i13 i18 i19 i20 i25 i29 i30 i31 i36 i37 i38 r73 r74 r75 r76 r77 r78 r79 r80 r81 r82 r83 r84 r85 r86 x87_2 r88 r89 r90 r91 r92 r93 r94 r95) := by
    refine ezs_up ?_
    intro c1 hc1 ihc1 y3 hy3 x87_2 hT g_2 cb_2 iv_2
    obtain ⟨pl, hp, hP, hL, hrn⟩ := iv_2
    refine ezw_aload_n rfl rfl ?_
    refine ezm_gp (p := 79) rfl (fun _ => rfl) ?_
    refine ezw_iload_n rfl rfl ?_
    refine ezm_l79 rfl (by omega) (by omega) (fun u4 eu4 => ?_)
    have ku4 : ezw_in u4 := eu4 ▸ hT.t79 c1
    refine ezw_if_eq rfl rfl ku4 (fun h10_4 => ?_) (fun h10_4 => ?_)
    · have hce : c1 = a1 + R2.1 := by
        rcases Int.lt_or_eq_of_le cb_2 with h9 | h9
        · exfalso
          have h8 := (cd (c1 - a1) (by omega) (by omega)).1
          rw [show a1 + (c1 - a1) = c1 by omega] at h8
          have h7 := (ezm_moI (hy.2.2.2 (c1 - a1) (by omega) (by omega)).1).2.2.2.2.2.2.2.2.2.2.1
          omega
        · exact h9
      rw [show (R2.1 - (c1 - a1)).toNat = 0 by omega] at hrn
      have hpl : pl = [ezv_val fc R2] := by
        have h9 : some pl = some [ezv_val fc R2] := hrn
        injection h9
      subst hpl
      have hv9 : x87_2 0 = ezv_val fc R2 := hP.1
      refine ezw_aload_n rfl rfl ?_
      refine ezm_gp (p := 87) rfl (fun _ => rfl) ?_
      refine ezw_iconst (0) rfl rfl ?_
      refine ezm_l87 rfl (by omega) (by omega) (fun u5 eu5 => ?_)
      have ku5 : ezw_in u5 := eu5 ▸ hT.t87 (0)
      exact ezw_ireturn rfl rfl ⟨x87_2, rfl, hT, u5, ku5, (by rw [eu5]; exact hv9), rfl⟩
    · have hlt : c1 < a1 + R2.1 := by
        rcases Int.lt_or_eq_of_le cb_2 with h9 | h9
        · exact h9
        · exfalso
          rw [h9, ce] at eu4
          omega
      have hc9 := cd (c1 - a1) (by omega) (by omega)
      rw [show a1 + (c1 - a1) = c1 by omega] at hc9
      have hb := hy.2.2.2 (c1 - a1) (by omega) (by omega)
      obtain ⟨pm, hpm, hrn2⟩ := ezv_rn_i (R2.1 - (c1 + 1 - a1)).toNat (c1 - a1) pl _ (by rw [show (R2.1 - (c1 + 1 - a1)).toNat + 1 = (R2.1 - (c1 - a1)).toNat by omega]; exact hrn)
      obtain ⟨ee, hee⟩ : ∃ ee, ee = R2.2 (c1 - a1) := ⟨_, rfl⟩
      rw [← hee] at hpm hb hc9
      have hmo := ezm_moI hb.1
      have hop : u4 = ezm_mo ee := by rw [eu4]; exact hc9.1
      have hsg : c1 - a1 + 1 = c1 + 1 - a1 := by omega
      rw [hsg] at hrn2
      refine ezw_aload_n rfl rfl ?_
      refine ezm_gp (p := 79) rfl (fun _ => rfl) ?_
      refine ezw_iload_n rfl rfl ?_
      refine ezm_l79 rfl (by omega) (by omega) (fun u6 eu6 => ?_)
      have fu6 : u4 = u6 := eu4.trans eu6.symm
      subst fu6
      refine ezw_istore rfl rfl ?_
      refine ezw_iload rfl rfl ?_
      refine ezw_iconst (1) rfl rfl ?_
      refine ezw_icmp_eq rfl rfl ku4 ⟨by decide, by decide⟩ (fun h24_6 => ?_) (fun h24_6 => ?_)
      · have hl32 : pl.length < 32 := by
          first
            | exact (ezv_st_p hpm (by omega)).2
            | exact (ezv_st_f hpm (by omega) (by omega)).2
        refine ezw_aload_n rfl rfl ?_
        refine ezm_gp (p := 87) rfl (fun _ => rfl) ?_
        refine ezw_iload_n rfl rfl ?_
        refine ezw_iload rfl rfl ?_
        refine ezw_iconst (1) rfl rfl ?_
        refine ezw_icmp_ne rfl rfl ku4 ⟨by decide, by decide⟩ (fun h41_6 => ?_) (fun h41_6 => ?_)
        · refine ezw_aload_n rfl rfl ?_
          refine ezm_gp (p := 86) rfl (fun _ => rfl) ?_
          refine ezw_aload_n rfl rfl ?_
          refine ezm_gp (p := 80) rfl (fun _ => rfl) ?_
          refine ezw_iload_n rfl rfl ?_
          refine ezm_l80 rfl (by omega) (by omega) (fun u7 eu7 => ?_)
          have ku7 : ezw_in u7 := eu7 ▸ hT.t80 c1
          have hma : u7 = -1 - ee := by
            rw [eu7, hc9.2]
            exact (ezm_ma_2 rfl (by omega) (by omega))
          refine ezm_l86 rfl (by omega) (by omega) (fun u8 eu8 => ?_)
          have ku8 : ezw_in u8 := eu8 ▸ hT.t86 u7
          refine ezm_s87 hT rfl (by omega) (by omega) ku8 (fun r87_9 hT er87_9 fr87_9 => ?_)
          refine ezw_iinc (k := y3 + 1) (1) rfl rfl rfl (by omega) rfl ?_
          refine ezw_goto rfl rfl ?_
          refine ezw_iinc (k := c1 + 1) (1) rfl rfl rfl (by omega) rfl ?_
          refine ezw_goto rfl rfl ?_
          exact ezw_keepE [true, true, true, true, false] (ihc1 (c1 + 1) (by omega) ⟨by omega, by omega⟩ (y3 + 1) ⟨by omega, by omega⟩ r87_9 hT (by omega) (by omega) (⟨fc (-1 - ee) :: pl, (by rw [hp]; simp), ezv_P_1 hP (by rw [show ((pl.length : Nat) : Int) = y3 by omega, er87_9, eu8, hma]; exact hf _ (by omega) (by omega)) (fun j hj => fr87_9 j (by omega)), (by show pl.length + 1 ≤ 32; omega), (by rw [← (ezv_st_f hpm (by omega) (by omega)).1]; exact hrn2)⟩))
        · refine ezw_aload_n rfl rfl ?_
          refine ezm_gp (p := 80) rfl (fun _ => rfl) ?_
          refine ezw_iload_n rfl rfl ?_
          refine ezm_l80 rfl (by omega) (by omega) (fun u10 eu10 => ?_)
          have ku10 : ezw_in u10 := eu10 ▸ hT.t80 c1
          refine ezw_goto rfl rfl ?_
          refine ezm_s87 hT rfl (by omega) (by omega) ku10 (fun r87_11 hT er87_11 fr87_11 => ?_)
          refine ezw_iinc (k := y3 + 1) (1) rfl rfl rfl (by omega) rfl ?_
          refine ezw_goto rfl rfl ?_
          refine ezw_iinc (k := c1 + 1) (1) rfl rfl rfl (by omega) rfl ?_
          refine ezw_goto rfl rfl ?_
          exact ezw_keepE [true, true, true, true, false] (ihc1 (c1 + 1) (by omega) ⟨by omega, by omega⟩ (y3 + 1) ⟨by omega, by omega⟩ r87_11 hT (by omega) (by omega) (⟨ee :: pl, (by rw [hp]; simp), ezv_P_1 hP (by rw [show ((pl.length : Nat) : Int) = y3 by omega, er87_11, eu10, hc9.2]; exact ezm_ma_1 rfl (by omega)) (fun j hj => fr87_11 j (by omega)), (by show pl.length + 1 ≤ 32; omega), (by rw [← (ezv_st_p hpm (by omega)).1]; exact hrn2)⟩))
      · refine ezw_iload rfl rfl ?_
        refine ezw_iconst (2) rfl rfl ?_
        refine ezw_icmp_ne rfl rfl ku4 ⟨by decide, by decide⟩ (fun h30_11 => ?_) (fun h30_11 => ?_)
        · refine ezw_iload rfl rfl ?_
          refine ezw_iconst (3) rfl rfl ?_
          refine ezw_icmp_ne rfl rfl ku4 ⟨by decide, by decide⟩ (fun h74_11 => ?_) (fun h74_11 => ?_)
          · obtain ⟨sb, sa, sq, se1, se2⟩ := ezv_st_b hpm (by omega)
            subst se1
            have hl1 : sq.length + 1 + 1 ≤ 32 := hL
            have hp1 : y3 = (sq.length : Int) + 1 + 1 := by
              rw [hp]
              simp <;> omega
            refine ezw_iinc (k := y3 - 1) (-1) rfl rfl rfl (by omega) rfl ?_
            refine ezw_aload_n rfl rfl ?_
            refine ezm_gp (p := 87) rfl (fun _ => rfl) ?_
            refine ezw_iload_n rfl rfl ?_
            refine ezw_iconst (1) rfl rfl ?_
            refine ezw_isub (k := y3 - 2) rfl (by omega) ?_
            refine ezw_iload rfl rfl ?_
            refine ezw_aload_n rfl rfl ?_
            refine ezm_gp (p := 87) rfl (fun _ => rfl) ?_
            refine ezw_iload_n rfl rfl ?_
            refine ezw_iconst (1) rfl rfl ?_
            refine ezw_isub (k := y3 - 2) rfl (by omega) ?_
            refine ezm_l87 rfl (by omega) (by omega) (fun u12 eu12 => ?_)
            have ku12 : ezw_in u12 := eu12 ▸ hT.t87 (y3 - 2)
            refine ezw_aload_n rfl rfl ?_
            refine ezm_gp (p := 87) rfl (fun _ => rfl) ?_
            refine ezw_iload_n rfl rfl ?_
            refine ezm_l87 rfl (by omega) (by omega) (fun u13 eu13 => ?_)
            have ku13 : ezw_in u13 := eu13 ▸ hT.t87 (y3 - 1)
            refine ezw_call2_3 rfl (by omega) rfl rfl (ezm_m271n hT (by omega) ku4 ku12 ku13) ?_
            rintro _ _ ⟨rfl, u15, hu15, an_14, rfl⟩
            refine ezm_s87 hT rfl (by omega) (by omega) hu15 (fun r87_16 hT er87_16 fr87_16 => ?_)
            refine ezw_iinc (k := c1 + 1) (1) rfl rfl rfl (by omega) rfl ?_
            refine ezw_goto rfl rfl ?_
            exact ezw_keepE [true, true, true, true, false] (ihc1 (c1 + 1) (by omega) ⟨by omega, by omega⟩ (y3 - 1) ⟨by omega, by omega⟩ r87_16 hT (by omega) (by omega) (⟨ezv_bin ee sa sb :: sq, (by simp; omega), ezv_P_1 (l := sq) hP.2.2 (by rw [show ((sq.length : Nat) : Int) = y3 - 2 by omega, er87_16, an_14 ee (by omega) (by omega) hop]; have h9 : x87_2 ((sa :: sq).length : Int) = sb := hP.1; have h8 : x87_2 (sq.length : Int) = sa := hP.2.1; rw [show (((sa :: sq).length : Nat) : Int) = y3 - 1 by simp; omega, ← eu13] at h9; rw [show ((sq.length : Nat) : Int) = y3 - 2 by omega, ← eu12] at h8; rw [h8, h9]) (fun j hj => fr87_16 j (by omega)), (by show sq.length + 1 ≤ 32; omega), (by rw [← se2]; exact hrn2)⟩))
          · obtain ⟨sa, sq, se1, se2⟩ := ezv_st_n hpm (by omega)
            subst se1
            have hl1 : sq.length + 1 ≤ 32 := hL
            have hp1 : y3 = (sq.length : Int) + 1 := by
              rw [hp]
              simp
            refine ezw_aload_n rfl rfl ?_
            refine ezm_gp (p := 87) rfl (fun _ => rfl) ?_
            refine ezw_iload_n rfl rfl ?_
            refine ezw_iconst (1) rfl rfl ?_
            refine ezw_isub (k := y3 - 1) rfl (by omega) ?_
            refine ezw_aload_n rfl rfl ?_
            refine ezm_gp (p := 87) rfl (fun _ => rfl) ?_
            refine ezw_iload_n rfl rfl ?_
            refine ezw_iconst (1) rfl rfl ?_
            refine ezw_isub (k := y3 - 1) rfl (by omega) ?_
            refine ezm_l87 rfl (by omega) (by omega) (fun u17 eu17 => ?_)
            have ku17 : ezw_in u17 := eu17 ▸ hT.t87 (y3 - 1)
            refine ezw_if_ne rfl rfl ku17 (fun h92_17 => ?_) (fun h92_17 => ?_)
            · refine ezw_iconst (0) rfl rfl ?_
              refine ezm_s87 hT rfl (by omega) (by omega) ⟨by decide, by decide⟩ (fun r87_18 hT er87_18 fr87_18 => ?_)
              refine ezw_goto rfl rfl ?_
              refine ezw_iinc (k := c1 + 1) (1) rfl rfl rfl (by omega) rfl ?_
              refine ezw_goto rfl rfl ?_
              exact ezw_keepE [true, true, true, true, false] (ihc1 (c1 + 1) (by omega) ⟨by omega, by omega⟩ y3 hy3 r87_18 hT (by omega) (by omega) (⟨(if sa = 0 then 1 else 0) :: sq, (by rw [hp1]; simp), ezv_P_1 (l := sq) hP.2 (by rw [show ((sq.length : Nat) : Int) = y3 - 1 by omega, er87_18]; have h9 : x87_2 (sq.length : Int) = sa := hP.1; rw [show ((sq.length : Nat) : Int) = y3 - 1 by omega, ← eu17] at h9; first | (rw [if_pos (by omega)]) | (rw [if_neg (by omega)])) (fun j hj => fr87_18 j (by omega)), (by show sq.length + 1 ≤ 32; omega), (by rw [← se2]; exact hrn2)⟩))
            · refine ezw_iconst (1) rfl rfl ?_
              refine ezw_goto rfl rfl ?_
              refine ezm_s87 hT rfl (by omega) (by omega) ⟨by decide, by decide⟩ (fun r87_19 hT er87_19 fr87_19 => ?_)
              refine ezw_goto rfl rfl ?_
              refine ezw_iinc (k := c1 + 1) (1) rfl rfl rfl (by omega) rfl ?_
              refine ezw_goto rfl rfl ?_
              exact ezw_keepE [true, true, true, true, false] (ihc1 (c1 + 1) (by omega) ⟨by omega, by omega⟩ y3 hy3 r87_19 hT (by omega) (by omega) (⟨(if sa = 0 then 1 else 0) :: sq, (by rw [hp1]; simp), ezv_P_1 (l := sq) hP.2 (by rw [show ((sq.length : Nat) : Int) = y3 - 1 by omega, er87_19]; have h9 : x87_2 (sq.length : Int) = sa := hP.1; rw [show ((sq.length : Nat) : Int) = y3 - 1 by omega, ← eu17] at h9; first | (rw [if_pos (by omega)]) | (rw [if_neg (by omega)])) (fun j hj => fr87_19 j (by omega)), (by show sq.length + 1 ≤ 32; omega), (by rw [← se2]; exact hrn2)⟩))
        · have hl32 : pl.length < 32 := by
            first
              | exact (ezv_st_p hpm (by omega)).2
              | exact (ezv_st_f hpm (by omega) (by omega)).2
          refine ezw_aload_n rfl rfl ?_
          refine ezm_gp (p := 87) rfl (fun _ => rfl) ?_
          refine ezw_iload_n rfl rfl ?_
          refine ezw_iload rfl rfl ?_
          refine ezw_iconst (1) rfl rfl ?_
          refine ezw_icmp_ne rfl rfl ku4 ⟨by decide, by decide⟩ (fun h41_19 => ?_) (fun h41_19 => ?_)
          · refine ezw_aload_n rfl rfl ?_
            refine ezm_gp (p := 86) rfl (fun _ => rfl) ?_
            refine ezw_aload_n rfl rfl ?_
            refine ezm_gp (p := 80) rfl (fun _ => rfl) ?_
            refine ezw_iload_n rfl rfl ?_
            refine ezm_l80 rfl (by omega) (by omega) (fun u20 eu20 => ?_)
            have ku20 : ezw_in u20 := eu20 ▸ hT.t80 c1
            have hma : u20 = -1 - ee := by
              rw [eu20, hc9.2]
              exact (ezm_ma_2 rfl (by omega) (by omega))
            refine ezm_l86 rfl (by omega) (by omega) (fun u21 eu21 => ?_)
            have ku21 : ezw_in u21 := eu21 ▸ hT.t86 u20
            refine ezm_s87 hT rfl (by omega) (by omega) ku21 (fun r87_22 hT er87_22 fr87_22 => ?_)
            refine ezw_iinc (k := y3 + 1) (1) rfl rfl rfl (by omega) rfl ?_
            refine ezw_goto rfl rfl ?_
            refine ezw_iinc (k := c1 + 1) (1) rfl rfl rfl (by omega) rfl ?_
            refine ezw_goto rfl rfl ?_
            exact ezw_keepE [true, true, true, true, false] (ihc1 (c1 + 1) (by omega) ⟨by omega, by omega⟩ (y3 + 1) ⟨by omega, by omega⟩ r87_22 hT (by omega) (by omega) (⟨fc (-1 - ee) :: pl, (by rw [hp]; simp), ezv_P_1 hP (by rw [show ((pl.length : Nat) : Int) = y3 by omega, er87_22, eu21, hma]; exact hf _ (by omega) (by omega)) (fun j hj => fr87_22 j (by omega)), (by show pl.length + 1 ≤ 32; omega), (by rw [← (ezv_st_f hpm (by omega) (by omega)).1]; exact hrn2)⟩))
          · refine ezw_aload_n rfl rfl ?_
            refine ezm_gp (p := 80) rfl (fun _ => rfl) ?_
            refine ezw_iload_n rfl rfl ?_
            refine ezm_l80 rfl (by omega) (by omega) (fun u23 eu23 => ?_)
            have ku23 : ezw_in u23 := eu23 ▸ hT.t80 c1
            refine ezw_goto rfl rfl ?_
            refine ezm_s87 hT rfl (by omega) (by omega) ku23 (fun r87_24 hT er87_24 fr87_24 => ?_)
            refine ezw_iinc (k := y3 + 1) (1) rfl rfl rfl (by omega) rfl ?_
            refine ezw_goto rfl rfl ?_
            refine ezw_iinc (k := c1 + 1) (1) rfl rfl rfl (by omega) rfl ?_
            refine ezw_goto rfl rfl ?_
            exact ezw_keepE [true, true, true, true, false] (ihc1 (c1 + 1) (by omega) ⟨by omega, by omega⟩ (y3 + 1) ⟨by omega, by omega⟩ r87_24 hT (by omega) (by omega) (⟨ee :: pl, (by rw [hp]; simp), ezv_P_1 hP (by rw [show ((pl.length : Nat) : Int) = y3 by omega, er87_24, eu23, hc9.2]; exact ezm_ma_1 rfl (by omega)) (fun j hj => fr87_24 j (by omega)), (by show pl.length + 1 ≤ 32; omega), (by rw [← (ezv_st_p hpm (by omega)).1]; exact hrn2)⟩))
  exact ezw_keepE [true, true, true, true, false] (L4_2 a1 ha1 (0) ⟨by decide, by decide⟩ r87 hT (by omega) (by omega) (⟨[], rfl, True.intro, by decide, (by rw [Int.sub_self, Int.sub_zero]; exact ezv_val_v hy)⟩))
def ezm_m259_v2aQ (e : Bool × Bool) (F : Nat → Nat → Int) (A : Nat → Int → Int) (i0 i2 i3 i7 i8 i13 i18 i19 i20 i25 i29 i30 i31 i36 i37 i38 : Int) (r73 r74 r75 r76 r77 r78 r79 r80 r81 r82 r83 r84 r85 r86 r87 r88 r89 r90 r91 r92 r93 r94 r95 : Int → Int) (a1 : Int) : Option ezq_V → (Nat → ezq_C) → Prop := fun v g' => ezm_h e F A i0 i2 i3 i7 i8 i13 i18 i19 i20 i25 i29 i30 i31 i36 i37 i38 r73 r74 r75 r76 r77 r78 r79 r80 r81 r82 r83 r84 r85 r86 r87 r88 r89 r90 r91 r92 r93 r94 r95 = g' ∧ ∃ u : Int, (ezw_in u) ∧ (u = r78 (4 * a1 + 19)) ∧ some (ezw_i u) = v
theorem ezm_m259_v2a {a1 : Int} (hT : ezm_T i0 i2 i3 i7 i8 i13 i18 i19 i20 i25 i29 i30 i31 i36 i37 i38 r73 r74 r75 r76 r77 r78 r79 r80 r81 r82 r83 r84 r85 r86 r87 r88 r89 r90 r91 r92 r93 r94 r95) (hd : 0 ≤ d) (ha1 : ezw_in a1) (ga : 0 ≤ a1 ∧ a1 ≤ 7) : ezw_C l ρ B xa Hb D cA 259 d [ezw_p 72, ezw_i a1, ezw_i (2)] (ezm_h e F A i0 i2 i3 i7 i8 i13 i18 i19 i20 i25 i29 i30 i31 i36 i37 i38 r73 r74 r75 r76 r77 r78 r79 r80 r81 r82 r83 r84 r85 r86 r87 r88 r89 r90 r91 r92 r93 r94 r95) (ezm_m259_v2aQ  e F A i0 i2 i3 i7 i8 i13 i18 i19 i20 i25 i29 i30 i31 i36 i37 i38 r73 r74 r75 r76 r77 r78 r79 r80 r81 r82 r83 r84 r85 r86 r87 r88 r89 r90 r91 r92 r93 r94 r95 a1) := by
  refine ezw_met (k := 0) rfl rfl ?_
  refine ezw_aload_n rfl rfl ?_
  refine ezm_gp (p := 78) rfl (fun _ => rfl) ?_
  refine ezw_bipush (17) rfl rfl ?_
  refine ezw_iconst (4) rfl rfl ?_
  refine ezw_iload_n rfl rfl ?_
  refine ezw_imul (k := 4 * a1) rfl (by omega) ?_
  refine ezw_iadd (k := 4 * a1 + 17) rfl (by omega) ?_
  refine ezw_iload_n rfl rfl ?_
  refine ezw_iadd (k := 4 * a1 + 19) rfl (by omega) ?_
  refine ezm_l78 rfl (by omega) (by omega) (fun u1 eu1 => ?_)
  have ku1 : ezm_k78 (4 * a1 + 19) u1 := eu1 ▸ hT.t78 (4 * a1 + 19)
  exact ezw_ireturn rfl rfl ⟨rfl, u1, (ezm_in78 ku1), eu1, rfl⟩
def ezm_m269nQ (e : Bool × Bool) (F : Nat → Nat → Int) (A : Nat → Int → Int) (i0 i2 i3 i7 i8 i13 i18 i19 i20 i25 i29 i30 i31 i36 i37 i38 : Int) (r73 r74 r75 r76 r77 r78 r79 r80 r81 r82 r83 r84 r85 r86 r87 r88 r89 r90 r91 r92 r93 r94 r95 : Int → Int) (z : ezp_D) (L : ezv_LL) (a1 : Int) (a2 : Int) (a3 : Int) (a4 : Int) (a5 : Int) : Option ezq_V → (Nat → ezq_C) → Prop := fun v g' => ∃  (x86 x87 : Int → Int), ezm_h e F A i0 i2 i3 i7 i8 i13 i18 i19 i20 i25 i29 i30 i31 i36 i37 i38 r73 r74 r75 r76 r77 r78 r79 r80 r81 r82 r83 r84 r85 x86 x87 r88 r89 r90 r91 r92 r93 r94 r95 = g' ∧ ezm_T i0 i2 i3 i7 i8 i13 i18 i19 i20 i25 i29 i30 i31 i36 i37 i38 r73 r74 r75 r76 r77 r78 r79 r80 r81 r82 r83 r84 r85 x86 x87 r88 r89 r90 r91 r92 r93 r94 r95 ∧ ∃ u : Int, (ezw_in u) ∧ (u = ezn_qc L z a1 a2 a3 (ezn_aw a4 (z.si a2)) a5) ∧ some (ezw_i u) = v
theorem ezm_m269n {z : ezp_D} {L : ezv_LL} {a1 a2 a3 a4 a5 : Int} (hT : ezm_T i0 i2 i3 i7 i8 i13 i18 i19 i20 i25 i29 i30 i31 i36 i37 i38 r73 r74 r75 r76 r77 r78 r79 r80 r81 r82 r83 r84 r85 r86 r87 r88 r89 r90 r91 r92 r93 r94 r95) (hd : 2 ≤ d) (ha1 : ezw_in a1) (ha2 : ezw_in a2) (ha3 : ezw_in a3) (ha4 : ezw_in a4) (ha5 : ezw_in a5) (ga : 0 ≤ a1 ∧ a1 ≤ 1 ∧ 0 ≤ a2 ∧ a2 < z.kT ∧ 0 ≤ a3 ∧ a3 ≤ 9 ∧ 0 ≤ a4 ∧ a4 < 4 ∧ 0 ≤ a5 ∧ a5 ≤ 1) (tf : ezm_TRF z i18 r78 r81 r83) (hB : ezp_B z) (mf : ezm_MF L r78 r79 r80) (lo : ezv_LO L) : ezw_C l ρ B xa Hb D cA 269 d [ezw_p 72, ezw_i a1, ezw_i a2, ezw_i a3, ezw_i a4, ezw_i a5] (ezm_h e F A i0 i2 i3 i7 i8 i13 i18 i19 i20 i25 i29 i30 i31 i36 i37 i38 r73 r74 r75 r76 r77 r78 r79 r80 r81 r82 r83 r84 r85 r86 r87 r88 r89 r90 r91 r92 r93 r94 r95) (ezm_m269nQ  e F A i0 i2 i3 i7 i8 i13 i18 i19 i20 i25 i29 i30 i31 i36 i37 i38 r73 r74 r75 r76 r77 r78 r79 r80 r81 r82 r83 r84 r85 r86 r87 r88 r89 r90 r91 r92 r93 r94 r95 z L a1 a2 a3 a4 a5) := by
  refine ezw_met (k := 2) rfl rfl ?_
  obtain ⟨⟨k0, k1, k2, k3⟩, ktw, kth, kov, ksg, kel, knu, knm⟩ := ezm_TRFi tf
  obtain ⟨b1, b2, b3, b4, b5, b6, b7, ⟨b8, b8'⟩, b9⟩ := id hB
  refine ezw_iload rfl rfl ?_
  refine ezw_aload_n rfl rfl ?_
  refine ezw_iload_n rfl rfl ?_
  refine ezw_iconst (2) rfl rfl ?_
  refine ezw_call0_2 rfl (by omega) (ezm_at rfl) rfl rfl rfl rfl (ezm_m259_v2a hT (by omega) ha2 (by omega)) ?_
  rintro _ _ ⟨rfl, u2, hu2, tw_1, rfl⟩
  have f1 := (ktw a2 (by omega) (by omega)).2.2.1
  have f2 := (b1 a2 (by omega) (by omega)).2.2.1
  have f3 := tw_1
  refine ezw_isub (k := a4 - u2) rfl (by omega) ?_
  refine ezw_iconst (4) rfl rfl ?_
  refine ezw_iadd (k := a4 - u2 + 4) rfl (by omega) ?_
  refine ezw_iconst (4) rfl rfl ?_
  refine ezm_irem rfl ⟨by omega, by omega⟩ ⟨by decide, by decide⟩ (by decide) (fun u3 hu3 ku3 => ?_)
  refine ezw_istore rfl rfl ?_
  refine ezw_aload_n rfl rfl ?_
  refine ezm_gp (p := 86) rfl (fun _ => rfl) ?_
  refine ezw_iconst (0) rfl rfl ?_
  refine ezw_iload_n rfl rfl ?_
  refine ezm_s86 hT rfl (by omega) (by omega) ha3 (fun r86_4 hT er86_4 fr86_4 => ?_)
  refine ezw_aload_n rfl rfl ?_
  refine ezm_gp (p := 86) rfl (fun _ => rfl) ?_
  refine ezw_iconst (1) rfl rfl ?_
  refine ezw_aload_n rfl rfl ?_
  refine ezw_iload_n rfl rfl ?_
  refine ezw_iconst (1) rfl rfl ?_
  refine ezw_call0_2 rfl (by omega) (ezm_at rfl) rfl rfl rfl rfl (ezm_m259_v1a hT (by omega) ha2 (by omega)) ?_
  rintro _ _ ⟨rfl, u6, hu6, tw_5, rfl⟩
  have g1 := (ktw a2 (by omega) (by omega)).2.1
  have g2 := (b1 a2 (by omega) (by omega)).2.1
  have g3 := tw_5
  refine ezm_s86 hT rfl (by omega) (by omega) hu6 (fun r86_7 hT er86_7 fr86_7 => ?_)
  refine ezw_aload_n rfl rfl ?_
  refine ezm_gp (p := 86) rfl (fun _ => rfl) ?_
  refine ezw_iconst (2) rfl rfl ?_
  refine ezw_iload rfl rfl ?_
  refine ezw_iconst (3) rfl rfl ?_
  have J51_9 : ∀ y8 : Int, ezw_in y8 → (y8 = ezn_aw a4 (z.si a2)) → ezw_E l ρ B xa Hb D cA d ezq_re269 (ezm_m269nQ  e F A i0 i2 i3 i7 i8 i13 i18 i19 i20 i25 i29 i30 i31 i36 i37 i38 r73 r74 r75 r76 r77 r78 r79 r80 r81 r82 r83 r84 r85 r86 r87 r88 r89 r90 r91 r92 r93 r94 r95 z L a1 a2 a3 a4 a5) 51 [some (ezw_p 72), some (ezw_i a1), some (ezw_i a2), some (ezw_i a3), some (ezw_i a4), some (ezw_i a5), some (ezw_i u3), none] [ezw_i y8, ezw_i (2), ezw_p 86] (ezm_h e F A i0 i2 i3 i7 i8 i13 i18 i19 i20 i25 i29 i30 i31 i36 i37 i38 r73 r74 r75 r76 r77 r78 r79 r80 r81 r82 r83 r84 r85 r86_7 r87 r88 r89 r90 r91 r92 r93 r94 r95) := by
    intro y8 hy8 aw_9
    have hawr := ezn_aw_r a4 (z.si a2)
    refine ezm_s86 hT rfl (by omega) (by omega) hy8 (fun r86_10 hT er86_10 fr86_10 => ?_)
    refine ezw_aload_n rfl rfl ?_
    refine ezm_gp (p := 86) rfl (fun _ => rfl) ?_
    refine ezw_iconst (3) rfl rfl ?_
    refine ezw_iload rfl rfl ?_
    refine ezm_s86 hT rfl (by omega) (by omega) ha5 (fun r86_11 hT er86_11 fr86_11 => ?_)
    have hfc : ∀ k, 0 ≤ k → k < 4 → r86_11 k = ezv_fc a3 (z.th a2) (ezn_aw a4 (z.si a2)) a5 k := by
      intro k k0 k1
      rcases (show k = 0 ∨ k = 1 ∨ k = 2 ∨ k = 3 by omega) with rfl | rfl | rfl | rfl
      · rw [fr86_11 (0) (by omega), fr86_10 (0) (by omega), fr86_7 (0) (by omega), er86_4]
        rfl
      · rw [fr86_11 (1) (by omega), fr86_10 (1) (by omega), er86_7]
        show _ = z.th a2
        omega
      · rw [fr86_11 (2) (by omega), er86_10]
        show _ = ezn_aw a4 (z.si a2)
        omega
      · rw [er86_11]
        rfl
    obtain ⟨mg, ml⟩ := ezn_MG mf lo ga.1 ga.2.1
    refine ezw_iload_n rfl rfl ?_
    have J106_13 : ∀ y12 : Int, ezw_in y12 → (y12 = ezn_v0 a1 a3 (ezn_aw a4 (z.si a2)) a5) → ezw_E l ρ B xa Hb D cA d ezq_re269 (ezm_m269nQ  e F A i0 i2 i3 i7 i8 i13 i18 i19 i20 i25 i29 i30 i31 i36 i37 i38 r73 r74 r75 r76 r77 r78 r79 r80 r81 r82 r83 r84 r85 r86 r87 r88 r89 r90 r91 r92 r93 r94 r95 z L a1 a2 a3 a4 a5) 106 [some (ezw_p 72), some (ezw_i a1), some (ezw_i a2), some (ezw_i a3), some (ezw_i a4), some (ezw_i a5), some (ezw_i u3), none] [ezw_i y12] (ezm_h e F A i0 i2 i3 i7 i8 i13 i18 i19 i20 i25 i29 i30 i31 i36 i37 i38 r73 r74 r75 r76 r77 r78 r79 r80 r81 r82 r83 r84 r85 r86_11 r87 r88 r89 r90 r91 r92 r93 r94 r95) := by
      intro y12 hy12 v0_13
      refine ezw_istore rfl rfl ?_
      refine ezw_aload_n rfl rfl ?_
      refine ezm_gp (p := 78) rfl (fun _ => rfl) ?_
      refine ezw_bipush (15) rfl rfl ?_
      refine ezw_iload_n rfl rfl ?_
      refine ezw_iadd (k := a1 + 15) rfl (by omega) ?_
      refine ezm_l78 rfl (by omega) (by omega) (fun u14 eu14 => ?_)
      have ku14 : ezm_k78 (a1 + 15) u14 := eu14 ▸ hT.t78 (a1 + 15)
      have zu14 := ezm_za15 ku14 (by omega)
      have hk9 : u14 = r78 (15 + a1) := by rw [eu14]; congr 1; omega
      have J138_16 : ∀ y15 : Int, ezw_in y15 → ∀ x87_16 : Int → Int, ezm_T i0 i2 i3 i7 i8 i13 i18 i19 i20 i25 i29 i30 i31 i36 i37 i38 r73 r74 r75 r76 r77 r78 r79 r80 r81 r82 r83 r84 r85 r86_11 x87_16 r88 r89 r90 r91 r92 r93 r94 r95 → (y15 = (if (ezn_lw L a1).1 = 1 then ezv_val (ezv_fc a3 (z.th a2) (ezn_aw a4 (z.si a2)) a5) (ezn_lw L a1).2 else ezn_v0 a1 a3 (ezn_aw a4 (z.si a2)) a5)) → ezw_E l ρ B xa Hb D cA d ezq_re269 (ezm_m269nQ  e F A i0 i2 i3 i7 i8 i13 i18 i19 i20 i25 i29 i30 i31 i36 i37 i38 r73 r74 r75 r76 r77 r78 r79 r80 r81 r82 r83 r84 r85 r86 r87 r88 r89 r90 r91 r92 r93 r94 r95 z L a1 a2 a3 a4 a5) 138 [some (ezw_p 72), some (ezw_i a1), some (ezw_i a2), some (ezw_i a3), some (ezw_i a4), some (ezw_i a5), some (ezw_i u3), some (ezw_i y12)] [ezw_i y15] (ezm_h e F A i0 i2 i3 i7 i8 i13 i18 i19 i20 i25 i29 i30 i31 i36 i37 i38 r73 r74 r75 r76 r77 r78 r79 r80 r81 r82 r83 r84 r85 r86_11 x87_16 r88 r89 r90 r91 r92 r93 r94 r95) := by
        intro y15 hy15 x87_16 hT vv_16
        refine ezw_istore rfl rfl ?_
        refine ezw_iload rfl rfl ?_
        refine ezw_if_ge rfl rfl hy15 (fun h142_16 => ?_) (fun h142_16 => ?_)
        · refine ezw_iload rfl rfl ?_
          refine ezw_bipush (10) rfl rfl ?_
          refine ezw_icmp_le rfl rfl hy15 ⟨by decide, by decide⟩ (fun h153_16 => ?_) (fun h153_16 => ?_)
          · refine ezw_iload rfl rfl ?_
            exact ezw_ireturn rfl rfl ⟨r86_11, x87_16, rfl, hT, y15, hy15, (by
                  rw [ezn_qc_e, ← vv_16]
                  unfold ezv_cl
                  (repeat (first | rw [if_pos (by omega)] | rw [if_neg (by omega)]))
                  try omega), rfl⟩
          · refine ezw_bipush (10) rfl rfl ?_
            refine ezw_goto rfl rfl ?_
            exact ezw_ireturn rfl rfl ⟨r86_11, x87_16, rfl, hT, (10), ⟨by decide, by decide⟩, (by
                  rw [ezn_qc_e, ← vv_16]
                  unfold ezv_cl
                  (repeat (first | rw [if_pos (by omega)] | rw [if_neg (by omega)]))
                  try omega), rfl⟩
        · refine ezw_iconst (0) rfl rfl ?_
          refine ezw_goto rfl rfl ?_
          exact ezw_ireturn rfl rfl ⟨r86_11, x87_16, rfl, hT, (0), ⟨by decide, by decide⟩, (by
                rw [ezn_qc_e, ← vv_16]
                unfold ezv_cl
                (repeat (first | rw [if_pos (by omega)] | rw [if_neg (by omega)]))
                try omega), rfl⟩
      refine ezw_if_ge rfl rfl (ezm_in78 ku14) (fun h117_14 => ?_) (fun h117_14 => ?_)
      · refine ezw_aload_n rfl rfl ?_
        refine ezw_aload_n rfl rfl ?_
        refine ezm_gp (p := 78) rfl (fun _ => rfl) ?_
        refine ezw_bipush (15) rfl rfl ?_
        refine ezw_iload_n rfl rfl ?_
        refine ezw_iadd (k := a1 + 15) rfl (by omega) ?_
        refine ezm_l78 rfl (by omega) (by omega) (fun u17 eu17 => ?_)
        have fu17 : u14 = u17 := eu14.trans eu17.symm
        subst fu17
        rcases mg with mg | ⟨m1, m2, m3, m4, m5, m6⟩
        · exfalso
          omega
        rw [← hk9] at m2 m4 m5 m6
        refine ezw_call0_1 rfl (by omega) (ezm_at rfl) rfl rfl rfl rfl (ezm_m270n (R2 := (ezn_lw L a1).2) (fc := (ezv_fc a3 (z.th a2) (ezn_aw a4 (z.si a2)) a5)) hT (by omega) (ezm_in78 ku14) (ml m1) ⟨m2, by omega⟩ m5 m6 hfc) ?_
        rintro _ _ ⟨x87_18, rfl, hT, u19, hu19, an_18, rfl⟩
        exact ezw_keepE [true, true, true, true, true, true, true, true] (J138_16 u19 hu19 x87_18 hT (by rw [if_pos m1]; exact an_18))
      · refine ezw_iload rfl rfl ?_
        refine ezw_goto rfl rfl ?_
        exact ezw_keepE [true, true, true, true, true, true, true, true] (J138_16 y12 hy12 r87 hT (by
              rcases mg with mg | mg
              · rw [if_neg (by omega)]
                exact v0_13
              · exfalso
                omega))
    refine ezw_if_ne rfl rfl ha1 (fun h61_11 => ?_) (fun h61_11 => ?_)
    · refine ezw_iload_n rfl rfl ?_
      refine ezw_iconst (2) rfl rfl ?_
      refine ezw_iload rfl rfl ?_
      refine ezw_imul (k := 2 * a5) rfl (by omega) ?_
      refine ezw_iadd (k := a3 + 2 * a5) rfl (by omega) ?_
      exact ezw_keepE [true, true, true, true, true, true, true, false] (J106_13 (a3 + 2 * a5) ⟨by omega, by omega⟩ (by
            unfold ezn_v0
            first
              | (rw [if_neg (by omega)]; unfold ezv_tear0; omega)
              | (rw [if_pos (by omega)]; unfold ezv_run0; (repeat (first | rw [if_pos (by omega)] | rw [if_neg (by omega)])); done)
              | (rw [if_pos (by omega)]; unfold ezv_run0; (repeat (first | rw [if_pos (by omega)] | rw [if_neg (by omega)])); omega)))
    · refine ezw_aload_n rfl rfl ?_
      refine ezm_gp (p := 86) rfl (fun _ => rfl) ?_
      refine ezw_iconst (2) rfl rfl ?_
      refine ezm_l86 rfl (by omega) (by omega) (fun u20 eu20 => ?_)
      have ku20 : ezw_in u20 := eu20 ▸ hT.t86 (2)
      have hu2 : u20 = ezn_aw a4 (z.si a2) := by rw [eu20]; exact hfc 2 (by decide) (by decide)
      refine ezw_if_ne rfl rfl ku20 (fun h70_20 => ?_) (fun h70_20 => ?_)
      · refine ezw_aload_n rfl rfl ?_
        refine ezm_gp (p := 86) rfl (fun _ => rfl) ?_
        refine ezw_iconst (2) rfl rfl ?_
        refine ezm_l86 rfl (by omega) (by omega) (fun u21 eu21 => ?_)
        have fu21 : u20 = u21 := eu20.trans eu21.symm
        subst fu21
        refine ezw_iconst (1) rfl rfl ?_
        refine ezw_icmp_ne rfl rfl ku20 ⟨by decide, by decide⟩ (fun h87_21 => ?_) (fun h87_21 => ?_)
        · refine ezw_iconst (0) rfl rfl ?_
          refine ezw_goto rfl rfl ?_
          exact ezw_keepE [true, true, true, true, true, true, true, false] (J106_13 (0) ⟨by decide, by decide⟩ (by
                unfold ezn_v0
                first
                  | (rw [if_neg (by omega)]; unfold ezv_tear0; omega)
                  | (rw [if_pos (by omega)]; unfold ezv_run0; (repeat (first | rw [if_pos (by omega)] | rw [if_neg (by omega)])); done)
                  | (rw [if_pos (by omega)]; unfold ezv_run0; (repeat (first | rw [if_pos (by omega)] | rw [if_neg (by omega)])); omega)))
        · refine ezw_iconst (3) rfl rfl ?_
          refine ezw_iload_n rfl rfl ?_
          refine ezw_isub (k := -a3 + 3) rfl (by omega) ?_
          refine ezw_goto rfl rfl ?_
          exact ezw_keepE [true, true, true, true, true, true, true, false] (J106_13 (-a3 + 3) ⟨by omega, by omega⟩ (by
                unfold ezn_v0
                first
                  | (rw [if_neg (by omega)]; unfold ezv_tear0; omega)
                  | (rw [if_pos (by omega)]; unfold ezv_run0; (repeat (first | rw [if_pos (by omega)] | rw [if_neg (by omega)])); done)
                  | (rw [if_pos (by omega)]; unfold ezv_run0; (repeat (first | rw [if_pos (by omega)] | rw [if_neg (by omega)])); omega)))
      · refine ezw_bipush (10) rfl rfl ?_
        refine ezw_iload_n rfl rfl ?_
        refine ezw_isub (k := -a3 + 10) rfl (by omega) ?_
        refine ezw_goto rfl rfl ?_
        exact ezw_keepE [true, true, true, true, true, true, true, false] (J106_13 (-a3 + 10) ⟨by omega, by omega⟩ (by
              unfold ezn_v0
              first
                | (rw [if_neg (by omega)]; unfold ezv_tear0; omega)
                | (rw [if_pos (by omega)]; unfold ezv_run0; (repeat (first | rw [if_pos (by omega)] | rw [if_neg (by omega)])); done)
                | (rw [if_pos (by omega)]; unfold ezv_run0; (repeat (first | rw [if_pos (by omega)] | rw [if_neg (by omega)])); omega)))
  refine ezw_icmp_ne rfl rfl hu3 ⟨by decide, by decide⟩ (fun h42_7 => ?_) (fun h42_7 => ?_)
  · refine ezw_iload rfl rfl ?_
    exact ezw_keepE [true, true, true, true, true, true, true, false] (J51_9 u3 hu3 (by
          unfold ezn_aw
          first
            | (rw [if_pos (by omega)])
            | (rw [if_neg (by omega)]; omega)))
  · refine ezw_iconst (1) rfl rfl ?_
    refine ezw_goto rfl rfl ?_
    exact ezw_keepE [true, true, true, true, true, true, true, false] (J51_9 (1) ⟨by decide, by decide⟩ (by
          unfold ezn_aw
          first
            | (rw [if_pos (by omega)])
            | (rw [if_neg (by omega)]; omega)))
end KM6
