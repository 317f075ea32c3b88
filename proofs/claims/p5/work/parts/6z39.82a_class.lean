/-! ===== the class: what is asked of a tree ===== -/
section KT
variable {l : Launch} {ρ : ezq_E} {B : Nat} {xa : Nat → Option Nat} {Hb : Heap} {D : va_G} {cA : Nat → ClassId} {d : Nat} {e : Bool × Bool}
def ezt_m27_32oQ (e : Bool × Bool) (F : Nat → Nat → Int) (A : Nat → Int → Int) (a1 : Int) : Option ezq_V → (Nat → ezq_C) → Prop := fun v g' => ezu_g e F A = g' ∧ ∃ u : Int, (ezw_in u) ∧ (0 ≤ a1 → a1 < 8 → u = A 32 a1) ∧ (a1 < 0 ∨ 8 ≤ a1 → u = 0) ∧ some (ezw_i u) = v
theorem ezt_m27_32o {a1 : Int} {F : Nat → Nat → Int} {A : Nat → Int → Int} (hS : ezs_T F A) (hd : 0 ≤ d) (ha1 : ezw_in a1) : ezw_C l ρ B xa Hb D cA 27 d [ezw_p 32, ezw_i a1] (ezu_g e F A) (ezt_m27_32oQ e F A a1) := by
  refine ezw_met (k := 0) rfl rfl ?_
  refine ezw_aload_n rfl rfl ?_
  refine ezw_ifnull rfl ?_
  refine ezw_iload_n rfl rfl ?_
  refine ezw_if_lt rfl rfl ha1 (fun h5_0 => ?_) (fun h5_0 => ?_)
  · refine ezw_iconst (0) rfl rfl ?_
    exact ezw_ireturn rfl rfl ⟨rfl, (0), ⟨by decide, by decide⟩, by omega, by omega, rfl⟩
  · refine ezw_iload_n rfl rfl ?_
    refine ezw_aload_n rfl rfl ?_
    refine ezs_alen (k := 8) rfl rfl rfl rfl (by decide) (by decide) ?_
    refine ezw_icmp_ge rfl rfl ha1 ⟨by decide, by decide⟩ (fun h11_0 => ?_) (fun h11_0 => ?_)
    · refine ezw_iconst (0) rfl rfl ?_
      exact ezw_ireturn rfl rfl ⟨rfl, (0), ⟨by decide, by decide⟩, by omega, by omega, rfl⟩
    · refine ezw_aload_n rfl rfl ?_
      refine ezw_iload_n rfl rfl ?_
      refine ezy_iaload hS rfl rfl rfl (by omega) (by omega) (by decide) (fun u1 hu1 ku1 eu1 => ?_)
      refine ezw_goto rfl rfl ?_
      exact ezw_ireturn rfl rfl ⟨rfl, u1, hu1, by omega, by omega, rfl⟩
def ezt_m27_44oQ (e : Bool × Bool) (F : Nat → Nat → Int) (A : Nat → Int → Int) (a1 : Int) : Option ezq_V → (Nat → ezq_C) → Prop := fun v g' => ezu_g e F A = g' ∧ ∃ u : Int, (ezw_in u) ∧ (0 ≤ a1 → a1 < 11 → u = A 44 a1) ∧ (a1 < 0 ∨ 11 ≤ a1 → u = 0) ∧ some (ezw_i u) = v
theorem ezt_m27_44o {a1 : Int} {F : Nat → Nat → Int} {A : Nat → Int → Int} (hS : ezs_T F A) (hd : 0 ≤ d) (ha1 : ezw_in a1) : ezw_C l ρ B xa Hb D cA 27 d [ezw_p 44, ezw_i a1] (ezu_g e F A) (ezt_m27_44oQ e F A a1) := by
  refine ezw_met (k := 0) rfl rfl ?_
  refine ezw_aload_n rfl rfl ?_
  refine ezw_ifnull rfl ?_
  refine ezw_iload_n rfl rfl ?_
  refine ezw_if_lt rfl rfl ha1 (fun h5_0 => ?_) (fun h5_0 => ?_)
  · refine ezw_iconst (0) rfl rfl ?_
    exact ezw_ireturn rfl rfl ⟨rfl, (0), ⟨by decide, by decide⟩, by omega, by omega, rfl⟩
  · refine ezw_iload_n rfl rfl ?_
    refine ezw_aload_n rfl rfl ?_
    refine ezs_alen (k := 11) rfl rfl rfl rfl (by decide) (by decide) ?_
    refine ezw_icmp_ge rfl rfl ha1 ⟨by decide, by decide⟩ (fun h11_0 => ?_) (fun h11_0 => ?_)
    · refine ezw_iconst (0) rfl rfl ?_
      exact ezw_ireturn rfl rfl ⟨rfl, (0), ⟨by decide, by decide⟩, by omega, by omega, rfl⟩
    · refine ezw_aload_n rfl rfl ?_
      refine ezw_iload_n rfl rfl ?_
      refine ezy_iaload hS rfl rfl rfl (by omega) (by omega) (by decide) (fun u1 hu1 ku1 eu1 => ?_)
      have ru1 : -2147483648 ≤ u1 ∧ u1 ≤ 9999 := ku1
      refine ezw_goto rfl rfl ?_
      exact ezw_ireturn rfl rfl ⟨rfl, u1, hu1, by omega, by omega, rfl⟩
def ezt_m95_30oQ (e : Bool × Bool) (F : Nat → Nat → Int) (A : Nat → Int → Int) (a1 : Int) : Option ezq_V → (Nat → ezq_C) → Prop := fun v g' => ezu_g e F A = g' ∧ ∃ u : Int, (ezw_in u) ∧ (0 ≤ a1 → a1 < 11 → u = A 44 a1) ∧ some (ezw_i u) = v
theorem ezt_m95_30o {a1 : Int} {F : Nat → Nat → Int} {A : Nat → Int → Int} (hS : ezs_T F A) (hd : 1 ≤ d) (ha1 : ezw_in a1) : ezw_C l ρ B xa Hb D cA 95 d [ezw_p 30, ezw_i a1] (ezu_g e F A) (ezt_m95_30oQ e F A a1) := by
  refine ezw_met (k := 0) rfl rfl ?_
  refine ezw_aload_n rfl rfl ?_
  refine ezs_getp (p := 44) rfl rfl rfl rfl rfl ?_
  refine ezw_iload_n rfl rfl ?_
  refine ezw_call3_2 rfl (by omega) rfl rfl (ezt_m27_44o hS (by omega) ha1) ?_
  rintro _ _ ⟨rfl, u2, hu2, v_1, o_1, rfl⟩
  exact ezw_ireturn rfl rfl ⟨rfl, u2, hu2, v_1, rfl⟩
def ezt_m177_0o_fQ (b2 : Bool) (F : Nat → Nat → Int) (A : Nat → Int → Int) (y : ezp_D) (a1 : Int) : Option ezq_V → (Nat → ezq_C) → Prop := fun v g' => ezu_g (false, b2) F A = g' ∧ ∃ u : Int, (ezw_in u) ∧ (u = ezp_far y a1) ∧ some (ezw_i u) = v
theorem ezt_m177_0o_f {b2 : Bool} {y : ezp_D} {a1 : Int} {F : Nat → Nat → Int} {A : Nat → Int → Int} (hS : ezs_T F A) (hd : 2 ≤ d) (ha1 : ezw_in a1) (tr : ezt_TR 30 y F A) (nu : ezt_NU 30 y A) (hB : ezp_B y) : ezw_C l ρ B xa Hb D cA 177 d [ezw_p 0, ezw_i a1] (ezu_g (false, b2) F A) (ezt_m177_0o_fQ b2 F A y a1) := by
  refine ezw_met (k := 1) rfl rfl ?_
  obtain ⟨⟨c1, c2, c3, c4⟩, ⟨d1, d2, d3, d4, d5, d6, d7, d8⟩, e3, e4, e5, e6⟩ := id tr
  obtain ⟨b1, b2', b3, b4, b5, b6, b7, ⟨b8, b8'⟩, b9⟩ := id hB
  have d9 : F 30 15 = y.kT := c1
  have n9 : A 44 9 = y.nu 9 := nu 9 (by decide) (by decide)
  have nb9 : 1 ≤ y.nu 9 ∧ y.nu 9 ≤ 99 := b8 9 (by decide) (by decide)
  refine ezw_iload_n rfl rfl ?_
  refine ezw_if_lt rfl rfl ha1 (fun h1_0 => ?_) (fun h1_0 => ?_)
  · refine ezw_iconst (-1) rfl rfl ?_
    exact ezw_ireturn rfl rfl ⟨rfl, (-1), ⟨by decide, by decide⟩, by
          unfold ezp_far
          (repeat' split) <;> omega, rfl⟩
  · refine ezw_iload_n rfl rfl ?_
    refine ezw_aload_n rfl rfl ?_
    refine ezs_getp (p := 30) rfl rfl rfl rfl rfl ?_
    refine ezy_get_i hS rfl rfl rfl rfl rfl rfl (fun u1 hu1 ku1 eu1 => ?_)
    replace eu1 := eu1.symm
    subst eu1
    refine ezw_icmp_lt rfl rfl ha1 hu1 (fun h12_1 => ?_) (fun h12_1 => ?_)
    · refine ezw_aload_n rfl rfl ?_
      refine ezs_getp (p := 30) rfl rfl rfl rfl rfl ?_
      refine ezs_getp (p := 32) rfl rfl rfl rfl rfl ?_
      refine ezw_iload_n rfl rfl ?_
      refine ezw_call2_2 rfl (by omega) rfl rfl (ezt_m27_32o hS (by omega) ha1) ?_
      rintro _ _ ⟨rfl, u3, hu3, v_2, o_2, rfl⟩
      have f1 : A 32 a1 = y.th a1 := (e3 a1 (by omega) (by omega)).2.2.1
      have f2 := (b1 a1 (by omega) (by omega)).2.1
      have f3 := v_2 (by omega) (by omega)
      refine ezw_aload_n rfl rfl ?_
      refine ezs_getp (p := 30) rfl rfl rfl rfl rfl ?_
      refine ezw_bipush (9) rfl rfl ?_
      refine ezw_call0_1 rfl (by omega) (ezu_at rfl) rfl rfl rfl rfl (ezt_m95_30o hS (by omega) ⟨by decide, by decide⟩) ?_
      rintro _ _ ⟨rfl, u5, hu5, v_4, rfl⟩
      have f4 := v_4 (by omega) (by omega)
      refine ezw_isub (k := u3 - u5) rfl (by omega) ?_
      refine ezw_istore_n rfl rfl ?_
      refine ezw_iload_n rfl rfl ?_
      refine ezw_if_ge rfl rfl ⟨by omega, by omega⟩ (fun h40_5 => ?_) (fun h40_5 => ?_)
      · refine ezw_iload_n rfl rfl ?_
        refine ezw_bipush (20) rfl rfl ?_
        refine ezw_mminE rfl ⟨by omega, by omega⟩ ⟨by decide, by decide⟩ rfl (fun u6 hu6 => ?_)
        exact ezw_ireturn rfl rfl ⟨rfl, u6, ⟨by omega, by omega⟩, by
              unfold ezp_far
              (repeat' split) <;> omega, rfl⟩
      · refine ezw_iconst (-1) rfl rfl ?_
        refine ezw_goto rfl rfl ?_
        exact ezw_ireturn rfl rfl ⟨rfl, (-1), ⟨by decide, by decide⟩, by
              unfold ezp_far
              (repeat' split) <;> omega, rfl⟩
    · refine ezw_iconst (-1) rfl rfl ?_
      exact ezw_ireturn rfl rfl ⟨rfl, (-1), ⟨by decide, by decide⟩, by
            unfold ezp_far
            (repeat' split) <;> omega, rfl⟩
def ezt_m27_31oQ (e : Bool × Bool) (F : Nat → Nat → Int) (A : Nat → Int → Int) (a1 : Int) : Option ezq_V → (Nat → ezq_C) → Prop := fun v g' => ezu_g e F A = g' ∧ ∃ u : Int, (ezw_in u) ∧ (0 ≤ a1 → a1 < 8 → u = A 31 a1) ∧ (a1 < 0 ∨ 8 ≤ a1 → u = 0) ∧ some (ezw_i u) = v
theorem ezt_m27_31o {a1 : Int} {F : Nat → Nat → Int} {A : Nat → Int → Int} (hS : ezs_T F A) (hd : 0 ≤ d) (ha1 : ezw_in a1) : ezw_C l ρ B xa Hb D cA 27 d [ezw_p 31, ezw_i a1] (ezu_g e F A) (ezt_m27_31oQ e F A a1) := by
  refine ezw_met (k := 0) rfl rfl ?_
  refine ezw_aload_n rfl rfl ?_
  refine ezw_ifnull rfl ?_
  refine ezw_iload_n rfl rfl ?_
  refine ezw_if_lt rfl rfl ha1 (fun h5_0 => ?_) (fun h5_0 => ?_)
  · refine ezw_iconst (0) rfl rfl ?_
    exact ezw_ireturn rfl rfl ⟨rfl, (0), ⟨by decide, by decide⟩, by omega, by omega, rfl⟩
  · refine ezw_iload_n rfl rfl ?_
    refine ezw_aload_n rfl rfl ?_
    refine ezs_alen (k := 8) rfl rfl rfl rfl (by decide) (by decide) ?_
    refine ezw_icmp_ge rfl rfl ha1 ⟨by decide, by decide⟩ (fun h11_0 => ?_) (fun h11_0 => ?_)
    · refine ezw_iconst (0) rfl rfl ?_
      exact ezw_ireturn rfl rfl ⟨rfl, (0), ⟨by decide, by decide⟩, by omega, by omega, rfl⟩
    · refine ezw_aload_n rfl rfl ?_
      refine ezw_iload_n rfl rfl ?_
      refine ezy_iaload hS rfl rfl rfl (by omega) (by omega) (by decide) (fun u1 hu1 ku1 eu1 => ?_)
      refine ezw_goto rfl rfl ?_
      exact ezw_ireturn rfl rfl ⟨rfl, u1, hu1, by omega, by omega, rfl⟩
def ezt_m27_34oQ (e : Bool × Bool) (F : Nat → Nat → Int) (A : Nat → Int → Int) (a1 : Int) : Option ezq_V → (Nat → ezq_C) → Prop := fun v g' => ezu_g e F A = g' ∧ ∃ u : Int, (ezw_in u) ∧ (0 ≤ a1 → a1 < 8 → u = A 34 a1) ∧ (a1 < 0 ∨ 8 ≤ a1 → u = 0) ∧ some (ezw_i u) = v
theorem ezt_m27_34o {a1 : Int} {F : Nat → Nat → Int} {A : Nat → Int → Int} (hS : ezs_T F A) (hd : 0 ≤ d) (ha1 : ezw_in a1) : ezw_C l ρ B xa Hb D cA 27 d [ezw_p 34, ezw_i a1] (ezu_g e F A) (ezt_m27_34oQ e F A a1) := by
  refine ezw_met (k := 0) rfl rfl ?_
  refine ezw_aload_n rfl rfl ?_
  refine ezw_ifnull rfl ?_
  refine ezw_iload_n rfl rfl ?_
  refine ezw_if_lt rfl rfl ha1 (fun h5_0 => ?_) (fun h5_0 => ?_)
  · refine ezw_iconst (0) rfl rfl ?_
    exact ezw_ireturn rfl rfl ⟨rfl, (0), ⟨by decide, by decide⟩, by omega, by omega, rfl⟩
  · refine ezw_iload_n rfl rfl ?_
    refine ezw_aload_n rfl rfl ?_
    refine ezs_alen (k := 8) rfl rfl rfl rfl (by decide) (by decide) ?_
    refine ezw_icmp_ge rfl rfl ha1 ⟨by decide, by decide⟩ (fun h11_0 => ?_) (fun h11_0 => ?_)
    · refine ezw_iconst (0) rfl rfl ?_
      exact ezw_ireturn rfl rfl ⟨rfl, (0), ⟨by decide, by decide⟩, by omega, by omega, rfl⟩
    · refine ezw_aload_n rfl rfl ?_
      refine ezw_iload_n rfl rfl ?_
      refine ezy_iaload hS rfl rfl rfl (by omega) (by omega) (by decide) (fun u1 hu1 ku1 eu1 => ?_)
      refine ezw_goto rfl rfl ?_
      exact ezw_ireturn rfl rfl ⟨rfl, u1, hu1, by omega, by omega, rfl⟩
def ezt_m127_30oQ (e : Bool × Bool) (F : Nat → Nat → Int) (A : Nat → Int → Int) (y : ezp_D) (a1 : Int) : Option ezq_V → (Nat → ezq_C) → Prop := fun v g' => ezu_g e F A = g' ∧ ∃ u : Int, (0 ≤ u ∧ u ≤ 1) ∧ (u = 1 → ezp_be y 8 a1 = true) ∧ (u = 0 → ezp_be y 8 a1 = false) ∧ some (ezw_i u) = v
theorem ezt_m127_30o {y : ezp_D} {a1 : Int} {F : Nat → Nat → Int} {A : Nat → Int → Int} (hS : ezs_T F A) (hd : 2 ≤ d) (ha1 : ezw_in a1) (tr : ezt_TR 30 y F A) (nu : ezt_NU 30 y A) (hB : ezp_B y) (ga : 0 ≤ a1 ∧ a1 < y.kT) : ezw_C l ρ B xa Hb D cA 127 d [ezw_p 30, ezw_i a1] (ezu_g e F A) (ezt_m127_30oQ e F A y a1) := by
  refine ezw_met (k := 2) rfl rfl ?_
  obtain ⟨⟨c1, c2, c3, c4⟩, ⟨d1, d2, d3, d4, d5, d6, d7, d8⟩, e3, e4, e5, e6⟩ := id tr
  obtain ⟨b1, b2', b3, b4, b5, b6, b7, ⟨b8, b8'⟩, b9⟩ := id hB
  have n9 : A 44 9 = y.nu 9 := nu 9 (by decide) (by decide)
  have nb9 : 1 ≤ y.nu 9 ∧ y.nu 9 ≤ 99 := b8 9 (by decide) (by decide)
  refine ezw_iload_n rfl rfl ?_
  refine ezw_istore_n rfl rfl ?_
  refine ezw_iconst (0) rfl rfl ?_
  refine ezw_istore_n rfl rfl ?_
  have L4_2 : ∀ c1 : Int, ezw_in c1 → ∀ y3 : Int, ezw_in y3 → ((0) ≤ c1) → (-1 ≤ y3 ∧ y3 < y.kT) → (ezp_be y 8 a1 = ezp_be y (8 - c1).toNat y3) → ezw_E l ρ B xa Hb D cA d ezq_re127 (ezt_m127_30oQ e F A y a1) 4 [some (ezw_p 30), some (ezw_i a1), some (ezw_i y3), some (ezw_i c1)] [] (ezu_g e F A) := by
    refine ezs_up ?_
    intro c1 hc1 ihc1 y3 hy3 g_2 vb_2 be_2
    refine ezw_iload_n rfl rfl ?_
    refine ezw_bipush (8) rfl rfl ?_
    refine ezw_icmp_ge rfl rfl hc1 ⟨by decide, by decide⟩ (fun h7_3 => ?_) (fun h7_3 => ?_)
    · refine ezw_iconst (1) rfl rfl ?_
      exact ezw_ireturn rfl (ezw_zret ⟨by omega, by omega⟩) ⟨rfl, (1), ⟨by omega, by omega⟩, (fun _ => by
            rw [be_2]
            first
              | (rw [show y3 = -1 by omega]; exact ezp_be_n)
              | (rw [show (8 - c1).toNat = 0 by omega]; rfl)), (by omega), rfl⟩
    · refine ezw_iload_n rfl rfl ?_
      refine ezw_iconst (-1) rfl rfl ?_
      refine ezw_icmp_eq rfl rfl hy3 ⟨by decide, by decide⟩ (fun h12_3 => ?_) (fun h12_3 => ?_)
      · refine ezw_iconst (1) rfl rfl ?_
        exact ezw_ireturn rfl (ezw_zret ⟨by omega, by omega⟩) ⟨rfl, (1), ⟨by omega, by omega⟩, (fun _ => by
              rw [be_2]
              first
                | (rw [show y3 = -1 by omega]; exact ezp_be_n)
                | (rw [show (8 - c1).toNat = 0 by omega]; rfl)), (by omega), rfl⟩
      · refine ezw_aload_n rfl rfl ?_
        refine ezs_getp (p := 32) rfl rfl rfl rfl rfl ?_
        refine ezw_iload_n rfl rfl ?_
        refine ezw_call3_2 rfl (by omega) rfl rfl (ezt_m27_32o hS (by omega) hy3) ?_
        rintro _ _ ⟨rfl, u5, hu5, v_4, o_4, rfl⟩
        have f1 : A 32 y3 = y.th y3 := (e3 _ (by omega) (by omega)).2.2.1
        have f2 := (b1 y3 (by omega) (by omega)).2.1
        have f3 := v_4 (by omega) (by omega)
        refine ezw_aload_n rfl rfl ?_
        refine ezw_bipush (9) rfl rfl ?_
        refine ezw_call0_1 rfl (by omega) (ezu_at rfl) rfl rfl rfl rfl (ezt_m95_30o hS (by omega) ⟨by decide, by decide⟩) ?_
        rintro _ _ ⟨rfl, u7, hu7, v_6, rfl⟩
        have f4 := v_6 (by omega) (by omega)
        have hm : (8 - c1).toNat = (8 - (c1 + 1)).toNat + 1 := by omega
        refine ezw_icmp_ge rfl rfl hu5 hu7 (fun h29_7 => ?_) (fun h29_7 => ?_)
        · refine ezw_aload_n rfl rfl ?_
          refine ezs_getp (p := 34) rfl rfl rfl rfl rfl ?_
          refine ezw_iload_n rfl rfl ?_
          refine ezw_call3_2 rfl (by omega) rfl rfl (ezt_m27_34o hS (by omega) hy3) ?_
          rintro _ _ ⟨rfl, u9, hu9, v_8, o_8, rfl⟩
          have f5 : A 34 y3 = y.on y3 := (e3 _ (by omega) (by omega)).2.2.2.2
          have f6 := (b1 y3 (by omega) (by omega)).2.2.2
          have f7 := v_8 (by omega) (by omega)
          have f8 : u9 = y.on y3 := by omega
          refine ezw_istore_n rfl rfl ?_
          refine ezw_iinc (k := c1 + 1) (1) rfl rfl rfl (by omega) rfl ?_
          refine ezw_goto rfl rfl ?_
          exact ezw_keepE [true, true, true, true] (ihc1 (c1 + 1) (by omega) ⟨by omega, by omega⟩ u9 hu9 (by omega) (by omega) (by rw [be_2, hm, ezp_be_T (by omega) (by omega), ← f8]))
        · refine ezw_iconst (0) rfl rfl ?_
          exact ezw_ireturn rfl (ezw_zret ⟨by omega, by omega⟩) ⟨rfl, (0), ⟨by omega, by omega⟩, (by omega), (fun _ => by rw [be_2, hm]; exact ezp_be_F (by omega) (by omega)), rfl⟩
  exact ezw_keepE [true, true, true, true] (L4_2 (0) ⟨by decide, by decide⟩ a1 ha1 (by omega) (by omega) rfl)
def ezt_m180oQ (e : Bool × Bool) (F : Nat → Nat → Int) (A : Nat → Int → Int) (a0 : Int) (a1 : Int) : Option ezq_V → (Nat → ezq_C) → Prop := fun v g' => ezu_g e F A = g' ∧ ∃ u : Int, (ezw_in u) ∧ (u = ezp_ls a0 a1) ∧ some (ezw_i u) = v
theorem ezt_m180o {a0 a1 : Int} {F : Nat → Nat → Int} {A : Nat → Int → Int} (hS : ezs_T F A) (hd : 0 ≤ d) (ha0 : ezw_in a0) (ha1 : ezw_in a1) : ezw_C l ρ B xa Hb D cA 180 d [ezw_i a0, ezw_i a1] (ezu_g e F A) (ezt_m180oQ e F A a0 a1) := by
  refine ezw_met (k := 0) rfl rfl ?_
  refine ezw_iload_n rfl rfl ?_
  refine ezw_iconst (-1) rfl rfl ?_
  have J14_2 : ∀ y1 : Int, ezw_in y1 → (y1 = ezp_ls a0 a1) → ezw_E l ρ B xa Hb D cA d ezq_re180 (ezt_m180oQ e F A a0 a1) 14 [some (ezw_i a0), some (ezw_i a1)] [ezw_i y1] (ezu_g e F A) := by
    intro y1 hy1 v_2
    exact ezw_ireturn rfl rfl ⟨rfl, y1, hy1, by omega, rfl⟩
  refine ezw_icmp_ne rfl rfl ha0 ⟨by decide, by decide⟩ (fun h2_0 => ?_) (fun h2_0 => ?_)
  · refine ezw_iload_n rfl rfl ?_
    refine ezw_iload_n rfl rfl ?_
    refine ezw_mminE rfl ha0 ha1 rfl (fun u3 hu3 => ?_)
    exact ezw_keepE [true, true] (J14_2 u3 ⟨by omega, by omega⟩ (by unfold ezp_ls; (repeat' split) <;> omega))
  · refine ezw_iload_n rfl rfl ?_
    refine ezw_goto rfl rfl ?_
    exact ezw_keepE [true, true] (J14_2 a1 ha1 (by unfold ezp_ls; (repeat' split) <;> omega))
def ezt_m179_30oQ (e : Bool × Bool) (F : Nat → Nat → Int) (A : Nat → Int → Int) (y : ezp_D) (a1 : Int) : Option ezq_V → (Nat → ezq_C) → Prop := fun v g' => ezu_g e F A = g' ∧ ∃ u : Int, (ezw_in u) ∧ (u = ezp_m3 y a1) ∧ some (ezw_i u) = v
theorem ezt_m179_30o {y : ezp_D} {a1 : Int} {F : Nat → Nat → Int} {A : Nat → Int → Int} (hS : ezs_T F A) (hd : 3 ≤ d) (ha1 : ezw_in a1) (tr : ezt_TR 30 y F A) (nu : ezt_NU 30 y A) (hB : ezp_B y) (ga : 0 ≤ a1 ∧ a1 < y.kT) : ezw_C l ρ B xa Hb D cA 179 d [ezw_p 30, ezw_i a1] (ezu_g e F A) (ezt_m179_30oQ e F A y a1) := by
  refine ezw_met (k := 2) rfl rfl ?_
  obtain ⟨⟨c1, c2, c3, c4⟩, ⟨d1, d2, d3, d4, d5, d6, d7, d8⟩, e3, e4, e5, e6⟩ := id tr
  obtain ⟨b1, b2', b3, b4, b5, b6, b7, ⟨b8, b8'⟩, b9⟩ := id hB
  have n7 : A 44 7 = y.nu 7 := nu 7 (by decide) (by decide)
  have nb7 : 0 ≤ y.nu 7 ∧ y.nu 7 ≤ 60 := b8 7 (by decide) (by decide)
  have n8 : A 44 8 = y.nu 8 := nu 8 (by decide) (by decide)
  have nb8 : 0 ≤ y.nu 8 ∧ y.nu 8 ≤ 60 := b8 8 (by decide) (by decide)
  have f1 : A 31 a1 = y.hi a1 := (e3 a1 (by omega) (by omega)).2.1
  have f2 := (b1 a1 (by omega) (by omega)).1
  have g0 : ezp_m0 y a1 = -1 ∨ ezp_m0 y a1 = y.hi a1 := by
    unfold ezp_m0
    split <;> omega
  have g1 : -1 ≤ ezp_m1 y a1 ∧ ezp_m1 y a1 ≤ 60 := by
    unfold ezp_m1 ezp_ls
    (repeat' split) <;> omega
  have g2 : -1 ≤ ezp_m2 y a1 ∧ ezp_m2 y a1 ≤ 60 := by
    unfold ezp_m2 ezp_ls
    (repeat' split) <;> omega
  refine ezw_aload_n rfl rfl ?_
  refine ezs_getp (p := 31) rfl rfl rfl rfl rfl ?_
  refine ezw_iload_n rfl rfl ?_
  refine ezw_call3_2 rfl (by omega) rfl rfl (ezt_m27_31o hS (by omega) ha1) ?_
  rintro _ _ ⟨rfl, u2, hu2, v_1, o_1, rfl⟩
  have f3 := v_1 (by omega) (by omega)
  refine ezw_istore_n rfl rfl ?_
  refine ezw_aload_n rfl rfl ?_
  refine ezw_iload_n rfl rfl ?_
  refine ezw_call0_1 rfl (by omega) (ezu_at rfl) rfl rfl rfl rfl (ezt_m127_30o hS (by omega) ha1 tr nu hB (by omega)) ?_
  rintro _ _ ⟨rfl, u4, hu4, p3_0, p3_1, rfl⟩
  have J22_6 : ∀ y5 : Int, ezw_in y5 → (y5 = ezp_m0 y a1) → ezw_E l ρ B xa Hb D cA d ezq_re179 (ezt_m179_30oQ e F A y a1) 22 [some (ezw_p 30), some (ezw_i a1), some (ezw_i u2), none] [ezw_i y5] (ezu_g e F A) := by
    intro y5 hy5 v_6
    refine ezw_istore_n rfl rfl ?_
    refine ezw_iload_n rfl rfl ?_
    refine ezw_aload_n rfl rfl ?_
    refine ezw_bipush (7) rfl rfl ?_
    refine ezw_call0_1 rfl (by omega) (ezu_at rfl) rfl rfl rfl rfl (ezt_m95_30o hS (by omega) ⟨by decide, by decide⟩) ?_
    rintro _ _ ⟨rfl, u8, hu8, v_7, rfl⟩
    have z7 := v_7 (by omega) (by omega)
    refine ezw_aload_n rfl rfl ?_
    refine ezw_bipush (8) rfl rfl ?_
    refine ezw_call0_1 rfl (by omega) (ezu_at rfl) rfl rfl rfl rfl (ezt_m95_30o hS (by omega) ⟨by decide, by decide⟩) ?_
    rintro _ _ ⟨rfl, u10, hu10, v_9, rfl⟩
    have z9 := v_9 (by omega) (by omega)
    refine ezw_iadd (k := u8 + u10) rfl (by omega) ?_
    have J47_12 : ∀ y11 : Int, ezw_in y11 → (y11 = ezp_m1 y a1) → ezw_E l ρ B xa Hb D cA d ezq_re179 (ezt_m179_30oQ e F A y a1) 47 [some (ezw_p 30), some (ezw_i a1), some (ezw_i u2), some (ezw_i y11)] [] (ezu_g e F A) := by
      intro y11 hy11 v_12
      refine ezw_iload_n rfl rfl ?_
      refine ezw_aload_n rfl rfl ?_
      refine ezw_bipush (7) rfl rfl ?_
      refine ezw_call0_1 rfl (by omega) (ezu_at rfl) rfl rfl rfl rfl (ezt_m95_30o hS (by omega) ⟨by decide, by decide⟩) ?_
      rintro _ _ ⟨rfl, u14, hu14, v_13, rfl⟩
      have z13 := v_13 (by omega) (by omega)
      have J63_16 : ∀ y15 : Int, ezw_in y15 → (y15 = ezp_m2 y a1) → ezw_E l ρ B xa Hb D cA d ezq_re179 (ezt_m179_30oQ e F A y a1) 63 [some (ezw_p 30), some (ezw_i a1), some (ezw_i u2), some (ezw_i y15)] [] (ezu_g e F A) := by
        intro y15 hy15 v_16
        refine ezw_iload_n rfl rfl ?_
        refine ezw_aload_n rfl rfl ?_
        refine ezw_bipush (8) rfl rfl ?_
        refine ezw_call0_1 rfl (by omega) (ezu_at rfl) rfl rfl rfl rfl (ezt_m95_30o hS (by omega) ⟨by decide, by decide⟩) ?_
        rintro _ _ ⟨rfl, u18, hu18, v_17, rfl⟩
        have z17 := v_17 (by omega) (by omega)
        have J79_20 : ∀ y19 : Int, ezw_in y19 → (y19 = ezp_m3 y a1) → ezw_E l ρ B xa Hb D cA d ezq_re179 (ezt_m179_30oQ e F A y a1) 79 [some (ezw_p 30), some (ezw_i a1), some (ezw_i u2), some (ezw_i y19)] [] (ezu_g e F A) := by
          intro y19 hy19 v_20
          refine ezw_iload_n rfl rfl ?_
          exact ezw_ireturn rfl rfl ⟨rfl, y19, hy19, by omega, rfl⟩
        refine ezw_icmp_gt rfl rfl hu2 hu18 (fun h70_18 => ?_) (fun h70_18 => ?_)
        · exact ezw_keepE [true, true, true, true] (J79_20 y15 hy15 (by
                unfold ezp_m3
                first
                  | (rw [if_pos (by omega)]; omega)
                  | (rw [if_neg (by omega)]; omega)
                  | (subst_vars; rw [if_pos (by omega)])))
        · refine ezw_iload_n rfl rfl ?_
          refine ezw_iconst (2) rfl rfl ?_
          refine ezw_call2_2 rfl (by omega) rfl rfl (ezt_m180o hS (by omega) hy15 ⟨by decide, by decide⟩) ?_
          rintro _ _ ⟨rfl, u22, hu22, p21_0, rfl⟩
          refine ezw_istore_n rfl rfl ?_
          exact ezw_keepE [true, true, true, true] (J79_20 u22 hu22 (by
                unfold ezp_m3
                first
                  | (rw [if_pos (by omega)]; omega)
                  | (rw [if_neg (by omega)]; omega)
                  | (subst_vars; rw [if_pos (by omega)])))
      refine ezw_icmp_gt rfl rfl hu2 hu14 (fun h54_14 => ?_) (fun h54_14 => ?_)
      · exact ezw_keepE [true, true, true, true] (J63_16 y11 hy11 (by
              unfold ezp_m2
              first
                | (rw [if_pos (by omega)]; omega)
                | (rw [if_neg (by omega)]; omega)
                | (subst_vars; rw [if_pos (by omega)])))
      · refine ezw_iload_n rfl rfl ?_
        refine ezw_iconst (5) rfl rfl ?_
        refine ezw_call2_2 rfl (by omega) rfl rfl (ezt_m180o hS (by omega) hy11 ⟨by decide, by decide⟩) ?_
        rintro _ _ ⟨rfl, u24, hu24, p23_0, rfl⟩
        refine ezw_istore_n rfl rfl ?_
        exact ezw_keepE [true, true, true, true] (J63_16 u24 hu24 (by
              unfold ezp_m2
              first
                | (rw [if_pos (by omega)]; omega)
                | (rw [if_neg (by omega)]; omega)
                | (subst_vars; rw [if_pos (by omega)])))
    refine ezw_icmp_gt rfl rfl hu2 ⟨by omega, by omega⟩ (fun h37_10 => ?_) (fun h37_10 => ?_)
    · exact ezw_keepE [true, true, true, true] (J47_12 y5 hy5 (by
            unfold ezp_m1
            first
              | (rw [if_pos (by omega)]; omega)
              | (rw [if_neg (by omega)]; omega)
              | (subst_vars; rw [if_pos (by omega)])))
    · refine ezw_iload_n rfl rfl ?_
      refine ezw_bipush (9) rfl rfl ?_
      refine ezw_call2_2 rfl (by omega) rfl rfl (ezt_m180o hS (by omega) hy5 ⟨by decide, by decide⟩) ?_
      rintro _ _ ⟨rfl, u26, hu26, p25_0, rfl⟩
      refine ezw_istore_n rfl rfl ?_
      exact ezw_keepE [true, true, true, true] (J47_12 u26 hu26 (by
            unfold ezp_m1
            first
              | (rw [if_pos (by omega)]; omega)
              | (rw [if_neg (by omega)]; omega)
              | (subst_vars; rw [if_pos (by omega)])))
  refine ezw_if_eq rfl rfl ⟨by omega, by omega⟩ (fun h14_4 => ?_) (fun h14_4 => ?_)
  · refine ezw_iconst (-1) rfl rfl ?_
    exact ezw_keepE [true, true, true, false] (J22_6 (-1) ⟨by decide, by decide⟩ (by
          unfold ezp_m0
          first
            | (rw [if_pos (p3_0 (by omega))]; omega)
            | (rw [if_neg (by rw [p3_1 (by omega)]; decide)])))
  · refine ezw_iload_n rfl rfl ?_
    refine ezw_goto rfl rfl ?_
    exact ezw_keepE [true, true, true, false] (J22_6 u2 hu2 (by
          unfold ezp_m0
          first
            | (rw [if_pos (p3_0 (by omega))]; omega)
            | (rw [if_neg (by rw [p3_1 (by omega)]; decide)])))
def ezt_m178_0o_fQ (b2 : Bool) (F : Nat → Nat → Int) (A : Nat → Int → Int) (y : ezp_D) (a1 : Int) : Option ezq_V → (Nat → ezq_C) → Prop := fun v g' => ezu_g (false, b2) F A = g' ∧ ∃ u : Int, (ezw_in u) ∧ (u = ezp_mi y a1) ∧ some (ezw_i u) = v
theorem ezt_m178_0o_f {b2 : Bool} {y : ezp_D} {a1 : Int} {F : Nat → Nat → Int} {A : Nat → Int → Int} (hS : ezs_T F A) (hd : 4 ≤ d) (ha1 : ezw_in a1) (tr : ezt_TR 30 y F A) (nu : ezt_NU 30 y A) (hB : ezp_B y) : ezw_C l ρ B xa Hb D cA 178 d [ezw_p 0, ezw_i a1] (ezu_g (false, b2) F A) (ezt_m178_0o_fQ b2 F A y a1) := by
  refine ezw_met (k := 0) rfl rfl ?_
  obtain ⟨⟨c1, c2, c3, c4⟩, ⟨d1, d2, d3, d4, d5, d6, d7, d8⟩, e3, e4, e5, e6⟩ := id tr
  obtain ⟨b1, b2', b3, b4, b5, b6, b7, ⟨b8, b8'⟩, b9⟩ := id hB
  have d9 : F 30 15 = y.kT := c1
  refine ezw_iload_n rfl rfl ?_
  refine ezw_if_lt rfl rfl ha1 (fun h1_0 => ?_) (fun h1_0 => ?_)
  · refine ezw_iconst (-1) rfl rfl ?_
    refine ezw_goto rfl rfl ?_
    exact ezw_ireturn rfl rfl ⟨rfl, (-1), ⟨by decide, by decide⟩, by
          unfold ezp_mi
          first
            | (rw [if_pos (by omega)])
            | (rw [if_neg (by omega)]; exact (show False by omega)), rfl⟩
  · refine ezw_iload_n rfl rfl ?_
    refine ezw_aload_n rfl rfl ?_
    refine ezs_getp (p := 30) rfl rfl rfl rfl rfl ?_
    refine ezy_get_i hS rfl rfl rfl rfl rfl rfl (fun u1 hu1 ku1 eu1 => ?_)
    replace eu1 := eu1.symm
    subst eu1
    refine ezw_icmp_lt rfl rfl ha1 hu1 (fun h12_1 => ?_) (fun h12_1 => ?_)
    · refine ezw_aload_n rfl rfl ?_
      refine ezs_getp (p := 30) rfl rfl rfl rfl rfl ?_
      refine ezw_iload_n rfl rfl ?_
      refine ezw_call0_1 rfl (by omega) (ezu_at rfl) rfl rfl rfl rfl (ezt_m179_30o hS (by omega) ha1 tr nu hB (by omega)) ?_
      rintro _ _ ⟨rfl, u3, hu3, an_2, rfl⟩
      exact ezw_ireturn rfl rfl ⟨rfl, u3, hu3, by
            unfold ezp_mi
            first
              | (rw [if_pos (by omega)])
              | (rw [if_neg (by omega)]; exact an_2), rfl⟩
    · refine ezw_iconst (-1) rfl rfl ?_
      refine ezw_goto rfl rfl ?_
      exact ezw_ireturn rfl rfl ⟨rfl, (-1), ⟨by decide, by decide⟩, by
            unfold ezp_mi
            first
              | (rw [if_pos (by omega)])
              | (rw [if_neg (by omega)]; exact (show False by omega)), rfl⟩
def ezt_m182oQ (e : Bool × Bool) (F : Nat → Nat → Int) (A : Nat → Int → Int) (a0 : Int) (a1 : Int) : Option ezq_V → (Nat → ezq_C) → Prop := fun v g' => ezu_g e F A = g' ∧ ∃ u : Int, (0 ≤ u ∧ u ≤ 1) ∧ (u = 1 → 0 ≤ a0 ∧ a0 < 16 ∧ 0 ≤ a1 ∧ a1 < 16) ∧ (u = 0 → ¬ (0 ≤ a0 ∧ a0 < 16 ∧ 0 ≤ a1 ∧ a1 < 16)) ∧ some (ezw_i u) = v
theorem ezt_m182o {a0 a1 : Int} {F : Nat → Nat → Int} {A : Nat → Int → Int} (hS : ezs_T F A) (hd : 0 ≤ d) (ha0 : ezw_in a0) (ha1 : ezw_in a1) : ezw_C l ρ B xa Hb D cA 182 d [ezw_i a0, ezw_i a1] (ezu_g e F A) (ezt_m182oQ e F A a0 a1) := by
  refine ezw_met (k := 0) rfl rfl ?_
  refine ezw_iload_n rfl rfl ?_
  refine ezw_if_lt rfl rfl ha0 (fun h1_0 => ?_) (fun h1_0 => ?_)
  · refine ezw_iconst (0) rfl rfl ?_
    exact ezw_ireturn rfl (ezw_zret ⟨by omega, by omega⟩) ⟨rfl, (0), ⟨by omega, by omega⟩, by omega, by omega, rfl⟩
  · refine ezw_iload_n rfl rfl ?_
    refine ezw_bipush (16) rfl rfl ?_
    refine ezw_icmp_ge rfl rfl ha0 ⟨by decide, by decide⟩ (fun h7_0 => ?_) (fun h7_0 => ?_)
    · refine ezw_iconst (0) rfl rfl ?_
      exact ezw_ireturn rfl (ezw_zret ⟨by omega, by omega⟩) ⟨rfl, (0), ⟨by omega, by omega⟩, by omega, by omega, rfl⟩
    · refine ezw_iload_n rfl rfl ?_
      refine ezw_if_lt rfl rfl ha1 (fun h11_0 => ?_) (fun h11_0 => ?_)
      · refine ezw_iconst (0) rfl rfl ?_
        exact ezw_ireturn rfl (ezw_zret ⟨by omega, by omega⟩) ⟨rfl, (0), ⟨by omega, by omega⟩, by omega, by omega, rfl⟩
      · refine ezw_iload_n rfl rfl ?_
        refine ezw_bipush (16) rfl rfl ?_
        refine ezw_icmp_ge rfl rfl ha1 ⟨by decide, by decide⟩ (fun h17_0 => ?_) (fun h17_0 => ?_)
        · refine ezw_iconst (0) rfl rfl ?_
          exact ezw_ireturn rfl (ezw_zret ⟨by omega, by omega⟩) ⟨rfl, (0), ⟨by omega, by omega⟩, by omega, by omega, rfl⟩
        · refine ezw_iconst (1) rfl rfl ?_
          refine ezw_goto rfl rfl ?_
          exact ezw_ireturn rfl (ezw_zret ⟨by omega, by omega⟩) ⟨rfl, (1), ⟨by omega, by omega⟩, by omega, by omega, rfl⟩
def ezt_m27_39oQ (e : Bool × Bool) (F : Nat → Nat → Int) (A : Nat → Int → Int) (a1 : Int) : Option ezq_V → (Nat → ezq_C) → Prop := fun v g' => ezu_g e F A = g' ∧ ∃ u : Int, (ezw_in u) ∧ (0 ≤ a1 → a1 < 16 → u = A 39 a1) ∧ (a1 < 0 ∨ 16 ≤ a1 → u = 0) ∧ some (ezw_i u) = v
theorem ezt_m27_39o {a1 : Int} {F : Nat → Nat → Int} {A : Nat → Int → Int} (hS : ezs_T F A) (hd : 0 ≤ d) (ha1 : ezw_in a1) : ezw_C l ρ B xa Hb D cA 27 d [ezw_p 39, ezw_i a1] (ezu_g e F A) (ezt_m27_39oQ e F A a1) := by
  refine ezw_met (k := 0) rfl rfl ?_
  refine ezw_aload_n rfl rfl ?_
  refine ezw_ifnull rfl ?_
  refine ezw_iload_n rfl rfl ?_
  refine ezw_if_lt rfl rfl ha1 (fun h5_0 => ?_) (fun h5_0 => ?_)
  · refine ezw_iconst (0) rfl rfl ?_
    exact ezw_ireturn rfl rfl ⟨rfl, (0), ⟨by decide, by decide⟩, by omega, by omega, rfl⟩
  · refine ezw_iload_n rfl rfl ?_
    refine ezw_aload_n rfl rfl ?_
    refine ezs_alen (k := 16) rfl rfl rfl rfl (by decide) (by decide) ?_
    refine ezw_icmp_ge rfl rfl ha1 ⟨by decide, by decide⟩ (fun h11_0 => ?_) (fun h11_0 => ?_)
    · refine ezw_iconst (0) rfl rfl ?_
      exact ezw_ireturn rfl rfl ⟨rfl, (0), ⟨by decide, by decide⟩, by omega, by omega, rfl⟩
    · refine ezw_aload_n rfl rfl ?_
      refine ezw_iload_n rfl rfl ?_
      refine ezy_iaload hS rfl rfl rfl (by omega) (by omega) (by decide) (fun u1 hu1 ku1 eu1 => ?_)
      refine ezw_goto rfl rfl ?_
      exact ezw_ireturn rfl rfl ⟨rfl, u1, hu1, by omega, by omega, rfl⟩
def ezt_m49oQ (e : Bool × Bool) (F : Nat → Nat → Int) (A : Nat → Int → Int) (a0 : Int) (a1 : Int) : Option ezq_V → (Nat → ezq_C) → Prop := fun v g' => ezu_g e F A = g' ∧ ∃ u : Int, (ezw_in u) ∧ (0 ≤ a1 → a1 < 31 → u = ezt_b a0 a1) ∧ (a1 < 0 ∨ 31 ≤ a1 → u = 0) ∧ some (ezw_i u) = v
theorem ezt_m49o {a0 a1 : Int} {F : Nat → Nat → Int} {A : Nat → Int → Int} (hS : ezs_T F A) (hd : 0 ≤ d) (ha0 : ezw_in a0) (ha1 : ezw_in a1) : ezw_C l ρ B xa Hb D cA 49 d [ezw_i a0, ezw_i a1] (ezu_g e F A) (ezt_m49oQ e F A a0 a1) := by
  refine ezw_met (k := 0) rfl rfl ?_
  refine ezw_iload_n rfl rfl ?_
  refine ezw_if_lt rfl rfl ha1 (fun h1_0 => ?_) (fun h1_0 => ?_)
  · refine ezw_iconst (0) rfl rfl ?_
    exact ezw_ireturn rfl rfl ⟨rfl, (0), ⟨by decide, by decide⟩, (by omega), (by omega), rfl⟩
  · refine ezw_iload_n rfl rfl ?_
    refine ezw_bipush (31) rfl rfl ?_
    refine ezw_icmp_ge rfl rfl ha1 ⟨by decide, by decide⟩ (fun h7_0 => ?_) (fun h7_0 => ?_)
    · refine ezw_iconst (0) rfl rfl ?_
      exact ezw_ireturn rfl rfl ⟨rfl, (0), ⟨by decide, by decide⟩, (by omega), (by omega), rfl⟩
    · refine ezw_iload_n rfl rfl ?_
      refine ezw_iload_n rfl rfl ?_
      refine ezw_ishr rfl ha0 (by omega) (by omega) (k := (a0 / 2 ^ (a1).toNat)) (rfl) ?_
      refine ezw_iconst (1) rfl rfl ?_
      refine ezw_iand rfl (k := ezw_and (a0 / 2 ^ (a1).toNat) 1) rfl ?_
      refine ezw_goto rfl rfl ?_
      exact ezw_ireturn rfl rfl ⟨rfl, (ezw_and (a0 / 2 ^ (a1).toNat) 1), (by rw [ezt_and1]; exact ⟨by omega, by omega⟩), (fun _ _ => ezt_and1 _), (by omega), rfl⟩
def ezt_m78_38oQ (e : Bool × Bool) (F : Nat → Nat → Int) (A : Nat → Int → Int) (y : ezp_D) (a1 : Int) (a2 : Int) : Option ezq_V → (Nat → ezq_C) → Prop := fun v g' => ezu_g e F A = g' ∧ ∃ u : Int, (0 ≤ u ∧ u ≤ 1) ∧ (u = 1 → y.el a1 a2 = 1) ∧ (u = 0 → y.el a1 a2 ≠ 1) ∧ some (ezw_i u) = v
theorem ezt_m78_38o {y : ezp_D} {a1 a2 : Int} {F : Nat → Nat → Int} {A : Nat → Int → Int} (hS : ezs_T F A) (hd : 1 ≤ d) (ha1 : ezw_in a1) (ha2 : ezw_in a2) (tr : ezt_TR 30 y F A) (nu : ezt_NU 30 y A) (hB : ezp_B y) : ezw_C l ρ B xa Hb D cA 78 d [ezw_p 38, ezw_i a1, ezw_i a2] (ezu_g e F A) (ezt_m78_38oQ e F A y a1 a2) := by
  refine ezw_met (k := 0) rfl rfl ?_
  obtain ⟨⟨c1, c2, c3, c4⟩, ⟨d1, d2, d3, d4, d5, d6, d7, d8⟩, e3, e4, e5, e6⟩ := id tr
  obtain ⟨b1, b2', b3, b4, b5, b6, b7, ⟨b8, b8'⟩, b9⟩ := id hB
  refine ezw_aload_n rfl rfl ?_
  refine ezs_getp (p := 39) rfl rfl rfl rfl rfl ?_
  refine ezw_iload_n rfl rfl ?_
  refine ezw_call3_2 rfl (by omega) rfl rfl (ezt_m27_39o hS (by omega) ha1) ?_
  rintro _ _ ⟨rfl, u2, hu2, v_1, o_1, rfl⟩
  refine ezw_iload_n rfl rfl ?_
  refine ezw_call3_2 rfl (by omega) rfl rfl (ezt_m49o hS (by omega) hu2 ha2) ?_
  rintro _ _ ⟨rfl, u4, hu4, v_3, o_3, rfl⟩
  have hcol : 0 ≤ a1 → a1 < 16 → (0 ≤ A 39 a1 ∧ A 39 a1 < 65536) ∧ ∀ y', 0 ≤ y' → y' < 16 → ezt_b (A 39 a1) y' = y.el a1 y' := e6 a1
  have hst : u4 = 1 ↔ y.el a1 a2 = 1 := by
    by_cases hx : 0 ≤ a1 ∧ a1 < 16
    · obtain ⟨q1, q2⟩ := hcol hx.1 hx.2
      have q3 := v_1 hx.1 hx.2
      by_cases hy : 0 ≤ a2 ∧ a2 < 16
      · have q4 := v_3 hy.1 (by omega)
        rw [q3, q2 a2 hy.1 hy.2] at q4
        rw [q4]
      · constructor
        · intro z
          by_cases hy2 : 16 ≤ a2 ∧ a2 < 31
          · have q4 := v_3 (by omega) hy2.2
            rw [q3, ezt_b_hi q1.1 q1.2 hy2.1] at q4
            omega
          · have q4 := o_3 (by omega)
            omega
        · intro z
          exact absurd (b7 a1 a2 z) (by omega)
    · have q3 := o_1 (by omega)
      constructor
      · intro z
        by_cases hy : 0 ≤ a2 ∧ a2 < 31
        · have q4 := v_3 hy.1 hy.2
          rw [q3, ezt_b0] at q4
          omega
        · have q4 := o_3 (by omega)
          omega
      · intro z
        exact absurd (b7 a1 a2 z) (by omega)
  refine ezw_iconst (1) rfl rfl ?_
  refine ezw_icmp_ne rfl rfl hu4 ⟨by decide, by decide⟩ (fun h13_4 => ?_) (fun h13_4 => ?_)
  · refine ezw_iconst (0) rfl rfl ?_
    exact ezw_ireturn rfl (ezw_zret ⟨by omega, by omega⟩) ⟨rfl, (0), ⟨by omega, by omega⟩, (by omega), (fun _ z => absurd (hst.mpr z) (by omega)), rfl⟩
  · refine ezw_iconst (1) rfl rfl ?_
    refine ezw_goto rfl rfl ?_
    exact ezw_ireturn rfl (ezw_zret ⟨by omega, by omega⟩) ⟨rfl, (1), ⟨by omega, by omega⟩, (fun _ => hst.mp (by omega)), (by omega), rfl⟩
def ezt_m184_38oQ (e : Bool × Bool) (F : Nat → Nat → Int) (A : Nat → Int → Int) (y : ezp_D) (a1 : Int) (a2 : Int) (a3 : Int) (a4 : Int) : Option ezq_V → (Nat → ezq_C) → Prop := fun v g' => ezu_g e F A = g' ∧ ∃ u : Int, (0 ≤ u ∧ u ≤ 1) ∧ (u = 1 → ezp_sfd y a1 a2 a3 (y.nu 10 + 1) = true) ∧ (u = 0 → ezp_sfd y a1 a2 a3 (y.nu 10 + 1) = false) ∧ some (ezw_i u) = v
theorem ezt_m184_38o {y : ezp_D} {a1 a2 a3 a4 : Int} {F : Nat → Nat → Int} {A : Nat → Int → Int} (hS : ezs_T F A) (hd : 2 ≤ d) (ha1 : ezw_in a1) (ha2 : ezw_in a2) (ha3 : ezw_in a3) (ha4 : ezw_in a4) (tr : ezt_TR 30 y F A) (nu : ezt_NU 30 y A) (hB : ezp_B y) (ga : -100 ≤ a1 ∧ a1 ≤ 100 ∧ -100 ≤ a2 ∧ a2 ≤ 100 ∧ 0 ≤ a3 ∧ a3 < 4 ∧ a4 = y.nu 10) : ezw_C l ρ B xa Hb D cA 184 d [ezw_p 38, ezw_i a1, ezw_i a2, ezw_i a3, ezw_i a4] (ezu_g e F A) (ezt_m184_38oQ e F A y a1 a2 a3 a4) := by
  refine ezw_met (k := 3) rfl rfl ?_
  obtain ⟨⟨c1, c2, c3, c4⟩, ⟨d1, d2, d3, d4, d5, d6, d7, d8⟩, e3, e4, e5, e6⟩ := id tr
  obtain ⟨b1, b2', b3, b4, b5, b6, b7, ⟨b8, b8'⟩, b9⟩ := id hB
  have n10 : A 44 10 = y.nu 10 := nu 10 (by decide) (by decide)
  have nb10 : 1 ≤ y.nu 10 ∧ y.nu 10 ≤ 15 := b8 10 (by decide) (by decide)
  refine ezw_iload_n rfl rfl ?_
  refine ezw_iconst (1) rfl rfl ?_
  refine ezw_icmp_ne rfl rfl ha3 ⟨by decide, by decide⟩ (fun h2_0 => ?_) (fun h2_0 => ?_)
  · refine ezw_iload_n rfl rfl ?_
    refine ezw_iconst (3) rfl rfl ?_
    refine ezw_icmp_ne rfl rfl ha3 ⟨by decide, by decide⟩ (fun h11_0 => ?_) (fun h11_0 => ?_)
    · refine ezw_iconst (0) rfl rfl ?_
      refine ezw_istore rfl rfl ?_
      refine ezw_iload_n rfl rfl ?_
      refine ezw_if_ne rfl rfl ha3 (fun h22_0 => ?_) (fun h22_0 => ?_)
      · refine ezw_iload_n rfl rfl ?_
        refine ezw_iconst (2) rfl rfl ?_
        refine ezw_icmp_ne rfl rfl ha3 ⟨by decide, by decide⟩ (fun h31_0 => ?_) (fun h31_0 => ?_)
        · refine ezw_iconst (0) rfl rfl ?_
          refine ezw_istore rfl rfl ?_
          have hox : ezp_ox a3 = (0) := by
            unfold ezp_ox
            (repeat' split) <;> omega
          have hoy : ezp_oy a3 = (0) := by
            unfold ezp_oy
            (repeat' split) <;> omega
          refine ezw_iconst (0) rfl rfl ?_
          refine ezw_istore rfl rfl ?_
          have L44_2 : ∀ c1 : Int, ezw_in c1 → ((0) ≤ c1) → (ezp_sfn y a1 a2 (ezp_ox a3) (ezp_oy a3) (c1).toNat = true) → (c1 ≤ y.nu 10 + 1) → ezw_E l ρ B xa Hb D cA d ezq_re184 (ezt_m184_38oQ e F A y a1 a2 a3 a4) 44 [some (ezw_p 38), some (ezw_i a1), some (ezw_i a2), some (ezw_i a3), some (ezw_i a4), some (ezw_i (0)), some (ezw_i (0)), some (ezw_i c1)] [] (ezu_g e F A) := by
            refine ezs_up ?_
            intro c1 hc1 ihc1 g_2 sf_2 sb_2
            refine ezw_iload rfl rfl ?_
            refine ezw_iload rfl rfl ?_
            refine ezw_icmp_gt rfl rfl hc1 ha4 (fun h48_2 => ?_) (fun h48_2 => ?_)
            · refine ezw_iconst (1) rfl rfl ?_
              exact ezw_ireturn rfl (ezw_zret ⟨by omega, by omega⟩) ⟨rfl, (1), ⟨by omega, by omega⟩, (fun _ => by
                    have h7 := sf_2
                    rw [show c1 = y.nu 10 + 1 by omega] at h7
                    exact h7), (by omega), rfl⟩
            · refine ezw_aload_n rfl rfl ?_
              refine ezw_iload_n rfl rfl ?_
              refine ezw_iload rfl rfl ?_
              refine ezw_iload rfl rfl ?_
              refine ezw_imul (k := (0)) rfl (by omega) ?_
              refine ezw_iadd (k := a1) rfl (by omega) ?_
              refine ezw_iload_n rfl rfl ?_
              refine ezw_iload rfl rfl ?_
              refine ezw_iload rfl rfl ?_
              refine ezw_imul (k := (0)) rfl (by omega) ?_
              refine ezw_iadd (k := a2) rfl (by omega) ?_
              refine ezw_call0_2 rfl (by omega) (ezu_at rfl) rfl rfl rfl rfl (ezt_m78_38o hS (by omega) ⟨by omega, by omega⟩ ⟨by omega, by omega⟩ tr nu hB) ?_
              rintro _ _ ⟨rfl, u4, hu4, p3_0, p3_1, rfl⟩
              refine ezw_if_eq rfl rfl ⟨by omega, by omega⟩ (fun h69_4 => ?_) (fun h69_4 => ?_)
              · refine ezw_iinc (k := c1 + 1) (1) rfl rfl rfl (by omega) rfl ?_
                refine ezw_goto rfl rfl ?_
                exact ezw_keepE [true, true, true, true, true, true, true, true] (ihc1 (c1 + 1) (by omega) ⟨by omega, by omega⟩ (by omega) (ezp_sfnT (by omega) sf_2 (X := a1) (Y := a2) (by rw [hox]; omega) (by rw [hoy]; omega) (p3_1 (by omega))) (by omega))
              · refine ezw_iconst (0) rfl rfl ?_
                exact ezw_ireturn rfl (ezw_zret ⟨by omega, by omega⟩) ⟨rfl, (0), ⟨by omega, by omega⟩, (by omega), (fun _ => ezp_sfnF (k := c1) (X := a1) (Y := a2) (by omega) (by omega) (by rw [hox]; omega) (by rw [hoy]; omega) (p3_0 (by omega))), rfl⟩
          exact ezw_keepE [true, true, true, true, true, true, true, true] (L44_2 (0) ⟨by decide, by decide⟩ (by omega) rfl (by omega))
        · refine ezw_iconst (-1) rfl rfl ?_
          refine ezw_goto rfl rfl ?_
          refine ezw_istore rfl rfl ?_
          have hox : ezp_ox a3 = (0) := by
            unfold ezp_ox
            (repeat' split) <;> omega
          have hoy : ezp_oy a3 = (-1) := by
            unfold ezp_oy
            (repeat' split) <;> omega
          refine ezw_iconst (0) rfl rfl ?_
          refine ezw_istore rfl rfl ?_
          have L44_6 : ∀ c5 : Int, ezw_in c5 → ((0) ≤ c5) → (ezp_sfn y a1 a2 (ezp_ox a3) (ezp_oy a3) (c5).toNat = true) → (c5 ≤ y.nu 10 + 1) → ezw_E l ρ B xa Hb D cA d ezq_re184 (ezt_m184_38oQ e F A y a1 a2 a3 a4) 44 [some (ezw_p 38), some (ezw_i a1), some (ezw_i a2), some (ezw_i a3), some (ezw_i a4), some (ezw_i (0)), some (ezw_i (-1)), some (ezw_i c5)] [] (ezu_g e F A) := by
            refine ezs_up ?_
            intro c5 hc5 ihc5 g_6 sf_6 sb_6
            refine ezw_iload rfl rfl ?_
            refine ezw_iload rfl rfl ?_
            refine ezw_icmp_gt rfl rfl hc5 ha4 (fun h48_6 => ?_) (fun h48_6 => ?_)
            · refine ezw_iconst (1) rfl rfl ?_
              exact ezw_ireturn rfl (ezw_zret ⟨by omega, by omega⟩) ⟨rfl, (1), ⟨by omega, by omega⟩, (fun _ => by
                    have h7 := sf_6
                    rw [show c5 = y.nu 10 + 1 by omega] at h7
                    exact h7), (by omega), rfl⟩
            · refine ezw_aload_n rfl rfl ?_
              refine ezw_iload_n rfl rfl ?_
              refine ezw_iload rfl rfl ?_
              refine ezw_iload rfl rfl ?_
              refine ezw_imul (k := (0)) rfl (by omega) ?_
              refine ezw_iadd (k := a1) rfl (by omega) ?_
              refine ezw_iload_n rfl rfl ?_
              refine ezw_iload rfl rfl ?_
              refine ezw_iload rfl rfl ?_
              refine ezw_imul (k := -c5) rfl (by omega) ?_
              refine ezw_iadd (k := a2 - c5) rfl (by omega) ?_
              refine ezw_call0_2 rfl (by omega) (ezu_at rfl) rfl rfl rfl rfl (ezt_m78_38o hS (by omega) ⟨by omega, by omega⟩ ⟨by omega, by omega⟩ tr nu hB) ?_
              rintro _ _ ⟨rfl, u8, hu8, p7_0, p7_1, rfl⟩
              refine ezw_if_eq rfl rfl ⟨by omega, by omega⟩ (fun h69_8 => ?_) (fun h69_8 => ?_)
              · refine ezw_iinc (k := c5 + 1) (1) rfl rfl rfl (by omega) rfl ?_
                refine ezw_goto rfl rfl ?_
                exact ezw_keepE [true, true, true, true, true, true, true, true] (ihc5 (c5 + 1) (by omega) ⟨by omega, by omega⟩ (by omega) (ezp_sfnT (by omega) sf_6 (X := a1) (Y := (a2 - c5)) (by rw [hox]; omega) (by rw [hoy]; omega) (p7_1 (by omega))) (by omega))
              · refine ezw_iconst (0) rfl rfl ?_
                exact ezw_ireturn rfl (ezw_zret ⟨by omega, by omega⟩) ⟨rfl, (0), ⟨by omega, by omega⟩, (by omega), (fun _ => ezp_sfnF (k := c5) (X := a1) (Y := a2 - c5) (by omega) (by omega) (by rw [hox]; omega) (by rw [hoy]; omega) (p7_0 (by omega))), rfl⟩
          exact ezw_keepE [true, true, true, true, true, true, true, true] (L44_6 (0) ⟨by decide, by decide⟩ (by omega) rfl (by omega))
      · refine ezw_iconst (1) rfl rfl ?_
        refine ezw_goto rfl rfl ?_
        refine ezw_istore rfl rfl ?_
        have hox : ezp_ox a3 = (0) := by
          unfold ezp_ox
          (repeat' split) <;> omega
        have hoy : ezp_oy a3 = (1) := by
          unfold ezp_oy
          (repeat' split) <;> omega
        refine ezw_iconst (0) rfl rfl ?_
        refine ezw_istore rfl rfl ?_
        have L44_10 : ∀ c9 : Int, ezw_in c9 → ((0) ≤ c9) → (ezp_sfn y a1 a2 (ezp_ox a3) (ezp_oy a3) (c9).toNat = true) → (c9 ≤ y.nu 10 + 1) → ezw_E l ρ B xa Hb D cA d ezq_re184 (ezt_m184_38oQ e F A y a1 a2 a3 a4) 44 [some (ezw_p 38), some (ezw_i a1), some (ezw_i a2), some (ezw_i a3), some (ezw_i a4), some (ezw_i (0)), some (ezw_i (1)), some (ezw_i c9)] [] (ezu_g e F A) := by
          refine ezs_up ?_
          intro c9 hc9 ihc9 g_10 sf_10 sb_10
          refine ezw_iload rfl rfl ?_
          refine ezw_iload rfl rfl ?_
          refine ezw_icmp_gt rfl rfl hc9 ha4 (fun h48_10 => ?_) (fun h48_10 => ?_)
          · refine ezw_iconst (1) rfl rfl ?_
            exact ezw_ireturn rfl (ezw_zret ⟨by omega, by omega⟩) ⟨rfl, (1), ⟨by omega, by omega⟩, (fun _ => by
                  have h7 := sf_10
                  rw [show c9 = y.nu 10 + 1 by omega] at h7
                  exact h7), (by omega), rfl⟩
          · refine ezw_aload_n rfl rfl ?_
            refine ezw_iload_n rfl rfl ?_
            refine ezw_iload rfl rfl ?_
            refine ezw_iload rfl rfl ?_
            refine ezw_imul (k := (0)) rfl (by omega) ?_
            refine ezw_iadd (k := a1) rfl (by omega) ?_
            refine ezw_iload_n rfl rfl ?_
            refine ezw_iload rfl rfl ?_
            refine ezw_iload rfl rfl ?_
            refine ezw_imul (k := c9) rfl (by omega) ?_
            refine ezw_iadd (k := a2 + c9) rfl (by omega) ?_
            refine ezw_call0_2 rfl (by omega) (ezu_at rfl) rfl rfl rfl rfl (ezt_m78_38o hS (by omega) ⟨by omega, by omega⟩ ⟨by omega, by omega⟩ tr nu hB) ?_
            rintro _ _ ⟨rfl, u12, hu12, p11_0, p11_1, rfl⟩
            refine ezw_if_eq rfl rfl ⟨by omega, by omega⟩ (fun h69_12 => ?_) (fun h69_12 => ?_)
            · refine ezw_iinc (k := c9 + 1) (1) rfl rfl rfl (by omega) rfl ?_
              refine ezw_goto rfl rfl ?_
              exact ezw_keepE [true, true, true, true, true, true, true, true] (ihc9 (c9 + 1) (by omega) ⟨by omega, by omega⟩ (by omega) (ezp_sfnT (by omega) sf_10 (X := a1) (Y := (a2 + c9)) (by rw [hox]; omega) (by rw [hoy]; omega) (p11_1 (by omega))) (by omega))
            · refine ezw_iconst (0) rfl rfl ?_
              exact ezw_ireturn rfl (ezw_zret ⟨by omega, by omega⟩) ⟨rfl, (0), ⟨by omega, by omega⟩, (by omega), (fun _ => ezp_sfnF (k := c9) (X := a1) (Y := a2 + c9) (by omega) (by omega) (by rw [hox]; omega) (by rw [hoy]; omega) (p11_0 (by omega))), rfl⟩
        exact ezw_keepE [true, true, true, true, true, true, true, true] (L44_10 (0) ⟨by decide, by decide⟩ (by omega) rfl (by omega))
    · refine ezw_iconst (1) rfl rfl ?_
      refine ezw_goto rfl rfl ?_
      refine ezw_istore rfl rfl ?_
      refine ezw_iload_n rfl rfl ?_
      refine ezw_if_ne rfl rfl ha3 (fun h22_12 => ?_) (fun h22_12 => ?_)
      · refine ezw_iload_n rfl rfl ?_
        refine ezw_iconst (2) rfl rfl ?_
        refine ezw_icmp_ne rfl rfl ha3 ⟨by decide, by decide⟩ (fun h31_12 => ?_) (fun h31_12 => ?_)
        · refine ezw_iconst (0) rfl rfl ?_
          refine ezw_istore rfl rfl ?_
          have hox : ezp_ox a3 = (1) := by
            unfold ezp_ox
            (repeat' split) <;> omega
          have hoy : ezp_oy a3 = (0) := by
            unfold ezp_oy
            (repeat' split) <;> omega
          refine ezw_iconst (0) rfl rfl ?_
          refine ezw_istore rfl rfl ?_
          have L44_14 : ∀ c13 : Int, ezw_in c13 → ((0) ≤ c13) → (ezp_sfn y a1 a2 (ezp_ox a3) (ezp_oy a3) (c13).toNat = true) → (c13 ≤ y.nu 10 + 1) → ezw_E l ρ B xa Hb D cA d ezq_re184 (ezt_m184_38oQ e F A y a1 a2 a3 a4) 44 [some (ezw_p 38), some (ezw_i a1), some (ezw_i a2), some (ezw_i a3), some (ezw_i a4), some (ezw_i (1)), some (ezw_i (0)), some (ezw_i c13)] [] (ezu_g e F A) := by
            refine ezs_up ?_
            intro c13 hc13 ihc13 g_14 sf_14 sb_14
            refine ezw_iload rfl rfl ?_
            refine ezw_iload rfl rfl ?_
            refine ezw_icmp_gt rfl rfl hc13 ha4 (fun h48_14 => ?_) (fun h48_14 => ?_)
            · refine ezw_iconst (1) rfl rfl ?_
              exact ezw_ireturn rfl (ezw_zret ⟨by omega, by omega⟩) ⟨rfl, (1), ⟨by omega, by omega⟩, (fun _ => by
                    have h7 := sf_14
                    rw [show c13 = y.nu 10 + 1 by omega] at h7
                    exact h7), (by omega), rfl⟩
            · refine ezw_aload_n rfl rfl ?_
              refine ezw_iload_n rfl rfl ?_
              refine ezw_iload rfl rfl ?_
              refine ezw_iload rfl rfl ?_
              refine ezw_imul (k := c13) rfl (by omega) ?_
              refine ezw_iadd (k := a1 + c13) rfl (by omega) ?_
              refine ezw_iload_n rfl rfl ?_
              refine ezw_iload rfl rfl ?_
              refine ezw_iload rfl rfl ?_
              refine ezw_imul (k := (0)) rfl (by omega) ?_
              refine ezw_iadd (k := a2) rfl (by omega) ?_
              refine ezw_call0_2 rfl (by omega) (ezu_at rfl) rfl rfl rfl rfl (ezt_m78_38o hS (by omega) ⟨by omega, by omega⟩ ⟨by omega, by omega⟩ tr nu hB) ?_
              rintro _ _ ⟨rfl, u16, hu16, p15_0, p15_1, rfl⟩
              refine ezw_if_eq rfl rfl ⟨by omega, by omega⟩ (fun h69_16 => ?_) (fun h69_16 => ?_)
              · refine ezw_iinc (k := c13 + 1) (1) rfl rfl rfl (by omega) rfl ?_
                refine ezw_goto rfl rfl ?_
                exact ezw_keepE [true, true, true, true, true, true, true, true] (ihc13 (c13 + 1) (by omega) ⟨by omega, by omega⟩ (by omega) (ezp_sfnT (by omega) sf_14 (X := (a1 + c13)) (Y := a2) (by rw [hox]; omega) (by rw [hoy]; omega) (p15_1 (by omega))) (by omega))
              · refine ezw_iconst (0) rfl rfl ?_
                exact ezw_ireturn rfl (ezw_zret ⟨by omega, by omega⟩) ⟨rfl, (0), ⟨by omega, by omega⟩, (by omega), (fun _ => ezp_sfnF (k := c13) (X := a1 + c13) (Y := a2) (by omega) (by omega) (by rw [hox]; omega) (by rw [hoy]; omega) (p15_0 (by omega))), rfl⟩
          exact ezw_keepE [true, true, true, true, true, true, true, true] (L44_14 (0) ⟨by decide, by decide⟩ (by omega) rfl (by omega))
        · refine ezw_iconst (-1) rfl rfl ?_
          refine ezw_goto rfl rfl ?_
          refine ezw_istore rfl rfl ?_
          have hox : ezp_ox a3 = (1) := by
            unfold ezp_ox
            (repeat' split) <;> omega
          have hoy : ezp_oy a3 = (-1) := by
            unfold ezp_oy
            (repeat' split) <;> omega
          refine ezw_iconst (0) rfl rfl ?_
          refine ezw_istore rfl rfl ?_
          have L44_18 : ∀ c17 : Int, ezw_in c17 → ((0) ≤ c17) → (ezp_sfn y a1 a2 (ezp_ox a3) (ezp_oy a3) (c17).toNat = true) → (c17 ≤ y.nu 10 + 1) → ezw_E l ρ B xa Hb D cA d ezq_re184 (ezt_m184_38oQ e F A y a1 a2 a3 a4) 44 [some (ezw_p 38), some (ezw_i a1), some (ezw_i a2), some (ezw_i a3), some (ezw_i a4), some (ezw_i (1)), some (ezw_i (-1)), some (ezw_i c17)] [] (ezu_g e F A) := by
            refine ezs_up ?_
            intro c17 hc17 ihc17 g_18 sf_18 sb_18
            refine ezw_iload rfl rfl ?_
            refine ezw_iload rfl rfl ?_
            refine ezw_icmp_gt rfl rfl hc17 ha4 (fun h48_18 => ?_) (fun h48_18 => ?_)
            · refine ezw_iconst (1) rfl rfl ?_
              exact ezw_ireturn rfl (ezw_zret ⟨by omega, by omega⟩) ⟨rfl, (1), ⟨by omega, by omega⟩, (fun _ => by
                    have h7 := sf_18
                    rw [show c17 = y.nu 10 + 1 by omega] at h7
                    exact h7), (by omega), rfl⟩
            · refine ezw_aload_n rfl rfl ?_
              refine ezw_iload_n rfl rfl ?_
              refine ezw_iload rfl rfl ?_
              refine ezw_iload rfl rfl ?_
              refine ezw_imul (k := c17) rfl (by omega) ?_
              refine ezw_iadd (k := a1 + c17) rfl (by omega) ?_
              refine ezw_iload_n rfl rfl ?_
              refine ezw_iload rfl rfl ?_
              refine ezw_iload rfl rfl ?_
              refine ezw_imul (k := -c17) rfl (by omega) ?_
              refine ezw_iadd (k := a2 - c17) rfl (by omega) ?_
              refine ezw_call0_2 rfl (by omega) (ezu_at rfl) rfl rfl rfl rfl (ezt_m78_38o hS (by omega) ⟨by omega, by omega⟩ ⟨by omega, by omega⟩ tr nu hB) ?_
              rintro _ _ ⟨rfl, u20, hu20, p19_0, p19_1, rfl⟩
              refine ezw_if_eq rfl rfl ⟨by omega, by omega⟩ (fun h69_20 => ?_) (fun h69_20 => ?_)
              · refine ezw_iinc (k := c17 + 1) (1) rfl rfl rfl (by omega) rfl ?_
                refine ezw_goto rfl rfl ?_
                exact ezw_keepE [true, true, true, true, true, true, true, true] (ihc17 (c17 + 1) (by omega) ⟨by omega, by omega⟩ (by omega) (ezp_sfnT (by omega) sf_18 (X := (a1 + c17)) (Y := (a2 - c17)) (by rw [hox]; omega) (by rw [hoy]; omega) (p19_1 (by omega))) (by omega))
              · refine ezw_iconst (0) rfl rfl ?_
                exact ezw_ireturn rfl (ezw_zret ⟨by omega, by omega⟩) ⟨rfl, (0), ⟨by omega, by omega⟩, (by omega), (fun _ => ezp_sfnF (k := c17) (X := a1 + c17) (Y := a2 - c17) (by omega) (by omega) (by rw [hox]; omega) (by rw [hoy]; omega) (p19_0 (by omega))), rfl⟩
          exact ezw_keepE [true, true, true, true, true, true, true, true] (L44_18 (0) ⟨by decide, by decide⟩ (by omega) rfl (by omega))
      · refine ezw_iconst (1) rfl rfl ?_
        refine ezw_goto rfl rfl ?_
        refine ezw_istore rfl rfl ?_
        have hox : ezp_ox a3 = (1) := by
          unfold ezp_ox
          (repeat' split) <;> omega
        have hoy : ezp_oy a3 = (1) := by
          unfold ezp_oy
          (repeat' split) <;> omega
        refine ezw_iconst (0) rfl rfl ?_
        refine ezw_istore rfl rfl ?_
        have L44_22 : ∀ c21 : Int, ezw_in c21 → ((0) ≤ c21) → (ezp_sfn y a1 a2 (ezp_ox a3) (ezp_oy a3) (c21).toNat = true) → (c21 ≤ y.nu 10 + 1) → ezw_E l ρ B xa Hb D cA d ezq_re184 (ezt_m184_38oQ e F A y a1 a2 a3 a4) 44 [some (ezw_p 38), some (ezw_i a1), some (ezw_i a2), some (ezw_i a3), some (ezw_i a4), some (ezw_i (1)), some (ezw_i (1)), some (ezw_i c21)] [] (ezu_g e F A) := by
          refine ezs_up ?_
          intro c21 hc21 ihc21 g_22 sf_22 sb_22
          refine ezw_iload rfl rfl ?_
          refine ezw_iload rfl rfl ?_
          refine ezw_icmp_gt rfl rfl hc21 ha4 (fun h48_22 => ?_) (fun h48_22 => ?_)
          · refine ezw_iconst (1) rfl rfl ?_
            exact ezw_ireturn rfl (ezw_zret ⟨by omega, by omega⟩) ⟨rfl, (1), ⟨by omega, by omega⟩, (fun _ => by
                  have h7 := sf_22
                  rw [show c21 = y.nu 10 + 1 by omega] at h7
                  exact h7), (by omega), rfl⟩
          · refine ezw_aload_n rfl rfl ?_
            refine ezw_iload_n rfl rfl ?_
            refine ezw_iload rfl rfl ?_
            refine ezw_iload rfl rfl ?_
            refine ezw_imul (k := c21) rfl (by omega) ?_
            refine ezw_iadd (k := a1 + c21) rfl (by omega) ?_
            refine ezw_iload_n rfl rfl ?_
            refine ezw_iload rfl rfl ?_
            refine ezw_iload rfl rfl ?_
            refine ezw_imul (k := c21) rfl (by omega) ?_
            refine ezw_iadd (k := a2 + c21) rfl (by omega) ?_
            refine ezw_call0_2 rfl (by omega) (ezu_at rfl) rfl rfl rfl rfl (ezt_m78_38o hS (by omega) ⟨by omega, by omega⟩ ⟨by omega, by omega⟩ tr nu hB) ?_
            rintro _ _ ⟨rfl, u24, hu24, p23_0, p23_1, rfl⟩
            refine ezw_if_eq rfl rfl ⟨by omega, by omega⟩ (fun h69_24 => ?_) (fun h69_24 => ?_)
            · refine ezw_iinc (k := c21 + 1) (1) rfl rfl rfl (by omega) rfl ?_
              refine ezw_goto rfl rfl ?_
              exact ezw_keepE [true, true, true, true, true, true, true, true] (ihc21 (c21 + 1) (by omega) ⟨by omega, by omega⟩ (by omega) (ezp_sfnT (by omega) sf_22 (X := (a1 + c21)) (Y := (a2 + c21)) (by rw [hox]; omega) (by rw [hoy]; omega) (p23_1 (by omega))) (by omega))
            · refine ezw_iconst (0) rfl rfl ?_
              exact ezw_ireturn rfl (ezw_zret ⟨by omega, by omega⟩) ⟨rfl, (0), ⟨by omega, by omega⟩, (by omega), (fun _ => ezp_sfnF (k := c21) (X := a1 + c21) (Y := a2 + c21) (by omega) (by omega) (by rw [hox]; omega) (by rw [hoy]; omega) (p23_0 (by omega))), rfl⟩
        exact ezw_keepE [true, true, true, true, true, true, true, true] (L44_22 (0) ⟨by decide, by decide⟩ (by omega) rfl (by omega))
  · refine ezw_iconst (-1) rfl rfl ?_
    refine ezw_goto rfl rfl ?_
    refine ezw_istore rfl rfl ?_
    refine ezw_iload_n rfl rfl ?_
    refine ezw_if_ne rfl rfl ha3 (fun h22_24 => ?_) (fun h22_24 => ?_)
    · refine ezw_iload_n rfl rfl ?_
      refine ezw_iconst (2) rfl rfl ?_
      refine ezw_icmp_ne rfl rfl ha3 ⟨by decide, by decide⟩ (fun h31_24 => ?_) (fun h31_24 => ?_)
      · refine ezw_iconst (0) rfl rfl ?_
        refine ezw_istore rfl rfl ?_
        have hox : ezp_ox a3 = (-1) := by
          unfold ezp_ox
          (repeat' split) <;> omega
        have hoy : ezp_oy a3 = (0) := by
          unfold ezp_oy
          (repeat' split) <;> omega
        refine ezw_iconst (0) rfl rfl ?_
        refine ezw_istore rfl rfl ?_
        have L44_26 : ∀ c25 : Int, ezw_in c25 → ((0) ≤ c25) → (ezp_sfn y a1 a2 (ezp_ox a3) (ezp_oy a3) (c25).toNat = true) → (c25 ≤ y.nu 10 + 1) → ezw_E l ρ B xa Hb D cA d ezq_re184 (ezt_m184_38oQ e F A y a1 a2 a3 a4) 44 [some (ezw_p 38), some (ezw_i a1), some (ezw_i a2), some (ezw_i a3), some (ezw_i a4), some (ezw_i (-1)), some (ezw_i (0)), some (ezw_i c25)] [] (ezu_g e F A) := by
          refine ezs_up ?_
          intro c25 hc25 ihc25 g_26 sf_26 sb_26
          refine ezw_iload rfl rfl ?_
          refine ezw_iload rfl rfl ?_
          refine ezw_icmp_gt rfl rfl hc25 ha4 (fun h48_26 => ?_) (fun h48_26 => ?_)
          · refine ezw_iconst (1) rfl rfl ?_
            exact ezw_ireturn rfl (ezw_zret ⟨by omega, by omega⟩) ⟨rfl, (1), ⟨by omega, by omega⟩, (fun _ => by
                  have h7 := sf_26
                  rw [show c25 = y.nu 10 + 1 by omega] at h7
                  exact h7), (by omega), rfl⟩
          · refine ezw_aload_n rfl rfl ?_
            refine ezw_iload_n rfl rfl ?_
            refine ezw_iload rfl rfl ?_
            refine ezw_iload rfl rfl ?_
            refine ezw_imul (k := -c25) rfl (by omega) ?_
            refine ezw_iadd (k := a1 - c25) rfl (by omega) ?_
            refine ezw_iload_n rfl rfl ?_
            refine ezw_iload rfl rfl ?_
            refine ezw_iload rfl rfl ?_
            refine ezw_imul (k := (0)) rfl (by omega) ?_
            refine ezw_iadd (k := a2) rfl (by omega) ?_
            refine ezw_call0_2 rfl (by omega) (ezu_at rfl) rfl rfl rfl rfl (ezt_m78_38o hS (by omega) ⟨by omega, by omega⟩ ⟨by omega, by omega⟩ tr nu hB) ?_
            rintro _ _ ⟨rfl, u28, hu28, p27_0, p27_1, rfl⟩
            refine ezw_if_eq rfl rfl ⟨by omega, by omega⟩ (fun h69_28 => ?_) (fun h69_28 => ?_)
            · refine ezw_iinc (k := c25 + 1) (1) rfl rfl rfl (by omega) rfl ?_
              refine ezw_goto rfl rfl ?_
              exact ezw_keepE [true, true, true, true, true, true, true, true] (ihc25 (c25 + 1) (by omega) ⟨by omega, by omega⟩ (by omega) (ezp_sfnT (by omega) sf_26 (X := (a1 - c25)) (Y := a2) (by rw [hox]; omega) (by rw [hoy]; omega) (p27_1 (by omega))) (by omega))
            · refine ezw_iconst (0) rfl rfl ?_
              exact ezw_ireturn rfl (ezw_zret ⟨by omega, by omega⟩) ⟨rfl, (0), ⟨by omega, by omega⟩, (by omega), (fun _ => ezp_sfnF (k := c25) (X := a1 - c25) (Y := a2) (by omega) (by omega) (by rw [hox]; omega) (by rw [hoy]; omega) (p27_0 (by omega))), rfl⟩
        exact ezw_keepE [true, true, true, true, true, true, true, true] (L44_26 (0) ⟨by decide, by decide⟩ (by omega) rfl (by omega))
      · refine ezw_iconst (-1) rfl rfl ?_
        refine ezw_goto rfl rfl ?_
        refine ezw_istore rfl rfl ?_
        have hox : ezp_ox a3 = (-1) := by
          unfold ezp_ox
          (repeat' split) <;> omega
        have hoy : ezp_oy a3 = (-1) := by
          unfold ezp_oy
          (repeat' split) <;> omega
        refine ezw_iconst (0) rfl rfl ?_
        refine ezw_istore rfl rfl ?_
        have L44_30 : ∀ c29 : Int, ezw_in c29 → ((0) ≤ c29) → (ezp_sfn y a1 a2 (ezp_ox a3) (ezp_oy a3) (c29).toNat = true) → (c29 ≤ y.nu 10 + 1) → ezw_E l ρ B xa Hb D cA d ezq_re184 (ezt_m184_38oQ e F A y a1 a2 a3 a4) 44 [some (ezw_p 38), some (ezw_i a1), some (ezw_i a2), some (ezw_i a3), some (ezw_i a4), some (ezw_i (-1)), some (ezw_i (-1)), some (ezw_i c29)] [] (ezu_g e F A) := by
          refine ezs_up ?_
          intro c29 hc29 ihc29 g_30 sf_30 sb_30
          refine ezw_iload rfl rfl ?_
          refine ezw_iload rfl rfl ?_
          refine ezw_icmp_gt rfl rfl hc29 ha4 (fun h48_30 => ?_) (fun h48_30 => ?_)
          · refine ezw_iconst (1) rfl rfl ?_
            exact ezw_ireturn rfl (ezw_zret ⟨by omega, by omega⟩) ⟨rfl, (1), ⟨by omega, by omega⟩, (fun _ => by
                  have h7 := sf_30
                  rw [show c29 = y.nu 10 + 1 by omega] at h7
                  exact h7), (by omega), rfl⟩
          · refine ezw_aload_n rfl rfl ?_
            refine ezw_iload_n rfl rfl ?_
            refine ezw_iload rfl rfl ?_
            refine ezw_iload rfl rfl ?_
            refine ezw_imul (k := -c29) rfl (by omega) ?_
            refine ezw_iadd (k := a1 - c29) rfl (by omega) ?_
            refine ezw_iload_n rfl rfl ?_
            refine ezw_iload rfl rfl ?_
            refine ezw_iload rfl rfl ?_
            refine ezw_imul (k := -c29) rfl (by omega) ?_
            refine ezw_iadd (k := a2 - c29) rfl (by omega) ?_
            refine ezw_call0_2 rfl (by omega) (ezu_at rfl) rfl rfl rfl rfl (ezt_m78_38o hS (by omega) ⟨by omega, by omega⟩ ⟨by omega, by omega⟩ tr nu hB) ?_
            rintro _ _ ⟨rfl, u32, hu32, p31_0, p31_1, rfl⟩
            refine ezw_if_eq rfl rfl ⟨by omega, by omega⟩ (fun h69_32 => ?_) (fun h69_32 => ?_)
            · refine ezw_iinc (k := c29 + 1) (1) rfl rfl rfl (by omega) rfl ?_
              refine ezw_goto rfl rfl ?_
              exact ezw_keepE [true, true, true, true, true, true, true, true] (ihc29 (c29 + 1) (by omega) ⟨by omega, by omega⟩ (by omega) (ezp_sfnT (by omega) sf_30 (X := (a1 - c29)) (Y := (a2 - c29)) (by rw [hox]; omega) (by rw [hoy]; omega) (p31_1 (by omega))) (by omega))
            · refine ezw_iconst (0) rfl rfl ?_
              exact ezw_ireturn rfl (ezw_zret ⟨by omega, by omega⟩) ⟨rfl, (0), ⟨by omega, by omega⟩, (by omega), (fun _ => ezp_sfnF (k := c29) (X := a1 - c29) (Y := a2 - c29) (by omega) (by omega) (by rw [hox]; omega) (by rw [hoy]; omega) (p31_0 (by omega))), rfl⟩
        exact ezw_keepE [true, true, true, true, true, true, true, true] (L44_30 (0) ⟨by decide, by decide⟩ (by omega) rfl (by omega))
    · refine ezw_iconst (1) rfl rfl ?_
      refine ezw_goto rfl rfl ?_
      refine ezw_istore rfl rfl ?_
      have hox : ezp_ox a3 = (-1) := by
        unfold ezp_ox
        (repeat' split) <;> omega
      have hoy : ezp_oy a3 = (1) := by
        unfold ezp_oy
        (repeat' split) <;> omega
      refine ezw_iconst (0) rfl rfl ?_
      refine ezw_istore rfl rfl ?_
      have L44_34 : ∀ c33 : Int, ezw_in c33 → ((0) ≤ c33) → (ezp_sfn y a1 a2 (ezp_ox a3) (ezp_oy a3) (c33).toNat = true) → (c33 ≤ y.nu 10 + 1) → ezw_E l ρ B xa Hb D cA d ezq_re184 (ezt_m184_38oQ e F A y a1 a2 a3 a4) 44 [some (ezw_p 38), some (ezw_i a1), some (ezw_i a2), some (ezw_i a3), some (ezw_i a4), some (ezw_i (-1)), some (ezw_i (1)), some (ezw_i c33)] [] (ezu_g e F A) := by
        refine ezs_up ?_
        intro c33 hc33 ihc33 g_34 sf_34 sb_34
        refine ezw_iload rfl rfl ?_
        refine ezw_iload rfl rfl ?_
        refine ezw_icmp_gt rfl rfl hc33 ha4 (fun h48_34 => ?_) (fun h48_34 => ?_)
        · refine ezw_iconst (1) rfl rfl ?_
          exact ezw_ireturn rfl (ezw_zret ⟨by omega, by omega⟩) ⟨rfl, (1), ⟨by omega, by omega⟩, (fun _ => by
                have h7 := sf_34
                rw [show c33 = y.nu 10 + 1 by omega] at h7
                exact h7), (by omega), rfl⟩
        · refine ezw_aload_n rfl rfl ?_
          refine ezw_iload_n rfl rfl ?_
          refine ezw_iload rfl rfl ?_
          refine ezw_iload rfl rfl ?_
          refine ezw_imul (k := -c33) rfl (by omega) ?_
          refine ezw_iadd (k := a1 - c33) rfl (by omega) ?_
          refine ezw_iload_n rfl rfl ?_
          refine ezw_iload rfl rfl ?_
          refine ezw_iload rfl rfl ?_
          refine ezw_imul (k := c33) rfl (by omega) ?_
          refine ezw_iadd (k := a2 + c33) rfl (by omega) ?_
          refine ezw_call0_2 rfl (by omega) (ezu_at rfl) rfl rfl rfl rfl (ezt_m78_38o hS (by omega) ⟨by omega, by omega⟩ ⟨by omega, by omega⟩ tr nu hB) ?_
          rintro _ _ ⟨rfl, u36, hu36, p35_0, p35_1, rfl⟩
          refine ezw_if_eq rfl rfl ⟨by omega, by omega⟩ (fun h69_36 => ?_) (fun h69_36 => ?_)
          · refine ezw_iinc (k := c33 + 1) (1) rfl rfl rfl (by omega) rfl ?_
            refine ezw_goto rfl rfl ?_
            exact ezw_keepE [true, true, true, true, true, true, true, true] (ihc33 (c33 + 1) (by omega) ⟨by omega, by omega⟩ (by omega) (ezp_sfnT (by omega) sf_34 (X := (a1 - c33)) (Y := (a2 + c33)) (by rw [hox]; omega) (by rw [hoy]; omega) (p35_1 (by omega))) (by omega))
          · refine ezw_iconst (0) rfl rfl ?_
            exact ezw_ireturn rfl (ezw_zret ⟨by omega, by omega⟩) ⟨rfl, (0), ⟨by omega, by omega⟩, (by omega), (fun _ => ezp_sfnF (k := c33) (X := a1 - c33) (Y := a2 + c33) (by omega) (by omega) (by rw [hox]; omega) (by rw [hoy]; omega) (p35_0 (by omega))), rfl⟩
      exact ezw_keepE [true, true, true, true, true, true, true, true] (L44_34 (0) ⟨by decide, by decide⟩ (by omega) rfl (by omega))
def ezt_m183_38oQ (e : Bool × Bool) (F : Nat → Nat → Int) (A : Nat → Int → Int) (y : ezp_D) (a1 : Int) (a2 : Int) (a3 : Int) : Option ezq_V → (Nat → ezq_C) → Prop := fun v g' => ezu_g e F A = g' ∧ ∃ u : Int, (ezw_in u) ∧ (u = ezp_ss y a1 a2) ∧ some (ezw_i u) = v
theorem ezt_m183_38o {y : ezp_D} {a1 a2 a3 : Int} {F : Nat → Nat → Int} {A : Nat → Int → Int} (hS : ezs_T F A) (hd : 3 ≤ d) (ha1 : ezw_in a1) (ha2 : ezw_in a2) (ha3 : ezw_in a3) (tr : ezt_TR 30 y F A) (nu : ezt_NU 30 y A) (hB : ezp_B y) (ga : 0 ≤ a1 ∧ a1 < 16 ∧ 0 ≤ a2 ∧ a2 < 16 ∧ a3 = y.nu 10) : ezw_C l ρ B xa Hb D cA 183 d [ezw_p 38, ezw_i a1, ezw_i a2, ezw_i a3] (ezu_g e F A) (ezt_m183_38oQ e F A y a1 a2 a3) := by
  refine ezw_met (k := 2) rfl rfl ?_
  obtain ⟨⟨c1, c2, c3, c4⟩, ⟨d1, d2, d3, d4, d5, d6, d7, d8⟩, e3, e4, e5, e6⟩ := id tr
  obtain ⟨b1, b2', b3, b4, b5, b6, b7, ⟨b8, b8'⟩, b9⟩ := id hB
  have n10 : A 44 10 = y.nu 10 := nu 10 (by decide) (by decide)
  have nb10 : 1 ≤ y.nu 10 ∧ y.nu 10 ≤ 15 := b8 10 (by decide) (by decide)
  refine ezw_iconst (0) rfl rfl ?_
  refine ezw_istore rfl rfl ?_
  refine ezw_iconst (0) rfl rfl ?_
  refine ezw_istore rfl rfl ?_
  have L6_2 : ∀ c1 : Int, ezw_in c1 → ∀ y3 : Int, ezw_in y3 → ((0) ≤ c1) → (y3 = ezp_ssn y a1 a2 (c1).toNat) → (c1 ≤ 4) → ezw_E l ρ B xa Hb D cA d ezq_re183 (ezt_m183_38oQ e F A y a1 a2 a3) 6 [some (ezw_p 38), some (ezw_i a1), some (ezw_i a2), some (ezw_i a3), some (ezw_i y3), some (ezw_i c1)] [] (ezu_g e F A) := by
    refine ezs_up ?_
    intro c1 hc1 ihc1 y3 hy3 g_2 ss_2 sb_2
    refine ezw_iload rfl rfl ?_
    refine ezw_iconst (4) rfl rfl ?_
    refine ezw_icmp_ge rfl rfl hc1 ⟨by decide, by decide⟩ (fun h9_3 => ?_) (fun h9_3 => ?_)
    · refine ezw_iload rfl rfl ?_
      exact ezw_ireturn rfl rfl ⟨rfl, y3, hy3, (by rw [ss_2, show c1 = 4 by omega]; rfl), rfl⟩
    · refine ezw_aload_n rfl rfl ?_
      refine ezw_iload_n rfl rfl ?_
      refine ezw_iload_n rfl rfl ?_
      refine ezw_iload rfl rfl ?_
      refine ezw_iload_n rfl rfl ?_
      refine ezw_call0_4 rfl (by omega) (ezu_at rfl) rfl rfl rfl rfl (ezt_m184_38o hS (by omega) ha1 ha2 hc1 ha3 tr nu hB (by omega)) ?_
      rintro _ _ ⟨rfl, u5, hu5, p4_0, p4_1, rfl⟩
      refine ezw_if_eq rfl rfl ⟨by omega, by omega⟩ (fun h21_5 => ?_) (fun h21_5 => ?_)
      · refine ezw_iinc (k := c1 + 1) (1) rfl rfl rfl (by omega) rfl ?_
        refine ezw_goto rfl rfl ?_
        exact ezw_keepE [true, true, true, true, true, true] (ihc1 (c1 + 1) (by omega) ⟨by omega, by omega⟩ y3 hy3 (by omega) (by
              first
                | (rw [ezp_ss_F (by omega) (p4_1 (by omega))]; exact ss_2)
                | (rw [ss_2]; exact ezp_ss_T (by omega) (by omega) (p4_0 (by omega)))) (by omega))
      · refine ezw_iload rfl rfl ?_
        refine ezw_iconst (1) rfl rfl ?_
        refine ezw_iload rfl rfl ?_
        refine ezw_ishl rfl (by omega) (by omega) (k := (1 * 2 ^ (c1).toNat)) (rfl) ?_
        refine ezw_ior rfl (k := ezw_or y3 (1 * 2 ^ (c1).toNat)) rfl ?_
        refine ezw_istore rfl rfl ?_
        refine ezw_iinc (k := c1 + 1) (1) rfl rfl rfl (by omega) rfl ?_
        refine ezw_goto rfl rfl ?_
        exact ezw_keepE [true, true, true, true, true, true] (ihc1 (c1 + 1) (by omega) ⟨by omega, by omega⟩ ((ezw_or y3 (1 * 2 ^ (c1).toNat))) (by
              have h8 := ezp_ss_T (t := y) (x := a1) (y := a2) (s := c1) (by omega) (by omega) (p4_0 (by omega))
              have h9 := ezp_ss_in (t := y) (x := a1) (y := a2) (s := c1 + 1) (by omega) (by omega)
              rw [ss_2, h8]
              exact ⟨by omega, by omega⟩) (by omega) (by
              first
                | (rw [ezp_ss_F (by omega) (p4_1 (by omega))]; exact ss_2)
                | (rw [ss_2]; exact ezp_ss_T (by omega) (by omega) (p4_0 (by omega)))) (by omega))
  exact ezw_keepE [true, true, true, true, true, true] (L6_2 (0) ⟨by decide, by decide⟩ (0) ⟨by decide, by decide⟩ (by omega) rfl (by omega))
def ezt_m181_0o_fQ (b2 : Bool) (F : Nat → Nat → Int) (A : Nat → Int → Int) (y : ezp_D) (a1 : Int) (a2 : Int) : Option ezq_V → (Nat → ezq_C) → Prop := fun v g' => ezu_g (false, b2) F A = g' ∧ ∃ u : Int, (ezw_in u) ∧ (u = ezp_sa y a1 a2) ∧ some (ezw_i u) = v
theorem ezt_m181_0o_f {b2 : Bool} {y : ezp_D} {a1 a2 : Int} {F : Nat → Nat → Int} {A : Nat → Int → Int} (hS : ezs_T F A) (hd : 4 ≤ d) (ha1 : ezw_in a1) (ha2 : ezw_in a2) (tr : ezt_TR 30 y F A) (nu : ezt_NU 30 y A) (hB : ezp_B y) : ezw_C l ρ B xa Hb D cA 181 d [ezw_p 0, ezw_i a1, ezw_i a2] (ezu_g (false, b2) F A) (ezt_m181_0o_fQ b2 F A y a1 a2) := by
  refine ezw_met (k := 0) rfl rfl ?_
  obtain ⟨⟨c1, c2, c3, c4⟩, ⟨d1, d2, d3, d4, d5, d6, d7, d8⟩, e3, e4, e5, e6⟩ := id tr
  obtain ⟨b1, b2', b3, b4, b5, b6, b7, ⟨b8, b8'⟩, b9⟩ := id hB
  have n10 : A 44 10 = y.nu 10 := nu 10 (by decide) (by decide)
  have nb10 : 1 ≤ y.nu 10 ∧ y.nu 10 ≤ 15 := b8 10 (by decide) (by decide)
  refine ezw_iload_n rfl rfl ?_
  refine ezw_iload_n rfl rfl ?_
  refine ezw_call2_2 rfl (by omega) rfl rfl (ezt_m182o hS (by omega) ha1 ha2) ?_
  rintro _ _ ⟨rfl, u2, hu2, p1_0, p1_1, rfl⟩
  refine ezw_if_eq rfl rfl ⟨by omega, by omega⟩ (fun h5_2 => ?_) (fun h5_2 => ?_)
  · refine ezw_iconst (-1) rfl rfl ?_
    exact ezw_ireturn rfl rfl ⟨rfl, (-1), ⟨by decide, by decide⟩, by
          unfold ezp_sa
          first
            | (rw [if_neg (p1_1 (by omega))])
            | (rw [if_pos (p1_0 (by omega))]; exact (show False by omega)), rfl⟩
  · refine ezw_aload_n rfl rfl ?_
    refine ezs_getp (p := 30) rfl rfl rfl rfl rfl ?_
    refine ezs_getp (p := 38) rfl rfl rfl rfl rfl ?_
    refine ezw_iload_n rfl rfl ?_
    refine ezw_iload_n rfl rfl ?_
    refine ezw_aload_n rfl rfl ?_
    refine ezs_getp (p := 30) rfl rfl rfl rfl rfl ?_
    refine ezw_bipush (10) rfl rfl ?_
    refine ezw_call0_1 rfl (by omega) (ezu_at rfl) rfl rfl rfl rfl (ezt_m95_30o hS (by omega) ⟨by decide, by decide⟩) ?_
    rintro _ _ ⟨rfl, u4, hu4, v_3, rfl⟩
    have z3 := v_3 (by omega) (by omega)
    refine ezw_call0_3 rfl (by omega) (ezu_at rfl) rfl rfl rfl rfl (ezt_m183_38o hS (by omega) ha1 ha2 hu4 tr nu hB (by omega)) ?_
    rintro _ _ ⟨rfl, u6, hu6, an_5, rfl⟩
    refine ezw_goto rfl rfl ?_
    exact ezw_ireturn rfl rfl ⟨rfl, u6, hu6, by
          unfold ezp_sa
          first
            | (rw [if_neg (p1_1 (by omega))])
            | (rw [if_pos (p1_0 (by omega))]; exact an_5), rfl⟩
def ezt_m186_38oQ (e : Bool × Bool) (F : Nat → Nat → Int) (A : Nat → Int → Int) (y : ezp_D) (sd : Int) (a1 : Int) (a2 : Int) : Option ezq_V → (Nat → ezq_C) → Prop := fun v g' => ezu_g e F A = g' ∧ ∃ u : Int, (ezw_in u) ∧ (u = ezp_pl2 y sd) ∧ some (ezw_i u) = v
theorem ezt_m186_38o {y : ezp_D} {sd : Int} {a1 a2 : Int} {F : Nat → Nat → Int} {A : Nat → Int → Int} (hS : ezs_T F A) (hd : 4 ≤ d) (ha1 : ezw_in a1) (ha2 : ezw_in a2) (tr : ezt_TR 30 y F A) (nu : ezt_NU 30 y A) (hB : ezp_B y) (ga : a2 = y.nu 10) (gs : sd = -1 ∧ a1 = 15 ∨ 0 ≤ sd ∧ sd < 4 ∧ a1 = 1 * 2 ^ sd.toNat) : ezw_C l ρ B xa Hb D cA 186 d [ezw_p 38, ezw_i a1, ezw_i a2] (ezu_g e F A) (ezt_m186_38oQ e F A y sd a1 a2) := by
  refine ezw_met (k := 3) rfl rfl ?_
  obtain ⟨⟨c1, c2, c3, c4⟩, ⟨d1, d2, d3, d4, d5, d6, d7, d8⟩, e3, e4, e5, e6⟩ := id tr
  obtain ⟨b1, b2', b3, b4, b5, b6, b7, ⟨b8, b8'⟩, b9⟩ := id hB
  have n10 : A 44 10 = y.nu 10 := nu 10 (by decide) (by decide)
  have nb10 : 1 ≤ y.nu 10 ∧ y.nu 10 ≤ 15 := b8 10 (by decide) (by decide)
  have hsd : -1 ≤ sd ∧ sd ≤ 3 := by omega
  refine ezw_iconst (0) rfl rfl ?_
  refine ezw_istore_n rfl rfl ?_
  refine ezw_iconst (0) rfl rfl ?_
  refine ezw_istore rfl rfl ?_
  have L5_2 : ∀ c1 : Int, ezw_in c1 → ∀ y3 : Int, ezw_in y3 → ((0) ≤ c1) → (y3 = ezp_sm (fun x => ezp_sm (fun z => ezp_ht y sd x z) 16) (c1).toNat) → (c1 ≤ 16) → (0 ≤ y3 ∧ y3 ≤ 16 * c1) → ezw_E l ρ B xa Hb D cA d ezq_re186 (ezt_m186_38oQ e F A y sd a1 a2) 5 [some (ezw_p 38), some (ezw_i a1), some (ezw_i a2), some (ezw_i y3), some (ezw_i c1), none] [] (ezu_g e F A) := by
    refine ezs_up ?_
    intro c1 hc1 ihc1 y3 hy3 g_2 sm_2 sb_2 sr_2
    refine ezw_iload rfl rfl ?_
    refine ezw_bipush (16) rfl rfl ?_
    refine ezw_icmp_ge rfl rfl hc1 ⟨by decide, by decide⟩ (fun h9_3 => ?_) (fun h9_3 => ?_)
    · refine ezw_iload_n rfl rfl ?_
      exact ezw_ireturn rfl rfl ⟨rfl, y3, hy3, (by
            have h7 := sm_2
            rw [show c1 = 16 by omega] at h7
            exact h7), rfl⟩
    · refine ezw_iconst (0) rfl rfl ?_
      refine ezw_istore rfl rfl ?_
      have L15_5 : ∀ c4 : Int, ezw_in c4 → ∀ y6 : Int, ezw_in y6 → ((0) ≤ c4) → (y6 = y3 + ezp_sm (fun z => ezp_ht y sd c1 z) (c4).toNat) → (c4 ≤ 16) → (y3 ≤ y6 ∧ y6 ≤ y3 + c4) → ezw_E l ρ B xa Hb D cA d ezq_re186 (ezt_m186_38oQ e F A y sd a1 a2) 15 [some (ezw_p 38), some (ezw_i a1), some (ezw_i a2), some (ezw_i y6), some (ezw_i c1), some (ezw_i c4)] [] (ezu_g e F A) := by
        refine ezs_up ?_
        intro c4 hc4 ihc4 y6 hy6 g_5 sn_5 sb_5 sr_5
        refine ezw_iload rfl rfl ?_
        refine ezw_bipush (16) rfl rfl ?_
        refine ezw_icmp_ge rfl rfl hc4 ⟨by decide, by decide⟩ (fun h19_6 => ?_) (fun h19_6 => ?_)
        · refine ezw_iinc (k := c1 + 1) (1) rfl rfl rfl (by omega) rfl ?_
          refine ezw_goto rfl rfl ?_
          exact ezw_keepE [true, true, true, true, true, false] (ihc1 (c1 + 1) (by omega) ⟨by omega, by omega⟩ y6 hy6 (by omega) (by
                have h6 : ezp_sm (fun x => ezp_sm (fun z => ezp_ht y sd x z) 16) (c1 + 1).toNat = ezp_sm (fun x => ezp_sm (fun z => ezp_ht y sd x z) 16) (c1).toNat + ezp_sm (fun z => ezp_ht y sd c1 z) 16 := ezp_sm_n (by omega)
                have h7 := sn_5
                rw [show c4 = 16 by omega] at h7
                rw [h6, ← sm_2]
                exact h7) (by omega) (by omega))
        · refine ezw_aload_n rfl rfl ?_
          refine ezw_iload rfl rfl ?_
          refine ezw_iload rfl rfl ?_
          refine ezw_iload_n rfl rfl ?_
          refine ezw_call0_3 rfl (by omega) (ezu_at rfl) rfl rfl rfl rfl (ezt_m183_38o hS (by omega) hc1 hc4 ha2 tr nu hB (by omega)) ?_
          rintro _ _ ⟨rfl, u8, hu8, an_7, rfl⟩
          refine ezw_iload_n rfl rfl ?_
          refine ezw_iand rfl (k := ezw_and u8 a1) rfl ?_
          refine ezw_iload_n rfl rfl ?_
          have hht : (ezw_and u8 a1) = a1 ↔ ezp_ht y sd c1 c4 = 1 := by
            rw [an_7]
            exact ezp_hit gs
          have hh01 : ezp_ht y sd c1 c4 = 0 ∨ ezp_ht y sd c1 c4 = 1 := ezp_ht01 (by omega)
          have hsn : ezp_sm (fun z => ezp_ht y sd c1 z) (c4 + 1).toNat = ezp_sm (fun z => ezp_ht y sd c1 z) (c4).toNat + ezp_ht y sd c1 c4 := ezp_sm_n (by omega)
          refine ezw_icmp_ne rfl rfl (by
                have h9 := ezp_ss_r (t := y) (x := c1) (y := c4)
                rw [an_7]
                exact ezp_and_in gs h9) ha1 (fun h34_8 => ?_) (fun h34_8 => ?_)
          · refine ezw_iinc (k := c4 + 1) (1) rfl rfl rfl (by omega) rfl ?_
            refine ezw_goto rfl rfl ?_
            exact ezw_keepE [true, true, true, true, true, true] (ihc4 (c4 + 1) (by omega) ⟨by omega, by omega⟩ y6 hy6 (by omega) (by
                  have h7 := sn_5
                  rw [hsn]
                  first
                    | (have h8 := hht.mp (by omega); omega)
                    | (have h8 : ¬ ezp_ht y sd c1 c4 = 1 := fun z => absurd (hht.mpr z) (by omega); omega)) (by omega) (by omega))
          · refine ezw_iinc (k := y6 + 1) (1) rfl rfl rfl (by omega) rfl ?_
            refine ezw_iinc (k := c4 + 1) (1) rfl rfl rfl (by omega) rfl ?_
            refine ezw_goto rfl rfl ?_
            exact ezw_keepE [true, true, true, true, true, true] (ihc4 (c4 + 1) (by omega) ⟨by omega, by omega⟩ (y6 + 1) ⟨by omega, by omega⟩ (by omega) (by
                  have h7 := sn_5
                  rw [hsn]
                  first
                    | (have h8 := hht.mp (by omega); omega)
                    | (have h8 : ¬ ezp_ht y sd c1 c4 = 1 := fun z => absurd (hht.mpr z) (by omega); omega)) (by omega) (by omega))
      exact ezw_keepE [true, true, true, true, true, true] (L15_5 (0) ⟨by decide, by decide⟩ y3 hy3 (by omega) (Int.add_zero _).symm (by omega) (by omega))
  exact ezw_keepE [true, true, true, true, true, false] (L5_2 (0) ⟨by decide, by decide⟩ (0) ⟨by decide, by decide⟩ (by omega) rfl (by omega) (by omega))
def ezt_m112oQ (e : Bool × Bool) (F : Nat → Nat → Int) (A : Nat → Int → Int) (a0 : Int) : Option ezq_V → (Nat → ezq_C) → Prop := fun v g' => ezu_g e F A = g' ∧ ∃ u : Int, (0 ≤ u ∧ u ≤ 1) ∧ (u = 1 → 0 ≤ a0 ∧ a0 < 4) ∧ (u = 0 → a0 < 0 ∨ 4 ≤ a0) ∧ some (ezw_i u) = v
theorem ezt_m112o {a0 : Int} {F : Nat → Nat → Int} {A : Nat → Int → Int} (hS : ezs_T F A) (hd : 0 ≤ d) (ha0 : ezw_in a0) : ezw_C l ρ B xa Hb D cA 112 d [ezw_i a0] (ezu_g e F A) (ezt_m112oQ e F A a0) := by
  refine ezw_met (k := 0) rfl rfl ?_
  refine ezw_iload_n rfl rfl ?_
  refine ezw_if_lt rfl rfl ha0 (fun h1_0 => ?_) (fun h1_0 => ?_)
  · refine ezw_iconst (0) rfl rfl ?_
    exact ezw_ireturn rfl (ezw_zret ⟨by omega, by omega⟩) ⟨rfl, (0), ⟨by omega, by omega⟩, by omega, by omega, rfl⟩
  · refine ezw_iload_n rfl rfl ?_
    refine ezw_iconst (4) rfl rfl ?_
    refine ezw_icmp_ge rfl rfl ha0 ⟨by decide, by decide⟩ (fun h6_0 => ?_) (fun h6_0 => ?_)
    · refine ezw_iconst (0) rfl rfl ?_
      exact ezw_ireturn rfl (ezw_zret ⟨by omega, by omega⟩) ⟨rfl, (0), ⟨by omega, by omega⟩, by omega, by omega, rfl⟩
    · refine ezw_iconst (1) rfl rfl ?_
      refine ezw_goto rfl rfl ?_
      exact ezw_ireturn rfl (ezw_zret ⟨by omega, by omega⟩) ⟨rfl, (1), ⟨by omega, by omega⟩, by omega, by omega, rfl⟩
def ezt_m185_0o_fQ (b2 : Bool) (F : Nat → Nat → Int) (A : Nat → Int → Int) (y : ezp_D) (a1 : Int) : Option ezq_V → (Nat → ezq_C) → Prop := fun v g' => ezu_g (false, b2) F A = g' ∧ ∃ u : Int, (ezw_in u) ∧ (u = ezp_pla y a1) ∧ some (ezw_i u) = v
theorem ezt_m185_0o_f {b2 : Bool} {y : ezp_D} {a1 : Int} {F : Nat → Nat → Int} {A : Nat → Int → Int} (hS : ezs_T F A) (hd : 5 ≤ d) (ha1 : ezw_in a1) (tr : ezt_TR 30 y F A) (nu : ezt_NU 30 y A) (hB : ezp_B y) : ezw_C l ρ B xa Hb D cA 185 d [ezw_p 0, ezw_i a1] (ezu_g (false, b2) F A) (ezt_m185_0o_fQ b2 F A y a1) := by
  refine ezw_met (k := 0) rfl rfl ?_
  obtain ⟨⟨c1, c2, c3, c4⟩, ⟨d1, d2, d3, d4, d5, d6, d7, d8⟩, e3, e4, e5, e6⟩ := id tr
  obtain ⟨b1, b2', b3, b4, b5, b6, b7, ⟨b8, b8'⟩, b9⟩ := id hB
  have n10 : A 44 10 = y.nu 10 := nu 10 (by decide) (by decide)
  have nb10 : 1 ≤ y.nu 10 ∧ y.nu 10 ≤ 15 := b8 10 (by decide) (by decide)
  refine ezw_iload_n rfl rfl ?_
  refine ezw_iconst (-1) rfl rfl ?_
  refine ezw_icmp_eq rfl rfl ha1 ⟨by decide, by decide⟩ (fun h2_0 => ?_) (fun h2_0 => ?_)
  · refine ezw_aload_n rfl rfl ?_
    refine ezs_getp (p := 30) rfl rfl rfl rfl rfl ?_
    refine ezs_getp (p := 38) rfl rfl rfl rfl rfl ?_
    refine ezw_iload_n rfl rfl ?_
    refine ezw_iconst (-1) rfl rfl ?_
    refine ezw_icmp_ne rfl rfl ha1 ⟨by decide, by decide⟩ (fun h23_0 => ?_) (fun h23_0 => ?_)
    · refine ezw_iconst (1) rfl rfl ?_
      refine ezw_iload_n rfl rfl ?_
      refine ezw_ishl rfl (by omega) (by omega) (k := (1 * 2 ^ (a1).toNat)) (rfl) ?_
      refine ezw_aload_n rfl rfl ?_
      refine ezs_getp (p := 30) rfl rfl rfl rfl rfl ?_
      refine ezw_bipush (10) rfl rfl ?_
      refine ezw_call0_1 rfl (by omega) (ezu_at rfl) rfl rfl rfl rfl (ezt_m95_30o hS (by omega) ⟨by decide, by decide⟩) ?_
      rintro _ _ ⟨rfl, u2, hu2, v_1, rfl⟩
      have z1 := v_1 (by omega) (by omega)
      refine ezw_call0_2 rfl (by omega) (ezu_at rfl) rfl rfl rfl rfl (ezt_m186_38o (sd := a1) hS (by omega) (ezp_2in (by omega) (by omega)) hu2 tr nu hB (by omega) (by first | exact Or.inl ⟨by omega, rfl⟩ | exact Or.inr ⟨by omega, by omega, rfl⟩)) ?_
      rintro _ _ ⟨rfl, u4, hu4, an_3, rfl⟩
      exact ezw_ireturn rfl rfl ⟨rfl, u4, hu4, by
            unfold ezp_pla
            first
              | (exfalso; omega)
              | (rw [if_neg (by omega)])
              | (rw [if_pos (by omega)]; exact an_3), rfl⟩
    · refine ezw_bipush (15) rfl rfl ?_
      refine ezw_goto rfl rfl ?_
      refine ezw_aload_n rfl rfl ?_
      refine ezs_getp (p := 30) rfl rfl rfl rfl rfl ?_
      refine ezw_bipush (10) rfl rfl ?_
      refine ezw_call0_1 rfl (by omega) (ezu_at rfl) rfl rfl rfl rfl (ezt_m95_30o hS (by omega) ⟨by decide, by decide⟩) ?_
      rintro _ _ ⟨rfl, u6, hu6, v_5, rfl⟩
      have z5 := v_5 (by omega) (by omega)
      refine ezw_call0_2 rfl (by omega) (ezu_at rfl) rfl rfl rfl rfl (ezt_m186_38o (sd := a1) hS (by omega) ⟨by decide, by decide⟩ hu6 tr nu hB (by omega) (by first | exact Or.inl ⟨by omega, rfl⟩ | exact Or.inr ⟨by omega, by omega, rfl⟩)) ?_
      rintro _ _ ⟨rfl, u8, hu8, an_7, rfl⟩
      exact ezw_ireturn rfl rfl ⟨rfl, u8, hu8, by
            unfold ezp_pla
            first
              | (exfalso; omega)
              | (rw [if_neg (by omega)])
              | (rw [if_pos (by omega)]; exact an_7), rfl⟩
  · refine ezw_iload_n rfl rfl ?_
    refine ezw_call2_1 rfl (by omega) rfl rfl (ezt_m112o hS (by omega) ha1) ?_
    rintro _ _ ⟨rfl, u10, hu10, p9_0, p9_1, rfl⟩
    refine ezw_if_ne rfl rfl ⟨by omega, by omega⟩ (fun h9_10 => ?_) (fun h9_10 => ?_)
    · refine ezw_aload_n rfl rfl ?_
      refine ezs_getp (p := 30) rfl rfl rfl rfl rfl ?_
      refine ezs_getp (p := 38) rfl rfl rfl rfl rfl ?_
      refine ezw_iload_n rfl rfl ?_
      refine ezw_iconst (-1) rfl rfl ?_
      refine ezw_icmp_ne rfl rfl ha1 ⟨by decide, by decide⟩ (fun h23_10 => ?_) (fun h23_10 => ?_)
      · refine ezw_iconst (1) rfl rfl ?_
        refine ezw_iload_n rfl rfl ?_
        refine ezw_ishl rfl (by omega) (by omega) (k := (1 * 2 ^ (a1).toNat)) (rfl) ?_
        refine ezw_aload_n rfl rfl ?_
        refine ezs_getp (p := 30) rfl rfl rfl rfl rfl ?_
        refine ezw_bipush (10) rfl rfl ?_
        refine ezw_call0_1 rfl (by omega) (ezu_at rfl) rfl rfl rfl rfl (ezt_m95_30o hS (by omega) ⟨by decide, by decide⟩) ?_
        rintro _ _ ⟨rfl, u12, hu12, v_11, rfl⟩
        have z11 := v_11 (by omega) (by omega)
        refine ezw_call0_2 rfl (by omega) (ezu_at rfl) rfl rfl rfl rfl (ezt_m186_38o (sd := a1) hS (by omega) (ezp_2in (by omega) (by omega)) hu12 tr nu hB (by omega) (by first | exact Or.inl ⟨by omega, rfl⟩ | exact Or.inr ⟨by omega, by omega, rfl⟩)) ?_
        rintro _ _ ⟨rfl, u14, hu14, an_13, rfl⟩
        exact ezw_ireturn rfl rfl ⟨rfl, u14, hu14, by
              unfold ezp_pla
              first
                | (exfalso; omega)
                | (rw [if_neg (by omega)])
                | (rw [if_pos (by omega)]; exact an_13), rfl⟩
      · refine ezw_bipush (15) rfl rfl ?_
        refine ezw_goto rfl rfl ?_
        refine ezw_aload_n rfl rfl ?_
        refine ezs_getp (p := 30) rfl rfl rfl rfl rfl ?_
        refine ezw_bipush (10) rfl rfl ?_
        refine ezw_call0_1 rfl (by omega) (ezu_at rfl) rfl rfl rfl rfl (ezt_m95_30o hS (by omega) ⟨by decide, by decide⟩) ?_
        rintro _ _ ⟨rfl, u16, hu16, v_15, rfl⟩
        have z15 := v_15 (by omega) (by omega)
        refine ezw_call0_2 rfl (by omega) (ezu_at rfl) rfl rfl rfl rfl (ezt_m186_38o (sd := a1) hS (by omega) ⟨by decide, by decide⟩ hu16 tr nu hB (by omega) (by first | exact Or.inl ⟨by omega, rfl⟩ | exact Or.inr ⟨by omega, by omega, rfl⟩)) ?_
        rintro _ _ ⟨rfl, u18, hu18, an_17, rfl⟩
        exact ezw_ireturn rfl rfl ⟨rfl, u18, hu18, by
              unfold ezp_pla
              first
                | (exfalso; omega)
                | (rw [if_neg (by omega)])
                | (rw [if_pos (by omega)]; exact an_17), rfl⟩
    · refine ezw_iconst (-1) rfl rfl ?_
      exact ezw_ireturn rfl rfl ⟨rfl, (-1), ⟨by decide, by decide⟩, by
            unfold ezp_pla
            first
              | (exfalso; omega)
              | (rw [if_neg (by omega)])
              | (rw [if_pos (by omega)]; exact (show False by omega)), rfl⟩
def ezt_m188_38oQ (e : Bool × Bool) (F : Nat → Nat → Int) (A : Nat → Int → Int) (y : ezp_D) (a1 : Int) (a2 : Int) (a3 : Int) : Option ezq_V → (Nat → ezq_C) → Prop := fun v g' => ezu_g e F A = g' ∧ ∃ u : Int, (ezw_in u) ∧ (ezp_ne y a1 a2 ezp_map u) ∧ some (ezw_i u) = v
theorem ezt_m188_38o {y : ezp_D} {a1 a2 a3 : Int} {F : Nat → Nat → Int} {A : Nat → Int → Int} (hS : ezs_T F A) (hd : 4 ≤ d) (ha1 : ezw_in a1) (ha2 : ezw_in a2) (ha3 : ezw_in a3) (tr : ezt_TR 30 y F A) (nu : ezt_NU 30 y A) (hB : ezp_B y) (ga : 0 ≤ a1 ∧ a1 < 16 ∧ 0 ≤ a2 ∧ a2 < 16 ∧ a3 = y.nu 10) : ezw_C l ρ B xa Hb D cA 188 d [ezw_p 38, ezw_i a1, ezw_i a2, ezw_i a3] (ezu_g e F A) (ezt_m188_38oQ e F A y a1 a2 a3) := by
  refine ezw_met (k := 5) rfl rfl ?_
  obtain ⟨⟨c1, c2, c3, c4⟩, ⟨d1, d2, d3, d4, d5, d6, d7, d8⟩, e3, e4, e5, e6⟩ := id tr
  obtain ⟨b1, b2', b3, b4, b5, b6, b7, ⟨b8, b8'⟩, b9⟩ := id hB
  have n10 : A 44 10 = y.nu 10 := nu 10 (by decide) (by decide)
  have nb10 : 1 ≤ y.nu 10 ∧ y.nu 10 ≤ 15 := b8 10 (by decide) (by decide)
  refine ezw_iconst (-1) rfl rfl ?_
  refine ezw_istore rfl rfl ?_
  refine ezw_iconst (0) rfl rfl ?_
  refine ezw_istore rfl rfl ?_
  have L6_2 : ∀ c1 : Int, ezw_in c1 → ∀ y3 : Int, ezw_in y3 → ((0) ≤ c1) → (ezp_ne y a1 a2 (fun p r => 0 ≤ p ∧ p < c1 ∧ 0 ≤ r ∧ r < 16) y3) → (c1 ≤ 16) → (-1 ≤ y3 ∧ y3 ≤ 30) → ezw_E l ρ B xa Hb D cA d ezq_re188 (ezt_m188_38oQ e F A y a1 a2 a3) 6 [some (ezw_p 38), some (ezw_i a1), some (ezw_i a2), some (ezw_i a3), some (ezw_i y3), some (ezw_i c1), none, none, none] [] (ezu_g e F A) := by
    refine ezs_up ?_
    intro c1 hc1 ihc1 y3 hy3 g_2 ne_2 sb_2 sr_2
    refine ezw_iload rfl rfl ?_
    refine ezw_bipush (16) rfl rfl ?_
    refine ezw_icmp_ge rfl rfl hc1 ⟨by decide, by decide⟩ (fun h10_3 => ?_) (fun h10_3 => ?_)
    · refine ezw_iload rfl rfl ?_
      exact ezw_ireturn rfl rfl ⟨rfl, y3, hy3, (ezp_ne_c ne_2 (fun p r => ⟨fun h => by unfold ezp_map; omega, fun h => by unfold ezp_map at h; omega⟩)), rfl⟩
    · refine ezw_iconst (0) rfl rfl ?_
      refine ezw_istore rfl rfl ?_
      have L16_5 : ∀ c4 : Int, ezw_in c4 → ∀ y6 : Int, ezw_in y6 → ((0) ≤ c4) → (ezp_ne y a1 a2 (fun p r => 0 ≤ p ∧ p < c1 ∧ 0 ≤ r ∧ r < 16 ∨ p = c1 ∧ 0 ≤ r ∧ r < c4) y6) → (c4 ≤ 16) → (-1 ≤ y6 ∧ y6 ≤ 30) → ezw_E l ρ B xa Hb D cA d ezq_re188 (ezt_m188_38oQ e F A y a1 a2 a3) 16 [some (ezw_p 38), some (ezw_i a1), some (ezw_i a2), some (ezw_i a3), some (ezw_i y6), some (ezw_i c1), some (ezw_i c4), none, none] [] (ezu_g e F A) := by
        refine ezs_up ?_
        intro c4 hc4 ihc4 y6 hy6 g_5 ne_5 sb_5 sr_5
        refine ezw_iload rfl rfl ?_
        refine ezw_bipush (16) rfl rfl ?_
        refine ezw_icmp_ge rfl rfl hc4 ⟨by decide, by decide⟩ (fun h20_6 => ?_) (fun h20_6 => ?_)
        · refine ezw_iinc (k := c1 + 1) (1) rfl rfl rfl (by omega) rfl ?_
          refine ezw_goto rfl rfl ?_
          exact ezw_keepE [true, true, true, true, true, true, false, false, false] (ihc1 (c1 + 1) (by omega) ⟨by omega, by omega⟩ y6 hy6 (by omega) (ezp_ne_c ne_5 (fun p r => ⟨fun h => by omega, fun h => by omega⟩)) (by omega) (by omega))
        · refine ezw_iload rfl rfl ?_
          refine ezw_iload_n rfl rfl ?_
          refine ezw_isub (k := c1 - a1) rfl (by omega) ?_
          refine ezw_mabsE rfl ⟨by omega, by omega⟩ rfl (fun u7 hu7 => ?_)
          refine ezw_iload rfl rfl ?_
          refine ezw_iload_n rfl rfl ?_
          refine ezw_isub (k := c4 - a2) rfl (by omega) ?_
          refine ezw_mabsE rfl ⟨by omega, by omega⟩ rfl (fun u8 hu8 => ?_)
          refine ezw_iadd (k := u7 + u8) rfl (by omega) ?_
          refine ezw_istore rfl rfl ?_
          have hds : u7 + u8 = ezp_ds a1 a2 c1 c4 := by
            unfold ezp_ds ezp_ab
            (repeat' split) <;> omega
          refine ezw_iload rfl rfl ?_
          refine ezw_iconst (-1) rfl rfl ?_
          refine ezw_icmp_eq rfl rfl hy6 ⟨by decide, by decide⟩ (fun h43_8 => ?_) (fun h43_8 => ?_)
          · refine ezw_iconst (1) rfl rfl ?_
            refine ezw_goto rfl rfl ?_
            refine ezw_istore rfl rfl ?_
            refine ezw_iload rfl rfl ?_
            refine ezw_if_eq rfl rfl ⟨by decide, by decide⟩ (fun h62_8 => absurd h62_8 (by omega)) (fun h62_8 => ?_)
            refine ezw_aload_n rfl rfl ?_
            refine ezw_iload rfl rfl ?_
            refine ezw_iload rfl rfl ?_
            refine ezw_iload_n rfl rfl ?_
            refine ezw_call0_3 rfl (by omega) (ezu_at rfl) rfl rfl rfl rfl (ezt_m183_38o hS (by omega) hc1 hc4 ha3 tr nu hB (by omega)) ?_
            rintro _ _ ⟨rfl, u10, hu10, an_9, rfl⟩
            refine ezw_bipush (15) rfl rfl ?_
            refine ezw_icmp_ne rfl rfl hu10 ⟨by decide, by decide⟩ (fun h76_10 => ?_) (fun h76_10 => ?_)
            · refine ezw_iinc (k := c4 + 1) (1) rfl rfl rfl (by omega) rfl ?_
              refine ezw_goto rfl rfl ?_
              exact ezw_keepE [true, true, true, true, true, true, true, false, false] (ihc4 (c4 + 1) (by omega) ⟨by omega, by omega⟩ y6 hy6 (by omega) (by
                    first
                      | (have h15 : ezp_ss y c1 c4 = 15 := by rw [← an_9]; omega
                         have h9 := ezp_ne_t (t := y) (X := c1) (Y := c4) ne_5 (S := fun p r => 0 ≤ p ∧ p < c1 ∧ 0 ≤ r ∧ r < 16 ∨ p = c1 ∧ 0 ≤ r ∧ r < c4 + 1) (fun p r h => by omega) (by omega) h15 (by omega)
                         rw [← hds] at h9
                         exact h9)
                      | exact ezp_ne_s (t := y) (X := c1) (Y := c4) ne_5 (fun p r h => by omega) (fun p r h => by omega) (Or.inl (by rw [← an_9]; omega))
                      | exact ezp_ne_s (t := y) (X := c1) (Y := c4) ne_5 (fun p r h => by omega) (fun p r h => by omega) (Or.inr ⟨by omega, by omega⟩)) (by omega) (by omega))
            · refine ezw_iload rfl rfl ?_
              refine ezw_istore rfl rfl ?_
              refine ezw_iinc (k := c4 + 1) (1) rfl rfl rfl (by omega) rfl ?_
              refine ezw_goto rfl rfl ?_
              exact ezw_keepE [true, true, true, true, true, true, true, false, false] (ihc4 (c4 + 1) (by omega) ⟨by omega, by omega⟩ (u7 + u8) ⟨by omega, by omega⟩ (by omega) (by
                    first
                      | (have h15 : ezp_ss y c1 c4 = 15 := by rw [← an_9]; omega
                         have h9 := ezp_ne_t (t := y) (X := c1) (Y := c4) ne_5 (S := fun p r => 0 ≤ p ∧ p < c1 ∧ 0 ≤ r ∧ r < 16 ∨ p = c1 ∧ 0 ≤ r ∧ r < c4 + 1) (fun p r h => by omega) (by omega) h15 (by omega)
                         rw [← hds] at h9
                         exact h9)
                      | exact ezp_ne_s (t := y) (X := c1) (Y := c4) ne_5 (fun p r h => by omega) (fun p r h => by omega) (Or.inl (by rw [← an_9]; omega))
                      | exact ezp_ne_s (t := y) (X := c1) (Y := c4) ne_5 (fun p r h => by omega) (fun p r h => by omega) (Or.inr ⟨by omega, by omega⟩)) (by omega) (by omega))
          · refine ezw_iload rfl rfl ?_
            refine ezw_iload rfl rfl ?_
            refine ezw_icmp_ge rfl rfl ⟨by omega, by omega⟩ hy6 (fun h50_10 => ?_) (fun h50_10 => ?_)
            · refine ezw_iconst (0) rfl rfl ?_
              refine ezw_istore rfl rfl ?_
              refine ezw_iload rfl rfl ?_
              refine ezw_if_eq rfl rfl ⟨by decide, by decide⟩ (fun h62_10 => ?_) (fun h62_10 => absurd h62_10 (by omega))
              refine ezw_iinc (k := c4 + 1) (1) rfl rfl rfl (by omega) rfl ?_
              refine ezw_goto rfl rfl ?_
              exact ezw_keepE [true, true, true, true, true, true, true, false, false] (ihc4 (c4 + 1) (by omega) ⟨by omega, by omega⟩ y6 hy6 (by omega) (by
                    first
                      | exact ezp_ne_s (t := y) (X := c1) (Y := c4) ne_5 (fun p r h => by omega) (fun p r h => by omega) (Or.inr ⟨by omega, by omega⟩)) (by omega) (by omega))
            · refine ezw_iconst (1) rfl rfl ?_
              refine ezw_goto rfl rfl ?_
              refine ezw_istore rfl rfl ?_
              refine ezw_iload rfl rfl ?_
              refine ezw_if_eq rfl rfl ⟨by decide, by decide⟩ (fun h62_10 => absurd h62_10 (by omega)) (fun h62_10 => ?_)
              refine ezw_aload_n rfl rfl ?_
              refine ezw_iload rfl rfl ?_
              refine ezw_iload rfl rfl ?_
              refine ezw_iload_n rfl rfl ?_
              refine ezw_call0_3 rfl (by omega) (ezu_at rfl) rfl rfl rfl rfl (ezt_m183_38o hS (by omega) hc1 hc4 ha3 tr nu hB (by omega)) ?_
              rintro _ _ ⟨rfl, u12, hu12, an_11, rfl⟩
              refine ezw_bipush (15) rfl rfl ?_
              refine ezw_icmp_ne rfl rfl hu12 ⟨by decide, by decide⟩ (fun h76_12 => ?_) (fun h76_12 => ?_)
              · refine ezw_iinc (k := c4 + 1) (1) rfl rfl rfl (by omega) rfl ?_
                refine ezw_goto rfl rfl ?_
                exact ezw_keepE [true, true, true, true, true, true, true, false, false] (ihc4 (c4 + 1) (by omega) ⟨by omega, by omega⟩ y6 hy6 (by omega) (by
                      first
                        | (have h15 : ezp_ss y c1 c4 = 15 := by rw [← an_11]; omega
                           have h9 := ezp_ne_t (t := y) (X := c1) (Y := c4) ne_5 (S := fun p r => 0 ≤ p ∧ p < c1 ∧ 0 ≤ r ∧ r < 16 ∨ p = c1 ∧ 0 ≤ r ∧ r < c4 + 1) (fun p r h => by omega) (by omega) h15 (by omega)
                           rw [← hds] at h9
                           exact h9)
                        | exact ezp_ne_s (t := y) (X := c1) (Y := c4) ne_5 (fun p r h => by omega) (fun p r h => by omega) (Or.inl (by rw [← an_11]; omega))
                        | exact ezp_ne_s (t := y) (X := c1) (Y := c4) ne_5 (fun p r h => by omega) (fun p r h => by omega) (Or.inr ⟨by omega, by omega⟩)) (by omega) (by omega))
              · refine ezw_iload rfl rfl ?_
                refine ezw_istore rfl rfl ?_
                refine ezw_iinc (k := c4 + 1) (1) rfl rfl rfl (by omega) rfl ?_
                refine ezw_goto rfl rfl ?_
                exact ezw_keepE [true, true, true, true, true, true, true, false, false] (ihc4 (c4 + 1) (by omega) ⟨by omega, by omega⟩ (u7 + u8) ⟨by omega, by omega⟩ (by omega) (by
                      first
                        | (have h15 : ezp_ss y c1 c4 = 15 := by rw [← an_11]; omega
                           have h9 := ezp_ne_t (t := y) (X := c1) (Y := c4) ne_5 (S := fun p r => 0 ≤ p ∧ p < c1 ∧ 0 ≤ r ∧ r < 16 ∨ p = c1 ∧ 0 ≤ r ∧ r < c4 + 1) (fun p r h => by omega) (by omega) h15 (by omega)
                           rw [← hds] at h9
                           exact h9)
                        | exact ezp_ne_s (t := y) (X := c1) (Y := c4) ne_5 (fun p r h => by omega) (fun p r h => by omega) (Or.inl (by rw [← an_11]; omega))
                        | exact ezp_ne_s (t := y) (X := c1) (Y := c4) ne_5 (fun p r h => by omega) (fun p r h => by omega) (Or.inr ⟨by omega, by omega⟩)) (by omega) (by omega))
      exact ezw_keepE [true, true, true, true, true, true, true, false, false] (L16_5 (0) ⟨by decide, by decide⟩ y3 hy3 (by omega) (ezp_ne_c ne_2 (fun p r => ⟨fun h => by omega, fun h => by omega⟩)) (by omega) (by omega))
  exact ezw_keepE [true, true, true, true, true, true, false, false, false] (L6_2 (0) ⟨by decide, by decide⟩ (-1) ⟨by decide, by decide⟩ (by omega) (ezp_ne_0 (fun p r h => by omega)) (by omega) (by omega))
def ezt_m187_0o_fQ (b2 : Bool) (F : Nat → Nat → Int) (A : Nat → Int → Int) (y : ezp_D) (a1 : Int) (a2 : Int) : Option ezq_V → (Nat → ezq_C) → Prop := fun v g' => ezu_g (false, b2) F A = g' ∧ ∃ u : Int, (ezw_in u) ∧ (ezp_nea y a1 a2 u) ∧ some (ezw_i u) = v
theorem ezt_m187_0o_f {b2 : Bool} {y : ezp_D} {a1 a2 : Int} {F : Nat → Nat → Int} {A : Nat → Int → Int} (hS : ezs_T F A) (hd : 5 ≤ d) (ha1 : ezw_in a1) (ha2 : ezw_in a2) (tr : ezt_TR 30 y F A) (nu : ezt_NU 30 y A) (hB : ezp_B y) : ezw_C l ρ B xa Hb D cA 187 d [ezw_p 0, ezw_i a1, ezw_i a2] (ezu_g (false, b2) F A) (ezt_m187_0o_fQ b2 F A y a1 a2) := by
  refine ezw_met (k := 0) rfl rfl ?_
  obtain ⟨⟨c1, c2, c3, c4⟩, ⟨d1, d2, d3, d4, d5, d6, d7, d8⟩, e3, e4, e5, e6⟩ := id tr
  obtain ⟨b1, b2', b3, b4, b5, b6, b7, ⟨b8, b8'⟩, b9⟩ := id hB
  have n10 : A 44 10 = y.nu 10 := nu 10 (by decide) (by decide)
  have nb10 : 1 ≤ y.nu 10 ∧ y.nu 10 ≤ 15 := b8 10 (by decide) (by decide)
  refine ezw_iload_n rfl rfl ?_
  refine ezw_iload_n rfl rfl ?_
  refine ezw_call2_2 rfl (by omega) rfl rfl (ezt_m182o hS (by omega) ha1 ha2) ?_
  rintro _ _ ⟨rfl, u2, hu2, p1_0, p1_1, rfl⟩
  refine ezw_if_eq rfl rfl ⟨by omega, by omega⟩ (fun h5_2 => ?_) (fun h5_2 => ?_)
  · refine ezw_iconst (-1) rfl rfl ?_
    exact ezw_ireturn rfl rfl ⟨rfl, (-1), ⟨by decide, by decide⟩, by
          first
            | exact Or.inr ⟨p1_1 (by omega), rfl⟩
            | (have h9 := p1_0 (by omega); exact Or.inl ⟨h9.1, h9.2.1, h9.2.2.1, h9.2.2.2, (show False by omega)⟩), rfl⟩
  · refine ezw_aload_n rfl rfl ?_
    refine ezs_getp (p := 30) rfl rfl rfl rfl rfl ?_
    refine ezs_getp (p := 38) rfl rfl rfl rfl rfl ?_
    refine ezw_iload_n rfl rfl ?_
    refine ezw_iload_n rfl rfl ?_
    refine ezw_aload_n rfl rfl ?_
    refine ezs_getp (p := 30) rfl rfl rfl rfl rfl ?_
    refine ezw_bipush (10) rfl rfl ?_
    refine ezw_call0_1 rfl (by omega) (ezu_at rfl) rfl rfl rfl rfl (ezt_m95_30o hS (by omega) ⟨by decide, by decide⟩) ?_
    rintro _ _ ⟨rfl, u4, hu4, v_3, rfl⟩
    have z3 := v_3 (by omega) (by omega)
    refine ezw_call0_3 rfl (by omega) (ezu_at rfl) rfl rfl rfl rfl (ezt_m188_38o hS (by omega) ha1 ha2 hu4 tr nu hB (by omega)) ?_
    rintro _ _ ⟨rfl, u6, hu6, an_5, rfl⟩
    refine ezw_goto rfl rfl ?_
    exact ezw_ireturn rfl rfl ⟨rfl, u6, hu6, by
          first
            | exact Or.inr ⟨p1_1 (by omega), rfl⟩
            | (have h9 := p1_0 (by omega); exact Or.inl ⟨h9.1, h9.2.1, h9.2.2.1, h9.2.2.2, an_5⟩), rfl⟩
def ezt_m27_49oQ (e : Bool × Bool) (F : Nat → Nat → Int) (A : Nat → Int → Int) (a1 : Int) : Option ezq_V → (Nat → ezq_C) → Prop := fun v g' => ezu_g e F A = g' ∧ ∃ u : Int, (ezw_in u) ∧ (0 ≤ a1 → a1 < 8 → u = A 49 a1) ∧ (a1 < 0 ∨ 8 ≤ a1 → u = 0) ∧ some (ezw_i u) = v
theorem ezt_m27_49o {a1 : Int} {F : Nat → Nat → Int} {A : Nat → Int → Int} (hS : ezs_T F A) (hd : 0 ≤ d) (ha1 : ezw_in a1) : ezw_C l ρ B xa Hb D cA 27 d [ezw_p 49, ezw_i a1] (ezu_g e F A) (ezt_m27_49oQ e F A a1) := by
  refine ezw_met (k := 0) rfl rfl ?_
  refine ezw_aload_n rfl rfl ?_
  refine ezw_ifnull rfl ?_
  refine ezw_iload_n rfl rfl ?_
  refine ezw_if_lt rfl rfl ha1 (fun h5_0 => ?_) (fun h5_0 => ?_)
  · refine ezw_iconst (0) rfl rfl ?_
    exact ezw_ireturn rfl rfl ⟨rfl, (0), ⟨by decide, by decide⟩, by omega, by omega, rfl⟩
  · refine ezw_iload_n rfl rfl ?_
    refine ezw_aload_n rfl rfl ?_
    refine ezs_alen (k := 8) rfl rfl rfl rfl (by decide) (by decide) ?_
    refine ezw_icmp_ge rfl rfl ha1 ⟨by decide, by decide⟩ (fun h11_0 => ?_) (fun h11_0 => ?_)
    · refine ezw_iconst (0) rfl rfl ?_
      exact ezw_ireturn rfl rfl ⟨rfl, (0), ⟨by decide, by decide⟩, by omega, by omega, rfl⟩
    · refine ezw_aload_n rfl rfl ?_
      refine ezw_iload_n rfl rfl ?_
      refine ezy_iaload hS rfl rfl rfl (by omega) (by omega) (by decide) (fun u1 hu1 ku1 eu1 => ?_)
      refine ezw_goto rfl rfl ?_
      exact ezw_ireturn rfl rfl ⟨rfl, u1, hu1, by omega, by omega, rfl⟩
def ezt_m27_61oQ (e : Bool × Bool) (F : Nat → Nat → Int) (A : Nat → Int → Int) (a1 : Int) : Option ezq_V → (Nat → ezq_C) → Prop := fun v g' => ezu_g e F A = g' ∧ ∃ u : Int, (ezw_in u) ∧ (0 ≤ a1 → a1 < 11 → u = A 61 a1) ∧ (a1 < 0 ∨ 11 ≤ a1 → u = 0) ∧ some (ezw_i u) = v
theorem ezt_m27_61o {a1 : Int} {F : Nat → Nat → Int} {A : Nat → Int → Int} (hS : ezs_T F A) (hd : 0 ≤ d) (ha1 : ezw_in a1) : ezw_C l ρ B xa Hb D cA 27 d [ezw_p 61, ezw_i a1] (ezu_g e F A) (ezt_m27_61oQ e F A a1) := by
  refine ezw_met (k := 0) rfl rfl ?_
  refine ezw_aload_n rfl rfl ?_
  refine ezw_ifnull rfl ?_
  refine ezw_iload_n rfl rfl ?_
  refine ezw_if_lt rfl rfl ha1 (fun h5_0 => ?_) (fun h5_0 => ?_)
  · refine ezw_iconst (0) rfl rfl ?_
    exact ezw_ireturn rfl rfl ⟨rfl, (0), ⟨by decide, by decide⟩, by omega, by omega, rfl⟩
  · refine ezw_iload_n rfl rfl ?_
    refine ezw_aload_n rfl rfl ?_
    refine ezs_alen (k := 11) rfl rfl rfl rfl (by decide) (by decide) ?_
    refine ezw_icmp_ge rfl rfl ha1 ⟨by decide, by decide⟩ (fun h11_0 => ?_) (fun h11_0 => ?_)
    · refine ezw_iconst (0) rfl rfl ?_
      exact ezw_ireturn rfl rfl ⟨rfl, (0), ⟨by decide, by decide⟩, by omega, by omega, rfl⟩
    · refine ezw_aload_n rfl rfl ?_
      refine ezw_iload_n rfl rfl ?_
      refine ezy_iaload hS rfl rfl rfl (by omega) (by omega) (by decide) (fun u1 hu1 ku1 eu1 => ?_)
      have ru1 : -2147483648 ≤ u1 ∧ u1 ≤ 9999 := ku1
      refine ezw_goto rfl rfl ?_
      exact ezw_ireturn rfl rfl ⟨rfl, u1, hu1, by omega, by omega, rfl⟩
def ezt_m95_47oQ (e : Bool × Bool) (F : Nat → Nat → Int) (A : Nat → Int → Int) (a1 : Int) : Option ezq_V → (Nat → ezq_C) → Prop := fun v g' => ezu_g e F A = g' ∧ ∃ u : Int, (ezw_in u) ∧ (0 ≤ a1 → a1 < 11 → u = A 61 a1) ∧ some (ezw_i u) = v
theorem ezt_m95_47o {a1 : Int} {F : Nat → Nat → Int} {A : Nat → Int → Int} (hS : ezs_T F A) (hd : 1 ≤ d) (ha1 : ezw_in a1) : ezw_C l ρ B xa Hb D cA 95 d [ezw_p 47, ezw_i a1] (ezu_g e F A) (ezt_m95_47oQ e F A a1) := by
  refine ezw_met (k := 0) rfl rfl ?_
  refine ezw_aload_n rfl rfl ?_
  refine ezs_getp (p := 61) rfl rfl rfl rfl rfl ?_
  refine ezw_iload_n rfl rfl ?_
  refine ezw_call3_2 rfl (by omega) rfl rfl (ezt_m27_61o hS (by omega) ha1) ?_
  rintro _ _ ⟨rfl, u2, hu2, v_1, o_1, rfl⟩
  exact ezw_ireturn rfl rfl ⟨rfl, u2, hu2, v_1, rfl⟩
def ezt_m177_0o_tQ (b2 : Bool) (F : Nat → Nat → Int) (A : Nat → Int → Int) (y : ezp_D) (a1 : Int) : Option ezq_V → (Nat → ezq_C) → Prop := fun v g' => ezu_g (true, b2) F A = g' ∧ ∃ u : Int, (ezw_in u) ∧ (u = ezp_far y a1) ∧ some (ezw_i u) = v
theorem ezt_m177_0o_t {b2 : Bool} {y : ezp_D} {a1 : Int} {F : Nat → Nat → Int} {A : Nat → Int → Int} (hS : ezs_T F A) (hd : 2 ≤ d) (ha1 : ezw_in a1) (tr : ezt_TR 47 y F A) (nu : ezt_NU 47 y A) (hB : ezp_B y) : ezw_C l ρ B xa Hb D cA 177 d [ezw_p 0, ezw_i a1] (ezu_g (true, b2) F A) (ezt_m177_0o_tQ b2 F A y a1) := by
  refine ezw_met (k := 1) rfl rfl ?_
  obtain ⟨⟨c1, c2, c3, c4⟩, ⟨d1, d2, d3, d4, d5, d6, d7, d8⟩, e3, e4, e5, e6⟩ := id tr
  obtain ⟨b1, b2', b3, b4, b5, b6, b7, ⟨b8, b8'⟩, b9⟩ := id hB
  have d9 : F 47 15 = y.kT := c1
  have n9 : A 61 9 = y.nu 9 := nu 9 (by decide) (by decide)
  have nb9 : 1 ≤ y.nu 9 ∧ y.nu 9 ≤ 99 := b8 9 (by decide) (by decide)
  refine ezw_iload_n rfl rfl ?_
  refine ezw_if_lt rfl rfl ha1 (fun h1_0 => ?_) (fun h1_0 => ?_)
  · refine ezw_iconst (-1) rfl rfl ?_
    exact ezw_ireturn rfl rfl ⟨rfl, (-1), ⟨by decide, by decide⟩, by
          unfold ezp_far
          (repeat' split) <;> omega, rfl⟩
  · refine ezw_iload_n rfl rfl ?_
    refine ezw_aload_n rfl rfl ?_
    refine ezs_getp (p := 47) rfl rfl rfl rfl rfl ?_
    refine ezy_get_i hS rfl rfl rfl rfl rfl rfl (fun u1 hu1 ku1 eu1 => ?_)
    replace eu1 := eu1.symm
    subst eu1
    refine ezw_icmp_lt rfl rfl ha1 hu1 (fun h12_1 => ?_) (fun h12_1 => ?_)
    · refine ezw_aload_n rfl rfl ?_
      refine ezs_getp (p := 47) rfl rfl rfl rfl rfl ?_
      refine ezs_getp (p := 49) rfl rfl rfl rfl rfl ?_
      refine ezw_iload_n rfl rfl ?_
      refine ezw_call2_2 rfl (by omega) rfl rfl (ezt_m27_49o hS (by omega) ha1) ?_
      rintro _ _ ⟨rfl, u3, hu3, v_2, o_2, rfl⟩
      have f1 : A 49 a1 = y.th a1 := (e3 a1 (by omega) (by omega)).2.2.1
      have f2 := (b1 a1 (by omega) (by omega)).2.1
      have f3 := v_2 (by omega) (by omega)
      refine ezw_aload_n rfl rfl ?_
      refine ezs_getp (p := 47) rfl rfl rfl rfl rfl ?_
      refine ezw_bipush (9) rfl rfl ?_
      refine ezw_call0_1 rfl (by omega) (ezu_at rfl) rfl rfl rfl rfl (ezt_m95_47o hS (by omega) ⟨by decide, by decide⟩) ?_
      rintro _ _ ⟨rfl, u5, hu5, v_4, rfl⟩
      have f4 := v_4 (by omega) (by omega)
      refine ezw_isub (k := u3 - u5) rfl (by omega) ?_
      refine ezw_istore_n rfl rfl ?_
      refine ezw_iload_n rfl rfl ?_
      refine ezw_if_ge rfl rfl ⟨by omega, by omega⟩ (fun h40_5 => ?_) (fun h40_5 => ?_)
      · refine ezw_iload_n rfl rfl ?_
        refine ezw_bipush (20) rfl rfl ?_
        refine ezw_mminE rfl ⟨by omega, by omega⟩ ⟨by decide, by decide⟩ rfl (fun u6 hu6 => ?_)
        exact ezw_ireturn rfl rfl ⟨rfl, u6, ⟨by omega, by omega⟩, by
              unfold ezp_far
              (repeat' split) <;> omega, rfl⟩
      · refine ezw_iconst (-1) rfl rfl ?_
        refine ezw_goto rfl rfl ?_
        exact ezw_ireturn rfl rfl ⟨rfl, (-1), ⟨by decide, by decide⟩, by
              unfold ezp_far
              (repeat' split) <;> omega, rfl⟩
    · refine ezw_iconst (-1) rfl rfl ?_
      exact ezw_ireturn rfl rfl ⟨rfl, (-1), ⟨by decide, by decide⟩, by
            unfold ezp_far
            (repeat' split) <;> omega, rfl⟩
def ezt_m27_48oQ (e : Bool × Bool) (F : Nat → Nat → Int) (A : Nat → Int → Int) (a1 : Int) : Option ezq_V → (Nat → ezq_C) → Prop := fun v g' => ezu_g e F A = g' ∧ ∃ u : Int, (ezw_in u) ∧ (0 ≤ a1 → a1 < 8 → u = A 48 a1) ∧ (a1 < 0 ∨ 8 ≤ a1 → u = 0) ∧ some (ezw_i u) = v
theorem ezt_m27_48o {a1 : Int} {F : Nat → Nat → Int} {A : Nat → Int → Int} (hS : ezs_T F A) (hd : 0 ≤ d) (ha1 : ezw_in a1) : ezw_C l ρ B xa Hb D cA 27 d [ezw_p 48, ezw_i a1] (ezu_g e F A) (ezt_m27_48oQ e F A a1) := by
  refine ezw_met (k := 0) rfl rfl ?_
  refine ezw_aload_n rfl rfl ?_
  refine ezw_ifnull rfl ?_
  refine ezw_iload_n rfl rfl ?_
  refine ezw_if_lt rfl rfl ha1 (fun h5_0 => ?_) (fun h5_0 => ?_)
  · refine ezw_iconst (0) rfl rfl ?_
    exact ezw_ireturn rfl rfl ⟨rfl, (0), ⟨by decide, by decide⟩, by omega, by omega, rfl⟩
  · refine ezw_iload_n rfl rfl ?_
    refine ezw_aload_n rfl rfl ?_
    refine ezs_alen (k := 8) rfl rfl rfl rfl (by decide) (by decide) ?_
    refine ezw_icmp_ge rfl rfl ha1 ⟨by decide, by decide⟩ (fun h11_0 => ?_) (fun h11_0 => ?_)
    · refine ezw_iconst (0) rfl rfl ?_
      exact ezw_ireturn rfl rfl ⟨rfl, (0), ⟨by decide, by decide⟩, by omega, by omega, rfl⟩
    · refine ezw_aload_n rfl rfl ?_
      refine ezw_iload_n rfl rfl ?_
      refine ezy_iaload hS rfl rfl rfl (by omega) (by omega) (by decide) (fun u1 hu1 ku1 eu1 => ?_)
      refine ezw_goto rfl rfl ?_
      exact ezw_ireturn rfl rfl ⟨rfl, u1, hu1, by omega, by omega, rfl⟩
def ezt_m27_51oQ (e : Bool × Bool) (F : Nat → Nat → Int) (A : Nat → Int → Int) (a1 : Int) : Option ezq_V → (Nat → ezq_C) → Prop := fun v g' => ezu_g e F A = g' ∧ ∃ u : Int, (ezw_in u) ∧ (0 ≤ a1 → a1 < 8 → u = A 51 a1) ∧ (a1 < 0 ∨ 8 ≤ a1 → u = 0) ∧ some (ezw_i u) = v
theorem ezt_m27_51o {a1 : Int} {F : Nat → Nat → Int} {A : Nat → Int → Int} (hS : ezs_T F A) (hd : 0 ≤ d) (ha1 : ezw_in a1) : ezw_C l ρ B xa Hb D cA 27 d [ezw_p 51, ezw_i a1] (ezu_g e F A) (ezt_m27_51oQ e F A a1) := by
  refine ezw_met (k := 0) rfl rfl ?_
  refine ezw_aload_n rfl rfl ?_
  refine ezw_ifnull rfl ?_
  refine ezw_iload_n rfl rfl ?_
  refine ezw_if_lt rfl rfl ha1 (fun h5_0 => ?_) (fun h5_0 => ?_)
  · refine ezw_iconst (0) rfl rfl ?_
    exact ezw_ireturn rfl rfl ⟨rfl, (0), ⟨by decide, by decide⟩, by omega, by omega, rfl⟩
  · refine ezw_iload_n rfl rfl ?_
    refine ezw_aload_n rfl rfl ?_
    refine ezs_alen (k := 8) rfl rfl rfl rfl (by decide) (by decide) ?_
    refine ezw_icmp_ge rfl rfl ha1 ⟨by decide, by decide⟩ (fun h11_0 => ?_) (fun h11_0 => ?_)
    · refine ezw_iconst (0) rfl rfl ?_
      exact ezw_ireturn rfl rfl ⟨rfl, (0), ⟨by decide, by decide⟩, by omega, by omega, rfl⟩
    · refine ezw_aload_n rfl rfl ?_
      refine ezw_iload_n rfl rfl ?_
      refine ezy_iaload hS rfl rfl rfl (by omega) (by omega) (by decide) (fun u1 hu1 ku1 eu1 => ?_)
      refine ezw_goto rfl rfl ?_
      exact ezw_ireturn rfl rfl ⟨rfl, u1, hu1, by omega, by omega, rfl⟩
def ezt_m127_47oQ (e : Bool × Bool) (F : Nat → Nat → Int) (A : Nat → Int → Int) (y : ezp_D) (a1 : Int) : Option ezq_V → (Nat → ezq_C) → Prop := fun v g' => ezu_g e F A = g' ∧ ∃ u : Int, (0 ≤ u ∧ u ≤ 1) ∧ (u = 1 → ezp_be y 8 a1 = true) ∧ (u = 0 → ezp_be y 8 a1 = false) ∧ some (ezw_i u) = v
theorem ezt_m127_47o {y : ezp_D} {a1 : Int} {F : Nat → Nat → Int} {A : Nat → Int → Int} (hS : ezs_T F A) (hd : 2 ≤ d) (ha1 : ezw_in a1) (tr : ezt_TR 47 y F A) (nu : ezt_NU 47 y A) (hB : ezp_B y) (ga : 0 ≤ a1 ∧ a1 < y.kT) : ezw_C l ρ B xa Hb D cA 127 d [ezw_p 47, ezw_i a1] (ezu_g e F A) (ezt_m127_47oQ e F A y a1) := by
  refine ezw_met (k := 2) rfl rfl ?_
  obtain ⟨⟨c1, c2, c3, c4⟩, ⟨d1, d2, d3, d4, d5, d6, d7, d8⟩, e3, e4, e5, e6⟩ := id tr
  obtain ⟨b1, b2', b3, b4, b5, b6, b7, ⟨b8, b8'⟩, b9⟩ := id hB
  have n9 : A 61 9 = y.nu 9 := nu 9 (by decide) (by decide)
  have nb9 : 1 ≤ y.nu 9 ∧ y.nu 9 ≤ 99 := b8 9 (by decide) (by decide)
  refine ezw_iload_n rfl rfl ?_
  refine ezw_istore_n rfl rfl ?_
  refine ezw_iconst (0) rfl rfl ?_
  refine ezw_istore_n rfl rfl ?_
  have L4_2 : ∀ c1 : Int, ezw_in c1 → ∀ y3 : Int, ezw_in y3 → ((0) ≤ c1) → (-1 ≤ y3 ∧ y3 < y.kT) → (ezp_be y 8 a1 = ezp_be y (8 - c1).toNat y3) → ezw_E l ρ B xa Hb D cA d ezq_re127 (ezt_m127_47oQ e F A y a1) 4 [some (ezw_p 47), some (ezw_i a1), some (ezw_i y3), some (ezw_i c1)] [] (ezu_g e F A) := by
    refine ezs_up ?_
    intro c1 hc1 ihc1 y3 hy3 g_2 vb_2 be_2
    refine ezw_iload_n rfl rfl ?_
    refine ezw_bipush (8) rfl rfl ?_
    refine ezw_icmp_ge rfl rfl hc1 ⟨by decide, by decide⟩ (fun h7_3 => ?_) (fun h7_3 => ?_)
    · refine ezw_iconst (1) rfl rfl ?_
      exact ezw_ireturn rfl (ezw_zret ⟨by omega, by omega⟩) ⟨rfl, (1), ⟨by omega, by omega⟩, (fun _ => by
            rw [be_2]
            first
              | (rw [show y3 = -1 by omega]; exact ezp_be_n)
              | (rw [show (8 - c1).toNat = 0 by omega]; rfl)), (by omega), rfl⟩
    · refine ezw_iload_n rfl rfl ?_
      refine ezw_iconst (-1) rfl rfl ?_
      refine ezw_icmp_eq rfl rfl hy3 ⟨by decide, by decide⟩ (fun h12_3 => ?_) (fun h12_3 => ?_)
      · refine ezw_iconst (1) rfl rfl ?_
        exact ezw_ireturn rfl (ezw_zret ⟨by omega, by omega⟩) ⟨rfl, (1), ⟨by omega, by omega⟩, (fun _ => by
              rw [be_2]
              first
                | (rw [show y3 = -1 by omega]; exact ezp_be_n)
                | (rw [show (8 - c1).toNat = 0 by omega]; rfl)), (by omega), rfl⟩
      · refine ezw_aload_n rfl rfl ?_
        refine ezs_getp (p := 49) rfl rfl rfl rfl rfl ?_
        refine ezw_iload_n rfl rfl ?_
        refine ezw_call3_2 rfl (by omega) rfl rfl (ezt_m27_49o hS (by omega) hy3) ?_
        rintro _ _ ⟨rfl, u5, hu5, v_4, o_4, rfl⟩
        have f1 : A 49 y3 = y.th y3 := (e3 _ (by omega) (by omega)).2.2.1
        have f2 := (b1 y3 (by omega) (by omega)).2.1
        have f3 := v_4 (by omega) (by omega)
        refine ezw_aload_n rfl rfl ?_
        refine ezw_bipush (9) rfl rfl ?_
        refine ezw_call0_1 rfl (by omega) (ezu_at rfl) rfl rfl rfl rfl (ezt_m95_47o hS (by omega) ⟨by decide, by decide⟩) ?_
        rintro _ _ ⟨rfl, u7, hu7, v_6, rfl⟩
        have f4 := v_6 (by omega) (by omega)
        have hm : (8 - c1).toNat = (8 - (c1 + 1)).toNat + 1 := by omega
        refine ezw_icmp_ge rfl rfl hu5 hu7 (fun h29_7 => ?_) (fun h29_7 => ?_)
        · refine ezw_aload_n rfl rfl ?_
          refine ezs_getp (p := 51) rfl rfl rfl rfl rfl ?_
          refine ezw_iload_n rfl rfl ?_
          refine ezw_call3_2 rfl (by omega) rfl rfl (ezt_m27_51o hS (by omega) hy3) ?_
          rintro _ _ ⟨rfl, u9, hu9, v_8, o_8, rfl⟩
          have f5 : A 51 y3 = y.on y3 := (e3 _ (by omega) (by omega)).2.2.2.2
          have f6 := (b1 y3 (by omega) (by omega)).2.2.2
          have f7 := v_8 (by omega) (by omega)
          have f8 : u9 = y.on y3 := by omega
          refine ezw_istore_n rfl rfl ?_
          refine ezw_iinc (k := c1 + 1) (1) rfl rfl rfl (by omega) rfl ?_
          refine ezw_goto rfl rfl ?_
          exact ezw_keepE [true, true, true, true] (ihc1 (c1 + 1) (by omega) ⟨by omega, by omega⟩ u9 hu9 (by omega) (by omega) (by rw [be_2, hm, ezp_be_T (by omega) (by omega), ← f8]))
        · refine ezw_iconst (0) rfl rfl ?_
          exact ezw_ireturn rfl (ezw_zret ⟨by omega, by omega⟩) ⟨rfl, (0), ⟨by omega, by omega⟩, (by omega), (fun _ => by rw [be_2, hm]; exact ezp_be_F (by omega) (by omega)), rfl⟩
  exact ezw_keepE [true, true, true, true] (L4_2 (0) ⟨by decide, by decide⟩ a1 ha1 (by omega) (by omega) rfl)
def ezt_m179_47oQ (e : Bool × Bool) (F : Nat → Nat → Int) (A : Nat → Int → Int) (y : ezp_D) (a1 : Int) : Option ezq_V → (Nat → ezq_C) → Prop := fun v g' => ezu_g e F A = g' ∧ ∃ u : Int, (ezw_in u) ∧ (u = ezp_m3 y a1) ∧ some (ezw_i u) = v
theorem ezt_m179_47o {y : ezp_D} {a1 : Int} {F : Nat → Nat → Int} {A : Nat → Int → Int} (hS : ezs_T F A) (hd : 3 ≤ d) (ha1 : ezw_in a1) (tr : ezt_TR 47 y F A) (nu : ezt_NU 47 y A) (hB : ezp_B y) (ga : 0 ≤ a1 ∧ a1 < y.kT) : ezw_C l ρ B xa Hb D cA 179 d [ezw_p 47, ezw_i a1] (ezu_g e F A) (ezt_m179_47oQ e F A y a1) := by
  refine ezw_met (k := 2) rfl rfl ?_
  obtain ⟨⟨c1, c2, c3, c4⟩, ⟨d1, d2, d3, d4, d5, d6, d7, d8⟩, e3, e4, e5, e6⟩ := id tr
  obtain ⟨b1, b2', b3, b4, b5, b6, b7, ⟨b8, b8'⟩, b9⟩ := id hB
  have n7 : A 61 7 = y.nu 7 := nu 7 (by decide) (by decide)
  have nb7 : 0 ≤ y.nu 7 ∧ y.nu 7 ≤ 60 := b8 7 (by decide) (by decide)
  have n8 : A 61 8 = y.nu 8 := nu 8 (by decide) (by decide)
  have nb8 : 0 ≤ y.nu 8 ∧ y.nu 8 ≤ 60 := b8 8 (by decide) (by decide)
  have f1 : A 48 a1 = y.hi a1 := (e3 a1 (by omega) (by omega)).2.1
  have f2 := (b1 a1 (by omega) (by omega)).1
  have g0 : ezp_m0 y a1 = -1 ∨ ezp_m0 y a1 = y.hi a1 := by
    unfold ezp_m0
    split <;> omega
  have g1 : -1 ≤ ezp_m1 y a1 ∧ ezp_m1 y a1 ≤ 60 := by
    unfold ezp_m1 ezp_ls
    (repeat' split) <;> omega
  have g2 : -1 ≤ ezp_m2 y a1 ∧ ezp_m2 y a1 ≤ 60 := by
    unfold ezp_m2 ezp_ls
    (repeat' split) <;> omega
  refine ezw_aload_n rfl rfl ?_
  refine ezs_getp (p := 48) rfl rfl rfl rfl rfl ?_
  refine ezw_iload_n rfl rfl ?_
  refine ezw_call3_2 rfl (by omega) rfl rfl (ezt_m27_48o hS (by omega) ha1) ?_
  rintro _ _ ⟨rfl, u2, hu2, v_1, o_1, rfl⟩
  have f3 := v_1 (by omega) (by omega)
  refine ezw_istore_n rfl rfl ?_
  refine ezw_aload_n rfl rfl ?_
  refine ezw_iload_n rfl rfl ?_
  refine ezw_call0_1 rfl (by omega) (ezu_at rfl) rfl rfl rfl rfl (ezt_m127_47o hS (by omega) ha1 tr nu hB (by omega)) ?_
  rintro _ _ ⟨rfl, u4, hu4, p3_0, p3_1, rfl⟩
  have J22_6 : ∀ y5 : Int, ezw_in y5 → (y5 = ezp_m0 y a1) → ezw_E l ρ B xa Hb D cA d ezq_re179 (ezt_m179_47oQ e F A y a1) 22 [some (ezw_p 47), some (ezw_i a1), some (ezw_i u2), none] [ezw_i y5] (ezu_g e F A) := by
    intro y5 hy5 v_6
    refine ezw_istore_n rfl rfl ?_
    refine ezw_iload_n rfl rfl ?_
    refine ezw_aload_n rfl rfl ?_
    refine ezw_bipush (7) rfl rfl ?_
    refine ezw_call0_1 rfl (by omega) (ezu_at rfl) rfl rfl rfl rfl (ezt_m95_47o hS (by omega) ⟨by decide, by decide⟩) ?_
    rintro _ _ ⟨rfl, u8, hu8, v_7, rfl⟩
    have z7 := v_7 (by omega) (by omega)
    refine ezw_aload_n rfl rfl ?_
    refine ezw_bipush (8) rfl rfl ?_
    refine ezw_call0_1 rfl (by omega) (ezu_at rfl) rfl rfl rfl rfl (ezt_m95_47o hS (by omega) ⟨by decide, by decide⟩) ?_
    rintro _ _ ⟨rfl, u10, hu10, v_9, rfl⟩
    have z9 := v_9 (by omega) (by omega)
    refine ezw_iadd (k := u8 + u10) rfl (by omega) ?_
    have J47_12 : ∀ y11 : Int, ezw_in y11 → (y11 = ezp_m1 y a1) → ezw_E l ρ B xa Hb D cA d ezq_re179 (ezt_m179_47oQ e F A y a1) 47 [some (ezw_p 47), some (ezw_i a1), some (ezw_i u2), some (ezw_i y11)] [] (ezu_g e F A) := by
      intro y11 hy11 v_12
      refine ezw_iload_n rfl rfl ?_
      refine ezw_aload_n rfl rfl ?_
      refine ezw_bipush (7) rfl rfl ?_
      refine ezw_call0_1 rfl (by omega) (ezu_at rfl) rfl rfl rfl rfl (ezt_m95_47o hS (by omega) ⟨by decide, by decide⟩) ?_
      rintro _ _ ⟨rfl, u14, hu14, v_13, rfl⟩
      have z13 := v_13 (by omega) (by omega)
      have J63_16 : ∀ y15 : Int, ezw_in y15 → (y15 = ezp_m2 y a1) → ezw_E l ρ B xa Hb D cA d ezq_re179 (ezt_m179_47oQ e F A y a1) 63 [some (ezw_p 47), some (ezw_i a1), some (ezw_i u2), some (ezw_i y15)] [] (ezu_g e F A) := by
        intro y15 hy15 v_16
        refine ezw_iload_n rfl rfl ?_
        refine ezw_aload_n rfl rfl ?_
        refine ezw_bipush (8) rfl rfl ?_
        refine ezw_call0_1 rfl (by omega) (ezu_at rfl) rfl rfl rfl rfl (ezt_m95_47o hS (by omega) ⟨by decide, by decide⟩) ?_
        rintro _ _ ⟨rfl, u18, hu18, v_17, rfl⟩
        have z17 := v_17 (by omega) (by omega)
        have J79_20 : ∀ y19 : Int, ezw_in y19 → (y19 = ezp_m3 y a1) → ezw_E l ρ B xa Hb D cA d ezq_re179 (ezt_m179_47oQ e F A y a1) 79 [some (ezw_p 47), some (ezw_i a1), some (ezw_i u2), some (ezw_i y19)] [] (ezu_g e F A) := by
          intro y19 hy19 v_20
          refine ezw_iload_n rfl rfl ?_
          exact ezw_ireturn rfl rfl ⟨rfl, y19, hy19, by omega, rfl⟩
        refine ezw_icmp_gt rfl rfl hu2 hu18 (fun h70_18 => ?_) (fun h70_18 => ?_)
        · exact ezw_keepE [true, true, true, true] (J79_20 y15 hy15 (by
                unfold ezp_m3
                first
                  | (rw [if_pos (by omega)]; omega)
                  | (rw [if_neg (by omega)]; omega)
                  | (subst_vars; rw [if_pos (by omega)])))
        · refine ezw_iload_n rfl rfl ?_
          refine ezw_iconst (2) rfl rfl ?_
          refine ezw_call2_2 rfl (by omega) rfl rfl (ezt_m180o hS (by omega) hy15 ⟨by decide, by decide⟩) ?_
          rintro _ _ ⟨rfl, u22, hu22, p21_0, rfl⟩
          refine ezw_istore_n rfl rfl ?_
          exact ezw_keepE [true, true, true, true] (J79_20 u22 hu22 (by
                unfold ezp_m3
                first
                  | (rw [if_pos (by omega)]; omega)
                  | (rw [if_neg (by omega)]; omega)
                  | (subst_vars; rw [if_pos (by omega)])))
      refine ezw_icmp_gt rfl rfl hu2 hu14 (fun h54_14 => ?_) (fun h54_14 => ?_)
      · exact ezw_keepE [true, true, true, true] (J63_16 y11 hy11 (by
              unfold ezp_m2
              first
                | (rw [if_pos (by omega)]; omega)
                | (rw [if_neg (by omega)]; omega)
                | (subst_vars; rw [if_pos (by omega)])))
      · refine ezw_iload_n rfl rfl ?_
        refine ezw_iconst (5) rfl rfl ?_
        refine ezw_call2_2 rfl (by omega) rfl rfl (ezt_m180o hS (by omega) hy11 ⟨by decide, by decide⟩) ?_
        rintro _ _ ⟨rfl, u24, hu24, p23_0, rfl⟩
        refine ezw_istore_n rfl rfl ?_
        exact ezw_keepE [true, true, true, true] (J63_16 u24 hu24 (by
              unfold ezp_m2
              first
                | (rw [if_pos (by omega)]; omega)
                | (rw [if_neg (by omega)]; omega)
                | (subst_vars; rw [if_pos (by omega)])))
    refine ezw_icmp_gt rfl rfl hu2 ⟨by omega, by omega⟩ (fun h37_10 => ?_) (fun h37_10 => ?_)
    · exact ezw_keepE [true, true, true, true] (J47_12 y5 hy5 (by
            unfold ezp_m1
            first
              | (rw [if_pos (by omega)]; omega)
              | (rw [if_neg (by omega)]; omega)
              | (subst_vars; rw [if_pos (by omega)])))
    · refine ezw_iload_n rfl rfl ?_
      refine ezw_bipush (9) rfl rfl ?_
      refine ezw_call2_2 rfl (by omega) rfl rfl (ezt_m180o hS (by omega) hy5 ⟨by decide, by decide⟩) ?_
      rintro _ _ ⟨rfl, u26, hu26, p25_0, rfl⟩
      refine ezw_istore_n rfl rfl ?_
      exact ezw_keepE [true, true, true, true] (J47_12 u26 hu26 (by
            unfold ezp_m1
            first
              | (rw [if_pos (by omega)]; omega)
              | (rw [if_neg (by omega)]; omega)
              | (subst_vars; rw [if_pos (by omega)])))
  refine ezw_if_eq rfl rfl ⟨by omega, by omega⟩ (fun h14_4 => ?_) (fun h14_4 => ?_)
  · refine ezw_iconst (-1) rfl rfl ?_
    exact ezw_keepE [true, true, true, false] (J22_6 (-1) ⟨by decide, by decide⟩ (by
          unfold ezp_m0
          first
            | (rw [if_pos (p3_0 (by omega))]; omega)
            | (rw [if_neg (by rw [p3_1 (by omega)]; decide)])))
  · refine ezw_iload_n rfl rfl ?_
    refine ezw_goto rfl rfl ?_
    exact ezw_keepE [true, true, true, false] (J22_6 u2 hu2 (by
          unfold ezp_m0
          first
            | (rw [if_pos (p3_0 (by omega))]; omega)
            | (rw [if_neg (by rw [p3_1 (by omega)]; decide)])))
def ezt_m178_0o_tQ (b2 : Bool) (F : Nat → Nat → Int) (A : Nat → Int → Int) (y : ezp_D) (a1 : Int) : Option ezq_V → (Nat → ezq_C) → Prop := fun v g' => ezu_g (true, b2) F A = g' ∧ ∃ u : Int, (ezw_in u) ∧ (u = ezp_mi y a1) ∧ some (ezw_i u) = v
theorem ezt_m178_0o_t {b2 : Bool} {y : ezp_D} {a1 : Int} {F : Nat → Nat → Int} {A : Nat → Int → Int} (hS : ezs_T F A) (hd : 4 ≤ d) (ha1 : ezw_in a1) (tr : ezt_TR 47 y F A) (nu : ezt_NU 47 y A) (hB : ezp_B y) : ezw_C l ρ B xa Hb D cA 178 d [ezw_p 0, ezw_i a1] (ezu_g (true, b2) F A) (ezt_m178_0o_tQ b2 F A y a1) := by
  refine ezw_met (k := 0) rfl rfl ?_
  obtain ⟨⟨c1, c2, c3, c4⟩, ⟨d1, d2, d3, d4, d5, d6, d7, d8⟩, e3, e4, e5, e6⟩ := id tr
  obtain ⟨b1, b2', b3, b4, b5, b6, b7, ⟨b8, b8'⟩, b9⟩ := id hB
  have d9 : F 47 15 = y.kT := c1
  refine ezw_iload_n rfl rfl ?_
  refine ezw_if_lt rfl rfl ha1 (fun h1_0 => ?_) (fun h1_0 => ?_)
  · refine ezw_iconst (-1) rfl rfl ?_
    refine ezw_goto rfl rfl ?_
    exact ezw_ireturn rfl rfl ⟨rfl, (-1), ⟨by decide, by decide⟩, by
          unfold ezp_mi
          first
            | (rw [if_pos (by omega)])
            | (rw [if_neg (by omega)]; exact (show False by omega)), rfl⟩
  · refine ezw_iload_n rfl rfl ?_
    refine ezw_aload_n rfl rfl ?_
    refine ezs_getp (p := 47) rfl rfl rfl rfl rfl ?_
    refine ezy_get_i hS rfl rfl rfl rfl rfl rfl (fun u1 hu1 ku1 eu1 => ?_)
    replace eu1 := eu1.symm
    subst eu1
    refine ezw_icmp_lt rfl rfl ha1 hu1 (fun h12_1 => ?_) (fun h12_1 => ?_)
    · refine ezw_aload_n rfl rfl ?_
      refine ezs_getp (p := 47) rfl rfl rfl rfl rfl ?_
      refine ezw_iload_n rfl rfl ?_
      refine ezw_call0_1 rfl (by omega) (ezu_at rfl) rfl rfl rfl rfl (ezt_m179_47o hS (by omega) ha1 tr nu hB (by omega)) ?_
      rintro _ _ ⟨rfl, u3, hu3, an_2, rfl⟩
      exact ezw_ireturn rfl rfl ⟨rfl, u3, hu3, by
            unfold ezp_mi
            first
              | (rw [if_pos (by omega)])
              | (rw [if_neg (by omega)]; exact an_2), rfl⟩
    · refine ezw_iconst (-1) rfl rfl ?_
      refine ezw_goto rfl rfl ?_
      exact ezw_ireturn rfl rfl ⟨rfl, (-1), ⟨by decide, by decide⟩, by
            unfold ezp_mi
            first
              | (rw [if_pos (by omega)])
              | (rw [if_neg (by omega)]; exact (show False by omega)), rfl⟩
def ezt_m27_56oQ (e : Bool × Bool) (F : Nat → Nat → Int) (A : Nat → Int → Int) (a1 : Int) : Option ezq_V → (Nat → ezq_C) → Prop := fun v g' => ezu_g e F A = g' ∧ ∃ u : Int, (ezw_in u) ∧ (0 ≤ a1 → a1 < 16 → u = A 56 a1) ∧ (a1 < 0 ∨ 16 ≤ a1 → u = 0) ∧ some (ezw_i u) = v
theorem ezt_m27_56o {a1 : Int} {F : Nat → Nat → Int} {A : Nat → Int → Int} (hS : ezs_T F A) (hd : 0 ≤ d) (ha1 : ezw_in a1) : ezw_C l ρ B xa Hb D cA 27 d [ezw_p 56, ezw_i a1] (ezu_g e F A) (ezt_m27_56oQ e F A a1) := by
  refine ezw_met (k := 0) rfl rfl ?_
  refine ezw_aload_n rfl rfl ?_
  refine ezw_ifnull rfl ?_
  refine ezw_iload_n rfl rfl ?_
  refine ezw_if_lt rfl rfl ha1 (fun h5_0 => ?_) (fun h5_0 => ?_)
  · refine ezw_iconst (0) rfl rfl ?_
    exact ezw_ireturn rfl rfl ⟨rfl, (0), ⟨by decide, by decide⟩, by omega, by omega, rfl⟩
  · refine ezw_iload_n rfl rfl ?_
    refine ezw_aload_n rfl rfl ?_
    refine ezs_alen (k := 16) rfl rfl rfl rfl (by decide) (by decide) ?_
    refine ezw_icmp_ge rfl rfl ha1 ⟨by decide, by decide⟩ (fun h11_0 => ?_) (fun h11_0 => ?_)
    · refine ezw_iconst (0) rfl rfl ?_
      exact ezw_ireturn rfl rfl ⟨rfl, (0), ⟨by decide, by decide⟩, by omega, by omega, rfl⟩
    · refine ezw_aload_n rfl rfl ?_
      refine ezw_iload_n rfl rfl ?_
      refine ezy_iaload hS rfl rfl rfl (by omega) (by omega) (by decide) (fun u1 hu1 ku1 eu1 => ?_)
      refine ezw_goto rfl rfl ?_
      exact ezw_ireturn rfl rfl ⟨rfl, u1, hu1, by omega, by omega, rfl⟩
def ezt_m78_55oQ (e : Bool × Bool) (F : Nat → Nat → Int) (A : Nat → Int → Int) (y : ezp_D) (a1 : Int) (a2 : Int) : Option ezq_V → (Nat → ezq_C) → Prop := fun v g' => ezu_g e F A = g' ∧ ∃ u : Int, (0 ≤ u ∧ u ≤ 1) ∧ (u = 1 → y.el a1 a2 = 1) ∧ (u = 0 → y.el a1 a2 ≠ 1) ∧ some (ezw_i u) = v
theorem ezt_m78_55o {y : ezp_D} {a1 a2 : Int} {F : Nat → Nat → Int} {A : Nat → Int → Int} (hS : ezs_T F A) (hd : 1 ≤ d) (ha1 : ezw_in a1) (ha2 : ezw_in a2) (tr : ezt_TR 47 y F A) (nu : ezt_NU 47 y A) (hB : ezp_B y) : ezw_C l ρ B xa Hb D cA 78 d [ezw_p 55, ezw_i a1, ezw_i a2] (ezu_g e F A) (ezt_m78_55oQ e F A y a1 a2) := by
  refine ezw_met (k := 0) rfl rfl ?_
  obtain ⟨⟨c1, c2, c3, c4⟩, ⟨d1, d2, d3, d4, d5, d6, d7, d8⟩, e3, e4, e5, e6⟩ := id tr
  obtain ⟨b1, b2', b3, b4, b5, b6, b7, ⟨b8, b8'⟩, b9⟩ := id hB
  refine ezw_aload_n rfl rfl ?_
  refine ezs_getp (p := 56) rfl rfl rfl rfl rfl ?_
  refine ezw_iload_n rfl rfl ?_
  refine ezw_call3_2 rfl (by omega) rfl rfl (ezt_m27_56o hS (by omega) ha1) ?_
  rintro _ _ ⟨rfl, u2, hu2, v_1, o_1, rfl⟩
  refine ezw_iload_n rfl rfl ?_
  refine ezw_call3_2 rfl (by omega) rfl rfl (ezt_m49o hS (by omega) hu2 ha2) ?_
  rintro _ _ ⟨rfl, u4, hu4, v_3, o_3, rfl⟩
  have hcol : 0 ≤ a1 → a1 < 16 → (0 ≤ A 56 a1 ∧ A 56 a1 < 65536) ∧ ∀ y', 0 ≤ y' → y' < 16 → ezt_b (A 56 a1) y' = y.el a1 y' := e6 a1
  have hst : u4 = 1 ↔ y.el a1 a2 = 1 := by
    by_cases hx : 0 ≤ a1 ∧ a1 < 16
    · obtain ⟨q1, q2⟩ := hcol hx.1 hx.2
      have q3 := v_1 hx.1 hx.2
      by_cases hy : 0 ≤ a2 ∧ a2 < 16
      · have q4 := v_3 hy.1 (by omega)
        rw [q3, q2 a2 hy.1 hy.2] at q4
        rw [q4]
      · constructor
        · intro z
          by_cases hy2 : 16 ≤ a2 ∧ a2 < 31
          · have q4 := v_3 (by omega) hy2.2
            rw [q3, ezt_b_hi q1.1 q1.2 hy2.1] at q4
            omega
          · have q4 := o_3 (by omega)
            omega
        · intro z
          exact absurd (b7 a1 a2 z) (by omega)
    · have q3 := o_1 (by omega)
      constructor
      · intro z
        by_cases hy : 0 ≤ a2 ∧ a2 < 31
        · have q4 := v_3 hy.1 hy.2
          rw [q3, ezt_b0] at q4
          omega
        · have q4 := o_3 (by omega)
          omega
      · intro z
        exact absurd (b7 a1 a2 z) (by omega)
  refine ezw_iconst (1) rfl rfl ?_
  refine ezw_icmp_ne rfl rfl hu4 ⟨by decide, by decide⟩ (fun h13_4 => ?_) (fun h13_4 => ?_)
  · refine ezw_iconst (0) rfl rfl ?_
    exact ezw_ireturn rfl (ezw_zret ⟨by omega, by omega⟩) ⟨rfl, (0), ⟨by omega, by omega⟩, (by omega), (fun _ z => absurd (hst.mpr z) (by omega)), rfl⟩
  · refine ezw_iconst (1) rfl rfl ?_
    refine ezw_goto rfl rfl ?_
    exact ezw_ireturn rfl (ezw_zret ⟨by omega, by omega⟩) ⟨rfl, (1), ⟨by omega, by omega⟩, (fun _ => hst.mp (by omega)), (by omega), rfl⟩
def ezt_m184_55oQ (e : Bool × Bool) (F : Nat → Nat → Int) (A : Nat → Int → Int) (y : ezp_D) (a1 : Int) (a2 : Int) (a3 : Int) (a4 : Int) : Option ezq_V → (Nat → ezq_C) → Prop := fun v g' => ezu_g e F A = g' ∧ ∃ u : Int, (0 ≤ u ∧ u ≤ 1) ∧ (u = 1 → ezp_sfd y a1 a2 a3 (y.nu 10 + 1) = true) ∧ (u = 0 → ezp_sfd y a1 a2 a3 (y.nu 10 + 1) = false) ∧ some (ezw_i u) = v
theorem ezt_m184_55o {y : ezp_D} {a1 a2 a3 a4 : Int} {F : Nat → Nat → Int} {A : Nat → Int → Int} (hS : ezs_T F A) (hd : 2 ≤ d) (ha1 : ezw_in a1) (ha2 : ezw_in a2) (ha3 : ezw_in a3) (ha4 : ezw_in a4) (tr : ezt_TR 47 y F A) (nu : ezt_NU 47 y A) (hB : ezp_B y) (ga : -100 ≤ a1 ∧ a1 ≤ 100 ∧ -100 ≤ a2 ∧ a2 ≤ 100 ∧ 0 ≤ a3 ∧ a3 < 4 ∧ a4 = y.nu 10) : ezw_C l ρ B xa Hb D cA 184 d [ezw_p 55, ezw_i a1, ezw_i a2, ezw_i a3, ezw_i a4] (ezu_g e F A) (ezt_m184_55oQ e F A y a1 a2 a3 a4) := by
  refine ezw_met (k := 3) rfl rfl ?_
  obtain ⟨⟨c1, c2, c3, c4⟩, ⟨d1, d2, d3, d4, d5, d6, d7, d8⟩, e3, e4, e5, e6⟩ := id tr
  obtain ⟨b1, b2', b3, b4, b5, b6, b7, ⟨b8, b8'⟩, b9⟩ := id hB
  have n10 : A 61 10 = y.nu 10 := nu 10 (by decide) (by decide)
  have nb10 : 1 ≤ y.nu 10 ∧ y.nu 10 ≤ 15 := b8 10 (by decide) (by decide)
  refine ezw_iload_n rfl rfl ?_
  refine ezw_iconst (1) rfl rfl ?_
  refine ezw_icmp_ne rfl rfl ha3 ⟨by decide, by decide⟩ (fun h2_0 => ?_) (fun h2_0 => ?_)
  · refine ezw_iload_n rfl rfl ?_
    refine ezw_iconst (3) rfl rfl ?_
    refine ezw_icmp_ne rfl rfl ha3 ⟨by decide, by decide⟩ (fun h11_0 => ?_) (fun h11_0 => ?_)
    · refine ezw_iconst (0) rfl rfl ?_
      refine ezw_istore rfl rfl ?_
      refine ezw_iload_n rfl rfl ?_
      refine ezw_if_ne rfl rfl ha3 (fun h22_0 => ?_) (fun h22_0 => ?_)
      · refine ezw_iload_n rfl rfl ?_
        refine ezw_iconst (2) rfl rfl ?_
        refine ezw_icmp_ne rfl rfl ha3 ⟨by decide, by decide⟩ (fun h31_0 => ?_) (fun h31_0 => ?_)
        · refine ezw_iconst (0) rfl rfl ?_
          refine ezw_istore rfl rfl ?_
          have hox : ezp_ox a3 = (0) := by
            unfold ezp_ox
            (repeat' split) <;> omega
          have hoy : ezp_oy a3 = (0) := by
            unfold ezp_oy
            (repeat' split) <;> omega
          refine ezw_iconst (0) rfl rfl ?_
          refine ezw_istore rfl rfl ?_
          have L44_2 : ∀ c1 : Int, ezw_in c1 → ((0) ≤ c1) → (ezp_sfn y a1 a2 (ezp_ox a3) (ezp_oy a3) (c1).toNat = true) → (c1 ≤ y.nu 10 + 1) → ezw_E l ρ B xa Hb D cA d ezq_re184 (ezt_m184_55oQ e F A y a1 a2 a3 a4) 44 [some (ezw_p 55), some (ezw_i a1), some (ezw_i a2), some (ezw_i a3), some (ezw_i a4), some (ezw_i (0)), some (ezw_i (0)), some (ezw_i c1)] [] (ezu_g e F A) := by
            refine ezs_up ?_
            intro c1 hc1 ihc1 g_2 sf_2 sb_2
            refine ezw_iload rfl rfl ?_
            refine ezw_iload rfl rfl ?_
            refine ezw_icmp_gt rfl rfl hc1 ha4 (fun h48_2 => ?_) (fun h48_2 => ?_)
            · refine ezw_iconst (1) rfl rfl ?_
              exact ezw_ireturn rfl (ezw_zret ⟨by omega, by omega⟩) ⟨rfl, (1), ⟨by omega, by omega⟩, (fun _ => by
                    have h7 := sf_2
                    rw [show c1 = y.nu 10 + 1 by omega] at h7
                    exact h7), (by omega), rfl⟩
            · refine ezw_aload_n rfl rfl ?_
              refine ezw_iload_n rfl rfl ?_
              refine ezw_iload rfl rfl ?_
              refine ezw_iload rfl rfl ?_
              refine ezw_imul (k := (0)) rfl (by omega) ?_
              refine ezw_iadd (k := a1) rfl (by omega) ?_
              refine ezw_iload_n rfl rfl ?_
              refine ezw_iload rfl rfl ?_
              refine ezw_iload rfl rfl ?_
              refine ezw_imul (k := (0)) rfl (by omega) ?_
              refine ezw_iadd (k := a2) rfl (by omega) ?_
              refine ezw_call0_2 rfl (by omega) (ezu_at rfl) rfl rfl rfl rfl (ezt_m78_55o hS (by omega) ⟨by omega, by omega⟩ ⟨by omega, by omega⟩ tr nu hB) ?_
              rintro _ _ ⟨rfl, u4, hu4, p3_0, p3_1, rfl⟩
              refine ezw_if_eq rfl rfl ⟨by omega, by omega⟩ (fun h69_4 => ?_) (fun h69_4 => ?_)
              · refine ezw_iinc (k := c1 + 1) (1) rfl rfl rfl (by omega) rfl ?_
                refine ezw_goto rfl rfl ?_
                exact ezw_keepE [true, true, true, true, true, true, true, true] (ihc1 (c1 + 1) (by omega) ⟨by omega, by omega⟩ (by omega) (ezp_sfnT (by omega) sf_2 (X := a1) (Y := a2) (by rw [hox]; omega) (by rw [hoy]; omega) (p3_1 (by omega))) (by omega))
              · refine ezw_iconst (0) rfl rfl ?_
                exact ezw_ireturn rfl (ezw_zret ⟨by omega, by omega⟩) ⟨rfl, (0), ⟨by omega, by omega⟩, (by omega), (fun _ => ezp_sfnF (k := c1) (X := a1) (Y := a2) (by omega) (by omega) (by rw [hox]; omega) (by rw [hoy]; omega) (p3_0 (by omega))), rfl⟩
          exact ezw_keepE [true, true, true, true, true, true, true, true] (L44_2 (0) ⟨by decide, by decide⟩ (by omega) rfl (by omega))
        · refine ezw_iconst (-1) rfl rfl ?_
          refine ezw_goto rfl rfl ?_
          refine ezw_istore rfl rfl ?_
          have hox : ezp_ox a3 = (0) := by
            unfold ezp_ox
            (repeat' split) <;> omega
          have hoy : ezp_oy a3 = (-1) := by
            unfold ezp_oy
            (repeat' split) <;> omega
          refine ezw_iconst (0) rfl rfl ?_
          refine ezw_istore rfl rfl ?_
          have L44_6 : ∀ c5 : Int, ezw_in c5 → ((0) ≤ c5) → (ezp_sfn y a1 a2 (ezp_ox a3) (ezp_oy a3) (c5).toNat = true) → (c5 ≤ y.nu 10 + 1) → ezw_E l ρ B xa Hb D cA d ezq_re184 (ezt_m184_55oQ e F A y a1 a2 a3 a4) 44 [some (ezw_p 55), some (ezw_i a1), some (ezw_i a2), some (ezw_i a3), some (ezw_i a4), some (ezw_i (0)), some (ezw_i (-1)), some (ezw_i c5)] [] (ezu_g e F A) := by
            refine ezs_up ?_
            intro c5 hc5 ihc5 g_6 sf_6 sb_6
            refine ezw_iload rfl rfl ?_
            refine ezw_iload rfl rfl ?_
            refine ezw_icmp_gt rfl rfl hc5 ha4 (fun h48_6 => ?_) (fun h48_6 => ?_)
            · refine ezw_iconst (1) rfl rfl ?_
              exact ezw_ireturn rfl (ezw_zret ⟨by omega, by omega⟩) ⟨rfl, (1), ⟨by omega, by omega⟩, (fun _ => by
                    have h7 := sf_6
                    rw [show c5 = y.nu 10 + 1 by omega] at h7
                    exact h7), (by omega), rfl⟩
            · refine ezw_aload_n rfl rfl ?_
              refine ezw_iload_n rfl rfl ?_
              refine ezw_iload rfl rfl ?_
              refine ezw_iload rfl rfl ?_
              refine ezw_imul (k := (0)) rfl (by omega) ?_
              refine ezw_iadd (k := a1) rfl (by omega) ?_
              refine ezw_iload_n rfl rfl ?_
              refine ezw_iload rfl rfl ?_
              refine ezw_iload rfl rfl ?_
              refine ezw_imul (k := -c5) rfl (by omega) ?_
              refine ezw_iadd (k := a2 - c5) rfl (by omega) ?_
              refine ezw_call0_2 rfl (by omega) (ezu_at rfl) rfl rfl rfl rfl (ezt_m78_55o hS (by omega) ⟨by omega, by omega⟩ ⟨by omega, by omega⟩ tr nu hB) ?_
              rintro _ _ ⟨rfl, u8, hu8, p7_0, p7_1, rfl⟩
              refine ezw_if_eq rfl rfl ⟨by omega, by omega⟩ (fun h69_8 => ?_) (fun h69_8 => ?_)
              · refine ezw_iinc (k := c5 + 1) (1) rfl rfl rfl (by omega) rfl ?_
                refine ezw_goto rfl rfl ?_
                exact ezw_keepE [true, true, true, true, true, true, true, true] (ihc5 (c5 + 1) (by omega) ⟨by omega, by omega⟩ (by omega) (ezp_sfnT (by omega) sf_6 (X := a1) (Y := (a2 - c5)) (by rw [hox]; omega) (by rw [hoy]; omega) (p7_1 (by omega))) (by omega))
              · refine ezw_iconst (0) rfl rfl ?_
                exact ezw_ireturn rfl (ezw_zret ⟨by omega, by omega⟩) ⟨rfl, (0), ⟨by omega, by omega⟩, (by omega), (fun _ => ezp_sfnF (k := c5) (X := a1) (Y := a2 - c5) (by omega) (by omega) (by rw [hox]; omega) (by rw [hoy]; omega) (p7_0 (by omega))), rfl⟩
          exact ezw_keepE [true, true, true, true, true, true, true, true] (L44_6 (0) ⟨by decide, by decide⟩ (by omega) rfl (by omega))
      · refine ezw_iconst (1) rfl rfl ?_
        refine ezw_goto rfl rfl ?_
        refine ezw_istore rfl rfl ?_
        have hox : ezp_ox a3 = (0) := by
          unfold ezp_ox
          (repeat' split) <;> omega
        have hoy : ezp_oy a3 = (1) := by
          unfold ezp_oy
          (repeat' split) <;> omega
        refine ezw_iconst (0) rfl rfl ?_
        refine ezw_istore rfl rfl ?_
        have L44_10 : ∀ c9 : Int, ezw_in c9 → ((0) ≤ c9) → (ezp_sfn y a1 a2 (ezp_ox a3) (ezp_oy a3) (c9).toNat = true) → (c9 ≤ y.nu 10 + 1) → ezw_E l ρ B xa Hb D cA d ezq_re184 (ezt_m184_55oQ e F A y a1 a2 a3 a4) 44 [some (ezw_p 55), some (ezw_i a1), some (ezw_i a2), some (ezw_i a3), some (ezw_i a4), some (ezw_i (0)), some (ezw_i (1)), some (ezw_i c9)] [] (ezu_g e F A) := by
          refine ezs_up ?_
          intro c9 hc9 ihc9 g_10 sf_10 sb_10
          refine ezw_iload rfl rfl ?_
          refine ezw_iload rfl rfl ?_
          refine ezw_icmp_gt rfl rfl hc9 ha4 (fun h48_10 => ?_) (fun h48_10 => ?_)
          · refine ezw_iconst (1) rfl rfl ?_
            exact ezw_ireturn rfl (ezw_zret ⟨by omega, by omega⟩) ⟨rfl, (1), ⟨by omega, by omega⟩, (fun _ => by
                  have h7 := sf_10
                  rw [show c9 = y.nu 10 + 1 by omega] at h7
                  exact h7), (by omega), rfl⟩
          · refine ezw_aload_n rfl rfl ?_
            refine ezw_iload_n rfl rfl ?_
            refine ezw_iload rfl rfl ?_
            refine ezw_iload rfl rfl ?_
            refine ezw_imul (k := (0)) rfl (by omega) ?_
            refine ezw_iadd (k := a1) rfl (by omega) ?_
            refine ezw_iload_n rfl rfl ?_
            refine ezw_iload rfl rfl ?_
            refine ezw_iload rfl rfl ?_
            refine ezw_imul (k := c9) rfl (by omega) ?_
            refine ezw_iadd (k := a2 + c9) rfl (by omega) ?_
            refine ezw_call0_2 rfl (by omega) (ezu_at rfl) rfl rfl rfl rfl (ezt_m78_55o hS (by omega) ⟨by omega, by omega⟩ ⟨by omega, by omega⟩ tr nu hB) ?_
            rintro _ _ ⟨rfl, u12, hu12, p11_0, p11_1, rfl⟩
            refine ezw_if_eq rfl rfl ⟨by omega, by omega⟩ (fun h69_12 => ?_) (fun h69_12 => ?_)
            · refine ezw_iinc (k := c9 + 1) (1) rfl rfl rfl (by omega) rfl ?_
              refine ezw_goto rfl rfl ?_
              exact ezw_keepE [true, true, true, true, true, true, true, true] (ihc9 (c9 + 1) (by omega) ⟨by omega, by omega⟩ (by omega) (ezp_sfnT (by omega) sf_10 (X := a1) (Y := (a2 + c9)) (by rw [hox]; omega) (by rw [hoy]; omega) (p11_1 (by omega))) (by omega))
            · refine ezw_iconst (0) rfl rfl ?_
              exact ezw_ireturn rfl (ezw_zret ⟨by omega, by omega⟩) ⟨rfl, (0), ⟨by omega, by omega⟩, (by omega), (fun _ => ezp_sfnF (k := c9) (X := a1) (Y := a2 + c9) (by omega) (by omega) (by rw [hox]; omega) (by rw [hoy]; omega) (p11_0 (by omega))), rfl⟩
        exact ezw_keepE [true, true, true, true, true, true, true, true] (L44_10 (0) ⟨by decide, by decide⟩ (by omega) rfl (by omega))
    · refine ezw_iconst (1) rfl rfl ?_
      refine ezw_goto rfl rfl ?_
      refine ezw_istore rfl rfl ?_
      refine ezw_iload_n rfl rfl ?_
      refine ezw_if_ne rfl rfl ha3 (fun h22_12 => ?_) (fun h22_12 => ?_)
      · refine ezw_iload_n rfl rfl ?_
        refine ezw_iconst (2) rfl rfl ?_
        refine ezw_icmp_ne rfl rfl ha3 ⟨by decide, by decide⟩ (fun h31_12 => ?_) (fun h31_12 => ?_)
        · refine ezw_iconst (0) rfl rfl ?_
          refine ezw_istore rfl rfl ?_
          have hox : ezp_ox a3 = (1) := by
            unfold ezp_ox
            (repeat' split) <;> omega
          have hoy : ezp_oy a3 = (0) := by
            unfold ezp_oy
            (repeat' split) <;> omega
          refine ezw_iconst (0) rfl rfl ?_
          refine ezw_istore rfl rfl ?_
          have L44_14 : ∀ c13 : Int, ezw_in c13 → ((0) ≤ c13) → (ezp_sfn y a1 a2 (ezp_ox a3) (ezp_oy a3) (c13).toNat = true) → (c13 ≤ y.nu 10 + 1) → ezw_E l ρ B xa Hb D cA d ezq_re184 (ezt_m184_55oQ e F A y a1 a2 a3 a4) 44 [some (ezw_p 55), some (ezw_i a1), some (ezw_i a2), some (ezw_i a3), some (ezw_i a4), some (ezw_i (1)), some (ezw_i (0)), some (ezw_i c13)] [] (ezu_g e F A) := by
            refine ezs_up ?_
            intro c13 hc13 ihc13 g_14 sf_14 sb_14
            refine ezw_iload rfl rfl ?_
            refine ezw_iload rfl rfl ?_
            refine ezw_icmp_gt rfl rfl hc13 ha4 (fun h48_14 => ?_) (fun h48_14 => ?_)
            · refine ezw_iconst (1) rfl rfl ?_
              exact ezw_ireturn rfl (ezw_zret ⟨by omega, by omega⟩) ⟨rfl, (1), ⟨by omega, by omega⟩, (fun _ => by
                    have h7 := sf_14
                    rw [show c13 = y.nu 10 + 1 by omega] at h7
                    exact h7), (by omega), rfl⟩
            · refine ezw_aload_n rfl rfl ?_
              refine ezw_iload_n rfl rfl ?_
              refine ezw_iload rfl rfl ?_
              refine ezw_iload rfl rfl ?_
              refine ezw_imul (k := c13) rfl (by omega) ?_
              refine ezw_iadd (k := a1 + c13) rfl (by omega) ?_
              refine ezw_iload_n rfl rfl ?_
              refine ezw_iload rfl rfl ?_
              refine ezw_iload rfl rfl ?_
              refine ezw_imul (k := (0)) rfl (by omega) ?_
              refine ezw_iadd (k := a2) rfl (by omega) ?_
              refine ezw_call0_2 rfl (by omega) (ezu_at rfl) rfl rfl rfl rfl (ezt_m78_55o hS (by omega) ⟨by omega, by omega⟩ ⟨by omega, by omega⟩ tr nu hB) ?_
              rintro _ _ ⟨rfl, u16, hu16, p15_0, p15_1, rfl⟩
              refine ezw_if_eq rfl rfl ⟨by omega, by omega⟩ (fun h69_16 => ?_) (fun h69_16 => ?_)
              · refine ezw_iinc (k := c13 + 1) (1) rfl rfl rfl (by omega) rfl ?_
                refine ezw_goto rfl rfl ?_
                exact ezw_keepE [true, true, true, true, true, true, true, true] (ihc13 (c13 + 1) (by omega) ⟨by omega, by omega⟩ (by omega) (ezp_sfnT (by omega) sf_14 (X := (a1 + c13)) (Y := a2) (by rw [hox]; omega) (by rw [hoy]; omega) (p15_1 (by omega))) (by omega))
              · refine ezw_iconst (0) rfl rfl ?_
                exact ezw_ireturn rfl (ezw_zret ⟨by omega, by omega⟩) ⟨rfl, (0), ⟨by omega, by omega⟩, (by omega), (fun _ => ezp_sfnF (k := c13) (X := a1 + c13) (Y := a2) (by omega) (by omega) (by rw [hox]; omega) (by rw [hoy]; omega) (p15_0 (by omega))), rfl⟩
          exact ezw_keepE [true, true, true, true, true, true, true, true] (L44_14 (0) ⟨by decide, by decide⟩ (by omega) rfl (by omega))
        · refine ezw_iconst (-1) rfl rfl ?_
          refine ezw_goto rfl rfl ?_
          refine ezw_istore rfl rfl ?_
          have hox : ezp_ox a3 = (1) := by
            unfold ezp_ox
            (repeat' split) <;> omega
          have hoy : ezp_oy a3 = (-1) := by
            unfold ezp_oy
            (repeat' split) <;> omega
          refine ezw_iconst (0) rfl rfl ?_
          refine ezw_istore rfl rfl ?_
          have L44_18 : ∀ c17 : Int, ezw_in c17 → ((0) ≤ c17) → (ezp_sfn y a1 a2 (ezp_ox a3) (ezp_oy a3) (c17).toNat = true) → (c17 ≤ y.nu 10 + 1) → ezw_E l ρ B xa Hb D cA d ezq_re184 (ezt_m184_55oQ e F A y a1 a2 a3 a4) 44 [some (ezw_p 55), some (ezw_i a1), some (ezw_i a2), some (ezw_i a3), some (ezw_i a4), some (ezw_i (1)), some (ezw_i (-1)), some (ezw_i c17)] [] (ezu_g e F A) := by
            refine ezs_up ?_
            intro c17 hc17 ihc17 g_18 sf_18 sb_18
            refine ezw_iload rfl rfl ?_
            refine ezw_iload rfl rfl ?_
            refine ezw_icmp_gt rfl rfl hc17 ha4 (fun h48_18 => ?_) (fun h48_18 => ?_)
            · refine ezw_iconst (1) rfl rfl ?_
              exact ezw_ireturn rfl (ezw_zret ⟨by omega, by omega⟩) ⟨rfl, (1), ⟨by omega, by omega⟩, (fun _ => by
                    have h7 := sf_18
                    rw [show c17 = y.nu 10 + 1 by omega] at h7
                    exact h7), (by omega), rfl⟩
            · refine ezw_aload_n rfl rfl ?_
              refine ezw_iload_n rfl rfl ?_
              refine ezw_iload rfl rfl ?_
              refine ezw_iload rfl rfl ?_
              refine ezw_imul (k := c17) rfl (by omega) ?_
              refine ezw_iadd (k := a1 + c17) rfl (by omega) ?_
              refine ezw_iload_n rfl rfl ?_
              refine ezw_iload rfl rfl ?_
              refine ezw_iload rfl rfl ?_
              refine ezw_imul (k := -c17) rfl (by omega) ?_
              refine ezw_iadd (k := a2 - c17) rfl (by omega) ?_
              refine ezw_call0_2 rfl (by omega) (ezu_at rfl) rfl rfl rfl rfl (ezt_m78_55o hS (by omega) ⟨by omega, by omega⟩ ⟨by omega, by omega⟩ tr nu hB) ?_
              rintro _ _ ⟨rfl, u20, hu20, p19_0, p19_1, rfl⟩
              refine ezw_if_eq rfl rfl ⟨by omega, by omega⟩ (fun h69_20 => ?_) (fun h69_20 => ?_)
              · refine ezw_iinc (k := c17 + 1) (1) rfl rfl rfl (by omega) rfl ?_
                refine ezw_goto rfl rfl ?_
                exact ezw_keepE [true, true, true, true, true, true, true, true] (ihc17 (c17 + 1) (by omega) ⟨by omega, by omega⟩ (by omega) (ezp_sfnT (by omega) sf_18 (X := (a1 + c17)) (Y := (a2 - c17)) (by rw [hox]; omega) (by rw [hoy]; omega) (p19_1 (by omega))) (by omega))
              · refine ezw_iconst (0) rfl rfl ?_
                exact ezw_ireturn rfl (ezw_zret ⟨by omega, by omega⟩) ⟨rfl, (0), ⟨by omega, by omega⟩, (by omega), (fun _ => ezp_sfnF (k := c17) (X := a1 + c17) (Y := a2 - c17) (by omega) (by omega) (by rw [hox]; omega) (by rw [hoy]; omega) (p19_0 (by omega))), rfl⟩
          exact ezw_keepE [true, true, true, true, true, true, true, true] (L44_18 (0) ⟨by decide, by decide⟩ (by omega) rfl (by omega))
      · refine ezw_iconst (1) rfl rfl ?_
        refine ezw_goto rfl rfl ?_
        refine ezw_istore rfl rfl ?_
        have hox : ezp_ox a3 = (1) := by
          unfold ezp_ox
          (repeat' split) <;> omega
        have hoy : ezp_oy a3 = (1) := by
          unfold ezp_oy
          (repeat' split) <;> omega
        refine ezw_iconst (0) rfl rfl ?_
        refine ezw_istore rfl rfl ?_
        have L44_22 : ∀ c21 : Int, ezw_in c21 → ((0) ≤ c21) → (ezp_sfn y a1 a2 (ezp_ox a3) (ezp_oy a3) (c21).toNat = true) → (c21 ≤ y.nu 10 + 1) → ezw_E l ρ B xa Hb D cA d ezq_re184 (ezt_m184_55oQ e F A y a1 a2 a3 a4) 44 [some (ezw_p 55), some (ezw_i a1), some (ezw_i a2), some (ezw_i a3), some (ezw_i a4), some (ezw_i (1)), some (ezw_i (1)), some (ezw_i c21)] [] (ezu_g e F A) := by
          refine ezs_up ?_
          intro c21 hc21 ihc21 g_22 sf_22 sb_22
          refine ezw_iload rfl rfl ?_
          refine ezw_iload rfl rfl ?_
          refine ezw_icmp_gt rfl rfl hc21 ha4 (fun h48_22 => ?_) (fun h48_22 => ?_)
          · refine ezw_iconst (1) rfl rfl ?_
            exact ezw_ireturn rfl (ezw_zret ⟨by omega, by omega⟩) ⟨rfl, (1), ⟨by omega, by omega⟩, (fun _ => by
                  have h7 := sf_22
                  rw [show c21 = y.nu 10 + 1 by omega] at h7
                  exact h7), (by omega), rfl⟩
          · refine ezw_aload_n rfl rfl ?_
            refine ezw_iload_n rfl rfl ?_
            refine ezw_iload rfl rfl ?_
            refine ezw_iload rfl rfl ?_
            refine ezw_imul (k := c21) rfl (by omega) ?_
            refine ezw_iadd (k := a1 + c21) rfl (by omega) ?_
            refine ezw_iload_n rfl rfl ?_
            refine ezw_iload rfl rfl ?_
            refine ezw_iload rfl rfl ?_
            refine ezw_imul (k := c21) rfl (by omega) ?_
            refine ezw_iadd (k := a2 + c21) rfl (by omega) ?_
            refine ezw_call0_2 rfl (by omega) (ezu_at rfl) rfl rfl rfl rfl (ezt_m78_55o hS (by omega) ⟨by omega, by omega⟩ ⟨by omega, by omega⟩ tr nu hB) ?_
            rintro _ _ ⟨rfl, u24, hu24, p23_0, p23_1, rfl⟩
            refine ezw_if_eq rfl rfl ⟨by omega, by omega⟩ (fun h69_24 => ?_) (fun h69_24 => ?_)
            · refine ezw_iinc (k := c21 + 1) (1) rfl rfl rfl (by omega) rfl ?_
              refine ezw_goto rfl rfl ?_
              exact ezw_keepE [true, true, true, true, true, true, true, true] (ihc21 (c21 + 1) (by omega) ⟨by omega, by omega⟩ (by omega) (ezp_sfnT (by omega) sf_22 (X := (a1 + c21)) (Y := (a2 + c21)) (by rw [hox]; omega) (by rw [hoy]; omega) (p23_1 (by omega))) (by omega))
            · refine ezw_iconst (0) rfl rfl ?_
              exact ezw_ireturn rfl (ezw_zret ⟨by omega, by omega⟩) ⟨rfl, (0), ⟨by omega, by omega⟩, (by omega), (fun _ => ezp_sfnF (k := c21) (X := a1 + c21) (Y := a2 + c21) (by omega) (by omega) (by rw [hox]; omega) (by rw [hoy]; omega) (p23_0 (by omega))), rfl⟩
        exact ezw_keepE [true, true, true, true, true, true, true, true] (L44_22 (0) ⟨by decide, by decide⟩ (by omega) rfl (by omega))
  · refine ezw_iconst (-1) rfl rfl ?_
    refine ezw_goto rfl rfl ?_
    refine ezw_istore rfl rfl ?_
    refine ezw_iload_n rfl rfl ?_
    refine ezw_if_ne rfl rfl ha3 (fun h22_24 => ?_) (fun h22_24 => ?_)
    · refine ezw_iload_n rfl rfl ?_
      refine ezw_iconst (2) rfl rfl ?_
      refine ezw_icmp_ne rfl rfl ha3 ⟨by decide, by decide⟩ (fun h31_24 => ?_) (fun h31_24 => ?_)
      · refine ezw_iconst (0) rfl rfl ?_
        refine ezw_istore rfl rfl ?_
        have hox : ezp_ox a3 = (-1) := by
          unfold ezp_ox
          (repeat' split) <;> omega
        have hoy : ezp_oy a3 = (0) := by
          unfold ezp_oy
          (repeat' split) <;> omega
        refine ezw_iconst (0) rfl rfl ?_
        refine ezw_istore rfl rfl ?_
        have L44_26 : ∀ c25 : Int, ezw_in c25 → ((0) ≤ c25) → (ezp_sfn y a1 a2 (ezp_ox a3) (ezp_oy a3) (c25).toNat = true) → (c25 ≤ y.nu 10 + 1) → ezw_E l ρ B xa Hb D cA d ezq_re184 (ezt_m184_55oQ e F A y a1 a2 a3 a4) 44 [some (ezw_p 55), some (ezw_i a1), some (ezw_i a2), some (ezw_i a3), some (ezw_i a4), some (ezw_i (-1)), some (ezw_i (0)), some (ezw_i c25)] [] (ezu_g e F A) := by
          refine ezs_up ?_
          intro c25 hc25 ihc25 g_26 sf_26 sb_26
          refine ezw_iload rfl rfl ?_
          refine ezw_iload rfl rfl ?_
          refine ezw_icmp_gt rfl rfl hc25 ha4 (fun h48_26 => ?_) (fun h48_26 => ?_)
          · refine ezw_iconst (1) rfl rfl ?_
            exact ezw_ireturn rfl (ezw_zret ⟨by omega, by omega⟩) ⟨rfl, (1), ⟨by omega, by omega⟩, (fun _ => by
                  have h7 := sf_26
                  rw [show c25 = y.nu 10 + 1 by omega] at h7
                  exact h7), (by omega), rfl⟩
          · refine ezw_aload_n rfl rfl ?_
            refine ezw_iload_n rfl rfl ?_
            refine ezw_iload rfl rfl ?_
            refine ezw_iload rfl rfl ?_
            refine ezw_imul (k := -c25) rfl (by omega) ?_
            refine ezw_iadd (k := a1 - c25) rfl (by omega) ?_
            refine ezw_iload_n rfl rfl ?_
            refine ezw_iload rfl rfl ?_
            refine ezw_iload rfl rfl ?_
            refine ezw_imul (k := (0)) rfl (by omega) ?_
            refine ezw_iadd (k := a2) rfl (by omega) ?_
            refine ezw_call0_2 rfl (by omega) (ezu_at rfl) rfl rfl rfl rfl (ezt_m78_55o hS (by omega) ⟨by omega, by omega⟩ ⟨by omega, by omega⟩ tr nu hB) ?_
            rintro _ _ ⟨rfl, u28, hu28, p27_0, p27_1, rfl⟩
            refine ezw_if_eq rfl rfl ⟨by omega, by omega⟩ (fun h69_28 => ?_) (fun h69_28 => ?_)
            · refine ezw_iinc (k := c25 + 1) (1) rfl rfl rfl (by omega) rfl ?_
              refine ezw_goto rfl rfl ?_
              exact ezw_keepE [true, true, true, true, true, true, true, true] (ihc25 (c25 + 1) (by omega) ⟨by omega, by omega⟩ (by omega) (ezp_sfnT (by omega) sf_26 (X := (a1 - c25)) (Y := a2) (by rw [hox]; omega) (by rw [hoy]; omega) (p27_1 (by omega))) (by omega))
            · refine ezw_iconst (0) rfl rfl ?_
              exact ezw_ireturn rfl (ezw_zret ⟨by omega, by omega⟩) ⟨rfl, (0), ⟨by omega, by omega⟩, (by omega), (fun _ => ezp_sfnF (k := c25) (X := a1 - c25) (Y := a2) (by omega) (by omega) (by rw [hox]; omega) (by rw [hoy]; omega) (p27_0 (by omega))), rfl⟩
        exact ezw_keepE [true, true, true, true, true, true, true, true] (L44_26 (0) ⟨by decide, by decide⟩ (by omega) rfl (by omega))
      · refine ezw_iconst (-1) rfl rfl ?_
        refine ezw_goto rfl rfl ?_
        refine ezw_istore rfl rfl ?_
        have hox : ezp_ox a3 = (-1) := by
          unfold ezp_ox
          (repeat' split) <;> omega
        have hoy : ezp_oy a3 = (-1) := by
          unfold ezp_oy
          (repeat' split) <;> omega
        refine ezw_iconst (0) rfl rfl ?_
        refine ezw_istore rfl rfl ?_
        have L44_30 : ∀ c29 : Int, ezw_in c29 → ((0) ≤ c29) → (ezp_sfn y a1 a2 (ezp_ox a3) (ezp_oy a3) (c29).toNat = true) → (c29 ≤ y.nu 10 + 1) → ezw_E l ρ B xa Hb D cA d ezq_re184 (ezt_m184_55oQ e F A y a1 a2 a3 a4) 44 [some (ezw_p 55), some (ezw_i a1), some (ezw_i a2), some (ezw_i a3), some (ezw_i a4), some (ezw_i (-1)), some (ezw_i (-1)), some (ezw_i c29)] [] (ezu_g e F A) := by
          refine ezs_up ?_
          intro c29 hc29 ihc29 g_30 sf_30 sb_30
          refine ezw_iload rfl rfl ?_
          refine ezw_iload rfl rfl ?_
          refine ezw_icmp_gt rfl rfl hc29 ha4 (fun h48_30 => ?_) (fun h48_30 => ?_)
          · refine ezw_iconst (1) rfl rfl ?_
            exact ezw_ireturn rfl (ezw_zret ⟨by omega, by omega⟩) ⟨rfl, (1), ⟨by omega, by omega⟩, (fun _ => by
                  have h7 := sf_30
                  rw [show c29 = y.nu 10 + 1 by omega] at h7
                  exact h7), (by omega), rfl⟩
          · refine ezw_aload_n rfl rfl ?_
            refine ezw_iload_n rfl rfl ?_
            refine ezw_iload rfl rfl ?_
            refine ezw_iload rfl rfl ?_
            refine ezw_imul (k := -c29) rfl (by omega) ?_
            refine ezw_iadd (k := a1 - c29) rfl (by omega) ?_
            refine ezw_iload_n rfl rfl ?_
            refine ezw_iload rfl rfl ?_
            refine ezw_iload rfl rfl ?_
            refine ezw_imul (k := -c29) rfl (by omega) ?_
            refine ezw_iadd (k := a2 - c29) rfl (by omega) ?_
            refine ezw_call0_2 rfl (by omega) (ezu_at rfl) rfl rfl rfl rfl (ezt_m78_55o hS (by omega) ⟨by omega, by omega⟩ ⟨by omega, by omega⟩ tr nu hB) ?_
            rintro _ _ ⟨rfl, u32, hu32, p31_0, p31_1, rfl⟩
            refine ezw_if_eq rfl rfl ⟨by omega, by omega⟩ (fun h69_32 => ?_) (fun h69_32 => ?_)
            · refine ezw_iinc (k := c29 + 1) (1) rfl rfl rfl (by omega) rfl ?_
              refine ezw_goto rfl rfl ?_
              exact ezw_keepE [true, true, true, true, true, true, true, true] (ihc29 (c29 + 1) (by omega) ⟨by omega, by omega⟩ (by omega) (ezp_sfnT (by omega) sf_30 (X := (a1 - c29)) (Y := (a2 - c29)) (by rw [hox]; omega) (by rw [hoy]; omega) (p31_1 (by omega))) (by omega))
            · refine ezw_iconst (0) rfl rfl ?_
              exact ezw_ireturn rfl (ezw_zret ⟨by omega, by omega⟩) ⟨rfl, (0), ⟨by omega, by omega⟩, (by omega), (fun _ => ezp_sfnF (k := c29) (X := a1 - c29) (Y := a2 - c29) (by omega) (by omega) (by rw [hox]; omega) (by rw [hoy]; omega) (p31_0 (by omega))), rfl⟩
        exact ezw_keepE [true, true, true, true, true, true, true, true] (L44_30 (0) ⟨by decide, by decide⟩ (by omega) rfl (by omega))
    · refine ezw_iconst (1) rfl rfl ?_
      refine ezw_goto rfl rfl ?_
      refine ezw_istore rfl rfl ?_
      have hox : ezp_ox a3 = (-1) := by
        unfold ezp_ox
        (repeat' split) <;> omega
      have hoy : ezp_oy a3 = (1) := by
        unfold ezp_oy
        (repeat' split) <;> omega
      refine ezw_iconst (0) rfl rfl ?_
      refine ezw_istore rfl rfl ?_
      have L44_34 : ∀ c33 : Int, ezw_in c33 → ((0) ≤ c33) → (ezp_sfn y a1 a2 (ezp_ox a3) (ezp_oy a3) (c33).toNat = true) → (c33 ≤ y.nu 10 + 1) → ezw_E l ρ B xa Hb D cA d ezq_re184 (ezt_m184_55oQ e F A y a1 a2 a3 a4) 44 [some (ezw_p 55), some (ezw_i a1), some (ezw_i a2), some (ezw_i a3), some (ezw_i a4), some (ezw_i (-1)), some (ezw_i (1)), some (ezw_i c33)] [] (ezu_g e F A) := by
        refine ezs_up ?_
        intro c33 hc33 ihc33 g_34 sf_34 sb_34
        refine ezw_iload rfl rfl ?_
        refine ezw_iload rfl rfl ?_
        refine ezw_icmp_gt rfl rfl hc33 ha4 (fun h48_34 => ?_) (fun h48_34 => ?_)
        · refine ezw_iconst (1) rfl rfl ?_
          exact ezw_ireturn rfl (ezw_zret ⟨by omega, by omega⟩) ⟨rfl, (1), ⟨by omega, by omega⟩, (fun _ => by
                have h7 := sf_34
                rw [show c33 = y.nu 10 + 1 by omega] at h7
                exact h7), (by omega), rfl⟩
        · refine ezw_aload_n rfl rfl ?_
          refine ezw_iload_n rfl rfl ?_
          refine ezw_iload rfl rfl ?_
          refine ezw_iload rfl rfl ?_
          refine ezw_imul (k := -c33) rfl (by omega) ?_
          refine ezw_iadd (k := a1 - c33) rfl (by omega) ?_
          refine ezw_iload_n rfl rfl ?_
          refine ezw_iload rfl rfl ?_
          refine ezw_iload rfl rfl ?_
          refine ezw_imul (k := c33) rfl (by omega) ?_
          refine ezw_iadd (k := a2 + c33) rfl (by omega) ?_
          refine ezw_call0_2 rfl (by omega) (ezu_at rfl) rfl rfl rfl rfl (ezt_m78_55o hS (by omega) ⟨by omega, by omega⟩ ⟨by omega, by omega⟩ tr nu hB) ?_
          rintro _ _ ⟨rfl, u36, hu36, p35_0, p35_1, rfl⟩
          refine ezw_if_eq rfl rfl ⟨by omega, by omega⟩ (fun h69_36 => ?_) (fun h69_36 => ?_)
          · refine ezw_iinc (k := c33 + 1) (1) rfl rfl rfl (by omega) rfl ?_
            refine ezw_goto rfl rfl ?_
            exact ezw_keepE [true, true, true, true, true, true, true, true] (ihc33 (c33 + 1) (by omega) ⟨by omega, by omega⟩ (by omega) (ezp_sfnT (by omega) sf_34 (X := (a1 - c33)) (Y := (a2 + c33)) (by rw [hox]; omega) (by rw [hoy]; omega) (p35_1 (by omega))) (by omega))
          · refine ezw_iconst (0) rfl rfl ?_
            exact ezw_ireturn rfl (ezw_zret ⟨by omega, by omega⟩) ⟨rfl, (0), ⟨by omega, by omega⟩, (by omega), (fun _ => ezp_sfnF (k := c33) (X := a1 - c33) (Y := a2 + c33) (by omega) (by omega) (by rw [hox]; omega) (by rw [hoy]; omega) (p35_0 (by omega))), rfl⟩
      exact ezw_keepE [true, true, true, true, true, true, true, true] (L44_34 (0) ⟨by decide, by decide⟩ (by omega) rfl (by omega))
def ezt_m183_55oQ (e : Bool × Bool) (F : Nat → Nat → Int) (A : Nat → Int → Int) (y : ezp_D) (a1 : Int) (a2 : Int) (a3 : Int) : Option ezq_V → (Nat → ezq_C) → Prop := fun v g' => ezu_g e F A = g' ∧ ∃ u : Int, (ezw_in u) ∧ (u = ezp_ss y a1 a2) ∧ some (ezw_i u) = v
theorem ezt_m183_55o {y : ezp_D} {a1 a2 a3 : Int} {F : Nat → Nat → Int} {A : Nat → Int → Int} (hS : ezs_T F A) (hd : 3 ≤ d) (ha1 : ezw_in a1) (ha2 : ezw_in a2) (ha3 : ezw_in a3) (tr : ezt_TR 47 y F A) (nu : ezt_NU 47 y A) (hB : ezp_B y) (ga : 0 ≤ a1 ∧ a1 < 16 ∧ 0 ≤ a2 ∧ a2 < 16 ∧ a3 = y.nu 10) : ezw_C l ρ B xa Hb D cA 183 d [ezw_p 55, ezw_i a1, ezw_i a2, ezw_i a3] (ezu_g e F A) (ezt_m183_55oQ e F A y a1 a2 a3) := by
  refine ezw_met (k := 2) rfl rfl ?_
  obtain ⟨⟨c1, c2, c3, c4⟩, ⟨d1, d2, d3, d4, d5, d6, d7, d8⟩, e3, e4, e5, e6⟩ := id tr
  obtain ⟨b1, b2', b3, b4, b5, b6, b7, ⟨b8, b8'⟩, b9⟩ := id hB
  have n10 : A 61 10 = y.nu 10 := nu 10 (by decide) (by decide)
  have nb10 : 1 ≤ y.nu 10 ∧ y.nu 10 ≤ 15 := b8 10 (by decide) (by decide)
  refine ezw_iconst (0) rfl rfl ?_
  refine ezw_istore rfl rfl ?_
  refine ezw_iconst (0) rfl rfl ?_
  refine ezw_istore rfl rfl ?_
  have L6_2 : ∀ c1 : Int, ezw_in c1 → ∀ y3 : Int, ezw_in y3 → ((0) ≤ c1) → (y3 = ezp_ssn y a1 a2 (c1).toNat) → (c1 ≤ 4) → ezw_E l ρ B xa Hb D cA d ezq_re183 (ezt_m183_55oQ e F A y a1 a2 a3) 6 [some (ezw_p 55), some (ezw_i a1), some (ezw_i a2), some (ezw_i a3), some (ezw_i y3), some (ezw_i c1)] [] (ezu_g e F A) := by
    refine ezs_up ?_
    intro c1 hc1 ihc1 y3 hy3 g_2 ss_2 sb_2
    refine ezw_iload rfl rfl ?_
    refine ezw_iconst (4) rfl rfl ?_
    refine ezw_icmp_ge rfl rfl hc1 ⟨by decide, by decide⟩ (fun h9_3 => ?_) (fun h9_3 => ?_)
    · refine ezw_iload rfl rfl ?_
      exact ezw_ireturn rfl rfl ⟨rfl, y3, hy3, (by rw [ss_2, show c1 = 4 by omega]; rfl), rfl⟩
    · refine ezw_aload_n rfl rfl ?_
      refine ezw_iload_n rfl rfl ?_
      refine ezw_iload_n rfl rfl ?_
      refine ezw_iload rfl rfl ?_
      refine ezw_iload_n rfl rfl ?_
      refine ezw_call0_4 rfl (by omega) (ezu_at rfl) rfl rfl rfl rfl (ezt_m184_55o hS (by omega) ha1 ha2 hc1 ha3 tr nu hB (by omega)) ?_
      rintro _ _ ⟨rfl, u5, hu5, p4_0, p4_1, rfl⟩
      refine ezw_if_eq rfl rfl ⟨by omega, by omega⟩ (fun h21_5 => ?_) (fun h21_5 => ?_)
      · refine ezw_iinc (k := c1 + 1) (1) rfl rfl rfl (by omega) rfl ?_
        refine ezw_goto rfl rfl ?_
        exact ezw_keepE [true, true, true, true, true, true] (ihc1 (c1 + 1) (by omega) ⟨by omega, by omega⟩ y3 hy3 (by omega) (by
              first
                | (rw [ezp_ss_F (by omega) (p4_1 (by omega))]; exact ss_2)
                | (rw [ss_2]; exact ezp_ss_T (by omega) (by omega) (p4_0 (by omega)))) (by omega))
      · refine ezw_iload rfl rfl ?_
        refine ezw_iconst (1) rfl rfl ?_
        refine ezw_iload rfl rfl ?_
        refine ezw_ishl rfl (by omega) (by omega) (k := (1 * 2 ^ (c1).toNat)) (rfl) ?_
        refine ezw_ior rfl (k := ezw_or y3 (1 * 2 ^ (c1).toNat)) rfl ?_
        refine ezw_istore rfl rfl ?_
        refine ezw_iinc (k := c1 + 1) (1) rfl rfl rfl (by omega) rfl ?_
        refine ezw_goto rfl rfl ?_
        exact ezw_keepE [true, true, true, true, true, true] (ihc1 (c1 + 1) (by omega) ⟨by omega, by omega⟩ ((ezw_or y3 (1 * 2 ^ (c1).toNat))) (by
              have h8 := ezp_ss_T (t := y) (x := a1) (y := a2) (s := c1) (by omega) (by omega) (p4_0 (by omega))
              have h9 := ezp_ss_in (t := y) (x := a1) (y := a2) (s := c1 + 1) (by omega) (by omega)
              rw [ss_2, h8]
              exact ⟨by omega, by omega⟩) (by omega) (by
              first
                | (rw [ezp_ss_F (by omega) (p4_1 (by omega))]; exact ss_2)
                | (rw [ss_2]; exact ezp_ss_T (by omega) (by omega) (p4_0 (by omega)))) (by omega))
  exact ezw_keepE [true, true, true, true, true, true] (L6_2 (0) ⟨by decide, by decide⟩ (0) ⟨by decide, by decide⟩ (by omega) rfl (by omega))
def ezt_m181_0o_tQ (b2 : Bool) (F : Nat → Nat → Int) (A : Nat → Int → Int) (y : ezp_D) (a1 : Int) (a2 : Int) : Option ezq_V → (Nat → ezq_C) → Prop := fun v g' => ezu_g (true, b2) F A = g' ∧ ∃ u : Int, (ezw_in u) ∧ (u = ezp_sa y a1 a2) ∧ some (ezw_i u) = v
theorem ezt_m181_0o_t {b2 : Bool} {y : ezp_D} {a1 a2 : Int} {F : Nat → Nat → Int} {A : Nat → Int → Int} (hS : ezs_T F A) (hd : 4 ≤ d) (ha1 : ezw_in a1) (ha2 : ezw_in a2) (tr : ezt_TR 47 y F A) (nu : ezt_NU 47 y A) (hB : ezp_B y) : ezw_C l ρ B xa Hb D cA 181 d [ezw_p 0, ezw_i a1, ezw_i a2] (ezu_g (true, b2) F A) (ezt_m181_0o_tQ b2 F A y a1 a2) := by
  refine ezw_met (k := 0) rfl rfl ?_
  obtain ⟨⟨c1, c2, c3, c4⟩, ⟨d1, d2, d3, d4, d5, d6, d7, d8⟩, e3, e4, e5, e6⟩ := id tr
  obtain ⟨b1, b2', b3, b4, b5, b6, b7, ⟨b8, b8'⟩, b9⟩ := id hB
  have n10 : A 61 10 = y.nu 10 := nu 10 (by decide) (by decide)
  have nb10 : 1 ≤ y.nu 10 ∧ y.nu 10 ≤ 15 := b8 10 (by decide) (by decide)
  refine ezw_iload_n rfl rfl ?_
  refine ezw_iload_n rfl rfl ?_
  refine ezw_call2_2 rfl (by omega) rfl rfl (ezt_m182o hS (by omega) ha1 ha2) ?_
  rintro _ _ ⟨rfl, u2, hu2, p1_0, p1_1, rfl⟩
  refine ezw_if_eq rfl rfl ⟨by omega, by omega⟩ (fun h5_2 => ?_) (fun h5_2 => ?_)
  · refine ezw_iconst (-1) rfl rfl ?_
    exact ezw_ireturn rfl rfl ⟨rfl, (-1), ⟨by decide, by decide⟩, by
          unfold ezp_sa
          first
            | (rw [if_neg (p1_1 (by omega))])
            | (rw [if_pos (p1_0 (by omega))]; exact (show False by omega)), rfl⟩
  · refine ezw_aload_n rfl rfl ?_
    refine ezs_getp (p := 47) rfl rfl rfl rfl rfl ?_
    refine ezs_getp (p := 55) rfl rfl rfl rfl rfl ?_
    refine ezw_iload_n rfl rfl ?_
    refine ezw_iload_n rfl rfl ?_
    refine ezw_aload_n rfl rfl ?_
    refine ezs_getp (p := 47) rfl rfl rfl rfl rfl ?_
    refine ezw_bipush (10) rfl rfl ?_
    refine ezw_call0_1 rfl (by omega) (ezu_at rfl) rfl rfl rfl rfl (ezt_m95_47o hS (by omega) ⟨by decide, by decide⟩) ?_
    rintro _ _ ⟨rfl, u4, hu4, v_3, rfl⟩
    have z3 := v_3 (by omega) (by omega)
    refine ezw_call0_3 rfl (by omega) (ezu_at rfl) rfl rfl rfl rfl (ezt_m183_55o hS (by omega) ha1 ha2 hu4 tr nu hB (by omega)) ?_
    rintro _ _ ⟨rfl, u6, hu6, an_5, rfl⟩
    refine ezw_goto rfl rfl ?_
    exact ezw_ireturn rfl rfl ⟨rfl, u6, hu6, by
          unfold ezp_sa
          first
            | (rw [if_neg (p1_1 (by omega))])
            | (rw [if_pos (p1_0 (by omega))]; exact an_5), rfl⟩
def ezt_m186_55oQ (e : Bool × Bool) (F : Nat → Nat → Int) (A : Nat → Int → Int) (y : ezp_D) (sd : Int) (a1 : Int) (a2 : Int) : Option ezq_V → (Nat → ezq_C) → Prop := fun v g' => ezu_g e F A = g' ∧ ∃ u : Int, (ezw_in u) ∧ (u = ezp_pl2 y sd) ∧ some (ezw_i u) = v
theorem ezt_m186_55o {y : ezp_D} {sd : Int} {a1 a2 : Int} {F : Nat → Nat → Int} {A : Nat → Int → Int} (hS : ezs_T F A) (hd : 4 ≤ d) (ha1 : ezw_in a1) (ha2 : ezw_in a2) (tr : ezt_TR 47 y F A) (nu : ezt_NU 47 y A) (hB : ezp_B y) (ga : a2 = y.nu 10) (gs : sd = -1 ∧ a1 = 15 ∨ 0 ≤ sd ∧ sd < 4 ∧ a1 = 1 * 2 ^ sd.toNat) : ezw_C l ρ B xa Hb D cA 186 d [ezw_p 55, ezw_i a1, ezw_i a2] (ezu_g e F A) (ezt_m186_55oQ e F A y sd a1 a2) := by
  refine ezw_met (k := 3) rfl rfl ?_
  obtain ⟨⟨c1, c2, c3, c4⟩, ⟨d1, d2, d3, d4, d5, d6, d7, d8⟩, e3, e4, e5, e6⟩ := id tr
  obtain ⟨b1, b2', b3, b4, b5, b6, b7, ⟨b8, b8'⟩, b9⟩ := id hB
  have n10 : A 61 10 = y.nu 10 := nu 10 (by decide) (by decide)
  have nb10 : 1 ≤ y.nu 10 ∧ y.nu 10 ≤ 15 := b8 10 (by decide) (by decide)
  have hsd : -1 ≤ sd ∧ sd ≤ 3 := by omega
  refine ezw_iconst (0) rfl rfl ?_
  refine ezw_istore_n rfl rfl ?_
  refine ezw_iconst (0) rfl rfl ?_
  refine ezw_istore rfl rfl ?_
  have L5_2 : ∀ c1 : Int, ezw_in c1 → ∀ y3 : Int, ezw_in y3 → ((0) ≤ c1) → (y3 = ezp_sm (fun x => ezp_sm (fun z => ezp_ht y sd x z) 16) (c1).toNat) → (c1 ≤ 16) → (0 ≤ y3 ∧ y3 ≤ 16 * c1) → ezw_E l ρ B xa Hb D cA d ezq_re186 (ezt_m186_55oQ e F A y sd a1 a2) 5 [some (ezw_p 55), some (ezw_i a1), some (ezw_i a2), some (ezw_i y3), some (ezw_i c1), none] [] (ezu_g e F A) := by
    refine ezs_up ?_
    intro c1 hc1 ihc1 y3 hy3 g_2 sm_2 sb_2 sr_2
    refine ezw_iload rfl rfl ?_
    refine ezw_bipush (16) rfl rfl ?_
    refine ezw_icmp_ge rfl rfl hc1 ⟨by decide, by decide⟩ (fun h9_3 => ?_) (fun h9_3 => ?_)
    · refine ezw_iload_n rfl rfl ?_
      exact ezw_ireturn rfl rfl ⟨rfl, y3, hy3, (by
            have h7 := sm_2
            rw [show c1 = 16 by omega] at h7
            exact h7), rfl⟩
    · refine ezw_iconst (0) rfl rfl ?_
      refine ezw_istore rfl rfl ?_
      have L15_5 : ∀ c4 : Int, ezw_in c4 → ∀ y6 : Int, ezw_in y6 → ((0) ≤ c4) → (y6 = y3 + ezp_sm (fun z => ezp_ht y sd c1 z) (c4).toNat) → (c4 ≤ 16) → (y3 ≤ y6 ∧ y6 ≤ y3 + c4) → ezw_E l ρ B xa Hb D cA d ezq_re186 (ezt_m186_55oQ e F A y sd a1 a2) 15 [some (ezw_p 55), some (ezw_i a1), some (ezw_i a2), some (ezw_i y6), some (ezw_i c1), some (ezw_i c4)] [] (ezu_g e F A) := by
        refine ezs_up ?_
        intro c4 hc4 ihc4 y6 hy6 g_5 sn_5 sb_5 sr_5
        refine ezw_iload rfl rfl ?_
        refine ezw_bipush (16) rfl rfl ?_
        refine ezw_icmp_ge rfl rfl hc4 ⟨by decide, by decide⟩ (fun h19_6 => ?_) (fun h19_6 => ?_)
        · refine ezw_iinc (k := c1 + 1) (1) rfl rfl rfl (by omega) rfl ?_
          refine ezw_goto rfl rfl ?_
          exact ezw_keepE [true, true, true, true, true, false] (ihc1 (c1 + 1) (by omega) ⟨by omega, by omega⟩ y6 hy6 (by omega) (by
                have h6 : ezp_sm (fun x => ezp_sm (fun z => ezp_ht y sd x z) 16) (c1 + 1).toNat = ezp_sm (fun x => ezp_sm (fun z => ezp_ht y sd x z) 16) (c1).toNat + ezp_sm (fun z => ezp_ht y sd c1 z) 16 := ezp_sm_n (by omega)
                have h7 := sn_5
                rw [show c4 = 16 by omega] at h7
                rw [h6, ← sm_2]
                exact h7) (by omega) (by omega))
        · refine ezw_aload_n rfl rfl ?_
          refine ezw_iload rfl rfl ?_
          refine ezw_iload rfl rfl ?_
          refine ezw_iload_n rfl rfl ?_
          refine ezw_call0_3 rfl (by omega) (ezu_at rfl) rfl rfl rfl rfl (ezt_m183_55o hS (by omega) hc1 hc4 ha2 tr nu hB (by omega)) ?_
          rintro _ _ ⟨rfl, u8, hu8, an_7, rfl⟩
          refine ezw_iload_n rfl rfl ?_
          refine ezw_iand rfl (k := ezw_and u8 a1) rfl ?_
          refine ezw_iload_n rfl rfl ?_
          have hht : (ezw_and u8 a1) = a1 ↔ ezp_ht y sd c1 c4 = 1 := by
            rw [an_7]
            exact ezp_hit gs
          have hh01 : ezp_ht y sd c1 c4 = 0 ∨ ezp_ht y sd c1 c4 = 1 := ezp_ht01 (by omega)
          have hsn : ezp_sm (fun z => ezp_ht y sd c1 z) (c4 + 1).toNat = ezp_sm (fun z => ezp_ht y sd c1 z) (c4).toNat + ezp_ht y sd c1 c4 := ezp_sm_n (by omega)
          refine ezw_icmp_ne rfl rfl (by
                have h9 := ezp_ss_r (t := y) (x := c1) (y := c4)
                rw [an_7]
                exact ezp_and_in gs h9) ha1 (fun h34_8 => ?_) (fun h34_8 => ?_)
          · refine ezw_iinc (k := c4 + 1) (1) rfl rfl rfl (by omega) rfl ?_
            refine ezw_goto rfl rfl ?_
            exact ezw_keepE [true, true, true, true, true, true] (ihc4 (c4 + 1) (by omega) ⟨by omega, by omega⟩ y6 hy6 (by omega) (by
                  have h7 := sn_5
                  rw [hsn]
                  first
                    | (have h8 := hht.mp (by omega); omega)
                    | (have h8 : ¬ ezp_ht y sd c1 c4 = 1 := fun z => absurd (hht.mpr z) (by omega); omega)) (by omega) (by omega))
          · refine ezw_iinc (k := y6 + 1) (1) rfl rfl rfl (by omega) rfl ?_
            refine ezw_iinc (k := c4 + 1) (1) rfl rfl rfl (by omega) rfl ?_
            refine ezw_goto rfl rfl ?_
            exact ezw_keepE [true, true, true, true, true, true] (ihc4 (c4 + 1) (by omega) ⟨by omega, by omega⟩ (y6 + 1) ⟨by omega, by omega⟩ (by omega) (by
                  have h7 := sn_5
                  rw [hsn]
                  first
                    | (have h8 := hht.mp (by omega); omega)
                    | (have h8 : ¬ ezp_ht y sd c1 c4 = 1 := fun z => absurd (hht.mpr z) (by omega); omega)) (by omega) (by omega))
      exact ezw_keepE [true, true, true, true, true, true] (L15_5 (0) ⟨by decide, by decide⟩ y3 hy3 (by omega) (Int.add_zero _).symm (by omega) (by omega))
  exact ezw_keepE [true, true, true, true, true, false] (L5_2 (0) ⟨by decide, by decide⟩ (0) ⟨by decide, by decide⟩ (by omega) rfl (by omega) (by omega))
def ezt_m185_0o_tQ (b2 : Bool) (F : Nat → Nat → Int) (A : Nat → Int → Int) (y : ezp_D) (a1 : Int) : Option ezq_V → (Nat → ezq_C) → Prop := fun v g' => ezu_g (true, b2) F A = g' ∧ ∃ u : Int, (ezw_in u) ∧ (u = ezp_pla y a1) ∧ some (ezw_i u) = v
theorem ezt_m185_0o_t {b2 : Bool} {y : ezp_D} {a1 : Int} {F : Nat → Nat → Int} {A : Nat → Int → Int} (hS : ezs_T F A) (hd : 5 ≤ d) (ha1 : ezw_in a1) (tr : ezt_TR 47 y F A) (nu : ezt_NU 47 y A) (hB : ezp_B y) : ezw_C l ρ B xa Hb D cA 185 d [ezw_p 0, ezw_i a1] (ezu_g (true, b2) F A) (ezt_m185_0o_tQ b2 F A y a1) := by
  refine ezw_met (k := 0) rfl rfl ?_
  obtain ⟨⟨c1, c2, c3, c4⟩, ⟨d1, d2, d3, d4, d5, d6, d7, d8⟩, e3, e4, e5, e6⟩ := id tr
  obtain ⟨b1, b2', b3, b4, b5, b6, b7, ⟨b8, b8'⟩, b9⟩ := id hB
  have n10 : A 61 10 = y.nu 10 := nu 10 (by decide) (by decide)
  have nb10 : 1 ≤ y.nu 10 ∧ y.nu 10 ≤ 15 := b8 10 (by decide) (by decide)
  refine ezw_iload_n rfl rfl ?_
  refine ezw_iconst (-1) rfl rfl ?_
  refine ezw_icmp_eq rfl rfl ha1 ⟨by decide, by decide⟩ (fun h2_0 => ?_) (fun h2_0 => ?_)
  · refine ezw_aload_n rfl rfl ?_
    refine ezs_getp (p := 47) rfl rfl rfl rfl rfl ?_
    refine ezs_getp (p := 55) rfl rfl rfl rfl rfl ?_
    refine ezw_iload_n rfl rfl ?_
    refine ezw_iconst (-1) rfl rfl ?_
    refine ezw_icmp_ne rfl rfl ha1 ⟨by decide, by decide⟩ (fun h23_0 => ?_) (fun h23_0 => ?_)
    · refine ezw_iconst (1) rfl rfl ?_
      refine ezw_iload_n rfl rfl ?_
      refine ezw_ishl rfl (by omega) (by omega) (k := (1 * 2 ^ (a1).toNat)) (rfl) ?_
      refine ezw_aload_n rfl rfl ?_
      refine ezs_getp (p := 47) rfl rfl rfl rfl rfl ?_
      refine ezw_bipush (10) rfl rfl ?_
      refine ezw_call0_1 rfl (by omega) (ezu_at rfl) rfl rfl rfl rfl (ezt_m95_47o hS (by omega) ⟨by decide, by decide⟩) ?_
      rintro _ _ ⟨rfl, u2, hu2, v_1, rfl⟩
      have z1 := v_1 (by omega) (by omega)
      refine ezw_call0_2 rfl (by omega) (ezu_at rfl) rfl rfl rfl rfl (ezt_m186_55o (sd := a1) hS (by omega) (ezp_2in (by omega) (by omega)) hu2 tr nu hB (by omega) (by first | exact Or.inl ⟨by omega, rfl⟩ | exact Or.inr ⟨by omega, by omega, rfl⟩)) ?_
      rintro _ _ ⟨rfl, u4, hu4, an_3, rfl⟩
      exact ezw_ireturn rfl rfl ⟨rfl, u4, hu4, by
            unfold ezp_pla
            first
              | (exfalso; omega)
              | (rw [if_neg (by omega)])
              | (rw [if_pos (by omega)]; exact an_3), rfl⟩
    · refine ezw_bipush (15) rfl rfl ?_
      refine ezw_goto rfl rfl ?_
      refine ezw_aload_n rfl rfl ?_
      refine ezs_getp (p := 47) rfl rfl rfl rfl rfl ?_
      refine ezw_bipush (10) rfl rfl ?_
      refine ezw_call0_1 rfl (by omega) (ezu_at rfl) rfl rfl rfl rfl (ezt_m95_47o hS (by omega) ⟨by decide, by decide⟩) ?_
      rintro _ _ ⟨rfl, u6, hu6, v_5, rfl⟩
      have z5 := v_5 (by omega) (by omega)
      refine ezw_call0_2 rfl (by omega) (ezu_at rfl) rfl rfl rfl rfl (ezt_m186_55o (sd := a1) hS (by omega) ⟨by decide, by decide⟩ hu6 tr nu hB (by omega) (by first | exact Or.inl ⟨by omega, rfl⟩ | exact Or.inr ⟨by omega, by omega, rfl⟩)) ?_
      rintro _ _ ⟨rfl, u8, hu8, an_7, rfl⟩
      exact ezw_ireturn rfl rfl ⟨rfl, u8, hu8, by
            unfold ezp_pla
            first
              | (exfalso; omega)
              | (rw [if_neg (by omega)])
              | (rw [if_pos (by omega)]; exact an_7), rfl⟩
  · refine ezw_iload_n rfl rfl ?_
    refine ezw_call2_1 rfl (by omega) rfl rfl (ezt_m112o hS (by omega) ha1) ?_
    rintro _ _ ⟨rfl, u10, hu10, p9_0, p9_1, rfl⟩
    refine ezw_if_ne rfl rfl ⟨by omega, by omega⟩ (fun h9_10 => ?_) (fun h9_10 => ?_)
    · refine ezw_aload_n rfl rfl ?_
      refine ezs_getp (p := 47) rfl rfl rfl rfl rfl ?_
      refine ezs_getp (p := 55) rfl rfl rfl rfl rfl ?_
      refine ezw_iload_n rfl rfl ?_
      refine ezw_iconst (-1) rfl rfl ?_
      refine ezw_icmp_ne rfl rfl ha1 ⟨by decide, by decide⟩ (fun h23_10 => ?_) (fun h23_10 => ?_)
      · refine ezw_iconst (1) rfl rfl ?_
        refine ezw_iload_n rfl rfl ?_
        refine ezw_ishl rfl (by omega) (by omega) (k := (1 * 2 ^ (a1).toNat)) (rfl) ?_
        refine ezw_aload_n rfl rfl ?_
        refine ezs_getp (p := 47) rfl rfl rfl rfl rfl ?_
        refine ezw_bipush (10) rfl rfl ?_
        refine ezw_call0_1 rfl (by omega) (ezu_at rfl) rfl rfl rfl rfl (ezt_m95_47o hS (by omega) ⟨by decide, by decide⟩) ?_
        rintro _ _ ⟨rfl, u12, hu12, v_11, rfl⟩
        have z11 := v_11 (by omega) (by omega)
        refine ezw_call0_2 rfl (by omega) (ezu_at rfl) rfl rfl rfl rfl (ezt_m186_55o (sd := a1) hS (by omega) (ezp_2in (by omega) (by omega)) hu12 tr nu hB (by omega) (by first | exact Or.inl ⟨by omega, rfl⟩ | exact Or.inr ⟨by omega, by omega, rfl⟩)) ?_
        rintro _ _ ⟨rfl, u14, hu14, an_13, rfl⟩
        exact ezw_ireturn rfl rfl ⟨rfl, u14, hu14, by
              unfold ezp_pla
              first
                | (exfalso; omega)
                | (rw [if_neg (by omega)])
                | (rw [if_pos (by omega)]; exact an_13), rfl⟩
      · refine ezw_bipush (15) rfl rfl ?_
        refine ezw_goto rfl rfl ?_
        refine ezw_aload_n rfl rfl ?_
        refine ezs_getp (p := 47) rfl rfl rfl rfl rfl ?_
        refine ezw_bipush (10) rfl rfl ?_
        refine ezw_call0_1 rfl (by omega) (ezu_at rfl) rfl rfl rfl rfl (ezt_m95_47o hS (by omega) ⟨by decide, by decide⟩) ?_
        rintro _ _ ⟨rfl, u16, hu16, v_15, rfl⟩
        have z15 := v_15 (by omega) (by omega)
        refine ezw_call0_2 rfl (by omega) (ezu_at rfl) rfl rfl rfl rfl (ezt_m186_55o (sd := a1) hS (by omega) ⟨by decide, by decide⟩ hu16 tr nu hB (by omega) (by first | exact Or.inl ⟨by omega, rfl⟩ | exact Or.inr ⟨by omega, by omega, rfl⟩)) ?_
        rintro _ _ ⟨rfl, u18, hu18, an_17, rfl⟩
        exact ezw_ireturn rfl rfl ⟨rfl, u18, hu18, by
              unfold ezp_pla
              first
                | (exfalso; omega)
                | (rw [if_neg (by omega)])
                | (rw [if_pos (by omega)]; exact an_17), rfl⟩
    · refine ezw_iconst (-1) rfl rfl ?_
      exact ezw_ireturn rfl rfl ⟨rfl, (-1), ⟨by decide, by decide⟩, by
            unfold ezp_pla
            first
              | (exfalso; omega)
              | (rw [if_neg (by omega)])
              | (rw [if_pos (by omega)]; exact (show False by omega)), rfl⟩
def ezt_m188_55oQ (e : Bool × Bool) (F : Nat → Nat → Int) (A : Nat → Int → Int) (y : ezp_D) (a1 : Int) (a2 : Int) (a3 : Int) : Option ezq_V → (Nat → ezq_C) → Prop := fun v g' => ezu_g e F A = g' ∧ ∃ u : Int, (ezw_in u) ∧ (ezp_ne y a1 a2 ezp_map u) ∧ some (ezw_i u) = v
theorem ezt_m188_55o {y : ezp_D} {a1 a2 a3 : Int} {F : Nat → Nat → Int} {A : Nat → Int → Int} (hS : ezs_T F A) (hd : 4 ≤ d) (ha1 : ezw_in a1) (ha2 : ezw_in a2) (ha3 : ezw_in a3) (tr : ezt_TR 47 y F A) (nu : ezt_NU 47 y A) (hB : ezp_B y) (ga : 0 ≤ a1 ∧ a1 < 16 ∧ 0 ≤ a2 ∧ a2 < 16 ∧ a3 = y.nu 10) : ezw_C l ρ B xa Hb D cA 188 d [ezw_p 55, ezw_i a1, ezw_i a2, ezw_i a3] (ezu_g e F A) (ezt_m188_55oQ e F A y a1 a2 a3) := by
  refine ezw_met (k := 5) rfl rfl ?_
  obtain ⟨⟨c1, c2, c3, c4⟩, ⟨d1, d2, d3, d4, d5, d6, d7, d8⟩, e3, e4, e5, e6⟩ := id tr
  obtain ⟨b1, b2', b3, b4, b5, b6, b7, ⟨b8, b8'⟩, b9⟩ := id hB
  have n10 : A 61 10 = y.nu 10 := nu 10 (by decide) (by decide)
  have nb10 : 1 ≤ y.nu 10 ∧ y.nu 10 ≤ 15 := b8 10 (by decide) (by decide)
  refine ezw_iconst (-1) rfl rfl ?_
  refine ezw_istore rfl rfl ?_
  refine ezw_iconst (0) rfl rfl ?_
  refine ezw_istore rfl rfl ?_
  have L6_2 : ∀ c1 : Int, ezw_in c1 → ∀ y3 : Int, ezw_in y3 → ((0) ≤ c1) → (ezp_ne y a1 a2 (fun p r => 0 ≤ p ∧ p < c1 ∧ 0 ≤ r ∧ r < 16) y3) → (c1 ≤ 16) → (-1 ≤ y3 ∧ y3 ≤ 30) → ezw_E l ρ B xa Hb D cA d ezq_re188 (ezt_m188_55oQ e F A y a1 a2 a3) 6 [some (ezw_p 55), some (ezw_i a1), some (ezw_i a2), some (ezw_i a3), some (ezw_i y3), some (ezw_i c1), none, none, none] [] (ezu_g e F A) := by
    refine ezs_up ?_
    intro c1 hc1 ihc1 y3 hy3 g_2 ne_2 sb_2 sr_2
    refine ezw_iload rfl rfl ?_
    refine ezw_bipush (16) rfl rfl ?_
    refine ezw_icmp_ge rfl rfl hc1 ⟨by decide, by decide⟩ (fun h10_3 => ?_) (fun h10_3 => ?_)
    · refine ezw_iload rfl rfl ?_
      exact ezw_ireturn rfl rfl ⟨rfl, y3, hy3, (ezp_ne_c ne_2 (fun p r => ⟨fun h => by unfold ezp_map; omega, fun h => by unfold ezp_map at h; omega⟩)), rfl⟩
    · refine ezw_iconst (0) rfl rfl ?_
      refine ezw_istore rfl rfl ?_
      have L16_5 : ∀ c4 : Int, ezw_in c4 → ∀ y6 : Int, ezw_in y6 → ((0) ≤ c4) → (ezp_ne y a1 a2 (fun p r => 0 ≤ p ∧ p < c1 ∧ 0 ≤ r ∧ r < 16 ∨ p = c1 ∧ 0 ≤ r ∧ r < c4) y6) → (c4 ≤ 16) → (-1 ≤ y6 ∧ y6 ≤ 30) → ezw_E l ρ B xa Hb D cA d ezq_re188 (ezt_m188_55oQ e F A y a1 a2 a3) 16 [some (ezw_p 55), some (ezw_i a1), some (ezw_i a2), some (ezw_i a3), some (ezw_i y6), some (ezw_i c1), some (ezw_i c4), none, none] [] (ezu_g e F A) := by
        refine ezs_up ?_
        intro c4 hc4 ihc4 y6 hy6 g_5 ne_5 sb_5 sr_5
        refine ezw_iload rfl rfl ?_
        refine ezw_bipush (16) rfl rfl ?_
        refine ezw_icmp_ge rfl rfl hc4 ⟨by decide, by decide⟩ (fun h20_6 => ?_) (fun h20_6 => ?_)
        · refine ezw_iinc (k := c1 + 1) (1) rfl rfl rfl (by omega) rfl ?_
          refine ezw_goto rfl rfl ?_
          exact ezw_keepE [true, true, true, true, true, true, false, false, false] (ihc1 (c1 + 1) (by omega) ⟨by omega, by omega⟩ y6 hy6 (by omega) (ezp_ne_c ne_5 (fun p r => ⟨fun h => by omega, fun h => by omega⟩)) (by omega) (by omega))
        · refine ezw_iload rfl rfl ?_
          refine ezw_iload_n rfl rfl ?_
          refine ezw_isub (k := c1 - a1) rfl (by omega) ?_
          refine ezw_mabsE rfl ⟨by omega, by omega⟩ rfl (fun u7 hu7 => ?_)
          refine ezw_iload rfl rfl ?_
          refine ezw_iload_n rfl rfl ?_
          refine ezw_isub (k := c4 - a2) rfl (by omega) ?_
          refine ezw_mabsE rfl ⟨by omega, by omega⟩ rfl (fun u8 hu8 => ?_)
          refine ezw_iadd (k := u7 + u8) rfl (by omega) ?_
          refine ezw_istore rfl rfl ?_
          have hds : u7 + u8 = ezp_ds a1 a2 c1 c4 := by
            unfold ezp_ds ezp_ab
            (repeat' split) <;> omega
          refine ezw_iload rfl rfl ?_
          refine ezw_iconst (-1) rfl rfl ?_
          refine ezw_icmp_eq rfl rfl hy6 ⟨by decide, by decide⟩ (fun h43_8 => ?_) (fun h43_8 => ?_)
          · refine ezw_iconst (1) rfl rfl ?_
            refine ezw_goto rfl rfl ?_
            refine ezw_istore rfl rfl ?_
            refine ezw_iload rfl rfl ?_
            refine ezw_if_eq rfl rfl ⟨by decide, by decide⟩ (fun h62_8 => absurd h62_8 (by omega)) (fun h62_8 => ?_)
            refine ezw_aload_n rfl rfl ?_
            refine ezw_iload rfl rfl ?_
            refine ezw_iload rfl rfl ?_
            refine ezw_iload_n rfl rfl ?_
            refine ezw_call0_3 rfl (by omega) (ezu_at rfl) rfl rfl rfl rfl (ezt_m183_55o hS (by omega) hc1 hc4 ha3 tr nu hB (by omega)) ?_
            rintro _ _ ⟨rfl, u10, hu10, an_9, rfl⟩
            refine ezw_bipush (15) rfl rfl ?_
            refine ezw_icmp_ne rfl rfl hu10 ⟨by decide, by decide⟩ (fun h76_10 => ?_) (fun h76_10 => ?_)
            · refine ezw_iinc (k := c4 + 1) (1) rfl rfl rfl (by omega) rfl ?_
              refine ezw_goto rfl rfl ?_
              exact ezw_keepE [true, true, true, true, true, true, true, false, false] (ihc4 (c4 + 1) (by omega) ⟨by omega, by omega⟩ y6 hy6 (by omega) (by
                    first
                      | (have h15 : ezp_ss y c1 c4 = 15 := by rw [← an_9]; omega
                         have h9 := ezp_ne_t (t := y) (X := c1) (Y := c4) ne_5 (S := fun p r => 0 ≤ p ∧ p < c1 ∧ 0 ≤ r ∧ r < 16 ∨ p = c1 ∧ 0 ≤ r ∧ r < c4 + 1) (fun p r h => by omega) (by omega) h15 (by omega)
                         rw [← hds] at h9
                         exact h9)
                      | exact ezp_ne_s (t := y) (X := c1) (Y := c4) ne_5 (fun p r h => by omega) (fun p r h => by omega) (Or.inl (by rw [← an_9]; omega))
                      | exact ezp_ne_s (t := y) (X := c1) (Y := c4) ne_5 (fun p r h => by omega) (fun p r h => by omega) (Or.inr ⟨by omega, by omega⟩)) (by omega) (by omega))
            · refine ezw_iload rfl rfl ?_
              refine ezw_istore rfl rfl ?_
              refine ezw_iinc (k := c4 + 1) (1) rfl rfl rfl (by omega) rfl ?_
              refine ezw_goto rfl rfl ?_
              exact ezw_keepE [true, true, true, true, true, true, true, false, false] (ihc4 (c4 + 1) (by omega) ⟨by omega, by omega⟩ (u7 + u8) ⟨by omega, by omega⟩ (by omega) (by
                    first
                      | (have h15 : ezp_ss y c1 c4 = 15 := by rw [← an_9]; omega
                         have h9 := ezp_ne_t (t := y) (X := c1) (Y := c4) ne_5 (S := fun p r => 0 ≤ p ∧ p < c1 ∧ 0 ≤ r ∧ r < 16 ∨ p = c1 ∧ 0 ≤ r ∧ r < c4 + 1) (fun p r h => by omega) (by omega) h15 (by omega)
                         rw [← hds] at h9
                         exact h9)
                      | exact ezp_ne_s (t := y) (X := c1) (Y := c4) ne_5 (fun p r h => by omega) (fun p r h => by omega) (Or.inl (by rw [← an_9]; omega))
                      | exact ezp_ne_s (t := y) (X := c1) (Y := c4) ne_5 (fun p r h => by omega) (fun p r h => by omega) (Or.inr ⟨by omega, by omega⟩)) (by omega) (by omega))
          · refine ezw_iload rfl rfl ?_
            refine ezw_iload rfl rfl ?_
            refine ezw_icmp_ge rfl rfl ⟨by omega, by omega⟩ hy6 (fun h50_10 => ?_) (fun h50_10 => ?_)
            · refine ezw_iconst (0) rfl rfl ?_
              refine ezw_istore rfl rfl ?_
              refine ezw_iload rfl rfl ?_
              refine ezw_if_eq rfl rfl ⟨by decide, by decide⟩ (fun h62_10 => ?_) (fun h62_10 => absurd h62_10 (by omega))
              refine ezw_iinc (k := c4 + 1) (1) rfl rfl rfl (by omega) rfl ?_
              refine ezw_goto rfl rfl ?_
              exact ezw_keepE [true, true, true, true, true, true, true, false, false] (ihc4 (c4 + 1) (by omega) ⟨by omega, by omega⟩ y6 hy6 (by omega) (by
                    first
                      | exact ezp_ne_s (t := y) (X := c1) (Y := c4) ne_5 (fun p r h => by omega) (fun p r h => by omega) (Or.inr ⟨by omega, by omega⟩)) (by omega) (by omega))
            · refine ezw_iconst (1) rfl rfl ?_
              refine ezw_goto rfl rfl ?_
              refine ezw_istore rfl rfl ?_
              refine ezw_iload rfl rfl ?_
              refine ezw_if_eq rfl rfl ⟨by decide, by decide⟩ (fun h62_10 => absurd h62_10 (by omega)) (fun h62_10 => ?_)
              refine ezw_aload_n rfl rfl ?_
              refine ezw_iload rfl rfl ?_
              refine ezw_iload rfl rfl ?_
              refine ezw_iload_n rfl rfl ?_
              refine ezw_call0_3 rfl (by omega) (ezu_at rfl) rfl rfl rfl rfl (ezt_m183_55o hS (by omega) hc1 hc4 ha3 tr nu hB (by omega)) ?_
              rintro _ _ ⟨rfl, u12, hu12, an_11, rfl⟩
              refine ezw_bipush (15) rfl rfl ?_
              refine ezw_icmp_ne rfl rfl hu12 ⟨by decide, by decide⟩ (fun h76_12 => ?_) (fun h76_12 => ?_)
              · refine ezw_iinc (k := c4 + 1) (1) rfl rfl rfl (by omega) rfl ?_
                refine ezw_goto rfl rfl ?_
                exact ezw_keepE [true, true, true, true, true, true, true, false, false] (ihc4 (c4 + 1) (by omega) ⟨by omega, by omega⟩ y6 hy6 (by omega) (by
                      first
                        | (have h15 : ezp_ss y c1 c4 = 15 := by rw [← an_11]; omega
                           have h9 := ezp_ne_t (t := y) (X := c1) (Y := c4) ne_5 (S := fun p r => 0 ≤ p ∧ p < c1 ∧ 0 ≤ r ∧ r < 16 ∨ p = c1 ∧ 0 ≤ r ∧ r < c4 + 1) (fun p r h => by omega) (by omega) h15 (by omega)
                           rw [← hds] at h9
                           exact h9)
                        | exact ezp_ne_s (t := y) (X := c1) (Y := c4) ne_5 (fun p r h => by omega) (fun p r h => by omega) (Or.inl (by rw [← an_11]; omega))
                        | exact ezp_ne_s (t := y) (X := c1) (Y := c4) ne_5 (fun p r h => by omega) (fun p r h => by omega) (Or.inr ⟨by omega, by omega⟩)) (by omega) (by omega))
              · refine ezw_iload rfl rfl ?_
                refine ezw_istore rfl rfl ?_
                refine ezw_iinc (k := c4 + 1) (1) rfl rfl rfl (by omega) rfl ?_
                refine ezw_goto rfl rfl ?_
                exact ezw_keepE [true, true, true, true, true, true, true, false, false] (ihc4 (c4 + 1) (by omega) ⟨by omega, by omega⟩ (u7 + u8) ⟨by omega, by omega⟩ (by omega) (by
                      first
                        | (have h15 : ezp_ss y c1 c4 = 15 := by rw [← an_11]; omega
                           have h9 := ezp_ne_t (t := y) (X := c1) (Y := c4) ne_5 (S := fun p r => 0 ≤ p ∧ p < c1 ∧ 0 ≤ r ∧ r < 16 ∨ p = c1 ∧ 0 ≤ r ∧ r < c4 + 1) (fun p r h => by omega) (by omega) h15 (by omega)
                           rw [← hds] at h9
                           exact h9)
                        | exact ezp_ne_s (t := y) (X := c1) (Y := c4) ne_5 (fun p r h => by omega) (fun p r h => by omega) (Or.inl (by rw [← an_11]; omega))
                        | exact ezp_ne_s (t := y) (X := c1) (Y := c4) ne_5 (fun p r h => by omega) (fun p r h => by omega) (Or.inr ⟨by omega, by omega⟩)) (by omega) (by omega))
      exact ezw_keepE [true, true, true, true, true, true, true, false, false] (L16_5 (0) ⟨by decide, by decide⟩ y3 hy3 (by omega) (ezp_ne_c ne_2 (fun p r => ⟨fun h => by omega, fun h => by omega⟩)) (by omega) (by omega))
  exact ezw_keepE [true, true, true, true, true, true, false, false, false] (L6_2 (0) ⟨by decide, by decide⟩ (-1) ⟨by decide, by decide⟩ (by omega) (ezp_ne_0 (fun p r h => by omega)) (by omega) (by omega))
def ezt_m187_0o_tQ (b2 : Bool) (F : Nat → Nat → Int) (A : Nat → Int → Int) (y : ezp_D) (a1 : Int) (a2 : Int) : Option ezq_V → (Nat → ezq_C) → Prop := fun v g' => ezu_g (true, b2) F A = g' ∧ ∃ u : Int, (ezw_in u) ∧ (ezp_nea y a1 a2 u) ∧ some (ezw_i u) = v
theorem ezt_m187_0o_t {b2 : Bool} {y : ezp_D} {a1 a2 : Int} {F : Nat → Nat → Int} {A : Nat → Int → Int} (hS : ezs_T F A) (hd : 5 ≤ d) (ha1 : ezw_in a1) (ha2 : ezw_in a2) (tr : ezt_TR 47 y F A) (nu : ezt_NU 47 y A) (hB : ezp_B y) : ezw_C l ρ B xa Hb D cA 187 d [ezw_p 0, ezw_i a1, ezw_i a2] (ezu_g (true, b2) F A) (ezt_m187_0o_tQ b2 F A y a1 a2) := by
  refine ezw_met (k := 0) rfl rfl ?_
  obtain ⟨⟨c1, c2, c3, c4⟩, ⟨d1, d2, d3, d4, d5, d6, d7, d8⟩, e3, e4, e5, e6⟩ := id tr
  obtain ⟨b1, b2', b3, b4, b5, b6, b7, ⟨b8, b8'⟩, b9⟩ := id hB
  have n10 : A 61 10 = y.nu 10 := nu 10 (by decide) (by decide)
  have nb10 : 1 ≤ y.nu 10 ∧ y.nu 10 ≤ 15 := b8 10 (by decide) (by decide)
  refine ezw_iload_n rfl rfl ?_
  refine ezw_iload_n rfl rfl ?_
  refine ezw_call2_2 rfl (by omega) rfl rfl (ezt_m182o hS (by omega) ha1 ha2) ?_
  rintro _ _ ⟨rfl, u2, hu2, p1_0, p1_1, rfl⟩
  refine ezw_if_eq rfl rfl ⟨by omega, by omega⟩ (fun h5_2 => ?_) (fun h5_2 => ?_)
  · refine ezw_iconst (-1) rfl rfl ?_
    exact ezw_ireturn rfl rfl ⟨rfl, (-1), ⟨by decide, by decide⟩, by
          first
            | exact Or.inr ⟨p1_1 (by omega), rfl⟩
            | (have h9 := p1_0 (by omega); exact Or.inl ⟨h9.1, h9.2.1, h9.2.2.1, h9.2.2.2, (show False by omega)⟩), rfl⟩
  · refine ezw_aload_n rfl rfl ?_
    refine ezs_getp (p := 47) rfl rfl rfl rfl rfl ?_
    refine ezs_getp (p := 55) rfl rfl rfl rfl rfl ?_
    refine ezw_iload_n rfl rfl ?_
    refine ezw_iload_n rfl rfl ?_
    refine ezw_aload_n rfl rfl ?_
    refine ezs_getp (p := 47) rfl rfl rfl rfl rfl ?_
    refine ezw_bipush (10) rfl rfl ?_
    refine ezw_call0_1 rfl (by omega) (ezu_at rfl) rfl rfl rfl rfl (ezt_m95_47o hS (by omega) ⟨by decide, by decide⟩) ?_
    rintro _ _ ⟨rfl, u4, hu4, v_3, rfl⟩
    have z3 := v_3 (by omega) (by omega)
    refine ezw_call0_3 rfl (by omega) (ezu_at rfl) rfl rfl rfl rfl (ezt_m188_55o hS (by omega) ha1 ha2 hu4 tr nu hB (by omega)) ?_
    rintro _ _ ⟨rfl, u6, hu6, an_5, rfl⟩
    refine ezw_goto rfl rfl ?_
    exact ezw_ireturn rfl rfl ⟨rfl, u6, hu6, by
          first
            | exact Or.inr ⟨p1_1 (by omega), rfl⟩
            | (have h9 := p1_0 (by omega); exact Or.inl ⟨h9.1, h9.2.1, h9.2.2.1, h9.2.2.2, an_5⟩), rfl⟩
end KT
