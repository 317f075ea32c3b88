/-! ===== the program: tokens as they are asked for ===== -/
section KT
variable {l : Launch} {ρ : ezq_E} {B : Nat} {xa : Nat → Option Nat} {Hb : Heap} {D : va_G} {cA : Nat → ClassId} {d : Nat} {e : Bool × Bool}
def ezt_m45_1Q (e : Bool × Bool) (F : Nat → Nat → Int) (A : Nat → Int → Int) : Option ezq_V → (Nat → ezq_C) → Prop := fun v g' => ezu_g e F A = g' ∧ ∃ u : Int, (0 ≤ u ∧ u ≤ 1) ∧ (u = 1 → F 1 6 = 0) ∧ (u = 0 → F 1 6 ≠ 0) ∧ some (ezw_i u) = v
theorem ezt_m45_1 {F : Nat → Nat → Int} {A : Nat → Int → Int} (hS : ezs_T F A) (hd : 0 ≤ d) : ezw_C l ρ B xa Hb D cA 45 d [ezw_p 1] (ezu_g e F A) (ezt_m45_1Q e F A) := by
  refine ezw_met (k := 0) rfl rfl ?_
  refine ezw_aload_n rfl rfl ?_
  refine ezy_get_i hS rfl rfl rfl rfl rfl rfl (fun u1 hu1 ku1 eu1 => ?_)
  replace eu1 := eu1.symm
  subst eu1
  refine ezw_if_ne rfl rfl hu1 (fun h4_1 => ?_) (fun h4_1 => ?_)
  · refine ezw_iconst (0) rfl rfl ?_
    exact ezw_ireturn rfl (ezw_zret ⟨by omega, by omega⟩) ⟨rfl, (0), ⟨by omega, by omega⟩, by omega, by omega, rfl⟩
  · refine ezw_iconst (1) rfl rfl ?_
    refine ezw_goto rfl rfl ?_
    exact ezw_ireturn rfl (ezw_zret ⟨by omega, by omega⟩) ⟨rfl, (1), ⟨by omega, by omega⟩, by omega, by omega, rfl⟩
def ezt_m46_1Q (e : Bool × Bool) (F : Nat → Nat → Int) (A : Nat → Int → Int) (c : Int → Int) (n : Int) (s : Int × Int) (a1 : Int) : Option ezq_V → (Nat → ezq_C) → Prop := fun v g' => ezu_g e F A = g' ∧ ∃ u : Int, (0 ≤ u ∧ u ≤ 1) ∧ (u = 1 → s.1 = 0 ∧ ezp_K c s.2 = a1) ∧ (u = 0 → s.1 ≠ 0 ∨ ezp_K c s.2 ≠ a1) ∧ some (ezw_i u) = v
theorem ezt_m46_1 {c : Int → Int} {n : Int} {s : Int × Int} {a1 : Int} {F : Nat → Nat → Int} {A : Nat → Int → Int} (hS : ezs_T F A) (hd : 0 ≤ d) (ha1 : ezw_in a1) (hn : F 1 2 = n) (hc : c = ezp_ch (A 2) n) (tp : ezp_tp c n) (st : ezt_ST c n s F) : ezw_C l ρ B xa Hb D cA 46 d [ezw_p 1, ezw_i a1] (ezu_g e F A) (ezt_m46_1Q e F A c n s a1) := by
  refine ezw_met (k := 0) rfl rfl ?_
  have hn0 := tp.1
  have hn1 := tp.2.1
  obtain ⟨sf, sk, sc, sb, sb2⟩ := id st
  have hP := ezp_Pr tp s.2
  have c3i : s.1 = 0 → F 1 3 = ezp_K c s.2 := fun z => (sc z).2.2.1
  have c8i : s.1 = 0 → F 1 8 = ezp_P c s.2 := fun z => (sc z).1
  have c4i : s.1 = 0 → ezp_K c s.2 = 101 → F 1 4 = ezp_V c s.2 := fun z => (sc z).2.2.2.1
  have c7i : s.1 = 0 → ezp_K c s.2 = 100 → F 1 7 = ezp_v 32 (ezp_W c s.2) ∧ F 1 5 = ezp_ix (ezp_W c s.2) - 44 := fun z => (sc z).2.2.2.2
  refine ezw_aload_n rfl rfl ?_
  refine ezy_get_i hS rfl rfl rfl rfl rfl rfl (fun u1 hu1 ku1 eu1 => ?_)
  replace eu1 := eu1.symm
  subst eu1
  refine ezw_if_ne rfl rfl hu1 (fun h4_1 => ?_) (fun h4_1 => ?_)
  · refine ezw_iconst (0) rfl rfl ?_
    exact ezw_ireturn rfl (ezw_zret ⟨by omega, by omega⟩) ⟨rfl, (0), ⟨by omega, by omega⟩, by omega, by omega, rfl⟩
  · refine ezw_aload_n rfl rfl ?_
    refine ezy_get_i hS rfl rfl rfl rfl rfl rfl (fun u2 hu2 ku2 eu2 => ?_)
    replace eu2 := eu2.symm
    subst eu2
    refine ezw_iload_n rfl rfl ?_
    refine ezw_icmp_ne rfl rfl hu2 ha1 (fun h12_2 => ?_) (fun h12_2 => ?_)
    · refine ezw_iconst (0) rfl rfl ?_
      exact ezw_ireturn rfl (ezw_zret ⟨by omega, by omega⟩) ⟨rfl, (0), ⟨by omega, by omega⟩, by omega, by omega, rfl⟩
    · refine ezw_iconst (1) rfl rfl ?_
      refine ezw_goto rfl rfl ?_
      exact ezw_ireturn rfl (ezw_zret ⟨by omega, by omega⟩) ⟨rfl, (1), ⟨by omega, by omega⟩, by omega, by omega, rfl⟩
def ezt_m50_1Q (e : Bool × Bool) (F : Nat → Nat → Int) (A : Nat → Int → Int) (c : Int → Int) (n : Int) (s : Int × Int) (a1 : Int) : Option ezq_V → (Nat → ezq_C) → Prop := fun v g' => ∃ (F' : Nat → Nat → Int), ezu_g e F' A = g' ∧ ezs_T F' A ∧ (∀ p j, ¬ (p = 1 ∧ (j = 6)) → F' p j = F p j) ∧ (ezt_ST c n (ezp_wr c a1 s) F') ∧ none = v
theorem ezt_m50_1 {c : Int → Int} {n : Int} {s : Int × Int} {a1 : Int} {F : Nat → Nat → Int} {A : Nat → Int → Int} (hS : ezs_T F A) (hd : 0 ≤ d) (ha1 : ezw_in a1) (hn : F 1 2 = n) (hc : c = ezp_ch (A 2) n) (tp : ezp_tp c n) (st : ezt_ST c n s F) (ga : 1 ≤ a1 ∧ a1 ≤ 5) : ezw_C l ρ B xa Hb D cA 50 d [ezw_p 1, ezw_i a1] (ezu_g e F A) (ezt_m50_1Q e F A c n s a1) := by
  refine ezw_met (k := 0) rfl rfl ?_
  have hn0 := tp.1
  have hn1 := tp.2.1
  obtain ⟨sf, sk, sc, sb, sb2⟩ := id st
  have hP := ezp_Pr tp s.2
  have c3i : s.1 = 0 → F 1 3 = ezp_K c s.2 := fun z => (sc z).2.2.1
  have c8i : s.1 = 0 → F 1 8 = ezp_P c s.2 := fun z => (sc z).1
  have c4i : s.1 = 0 → ezp_K c s.2 = 101 → F 1 4 = ezp_V c s.2 := fun z => (sc z).2.2.2.1
  have c7i : s.1 = 0 → ezp_K c s.2 = 100 → F 1 7 = ezp_v 32 (ezp_W c s.2) ∧ F 1 5 = ezp_ix (ezp_W c s.2) - 44 := fun z => (sc z).2.2.2.2
  refine ezw_aload_n rfl rfl ?_
  refine ezy_get_i hS rfl rfl rfl rfl rfl rfl (fun u1 hu1 ku1 eu1 => ?_)
  replace eu1 := eu1.symm
  subst eu1
  refine ezw_if_ne rfl rfl hu1 (fun h4_1 => ?_) (fun h4_1 => ?_)
  · exact ezw_return rfl rfl ⟨F, rfl, hS, (fun _ _ _ => rfl), by rw [ezp_wr_n (by omega)]; exact st, rfl⟩
  · refine ezw_aload_n rfl rfl ?_
    refine ezw_iload_n rfl rfl ?_
    refine ezw_bipush (16) rfl rfl ?_
    refine ezw_aload_n rfl rfl ?_
    refine ezy_get_i hS rfl rfl rfl rfl rfl rfl (fun u2 hu2 ku2 eu2 => ?_)
    replace eu2 := eu2.symm
    subst eu2
    refine ezw_imul (k := 16 * (F 1 8)) rfl (by omega) ?_
    refine ezw_iadd (k := a1 + 16 * (F 1 8)) rfl (by omega) ?_
    refine ezy_put_i hS rfl rfl rfl rfl rfl ⟨by omega, by omega⟩ (fun F3 hS mF3 nF3 => ?_)
    exact ezw_return rfl rfl ⟨F3, rfl, hS, (fun p j h => by rw [nF3 p j (by omega)]), ezt_ST_wr st ga.1 hP.1 ⟨fun _ => by omega, fun z => absurd z (by omega)⟩ (fun j j0 j1 j6 => by rw [nF3 1 j (by omega)]), rfl⟩
def ezt_m60_1Q (e : Bool × Bool) (F : Nat → Nat → Int) (A : Nat → Int → Int) (c : Int → Int) (n : Int) (s : Int × Int) (a1 : Int) : Option ezq_V → (Nat → ezq_C) → Prop := fun v g' => ∃ (F' : Nat → Nat → Int), ezu_g e F' A = g' ∧ ezs_T F' A ∧ (∀ p j, ¬ (p = 1 ∧ (j = 3 ∨ j = 4 ∨ j = 5 ∨ j = 7 ∨ j = 8 ∨ j = 9)) → F' p j = F p j) ∧ ∃ u : Int, (0 ≤ u ∧ u ≤ 1) ∧ (u = 1 → s.1 = 0 ∧ ezp_K c s.2 = a1) ∧ (u = 0 → s.1 ≠ 0 ∨ ezp_K c s.2 ≠ a1) ∧ (ezt_ST c n (ezp_tk c a1 s) F') ∧ some (ezw_i u) = v
theorem ezt_m60_1 {c : Int → Int} {n : Int} {s : Int × Int} {a1 : Int} {F : Nat → Nat → Int} {A : Nat → Int → Int} (hS : ezs_T F A) (hd : 7 ≤ d) (ha1 : ezw_in a1) (hn : F 1 2 = n) (hc : c = ezp_ch (A 2) n) (tp : ezp_tp c n) (hw : ∀ j, 0 ≤ j → j < 48 → A 3 j = ezl_cw.getD j.toNat 0) (st : ezt_ST c n s F) : ezw_C l ρ B xa Hb D cA 60 d [ezw_p 1, ezw_i a1] (ezu_g e F A) (ezt_m60_1Q e F A c n s a1) := by
  refine ezw_met (k := 0) rfl rfl ?_
  refine ezw_aload_n rfl rfl ?_
  refine ezw_iload_n rfl rfl ?_
  refine ezw_call0_1 rfl (by omega) (ezu_at rfl) rfl rfl rfl rfl (ezt_m46_1 hS (by omega) ha1 hn hc tp st) ?_
  rintro _ _ ⟨rfl, u2, hu2, p1_0, p1_1, rfl⟩
  refine ezw_if_ne rfl rfl ⟨by omega, by omega⟩ (fun h5_2 => ?_) (fun h5_2 => ?_)
  · refine ezw_aload_n rfl rfl ?_
    refine ezw_call0_0 rfl (by omega) (ezu_at rfl) rfl rfl rfl rfl (ezt_take hS (by omega) hn hc tp hw st) ?_
    rintro _ _ ⟨F3, rfl, hS, nF3, st_3, rfl⟩
    refine ezw_iconst (1) rfl rfl ?_
    exact ezw_ireturn rfl (ezw_zret ⟨by omega, by omega⟩) ⟨F3, rfl, hS, (fun p j h => by rw [nF3 p j (by omega)]), (1), ⟨by omega, by omega⟩, by omega, by omega, by
          unfold ezp_tk
          first
            | (rw [if_pos ⟨by omega, by omega⟩]; exact st_3)
            | (rw [if_neg (by omega)]; exact st_3), rfl⟩
  · refine ezw_iconst (0) rfl rfl ?_
    exact ezw_ireturn rfl (ezw_zret ⟨by omega, by omega⟩) ⟨F, rfl, hS, (fun _ _ _ => rfl), (0), ⟨by omega, by omega⟩, by omega, by omega, by
          unfold ezp_tk
          first
            | (rw [if_pos ⟨by omega, by omega⟩]; exact st)
            | (rw [if_neg (by omega)]; exact st), rfl⟩
def ezt_m56_1Q (e : Bool × Bool) (F : Nat → Nat → Int) (A : Nat → Int → Int) (c : Int → Int) (n : Int) (s : Int × Int) (a1 : Int) : Option ezq_V → (Nat → ezq_C) → Prop := fun v g' => ∃ (F' : Nat → Nat → Int), ezu_g e F' A = g' ∧ ezs_T F' A ∧ (∀ p j, ¬ (p = 1 ∧ (j = 3 ∨ j = 4 ∨ j = 5 ∨ j = 6 ∨ j = 7 ∨ j = 8 ∨ j = 9)) → F' p j = F p j) ∧ (ezt_ST c n (ezp_w c a1 s) F') ∧ none = v
theorem ezt_m56_1 {c : Int → Int} {n : Int} {s : Int × Int} {a1 : Int} {F : Nat → Nat → Int} {A : Nat → Int → Int} (hS : ezs_T F A) (hd : 7 ≤ d) (ha1 : ezw_in a1) (hn : F 1 2 = n) (hc : c = ezp_ch (A 2) n) (tp : ezp_tp c n) (hw : ∀ j, 0 ≤ j → j < 48 → A 3 j = ezl_cw.getD j.toNat 0) (st : ezt_ST c n s F) : ezw_C l ρ B xa Hb D cA 56 d [ezw_p 1, ezw_i a1] (ezu_g e F A) (ezt_m56_1Q e F A c n s a1) := by
  refine ezw_met (k := 0) rfl rfl ?_
  refine ezw_aload_n rfl rfl ?_
  refine ezw_iload_n rfl rfl ?_
  refine ezw_call0_1 rfl (by omega) (ezu_at rfl) rfl rfl rfl rfl (ezt_m46_1 hS (by omega) ha1 hn hc tp st) ?_
  rintro _ _ ⟨rfl, u2, hu2, p1_0, p1_1, rfl⟩
  refine ezw_if_eq rfl rfl ⟨by omega, by omega⟩ (fun h5_2 => ?_) (fun h5_2 => ?_)
  · refine ezw_aload_n rfl rfl ?_
    refine ezw_iconst (1) rfl rfl ?_
    refine ezw_call0_1 rfl (by omega) (ezu_at rfl) rfl rfl rfl rfl (ezt_m50_1 hS (by omega) ⟨by decide, by decide⟩ hn hc tp st (by omega)) ?_
    rintro _ _ ⟨F3, rfl, hS, nF3, st_3, rfl⟩
    exact ezw_return rfl rfl ⟨F3, rfl, hS, (fun p j h => by rw [nF3 p j (by omega)]), by
          unfold ezp_w
          first
            | (rw [if_pos ⟨by omega, by omega⟩]; exact st_3)
            | (rw [if_neg (by omega)]; exact st_3), rfl⟩
  · refine ezw_aload_n rfl rfl ?_
    refine ezw_call0_0 rfl (by omega) (ezu_at rfl) rfl rfl rfl rfl (ezt_take hS (by omega) hn hc tp hw st) ?_
    rintro _ _ ⟨F4, rfl, hS, nF4, st_4, rfl⟩
    refine ezw_goto rfl rfl ?_
    exact ezw_return rfl rfl ⟨F4, rfl, hS, (fun p j h => by rw [nF4 p j (by omega)]), by
          unfold ezp_w
          first
            | (rw [if_pos ⟨by omega, by omega⟩]; exact st_4)
            | (rw [if_neg (by omega)]; exact st_4), rfl⟩
def ezt_m59_1Q (e : Bool × Bool) (F : Nat → Nat → Int) (A : Nat → Int → Int) (c : Int → Int) (n : Int) (s : Int × Int) (a1 : Int) (a2 : Int) : Option ezq_V → (Nat → ezq_C) → Prop := fun v g' => ∃ (F' : Nat → Nat → Int), ezu_g e F' A = g' ∧ ezs_T F' A ∧ (∀ p j, ¬ (p = 1 ∧ (j = 3 ∨ j = 4 ∨ j = 5 ∨ j = 6 ∨ j = 7 ∨ j = 8 ∨ j = 9)) → F' p j = F p j) ∧ ∃ u : Int, (ezw_in u) ∧ (ezt_ST c n (ezp_o c a1 a2 s) F') ∧ ((ezp_o c a1 a2 s).1 = 0 → u = ezp_K c s.2 - a1 ∧ a1 ≤ ezp_K c s.2 ∧ ezp_K c s.2 < a1 + a2) ∧ (0 ≤ u ∧ u < a2) ∧ some (ezw_i u) = v
theorem ezt_m59_1 {c : Int → Int} {n : Int} {s : Int × Int} {a1 a2 : Int} {F : Nat → Nat → Int} {A : Nat → Int → Int} (hS : ezs_T F A) (hd : 7 ≤ d) (ha1 : ezw_in a1) (ha2 : ezw_in a2) (hn : F 1 2 = n) (hc : c = ezp_ch (A 2) n) (tp : ezp_tp c n) (hw : ∀ j, 0 ≤ j → j < 48 → A 3 j = ezl_cw.getD j.toNat 0) (st : ezt_ST c n s F) (ga : 0 ≤ a1 ∧ a1 ≤ 300 ∧ 1 ≤ a2 ∧ a2 ≤ 100) : ezw_C l ρ B xa Hb D cA 59 d [ezw_p 1, ezw_i a1, ezw_i a2] (ezu_g e F A) (ezt_m59_1Q e F A c n s a1 a2) := by
  refine ezw_met (k := 1) rfl rfl ?_
  have hn0 := tp.1
  have hn1 := tp.2.1
  obtain ⟨sf, sk, sc, sb, sb2⟩ := id st
  have hP := ezp_Pr tp s.2
  have c3i : s.1 = 0 → F 1 3 = ezp_K c s.2 := fun z => (sc z).2.2.1
  have c8i : s.1 = 0 → F 1 8 = ezp_P c s.2 := fun z => (sc z).1
  have c4i : s.1 = 0 → ezp_K c s.2 = 101 → F 1 4 = ezp_V c s.2 := fun z => (sc z).2.2.2.1
  have c7i : s.1 = 0 → ezp_K c s.2 = 100 → F 1 7 = ezp_v 32 (ezp_W c s.2) ∧ F 1 5 = ezp_ix (ezp_W c s.2) - 44 := fun z => (sc z).2.2.2.2
  refine ezw_aload_n rfl rfl ?_
  refine ezy_get_i hS rfl rfl rfl rfl rfl rfl (fun u1 hu1 ku1 eu1 => ?_)
  replace eu1 := eu1.symm
  subst eu1
  refine ezw_iload_n rfl rfl ?_
  refine ezw_icmp_lt rfl rfl hu1 ha1 (fun h5_1 => ?_) (fun h5_1 => ?_)
  · refine ezw_aload_n rfl rfl ?_
    refine ezw_iconst (1) rfl rfl ?_
    refine ezw_call0_1 rfl (by omega) (ezu_at rfl) rfl rfl rfl rfl (ezt_m50_1 hS (by omega) ⟨by decide, by decide⟩ hn hc tp st (by omega)) ?_
    rintro _ _ ⟨F2, rfl, hS, nF2, st_2, rfl⟩
    refine ezw_iconst (0) rfl rfl ?_
    exact ezw_ireturn rfl rfl ⟨F2, rfl, hS, (fun p j h => by rw [nF2 p j (by omega)]), (0), ⟨by decide, by decide⟩, by
          unfold ezp_o
          rw [if_neg (by omega)]
          exact st_2, fun z => by
          unfold ezp_o at z
          first
            | (rw [if_neg (by omega)] at z; exact absurd z (ezp_wr_f (by omega) hP.1))
            | (by_cases hz : s.1 = 0
               · exact ⟨by omega, by omega, by omega⟩
               · rw [if_neg (fun y => hz y.1), ezp_wr_n hz] at z
                 exact absurd z hz), by omega, rfl⟩
  · refine ezw_aload_n rfl rfl ?_
    refine ezy_get_i hS rfl rfl rfl rfl rfl rfl (fun u3 hu3 ku3 eu3 => ?_)
    replace eu3 := eu3.symm
    subst eu3
    refine ezw_iload_n rfl rfl ?_
    refine ezw_iload_n rfl rfl ?_
    refine ezw_iadd (k := a1 + a2) rfl (by omega) ?_
    refine ezw_icmp_lt rfl rfl hu3 ⟨by omega, by omega⟩ (fun h15_3 => ?_) (fun h15_3 => ?_)
    · refine ezw_aload_n rfl rfl ?_
      refine ezy_get_i hS rfl rfl rfl rfl rfl rfl (fun u4 hu4 ku4 eu4 => ?_)
      replace eu4 := eu4.symm
      subst eu4
      refine ezw_iload_n rfl rfl ?_
      refine ezw_isub (k := (F 1 3) - a1) rfl (by omega) ?_
      refine ezw_istore_n rfl rfl ?_
      refine ezw_aload_n rfl rfl ?_
      refine ezw_call0_0 rfl (by omega) (ezu_at rfl) rfl rfl rfl rfl (ezt_take hS (by omega) hn hc tp hw st) ?_
      rintro _ _ ⟨F5, rfl, hS, nF5, st_5, rfl⟩
      refine ezw_iload_n rfl rfl ?_
      exact ezw_ireturn rfl rfl ⟨F5, rfl, hS, (fun p j h => by rw [nF5 p j (by omega)]), (F 1 3) - a1, ⟨by omega, by omega⟩, by
            unfold ezp_o
            by_cases hz : s.1 = 0
            · rw [if_pos ⟨hz, by omega, by omega⟩]
              exact st_5
            · rw [if_neg (fun z => hz z.1), ezp_wr_n hz, ← ezp_t_n hz]
              exact st_5, fun z => by
            unfold ezp_o at z
            first
              | (rw [if_neg (by omega)] at z; exact absurd z (ezp_wr_f (by omega) hP.1))
              | (by_cases hz : s.1 = 0
                 · exact ⟨by omega, by omega, by omega⟩
                 · rw [if_neg (fun y => hz y.1), ezp_wr_n hz] at z
                   exact absurd z hz), by omega, rfl⟩
    · refine ezw_aload_n rfl rfl ?_
      refine ezw_iconst (1) rfl rfl ?_
      refine ezw_call0_1 rfl (by omega) (ezu_at rfl) rfl rfl rfl rfl (ezt_m50_1 hS (by omega) ⟨by decide, by decide⟩ hn hc tp st (by omega)) ?_
      rintro _ _ ⟨F6, rfl, hS, nF6, st_6, rfl⟩
      refine ezw_iconst (0) rfl rfl ?_
      exact ezw_ireturn rfl rfl ⟨F6, rfl, hS, (fun p j h => by rw [nF6 p j (by omega)]), (0), ⟨by decide, by decide⟩, by
            unfold ezp_o
            rw [if_neg (by omega)]
            exact st_6, fun z => by
            unfold ezp_o at z
            first
              | (rw [if_neg (by omega)] at z; exact absurd z (ezp_wr_f (by omega) hP.1))
              | (by_cases hz : s.1 = 0
                 · exact ⟨by omega, by omega, by omega⟩
                 · rw [if_neg (fun y => hz y.1), ezp_wr_n hz] at z
                   exact absurd z hz), by omega, rfl⟩
def ezt_m58_1Q (e : Bool × Bool) (F : Nat → Nat → Int) (A : Nat → Int → Int) (c : Int → Int) (n : Int) (s : Int × Int) (a1 : Int) (a2 : Int) : Option ezq_V → (Nat → ezq_C) → Prop := fun v g' => ∃ (F' : Nat → Nat → Int), ezu_g e F' A = g' ∧ ezs_T F' A ∧ (∀ p j, ¬ (p = 1 ∧ (j = 6)) → F' p j = F p j) ∧ ∃ u : Int, (ezw_in u) ∧ (ezt_ST c n (ezp_sn c a1 a2 s) F') ∧ ((ezp_sn c a1 a2 s).1 = 0 → u = ezp_V c s.2 ∧ a1 ≤ u ∧ u ≤ a2) ∧ (0 ≤ u ∧ u ≤ 9999) ∧ some (ezw_i u) = v
theorem ezt_m58_1 {c : Int → Int} {n : Int} {s : Int × Int} {a1 a2 : Int} {F : Nat → Nat → Int} {A : Nat → Int → Int} (hS : ezs_T F A) (hd : 1 ≤ d) (ha1 : ezw_in a1) (ha2 : ezw_in a2) (hn : F 1 2 = n) (hc : c = ezp_ch (A 2) n) (tp : ezp_tp c n) (st : ezt_ST c n s F) : ezw_C l ρ B xa Hb D cA 58 d [ezw_p 1, ezw_i a1, ezw_i a2] (ezu_g e F A) (ezt_m58_1Q e F A c n s a1 a2) := by
  refine ezw_met (k := 0) rfl rfl ?_
  have hn0 := tp.1
  have hn1 := tp.2.1
  obtain ⟨sf, sk, sc, sb, sb2⟩ := id st
  have hP := ezp_Pr tp s.2
  have c3i : s.1 = 0 → F 1 3 = ezp_K c s.2 := fun z => (sc z).2.2.1
  have c8i : s.1 = 0 → F 1 8 = ezp_P c s.2 := fun z => (sc z).1
  have c4i : s.1 = 0 → ezp_K c s.2 = 101 → F 1 4 = ezp_V c s.2 := fun z => (sc z).2.2.2.1
  have c7i : s.1 = 0 → ezp_K c s.2 = 100 → F 1 7 = ezp_v 32 (ezp_W c s.2) ∧ F 1 5 = ezp_ix (ezp_W c s.2) - 44 := fun z => (sc z).2.2.2.2
  refine ezw_aload_n rfl rfl ?_
  refine ezy_get_i hS rfl rfl rfl rfl rfl rfl (fun u1 hu1 ku1 eu1 => ?_)
  replace eu1 := eu1.symm
  subst eu1
  refine ezw_bipush (101) rfl rfl ?_
  refine ezw_icmp_eq rfl rfl hu1 ⟨by decide, by decide⟩ (fun h6_1 => ?_) (fun h6_1 => ?_)
  · refine ezw_aload_n rfl rfl ?_
    refine ezy_get_i hS rfl rfl rfl rfl rfl rfl (fun u2 hu2 ku2 eu2 => ?_)
    replace eu2 := eu2.symm
    subst eu2
    have ru2 : 0 ≤ (F 1 4) ∧ (F 1 4) ≤ 9999 := ku2
    refine ezw_iload_n rfl rfl ?_
    refine ezw_icmp_lt rfl rfl hu2 ha1 (fun h22_2 => ?_) (fun h22_2 => ?_)
    · refine ezw_aload_n rfl rfl ?_
      refine ezw_iconst (4) rfl rfl ?_
      refine ezw_call0_1 rfl (by omega) (ezu_at rfl) rfl rfl rfl rfl (ezt_m50_1 hS (by omega) ⟨by decide, by decide⟩ hn hc tp st (by omega)) ?_
      rintro _ _ ⟨F3, rfl, hS, nF3, st_3, rfl⟩
      refine ezw_aload_n rfl rfl ?_
      refine ezy_get_i hS rfl rfl rfl rfl rfl rfl (fun u4 hu4 ku4 eu4 => ?_)
      rw [nF3 1 4 (by decide)] at eu4
      replace eu4 := eu4.symm
      subst eu4
      have ru4 : 0 ≤ (F 1 4) ∧ (F 1 4) ≤ 9999 := ku4
      exact ezw_ireturn rfl rfl ⟨F3, rfl, hS, (fun p j h => by rw [nF3 p j (by omega)]), (F 1 4), hu4, by
            unfold ezp_sn
            first
              | (rw [if_neg (show ¬ (s.1 = 0 ∧ ezp_K c s.2 = 101) by omega)]; exact st_3)
              | (by_cases hz : s.1 = 0
                 · rw [if_pos ⟨hz, by omega⟩, if_pos (by omega)]
                   exact st_3
                 · have h4 := st_3
                   rw [ezp_wr_n hz] at h4
                   rw [if_neg (fun z => hz z.1), ezp_wr_n hz]
                   exact h4), fun z => by
            unfold ezp_sn at z
            by_cases hz : s.1 = 0
            · by_cases hk : ezp_K c s.2 = 101
              · rw [if_pos ⟨hz, hk⟩] at z
                by_cases hv : ezp_V c s.2 < a1 ∨ a2 < ezp_V c s.2
                · rw [if_pos hv] at z
                  exact absurd z (ezp_wr_f (by omega) hP.1)
                · exact ⟨by omega, by omega, by omega⟩
              · rw [if_neg (fun y => hk y.2)] at z
                exact absurd z (ezp_wr_f (by omega) hP.1)
            · rw [if_neg (fun y => hz y.1), ezp_wr_n hz] at z
              exact absurd z hz, by omega, rfl⟩
    · refine ezw_aload_n rfl rfl ?_
      refine ezy_get_i hS rfl rfl rfl rfl rfl rfl (fun u5 hu5 ku5 eu5 => ?_)
      replace eu5 := eu5.symm
      subst eu5
      have ru5 : 0 ≤ (F 1 4) ∧ (F 1 4) ≤ 9999 := ku5
      refine ezw_iload_n rfl rfl ?_
      refine ezw_icmp_le rfl rfl hu5 ha2 (fun h30_5 => ?_) (fun h30_5 => ?_)
      · refine ezw_aload_n rfl rfl ?_
        refine ezy_get_i hS rfl rfl rfl rfl rfl rfl (fun u6 hu6 ku6 eu6 => ?_)
        replace eu6 := eu6.symm
        subst eu6
        have ru6 : 0 ≤ (F 1 4) ∧ (F 1 4) ≤ 9999 := ku6
        exact ezw_ireturn rfl rfl ⟨F, rfl, hS, (fun _ _ _ => rfl), (F 1 4), hu6, by
              unfold ezp_sn
              by_cases hz : s.1 = 0
              · rw [if_pos ⟨hz, by omega⟩, if_neg (by omega)]
                exact st
              · rw [if_neg (fun z => hz z.1), ezp_wr_n hz]
                exact st, fun z => by
              unfold ezp_sn at z
              by_cases hz : s.1 = 0
              · by_cases hk : ezp_K c s.2 = 101
                · rw [if_pos ⟨hz, hk⟩] at z
                  by_cases hv : ezp_V c s.2 < a1 ∨ a2 < ezp_V c s.2
                  · rw [if_pos hv] at z
                    exact absurd z (ezp_wr_f (by omega) hP.1)
                  · exact ⟨by omega, by omega, by omega⟩
                · rw [if_neg (fun y => hk y.2)] at z
                  exact absurd z (ezp_wr_f (by omega) hP.1)
              · rw [if_neg (fun y => hz y.1), ezp_wr_n hz] at z
                exact absurd z hz, by omega, rfl⟩
      · refine ezw_aload_n rfl rfl ?_
        refine ezw_iconst (4) rfl rfl ?_
        refine ezw_call0_1 rfl (by omega) (ezu_at rfl) rfl rfl rfl rfl (ezt_m50_1 hS (by omega) ⟨by decide, by decide⟩ hn hc tp st (by omega)) ?_
        rintro _ _ ⟨F7, rfl, hS, nF7, st_7, rfl⟩
        refine ezw_aload_n rfl rfl ?_
        refine ezy_get_i hS rfl rfl rfl rfl rfl rfl (fun u8 hu8 ku8 eu8 => ?_)
        rw [nF7 1 4 (by decide)] at eu8
        replace eu8 := eu8.symm
        subst eu8
        have ru8 : 0 ≤ (F 1 4) ∧ (F 1 4) ≤ 9999 := ku8
        exact ezw_ireturn rfl rfl ⟨F7, rfl, hS, (fun p j h => by rw [nF7 p j (by omega)]), (F 1 4), hu8, by
              unfold ezp_sn
              first
                | (rw [if_neg (show ¬ (s.1 = 0 ∧ ezp_K c s.2 = 101) by omega)]; exact st_7)
                | (by_cases hz : s.1 = 0
                   · rw [if_pos ⟨hz, by omega⟩, if_pos (by omega)]
                     exact st_7
                   · have h4 := st_7
                     rw [ezp_wr_n hz] at h4
                     rw [if_neg (fun z => hz z.1), ezp_wr_n hz]
                     exact h4), fun z => by
              unfold ezp_sn at z
              by_cases hz : s.1 = 0
              · by_cases hk : ezp_K c s.2 = 101
                · rw [if_pos ⟨hz, hk⟩] at z
                  by_cases hv : ezp_V c s.2 < a1 ∨ a2 < ezp_V c s.2
                  · rw [if_pos hv] at z
                    exact absurd z (ezp_wr_f (by omega) hP.1)
                  · exact ⟨by omega, by omega, by omega⟩
                · rw [if_neg (fun y => hk y.2)] at z
                  exact absurd z (ezp_wr_f (by omega) hP.1)
              · rw [if_neg (fun y => hz y.1), ezp_wr_n hz] at z
                exact absurd z hz, by omega, rfl⟩
  · refine ezw_aload_n rfl rfl ?_
    refine ezw_iconst (1) rfl rfl ?_
    refine ezw_call0_1 rfl (by omega) (ezu_at rfl) rfl rfl rfl rfl (ezt_m50_1 hS (by omega) ⟨by decide, by decide⟩ hn hc tp st (by omega)) ?_
    rintro _ _ ⟨F9, rfl, hS, nF9, st_9, rfl⟩
    refine ezw_goto rfl rfl ?_
    refine ezw_aload_n rfl rfl ?_
    refine ezy_get_i hS rfl rfl rfl rfl rfl rfl (fun u10 hu10 ku10 eu10 => ?_)
    rw [nF9 1 4 (by decide)] at eu10
    replace eu10 := eu10.symm
    subst eu10
    have ru10 : 0 ≤ (F 1 4) ∧ (F 1 4) ≤ 9999 := ku10
    exact ezw_ireturn rfl rfl ⟨F9, rfl, hS, (fun p j h => by rw [nF9 p j (by omega)]), (F 1 4), hu10, by
          unfold ezp_sn
          first
            | (rw [if_neg (show ¬ (s.1 = 0 ∧ ezp_K c s.2 = 101) by omega)]; exact st_9)
            | (by_cases hz : s.1 = 0
               · rw [if_pos ⟨hz, by omega⟩, if_pos (by omega)]
                 exact st_9
               · have h4 := st_9
                 rw [ezp_wr_n hz] at h4
                 rw [if_neg (fun z => hz z.1), ezp_wr_n hz]
                 exact h4), fun z => by
          unfold ezp_sn at z
          by_cases hz : s.1 = 0
          · by_cases hk : ezp_K c s.2 = 101
            · rw [if_pos ⟨hz, hk⟩] at z
              by_cases hv : ezp_V c s.2 < a1 ∨ a2 < ezp_V c s.2
              · rw [if_pos hv] at z
                exact absurd z (ezp_wr_f (by omega) hP.1)
              · exact ⟨by omega, by omega, by omega⟩
            · rw [if_neg (fun y => hk y.2)] at z
              exact absurd z (ezp_wr_f (by omega) hP.1)
          · rw [if_neg (fun y => hz y.1), ezp_wr_n hz] at z
            exact absurd z hz, by omega, rfl⟩
def ezt_m57_1Q (e : Bool × Bool) (F : Nat → Nat → Int) (A : Nat → Int → Int) (c : Int → Int) (n : Int) (s : Int × Int) (a1 : Int) (a2 : Int) : Option ezq_V → (Nat → ezq_C) → Prop := fun v g' => ∃ (F' : Nat → Nat → Int), ezu_g e F' A = g' ∧ ezs_T F' A ∧ (∀ p j, ¬ (p = 1 ∧ (j = 3 ∨ j = 4 ∨ j = 5 ∨ j = 6 ∨ j = 7 ∨ j = 8 ∨ j = 9)) → F' p j = F p j) ∧ ∃ u : Int, (ezw_in u) ∧ (ezt_ST c n (ezp_n c a1 a2 s) F') ∧ ((ezp_n c a1 a2 s).1 = 0 → u = ezp_V c s.2 ∧ a1 ≤ u ∧ u ≤ a2) ∧ (0 ≤ u ∧ u ≤ 9999) ∧ some (ezw_i u) = v
theorem ezt_m57_1 {c : Int → Int} {n : Int} {s : Int × Int} {a1 a2 : Int} {F : Nat → Nat → Int} {A : Nat → Int → Int} (hS : ezs_T F A) (hd : 7 ≤ d) (ha1 : ezw_in a1) (ha2 : ezw_in a2) (hn : F 1 2 = n) (hc : c = ezp_ch (A 2) n) (tp : ezp_tp c n) (hw : ∀ j, 0 ≤ j → j < 48 → A 3 j = ezl_cw.getD j.toNat 0) (st : ezt_ST c n s F) : ezw_C l ρ B xa Hb D cA 57 d [ezw_p 1, ezw_i a1, ezw_i a2] (ezu_g e F A) (ezt_m57_1Q e F A c n s a1 a2) := by
  refine ezw_met (k := 1) rfl rfl ?_
  refine ezw_aload_n rfl rfl ?_
  refine ezw_iload_n rfl rfl ?_
  refine ezw_iload_n rfl rfl ?_
  refine ezw_call0_2 rfl (by omega) (ezu_at rfl) rfl rfl rfl rfl (ezt_m58_1 hS (by omega) ha1 ha2 hn hc tp st) ?_
  rintro _ _ ⟨F1, rfl, hS, nF1, u2, hu2, st_1, v_1, p1_2, rfl⟩
  have sf2 := st_1.1
  refine ezw_istore_n rfl rfl ?_
  refine ezw_aload_n rfl rfl ?_
  refine ezw_call0_0 rfl (by omega) (ezu_at rfl) rfl rfl rfl rfl (ezt_m45_1 hS (by omega)) ?_
  rintro _ _ ⟨rfl, u4, hu4, p3_0, p3_1, rfl⟩
  refine ezw_if_eq rfl rfl ⟨by omega, by omega⟩ (fun h11_4 => ?_) (fun h11_4 => ?_)
  · refine ezw_iload_n rfl rfl ?_
    exact ezw_ireturn rfl rfl ⟨F1, rfl, hS, (fun p j h => by rw [nF1 p j (by omega)]), u2, hu2, by
          unfold ezp_n
          rw [ezp_t_n (by omega)]
          exact st_1, fun z => by
          unfold ezp_n at z
          rw [ezp_t1] at z
          exact v_1 z, by omega, rfl⟩
  · refine ezw_aload_n rfl rfl ?_
    refine ezw_call0_0 rfl (by omega) (ezu_at rfl) rfl rfl rfl rfl (ezt_take hS (by omega) (by rw [nF1 1 2 (by decide)]; exact hn) hc tp hw st_1) ?_
    rintro _ _ ⟨F5, rfl, hS, nF5, st_5, rfl⟩
    refine ezw_iload_n rfl rfl ?_
    exact ezw_ireturn rfl rfl ⟨F5, rfl, hS, (fun p j h => by rw [nF5 p j (by omega), nF1 p j (by omega)]), u2, hu2, st_5, fun z => by
          unfold ezp_n at z
          rw [ezp_t1] at z
          exact v_1 z, by omega, rfl⟩
def ezt_m93_1Q (e : Bool × Bool) (F : Nat → Nat → Int) (A : Nat → Int → Int) : Option ezq_V → (Nat → ezq_C) → Prop := fun v g' => ∃ (F' : Nat → Nat → Int), ezu_g e F' A = g' ∧ ezs_T F' A ∧ (∀ p j, ¬ (p = 1 ∧ (j = 2)) → F' p j = F p j) ∧ ∃ u : Int, (ezw_in u) ∧ (u = F 1 6) ∧ (F' 1 2 = 0) ∧ some (ezw_i u) = v
theorem ezt_m93_1 {F : Nat → Nat → Int} {A : Nat → Int → Int} (hS : ezs_T F A) (hd : 0 ≤ d) : ezw_C l ρ B xa Hb D cA 93 d [ezw_p 1] (ezu_g e F A) (ezt_m93_1Q e F A) := by
  refine ezw_met (k := 0) rfl rfl ?_
  refine ezw_aload_n rfl rfl ?_
  refine ezw_iconst (0) rfl rfl ?_
  refine ezy_put_i hS rfl rfl rfl rfl rfl (show ezs_fk 1 2 _ from ⟨by omega, by omega⟩) (fun F1 hS mF1 nF1 => ?_)
  refine ezw_aload_n rfl rfl ?_
  refine ezy_get_i hS rfl rfl rfl rfl rfl rfl (fun u2 hu2 ku2 eu2 => ?_)
  rw [nF1 1 6 (by decide)] at eu2
  replace eu2 := eu2.symm
  subst eu2
  have w1_2 : F1 1 2 = (0) := by rw [mF1]
  exact ezw_ireturn rfl rfl ⟨F1, rfl, hS, (fun p j h => by rw [nF1 p j (by omega)]), (F 1 6), hu2, by omega, by omega, rfl⟩
end KT
