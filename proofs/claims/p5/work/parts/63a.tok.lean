/-! ===== the program: signs and words ===== -/
section KT
variable {l : Launch} {ρ : ezq_E} {B : Nat} {xa : Nat → Option Nat} {Hb : Heap} {D : va_G} {cA : Nat → ClassId} {d : Nat} {e : Bool × Bool}
def ezt_m31_1Q (e : Bool × Bool) (F : Nat → Nat → Int) (A : Nat → Int → Int) (c : Int → Int) (n : Int) (a1 : Int) : Option ezq_V → (Nat → ezq_C) → Prop := fun v g' => ezu_g e F A = g' ∧ ∃ u : Int, (ezw_in u) ∧ (u = c a1) ∧ some (ezw_i u) = v
theorem ezt_m31_1 {c : Int → Int} {n : Int} {a1 : Int} {F : Nat → Nat → Int} {A : Nat → Int → Int} (hS : ezs_T F A) (hd : 0 ≤ d) (ha1 : ezw_in a1) (hn : F 1 2 = n) (hc : c = ezp_ch (A 2) n) (tp : ezp_tp c n) : ezw_C l ρ B xa Hb D cA 31 d [ezw_p 1, ezw_i a1] (ezu_g e F A) (ezt_m31_1Q e F A c n a1) := by
  refine ezw_met (k := 0) rfl rfl ?_
  have hn0 := tp.1
  have hn1 := tp.2.1
  refine ezw_iload_n rfl rfl ?_
  refine ezw_if_lt rfl rfl ha1 (fun h1_0 => ?_) (fun h1_0 => ?_)
  · refine ezw_iconst (0) rfl rfl ?_
    exact ezw_ireturn rfl rfl ⟨rfl, (0), ⟨by decide, by decide⟩, by rw [hc]; unfold ezp_ch; first | (rw [if_pos ⟨by omega, by omega⟩]; assumption) | (rw [if_neg (by omega)]), rfl⟩
  · refine ezw_iload_n rfl rfl ?_
    refine ezw_aload_n rfl rfl ?_
    refine ezy_get_i hS rfl rfl rfl rfl rfl rfl (fun u1 hu1 ku1 eu1 => ?_)
    replace eu1 := eu1.symm
    subst eu1
    have ru1 : 0 ≤ (F 1 2) ∧ (F 1 2) ≤ 1000 := ku1
    refine ezw_icmp_ge rfl rfl ha1 hu1 (fun h9_1 => ?_) (fun h9_1 => ?_)
    · refine ezw_iconst (0) rfl rfl ?_
      exact ezw_ireturn rfl rfl ⟨rfl, (0), ⟨by decide, by decide⟩, by rw [hc]; unfold ezp_ch; first | (rw [if_pos ⟨by omega, by omega⟩]; assumption) | (rw [if_neg (by omega)]), rfl⟩
    · refine ezw_iload_n rfl rfl ?_
      refine ezw_aload_n rfl rfl ?_
      refine ezs_getp (p := 2) rfl rfl rfl rfl rfl ?_
      refine ezs_alen (k := 1000) rfl rfl rfl rfl (by decide) (by decide) ?_
      refine ezw_icmp_ge rfl rfl ha1 ⟨by decide, by decide⟩ (fun h18_1 => ?_) (fun h18_1 => ?_)
      · refine ezw_iconst (0) rfl rfl ?_
        exact ezw_ireturn rfl rfl ⟨rfl, (0), ⟨by decide, by decide⟩, by rw [hc]; unfold ezp_ch; first | (rw [if_pos ⟨by omega, by omega⟩]; assumption) | (rw [if_neg (by omega)]), rfl⟩
      · refine ezw_aload_n rfl rfl ?_
        refine ezs_getp (p := 2) rfl rfl rfl rfl rfl ?_
        refine ezw_iload_n rfl rfl ?_
        refine ezy_iaload hS rfl rfl rfl (by omega) (by omega) (by decide) (fun u2 hu2 ku2 eu2 => ?_)
        refine ezw_goto rfl rfl ?_
        exact ezw_ireturn rfl rfl ⟨rfl, u2, hu2, by rw [hc]; unfold ezp_ch; first | (rw [if_pos ⟨by omega, by omega⟩]; assumption) | (rw [if_neg (by omega)]), rfl⟩
def ezt_m32Q (e : Bool × Bool) (F : Nat → Nat → Int) (A : Nat → Int → Int) (a0 : Int) : Option ezq_V → (Nat → ezq_C) → Prop := fun v g' => ezu_g e F A = g' ∧ ∃ u : Int, (0 ≤ u ∧ u ≤ 1) ∧ (u = 1 → a0 = 10 ∨ a0 = 32) ∧ (u = 0 → a0 ≠ 10 ∧ a0 ≠ 32) ∧ some (ezw_i u) = v
theorem ezt_m32 {a0 : Int} {F : Nat → Nat → Int} {A : Nat → Int → Int} (hS : ezs_T F A) (hd : 0 ≤ d) (ha0 : ezw_in a0) : ezw_C l ρ B xa Hb D cA 32 d [ezw_i a0] (ezu_g e F A) (ezt_m32Q e F A a0) := by
  refine ezw_met (k := 0) rfl rfl ?_
  refine ezw_iload_n rfl rfl ?_
  refine ezw_bipush (10) rfl rfl ?_
  refine ezw_icmp_eq rfl rfl ha0 ⟨by decide, by decide⟩ (fun h3_0 => ?_) (fun h3_0 => ?_)
  · refine ezw_iconst (1) rfl rfl ?_
    refine ezw_goto rfl rfl ?_
    exact ezw_ireturn rfl (ezw_zret ⟨by omega, by omega⟩) ⟨rfl, (1), ⟨by omega, by omega⟩, by omega, by omega, rfl⟩
  · refine ezw_iload_n rfl rfl ?_
    refine ezw_bipush (32) rfl rfl ?_
    refine ezw_icmp_ne rfl rfl ha0 ⟨by decide, by decide⟩ (fun h9_0 => ?_) (fun h9_0 => ?_)
    · refine ezw_iconst (0) rfl rfl ?_
      exact ezw_ireturn rfl (ezw_zret ⟨by omega, by omega⟩) ⟨rfl, (0), ⟨by omega, by omega⟩, by omega, by omega, rfl⟩
    · refine ezw_iconst (1) rfl rfl ?_
      refine ezw_goto rfl rfl ?_
      exact ezw_ireturn rfl (ezw_zret ⟨by omega, by omega⟩) ⟨rfl, (1), ⟨by omega, by omega⟩, by omega, by omega, rfl⟩
def ezt_m33Q (e : Bool × Bool) (F : Nat → Nat → Int) (A : Nat → Int → Int) (a0 : Int) : Option ezq_V → (Nat → ezq_C) → Prop := fun v g' => ezu_g e F A = g' ∧ ∃ u : Int, (0 ≤ u ∧ u ≤ 1) ∧ (u = 1 → 97 ≤ a0 ∧ a0 ≤ 122) ∧ (u = 0 → a0 < 97 ∨ 122 < a0) ∧ some (ezw_i u) = v
theorem ezt_m33 {a0 : Int} {F : Nat → Nat → Int} {A : Nat → Int → Int} (hS : ezs_T F A) (hd : 0 ≤ d) (ha0 : ezw_in a0) : ezw_C l ρ B xa Hb D cA 33 d [ezw_i a0] (ezu_g e F A) (ezt_m33Q e F A a0) := by
  refine ezw_met (k := 0) rfl rfl ?_
  refine ezw_iload_n rfl rfl ?_
  refine ezw_bipush (97) rfl rfl ?_
  refine ezw_icmp_lt rfl rfl ha0 ⟨by decide, by decide⟩ (fun h3_0 => ?_) (fun h3_0 => ?_)
  · refine ezw_iconst (0) rfl rfl ?_
    exact ezw_ireturn rfl (ezw_zret ⟨by omega, by omega⟩) ⟨rfl, (0), ⟨by omega, by omega⟩, by omega, by omega, rfl⟩
  · refine ezw_iload_n rfl rfl ?_
    refine ezw_bipush (122) rfl rfl ?_
    refine ezw_icmp_gt rfl rfl ha0 ⟨by decide, by decide⟩ (fun h9_0 => ?_) (fun h9_0 => ?_)
    · refine ezw_iconst (0) rfl rfl ?_
      exact ezw_ireturn rfl (ezw_zret ⟨by omega, by omega⟩) ⟨rfl, (0), ⟨by omega, by omega⟩, by omega, by omega, rfl⟩
    · refine ezw_iconst (1) rfl rfl ?_
      refine ezw_goto rfl rfl ?_
      exact ezw_ireturn rfl (ezw_zret ⟨by omega, by omega⟩) ⟨rfl, (1), ⟨by omega, by omega⟩, by omega, by omega, rfl⟩
def ezt_m35Q (e : Bool × Bool) (F : Nat → Nat → Int) (A : Nat → Int → Int) (a0 : Int) : Option ezq_V → (Nat → ezq_C) → Prop := fun v g' => ezu_g e F A = g' ∧ ∃ u : Int, (0 ≤ u ∧ u ≤ 1) ∧ (u = 1 → 48 ≤ a0 ∧ a0 ≤ 57) ∧ (u = 0 → a0 < 48 ∨ 57 < a0) ∧ some (ezw_i u) = v
theorem ezt_m35 {a0 : Int} {F : Nat → Nat → Int} {A : Nat → Int → Int} (hS : ezs_T F A) (hd : 0 ≤ d) (ha0 : ezw_in a0) : ezw_C l ρ B xa Hb D cA 35 d [ezw_i a0] (ezu_g e F A) (ezt_m35Q e F A a0) := by
  refine ezw_met (k := 0) rfl rfl ?_
  refine ezw_iload_n rfl rfl ?_
  refine ezw_bipush (48) rfl rfl ?_
  refine ezw_icmp_lt rfl rfl ha0 ⟨by decide, by decide⟩ (fun h3_0 => ?_) (fun h3_0 => ?_)
  · refine ezw_iconst (0) rfl rfl ?_
    exact ezw_ireturn rfl (ezw_zret ⟨by omega, by omega⟩) ⟨rfl, (0), ⟨by omega, by omega⟩, by omega, by omega, rfl⟩
  · refine ezw_iload_n rfl rfl ?_
    refine ezw_bipush (57) rfl rfl ?_
    refine ezw_icmp_gt rfl rfl ha0 ⟨by decide, by decide⟩ (fun h9_0 => ?_) (fun h9_0 => ?_)
    · refine ezw_iconst (0) rfl rfl ?_
      exact ezw_ireturn rfl (ezw_zret ⟨by omega, by omega⟩) ⟨rfl, (0), ⟨by omega, by omega⟩, by omega, by omega, rfl⟩
    · refine ezw_iconst (1) rfl rfl ?_
      refine ezw_goto rfl rfl ?_
      exact ezw_ireturn rfl (ezw_zret ⟨by omega, by omega⟩) ⟨rfl, (1), ⟨by omega, by omega⟩, by omega, by omega, rfl⟩
def ezt_m34_1Q (e : Bool × Bool) (F : Nat → Nat → Int) (A : Nat → Int → Int) (wl : List Int) (a1 : Int) : Option ezq_V → (Nat → ezq_C) → Prop := fun v g' => ezu_g e F A = g' ∧ ∃ u : Int, (ezw_in u) ∧ (u = ezp_ix wl) ∧ some (ezw_i u) = v
theorem ezt_m34_1 {wl : List Int} {a1 : Int} {F : Nat → Nat → Int} {A : Nat → Int → Int} (hS : ezs_T F A) (hd : 0 ≤ d) (ha1 : ezw_il a1) (hl : ezp_ok wl) (ha : a1 = ezp_v 32 wl) (hw : ∀ j, 0 ≤ j → j < 48 → A 3 j = ezl_cw.getD j.toNat 0) : ezw_C l ρ B xa Hb D cA 34 d [ezw_p 1, ezw_l a1] (ezu_g e F A) (ezt_m34_1Q e F A wl a1) := by
  refine ezw_met (k := 1) rfl rfl ?_
  refine ezw_iconst (0) rfl rfl ?_
  refine ezw_istore_n rfl rfl ?_
  have L2_2 : ∀ c1 : Int, ezw_in c1 → ((0) ≤ c1) → (∀ w, 0 ≤ w → w < c1 → ezp_tb w ≠ wl) → ezw_E l ρ B xa Hb D cA d ezq_re34 (ezt_m34_1Q e F A wl a1) 2 [some (ezw_p 1), some (ezw_l a1), none, some (ezw_i c1)] [] (ezu_g e F A) := by
    refine ezs_up ?_
    intro c1 hc1 ihc1 g_2 no_2
    refine ezw_iload_n rfl rfl ?_
    refine ezw_aload_n rfl rfl ?_
    refine ezs_getp (p := 3) rfl rfl rfl rfl rfl ?_
    refine ezs_alen (k := 48) rfl rfl rfl rfl (by decide) (by decide) ?_
    refine ezw_icmp_ge rfl rfl hc1 ⟨by decide, by decide⟩ (fun h8_2 => ?_) (fun h8_2 => ?_)
    · refine ezw_iconst (-1) rfl rfl ?_
      exact ezw_ireturn rfl rfl ⟨rfl, (-1), ⟨by decide, by decide⟩, by
            rcases ezp_ix_r wl with ⟨h1, _⟩ | ⟨h1, h2, h3⟩
            · omega
            · exact absurd h3 (no_2 _ h1 (by omega)), rfl⟩
    · refine ezw_aload_n rfl rfl ?_
      refine ezs_getp (p := 3) rfl rfl rfl rfl rfl ?_
      refine ezw_iload_n rfl rfl ?_
      refine ezy_laload hS rfl rfl rfl (by omega) (by omega) (by decide) (fun u3 hu3 eu3 => ?_)
      refine ezw_lload_n rfl rfl ?_
      refine ezw_lcmpE rfl hu3 ha1 (fun u4 hu4 => ?_)
      refine ezw_if_ne rfl rfl ⟨by omega, by omega⟩ (fun h19_4 => ?_) (fun h19_4 => ?_)
      · refine ezw_iinc (k := c1 + 1) (1) rfl rfl rfl (by omega) rfl ?_
        refine ezw_goto rfl rfl ?_
        exact ezw_keepE [true, true, false, true] (ihc1 (c1 + 1) (by omega) ⟨by omega, by omega⟩ (by omega) (fun w w0 w1 => by
              by_cases hw1 : w = c1
              · subst hw1
                intro hz
                have h1 := hw _ w0 (by omega)
                rw [ezp_cw w0 (by omega), hz] at h1
                omega
              · exact no_2 w w0 (by omega)))
      · refine ezw_iload_n rfl rfl ?_
        exact ezw_ireturn rfl rfl ⟨rfl, c1, hc1, by
              have h1 := hw c1 (by omega) (by omega)
              rw [ezp_cw (by omega) (by omega)] at h1
              exact ((ezp_isw (Or.inl rfl) (by omega) (by omega) hl).mp (by omega)).symm, rfl⟩
  exact ezw_keepE [true, true, false, true] (L2_2 (0) ⟨by decide, by decide⟩ (by omega) (fun w w0 w1 => by omega))
def ezt_m42_x5Q (e : Bool × Bool) (F : Nat → Nat → Int) (A : Nat → Int → Int) (a1 : Int) (a2 : Int) (a3 : Int) : Option ezq_V → (Nat → ezq_C) → Prop := fun v g' => ezu_g e F A = g' ∧ ∃ u : Int, (ezw_in u) ∧ (0 ≤ u → ezp_sg a1 = true) ∧ (u < 0 → ezp_sg a1 = false) ∧ some (ezw_i u) = v
theorem ezt_m42_x5 {a1 a2 a3 : Int} {F : Nat → Nat → Int} {A : Nat → Int → Int} (hS : ezs_T F A) (hd : 0 ≤ d) (ha1 : ezw_in a1) (ha2 : ezw_in a2) (ha3 : ezw_in a3) (g1 : 0 ≤ a1 ∧ a1 < 128) (g2 : a2 = 0) (g3 : a3 = 8) : ezw_C l ρ B xa Hb D cA 42 d [ezq_xt 5, ezw_i a1, ezw_i a2, ezw_i a3] (ezu_g e F A) (ezt_m42_x5Q e F A a1 a2 a3) := by
  refine ezw_met (k := 2) rfl rfl ?_
  refine ezw_iload_n rfl rfl ?_
  refine ezy_i2b rfl (by omega) (by omega) ?_
  refine ezw_istore rfl rfl ?_
  refine ezw_iload_n rfl rfl ?_
  refine ezw_istore rfl rfl ?_
  have L7_2 : ∀ c1 : Int, ezw_in c1 → (a2 ≤ c1) → (∀ m : Nat, (m : Int) < c1 → ((ezq_t5.getD m 0 : Nat) : Int) ≠ a1) → ezw_E l ρ B xa Hb D cA d ezq_re42 (ezt_m42_x5Q e F A a1 a2 a3) 7 [some (ezq_xt 5), some (ezw_i a1), some (ezw_i a2), some (ezw_i a3), some (ezw_i a1), some (ezw_i c1)] [] (ezu_g e F A) := by
    refine ezs_up ?_
    intro c1 hc1 ihc1 g_2 no_2
    refine ezw_iload rfl rfl ?_
    refine ezw_iload_n rfl rfl ?_
    refine ezw_icmp_ge rfl rfl hc1 ha3 (fun h10_2 => ?_) (fun h10_2 => ?_)
    · refine ezw_iconst (-1) rfl rfl ?_
      exact ezw_ireturn rfl rfl ⟨rfl, (-1), ⟨by decide, by decide⟩, fun z => absurd z (by omega), fun _ => by
            cases hb : ezp_sg a1
            · rfl
            · obtain ⟨m, h1, h2⟩ := ezp_t5b hb
              exact absurd h2 (no_2 m (by omega)), rfl⟩
    · refine ezw_aloadx rfl rfl ?_
      refine ezw_iload rfl rfl ?_
      refine ezy_xbal5 rfl (by omega) (by omega) (fun u3 hu3 eu3 => ?_)
      refine ezw_iload rfl rfl ?_
      refine ezw_icmp_ne rfl rfl hu3 ha1 (fun h19_3 => ?_) (fun h19_3 => ?_)
      · refine ezw_iinc (k := c1 + 1) (1) rfl rfl rfl (by omega) rfl ?_
        refine ezw_goto rfl rfl ?_
        exact ezw_keepE [true, true, true, true, true, true] (ihc1 (c1 + 1) (by omega) ⟨by omega, by omega⟩ (by omega) (fun m hm => by
              by_cases hq : (m : Int) = c1
              · rw [show m = (c1).toNat by omega]
                omega
              · exact no_2 m (by omega)))
      · refine ezw_iload rfl rfl ?_
        exact ezw_ireturn rfl rfl ⟨rfl, c1, hc1, fun _ => by
              have h1 := ezp_t5a (c1).toNat (by omega)
              rw [show ((ezq_t5.getD (c1).toNat 0 : Nat) : Int) = a1 by omega] at h1
              exact h1, fun z => absurd z (by omega), rfl⟩
  exact ezw_keepE [true, true, true, true, true, true] (L7_2 a2 ha2 (by omega) (fun m hm => by omega))
def ezt_m39Q (e : Bool × Bool) (F : Nat → Nat → Int) (A : Nat → Int → Int) (a0 : Int) : Option ezq_V → (Nat → ezq_C) → Prop := fun v g' => ezu_g e F A = g' ∧ ∃ u : Int, (0 ≤ u ∧ u ≤ 1) ∧ (u = 1 → 0 ≤ a0 ∧ a0 ≤ 255) ∧ (u = 0 → a0 < 0 ∨ 255 < a0) ∧ some (ezw_i u) = v
theorem ezt_m39 {a0 : Int} {F : Nat → Nat → Int} {A : Nat → Int → Int} (hS : ezs_T F A) (hd : 0 ≤ d) (ha0 : ezw_in a0) : ezw_C l ρ B xa Hb D cA 39 d [ezw_i a0] (ezu_g e F A) (ezt_m39Q e F A a0) := by
  refine ezw_met (k := 0) rfl rfl ?_
  refine ezw_iload_n rfl rfl ?_
  refine ezw_if_lt rfl rfl ha0 (fun h1_0 => ?_) (fun h1_0 => ?_)
  · refine ezw_iconst (0) rfl rfl ?_
    exact ezw_ireturn rfl (ezw_zret ⟨by omega, by omega⟩) ⟨rfl, (0), ⟨by omega, by omega⟩, by omega, by omega, rfl⟩
  · refine ezw_iload_n rfl rfl ?_
    refine ezw_sipush (255) rfl rfl ?_
    refine ezw_icmp_gt rfl rfl ha0 ⟨by decide, by decide⟩ (fun h8_0 => ?_) (fun h8_0 => ?_)
    · refine ezw_iconst (0) rfl rfl ?_
      exact ezw_ireturn rfl (ezw_zret ⟨by omega, by omega⟩) ⟨rfl, (0), ⟨by omega, by omega⟩, by omega, by omega, rfl⟩
    · refine ezw_iconst (1) rfl rfl ?_
      refine ezw_goto rfl rfl ?_
      exact ezw_ireturn rfl (ezw_zret ⟨by omega, by omega⟩) ⟨rfl, (1), ⟨by omega, by omega⟩, by omega, by omega, rfl⟩
def ezt_m5_x4Q (e : Bool × Bool) (F : Nat → Nat → Int) (A : Nat → Int → Int) : Option ezq_V → (Nat → ezq_C) → Prop := fun v g' => ezu_g e F A = g' ∧ ∃ u : Int, (0 ≤ u ∧ u ≤ 1) ∧ (u = 1) ∧ some (ezw_i u) = v
theorem ezt_m5_x4 {F : Nat → Nat → Int} {A : Nat → Int → Int} (hS : ezs_T F A) (hd : 0 ≤ d) : ezw_C l ρ B xa Hb D cA 5 d [ezq_xt 4] (ezu_g e F A) (ezt_m5_x4Q e F A) := by
  refine ezw_met (k := 0) rfl rfl ?_
  refine ezw_getstc rfl ?_
  refine ezw_if_eq rfl rfl ⟨by decide, by decide⟩ (fun h3_0 => absurd h3_0 (by omega)) (fun h3_0 => ?_)
  refine ezw_aloadx rfl rfl ?_
  refine ezw_getcod4 rfl ?_
  refine ezw_if_ne rfl rfl ⟨by decide, by decide⟩ (fun h10_0 => absurd h10_0 (by omega)) (fun h10_0 => ?_)
  refine ezw_iconst (1) rfl rfl ?_
  refine ezw_goto rfl rfl ?_
  exact ezw_ireturn rfl (ezw_zret ⟨by omega, by omega⟩) ⟨rfl, (1), ⟨by omega, by omega⟩, by omega, rfl⟩
def ezt_m3_x4Q (e : Bool × Bool) (F : Nat → Nat → Int) (A : Nat → Int → Int) : Option ezq_V → (Nat → ezq_C) → Prop := fun v g' => ezu_g e F A = g' ∧ ∃ u : Int, (ezw_in u) ∧ (u = 0) ∧ some (ezw_i u) = v
theorem ezt_m3_x4 {F : Nat → Nat → Int} {A : Nat → Int → Int} (hS : ezs_T F A) (hd : 0 ≤ d) : ezw_C l ρ B xa Hb D cA 3 d [ezq_xt 4] (ezu_g e F A) (ezt_m3_x4Q e F A) := by
  refine ezw_met (k := 0) rfl rfl ?_
  refine ezw_getstc rfl ?_
  refine ezw_if_eq rfl rfl ⟨by decide, by decide⟩ (fun h3_0 => absurd h3_0 (by omega)) (fun h3_0 => ?_)
  refine ezw_aloadx rfl rfl ?_
  refine ezw_getcod4 rfl ?_
  refine ezw_goto rfl rfl ?_
  exact ezw_ireturn rfl rfl ⟨rfl, (0), ⟨by decide, by decide⟩, by omega, rfl⟩
def ezt_m2_x4Q (e : Bool × Bool) (F : Nat → Nat → Int) (A : Nat → Int → Int) : Option ezq_V → (Nat → ezq_C) → Prop := fun v g' => ezu_g e F A = g' ∧ ∃ u : Int, (ezw_in u) ∧ (u = 8) ∧ some (ezw_i u) = v
theorem ezt_m2_x4 {F : Nat → Nat → Int} {A : Nat → Int → Int} (hS : ezs_T F A) (hd : 1 ≤ d) : ezw_C l ρ B xa Hb D cA 2 d [ezq_xt 4] (ezu_g e F A) (ezt_m2_x4Q e F A) := by
  refine ezw_met (k := 0) rfl rfl ?_
  refine ezw_aloadx rfl rfl ?_
  refine ezw_getval4 rfl ?_
  refine ezw_xlen5 rfl ?_
  refine ezw_aloadx rfl rfl ?_
  refine ezw_call0x_0 rfl (by omega) rfl rfl rfl (ezt_m3_x4 hS (by omega)) ?_
  rintro _ _ ⟨rfl, u2, hu2, p1_0, rfl⟩
  refine ezw_ishr rfl ⟨by decide, by decide⟩ (by omega) (by omega) (k := (8)) (by rw [show u2 = 0 by omega]; rfl) ?_
  exact ezw_ireturn rfl rfl ⟨rfl, (8), ⟨by decide, by decide⟩, by omega, rfl⟩
def ezt_m38_x5Q (e : Bool × Bool) (F : Nat → Nat → Int) (A : Nat → Int → Int) (a1 : Int) (a2 : Int) (a3 : Int) : Option ezq_V → (Nat → ezq_C) → Prop := fun v g' => ezu_g e F A = g' ∧ ∃ u : Int, (ezw_in u) ∧ (0 ≤ u → ezp_sg a1 = true) ∧ (u < 0 → ezp_sg a1 = false) ∧ some (ezw_i u) = v
theorem ezt_m38_x5 {a1 a2 a3 : Int} {F : Nat → Nat → Int} {A : Nat → Int → Int} (hS : ezs_T F A) (hd : 1 ≤ d) (ha1 : ezw_in a1) (ha2 : ezw_in a2) (ha3 : ezw_in a3) (g1 : 0 ≤ a1 ∧ a1 < 128) (g2 : a2 = 0) (g3 : a3 = 8) : ezw_C l ρ B xa Hb D cA 38 d [ezq_xt 5, ezw_i a1, ezw_i a2, ezw_i a3] (ezu_g e F A) (ezt_m38_x5Q e F A a1 a2 a3) := by
  refine ezw_met (k := 0) rfl rfl ?_
  refine ezw_iload_n rfl rfl ?_
  refine ezw_call2_1 rfl (by omega) rfl rfl (ezt_m39 hS (by omega) ha1) ?_
  rintro _ _ ⟨rfl, u2, hu2, p1_0, p1_1, rfl⟩
  refine ezw_if_ne rfl rfl ⟨by omega, by omega⟩ (fun h4_2 => ?_) (fun h4_2 => absurd h4_2 (by omega))
  refine ezw_iload_n rfl rfl ?_
  refine ezw_iconst (0) rfl rfl ?_
  refine ezw_mmaxE rfl ha2 ⟨by decide, by decide⟩ rfl (fun u3 hu3 => ?_)
  refine ezw_istore_n rfl rfl ?_
  refine ezw_iload_n rfl rfl ?_
  refine ezw_aloadx rfl rfl ?_
  refine ezw_xlen5 rfl ?_
  refine ezw_mminE rfl ha3 ⟨by decide, by decide⟩ rfl (fun u4 hu4 => ?_)
  refine ezw_istore_n rfl rfl ?_
  refine ezw_iload_n rfl rfl ?_
  refine ezw_iload_n rfl rfl ?_
  refine ezw_icmp_lt rfl rfl ⟨by omega, by omega⟩ ⟨by omega, by omega⟩ (fun h24_4 => ?_) (fun h24_4 => absurd h24_4 (by omega))
  refine ezw_aloadx rfl rfl ?_
  refine ezw_iload_n rfl rfl ?_
  refine ezw_iload_n rfl rfl ?_
  refine ezw_iload_n rfl rfl ?_
  refine ezw_call2_4 rfl (by omega) rfl rfl (ezt_m42_x5 hS (by omega) ha1 ⟨by omega, by omega⟩ ⟨by omega, by omega⟩ (by omega) (by omega) (by omega)) ?_
  rintro _ _ ⟨rfl, u6, hu6, sT_5, sF_5, rfl⟩
  exact ezw_ireturn rfl rfl ⟨rfl, u6, hu6, sT_5, sF_5, rfl⟩
def ezt_m37_x4Q (e : Bool × Bool) (F : Nat → Nat → Int) (A : Nat → Int → Int) (a1 : Int) (a2 : Int) : Option ezq_V → (Nat → ezq_C) → Prop := fun v g' => ezu_g e F A = g' ∧ ∃ u : Int, (ezw_in u) ∧ (0 ≤ u → ezp_sg a1 = true) ∧ (u < 0 → ezp_sg a1 = false) ∧ some (ezw_i u) = v
theorem ezt_m37_x4 {a1 a2 : Int} {F : Nat → Nat → Int} {A : Nat → Int → Int} (hS : ezs_T F A) (hd : 2 ≤ d) (ha1 : ezw_in a1) (ha2 : ezw_in a2) (g1 : 0 ≤ a1 ∧ a1 < 128) (g2 : a2 = 0) : ezw_C l ρ B xa Hb D cA 37 d [ezq_xt 4, ezw_i a1, ezw_i a2] (ezu_g e F A) (ezt_m37_x4Q e F A a1 a2) := by
  refine ezw_met (k := 0) rfl rfl ?_
  refine ezw_aloadx rfl rfl ?_
  refine ezw_call0x_0 rfl (by omega) rfl rfl rfl (ezt_m5_x4 hS (by omega)) ?_
  rintro _ _ ⟨rfl, u2, hu2, p1_0, rfl⟩
  refine ezw_if_eq rfl rfl ⟨by omega, by omega⟩ (fun h4_2 => absurd h4_2 (by omega)) (fun h4_2 => ?_)
  refine ezw_aloadx rfl rfl ?_
  refine ezw_getval4 rfl ?_
  refine ezw_iload_n rfl rfl ?_
  refine ezw_iload_n rfl rfl ?_
  refine ezw_aloadx rfl rfl ?_
  refine ezw_call0x_0 rfl (by omega) rfl rfl rfl (ezt_m2_x4 hS (by omega)) ?_
  rintro _ _ ⟨rfl, u4, hu4, p3_0, rfl⟩
  refine ezw_call2_4 rfl (by omega) rfl rfl (ezt_m38_x5 hS (by omega) ha1 ha2 hu4 (by omega) (by omega) (by omega)) ?_
  rintro _ _ ⟨rfl, u6, hu6, sT_5, sF_5, rfl⟩
  refine ezw_goto rfl rfl ?_
  exact ezw_ireturn rfl rfl ⟨rfl, u6, hu6, sT_5, sF_5, rfl⟩
def ezt_m36_x4Q (e : Bool × Bool) (F : Nat → Nat → Int) (A : Nat → Int → Int) (a1 : Int) : Option ezq_V → (Nat → ezq_C) → Prop := fun v g' => ezu_g e F A = g' ∧ ∃ u : Int, (ezw_in u) ∧ (0 ≤ u → ezp_sg a1 = true) ∧ (u < 0 → ezp_sg a1 = false) ∧ some (ezw_i u) = v
theorem ezt_m36_x4 {a1 : Int} {F : Nat → Nat → Int} {A : Nat → Int → Int} (hS : ezs_T F A) (hd : 3 ≤ d) (ha1 : ezw_in a1) (g1 : 0 ≤ a1 ∧ a1 < 128) : ezw_C l ρ B xa Hb D cA 36 d [ezq_xt 4, ezw_i a1] (ezu_g e F A) (ezt_m36_x4Q e F A a1) := by
  refine ezw_met (k := 0) rfl rfl ?_
  refine ezw_aloadx rfl rfl ?_
  refine ezw_iload_n rfl rfl ?_
  refine ezw_iconst (0) rfl rfl ?_
  refine ezw_call0x_2 rfl (by omega) rfl rfl rfl (ezt_m37_x4 hS (by omega) ha1 ⟨by decide, by decide⟩ (by omega) (by omega)) ?_
  rintro _ _ ⟨rfl, u2, hu2, sT_1, sF_1, rfl⟩
  exact ezw_ireturn rfl rfl ⟨rfl, u2, hu2, sT_1, sF_1, rfl⟩
end KT
