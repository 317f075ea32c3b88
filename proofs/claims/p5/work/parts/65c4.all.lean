/-! ===== the laws, all levels ===== -/
section KT
variable {l : Launch} {ρ : ezq_E} {B : Nat} {xa : Nat → Option Nat} {Hb : Heap} {D : va_G} {cA : Nat → ClassId} {d : Nat} {e : Bool × Bool}
theorem ezt_lev_5 : ∀ m : Nat, m ≤ 5 → ezt_I82_5 l ρ B xa Hb D cA m ∧ ezt_I81_5 l ρ B xa Hb D cA m := by
  intro m
  induction m with
  | zero =>
    intro _
    refine ⟨?_, ?_⟩
    · intro d e c n dd x F A hS hd hn hc tp hw st lw hdd
      have hdd : dd = 5 := by omega
      subst hdd
      exact ezt_m82_5_1_v5 hS (by omega) hn hc tp hw st lw
    · intro d e c n dd x F A hS hd hn hc tp hw st lw hdd
      have hdd : dd = 5 := by omega
      subst hdd
      exact ezt_m81_5_1_v0_v5 hS (by omega) hn hc tp hw st lw
  | succ m ih =>
    intro hm
    obtain ⟨i82, i81⟩ := ih (by omega)
    refine ⟨?_, ?_⟩
    · intro d e c n dd x F A hS hd hn hc tp hw st lw hdd
      exact ezt_m82_5_1_vS (ml := m + 1) (mm := m) hS (by omega) rfl (by omega) hdd i82 i81 hn hc tp hw st lw
    · intro d e c n dd x F A hS hd hn hc tp hw st lw hdd
      exact ezt_m81_5_1_v0_vS (ml := m + 1) (mm := m) hS (by omega) rfl (by omega) hdd i82 i81 hn hc tp hw st lw
theorem ezt_m81_5_1_v0_v0L {c : Int → Int} {n : Int} {x : ezp_X} {F : Nat → Nat → Int} {A : Nat → Int → Int} (hS : ezs_T F A) (hd : 40 ≤ d) (hn : F 1 2 = n) (hc : c = ezp_ch (A 2) n) (tp : ezp_tp c n) (hw : ∀ j, 0 ≤ j → j < 48 → A 3 j = ezl_cw.getD j.toNat 0) (st : ezt_ST c n x.1 F) (lw : ezt_LW 5 x.2 F A) : ezw_C l ρ B xa Hb D cA 81 d [ezw_p 5, ezw_p 1, ezw_i (0), ezw_i (0)] (ezu_g e F A) (fun v g' => ∃ (F' : Nat → Nat → Int) (A' : Nat → Int → Int), ezu_g e F' A' = g' ∧ ezs_T F' A' ∧ (∀ p j, ¬ (p = 1 ∧ (j = 3 ∨ j = 4 ∨ j = 5 ∨ j = 6 ∨ j = 7 ∨ j = 8 ∨ j = 9) ∨ p = 5 ∧ (j = 4)) → F' p j = F p j) ∧ (∀ p, ¬ (p = 6) → A' p = A p) ∧ (ezt_ST c n (ezp_rk c (ezp_pt c 5) 4 x).1 F') ∧ (ezt_LW 5 (ezp_rk c (ezp_pt c 5) 4 x).2 F' A') ∧ none = v) := (ezt_lev_5 5 (by decide)).2 d e c n 0 x F A hS (by omega) hn hc tp hw st lw (by decide)
theorem ezt_lev_9 : ∀ m : Nat, m ≤ 5 → ezt_I82_9 l ρ B xa Hb D cA m ∧ ezt_I81_9 l ρ B xa Hb D cA m := by
  intro m
  induction m with
  | zero =>
    intro _
    refine ⟨?_, ?_⟩
    · intro d e c n dd x F A hS hd hn hc tp hw st lw hdd
      have hdd : dd = 5 := by omega
      subst hdd
      exact ezt_m82_9_1_v5 hS (by omega) hn hc tp hw st lw
    · intro d e c n dd x F A hS hd hn hc tp hw st lw hdd
      have hdd : dd = 5 := by omega
      subst hdd
      exact ezt_m81_9_1_v0_v5 hS (by omega) hn hc tp hw st lw
  | succ m ih =>
    intro hm
    obtain ⟨i82, i81⟩ := ih (by omega)
    refine ⟨?_, ?_⟩
    · intro d e c n dd x F A hS hd hn hc tp hw st lw hdd
      exact ezt_m82_9_1_vS (ml := m + 1) (mm := m) hS (by omega) rfl (by omega) hdd i82 i81 hn hc tp hw st lw
    · intro d e c n dd x F A hS hd hn hc tp hw st lw hdd
      exact ezt_m81_9_1_v0_vS (ml := m + 1) (mm := m) hS (by omega) rfl (by omega) hdd i82 i81 hn hc tp hw st lw
theorem ezt_m81_9_1_v0_v0L {c : Int → Int} {n : Int} {x : ezp_X} {F : Nat → Nat → Int} {A : Nat → Int → Int} (hS : ezs_T F A) (hd : 40 ≤ d) (hn : F 1 2 = n) (hc : c = ezp_ch (A 2) n) (tp : ezp_tp c n) (hw : ∀ j, 0 ≤ j → j < 48 → A 3 j = ezl_cw.getD j.toNat 0) (st : ezt_ST c n x.1 F) (lw : ezt_LW 9 x.2 F A) : ezw_C l ρ B xa Hb D cA 81 d [ezw_p 9, ezw_p 1, ezw_i (0), ezw_i (0)] (ezu_g e F A) (fun v g' => ∃ (F' : Nat → Nat → Int) (A' : Nat → Int → Int), ezu_g e F' A' = g' ∧ ezs_T F' A' ∧ (∀ p j, ¬ (p = 1 ∧ (j = 3 ∨ j = 4 ∨ j = 5 ∨ j = 6 ∨ j = 7 ∨ j = 8 ∨ j = 9) ∨ p = 9 ∧ (j = 4)) → F' p j = F p j) ∧ (∀ p, ¬ (p = 10) → A' p = A p) ∧ (ezt_ST c n (ezp_rk c (ezp_pt c 5) 4 x).1 F') ∧ (ezt_LW 9 (ezp_rk c (ezp_pt c 5) 4 x).2 F' A') ∧ none = v) := (ezt_lev_9 5 (by decide)).2 d e c n 0 x F A hS (by omega) hn hc tp hw st lw (by decide)
end KT
