/-! ===== the program: a line, whichever ===== -/
section KT
variable {l : Launch} {ρ : ezq_E} {B : Nat} {xa : Nat → Option Nat} {Hb : Heap} {D : va_G} {cA : Nat → ClassId} {d : Nat} {e : Bool × Bool}
def ezt_m47_4_1_30Q (e : Bool × Bool) (F : Nat → Nat → Int) (A : Nat → Int → Int) (c : Int → Int) (n : Int) (s : Int × Int) (t : ezp_D) (L : ezv_LL) : Option ezq_V → (Nat → ezq_C) → Prop := fun v g' => ∃ (F' : Nat → Nat → Int) (A' : Nat → Int → Int), ezu_g e F' A' = g' ∧ ezs_T F' A' ∧ (∀ p j, ¬ (p = 1 ∧ (j = 3 ∨ j = 4 ∨ j = 5 ∨ j = 6 ∨ j = 7 ∨ j = 8 ∨ j = 9) ∨ p = 4 ∧ (j = 2) ∨ p = 5 ∧ (j = 3 ∨ j = 4) ∨ p = 9 ∧ (j = 3 ∨ j = 4) ∨ p = 30 ∧ (j = 15 ∨ j = 16 ∨ j = 17) ∨ p = 38 ∧ (j = 1)) → F' p j = F p j) ∧ (∀ p, ¬ (p = 6 ∨ p = 10 ∨ p = 31 ∨ p = 32 ∨ p = 33 ∨ p = 34 ∨ p = 35 ∨ p = 36 ∨ p = 37 ∨ p = 39 ∨ p = 40 ∨ p = 41 ∨ p = 42 ∨ p = 43 ∨ p = 44) → A' p = A p) ∧ (ezt_ST c n ((ezp_lne c t s).1) F') ∧ (ezt_TR 30 ((ezp_lne c t s).2) F' A') ∧ ((ezp_lne c t s).1.1 = 0 → ezt_NU 30 (ezp_lne c t s).2 A') ∧ ((ezp_lne c t s).1.1 = 0 → ezt_DI (ezp_lne c t s).2 F') ∧ (ezt_LA (ezp_lnl c t s L) F' A') ∧ none = v
theorem ezt_m47_4_1_30 {c : Int → Int} {n : Int} {s : Int × Int} {t : ezp_D} {L : ezv_LL} {F : Nat → Nat → Int} {A : Nat → Int → Int} (hS : ezs_T F A) (hd : 42 ≤ d) (hn : F 1 2 = n) (hc : c = ezp_ch (A 2) n) (tp : ezp_tp c n) (hw : ∀ j, 0 ≤ j → j < 48 → A 3 j = ezl_cw.getD j.toNat 0) (st : ezt_ST c n s F) (tr : ezt_TR 30 t F A) (nu : s.1 = 0 → ezt_NU 30 t A) (di : ezt_DI t F) (la : ezt_LA L F A) (z0 : s.1 = 0) : ezw_C l ρ B xa Hb D cA 47 d [ezw_p 4, ezw_p 1, ezw_p 30] (ezu_g e F A) (ezt_m47_4_1_30Q e F A c n s t L) := by
  by_cases hz : (ezp_cf c t s).1 = 0
  · obtain ⟨-, hcw⟩ := ezp_cf_0 (ezp_Pr tp s.2).1 hz
    obtain ⟨-, hws, -⟩ := ezp_cf_w hcw
    rcases hws with h | h | h | h | h | h | h | h | h | h | h | h | h | h
    · exact ezw_Cmono (ezt_m47_4_1_30w0 hS (by omega) hn hc tp hw st tr nu di la z0 hz h) (fun v g' y => y)
    · exact ezw_Cmono (ezt_m47_4_1_30w9 hS (by omega) hn hc tp hw st tr nu di la z0 hz h) (fun v g' y => y)
    · exact ezw_Cmono (ezt_m47_4_1_30w20 hS (by omega) hn hc tp hw st tr nu di la z0 hz h) (fun v g' y => y)
    · exact ezw_Cmono (ezt_m47_4_1_30w12 hS (by omega) hn hc tp hw st tr nu di la z0 hz h) (fun v g' y => y)
    · exact ezw_Cmono (ezt_m47_4_1_30w5 hS (by omega) hn hc tp hw st tr nu di la z0 hz h) (fun v g' y => y)
    · exact ezw_Cmono (ezt_m47_4_1_30w6 hS (by omega) hn hc tp hw st tr nu di la z0 hz h) (fun v g' y => y)
    · exact ezw_Cmono (ezt_m47_4_1_30w13 hS (by omega) hn hc tp hw st tr nu di la z0 hz h) (fun v g' y => y)
    · exact ezw_Cmono (ezt_m47_4_1_30w14 hS (by omega) hn hc tp hw st tr nu di la z0 hz h) (fun v g' y => y)
    · exact ezw_Cmono (ezt_m47_4_1_30w15 hS (by omega) hn hc tp hw st tr nu di la z0 hz h) (fun v g' y => y)
    · exact ezw_Cmono (ezt_m47_4_1_30w16 hS (by omega) hn hc tp hw st tr nu di la z0 hz h) (fun v g' y => y)
    · exact ezw_Cmono (ezt_m47_4_1_30w18 hS (by omega) hn hc tp hw st tr nu di la z0 hz h) (fun v g' y => y)
    · exact ezw_Cmono (ezt_m47_4_1_30w19 hS (by omega) hn hc tp hw st tr nu di la z0 hz h) (fun v g' y => y)
    · exact ezw_Cmono (ezt_m47_4_1_30w21 hS (by omega) hn hc tp hw st tr nu di la z0 hz h) (fun v g' y => y)
    · exact ezw_Cmono (ezt_m47_4_1_30w22 hS (by omega) hn hc tp hw st tr nu di la z0 hz h) (fun v g' y => y)
  · exact ezw_Cmono (ezt_m47_4_1_30wf hS (by omega) hn hc tp hw st tr nu di la z0 hz) (fun v g' y => y)
def ezt_m47_4_1_47Q (e : Bool × Bool) (F : Nat → Nat → Int) (A : Nat → Int → Int) (c : Int → Int) (n : Int) (s : Int × Int) (t : ezp_D) (L : ezv_LL) : Option ezq_V → (Nat → ezq_C) → Prop := fun v g' => ∃ (F' : Nat → Nat → Int) (A' : Nat → Int → Int), ezu_g e F' A' = g' ∧ ezs_T F' A' ∧ (∀ p j, ¬ (p = 1 ∧ (j = 3 ∨ j = 4 ∨ j = 5 ∨ j = 6 ∨ j = 7 ∨ j = 8 ∨ j = 9) ∨ p = 4 ∧ (j = 2) ∨ p = 5 ∧ (j = 3 ∨ j = 4) ∨ p = 9 ∧ (j = 3 ∨ j = 4) ∨ p = 47 ∧ (j = 15 ∨ j = 16 ∨ j = 17) ∨ p = 55 ∧ (j = 1)) → F' p j = F p j) ∧ (∀ p, ¬ (p = 6 ∨ p = 10 ∨ p = 48 ∨ p = 49 ∨ p = 50 ∨ p = 51 ∨ p = 52 ∨ p = 53 ∨ p = 54 ∨ p = 56 ∨ p = 57 ∨ p = 58 ∨ p = 59 ∨ p = 60 ∨ p = 61) → A' p = A p) ∧ (ezt_ST c n ((ezp_lne c t s).1) F') ∧ (ezt_TR 47 ((ezp_lne c t s).2) F' A') ∧ ((ezp_lne c t s).1.1 = 0 → ezt_NU 47 (ezp_lne c t s).2 A') ∧ ((ezp_lne c t s).1.1 = 0 → ezt_DI (ezp_lne c t s).2 F') ∧ (ezt_LA (ezp_lnl c t s L) F' A') ∧ none = v
theorem ezt_m47_4_1_47 {c : Int → Int} {n : Int} {s : Int × Int} {t : ezp_D} {L : ezv_LL} {F : Nat → Nat → Int} {A : Nat → Int → Int} (hS : ezs_T F A) (hd : 42 ≤ d) (hn : F 1 2 = n) (hc : c = ezp_ch (A 2) n) (tp : ezp_tp c n) (hw : ∀ j, 0 ≤ j → j < 48 → A 3 j = ezl_cw.getD j.toNat 0) (st : ezt_ST c n s F) (tr : ezt_TR 47 t F A) (nu : s.1 = 0 → ezt_NU 47 t A) (di : ezt_DI t F) (la : ezt_LA L F A) (z0 : s.1 = 0) : ezw_C l ρ B xa Hb D cA 47 d [ezw_p 4, ezw_p 1, ezw_p 47] (ezu_g e F A) (ezt_m47_4_1_47Q e F A c n s t L) := by
  by_cases hz : (ezp_cf c t s).1 = 0
  · obtain ⟨-, hcw⟩ := ezp_cf_0 (ezp_Pr tp s.2).1 hz
    obtain ⟨-, hws, -⟩ := ezp_cf_w hcw
    rcases hws with h | h | h | h | h | h | h | h | h | h | h | h | h | h
    · exact ezw_Cmono (ezt_m47_4_1_47w0 hS (by omega) hn hc tp hw st tr nu di la z0 hz h) (fun v g' y => y)
    · exact ezw_Cmono (ezt_m47_4_1_47w9 hS (by omega) hn hc tp hw st tr nu di la z0 hz h) (fun v g' y => y)
    · exact ezw_Cmono (ezt_m47_4_1_47w20 hS (by omega) hn hc tp hw st tr nu di la z0 hz h) (fun v g' y => y)
    · exact ezw_Cmono (ezt_m47_4_1_47w12 hS (by omega) hn hc tp hw st tr nu di la z0 hz h) (fun v g' y => y)
    · exact ezw_Cmono (ezt_m47_4_1_47w5 hS (by omega) hn hc tp hw st tr nu di la z0 hz h) (fun v g' y => y)
    · exact ezw_Cmono (ezt_m47_4_1_47w6 hS (by omega) hn hc tp hw st tr nu di la z0 hz h) (fun v g' y => y)
    · exact ezw_Cmono (ezt_m47_4_1_47w13 hS (by omega) hn hc tp hw st tr nu di la z0 hz h) (fun v g' y => y)
    · exact ezw_Cmono (ezt_m47_4_1_47w14 hS (by omega) hn hc tp hw st tr nu di la z0 hz h) (fun v g' y => y)
    · exact ezw_Cmono (ezt_m47_4_1_47w15 hS (by omega) hn hc tp hw st tr nu di la z0 hz h) (fun v g' y => y)
    · exact ezw_Cmono (ezt_m47_4_1_47w16 hS (by omega) hn hc tp hw st tr nu di la z0 hz h) (fun v g' y => y)
    · exact ezw_Cmono (ezt_m47_4_1_47w18 hS (by omega) hn hc tp hw st tr nu di la z0 hz h) (fun v g' y => y)
    · exact ezw_Cmono (ezt_m47_4_1_47w19 hS (by omega) hn hc tp hw st tr nu di la z0 hz h) (fun v g' y => y)
    · exact ezw_Cmono (ezt_m47_4_1_47w21 hS (by omega) hn hc tp hw st tr nu di la z0 hz h) (fun v g' y => y)
    · exact ezw_Cmono (ezt_m47_4_1_47w22 hS (by omega) hn hc tp hw st tr nu di la z0 hz h) (fun v g' y => y)
  · exact ezw_Cmono (ezt_m47_4_1_47wf hS (by omega) hn hc tp hw st tr nu di la z0 hz) (fun v g' y => y)
end KT
