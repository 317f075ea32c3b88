/-! ===== the next token, where the class stands ===== -/
section KT
variable {l : Launch} {ρ : ezq_E} {B : Nat} {xa : Nat → Option Nat} {Hb : Heap} {D : va_G} {cA : Nat → ClassId} {d : Nat} {e : Bool × Bool}
theorem ezt_take {c : Int → Int} {n : Int} {s : Int × Int} {F : Nat → Nat → Int} {A : Nat → Int → Int} (hS : ezs_T F A) (hd : 6 ≤ d) (hn : F 1 2 = n) (hc : c = ezp_ch (A 2) n) (tp : ezp_tp c n) (hw : ∀ j, 0 ≤ j → j < 48 → A 3 j = ezl_cw.getD j.toNat 0) (st : ezt_ST c n s F) : ezw_C l ρ B xa Hb D cA 30 d [ezw_p 1] (ezu_g e F A) (fun v g' => ∃ (F' : Nat → Nat → Int), ezu_g e F' A = g' ∧ ezs_T F' A ∧ (∀ p j, ¬ (p = 1 ∧ (j = 3 ∨ j = 4 ∨ j = 5 ∨ j = 7 ∨ j = 8 ∨ j = 9)) → F' p j = F p j) ∧ ezt_ST c n (ezp_t s) F' ∧ none = v) := by
  refine ezw_Cmono (ezt_m30_1 hS (by omega) hn hc tp hw ⟨st.2.2.2.1, st.2.2.2.2⟩) ?_
  rintro v g' ⟨F', rfl, hS', nF, p8, p9, p3, p4, p7, p0, rfl⟩
  exact ⟨F', rfl, hS', nF, ezt_ST_t st (nF 1 6 (by decide)) p8 p9 p3 p4 p7 p0, rfl⟩
end KT
