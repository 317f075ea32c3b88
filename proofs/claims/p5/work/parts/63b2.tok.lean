/-! ===== the program: the first token ===== -/
section KT
variable {l : Launch} {ρ : ezq_E} {B : Nat} {xa : Nat → Option Nat} {Hb : Heap} {D : va_G} {cA : Nat → ClassId} {d : Nat} {e : Bool × Bool}
def ezt_m29_1Q (e : Bool × Bool) (F : Nat → Nat → Int) (A : Nat → Int → Int) (c : Int → Int) (n : Int) : Option ezq_V → (Nat → ezq_C) → Prop := fun v g' => ∃ (F' : Nat → Nat → Int), ezu_g e F' A = g' ∧ ezs_T F' A ∧ (∀ p j, ¬ (p = 1 ∧ (j = 3 ∨ j = 4 ∨ j = 5 ∨ j = 6 ∨ j = 7 ∨ j = 8 ∨ j = 9)) → F' p j = F p j) ∧ (ezt_ST c n (0, 0) F') ∧ none = v
theorem ezt_m29_1 {c : Int → Int} {n : Int} {F : Nat → Nat → Int} {A : Nat → Int → Int} (hS : ezs_T F A) (hd : 5 ≤ d) (hn : F 1 2 = n) (hc : c = ezp_ch (A 2) n) (tp : ezp_tp c n) (hw : ∀ j, 0 ≤ j → j < 48 → A 3 j = ezl_cw.getD j.toNat 0) : ezw_C l ρ B xa Hb D cA 29 d [ezw_p 1] (ezu_g e F A) (ezt_m29_1Q e F A c n) := by
  refine ezw_met (k := 0) rfl rfl ?_
  have hn0 := tp.1
  have hn1 := tp.2.1
  refine ezw_aload_n rfl rfl ?_
  refine ezw_iconst (0) rfl rfl ?_
  refine ezy_put_i hS rfl rfl rfl rfl rfl ⟨by decide, by decide⟩ (fun F1 hS mF1 nF1 => ?_)
  refine ezw_aload_n rfl rfl ?_
  refine ezw_iconst (0) rfl rfl ?_
  refine ezy_put_i hS rfl rfl rfl rfl rfl ⟨by decide, by decide⟩ (fun F2 hS mF2 nF2 => ?_)
  refine ezw_aload_n rfl rfl ?_
  refine ezw_call0_0 rfl (by omega) (ezu_at rfl) rfl rfl rfl rfl (ezt_m30_1 hS (by omega) (by rw [nF2 1 2 (by decide), nF1 1 2 (by decide)]; exact hn) hc tp hw (by omega)) ?_
  rintro _ _ ⟨F3, rfl, hS, nF3, p8_3, p9_3, p3_3, p4_3, p7_3, p0_3, rfl⟩
  exact ezw_return rfl rfl ⟨F3, rfl, hS, (fun p j h => by rw [nF3 p j (by omega), nF2 p j (by omega), nF1 p j (by omega)]), ezt_ST_0 (by rw [mF2]) (by rw [nF3 1 6 (by decide), nF2 1 6 (by decide), mF1]) p8_3 p9_3 p3_3 p4_3 p7_3 p0_3, rfl⟩
end KT
