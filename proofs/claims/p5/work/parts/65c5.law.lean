/-! ===== the program: a law read ===== -/
section KT
variable {l : Launch} {ρ : ezq_E} {B : Nat} {xa : Nat → Option Nat} {Hb : Heap} {D : va_G} {cA : Nat → ClassId} {d : Nat} {e : Bool × Bool}
def ezt_m80_5_1Q (e : Bool × Bool) (F : Nat → Nat → Int) (A : Nat → Int → Int) (c : Int → Int) (n : Int) (s : Int × Int) : Option ezq_V → (Nat → ezq_C) → Prop := fun v g' => ∃ (F' : Nat → Nat → Int) (A' : Nat → Int → Int), ezu_g e F' A' = g' ∧ ezs_T F' A' ∧ (∀ p j, ¬ (p = 1 ∧ (j = 3 ∨ j = 4 ∨ j = 5 ∨ j = 6 ∨ j = 7 ∨ j = 8 ∨ j = 9) ∨ p = 5 ∧ (j = 3 ∨ j = 4)) → F' p j = F p j) ∧ (∀ p, ¬ (p = 6) → A' p = A p) ∧ (ezt_ST c n ((ezp_rk c (ezp_pt c 5) 4 (s, (0, fun _ => 0))).1) F') ∧ (ezt_LW 5 (ezp_rk c (ezp_pt c 5) 4 (s, (0, fun _ => 0))).2 F' A') ∧ (F' 5 3 = 1) ∧ none = v
theorem ezt_m80_5_1 {c : Int → Int} {n : Int} {s : Int × Int} {F : Nat → Nat → Int} {A : Nat → Int → Int} (hS : ezs_T F A) (hd : 41 ≤ d) (hn : F 1 2 = n) (hc : c = ezp_ch (A 2) n) (tp : ezp_tp c n) (hw : ∀ j, 0 ≤ j → j < 48 → A 3 j = ezl_cw.getD j.toNat 0) (st : ezt_ST c n s F) : ezw_C l ρ B xa Hb D cA 80 d [ezw_p 5, ezw_p 1] (ezu_g e F A) (ezt_m80_5_1Q e F A c n s) := by
  refine ezw_met (k := 0) rfl rfl ?_
  refine ezw_aload_n rfl rfl ?_
  refine ezw_iconst (1) rfl rfl ?_
  refine ezy_put_z hS rfl rfl rfl rfl ⟨by omega, by omega⟩ rfl (show ezs_fk 5 3 _ from ⟨by omega, by omega⟩) (fun F1 hS mF1 nF1 => ?_)
  refine ezw_aload_n rfl rfl ?_
  refine ezw_iconst (0) rfl rfl ?_
  refine ezy_put_i hS rfl rfl rfl rfl rfl ⟨by decide, by decide⟩ (fun F2 hS mF2 nF2 => ?_)
  refine ezw_aload_n rfl rfl ?_
  refine ezw_aload_n rfl rfl ?_
  refine ezw_iconst (0) rfl rfl ?_
  refine ezw_iconst (0) rfl rfl ?_
  refine ezw_call0_3 rfl (by omega) (ezu_at rfl) rfl rfl rfl rfl (ezt_m81_5_1_v0_v0L (x := (s, (0, fun _ => 0))) hS (by omega) (by rw [nF2 1 2 (by decide), nF1 1 2 (by decide)]; exact hn) hc tp hw (ezt_ST_fr st (fun j j0 j1 => by rw [nF2 1 j (by omega), nF1 1 j (by omega)])) ⟨Int.le_refl 0, fun _ => ⟨mF2, fun j j0 j1 => absurd (show j < 0 from j1) (by omega)⟩⟩) ?_
  rintro _ _ ⟨F3, A3, rfl, hS, nF3, nA3, st_3, lw_3, rfl⟩
  have w5_3 : F3 5 3 = (1) := by rw [nF3 5 3 (by decide), nF2 5 3 (by decide), mF1]
  exact ezw_return rfl rfl ⟨F3, A3, rfl, hS, (fun p j h => by rw [nF3 p j (fun z => h (z.elim (fun y => (Or.inl ⟨y.1, y.2⟩)) (fun y => (Or.inr ⟨y.1, (Or.inr y.2)⟩)))), nF2 p j (fun z => h (Or.inr ⟨z.1, (Or.inr z.2)⟩)), nF1 p j (fun z => h (Or.inr ⟨z.1, (Or.inl z.2)⟩))]), (fun p h => by
        funext j
        rw [nA3 p (fun z => h (z))]), st_3, lw_3, (by rw [nF3 5 3 (by decide), nF2 5 3 (by decide), mF1]), rfl⟩
def ezt_m80_9_1Q (e : Bool × Bool) (F : Nat → Nat → Int) (A : Nat → Int → Int) (c : Int → Int) (n : Int) (s : Int × Int) : Option ezq_V → (Nat → ezq_C) → Prop := fun v g' => ∃ (F' : Nat → Nat → Int) (A' : Nat → Int → Int), ezu_g e F' A' = g' ∧ ezs_T F' A' ∧ (∀ p j, ¬ (p = 1 ∧ (j = 3 ∨ j = 4 ∨ j = 5 ∨ j = 6 ∨ j = 7 ∨ j = 8 ∨ j = 9) ∨ p = 9 ∧ (j = 3 ∨ j = 4)) → F' p j = F p j) ∧ (∀ p, ¬ (p = 10) → A' p = A p) ∧ (ezt_ST c n ((ezp_rk c (ezp_pt c 5) 4 (s, (0, fun _ => 0))).1) F') ∧ (ezt_LW 9 (ezp_rk c (ezp_pt c 5) 4 (s, (0, fun _ => 0))).2 F' A') ∧ (F' 9 3 = 1) ∧ none = v
theorem ezt_m80_9_1 {c : Int → Int} {n : Int} {s : Int × Int} {F : Nat → Nat → Int} {A : Nat → Int → Int} (hS : ezs_T F A) (hd : 41 ≤ d) (hn : F 1 2 = n) (hc : c = ezp_ch (A 2) n) (tp : ezp_tp c n) (hw : ∀ j, 0 ≤ j → j < 48 → A 3 j = ezl_cw.getD j.toNat 0) (st : ezt_ST c n s F) : ezw_C l ρ B xa Hb D cA 80 d [ezw_p 9, ezw_p 1] (ezu_g e F A) (ezt_m80_9_1Q e F A c n s) := by
  refine ezw_met (k := 0) rfl rfl ?_
  refine ezw_aload_n rfl rfl ?_
  refine ezw_iconst (1) rfl rfl ?_
  refine ezy_put_z hS rfl rfl rfl rfl ⟨by omega, by omega⟩ rfl (show ezs_fk 9 3 _ from ⟨by omega, by omega⟩) (fun F1 hS mF1 nF1 => ?_)
  refine ezw_aload_n rfl rfl ?_
  refine ezw_iconst (0) rfl rfl ?_
  refine ezy_put_i hS rfl rfl rfl rfl rfl ⟨by decide, by decide⟩ (fun F2 hS mF2 nF2 => ?_)
  refine ezw_aload_n rfl rfl ?_
  refine ezw_aload_n rfl rfl ?_
  refine ezw_iconst (0) rfl rfl ?_
  refine ezw_iconst (0) rfl rfl ?_
  refine ezw_call0_3 rfl (by omega) (ezu_at rfl) rfl rfl rfl rfl (ezt_m81_9_1_v0_v0L (x := (s, (0, fun _ => 0))) hS (by omega) (by rw [nF2 1 2 (by decide), nF1 1 2 (by decide)]; exact hn) hc tp hw (ezt_ST_fr st (fun j j0 j1 => by rw [nF2 1 j (by omega), nF1 1 j (by omega)])) ⟨Int.le_refl 0, fun _ => ⟨mF2, fun j j0 j1 => absurd (show j < 0 from j1) (by omega)⟩⟩) ?_
  rintro _ _ ⟨F3, A3, rfl, hS, nF3, nA3, st_3, lw_3, rfl⟩
  have w9_3 : F3 9 3 = (1) := by rw [nF3 9 3 (by decide), nF2 9 3 (by decide), mF1]
  exact ezw_return rfl rfl ⟨F3, A3, rfl, hS, (fun p j h => by rw [nF3 p j (fun z => h (z.elim (fun y => (Or.inl ⟨y.1, y.2⟩)) (fun y => (Or.inr ⟨y.1, (Or.inr y.2)⟩)))), nF2 p j (fun z => h (Or.inr ⟨z.1, (Or.inr z.2)⟩)), nF1 p j (fun z => h (Or.inr ⟨z.1, (Or.inl z.2)⟩))]), (fun p h => by
        funext j
        rw [nA3 p (fun z => h (z))]), st_3, lw_3, (by rw [nF3 9 3 (by decide), nF2 9 3 (by decide), mF1]), rfl⟩
end KT
