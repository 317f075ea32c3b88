/-! ===== more rows ===== -/
def ezs_rdg (x : Int) (v : Option ezq_V) : Prop := ∃ i, ((0 ≤ i ∧ i ≤ 1) ∧ (i ≠ 0 → 48 ≤ x ∧ x ≤ 57)) ∧ some (ezw_i i) = v
def ezs_rsg (F : Nat → Nat → Int) (A : Nat → Int → Int) (x : Int) (v : Option ezq_V) : Prop := ∃ i, (ezw_in i ∧ (0 ≤ x ∧ x < F 1 2 ∧ x < 1000 → i = A 2 x) ∧ (¬ (0 ≤ x ∧ x < F 1 2 ∧ x < 1000) → i = 0)) ∧ some (ezw_i i) = v
abbrev ezs_b (v : Int) : Prop := 0 ≤ v ∧ v ≤ 1
def ezs_P0 (e : Bool × Bool) (fz : Nat → Bool) (F0 : Nat → Nat → Int) (A0 : Nat → Int → Int) (R : Option ezq_V → Prop) : Option ezq_V → (Nat → ezq_C) → Prop := fun v g' => (∃ F' A', g' = ezu_g e F' A' ∧ ezs_I fz F0 A0 F' A' ∧ F' 1 2 = 0) ∧ R v
section KS2
variable {l : Launch} {ρ : ezq_E} {B : Nat} {xa : Nat → Option Nat} {Hb : Heap} {D : va_G} {cA : Nat → ClassId} {d : Nat} {e : Bool × Bool} {F : Nat → Nat → Int} {A : Nat → Int → Int} {fz : Nat → Bool} {F0 : Nat → Nat → Int} {A0 : Nat → Int → Int}
variable {r : ezq_R} {P : Option ezq_V → (Nat → ezq_C) → Prop} {pc : Nat} {ls : List (Option ezq_V)} {st : List ezq_V}
theorem ezs_ialoadX (hI : ezs_I fz F0 A0 F A) {q n0 a b0 c0 x0 y0 : Nat} {i : Int} (he : ezw_at r pc = some (.iaload, 1, (a, b0, c0, x0, y0))) (hk : ezu_kd q = (0, n0)) (hq : Nat.blt q 72 = true) (h0 : 0 ≤ i) (h1 : i < (n0 : Int)) (hn : n0 ≤ 100000) (h : ∀ u, ezw_in u → u = A q i → ezw_E l ρ B xa Hb D cA d r P (pc + 1) ls (ezw_i u :: st) (ezu_g e F A)) : ezw_E l ρ B xa Hb D cA d r P pc ls (ezw_i i :: ezw_p q :: st) (ezu_g e F A) :=
  ezw_iaload he (ezu_at hk) (Nat.ble_eq_true_of_le (Nat.le_trans (ezq_bltT hq) (by decide))) h0 h1 hn rfl (h _ (ezs_ak_in (by rw [hk]; rfl) ((hI.1 q (ezq_bltT hq)).2 i)) rfl)
variable {g : Nat → ezq_C}
theorem ezs_mabs {kk b0 x0 y0 : Nat} {i : Int} (he : ezw_at r pc = some (.invokestatic kk, 3, (2, b0, 7, x0, y0))) (hi : ezw_in i) (hcat : Nat.ble (ezq_cat (ezw_i i :: st)) 8 = true) (h : ∀ u, ezw_in u → ezw_E l ρ B xa Hb D cA d r P (pc + 3) ls (ezw_i u :: st) g) : ezw_E l ρ B xa Hb D cA d r P pc ls (ezw_i i :: st) g := by
  refine ezw_mabsE he hi hcat (fun u hu => ?_)
  obtain ⟨w, hw, ew⟩ := ezw_wrap u
  rw [ew]
  exact h w hw
end KS2
