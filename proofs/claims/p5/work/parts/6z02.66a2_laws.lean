/-! ===== the laws, while a TREE is read ===== -/
def ezv_LL : Type := (Int × (Int × (Int → Int))) × (Int × (Int × (Int → Int)))
def ezv_L0 : ezv_LL := ((0, (0, fun _ => 0)), (0, (0, fun _ => 0)))
def ezp_lnl (c : Int → Int) (t : ezp_D) (s : Int × Int) (L : ezv_LL) : ezv_LL := if (ezp_cf c t s).1 = 0 then (if ezp_K c s.2 = 21 then ((1, (ezv_lx c (ezp_t s)).2), L.2) else if ezp_K c s.2 = 22 then (L.1, (1, (ezv_lx c (ezp_t s)).2)) else L) else L
def ezp_rl (c : Int → Int) : Nat → ((Int × Int) × ezp_D) × ezv_LL → ((Int × Int) × ezp_D) × ezv_LL := fun m => match m with
  | 0 => fun z => z
  | m + 1 => fun z => if z.1.1.1 = 0 ∧ ezp_K c z.1.1.2 ≠ 102 then ezp_rl c m (ezp_lne c z.1.2 z.1.1, ezp_lnl c z.1.2 z.1.1 z.2) else z
section
variable {c : Int → Int} {t : ezp_D} {s : Int × Int} {L : ezv_LL} {m : Nat} {z : ((Int × Int) × ezp_D) × ezv_LL}
theorem ezp_lnl_0 (h : (ezp_cf c t s).1 ≠ 0) : ezp_lnl c t s L = L := if_neg h
theorem ezp_lnl_21 (h : (ezp_cf c t s).1 = 0) (k : ezp_K c s.2 = 21) : ezp_lnl c t s L = ((1, (ezv_lx c (ezp_t s)).2), L.2) := (if_pos h).trans (if_pos k)
theorem ezp_lnl_22 (h : (ezp_cf c t s).1 = 0) (k : ezp_K c s.2 = 22) : ezp_lnl c t s L = (L.1, (1, (ezv_lx c (ezp_t s)).2)) := (if_pos h).trans ((if_neg (by omega)).trans (if_pos k))
theorem ezp_lnl_n (h : (ezp_cf c t s).1 = 0) (k : ezp_K c s.2 ≠ 21 ∧ ezp_K c s.2 ≠ 22) : ezp_lnl c t s L = L := (if_pos h).trans ((if_neg k.1).trans (if_neg k.2))
theorem ezp_rl_s (h : z.1.1.1 = 0 ∧ ezp_K c z.1.1.2 ≠ 102) : ezp_rl c (m + 1) z = ezp_rl c m (ezp_lne c z.1.2 z.1.1, ezp_lnl c z.1.2 z.1.1 z.2) := if_pos h
theorem ezp_rl_n (h : ¬ (z.1.1.1 = 0 ∧ ezp_K c z.1.1.2 ≠ 102)) : ezp_rl c m z = z := by
  cases m with
  | zero => rfl
  | succ m => exact if_neg h
theorem ezp_rl_1 : ∀ (m : Nat) (z : ((Int × Int) × ezp_D) × ezv_LL), (ezp_rl c m z).1 = ezp_rd c m z.1 := by
  intro m
  induction m with
  | zero => intro z; rfl
  | succ m ih =>
    intro z
    by_cases h : z.1.1.1 = 0 ∧ ezp_K c z.1.1.2 ≠ 102
    · rw [ezp_rl_s h, ezp_rd_s h]
      exact ih _
    · rw [ezp_rl_n h, ezp_rd_n h]
def ezv_LO (L : ezv_LL) : Prop := ((L.1.1 = 0 ∨ L.1.1 = 1) ∧ (L.1.1 = 1 → ezv_L L.1.2)) ∧ ((L.2.1 = 0 ∨ L.2.1 = 1) ∧ (L.2.1 = 1 → ezv_L L.2.2))
theorem ezv_LO_0 : ezv_LO ezv_L0 := ⟨⟨Or.inl rfl, fun z => absurd (show (0 : Int) = 1 from z) (by decide)⟩, ⟨Or.inl rfl, fun z => absurd (show (0 : Int) = 1 from z) (by decide)⟩⟩
theorem ezv_lnl_o {n : Int} (tp : ezp_tp c n) (h0 : 0 ≤ s.2) (hz : (ezp_lne c t s).1.1 = 0) (h : ezv_LO L) : ezv_LO (ezp_lnl c t s L) := by
  by_cases hc : (ezp_cf c t s).1 = 0
  · have h1 : 0 ≤ (ezp_t s).2 := by
      unfold ezp_t
      split
      · show 0 ≤ s.2 + 1
        omega
      · exact h0
    rw [ezp_lne_1 hc] at hz
    have hw := ezp_0w hz
    by_cases k1 : ezp_K c s.2 = 21
    · rw [ezp_lw_21 k1] at hw
      rw [ezp_lnl_21 hc k1]
      exact ⟨⟨Or.inr rfl, fun _ => ezv_lx_ok tp h1 hw⟩, h.2⟩
    · by_cases k2 : ezp_K c s.2 = 22
      · rw [ezp_lw_22 k2] at hw
        rw [ezp_lnl_22 hc k2]
        exact ⟨h.1, ⟨Or.inr rfl, fun _ => ezv_lx_ok tp h1 hw⟩⟩
      · rw [ezp_lnl_n hc ⟨k1, k2⟩]
        exact h
  · rw [ezp_lnl_0 hc]
    exact h
end
/-- what the class holds of the laws -/
def ezt_LA (L : ezv_LL) (F : Nat → Nat → Int) (A : Nat → Int → Int) : Prop := (F 5 3 = L.1.1 ∧ (L.1.1 = 1 → ezt_LW 5 L.1.2 F A)) ∧ (F 9 3 = L.2.1 ∧ (L.2.1 = 1 → ezt_LW 9 L.2.2 F A))
theorem ezt_LA_fr {L : ezv_LL} {F F' : Nat → Nat → Int} {A A' : Nat → Int → Int} (h : ezt_LA L F A) (e1 : F' 5 3 = F 5 3) (e2 : F' 5 4 = F 5 4) (e3 : A' 6 = A 6) (e4 : F' 9 3 = F 9 3) (e5 : F' 9 4 = F 9 4) (e6 : A' 10 = A 10) : ezt_LA L F' A' := ⟨⟨e1.trans h.1.1, fun z => ezt_LW_fr (h.1.2 z) e2 e3⟩, ⟨e4.trans h.2.1, fun z => ezt_LW_fr (h.2.2 z) e5 e6⟩⟩
/-- the chances, as they are laid out -/
def ezv_CH (L : ezv_LL) (t : ezp_D) (a b : Int → Int) : Prop := (∀ p, 0 ≤ p → p < 60 * t.kT → a p = ezv_run L.1 (p % 60 / 6) (t.th (p / 60)) (p % 6 / 2) (p % 2)) ∧ ∀ p, 0 ≤ p → p < 60 * t.kT → b p = ezv_tear L.2 (p % 60 / 6) (t.th (p / 60)) (p % 6 / 2) (p % 2)
