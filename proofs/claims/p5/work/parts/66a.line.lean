/-! ===== a line, and a whole tree: pure ===== -/
/-- what stands behind the word of a line -/
def ezp_lw (c : Int → Int) (w : Int) (t : ezp_D) (s : Int × Int) : (Int × Int) × ezp_D :=
  if w = 0 then (ezp_twS c t s, ezp_twD c t s) else
  if w = 5 then ezp_sr c 7 true s t else
  if w = 6 then (ezp_ktS c s, ezp_ktD c t s) else
  if w = 9 then (ezp_thS c t s, ezp_thD c t s) else
  if w = 12 then (ezp_ovS c t s, ezp_ovD c t s) else
  if w = 13 then (ezp_wiS c s, ezp_wiD c t s) else
  if w = 16 then (ezp_laS c s, ezp_laD c t s) else
  if w = 20 then (ezp_elS c t s, ezp_elD c t s) else
  if w = 21 then ((ezp_rk c (ezp_pt c 5) 4 (s, (0, fun _ => 0))).1, t) else
  if w = 22 then ((ezp_rk c (ezp_pt c 5) 4 (s, (0, fun _ => 0))).1, t) else
  if w = 14 then (ezp_n c 0 10 s, t.say 5 (ezp_V c s.2)) else
  if w = 15 then (ezp_n c 0 9 s, t.say 6 (ezp_V c s.2)) else
  if w = 18 then (ezp_n c 1 99 s, t.say 9 (ezp_V c s.2)) else
  (ezp_n c 1 15 s, t.say 10 (ezp_V c s.2))
section
variable {c : Int → Int} {w : Int} {t : ezp_D} {s : Int × Int}
theorem ezp_lw_0 (h : w = 0) : ezp_lw c w t s = (ezp_twS c t s, ezp_twD c t s) := by
  subst h
  unfold ezp_lw
  repeat (first | rw [if_pos (by decide)] | rw [if_neg (by decide)])
theorem ezp_lw_5 (h : w = 5) : ezp_lw c w t s = ezp_sr c 7 true s t := by
  subst h
  unfold ezp_lw
  repeat (first | rw [if_pos (by decide)] | rw [if_neg (by decide)])
theorem ezp_lw_6 (h : w = 6) : ezp_lw c w t s = (ezp_ktS c s, ezp_ktD c t s) := by
  subst h
  unfold ezp_lw
  repeat (first | rw [if_pos (by decide)] | rw [if_neg (by decide)])
theorem ezp_lw_9 (h : w = 9) : ezp_lw c w t s = (ezp_thS c t s, ezp_thD c t s) := by
  subst h
  unfold ezp_lw
  repeat (first | rw [if_pos (by decide)] | rw [if_neg (by decide)])
theorem ezp_lw_12 (h : w = 12) : ezp_lw c w t s = (ezp_ovS c t s, ezp_ovD c t s) := by
  subst h
  unfold ezp_lw
  repeat (first | rw [if_pos (by decide)] | rw [if_neg (by decide)])
theorem ezp_lw_13 (h : w = 13) : ezp_lw c w t s = (ezp_wiS c s, ezp_wiD c t s) := by
  subst h
  unfold ezp_lw
  repeat (first | rw [if_pos (by decide)] | rw [if_neg (by decide)])
theorem ezp_lw_16 (h : w = 16) : ezp_lw c w t s = (ezp_laS c s, ezp_laD c t s) := by
  subst h
  unfold ezp_lw
  repeat (first | rw [if_pos (by decide)] | rw [if_neg (by decide)])
theorem ezp_lw_20 (h : w = 20) : ezp_lw c w t s = (ezp_elS c t s, ezp_elD c t s) := by
  subst h
  unfold ezp_lw
  repeat (first | rw [if_pos (by decide)] | rw [if_neg (by decide)])
theorem ezp_lw_21 (h : w = 21) : ezp_lw c w t s = ((ezp_rk c (ezp_pt c 5) 4 (s, (0, fun _ => 0))).1, t) := by
  subst h
  unfold ezp_lw
  repeat (first | rw [if_pos (by decide)] | rw [if_neg (by decide)])
theorem ezp_lw_22 (h : w = 22) : ezp_lw c w t s = ((ezp_rk c (ezp_pt c 5) 4 (s, (0, fun _ => 0))).1, t) := by
  subst h
  unfold ezp_lw
  repeat (first | rw [if_pos (by decide)] | rw [if_neg (by decide)])
theorem ezp_lw_14 (h : w = 14) : ezp_lw c w t s = (ezp_n c 0 10 s, t.say 5 (ezp_V c s.2)) := by
  subst h
  unfold ezp_lw
  repeat (first | rw [if_pos (by decide)] | rw [if_neg (by decide)])
theorem ezp_lw_15 (h : w = 15) : ezp_lw c w t s = (ezp_n c 0 9 s, t.say 6 (ezp_V c s.2)) := by
  subst h
  unfold ezp_lw
  repeat (first | rw [if_pos (by decide)] | rw [if_neg (by decide)])
theorem ezp_lw_18 (h : w = 18) : ezp_lw c w t s = (ezp_n c 1 99 s, t.say 9 (ezp_V c s.2)) := by
  subst h
  unfold ezp_lw
  repeat (first | rw [if_pos (by decide)] | rw [if_neg (by decide)])
theorem ezp_lw_19 (h : w = 19) : ezp_lw c w t s = (ezp_n c 1 15 s, t.say 10 (ezp_V c s.2)) := by
  subst h
  unfold ezp_lw
  repeat (first | rw [if_pos (by decide)] | rw [if_neg (by decide)])
end
/-- a line: its word, what stands behind it, its end -/
def ezp_lne (c : Int → Int) (t : ezp_D) (s : Int × Int) : (Int × Int) × ezp_D := if (ezp_cf c t s).1 = 0 then (ezp_w c 259 (ezp_lw c (ezp_K c s.2) (t.once (ezp_K c s.2)) (ezp_t s)).1, (ezp_lw c (ezp_K c s.2) (t.once (ezp_K c s.2)) (ezp_t s)).2) else (ezp_cf c t s, t)
theorem ezp_lne_1 {c : Int → Int} {t : ezp_D} {s : Int × Int} (h : (ezp_cf c t s).1 = 0) : ezp_lne c t s = (ezp_w c 259 (ezp_lw c (ezp_K c s.2) (t.once (ezp_K c s.2)) (ezp_t s)).1, (ezp_lw c (ezp_K c s.2) (t.once (ezp_K c s.2)) (ezp_t s)).2) := if_pos h
theorem ezp_lne_0 {c : Int → Int} {t : ezp_D} {s : Int × Int} (h : (ezp_cf c t s).1 ≠ 0) : ezp_lne c t s = (ezp_cf c t s, t) := if_neg h
def ezp_wds (k : Int) : Prop := k = 5 ∨ k = 6 ∨ k = 13 ∨ k = 14 ∨ k = 15 ∨ k = 16 ∨ k = 18 ∨ k = 19 ∨ k = 21 ∨ k = 22
/-- a line that begins well -/
theorem ezp_cf_0 {c : Int → Int} {t : ezp_D} {s : Int × Int} (hP : 0 ≤ ezp_P c s.2) (h : (ezp_cf c t s).1 = 0) : ezp_cf c t s = s ∧ (ezp_K c s.2 = 0 ∧ t.kT < 8 ∨ ezp_K c s.2 = 9 ∧ t.kH < 4 ∨ ezp_K c s.2 = 20 ∧ t.kE < 8 ∨ ezp_K c s.2 = 12 ∨ ezp_wds (ezp_K c s.2) ∧ t.di (ezp_K c s.2) ≠ 1) := by
  unfold ezp_cf at h ⊢
  by_cases h0 : ezp_K c s.2 = 0
  · rw [if_pos h0] at h ⊢
    by_cases h1 : 8 ≤ t.kT
    · rw [if_pos h1] at h
      exact absurd h (ezp_wr_f (by decide) hP)
    · rw [if_neg h1]
      exact ⟨rfl, Or.inl ⟨h0, by omega⟩⟩
  rw [if_neg h0] at h ⊢
  by_cases h9 : ezp_K c s.2 = 9
  · rw [if_pos h9] at h ⊢
    by_cases h1 : 4 ≤ t.kH
    · rw [if_pos h1] at h
      exact absurd h (ezp_wr_f (by decide) hP)
    · rw [if_neg h1]
      exact ⟨rfl, Or.inr (Or.inl ⟨h9, by omega⟩)⟩
  rw [if_neg h9] at h ⊢
  by_cases h20 : ezp_K c s.2 = 20
  · rw [if_pos h20] at h ⊢
    by_cases h1 : 8 ≤ t.kE
    · rw [if_pos h1] at h
      exact absurd h (ezp_wr_f (by decide) hP)
    · rw [if_neg h1]
      exact ⟨rfl, Or.inr (Or.inr (Or.inl ⟨h20, by omega⟩))⟩
  rw [if_neg h20] at h ⊢
  by_cases h12 : ezp_K c s.2 = 12
  · rw [if_pos h12]
    exact ⟨rfl, Or.inr (Or.inr (Or.inr (Or.inl h12)))⟩
  rw [if_neg h12] at h ⊢
  by_cases h5 : ezp_K c s.2 = 5 ∨ ezp_K c s.2 = 6 ∨ ezp_K c s.2 = 13 ∨ ezp_K c s.2 = 14 ∨ ezp_K c s.2 = 15 ∨ ezp_K c s.2 = 16 ∨ ezp_K c s.2 = 18 ∨ ezp_K c s.2 = 19 ∨ ezp_K c s.2 = 21 ∨ ezp_K c s.2 = 22
  · rw [if_pos h5] at h ⊢
    by_cases h1 : t.di (ezp_K c s.2) = 1
    · rw [if_pos h1] at h
      exact absurd h (ezp_wr_f (by decide) hP)
    · rw [if_neg h1]
      exact ⟨rfl, Or.inr (Or.inr (Or.inr (Or.inr ⟨h5, h1⟩)))⟩
  rw [if_neg h5] at h
  exact absurd h (ezp_wr_f (by decide) hP)
theorem ezp_cf_w {c : Int → Int} {t : ezp_D} {s : Int × Int} (h : ezp_K c s.2 = 0 ∧ t.kT < 8 ∨ ezp_K c s.2 = 9 ∧ t.kH < 4 ∨ ezp_K c s.2 = 20 ∧ t.kE < 8 ∨ ezp_K c s.2 = 12 ∨ ezp_wds (ezp_K c s.2) ∧ t.di (ezp_K c s.2) ≠ 1) : (0 ≤ ezp_K c s.2 ∧ ezp_K c s.2 < 23) ∧ (ezp_K c s.2 = 0 ∨ ezp_K c s.2 = 9 ∨ ezp_K c s.2 = 20 ∨ ezp_K c s.2 = 12 ∨ ezp_K c s.2 = 5 ∨ ezp_K c s.2 = 6 ∨ ezp_K c s.2 = 13 ∨ ezp_K c s.2 = 14 ∨ ezp_K c s.2 = 15 ∨ ezp_K c s.2 = 16 ∨ ezp_K c s.2 = 18 ∨ ezp_K c s.2 = 19 ∨ ezp_K c s.2 = 21 ∨ ezp_K c s.2 = 22) ∧ (ezp_K c s.2 = 0 → t.kT < 8) ∧ (ezp_K c s.2 = 9 → t.kH < 4) ∧ (ezp_K c s.2 = 20 → t.kE < 8) := by
  unfold ezp_wds at h
  refine ⟨⟨by omega, by omega⟩, by omega, fun z => by omega, fun z => by omega, fun z => by omega⟩
/-- all lines, so many at most -/
def ezp_rd (c : Int → Int) : Nat → (Int × Int) × ezp_D → (Int × Int) × ezp_D := fun m => match m with
  | 0 => fun z => z
  | m + 1 => fun z => if z.1.1 = 0 ∧ ezp_K c z.1.2 ≠ 102 then ezp_rd c m (ezp_lne c z.2 z.1) else z
theorem ezp_rd_s {c : Int → Int} {m : Nat} {z : (Int × Int) × ezp_D} (h : z.1.1 = 0 ∧ ezp_K c z.1.2 ≠ 102) : ezp_rd c (m + 1) z = ezp_rd c m (ezp_lne c z.2 z.1) := if_pos h
theorem ezp_rd_n {c : Int → Int} {m : Nat} {z : (Int × Int) × ezp_D} (h : ¬ (z.1.1 = 0 ∧ ezp_K c z.1.2 ≠ 102)) : ezp_rd c m z = z := by
  cases m with
  | zero => rfl
  | succ m => exact if_neg h
def ezp_fn (i : Int) : Int := ((ezq_t1.getD i.toNat 0 : Nat) : Int)
/-- a tree before anything was told -/
def ezp_D0 : ezp_D := (0, 0, 0, 0, fun _ => [], fun _ => [], fun _ => 0, fun _ => 0, fun _ => 0, fun _ => 0, fun _ => 0, fun _ => 0, fun _ => 0, fun _ => 0, fun _ _ => 0, fun _ _ => 0, ezp_fn, fun _ => 0)
/-- what a tape of n signs is answered -/
def ezp_tree (c : Int → Int) : Int := (ezp_rd c 1000 ((0, 0), ezp_D0)).1.1
section KT66
variable {l : Launch} {ρ : ezq_E} {B : Nat} {xa : Nat → Option Nat} {Hb : Heap} {D : va_G} {cA : Nat → ClassId} {d : Nat}
variable {r : ezq_R} {P : Option ezq_V → (Nat → ezq_C) → Prop} {pc : Nat} {ls : List (Option ezq_V)} {st : List ezq_V} {g : Nat → ezq_C}
theorem ezt_xial1 {a b0 c x y : Nat} {i : Int} (he : ezw_at r pc = some (.iaload, 1, (a, b0, c, x, y))) (h0 : 0 ≤ i) (h1 : i < 11) (h : ∀ u, ezw_in u → (-2147483648 ≤ u ∧ u ≤ 9999) → u = ezp_fn i → ezw_E l ρ B xa Hb D cA d r P (pc + 1) ls (ezw_i u :: st) g) : ezw_E l ρ B xa Hb D cA d r P pc ls (ezw_i i :: ezq_xt 1 :: st) g := by
  obtain ⟨m, rfl⟩ := Int.eq_ofNat_of_zero_le h0
  obtain ⟨e1, e4, e2⟩ := ezw_t1in m (by omega)
  obtain ⟨n, v0, g0, hP, h⟩ := h _ e1 e4 (by unfold ezp_fn; rw [Int.toNat_natCast])
  obtain ⟨-, hpc⟩ := ezw_at_ok he
  refine ⟨n + 1, v0, g0, hP, fun ls' hl => ezw_rs he fun go gh br sw ca re hgo hgh hbr hsw hca hre => ?_⟩
  show (bif Nat.blt (ezw_z (m : Int)) 11 && Nat.beq 0 0 then go (pc + 1) ls' (ezq_kn (ezq_t1.getD (ezw_z (m : Int)) 0) :: st) else False)
  rw [ezw_zN (by omega), show Nat.blt m 11 = true from Nat.ble_eq_true_of_le (by omega)]
  have e3 : ezq_kn (ezq_t1.getD m 0) = ezw_i ((ezq_t1.getD m 0 : Nat) : Int) := by
    show (Sum.inl (Sum.inl (ezq_t1.getD m 0)) : ezq_V) = .inl (.inl (ezw_z ((ezq_t1.getD m 0 : Nat) : Int)))
    rw [e2]
  show go (pc + 1) ls' (ezq_kn (ezq_t1.getD m 0) :: st)
  rw [e3]
  exact hgo _ _ _ (by omega) (h ls' hl)
end KT66
/-- what was told once, what holds of numbers: carried on -/
theorem ezt_NU_eq {q : Nat} {t t' : ezp_D} {A A' : Nat → Int → Int} (h : ezt_NU q t A) (e : t'.nu = t.nu) (a : A' (q + 14) = A (q + 14)) : ezt_NU q t' A' := by
  intro i i0 i1
  rw [a, e]
  exact h i i0 i1
theorem ezt_DI_eq {t t' : ezp_D} {F F' : Nat → Nat → Int} (h : ezt_DI t F) (e : t'.di = t.di) (a : F' 4 2 = F 4 2) : ezt_DI t' F' := by
  unfold ezt_DI
  rw [e, a]
  exact h
theorem ezt_DI_once {t : ezp_D} {w : Int} {F F' : Nat → Nat → Int} (h : ezt_DI t F) (h0 : 0 ≤ w) (h1 : w < 23) (e : F' 4 2 = ezw_or (F 4 2) (1 * 2 ^ w.toNat)) : ezt_DI (t.once w) F' := by
  have h2 := ezt_or1 (v := F 4 2) (j := w) 23 (by decide) h.1.1 h.1.2 h0 (by omega)
  refine ⟨⟨?_, ?_⟩, fun k k0 k1 => ?_⟩
  · rw [e]
    exact h2.1
  · rw [e]
    exact h2.2.1
  · show ezt_b (F' 4 2) k = ezp_up t.di w 1 k
    rw [e, h2.2.2 k k0]
    by_cases ek : k = w
    · rw [if_pos ek, ek, ezp_up_s]
    · rw [if_neg ek, ezp_up_o _ _ ek]
      exact h.2 k k0 k1
theorem ezt_TR_0 {q : Nat} {F : Nat → Nat → Int} {A : Nat → Int → Int} (h : F q 15 = 0 ∧ F q 16 = 0 ∧ F q 17 = 0 ∧ F (q + 8) 1 = 0) (hz : ∀ j, 0 ≤ j → j < 16 → A (q + 9) j = 0) : ezt_TR q ezp_D0 F A := by
  refine ⟨h, ⟨Int.le_refl 0, by decide, Int.le_refl 0, by decide, Int.le_refl 0, by decide, Int.le_refl 0, by decide⟩, fun i i0 i1 => absurd (show i < 0 from i1) (by omega), fun i i0 i1 => absurd (show i < 0 from i1) (by omega), fun i i0 i1 => absurd (show i < 0 from i1) (by omega), fun x x0 x1 => ?_⟩
  rw [hz x x0 x1]
  exact ⟨⟨by decide, by decide⟩, fun y _ _ => ezt_b0 y⟩
theorem ezt_DI_0 {F : Nat → Nat → Int} (h : F 4 2 = 0) : ezt_DI ezp_D0 F := by
  unfold ezt_DI
  rw [h]
  exact ⟨⟨by decide, by decide⟩, fun w _ _ => ezt_b0 w⟩
