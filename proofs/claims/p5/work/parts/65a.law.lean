/-! ===== a law as it is told ===== -/
def ezp_op (k r : Int) : Int := if r = 0 then (if k = 42 then -6 else if k = 43 then -7 else 0) else if r = 1 then (if k = 260 then -8 else if k = 261 then -9 else 0) else if r = 2 then (if k = 243 then -10 else if k = 245 then -11 else 0) else if r = 3 then (if k = 242 then -12 else 0) else 0
def ezp_X : Type := (Int × Int) × (Int × (Int → Int))
def ezp_em (v : Int) (y : Int × (Int → Int)) : Int × (Int → Int) := (y.1 + 1, ezp_up y.2 y.1 v)
/-- one operation of a rank, with what it joins -/
def ezp_l1 (c : Int → Int) (r : Int) (f : ezp_X → ezp_X) (x : ezp_X) : ezp_X := ((f (ezp_t x.1, x.2)).1, ezp_em (ezp_op (ezp_K c x.1.2) r) (f (ezp_t x.1, x.2)).2)
def ezp_lp (c : Int → Int) (r : Int) (f : ezp_X → ezp_X) : Nat → ezp_X → ezp_X := fun m => match m with
  | 0 => fun x => x
  | m + 1 => fun x => if x.1.1 = 0 then (if ezp_op (ezp_K c x.1.2) r = 0 then x else if r = 1 then ezp_l1 c r f x else ezp_lp c r f m (ezp_l1 c r f x)) else x
def ezp_rk (c : Int → Int) (f : ezp_X → ezp_X) : Nat → ezp_X → ezp_X := fun m => match m with
  | 0 => f
  | m + 1 => fun x => ezp_lp c (3 - (m : Int)) (ezp_rk c f m) 1000 (ezp_rk c f m x)
def ezp_cl (c : Int → Int) (s : Int × Int) : Int × Int := if s.1 = 0 ∧ ezp_K c s.2 = 241 then ezp_t s else ezp_wr c 1 s
def ezp_pt (c : Int → Int) : Nat → ezp_X → ezp_X := fun m => match m with
  | 0 => fun x => (if (x.1.1 = 0 ∧ ezp_K c x.1.2 = 100 ∧ 0 ≤ ezp_ix (ezp_W c x.1.2) - 44) ∨ x.1.1 = 0 ∧ (ezp_K c x.1.2 = 101 ∨ ezp_K c x.1.2 = 41 ∨ ezp_K c x.1.2 = 240) then ezp_wr c 5 x.1 else ezp_wr c 1 x.1, x.2)
  | m + 1 => fun x => if x.1.1 = 0 ∧ ezp_K c x.1.2 = 100 ∧ 0 ≤ ezp_ix (ezp_W c x.1.2) - 44 then (ezp_t x.1, ezp_em (-1 - (ezp_ix (ezp_W c x.1.2) - 44)) x.2)
    else if x.1.1 = 0 ∧ ezp_K c x.1.2 = 101 then (ezp_t x.1, ezp_em (ezp_V c x.1.2) x.2)
    else if x.1.1 = 0 ∧ ezp_K c x.1.2 = 41 then ((ezp_pt c m (ezp_t x.1, x.2)).1, ezp_em (-5) (ezp_pt c m (ezp_t x.1, x.2)).2)
    else if x.1.1 = 0 ∧ ezp_K c x.1.2 = 240 then (ezp_cl c (ezp_rk c (ezp_pt c m) 4 (ezp_t x.1, x.2)).1, (ezp_rk c (ezp_pt c m) 4 (ezp_t x.1, x.2)).2)
    else (ezp_wr c 1 x.1, x.2)
section
variable {c : Int → Int} {r : Int} {f : ezp_X → ezp_X} {m : Nat} {x : ezp_X}
theorem ezp_lp_n (z : x.1.1 ≠ 0) : ezp_lp c r f m x = x := by
  cases m with
  | zero => rfl
  | succ m => exact if_neg z
theorem ezp_lp_0 (z : x.1.1 = 0) (h : ezp_op (ezp_K c x.1.2) r = 0) : ezp_lp c r f (m + 1) x = x := (if_pos z).trans (if_pos h)
theorem ezp_lp_1 (z : x.1.1 = 0) (h : ezp_op (ezp_K c x.1.2) r ≠ 0) (hr : r = 1) : ezp_lp c r f (m + 1) x = ezp_l1 c r f x := (if_pos z).trans ((if_neg h).trans (if_pos hr))
theorem ezp_lp_s (z : x.1.1 = 0) (h : ezp_op (ezp_K c x.1.2) r ≠ 0) (hr : r ≠ 1) : ezp_lp c r f (m + 1) x = ezp_lp c r f m (ezp_l1 c r f x) := (if_pos z).trans ((if_neg h).trans (if_neg hr))
end
/-- what a law of the class holds: where more were told than there may be, nothing is said -/
def ezt_LW (q : Nat) (y : Int × (Int → Int)) (F : Nat → Nat → Int) (A : Nat → Int → Int) : Prop := 0 ≤ y.1 ∧ (y.1 ≤ 2000 → F q 4 = y.1 ∧ ∀ j, 0 ≤ j → j < y.1 → j < 1000 → A (q + 1) j = y.2 j)
theorem ezt_LW_fr {q : Nat} {y : Int × (Int → Int)} {F F' : Nat → Nat → Int} {A A' : Nat → Int → Int} (h : ezt_LW q y F A) (e1 : F' q 4 = F q 4) (e2 : A' (q + 1) = A (q + 1)) : ezt_LW q y F' A' := by
  unfold ezt_LW
  rw [e1, e2]
  exact h
theorem ezt_LW_em {q : Nat} {y : Int × (Int → Int)} {F F' : Nat → Nat → Int} {A A' : Nat → Int → Int} {v : Int} (h : ezt_LW q y F A) (e1 : ezw_in (F q 4 + 1) → F' q 4 = F q 4 + 1) (m : 0 ≤ F q 4 → F q 4 < 1000 → A' (q + 1) (F q 4) = v) (n : ∀ j, j ≠ F q 4 → A' (q + 1) j = A (q + 1) j) : ezt_LW q (ezp_em v y) F' A' := by
  refine ⟨?_, fun g => ?_⟩
  · show 0 ≤ y.1 + 1
    have := h.1
    omega
  · have g : y.1 + 1 ≤ 2000 := g
    obtain ⟨g1, g2⟩ := h.2 (by omega)
    have h0 := h.1
    refine ⟨?_, fun j j0 j1 j2 => ?_⟩
    · show F' q 4 = y.1 + 1
      rw [e1 ⟨by omega, by omega⟩, g1]
    · have j1 : j < y.1 + 1 := j1
      show A' (q + 1) j = ezp_up y.2 y.1 v j
      by_cases e : j = y.1
      · rw [e, ezp_up_s, ← g1]
        exact m (by omega) (by omega)
      · rw [ezp_up_o _ _ e, n j (by omega)]
        exact g2 j j0 (by omega) j2
section KT65
variable {l : Launch} {ρ : ezq_E} {B : Nat} {xa : Nat → Option Nat} {Hb : Heap} {D : va_G} {cA : Nat → ClassId} {d : Nat}
variable {r : ezq_R} {P : Option ezq_V → (Nat → ezq_C) → Prop} {pc : Nat} {ls : List (Option ezq_V)} {st : List ezq_V} {g : Nat → ezq_C}
theorem ezt_iadd {i j : Int} {a b c x y : Nat} (he : ezw_at r pc = some (.iadd, 1, (a, b, c, x, y))) (h : ∀ u, ezw_in u → (ezw_in (i + j) → u = i + j) → ezw_E l ρ B xa Hb D cA d r P (pc + 1) ls (ezw_i u :: st) g) : ezw_E l ρ B xa Hb D cA d r P pc ls (ezw_i j :: ezw_i i :: st) g := by
  by_cases hb : ezw_in (i + j)
  · exact ezw_iadd he rfl (h _ hb (fun _ => rfl))
  · exact ezs_iadd he (fun u hu => h u hu (fun z => absurd z hb))
end KT65
theorem ezp_pt_0 {c : Int → Int} {x : ezp_X} : ezp_pt c 0 x = (if (x.1.1 = 0 ∧ ezp_K c x.1.2 = 100 ∧ 0 ≤ ezp_ix (ezp_W c x.1.2) - 44) ∨ x.1.1 = 0 ∧ (ezp_K c x.1.2 = 101 ∨ ezp_K c x.1.2 = 41 ∨ ezp_K c x.1.2 = 240) then ezp_wr c 5 x.1 else ezp_wr c 1 x.1, x.2) := rfl
theorem ezp_pt_s {c : Int → Int} {m : Nat} {x : ezp_X} : ezp_pt c (m + 1) x = if x.1.1 = 0 ∧ ezp_K c x.1.2 = 100 ∧ 0 ≤ ezp_ix (ezp_W c x.1.2) - 44 then (ezp_t x.1, ezp_em (-1 - (ezp_ix (ezp_W c x.1.2) - 44)) x.2)
    else if x.1.1 = 0 ∧ ezp_K c x.1.2 = 101 then (ezp_t x.1, ezp_em (ezp_V c x.1.2) x.2)
    else if x.1.1 = 0 ∧ ezp_K c x.1.2 = 41 then ((ezp_pt c m (ezp_t x.1, x.2)).1, ezp_em (-5) (ezp_pt c m (ezp_t x.1, x.2)).2)
    else if x.1.1 = 0 ∧ ezp_K c x.1.2 = 240 then (ezp_cl c (ezp_rk c (ezp_pt c m) 4 (ezp_t x.1, x.2)).1, (ezp_rk c (ezp_pt c m) 4 (ezp_t x.1, x.2)).2)
    else (ezp_wr c 1 x.1, x.2) := rfl
