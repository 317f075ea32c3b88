/-! ===== a law as the model keeps it ===== -/
def ezm_mo (e : Int) : Int := if 0 ≤ e then 1 else if -4 ≤ e then 2 else if e = -5 then 3 else if e = -6 then 9 else if e = -7 then 10 else if e = -8 then 7 else if e = -9 then 8 else if e = -10 then 4 else if e = -11 then 5 else 6
def ezm_ma (e : Int) : Int := if 0 ≤ e then e else if -4 ≤ e then -1 - e else 0
theorem ezm_mo_1 {e : Int} (h : 0 ≤ e) : ezm_mo e = 1 := if_pos h
theorem ezm_ma_1 {e u : Int} (h : u = e) (h0 : 0 ≤ e) : ezm_ma e = u := (if_pos h0).trans h.symm
theorem ezm_mo_2 {e : Int} (h : e < 0) (h4 : -4 ≤ e) : ezm_mo e = 2 := (if_neg (by omega)).trans (if_pos h4)
theorem ezm_ma_2 {e u : Int} (h : u = -1 - e) (h0 : e < 0) (h4 : -4 ≤ e) : ezm_ma e = u := (if_neg (by omega)).trans ((if_pos h4).trans h.symm)
/-- from kk on it keeps y -/
def ezm_LM (kk : Int) (y : Int × (Int → Int)) (i13 : Int) (r79 r80 : Int → Int) : Prop := i13 = kk + y.1 ∧ 0 ≤ y.1 ∧ ∀ j, 0 ≤ j → j < y.1 → r79 (kk + j + 1100) = ezm_mo (y.2 j) ∧ r80 (kk + j + 1100) = ezm_ma (y.2 j)
theorem ezm_LM_em {kk v i13 x13 : Int} {y : Int × (Int → Int)} {r79 r80 x79 x80 : Int → Int} (h : ezm_LM kk y i13 r79 r80) (fo : ezm_fr r79 r80 x79 x80 (i13 + 1100)) (ho : x79 (i13 + 1100) = ezm_mo v) (ha : x80 (i13 + 1100) = ezm_ma v) (hx : x13 = i13 + 1) : ezm_LM kk (ezp_em v y) x13 x79 x80 := by
  obtain ⟨h1, h2, h3⟩ := h
  refine ⟨?_, ?_, fun j j0 j1 => ?_⟩
  · show x13 = kk + (y.1 + 1)
    omega
  · show 0 ≤ y.1 + 1
    omega
  · have j1 : j < y.1 + 1 := j1
    show x79 (kk + j + 1100) = ezm_mo (ezp_up y.2 y.1 v j) ∧ x80 (kk + j + 1100) = ezm_ma (ezp_up y.2 y.1 v j)
    by_cases e : j = y.1
    · rw [e, ezp_up_s, ← h1]
      exact ⟨ho, ha⟩
    · rw [ezp_up_o _ _ e]
      have g := h3 j j0 (by omega)
      have f := fo (kk + j + 1100) (by omega)
      rw [f.1, f.2]
      exact g
theorem ezm_LM_0 {kk : Int} {f r79 r80 : Int → Int} : ezm_LM kk (0, f) kk r79 r80 := ⟨(Int.add_zero kk).symm, Int.le_refl 0, fun j j0 j1 => absurd j1 (by show ¬ j < 0; omega)⟩
