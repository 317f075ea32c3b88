def ezl_cw : List Int := [679207, 271592, 21242987, 631941, 494, 659105223, 370309, 24627848, 16826546, 21243335, 20599915, 6886579, 514226, 763332, 402644, 4279, 403837106, 540037, 777297171, 114244, 5517, 19118, 660530, 546188, 20317291, 12884627, 284236, 3548578, 540005, 278194, 15190664, 165492, 20436616, 759412, 638164, 263748, 611795, 2412723, 21136979, 147182, 658804083, 14836, 1476, 498, 21273876, 632645, 56377, 6801509]
def ezl_mw : List Int := [1044887, 417812, 37900887, 974881, 569, 1355943003, 570249, 43890888, 30059336, 37901290, 36650990, 12163769, 790116, 1177862, 620399, 5684, 834209936, 831432, 1604747591, 173164, 7302, 25433, 1019960, 839653, 36218386, 22954782, 434651, 6243123, 831395, 426554, 27023439, 255357, 36398351, 1172587, 983184, 407263, 941040, 4231783, 37738539, 224012, 1355478813, 19741, 1891, 573, 37948996, 975695, 82202, 12029519]
/-! ===== signs, words, tokens: what they are ===== -/
def ezp_bl (x : Int) : Bool := decide (x = 10 ∨ x = 32)
def ezp_le (x : Int) : Bool := decide (97 ≤ x ∧ x ≤ 122)
def ezp_di (x : Int) : Bool := decide (48 ≤ x ∧ x ≤ 57)
def ezp_sg (x : Int) : Bool := decide (x = 40 ∨ x = 41 ∨ x = 60 ∨ x = 61 ∨ x = 43 ∨ x = 45 ∨ x = 42 ∨ x = 59)
/-- the sign at a place of a tape of n -/
def ezp_ch (a : Int → Int) (n : Int) (p : Int) : Int := if 0 ≤ p ∧ p < n then a p else 0
def ezp_run (p : Int → Bool) (c : Int → Int) (m : Nat) : Int → Int := match m with
  | 0 => fun q => q
  | m + 1 => fun q => if p (c q) = true then ezp_run p c m (q + 1) else q
theorem ezp_run_uq {p : Int → Bool} {c : Int → Int} (m : Nat) : ∀ {q r : Int}, q ≤ r → r ≤ q + m → (∀ j, q ≤ j → j < r → p (c j) = true) → p (c r) = false → ezp_run p c m q = r := by
  induction m with
  | zero =>
    intro q r h1 h2 _ _
    show q = r
    omega
  | succ m ih =>
    intro q r h1 h2 h3 h4
    show (if p (c q) = true then ezp_run p c m (q + 1) else q) = r
    by_cases e : q = r
    · subst e
      rw [if_neg (by rw [h4]; decide)]
    · rw [if_pos (h3 q (by omega) (by omega))]
      exact ih (by omega) (by omega) (fun j j0 j1 => h3 j (by omega) j1) h4
theorem ezp_run_ex {p : Int → Bool} {c : Int → Int} (m : Nat) : ∀ {q : Int}, ∃ r, ezp_run p c m q = r ∧ q ≤ r ∧ r ≤ q + m ∧ (∀ j, q ≤ j → j < r → p (c j) = true) ∧ (r < q + m → p (c r) = false) := by
  induction m with
  | zero =>
    intro q
    exact ⟨q, rfl, by omega, by omega, fun j j0 j1 => by omega, fun h => by omega⟩
  | succ m ih =>
    intro q
    by_cases e : p (c q) = true
    · obtain ⟨r, h1, h2, h3, h4, h5⟩ := ih (q := q + 1)
      refine ⟨r, ?_, by omega, by omega, fun j j0 j1 => ?_, fun h => h5 (by omega)⟩
      · show (if p (c q) = true then ezp_run p c m (q + 1) else q) = r
        rw [if_pos e]
        exact h1
      · by_cases ej : j = q
        · rw [ej]
          exact e
        · exact h4 j (by omega) j1
    · refine ⟨q, ?_, by omega, by omega, fun j j0 j1 => by omega, fun _ => ?_⟩
      · show (if p (c q) = true then ezp_run p c m (q + 1) else q) = q
        rw [if_neg e]
      · cases hb : p (c q)
        · rfl
        · exact absurd hb e
/-- a run over a tape: it ends where the tape ends, at the latest -/
theorem ezp_run_n {p : Int → Bool} {c : Int → Int} {q n : Int} (h0 : 0 ≤ q) (hq : q ≤ n) (hn : n ≤ 1000) (hc : ∀ j, n ≤ j → p (c j) = false) : ∃ r, ezp_run p c 2000 q = r ∧ q ≤ r ∧ r ≤ n ∧ (∀ j, q ≤ j → j < r → p (c j) = true) ∧ p (c r) = false := by
  obtain ⟨r, h1, h2, h3, h4, h5⟩ := ezp_run_ex (p := p) (c := c) 2000 (q := q)
  have hr : r ≤ n := by
    rcases Int.lt_or_le n r with h | h
    · have e1 := h4 n hq h
      rw [hc n (Int.le_refl n)] at e1
      cases e1
    · exact h
  refine ⟨r, h1, h2, hr, h4, h5 (by omega)⟩
/-- the letters of a word of so many, the last one first -/
def ezp_lt (c : Int → Int) (q : Int) : Nat → List Int := fun k => match k with
  | 0 => []
  | k + 1 => (c (q + k) - 96) :: ezp_lt c q k
def ezp_v (m : Int) : List Int → Int := fun l => match l with
  | [] => 0
  | x :: r => m * ezp_v m r + x
def ezp_ok (l : List Int) : Prop := ∀ x ∈ l, 1 ≤ x ∧ x ≤ 26
theorem ezp_ok_t {x : Int} {l : List Int} (h : ezp_ok (x :: l)) : (1 ≤ x ∧ x ≤ 26) ∧ ezp_ok l := ⟨h x List.mem_cons_self, fun y hy => h y (List.mem_cons_of_mem _ hy)⟩
theorem ezp_v0 {m : Int} (hm : m = 32 ∨ m = 37) (l : List Int) : ezp_ok l → 0 ≤ ezp_v m l := by
  induction l with
  | nil => intro _; exact Int.le_refl 0
  | cons x r ih =>
    intro h
    have h1 := ih (ezp_ok_t h).2
    have h2 := (ezp_ok_t h).1
    show 0 ≤ m * ezp_v m r + x
    rcases hm with rfl | rfl <;> omega
theorem ezp_vinj {m : Int} (hm : m = 32 ∨ m = 37) (l : List Int) : ∀ l', ezp_ok l → ezp_ok l' → ezp_v m l = ezp_v m l' → l = l' := by
  induction l with
  | nil =>
    intro l' _ h' e
    cases l' with
    | nil => rfl
    | cons x r =>
      have h1 := ezp_v0 hm r (ezp_ok_t h').2
      have h2 := (ezp_ok_t h').1
      have e : (0 : Int) = m * ezp_v m r + x := e
      rcases hm with rfl | rfl <;> omega
  | cons x r ih =>
    intro l' h h' e
    have h1 := ezp_v0 hm r (ezp_ok_t h).2
    have h2 := (ezp_ok_t h).1
    cases l' with
    | nil =>
      have e : m * ezp_v m r + x = (0 : Int) := e
      rcases hm with rfl | rfl <;> omega
    | cons y s =>
      have h3 := (ezp_ok_t h').1
      have e : m * ezp_v m r + x = m * ezp_v m s + y := e
      have e1 : x = y ∧ ezp_v m r = ezp_v m s := by
        rcases hm with rfl | rfl <;> omega
      rw [e1.1, ih s (ezp_ok_t h).2 (ezp_ok_t h').2 e1.2]
theorem ezp_lt_ok {c : Int → Int} {q : Int} (k : Nat) (h : ∀ j, q ≤ j → j < q + k → ezp_le (c j) = true) : ezp_ok (ezp_lt c q k) := by
  induction k with
  | zero => intro x hx; cases hx
  | succ k ih =>
    intro x hx
    have h1 : x ∈ (c (q + k) - 96) :: ezp_lt c q k := hx
    rcases List.mem_cons.mp h1 with rfl | h2
    · have h3 := of_decide_eq_true (h (q + k) (by omega) (by omega))
      omega
    · exact ih (fun j j0 j1 => h j j0 (by omega)) x h2
def ezp_tab : List (List Int) := [[7, 9, 23, 20], [8, 7, 9, 8], [11, 3, 9, 8, 20], [5, 4, 9, 19], [14, 15], [7, 14, 9, 18, 20, 19], [5, 20, 9, 11], [8, 20, 18, 15, 23], [18, 5, 16, 1, 16], [7, 14, 9, 8, 20], [11, 3, 21, 20, 19], [19, 5, 5, 18, 6], [18, 5, 22, 15], [4, 14, 9, 23], [20, 6, 9, 12], [23, 5, 4], [18, 5, 4, 4, 1, 12], [5, 12, 15, 16], [19, 8, 7, 9, 5, 23], [4, 18, 15, 3], [13, 12, 5], [14, 21, 18], [18, 1, 5, 20], [12, 12, 21, 16], [11, 3, 1, 12, 19], [19, 20, 6, 9, 12], [12, 18, 21, 8], [2, 13, 9, 12, 3], [5, 11, 15, 16], [18, 21, 15, 8], [8, 20, 18, 15, 14], [20, 19, 1, 5], [8, 20, 21, 15, 19], [20, 19, 5, 23], [20, 6, 15, 19], [4, 18, 1, 8], [19, 14, 21, 18], [19, 5, 20, 9, 2], [19, 18, 1, 5, 20], [14, 23, 15, 4], [19, 11, 3, 9, 20, 19], [20, 15, 14], [4, 14, 1], [18, 15], [20, 8, 7, 9, 20], [5, 26, 9, 19], [25, 1, 23, 1], [5, 3, 18, 15, 6]]
def ezp_ixf : List (List Int) → Int → List Int → Int := fun ts i l => match ts with
  | [] => -1
  | t :: r => if t = l then i else ezp_ixf r (i + 1) l
/-- which of the words it is: -1 none -/
def ezp_ix (l : List Int) : Int := ezp_ixf ezp_tab 0 l
def ezp_tb (w : Int) : List Int := ezp_tab.getD w.toNat []
theorem ezp_ixf_ge (ts : List (List Int)) : ∀ (i : Int) (l : List Int), 0 ≤ i → ezp_ixf ts i l = -1 ∧ (∀ j : Nat, j < ts.length → ts.getD j [] ≠ l) ∨ ∃ j : Nat, j < ts.length ∧ ezp_ixf ts i l = i + j ∧ ts.getD j [] = l := by
  induction ts with
  | nil => intro i l _; exact Or.inl ⟨rfl, fun j hj => absurd hj (by show ¬ j < 0; omega)⟩
  | cons t r ih =>
    intro i l h0
    by_cases e : t = l
    · refine Or.inr ⟨0, by show 0 < r.length + 1; omega, ?_, e⟩
      show (if t = l then i else ezp_ixf r (i + 1) l) = i + ((0 : Nat) : Int)
      rw [if_pos e]
      omega
    · have e1 : ezp_ixf (t :: r) i l = ezp_ixf r (i + 1) l := if_neg e
      rw [e1]
      rcases ih (i + 1) l (by omega) with ⟨h1, h2⟩ | ⟨j, h1, h2, h3⟩
      · refine Or.inl ⟨h1, fun j hj => ?_⟩
        cases j with
        | zero => exact e
        | succ j => exact h2 j (by have hj : j + 1 < r.length + 1 := hj; omega)
      · exact Or.inr ⟨j + 1, by show j + 1 < r.length + 1; omega, by omega, h3⟩
theorem ezp_ix_r (l : List Int) : ezp_ix l = -1 ∧ (∀ w, 0 ≤ w → w < 48 → ezp_tb w ≠ l) ∨ (0 ≤ ezp_ix l ∧ ezp_ix l < 48 ∧ ezp_tb (ezp_ix l) = l) := by
  have hl : ezp_tab.length = 48 := rfl
  rcases ezp_ixf_ge ezp_tab 0 l (by omega) with ⟨h1, h2⟩ | ⟨j, h1, h2, h3⟩
  · exact Or.inl ⟨h1, fun w w0 w1 => h2 w.toNat (by omega)⟩
  · rw [hl] at h1
    have e1 : ezp_ix l = (j : Int) := by
      show ezp_ixf ezp_tab 0 l = (j : Int)
      omega
    refine Or.inr ⟨by omega, by omega, ?_⟩
    rw [e1]
    show ezp_tab.getD ((j : Int)).toNat [] = l
    rw [Int.toNat_natCast]
    exact h3
theorem ezp_ix_tbN : ∀ w : Nat, w < 48 → ezp_ix (ezp_tab.getD w []) = (w : Int) := by decide +kernel
theorem ezp_ix_tb {w : Int} (h0 : 0 ≤ w) (h1 : w < 48) : ezp_ix (ezp_tb w) = w := by
  have h := ezp_ix_tbN w.toNat (by omega)
  show ezp_ix (ezp_tab.getD w.toNat []) = w
  rw [h]
  omega
theorem ezp_tb_okN : ∀ w : Nat, w < 48 → (ezp_tab.getD w []).all (fun x => decide (1 ≤ x ∧ x ≤ 26)) = true := by decide +kernel
theorem ezp_tb_ok {w : Int} (h0 : 0 ≤ w) (h1 : w < 48) : ezp_ok (ezp_tb w) := fun x hx => of_decide_eq_true (List.all_eq_true.mp (ezp_tb_okN w.toNat (by omega)) x hx)
theorem ezp_cwN : ∀ w : Nat, w < 48 → ezl_cw.getD w 0 = ezp_v 32 (ezp_tab.getD w []) ∧ ezl_mw.getD w 0 = ezp_v 37 (ezp_tab.getD w []) := by decide +kernel
theorem ezp_cw {w : Int} (h0 : 0 ≤ w) (h1 : w < 48) : ezl_cw.getD w.toNat 0 = ezp_v 32 (ezp_tb w) := (ezp_cwN w.toNat (by omega)).1
theorem ezp_mw {w : Int} (h0 : 0 ≤ w) (h1 : w < 48) : ezl_mw.getD w.toNat 0 = ezp_v 37 (ezp_tb w) := (ezp_cwN w.toNat (by omega)).2
/-- a word's number is the table's where the word is -/
theorem ezp_isw {m w : Int} {l : List Int} (hm : m = 32 ∨ m = 37) (h0 : 0 ≤ w) (h1 : w < 48) (hl : ezp_ok l) : ezp_v m l = ezp_v m (ezp_tb w) ↔ ezp_ix l = w := by
  constructor
  · intro h
    rw [ezp_vinj hm l (ezp_tb w) hl (ezp_tb_ok h0 h1) h]
    exact ezp_ix_tb h0 h1
  · intro h
    rcases ezp_ix_r l with ⟨h2, _⟩ | ⟨_, _, h4⟩
    · omega
    · rw [h] at h4
      rw [h4]
/-- digits -/
def ezp_nu (c : Int → Int) (q : Int) : Nat → Int := fun k => match k with
  | 0 => 0
  | k + 1 => 10 * ezp_nu c q k + (c (q + k) - 48)
theorem ezp_nu_r {c : Int → Int} {q : Int} (k : Nat) (h : ∀ j, q ≤ j → j < q + k → ezp_di (c j) = true) : 0 ≤ ezp_nu c q k ∧ (k ≤ 1 → ezp_nu c q k ≤ 9) ∧ (k ≤ 2 → ezp_nu c q k ≤ 99) ∧ (k ≤ 3 → ezp_nu c q k ≤ 999) ∧ (k ≤ 4 → ezp_nu c q k ≤ 9999) ∧ (k = 0 → ezp_nu c q k = 0) := by
  induction k with
  | zero => exact ⟨Int.le_refl 0, fun _ => by show (0 : Int) ≤ 9; omega, fun _ => by show (0 : Int) ≤ 99; omega, fun _ => by show (0 : Int) ≤ 999; omega, fun _ => by show (0 : Int) ≤ 9999; omega, fun _ => rfl⟩
  | succ k ih =>
    have h1 := ih (fun j j0 j1 => h j j0 (by omega))
    have h2 := of_decide_eq_true (h (q + k) (by omega) (by omega))
    show 0 ≤ 10 * ezp_nu c q k + (c (q + k) - 48) ∧ _
    have e1 : ezp_nu c q (k + 1) = 10 * ezp_nu c q k + (c (q + k) - 48) := rfl
    rw [e1]
    refine ⟨by omega, fun h3 => ?_, fun h3 => ?_, fun h3 => ?_, fun h3 => ?_, fun h3 => by omega⟩
    · have := h1.2.2.2.2.2 (by omega)
      omega
    · have := h1.2.1 (by omega)
      omega
    · have := h1.2.2.1 (by omega)
      omega
    · have := h1.2.2.2.1 (by omega)
      omega
/-- where a token that starts at q ends -/
def ezp_nx (c : Int → Int) (q : Int) : Int := if ezp_le (c q) = true then ezp_run ezp_le c 2000 q else if ezp_di (c q) = true then ezp_run ezp_di c 2000 q else if c q = 0 then q else q + 1
def ezp_ln (c : Int → Int) (q : Int) : Nat := (ezp_nx c q - q).toNat
def ezp_L (c : Int → Int) (q : Int) : List Int := ezp_lt c q (ezp_ln c q)
def ezp_N (c : Int → Int) (q : Int) : Int := ezp_nu c q (ezp_ln c q)
/-- its kind: below 44 a word of its own, 100 a name, 101 a number, 102 the end, 103 none, 200 and on a sign -/
def ezp_kd (c : Int → Int) (q : Int) : Int := if ezp_le (c q) = true then (if 8 < ezp_ln c q then 103 else if 0 ≤ ezp_ix (ezp_L c q) ∧ ezp_ix (ezp_L c q) < 44 then ezp_ix (ezp_L c q) else 100) else if ezp_di (c q) = true then (if 4 < ezp_ln c q then 103 else 101) else if c q = 0 then 102 else if ezp_sg (c q) = true then 200 + c q else 103
def ezp_st (c : Int → Int) : Nat → Int := fun k => match k with
  | 0 => ezp_run ezp_bl c 2000 0
  | k + 1 => ezp_run ezp_bl c 2000 (ezp_nx c (ezp_st c k))
/-- the place of the token k, its kind, its number, its letters -/
def ezp_P (c : Int → Int) (k : Int) : Int := ezp_st c k.toNat
def ezp_K (c : Int → Int) (k : Int) : Int := ezp_kd c (ezp_P c k)
def ezp_V (c : Int → Int) (k : Int) : Int := ezp_N c (ezp_P c k)
def ezp_W (c : Int → Int) (k : Int) : List Int := ezp_L c (ezp_P c k)
theorem ezp_P_s {c : Int → Int} {k : Int} (h : 0 ≤ k) : ezp_P c (k + 1) = ezp_run ezp_bl c 2000 (ezp_nx c (ezp_P c k)) := by
  unfold ezp_P
  rw [show (k + 1).toNat = k.toNat + 1 by omega]
  rfl
/-- a tape of n signs -/
def ezp_tp (c : Int → Int) (n : Int) : Prop := 0 ≤ n ∧ n ≤ 1000 ∧ (∀ j, n ≤ j → c j = 0) ∧ ∀ j, 0 ≤ j → j < n → c j = 10 ∨ 32 ≤ c j ∧ c j ≤ 126
theorem ezp_tp_bl {c : Int → Int} {n : Int} (h : ezp_tp c n) : ∀ j, n ≤ j → ezp_bl (c j) = false := fun j hj => by rw [h.2.2.1 j hj]; rfl
theorem ezp_tp_le {c : Int → Int} {n : Int} (h : ezp_tp c n) : ∀ j, n ≤ j → ezp_le (c j) = false := fun j hj => by rw [h.2.2.1 j hj]; rfl
theorem ezp_tp_di {c : Int → Int} {n : Int} (h : ezp_tp c n) : ∀ j, n ≤ j → ezp_di (c j) = false := fun j hj => by rw [h.2.2.1 j hj]; rfl
/-- blanks are left behind -/
theorem ezp_skip {c : Int → Int} {n q : Int} (h : ezp_tp c n) (h0 : 0 ≤ q) (h1 : q ≤ n) : q ≤ ezp_run ezp_bl c 2000 q ∧ ezp_run ezp_bl c 2000 q ≤ n ∧ ezp_bl (c (ezp_run ezp_bl c 2000 q)) = false := by
  obtain ⟨r, e1, e2, e3, e4, e5⟩ := ezp_run_n h0 h1 h.2.1 (ezp_tp_bl h)
  rw [e1]
  exact ⟨e2, e3, e5⟩
theorem ezp_nx_r {c : Int → Int} {n q : Int} (h : ezp_tp c n) (h0 : 0 ≤ q) (h1 : q ≤ n) : q ≤ ezp_nx c q ∧ ezp_nx c q ≤ n ∧ (c q ≠ 0 → q < ezp_nx c q) ∧ (c q = 0 → ezp_nx c q = q) := by
  have hn : c q ≠ 0 → q < n := fun z => by
    rcases Int.lt_or_le q n with g | g
    · exact g
    · exact absurd (h.2.2.1 q g) z
  unfold ezp_nx
  by_cases hl : ezp_le (c q) = true
  · rw [if_pos hl]
    obtain ⟨r, e1, e2, e3, e4, e5⟩ := ezp_run_n h0 h1 h.2.1 (ezp_tp_le h)
    rw [e1]
    have hne : r ≠ q := fun z => by
      rw [z, hl] at e5
      cases e5
    have hz : c q ≠ 0 := fun z => by
      rw [z] at hl
      cases hl
    exact ⟨e2, e3, fun _ => by omega, fun z => absurd z hz⟩
  · rw [if_neg hl]
    by_cases hd : ezp_di (c q) = true
    · rw [if_pos hd]
      obtain ⟨r, e1, e2, e3, e4, e5⟩ := ezp_run_n h0 h1 h.2.1 (ezp_tp_di h)
      rw [e1]
      have hne : r ≠ q := fun z => by
        rw [z, hd] at e5
        cases e5
      have hz : c q ≠ 0 := fun z => by
        rw [z] at hd
        cases hd
      exact ⟨e2, e3, fun _ => by omega, fun z => absurd z hz⟩
    · rw [if_neg hd]
      by_cases hz : c q = 0
      · rw [if_pos hz]
        exact ⟨Int.le_refl _, h1, fun z => absurd hz z, fun _ => rfl⟩
      · rw [if_neg hz]
        have := hn hz
        exact ⟨by omega, by omega, fun _ => by omega, fun z => absurd z hz⟩
theorem ezp_P_r {c : Int → Int} {n : Int} (h : ezp_tp c n) (k : Nat) : 0 ≤ ezp_st c k ∧ ezp_st c k ≤ n ∧ ezp_bl (c (ezp_st c k)) = false := by
  induction k with
  | zero =>
    have h1 := ezp_skip h (Int.le_refl 0) h.1
    exact ⟨h1.1, h1.2.1, h1.2.2⟩
  | succ k ih =>
    have h2 := ezp_nx_r h ih.1 ih.2.1
    have h3 := ezp_skip h (q := ezp_nx c (ezp_st c k)) (by omega) h2.2.1
    exact ⟨by show 0 ≤ ezp_run ezp_bl c 2000 _; omega, h3.2.1, h3.2.2⟩
theorem ezp_Pr {c : Int → Int} {n : Int} (h : ezp_tp c n) (k : Int) : 0 ≤ ezp_P c k ∧ ezp_P c k ≤ n := ⟨(ezp_P_r h k.toNat).1, (ezp_P_r h k.toNat).2.1⟩
theorem ezp_nx_L {c : Int → Int} {n q : Int} (h : ezp_tp c n) (h0 : 0 ≤ q) (h1 : q ≤ n) (hl : ezp_le (c q) = true) : (∀ j, q ≤ j → j < ezp_nx c q → ezp_le (c j) = true) ∧ ezp_le (c (ezp_nx c q)) = false := by
  obtain ⟨r, e1, e2, e3, e4, e5⟩ := ezp_run_n h0 h1 h.2.1 (ezp_tp_le h)
  unfold ezp_nx
  rw [if_pos hl, e1]
  exact ⟨e4, e5⟩
theorem ezp_L_ok {c : Int → Int} {n q : Int} (h : ezp_tp c n) (h0 : 0 ≤ q) (h1 : q ≤ n) (hl : ezp_le (c q) = true) : ezp_ok (ezp_L c q) := by
  have h2 := ezp_nx_L h h0 h1 hl
  have h3 := ezp_nx_r h h0 h1
  unfold ezp_L ezp_ln
  exact ezp_lt_ok _ (fun j j0 j1 => h2.1 j j0 (by omega))
