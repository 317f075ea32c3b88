/-! ===== a law reckoned: pure ===== -/
/-- a number as 32 bits hold it -/
def ezv_w (x : Int) : Int := (x + 2147483648) % 4294967296 - 2147483648
theorem ezv_w_in (x : Int) : ezw_in (ezv_w x) := by
  unfold ezv_w
  exact ⟨by omega, by omega⟩
theorem ezv_w_id {x : Int} (h : ezw_in x) : ezv_w x = x := by
  have h1 := h.1
  have h2 := h.2
  unfold ezv_w
  omega
theorem ezv_wi (x : Int) : ezw_i (ezv_w x) = ezw_i x := by
  unfold ezw_i ezw_z ezv_w
  rw [show ((x + 2147483648) % 4294967296 - 2147483648) % 4294967296 = x % 4294967296 by omega]
def ezv_bin (e a b : Int) : Int := if e = -6 then (if a ≠ 0 ∧ b ≠ 0 then 1 else 0) else if e = -7 then (if a ≠ 0 ∨ b ≠ 0 then 1 else 0) else if e = -8 then (if a < b then 1 else 0) else if e = -9 then (if a = b then 1 else 0) else if e = -10 then ezv_w (a + b) else if e = -11 then ezv_w (a - b) else ezv_w (a * b)
/-- a step over the pile, its top first; it holds 32 -/
def ezv_st (fc : Int → Int) (e : Int) (l : List Int) : Option (List Int) :=
  if 0 ≤ e then (if l.length < 32 then some (e :: l) else none)
  else if -4 ≤ e then (if l.length < 32 then some (fc (-1 - e) :: l) else none)
  else if e = -5 then (match l with
    | [] => none
    | a :: r => some ((if a = 0 then 1 else 0) :: r))
  else (match l with
    | [] => none
    | b :: q => match q with
      | [] => none
      | a :: r => some (ezv_bin e a b :: r))
def ezv_rn (fc : Int → Int) (f : Int → Int) : Nat → Int → List Int → Option (List Int) := fun m => match m with
  | 0 => fun _ l => some l
  | m + 1 => fun i l => match ezv_st fc (f i) l with
    | none => none
    | some r => ezv_rn fc f m (i + 1) r
theorem ezv_rn_s {fc f : Int → Int} {m : Nat} {i : Int} {l r : List Int} (h : ezv_st fc (f i) l = some r) : ezv_rn fc f (m + 1) i l = ezv_rn fc f m (i + 1) r := by
  show (match ezv_st fc (f i) l with
    | none => none
    | some r => ezv_rn fc f m (i + 1) r) = _
  rw [h]
theorem ezv_rn_a {fc f : Int → Int} {n : Nat} : ∀ (m : Nat) (i : Int) (l r : List Int), ezv_rn fc f m i l = some r → ezv_rn fc f (m + n) i l = ezv_rn fc f n (i + m) r := by
  intro m
  induction m with
  | zero =>
    intro i l r h
    have h : some l = some r := h
    injection h with h
    rw [h, Nat.zero_add, show i + ((0 : Nat) : Int) = i by omega]
  | succ m ih =>
    intro i l r h
    rw [show m + 1 + n = (m + n) + 1 by omega]
    cases hs : ezv_st fc (f i) l with
    | none =>
      have h : (match ezv_st fc (f i) l with
        | none => none
        | some r => ezv_rn fc f m (i + 1) r) = some r := h
      rw [hs] at h
      cases h
    | some q =>
      rw [ezv_rn_s hs] at h ⊢
      rw [ih _ _ _ h, show i + 1 + (m : Int) = i + ((m + 1 : Nat) : Int) by omega]
theorem ezv_rn_c {fc f g : Int → Int} : ∀ (m : Nat) (i : Int) (l : List Int), (∀ j, i ≤ j → j < i + m → f j = g j) → ezv_rn fc f m i l = ezv_rn fc g m i l := by
  intro m
  induction m with
  | zero => intro i l _; rfl
  | succ m ih =>
    intro i l h
    have e := h i (by omega) (by omega)
    cases hs : ezv_st fc (f i) l with
    | none =>
      show (match ezv_st fc (f i) l with
        | none => none
        | some r => ezv_rn fc f m (i + 1) r) = (match ezv_st fc (g i) l with
        | none => none
        | some r => ezv_rn fc g m (i + 1) r)
      rw [← e, hs]
    | some q =>
      rw [ezv_rn_s hs, ezv_rn_s (show ezv_st fc (g i) l = some q by rw [← e]; exact hs)]
      exact ih _ _ (fun j j0 j1 => h j (by omega) (by omega))
/-- what lies from i on to j lays one number, and wants h places at most -/
def ezv_G (f : Int → Int) (h : Nat) (i j : Int) : Prop := i ≤ j ∧ ∀ (fc : Int → Int) (l : List Int), l.length + h ≤ 32 → ∃ v, ezv_rn fc f (j - i).toNat i l = some (v :: l)
theorem ezv_G_c {f g : Int → Int} {h : Nat} {i j : Int} (H : ezv_G f h i j) (e : ∀ k, i ≤ k → k < j → g k = f k) : ezv_G g h i j := by
  refine ⟨H.1, fun fc l hl => ?_⟩
  obtain ⟨v, hv⟩ := H.2 fc l hl
  exact ⟨v, by rw [ezv_rn_c (g := f) _ _ _ (fun k k0 k1 => e k k0 (by omega))]; exact hv⟩
theorem ezv_G_m {f : Int → Int} {h k : Nat} {i j : Int} (H : ezv_G f h i j) (e : h ≤ k) : ezv_G f k i j := ⟨H.1, fun fc l hl => H.2 fc l (by omega)⟩
theorem ezv_G1 {f : Int → Int} {h : Nat} {i : Int} (hh : 1 ≤ h) (e : -4 ≤ f i) : ezv_G f h i (i + 1) := by
  refine ⟨by omega, fun fc l hl => ?_⟩
  rw [show (i + 1 - i).toNat = 0 + 1 by omega]
  by_cases h0 : 0 ≤ f i
  · exact ⟨f i, ezv_rn_s (by unfold ezv_st; rw [if_pos h0, if_pos (by omega)])⟩
  · exact ⟨fc (-1 - f i), ezv_rn_s (by unfold ezv_st; rw [if_neg h0, if_pos e, if_pos (by omega)])⟩
theorem ezv_Gn {f : Int → Int} {h : Nat} {i j : Int} (H : ezv_G f h i j) (e : f j = -5) : ezv_G f h i (j + 1) := by
  have H1 := H.1
  refine ⟨by omega, fun fc l hl => ?_⟩
  obtain ⟨v, hv⟩ := H.2 fc l hl
  rw [show (j + 1 - i).toNat = (j - i).toNat + 1 by omega, ezv_rn_a _ _ _ _ hv, show i + ((j - i).toNat : Int) = j by omega]
  exact ⟨_, ezv_rn_s (show ezv_st fc (f j) (v :: l) = some ((if v = 0 then 1 else 0) :: l) by unfold ezv_st; rw [if_neg (by omega), if_neg (by omega), if_pos e])⟩
theorem ezv_G2 {f : Int → Int} {h k : Nat} {i j m : Int} (H : ezv_G f (h + 1) i j) (K : ezv_G f h j m) (e : f m ≤ -6) : ezv_G f (h + 1) i (m + 1) := by
  have H1 := H.1
  have K1 := K.1
  refine ⟨by omega, fun fc l hl => ?_⟩
  obtain ⟨v, hv⟩ := H.2 fc l hl
  obtain ⟨w, hw⟩ := K.2 fc (v :: l) (by show l.length + 1 + h ≤ 32; omega)
  rw [show (m + 1 - i).toNat = (j - i).toNat + ((m - j).toNat + 1) by omega, ezv_rn_a _ _ _ _ hv, show i + ((j - i).toNat : Int) = j by omega, ezv_rn_a _ _ _ _ hw, show j + ((m - j).toNat : Int) = m by omega]
  exact ⟨_, ezv_rn_s (show ezv_st fc (f m) (w :: v :: l) = some (ezv_bin (f m) v w :: l) by unfold ezv_st; rw [if_neg (by omega), if_neg (by omega), if_neg (by omega)])⟩
/-! what a law's reader tells -/
theorem ezv_Pi {c : Int → Int} {n k : Int} (tp : ezp_tp c n) (k0 : 0 ≤ k) (h : ezp_K c k ≠ 102) : ezp_P c k + 1 ≤ ezp_P c (k + 1) := by
  have hP := ezp_Pr tp k
  have hz : c (ezp_P c k) ≠ 0 := fun z => h (ezp_kd0 z)
  have hx := ezp_nx_r tp hP.1 hP.2
  have h1 := hx.2.2.1 hz
  rw [ezp_P_s k0]
  obtain ⟨r, hr, r0, -⟩ := ezp_run_n (p := ezp_bl) (c := c) (q := ezp_nx c (ezp_P c k)) (n := n) (by omega) hx.2.1 tp.2.1 (fun j hj => by rw [tp.2.2.1 j hj]; rfl)
  omega
theorem ezv_Pj {c : Int → Int} {n i : Int} (tp : ezp_tp c n) (i0 : 0 ≤ i) : ∀ m : Nat, (∀ j, i ≤ j → j < i + m → ezp_K c j ≠ 102) → ezp_P c i + m ≤ ezp_P c (i + m) := by
  intro m
  induction m with
  | zero =>
    intro _
    rw [show i + ((0 : Nat) : Int) = i by omega]
    omega
  | succ m ih =>
    intro h
    have h1 := ih (fun j j0 j1 => h j j0 (by omega))
    have h2 := ezv_Pi tp (k := i + m) (by omega) (h _ (by omega) (by omega))
    rw [show i + ((m + 1 : Nat) : Int) = i + m + 1 by omega]
    omega
/-- behind x stands y: it told one number's way, that wants h places, and took no more than it told -/
def ezv_X (c : Int → Int) (h : Nat) (x y : ezp_X) : Prop := (∀ j, j < x.2.1 → y.2.2 j = x.2.2 j) ∧ ezv_G y.2.2 h x.2.1 y.2.1 ∧ y.2.1 + x.1.2 ≤ x.2.1 + y.1.2 ∧ x.1.2 ≤ y.1.2 ∧ (∀ j, x.1.2 ≤ j → j < y.1.2 → ezp_K c j ≠ 102) ∧ ∀ j, x.2.1 ≤ j → j < y.2.1 → -12 ≤ y.2.2 j ∧ y.2.2 j ≤ 9999
theorem ezv_X_m {c : Int → Int} {h k : Nat} {x y : ezp_X} (H : ezv_X c h x y) (e : h ≤ k) : ezv_X c k x y := ⟨H.1, ezv_G_m H.2.1 e, H.2.2⟩
/-- a token taken ahead -/
theorem ezv_X_t {c : Int → Int} {h : Nat} {x y : ezp_X} (z : x.1.1 = 0) (hk : ezp_K c x.1.2 ≠ 102) (H : ezv_X c h (ezp_t x.1, x.2) y) : ezv_X c h x y := by
  obtain ⟨h1, h2, h3, h4, h5, h6⟩ := H
  have e : (ezp_t x.1).2 = x.1.2 + 1 := by
    unfold ezp_t
    rw [if_pos z]
  have h3 : y.2.1 + (ezp_t x.1).2 ≤ x.2.1 + y.1.2 := h3
  have h4 : (ezp_t x.1).2 ≤ y.1.2 := h4
  rw [e] at h3 h4
  refine ⟨h1, h2, by omega, by omega, fun j j0 j1 => ?_, h6⟩
  by_cases ej : j = x.1.2
  · rw [ej]
    exact hk
  · exact h5 j (by show (ezp_t x.1).2 ≤ j; omega) j1
theorem ezv_opk {k r : Int} : ezp_op k r ≠ 0 → ezp_op k r ≤ -6 ∧ k ≠ 102 ∧ -12 ≤ ezp_op k r := by
  unfold ezp_op
  (repeat' split) <;> intro h <;> first
    | exact ⟨by omega, by omega, by omega⟩
    | exact absurd rfl h
section
variable {c : Int → Int}
theorem ezv_l1 {h : Nat} {r : Int} {f : ezp_X → ezp_X} {x0 x : ezp_X} (hf : ∀ x, (f x).1.1 = 0 → ezv_X c h x (f x)) (hop : ezp_op (ezp_K c x.1.2) r ≠ 0) (z : x.1.1 = 0) (H : ezv_X c (h + 1) x0 x) (hz : (ezp_l1 c r f x).1.1 = 0) : ezv_X c (h + 1) x0 (ezp_l1 c r f x) := by
  have e := ezv_opk hop
  have hq := hf (ezp_t x.1, x.2) hz
  obtain ⟨w, hw⟩ : ∃ w, w = f (ezp_t x.1, x.2) := ⟨_, rfl⟩
  rw [← hw] at hq
  have e2 : (ezp_t x.1).2 = x.1.2 + 1 := by
    unfold ezp_t
    rw [if_pos z]
  obtain ⟨q1, q2, q3, q4, q5, q6⟩ := hq
  have q1 : ∀ j, j < x.2.1 → w.2.2 j = x.2.2 j := q1
  have q2 : ezv_G w.2.2 h x.2.1 w.2.1 := q2
  have q3 : w.2.1 + (ezp_t x.1).2 ≤ x.2.1 + w.1.2 := q3
  have q4 : (ezp_t x.1).2 ≤ w.1.2 := q4
  have q5 : ∀ j, (ezp_t x.1).2 ≤ j → j < w.1.2 → ezp_K c j ≠ 102 := q5
  have q6 : ∀ j, x.2.1 ≤ j → j < w.2.1 → -12 ≤ w.2.2 j ∧ w.2.2 j ≤ 9999 := q6
  rw [e2] at q3 q4 q5
  obtain ⟨p1, p2, p3, p4, p5, p6⟩ := H
  have p0 := p2.1
  have q0 := q2.1
  have el : ezp_l1 c r f x = (w.1, ezp_em (ezp_op (ezp_K c x.1.2) r) w.2) := by rw [hw]; rfl
  rw [el]
  have ev : ∀ j, j < w.2.1 → ezp_up w.2.2 w.2.1 (ezp_op (ezp_K c x.1.2) r) j = w.2.2 j := fun j hj => ezp_up_o _ _ (by omega)
  refine ⟨fun j hj => ?_, ?_, ?_, ?_, fun j j0 j1 => ?_, fun j j0 j1 => ?_⟩
  · show ezp_up w.2.2 w.2.1 (ezp_op (ezp_K c x.1.2) r) j = x0.2.2 j
    rw [ev j (by omega), q1 j (by omega)]
    exact p1 j hj
  · show ezv_G (ezp_up w.2.2 w.2.1 (ezp_op (ezp_K c x.1.2) r)) (h + 1) x0.2.1 (w.2.1 + 1)
    refine ezv_G2 (k := h) (j := x.2.1) (ezv_G_c p2 (fun k k0 k1 => ?_)) (ezv_G_c q2 (fun k k0 k1 => ev k k1)) ?_
    · rw [ev k (by omega)]
      exact q1 k k1
    · rw [ezp_up_s]
      exact e.1
  · show w.2.1 + 1 + x0.1.2 ≤ x0.2.1 + w.1.2
    omega
  · show x0.1.2 ≤ w.1.2
    omega
  · have j1 : j < w.1.2 := j1
    by_cases g : j < x.1.2
    · exact p5 j j0 g
    · by_cases g2 : j = x.1.2
      · rw [g2]
        exact e.2.1
      · exact q5 j (by omega) j1
  · have j1 : j < w.2.1 + 1 := j1
    show -12 ≤ ezp_up w.2.2 w.2.1 (ezp_op (ezp_K c x.1.2) r) j ∧ ezp_up w.2.2 w.2.1 (ezp_op (ezp_K c x.1.2) r) j ≤ 9999
    by_cases g : j = w.2.1
    · rw [g, ezp_up_s]
      exact ⟨e.2.2, by omega⟩
    · rw [ev j (by omega)]
      by_cases g2 : j < x.2.1
      · rw [q1 j g2]
        exact p6 j j0 g2
      · exact q6 j (by omega) (by omega)
theorem ezv_lp {h : Nat} {r : Int} {f : ezp_X → ezp_X} {x0 : ezp_X} (hf : ∀ x, (f x).1.1 = 0 → ezv_X c h x (f x)) : ∀ (m : Nat) (x : ezp_X), ezv_X c (h + 1) x0 x → (ezp_lp c r f m x).1.1 = 0 → ezv_X c (h + 1) x0 (ezp_lp c r f m x) := by
  intro m
  induction m with
  | zero => intro x H _; exact H
  | succ m ih =>
    intro x H hz
    by_cases z : x.1.1 = 0
    · by_cases ho : ezp_op (ezp_K c x.1.2) r = 0
      · rw [ezp_lp_0 z ho]
        exact H
      · by_cases hr : r = 1
        · rw [ezp_lp_1 z ho hr] at hz ⊢
          exact ezv_l1 hf ho z H hz
        · rw [ezp_lp_s z ho hr] at hz ⊢
          by_cases z1 : (ezp_l1 c r f x).1.1 = 0
          · exact ih _ (ezv_l1 hf ho z H z1) hz
          · rw [ezp_lp_n z1] at hz
            exact absurd hz z1
    · rw [ezp_lp_n z] at hz
      exact absurd hz z
theorem ezv_rk {h : Nat} {f : ezp_X → ezp_X} (hf : ∀ x, (f x).1.1 = 0 → ezv_X c h x (f x)) : ∀ (m : Nat) (x : ezp_X), (ezp_rk c f m x).1.1 = 0 → ezv_X c (h + m) x (ezp_rk c f m x) := by
  intro m
  induction m with
  | zero => intro x hz; exact hf x hz
  | succ m ih =>
    intro x hz
    have hz : (ezp_lp c (3 - (m : Int)) (ezp_rk c f m) 1000 (ezp_rk c f m x)).1.1 = 0 := hz
    show ezv_X c (h + m + 1) x (ezp_lp c (3 - (m : Int)) (ezp_rk c f m) 1000 (ezp_rk c f m x))
    by_cases z1 : (ezp_rk c f m x).1.1 = 0
    · exact ezv_lp ih 1000 _ (ezv_X_m (ih x z1) (by omega)) hz
    · rw [ezp_lp_n z1] at hz
      exact absurd hz z1
theorem ezv_em {h : Nat} {x : ezp_X} {v : Int} (hh : 1 ≤ h) (z : x.1.1 = 0) (hk : ezp_K c x.1.2 ≠ 102) (hv : -4 ≤ v ∧ v ≤ 9999) : ezv_X c h x (ezp_t x.1, ezp_em v x.2) := by
  have e2 : (ezp_t x.1).2 = x.1.2 + 1 := by
    unfold ezp_t
    rw [if_pos z]
  refine ⟨fun j hj => ezp_up_o _ _ (by omega), ?_, ?_, ?_, fun j j0 j1 => ?_, fun j j0 j1 => ?_⟩
  · show ezv_G (ezp_up x.2.2 x.2.1 v) h x.2.1 (x.2.1 + 1)
    exact ezv_G1 hh (by rw [ezp_up_s]; exact hv.1)
  · show x.2.1 + 1 + x.1.2 ≤ x.2.1 + (ezp_t x.1).2
    omega
  · show x.1.2 ≤ (ezp_t x.1).2
    omega
  · have j1 : j < (ezp_t x.1).2 := j1
    rw [show j = x.1.2 by omega]
    exact hk
  · have j1 : j < x.2.1 + 1 := j1
    show -12 ≤ ezp_up x.2.2 x.2.1 v j ∧ ezp_up x.2.2 x.2.1 v j ≤ 9999
    rw [show j = x.2.1 by omega, ezp_up_s]
    omega
theorem ezv_pt {n : Int} (tp : ezp_tp c n) : ∀ (m : Nat) (x : ezp_X), (ezp_pt c m x).1.1 = 0 → ezv_X c (4 * m) x (ezp_pt c m x) := by
  have hP : ∀ k, 0 ≤ ezp_P c k := fun k => (ezp_Pr tp k).1
  intro m
  induction m with
  | zero =>
    intro x hz
    rw [ezp_pt_0] at hz
    have hz : (if (x.1.1 = 0 ∧ ezp_K c x.1.2 = 100 ∧ 0 ≤ ezp_ix (ezp_W c x.1.2) - 44) ∨ x.1.1 = 0 ∧ (ezp_K c x.1.2 = 101 ∨ ezp_K c x.1.2 = 41 ∨ ezp_K c x.1.2 = 240) then ezp_wr c 5 x.1 else ezp_wr c 1 x.1).1 = 0 := hz
    split at hz
    · exact absurd hz (ezp_wr_f (by decide) (hP _))
    · exact absurd hz (ezp_wr_f (by decide) (hP _))
  | succ m ih =>
    intro x hz
    rw [ezp_pt_s] at hz ⊢
    by_cases h1 : x.1.1 = 0 ∧ ezp_K c x.1.2 = 100 ∧ 0 ≤ ezp_ix (ezp_W c x.1.2) - 44
    · rw [if_pos h1] at hz ⊢
      have h48 := ezp_ix_48 (ezp_W c x.1.2)
      exact ezv_em (by omega) h1.1 (by omega) ⟨by omega, by omega⟩
    rw [if_neg h1] at hz ⊢
    by_cases h2 : x.1.1 = 0 ∧ ezp_K c x.1.2 = 101
    · rw [if_pos h2] at hz ⊢
      have hv := ezv_V tp h2.2
      exact ezv_em (by omega) h2.1 (by omega) ⟨by omega, by omega⟩
    rw [if_neg h2] at hz ⊢
    by_cases h3 : x.1.1 = 0 ∧ ezp_K c x.1.2 = 41
    · rw [if_pos h3] at hz ⊢
      have hz : (ezp_pt c m (ezp_t x.1, x.2)).1.1 = 0 := hz
      have H := ezv_X_t h3.1 (by omega) (ih _ hz)
      obtain ⟨w, hw⟩ : ∃ w, w = ezp_pt c m (ezp_t x.1, x.2) := ⟨_, rfl⟩
      have H2 := ih _ hz
      rw [← hw] at H H2 hz ⊢
      obtain ⟨p1, p2, p3, p4, p5, p6⟩ := H
      obtain ⟨-, -, q3, q4, -, -⟩ := H2
      have e2 : (ezp_t x.1).2 = x.1.2 + 1 := by
        unfold ezp_t
        rw [if_pos h3.1]
      have q3 : w.2.1 + (ezp_t x.1).2 ≤ x.2.1 + w.1.2 := q3
      rw [e2] at q3
      have ev : ∀ j, j < w.2.1 → ezp_up w.2.2 w.2.1 (-5) j = w.2.2 j := fun j hj => ezp_up_o _ _ (by omega)
      have p0 := p2.1
      refine ⟨fun j hj => ?_, ?_, ?_, p4, p5, fun j j0 j1 => ?_⟩
      · show ezp_up w.2.2 w.2.1 (-5) j = x.2.2 j
        rw [ev j (by omega)]
        exact p1 j hj
      · show ezv_G (ezp_up w.2.2 w.2.1 (-5)) (4 * (m + 1)) x.2.1 (w.2.1 + 1)
        exact ezv_Gn (ezv_G_c (ezv_G_m p2 (by omega)) (fun k k0 k1 => ev k k1)) (ezp_up_s _ _ _)
      · show w.2.1 + 1 + x.1.2 ≤ x.2.1 + w.1.2
        omega
      · have j1 : j < w.2.1 + 1 := j1
        show -12 ≤ ezp_up w.2.2 w.2.1 (-5) j ∧ ezp_up w.2.2 w.2.1 (-5) j ≤ 9999
        by_cases g : j = w.2.1
        · rw [g, ezp_up_s]
          exact ⟨by decide, by decide⟩
        · rw [ev j (by omega)]
          exact p6 j j0 (by omega)
    rw [if_neg h3] at hz ⊢
    by_cases h4 : x.1.1 = 0 ∧ ezp_K c x.1.2 = 240
    · rw [if_pos h4] at hz ⊢
      obtain ⟨w, hw⟩ : ∃ w, w = ezp_rk c (ezp_pt c m) 4 (ezp_t x.1, x.2) := ⟨_, rfl⟩
      rw [← hw] at hz ⊢
      have hz : (ezp_cl c w.1).1 = 0 := hz
      have hc : w.1.1 = 0 ∧ ezp_K c w.1.2 = 241 := by
        unfold ezp_cl at hz
        by_cases g : w.1.1 = 0 ∧ ezp_K c w.1.2 = 241
        · exact g
        · rw [if_neg g] at hz
          exact absurd hz (ezp_wr_f (by decide) (hP _))
      have H := ezv_X_t h4.1 (by omega) (ezv_rk ih 4 _ (show (ezp_rk c (ezp_pt c m) 4 (ezp_t x.1, x.2)).1.1 = 0 by rw [← hw]; exact hc.1))
      rw [← hw] at H
      obtain ⟨p1, p2, p3, p4, p5, p6⟩ := H
      have e3 : ezp_cl c w.1 = ezp_t w.1 := by
        unfold ezp_cl
        exact if_pos hc
      have e2 : (ezp_t w.1).2 = w.1.2 + 1 := by
        unfold ezp_t
        rw [if_pos hc.1]
      rw [e3]
      refine ⟨p1, ezv_G_m p2 (by omega), ?_, ?_, fun j j0 j1 => ?_, p6⟩
      · show w.2.1 + x.1.2 ≤ x.2.1 + (ezp_t w.1).2
        omega
      · show x.1.2 ≤ (ezp_t w.1).2
        omega
      · have j1 : j < (ezp_t w.1).2 := j1
        by_cases g : j = w.1.2
        · rw [g]
          omega
        · exact p5 j j0 (by omega)
    · rw [if_neg h4] at hz
      exact absurd hz (ezp_wr_f (by decide) (hP _))
/-- the law that is told from here on -/
def ezv_lx (c : Int → Int) (s : Int × Int) : ezp_X := ezp_rk c (ezp_pt c 5) 4 (s, (0, fun _ => 0))
/-- a law as it is kept: how many, and what -/
def ezv_L (y : Int × (Int → Int)) : Prop := 0 ≤ y.1 ∧ y.1 ≤ 1000 ∧ ezv_G y.2 24 0 y.1 ∧ ∀ j, 0 ≤ j → j < y.1 → -12 ≤ y.2 j ∧ y.2 j ≤ 9999
theorem ezv_lx_ok {n : Int} (tp : ezp_tp c n) {s : Int × Int} (h0 : 0 ≤ s.2) (hz : (ezv_lx c s).1.1 = 0) : ezv_L (ezv_lx c s).2 := by
  obtain ⟨-, p2, p3, p4, p5, p6⟩ := ezv_rk (ezv_pt tp 5) 4 (s, (0, fun _ => 0)) hz
  have p3 : (ezv_lx c s).2.1 + s.2 ≤ 0 + (ezv_lx c s).1.2 := p3
  have p4 : s.2 ≤ (ezv_lx c s).1.2 := p4
  have p5 : ∀ j, s.2 ≤ j → j < (ezv_lx c s).1.2 → ezp_K c j ≠ 102 := p5
  have hp := ezv_Pj tp h0 ((ezv_lx c s).1.2 - s.2).toNat (fun j j0 j1 => p5 j j0 (by omega))
  have h1 := ezp_Pr tp s.2
  have h2 := ezp_Pr tp (s.2 + (((ezv_lx c s).1.2 - s.2).toNat : Nat))
  have h3 := tp.2.1
  have p2 : ezv_G (ezv_lx c s).2.2 24 0 (ezv_lx c s).2.1 := p2
  exact ⟨p2.1, by omega, p2, p6⟩
end
/-- what a law comes to -/
def ezv_val (fc : Int → Int) (y : Int × (Int → Int)) : Int := match ezv_rn fc y.2 y.1.toNat 0 [] with
  | none => 0
  | some l => match l with
    | [] => 0
    | v :: _ => v
theorem ezv_val_v {fc : Int → Int} {y : Int × (Int → Int)} (h : ezv_L y) : ezv_rn fc y.2 y.1.toNat 0 [] = some [ezv_val fc y] := by
  obtain ⟨v, hv⟩ := h.2.2.1.2 fc [] (by decide)
  rw [Int.sub_zero] at hv
  unfold ezv_val
  rw [hv]
/-- how far it has come: behind i steps lies l -/
theorem ezv_rn_i {fc : Int → Int} {f : Int → Int} : ∀ (m : Nat) (i : Int) (l r : List Int), ezv_rn fc f (m + 1) i l = some r → ∃ q, ezv_st fc (f i) l = some q ∧ ezv_rn fc f m (i + 1) q = some r := by
  intro m i l r h
  cases hs : ezv_st fc (f i) l with
  | none =>
    have h : (match ezv_st fc (f i) l with
      | none => none
      | some r => ezv_rn fc f m (i + 1) r) = some r := h
    rw [hs] at h
    cases h
  | some q =>
    rw [ezv_rn_s hs] at h
    exact ⟨q, rfl, h⟩
/-- a pile that lies in a row -/
def ezv_P (l : List Int) (a : Int → Int) : Prop := match l with
  | [] => True
  | v :: r => a (r.length : Int) = v ∧ ezv_P r a
theorem ezv_P_fr : ∀ {l : List Int} {a b : Int → Int}, ezv_P l a → (∀ j, 0 ≤ j → j < (l.length : Int) → b j = a j) → ezv_P l b := by
  intro l
  induction l with
  | nil => intro a b _ _; exact True.intro
  | cons v r ih =>
    intro a b h hb
    have hl : ((v :: r).length : Int) = (r.length : Int) + 1 := by simp
    exact ⟨(hb _ (by omega) (by omega)).trans h.1, ih h.2 (fun j j0 j1 => hb j j0 (by omega))⟩
/-- a chance, of ten -/
def ezv_cl (v : Int) : Int := if v < 0 then 0 else if 10 < v then 10 else v
/-- the facts -/
def ezv_fc (ti th aw fo : Int) : Int → Int := fun k => if k = 0 then ti else if k = 1 then th else if k = 2 then aw else fo
def ezv_run0 (ti aw : Int) : Int := if aw = 0 then 10 - ti else if aw = 1 then 3 - ti else 0
def ezv_tear0 (ti fo : Int) : Int := ti + 2 * fo
/-- a law told or not: (1, it) or (0, _) -/
def ezv_run (R : Int × (Int × (Int → Int))) (ti th aw fo : Int) : Int := ezv_cl (if R.1 = 1 then ezv_val (ezv_fc ti th aw fo) R.2 else ezv_run0 ti aw)
def ezv_tear (R : Int × (Int × (Int → Int))) (ti th aw fo : Int) : Int := ezv_cl (if R.1 = 1 then ezv_val (ezv_fc ti th aw fo) R.2 else ezv_tear0 ti fo)
theorem ezv_cl_r (v : Int) : 0 ≤ ezv_cl v ∧ ezv_cl v ≤ 10 := by
  unfold ezv_cl
  repeat' split
  all_goals omega
theorem ezv_st_p {fc : Int → Int} {e : Int} {l r : List Int} (h : ezv_st fc e l = some r) (he : 0 ≤ e) : r = e :: l ∧ l.length < 32 := by
  unfold ezv_st at h
  rw [if_pos he] at h
  split at h
  · injection h with h
    exact ⟨h.symm, by assumption⟩
  · cases h
theorem ezv_st_f {fc : Int → Int} {e : Int} {l r : List Int} (h : ezv_st fc e l = some r) (h0 : e < 0) (he : -4 ≤ e) : r = fc (-1 - e) :: l ∧ l.length < 32 := by
  unfold ezv_st at h
  rw [if_neg (by omega), if_pos he] at h
  split at h
  · injection h with h
    exact ⟨h.symm, by assumption⟩
  · cases h
theorem ezv_st_n {fc : Int → Int} {e : Int} {l r : List Int} (h : ezv_st fc e l = some r) (he : e = -5) : ∃ a q, l = a :: q ∧ r = (if a = 0 then 1 else 0) :: q := by
  unfold ezv_st at h
  rw [if_neg (by omega), if_neg (by omega), if_pos he] at h
  cases l with
  | nil => cases h
  | cons a q =>
    injection h with h
    exact ⟨a, q, rfl, h.symm⟩
theorem ezv_st_b {fc : Int → Int} {e : Int} {l r : List Int} (h : ezv_st fc e l = some r) (he : e ≤ -6) : ∃ b a q, l = b :: a :: q ∧ r = ezv_bin e a b :: q := by
  unfold ezv_st at h
  rw [if_neg (by omega), if_neg (by omega), if_neg (by omega)] at h
  cases l with
  | nil => cases h
  | cons b q =>
    cases q with
    | nil => cases h
    | cons a q =>
      injection h with h
      exact ⟨b, a, q, rfl, h.symm⟩
theorem ezv_st_len {fc : Int → Int} {e : Int} {l r : List Int} (h : ezv_st fc e l = some r) (hl : l.length ≤ 32) : r.length ≤ 32 := by
  by_cases h0 : 0 ≤ e
  · obtain ⟨h1, h2⟩ := ezv_st_p h h0
    rw [h1]
    show l.length + 1 ≤ 32
    omega
  · by_cases h4 : -4 ≤ e
    · obtain ⟨h1, h2⟩ := ezv_st_f h (by omega) h4
      rw [h1]
      show l.length + 1 ≤ 32
      omega
    · by_cases h5 : e = -5
      · obtain ⟨a, q, h1, h2⟩ := ezv_st_n h h5
        rw [h2]
        rw [h1] at hl
        exact hl
      · obtain ⟨b, a, q, h1, h2⟩ := ezv_st_b h (by omega)
        rw [h2]
        rw [h1] at hl
        have hl : q.length + 1 + 1 ≤ 32 := hl
        show q.length + 1 ≤ 32
        omega
/-! rows that hold 32 bits -/
section KTV
variable {l : Launch} {ρ : ezq_E} {B : Nat} {xa : Nat → Option Nat} {Hb : Heap} {D : va_G} {cA : Nat → ClassId} {d : Nat}
variable {r : ezq_R} {P : Option ezq_V → (Nat → ezq_C) → Prop} {pc : Nat} {ls : List (Option ezq_V)} {st : List ezq_V} {g : Nat → ezq_C}
theorem ezv_iadd {i j : Int} {a b c x y : Nat} (he : ezw_at r pc = some (.iadd, 1, (a, b, c, x, y))) (h : ezw_E l ρ B xa Hb D cA d r P (pc + 1) ls (ezw_i (ezv_w (i + j)) :: st) g) : ezw_E l ρ B xa Hb D cA d r P pc ls (ezw_i j :: ezw_i i :: st) g := ezw_iadd he rfl (by
  have e := ezv_wi (i + j)
  rw [e] at h
  exact h)
theorem ezv_isub {i j : Int} {a b c x y : Nat} (he : ezw_at r pc = some (.isub, 1, (a, b, c, x, y))) (h : ezw_E l ρ B xa Hb D cA d r P (pc + 1) ls (ezw_i (ezv_w (i - j)) :: st) g) : ezw_E l ρ B xa Hb D cA d r P pc ls (ezw_i j :: ezw_i i :: st) g := ezw_isub he rfl (by
  have e := ezv_wi (i - j)
  rw [e] at h
  exact h)
theorem ezv_imul {i j : Int} {a b c x y : Nat} (he : ezw_at r pc = some (.imul, 1, (a, b, c, x, y))) (h : ezw_E l ρ B xa Hb D cA d r P (pc + 1) ls (ezw_i (ezv_w (i * j)) :: st) g) : ezw_E l ρ B xa Hb D cA d r P pc ls (ezw_i j :: ezw_i i :: st) g := ezw_imul he rfl (by
  have e := ezv_wi (i * j)
  rw [e] at h
  exact h)
end KTV

/-! ===== the laws, while a TREE is read ===== -/
def ezv_LL : Type := (Int × (Int × (Int → Int))) × (Int × (Int × (Int → Int)))
def ezv_L0 : ezv_LL := ((0, (0, fun _ => 0)), (0, (0, fun _ => 0)))
def ezp_lnl (c : Int → Int) (t : ezp_D) (s : Int × Int) (L : ezv_LL) : ezv_LL := if (ezp_cf c t s).1 = 0 then (if ezp_K c s.2 = 21 then ((1, (ezv_lx c (ezp_t s)).2), L.2) else if ezp_K c s.2 = 22 then (L.1, (1, (ezv_lx c (ezp_t s)).2)) else L) else L
def ezp_rl (c : Int → Int) : Nat → ((Int × Int) × ezp_D) × ezv_LL → ((Int × Int) × ezp_D) × ezv_LL := fun m => match m with
  | 0 => fun z => z
  | m + 1 => fun z => if z.1.1.1 = 0 ∧ ezp_K c z.1.1.2 ≠ 102 then ezp_rl c m (ezp_lne c z.1.2 z.1.1, ezp_lnl c z.1.2 z.1.1 z.2) else z
section
variable {c : Int → Int} {t : ezp_D} {s : Int × Int} {L : ezv_LL} {m : Nat} {z : ((Int × Int) × ezp_D) × ezv_LL}
theorem ezp_lnl_0 (h : (ezp_cf c t s).1 ≠ 0) : ezp_lnl c t s L = L := if_neg h
theorem ezp_lnl_21 (h : (ezp_cf c t s).1 = 0) (k : ezp_K c s.2 = 21) : ezp_lnl c t s L = ((1, (ezv_lx c (ezp_t s)).2), L.2) := (if_pos h).trans (if_pos k)
theorem ezp_lnl_22 (h : (ezp_cf c t s).1 = 0) (k : ezp_K c s.2 = 22) : ezp_lnl c t s L = (L.1, (1, (ezv_lx c (ezp_t s)).2)) := (if_pos h).trans ((if_neg (by omega)).trans (if_pos k))
theorem ezp_lnl_n (h : (ezp_cf c t s).1 = 0) (k : ezp_K c s.2 ≠ 21 ∧ ezp_K c s.2 ≠ 22) : ezp_lnl c t s L = L := (if_pos h).trans ((if_neg k.1).trans (if_neg k.2))
theorem ezp_rl_s (h : z.1.1.1 = 0 ∧ ezp_K c z.1.1.2 ≠ 102) : ezp_rl c (m + 1) z = ezp_rl c m (ezp_lne c z.1.2 z.1.1, ezp_lnl c z.1.2 z.1.1 z.2) := if_pos h
theorem ezp_rl_n (h : ¬ (z.1.1.1 = 0 ∧ ezp_K c z.1.1.2 ≠ 102)) : ezp_rl c m z = z := by
  cases m with
  | zero => rfl
  | succ m => exact if_neg h
theorem ezp_rl_1 : ∀ (m : Nat) (z : ((Int × Int) × ezp_D) × ezv_LL), (ezp_rl c m z).1 = ezp_rd c m z.1 := by
  intro m
  induction m with
  | zero => intro z; rfl
  | succ m ih =>
    intro z
    by_cases h : z.1.1.1 = 0 ∧ ezp_K c z.1.1.2 ≠ 102
    · rw [ezp_rl_s h, ezp_rd_s h]
      exact ih _
    · rw [ezp_rl_n h, ezp_rd_n h]
def ezv_LO (L : ezv_LL) : Prop := ((L.1.1 = 0 ∨ L.1.1 = 1) ∧ (L.1.1 = 1 → ezv_L L.1.2)) ∧ ((L.2.1 = 0 ∨ L.2.1 = 1) ∧ (L.2.1 = 1 → ezv_L L.2.2))
theorem ezv_LO_0 : ezv_LO ezv_L0 := ⟨⟨Or.inl rfl, fun z => absurd (show (0 : Int) = 1 from z) (by decide)⟩, ⟨Or.inl rfl, fun z => absurd (show (0 : Int) = 1 from z) (by decide)⟩⟩
theorem ezv_lnl_o {n : Int} (tp : ezp_tp c n) (h0 : 0 ≤ s.2) (hz : (ezp_lne c t s).1.1 = 0) (h : ezv_LO L) : ezv_LO (ezp_lnl c t s L) := by
  by_cases hc : (ezp_cf c t s).1 = 0
  · have h1 : 0 ≤ (ezp_t s).2 := by
      unfold ezp_t
      split
      · show 0 ≤ s.2 + 1
        omega
      · exact h0
    rw [ezp_lne_1 hc] at hz
    have hw := ezp_0w hz
    by_cases k1 : ezp_K c s.2 = 21
    · rw [ezp_lw_21 k1] at hw
      rw [ezp_lnl_21 hc k1]
      exact ⟨⟨Or.inr rfl, fun _ => ezv_lx_ok tp h1 hw⟩, h.2⟩
    · by_cases k2 : ezp_K c s.2 = 22
      · rw [ezp_lw_22 k2] at hw
        rw [ezp_lnl_22 hc k2]
        exact ⟨h.1, ⟨Or.inr rfl, fun _ => ezv_lx_ok tp h1 hw⟩⟩
      · rw [ezp_lnl_n hc ⟨k1, k2⟩]
        exact h
  · rw [ezp_lnl_0 hc]
    exact h
end
/-- what the class holds of the laws -/
def ezt_LA (L : ezv_LL) (F : Nat → Nat → Int) (A : Nat → Int → Int) : Prop := (F 5 3 = L.1.1 ∧ (L.1.1 = 1 → ezt_LW 5 L.1.2 F A)) ∧ (F 9 3 = L.2.1 ∧ (L.2.1 = 1 → ezt_LW 9 L.2.2 F A))
theorem ezt_LA_fr {L : ezv_LL} {F F' : Nat → Nat → Int} {A A' : Nat → Int → Int} (h : ezt_LA L F A) (e1 : F' 5 3 = F 5 3) (e2 : F' 5 4 = F 5 4) (e3 : A' 6 = A 6) (e4 : F' 9 3 = F 9 3) (e5 : F' 9 4 = F 9 4) (e6 : A' 10 = A 10) : ezt_LA L F' A' := ⟨⟨e1.trans h.1.1, fun z => ezt_LW_fr (h.1.2 z) e2 e3⟩, ⟨e4.trans h.2.1, fun z => ezt_LW_fr (h.2.2 z) e5 e6⟩⟩
/-- the chances, as they are laid out -/
def ezv_CH (L : ezv_LL) (t : ezp_D) (a b : Int → Int) : Prop := (∀ p, 0 ≤ p → p < 60 * t.kT → a p = ezv_run L.1 (p % 60 / 6) (t.th (p / 60)) (p % 6 / 2) (p % 2)) ∧ ∀ p, 0 ≤ p → p < 60 * t.kT → b p = ezv_tear L.2 (p % 60 / 6) (t.th (p / 60)) (p % 6 / 2) (p % 2)

/-! ===== the laws, as the model keeps them ===== -/
def ezm_M1 (R : Int × (Int × (Int → Int))) (k : Int) (r79 r80 : Int → Int) (i13 : Int) : Prop := R.1 = 0 ∧ k = -1 ∨ R.1 = 1 ∧ 0 ≤ k ∧ 0 ≤ R.2.1 ∧ k + R.2.1 + 1 ≤ i13 ∧ (∀ j, 0 ≤ j → j < R.2.1 → r79 (k + j + 1100) = ezm_mo (R.2.2 j) ∧ r80 (k + j + 1100) = ezm_ma (R.2.2 j)) ∧ r79 (k + R.2.1 + 1100) = 0
def ezm_ML (L : ezv_LL) (r78 r79 r80 : Int → Int) (i13 : Int) : Prop := ezm_M1 L.1 (r78 115) r79 r80 i13 ∧ ezm_M1 L.2 (r78 116) r79 r80 i13
def ezm_MG (R : Int × (Int × (Int → Int))) (k : Int) (r79 r80 : Int → Int) : Prop := R.1 = 0 ∧ k = -1 ∨ R.1 = 1 ∧ 0 ≤ k ∧ 0 ≤ R.2.1 ∧ k + R.2.1 + 1 ≤ 1100 ∧ (∀ j, 0 ≤ j → j < R.2.1 → r79 (k + j) = ezm_mo (R.2.2 j) ∧ r80 (k + j) = ezm_ma (R.2.2 j)) ∧ r79 (k + R.2.1) = 0
def ezm_MF (L : ezv_LL) (r78 r79 r80 : Int → Int) : Prop := ezm_MG L.1 (r78 15) r79 r80 ∧ ezm_MG L.2 (r78 16) r79 r80
section
variable {R : Int × (Int × (Int → Int))} {L : ezv_LL} {k k2 i13 x13 : Int} {y : Int × (Int → Int)} {r78 r79 r80 x78 x79 x80 o79 o80 : Int → Int}
theorem ezm_M1_fr (h : ezm_M1 R k r79 r80 i13) (e : k2 = k) (fo : ezm_fr r79 r80 x79 x80 (i13 + 1100)) (hx : i13 ≤ x13) : ezm_M1 R k2 x79 x80 x13 := by
  rw [e]
  rcases h with h | ⟨h1, h2, h3, h4, h5, h6⟩
  · exact Or.inl h
  · refine Or.inr ⟨h1, h2, h3, by omega, fun j j0 j1 => ?_, ?_⟩
    · have f := fo (k + j + 1100) (by omega)
      rw [f.1, f.2]
      exact h5 j j0 j1
    · have f := fo (k + R.2.1 + 1100) (by omega)
      rw [f.1]
      exact h6
theorem ezm_M1_n (lm : ezm_LM i13 y x13 o79 o80) (fo : ezm_fr o79 o80 x79 x80 (x13 + 1100)) (eo : x79 (x13 + 1100) = 0) (h0 : 0 ≤ i13) (e : k = i13) : ezm_M1 (1, y) k x79 x80 (x13 + 1) := by
  obtain ⟨h1, h2, h3⟩ := lm
  rw [e]
  refine Or.inr ⟨rfl, h0, h2, ?_, fun j j0 j1 => ?_, ?_⟩
  · show i13 + y.1 + 1 ≤ x13 + 1
    omega
  · have j1 : j < y.1 := j1
    have f := fo (i13 + j + 1100) (by omega)
    rw [f.1, f.2]
    exact h3 j j0 j1
  · show x79 (i13 + y.1 + 1100) = 0
    rw [← h1]
    exact eo
theorem ezm_ML_78 (h : ezm_ML L r78 r79 r80 i13) (e1 : x78 115 = r78 115) (e2 : x78 116 = r78 116) : ezm_ML L x78 r79 r80 i13 := by
  unfold ezm_ML
  rw [e1, e2]
  exact h
theorem ezm_ML_0 (e1 : r78 115 = -1) (e2 : r78 116 = -1) : ezm_ML ezv_L0 r78 r79 r80 i13 := ⟨Or.inl ⟨rfl, e1⟩, Or.inl ⟨rfl, e2⟩⟩
theorem ezm_MF_cp (h : ezm_ML L r78 r79 r80 i13) (h13 : i13 ≤ 1100) (hc : ∀ j, 0 ≤ j → j < 100 → x78 j = r78 (j + 100)) (ho : ∀ j, 0 ≤ j → j < i13 → x79 j = r79 (j + 1100) ∧ x80 j = r80 (j + 1100)) : ezm_MF L x78 x79 x80 := by
  have key : ∀ (R : Int × (Int × (Int → Int))) (k : Int), ezm_M1 R k r79 r80 i13 → ezm_MG R k x79 x80 := by
    intro R k h
    rcases h with h | ⟨h1, h2, h3, h4, h5, h6⟩
    · exact Or.inl h
    · refine Or.inr ⟨h1, h2, h3, by omega, fun j j0 j1 => ?_, ?_⟩
      · have f := ho (k + j) (by omega) (by omega)
        rw [f.1, f.2]
        exact h5 j j0 j1
      · rw [(ho (k + R.2.1) (by omega) (by omega)).1]
        exact h6
  refine ⟨?_, ?_⟩
  · rw [hc 15 (by decide) (by decide)]
    exact key _ _ h.1
  · rw [hc 16 (by decide) (by decide)]
    exact key _ _ h.2
theorem ezm_MF_fr (h : ezm_MF L r78 r79 r80) (hf : ∀ j, j < 100 → x78 j = r78 j) (fo : ezm_fr r79 r80 x79 x80 1100) : ezm_MF L x78 x79 x80 := by
  have key : ∀ (R : Int × (Int × (Int → Int))) (k : Int), ezm_MG R k r79 r80 → ezm_MG R k x79 x80 := by
    intro R k h
    rcases h with h | ⟨h1, h2, h3, h4, h5, h6⟩
    · exact Or.inl h
    · refine Or.inr ⟨h1, h2, h3, by omega, fun j j0 j1 => ?_, ?_⟩
      · have f := fo (k + j) (by omega)
        rw [f.1, f.2]
        exact h5 j j0 j1
      · rw [(fo (k + R.2.1) (by omega)).1]
        exact h6
  refine ⟨?_, ?_⟩
  · rw [hf 15 (by decide)]
    exact key _ _ h.1
  · rw [hf 16 (by decide)]
    exact key _ _ h.2
end
section
variable {c : Int → Int} {t : ezp_D} {s : Int × Int} {L : ezv_LL}
theorem ezp_lnl_k (k : ezp_K c s.2 ≠ 21 ∧ ezp_K c s.2 ≠ 22) : ezp_lnl c t s L = L := by
  by_cases h : (ezp_cf c t s).1 = 0
  · exact ezp_lnl_n h k
  · exact ezp_lnl_0 h
theorem ezp_cf_d (h : ezp_wds (ezp_K c s.2)) (hd : t.di (ezp_K c s.2) = 1) : ezp_cf c t s = ezp_wr c 3 s := by
  unfold ezp_wds at h
  unfold ezp_cf
  rw [if_neg (by omega), if_neg (by omega), if_neg (by omega), if_neg (by omega), if_pos h, if_pos hd]
theorem ezp_cf_z (z : s.1 = 0) (h : ezp_K c s.2 = 0 ∧ t.kT < 8 ∨ ezp_K c s.2 = 9 ∧ t.kH < 4 ∨ ezp_K c s.2 = 20 ∧ t.kE < 8 ∨ ezp_K c s.2 = 12 ∨ ezp_wds (ezp_K c s.2) ∧ t.di (ezp_K c s.2) ≠ 1) : (ezp_cf c t s).1 = 0 := by
  unfold ezp_wds at h
  unfold ezp_cf
  by_cases h0 : ezp_K c s.2 = 0
  · rw [if_pos h0, if_neg (by omega)]
    exact z
  rw [if_neg h0]
  by_cases h9 : ezp_K c s.2 = 9
  · rw [if_pos h9, if_neg (by omega)]
    exact z
  rw [if_neg h9]
  by_cases h20 : ezp_K c s.2 = 20
  · rw [if_pos h20, if_neg (by omega)]
    exact z
  rw [if_neg h20]
  by_cases h12 : ezp_K c s.2 = 12
  · rw [if_pos h12]
    exact z
  rw [if_neg h12]
  rcases h with h | h | h | h | ⟨h, hd⟩
  · omega
  · omega
  · omega
  · omega
  · rw [if_pos h, if_neg hd]
    exact z
end

