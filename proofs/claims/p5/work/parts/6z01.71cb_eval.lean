/-! ===== a law reckoned: pure ===== -/
/-- a number as 32 bits hold it -/
def ezv_w (x : Int) : Int := (x + 2147483648) % 4294967296 - 2147483648
theorem ezv_w_in (x : Int) : ezw_in (ezv_w x) := by
  unfold ezv_w
  exact ⟨by omega, by omega⟩
theorem ezv_wi (x : Int) : ezw_i (ezv_w x) = ezw_i x := by
  unfold ezw_i ezw_z ezv_w
  rw [show ((x + 2147483648) % 4294967296 - 2147483648) % 4294967296 = x % 4294967296 by omega]
def ezv_bin (e a b : Int) : Int := if e = -6 then (if a ≠ 0 ∧ b ≠ 0 then 1 else 0) else if e = -7 then (if a ≠ 0 ∨ b ≠ 0 then 1 else 0) else if e = -8 then (if a < b then 1 else 0) else if e = -9 then (if a = b then 1 else 0) else if e = -10 then ezv_w (a + b) else if e = -11 then ezv_w (a - b) else ezv_w (a * b)
/-- a step over the pile, its top first; it holds 32 -/
def ezv_st (fc : Int → Int) (e : Int) (l : List Int) : Option (List Int) :=
  if 0 ≤ e then (if l.length < 32 then some (e :: l) else none)
  else if -4 ≤ e then (if l.length < 32 then some (fc (-1 - e) :: l) else none)
  else if e = -5 then (match l with
    | [] => none
    | a :: r => some ((if a = 0 then 1 else 0) :: r))
  else (match l with
    | [] => none
    | b :: q => match q with
      | [] => none
      | a :: r => some (ezv_bin e a b :: r))
def ezv_rn (fc : Int → Int) (f : Int → Int) : Nat → Int → List Int → Option (List Int) := fun m => match m with
  | 0 => fun _ l => some l
  | m + 1 => fun i l => match ezv_st fc (f i) l with
    | none => none
    | some r => ezv_rn fc f m (i + 1) r
theorem ezv_rn_s {fc f : Int → Int} {m : Nat} {i : Int} {l r : List Int} (h : ezv_st fc (f i) l = some r) : ezv_rn fc f (m + 1) i l = ezv_rn fc f m (i + 1) r := by
  show (match ezv_st fc (f i) l with
    | none => none
    | some r => ezv_rn fc f m (i + 1) r) = _
  rw [h]
theorem ezv_rn_a {fc f : Int → Int} {n : Nat} : ∀ (m : Nat) (i : Int) (l r : List Int), ezv_rn fc f m i l = some r → ezv_rn fc f (m + n) i l = ezv_rn fc f n (i + m) r := by
  intro m
  induction m with
  | zero =>
    intro i l r h
    have h : some l = some r := h
    injection h with h
    rw [h, Nat.zero_add, show i + ((0 : Nat) : Int) = i by omega]
  | succ m ih =>
    intro i l r h
    rw [show m + 1 + n = (m + n) + 1 by omega]
    cases hs : ezv_st fc (f i) l with
    | none =>
      have h : (match ezv_st fc (f i) l with
        | none => none
        | some r => ezv_rn fc f m (i + 1) r) = some r := h
      rw [hs] at h
      cases h
    | some q =>
      rw [ezv_rn_s hs] at h ⊢
      rw [ih _ _ _ h, show i + 1 + (m : Int) = i + ((m + 1 : Nat) : Int) by omega]
theorem ezv_rn_c {fc f g : Int → Int} : ∀ (m : Nat) (i : Int) (l : List Int), (∀ j, i ≤ j → j < i + m → f j = g j) → ezv_rn fc f m i l = ezv_rn fc g m i l := by
  intro m
  induction m with
  | zero => intro i l _; rfl
  | succ m ih =>
    intro i l h
    have e := h i (by omega) (by omega)
    cases hs : ezv_st fc (f i) l with
    | none =>
      show (match ezv_st fc (f i) l with
        | none => none
        | some r => ezv_rn fc f m (i + 1) r) = (match ezv_st fc (g i) l with
        | none => none
        | some r => ezv_rn fc g m (i + 1) r)
      rw [← e, hs]
    | some q =>
      rw [ezv_rn_s hs, ezv_rn_s (show ezv_st fc (g i) l = some q by rw [← e]; exact hs)]
      exact ih _ _ (fun j j0 j1 => h j (by omega) (by omega))
/-- what lies from i on to j lays one number, and wants h places at most -/
def ezv_G (f : Int → Int) (h : Nat) (i j : Int) : Prop := i ≤ j ∧ ∀ (fc : Int → Int) (l : List Int), l.length + h ≤ 32 → ∃ v, ezv_rn fc f (j - i).toNat i l = some (v :: l)
theorem ezv_G_c {f g : Int → Int} {h : Nat} {i j : Int} (H : ezv_G f h i j) (e : ∀ k, i ≤ k → k < j → g k = f k) : ezv_G g h i j := by
  refine ⟨H.1, fun fc l hl => ?_⟩
  obtain ⟨v, hv⟩ := H.2 fc l hl
  exact ⟨v, by rw [ezv_rn_c (g := f) _ _ _ (fun k k0 k1 => e k k0 (by omega))]; exact hv⟩
theorem ezv_G_m {f : Int → Int} {h k : Nat} {i j : Int} (H : ezv_G f h i j) (e : h ≤ k) : ezv_G f k i j := ⟨H.1, fun fc l hl => H.2 fc l (by omega)⟩
theorem ezv_G1 {f : Int → Int} {h : Nat} {i : Int} (hh : 1 ≤ h) (e : -4 ≤ f i) : ezv_G f h i (i + 1) := by
  refine ⟨by omega, fun fc l hl => ?_⟩
  rw [show (i + 1 - i).toNat = 0 + 1 by omega]
  by_cases h0 : 0 ≤ f i
  · exact ⟨f i, ezv_rn_s (by unfold ezv_st; rw [if_pos h0, if_pos (by omega)])⟩
  · exact ⟨fc (-1 - f i), ezv_rn_s (by unfold ezv_st; rw [if_neg h0, if_pos e, if_pos (by omega)])⟩
theorem ezv_Gn {f : Int → Int} {h : Nat} {i j : Int} (H : ezv_G f h i j) (e : f j = -5) : ezv_G f h i (j + 1) := by
  have H1 := H.1
  refine ⟨by omega, fun fc l hl => ?_⟩
  obtain ⟨v, hv⟩ := H.2 fc l hl
  rw [show (j + 1 - i).toNat = (j - i).toNat + 1 by omega, ezv_rn_a _ _ _ _ hv, show i + ((j - i).toNat : Int) = j by omega]
  exact ⟨_, ezv_rn_s (show ezv_st fc (f j) (v :: l) = some ((if v = 0 then 1 else 0) :: l) by unfold ezv_st; rw [if_neg (by omega), if_neg (by omega), if_pos e])⟩
theorem ezv_G2 {f : Int → Int} {h k : Nat} {i j m : Int} (H : ezv_G f (h + 1) i j) (K : ezv_G f h j m) (e : f m ≤ -6) : ezv_G f (h + 1) i (m + 1) := by
  have H1 := H.1
  have K1 := K.1
  refine ⟨by omega, fun fc l hl => ?_⟩
  obtain ⟨v, hv⟩ := H.2 fc l hl
  obtain ⟨w, hw⟩ := K.2 fc (v :: l) (by show l.length + 1 + h ≤ 32; omega)
  rw [show (m + 1 - i).toNat = (j - i).toNat + ((m - j).toNat + 1) by omega, ezv_rn_a _ _ _ _ hv, show i + ((j - i).toNat : Int) = j by omega, ezv_rn_a _ _ _ _ hw, show j + ((m - j).toNat : Int) = m by omega]
  exact ⟨_, ezv_rn_s (show ezv_st fc (f m) (w :: v :: l) = some (ezv_bin (f m) v w :: l) by unfold ezv_st; rw [if_neg (by omega), if_neg (by omega), if_neg (by omega)])⟩
/-! what a law's reader tells -/
theorem ezv_V {c : Int → Int} {n k : Int} (tp : ezp_tp c n) (h : ezp_K c k = 101) : 0 ≤ ezp_V c k ∧ ezp_V c k ≤ 9999 := by
  have hP := ezp_Pr tp k
  unfold ezp_K at h
  unfold ezp_V ezp_N
  obtain ⟨q, hq⟩ : ∃ q, q = ezp_P c k := ⟨_, rfl⟩
  rw [← hq] at h hP ⊢
  have hl : ezp_le (c q) = false := by
    cases hb : ezp_le (c q)
    · rfl
    · exact absurd h (ezp_kdL_ne hb)
  have hd : ezp_di (c q) = true := by
    cases hb : ezp_di (c q)
    · by_cases h0 : c q = 0
      · rw [ezp_kd0 h0] at h
        omega
      · have h2 := ezp_kdS hl hb h0
        cases hs : ezp_sg (c q)
        · have := h2.2 hs
          omega
        · have h3 := h2.1 hs
          unfold ezp_sg at hs
          have h4 := of_decide_eq_true hs
          omega
    · rfl
  have h4 : ¬ 4 < ezp_ln c q := fun z => by
    have := (ezp_kdD hl hd).1 z
    omega
  have hx : ezp_nx c q = ezp_run ezp_di c 2000 q := by
    unfold ezp_nx
    rw [hl, hd]
    rfl
  obtain ⟨r, hr, r0, r1, r2, r3⟩ := ezp_run_n (p := ezp_di) (c := c) (q := q) (n := n) hP.1 hP.2 tp.2.1 (fun j hj => by rw [tp.2.2.1 j hj]; rfl)
  have hln : ezp_ln c q = (r - q).toNat := by
    unfold ezp_ln
    rw [hx, hr]
  have hnu := ezp_nu_r (c := c) (q := q) (ezp_ln c q) (fun j j0 j1 => r2 j j0 (by omega))
  exact ⟨hnu.1, hnu.2.2.2.2.1 (by omega)⟩
theorem ezv_Pi {c : Int → Int} {n k : Int} (tp : ezp_tp c n) (k0 : 0 ≤ k) (h : ezp_K c k ≠ 102) : ezp_P c k + 1 ≤ ezp_P c (k + 1) := by
  have hP := ezp_Pr tp k
  have hz : c (ezp_P c k) ≠ 0 := fun z => h (ezp_kd0 z)
  have hx := ezp_nx_r tp hP.1 hP.2
  have h1 := hx.2.2.1 hz
  rw [ezp_P_s k0]
  obtain ⟨r, hr, r0, -⟩ := ezp_run_n (p := ezp_bl) (c := c) (q := ezp_nx c (ezp_P c k)) (n := n) (by omega) hx.2.1 tp.2.1 (fun j hj => by rw [tp.2.2.1 j hj]; rfl)
  omega
theorem ezv_Pj {c : Int → Int} {n i : Int} (tp : ezp_tp c n) (i0 : 0 ≤ i) : ∀ m : Nat, (∀ j, i ≤ j → j < i + m → ezp_K c j ≠ 102) → ezp_P c i + m ≤ ezp_P c (i + m) := by
  intro m
  induction m with
  | zero =>
    intro _
    rw [show i + ((0 : Nat) : Int) = i by omega]
    omega
  | succ m ih =>
    intro h
    have h1 := ih (fun j j0 j1 => h j j0 (by omega))
    have h2 := ezv_Pi tp (k := i + m) (by omega) (h _ (by omega) (by omega))
    rw [show i + ((m + 1 : Nat) : Int) = i + m + 1 by omega]
    omega
/-- behind x stands y: it told one number's way, that wants h places, and took no more than it told -/
def ezv_X (c : Int → Int) (h : Nat) (x y : ezp_X) : Prop := (∀ j, j < x.2.1 → y.2.2 j = x.2.2 j) ∧ ezv_G y.2.2 h x.2.1 y.2.1 ∧ y.2.1 + x.1.2 ≤ x.2.1 + y.1.2 ∧ x.1.2 ≤ y.1.2 ∧ (∀ j, x.1.2 ≤ j → j < y.1.2 → ezp_K c j ≠ 102) ∧ ∀ j, x.2.1 ≤ j → j < y.2.1 → -12 ≤ y.2.2 j ∧ y.2.2 j ≤ 9999
theorem ezv_X_m {c : Int → Int} {h k : Nat} {x y : ezp_X} (H : ezv_X c h x y) (e : h ≤ k) : ezv_X c k x y := ⟨H.1, ezv_G_m H.2.1 e, H.2.2⟩
/-- a token taken ahead -/
theorem ezv_X_t {c : Int → Int} {h : Nat} {x y : ezp_X} (z : x.1.1 = 0) (hk : ezp_K c x.1.2 ≠ 102) (H : ezv_X c h (ezp_t x.1, x.2) y) : ezv_X c h x y := by
  obtain ⟨h1, h2, h3, h4, h5, h6⟩ := H
  have e : (ezp_t x.1).2 = x.1.2 + 1 := by
    unfold ezp_t
    rw [if_pos z]
  have h3 : y.2.1 + (ezp_t x.1).2 ≤ x.2.1 + y.1.2 := h3
  have h4 : (ezp_t x.1).2 ≤ y.1.2 := h4
  rw [e] at h3 h4
  refine ⟨h1, h2, by omega, by omega, fun j j0 j1 => ?_, h6⟩
  by_cases ej : j = x.1.2
  · rw [ej]
    exact hk
  · exact h5 j (by show (ezp_t x.1).2 ≤ j; omega) j1
theorem ezv_opk {k r : Int} : ezp_op k r ≠ 0 → ezp_op k r ≤ -6 ∧ k ≠ 102 ∧ -12 ≤ ezp_op k r := by
  unfold ezp_op
  (repeat' split) <;> intro h <;> first
    | exact ⟨by omega, by omega, by omega⟩
    | exact absurd rfl h
section
variable {c : Int → Int}
theorem ezv_l1 {h : Nat} {r : Int} {f : ezp_X → ezp_X} {x0 x : ezp_X} (hf : ∀ x, (f x).1.1 = 0 → ezv_X c h x (f x)) (hop : ezp_op (ezp_K c x.1.2) r ≠ 0) (z : x.1.1 = 0) (H : ezv_X c (h + 1) x0 x) (hz : (ezp_l1 c r f x).1.1 = 0) : ezv_X c (h + 1) x0 (ezp_l1 c r f x) := by
  have e := ezv_opk hop
  have hq := hf (ezp_t x.1, x.2) hz
  obtain ⟨w, hw⟩ : ∃ w, w = f (ezp_t x.1, x.2) := ⟨_, rfl⟩
  rw [← hw] at hq
  have e2 : (ezp_t x.1).2 = x.1.2 + 1 := by
    unfold ezp_t
    rw [if_pos z]
  obtain ⟨q1, q2, q3, q4, q5, q6⟩ := hq
  have q1 : ∀ j, j < x.2.1 → w.2.2 j = x.2.2 j := q1
  have q2 : ezv_G w.2.2 h x.2.1 w.2.1 := q2
  have q3 : w.2.1 + (ezp_t x.1).2 ≤ x.2.1 + w.1.2 := q3
  have q4 : (ezp_t x.1).2 ≤ w.1.2 := q4
  have q5 : ∀ j, (ezp_t x.1).2 ≤ j → j < w.1.2 → ezp_K c j ≠ 102 := q5
  have q6 : ∀ j, x.2.1 ≤ j → j < w.2.1 → -12 ≤ w.2.2 j ∧ w.2.2 j ≤ 9999 := q6
  rw [e2] at q3 q4 q5
  obtain ⟨p1, p2, p3, p4, p5, p6⟩ := H
  have p0 := p2.1
  have q0 := q2.1
  have el : ezp_l1 c r f x = (w.1, ezp_em (ezp_op (ezp_K c x.1.2) r) w.2) := by rw [hw]; rfl
  rw [el]
  have ev : ∀ j, j < w.2.1 → ezp_up w.2.2 w.2.1 (ezp_op (ezp_K c x.1.2) r) j = w.2.2 j := fun j hj => ezp_up_o _ _ (by omega)
  refine ⟨fun j hj => ?_, ?_, ?_, ?_, fun j j0 j1 => ?_, fun j j0 j1 => ?_⟩
  · show ezp_up w.2.2 w.2.1 (ezp_op (ezp_K c x.1.2) r) j = x0.2.2 j
    rw [ev j (by omega), q1 j (by omega)]
    exact p1 j hj
  · show ezv_G (ezp_up w.2.2 w.2.1 (ezp_op (ezp_K c x.1.2) r)) (h + 1) x0.2.1 (w.2.1 + 1)
    refine ezv_G2 (k := h) (j := x.2.1) (ezv_G_c p2 (fun k k0 k1 => ?_)) (ezv_G_c q2 (fun k k0 k1 => ev k k1)) ?_
    · rw [ev k (by omega)]
      exact q1 k k1
    · rw [ezp_up_s]
      exact e.1
  · show w.2.1 + 1 + x0.1.2 ≤ x0.2.1 + w.1.2
    omega
  · show x0.1.2 ≤ w.1.2
    omega
  · have j1 : j < w.1.2 := j1
    by_cases g : j < x.1.2
    · exact p5 j j0 g
    · by_cases g2 : j = x.1.2
      · rw [g2]
        exact e.2.1
      · exact q5 j (by omega) j1
  · have j1 : j < w.2.1 + 1 := j1
    show -12 ≤ ezp_up w.2.2 w.2.1 (ezp_op (ezp_K c x.1.2) r) j ∧ ezp_up w.2.2 w.2.1 (ezp_op (ezp_K c x.1.2) r) j ≤ 9999
    by_cases g : j = w.2.1
    · rw [g, ezp_up_s]
      exact ⟨e.2.2, by omega⟩
    · rw [ev j (by omega)]
      by_cases g2 : j < x.2.1
      · rw [q1 j g2]
        exact p6 j j0 g2
      · exact q6 j (by omega) (by omega)
theorem ezv_lp {h : Nat} {r : Int} {f : ezp_X → ezp_X} {x0 : ezp_X} (hf : ∀ x, (f x).1.1 = 0 → ezv_X c h x (f x)) : ∀ (m : Nat) (x : ezp_X), ezv_X c (h + 1) x0 x → (ezp_lp c r f m x).1.1 = 0 → ezv_X c (h + 1) x0 (ezp_lp c r f m x) := by
  intro m
  induction m with
  | zero => intro x H _; exact H
  | succ m ih =>
    intro x H hz
    by_cases z : x.1.1 = 0
    · by_cases ho : ezp_op (ezp_K c x.1.2) r = 0
      · rw [ezp_lp_0 z ho]
        exact H
      · by_cases hr : r = 1
        · rw [ezp_lp_1 z ho hr] at hz ⊢
          exact ezv_l1 hf ho z H hz
        · rw [ezp_lp_s z ho hr] at hz ⊢
          by_cases z1 : (ezp_l1 c r f x).1.1 = 0
          · exact ih _ (ezv_l1 hf ho z H z1) hz
          · rw [ezp_lp_n z1] at hz
            exact absurd hz z1
    · rw [ezp_lp_n z] at hz
      exact absurd hz z
theorem ezv_rk {h : Nat} {f : ezp_X → ezp_X} (hf : ∀ x, (f x).1.1 = 0 → ezv_X c h x (f x)) : ∀ (m : Nat) (x : ezp_X), (ezp_rk c f m x).1.1 = 0 → ezv_X c (h + m) x (ezp_rk c f m x) := by
  intro m
  induction m with
  | zero => intro x hz; exact hf x hz
  | succ m ih =>
    intro x hz
    have hz : (ezp_lp c (3 - (m : Int)) (ezp_rk c f m) 1000 (ezp_rk c f m x)).1.1 = 0 := hz
    show ezv_X c (h + m + 1) x (ezp_lp c (3 - (m : Int)) (ezp_rk c f m) 1000 (ezp_rk c f m x))
    by_cases z1 : (ezp_rk c f m x).1.1 = 0
    · exact ezv_lp ih 1000 _ (ezv_X_m (ih x z1) (by omega)) hz
    · rw [ezp_lp_n z1] at hz
      exact absurd hz z1
theorem ezv_em {h : Nat} {x : ezp_X} {v : Int} (hh : 1 ≤ h) (z : x.1.1 = 0) (hk : ezp_K c x.1.2 ≠ 102) (hv : -4 ≤ v ∧ v ≤ 9999) : ezv_X c h x (ezp_t x.1, ezp_em v x.2) := by
  have e2 : (ezp_t x.1).2 = x.1.2 + 1 := by
    unfold ezp_t
    rw [if_pos z]
  refine ⟨fun j hj => ezp_up_o _ _ (by omega), ?_, ?_, ?_, fun j j0 j1 => ?_, fun j j0 j1 => ?_⟩
  · show ezv_G (ezp_up x.2.2 x.2.1 v) h x.2.1 (x.2.1 + 1)
    exact ezv_G1 hh (by rw [ezp_up_s]; exact hv.1)
  · show x.2.1 + 1 + x.1.2 ≤ x.2.1 + (ezp_t x.1).2
    omega
  · show x.1.2 ≤ (ezp_t x.1).2
    omega
  · have j1 : j < (ezp_t x.1).2 := j1
    rw [show j = x.1.2 by omega]
    exact hk
  · have j1 : j < x.2.1 + 1 := j1
    show -12 ≤ ezp_up x.2.2 x.2.1 v j ∧ ezp_up x.2.2 x.2.1 v j ≤ 9999
    rw [show j = x.2.1 by omega, ezp_up_s]
    omega
theorem ezv_pt {n : Int} (tp : ezp_tp c n) : ∀ (m : Nat) (x : ezp_X), (ezp_pt c m x).1.1 = 0 → ezv_X c (4 * m) x (ezp_pt c m x) := by
  have hP : ∀ k, 0 ≤ ezp_P c k := fun k => (ezp_Pr tp k).1
  intro m
  induction m with
  | zero =>
    intro x hz
    rw [ezp_pt_0] at hz
    have hz : (if (x.1.1 = 0 ∧ ezp_K c x.1.2 = 100 ∧ 0 ≤ ezp_ix (ezp_W c x.1.2) - 44) ∨ x.1.1 = 0 ∧ (ezp_K c x.1.2 = 101 ∨ ezp_K c x.1.2 = 41 ∨ ezp_K c x.1.2 = 240) then ezp_wr c 5 x.1 else ezp_wr c 1 x.1).1 = 0 := hz
    split at hz
    · exact absurd hz (ezp_wr_f (by decide) (hP _))
    · exact absurd hz (ezp_wr_f (by decide) (hP _))
  | succ m ih =>
    intro x hz
    rw [ezp_pt_s] at hz ⊢
    by_cases h1 : x.1.1 = 0 ∧ ezp_K c x.1.2 = 100 ∧ 0 ≤ ezp_ix (ezp_W c x.1.2) - 44
    · rw [if_pos h1] at hz ⊢
      have h48 := ezp_ix_48 (ezp_W c x.1.2)
      exact ezv_em (by omega) h1.1 (by omega) ⟨by omega, by omega⟩
    rw [if_neg h1] at hz ⊢
    by_cases h2 : x.1.1 = 0 ∧ ezp_K c x.1.2 = 101
    · rw [if_pos h2] at hz ⊢
      have hv := ezv_V tp h2.2
      exact ezv_em (by omega) h2.1 (by omega) ⟨by omega, by omega⟩
    rw [if_neg h2] at hz ⊢
    by_cases h3 : x.1.1 = 0 ∧ ezp_K c x.1.2 = 41
    · rw [if_pos h3] at hz ⊢
      have hz : (ezp_pt c m (ezp_t x.1, x.2)).1.1 = 0 := hz
      have H := ezv_X_t h3.1 (by omega) (ih _ hz)
      obtain ⟨w, hw⟩ : ∃ w, w = ezp_pt c m (ezp_t x.1, x.2) := ⟨_, rfl⟩
      have H2 := ih _ hz
      rw [← hw] at H H2 hz ⊢
      obtain ⟨p1, p2, p3, p4, p5, p6⟩ := H
      obtain ⟨-, -, q3, q4, -, -⟩ := H2
      have e2 : (ezp_t x.1).2 = x.1.2 + 1 := by
        unfold ezp_t
        rw [if_pos h3.1]
      have q3 : w.2.1 + (ezp_t x.1).2 ≤ x.2.1 + w.1.2 := q3
      rw [e2] at q3
      have ev : ∀ j, j < w.2.1 → ezp_up w.2.2 w.2.1 (-5) j = w.2.2 j := fun j hj => ezp_up_o _ _ (by omega)
      have p0 := p2.1
      refine ⟨fun j hj => ?_, ?_, ?_, p4, p5, fun j j0 j1 => ?_⟩
      · show ezp_up w.2.2 w.2.1 (-5) j = x.2.2 j
        rw [ev j (by omega)]
        exact p1 j hj
      · show ezv_G (ezp_up w.2.2 w.2.1 (-5)) (4 * (m + 1)) x.2.1 (w.2.1 + 1)
        exact ezv_Gn (ezv_G_c (ezv_G_m p2 (by omega)) (fun k k0 k1 => ev k k1)) (ezp_up_s _ _ _)
      · show w.2.1 + 1 + x.1.2 ≤ x.2.1 + w.1.2
        omega
      · have j1 : j < w.2.1 + 1 := j1
        show -12 ≤ ezp_up w.2.2 w.2.1 (-5) j ∧ ezp_up w.2.2 w.2.1 (-5) j ≤ 9999
        by_cases g : j = w.2.1
        · rw [g, ezp_up_s]
          exact ⟨by decide, by decide⟩
        · rw [ev j (by omega)]
          exact p6 j j0 (by omega)
    rw [if_neg h3] at hz ⊢
    by_cases h4 : x.1.1 = 0 ∧ ezp_K c x.1.2 = 240
    · rw [if_pos h4] at hz ⊢
      obtain ⟨w, hw⟩ : ∃ w, w = ezp_rk c (ezp_pt c m) 4 (ezp_t x.1, x.2) := ⟨_, rfl⟩
      rw [← hw] at hz ⊢
      have hz : (ezp_cl c w.1).1 = 0 := hz
      have hc : w.1.1 = 0 ∧ ezp_K c w.1.2 = 241 := by
        unfold ezp_cl at hz
        by_cases g : w.1.1 = 0 ∧ ezp_K c w.1.2 = 241
        · exact g
        · rw [if_neg g] at hz
          exact absurd hz (ezp_wr_f (by decide) (hP _))
      have H := ezv_X_t h4.1 (by omega) (ezv_rk ih 4 _ (show (ezp_rk c (ezp_pt c m) 4 (ezp_t x.1, x.2)).1.1 = 0 by rw [← hw]; exact hc.1))
      rw [← hw] at H
      obtain ⟨p1, p2, p3, p4, p5, p6⟩ := H
      have e3 : ezp_cl c w.1 = ezp_t w.1 := by
        unfold ezp_cl
        exact if_pos hc
      have e2 : (ezp_t w.1).2 = w.1.2 + 1 := by
        unfold ezp_t
        rw [if_pos hc.1]
      rw [e3]
      refine ⟨p1, ezv_G_m p2 (by omega), ?_, ?_, fun j j0 j1 => ?_, p6⟩
      · show w.2.1 + x.1.2 ≤ x.2.1 + (ezp_t w.1).2
        omega
      · show x.1.2 ≤ (ezp_t w.1).2
        omega
      · have j1 : j < (ezp_t w.1).2 := j1
        by_cases g : j = w.1.2
        · rw [g]
          omega
        · exact p5 j j0 (by omega)
    · rw [if_neg h4] at hz
      exact absurd hz (ezp_wr_f (by decide) (hP _))
/-- the law that is told from here on -/
def ezv_lx (c : Int → Int) (s : Int × Int) : ezp_X := ezp_rk c (ezp_pt c 5) 4 (s, (0, fun _ => 0))
/-- a law as it is kept: how many, and what -/
def ezv_L (y : Int × (Int → Int)) : Prop := 0 ≤ y.1 ∧ y.1 ≤ 1000 ∧ ezv_G y.2 24 0 y.1 ∧ ∀ j, 0 ≤ j → j < y.1 → -12 ≤ y.2 j ∧ y.2 j ≤ 9999
theorem ezv_lx_ok {n : Int} (tp : ezp_tp c n) {s : Int × Int} (h0 : 0 ≤ s.2) (hz : (ezv_lx c s).1.1 = 0) : ezv_L (ezv_lx c s).2 := by
  obtain ⟨-, p2, p3, p4, p5, p6⟩ := ezv_rk (ezv_pt tp 5) 4 (s, (0, fun _ => 0)) hz
  have p3 : (ezv_lx c s).2.1 + s.2 ≤ 0 + (ezv_lx c s).1.2 := p3
  have p4 : s.2 ≤ (ezv_lx c s).1.2 := p4
  have p5 : ∀ j, s.2 ≤ j → j < (ezv_lx c s).1.2 → ezp_K c j ≠ 102 := p5
  have hp := ezv_Pj tp h0 ((ezv_lx c s).1.2 - s.2).toNat (fun j j0 j1 => p5 j j0 (by omega))
  have h1 := ezp_Pr tp s.2
  have h2 := ezp_Pr tp (s.2 + (((ezv_lx c s).1.2 - s.2).toNat : Nat))
  have h3 := tp.2.1
  have p2 : ezv_G (ezv_lx c s).2.2 24 0 (ezv_lx c s).2.1 := p2
  exact ⟨p2.1, by omega, p2, p6⟩
end
/-- what a law comes to -/
def ezv_val (fc : Int → Int) (y : Int × (Int → Int)) : Int := match ezv_rn fc y.2 y.1.toNat 0 [] with
  | none => 0
  | some l => match l with
    | [] => 0
    | v :: _ => v
theorem ezv_val_v {fc : Int → Int} {y : Int × (Int → Int)} (h : ezv_L y) : ezv_rn fc y.2 y.1.toNat 0 [] = some [ezv_val fc y] := by
  obtain ⟨v, hv⟩ := h.2.2.1.2 fc [] (by decide)
  rw [Int.sub_zero] at hv
  unfold ezv_val
  rw [hv]
/-- how far it has come: behind i steps lies l -/
theorem ezv_rn_i {fc : Int → Int} {f : Int → Int} : ∀ (m : Nat) (i : Int) (l r : List Int), ezv_rn fc f (m + 1) i l = some r → ∃ q, ezv_st fc (f i) l = some q ∧ ezv_rn fc f m (i + 1) q = some r := by
  intro m i l r h
  cases hs : ezv_st fc (f i) l with
  | none =>
    have h : (match ezv_st fc (f i) l with
      | none => none
      | some r => ezv_rn fc f m (i + 1) r) = some r := h
    rw [hs] at h
    cases h
  | some q =>
    rw [ezv_rn_s hs] at h
    exact ⟨q, rfl, h⟩
/-- a pile that lies in a row -/
def ezv_P (l : List Int) (a : Int → Int) : Prop := match l with
  | [] => True
  | v :: r => a (r.length : Int) = v ∧ ezv_P r a
theorem ezv_P_fr : ∀ {l : List Int} {a b : Int → Int}, ezv_P l a → (∀ j, 0 ≤ j → j < (l.length : Int) → b j = a j) → ezv_P l b := by
  intro l
  induction l with
  | nil => intro a b _ _; exact True.intro
  | cons v r ih =>
    intro a b h hb
    have hl : ((v :: r).length : Int) = (r.length : Int) + 1 := by simp
    exact ⟨(hb _ (by omega) (by omega)).trans h.1, ih h.2 (fun j j0 j1 => hb j j0 (by omega))⟩
/-- a chance, of ten -/
def ezv_cl (v : Int) : Int := if v < 0 then 0 else if 10 < v then 10 else v
/-- the facts -/
def ezv_fc (ti th aw fo : Int) : Int → Int := fun k => if k = 0 then ti else if k = 1 then th else if k = 2 then aw else fo
def ezv_run0 (ti aw : Int) : Int := if aw = 0 then 10 - ti else if aw = 1 then 3 - ti else 0
def ezv_tear0 (ti fo : Int) : Int := ti + 2 * fo
/-- a law told or not: (1, it) or (0, _) -/
def ezv_run (R : Int × (Int × (Int → Int))) (ti th aw fo : Int) : Int := ezv_cl (if R.1 = 1 then ezv_val (ezv_fc ti th aw fo) R.2 else ezv_run0 ti aw)
def ezv_tear (R : Int × (Int × (Int → Int))) (ti th aw fo : Int) : Int := ezv_cl (if R.1 = 1 then ezv_val (ezv_fc ti th aw fo) R.2 else ezv_tear0 ti fo)
theorem ezv_cl_r (v : Int) : 0 ≤ ezv_cl v ∧ ezv_cl v ≤ 10 := by
  unfold ezv_cl
  repeat' split
  all_goals omega
theorem ezv_st_p {fc : Int → Int} {e : Int} {l r : List Int} (h : ezv_st fc e l = some r) (he : 0 ≤ e) : r = e :: l ∧ l.length < 32 := by
  unfold ezv_st at h
  rw [if_pos he] at h
  split at h
  · injection h with h
    exact ⟨h.symm, by assumption⟩
  · cases h
theorem ezv_st_f {fc : Int → Int} {e : Int} {l r : List Int} (h : ezv_st fc e l = some r) (h0 : e < 0) (he : -4 ≤ e) : r = fc (-1 - e) :: l ∧ l.length < 32 := by
  unfold ezv_st at h
  rw [if_neg (by omega), if_pos he] at h
  split at h
  · injection h with h
    exact ⟨h.symm, by assumption⟩
  · cases h
theorem ezv_st_n {fc : Int → Int} {e : Int} {l r : List Int} (h : ezv_st fc e l = some r) (he : e = -5) : ∃ a q, l = a :: q ∧ r = (if a = 0 then 1 else 0) :: q := by
  unfold ezv_st at h
  rw [if_neg (by omega), if_neg (by omega), if_pos he] at h
  cases l with
  | nil => cases h
  | cons a q =>
    injection h with h
    exact ⟨a, q, rfl, h.symm⟩
theorem ezv_st_b {fc : Int → Int} {e : Int} {l r : List Int} (h : ezv_st fc e l = some r) (he : e ≤ -6) : ∃ b a q, l = b :: a :: q ∧ r = ezv_bin e a b :: q := by
  unfold ezv_st at h
  rw [if_neg (by omega), if_neg (by omega), if_neg (by omega)] at h
  cases l with
  | nil => cases h
  | cons b q =>
    cases q with
    | nil => cases h
    | cons a q =>
      injection h with h
      exact ⟨b, a, q, rfl, h.symm⟩
theorem ezv_st_len {fc : Int → Int} {e : Int} {l r : List Int} (h : ezv_st fc e l = some r) (hl : l.length ≤ 32) : r.length ≤ 32 := by
  by_cases h0 : 0 ≤ e
  · obtain ⟨h1, h2⟩ := ezv_st_p h h0
    rw [h1]
    show l.length + 1 ≤ 32
    omega
  · by_cases h4 : -4 ≤ e
    · obtain ⟨h1, h2⟩ := ezv_st_f h (by omega) h4
      rw [h1]
      show l.length + 1 ≤ 32
      omega
    · by_cases h5 : e = -5
      · obtain ⟨a, q, h1, h2⟩ := ezv_st_n h h5
        rw [h2]
        rw [h1] at hl
        exact hl
      · obtain ⟨b, a, q, h1, h2⟩ := ezv_st_b h (by omega)
        rw [h2]
        rw [h1] at hl
        have hl : q.length + 1 + 1 ≤ 32 := hl
        show q.length + 1 ≤ 32
        omega
/-! rows that hold 32 bits -/
section KTV
variable {l : Launch} {ρ : ezq_E} {B : Nat} {xa : Nat → Option Nat} {Hb : Heap} {D : va_G} {cA : Nat → ClassId} {d : Nat}
variable {r : ezq_R} {P : Option ezq_V → (Nat → ezq_C) → Prop} {pc : Nat} {ls : List (Option ezq_V)} {st : List ezq_V} {g : Nat → ezq_C}
theorem ezv_iadd {i j : Int} {a b c x y : Nat} (he : ezw_at r pc = some (.iadd, 1, (a, b, c, x, y))) (h : ezw_E l ρ B xa Hb D cA d r P (pc + 1) ls (ezw_i (ezv_w (i + j)) :: st) g) : ezw_E l ρ B xa Hb D cA d r P pc ls (ezw_i j :: ezw_i i :: st) g := ezw_iadd he rfl (by
  have e := ezv_wi (i + j)
  rw [e] at h
  exact h)
theorem ezv_isub {i j : Int} {a b c x y : Nat} (he : ezw_at r pc = some (.isub, 1, (a, b, c, x, y))) (h : ezw_E l ρ B xa Hb D cA d r P (pc + 1) ls (ezw_i (ezv_w (i - j)) :: st) g) : ezw_E l ρ B xa Hb D cA d r P pc ls (ezw_i j :: ezw_i i :: st) g := ezw_isub he rfl (by
  have e := ezv_wi (i - j)
  rw [e] at h
  exact h)
theorem ezv_imul {i j : Int} {a b c x y : Nat} (he : ezw_at r pc = some (.imul, 1, (a, b, c, x, y))) (h : ezw_E l ρ B xa Hb D cA d r P (pc + 1) ls (ezw_i (ezv_w (i * j)) :: st) g) : ezw_E l ρ B xa Hb D cA d r P pc ls (ezw_i j :: ezw_i i :: st) g := ezw_imul he rfl (by
  have e := ezv_wi (i * j)
  rw [e] at h
  exact h)
end KTV
