/-! ===== bits ===== -/
def ezt_b (v j : Int) : Int := v / 2 ^ j.toNat % 2
theorem ezt_and1 (x : Int) : ezw_and x 1 = x % 2 := by
  unfold ezw_and
  have h1 : ezw_z 1 = 1 := by decide
  rw [h1, Nat.and_one_is_mod]
  unfold ezw_z
  omega
theorem ezt_b_N (a b : Nat) : ezt_b (a : Int) (b : Int) = if a.testBit b = true then 1 else 0 := by
  unfold ezt_b
  rw [Int.toNat_natCast, Nat.testBit_eq_decide_div_mod_eq]
  have h1 : ((a : Int) / 2 ^ b % 2 : Int) = ((a / 2 ^ b % 2 : Nat) : Int) := by
    rw [Int.natCast_emod, Int.natCast_ediv, Int.natCast_pow]
    rfl
  rw [h1]
  have h2 : a / 2 ^ b % 2 < 2 := Nat.mod_lt _ (by decide)
  by_cases h3 : a / 2 ^ b % 2 = 1
  · rw [h3]
    rfl
  · rw [if_neg (fun z => h3 (of_decide_eq_true z))]
    omega
theorem ezt_or1 {v j : Int} (m : Nat) (hm : m ≤ 31) (h0 : 0 ≤ v) (h1 : v < 2 ^ m) (j0 : 0 ≤ j) (j1 : j < m) : 0 ≤ ezw_or v (1 * 2 ^ j.toNat) ∧ ezw_or v (1 * 2 ^ j.toNat) < 2 ^ m ∧ ∀ i, 0 ≤ i → ezt_b (ezw_or v (1 * 2 ^ j.toNat)) i = if i = j then 1 else ezt_b v i := by
  obtain ⟨a, rfl⟩ : ∃ a : Nat, v = (a : Int) := ⟨v.toNat, by omega⟩
  obtain ⟨b, rfl⟩ : ∃ b : Nat, j = (b : Int) := ⟨j.toNat, by omega⟩
  have hb : b < m := by omega
  have ha : a < 2 ^ m := by
    have : ((a : Nat) : Int) < ((2 ^ m : Nat) : Int) := by rw [Int.natCast_pow]; exact h1
    omega
  have hp : (2 ^ m : Nat) ≤ 2 ^ 31 := Nat.pow_le_pow_right (by decide) hm
  have hq : (2 ^ b : Nat) < 2 ^ m := Nat.pow_lt_pow_right (by decide) hb
  have e1 : (1 * 2 ^ (b : Int).toNat : Int) = ((2 ^ b : Nat) : Int) := by
    rw [Int.toNat_natCast, Int.natCast_pow, Int.one_mul]
    rfl
  have e2 : ezw_or (a : Int) (1 * 2 ^ (b : Int).toNat) = ((a ||| 2 ^ b : Nat) : Int) := by
    rw [e1]
    unfold ezw_or
    rw [ezw_zN (by omega), ezw_zN (by omega)]
  rw [e2]
  refine ⟨by omega, ?_, fun i i0 => ?_⟩
  · have h3 := Nat.or_lt_two_pow ha hq
    have h4 : (((a ||| 2 ^ b : Nat)) : Int) < ((2 ^ m : Nat) : Int) := by omega
    rw [Int.natCast_pow] at h4
    exact h4
  · obtain ⟨k, rfl⟩ : ∃ k : Nat, i = (k : Int) := ⟨i.toNat, by omega⟩
    rw [ezt_b_N, ezt_b_N, Nat.testBit_or, Nat.testBit_two_pow]
    by_cases h5 : b = k
    · subst h5
      rw [if_pos rfl]
      simp
    · rw [if_neg (show ¬ (k : Int) = (b : Int) by omega)]
      rw [decide_eq_false h5, Bool.or_false]
theorem ezt_b0 (i : Int) : ezt_b 0 i = 0 := by
  unfold ezt_b
  rw [Int.zero_ediv]
  rfl
/-! ===== a reader that has found a fault stands still ===== -/
theorem ezp_w_n {c : Int → Int} {w : Int} {s : Int × Int} (e : s.1 ≠ 0) : ezp_w c w s = s := by
  unfold ezp_w
  rw [if_neg (fun z => e z.1), ezp_wr_n e]
theorem ezp_tk_n {c : Int → Int} {w : Int} {s : Int × Int} (e : s.1 ≠ 0) : ezp_tk c w s = s := by
  unfold ezp_tk
  rw [if_neg (fun z => e z.1)]
theorem ezp_sn_n {c : Int → Int} {a b : Int} {s : Int × Int} (e : s.1 ≠ 0) : ezp_sn c a b s = s := by
  unfold ezp_sn
  rw [if_neg (fun z => e z.1), ezp_wr_n e]
theorem ezp_n_n {c : Int → Int} {a b : Int} {s : Int × Int} (e : s.1 ≠ 0) : ezp_n c a b s = s := by
  unfold ezp_n
  rw [ezp_sn_n e, ezp_t_n e]
theorem ezp_o_n {c : Int → Int} {a b : Int} {s : Int × Int} (e : s.1 ≠ 0) : ezp_o c a b s = s := by
  unfold ezp_o
  rw [if_neg (fun z => e z.1), ezp_wr_n e]
theorem ezp_se_n {c : Int → Int} {nm : Int → List Int} {k : Int} {s : Int × Int} (e : s.1 ≠ 0) : ezp_se c nm k s = s := by
  unfold ezp_se
  rw [if_neg (fun z => e z.1), ezp_wr_n e]
theorem ezp_ta_n {c : Int → Int} {nm : Int → List Int} {k : Int} {s : Int × Int} (e : s.1 ≠ 0) : ezp_ta c nm k s = s := by
  unfold ezp_ta
  rw [ezp_se_n e, ezp_t_n e]
theorem ezp_0w {c : Int → Int} {w : Int} {s : Int × Int} (h : (ezp_w c w s).1 = 0) : s.1 = 0 := by
  by_cases e : s.1 = 0
  · exact e
  · rw [ezp_w_n e] at h; exact h
theorem ezp_0tk {c : Int → Int} {w : Int} {s : Int × Int} (h : (ezp_tk c w s).1 = 0) : s.1 = 0 := by
  by_cases e : s.1 = 0
  · exact e
  · rw [ezp_tk_n e] at h; exact h
theorem ezp_0n {c : Int → Int} {a b : Int} {s : Int × Int} (h : (ezp_n c a b s).1 = 0) : s.1 = 0 := by
  by_cases e : s.1 = 0
  · exact e
  · rw [ezp_n_n e] at h; exact h
theorem ezp_0sn {c : Int → Int} {a b : Int} {s : Int × Int} (h : (ezp_sn c a b s).1 = 0) : s.1 = 0 := by
  by_cases e : s.1 = 0
  · exact e
  · rw [ezp_sn_n e] at h; exact h
theorem ezp_0o {c : Int → Int} {a b : Int} {s : Int × Int} (h : (ezp_o c a b s).1 = 0) : s.1 = 0 := by
  by_cases e : s.1 = 0
  · exact e
  · rw [ezp_o_n e] at h; exact h
theorem ezp_0se {c : Int → Int} {nm : Int → List Int} {k : Int} {s : Int × Int} (h : (ezp_se c nm k s).1 = 0) : s.1 = 0 := by
  by_cases e : s.1 = 0
  · exact e
  · rw [ezp_se_n e] at h; exact h
theorem ezp_0ta {c : Int → Int} {nm : Int → List Int} {k : Int} {s : Int × Int} (h : (ezp_ta c nm k s).1 = 0) : s.1 = 0 := by
  by_cases e : s.1 = 0
  · exact e
  · rw [ezp_ta_n e] at h; exact h
/-! ===== a TREE, while it is read ===== -/
/-- a row, changed at a place -/
def ezp_up {α : Type} (f : Int → α) (i : Int) (v : α) : Int → α := fun j => if j = i then v else f j
theorem ezp_up_s {α : Type} (f : Int → α) (i : Int) (v : α) : ezp_up f i v i = v := if_pos rfl
theorem ezp_up_o {α : Type} (f : Int → α) {i j : Int} (v : α) (h : j ≠ i) : ezp_up f i v j = f j := if_neg h
def ezp_D : Type := Int × Int × Int × Int × (Int → List Int) × (Int → List Int) × (Int → Int) × (Int → Int) × (Int → Int) × (Int → Int) × (Int → Int) × (Int → Int) × (Int → Int) × (Int → Int) × (Int → Int → Int) × (Int → Int → Int) × (Int → Int) × (Int → Int)
def ezp_D.kT (t : ezp_D) : Int := t.1
def ezp_D.kH (t : ezp_D) : Int := t.2.1
def ezp_D.kS (t : ezp_D) : Int := t.2.2.1
def ezp_D.kE (t : ezp_D) : Int := t.2.2.2.1
def ezp_D.nT (t : ezp_D) : Int → List Int := t.2.2.2.2.1
def ezp_D.nH (t : ezp_D) : Int → List Int := t.2.2.2.2.2.1
def ezp_D.hi (t : ezp_D) : Int → Int := t.2.2.2.2.2.2.1
def ezp_D.th (t : ezp_D) : Int → Int := t.2.2.2.2.2.2.2.1
def ezp_D.si (t : ezp_D) : Int → Int := t.2.2.2.2.2.2.2.2.1
def ezp_D.on (t : ezp_D) : Int → Int := t.2.2.2.2.2.2.2.2.2.1
def ezp_D.wo (t : ezp_D) : Int → Int := t.2.2.2.2.2.2.2.2.2.2.1
def ezp_D.st (t : ezp_D) : Int → Int := t.2.2.2.2.2.2.2.2.2.2.2.1
def ezp_D.fr (t : ezp_D) : Int → Int := t.2.2.2.2.2.2.2.2.2.2.2.2.1
def ezp_D.sg (t : ezp_D) : Int → Int := t.2.2.2.2.2.2.2.2.2.2.2.2.2.1
def ezp_D.ah (t : ezp_D) : Int → Int → Int := t.2.2.2.2.2.2.2.2.2.2.2.2.2.2.1
def ezp_D.el (t : ezp_D) : Int → Int → Int := t.2.2.2.2.2.2.2.2.2.2.2.2.2.2.2.1
def ezp_D.nu (t : ezp_D) : Int → Int := t.2.2.2.2.2.2.2.2.2.2.2.2.2.2.2.2.1
def ezp_D.di (t : ezp_D) : Int → Int := t.2.2.2.2.2.2.2.2.2.2.2.2.2.2.2.2.2
def ezp_D.twig (t : ezp_D) (l : List Int) (a b c o : Int) : ezp_D := (t.kT + 1, t.kH, t.kS, t.kE, ezp_up t.nT t.kT l, t.nH, ezp_up t.hi t.kT a, ezp_up t.th t.kT b, ezp_up t.si t.kT c, ezp_up t.on t.kT o, t.wo, t.st, t.fr, t.sg, t.ah, t.el, t.nu, t.di)
def ezp_D.thing (t : ezp_D) (l : List Int) (a b c : Int) : ezp_D := (t.kT, t.kH + 1, t.kS, t.kE, t.nT, ezp_up t.nH t.kH l, t.hi, t.th, t.si, t.on, ezp_up t.wo t.kH a, ezp_up t.st t.kH b, ezp_up t.fr t.kH c, t.sg, ezp_up t.ah t.kH (fun _ => 0), t.el, t.nu, t.di)
def ezp_D.strg (t : ezp_D) (w : Int) : ezp_D := (t.kT, t.kH, t.kS + 1, t.kE, t.nT, t.nH, t.hi, t.th, t.si, t.on, t.wo, t.st, t.fr, ezp_up t.sg t.kS w, t.ah, t.el, t.nu, t.di)
def ezp_D.over (t : ezp_D) (a b : Int) : ezp_D := (t.kT, t.kH, t.kS, t.kE, t.nT, t.nH, t.hi, t.th, t.si, t.on, t.wo, t.st, t.fr, t.sg, ezp_up t.ah b (ezp_up (t.ah b) a 1), t.el, t.nu, t.di)
def ezp_D.elm (t : ezp_D) (x y : Int) : ezp_D := (t.kT, t.kH, t.kS, t.kE + 1, t.nT, t.nH, t.hi, t.th, t.si, t.on, t.wo, t.st, t.fr, t.sg, t.ah, ezp_up t.el x (ezp_up (t.el x) y 1), t.nu, t.di)
def ezp_D.say (t : ezp_D) (k v : Int) : ezp_D := (t.kT, t.kH, t.kS, t.kE, t.nT, t.nH, t.hi, t.th, t.si, t.on, t.wo, t.st, t.fr, t.sg, t.ah, t.el, ezp_up t.nu k v, t.di)
def ezp_D.once (t : ezp_D) (w : Int) : ezp_D := (t.kT, t.kH, t.kS, t.kE, t.nT, t.nH, t.hi, t.th, t.si, t.on, t.wo, t.st, t.fr, t.sg, t.ah, t.el, t.nu, ezp_up t.di w 1)
/-- the class's tree at q, but for its numbers -/
def ezt_TR (q : Nat) (t : ezp_D) (F : Nat → Nat → Int) (A : Nat → Int → Int) : Prop :=
  (F q 15 = t.kT ∧ F q 16 = t.kH ∧ F q 17 = t.kS ∧ F (q + 8) 1 = t.kE) ∧ (0 ≤ t.kT ∧ t.kT ≤ 8 ∧ 0 ≤ t.kH ∧ t.kH ≤ 4 ∧ 0 ≤ t.kS ∧ t.kS ≤ 6 ∧ 0 ≤ t.kE ∧ t.kE ≤ 8) ∧
  (∀ i, 0 ≤ i → i < t.kT → (ezp_ok (t.nT i) ∧ A (q + 10) i = ezp_v 32 (t.nT i)) ∧ A (q + 1) i = t.hi i ∧ A (q + 2) i = t.th i ∧ A (q + 3) i = t.si i ∧ A (q + 4) i = t.on i) ∧
  (∀ i, 0 ≤ i → i < t.kH → (ezp_ok (t.nH i) ∧ A (q + 11) i = ezp_v 32 (t.nH i)) ∧ A (q + 5) i = t.wo i ∧ A (q + 6) i = t.st i ∧ A (q + 7) i = t.fr i ∧ (0 ≤ A (q + 12) i ∧ A (q + 12) i < 16) ∧ ∀ j, 0 ≤ j → j < 4 → ezt_b (A (q + 12) i) j = t.ah i j) ∧
  (∀ i, 0 ≤ i → i < t.kS → A (q + 13) i = t.sg i) ∧
  (∀ x, 0 ≤ x → x < 16 → (0 ≤ A (q + 9) x ∧ A (q + 9) x < 65536) ∧ ∀ y, 0 ≤ y → y < 16 → ezt_b (A (q + 9) x) y = t.el x y)
def ezt_NU (q : Nat) (t : ezp_D) (A : Nat → Int → Int) : Prop := ∀ i, 0 ≤ i → i < 11 → A (q + 14) i = t.nu i
def ezt_DI (t : ezp_D) (F : Nat → Nat → Int) : Prop := (0 ≤ F 4 2 ∧ F 4 2 < 8388608) ∧ ∀ w, 0 ≤ w → w < 23 → ezt_b (F 4 2) w = t.di w
theorem ezt_TR_fr {q : Nat} {t : ezp_D} {F F' : Nat → Nat → Int} {A A' : Nat → Int → Int} (h : ezt_TR q t F A) (e1 : F' q 15 = F q 15) (e2 : F' q 16 = F q 16) (e3 : F' q 17 = F q 17) (e4 : F' (q + 8) 1 = F (q + 8) 1) (e5 : ∀ k, 1 ≤ k → k ≤ 13 → A' (q + k) = A (q + k)) : ezt_TR q t F' A' := by
  unfold ezt_TR
  rw [e1, e2, e3, e4, e5 1 (by decide) (by decide), e5 2 (by decide) (by decide), e5 3 (by decide) (by decide), e5 4 (by decide) (by decide), e5 5 (by decide) (by decide), e5 6 (by decide) (by decide), e5 7 (by decide) (by decide), e5 9 (by decide) (by decide), e5 10 (by decide) (by decide), e5 11 (by decide) (by decide), e5 12 (by decide) (by decide), e5 13 (by decide) (by decide)]
  exact h
theorem ezt_TR_nt {q : Nat} {t : ezp_D} {F : Nat → Nat → Int} {A : Nat → Int → Int} (h : ezt_TR q t F A) : ezt_NM q 15 (q + 10) t.nT F A := by
  obtain ⟨⟨a1, a2, a3, a4⟩, ⟨b1, b2, b3, b4, b5, b6, b7, b8⟩, h3, h4, h5, h6⟩ := h
  exact ⟨by omega, fun i i0 i1 => (h3 i i0 (by omega)).1⟩
theorem ezt_TR_nh {q : Nat} {t : ezp_D} {F : Nat → Nat → Int} {A : Nat → Int → Int} (h : ezt_TR q t F A) : ezt_NM q 16 (q + 11) t.nH F A := by
  obtain ⟨⟨a1, a2, a3, a4⟩, ⟨b1, b2, b3, b4, b5, b6, b7, b8⟩, h3, h4, h5, h6⟩ := h
  exact ⟨by omega, fun i i0 i1 => (h4 i i0 (by omega)).1⟩
theorem ezt_TR_tw {q : Nat} {t : ezp_D} {F : Nat → Nat → Int} {A : Nat → Int → Int} (h : ezt_TR q t F A) : F q 15 ≤ 8 ∧ F q 16 ≤ 4 := by
  obtain ⟨⟨a1, a2, a3, a4⟩, ⟨b1, b2, b3, b4, b5, b6, b7, b8⟩, h3, h4, h5, h6⟩ := h
  omega
/-- a row, one more -/
theorem ezp_up_r {α : Type} {R : Int → α → Prop} {f : Int → α} {k : Int} {v : α} (h : ∀ i, 0 ≤ i → i < k → R i (f i)) (hv : R k v) : ∀ i, 0 ≤ i → i < k + 1 → R i (ezp_up f k v i) := by
  intro i i0 i1
  by_cases e : i = k
  · subst e
    rw [ezp_up_s]
    exact hv
  · rw [ezp_up_o _ _ e]
    exact h i i0 (by omega)
theorem ezt_TR_twig {q : Nat} {t : ezp_D} {F F' : Nat → Nat → Int} {A A' : Nat → Int → Int} {l : List Int} {a b c o : Int} (h : ezt_TR q t F A) (hk : t.kT < 8) (hl : ezp_ok l)
    (e1 : F' q 15 = F q 15 + 1) (e2 : F' q 16 = F q 16) (e3 : F' q 17 = F q 17) (e4 : F' (q + 8) 1 = F (q + 8) 1)
    (f5 : ∀ k, 5 ≤ k → k ≤ 9 → A' (q + k) = A (q + k)) (f6 : ∀ k, 11 ≤ k → k ≤ 13 → A' (q + k) = A (q + k))
    (m : A' (q + 10) (F q 15) = ezp_v 32 l ∧ A' (q + 1) (F q 15) = a ∧ A' (q + 2) (F q 15) = b ∧ A' (q + 3) (F q 15) = c ∧ A' (q + 4) (F q 15) = o)
    (n : ∀ j, j ≠ F q 15 → A' (q + 10) j = A (q + 10) j ∧ A' (q + 1) j = A (q + 1) j ∧ A' (q + 2) j = A (q + 2) j ∧ A' (q + 3) j = A (q + 3) j ∧ A' (q + 4) j = A (q + 4) j) : ezt_TR q (t.twig l a b c o) F' A' := by
  obtain ⟨⟨a1, a2, a3, a4⟩, ⟨b1, b2, b3, b4, b5, b6, b7, b8⟩, h3, h4, h5, h6⟩ := h
  rw [a1] at m n
  refine ⟨⟨?_, ?_, ?_, ?_⟩, ⟨?_, ?_, b3, b4, b5, b6, b7, b8⟩, ?_, ?_, ?_, ?_⟩
  · show F' q 15 = t.kT + 1
    omega
  · show F' q 16 = t.kH
    omega
  · show F' q 17 = t.kS
    omega
  · show F' (q + 8) 1 = t.kE
    omega
  · show 0 ≤ t.kT + 1
    omega
  · show t.kT + 1 ≤ 8
    omega
  · intro i i0 i1
    have i1 : i < t.kT + 1 := i1
    show (ezp_ok (ezp_up t.nT t.kT l i) ∧ A' (q + 10) i = ezp_v 32 (ezp_up t.nT t.kT l i)) ∧ A' (q + 1) i = ezp_up t.hi t.kT a i ∧ A' (q + 2) i = ezp_up t.th t.kT b i ∧ A' (q + 3) i = ezp_up t.si t.kT c i ∧ A' (q + 4) i = ezp_up t.on t.kT o i
    by_cases e : i = t.kT
    · subst e
      rw [ezp_up_s, ezp_up_s, ezp_up_s, ezp_up_s, ezp_up_s]
      exact ⟨⟨hl, m.1⟩, m.2⟩
    · rw [ezp_up_o _ _ e, ezp_up_o _ _ e, ezp_up_o _ _ e, ezp_up_o _ _ e, ezp_up_o _ _ e]
      have g := n i e
      have g2 := h3 i i0 (by omega)
      rw [g.1, g.2.1, g.2.2.1, g.2.2.2.1, g.2.2.2.2]
      exact g2
  · rw [f6 11 (by decide) (by decide), f6 12 (by decide) (by decide), f5 5 (by decide) (by decide), f5 6 (by decide) (by decide), f5 7 (by decide) (by decide)]
    exact h4
  · rw [f6 13 (by decide) (by decide)]
    exact h5
  · rw [f5 9 (by decide) (by decide)]
    exact h6
theorem ezt_TR_thing {q : Nat} {t : ezp_D} {F F' : Nat → Nat → Int} {A A' : Nat → Int → Int} {l : List Int} {a b c : Int} (h : ezt_TR q t F A) (hk : t.kH < 4) (hl : ezp_ok l)
    (e1 : F' q 15 = F q 15) (e2 : F' q 16 = F q 16 + 1) (e3 : F' q 17 = F q 17) (e4 : F' (q + 8) 1 = F (q + 8) 1)
    (f5 : ∀ k, 1 ≤ k → k ≤ 4 → A' (q + k) = A (q + k)) (f6 : ∀ k, 8 ≤ k → k ≤ 10 → A' (q + k) = A (q + k)) (f7 : A' (q + 13) = A (q + 13))
    (m : A' (q + 11) (F q 16) = ezp_v 32 l ∧ A' (q + 5) (F q 16) = a ∧ A' (q + 6) (F q 16) = b ∧ A' (q + 7) (F q 16) = c ∧ A' (q + 12) (F q 16) = 0)
    (n : ∀ j, j ≠ F q 16 → A' (q + 11) j = A (q + 11) j ∧ A' (q + 5) j = A (q + 5) j ∧ A' (q + 6) j = A (q + 6) j ∧ A' (q + 7) j = A (q + 7) j ∧ A' (q + 12) j = A (q + 12) j) : ezt_TR q (t.thing l a b c) F' A' := by
  obtain ⟨⟨a1, a2, a3, a4⟩, ⟨b1, b2, b3, b4, b5, b6, b7, b8⟩, h3, h4, h5, h6⟩ := h
  rw [a2] at m n
  refine ⟨⟨?_, ?_, ?_, ?_⟩, ⟨b1, b2, ?_, ?_, b5, b6, b7, b8⟩, ?_, ?_, ?_, ?_⟩
  · show F' q 15 = t.kT
    omega
  · show F' q 16 = t.kH + 1
    omega
  · show F' q 17 = t.kS
    omega
  · show F' (q + 8) 1 = t.kE
    omega
  · show 0 ≤ t.kH + 1
    omega
  · show t.kH + 1 ≤ 4
    omega
  · rw [f6 10 (by decide) (by decide), f5 1 (by decide) (by decide), f5 2 (by decide) (by decide), f5 3 (by decide) (by decide), f5 4 (by decide) (by decide)]
    exact h3
  · intro i i0 i1
    have i1 : i < t.kH + 1 := i1
    show (ezp_ok (ezp_up t.nH t.kH l i) ∧ A' (q + 11) i = ezp_v 32 (ezp_up t.nH t.kH l i)) ∧ A' (q + 5) i = ezp_up t.wo t.kH a i ∧ A' (q + 6) i = ezp_up t.st t.kH b i ∧ A' (q + 7) i = ezp_up t.fr t.kH c i ∧ (0 ≤ A' (q + 12) i ∧ A' (q + 12) i < 16) ∧ ∀ j, 0 ≤ j → j < 4 → ezt_b (A' (q + 12) i) j = ezp_up t.ah t.kH (fun _ => 0) i j
    by_cases e : i = t.kH
    · subst e
      rw [ezp_up_s, ezp_up_s, ezp_up_s, ezp_up_s, ezp_up_s, m.2.2.2.2]
      exact ⟨⟨hl, m.1⟩, m.2.1, m.2.2.1, m.2.2.2.1, ⟨by decide, by decide⟩, fun j _ _ => ezt_b0 j⟩
    · rw [ezp_up_o _ _ e, ezp_up_o _ _ e, ezp_up_o _ _ e, ezp_up_o _ _ e, ezp_up_o _ _ e]
      have g := n i e
      have g2 := h4 i i0 (by omega)
      rw [g.1, g.2.1, g.2.2.1, g.2.2.2.1, g.2.2.2.2]
      exact g2
  · rw [f7]
    exact h5
  · rw [f6 9 (by decide) (by decide)]
    exact h6
theorem ezt_TR_strg {q : Nat} {t : ezp_D} {F F' : Nat → Nat → Int} {A A' : Nat → Int → Int} {w : Int} (h : ezt_TR q t F A) (hk : t.kS < 6)
    (e1 : F' q 15 = F q 15) (e2 : F' q 16 = F q 16) (e3 : F' q 17 = F q 17 + 1) (e4 : F' (q + 8) 1 = F (q + 8) 1)
    (f5 : ∀ k, 1 ≤ k → k ≤ 12 → A' (q + k) = A (q + k)) (m : A' (q + 13) (F q 17) = w) (n : ∀ j, j ≠ F q 17 → A' (q + 13) j = A (q + 13) j) : ezt_TR q (t.strg w) F' A' := by
  obtain ⟨⟨a1, a2, a3, a4⟩, ⟨b1, b2, b3, b4, b5, b6, b7, b8⟩, h3, h4, h5, h6⟩ := h
  rw [a3] at m n
  refine ⟨⟨?_, ?_, ?_, ?_⟩, ⟨b1, b2, b3, b4, ?_, ?_, b7, b8⟩, ?_, ?_, ?_, ?_⟩
  · show F' q 15 = t.kT
    omega
  · show F' q 16 = t.kH
    omega
  · show F' q 17 = t.kS + 1
    omega
  · show F' (q + 8) 1 = t.kE
    omega
  · show 0 ≤ t.kS + 1
    omega
  · show t.kS + 1 ≤ 6
    omega
  · rw [f5 10 (by decide) (by decide), f5 1 (by decide) (by decide), f5 2 (by decide) (by decide), f5 3 (by decide) (by decide), f5 4 (by decide) (by decide)]
    exact h3
  · rw [f5 11 (by decide) (by decide), f5 12 (by decide) (by decide), f5 5 (by decide) (by decide), f5 6 (by decide) (by decide), f5 7 (by decide) (by decide)]
    exact h4
  · exact ezp_up_r (R := fun i v => A' (q + 13) i = v) (fun i i0 i1 => (n i (by omega)).trans (h5 i i0 i1)) m
  · rw [f5 9 (by decide) (by decide)]
    exact h6
theorem ezt_TR_over {q : Nat} {t : ezp_D} {F F' : Nat → Nat → Int} {A A' : Nat → Int → Int} {a b : Int} (h : ezt_TR q t F A) (a0 : 0 ≤ a) (a1 : a < 4) (g0 : 0 ≤ b) (g1 : b < t.kH)
    (e1 : F' q 15 = F q 15) (e2 : F' q 16 = F q 16) (e3 : F' q 17 = F q 17) (e4 : F' (q + 8) 1 = F (q + 8) 1)
    (f5 : ∀ k, 1 ≤ k → k ≤ 11 → A' (q + k) = A (q + k)) (f6 : A' (q + 13) = A (q + 13)) (m : A' (q + 12) b = ezw_or (A (q + 12) b) (1 * 2 ^ a.toNat)) (n : ∀ j, j ≠ b → A' (q + 12) j = A (q + 12) j) : ezt_TR q (t.over a b) F' A' := by
  obtain ⟨hc, hb, h3, h4, h5, h6⟩ := h
  refine ⟨⟨by rw [e1]; exact hc.1, by rw [e2]; exact hc.2.1, by rw [e3]; exact hc.2.2.1, by rw [e4]; exact hc.2.2.2⟩, hb, ?_, ?_, ?_, ?_⟩
  · rw [f5 10 (by decide) (by decide), f5 1 (by decide) (by decide), f5 2 (by decide) (by decide), f5 3 (by decide) (by decide), f5 4 (by decide) (by decide)]
    exact h3
  · intro i i0 i1
    have g2 := h4 i i0 i1
    rw [f5 11 (by decide) (by decide), f5 5 (by decide) (by decide), f5 6 (by decide) (by decide), f5 7 (by decide) (by decide)]
    refine ⟨g2.1, g2.2.1, g2.2.2.1, g2.2.2.2.1, ?_⟩
    show (0 ≤ A' (q + 12) i ∧ A' (q + 12) i < 16) ∧ ∀ j, 0 ≤ j → j < 4 → ezt_b (A' (q + 12) i) j = ezp_up t.ah b (ezp_up (t.ah b) a 1) i j
    by_cases e : i = b
    · subst e
      have g3 := ezt_or1 4 (by decide) g2.2.2.2.2.1.1 g2.2.2.2.2.1.2 a0 a1
      rw [m, ezp_up_s]
      refine ⟨⟨g3.1, g3.2.1⟩, fun j j0 j1 => ?_⟩
      rw [g3.2.2 j j0]
      by_cases ej : j = a
      · rw [if_pos ej, ej, ezp_up_s]
      · rw [if_neg ej, ezp_up_o _ _ ej]
        exact g2.2.2.2.2.2 j j0 j1
    · rw [n i e, ezp_up_o _ _ e]
      exact g2.2.2.2.2
  · rw [f6]
    exact h5
  · rw [f5 9 (by decide) (by decide)]
    exact h6
theorem ezt_TR_elm {q : Nat} {t : ezp_D} {F F' : Nat → Nat → Int} {A A' : Nat → Int → Int} {a b : Int} (h : ezt_TR q t F A) (hk : t.kE < 8) (a0 : 0 ≤ a) (a1 : a < 16) (g0 : 0 ≤ b) (g1 : b < 16)
    (e1 : F' q 15 = F q 15) (e2 : F' q 16 = F q 16) (e3 : F' q 17 = F q 17) (e4 : F' (q + 8) 1 = F (q + 8) 1 + 1)
    (f5 : ∀ k, 1 ≤ k → k ≤ 8 → A' (q + k) = A (q + k)) (f6 : ∀ k, 10 ≤ k → k ≤ 13 → A' (q + k) = A (q + k)) (m : A' (q + 9) a = ezw_or (A (q + 9) a) (1 * 2 ^ b.toNat)) (n : ∀ j, j ≠ a → A' (q + 9) j = A (q + 9) j) : ezt_TR q (t.elm a b) F' A' := by
  obtain ⟨⟨c1, c2, c3, c4⟩, ⟨b1, b2, b3, b4, b5, b6, b7, b8⟩, h3, h4, h5, h6⟩ := h
  refine ⟨⟨?_, ?_, ?_, ?_⟩, ⟨b1, b2, b3, b4, b5, b6, ?_, ?_⟩, ?_, ?_, ?_, ?_⟩
  · show F' q 15 = t.kT
    omega
  · show F' q 16 = t.kH
    omega
  · show F' q 17 = t.kS
    omega
  · show F' (q + 8) 1 = t.kE + 1
    omega
  · show 0 ≤ t.kE + 1
    omega
  · show t.kE + 1 ≤ 8
    omega
  · rw [f6 10 (by decide) (by decide), f5 1 (by decide) (by decide), f5 2 (by decide) (by decide), f5 3 (by decide) (by decide), f5 4 (by decide) (by decide)]
    exact h3
  · rw [f6 11 (by decide) (by decide), f6 12 (by decide) (by decide), f5 5 (by decide) (by decide), f5 6 (by decide) (by decide), f5 7 (by decide) (by decide)]
    exact h4
  · rw [f6 13 (by decide) (by decide)]
    exact h5
  · intro i i0 i1
    have g2 := h6 i i0 i1
    show (0 ≤ A' (q + 9) i ∧ A' (q + 9) i < 65536) ∧ ∀ j, 0 ≤ j → j < 16 → ezt_b (A' (q + 9) i) j = ezp_up t.el a (ezp_up (t.el a) b 1) i j
    by_cases e : i = a
    · subst e
      have g3 := ezt_or1 16 (by decide) g2.1.1 g2.1.2 g0 g1
      rw [m, ezp_up_s]
      refine ⟨⟨g3.1, g3.2.1⟩, fun j j0 j1 => ?_⟩
      rw [g3.2.2 j j0]
      by_cases ej : j = b
      · rw [if_pos ej, ej, ezp_up_s]
      · rw [if_neg ej, ezp_up_o _ _ ej]
        exact g2.2 j j0 j1
    · rw [n i e, ezp_up_o _ _ e]
      exact g2
/-- is it among the first so many -/
def ezp_hs (f : Int → Int) (w : Int) : Nat → Bool := fun m => match m with
  | 0 => false
  | m + 1 => decide (f (m : Int) = w) || ezp_hs f w m
theorem ezp_hsF {f : Int → Int} {w : Int} {m : Nat} (h : ∀ i, 0 ≤ i → i < (m : Int) → f i ≠ w) : ezp_hs f w m = false := by
  induction m with
  | zero => rfl
  | succ m ih =>
    show (decide (f (m : Int) = w) || ezp_hs f w m) = false
    rw [ih (fun i i0 i1 => h i i0 (by omega)), decide_eq_false (h m (by omega) (by omega))]
    rfl
theorem ezp_hsT {f : Int → Int} {w : Int} {m : Nat} (i : Int) (i0 : 0 ≤ i) (i1 : i < (m : Int)) (h : f i = w) : ezp_hs f w m = true := by
  induction m with
  | zero => omega
  | succ m ih =>
    show (decide (f (m : Int) = w) || ezp_hs f w m) = true
    by_cases e : i = (m : Int)
    · rw [← e, decide_eq_true h]
      rfl
    · rw [ih (by omega), Bool.or_true]
