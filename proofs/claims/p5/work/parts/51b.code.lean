/-! ===== codes that run well ===== -/
def ezm_w (i8 i7 : Int) (r74 r76 r77 : Int → Int) (w : Int) : Int := if i8 = 0 ∧ r74 i7 = 1 ∧ r76 i7 = r77 w then 1 else 0
def ezm_sn (i8 i7 : Int) (r74 r76 : Int → Int) (c : Int) : Int := if i8 = 0 ∧ r74 i7 = 3 ∧ r76 i7 = c then 1 else 0
/-- from p on, with h numbers on the pile, n steps and then an end -/
def ezm_run (o a : Int → Int) : Nat → Int → Int → Prop := fun n => match n with
  | 0 => fun p _ => o p = 0
  | n + 1 => fun p h => ((o p = 1 ∨ o p = 2 ∧ 0 ≤ a p ∧ a p ≤ 3) ∧ ezm_run o a n (p + 1) (h + 1)) ∨ (o p = 3 ∧ 1 ≤ h ∧ ezm_run o a n (p + 1) h) ∨ (4 ≤ o p ∧ o p ≤ 10 ∧ 2 ≤ h ∧ ezm_run o a n (p + 1) (h - 1))
def ezm_seg (o a : Int → Int) : Nat → Int → Int → Int → Prop := fun n => match n with
  | 0 => fun _ h h' => h' = h
  | n + 1 => fun p h h' => ((o p = 1 ∨ o p = 2 ∧ 0 ≤ a p ∧ a p ≤ 3) ∧ ezm_seg o a n (p + 1) (h + 1) h') ∨ (o p = 3 ∧ 1 ≤ h ∧ ezm_seg o a n (p + 1) h h') ∨ (4 ≤ o p ∧ o p ≤ 10 ∧ 2 ≤ h ∧ ezm_seg o a n (p + 1) (h - 1) h')
theorem ezm_cast (n : Nat) (p : Int) : p + ((n + 1 : Nat) : Int) = p + 1 + (n : Int) := by omega
theorem ezm_seg_app {o a : Int → Int} {k : Nat} {m h' : Int} (n : Nat) : ∀ {p h : Int}, ezm_seg o a n p h m → ezm_seg o a k (p + n) m h' → ezm_seg o a (n + k) p h h' := by
  induction n with
  | zero =>
    intro p h h1 h2
    have e1 : m = h := h1
    subst e1
    have e2 : p + ((0 : Nat) : Int) = p := by omega
    rw [e2] at h2
    rw [Nat.zero_add]
    exact h2
  | succ n ih =>
    intro p h h1 h2
    rw [ezm_cast] at h2
    rw [show n + 1 + k = (n + k) + 1 by omega]
    rcases h1 with ⟨c1, s1⟩ | ⟨c1, c2, s1⟩ | ⟨c1, c2, c3, s1⟩
    · exact Or.inl ⟨c1, ih s1 h2⟩
    · exact Or.inr (Or.inl ⟨c1, c2, ih s1 h2⟩)
    · exact Or.inr (Or.inr ⟨c1, c2, c3, ih s1 h2⟩)
theorem ezm_seg_run {o a : Int → Int} {k : Nat} {m : Int} (n : Nat) : ∀ {p h : Int}, ezm_seg o a n p h m → ezm_run o a k (p + n) m → ezm_run o a (n + k) p h := by
  induction n with
  | zero =>
    intro p h h1 h2
    have e1 : m = h := h1
    subst e1
    have e2 : p + ((0 : Nat) : Int) = p := by omega
    rw [e2] at h2
    rw [Nat.zero_add]
    exact h2
  | succ n ih =>
    intro p h h1 h2
    rw [ezm_cast] at h2
    rw [show n + 1 + k = (n + k) + 1 by omega]
    rcases h1 with ⟨c1, s1⟩ | ⟨c1, c2, s1⟩ | ⟨c1, c2, c3, s1⟩
    · exact Or.inl ⟨c1, ih s1 h2⟩
    · exact Or.inr (Or.inl ⟨c1, c2, ih s1 h2⟩)
    · exact Or.inr (Or.inr ⟨c1, c2, c3, ih s1 h2⟩)
theorem ezm_seg_ext {o a o' a' : Int → Int} {h' : Int} (n : Nat) : ∀ {p h : Int}, (∀ j, p ≤ j → j < p + n → o' j = o j ∧ a' j = a j) → ezm_seg o a n p h h' → ezm_seg o' a' n p h h' := by
  induction n with
  | zero =>
    intro p h _ h2
    exact h2
  | succ n ih =>
    intro p h h1 h2
    have e1 := h1 p (by omega) (by omega)
    have e2 : ∀ j, p + 1 ≤ j → j < p + 1 + n → o' j = o j ∧ a' j = a j := fun j h3 h4 => h1 j (by omega) (by omega)
    unfold ezm_seg
    rw [e1.1, e1.2]
    rcases h2 with ⟨c1, s1⟩ | ⟨c1, c2, s1⟩ | ⟨c1, c2, c3, s1⟩
    · exact Or.inl ⟨c1, ih e2 s1⟩
    · exact Or.inr (Or.inl ⟨c1, c2, ih e2 s1⟩)
    · exact Or.inr (Or.inr ⟨c1, c2, c3, ih e2 s1⟩)
theorem ezm_run_sh {o a o' a' : Int → Int} {c : Int} (n : Nat) : ∀ {p h : Int}, (∀ j, p ≤ j → j ≤ p + n → o' j = o (j + c) ∧ a' j = a (j + c)) → ezm_run o a n (p + c) h → ezm_run o' a' n p h := by
  induction n with
  | zero =>
    intro p h h1 h2
    have e1 := h1 p (by omega) (by omega)
    have h3 : o (p + c) = 0 := h2
    show o' p = 0
    rw [e1.1, h3]
  | succ n ih =>
    intro p h h1 h2
    have e1 := h1 p (by omega) (by omega)
    have e2 : ∀ j, p + 1 ≤ j → j ≤ p + 1 + n → o' j = o (j + c) ∧ a' j = a (j + c) := fun j h3 h4 => h1 j (by omega) (by omega)
    have e3 : p + c + 1 = p + 1 + c := by omega
    unfold ezm_run
    rw [e1.1, e1.2]
    rcases h2 with ⟨c1, s1⟩ | ⟨c1, c2, s1⟩ | ⟨c1, c2, c3, s1⟩
    · rw [e3] at s1
      exact Or.inl ⟨c1, ih e2 s1⟩
    · rw [e3] at s1
      exact Or.inr (Or.inl ⟨c1, c2, ih e2 s1⟩)
    · rw [e3] at s1
      exact Or.inr (Or.inr ⟨c1, c2, c3, ih e2 s1⟩)
/-- what lies below c stays -/
def ezm_fr (o a o' a' : Int → Int) (c : Int) : Prop := ∀ j, j < c → o' j = o j ∧ a' j = a j
theorem ezm_fr_r (o a : Int → Int) (c : Int) : ezm_fr o a o a c := fun _ _ => ⟨rfl, rfl⟩
theorem ezm_fr_t {o a o1 a1 o2 a2 : Int → Int} {c c2 : Int} (h1 : ezm_fr o a o1 a1 c) (h2 : ezm_fr o1 a1 o2 a2 c2) (h : c ≤ c2) : ezm_fr o a o2 a2 c := fun j hj => ⟨(h2 j (by omega)).1.trans (h1 j hj).1, (h2 j (by omega)).2.trans (h1 j hj).2⟩
/-- from s up to t one number is laid on the pile -/
def ezm_sg (o a : Int → Int) (s t : Int) : Prop := ∃ n : Nat, t = s + n ∧ ∀ h, 0 ≤ h → ezm_seg o a n s h (h + 1)
theorem ezm_sg_fr {o a o' a' : Int → Int} {s t : Int} (h : ezm_sg o a s t) (hf : ezm_fr o a o' a' t) : ezm_sg o' a' s t := by
  obtain ⟨n, e1, h1⟩ := h
  exact ⟨n, e1, fun k hk => ezm_seg_ext n (fun j h3 h4 => hf j (by omega)) (h1 k hk)⟩
theorem ezm_sgB {o1 a1 o2 a2 o3 a3 : Int → Int} {s t1 t2 t3 : Int} (h1 : ezm_sg o1 a1 s t1) (f2 : ezm_fr o1 a1 o2 a2 t1) (h2 : ezm_sg o2 a2 t1 t2) (f3 : ezm_fr o2 a2 o3 a3 t2) (ho : 4 ≤ o3 t2 ∧ o3 t2 ≤ 10) (ht : t3 = t2 + 1) : ezm_sg o3 a3 s t3 := by
  obtain ⟨n2, e2, g2⟩ := ezm_sg_fr h2 f3
  obtain ⟨n1, e1, g1⟩ := ezm_sg_fr (ezm_sg_fr h1 f2) (ezm_fr_t (fun j hj => f3 j (by omega)) (ezm_fr_r o3 a3 t1) (Int.le_refl _))
  refine ⟨n1 + (n2 + 1), by omega, fun h hh => ?_⟩
  refine ezm_seg_app n1 (g1 h hh) (ezm_seg_app n2 (m := h + 1 + 1) ?_ ?_)
  · rw [← e1]
    exact g2 (h + 1) (by omega)
  · rw [← e1, ← e2]
    exact Or.inr (Or.inr ⟨ho.1, ho.2, by omega, by show h + 1 = h + 1 + 1 - 1; omega⟩)
theorem ezm_sgN {o1 a1 o2 a2 : Int → Int} {s t1 t2 : Int} (h1 : ezm_sg o1 a1 s t1) (f2 : ezm_fr o1 a1 o2 a2 t1) (ho : o2 t1 = 3) (ht : t2 = t1 + 1) : ezm_sg o2 a2 s t2 := by
  obtain ⟨n1, e1, g1⟩ := ezm_sg_fr h1 f2
  refine ⟨n1 + 1, by omega, fun h hh => ?_⟩
  refine ezm_seg_app n1 (g1 h hh) ?_
  rw [← e1]
  exact Or.inr (Or.inl ⟨ho, by omega, rfl⟩)
theorem ezm_sg1 {o a : Int → Int} {s t : Int} (ho : o s = 1 ∨ o s = 2 ∧ 0 ≤ a s ∧ a s ≤ 3) (ht : t = s + 1) : ezm_sg o a s t := ⟨1, by omega, fun _ _ => Or.inl ⟨ho, rfl⟩⟩
/-- a code that starts at s and ends below hi -/
def ezm_code (o a : Int → Int) (s hi : Int) : Prop := ∃ n : Nat, s + n < hi ∧ n ≤ 1050 ∧ ezm_run o a n s 0
theorem ezm_code_sg {o a : Int → Int} {s t hi : Int} (h : ezm_sg o a s t) (ho : o t = 0) (ht : t < hi) (hl : t - s ≤ 1050) : ezm_code o a s hi := by
  obtain ⟨n, e1, g1⟩ := h
  refine ⟨n + 0, by omega, by omega, ezm_seg_run n (g1 0 (by omega)) ?_⟩
  show o (s + n) = 0
  rw [← e1]
  exact ho
theorem ezm_code_fr {o a o' a' : Int → Int} {s hi hi' : Int} (h : ezm_code o a s hi) (hf : ezm_fr o a o' a' hi) (hh : hi ≤ hi') : ezm_code o' a' s hi' := by
  obtain ⟨n, e1, e2, h1⟩ := h
  exact ⟨n, by omega, e2, ezm_run_sh (c := 0) n (fun j h3 h4 => by rw [Int.add_zero]; exact hf j (by omega)) (by rw [Int.add_zero]; exact h1)⟩
theorem ezm_code_sh {o a o' a' : Int → Int} {c s hi hi' : Int} (h : ezm_code o a (s + c) hi) (hf : ∀ j, s ≤ j → j + c < hi → o' j = o (j + c) ∧ a' j = a (j + c)) (hh : hi ≤ hi' + c) : ezm_code o' a' s hi' := by
  obtain ⟨n, e1, e2, h1⟩ := h
  exact ⟨n, by omega, e2, ezm_run_sh n (fun j h3 h4 => hf j h3 (by omega)) h1⟩
