/-! ===== what is told keeps its bounds: pure ===== -/
def ezp_lo (k : Int) : Int := if k = 9 ∨ k = 10 then 1 else 0
def ezp_hi (k : Int) : Int := [999, 99, 3, 10, 10, 10, 9, 60, 60, 99, 15].getD k.toNat 0
def ezp_Bn (nu : Int → Int) : Prop := (∀ k, 0 ≤ k → k < 11 → ezp_lo k ≤ nu k ∧ nu k ≤ ezp_hi k) ∧ nu 3 + nu 4 ≤ 10
def ezp_B (t : ezp_D) : Prop :=
  (∀ i, 0 ≤ i → i < t.kT → (1 ≤ t.hi i ∧ t.hi i ≤ 60) ∧ (1 ≤ t.th i ∧ t.th i ≤ 20) ∧ (0 ≤ t.si i ∧ t.si i ≤ 3) ∧ (-1 ≤ t.on i ∧ t.on i < i)) ∧
  (∀ i, 0 ≤ i → i < t.kH → (0 ≤ t.wo i ∧ t.wo i ≤ 999) ∧ (0 ≤ t.st i ∧ t.st i ≤ 10) ∧ (0 ≤ t.fr i ∧ t.st i + t.fr i ≤ 10)) ∧
  (∀ i, 0 ≤ i → i < t.kS → 0 ≤ t.sg i ∧ t.sg i < t.kT) ∧
  (∀ i j, 0 ≤ i → i < t.kS → 0 ≤ j → j < t.kS → t.sg i = t.sg j → i = j) ∧
  (∀ i j, t.ah i j = 0 ∨ t.ah i j = 1) ∧
  (∀ i j, t.ah i j = 1 → 0 ≤ i ∧ i < t.kH ∧ 0 ≤ j ∧ j < t.kH ∧ i ≠ j) ∧
  (∀ x y, t.el x y = 1 → 0 ≤ x ∧ x < 16 ∧ 0 ≤ y ∧ y < 16) ∧
  ezp_Bn t.nu ∧ (0 ≤ t.kT ∧ t.kT ≤ 8 ∧ 0 ≤ t.kH ∧ t.kH ≤ 4 ∧ 0 ≤ t.kS ∧ t.kS ≤ 6 ∧ 0 ≤ t.kE ∧ t.kE ≤ 8)
theorem ezb_twig {t : ezp_D} {l : List Int} {a b s o : Int} (h : ezp_B t) (hk : t.kT < 8) (ha : 1 ≤ a ∧ a ≤ 60) (hb : 1 ≤ b ∧ b ≤ 20) (hs : 0 ≤ s ∧ s ≤ 3) (ho : -1 ≤ o ∧ o < t.kT) : ezp_B (t.twig l a b s o) := by
  obtain ⟨h1, h2, h3, h4, h5, h6, h7, h8, h9⟩ := h
  refine ⟨fun i i0 i1 => ?_, h2, fun i i0 i1 => ?_, h4, h5, h6, h7, h8, ?_⟩
  · show (1 ≤ ezp_up t.hi t.kT a i ∧ ezp_up t.hi t.kT a i ≤ 60) ∧ (1 ≤ ezp_up t.th t.kT b i ∧ ezp_up t.th t.kT b i ≤ 20) ∧ (0 ≤ ezp_up t.si t.kT s i ∧ ezp_up t.si t.kT s i ≤ 3) ∧ (-1 ≤ ezp_up t.on t.kT o i ∧ ezp_up t.on t.kT o i < i)
    have i1 : i < t.kT + 1 := i1
    by_cases e : i = t.kT
    · rw [e, ezp_up_s, ezp_up_s, ezp_up_s, ezp_up_s]
      exact ⟨ha, hb, hs, ho⟩
    · rw [ezp_up_o _ _ e, ezp_up_o _ _ e, ezp_up_o _ _ e, ezp_up_o _ _ e]
      exact h1 i i0 (by omega)
  · have h := h3 i i0 i1
    show 0 ≤ t.sg i ∧ t.sg i < t.kT + 1
    omega
  · show 0 ≤ t.kT + 1 ∧ t.kT + 1 ≤ 8 ∧ 0 ≤ t.kH ∧ t.kH ≤ 4 ∧ 0 ≤ t.kS ∧ t.kS ≤ 6 ∧ 0 ≤ t.kE ∧ t.kE ≤ 8
    omega
theorem ezb_thing {t : ezp_D} {l : List Int} {a b s : Int} (h : ezp_B t) (hk : t.kH < 4) (ha : 0 ≤ a ∧ a ≤ 999) (hb : 0 ≤ b ∧ b ≤ 10) (hs : 0 ≤ s ∧ b + s ≤ 10) : ezp_B (t.thing l a b s) := by
  obtain ⟨h1, h2, h3, h4, h5, h6, h7, h8, h9⟩ := h
  refine ⟨h1, fun i i0 i1 => ?_, h3, h4, fun i j => ?_, fun i j hj => ?_, h7, h8, ?_⟩
  · show (0 ≤ ezp_up t.wo t.kH a i ∧ ezp_up t.wo t.kH a i ≤ 999) ∧ (0 ≤ ezp_up t.st t.kH b i ∧ ezp_up t.st t.kH b i ≤ 10) ∧ (0 ≤ ezp_up t.fr t.kH s i ∧ ezp_up t.st t.kH b i + ezp_up t.fr t.kH s i ≤ 10)
    have i1 : i < t.kH + 1 := i1
    by_cases e : i = t.kH
    · rw [e, ezp_up_s, ezp_up_s, ezp_up_s]
      exact ⟨ha, hb, hs⟩
    · rw [ezp_up_o _ _ e, ezp_up_o _ _ e, ezp_up_o _ _ e]
      exact h2 i i0 (by omega)
  · show ezp_up t.ah t.kH (fun _ => 0) i j = 0 ∨ ezp_up t.ah t.kH (fun _ => 0) i j = 1
    by_cases e : i = t.kH
    · rw [e, ezp_up_s]
      exact Or.inl rfl
    · rw [ezp_up_o _ _ e]
      exact h5 i j
  · have hj : ezp_up t.ah t.kH (fun _ => 0) i j = 1 := hj
    show 0 ≤ i ∧ i < t.kH + 1 ∧ 0 ≤ j ∧ j < t.kH + 1 ∧ i ≠ j
    by_cases e : i = t.kH
    · rw [e, ezp_up_s] at hj
      exact absurd hj (by decide)
    · rw [ezp_up_o _ _ e] at hj
      have h := h6 i j hj
      omega
  · show 0 ≤ t.kT ∧ t.kT ≤ 8 ∧ 0 ≤ t.kH + 1 ∧ t.kH + 1 ≤ 4 ∧ 0 ≤ t.kS ∧ t.kS ≤ 6 ∧ 0 ≤ t.kE ∧ t.kE ≤ 8
    omega
theorem ezb_strg {t : ezp_D} {w : Int} (h : ezp_B t) (hk : t.kS < 6) (hw : 0 ≤ w ∧ w < t.kT) (hn : ∀ i, 0 ≤ i → i < t.kS → t.sg i ≠ w) : ezp_B (t.strg w) := by
  obtain ⟨h1, h2, h3, h4, h5, h6, h7, h8, h9⟩ := h
  refine ⟨h1, h2, fun i i0 i1 => ?_, fun i j i0 i1 j0 j1 hij => ?_, h5, h6, h7, h8, ?_⟩
  · show 0 ≤ ezp_up t.sg t.kS w i ∧ ezp_up t.sg t.kS w i < t.kT
    have i1 : i < t.kS + 1 := i1
    by_cases e : i = t.kS
    · rw [e, ezp_up_s]
      exact hw
    · rw [ezp_up_o _ _ e]
      exact h3 i i0 (by omega)
  · have i1 : i < t.kS + 1 := i1
    have j1 : j < t.kS + 1 := j1
    have hij : ezp_up t.sg t.kS w i = ezp_up t.sg t.kS w j := hij
    by_cases e : i = t.kS
    · by_cases e2 : j = t.kS
      · omega
      · rw [e, ezp_up_s, ezp_up_o _ _ e2] at hij
        exact absurd hij.symm (hn j j0 (by omega))
    · by_cases e2 : j = t.kS
      · rw [e2, ezp_up_s, ezp_up_o _ _ e] at hij
        exact absurd hij (hn i i0 (by omega))
      · rw [ezp_up_o _ _ e, ezp_up_o _ _ e2] at hij
        exact h4 i j i0 (by omega) j0 (by omega) hij
  · show 0 ≤ t.kT ∧ t.kT ≤ 8 ∧ 0 ≤ t.kH ∧ t.kH ≤ 4 ∧ 0 ≤ t.kS + 1 ∧ t.kS + 1 ≤ 6 ∧ 0 ≤ t.kE ∧ t.kE ≤ 8
    omega
theorem ezb_over {t : ezp_D} {a b : Int} (h : ezp_B t) (ha : 0 ≤ a ∧ a < t.kH) (hb : 0 ≤ b ∧ b < t.kH) (hn : a ≠ b) : ezp_B (t.over a b) := by
  obtain ⟨h1, h2, h3, h4, h5, h6, h7, h8, h9⟩ := h
  refine ⟨h1, h2, h3, h4, fun i j => ?_, fun i j hj => ?_, h7, h8, h9⟩
  · show ezp_up t.ah b (ezp_up (t.ah b) a 1) i j = 0 ∨ ezp_up t.ah b (ezp_up (t.ah b) a 1) i j = 1
    by_cases e : i = b
    · rw [e, ezp_up_s]
      by_cases e2 : j = a
      · rw [e2, ezp_up_s]
        exact Or.inr rfl
      · rw [ezp_up_o _ _ e2]
        exact h5 b j
    · rw [ezp_up_o _ _ e]
      exact h5 i j
  · have hj : ezp_up t.ah b (ezp_up (t.ah b) a 1) i j = 1 := hj
    show 0 ≤ i ∧ i < t.kH ∧ 0 ≤ j ∧ j < t.kH ∧ i ≠ j
    by_cases e : i = b
    · rw [e, ezp_up_s] at hj
      by_cases e2 : j = a
      · omega
      · rw [ezp_up_o _ _ e2] at hj
        have h := h6 b j hj
        omega
    · rw [ezp_up_o _ _ e] at hj
      exact h6 i j hj
theorem ezb_elm {t : ezp_D} {a b : Int} (h : ezp_B t) (hk : t.kE < 8) (ha : 0 ≤ a ∧ a < 16) (hb : 0 ≤ b ∧ b < 16) : ezp_B (t.elm a b) := by
  obtain ⟨h1, h2, h3, h4, h5, h6, h7, h8, h9⟩ := h
  refine ⟨h1, h2, h3, h4, h5, h6, fun x y hxy => ?_, h8, ?_⟩
  · have hxy : ezp_up t.el a (ezp_up (t.el a) b 1) x y = 1 := hxy
    by_cases e : x = a
    · rw [e, ezp_up_s] at hxy
      by_cases e2 : y = b
      · omega
      · rw [ezp_up_o _ _ e2] at hxy
        have h := h7 a y hxy
        omega
    · rw [ezp_up_o _ _ e] at hxy
      exact h7 x y hxy
  · show 0 ≤ t.kT ∧ t.kT ≤ 8 ∧ 0 ≤ t.kH ∧ t.kH ≤ 4 ∧ 0 ≤ t.kS ∧ t.kS ≤ 6 ∧ 0 ≤ t.kE + 1 ∧ t.kE + 1 ≤ 8
    omega
theorem ezb_nu {t : ezp_D} {k v : Int} (h : ezp_B t) (hn : ezp_Bn (ezp_up t.nu k v)) : ezp_B (t.say k v) := by
  obtain ⟨h1, h2, h3, h4, h5, h6, h7, h8, h9⟩ := h
  exact ⟨h1, h2, h3, h4, h5, h6, h7, hn, h9⟩
theorem ezb_once {t : ezp_D} {w : Int} (h : ezp_B t) : ezp_B (t.once w) := by
  obtain ⟨h1, h2, h3, h4, h5, h6, h7, h8, h9⟩ := h
  exact ⟨h1, h2, h3, h4, h5, h6, h7, h8, h9⟩
theorem ezb_up {nu : Int → Int} {k v : Int} (h : ezp_Bn nu) (hv : ezp_lo k ≤ v ∧ v ≤ ezp_hi k) (h3 : k ≠ 3) (h4 : k ≠ 4) : ezp_Bn (ezp_up nu k v) := by
  refine ⟨fun j j0 j1 => ?_, ?_⟩
  · by_cases e : j = k
    · rw [e, ezp_up_s]
      exact hv
    · rw [ezp_up_o _ _ e]
      exact h.1 j j0 j1
  · rw [ezp_up_o _ _ (fun z => h3 z.symm), ezp_up_o _ _ (fun z => h4 z.symm)]
    exact h.2
theorem ezb_say {t : ezp_D} {k v : Int} (h : ezp_B t) (hv : ezp_lo k ≤ v ∧ v ≤ ezp_hi k) (h3 : k ≠ 3) (h4 : k ≠ 4) : ezp_B (t.say k v) := ezb_nu h (ezb_up h.2.2.2.2.2.2.2.1 hv h3 h4)
theorem ezb_wi {t : ezp_D} {a b : Int} (h : ezp_B t) (ha : 0 ≤ a ∧ a ≤ 10) (hb : 0 ≤ b ∧ b ≤ 10 - a) : ezp_B ((t.say 3 a).say 4 b) := by
  have g := h.2.2.2.2.2.2.2.1
  obtain ⟨h1, h2, h3, h4, h5, h6, h7, h8, h9⟩ := h
  refine ⟨h1, h2, h3, h4, h5, h6, h7, ⟨fun j j0 j1 => ?_, ?_⟩, h9⟩
  · show ezp_lo j ≤ ezp_up (ezp_up t.nu 3 a) 4 b j ∧ ezp_up (ezp_up t.nu 3 a) 4 b j ≤ ezp_hi j
    by_cases e : j = 4
    · rw [e, ezp_up_s]
      show 0 ≤ b ∧ b ≤ 10
      omega
    · rw [ezp_up_o _ _ e]
      by_cases e2 : j = 3
      · rw [e2, ezp_up_s]
        exact ha
      · rw [ezp_up_o _ _ e2]
        exact g.1 j j0 j1
  · show ezp_up (ezp_up t.nu 3 a) 4 b 3 + ezp_up (ezp_up t.nu 3 a) 4 b 4 ≤ 10
    rw [ezp_up_s, ezp_up_o _ _ (by decide), ezp_up_s]
    omega
section
variable {c : Int → Int} {s : Int × Int}
theorem ezb_n (hP : ∀ k, 0 ≤ ezp_P c k) {lo hi : Int} (h : (ezp_n c lo hi s).1 = 0) : s.1 = 0 ∧ lo ≤ ezp_V c s.2 ∧ ezp_V c s.2 ≤ hi := by
  refine ⟨ezp_0n h, ?_⟩
  unfold ezp_n ezp_sn at h
  rw [ezp_t1] at h
  by_cases hk : s.1 = 0 ∧ ezp_K c s.2 = 101
  · rw [if_pos hk] at h
    by_cases hv : ezp_V c s.2 < lo ∨ hi < ezp_V c s.2
    · rw [if_pos hv] at h
      exact absurd h (ezp_wr_f (by decide) (hP _))
    · omega
  · rw [if_neg hk] at h
    exact absurd h (ezp_wr_f (by decide) (hP _))
theorem ezb_sn (hP : ∀ k, 0 ≤ ezp_P c k) {lo hi : Int} (h : (ezp_sn c lo hi s).1 = 0) : s.1 = 0 ∧ lo ≤ ezp_V c s.2 ∧ ezp_V c s.2 ≤ hi := ezb_n hP (show (ezp_t (ezp_sn c lo hi s)).1 = 0 by rw [ezp_t1]; exact h)
theorem ezb_o (hP : ∀ k, 0 ≤ ezp_P c k) {a m : Int} (h : (ezp_o c a m s).1 = 0) : s.1 = 0 ∧ a ≤ ezp_K c s.2 ∧ ezp_K c s.2 < a + m := by
  unfold ezp_o at h
  by_cases hk : s.1 = 0 ∧ a ≤ ezp_K c s.2 ∧ ezp_K c s.2 < a + m
  · exact hk
  · rw [if_neg hk] at h
    exact absurd h (ezp_wr_f (by decide) (hP _))
theorem ezb_se (hP : ∀ k, 0 ≤ ezp_P c k) {nm : Int → List Int} {k : Int} (h0 : 0 ≤ k) (h : (ezp_se c nm k s).1 = 0) : s.1 = 0 ∧ 0 ≤ ezp_fi nm k (ezp_W c s.2) ∧ ezp_fi nm k (ezp_W c s.2) < k := by
  unfold ezp_se at h
  by_cases hk : s.1 = 0 ∧ ezp_K c s.2 = 100
  · rw [if_pos hk] at h
    by_cases hv : ezp_fi nm k (ezp_W c s.2) = -1
    · rw [if_pos hv] at h
      exact absurd h (ezp_wr_f (by decide) (hP _))
    · rcases ezp_fi_r nm (ezp_W c s.2) h0 with ⟨f1, _⟩ | ⟨f1, f2, _, _⟩
      · exact absurd f1 hv
      · exact ⟨hk.1, f1, f2⟩
  · rw [if_neg hk] at h
    exact absurd h (ezp_wr_f (by decide) (hP _))
theorem ezb_ta (hP : ∀ k, 0 ≤ ezp_P c k) {nm : Int → List Int} {k : Int} (h0 : 0 ≤ k) (h : (ezp_ta c nm k s).1 = 0) : s.1 = 0 ∧ 0 ≤ ezp_fi nm k (ezp_W c s.2) ∧ ezp_fi nm k (ezp_W c s.2) < k := ezb_se hP h0 (show (ezp_se c nm k s).1 = 0 by rw [← ezp_t1]; exact h)
variable {t : ezp_D}
theorem ezb_twD (hP : ∀ k, 0 ≤ ezp_P c k) (hB : ezp_B t) (hk : t.kT < 8) (z : (ezp_twS c t s).1 = 0) : ezp_B (ezp_twD c t s) := by
  have hT := hB.2.2.2.2.2.2.2.2.1
  have key : (ezp_tw7 c t s).1 = 0 → (1 ≤ ezp_V c (ezp_tw2 c t s).2 ∧ ezp_V c (ezp_tw2 c t s).2 ≤ 60) ∧ (1 ≤ ezp_V c (ezp_tw4 c t s).2 ∧ ezp_V c (ezp_tw4 c t s).2 ≤ 20) ∧ (0 ≤ ezp_K c (ezp_tw6 c t s).2 - 30 ∧ ezp_K c (ezp_tw6 c t s).2 - 30 ≤ 3) := by
    intro z7
    obtain ⟨z6, k1, k2⟩ := ezb_o hP z7
    obtain ⟨z4, v1, v2⟩ := ezb_n hP (ezp_0w z6)
    obtain ⟨z2, u1, u2⟩ := ezb_n hP (ezp_0w z4)
    exact ⟨⟨u1, u2⟩, ⟨v1, v2⟩, by omega, by omega⟩
  by_cases h : (ezp_tw7 c t s).1 = 0 ∧ ezp_K c (ezp_tw7 c t s).2 = 4
  · rw [ezp_twS_1 h] at z
    rw [ezp_twD_1 h z]
    obtain ⟨-, f1, f2⟩ := ezb_ta hP hT z
    obtain ⟨a, b, g⟩ := key h.1
    exact ezb_twig hB hk a b g ⟨by omega, f2⟩
  · have h' : (ezp_tw7 c t s).1 ≠ 0 ∨ ezp_K c (ezp_tw7 c t s).2 ≠ 4 := by
      by_cases q : (ezp_tw7 c t s).1 = 0
      · exact Or.inr (fun y => h ⟨q, y⟩)
      · exact Or.inl q
    rw [ezp_twS_0 h'] at z
    rw [ezp_twD_0 h' z]
    obtain ⟨a, b, g⟩ := key (ezp_0tk z)
    exact ezb_twig hB hk a b g ⟨by omega, by omega⟩
theorem ezb_thD (hP : ∀ k, 0 ≤ ezp_P c k) (hB : ezp_B t) (hk : t.kH < 4) (z : (ezp_thS c t s).1 = 0) : ezp_B (ezp_thD c t s) := by
  rw [ezp_thD_1 z]
  obtain ⟨z6, w1, w2⟩ := ezb_n hP z
  obtain ⟨z4, v1, v2⟩ := ezb_n hP (ezp_0w z6)
  obtain ⟨z2, u1, u2⟩ := ezb_n hP (ezp_0w z4)
  exact ezb_thing hB hk ⟨u1, u2⟩ ⟨v1, v2⟩ ⟨w1, by omega⟩
theorem ezb_ovD (hP : ∀ k, 0 ≤ ezp_P c k) (hB : ezp_B t) : ezp_B (ezp_ovD c t s) := by
  have hH := hB.2.2.2.2.2.2.2.2.2.2.1
  by_cases z : (ezp_ov2 c t s).1 = 0
  · by_cases h : ezp_ova c t s = ezp_ovb c t s ∨ t.ah (ezp_ovb c t s) (ezp_ova c t s) = 1
    · rw [(ezp_ov_1 z h).2]
      exact hB
    · have h' : ezp_ova c t s ≠ ezp_ovb c t s ∧ t.ah (ezp_ovb c t s) (ezp_ova c t s) ≠ 1 := ⟨fun y => h (Or.inl y), fun y => h (Or.inr y)⟩
      rw [(ezp_ov_0 z h').2]
      obtain ⟨z1, g1, g2⟩ := ezb_se hP hH z
      obtain ⟨-, f1, f2⟩ := ezb_ta hP hH z1
      exact ezb_over hB ⟨f1, f2⟩ ⟨g1, g2⟩ h'.1
  · rw [(ezp_ov_n2 z).2]
    exact hB
theorem ezb_elD (hP : ∀ k, 0 ≤ ezp_P c k) (hB : ezp_B t) (hk : t.kE < 8) : ezp_B (ezp_elD c t s) := by
  by_cases z : (ezp_el2 c s).1 = 0
  · by_cases h : t.el (ezp_V c s.2) (ezp_V c (ezp_n c 0 15 s).2) = 1
    · rw [(ezp_el_1 z h).2]
      exact hB
    · rw [(ezp_el_0 z h).2]
      obtain ⟨z1, g1, g2⟩ := ezb_sn hP z
      obtain ⟨-, f1, f2⟩ := ezb_n hP z1
      exact ezb_elm hB hk ⟨f1, by omega⟩ ⟨g1, by omega⟩
  · rw [(ezp_el_n z).2]
    exact hB
theorem ezb_hs {f : Int → Int} {w : Int} : ∀ {m : Nat}, ezp_hs f w m = false → ∀ i, 0 ≤ i → i < (m : Int) → f i ≠ w := by
  intro m h i i0 i1 e
  rw [ezp_hsT i i0 i1 e] at h
  cases h
theorem ezb_sr (hP : ∀ k, 0 ≤ ezp_P c k) : ∀ (m : Nat) (b : Bool) (s : Int × Int) (t : ezp_D), ezp_B t → ezp_B (ezp_sr c m b s t).2 := by
  intro m
  induction m with
  | zero => intro b s t hB; exact hB
  | succ m ih =>
    intro b s t hB
    have hT := hB.2.2.2.2.2.2.2.2.1
    have hS := hB.2.2.2.2.2.2.2.2.2.2.2.2.1
    by_cases z : s.1 = 0
    · by_cases h : b = false ∧ ezp_K c s.2 = 259
      · rw [ezp_sr_e z h]
        exact hB
      · by_cases z2 : (ezp_se c t.nT t.kT s).1 = 0
        · cases h2 : ezp_hs t.sg (ezp_fi t.nT t.kT (ezp_W c s.2)) t.kS.toNat
          · by_cases h3 : 6 ≤ t.kS
            · rw [ezp_sr_5 h z2 h2 h3]
              exact ih _ _ _ hB
            · rw [ezp_sr_s h z2 h2 (by omega)]
              obtain ⟨-, f1, f2⟩ := ezb_se hP hT z2
              exact ih _ _ _ (ezb_strg hB (by omega) ⟨f1, f2⟩ (fun i i0 i1 => ezb_hs h2 i i0 (by omega)))
          · rw [ezp_sr_3 h z2 h2]
            exact ih _ _ _ hB
        · rw [ezp_sr_f h z2]
          exact hB
    · rw [ezp_sr_n z]
      exact hB
theorem ezb_lw (hP : ∀ k, 0 ≤ ezp_P c k) (hB : ezp_B t) {w : Int} (hw : w = 0 ∧ t.kT < 8 ∨ w = 9 ∧ t.kH < 4 ∨ w = 20 ∧ t.kE < 8 ∨ w = 12 ∨ ezp_wds w) (z : (ezp_lw c w t s).1.1 = 0) : ezp_B (ezp_lw c w t s).2 := by
  unfold ezp_wds at hw
  rcases hw with ⟨h, hk⟩ | ⟨h, hk⟩ | ⟨h, hk⟩ | h | h | h | h | h | h | h | h | h | h | h
  · rw [ezp_lw_0 h] at z ⊢
    exact ezb_twD hP hB hk z
  · rw [ezp_lw_9 h] at z ⊢
    exact ezb_thD hP hB hk z
  · rw [ezp_lw_20 h] at z ⊢
    exact ezb_elD hP hB hk
  · rw [ezp_lw_12 h] at z ⊢
    exact ezb_ovD hP hB
  · rw [ezp_lw_5 h] at z ⊢
    exact ezb_sr hP 7 true s t hB
  · rw [ezp_lw_6 h] at z ⊢
    obtain ⟨z1, v1, v2⟩ := ezb_n hP z
    obtain ⟨-, u1, u2⟩ := ezb_n hP (ezp_0w z1)
    exact ezb_say (ezb_say hB ⟨u1, u2⟩ (by decide) (by decide)) ⟨v1, v2⟩ (by decide) (by decide)
  · rw [ezp_lw_13 h] at z ⊢
    obtain ⟨z1, v1, v2⟩ := ezb_n hP z
    obtain ⟨z2, u1, u2⟩ := ezb_n hP z1
    obtain ⟨-, o1, o2⟩ := ezb_o hP z2
    exact ezb_wi (ezb_say (k := 2) hB ⟨show 0 ≤ ezp_K c s.2 - 30 by omega, show ezp_K c s.2 - 30 ≤ 3 by omega⟩ (by decide) (by decide)) ⟨u1, u2⟩ ⟨v1, v2⟩
  · rw [ezp_lw_14 h] at z ⊢
    obtain ⟨-, v1, v2⟩ := ezb_n hP z
    exact ezb_say hB ⟨v1, v2⟩ (by decide) (by decide)
  · rw [ezp_lw_15 h] at z ⊢
    obtain ⟨-, v1, v2⟩ := ezb_n hP z
    exact ezb_say hB ⟨v1, v2⟩ (by decide) (by decide)
  · rw [ezp_lw_16 h] at z ⊢
    obtain ⟨z1, v1, v2⟩ := ezb_n hP z
    obtain ⟨-, u1, u2⟩ := ezb_n hP (ezp_0w z1)
    exact ezb_say (ezb_say hB ⟨u1, u2⟩ (by decide) (by decide)) ⟨v1, v2⟩ (by decide) (by decide)
  · rw [ezp_lw_18 h] at z ⊢
    obtain ⟨-, v1, v2⟩ := ezb_n hP z
    exact ezb_say hB ⟨v1, v2⟩ (by decide) (by decide)
  · rw [ezp_lw_19 h] at z ⊢
    obtain ⟨-, v1, v2⟩ := ezb_n hP z
    exact ezb_say hB ⟨v1, v2⟩ (by decide) (by decide)
  · rw [ezp_lw_21 h] at z ⊢
    exact hB
  · rw [ezp_lw_22 h] at z ⊢
    exact hB
theorem ezb_lne (hP : ∀ k, 0 ≤ ezp_P c k) (hB : ezp_B t) (z : (ezp_lne c t s).1.1 = 0) : ezp_B (ezp_lne c t s).2 := by
  by_cases h : (ezp_cf c t s).1 = 0
  · rw [ezp_lne_1 h] at z ⊢
    obtain ⟨-, hw⟩ := ezp_cf_0 (hP _) h
    refine ezb_lw hP (ezb_once hB) ?_ (ezp_0w z)
    rcases hw with h1 | h1 | h1 | h1 | h1
    · exact Or.inl h1
    · exact Or.inr (Or.inl h1)
    · exact Or.inr (Or.inr (Or.inl h1))
    · exact Or.inr (Or.inr (Or.inr (Or.inl h1)))
    · exact Or.inr (Or.inr (Or.inr (Or.inr h1.1)))
  · rw [ezp_lne_0 h] at z
    exact absurd z h
theorem ezb_rd (hP : ∀ k, 0 ≤ ezp_P c k) : ∀ (m : Nat) (z : (Int × Int) × ezp_D), ezp_B z.2 → (ezp_rd c m z).1.1 = 0 → ezp_B (ezp_rd c m z).2 := by
  intro m
  induction m with
  | zero => intro z hB _; exact hB
  | succ m ih =>
    intro z hB h
    by_cases hc : z.1.1 = 0 ∧ ezp_K c z.1.2 ≠ 102
    · rw [ezp_rd_s hc] at h ⊢
      by_cases h0 : (ezp_lne c z.2 z.1).1.1 = 0
      · exact ih _ (ezb_lne hP hB h0) h
      · rw [ezp_rd_n (fun y => h0 y.1)] at h
        exact absurd h h0
    · rw [ezp_rd_n hc]
      exact hB
end
theorem ezb_D0 : ezp_B ezp_D0 := by
  refine ⟨fun i i0 i1 => ?_, fun i i0 i1 => ?_, fun i i0 i1 => ?_, fun i j i0 i1 => ?_, fun _ _ => Or.inl rfl, fun i j hj => ?_, fun x y hxy => ?_, ⟨fun k k0 k1 => ?_, ?_⟩, by decide, by decide, by decide, by decide, by decide, by decide, by decide, by decide⟩
  · have i1 : i < 0 := i1
    omega
  · have i1 : i < 0 := i1
    omega
  · have i1 : i < 0 := i1
    omega
  · have i1 : i < 0 := i1
    omega
  · have hj : (0 : Int) = 1 := hj
    omega
  · have hxy : (0 : Int) = 1 := hxy
    omega
  · rcases (show k = 0 ∨ k = 1 ∨ k = 2 ∨ k = 3 ∨ k = 4 ∨ k = 5 ∨ k = 6 ∨ k = 7 ∨ k = 8 ∨ k = 9 ∨ k = 10 by omega) with rfl | rfl | rfl | rfl | rfl | rfl | rfl | rfl | rfl | rfl | rfl <;> exact ⟨by decide, by decide⟩
  · show ezp_fn 3 + ezp_fn 4 ≤ 10
    decide
theorem ezb_tree {c : Int → Int} (hP : ∀ k, 0 ≤ ezp_P c k) (h : ezp_tree c = 0) : ezp_B (ezp_rd c 1000 ((0, 0), ezp_D0)).2 := ezb_rd hP 1000 ((0, 0), ezp_D0) ezb_D0 h
