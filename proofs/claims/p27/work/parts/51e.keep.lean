/-! ===== blocks of states kept ===== -/
theorem ezm_SV_fr2 {t s s' : Int → Int} {b : Int} (h : ezm_SV t s b) (h6 : s b ≤ 6) (hf : ∀ j, (b ≤ j ∧ j ≤ b + 6) ∨ j = b + 17 → s' j = s j) : ezm_SV t s' b := by
  have e0 := hf b (by omega)
  have e17 := hf (b + 17) (by omega)
  refine ⟨fun z => ?_, fun k k0 k1 => ?_⟩
  · rw [e17] at z
    rw [e0]
    exact h.1 z
  · rw [e0] at k1
    rw [hf (k + (b + 1)) (by omega)]
    exact h.2 k k0 k1
theorem ezm_SV_cp2 {t s s' : Int → Int} {a b b' bb m : Int} (h : ezm_SV t s b) (h6 : s b ≤ 6) (hm : 18 ≤ m) (ea : a = b) (eb : bb = b') (cp : ∀ k, 0 ≤ k → k < m → s' (b' + k) = s (a + k)) : ezm_SV t s' bb := by
  subst ea eb
  refine ezm_SV_cp h h6 (fun j j0 j1 => ?_)
  rw [Int.add_comm j bb, Int.add_comm j a]
  exact cp j j0 (by omega)
theorem ezm_la_fr {s s' : Int → Int} {b c : Int} (h0 : 0 ≤ s b) (h6 : s b ≤ 6) (hf : ∀ j, j < c → s' j = s j) (hb : b + 6 < c) : ezm_la s' b = ezm_la s b := by
  unfold ezm_la
  rw [hf b (by omega), hf (s b + b) (by omega)]
theorem ezm_OK_lo {t s s' mk : Int → Int} {un : Int} (h : ezm_OK t s mk un) (hu : un ≤ 16) (h6 : ∀ j, j % 50 = 0 → s j ≤ 6) (fb : ∀ j, j < 1050 → s' j = s j) : ezm_OK t s' mk un :=
  ⟨ezm_SV_fr h.1 (h6 _ (by omega)) rfl (fun j _ _ => fb j (by omega)), fun u u0 u1 => ezm_SV_fr (h.2.1 u u0 u1) (h6 _ (by omega)) rfl (fun j _ _ => fb j (by omega)), fun m m0 m1 m2 => ezm_SV_fr (h.2.2 m m0 m1 m2) (h6 _ (by omega)) rfl (fun j _ _ => fb j (by omega))⟩
theorem ezm_OK_b0 {t s s' mk : Int → Int} {un : Int} (h : ezm_OK t s mk un) (h6 : ∀ j, j % 50 = 0 → s j ≤ 6) (hv : ezm_SV t s' 0) (fb : ∀ j, 50 ≤ j → s' j = s j) : ezm_OK t s' mk un :=
  ⟨hv, fun u u0 u1 => ezm_SV_fr (h.2.1 u u0 u1) (h6 _ (by omega)) rfl (fun j _ _ => fb j (by omega)), fun m m0 m1 m2 => ezm_SV_fr (h.2.2 m m0 m1 m2) (h6 _ (by omega)) rfl (fun j _ _ => fb j (by omega))⟩
theorem ezm_OK_kp {t s s1 s' mk : Int → Int} {un0 un un' b' : Int} (h : ezm_OK t s mk un0) (h6 : ∀ j, j % 50 = 0 → s j ≤ 6) (f1 : ∀ j, j < 250 → s1 j = s j) (hu : ∀ u, 0 ≤ u → u < un → ezm_SV t s1 (50 * u + 250)) (h61 : ∀ j, j % 50 = 0 → s1 j ≤ 6) (hn : 0 ≤ un) (hb : b' = 50 * un + 250) (hun : un' = un + 1) (fb : ∀ j, j < b' ∨ b' + 20 ≤ j → s' j = s1 j) (cp : ∀ k, 0 ≤ k → k < 20 → s' (b' + k) = s1 (0 + k)) : ezm_OK t s' mk un' := by
  subst hun hb
  have g : ezm_SV t s1 0 := ezm_SV_fr h.1 (h6 _ (by omega)) rfl (fun j _ _ => f1 j (by omega))
  refine ⟨ezm_SV_fr g (h61 _ (by omega)) rfl (fun j _ _ => fb j (by omega)), fun u u0 u1 => ?_, fun m m0 m1 m2 => ezm_SV_fr (h.2.2 m m0 m1 m2) (h6 _ (by omega)) rfl (fun j _ _ => (fb j (by omega)).trans (f1 j (by omega)))⟩
  by_cases e : u = un
  · exact ezm_SV_cp2 g (h61 _ (by omega)) (m := 20) (by omega) rfl (by omega) cp
  · exact ezm_SV_fr (hu u u0 (by omega)) (h61 _ (by omega)) rfl (fun j _ _ => fb j (by omega))
theorem ezm_OK_un {t s s' mk : Int → Int} {un un' a b' : Int} (h : ezm_OK t s mk un) (h6 : ∀ j, j % 50 = 0 → s j ≤ 6) (hu : un' + 1 = un) (h0 : 0 ≤ un') (ha : a = 50 * un' + 250) (hb : b' = 0) (fb : ∀ j, j < b' ∨ b' + 20 ≤ j → s' j = s j) (cp : ∀ k, 0 ≤ k → k < 20 → s' (b' + k) = s (a + k)) : ezm_OK t s' mk un' := by
  subst ha hb
  refine ⟨ezm_SV_cp2 (h.2.1 un' h0 (by omega)) (h6 _ (by omega)) (m := 20) (by omega) rfl rfl cp, fun u u0 u1 => ezm_SV_fr (h.2.1 u u0 (by omega)) (h6 _ (by omega)) rfl (fun j _ _ => fb j (by omega)), fun m m0 m1 m2 => ezm_SV_fr (h.2.2 m m0 m1 m2) (h6 _ (by omega)) rfl (fun j _ _ => fb j (by omega))⟩
theorem ezm_OK_ml {t s s' mk mk' : Int → Int} {un m a b' : Int} (h : ezm_OK t s mk un) (h6 : ∀ j, j % 50 = 0 → s j ≤ 6) (h0 : 0 ≤ m) (h1 : m < 4) (ha : a = 0) (hb : b' = 50 * m + 50) (hm : ∀ j, j ≠ m → mk' j = mk j) (fb : ∀ j, j < b' ∨ b' + 50 ≤ j → s' j = s j) (cp : ∀ k, 0 ≤ k → k < 50 → s' (b' + k) = s (a + k)) : ezm_OK t s' mk' un := by
  subst ha hb
  refine ⟨ezm_SV_fr h.1 (h6 _ (by omega)) rfl (fun j _ _ => fb j (by omega)), fun u u0 u1 => ezm_SV_fr (h.2.1 u u0 u1) (h6 _ (by omega)) rfl (fun j _ _ => fb j (by omega)), fun n n0 n1 n2 => ?_⟩
  by_cases e : n = m
  · exact ezm_SV_cp2 h.1 (h6 _ (by omega)) (m := 50) (by omega) rfl (by omega) cp
  · rw [hm n e] at n2
    exact ezm_SV_fr (h.2.2 n n0 n1 n2) (h6 _ (by omega)) rfl (fun j _ _ => fb j (by omega))
theorem ezm_OK_mb {t s s' mk mk' : Int → Int} {un m a b' : Int} (h : ezm_OK t s mk un) (h6 : ∀ j, j % 50 = 0 → s j ≤ 6) (h0 : 0 ≤ m) (h1 : m < 4) (hk : mk m ≠ 0) (ha : a = 50 * m + 50) (hb : b' = 0) (hm : ∀ j, j ≠ m → mk' j = mk j) (fb : ∀ j, j < b' ∨ b' + 50 ≤ j → s' j = s j) (cp : ∀ k, 0 ≤ k → k < 50 → s' (b' + k) = s (a + k)) : ezm_OK t s' mk' 0 := by
  subst ha hb
  refine ⟨ezm_SV_cp2 (h.2.2 m h0 h1 hk) (h6 _ (by omega)) (m := 50) (by omega) rfl rfl cp, fun u u0 u1 => absurd u1 (by omega), fun n n0 n1 n2 => ?_⟩
  by_cases e : n = m
  · subst e
    exact ezm_SV_fr (h.2.2 n n0 n1 hk) (h6 _ (by omega)) rfl (fun j _ _ => fb j (by omega))
  · rw [hm n e] at n2
    exact ezm_SV_fr (h.2.2 n n0 n1 n2) (h6 _ (by omega)) rfl (fun j _ _ => fb j (by omega))
