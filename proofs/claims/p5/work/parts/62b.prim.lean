/-! ===== what a reader does to (fault, the token that is next) ===== -/
def ezp_t (s : Int × Int) : Int × Int := if s.1 = 0 then (0, s.2 + 1) else s
def ezp_wr (c : Int → Int) (h : Int) (s : Int × Int) : Int × Int := if s.1 = 0 then (h + 16 * ezp_P c s.2, s.2) else s
def ezp_w (c : Int → Int) (w : Int) (s : Int × Int) : Int × Int := if s.1 = 0 ∧ ezp_K c s.2 = w then ezp_t s else ezp_wr c 1 s
def ezp_tk (c : Int → Int) (w : Int) (s : Int × Int) : Int × Int := if s.1 = 0 ∧ ezp_K c s.2 = w then ezp_t s else s
def ezp_sn (c : Int → Int) (lo hi : Int) (s : Int × Int) : Int × Int := if s.1 = 0 ∧ ezp_K c s.2 = 101 then (if ezp_V c s.2 < lo ∨ hi < ezp_V c s.2 then ezp_wr c 4 s else s) else ezp_wr c 1 s
def ezp_n (c : Int → Int) (lo hi : Int) (s : Int × Int) : Int × Int := ezp_t (ezp_sn c lo hi s)
def ezp_o (c : Int → Int) (a m : Int) (s : Int × Int) : Int × Int := if s.1 = 0 ∧ a ≤ ezp_K c s.2 ∧ ezp_K c s.2 < a + m then ezp_t s else ezp_wr c 1 s
/-- which of the first m names it is, -1 none -/
def ezp_fx (nm : Int → List Int) (l : List Int) : Nat → Int → Int := fun m => match m with
  | 0 => fun _ => -1
  | m + 1 => fun i => if nm i = l then i else ezp_fx nm l m (i + 1)
def ezp_fi (nm : Int → List Int) (n : Int) (l : List Int) : Int := ezp_fx nm l n.toNat 0
theorem ezp_fx_r (nm : Int → List Int) (l : List Int) (m : Nat) : ∀ i : Int, ezp_fx nm l m i = -1 ∧ (∀ j, i ≤ j → j < i + m → nm j ≠ l) ∨ (i ≤ ezp_fx nm l m i ∧ ezp_fx nm l m i < i + m ∧ nm (ezp_fx nm l m i) = l ∧ ∀ j, i ≤ j → j < ezp_fx nm l m i → nm j ≠ l) := by
  induction m with
  | zero => intro i; exact Or.inl ⟨rfl, fun j j0 j1 => by omega⟩
  | succ m ih =>
    intro i
    by_cases e : nm i = l
    · have e1 : ezp_fx nm l (m + 1) i = i := if_pos e
      rw [e1]
      exact Or.inr ⟨by omega, by omega, e, fun j j0 j1 => by omega⟩
    · have e1 : ezp_fx nm l (m + 1) i = ezp_fx nm l m (i + 1) := if_neg e
      rw [e1]
      rcases ih (i + 1) with ⟨h1, h2⟩ | ⟨h1, h2, h3, h4⟩
      · refine Or.inl ⟨h1, fun j j0 j1 => ?_⟩
        by_cases ej : j = i
        · rw [ej]
          exact e
        · exact h2 j (by omega) (by omega)
      · refine Or.inr ⟨by omega, by omega, h3, fun j j0 j1 => ?_⟩
        by_cases ej : j = i
        · rw [ej]
          exact e
        · exact h4 j (by omega) j1
theorem ezp_fi_r (nm : Int → List Int) {n : Int} (l : List Int) (h : 0 ≤ n) : ezp_fi nm n l = -1 ∧ (∀ j, 0 ≤ j → j < n → nm j ≠ l) ∨ (0 ≤ ezp_fi nm n l ∧ ezp_fi nm n l < n ∧ nm (ezp_fi nm n l) = l ∧ ∀ j, 0 ≤ j → j < ezp_fi nm n l → nm j ≠ l) := by
  rcases ezp_fx_r nm l n.toNat 0 with ⟨h1, h2⟩ | ⟨h1, h2, h3, h4⟩
  · exact Or.inl ⟨h1, fun j j0 j1 => h2 j j0 (by omega)⟩
  · exact Or.inr ⟨h1, by show ezp_fx nm l n.toNat 0 < n; omega, h3, h4⟩
theorem ezp_fi_eq {nm : Int → List Int} {n i : Int} {l : List Int} (h : 0 ≤ n) (i0 : 0 ≤ i) (i1 : i < n) (e : nm i = l) (hn : ∀ j, 0 ≤ j → j < i → nm j ≠ l) : ezp_fi nm n l = i := by
  rcases ezp_fi_r nm l h with ⟨h1, h2⟩ | ⟨h1, h2, h3, h4⟩
  · exact absurd e (h2 i i0 i1)
  · rcases Int.lt_trichotomy (ezp_fi nm n l) i with g | g | g
    · exact absurd h3 (hn _ h1 g)
    · exact g
    · exact absurd e (h4 i i0 g)
theorem ezp_fi_no {nm : Int → List Int} {n : Int} {l : List Int} (h : 0 ≤ n) (hn : ∀ j, 0 ≤ j → j < n → nm j ≠ l) : ezp_fi nm n l = -1 := by
  rcases ezp_fi_r nm l h with ⟨h1, _⟩ | ⟨h1, h2, h3, _⟩
  · exact h1
  · exact absurd h3 (hn _ h1 h2)
def ezp_se (c : Int → Int) (nm : Int → List Int) (n : Int) (s : Int × Int) : Int × Int := if s.1 = 0 ∧ ezp_K c s.2 = 100 then (if ezp_fi nm n (ezp_W c s.2) = -1 then ezp_wr c 2 s else s) else ezp_wr c 1 s
def ezp_ta (c : Int → Int) (nm : Int → List Int) (n : Int) (s : Int × Int) : Int × Int := ezp_t (ezp_se c nm n s)
def ezp_nn (c : Int → Int) (nT : Int → List Int) (tw : Int) (nH : Int → List Int) (th : Int) (s : Int × Int) : Int × Int := if s.1 = 0 ∧ ezp_K c s.2 = 100 then (if ezp_fi nT tw (ezp_W c s.2) ≠ -1 ∨ ezp_fi nH th (ezp_W c s.2) ≠ -1 then ezp_wr c 3 s else ezp_t s) else ezp_wr c 1 s
/-- where the class stands -/
def ezt_ST (c : Int → Int) (n : Int) (s : Int × Int) (F : Nat → Nat → Int) : Prop := F 1 6 = s.1 ∧ 0 ≤ s.2 ∧ (s.1 = 0 → ezt_CT c s.2 F) ∧ 0 ≤ F 1 9 ∧ F 1 9 ≤ n
theorem ezt_ST_fr {c : Int → Int} {n : Int} {s : Int × Int} {F F' : Nat → Nat → Int} (h : ezt_ST c n s F) (hf : ∀ j, 3 ≤ j → j ≤ 9 → F' 1 j = F 1 j) : ezt_ST c n s F' := by
  obtain ⟨h1, h2, h3, h4, h5⟩ := h
  refine ⟨by rw [hf 6 (by omega) (by omega)]; exact h1, h2, fun z => ezt_CT_fr (h3 z) (fun j hj => hf j (by omega) (by omega)), ?_, ?_⟩
  · rw [hf 9 (by omega) (by omega)]
    exact h4
  · rw [hf 9 (by omega) (by omega)]
    exact h5
/-- behind a take -/
theorem ezt_ST_t {c : Int → Int} {n : Int} {s : Int × Int} {F F' : Nat → Nat → Int} (h : ezt_ST c n s F) (h6 : F' 1 6 = F 1 6) (p8 : F' 1 8 = ezp_run ezp_bl c 2000 (F 1 9)) (p9 : F' 1 9 = ezp_nx c (ezp_run ezp_bl c 2000 (F 1 9))) (p3 : F' 1 3 = ezp_kd c (ezp_run ezp_bl c 2000 (F 1 9))) (p4 : ezp_kd c (ezp_run ezp_bl c 2000 (F 1 9)) = 101 → F' 1 4 = ezp_N c (ezp_run ezp_bl c 2000 (F 1 9))) (p7 : ezp_kd c (ezp_run ezp_bl c 2000 (F 1 9)) = 100 → F' 1 7 = ezp_v 32 (ezp_L c (ezp_run ezp_bl c 2000 (F 1 9))) ∧ F' 1 5 = ezp_ix (ezp_L c (ezp_run ezp_bl c 2000 (F 1 9))) - 44) (p0 : 0 ≤ F' 1 9 ∧ F' 1 9 ≤ n) : ezt_ST c n (ezp_t s) F' := by
  obtain ⟨h1, h2, h3, h4, h5⟩ := h
  unfold ezp_t
  by_cases e : s.1 = 0
  · rw [if_pos e]
    have hc := h3 e
    have e9 : ezp_run ezp_bl c 2000 (F 1 9) = ezp_P c (s.2 + 1) := by rw [ezp_P_s h2, hc.2.1]
    rw [e9] at p8 p9 p3 p4 p7
    exact ⟨by show F' 1 6 = 0; omega, by show 0 ≤ s.2 + 1; omega, fun _ => ⟨p8, p9, p3, p4, p7⟩, p0.1, p0.2⟩
  · rw [if_neg e]
    exact ⟨by omega, h2, fun z => absurd z e, p0.1, p0.2⟩
theorem ezt_ST_wr {c : Int → Int} {n h : Int} {s : Int × Int} {F F' : Nat → Nat → Int} (st : ezt_ST c n s F) (h1 : 1 ≤ h) (hp : 0 ≤ ezp_P c s.2) (h6 : (s.1 = 0 → F' 1 6 = h + 16 * ezp_P c s.2) ∧ (s.1 ≠ 0 → F' 1 6 = F 1 6)) (hf : ∀ j, 3 ≤ j → j ≤ 9 → j ≠ 6 → F' 1 j = F 1 j) : ezt_ST c n (ezp_wr c h s) F' := by
  obtain ⟨g1, g2, g3, g4, g5⟩ := st
  have e9 := hf 9 (by omega) (by omega) (by omega)
  unfold ezp_wr
  by_cases e : s.1 = 0
  · rw [if_pos e]
    have h7 := h6.1 e
    exact ⟨h7, g2, fun z => absurd z (by show ¬ h + 16 * ezp_P c s.2 = 0; omega), by omega, by omega⟩
  · rw [if_neg e]
    have h7 := h6.2 e
    exact ⟨by omega, g2, fun z => absurd z e, by omega, by omega⟩
theorem ezp_wr_n {c : Int → Int} {h : Int} {s : Int × Int} (e : s.1 ≠ 0) : ezp_wr c h s = s := if_neg e
theorem ezp_t_n {s : Int × Int} (e : s.1 ≠ 0) : ezp_t s = s := if_neg e
theorem ezp_wr_f {c : Int → Int} {h : Int} {s : Int × Int} (h1 : 1 ≤ h) (hp : 0 ≤ ezp_P c s.2) : (ezp_wr c h s).1 ≠ 0 := by
  unfold ezp_wr
  by_cases e : s.1 = 0
  · rw [if_pos e]
    show h + 16 * ezp_P c s.2 ≠ 0
    omega
  · rw [if_neg e]
    exact e
theorem ezp_t1 (s : Int × Int) : (ezp_t s).1 = s.1 := by
  unfold ezp_t
  by_cases e : s.1 = 0
  · rw [if_pos e]
    exact e.symm
  · rw [if_neg e]
theorem ezt_ST_0 {c : Int → Int} {n b : Int} {F' : Nat → Nat → Int} (hb : b = 0) (h6 : F' 1 6 = 0) (p8 : F' 1 8 = ezp_run ezp_bl c 2000 b) (p9 : F' 1 9 = ezp_nx c (ezp_run ezp_bl c 2000 b)) (p3 : F' 1 3 = ezp_kd c (ezp_run ezp_bl c 2000 b)) (p4 : ezp_kd c (ezp_run ezp_bl c 2000 b) = 101 → F' 1 4 = ezp_N c (ezp_run ezp_bl c 2000 b)) (p7 : ezp_kd c (ezp_run ezp_bl c 2000 b) = 100 → F' 1 7 = ezp_v 32 (ezp_L c (ezp_run ezp_bl c 2000 b)) ∧ F' 1 5 = ezp_ix (ezp_L c (ezp_run ezp_bl c 2000 b)) - 44) (p0 : 0 ≤ F' 1 9 ∧ F' 1 9 ≤ n) : ezt_ST c n (0, 0) F' := by
  subst hb
  exact ⟨h6, Int.le_refl 0, fun _ => ⟨p8, p9, p3, p4, p7⟩, p0.1, p0.2⟩
/-- names of a tree: how many lies in the field k of q, they lie in the row r -/
def ezt_NM (q k r : Nat) (nm : Int → List Int) (F : Nat → Nat → Int) (A : Nat → Int → Int) : Prop := 0 ≤ F q k ∧ ∀ i, 0 ≤ i → i < F q k → ezp_ok (nm i) ∧ A r i = ezp_v 32 (nm i)
theorem ezt_NM_fr {q k r : Nat} {nm : Int → List Int} {F F' : Nat → Nat → Int} {A A' : Nat → Int → Int} (h : ezt_NM q k r nm F A) (e1 : F' q k = F q k) (e2 : A' r = A r) : ezt_NM q k r nm F' A' := by
  unfold ezt_NM
  rw [e1, e2]
  exact h
theorem ezp_W_ok {c : Int → Int} {n k : Int} (h : ezp_tp c n) (hk : ezp_K c k = 100) : ezp_ok (ezp_W c k) := by
  have hP := ezp_Pr h k
  cases hl : ezp_le (c (ezp_P c k))
  · exfalso
    have h1 : ezp_kd c (ezp_P c k) = 100 := hk
    unfold ezp_kd at h1
    rw [if_neg (by rw [hl]; decide)] at h1
    split at h1
    · split at h1 <;> omega
    · split at h1
      · omega
      · split at h1
        · rename_i h4
          have h5 := of_decide_eq_true h4
          omega
        · omega
  · exact ezp_L_ok h hP.1 hP.2 hl
