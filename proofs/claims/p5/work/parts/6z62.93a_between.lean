/-! ===== what holds between the calls of the law ===== -/
/-- a state: tree, laws, now, told, how many undos, undos, marked, marks, told with them -/
def ezj_S : Type := ezp_D × (ezv_LL × (ezn_N × ((Int → Int) × (Int × ((Int → ezn_N) × ((Int → Int) × ((Int → ezn_N) × (Int → Int → Int))))))))
def ezj_S.y (s : ezj_S) : ezp_D := s.1
def ezj_S.L (s : ezj_S) : ezv_LL := s.2.1
def ezj_S.w (s : ezj_S) : ezn_N := s.2.2.1
def ezj_S.c (s : ezj_S) : Int → Int := s.2.2.2.1
def ezj_S.kU (s : ezj_S) : Int := s.2.2.2.2.1
def ezj_S.U (s : ezj_S) : Int → ezn_N := s.2.2.2.2.2.1
def ezj_S.ml (s : ezj_S) : Int → Int := s.2.2.2.2.2.2.1
def ezj_S.mN (s : ezj_S) : Int → ezn_N := s.2.2.2.2.2.2.2.1
def ezj_S.mT (s : ezj_S) : Int → Int → Int := s.2.2.2.2.2.2.2.2
def ezj_mk (y : ezp_D) (L : ezv_LL) (w : ezn_N) (c : Int → Int) (kU : Int) (U : Int → ezn_N) (ml : Int → Int) (mN : Int → ezn_N) (mT : Int → Int → Int) : ezj_S := (y, (L, (w, (c, (kU, (U, (ml, (mN, mT))))))))
/-- behind a try, undo, tell, mark, tree -/
def ezj_to (y : ezj_S) (w : ezn_N) : ezj_S := ezj_mk y.y y.L w y.c (ezn_pn y.kU) (ezn_pu y.kU y.U y.w) y.ml y.mN y.mT
def ezj_un (y : ezj_S) : ezj_S := ezj_mk y.y y.L (y.U (y.kU - 1)) y.c (y.kU - 1) y.U y.ml y.mN y.mT
def ezj_tl (y : ezj_S) (a1 a2 : Int) : ezj_S := ezj_mk y.y y.L y.w (ezn_ad y.c a1 a2) y.kU y.U y.ml y.mN y.mT
def ezj_ly (y : ezj_S) (a1 : Int) : ezj_S := ezj_mk y.y y.L y.w y.c y.kU y.U (fun m => if m = a1 then 1 else y.ml m) (fun m => if m = a1 then y.w else y.mN m) (fun m => if m = a1 then y.c else y.mT m)
def ezj_bk (y : ezj_S) (a1 : Int) : ezj_S := ezj_mk y.y y.L (y.mN a1) (y.mT a1) 0 y.U y.ml y.mN y.mT
def ezj_bg (c : Int → Int) (y : ezj_S) : ezj_S := ezj_mk (ezj_Y c) (ezj_L c) (ezn_bg (ezj_Y c)) (fun _ => 0) 0 y.U (fun _ => 0) y.mN y.mT
def ezj_ty (c : Int → Int) (y : ezj_S) : ezj_S := if ezp_tree c = 0 then ezj_bg c y else y
theorem ezj_ty0 {c : Int → Int} {y : ezj_S} (h : ezp_tree c = 0) : ezj_ty c y = ezj_bg c y := if_pos h
theorem ezj_ty1 {c : Int → Int} {y : ezj_S} (h : ezp_tree c ≠ 0) : ezj_ty c y = y := if_neg h
/-- the class stands so -/
def ezj_C (e : Bool × Bool) (y : ezj_S) (F : Nat → Nat → Int) (A : Nat → Int → Int) : Prop :=
  (ezl_TC e y.y F A ∧ ezp_B y.y ∧ ezv_CH y.L y.y (A (ezl_q e + 15)) (A (ezl_q e + 16)) ∧ ezv_LO y.L) ∧
  (ezn_C 13 y.w F ∧ ezn_B y.y y.w) ∧
  ((∀ j, 0 ≤ j → j < 8 → A 17 j = y.c j) ∧ ezn_TB y.c) ∧
  (F 18 4 = y.kU ∧ 0 ≤ y.kU ∧ y.kU ≤ 16) ∧
  ((∀ k, 0 ≤ k → k < y.kU → A 19 k = ezn_pk (y.U k)) ∧ ∀ k, 0 ≤ k → k < y.kU → ezn_B y.y (y.U k)) ∧
  (0 ≤ F 18 3 ∧ F 18 3 < 16) ∧
  (∀ m, 0 ≤ m → m < 4 → ezt_b (F 18 3) m = y.ml m) ∧
  (∀ m, 0 ≤ m → m < 4 → y.ml m = 1 → (A 20 m = ezn_pk (y.mN m) ∧ A 21 m = ezn_pt (y.mT m)) ∧ ezn_B y.y (y.mN m) ∧ ezn_TB (y.mT m))
theorem ezj_C_fr {e : Bool × Bool} {y : ezj_S} {F F' : Nat → Nat → Int} {A A' : Nat → Int → Int} (h : ezj_C e y F A) (hf : ∀ q, q = 13 ∨ 17 ≤ q ∧ q < 22 ∨ ezl_q e ≤ q ∧ q < ezl_q e + 17 → F' q = F q ∧ A' q = A q) : ezj_C e y F' A' := by
  obtain ⟨⟨h1, h2, h3, h4⟩, ⟨h5, h6⟩, ⟨h7, h8⟩, h9, ⟨h10, h11⟩, h12, h13, h14⟩ := h
  have f13 := (hf 13 (Or.inl rfl)).1
  have f18 := (hf 18 (Or.inr (Or.inl ⟨by decide, by decide⟩))).1
  have a17 := (hf 17 (Or.inr (Or.inl ⟨by decide, by decide⟩))).2
  have a19 := (hf 19 (Or.inr (Or.inl ⟨by decide, by decide⟩))).2
  have a20 := (hf 20 (Or.inr (Or.inl ⟨by decide, by decide⟩))).2
  have a21 := (hf 21 (Or.inr (Or.inl ⟨by decide, by decide⟩))).2
  have a15 := (hf (ezl_q e + 15) (Or.inr (Or.inr ⟨by omega, by omega⟩))).2
  have a16 := (hf (ezl_q e + 16) (Or.inr (Or.inr ⟨by omega, by omega⟩))).2
  refine ⟨⟨ezl_TC_fr h1 (fun q q0 q1 => hf q (Or.inr (Or.inr ⟨q0, q1⟩))), h2, by rw [a15, a16]; exact h3, h4⟩, ⟨ezn_C_f h5 (fun k _ => congrFun f13 k), h6⟩, ⟨fun j j0 j1 => by rw [a17]; exact h7 j j0 j1, h8⟩, by rw [f18]; exact h9, ⟨fun k k0 k1 => by rw [a19]; exact h10 k k0 k1, h11⟩, by rw [f18]; exact h12, fun m m0 m1 => by rw [f18]; exact h13 m m0 m1, fun m m0 m1 hm => by rw [a20, a21]; exact h14 m m0 m1 hm⟩
theorem ezj_C_f2 {e : Bool × Bool} {y : ezj_S} {F F' : Nat → Nat → Int} {A A' : Nat → Int → Int} (h : ezj_C e y F A) (hf : ∀ q, 13 ≤ q → q < 64 → F' q = F q ∧ A' q = A q) : ezj_C e y F' A' := ezj_C_fr h (fun q hq => hf q (by
    have h0 := (ezl_q_r e).1
    omega) (by
    have h0 := (ezl_q_r e).2
    omega))
theorem ezj_C_e {e e' : Bool × Bool} {y : ezj_S} {F : Nat → Nat → Int} {A : Nat → Int → Int} (h : ezj_C e y F A) (he : e'.1 = e.1) : ezj_C e' y F A := by
  have hq : ezl_q e' = ezl_q e := by
    unfold ezl_q
    rw [he]
  obtain ⟨⟨h1, h2, h3, h4⟩, h⟩ := h
  refine ⟨⟨ezl_TC_e h1 he, h2, ?_, h4⟩, h⟩
  rw [hq]
  exact h3
theorem ezj_CQ {L : ezv_LL} {y : ezp_D} {q : Nat} {A : Nat → Int → Int} (h : ezv_CH L y (A (q + 15)) (A (q + 16))) : ezn_CQ (ezn_qc L y) y q A := fun t i a f t0 t1 i0 i1 a0 a1 f0 f1 => by
  have p0 : 0 ≤ 60 * t + 6 * i + 2 * a + f := by omega
  have p1 : 60 * t + 6 * i + 2 * a + f < 60 * y.kT := by omega
  have e1 : (60 * t + 6 * i + 2 * a + f) % 60 / 6 = i := by omega
  have e2 : (60 * t + 6 * i + 2 * a + f) / 60 = t := by omega
  have e3 : (60 * t + 6 * i + 2 * a + f) % 6 / 2 = a := by omega
  have e4 : (60 * t + 6 * i + 2 * a + f) % 2 = f := by omega
  have g1 := h.1 _ p0 p1
  have g2 := h.2 _ p0 p1
  rw [e1, e2, e3, e4] at g1 g2
  exact ⟨g1.trans (if_pos rfl).symm, g2.trans (if_neg (by decide)).symm⟩
/-- the class behind a try -/
theorem ezj_C_to {e : Bool × Bool} {y : ezj_S} {w : ezn_N} {F F' : Nat → Nat → Int} {A A' : Nat → Int → Int} (h : ezj_C e y F A) (nF : ∀ p j, p ≠ 13 → ¬ (p = 18 ∧ j = 4) → F' p j = F p j) (nA : ∀ p, p ≠ 19 → A' p = A p) (hb : ezn_B y.y w) (hw : ezn_C 13 w F' ∧ F' 18 4 = ezn_pn y.kU ∧ ∀ k, 0 ≤ k → k < ezn_pn y.kU → A' 19 k = (if y.kU = 16 then (if k = 15 then ezn_pk y.w else A 19 (k + 1)) else (if k = y.kU then ezn_pk y.w else A 19 k))) : ezj_C e (ezj_to y w) F' A' := by
  obtain ⟨⟨h1, h2, h3, h4⟩, ⟨h5, h6⟩, ⟨h7, h8⟩, h9, ⟨h10, h11⟩, h12, h13, h14⟩ := h
  obtain ⟨w1, w2, w3⟩ := hw
  have hq := ezl_q_r e
  have f183 : F' 18 3 = F 18 3 := nF 18 3 (by decide) (by decide)
  have a17 := nA 17 (by decide)
  have a20 := nA 20 (by decide)
  have a21 := nA 21 (by decide)
  have a15 := nA (ezl_q e + 15) (by omega)
  have a16 := nA (ezl_q e + 16) (by omega)
  have hn : 0 ≤ ezn_pn y.kU ∧ ezn_pn y.kU ≤ 16 := by
    unfold ezn_pn
    split <;> omega
  refine ⟨⟨ezl_TC_fr h1 (fun q q0 q1 => ⟨funext (fun j => nF q j (by omega) (by omega)), nA q (by omega)⟩), h2, ?_, h4⟩, ⟨w1, hb⟩, ⟨fun j j0 j1 => ?_, h8⟩, ⟨w2, hn⟩, ⟨fun k k0 k1 => ?_, fun k k0 k1 => ezn_B_pu h6 h11 h9.2 k0 k1⟩, ?_, fun m m0 m1 => ?_, fun m m0 m1 hm => ?_⟩
  · show ezv_CH y.L y.y (A' (ezl_q e + 15)) (A' (ezl_q e + 16))
    rw [a15, a16]
    exact h3
  · show A' 17 j = y.c j
    rw [a17]
    exact h7 j j0 j1
  · rw [w3 k k0 k1]
    show _ = ezn_pk (ezn_pu y.kU y.U y.w k)
    have k1 : k < ezn_pn y.kU := k1
    unfold ezn_pn at k1
    unfold ezn_pu
    by_cases hc : y.kU = 16
    · rw [if_pos hc] at k1
      rw [if_pos hc, if_pos hc]
      by_cases hk : k = 15
      · rw [if_pos hk, if_pos hk]
      · rw [if_neg hk, if_neg hk]
        exact h10 (k + 1) (by omega) (by omega)
    · rw [if_neg hc] at k1
      rw [if_neg hc, if_neg hc]
      by_cases hk : k = y.kU
      · rw [if_pos hk, if_pos hk]
      · rw [if_neg hk, if_neg hk]
        exact h10 k k0 (by omega)
  · rw [f183]; exact h12
  · rw [f183]; exact h13 m m0 m1
  · rw [a20, a21]; exact h14 m m0 m1 hm
/-- the model stands so -/
def ezj_K (y : ezj_S) (i18 i25 : Int) (r78 r79 r80 r81 r83 r88 r89 : Int → Int) : Prop :=
  ezm_TRF y.y i18 r78 r81 r83 ∧ ezm_MF y.L r78 r79 r80 ∧ (ezn_NW y.y y.w 0 r88 ∧ ezn_B y.y y.w) ∧ (ezn_TD y.c 0 r88 ∧ ezn_TB y.c) ∧ i25 = y.kU ∧
  ((∀ k, 0 ≤ k → k < i25 → ezn_NW y.y (y.U k) (50 * k + 250) r88) ∧ ∀ k, 0 ≤ k → k < i25 → ezn_B y.y (y.U k)) ∧
  ∀ m, 0 ≤ m → m < 4 → r89 m = y.ml m ∧ (y.ml m = 1 → (ezn_NW y.y (y.mN m) (50 * m + 50) r88 ∧ ezn_TD (y.mT m) (50 * m + 50) r88 ∧ ezn_B y.y (y.mN m)) ∧ ezn_TB (y.mT m))
theorem ezj_K_88 {y : ezj_S} {i18 i25 : Int} {r78 r79 r80 r81 r83 r88 r89 x88 : Int → Int} (h : ezj_K y i18 i25 r78 r79 r80 r81 r83 r88 r89) (h25 : 0 ≤ i25 ∧ i25 ≤ 16) (hf : ∀ j, j < 1050 → x88 j = r88 j) : ezj_K y i18 i25 r78 r79 r80 r81 r83 x88 r89 := by
  obtain ⟨h1, h2, ⟨h3, h4⟩, ⟨h5, h6⟩, h7, ⟨h8, h9⟩, h10⟩ := h
  refine ⟨h1, h2, ⟨ezn_NW_f h3 h4 (fun j j0 j1 => hf j (by omega)), h4⟩, ⟨ezn_TD_f h5 (fun j j0 j1 => hf j (by omega)), h6⟩, h7, ⟨fun k k0 k1 => ezn_NW_f (h8 k k0 k1) (h9 k k0 k1) (fun j j0 j1 => hf j (by omega)), h9⟩, fun m m0 m1 => ⟨(h10 m m0 m1).1, fun hm => ?_⟩⟩
  obtain ⟨⟨q1, q2, q3⟩, q4⟩ := (h10 m m0 m1).2 hm
  exact ⟨⟨ezn_NW_f q1 q3 (fun j j0 j1 => hf j (by omega)), ezn_TD_f q2 (fun j j0 j1 => hf j (by omega)), q3⟩, q4⟩
/-- the model behind a try -/
theorem ezj_K_to {y : ezj_S} {w : ezn_N} {i18 i25 x25 : Int} {r78 r79 r80 r81 r83 r88 r89 x88 : Int → Int} (h : ezj_K y i18 i25 r78 r79 r80 r81 r83 r88 r89) (h25 : 0 ≤ i25 ∧ i25 ≤ 16) (hb : ezn_B y.y w) (hw : ezn_NW y.y w 0 x88 ∧ x25 = ezn_pn i25 ∧ ∀ k, 0 ≤ k → k < ezn_pn i25 → ezn_NW y.y (ezn_pu i25 y.U y.w k) (50 * k + 250) x88) (hf : ∀ j, 20 ≤ j → j < 250 → x88 j = r88 j) : ezj_K (ezj_to y w) i18 x25 r78 r79 r80 r81 r83 x88 r89 := by
  obtain ⟨h1, h2, ⟨h3, h4⟩, ⟨h5, h6⟩, h7, ⟨h8, h9⟩, h10⟩ := h
  obtain ⟨w1, w2, w3⟩ := hw
  subst w2
  refine ⟨h1, h2, ⟨w1, hb⟩, ⟨ezn_TD_f h5 (fun j j0 j1 => hf j (by omega) (by omega)), h6⟩, ?_, ⟨fun k k0 k1 => ?_, fun k k0 k1 => ?_⟩, fun m m0 m1 => ⟨(h10 m m0 m1).1, fun hm => ?_⟩⟩
  · show ezn_pn i25 = ezn_pn y.kU
    rw [h7]
  · show ezn_NW y.y (ezn_pu y.kU y.U y.w k) (50 * k + 250) x88
    rw [← h7]
    exact w3 k k0 k1
  · show ezn_B y.y (ezn_pu y.kU y.U y.w k)
    rw [← h7]
    exact ezn_B_pu h4 h9 h25 k0 k1
  · obtain ⟨⟨q1, q2, q3⟩, q4⟩ := (h10 m m0 m1).2 hm
    exact ⟨⟨ezn_NW_f q1 q3 (fun j j0 j1 => hf j (by omega) (by omega)), ezn_TD_f q2 (fun j j0 j1 => hf j (by omega) (by omega)), q3⟩, q4⟩

def ezl_zF : Nat → Nat → Int := fun _ _ => 0
def ezl_zA : Nat → Int → Int := fun _ _ => 0
/-- the model's cells, among all -/
def ezl_M (t : Int) (b : Int → Int) (z : ezj_S) (F : Nat → Nat → Int) (A : Nat → Int → Int) : Prop := ∃ (i0 i2 i3 i7 i8 i13 i18 i19 i20 i25 i29 i30 i31 i36 i37 i38 : Int) (r73 r74 r75 r76 r77 r78 r79 r80 r81 r82 r83 r84 r85 r86 r87 r88 r89 r90 r91 r92 r93 r94 r95 : Int → Int), (F 72 = ezm_F ezl_zF i0 i2 i3 i7 i8 i13 i18 i19 i20 i25 i29 i30 i31 i36 i37 i38 72 ∧ ∀ q, 73 ≤ q → q ≤ 95 → A q = ezm_A ezl_zA r73 r74 r75 r76 r77 r78 r79 r80 r81 r82 r83 r84 r85 r86 r87 r88 r89 r90 r91 r92 r93 r94 r95 q) ∧ ezm_T i0 i2 i3 i7 i8 i13 i18 i19 i20 i25 i29 i30 i31 i36 i37 i38 r73 r74 r75 r76 r77 r78 r79 r80 r81 r82 r83 r84 r85 r86 r87 r88 r89 r90 r91 r92 r93 r94 r95 ∧ ezm_TR r78 r79 r80 ∧ ezm_OK r78 r88 r89 i25 ∧ (i2 = t ∧ r73 = b ∧ ∀ j, 0 ≤ j → j < 48 → r77 j = ezl_mw.getD j.toNat 0) ∧ ezj_K z i18 i25 r78 r79 r80 r81 r83 r88 r89
/-- s, a: the class's tape; t, b: the model's; y, z: the trees that stand -/
def ezl_J (s : Int) (a : Int → Int) (t : Int) (b : Int → Int) (y z : ezj_S) (g : Nat → ezq_C) : Prop := ∃ (e : Bool × Bool) (F : Nat → Nat → Int) (A : Nat → Int → Int), g = ezu_g e F A ∧ ezs_T F A ∧ (F 1 2 = s ∧ A 2 = a ∧ ∀ j, 0 ≤ j → j < 48 → A 3 j = ezl_cw.getD j.toNat 0) ∧ ezj_C e y F A ∧ ezl_M t b z F A
theorem ezl_Fn {F : Nat → Nat → Int} {i0 i2 i3 i7 i8 i13 i18 i19 i20 i25 i29 i30 i31 i36 i37 i38 : Int} {q : Nat} (h : q < 72) : ezm_F F i0 i2 i3 i7 i8 i13 i18 i19 i20 i25 i29 i30 i31 i36 i37 i38 q = F q := by
  unfold ezm_F
  rw [if_neg (by omega)]
theorem ezl_An {A : Nat → Int → Int} {r73 r74 r75 r76 r77 r78 r79 r80 r81 r82 r83 r84 r85 r86 r87 r88 r89 r90 r91 r92 r93 r94 r95 : Int → Int} {q : Nat} (h : q < 72) : ezm_A A r73 r74 r75 r76 r77 r78 r79 r80 r81 r82 r83 r84 r85 r86 r87 r88 r89 r90 r91 r92 r93 r94 r95 q = A q := by
  unfold ezm_A
  split <;> first | rfl | omega
theorem ezl_Ao {A : Nat → Int → Int} {r73 r74 r75 r76 r77 r78 r79 r80 r81 r82 r83 r84 r85 r86 r87 r88 r89 r90 r91 r92 r93 r94 r95 : Int → Int} {q : Nat} (h : ¬ (73 ≤ q ∧ q ≤ 95)) : ezm_A A r73 r74 r75 r76 r77 r78 r79 r80 r81 r82 r83 r84 r85 r86 r87 r88 r89 r90 r91 r92 r93 r94 r95 q = A q := by
  unfold ezm_A
  split <;> first | rfl | omega
theorem ezl_T1 {F : Nat → Nat → Int} {A : Nat → Int → Int} {i0 i2 i3 i7 i8 i13 i18 i19 i20 i25 i29 i30 i31 i36 i37 i38 : Int} {r73 r74 r75 r76 r77 r78 r79 r80 r81 r82 r83 r84 r85 r86 r87 r88 r89 r90 r91 r92 r93 r94 r95 : Int → Int} (h : ezs_T F A) : ezs_T (ezm_F F i0 i2 i3 i7 i8 i13 i18 i19 i20 i25 i29 i30 i31 i36 i37 i38) (ezm_A A r73 r74 r75 r76 r77 r78 r79 r80 r81 r82 r83 r84 r85 r86 r87 r88 r89 r90 r91 r92 r93 r94 r95) := fun q hq => by
  rw [ezl_Fn hq, ezl_An hq]
  exact h q hq
theorem ezl_F72 {F : Nat → Nat → Int} {i0 i2 i3 i7 i8 i13 i18 i19 i20 i25 i29 i30 i31 i36 i37 i38 : Int} : ezm_F F i0 i2 i3 i7 i8 i13 i18 i19 i20 i25 i29 i30 i31 i36 i37 i38 72 = ezm_F ezl_zF i0 i2 i3 i7 i8 i13 i18 i19 i20 i25 i29 i30 i31 i36 i37 i38 72 := by
  unfold ezm_F
  rw [if_pos rfl, if_pos rfl]
theorem ezl_A95 {A : Nat → Int → Int} {r73 r74 r75 r76 r77 r78 r79 r80 r81 r82 r83 r84 r85 r86 r87 r88 r89 r90 r91 r92 r93 r94 r95 : Int → Int} {q : Nat} (h0 : 73 ≤ q) (h1 : q ≤ 95) : ezm_A A r73 r74 r75 r76 r77 r78 r79 r80 r81 r82 r83 r84 r85 r86 r87 r88 r89 r90 r91 r92 r93 r94 r95 q = ezm_A ezl_zA r73 r74 r75 r76 r77 r78 r79 r80 r81 r82 r83 r84 r85 r86 r87 r88 r89 r90 r91 r92 r93 r94 r95 q := by
  rcases (show q = 73 ∨ q = 74 ∨ q = 75 ∨ q = 76 ∨ q = 77 ∨ q = 78 ∨ q = 79 ∨ q = 80 ∨ q = 81 ∨ q = 82 ∨ q = 83 ∨ q = 84 ∨ q = 85 ∨ q = 86 ∨ q = 87 ∨ q = 88 ∨ q = 89 ∨ q = 90 ∨ q = 91 ∨ q = 92 ∨ q = 93 ∨ q = 94 ∨ q = 95 by omega) with rfl | rfl | rfl | rfl | rfl | rfl | rfl | rfl | rfl | rfl | rfl | rfl | rfl | rfl | rfl | rfl | rfl | rfl | rfl | rfl | rfl | rfl | rfl <;> rfl
theorem ezl_FM {F : Nat → Nat → Int} {i0 i2 i3 i7 i8 i13 i18 i19 i20 i25 i29 i30 i31 i36 i37 i38 : Int} (h : F 72 = ezm_F ezl_zF i0 i2 i3 i7 i8 i13 i18 i19 i20 i25 i29 i30 i31 i36 i37 i38 72) : ezm_F F i0 i2 i3 i7 i8 i13 i18 i19 i20 i25 i29 i30 i31 i36 i37 i38 = F := by
  funext q
  by_cases hq : q = 72
  · subst hq
    exact ezl_F72.trans h.symm
  · unfold ezm_F
    rw [if_neg hq]
theorem ezl_AM {A : Nat → Int → Int} {r73 r74 r75 r76 r77 r78 r79 r80 r81 r82 r83 r84 r85 r86 r87 r88 r89 r90 r91 r92 r93 r94 r95 : Int → Int} (h : ∀ q, 73 ≤ q → q ≤ 95 → A q = ezm_A ezl_zA r73 r74 r75 r76 r77 r78 r79 r80 r81 r82 r83 r84 r85 r86 r87 r88 r89 r90 r91 r92 r93 r94 r95 q) : ezm_A A r73 r74 r75 r76 r77 r78 r79 r80 r81 r82 r83 r84 r85 r86 r87 r88 r89 r90 r91 r92 r93 r94 r95 = A := by
  funext q
  by_cases hc : 73 ≤ q ∧ q ≤ 95
  · exact (ezl_A95 hc.1 hc.2).trans (h q hc.1 hc.2).symm
  · exact ezl_Ao hc
theorem ezl_Mf {t : Int} {b : Int → Int} {z : ezj_S} {F F2 : Nat → Nat → Int} {A A2 : Nat → Int → Int} (h : ezl_M t b z F A) (hf : ∀ q, 72 ≤ q → F2 q = F q ∧ A2 q = A q) : ezl_M t b z F2 A2 := by
  obtain ⟨i0, i2, i3, i7, i8, i13, i18, i19, i20, i25, i29, i30, i31, i36, i37, i38, r73, r74, r75, r76, r77, r78, r79, r80, r81, r82, r83, r84, r85, r86, r87, r88, r89, r90, r91, r92, r93, r94, r95, ⟨h1, h2⟩, h3⟩ := h
  exact ⟨i0, i2, i3, i7, i8, i13, i18, i19, i20, i25, i29, i30, i31, i36, i37, i38, r73, r74, r75, r76, r77, r78, r79, r80, r81, r82, r83, r84, r85, r86, r87, r88, r89, r90, r91, r92, r93, r94, r95, ⟨(hf 72 (by omega)).1.trans h1, fun q q0 q1 => (hf q (by omega)).2.trans (h2 q q0 q1)⟩, h3⟩
theorem ezl_pk {e : Bool × Bool} {F : Nat → Nat → Int} {A : Nat → Int → Int} {i0 i2 i3 i7 i8 i13 i18 i19 i20 i25 i29 i30 i31 i36 i37 i38 : Int} {r73 r74 r75 r76 r77 r78 r79 r80 r81 r82 r83 r84 r85 r86 r87 r88 r89 r90 r91 r92 r93 r94 r95 : Int → Int} {s : Int} {a : Int → Int} {t : Int} {b : Int → Int} {y z : ezj_S} (hS : ezs_T F A) (hs : F 1 2 = s ∧ A 2 = a ∧ ∀ j, 0 ≤ j → j < 48 → A 3 j = ezl_cw.getD j.toNat 0) (hy : ezj_C e y F A) (hT : ezm_T i0 i2 i3 i7 i8 i13 i18 i19 i20 i25 i29 i30 i31 i36 i37 i38 r73 r74 r75 r76 r77 r78 r79 r80 r81 r82 r83 r84 r85 r86 r87 r88 r89 r90 r91 r92 r93 r94 r95) (htr : ezm_TR r78 r79 r80) (hok : ezm_OK r78 r88 r89 i25) (ht : i2 = t ∧ r73 = b ∧ ∀ j, 0 ≤ j → j < 48 → r77 j = ezl_mw.getD j.toNat 0) (hz : ezj_K z i18 i25 r78 r79 r80 r81 r83 r88 r89) : ezl_J s a t b y z (ezm_h e F A i0 i2 i3 i7 i8 i13 i18 i19 i20 i25 i29 i30 i31 i36 i37 i38 r73 r74 r75 r76 r77 r78 r79 r80 r81 r82 r83 r84 r85 r86 r87 r88 r89 r90 r91 r92 r93 r94 r95) := by
  refine ⟨e, (ezm_F F i0 i2 i3 i7 i8 i13 i18 i19 i20 i25 i29 i30 i31 i36 i37 i38), (ezm_A A r73 r74 r75 r76 r77 r78 r79 r80 r81 r82 r83 r84 r85 r86 r87 r88 r89 r90 r91 r92 r93 r94 r95), rfl, ezl_T1 hS, ?_, ezj_C_f2 hy (fun q q0 q1 => ⟨ezl_Fn (by omega), ezl_An (by omega)⟩), i0, i2, i3, i7, i8, i13, i18, i19, i20, i25, i29, i30, i31, i36, i37, i38, r73, r74, r75, r76, r77, r78, r79, r80, r81, r82, r83, r84, r85, r86, r87, r88, r89, r90, r91, r92, r93, r94, r95, ⟨ezl_F72, fun q q0 q1 => ezl_A95 q0 q1⟩, hT, htr, hok, ht, hz⟩
  rw [ezl_Fn (by decide), ezl_An (by decide), ezl_An (by decide)]
  exact hs
theorem ezl_op {s : Int} {a : Int → Int} {t : Int} {b : Int → Int} {y z : ezj_S} {g : Nat → ezq_C} {Q : Prop} (hJ : ezl_J s a t b y z g) (k : ∀ (e : Bool × Bool) (F : Nat → Nat → Int) (A : Nat → Int → Int) (i0 i2 i3 i7 i8 i13 i18 i19 i20 i25 i29 i30 i31 i36 i37 i38 : Int) (r73 r74 r75 r76 r77 r78 r79 r80 r81 r82 r83 r84 r85 r86 r87 r88 r89 r90 r91 r92 r93 r94 r95 : Int → Int), g = ezm_h e F A i0 i2 i3 i7 i8 i13 i18 i19 i20 i25 i29 i30 i31 i36 i37 i38 r73 r74 r75 r76 r77 r78 r79 r80 r81 r82 r83 r84 r85 r86 r87 r88 r89 r90 r91 r92 r93 r94 r95 → ezs_T F A → (F 1 2 = s ∧ A 2 = a ∧ ∀ j, 0 ≤ j → j < 48 → A 3 j = ezl_cw.getD j.toNat 0) → ezj_C e y F A → ezm_T i0 i2 i3 i7 i8 i13 i18 i19 i20 i25 i29 i30 i31 i36 i37 i38 r73 r74 r75 r76 r77 r78 r79 r80 r81 r82 r83 r84 r85 r86 r87 r88 r89 r90 r91 r92 r93 r94 r95 → ezm_TR r78 r79 r80 → ezm_OK r78 r88 r89 i25 → (i2 = t ∧ r73 = b ∧ ∀ j, 0 ≤ j → j < 48 → r77 j = ezl_mw.getD j.toNat 0) → ezj_K z i18 i25 r78 r79 r80 r81 r83 r88 r89 → Q) : Q := by
  obtain ⟨e, F, A, hg, hS, hs, hy, i0, i2, i3, i7, i8, i13, i18, i19, i20, i25, i29, i30, i31, i36, i37, i38, r73, r74, r75, r76, r77, r78, r79, r80, r81, r82, r83, r84, r85, r86, r87, r88, r89, r90, r91, r92, r93, r94, r95, ⟨h1, h2⟩, hT, htr, hok, ht, hz⟩ := hJ
  refine k e F A i0 i2 i3 i7 i8 i13 i18 i19 i20 i25 i29 i30 i31 i36 i37 i38 r73 r74 r75 r76 r77 r78 r79 r80 r81 r82 r83 r84 r85 r86 r87 r88 r89 r90 r91 r92 r93 r94 r95 ?_ hS hs hy hT htr hok ht hz
  show g = ezu_g e (ezm_F F i0 i2 i3 i7 i8 i13 i18 i19 i20 i25 i29 i30 i31 i36 i37 i38) (ezm_A A r73 r74 r75 r76 r77 r78 r79 r80 r81 r82 r83 r84 r85 r86 r87 r88 r89 r90 r91 r92 r93 r94 r95)
  rw [ezl_FM h1, ezl_AM h2]
  exact hg
def ezl_fz : Nat → Bool := fun q => Nat.ble 72 q || (Nat.beq q 1 || (Nat.beq q 2 || (Nat.beq q 3 || (Nat.beq q 13 || ((Nat.ble 17 q && Nat.ble q 21) || (Nat.ble 30 q && Nat.ble q 63))))))
theorem ezl_fz0 : ∀ q, 14 ≤ q ∧ q < 17 ∨ 22 ≤ q ∧ q < 30 → ezl_fz q = false := fun q h => by
  unfold ezl_fz
  rw [ezt_bleF (show q < 72 by omega), ezw_beqF (by omega), ezw_beqF (by omega), ezw_beqF (by omega), ezw_beqF (by omega), ezt_bleF (show q < 30 by omega)]
  rcases h with h | h
  · rw [ezt_bleF (show q < 17 by omega)]
    rfl
  · rw [ezt_bleF (show 21 < q by omega), Bool.and_false]
    rfl
theorem ezl_fzC {q : Nat} (h : q = 13 ∨ 17 ≤ q ∧ q < 22 ∨ 30 ≤ q ∧ q < 64) : ezl_fz q = true := by
  unfold ezl_fz
  rcases h with h | h | h
  · subst h
    rfl
  · rw [Nat.ble_eq_true_of_le h.1, Nat.ble_eq_true_of_le (show q ≤ 21 by omega)]
    simp
  · rw [Nat.ble_eq_true_of_le h.1, Nat.ble_eq_true_of_le (show q ≤ 63 by omega)]
    simp
theorem ezl_fzT {q : Nat} (h : 72 ≤ q) : ezl_fz q = true := by
  unfold ezl_fz
  rw [Nat.ble_eq_true_of_le h]
  rfl
theorem ezl_fz1 : ezl_fz 1 = true := rfl
theorem ezl_fz2 : ezl_fz 2 = true := rfl
theorem ezl_fz3 : ezl_fz 3 = true := rfl
/-- behind a call of the class that leaves the tape -/
theorem ezl_b {e : Bool × Bool} {F : Nat → Nat → Int} {A : Nat → Int → Int} {s : Int} {a : Int → Int} {t : Int} {b : Int → Int} {y z : ezj_S} {R : Option ezq_V → Prop} (hs : F 1 2 = s ∧ A 2 = a ∧ ∀ j, 0 ≤ j → j < 48 → A 3 j = ezl_cw.getD j.toNat 0) (hy : ezj_C e y F A) (hM : ezl_M t b z F A) (hR : ∀ v, R v → ∃ u, some (ezw_i u) = v) {v : Option ezq_V} {g' : Nat → ezq_C} (h : ezs_P e ezl_fz F A R v g') : (∃ u, some (ezw_i u) = v) ∧ ezl_J s a t b y z g' := by
  obtain ⟨⟨F2, A2, rfl, hI⟩, hv⟩ := h
  refine ⟨hR v hv, e, F2, A2, rfl, hI.1, ?_, ezj_C_fr hy (fun q hq => hI.2 q (ezl_fzC (by
      have h0 := ezl_q_r e
      omega))), ezl_Mf hM (fun q hq => hI.2 q (ezl_fzT hq))⟩
  rw [(hI.2 1 ezl_fz1).1, (hI.2 2 ezl_fz2).2, (hI.2 3 ezl_fz3).2]
  exact hs
theorem ezl_bp {e : Bool × Bool} {F : Nat → Nat → Int} {A : Nat → Int → Int} {s : Int} {a : Int → Int} {t : Int} {b : Int → Int} {y z : ezj_S} {R : Option ezq_V → Prop} (hS : ezs_T F A) (hs : F 1 2 = s ∧ A 2 = a ∧ ∀ j, 0 ≤ j → j < 48 → A 3 j = ezl_cw.getD j.toNat 0) (hy : ezj_C e y F A) (hM : ezl_M t b z F A) (hR : ∀ v, R v → ∃ u, some (ezw_i u) = v) {v : Option ezq_V} {g' : Nat → ezq_C} (h : ezs_Pp e F A R v g') : (∃ u, some (ezw_i u) = v) ∧ ezl_J s a t b y z g' := by
  obtain ⟨rfl, hv⟩ := h
  exact ⟨hR v hv, e, F, A, rfl, hS, hs, hy, hM⟩
theorem ezl_ri : ∀ v, ezs_ri v → ∃ u, some (ezw_i u) = v := fun v h => by
  obtain ⟨i, _, hi⟩ := h
  exact ⟨i, hi⟩
theorem ezl_x0 {s : Int} {a : Int → Int} {t : Int} {b : Int → Int} {y z : ezj_S} {g : Nat → ezq_C} (h : ezl_J s a t b y z g) : ∃ fs, g 0 = ezw_co 11 fs := by
  obtain ⟨e, F, A, rfl, -⟩ := h
  exact ⟨_, rfl⟩
theorem ezl_m0 {s : Int} {a : Int → Int} {t : Int} {b : Int → Int} {y z : ezj_S} {g : Nat → ezq_C} (h : ezl_J s a t b y z g) : ∃ fs, g 72 = ezw_co 12 fs := by
  obtain ⟨e, F, A, rfl, -⟩ := h
  exact ⟨_, rfl⟩
theorem ezl_hz {s : Int} {a : Int → Int} {t : Int} {b : Int → Int} {y z : ezj_S} {g : Nat → ezq_C} (h : ezl_J s a t b y z g) : ezv_LO y.L ∧ ezp_B y.y := by
  obtain ⟨e, F, A, rfl, -, -, hC, -⟩ := h
  exact ⟨hC.1.2.2.2, hC.1.2.1⟩
