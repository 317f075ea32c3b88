/-! ===== what holds between the calls of the law ===== -/
def ezl_zF : Nat → Nat → Int := fun _ _ => 0
def ezl_zA : Nat → Int → Int := fun _ _ => 0
/-- the model's cells, among all -/
def ezl_M (t : Int) (b : Int → Int) (z : ezp_D) (F : Nat → Nat → Int) (A : Nat → Int → Int) : Prop := ∃ (i0 i2 i3 i7 i8 i13 i18 i19 i20 i25 i29 i30 i31 i36 i37 i38 : Int) (r73 r74 r75 r76 r77 r78 r79 r80 r81 r82 r83 r84 r85 r86 r87 r88 r89 r90 r91 r92 r93 r94 r95 : Int → Int), (F 72 = ezm_F ezl_zF i0 i2 i3 i7 i8 i13 i18 i19 i20 i25 i29 i30 i31 i36 i37 i38 72 ∧ ∀ q, 73 ≤ q → q ≤ 95 → A q = ezm_A ezl_zA r73 r74 r75 r76 r77 r78 r79 r80 r81 r82 r83 r84 r85 r86 r87 r88 r89 r90 r91 r92 r93 r94 r95 q) ∧ ezm_T i0 i2 i3 i7 i8 i13 i18 i19 i20 i25 i29 i30 i31 i36 i37 i38 r73 r74 r75 r76 r77 r78 r79 r80 r81 r82 r83 r84 r85 r86 r87 r88 r89 r90 r91 r92 r93 r94 r95 ∧ ezm_TR r78 r79 r80 ∧ ezm_OK r78 r88 r89 i25 ∧ (i2 = t ∧ r73 = b ∧ ∀ j, 0 ≤ j → j < 48 → r77 j = ezl_mw.getD j.toNat 0) ∧ ezm_TRF z i18 r78 r81 r83
/-- s, a: the class's tape; t, b: the model's; y, z: the trees that stand -/
def ezl_J (s : Int) (a : Int → Int) (t : Int) (b : Int → Int) (y z : ezp_D) (g : Nat → ezq_C) : Prop := ∃ (e : Bool × Bool) (F : Nat → Nat → Int) (A : Nat → Int → Int), g = ezu_g e F A ∧ ezs_T F A ∧ (F 1 2 = s ∧ A 2 = a ∧ ∀ j, 0 ≤ j → j < 48 → A 3 j = ezl_cw.getD j.toNat 0) ∧ ezl_TC e y F A ∧ ezl_M t b z F A
theorem ezl_Fn {F : Nat → Nat → Int} {i0 i2 i3 i7 i8 i13 i18 i19 i20 i25 i29 i30 i31 i36 i37 i38 : Int} {q : Nat} (h : q < 72) : ezm_F F i0 i2 i3 i7 i8 i13 i18 i19 i20 i25 i29 i30 i31 i36 i37 i38 q = F q := by
  unfold ezm_F
  rw [if_neg (by omega)]
theorem ezl_An {A : Nat → Int → Int} {r73 r74 r75 r76 r77 r78 r79 r80 r81 r82 r83 r84 r85 r86 r87 r88 r89 r90 r91 r92 r93 r94 r95 : Int → Int} {q : Nat} (h : q < 72) : ezm_A A r73 r74 r75 r76 r77 r78 r79 r80 r81 r82 r83 r84 r85 r86 r87 r88 r89 r90 r91 r92 r93 r94 r95 q = A q := by
  unfold ezm_A
  split <;> first | rfl | omega
theorem ezl_Ao {A : Nat → Int → Int} {r73 r74 r75 r76 r77 r78 r79 r80 r81 r82 r83 r84 r85 r86 r87 r88 r89 r90 r91 r92 r93 r94 r95 : Int → Int} {q : Nat} (h : ¬ (73 ≤ q ∧ q ≤ 95)) : ezm_A A r73 r74 r75 r76 r77 r78 r79 r80 r81 r82 r83 r84 r85 r86 r87 r88 r89 r90 r91 r92 r93 r94 r95 q = A q := by
  unfold ezm_A
  split <;> first | rfl | omega
theorem ezl_T1 {F : Nat → Nat → Int} {A : Nat → Int → Int} {i0 i2 i3 i7 i8 i13 i18 i19 i20 i25 i29 i30 i31 i36 i37 i38 : Int} {r73 r74 r75 r76 r77 r78 r79 r80 r81 r82 r83 r84 r85 r86 r87 r88 r89 r90 r91 r92 r93 r94 r95 : Int → Int} (h : ezs_T F A) : ezs_T (ezm_F F i0 i2 i3 i7 i8 i13 i18 i19 i20 i25 i29 i30 i31 i36 i37 i38) (ezm_A A r73 r74 r75 r76 r77 r78 r79 r80 r81 r82 r83 r84 r85 r86 r87 r88 r89 r90 r91 r92 r93 r94 r95) := fun q hq => by
  rw [ezl_Fn hq, ezl_An hq]
  exact h q hq
theorem ezl_F72 {F : Nat → Nat → Int} {i0 i2 i3 i7 i8 i13 i18 i19 i20 i25 i29 i30 i31 i36 i37 i38 : Int} : ezm_F F i0 i2 i3 i7 i8 i13 i18 i19 i20 i25 i29 i30 i31 i36 i37 i38 72 = ezm_F ezl_zF i0 i2 i3 i7 i8 i13 i18 i19 i20 i25 i29 i30 i31 i36 i37 i38 72 := by
  unfold ezm_F
  rw [if_pos rfl, if_pos rfl]
theorem ezl_A95 {A : Nat → Int → Int} {r73 r74 r75 r76 r77 r78 r79 r80 r81 r82 r83 r84 r85 r86 r87 r88 r89 r90 r91 r92 r93 r94 r95 : Int → Int} {q : Nat} (h0 : 73 ≤ q) (h1 : q ≤ 95) : ezm_A A r73 r74 r75 r76 r77 r78 r79 r80 r81 r82 r83 r84 r85 r86 r87 r88 r89 r90 r91 r92 r93 r94 r95 q = ezm_A ezl_zA r73 r74 r75 r76 r77 r78 r79 r80 r81 r82 r83 r84 r85 r86 r87 r88 r89 r90 r91 r92 r93 r94 r95 q := by
  rcases (show q = 73 ∨ q = 74 ∨ q = 75 ∨ q = 76 ∨ q = 77 ∨ q = 78 ∨ q = 79 ∨ q = 80 ∨ q = 81 ∨ q = 82 ∨ q = 83 ∨ q = 84 ∨ q = 85 ∨ q = 86 ∨ q = 87 ∨ q = 88 ∨ q = 89 ∨ q = 90 ∨ q = 91 ∨ q = 92 ∨ q = 93 ∨ q = 94 ∨ q = 95 by omega) with rfl | rfl | rfl | rfl | rfl | rfl | rfl | rfl | rfl | rfl | rfl | rfl | rfl | rfl | rfl | rfl | rfl | rfl | rfl | rfl | rfl | rfl | rfl <;> rfl
theorem ezl_FM {F : Nat → Nat → Int} {i0 i2 i3 i7 i8 i13 i18 i19 i20 i25 i29 i30 i31 i36 i37 i38 : Int} (h : F 72 = ezm_F ezl_zF i0 i2 i3 i7 i8 i13 i18 i19 i20 i25 i29 i30 i31 i36 i37 i38 72) : ezm_F F i0 i2 i3 i7 i8 i13 i18 i19 i20 i25 i29 i30 i31 i36 i37 i38 = F := by
  funext q
  by_cases hq : q = 72
  · subst hq
    exact ezl_F72.trans h.symm
  · unfold ezm_F
    rw [if_neg hq]
theorem ezl_AM {A : Nat → Int → Int} {r73 r74 r75 r76 r77 r78 r79 r80 r81 r82 r83 r84 r85 r86 r87 r88 r89 r90 r91 r92 r93 r94 r95 : Int → Int} (h : ∀ q, 73 ≤ q → q ≤ 95 → A q = ezm_A ezl_zA r73 r74 r75 r76 r77 r78 r79 r80 r81 r82 r83 r84 r85 r86 r87 r88 r89 r90 r91 r92 r93 r94 r95 q) : ezm_A A r73 r74 r75 r76 r77 r78 r79 r80 r81 r82 r83 r84 r85 r86 r87 r88 r89 r90 r91 r92 r93 r94 r95 = A := by
  funext q
  by_cases hc : 73 ≤ q ∧ q ≤ 95
  · exact (ezl_A95 hc.1 hc.2).trans (h q hc.1 hc.2).symm
  · exact ezl_Ao hc
theorem ezl_Mf {t : Int} {b : Int → Int} {z : ezp_D} {F F2 : Nat → Nat → Int} {A A2 : Nat → Int → Int} (h : ezl_M t b z F A) (hf : ∀ q, 72 ≤ q → F2 q = F q ∧ A2 q = A q) : ezl_M t b z F2 A2 := by
  obtain ⟨i0, i2, i3, i7, i8, i13, i18, i19, i20, i25, i29, i30, i31, i36, i37, i38, r73, r74, r75, r76, r77, r78, r79, r80, r81, r82, r83, r84, r85, r86, r87, r88, r89, r90, r91, r92, r93, r94, r95, ⟨h1, h2⟩, h3⟩ := h
  exact ⟨i0, i2, i3, i7, i8, i13, i18, i19, i20, i25, i29, i30, i31, i36, i37, i38, r73, r74, r75, r76, r77, r78, r79, r80, r81, r82, r83, r84, r85, r86, r87, r88, r89, r90, r91, r92, r93, r94, r95, ⟨(hf 72 (by omega)).1.trans h1, fun q q0 q1 => (hf q (by omega)).2.trans (h2 q q0 q1)⟩, h3⟩
theorem ezl_pk {e : Bool × Bool} {F : Nat → Nat → Int} {A : Nat → Int → Int} {i0 i2 i3 i7 i8 i13 i18 i19 i20 i25 i29 i30 i31 i36 i37 i38 : Int} {r73 r74 r75 r76 r77 r78 r79 r80 r81 r82 r83 r84 r85 r86 r87 r88 r89 r90 r91 r92 r93 r94 r95 : Int → Int} {s : Int} {a : Int → Int} {t : Int} {b : Int → Int} {y z : ezp_D} (hS : ezs_T F A) (hs : F 1 2 = s ∧ A 2 = a ∧ ∀ j, 0 ≤ j → j < 48 → A 3 j = ezl_cw.getD j.toNat 0) (hy : ezl_TC e y F A) (hT : ezm_T i0 i2 i3 i7 i8 i13 i18 i19 i20 i25 i29 i30 i31 i36 i37 i38 r73 r74 r75 r76 r77 r78 r79 r80 r81 r82 r83 r84 r85 r86 r87 r88 r89 r90 r91 r92 r93 r94 r95) (htr : ezm_TR r78 r79 r80) (hok : ezm_OK r78 r88 r89 i25) (ht : i2 = t ∧ r73 = b ∧ ∀ j, 0 ≤ j → j < 48 → r77 j = ezl_mw.getD j.toNat 0) (hz : ezm_TRF z i18 r78 r81 r83) : ezl_J s a t b y z (ezm_h e F A i0 i2 i3 i7 i8 i13 i18 i19 i20 i25 i29 i30 i31 i36 i37 i38 r73 r74 r75 r76 r77 r78 r79 r80 r81 r82 r83 r84 r85 r86 r87 r88 r89 r90 r91 r92 r93 r94 r95) := by
  refine ⟨e, (ezm_F F i0 i2 i3 i7 i8 i13 i18 i19 i20 i25 i29 i30 i31 i36 i37 i38), (ezm_A A r73 r74 r75 r76 r77 r78 r79 r80 r81 r82 r83 r84 r85 r86 r87 r88 r89 r90 r91 r92 r93 r94 r95), rfl, ezl_T1 hS, ?_, ezl_TC_f2 hy (fun q q0 q1 => ⟨ezl_Fn (by omega), ezl_An (by omega)⟩), i0, i2, i3, i7, i8, i13, i18, i19, i20, i25, i29, i30, i31, i36, i37, i38, r73, r74, r75, r76, r77, r78, r79, r80, r81, r82, r83, r84, r85, r86, r87, r88, r89, r90, r91, r92, r93, r94, r95, ⟨ezl_F72, fun q q0 q1 => ezl_A95 q0 q1⟩, hT, htr, hok, ht, hz⟩
  rw [ezl_Fn (by decide), ezl_An (by decide), ezl_An (by decide)]
  exact hs
theorem ezl_op {s : Int} {a : Int → Int} {t : Int} {b : Int → Int} {y z : ezp_D} {g : Nat → ezq_C} {Q : Prop} (hJ : ezl_J s a t b y z g) (k : ∀ (e : Bool × Bool) (F : Nat → Nat → Int) (A : Nat → Int → Int) (i0 i2 i3 i7 i8 i13 i18 i19 i20 i25 i29 i30 i31 i36 i37 i38 : Int) (r73 r74 r75 r76 r77 r78 r79 r80 r81 r82 r83 r84 r85 r86 r87 r88 r89 r90 r91 r92 r93 r94 r95 : Int → Int), g = ezm_h e F A i0 i2 i3 i7 i8 i13 i18 i19 i20 i25 i29 i30 i31 i36 i37 i38 r73 r74 r75 r76 r77 r78 r79 r80 r81 r82 r83 r84 r85 r86 r87 r88 r89 r90 r91 r92 r93 r94 r95 → ezs_T F A → (F 1 2 = s ∧ A 2 = a ∧ ∀ j, 0 ≤ j → j < 48 → A 3 j = ezl_cw.getD j.toNat 0) → ezl_TC e y F A → ezm_T i0 i2 i3 i7 i8 i13 i18 i19 i20 i25 i29 i30 i31 i36 i37 i38 r73 r74 r75 r76 r77 r78 r79 r80 r81 r82 r83 r84 r85 r86 r87 r88 r89 r90 r91 r92 r93 r94 r95 → ezm_TR r78 r79 r80 → ezm_OK r78 r88 r89 i25 → (i2 = t ∧ r73 = b ∧ ∀ j, 0 ≤ j → j < 48 → r77 j = ezl_mw.getD j.toNat 0) → ezm_TRF z i18 r78 r81 r83 → Q) : Q := by
  obtain ⟨e, F, A, hg, hS, hs, hy, i0, i2, i3, i7, i8, i13, i18, i19, i20, i25, i29, i30, i31, i36, i37, i38, r73, r74, r75, r76, r77, r78, r79, r80, r81, r82, r83, r84, r85, r86, r87, r88, r89, r90, r91, r92, r93, r94, r95, ⟨h1, h2⟩, hT, htr, hok, ht, hz⟩ := hJ
  refine k e F A i0 i2 i3 i7 i8 i13 i18 i19 i20 i25 i29 i30 i31 i36 i37 i38 r73 r74 r75 r76 r77 r78 r79 r80 r81 r82 r83 r84 r85 r86 r87 r88 r89 r90 r91 r92 r93 r94 r95 ?_ hS hs hy hT htr hok ht hz
  show g = ezu_g e (ezm_F F i0 i2 i3 i7 i8 i13 i18 i19 i20 i25 i29 i30 i31 i36 i37 i38) (ezm_A A r73 r74 r75 r76 r77 r78 r79 r80 r81 r82 r83 r84 r85 r86 r87 r88 r89 r90 r91 r92 r93 r94 r95)
  rw [ezl_FM h1, ezl_AM h2]
  exact hg
def ezl_fz : Nat → Bool := fun q => Nat.ble 72 q || (Nat.beq q 1 || (Nat.beq q 2 || (Nat.beq q 3 || (Nat.ble 30 q && Nat.ble q 63))))
theorem ezl_fz0 : ∀ q, 13 ≤ q → q < 30 → ezl_fz q = false := fun q h0 h1 => by
  unfold ezl_fz
  rw [ezt_bleF (show q < 72 by omega), ezw_beqF (by omega), ezw_beqF (by omega), ezw_beqF (by omega), ezt_bleF (show q < 30 by omega)]
  rfl
theorem ezl_fzQ {q : Nat} (h0 : 30 ≤ q) (h1 : q < 64) : ezl_fz q = true := by
  unfold ezl_fz
  rw [Nat.ble_eq_true_of_le h0, Nat.ble_eq_true_of_le (show q ≤ 63 by omega)]
  simp
theorem ezl_fzT {q : Nat} (h : 72 ≤ q) : ezl_fz q = true := by
  unfold ezl_fz
  rw [Nat.ble_eq_true_of_le h]
  rfl
theorem ezl_fz1 : ezl_fz 1 = true := rfl
theorem ezl_fz2 : ezl_fz 2 = true := rfl
theorem ezl_fz3 : ezl_fz 3 = true := rfl
/-- behind a call of the class that leaves the tape -/
theorem ezl_b {e : Bool × Bool} {F : Nat → Nat → Int} {A : Nat → Int → Int} {s : Int} {a : Int → Int} {t : Int} {b : Int → Int} {y z : ezp_D} {R : Option ezq_V → Prop} (hs : F 1 2 = s ∧ A 2 = a ∧ ∀ j, 0 ≤ j → j < 48 → A 3 j = ezl_cw.getD j.toNat 0) (hy : ezl_TC e y F A) (hM : ezl_M t b z F A) (hR : ∀ v, R v → ∃ u, some (ezw_i u) = v) {v : Option ezq_V} {g' : Nat → ezq_C} (h : ezs_P e ezl_fz F A R v g') : (∃ u, some (ezw_i u) = v) ∧ ezl_J s a t b y z g' := by
  obtain ⟨⟨F2, A2, rfl, hI⟩, hv⟩ := h
  refine ⟨hR v hv, e, F2, A2, rfl, hI.1, ?_, ezl_TC_f2 hy (fun q q0 q1 => hI.2 q (ezl_fzQ q0 q1)), ezl_Mf hM (fun q hq => hI.2 q (ezl_fzT hq))⟩
  rw [(hI.2 1 ezl_fz1).1, (hI.2 2 ezl_fz2).2, (hI.2 3 ezl_fz3).2]
  exact hs
theorem ezl_bp {e : Bool × Bool} {F : Nat → Nat → Int} {A : Nat → Int → Int} {s : Int} {a : Int → Int} {t : Int} {b : Int → Int} {y z : ezp_D} {R : Option ezq_V → Prop} (hS : ezs_T F A) (hs : F 1 2 = s ∧ A 2 = a ∧ ∀ j, 0 ≤ j → j < 48 → A 3 j = ezl_cw.getD j.toNat 0) (hy : ezl_TC e y F A) (hM : ezl_M t b z F A) (hR : ∀ v, R v → ∃ u, some (ezw_i u) = v) {v : Option ezq_V} {g' : Nat → ezq_C} (h : ezs_Pp e F A R v g') : (∃ u, some (ezw_i u) = v) ∧ ezl_J s a t b y z g' := by
  obtain ⟨rfl, hv⟩ := h
  exact ⟨hR v hv, e, F, A, rfl, hS, hs, hy, hM⟩
theorem ezl_be {F : Nat → Nat → Int} {A : Nat → Int → Int} {t : Int} {b : Int → Int} {y' z : ezp_D} {R : Option ezq_V → Prop} {X : (Bool × Bool) → (Nat → Nat → Int) → (Nat → Int → Int) → Prop} (hX : ∀ e' F' A', X e' F' A' → ezl_TC e' y' F' A') (hM : ezl_M t b z F A) (hw : ∀ j, 0 ≤ j → j < 48 → A 3 j = ezl_cw.getD j.toNat 0) {v : Option ezq_V} {g' : Nat → ezq_C} (h : ezt_Pz F A R X v g') : R v ∧ ∃ a', ezl_J 0 a' t b y' z g' := by
  obtain ⟨hR, e2, F2, A2, rfl, hS, h0, h3, h7, hx⟩ := h
  exact ⟨hR, A2 2, e2, F2, A2, rfl, hS, ⟨h0, rfl, by rw [h3]; exact hw⟩, hX _ _ _ hx, ezl_Mf hM h7⟩
theorem ezl_ri : ∀ v, ezs_ri v → ∃ u, some (ezw_i u) = v := fun v h => by
  obtain ⟨i, _, hi⟩ := h
  exact ⟨i, hi⟩
theorem ezl_rz : ∀ v, ezs_rz v → ∃ u, some (ezw_i u) = v := fun v h => by
  obtain ⟨i, _, hi⟩ := h
  exact ⟨i, hi⟩
theorem ezl_x0 {s : Int} {a : Int → Int} {t : Int} {b : Int → Int} {y z : ezp_D} {g : Nat → ezq_C} (h : ezl_J s a t b y z g) : ∃ fs, g 0 = ezw_co 11 fs := by
  obtain ⟨e, F, A, rfl, -⟩ := h
  exact ⟨_, rfl⟩
theorem ezl_m0 {s : Int} {a : Int → Int} {t : Int} {b : Int → Int} {y z : ezp_D} {g : Nat → ezq_C} (h : ezl_J s a t b y z g) : ∃ fs, g 72 = ezw_co 12 fs := by
  obtain ⟨e, F, A, rfl, -⟩ := h
  exact ⟨_, rfl⟩
