/-! ===== what holds between the calls of the law ===== -/
/-- s, a: the class's tape; t, b: the model's -/
def ezl_J (s : Int) (a : Int → Int) (t : Int) (b : Int → Int) (g : Nat → ezq_C) : Prop := ∃ (e : Bool × Bool) (F : Nat → Nat → Int) (A : Nat → Int → Int) (i0 i2 i3 i7 i8 i13 i18 i19 i20 i25 i29 i30 i31 i36 i37 i38 : Int) (r73 r74 r75 r76 r77 r78 r79 r80 r81 r82 r83 r84 r85 r86 r87 r88 r89 r90 r91 r92 r93 r94 r95 : Int → Int), g = ezm_h e F A i0 i2 i3 i7 i8 i13 i18 i19 i20 i25 i29 i30 i31 i36 i37 i38 r73 r74 r75 r76 r77 r78 r79 r80 r81 r82 r83 r84 r85 r86 r87 r88 r89 r90 r91 r92 r93 r94 r95 ∧ ezs_T F A ∧ ezm_T i0 i2 i3 i7 i8 i13 i18 i19 i20 i25 i29 i30 i31 i36 i37 i38 r73 r74 r75 r76 r77 r78 r79 r80 r81 r82 r83 r84 r85 r86 r87 r88 r89 r90 r91 r92 r93 r94 r95 ∧ ezm_TR r78 r79 r80 ∧ ezm_OK r78 r88 r89 i25 ∧ (F 1 2 = s ∧ A 2 = a ∧ ∀ j, 0 ≤ j → j < 48 → A 3 j = ezl_cw.getD j.toNat 0) ∧ (i2 = t ∧ r73 = b ∧ ∀ j, 0 ≤ j → j < 48 → r77 j = ezl_mw.getD j.toNat 0)
theorem ezl_Fn {F : Nat → Nat → Int} {i0 i2 i3 i7 i8 i13 i18 i19 i20 i25 i29 i30 i31 i36 i37 i38 : Int} {q : Nat} (h : q < 72) : ezm_F F i0 i2 i3 i7 i8 i13 i18 i19 i20 i25 i29 i30 i31 i36 i37 i38 q = F q := by
  unfold ezm_F
  rw [if_neg (by omega)]
theorem ezl_An {A : Nat → Int → Int} {r73 r74 r75 r76 r77 r78 r79 r80 r81 r82 r83 r84 r85 r86 r87 r88 r89 r90 r91 r92 r93 r94 r95 : Int → Int} {q : Nat} (h : q < 72) : ezm_A A r73 r74 r75 r76 r77 r78 r79 r80 r81 r82 r83 r84 r85 r86 r87 r88 r89 r90 r91 r92 r93 r94 r95 q = A q := by
  unfold ezm_A
  split <;> first | rfl | omega
theorem ezl_Ao {A : Nat → Int → Int} {r73 r74 r75 r76 r77 r78 r79 r80 r81 r82 r83 r84 r85 r86 r87 r88 r89 r90 r91 r92 r93 r94 r95 : Int → Int} {q : Nat} (h : ¬ (73 ≤ q ∧ q ≤ 95)) : ezm_A A r73 r74 r75 r76 r77 r78 r79 r80 r81 r82 r83 r84 r85 r86 r87 r88 r89 r90 r91 r92 r93 r94 r95 q = A q := by
  unfold ezm_A
  split <;> first | rfl | omega
theorem ezl_T1 {F : Nat → Nat → Int} {A : Nat → Int → Int} {i0 i2 i3 i7 i8 i13 i18 i19 i20 i25 i29 i30 i31 i36 i37 i38 : Int} {r73 r74 r75 r76 r77 r78 r79 r80 r81 r82 r83 r84 r85 r86 r87 r88 r89 r90 r91 r92 r93 r94 r95 : Int → Int} (h : ezs_T F A) : ezs_T (ezm_F F i0 i2 i3 i7 i8 i13 i18 i19 i20 i25 i29 i30 i31 i36 i37 i38) (ezm_A A r73 r74 r75 r76 r77 r78 r79 r80 r81 r82 r83 r84 r85 r86 r87 r88 r89 r90 r91 r92 r93 r94 r95) := fun q hq => by
  rw [ezl_Fn hq, ezl_An hq]
  exact h q hq
theorem ezl_h {e : Bool × Bool} {F F2 : Nat → Nat → Int} {A A2 : Nat → Int → Int} {i0 i2 i3 i7 i8 i13 i18 i19 i20 i25 i29 i30 i31 i36 i37 i38 : Int} {r73 r74 r75 r76 r77 r78 r79 r80 r81 r82 r83 r84 r85 r86 r87 r88 r89 r90 r91 r92 r93 r94 r95 : Int → Int} (h : ∀ q, 72 ≤ q → F2 q = (ezm_F F i0 i2 i3 i7 i8 i13 i18 i19 i20 i25 i29 i30 i31 i36 i37 i38) q ∧ A2 q = (ezm_A A r73 r74 r75 r76 r77 r78 r79 r80 r81 r82 r83 r84 r85 r86 r87 r88 r89 r90 r91 r92 r93 r94 r95) q) : ezu_g e F2 A2 = ezm_h e F2 A2 i0 i2 i3 i7 i8 i13 i18 i19 i20 i25 i29 i30 i31 i36 i37 i38 r73 r74 r75 r76 r77 r78 r79 r80 r81 r82 r83 r84 r85 r86 r87 r88 r89 r90 r91 r92 r93 r94 r95 := by
  funext q
  unfold ezm_h ezu_g
  by_cases hq : q < 72
  · rw [ezl_Fn hq, ezl_An hq]
  · have h1 := h q (by omega)
    rw [h1.1, h1.2]
    congr 1
    · unfold ezm_F
      by_cases h72 : q = 72
      · rw [if_pos h72, if_pos h72]
      · rw [if_neg h72, if_neg h72]
        have h3 := h1.1
        unfold ezm_F at h3
        rw [if_neg h72] at h3
        exact h3.symm
    · by_cases hc : 73 ≤ q ∧ q ≤ 95
      · rcases (show q = 73 ∨ q = 74 ∨ q = 75 ∨ q = 76 ∨ q = 77 ∨ q = 78 ∨ q = 79 ∨ q = 80 ∨ q = 81 ∨ q = 82 ∨ q = 83 ∨ q = 84 ∨ q = 85 ∨ q = 86 ∨ q = 87 ∨ q = 88 ∨ q = 89 ∨ q = 90 ∨ q = 91 ∨ q = 92 ∨ q = 93 ∨ q = 94 ∨ q = 95 by omega) with rfl | rfl | rfl | rfl | rfl | rfl | rfl | rfl | rfl | rfl | rfl | rfl | rfl | rfl | rfl | rfl | rfl | rfl | rfl | rfl | rfl | rfl | rfl <;> rfl
      · rw [ezl_Ao hc, ezl_Ao hc]
        exact (h1.2.trans (ezl_Ao hc)).symm
def ezl_fy : Nat → Bool := fun q => Nat.ble 72 q
def ezl_fz : Nat → Bool := fun q => Nat.ble 72 q || (Nat.beq q 1 || (Nat.beq q 2 || Nat.beq q 3))
theorem ezl_fy0 {q : Nat} (h : q < 72) : ezl_fy q = false := by
  unfold ezl_fy
  cases hb : Nat.ble 72 q
  · rfl
  · exact absurd (Nat.le_of_ble_eq_true hb) (by omega)
theorem ezl_fz0 : ∀ q, 4 ≤ q → q < 72 → ezl_fz q = false := fun q h0 h1 => by
  unfold ezl_fz
  have h2 : Nat.ble 72 q = false := ezl_fy0 h1
  rw [h2, ezw_beqF (by omega), ezw_beqF (by omega), ezw_beqF (by omega)]
  rfl
theorem ezl_fyT {q : Nat} (h : 72 ≤ q) : ezl_fy q = true := Nat.ble_eq_true_of_le h
theorem ezl_fzT {q : Nat} (h : 72 ≤ q) : ezl_fz q = true := by
  unfold ezl_fz
  rw [Nat.ble_eq_true_of_le h]
  rfl
theorem ezl_fz1 : ezl_fz 1 = true := rfl
theorem ezl_fz2 : ezl_fz 2 = true := rfl
theorem ezl_fz3 : ezl_fz 3 = true := rfl
/-- behind a call of the class that leaves the tape -/
theorem ezl_b {e : Bool × Bool} {F : Nat → Nat → Int} {A : Nat → Int → Int} {i0 i2 i3 i7 i8 i13 i18 i19 i20 i25 i29 i30 i31 i36 i37 i38 : Int} {r73 r74 r75 r76 r77 r78 r79 r80 r81 r82 r83 r84 r85 r86 r87 r88 r89 r90 r91 r92 r93 r94 r95 : Int → Int} {s : Int} {a : Int → Int} {t : Int} {b : Int → Int} {R : Option ezq_V → Prop} (hT : ezm_T i0 i2 i3 i7 i8 i13 i18 i19 i20 i25 i29 i30 i31 i36 i37 i38 r73 r74 r75 r76 r77 r78 r79 r80 r81 r82 r83 r84 r85 r86 r87 r88 r89 r90 r91 r92 r93 r94 r95) (htr : ezm_TR r78 r79 r80) (hok : ezm_OK r78 r88 r89 i25) (hs : F 1 2 = s ∧ A 2 = a ∧ ∀ j, 0 ≤ j → j < 48 → A 3 j = ezl_cw.getD j.toNat 0) (ht : i2 = t ∧ r73 = b ∧ ∀ j, 0 ≤ j → j < 48 → r77 j = ezl_mw.getD j.toNat 0) (hR : ∀ v, R v → ∃ u, some (ezw_i u) = v) {v : Option ezq_V} {g' : Nat → ezq_C} (h : ezs_P e ezl_fz (ezm_F F i0 i2 i3 i7 i8 i13 i18 i19 i20 i25 i29 i30 i31 i36 i37 i38) (ezm_A A r73 r74 r75 r76 r77 r78 r79 r80 r81 r82 r83 r84 r85 r86 r87 r88 r89 r90 r91 r92 r93 r94 r95) R v g') : (∃ u, some (ezw_i u) = v) ∧ ezl_J s a t b g' := by
  obtain ⟨⟨F2, A2, rfl, hI⟩, hv⟩ := h
  have h72 : ∀ q, 72 ≤ q → F2 q = (ezm_F F i0 i2 i3 i7 i8 i13 i18 i19 i20 i25 i29 i30 i31 i36 i37 i38) q ∧ A2 q = (ezm_A A r73 r74 r75 r76 r77 r78 r79 r80 r81 r82 r83 r84 r85 r86 r87 r88 r89 r90 r91 r92 r93 r94 r95) q := fun q hq => hI.2 q (ezl_fzT hq)
  refine ⟨hR v hv, e, F2, A2, i0, i2, i3, i7, i8, i13, i18, i19, i20, i25, i29, i30, i31, i36, i37, i38, r73, r74, r75, r76, r77, r78, r79, r80, r81, r82, r83, r84, r85, r86, r87, r88, r89, r90, r91, r92, r93, r94, r95, ezl_h h72, hI.1, hT, htr, hok, ?_, ht⟩
  rw [(hI.2 1 ezl_fz1).1, (hI.2 2 ezl_fz2).2, (hI.2 3 ezl_fz3).2, ezl_Fn (by decide), ezl_An (by decide), ezl_An (by decide)]
  exact hs
theorem ezl_bp {e : Bool × Bool} {F : Nat → Nat → Int} {A : Nat → Int → Int} {i0 i2 i3 i7 i8 i13 i18 i19 i20 i25 i29 i30 i31 i36 i37 i38 : Int} {r73 r74 r75 r76 r77 r78 r79 r80 r81 r82 r83 r84 r85 r86 r87 r88 r89 r90 r91 r92 r93 r94 r95 : Int → Int} {s : Int} {a : Int → Int} {t : Int} {b : Int → Int} {R : Option ezq_V → Prop} (hS : ezs_T F A) (hT : ezm_T i0 i2 i3 i7 i8 i13 i18 i19 i20 i25 i29 i30 i31 i36 i37 i38 r73 r74 r75 r76 r77 r78 r79 r80 r81 r82 r83 r84 r85 r86 r87 r88 r89 r90 r91 r92 r93 r94 r95) (htr : ezm_TR r78 r79 r80) (hok : ezm_OK r78 r88 r89 i25) (hs : F 1 2 = s ∧ A 2 = a ∧ ∀ j, 0 ≤ j → j < 48 → A 3 j = ezl_cw.getD j.toNat 0) (ht : i2 = t ∧ r73 = b ∧ ∀ j, 0 ≤ j → j < 48 → r77 j = ezl_mw.getD j.toNat 0) (hR : ∀ v, R v → ∃ u, some (ezw_i u) = v) {v : Option ezq_V} {g' : Nat → ezq_C} (h : ezs_Pp e (ezm_F F i0 i2 i3 i7 i8 i13 i18 i19 i20 i25 i29 i30 i31 i36 i37 i38) (ezm_A A r73 r74 r75 r76 r77 r78 r79 r80 r81 r82 r83 r84 r85 r86 r87 r88 r89 r90 r91 r92 r93 r94 r95) R v g') : (∃ u, some (ezw_i u) = v) ∧ ezl_J s a t b g' := by
  obtain ⟨rfl, hv⟩ := h
  exact ⟨hR v hv, e, F, A, i0, i2, i3, i7, i8, i13, i18, i19, i20, i25, i29, i30, i31, i36, i37, i38, r73, r74, r75, r76, r77, r78, r79, r80, r81, r82, r83, r84, r85, r86, r87, r88, r89, r90, r91, r92, r93, r94, r95, rfl, hS, hT, htr, hok, hs, ht⟩
theorem ezl_be {F : Nat → Nat → Int} {A : Nat → Int → Int} {i0 i2 i3 i7 i8 i13 i18 i19 i20 i25 i29 i30 i31 i36 i37 i38 : Int} {r73 r74 r75 r76 r77 r78 r79 r80 r81 r82 r83 r84 r85 r86 r87 r88 r89 r90 r91 r92 r93 r94 r95 : Int → Int} {t : Int} {b : Int → Int} {R : Option ezq_V → Prop} (hT : ezm_T i0 i2 i3 i7 i8 i13 i18 i19 i20 i25 i29 i30 i31 i36 i37 i38 r73 r74 r75 r76 r77 r78 r79 r80 r81 r82 r83 r84 r85 r86 r87 r88 r89 r90 r91 r92 r93 r94 r95) (htr : ezm_TR r78 r79 r80) (hok : ezm_OK r78 r88 r89 i25) (hw : ∀ j, 0 ≤ j → j < 48 → A 3 j = ezl_cw.getD j.toNat 0) (ht : i2 = t ∧ r73 = b ∧ ∀ j, 0 ≤ j → j < 48 → r77 j = ezl_mw.getD j.toNat 0) {v : Option ezq_V} {g' : Nat → ezq_C} (h : ezt_Pz (ezm_F F i0 i2 i3 i7 i8 i13 i18 i19 i20 i25 i29 i30 i31 i36 i37 i38) (ezm_A A r73 r74 r75 r76 r77 r78 r79 r80 r81 r82 r83 r84 r85 r86 r87 r88 r89 r90 r91 r92 r93 r94 r95) R v g') : R v ∧ ∃ a', ezl_J 0 a' t b g' := by
  obtain ⟨hR, e2, F2, A2, rfl, hS, hz, h3, h7⟩ := h
  rw [ezl_An (by decide)] at h3
  exact ⟨hR, A2 2, e2, F2, A2, i0, i2, i3, i7, i8, i13, i18, i19, i20, i25, i29, i30, i31, i36, i37, i38, r73, r74, r75, r76, r77, r78, r79, r80, r81, r82, r83, r84, r85, r86, r87, r88, r89, r90, r91, r92, r93, r94, r95, ezl_h h7, hS, hT, htr, hok, ⟨hz, rfl, by rw [h3]; exact hw⟩, ht⟩
theorem ezl_ri : ∀ v, ezs_ri v → ∃ u, some (ezw_i u) = v := fun v h => by
  obtain ⟨i, _, hi⟩ := h
  exact ⟨i, hi⟩
theorem ezl_rz : ∀ v, ezs_rz v → ∃ u, some (ezw_i u) = v := fun v h => by
  obtain ⟨i, _, hi⟩ := h
  exact ⟨i, hi⟩
theorem ezl_x0 {s : Int} {a : Int → Int} {t : Int} {b : Int → Int} {g : Nat → ezq_C} (h : ezl_J s a t b g) : ∃ fs, g 0 = ezw_co 11 fs := by
  obtain ⟨e, F, A, i0, i2, i3, i7, i8, i13, i18, i19, i20, i25, i29, i30, i31, i36, i37, i38, r73, r74, r75, r76, r77, r78, r79, r80, r81, r82, r83, r84, r85, r86, r87, r88, r89, r90, r91, r92, r93, r94, r95, rfl, -⟩ := h
  exact ⟨_, rfl⟩
theorem ezl_m0 {s : Int} {a : Int → Int} {t : Int} {b : Int → Int} {g : Nat → ezq_C} (h : ezl_J s a t b g) : ∃ fs, g 72 = ezw_co 12 fs := by
  obtain ⟨e, F, A, i0, i2, i3, i7, i8, i13, i18, i19, i20, i25, i29, i30, i31, i36, i37, i38, r73, r74, r75, r76, r77, r78, r79, r80, r81, r82, r83, r84, r85, r86, r87, r88, r89, r90, r91, r92, r93, r94, r95, rfl, -⟩ := h
  exact ⟨_, rfl⟩
section KL
variable {l : Launch} {ρ : ezq_E} {B : Nat} {xa : Nat → Option Nat} {Hb : Heap} {D : va_G} {cA : Nat → ClassId} {d : Nat} {g : Nat → ezq_C} {s : Int} {a : Int → Int} {t : Int} {b : Int → Int}
theorem ezl_x105 {a1 a2 : Int} (hJ : ezl_J s a t b g) (hd : 3 ≤ d) (ha1 : ezw_in a1) (ha2 : ezw_in a2) : ezw_C l ρ B xa Hb D cA 105 d [ezw_p 0, ezw_i a1, ezw_i a2] g (fun v g' => (∃ u, some (ezw_i u) = v) ∧ ezl_J s a t b g') := by
  obtain ⟨e, F, A, i0, i2, i3, i7, i8, i13, i18, i19, i20, i25, i29, i30, i31, i36, i37, i38, r73, r74, r75, r76, r77, r78, r79, r80, r81, r82, r83, r84, r85, r86, r87, r88, r89, r90, r91, r92, r93, r94, r95, rfl, hS, hT, htr, hok, hs, ht⟩ := hJ
  obtain ⟨b1, b2⟩ := e
  cases b1
  · exact ezw_Cmono (ezs_m105_0_f (fz := ezl_fz) (F0 := (ezm_F F i0 i2 i3 i7 i8 i13 i18 i19 i20 i25 i29 i30 i31 i36 i37 i38)) (A0 := (ezm_A A r73 r74 r75 r76 r77 r78 r79 r80 r81 r82 r83 r84 r85 r86 r87 r88 r89 r90 r91 r92 r93 r94 r95)) ⟨ezl_T1 hS, fun _ _ => ⟨rfl, rfl⟩⟩ hd ha1 ha2) (fun v g' h => ezl_bp hS hT htr hok hs ht ezl_ri h)
  · exact ezw_Cmono (ezs_m105_0_t (fz := ezl_fz) (F0 := (ezm_F F i0 i2 i3 i7 i8 i13 i18 i19 i20 i25 i29 i30 i31 i36 i37 i38)) (A0 := (ezm_A A r73 r74 r75 r76 r77 r78 r79 r80 r81 r82 r83 r84 r85 r86 r87 r88 r89 r90 r91 r92 r93 r94 r95)) ⟨ezl_T1 hS, fun _ _ => ⟨rfl, rfl⟩⟩ hd ha1 ha2) (fun v g' h => ezl_bp hS hT htr hok hs ht ezl_ri h)
theorem ezl_x110 {a1 a2 : Int} (hJ : ezl_J s a t b g) (hd : 1 ≤ d) (ha1 : ezw_in a1) (ha2 : ezw_in a2) : ezw_C l ρ B xa Hb D cA 110 d [ezw_p 0, ezw_i a1, ezw_i a2] g (fun v g' => (∃ u, some (ezw_i u) = v) ∧ ezl_J s a t b g') := by
  obtain ⟨e, F, A, i0, i2, i3, i7, i8, i13, i18, i19, i20, i25, i29, i30, i31, i36, i37, i38, r73, r74, r75, r76, r77, r78, r79, r80, r81, r82, r83, r84, r85, r86, r87, r88, r89, r90, r91, r92, r93, r94, r95, rfl, hS, hT, htr, hok, hs, ht⟩ := hJ
  obtain ⟨b1, b2⟩ := e
  cases b1
  · exact ezw_Cmono (ezs_m110_0_f (fz := ezl_fz) (F0 := (ezm_F F i0 i2 i3 i7 i8 i13 i18 i19 i20 i25 i29 i30 i31 i36 i37 i38)) (A0 := (ezm_A A r73 r74 r75 r76 r77 r78 r79 r80 r81 r82 r83 r84 r85 r86 r87 r88 r89 r90 r91 r92 r93 r94 r95)) ⟨ezl_T1 hS, fun _ _ => ⟨rfl, rfl⟩⟩ hd ha1 ha2) (fun v g' h => ezl_bp hS hT htr hok hs ht ezl_ri h)
  · exact ezw_Cmono (ezs_m110_0_t (fz := ezl_fz) (F0 := (ezm_F F i0 i2 i3 i7 i8 i13 i18 i19 i20 i25 i29 i30 i31 i36 i37 i38)) (A0 := (ezm_A A r73 r74 r75 r76 r77 r78 r79 r80 r81 r82 r83 r84 r85 r86 r87 r88 r89 r90 r91 r92 r93 r94 r95)) ⟨ezl_T1 hS, fun _ _ => ⟨rfl, rfl⟩⟩ hd ha1 ha2) (fun v g' h => ezl_bp hS hT htr hok hs ht ezl_ri h)
theorem ezl_x111 {a1 a2 a3 : Int} (hJ : ezl_J s a t b g) (hd : 3 ≤ d) (ha1 : ezw_in a1) (ha2 : ezw_in a2) (ha3 : ezw_in a3) : ezw_C l ρ B xa Hb D cA 111 d [ezw_p 0, ezw_i a1, ezw_i a2, ezw_i a3] g (fun v g' => (∃ u, some (ezw_i u) = v) ∧ ezl_J s a t b g') := by
  obtain ⟨e, F, A, i0, i2, i3, i7, i8, i13, i18, i19, i20, i25, i29, i30, i31, i36, i37, i38, r73, r74, r75, r76, r77, r78, r79, r80, r81, r82, r83, r84, r85, r86, r87, r88, r89, r90, r91, r92, r93, r94, r95, rfl, hS, hT, htr, hok, hs, ht⟩ := hJ
  obtain ⟨b1, b2⟩ := e
  cases b1
  · exact ezw_Cmono (ezs_m111_0_f (fz := ezl_fz) (F0 := (ezm_F F i0 i2 i3 i7 i8 i13 i18 i19 i20 i25 i29 i30 i31 i36 i37 i38)) (A0 := (ezm_A A r73 r74 r75 r76 r77 r78 r79 r80 r81 r82 r83 r84 r85 r86 r87 r88 r89 r90 r91 r92 r93 r94 r95)) ⟨ezl_T1 hS, fun _ _ => ⟨rfl, rfl⟩⟩ hd ha1 ha2 ha3) (fun v g' h => ezl_bp hS hT htr hok hs ht ezl_ri h)
  · exact ezw_Cmono (ezs_m111_0_t (fz := ezl_fz) (F0 := (ezm_F F i0 i2 i3 i7 i8 i13 i18 i19 i20 i25 i29 i30 i31 i36 i37 i38)) (A0 := (ezm_A A r73 r74 r75 r76 r77 r78 r79 r80 r81 r82 r83 r84 r85 r86 r87 r88 r89 r90 r91 r92 r93 r94 r95)) ⟨ezl_T1 hS, fun _ _ => ⟨rfl, rfl⟩⟩ hd ha1 ha2 ha3) (fun v g' h => ezl_bp hS hT htr hok hs ht ezl_ri h)
theorem ezl_x117 {a1 a2 a3 : Int} (hJ : ezl_J s a t b g) (hd : 6 ≤ d) (ha1 : ezw_in a1) (ha2 : ezw_in a2) (ha3 : ezw_in a3) : ezw_C l ρ B xa Hb D cA 117 d [ezw_p 0, ezw_i a1, ezw_i a2, ezw_i a3] g (fun v g' => (∃ u, some (ezw_i u) = v) ∧ ezl_J s a t b g') := by
  obtain ⟨e, F, A, i0, i2, i3, i7, i8, i13, i18, i19, i20, i25, i29, i30, i31, i36, i37, i38, r73, r74, r75, r76, r77, r78, r79, r80, r81, r82, r83, r84, r85, r86, r87, r88, r89, r90, r91, r92, r93, r94, r95, rfl, hS, hT, htr, hok, hs, ht⟩ := hJ
  obtain ⟨b1, b2⟩ := e
  cases b1
  · exact ezw_Cmono (ezs_m117_0_f (fz := ezl_fz) (F0 := (ezm_F F i0 i2 i3 i7 i8 i13 i18 i19 i20 i25 i29 i30 i31 i36 i37 i38)) (A0 := (ezm_A A r73 r74 r75 r76 r77 r78 r79 r80 r81 r82 r83 r84 r85 r86 r87 r88 r89 r90 r91 r92 r93 r94 r95)) ⟨ezl_T1 hS, fun _ _ => ⟨rfl, rfl⟩⟩ hd ezl_fz0 ha1 ha2 ha3) (fun v g' h => ezl_b hT htr hok hs ht ezl_ri h)
  · exact ezw_Cmono (ezs_m117_0_t (fz := ezl_fz) (F0 := (ezm_F F i0 i2 i3 i7 i8 i13 i18 i19 i20 i25 i29 i30 i31 i36 i37 i38)) (A0 := (ezm_A A r73 r74 r75 r76 r77 r78 r79 r80 r81 r82 r83 r84 r85 r86 r87 r88 r89 r90 r91 r92 r93 r94 r95)) ⟨ezl_T1 hS, fun _ _ => ⟨rfl, rfl⟩⟩ hd ezl_fz0 ha1 ha2 ha3) (fun v g' h => ezl_b hT htr hok hs ht ezl_ri h)
theorem ezl_x118 {a1 a2 a3 : Int} (hJ : ezl_J s a t b g) (hd : 5 ≤ d) (ha1 : ezw_in a1) (ha2 : ezw_in a2) (ha3 : ezw_in a3) : ezw_C l ρ B xa Hb D cA 118 d [ezw_p 0, ezw_i a1, ezw_i a2, ezw_i a3] g (fun v g' => (∃ u, some (ezw_i u) = v) ∧ ezl_J s a t b g') := by
  obtain ⟨e, F, A, i0, i2, i3, i7, i8, i13, i18, i19, i20, i25, i29, i30, i31, i36, i37, i38, r73, r74, r75, r76, r77, r78, r79, r80, r81, r82, r83, r84, r85, r86, r87, r88, r89, r90, r91, r92, r93, r94, r95, rfl, hS, hT, htr, hok, hs, ht⟩ := hJ
  obtain ⟨b1, b2⟩ := e
  cases b1
  · exact ezw_Cmono (ezs_m118_0_f (fz := ezl_fz) (F0 := (ezm_F F i0 i2 i3 i7 i8 i13 i18 i19 i20 i25 i29 i30 i31 i36 i37 i38)) (A0 := (ezm_A A r73 r74 r75 r76 r77 r78 r79 r80 r81 r82 r83 r84 r85 r86 r87 r88 r89 r90 r91 r92 r93 r94 r95)) ⟨ezl_T1 hS, fun _ _ => ⟨rfl, rfl⟩⟩ hd ezl_fz0 ha1 ha2 ha3) (fun v g' h => ezl_b hT htr hok hs ht ezl_rz h)
  · exact ezw_Cmono (ezs_m118_0_t (fz := ezl_fz) (F0 := (ezm_F F i0 i2 i3 i7 i8 i13 i18 i19 i20 i25 i29 i30 i31 i36 i37 i38)) (A0 := (ezm_A A r73 r74 r75 r76 r77 r78 r79 r80 r81 r82 r83 r84 r85 r86 r87 r88 r89 r90 r91 r92 r93 r94 r95)) ⟨ezl_T1 hS, fun _ _ => ⟨rfl, rfl⟩⟩ hd ezl_fz0 ha1 ha2 ha3) (fun v g' h => ezl_b hT htr hok hs ht ezl_rz h)
theorem ezl_x133 (hJ : ezl_J s a t b g) (hd : 6 ≤ d) : ezw_C l ρ B xa Hb D cA 133 d [ezw_p 0] g (fun v g' => (∃ u, some (ezw_i u) = v) ∧ ezl_J s a t b g') := by
  obtain ⟨e, F, A, i0, i2, i3, i7, i8, i13, i18, i19, i20, i25, i29, i30, i31, i36, i37, i38, r73, r74, r75, r76, r77, r78, r79, r80, r81, r82, r83, r84, r85, r86, r87, r88, r89, r90, r91, r92, r93, r94, r95, rfl, hS, hT, htr, hok, hs, ht⟩ := hJ
  obtain ⟨b1, b2⟩ := e
  cases b1
  · exact ezw_Cmono (ezs_m133_0_f (fz := ezl_fz) (F0 := (ezm_F F i0 i2 i3 i7 i8 i13 i18 i19 i20 i25 i29 i30 i31 i36 i37 i38)) (A0 := (ezm_A A r73 r74 r75 r76 r77 r78 r79 r80 r81 r82 r83 r84 r85 r86 r87 r88 r89 r90 r91 r92 r93 r94 r95)) ⟨ezl_T1 hS, fun _ _ => ⟨rfl, rfl⟩⟩ hd ezl_fz0) (fun v g' h => ezl_b hT htr hok hs ht ezl_ri h)
  · exact ezw_Cmono (ezs_m133_0_t (fz := ezl_fz) (F0 := (ezm_F F i0 i2 i3 i7 i8 i13 i18 i19 i20 i25 i29 i30 i31 i36 i37 i38)) (A0 := (ezm_A A r73 r74 r75 r76 r77 r78 r79 r80 r81 r82 r83 r84 r85 r86 r87 r88 r89 r90 r91 r92 r93 r94 r95)) ⟨ezl_T1 hS, fun _ _ => ⟨rfl, rfl⟩⟩ hd ezl_fz0) (fun v g' h => ezl_b hT htr hok hs ht ezl_ri h)
theorem ezl_x134 (hJ : ezl_J s a t b g) (hd : 6 ≤ d) : ezw_C l ρ B xa Hb D cA 134 d [ezw_p 0] g (fun v g' => (∃ u, some (ezw_i u) = v) ∧ ezl_J s a t b g') := by
  obtain ⟨e, F, A, i0, i2, i3, i7, i8, i13, i18, i19, i20, i25, i29, i30, i31, i36, i37, i38, r73, r74, r75, r76, r77, r78, r79, r80, r81, r82, r83, r84, r85, r86, r87, r88, r89, r90, r91, r92, r93, r94, r95, rfl, hS, hT, htr, hok, hs, ht⟩ := hJ
  obtain ⟨b1, b2⟩ := e
  cases b1
  · exact ezw_Cmono (ezs_m134_0_f (fz := ezl_fz) (F0 := (ezm_F F i0 i2 i3 i7 i8 i13 i18 i19 i20 i25 i29 i30 i31 i36 i37 i38)) (A0 := (ezm_A A r73 r74 r75 r76 r77 r78 r79 r80 r81 r82 r83 r84 r85 r86 r87 r88 r89 r90 r91 r92 r93 r94 r95)) ⟨ezl_T1 hS, fun _ _ => ⟨rfl, rfl⟩⟩ hd ezl_fz0) (fun v g' h => ezl_b hT htr hok hs ht ezl_rz h)
  · exact ezw_Cmono (ezs_m134_0_t (fz := ezl_fz) (F0 := (ezm_F F i0 i2 i3 i7 i8 i13 i18 i19 i20 i25 i29 i30 i31 i36 i37 i38)) (A0 := (ezm_A A r73 r74 r75 r76 r77 r78 r79 r80 r81 r82 r83 r84 r85 r86 r87 r88 r89 r90 r91 r92 r93 r94 r95)) ⟨ezl_T1 hS, fun _ _ => ⟨rfl, rfl⟩⟩ hd ezl_fz0) (fun v g' h => ezl_b hT htr hok hs ht ezl_rz h)
theorem ezl_x135 {a1 a2 : Int} (hJ : ezl_J s a t b g) (hd : 6 ≤ d) (ha1 : ezw_in a1) (ha2 : ezw_in a2) : ezw_C l ρ B xa Hb D cA 135 d [ezw_p 0, ezw_i a1, ezw_i a2] g (fun v g' => (∃ u, some (ezw_i u) = v) ∧ ezl_J s a t b g') := by
  obtain ⟨e, F, A, i0, i2, i3, i7, i8, i13, i18, i19, i20, i25, i29, i30, i31, i36, i37, i38, r73, r74, r75, r76, r77, r78, r79, r80, r81, r82, r83, r84, r85, r86, r87, r88, r89, r90, r91, r92, r93, r94, r95, rfl, hS, hT, htr, hok, hs, ht⟩ := hJ
  obtain ⟨b1, b2⟩ := e
  cases b1
  · exact ezw_Cmono (ezs_m135_0_f (fz := ezl_fz) (F0 := (ezm_F F i0 i2 i3 i7 i8 i13 i18 i19 i20 i25 i29 i30 i31 i36 i37 i38)) (A0 := (ezm_A A r73 r74 r75 r76 r77 r78 r79 r80 r81 r82 r83 r84 r85 r86 r87 r88 r89 r90 r91 r92 r93 r94 r95)) ⟨ezl_T1 hS, fun _ _ => ⟨rfl, rfl⟩⟩ hd ezl_fz0 ha1 ha2) (fun v g' h => ezl_b hT htr hok hs ht ezl_ri h)
  · exact ezw_Cmono (ezs_m135_0_t (fz := ezl_fz) (F0 := (ezm_F F i0 i2 i3 i7 i8 i13 i18 i19 i20 i25 i29 i30 i31 i36 i37 i38)) (A0 := (ezm_A A r73 r74 r75 r76 r77 r78 r79 r80 r81 r82 r83 r84 r85 r86 r87 r88 r89 r90 r91 r92 r93 r94 r95)) ⟨ezl_T1 hS, fun _ _ => ⟨rfl, rfl⟩⟩ hd ezl_fz0 ha1 ha2) (fun v g' h => ezl_b hT htr hok hs ht ezl_ri h)
theorem ezl_x136 {a1 a2 : Int} (hJ : ezl_J s a t b g) (hd : 6 ≤ d) (ha1 : ezw_in a1) (ha2 : ezw_in a2) : ezw_C l ρ B xa Hb D cA 136 d [ezw_p 0, ezw_i a1, ezw_i a2] g (fun v g' => (∃ u, some (ezw_i u) = v) ∧ ezl_J s a t b g') := by
  obtain ⟨e, F, A, i0, i2, i3, i7, i8, i13, i18, i19, i20, i25, i29, i30, i31, i36, i37, i38, r73, r74, r75, r76, r77, r78, r79, r80, r81, r82, r83, r84, r85, r86, r87, r88, r89, r90, r91, r92, r93, r94, r95, rfl, hS, hT, htr, hok, hs, ht⟩ := hJ
  obtain ⟨b1, b2⟩ := e
  cases b1
  · exact ezw_Cmono (ezs_m136_0_f (fz := ezl_fz) (F0 := (ezm_F F i0 i2 i3 i7 i8 i13 i18 i19 i20 i25 i29 i30 i31 i36 i37 i38)) (A0 := (ezm_A A r73 r74 r75 r76 r77 r78 r79 r80 r81 r82 r83 r84 r85 r86 r87 r88 r89 r90 r91 r92 r93 r94 r95)) ⟨ezl_T1 hS, fun _ _ => ⟨rfl, rfl⟩⟩ hd ezl_fz0 ha1 ha2) (fun v g' h => ezl_b hT htr hok hs ht ezl_rz h)
  · exact ezw_Cmono (ezs_m136_0_t (fz := ezl_fz) (F0 := (ezm_F F i0 i2 i3 i7 i8 i13 i18 i19 i20 i25 i29 i30 i31 i36 i37 i38)) (A0 := (ezm_A A r73 r74 r75 r76 r77 r78 r79 r80 r81 r82 r83 r84 r85 r86 r87 r88 r89 r90 r91 r92 r93 r94 r95)) ⟨ezl_T1 hS, fun _ _ => ⟨rfl, rfl⟩⟩ hd ezl_fz0 ha1 ha2) (fun v g' h => ezl_b hT htr hok hs ht ezl_rz h)
theorem ezl_x137 {a1 : Int} (hJ : ezl_J s a t b g) (hd : 6 ≤ d) (ha1 : ezw_in a1) : ezw_C l ρ B xa Hb D cA 137 d [ezw_p 0, ezw_i a1] g (fun v g' => (∃ u, some (ezw_i u) = v) ∧ ezl_J s a t b g') := by
  obtain ⟨e, F, A, i0, i2, i3, i7, i8, i13, i18, i19, i20, i25, i29, i30, i31, i36, i37, i38, r73, r74, r75, r76, r77, r78, r79, r80, r81, r82, r83, r84, r85, r86, r87, r88, r89, r90, r91, r92, r93, r94, r95, rfl, hS, hT, htr, hok, hs, ht⟩ := hJ
  obtain ⟨b1, b2⟩ := e
  cases b1
  · exact ezw_Cmono (ezs_m137_0_f (fz := ezl_fz) (F0 := (ezm_F F i0 i2 i3 i7 i8 i13 i18 i19 i20 i25 i29 i30 i31 i36 i37 i38)) (A0 := (ezm_A A r73 r74 r75 r76 r77 r78 r79 r80 r81 r82 r83 r84 r85 r86 r87 r88 r89 r90 r91 r92 r93 r94 r95)) ⟨ezl_T1 hS, fun _ _ => ⟨rfl, rfl⟩⟩ hd ezl_fz0 ha1) (fun v g' h => ezl_b hT htr hok hs ht ezl_ri h)
  · exact ezw_Cmono (ezs_m137_0_t (fz := ezl_fz) (F0 := (ezm_F F i0 i2 i3 i7 i8 i13 i18 i19 i20 i25 i29 i30 i31 i36 i37 i38)) (A0 := (ezm_A A r73 r74 r75 r76 r77 r78 r79 r80 r81 r82 r83 r84 r85 r86 r87 r88 r89 r90 r91 r92 r93 r94 r95)) ⟨ezl_T1 hS, fun _ _ => ⟨rfl, rfl⟩⟩ hd ezl_fz0 ha1) (fun v g' h => ezl_b hT htr hok hs ht ezl_ri h)
theorem ezl_x138 (hJ : ezl_J s a t b g) (hd : 2 ≤ d) : ezw_C l ρ B xa Hb D cA 138 d [ezw_p 0] g (fun v g' => (∃ u, some (ezw_i u) = v) ∧ ezl_J s a t b g') := by
  obtain ⟨e, F, A, i0, i2, i3, i7, i8, i13, i18, i19, i20, i25, i29, i30, i31, i36, i37, i38, r73, r74, r75, r76, r77, r78, r79, r80, r81, r82, r83, r84, r85, r86, r87, r88, r89, r90, r91, r92, r93, r94, r95, rfl, hS, hT, htr, hok, hs, ht⟩ := hJ
  obtain ⟨b1, b2⟩ := e
  cases b1
  · exact ezw_Cmono (ezs_m138_0_f (fz := ezl_fz) (F0 := (ezm_F F i0 i2 i3 i7 i8 i13 i18 i19 i20 i25 i29 i30 i31 i36 i37 i38)) (A0 := (ezm_A A r73 r74 r75 r76 r77 r78 r79 r80 r81 r82 r83 r84 r85 r86 r87 r88 r89 r90 r91 r92 r93 r94 r95)) ⟨ezl_T1 hS, fun _ _ => ⟨rfl, rfl⟩⟩ hd ezl_fz0) (fun v g' h => ezl_b hT htr hok hs ht ezl_rz h)
  · exact ezw_Cmono (ezs_m138_0_t (fz := ezl_fz) (F0 := (ezm_F F i0 i2 i3 i7 i8 i13 i18 i19 i20 i25 i29 i30 i31 i36 i37 i38)) (A0 := (ezm_A A r73 r74 r75 r76 r77 r78 r79 r80 r81 r82 r83 r84 r85 r86 r87 r88 r89 r90 r91 r92 r93 r94 r95)) ⟨ezl_T1 hS, fun _ _ => ⟨rfl, rfl⟩⟩ hd ezl_fz0) (fun v g' h => ezl_b hT htr hok hs ht ezl_rz h)
theorem ezl_x141 {a1 : Int} (hJ : ezl_J s a t b g) (hd : 6 ≤ d) (ha1 : ezw_in a1) : ezw_C l ρ B xa Hb D cA 141 d [ezw_p 0, ezw_i a1] g (fun v g' => (∃ u, some (ezw_i u) = v) ∧ ezl_J s a t b g') := by
  obtain ⟨e, F, A, i0, i2, i3, i7, i8, i13, i18, i19, i20, i25, i29, i30, i31, i36, i37, i38, r73, r74, r75, r76, r77, r78, r79, r80, r81, r82, r83, r84, r85, r86, r87, r88, r89, r90, r91, r92, r93, r94, r95, rfl, hS, hT, htr, hok, hs, ht⟩ := hJ
  obtain ⟨b1, b2⟩ := e
  cases b1
  · cases b2
    · exact ezw_Cmono (ezs_m141_0_ff (fz := ezl_fz) (F0 := (ezm_F F i0 i2 i3 i7 i8 i13 i18 i19 i20 i25 i29 i30 i31 i36 i37 i38)) (A0 := (ezm_A A r73 r74 r75 r76 r77 r78 r79 r80 r81 r82 r83 r84 r85 r86 r87 r88 r89 r90 r91 r92 r93 r94 r95)) ⟨ezl_T1 hS, fun _ _ => ⟨rfl, rfl⟩⟩ hd ezl_fz0 ha1) (fun v g' h => ezl_b hT htr hok hs ht ezl_ri h)
    · exact ezw_Cmono (ezs_m141_0_ft (fz := ezl_fz) (F0 := (ezm_F F i0 i2 i3 i7 i8 i13 i18 i19 i20 i25 i29 i30 i31 i36 i37 i38)) (A0 := (ezm_A A r73 r74 r75 r76 r77 r78 r79 r80 r81 r82 r83 r84 r85 r86 r87 r88 r89 r90 r91 r92 r93 r94 r95)) ⟨ezl_T1 hS, fun _ _ => ⟨rfl, rfl⟩⟩ hd ezl_fz0 ha1) (fun v g' h => ezl_b hT htr hok hs ht ezl_ri h)
  · cases b2
    · exact ezw_Cmono (ezs_m141_0_tf (fz := ezl_fz) (F0 := (ezm_F F i0 i2 i3 i7 i8 i13 i18 i19 i20 i25 i29 i30 i31 i36 i37 i38)) (A0 := (ezm_A A r73 r74 r75 r76 r77 r78 r79 r80 r81 r82 r83 r84 r85 r86 r87 r88 r89 r90 r91 r92 r93 r94 r95)) ⟨ezl_T1 hS, fun _ _ => ⟨rfl, rfl⟩⟩ hd ezl_fz0 ha1) (fun v g' h => ezl_b hT htr hok hs ht ezl_ri h)
    · exact ezw_Cmono (ezs_m141_0_tt (fz := ezl_fz) (F0 := (ezm_F F i0 i2 i3 i7 i8 i13 i18 i19 i20 i25 i29 i30 i31 i36 i37 i38)) (A0 := (ezm_A A r73 r74 r75 r76 r77 r78 r79 r80 r81 r82 r83 r84 r85 r86 r87 r88 r89 r90 r91 r92 r93 r94 r95)) ⟨ezl_T1 hS, fun _ _ => ⟨rfl, rfl⟩⟩ hd ezl_fz0 ha1) (fun v g' h => ezl_b hT htr hok hs ht ezl_ri h)
theorem ezl_x145 (hJ : ezl_J s a t b g) (hd : 3 ≤ d) : ezw_C l ρ B xa Hb D cA 145 d [ezw_p 0] g (fun v g' => (∃ u, some (ezw_i u) = v) ∧ ezl_J s a t b g') := by
  obtain ⟨e, F, A, i0, i2, i3, i7, i8, i13, i18, i19, i20, i25, i29, i30, i31, i36, i37, i38, r73, r74, r75, r76, r77, r78, r79, r80, r81, r82, r83, r84, r85, r86, r87, r88, r89, r90, r91, r92, r93, r94, r95, rfl, hS, hT, htr, hok, hs, ht⟩ := hJ
  obtain ⟨b1, b2⟩ := e
  cases b1
  · exact ezw_Cmono (ezs_m145_0_f (fz := ezl_fz) (F0 := (ezm_F F i0 i2 i3 i7 i8 i13 i18 i19 i20 i25 i29 i30 i31 i36 i37 i38)) (A0 := (ezm_A A r73 r74 r75 r76 r77 r78 r79 r80 r81 r82 r83 r84 r85 r86 r87 r88 r89 r90 r91 r92 r93 r94 r95)) ⟨ezl_T1 hS, fun _ _ => ⟨rfl, rfl⟩⟩ hd) (fun v g' h => ezl_bp hS hT htr hok hs ht ezl_ri h)
  · exact ezw_Cmono (ezs_m145_0_t (fz := ezl_fz) (F0 := (ezm_F F i0 i2 i3 i7 i8 i13 i18 i19 i20 i25 i29 i30 i31 i36 i37 i38)) (A0 := (ezm_A A r73 r74 r75 r76 r77 r78 r79 r80 r81 r82 r83 r84 r85 r86 r87 r88 r89 r90 r91 r92 r93 r94 r95)) ⟨ezl_T1 hS, fun _ _ => ⟨rfl, rfl⟩⟩ hd) (fun v g' h => ezl_bp hS hT htr hok hs ht ezl_ri h)
theorem ezl_x146 {a1 a2 : Int} (hJ : ezl_J s a t b g) (hd : 22 ≤ d) (ha1 : ezw_in a1) (ha2 : ezw_in a2) : ezw_C l ρ B xa Hb D cA 146 d [ezw_p 0, ezw_i a1, ezw_i a2] g (fun v g' => (∃ u, some (ezw_i u) = v) ∧ ezl_J s a t b g') := by
  obtain ⟨e, F, A, i0, i2, i3, i7, i8, i13, i18, i19, i20, i25, i29, i30, i31, i36, i37, i38, r73, r74, r75, r76, r77, r78, r79, r80, r81, r82, r83, r84, r85, r86, r87, r88, r89, r90, r91, r92, r93, r94, r95, rfl, hS, hT, htr, hok, hs, ht⟩ := hJ
  obtain ⟨b1, b2⟩ := e
  cases b1
  · exact ezw_Cmono (ezs_m146_0_f (fz := ezl_fz) (F0 := (ezm_F F i0 i2 i3 i7 i8 i13 i18 i19 i20 i25 i29 i30 i31 i36 i37 i38)) (A0 := (ezm_A A r73 r74 r75 r76 r77 r78 r79 r80 r81 r82 r83 r84 r85 r86 r87 r88 r89 r90 r91 r92 r93 r94 r95)) ⟨ezl_T1 hS, fun _ _ => ⟨rfl, rfl⟩⟩ hd ezl_fz0 ha1 ha2) (fun v g' h => ezl_b hT htr hok hs ht ezl_ri h)
  · exact ezw_Cmono (ezs_m146_0_t (fz := ezl_fz) (F0 := (ezm_F F i0 i2 i3 i7 i8 i13 i18 i19 i20 i25 i29 i30 i31 i36 i37 i38)) (A0 := (ezm_A A r73 r74 r75 r76 r77 r78 r79 r80 r81 r82 r83 r84 r85 r86 r87 r88 r89 r90 r91 r92 r93 r94 r95)) ⟨ezl_T1 hS, fun _ _ => ⟨rfl, rfl⟩⟩ hd ezl_fz0 ha1 ha2) (fun v g' h => ezl_b hT htr hok hs ht ezl_ri h)
theorem ezl_x156 {a1 a2 : Int} (hJ : ezl_J s a t b g) (hd : 2 ≤ d) (ha1 : ezw_in a1) (ha2 : ezw_in a2) : ezw_C l ρ B xa Hb D cA 156 d [ezw_p 0, ezw_i a1, ezw_i a2] g (fun v g' => (∃ u, some (ezw_i u) = v) ∧ ezl_J s a t b g') := by
  obtain ⟨e, F, A, i0, i2, i3, i7, i8, i13, i18, i19, i20, i25, i29, i30, i31, i36, i37, i38, r73, r74, r75, r76, r77, r78, r79, r80, r81, r82, r83, r84, r85, r86, r87, r88, r89, r90, r91, r92, r93, r94, r95, rfl, hS, hT, htr, hok, hs, ht⟩ := hJ
  obtain ⟨b1, b2⟩ := e
  cases b1
  · exact ezw_Cmono (ezs_m156_0_f (fz := ezl_fz) (F0 := (ezm_F F i0 i2 i3 i7 i8 i13 i18 i19 i20 i25 i29 i30 i31 i36 i37 i38)) (A0 := (ezm_A A r73 r74 r75 r76 r77 r78 r79 r80 r81 r82 r83 r84 r85 r86 r87 r88 r89 r90 r91 r92 r93 r94 r95)) ⟨ezl_T1 hS, fun _ _ => ⟨rfl, rfl⟩⟩ hd ezl_fz0 ha1 ha2) (fun v g' h => ezl_b hT htr hok hs ht ezl_rz h)
  · exact ezw_Cmono (ezs_m156_0_t (fz := ezl_fz) (F0 := (ezm_F F i0 i2 i3 i7 i8 i13 i18 i19 i20 i25 i29 i30 i31 i36 i37 i38)) (A0 := (ezm_A A r73 r74 r75 r76 r77 r78 r79 r80 r81 r82 r83 r84 r85 r86 r87 r88 r89 r90 r91 r92 r93 r94 r95)) ⟨ezl_T1 hS, fun _ _ => ⟨rfl, rfl⟩⟩ hd ezl_fz0 ha1 ha2) (fun v g' h => ezl_b hT htr hok hs ht ezl_rz h)
theorem ezl_x159 (hJ : ezl_J s a t b g) (hd : 3 ≤ d) : ezw_C l ρ B xa Hb D cA 159 d [ezw_p 0] g (fun v g' => (∃ u, some (ezw_i u) = v) ∧ ezl_J s a t b g') := by
  obtain ⟨e, F, A, i0, i2, i3, i7, i8, i13, i18, i19, i20, i25, i29, i30, i31, i36, i37, i38, r73, r74, r75, r76, r77, r78, r79, r80, r81, r82, r83, r84, r85, r86, r87, r88, r89, r90, r91, r92, r93, r94, r95, rfl, hS, hT, htr, hok, hs, ht⟩ := hJ
  obtain ⟨b1, b2⟩ := e
  cases b1
  · exact ezw_Cmono (ezs_m159_0_f (fz := ezl_fz) (F0 := (ezm_F F i0 i2 i3 i7 i8 i13 i18 i19 i20 i25 i29 i30 i31 i36 i37 i38)) (A0 := (ezm_A A r73 r74 r75 r76 r77 r78 r79 r80 r81 r82 r83 r84 r85 r86 r87 r88 r89 r90 r91 r92 r93 r94 r95)) ⟨ezl_T1 hS, fun _ _ => ⟨rfl, rfl⟩⟩ hd) (fun v g' h => ezl_bp hS hT htr hok hs ht ezl_ri h)
  · exact ezw_Cmono (ezs_m159_0_t (fz := ezl_fz) (F0 := (ezm_F F i0 i2 i3 i7 i8 i13 i18 i19 i20 i25 i29 i30 i31 i36 i37 i38)) (A0 := (ezm_A A r73 r74 r75 r76 r77 r78 r79 r80 r81 r82 r83 r84 r85 r86 r87 r88 r89 r90 r91 r92 r93 r94 r95)) ⟨ezl_T1 hS, fun _ _ => ⟨rfl, rfl⟩⟩ hd) (fun v g' h => ezl_bp hS hT htr hok hs ht ezl_ri h)
theorem ezl_x162 {a1 : Int} (hJ : ezl_J s a t b g) (hd : 4 ≤ d) (ha1 : ezw_in a1) : ezw_C l ρ B xa Hb D cA 162 d [ezw_p 0, ezw_i a1] g (fun v g' => (∃ u, some (ezw_i u) = v) ∧ ezl_J s a t b g') := by
  obtain ⟨e, F, A, i0, i2, i3, i7, i8, i13, i18, i19, i20, i25, i29, i30, i31, i36, i37, i38, r73, r74, r75, r76, r77, r78, r79, r80, r81, r82, r83, r84, r85, r86, r87, r88, r89, r90, r91, r92, r93, r94, r95, rfl, hS, hT, htr, hok, hs, ht⟩ := hJ
  obtain ⟨b1, b2⟩ := e
  cases b1
  · exact ezw_Cmono (ezs_m162_0_f (fz := ezl_fz) (F0 := (ezm_F F i0 i2 i3 i7 i8 i13 i18 i19 i20 i25 i29 i30 i31 i36 i37 i38)) (A0 := (ezm_A A r73 r74 r75 r76 r77 r78 r79 r80 r81 r82 r83 r84 r85 r86 r87 r88 r89 r90 r91 r92 r93 r94 r95)) ⟨ezl_T1 hS, fun _ _ => ⟨rfl, rfl⟩⟩ hd ha1) (fun v g' h => ezl_bp hS hT htr hok hs ht ezl_ri h)
  · exact ezw_Cmono (ezs_m162_0_t (fz := ezl_fz) (F0 := (ezm_F F i0 i2 i3 i7 i8 i13 i18 i19 i20 i25 i29 i30 i31 i36 i37 i38)) (A0 := (ezm_A A r73 r74 r75 r76 r77 r78 r79 r80 r81 r82 r83 r84 r85 r86 r87 r88 r89 r90 r91 r92 r93 r94 r95)) ⟨ezl_T1 hS, fun _ _ => ⟨rfl, rfl⟩⟩ hd ha1) (fun v g' h => ezl_bp hS hT htr hok hs ht ezl_ri h)
theorem ezl_x165 (hJ : ezl_J s a t b g) (hd : 5 ≤ d) : ezw_C l ρ B xa Hb D cA 165 d [ezw_p 0] g (fun v g' => (∃ u, some (ezw_i u) = v) ∧ ezl_J s a t b g') := by
  obtain ⟨e, F, A, i0, i2, i3, i7, i8, i13, i18, i19, i20, i25, i29, i30, i31, i36, i37, i38, r73, r74, r75, r76, r77, r78, r79, r80, r81, r82, r83, r84, r85, r86, r87, r88, r89, r90, r91, r92, r93, r94, r95, rfl, hS, hT, htr, hok, hs, ht⟩ := hJ
  obtain ⟨b1, b2⟩ := e
  cases b1
  · exact ezw_Cmono (ezs_m165_0_f (fz := ezl_fz) (F0 := (ezm_F F i0 i2 i3 i7 i8 i13 i18 i19 i20 i25 i29 i30 i31 i36 i37 i38)) (A0 := (ezm_A A r73 r74 r75 r76 r77 r78 r79 r80 r81 r82 r83 r84 r85 r86 r87 r88 r89 r90 r91 r92 r93 r94 r95)) ⟨ezl_T1 hS, fun _ _ => ⟨rfl, rfl⟩⟩ hd) (fun v g' h => ezl_bp hS hT htr hok hs ht ezl_ri h)
  · exact ezw_Cmono (ezs_m165_0_t (fz := ezl_fz) (F0 := (ezm_F F i0 i2 i3 i7 i8 i13 i18 i19 i20 i25 i29 i30 i31 i36 i37 i38)) (A0 := (ezm_A A r73 r74 r75 r76 r77 r78 r79 r80 r81 r82 r83 r84 r85 r86 r87 r88 r89 r90 r91 r92 r93 r94 r95)) ⟨ezl_T1 hS, fun _ _ => ⟨rfl, rfl⟩⟩ hd) (fun v g' h => ezl_bp hS hT htr hok hs ht ezl_ri h)
theorem ezl_x169 {a1 a2 a3 : Int} (hJ : ezl_J s a t b g) (hd : 3 ≤ d) (ha1 : ezw_in a1) (ha2 : ezw_in a2) (ha3 : ezw_in a3) : ezw_C l ρ B xa Hb D cA 169 d [ezw_p 0, ezw_i a1, ezw_i a2, ezw_i a3] g (fun v g' => (∃ u, some (ezw_i u) = v) ∧ ezl_J s a t b g') := by
  obtain ⟨e, F, A, i0, i2, i3, i7, i8, i13, i18, i19, i20, i25, i29, i30, i31, i36, i37, i38, r73, r74, r75, r76, r77, r78, r79, r80, r81, r82, r83, r84, r85, r86, r87, r88, r89, r90, r91, r92, r93, r94, r95, rfl, hS, hT, htr, hok, hs, ht⟩ := hJ
  obtain ⟨b1, b2⟩ := e
  cases b1
  · exact ezw_Cmono (ezs_m169_0_f (fz := ezl_fz) (F0 := (ezm_F F i0 i2 i3 i7 i8 i13 i18 i19 i20 i25 i29 i30 i31 i36 i37 i38)) (A0 := (ezm_A A r73 r74 r75 r76 r77 r78 r79 r80 r81 r82 r83 r84 r85 r86 r87 r88 r89 r90 r91 r92 r93 r94 r95)) ⟨ezl_T1 hS, fun _ _ => ⟨rfl, rfl⟩⟩ hd ha1 ha2 ha3) (fun v g' h => ezl_bp hS hT htr hok hs ht ezl_ri h)
  · exact ezw_Cmono (ezs_m169_0_t (fz := ezl_fz) (F0 := (ezm_F F i0 i2 i3 i7 i8 i13 i18 i19 i20 i25 i29 i30 i31 i36 i37 i38)) (A0 := (ezm_A A r73 r74 r75 r76 r77 r78 r79 r80 r81 r82 r83 r84 r85 r86 r87 r88 r89 r90 r91 r92 r93 r94 r95)) ⟨ezl_T1 hS, fun _ _ => ⟨rfl, rfl⟩⟩ hd ha1 ha2 ha3) (fun v g' h => ezl_bp hS hT htr hok hs ht ezl_ri h)
theorem ezl_x172 {a1 a2 : Int} (hJ : ezl_J s a t b g) (hd : 5 ≤ d) (ha1 : ezw_in a1) (ha2 : ezw_in a2) : ezw_C l ρ B xa Hb D cA 172 d [ezw_p 0, ezw_i a1, ezw_i a2] g (fun v g' => (∃ u, some (ezw_i u) = v) ∧ ezl_J s a t b g') := by
  obtain ⟨e, F, A, i0, i2, i3, i7, i8, i13, i18, i19, i20, i25, i29, i30, i31, i36, i37, i38, r73, r74, r75, r76, r77, r78, r79, r80, r81, r82, r83, r84, r85, r86, r87, r88, r89, r90, r91, r92, r93, r94, r95, rfl, hS, hT, htr, hok, hs, ht⟩ := hJ
  obtain ⟨b1, b2⟩ := e
  cases b1
  · exact ezw_Cmono (ezs_m172_0_f (fz := ezl_fz) (F0 := (ezm_F F i0 i2 i3 i7 i8 i13 i18 i19 i20 i25 i29 i30 i31 i36 i37 i38)) (A0 := (ezm_A A r73 r74 r75 r76 r77 r78 r79 r80 r81 r82 r83 r84 r85 r86 r87 r88 r89 r90 r91 r92 r93 r94 r95)) ⟨ezl_T1 hS, fun _ _ => ⟨rfl, rfl⟩⟩ hd ezl_fz0 ha1 ha2) (fun v g' h => ezl_b hT htr hok hs ht ezl_ri h)
  · exact ezw_Cmono (ezs_m172_0_t (fz := ezl_fz) (F0 := (ezm_F F i0 i2 i3 i7 i8 i13 i18 i19 i20 i25 i29 i30 i31 i36 i37 i38)) (A0 := (ezm_A A r73 r74 r75 r76 r77 r78 r79 r80 r81 r82 r83 r84 r85 r86 r87 r88 r89 r90 r91 r92 r93 r94 r95)) ⟨ezl_T1 hS, fun _ _ => ⟨rfl, rfl⟩⟩ hd ezl_fz0 ha1 ha2) (fun v g' h => ezl_b hT htr hok hs ht ezl_ri h)
theorem ezl_x176 (hJ : ezl_J s a t b g) (hd : 4 ≤ d) : ezw_C l ρ B xa Hb D cA 176 d [ezw_p 0] g (fun v g' => (∃ u, some (ezw_i u) = v) ∧ ezl_J s a t b g') := by
  obtain ⟨e, F, A, i0, i2, i3, i7, i8, i13, i18, i19, i20, i25, i29, i30, i31, i36, i37, i38, r73, r74, r75, r76, r77, r78, r79, r80, r81, r82, r83, r84, r85, r86, r87, r88, r89, r90, r91, r92, r93, r94, r95, rfl, hS, hT, htr, hok, hs, ht⟩ := hJ
  obtain ⟨b1, b2⟩ := e
  cases b1
  · exact ezw_Cmono (ezs_m176_0_f (fz := ezl_fz) (F0 := (ezm_F F i0 i2 i3 i7 i8 i13 i18 i19 i20 i25 i29 i30 i31 i36 i37 i38)) (A0 := (ezm_A A r73 r74 r75 r76 r77 r78 r79 r80 r81 r82 r83 r84 r85 r86 r87 r88 r89 r90 r91 r92 r93 r94 r95)) ⟨ezl_T1 hS, fun _ _ => ⟨rfl, rfl⟩⟩ hd) (fun v g' h => ezl_bp hS hT htr hok hs ht ezl_ri h)
  · exact ezw_Cmono (ezs_m176_0_t (fz := ezl_fz) (F0 := (ezm_F F i0 i2 i3 i7 i8 i13 i18 i19 i20 i25 i29 i30 i31 i36 i37 i38)) (A0 := (ezm_A A r73 r74 r75 r76 r77 r78 r79 r80 r81 r82 r83 r84 r85 r86 r87 r88 r89 r90 r91 r92 r93 r94 r95)) ⟨ezl_T1 hS, fun _ _ => ⟨rfl, rfl⟩⟩ hd) (fun v g' h => ezl_bp hS hT htr hok hs ht ezl_ri h)
theorem ezl_x177 {a1 : Int} (hJ : ezl_J s a t b g) (hd : 2 ≤ d) (ha1 : ezw_in a1) : ezw_C l ρ B xa Hb D cA 177 d [ezw_p 0, ezw_i a1] g (fun v g' => (∃ u, some (ezw_i u) = v) ∧ ezl_J s a t b g') := by
  obtain ⟨e, F, A, i0, i2, i3, i7, i8, i13, i18, i19, i20, i25, i29, i30, i31, i36, i37, i38, r73, r74, r75, r76, r77, r78, r79, r80, r81, r82, r83, r84, r85, r86, r87, r88, r89, r90, r91, r92, r93, r94, r95, rfl, hS, hT, htr, hok, hs, ht⟩ := hJ
  obtain ⟨b1, b2⟩ := e
  cases b1
  · exact ezw_Cmono (ezs_m177_0_f (fz := ezl_fz) (F0 := (ezm_F F i0 i2 i3 i7 i8 i13 i18 i19 i20 i25 i29 i30 i31 i36 i37 i38)) (A0 := (ezm_A A r73 r74 r75 r76 r77 r78 r79 r80 r81 r82 r83 r84 r85 r86 r87 r88 r89 r90 r91 r92 r93 r94 r95)) ⟨ezl_T1 hS, fun _ _ => ⟨rfl, rfl⟩⟩ hd ha1) (fun v g' h => ezl_bp hS hT htr hok hs ht ezl_ri h)
  · exact ezw_Cmono (ezs_m177_0_t (fz := ezl_fz) (F0 := (ezm_F F i0 i2 i3 i7 i8 i13 i18 i19 i20 i25 i29 i30 i31 i36 i37 i38)) (A0 := (ezm_A A r73 r74 r75 r76 r77 r78 r79 r80 r81 r82 r83 r84 r85 r86 r87 r88 r89 r90 r91 r92 r93 r94 r95)) ⟨ezl_T1 hS, fun _ _ => ⟨rfl, rfl⟩⟩ hd ha1) (fun v g' h => ezl_bp hS hT htr hok hs ht ezl_ri h)
theorem ezl_x178 {a1 : Int} (hJ : ezl_J s a t b g) (hd : 4 ≤ d) (ha1 : ezw_in a1) : ezw_C l ρ B xa Hb D cA 178 d [ezw_p 0, ezw_i a1] g (fun v g' => (∃ u, some (ezw_i u) = v) ∧ ezl_J s a t b g') := by
  obtain ⟨e, F, A, i0, i2, i3, i7, i8, i13, i18, i19, i20, i25, i29, i30, i31, i36, i37, i38, r73, r74, r75, r76, r77, r78, r79, r80, r81, r82, r83, r84, r85, r86, r87, r88, r89, r90, r91, r92, r93, r94, r95, rfl, hS, hT, htr, hok, hs, ht⟩ := hJ
  obtain ⟨b1, b2⟩ := e
  cases b1
  · exact ezw_Cmono (ezs_m178_0_f (fz := ezl_fz) (F0 := (ezm_F F i0 i2 i3 i7 i8 i13 i18 i19 i20 i25 i29 i30 i31 i36 i37 i38)) (A0 := (ezm_A A r73 r74 r75 r76 r77 r78 r79 r80 r81 r82 r83 r84 r85 r86 r87 r88 r89 r90 r91 r92 r93 r94 r95)) ⟨ezl_T1 hS, fun _ _ => ⟨rfl, rfl⟩⟩ hd ha1) (fun v g' h => ezl_bp hS hT htr hok hs ht ezl_ri h)
  · exact ezw_Cmono (ezs_m178_0_t (fz := ezl_fz) (F0 := (ezm_F F i0 i2 i3 i7 i8 i13 i18 i19 i20 i25 i29 i30 i31 i36 i37 i38)) (A0 := (ezm_A A r73 r74 r75 r76 r77 r78 r79 r80 r81 r82 r83 r84 r85 r86 r87 r88 r89 r90 r91 r92 r93 r94 r95)) ⟨ezl_T1 hS, fun _ _ => ⟨rfl, rfl⟩⟩ hd ha1) (fun v g' h => ezl_bp hS hT htr hok hs ht ezl_ri h)
theorem ezl_x181 {a1 a2 : Int} (hJ : ezl_J s a t b g) (hd : 4 ≤ d) (ha1 : ezw_in a1) (ha2 : ezw_in a2) : ezw_C l ρ B xa Hb D cA 181 d [ezw_p 0, ezw_i a1, ezw_i a2] g (fun v g' => (∃ u, some (ezw_i u) = v) ∧ ezl_J s a t b g') := by
  obtain ⟨e, F, A, i0, i2, i3, i7, i8, i13, i18, i19, i20, i25, i29, i30, i31, i36, i37, i38, r73, r74, r75, r76, r77, r78, r79, r80, r81, r82, r83, r84, r85, r86, r87, r88, r89, r90, r91, r92, r93, r94, r95, rfl, hS, hT, htr, hok, hs, ht⟩ := hJ
  obtain ⟨b1, b2⟩ := e
  cases b1
  · exact ezw_Cmono (ezs_m181_0_f (fz := ezl_fz) (F0 := (ezm_F F i0 i2 i3 i7 i8 i13 i18 i19 i20 i25 i29 i30 i31 i36 i37 i38)) (A0 := (ezm_A A r73 r74 r75 r76 r77 r78 r79 r80 r81 r82 r83 r84 r85 r86 r87 r88 r89 r90 r91 r92 r93 r94 r95)) ⟨ezl_T1 hS, fun _ _ => ⟨rfl, rfl⟩⟩ hd ha1 ha2) (fun v g' h => ezl_bp hS hT htr hok hs ht ezl_ri h)
  · exact ezw_Cmono (ezs_m181_0_t (fz := ezl_fz) (F0 := (ezm_F F i0 i2 i3 i7 i8 i13 i18 i19 i20 i25 i29 i30 i31 i36 i37 i38)) (A0 := (ezm_A A r73 r74 r75 r76 r77 r78 r79 r80 r81 r82 r83 r84 r85 r86 r87 r88 r89 r90 r91 r92 r93 r94 r95)) ⟨ezl_T1 hS, fun _ _ => ⟨rfl, rfl⟩⟩ hd ha1 ha2) (fun v g' h => ezl_bp hS hT htr hok hs ht ezl_ri h)
theorem ezl_x185 {a1 : Int} (hJ : ezl_J s a t b g) (hd : 5 ≤ d) (ha1 : ezw_in a1) : ezw_C l ρ B xa Hb D cA 185 d [ezw_p 0, ezw_i a1] g (fun v g' => (∃ u, some (ezw_i u) = v) ∧ ezl_J s a t b g') := by
  obtain ⟨e, F, A, i0, i2, i3, i7, i8, i13, i18, i19, i20, i25, i29, i30, i31, i36, i37, i38, r73, r74, r75, r76, r77, r78, r79, r80, r81, r82, r83, r84, r85, r86, r87, r88, r89, r90, r91, r92, r93, r94, r95, rfl, hS, hT, htr, hok, hs, ht⟩ := hJ
  obtain ⟨b1, b2⟩ := e
  cases b1
  · exact ezw_Cmono (ezs_m185_0_f (fz := ezl_fz) (F0 := (ezm_F F i0 i2 i3 i7 i8 i13 i18 i19 i20 i25 i29 i30 i31 i36 i37 i38)) (A0 := (ezm_A A r73 r74 r75 r76 r77 r78 r79 r80 r81 r82 r83 r84 r85 r86 r87 r88 r89 r90 r91 r92 r93 r94 r95)) ⟨ezl_T1 hS, fun _ _ => ⟨rfl, rfl⟩⟩ hd ha1) (fun v g' h => ezl_bp hS hT htr hok hs ht ezl_ri h)
  · exact ezw_Cmono (ezs_m185_0_t (fz := ezl_fz) (F0 := (ezm_F F i0 i2 i3 i7 i8 i13 i18 i19 i20 i25 i29 i30 i31 i36 i37 i38)) (A0 := (ezm_A A r73 r74 r75 r76 r77 r78 r79 r80 r81 r82 r83 r84 r85 r86 r87 r88 r89 r90 r91 r92 r93 r94 r95)) ⟨ezl_T1 hS, fun _ _ => ⟨rfl, rfl⟩⟩ hd ha1) (fun v g' h => ezl_bp hS hT htr hok hs ht ezl_ri h)
theorem ezl_x187 {a1 a2 : Int} (hJ : ezl_J s a t b g) (hd : 5 ≤ d) (ha1 : ezw_in a1) (ha2 : ezw_in a2) : ezw_C l ρ B xa Hb D cA 187 d [ezw_p 0, ezw_i a1, ezw_i a2] g (fun v g' => (∃ u, some (ezw_i u) = v) ∧ ezl_J s a t b g') := by
  obtain ⟨e, F, A, i0, i2, i3, i7, i8, i13, i18, i19, i20, i25, i29, i30, i31, i36, i37, i38, r73, r74, r75, r76, r77, r78, r79, r80, r81, r82, r83, r84, r85, r86, r87, r88, r89, r90, r91, r92, r93, r94, r95, rfl, hS, hT, htr, hok, hs, ht⟩ := hJ
  obtain ⟨b1, b2⟩ := e
  cases b1
  · exact ezw_Cmono (ezs_m187_0_f (fz := ezl_fz) (F0 := (ezm_F F i0 i2 i3 i7 i8 i13 i18 i19 i20 i25 i29 i30 i31 i36 i37 i38)) (A0 := (ezm_A A r73 r74 r75 r76 r77 r78 r79 r80 r81 r82 r83 r84 r85 r86 r87 r88 r89 r90 r91 r92 r93 r94 r95)) ⟨ezl_T1 hS, fun _ _ => ⟨rfl, rfl⟩⟩ hd ha1 ha2) (fun v g' h => ezl_bp hS hT htr hok hs ht ezl_ri h)
  · exact ezw_Cmono (ezs_m187_0_t (fz := ezl_fz) (F0 := (ezm_F F i0 i2 i3 i7 i8 i13 i18 i19 i20 i25 i29 i30 i31 i36 i37 i38)) (A0 := (ezm_A A r73 r74 r75 r76 r77 r78 r79 r80 r81 r82 r83 r84 r85 r86 r87 r88 r89 r90 r91 r92 r93 r94 r95)) ⟨ezl_T1 hS, fun _ _ => ⟨rfl, rfl⟩⟩ hd ha1 ha2) (fun v g' h => ezl_bp hS hT htr hok hs ht ezl_ri h)
theorem ezl_x189 {a1 a2 : Int} (hJ : ezl_J s a t b g) (hd : 4 ≤ d) (ha1 : ezw_in a1) (ha2 : ezw_in a2) : ezw_C l ρ B xa Hb D cA 189 d [ezw_p 0, ezw_i a1, ezw_i a2] g (fun v g' => (∃ u, some (ezw_i u) = v) ∧ ezl_J s a t b g') := by
  obtain ⟨e, F, A, i0, i2, i3, i7, i8, i13, i18, i19, i20, i25, i29, i30, i31, i36, i37, i38, r73, r74, r75, r76, r77, r78, r79, r80, r81, r82, r83, r84, r85, r86, r87, r88, r89, r90, r91, r92, r93, r94, r95, rfl, hS, hT, htr, hok, hs, ht⟩ := hJ
  obtain ⟨b1, b2⟩ := e
  cases b1
  · exact ezw_Cmono (ezs_m189_0_f (fz := ezl_fz) (F0 := (ezm_F F i0 i2 i3 i7 i8 i13 i18 i19 i20 i25 i29 i30 i31 i36 i37 i38)) (A0 := (ezm_A A r73 r74 r75 r76 r77 r78 r79 r80 r81 r82 r83 r84 r85 r86 r87 r88 r89 r90 r91 r92 r93 r94 r95)) ⟨ezl_T1 hS, fun _ _ => ⟨rfl, rfl⟩⟩ hd ezl_fz0 ha1 ha2) (fun v g' h => ezl_b hT htr hok hs ht ezl_ri h)
  · exact ezw_Cmono (ezs_m189_0_t (fz := ezl_fz) (F0 := (ezm_F F i0 i2 i3 i7 i8 i13 i18 i19 i20 i25 i29 i30 i31 i36 i37 i38)) (A0 := (ezm_A A r73 r74 r75 r76 r77 r78 r79 r80 r81 r82 r83 r84 r85 r86 r87 r88 r89 r90 r91 r92 r93 r94 r95)) ⟨ezl_T1 hS, fun _ _ => ⟨rfl, rfl⟩⟩ hd ezl_fz0 ha1 ha2) (fun v g' h => ezl_b hT htr hok hs ht ezl_ri h)
theorem ezl_x195 {a1 a2 a3 a4 : Int} (hJ : ezl_J s a t b g) (hd : 23 ≤ d) (ha1 : ezw_in a1) (ha2 : ezw_in a2) (ha3 : ezw_in a3) (ha4 : ezw_in a4) : ezw_C l ρ B xa Hb D cA 195 d [ezw_p 0, ezw_i a1, ezw_i a2, ezw_i a3, ezw_i a4] g (fun v g' => (∃ u, some (ezw_i u) = v) ∧ ezl_J s a t b g') := by
  obtain ⟨e, F, A, i0, i2, i3, i7, i8, i13, i18, i19, i20, i25, i29, i30, i31, i36, i37, i38, r73, r74, r75, r76, r77, r78, r79, r80, r81, r82, r83, r84, r85, r86, r87, r88, r89, r90, r91, r92, r93, r94, r95, rfl, hS, hT, htr, hok, hs, ht⟩ := hJ
  obtain ⟨b1, b2⟩ := e
  cases b1
  · exact ezw_Cmono (ezs_m195_0_f (fz := ezl_fz) (F0 := (ezm_F F i0 i2 i3 i7 i8 i13 i18 i19 i20 i25 i29 i30 i31 i36 i37 i38)) (A0 := (ezm_A A r73 r74 r75 r76 r77 r78 r79 r80 r81 r82 r83 r84 r85 r86 r87 r88 r89 r90 r91 r92 r93 r94 r95)) ⟨ezl_T1 hS, fun _ _ => ⟨rfl, rfl⟩⟩ hd ezl_fz0 ha1 ha2 ha3 ha4) (fun v g' h => ezl_b hT htr hok hs ht ezl_ri h)
  · exact ezw_Cmono (ezs_m195_0_t (fz := ezl_fz) (F0 := (ezm_F F i0 i2 i3 i7 i8 i13 i18 i19 i20 i25 i29 i30 i31 i36 i37 i38)) (A0 := (ezm_A A r73 r74 r75 r76 r77 r78 r79 r80 r81 r82 r83 r84 r85 r86 r87 r88 r89 r90 r91 r92 r93 r94 r95)) ⟨ezl_T1 hS, fun _ _ => ⟨rfl, rfl⟩⟩ hd ezl_fz0 ha1 ha2 ha3 ha4) (fun v g' h => ezl_b hT htr hok hs ht ezl_ri h)
theorem ezl_x201 {a1 a2 : Int} (hJ : ezl_J s a t b g) (hd : 2 ≤ d) (ha1 : ezw_in a1) (ha2 : ezw_in a2) : ezw_C l ρ B xa Hb D cA 201 d [ezw_p 0, ezw_i a1, ezw_i a2] g (fun v g' => (∃ u, some (ezw_i u) = v) ∧ ezl_J s a t b g') := by
  obtain ⟨e, F, A, i0, i2, i3, i7, i8, i13, i18, i19, i20, i25, i29, i30, i31, i36, i37, i38, r73, r74, r75, r76, r77, r78, r79, r80, r81, r82, r83, r84, r85, r86, r87, r88, r89, r90, r91, r92, r93, r94, r95, rfl, hS, hT, htr, hok, hs, ht⟩ := hJ
  obtain ⟨b1, b2⟩ := e
  cases b1
  · exact ezw_Cmono (ezs_m201_0_f (fz := ezl_fz) (F0 := (ezm_F F i0 i2 i3 i7 i8 i13 i18 i19 i20 i25 i29 i30 i31 i36 i37 i38)) (A0 := (ezm_A A r73 r74 r75 r76 r77 r78 r79 r80 r81 r82 r83 r84 r85 r86 r87 r88 r89 r90 r91 r92 r93 r94 r95)) ⟨ezl_T1 hS, fun _ _ => ⟨rfl, rfl⟩⟩ hd ezl_fz0 ha1 ha2) (fun v g' h => ezl_b hT htr hok hs ht ezl_rz h)
  · exact ezw_Cmono (ezs_m201_0_t (fz := ezl_fz) (F0 := (ezm_F F i0 i2 i3 i7 i8 i13 i18 i19 i20 i25 i29 i30 i31 i36 i37 i38)) (A0 := (ezm_A A r73 r74 r75 r76 r77 r78 r79 r80 r81 r82 r83 r84 r85 r86 r87 r88 r89 r90 r91 r92 r93 r94 r95)) ⟨ezl_T1 hS, fun _ _ => ⟨rfl, rfl⟩⟩ hd ezl_fz0 ha1 ha2) (fun v g' h => ezl_b hT htr hok hs ht ezl_rz h)
theorem ezl_x209 {a1 : Int} (hJ : ezl_J s a t b g) (hd : 2 ≤ d) (ha1 : ezw_in a1) : ezw_C l ρ B xa Hb D cA 209 d [ezw_p 0, ezw_i a1] g (fun v g' => (∃ u, some (ezw_i u) = v) ∧ ezl_J s a t b g') := by
  obtain ⟨e, F, A, i0, i2, i3, i7, i8, i13, i18, i19, i20, i25, i29, i30, i31, i36, i37, i38, r73, r74, r75, r76, r77, r78, r79, r80, r81, r82, r83, r84, r85, r86, r87, r88, r89, r90, r91, r92, r93, r94, r95, rfl, hS, hT, htr, hok, hs, ht⟩ := hJ
  obtain ⟨b1, b2⟩ := e
  cases b1
  · cases b2
    · exact ezw_Cmono (ezs_m209_0_ff (fz := ezl_fz) (F0 := (ezm_F F i0 i2 i3 i7 i8 i13 i18 i19 i20 i25 i29 i30 i31 i36 i37 i38)) (A0 := (ezm_A A r73 r74 r75 r76 r77 r78 r79 r80 r81 r82 r83 r84 r85 r86 r87 r88 r89 r90 r91 r92 r93 r94 r95)) ⟨ezl_T1 hS, fun _ _ => ⟨rfl, rfl⟩⟩ hd ha1) (fun v g' h => ezl_bp hS hT htr hok hs ht ezl_ri h)
    · exact ezw_Cmono (ezs_m209_0_ft (fz := ezl_fz) (F0 := (ezm_F F i0 i2 i3 i7 i8 i13 i18 i19 i20 i25 i29 i30 i31 i36 i37 i38)) (A0 := (ezm_A A r73 r74 r75 r76 r77 r78 r79 r80 r81 r82 r83 r84 r85 r86 r87 r88 r89 r90 r91 r92 r93 r94 r95)) ⟨ezl_T1 hS, fun _ _ => ⟨rfl, rfl⟩⟩ hd ha1) (fun v g' h => ezl_bp hS hT htr hok hs ht ezl_ri h)
  · cases b2
    · exact ezw_Cmono (ezs_m209_0_tf (fz := ezl_fz) (F0 := (ezm_F F i0 i2 i3 i7 i8 i13 i18 i19 i20 i25 i29 i30 i31 i36 i37 i38)) (A0 := (ezm_A A r73 r74 r75 r76 r77 r78 r79 r80 r81 r82 r83 r84 r85 r86 r87 r88 r89 r90 r91 r92 r93 r94 r95)) ⟨ezl_T1 hS, fun _ _ => ⟨rfl, rfl⟩⟩ hd ha1) (fun v g' h => ezl_bp hS hT htr hok hs ht ezl_ri h)
    · exact ezw_Cmono (ezs_m209_0_tt (fz := ezl_fz) (F0 := (ezm_F F i0 i2 i3 i7 i8 i13 i18 i19 i20 i25 i29 i30 i31 i36 i37 i38)) (A0 := (ezm_A A r73 r74 r75 r76 r77 r78 r79 r80 r81 r82 r83 r84 r85 r86 r87 r88 r89 r90 r91 r92 r93 r94 r95)) ⟨ezl_T1 hS, fun _ _ => ⟨rfl, rfl⟩⟩ hd ha1) (fun v g' h => ezl_bp hS hT htr hok hs ht ezl_ri h)
theorem ezl_x22 (hJ : ezl_J s a t b g) (hd : 44 ≤ d) (tp : ezp_tp (ezp_ch a s) s) : ezw_C l ρ B xa Hb D cA 22 d [ezw_p 0] g (fun v g' => (ezw_in (ezp_tree (ezp_ch a s)) ∧ some (ezw_i (ezp_tree (ezp_ch a s))) = v) ∧ ∃ a', ezl_J 0 a' t b g') := by
  obtain ⟨e, F, A, i0, i2, i3, i7, i8, i13, i18, i19, i20, i25, i29, i30, i31, i36, i37, i38, r73, r74, r75, r76, r77, r78, r79, r80, r81, r82, r83, r84, r85, r86, r87, r88, r89, r90, r91, r92, r93, r94, r95, rfl, hS, hT, htr, hok, hs, ht⟩ := hJ
  obtain ⟨hs1, rfl, hw⟩ := hs
  have hA2 : (ezm_A A r73 r74 r75 r76 r77 r78 r79 r80 r81 r82 r83 r84 r85 r86 r87 r88 r89 r90 r91 r92 r93 r94 r95) 2 = A 2 := ezl_An (by decide)
  have hA3 : (ezm_A A r73 r74 r75 r76 r77 r78 r79 r80 r81 r82 r83 r84 r85 r86 r87 r88 r89 r90 r91 r92 r93 r94 r95) 3 = A 3 := ezl_An (by decide)
  have hF1 : (ezm_F F i0 i2 i3 i7 i8 i13 i18 i19 i20 i25 i29 i30 i31 i36 i37 i38) 1 = F 1 := ezl_Fn (by decide)
  obtain ⟨b1, b2⟩ := e
  cases b1
  · cases b2
    · exact ezw_Cmono (ezt_tree_ff (F := (ezm_F F i0 i2 i3 i7 i8 i13 i18 i19 i20 i25 i29 i30 i31 i36 i37 i38)) (A := (ezm_A A r73 r74 r75 r76 r77 r78 r79 r80 r81 r82 r83 r84 r85 r86 r87 r88 r89 r90 r91 r92 r93 r94 r95)) (ezl_T1 hS) hd (by rw [hF1]; exact hs1) (by rw [hA2]) tp (by rw [hA3]; exact hw)) (fun v g' h => ezl_be hT htr hok hw ht h)
    · exact ezw_Cmono (ezt_tree_ft (F := (ezm_F F i0 i2 i3 i7 i8 i13 i18 i19 i20 i25 i29 i30 i31 i36 i37 i38)) (A := (ezm_A A r73 r74 r75 r76 r77 r78 r79 r80 r81 r82 r83 r84 r85 r86 r87 r88 r89 r90 r91 r92 r93 r94 r95)) (ezl_T1 hS) hd (by rw [hF1]; exact hs1) (by rw [hA2]) tp (by rw [hA3]; exact hw)) (fun v g' h => ezl_be hT htr hok hw ht h)
  · cases b2
    · exact ezw_Cmono (ezt_tree_tf (F := (ezm_F F i0 i2 i3 i7 i8 i13 i18 i19 i20 i25 i29 i30 i31 i36 i37 i38)) (A := (ezm_A A r73 r74 r75 r76 r77 r78 r79 r80 r81 r82 r83 r84 r85 r86 r87 r88 r89 r90 r91 r92 r93 r94 r95)) (ezl_T1 hS) hd (by rw [hF1]; exact hs1) (by rw [hA2]) tp (by rw [hA3]; exact hw)) (fun v g' h => ezl_be hT htr hok hw ht h)
    · exact ezw_Cmono (ezt_tree_tt (F := (ezm_F F i0 i2 i3 i7 i8 i13 i18 i19 i20 i25 i29 i30 i31 i36 i37 i38)) (A := (ezm_A A r73 r74 r75 r76 r77 r78 r79 r80 r81 r82 r83 r84 r85 r86 r87 r88 r89 r90 r91 r92 r93 r94 r95)) (ezl_T1 hS) hd (by rw [hF1]; exact hs1) (by rw [hA2]) tp (by rw [hA3]; exact hw)) (fun v g' h => ezl_be hT htr hok hw ht h)
theorem ezl_x99 (hJ : ezl_J s a t b g) (hd : 10 ≤ d) : ezw_C l ρ B xa Hb D cA 99 d [ezw_p 0] g (fun v g' => (∃ u, some (ezw_i u) = v) ∧ ∃ a', ezl_J 0 a' t b g') := by
  obtain ⟨e, F, A, i0, i2, i3, i7, i8, i13, i18, i19, i20, i25, i29, i30, i31, i36, i37, i38, r73, r74, r75, r76, r77, r78, r79, r80, r81, r82, r83, r84, r85, r86, r87, r88, r89, r90, r91, r92, r93, r94, r95, rfl, hS, hT, htr, hok, hs, ht⟩ := hJ
  obtain ⟨hs1, rfl, hw⟩ := hs
  have hA2 : (ezm_A A r73 r74 r75 r76 r77 r78 r79 r80 r81 r82 r83 r84 r85 r86 r87 r88 r89 r90 r91 r92 r93 r94 r95) 2 = A 2 := ezl_An (by decide)
  have hA3 : (ezm_A A r73 r74 r75 r76 r77 r78 r79 r80 r81 r82 r83 r84 r85 r86 r87 r88 r89 r90 r91 r92 r93 r94 r95) 3 = A 3 := ezl_An (by decide)
  have hF1 : (ezm_F F i0 i2 i3 i7 i8 i13 i18 i19 i20 i25 i29 i30 i31 i36 i37 i38) 1 = F 1 := ezl_Fn (by decide)
  obtain ⟨b1, b2⟩ := e
  cases b1
  · cases b2
    · exact ezw_Cmono (ezt_aft_ff (F := (ezm_F F i0 i2 i3 i7 i8 i13 i18 i19 i20 i25 i29 i30 i31 i36 i37 i38)) (A := (ezm_A A r73 r74 r75 r76 r77 r78 r79 r80 r81 r82 r83 r84 r85 r86 r87 r88 r89 r90 r91 r92 r93 r94 r95)) (ezl_T1 hS) hd) (fun v g' h => ezl_be hT htr hok hw ht h)
    · exact ezw_Cmono (ezt_aft_ft (F := (ezm_F F i0 i2 i3 i7 i8 i13 i18 i19 i20 i25 i29 i30 i31 i36 i37 i38)) (A := (ezm_A A r73 r74 r75 r76 r77 r78 r79 r80 r81 r82 r83 r84 r85 r86 r87 r88 r89 r90 r91 r92 r93 r94 r95)) (ezl_T1 hS) hd) (fun v g' h => ezl_be hT htr hok hw ht h)
  · cases b2
    · exact ezw_Cmono (ezt_aft_tf (F := (ezm_F F i0 i2 i3 i7 i8 i13 i18 i19 i20 i25 i29 i30 i31 i36 i37 i38)) (A := (ezm_A A r73 r74 r75 r76 r77 r78 r79 r80 r81 r82 r83 r84 r85 r86 r87 r88 r89 r90 r91 r92 r93 r94 r95)) (ezl_T1 hS) hd) (fun v g' h => ezl_be hT htr hok hw ht h)
    · exact ezw_Cmono (ezt_aft_tt (F := (ezm_F F i0 i2 i3 i7 i8 i13 i18 i19 i20 i25 i29 i30 i31 i36 i37 i38)) (A := (ezm_A A r73 r74 r75 r76 r77 r78 r79 r80 r81 r82 r83 r84 r85 r86 r87 r88 r89 r90 r91 r92 r93 r94 r95)) (ezl_T1 hS) hd) (fun v g' h => ezl_be hT htr hok hw ht h)
theorem ezl_x19 {x y z : Int} (hJ : ezl_J s a t b g) (hd : 2 ≤ d) (hx : ezw_il x) (hy : ezw_il y) (hz : ezw_il z) : ezw_C l ρ B xa Hb D cA 19 d [ezw_p 0, ezw_l x, ezw_l y, ezw_l z] g (fun v g' => (∃ u, some (ezw_i u) = v) ∧ ezl_J (ezf3 x y z s a).1 (ezf3 x y z s a).2 t b g') := by
  obtain ⟨e, F, A, i0, i2, i3, i7, i8, i13, i18, i19, i20, i25, i29, i30, i31, i36, i37, i38, r73, r74, r75, r76, r77, r78, r79, r80, r81, r82, r83, r84, r85, r86, r87, r88, r89, r90, r91, r92, r93, r94, r95, rfl, hS, hT, htr, hok, hs, ht⟩ := hJ
  obtain ⟨hs1, rfl, hw⟩ := hs
  refine ezw_Cmono (ezt_feed hx hy hz (ezl_T1 hS) hd) ?_
  rintro v g' ⟨h1, F2, A2, rfl, h2, h3, h4, h5, h72⟩
  rw [ezl_Fn (by decide), ezl_An (by decide), hs1] at h3 h4
  rw [ezl_An (by decide)] at h5
  exact ⟨⟨_, h1⟩, e, F2, A2, i0, i2, i3, i7, i8, i13, i18, i19, i20, i25, i29, i30, i31, i36, i37, i38, r73, r74, r75, r76, r77, r78, r79, r80, r81, r82, r83, r84, r85, r86, r87, r88, r89, r90, r91, r92, r93, r94, r95, ezl_h h72, h2, hT, htr, hok, ⟨h3, h4, by rw [h5]; exact hw⟩, ht⟩
theorem ezl_fm {F : Nat → Nat → Int} {i0 i2 i3 i7 i8 i13 i18 i19 i20 i25 i29 i30 i31 i36 i37 i38 : Int} {f' : Nat → Int} {s : Int} (h : ∀ k, k ≠ 2 → f' k = ezw_fu (ezm_F F i0 i2 i3 i7 i8 i13 i18 i19 i20 i25 i29 i30 i31 i36 i37 i38 72) 0 0 k) (h2 : f' 2 = s) : f' = ezm_F F 0 s i3 i7 i8 i13 i18 i19 i20 i25 i29 i30 i31 i36 i37 i38 72 := by
  funext k
  by_cases hk : k = 2
  · subst hk
    rw [h2]
    rfl
  · rw [h k hk]
    unfold ezw_fu
    by_cases hk0 : k = 0
    · subst hk0
      rfl
    · rw [if_neg hk0]
      unfold ezm_F
      rw [if_pos rfl, if_pos rfl]
      split <;> first | rfl | exact absurd rfl hk0 | exact absurd rfl hk
theorem ezl_m210 {x y z : Int} (hJ : ezl_J s a t b g) (hd : 2 ≤ d) (hx : ezw_il x) (hy : ezw_il y) (hz : ezw_il z) : ezw_C l ρ B xa Hb D cA 210 d [ezw_p 72, ezw_l x, ezw_l y, ezw_l z] g (fun v g' => (∃ u, some (ezw_i u) = v) ∧ ezl_J s a (ezf3 x y z t b).1 (ezf3 x y z t b).2 g') := by
  obtain ⟨e, F, A, i0, i2, i3, i7, i8, i13, i18, i19, i20, i25, i29, i30, i31, i36, i37, i38, r73, r74, r75, r76, r77, r78, r79, r80, r81, r82, r83, r84, r85, r86, r87, r88, r89, r90, r91, r92, r93, r94, r95, rfl, hS, hT, htr, hok, hs, ht⟩ := hJ
  have h0 := hT.t2
  refine ezw_Cmono (ezc_feedM hx hy hz (f := ezm_F F i0 i2 i3 i7 i8 i13 i18 i19 i20 i25 i29 i30 i31 i36 i37 i38 72) (a := r73) rfl rfl h0.1 h0.2 hd) ?_
  rintro v g' ⟨h1, f', h2, h3, h4, h5, h6⟩
  obtain ⟨rfl, rfl, hM⟩ := ht
  have hle := ezf3_le x y z i2 r73 h0.1 h0.2
  have h1 : some (ezw_i (ezf3 x y z i2 r73).1) = v := h1
  have h4 : f' 2 = (ezf3 x y z i2 r73).1 := h4
  have hf := ezl_fm h3 h4
  refine ⟨⟨_, h1⟩, e, F, A, 0, ((ezf3 x y z i2 r73).1), i3, i7, i8, i13, i18, i19, i20, i25, i29, i30, i31, i36, i37, i38, ((ezf3 x y z i2 r73).2), r74, r75, r76, r77, r78, r79, r80, r81, r82, r83, r84, r85, r86, r87, r88, r89, r90, r91, r92, r93, r94, r95, ?_, hS, ⟨⟨by decide, by decide⟩, hle, hT.t3, hT.t7, hT.t8, hT.t13, hT.t18, hT.t19, hT.t20, hT.t25, hT.t29, hT.t30, hT.t31, hT.t36, hT.t37, hT.t38, ezf3_in x y z i2 r73 hT.t73, hT.t74, hT.t75, hT.t76, hT.t77, hT.t78, hT.t79, hT.t80, hT.t81, hT.t82, hT.t83, hT.t84, hT.t85, hT.t86, hT.t87, hT.t88, hT.t89, hT.t90, hT.t91, hT.t92, hT.t93, hT.t94, hT.t95⟩, htr, hok, hs, rfl, rfl, hM⟩
  funext q
  by_cases q1 : q = 72
  · subst q1
    rw [h2, hf]
    rfl
  · by_cases q2 : q = 73
    · subst q2
      rw [h5]
      rfl
    · rw [h6 q q1 q2]
      unfold ezm_h ezu_g
      congr 1
      · unfold ezm_F
        rw [if_neg q1, if_neg q1]
      · unfold ezm_A
        split <;> first | rfl | exact absurd rfl q2
theorem ezl_m217 (hJ : ezl_J s a t b g) (hd : 33 ≤ d) (tp : ezp_tp (ezp_ch b t) t) : ezw_C l ρ B xa Hb D cA 217 d [ezw_p 72] g (fun v g' => (some (ezw_i (ezp_tree (ezp_ch b t))) = v) ∧ ezl_J s a 0 b g') := by
  obtain ⟨e, F, A, i0, i2, i3, i7, i8, i13, i18, i19, i20, i25, i29, i30, i31, i36, i37, i38, r73, r74, r75, r76, r77, r78, r79, r80, r81, r82, r83, r84, r85, r86, r87, r88, r89, r90, r91, r92, r93, r94, r95, rfl, hS, hT, htr, hok, hs, ht⟩ := hJ
  obtain ⟨rfl, rfl, hM⟩ := ht
  have ht : i2 = i2 ∧ r73 = r73 ∧ ∀ j, 0 ≤ j → j < 48 → r77 j = ezl_mw.getD j.toNat 0 := ⟨rfl, rfl, hM⟩
  refine ezw_Cmono (ezm_m217p hT hd htr hok rfl tp ht.2.2) ?_
  rintro _ _ ⟨x0, x2, x3, x7, x8, x13, x18, x19, x20, x25, x74, x75, x76, x78, x79, x80, x81, x82, x83, x84, x85, x88, x89, rfl, hT', u, hu, p0, ptr, pok, pan, rfl⟩
  exact ⟨by rw [pan], e, F, A, x0, x2, x3, x7, x8, x13, x18, x19, x20, x25, i29, i30, i31, i36, i37, i38, r73, x74, x75, x76, r77, x78, x79, x80, x81, x82, x83, x84, x85, r86, r87, x88, x89, r90, r91, r92, r93, r94, r95, rfl, hS, hT', ptr, pok, hs, ⟨p0, ht.2⟩⟩
theorem ezl_m254 (hJ : ezl_J s a t b g) (hd : 6 ≤ d) : ezw_C l ρ B xa Hb D cA 254 d [ezw_p 72] g (fun v g' => (∃ u, some (ezw_i u) = v) ∧ ezl_J s a 0 b g') := by
  obtain ⟨e, F, A, i0, i2, i3, i7, i8, i13, i18, i19, i20, i25, i29, i30, i31, i36, i37, i38, r73, r74, r75, r76, r77, r78, r79, r80, r81, r82, r83, r84, r85, r86, r87, r88, r89, r90, r91, r92, r93, r94, r95, rfl, hS, hT, htr, hok, hs, ht⟩ := hJ
  refine ezw_Cmono (ezm_m254 hT hd) ?_
  rintro _ _ ⟨x0, x2, x3, x7, x8, x74, x75, x76, x85, rfl, hT', u, hu, p0, rfl⟩
  exact ⟨⟨u, rfl⟩, e, F, A, x0, x2, x3, x7, x8, i13, i18, i19, i20, i25, i29, i30, i31, i36, i37, i38, r73, x74, x75, x76, r77, r78, r79, r80, r81, r82, r83, r84, x85, r86, r87, r88, r89, r90, r91, r92, r93, r94, r95, rfl, hS, hT', htr, hok, hs, ⟨p0, ht.2⟩⟩
theorem ezl_m256 {a1 a2 : Int} (hJ : ezl_J s a t b g) (hd : 2 ≤ d) (ha1 : ezw_in a1) (ha2 : ezw_in a2) : ezw_C l ρ B xa Hb D cA 256 d [ezw_p 72, ezw_i a1, ezw_i a2] g (fun v g' => (∃ u, some (ezw_i u) = v) ∧ ezl_J s a t b g') := by
  obtain ⟨e, F, A, i0, i2, i3, i7, i8, i13, i18, i19, i20, i25, i29, i30, i31, i36, i37, i38, r73, r74, r75, r76, r77, r78, r79, r80, r81, r82, r83, r84, r85, r86, r87, r88, r89, r90, r91, r92, r93, r94, r95, rfl, hS, hT, htr, hok, hs, ht⟩ := hJ
  refine ezw_Cmono (ezm_m256 hT hd ha1 ha2) ?_
  rintro _ _ ⟨x0, rfl, hT', u, hu, rfl⟩
  exact ⟨⟨u, rfl⟩, e, F, A, x0, i2, i3, i7, i8, i13, i18, i19, i20, i25, i29, i30, i31, i36, i37, i38, r73, r74, r75, r76, r77, r78, r79, r80, r81, r82, r83, r84, r85, r86, r87, r88, r89, r90, r91, r92, r93, r94, r95, rfl, hS, hT', htr, hok, hs, ht⟩
theorem ezl_m261 {a1 a2 : Int} (hJ : ezl_J s a t b g) (hd : 2 ≤ d) (ha1 : ezw_in a1) (ha2 : ezw_in a2) : ezw_C l ρ B xa Hb D cA 261 d [ezw_p 72, ezw_i a1, ezw_i a2] g (fun v g' => (∃ u, some (ezw_i u) = v) ∧ ezl_J s a t b g') := by
  obtain ⟨e, F, A, i0, i2, i3, i7, i8, i13, i18, i19, i20, i25, i29, i30, i31, i36, i37, i38, r73, r74, r75, r76, r77, r78, r79, r80, r81, r82, r83, r84, r85, r86, r87, r88, r89, r90, r91, r92, r93, r94, r95, rfl, hS, hT, htr, hok, hs, ht⟩ := hJ
  refine ezw_Cmono (ezm_m261 hT hd ha1 ha2) ?_
  rintro _ _ ⟨x0, rfl, hT', u, hu, rfl⟩
  exact ⟨⟨u, rfl⟩, e, F, A, x0, i2, i3, i7, i8, i13, i18, i19, i20, i25, i29, i30, i31, i36, i37, i38, r73, r74, r75, r76, r77, r78, r79, r80, r81, r82, r83, r84, r85, r86, r87, r88, r89, r90, r91, r92, r93, r94, r95, rfl, hS, hT', htr, hok, hs, ht⟩
theorem ezl_m264 {a1 a2 a3 : Int} (hJ : ezl_J s a t b g) (hd : 4 ≤ d) (ha1 : ezw_in a1) (ha2 : ezw_in a2) (ha3 : ezw_in a3) : ezw_C l ρ B xa Hb D cA 264 d [ezw_p 72, ezw_i a1, ezw_i a2, ezw_i a3] g (fun v g' => (∃ u, some (ezw_i u) = v) ∧ ezl_J s a t b g') := by
  obtain ⟨e, F, A, i0, i2, i3, i7, i8, i13, i18, i19, i20, i25, i29, i30, i31, i36, i37, i38, r73, r74, r75, r76, r77, r78, r79, r80, r81, r82, r83, r84, r85, r86, r87, r88, r89, r90, r91, r92, r93, r94, r95, rfl, hS, hT, htr, hok, hs, ht⟩ := hJ
  refine ezw_Cmono (ezm_m264 hT hd ha1 ha2 ha3 htr) ?_
  rintro _ _ ⟨x0, x86, x87, rfl, hT', u, hu, rfl⟩
  exact ⟨⟨u, rfl⟩, e, F, A, x0, i2, i3, i7, i8, i13, i18, i19, i20, i25, i29, i30, i31, i36, i37, i38, r73, r74, r75, r76, r77, r78, r79, r80, r81, r82, r83, r84, r85, x86, x87, r88, r89, r90, r91, r92, r93, r94, r95, rfl, hS, hT', htr, hok, hs, ht⟩
theorem ezl_m272 {a1 a2 a3 : Int} (hJ : ezl_J s a t b g) (hd : 5 ≤ d) (ha1 : ezw_in a1) (ha2 : ezw_in a2) (ha3 : ezw_in a3) : ezw_C l ρ B xa Hb D cA 272 d [ezw_p 72, ezw_i a1, ezw_i a2, ezw_i a3] g (fun v g' => (∃ u, some (ezw_i u) = v) ∧ ezl_J s a t b g') := by
  obtain ⟨e, F, A, i0, i2, i3, i7, i8, i13, i18, i19, i20, i25, i29, i30, i31, i36, i37, i38, r73, r74, r75, r76, r77, r78, r79, r80, r81, r82, r83, r84, r85, r86, r87, r88, r89, r90, r91, r92, r93, r94, r95, rfl, hS, hT, htr, hok, hs, ht⟩ := hJ
  refine ezw_Cmono (ezm_m272 hT hd ha1 ha2 ha3 htr hok) ?_
  rintro _ _ ⟨x0, x25, x86, x87, x88, rfl, hT', u, hu, pok, rfl⟩
  exact ⟨⟨u, rfl⟩, e, F, A, x0, i2, i3, i7, i8, i13, i18, i19, i20, x25, i29, i30, i31, i36, i37, i38, r73, r74, r75, r76, r77, r78, r79, r80, r81, r82, r83, r84, r85, x86, x87, x88, r89, r90, r91, r92, r93, r94, r95, rfl, hS, hT', htr, pok, hs, ht⟩
theorem ezl_m278 (hJ : ezl_J s a t b g) (hd : 2 ≤ d) : ezw_C l ρ B xa Hb D cA 278 d [ezw_p 72] g (fun v g' => (∃ u, some (ezw_i u) = v) ∧ ezl_J s a t b g') := by
  obtain ⟨e, F, A, i0, i2, i3, i7, i8, i13, i18, i19, i20, i25, i29, i30, i31, i36, i37, i38, r73, r74, r75, r76, r77, r78, r79, r80, r81, r82, r83, r84, r85, r86, r87, r88, r89, r90, r91, r92, r93, r94, r95, rfl, hS, hT, htr, hok, hs, ht⟩ := hJ
  refine ezw_Cmono (ezm_m278 hT hd hok) ?_
  rintro _ _ ⟨x0, x25, x88, rfl, hT', u, hu, pok, rfl⟩
  exact ⟨⟨u, rfl⟩, e, F, A, x0, i2, i3, i7, i8, i13, i18, i19, i20, x25, i29, i30, i31, i36, i37, i38, r73, r74, r75, r76, r77, r78, r79, r80, r81, r82, r83, r84, r85, r86, r87, x88, r89, r90, r91, r92, r93, r94, r95, rfl, hS, hT', htr, pok, hs, ht⟩
theorem ezl_m280 (hJ : ezl_J s a t b g) (hd : 2 ≤ d) : ezw_C l ρ B xa Hb D cA 280 d [ezw_p 72] g (fun v g' => (∃ u, some (ezw_i u) = v) ∧ ezl_J s a t b g') := by
  obtain ⟨e, F, A, i0, i2, i3, i7, i8, i13, i18, i19, i20, i25, i29, i30, i31, i36, i37, i38, r73, r74, r75, r76, r77, r78, r79, r80, r81, r82, r83, r84, r85, r86, r87, r88, r89, r90, r91, r92, r93, r94, r95, rfl, hS, hT, htr, hok, hs, ht⟩ := hJ
  refine ezw_Cmono (ezm_m280 hT hd hok) ?_
  rintro _ _ ⟨x0, x25, x88, rfl, hT', u, hu, pok, rfl⟩
  exact ⟨⟨u, rfl⟩, e, F, A, x0, i2, i3, i7, i8, i13, i18, i19, i20, x25, i29, i30, i31, i36, i37, i38, r73, r74, r75, r76, r77, r78, r79, r80, r81, r82, r83, r84, r85, r86, r87, x88, r89, r90, r91, r92, r93, r94, r95, rfl, hS, hT', htr, pok, hs, ht⟩
theorem ezl_m282 {a1 a2 : Int} (hJ : ezl_J s a t b g) (hd : 2 ≤ d) (ha1 : ezw_in a1) (ha2 : ezw_in a2) : ezw_C l ρ B xa Hb D cA 282 d [ezw_p 72, ezw_i a1, ezw_i a2] g (fun v g' => (∃ u, some (ezw_i u) = v) ∧ ezl_J s a t b g') := by
  obtain ⟨e, F, A, i0, i2, i3, i7, i8, i13, i18, i19, i20, i25, i29, i30, i31, i36, i37, i38, r73, r74, r75, r76, r77, r78, r79, r80, r81, r82, r83, r84, r85, r86, r87, r88, r89, r90, r91, r92, r93, r94, r95, rfl, hS, hT, htr, hok, hs, ht⟩ := hJ
  refine ezw_Cmono (ezm_m282 hT hd ha1 ha2 hok) ?_
  rintro _ _ ⟨x0, x25, x88, rfl, hT', u, hu, pok, rfl⟩
  exact ⟨⟨u, rfl⟩, e, F, A, x0, i2, i3, i7, i8, i13, i18, i19, i20, x25, i29, i30, i31, i36, i37, i38, r73, r74, r75, r76, r77, r78, r79, r80, r81, r82, r83, r84, r85, r86, r87, x88, r89, r90, r91, r92, r93, r94, r95, rfl, hS, hT', htr, pok, hs, ht⟩
theorem ezl_m285 {a1 a2 : Int} (hJ : ezl_J s a t b g) (hd : 3 ≤ d) (ha1 : ezw_in a1) (ha2 : ezw_in a2) : ezw_C l ρ B xa Hb D cA 285 d [ezw_p 72, ezw_i a1, ezw_i a2] g (fun v g' => (∃ u, some (ezw_i u) = v) ∧ ezl_J s a t b g') := by
  obtain ⟨e, F, A, i0, i2, i3, i7, i8, i13, i18, i19, i20, i25, i29, i30, i31, i36, i37, i38, r73, r74, r75, r76, r77, r78, r79, r80, r81, r82, r83, r84, r85, r86, r87, r88, r89, r90, r91, r92, r93, r94, r95, rfl, hS, hT, htr, hok, hs, ht⟩ := hJ
  refine ezw_Cmono (ezm_m285 hT hd ha1 ha2 htr hok) ?_
  rintro _ _ ⟨x0, x25, x88, rfl, hT', u, hu, pok, rfl⟩
  exact ⟨⟨u, rfl⟩, e, F, A, x0, i2, i3, i7, i8, i13, i18, i19, i20, x25, i29, i30, i31, i36, i37, i38, r73, r74, r75, r76, r77, r78, r79, r80, r81, r82, r83, r84, r85, r86, r87, x88, r89, r90, r91, r92, r93, r94, r95, rfl, hS, hT', htr, pok, hs, ht⟩
theorem ezl_m288 {a1 : Int} (hJ : ezl_J s a t b g) (hd : 2 ≤ d) (ha1 : ezw_in a1) : ezw_C l ρ B xa Hb D cA 288 d [ezw_p 72, ezw_i a1] g (fun v g' => (∃ u, some (ezw_i u) = v) ∧ ezl_J s a t b g') := by
  obtain ⟨e, F, A, i0, i2, i3, i7, i8, i13, i18, i19, i20, i25, i29, i30, i31, i36, i37, i38, r73, r74, r75, r76, r77, r78, r79, r80, r81, r82, r83, r84, r85, r86, r87, r88, r89, r90, r91, r92, r93, r94, r95, rfl, hS, hT, htr, hok, hs, ht⟩ := hJ
  refine ezw_Cmono (ezm_m288 hT hd ha1 hok) ?_
  rintro _ _ ⟨x0, x25, x88, rfl, hT', u, hu, pok, rfl⟩
  exact ⟨⟨u, rfl⟩, e, F, A, x0, i2, i3, i7, i8, i13, i18, i19, i20, x25, i29, i30, i31, i36, i37, i38, r73, r74, r75, r76, r77, r78, r79, r80, r81, r82, r83, r84, r85, r86, r87, x88, r89, r90, r91, r92, r93, r94, r95, rfl, hS, hT', htr, pok, hs, ht⟩
theorem ezl_m291 (hJ : ezl_J s a t b g) (hd : 1 ≤ d) : ezw_C l ρ B xa Hb D cA 291 d [ezw_p 72] g (fun v g' => (∃ u, some (ezw_i u) = v) ∧ ezl_J s a t b g') := by
  obtain ⟨e, F, A, i0, i2, i3, i7, i8, i13, i18, i19, i20, i25, i29, i30, i31, i36, i37, i38, r73, r74, r75, r76, r77, r78, r79, r80, r81, r82, r83, r84, r85, r86, r87, r88, r89, r90, r91, r92, r93, r94, r95, rfl, hS, hT, htr, hok, hs, ht⟩ := hJ
  refine ezw_Cmono (ezm_m291 hT hd hok) ?_
  rintro _ _ ⟨x0, x25, x88, rfl, hT', u, hu, pok, rfl⟩
  exact ⟨⟨u, rfl⟩, e, F, A, x0, i2, i3, i7, i8, i13, i18, i19, i20, x25, i29, i30, i31, i36, i37, i38, r73, r74, r75, r76, r77, r78, r79, r80, r81, r82, r83, r84, r85, r86, r87, x88, r89, r90, r91, r92, r93, r94, r95, rfl, hS, hT', htr, pok, hs, ht⟩
theorem ezl_m292 (hJ : ezl_J s a t b g) (hd : 2 ≤ d) : ezw_C l ρ B xa Hb D cA 292 d [ezw_p 72] g (fun v g' => (∃ u, some (ezw_i u) = v) ∧ ezl_J s a t b g') := by
  obtain ⟨e, F, A, i0, i2, i3, i7, i8, i13, i18, i19, i20, i25, i29, i30, i31, i36, i37, i38, r73, r74, r75, r76, r77, r78, r79, r80, r81, r82, r83, r84, r85, r86, r87, r88, r89, r90, r91, r92, r93, r94, r95, rfl, hS, hT, htr, hok, hs, ht⟩ := hJ
  refine ezw_Cmono (ezm_m292 hT hd) ?_
  rintro _ _ ⟨x0, rfl, hT', u, hu, rfl⟩
  exact ⟨⟨u, rfl⟩, e, F, A, x0, i2, i3, i7, i8, i13, i18, i19, i20, i25, i29, i30, i31, i36, i37, i38, r73, r74, r75, r76, r77, r78, r79, r80, r81, r82, r83, r84, r85, r86, r87, r88, r89, r90, r91, r92, r93, r94, r95, rfl, hS, hT', htr, hok, hs, ht⟩
theorem ezl_m294 {a1 : Int} (hJ : ezl_J s a t b g) (hd : 6 ≤ d) (ha1 : ezw_in a1) : ezw_C l ρ B xa Hb D cA 294 d [ezw_p 72, ezw_i a1] g (fun v g' => (∃ u, some (ezw_i u) = v) ∧ ezl_J s a t b g') := by
  obtain ⟨e, F, A, i0, i2, i3, i7, i8, i13, i18, i19, i20, i25, i29, i30, i31, i36, i37, i38, r73, r74, r75, r76, r77, r78, r79, r80, r81, r82, r83, r84, r85, r86, r87, r88, r89, r90, r91, r92, r93, r94, r95, rfl, hS, hT, htr, hok, hs, ht⟩ := hJ
  refine ezw_Cmono (ezm_m294 hT hd ha1 htr hok) ?_
  rintro _ _ ⟨x0, x86, x87, x88, rfl, hT', u, hu, pok, rfl⟩
  exact ⟨⟨u, rfl⟩, e, F, A, x0, i2, i3, i7, i8, i13, i18, i19, i20, i25, i29, i30, i31, i36, i37, i38, r73, r74, r75, r76, r77, r78, r79, r80, r81, r82, r83, r84, r85, x86, x87, x88, r89, r90, r91, r92, r93, r94, r95, rfl, hS, hT', htr, pok, hs, ht⟩
theorem ezl_m296 {a1 a2 : Int} (hJ : ezl_J s a t b g) (hd : 7 ≤ d) (ha1 : ezw_in a1) (ha2 : ezw_in a2) : ezw_C l ρ B xa Hb D cA 296 d [ezw_p 72, ezw_i a1, ezw_i a2] g (fun v g' => (∃ u, some (ezw_i u) = v) ∧ ezl_J s a t b g') := by
  obtain ⟨e, F, A, i0, i2, i3, i7, i8, i13, i18, i19, i20, i25, i29, i30, i31, i36, i37, i38, r73, r74, r75, r76, r77, r78, r79, r80, r81, r82, r83, r84, r85, r86, r87, r88, r89, r90, r91, r92, r93, r94, r95, rfl, hS, hT, htr, hok, hs, ht⟩ := hJ
  refine ezw_Cmono (ezm_m296 hT hd ha1 ha2 htr hok) ?_
  rintro _ _ ⟨x0, x29, x30, x31, x86, x87, x90, x91, rfl, hT', u, hu, rfl⟩
  exact ⟨⟨u, rfl⟩, e, F, A, x0, i2, i3, i7, i8, i13, i18, i19, i20, i25, x29, x30, x31, i36, i37, i38, r73, r74, r75, r76, r77, r78, r79, r80, r81, r82, r83, r84, r85, x86, x87, r88, r89, x90, x91, r92, r93, r94, r95, rfl, hS, hT', htr, hok, hs, ht⟩
theorem ezl_m306 {a1 a2 : Int} (hJ : ezl_J s a t b g) (hd : 1 ≤ d) (ha1 : ezw_in a1) (ha2 : ezw_in a2) : ezw_C l ρ B xa Hb D cA 306 d [ezw_p 72, ezw_i a1, ezw_i a2] g (fun v g' => (∃ u, some (ezw_i u) = v) ∧ ezl_J s a t b g') := by
  obtain ⟨e, F, A, i0, i2, i3, i7, i8, i13, i18, i19, i20, i25, i29, i30, i31, i36, i37, i38, r73, r74, r75, r76, r77, r78, r79, r80, r81, r82, r83, r84, r85, r86, r87, r88, r89, r90, r91, r92, r93, r94, r95, rfl, hS, hT, htr, hok, hs, ht⟩ := hJ
  refine ezw_Cmono (ezm_m306 hT hd ha1 ha2 hok) ?_
  rintro _ _ ⟨x0, x88, rfl, hT', u, hu, pok, rfl⟩
  exact ⟨⟨u, rfl⟩, e, F, A, x0, i2, i3, i7, i8, i13, i18, i19, i20, i25, i29, i30, i31, i36, i37, i38, r73, r74, r75, r76, r77, r78, r79, r80, r81, r82, r83, r84, r85, r86, r87, x88, r89, r90, r91, r92, r93, r94, r95, rfl, hS, hT', htr, pok, hs, ht⟩
theorem ezl_m307 (hJ : ezl_J s a t b g) (hd : 4 ≤ d) : ezw_C l ρ B xa Hb D cA 307 d [ezw_p 72] g (fun v g' => (∃ u, some (ezw_i u) = v) ∧ ezl_J s a t b g') := by
  obtain ⟨e, F, A, i0, i2, i3, i7, i8, i13, i18, i19, i20, i25, i29, i30, i31, i36, i37, i38, r73, r74, r75, r76, r77, r78, r79, r80, r81, r82, r83, r84, r85, r86, r87, r88, r89, r90, r91, r92, r93, r94, r95, rfl, hS, hT, htr, hok, hs, ht⟩ := hJ
  refine ezw_Cmono (ezm_m307 hT hd htr) ?_
  rintro _ _ ⟨x0, x86, x87, rfl, hT', u, hu, rfl⟩
  exact ⟨⟨u, rfl⟩, e, F, A, x0, i2, i3, i7, i8, i13, i18, i19, i20, i25, i29, i30, i31, i36, i37, i38, r73, r74, r75, r76, r77, r78, r79, r80, r81, r82, r83, r84, r85, x86, x87, r88, r89, r90, r91, r92, r93, r94, r95, rfl, hS, hT', htr, hok, hs, ht⟩
theorem ezl_m309 {a1 : Int} (hJ : ezl_J s a t b g) (hd : 4 ≤ d) (ha1 : ezw_in a1) : ezw_C l ρ B xa Hb D cA 309 d [ezw_p 72, ezw_i a1] g (fun v g' => (∃ u, some (ezw_i u) = v) ∧ ezl_J s a t b g') := by
  obtain ⟨e, F, A, i0, i2, i3, i7, i8, i13, i18, i19, i20, i25, i29, i30, i31, i36, i37, i38, r73, r74, r75, r76, r77, r78, r79, r80, r81, r82, r83, r84, r85, r86, r87, r88, r89, r90, r91, r92, r93, r94, r95, rfl, hS, hT, htr, hok, hs, ht⟩ := hJ
  refine ezw_Cmono (ezm_m309 hT hd ha1 htr) ?_
  rintro _ _ ⟨x0, x86, x87, rfl, hT', u, hu, rfl⟩
  exact ⟨⟨u, rfl⟩, e, F, A, x0, i2, i3, i7, i8, i13, i18, i19, i20, i25, i29, i30, i31, i36, i37, i38, r73, r74, r75, r76, r77, r78, r79, r80, r81, r82, r83, r84, r85, x86, x87, r88, r89, r90, r91, r92, r93, r94, r95, rfl, hS, hT', htr, hok, hs, ht⟩
theorem ezl_m310 (hJ : ezl_J s a t b g) (hd : 4 ≤ d) : ezw_C l ρ B xa Hb D cA 310 d [ezw_p 72] g (fun v g' => (∃ u, some (ezw_i u) = v) ∧ ezl_J s a t b g') := by
  obtain ⟨e, F, A, i0, i2, i3, i7, i8, i13, i18, i19, i20, i25, i29, i30, i31, i36, i37, i38, r73, r74, r75, r76, r77, r78, r79, r80, r81, r82, r83, r84, r85, r86, r87, r88, r89, r90, r91, r92, r93, r94, r95, rfl, hS, hT, htr, hok, hs, ht⟩ := hJ
  refine ezw_Cmono (ezm_m310 hT hd htr) ?_
  rintro _ _ ⟨x0, x86, x87, rfl, hT', u, hu, rfl⟩
  exact ⟨⟨u, rfl⟩, e, F, A, x0, i2, i3, i7, i8, i13, i18, i19, i20, i25, i29, i30, i31, i36, i37, i38, r73, r74, r75, r76, r77, r78, r79, r80, r81, r82, r83, r84, r85, x86, x87, r88, r89, r90, r91, r92, r93, r94, r95, rfl, hS, hT', htr, hok, hs, ht⟩
theorem ezl_m311 {a1 a2 a3 : Int} (hJ : ezl_J s a t b g) (hd : 1 ≤ d) (ha1 : ezw_in a1) (ha2 : ezw_in a2) (ha3 : ezw_in a3) : ezw_C l ρ B xa Hb D cA 311 d [ezw_p 72, ezw_i a1, ezw_i a2, ezw_i a3] g (fun v g' => (∃ u, some (ezw_i u) = v) ∧ ezl_J s a t b g') := by
  obtain ⟨e, F, A, i0, i2, i3, i7, i8, i13, i18, i19, i20, i25, i29, i30, i31, i36, i37, i38, r73, r74, r75, r76, r77, r78, r79, r80, r81, r82, r83, r84, r85, r86, r87, r88, r89, r90, r91, r92, r93, r94, r95, rfl, hS, hT, htr, hok, hs, ht⟩ := hJ
  refine ezw_Cmono (ezm_m311 hT hd ha1 ha2 ha3) ?_
  rintro _ _ ⟨x0, rfl, hT', u, hu, rfl⟩
  exact ⟨⟨u, rfl⟩, e, F, A, x0, i2, i3, i7, i8, i13, i18, i19, i20, i25, i29, i30, i31, i36, i37, i38, r73, r74, r75, r76, r77, r78, r79, r80, r81, r82, r83, r84, r85, r86, r87, r88, r89, r90, r91, r92, r93, r94, r95, rfl, hS, hT', htr, hok, hs, ht⟩
theorem ezl_m313 {a1 a2 : Int} (hJ : ezl_J s a t b g) (hd : 2 ≤ d) (ha1 : ezw_in a1) (ha2 : ezw_in a2) : ezw_C l ρ B xa Hb D cA 313 d [ezw_p 72, ezw_i a1, ezw_i a2] g (fun v g' => (∃ u, some (ezw_i u) = v) ∧ ezl_J s a t b g') := by
  obtain ⟨e, F, A, i0, i2, i3, i7, i8, i13, i18, i19, i20, i25, i29, i30, i31, i36, i37, i38, r73, r74, r75, r76, r77, r78, r79, r80, r81, r82, r83, r84, r85, r86, r87, r88, r89, r90, r91, r92, r93, r94, r95, rfl, hS, hT, htr, hok, hs, ht⟩ := hJ
  refine ezw_Cmono (ezm_m313 hT hd ha1 ha2) ?_
  rintro _ _ ⟨x0, x92, rfl, hT', u, hu, rfl⟩
  exact ⟨⟨u, rfl⟩, e, F, A, x0, i2, i3, i7, i8, i13, i18, i19, i20, i25, i29, i30, i31, i36, i37, i38, r73, r74, r75, r76, r77, r78, r79, r80, r81, r82, r83, r84, r85, r86, r87, r88, r89, r90, r91, x92, r93, r94, r95, rfl, hS, hT', htr, hok, hs, ht⟩
theorem ezl_m316 (hJ : ezl_J s a t b g) (hd : 1 ≤ d) : ezw_C l ρ B xa Hb D cA 316 d [ezw_p 72] g (fun v g' => (∃ u, some (ezw_i u) = v) ∧ ezl_J s a t b g') := by
  obtain ⟨e, F, A, i0, i2, i3, i7, i8, i13, i18, i19, i20, i25, i29, i30, i31, i36, i37, i38, r73, r74, r75, r76, r77, r78, r79, r80, r81, r82, r83, r84, r85, r86, r87, r88, r89, r90, r91, r92, r93, r94, r95, rfl, hS, hT, htr, hok, hs, ht⟩ := hJ
  refine ezw_Cmono (ezm_m316 hT hd) ?_
  rintro _ _ ⟨x0, rfl, hT', u, hu, rfl⟩
  exact ⟨⟨u, rfl⟩, e, F, A, x0, i2, i3, i7, i8, i13, i18, i19, i20, i25, i29, i30, i31, i36, i37, i38, r73, r74, r75, r76, r77, r78, r79, r80, r81, r82, r83, r84, r85, r86, r87, r88, r89, r90, r91, r92, r93, r94, r95, rfl, hS, hT', htr, hok, hs, ht⟩
theorem ezl_m317 {a1 : Int} (hJ : ezl_J s a t b g) (hd : 2 ≤ d) (ha1 : ezw_in a1) : ezw_C l ρ B xa Hb D cA 317 d [ezw_p 72, ezw_i a1] g (fun v g' => (∃ u, some (ezw_i u) = v) ∧ ezl_J s a t b g') := by
  obtain ⟨e, F, A, i0, i2, i3, i7, i8, i13, i18, i19, i20, i25, i29, i30, i31, i36, i37, i38, r73, r74, r75, r76, r77, r78, r79, r80, r81, r82, r83, r84, r85, r86, r87, r88, r89, r90, r91, r92, r93, r94, r95, rfl, hS, hT, htr, hok, hs, ht⟩ := hJ
  refine ezw_Cmono (ezm_m317 hT hd ha1) ?_
  rintro _ _ ⟨x0, rfl, hT', u, hu, rfl⟩
  exact ⟨⟨u, rfl⟩, e, F, A, x0, i2, i3, i7, i8, i13, i18, i19, i20, i25, i29, i30, i31, i36, i37, i38, r73, r74, r75, r76, r77, r78, r79, r80, r81, r82, r83, r84, r85, r86, r87, r88, r89, r90, r91, r92, r93, r94, r95, rfl, hS, hT', htr, hok, hs, ht⟩
theorem ezl_m318 {a1 : Int} (hJ : ezl_J s a t b g) (hd : 2 ≤ d) (ha1 : ezw_in a1) : ezw_C l ρ B xa Hb D cA 318 d [ezw_p 72, ezw_i a1] g (fun v g' => (∃ u, some (ezw_i u) = v) ∧ ezl_J s a t b g') := by
  obtain ⟨e, F, A, i0, i2, i3, i7, i8, i13, i18, i19, i20, i25, i29, i30, i31, i36, i37, i38, r73, r74, r75, r76, r77, r78, r79, r80, r81, r82, r83, r84, r85, r86, r87, r88, r89, r90, r91, r92, r93, r94, r95, rfl, hS, hT, htr, hok, hs, ht⟩ := hJ
  refine ezw_Cmono (ezm_m318 hT hd ha1 htr) ?_
  rintro _ _ ⟨x0, rfl, hT', u, hu, rfl⟩
  exact ⟨⟨u, rfl⟩, e, F, A, x0, i2, i3, i7, i8, i13, i18, i19, i20, i25, i29, i30, i31, i36, i37, i38, r73, r74, r75, r76, r77, r78, r79, r80, r81, r82, r83, r84, r85, r86, r87, r88, r89, r90, r91, r92, r93, r94, r95, rfl, hS, hT', htr, hok, hs, ht⟩
theorem ezl_m319 {a1 a2 : Int} (hJ : ezl_J s a t b g) (hd : 3 ≤ d) (ha1 : ezw_in a1) (ha2 : ezw_in a2) : ezw_C l ρ B xa Hb D cA 319 d [ezw_p 72, ezw_i a1, ezw_i a2] g (fun v g' => (∃ u, some (ezw_i u) = v) ∧ ezl_J s a t b g') := by
  obtain ⟨e, F, A, i0, i2, i3, i7, i8, i13, i18, i19, i20, i25, i29, i30, i31, i36, i37, i38, r73, r74, r75, r76, r77, r78, r79, r80, r81, r82, r83, r84, r85, r86, r87, r88, r89, r90, r91, r92, r93, r94, r95, rfl, hS, hT, htr, hok, hs, ht⟩ := hJ
  refine ezw_Cmono (ezm_m319 hT hd ha1 ha2) ?_
  rintro _ _ ⟨x0, rfl, hT', u, hu, rfl⟩
  exact ⟨⟨u, rfl⟩, e, F, A, x0, i2, i3, i7, i8, i13, i18, i19, i20, i25, i29, i30, i31, i36, i37, i38, r73, r74, r75, r76, r77, r78, r79, r80, r81, r82, r83, r84, r85, r86, r87, r88, r89, r90, r91, r92, r93, r94, r95, rfl, hS, hT', htr, hok, hs, ht⟩
theorem ezl_m324 {a1 : Int} (hJ : ezl_J s a t b g) (hd : 3 ≤ d) (ha1 : ezw_in a1) : ezw_C l ρ B xa Hb D cA 324 d [ezw_p 72, ezw_i a1] g (fun v g' => (∃ u, some (ezw_i u) = v) ∧ ezl_J s a t b g') := by
  obtain ⟨e, F, A, i0, i2, i3, i7, i8, i13, i18, i19, i20, i25, i29, i30, i31, i36, i37, i38, r73, r74, r75, r76, r77, r78, r79, r80, r81, r82, r83, r84, r85, r86, r87, r88, r89, r90, r91, r92, r93, r94, r95, rfl, hS, hT, htr, hok, hs, ht⟩ := hJ
  refine ezw_Cmono (ezm_m324 hT hd ha1) ?_
  rintro _ _ ⟨x0, rfl, hT', u, hu, rfl⟩
  exact ⟨⟨u, rfl⟩, e, F, A, x0, i2, i3, i7, i8, i13, i18, i19, i20, i25, i29, i30, i31, i36, i37, i38, r73, r74, r75, r76, r77, r78, r79, r80, r81, r82, r83, r84, r85, r86, r87, r88, r89, r90, r91, r92, r93, r94, r95, rfl, hS, hT', htr, hok, hs, ht⟩
theorem ezl_m325 {a1 a2 : Int} (hJ : ezl_J s a t b g) (hd : 3 ≤ d) (ha1 : ezw_in a1) (ha2 : ezw_in a2) : ezw_C l ρ B xa Hb D cA 325 d [ezw_p 72, ezw_i a1, ezw_i a2] g (fun v g' => (∃ u, some (ezw_i u) = v) ∧ ezl_J s a t b g') := by
  obtain ⟨e, F, A, i0, i2, i3, i7, i8, i13, i18, i19, i20, i25, i29, i30, i31, i36, i37, i38, r73, r74, r75, r76, r77, r78, r79, r80, r81, r82, r83, r84, r85, r86, r87, r88, r89, r90, r91, r92, r93, r94, r95, rfl, hS, hT, htr, hok, hs, ht⟩ := hJ
  refine ezw_Cmono (ezm_m325 hT hd ha1 ha2) ?_
  rintro _ _ ⟨x0, rfl, hT', u, hu, rfl⟩
  exact ⟨⟨u, rfl⟩, e, F, A, x0, i2, i3, i7, i8, i13, i18, i19, i20, i25, i29, i30, i31, i36, i37, i38, r73, r74, r75, r76, r77, r78, r79, r80, r81, r82, r83, r84, r85, r86, r87, r88, r89, r90, r91, r92, r93, r94, r95, rfl, hS, hT', htr, hok, hs, ht⟩
theorem ezl_m326 {a1 a2 : Int} (hJ : ezl_J s a t b g) (hd : 6 ≤ d) (ha1 : ezw_in a1) (ha2 : ezw_in a2) : ezw_C l ρ B xa Hb D cA 326 d [ezw_p 72, ezw_i a1, ezw_i a2] g (fun v g' => (∃ u, some (ezw_i u) = v) ∧ ezl_J s a t b g') := by
  obtain ⟨e, F, A, i0, i2, i3, i7, i8, i13, i18, i19, i20, i25, i29, i30, i31, i36, i37, i38, r73, r74, r75, r76, r77, r78, r79, r80, r81, r82, r83, r84, r85, r86, r87, r88, r89, r90, r91, r92, r93, r94, r95, rfl, hS, hT, htr, hok, hs, ht⟩ := hJ
  refine ezw_Cmono (ezm_m326 hT hd ha1 ha2) ?_
  rintro _ _ ⟨x0, x36, x93, x94, x95, rfl, hT', u, hu, rfl⟩
  exact ⟨⟨u, rfl⟩, e, F, A, x0, i2, i3, i7, i8, i13, i18, i19, i20, i25, i29, i30, i31, x36, i37, i38, r73, r74, r75, r76, r77, r78, r79, r80, r81, r82, r83, r84, r85, r86, r87, r88, r89, r90, r91, r92, x93, x94, x95, rfl, hS, hT', htr, hok, hs, ht⟩
theorem ezl_m329 {a1 a2 a3 a4 : Int} (hJ : ezl_J s a t b g) (hd : 7 ≤ d) (ha1 : ezw_in a1) (ha2 : ezw_in a2) (ha3 : ezw_in a3) (ha4 : ezw_in a4) : ezw_C l ρ B xa Hb D cA 329 d [ezw_p 72, ezw_i a1, ezw_i a2, ezw_i a3, ezw_i a4] g (fun v g' => (∃ u, some (ezw_i u) = v) ∧ ezl_J s a t b g') := by
  obtain ⟨e, F, A, i0, i2, i3, i7, i8, i13, i18, i19, i20, i25, i29, i30, i31, i36, i37, i38, r73, r74, r75, r76, r77, r78, r79, r80, r81, r82, r83, r84, r85, r86, r87, r88, r89, r90, r91, r92, r93, r94, r95, rfl, hS, hT, htr, hok, hs, ht⟩ := hJ
  refine ezw_Cmono (ezm_m329 hT hd ha1 ha2 ha3 ha4 htr hok) ?_
  rintro _ _ ⟨x0, x29, x30, x31, x37, x38, x86, x87, x88, x90, x91, rfl, hT', u, hu, pok, rfl⟩
  exact ⟨⟨u, rfl⟩, e, F, A, x0, i2, i3, i7, i8, i13, i18, i19, i20, i25, x29, x30, x31, i36, x37, x38, r73, r74, r75, r76, r77, r78, r79, r80, r81, r82, r83, r84, r85, x86, x87, x88, r89, x90, x91, r92, r93, r94, r95, rfl, hS, hT', htr, pok, hs, ht⟩
theorem ezl_m334 {a1 a2 : Int} (hJ : ezl_J s a t b g) (hd : 1 ≤ d) (ha1 : ezw_in a1) (ha2 : ezw_in a2) : ezw_C l ρ B xa Hb D cA 334 d [ezw_p 72, ezw_i a1, ezw_i a2] g (fun v g' => (∃ u, some (ezw_i u) = v) ∧ ezl_J s a t b g') := by
  obtain ⟨e, F, A, i0, i2, i3, i7, i8, i13, i18, i19, i20, i25, i29, i30, i31, i36, i37, i38, r73, r74, r75, r76, r77, r78, r79, r80, r81, r82, r83, r84, r85, r86, r87, r88, r89, r90, r91, r92, r93, r94, r95, rfl, hS, hT, htr, hok, hs, ht⟩ := hJ
  refine ezw_Cmono (ezm_m334 hT hd ha1 ha2 hok) ?_
  rintro _ _ ⟨x0, x25, x88, x89, rfl, hT', u, hu, pok, rfl⟩
  exact ⟨⟨u, rfl⟩, e, F, A, x0, i2, i3, i7, i8, i13, i18, i19, i20, x25, i29, i30, i31, i36, i37, i38, r73, r74, r75, r76, r77, r78, r79, r80, r81, r82, r83, r84, r85, r86, r87, x88, x89, r90, r91, r92, r93, r94, r95, rfl, hS, hT', htr, pok, hs, ht⟩
theorem ezl_m335 {a1 : Int} (hJ : ezl_J s a t b g) (hd : 1 ≤ d) (ha1 : ezw_in a1) : ezw_C l ρ B xa Hb D cA 335 d [ezw_p 72, ezw_i a1] g (fun v g' => (∃ u, some (ezw_i u) = v) ∧ ezl_J s a t b g') := by
  obtain ⟨e, F, A, i0, i2, i3, i7, i8, i13, i18, i19, i20, i25, i29, i30, i31, i36, i37, i38, r73, r74, r75, r76, r77, r78, r79, r80, r81, r82, r83, r84, r85, r86, r87, r88, r89, r90, r91, r92, r93, r94, r95, rfl, hS, hT, htr, hok, hs, ht⟩ := hJ
  refine ezw_Cmono (ezm_m335 hT hd ha1) ?_
  rintro _ _ ⟨x0, rfl, hT', u, hu, rfl⟩
  exact ⟨⟨u, rfl⟩, e, F, A, x0, i2, i3, i7, i8, i13, i18, i19, i20, i25, i29, i30, i31, i36, i37, i38, r73, r74, r75, r76, r77, r78, r79, r80, r81, r82, r83, r84, r85, r86, r87, r88, r89, r90, r91, r92, r93, r94, r95, rfl, hS, hT', htr, hok, hs, ht⟩
end KL
