/-! ===== the model's calls, between ===== -/
section KL
variable {l : Launch} {ρ : ezq_E} {B : Nat} {xa : Nat → Option Nat} {Hb : Heap} {D : va_G} {cA : Nat → ClassId} {d : Nat} {g : Nat → ezq_C} {s : Int} {a : Int → Int} {t : Int} {b : Int → Int} {y z : ezp_D}
theorem ezl_fm {F : Nat → Nat → Int} {i0 i2 i3 i7 i8 i13 i18 i19 i20 i25 i29 i30 i31 i36 i37 i38 : Int} {f' : Nat → Int} {s : Int} (h : ∀ k, k ≠ 2 → f' k = ezw_fu (ezm_F F i0 i2 i3 i7 i8 i13 i18 i19 i20 i25 i29 i30 i31 i36 i37 i38 72) 0 0 k) (h2 : f' 2 = s) : f' = ezm_F F 0 s i3 i7 i8 i13 i18 i19 i20 i25 i29 i30 i31 i36 i37 i38 72 := by
  funext k
  by_cases hk : k = 2
  · subst hk
    rw [h2]
    rfl
  · rw [h k hk]
    unfold ezw_fu
    by_cases hk0 : k = 0
    · subst hk0
      rfl
    · rw [if_neg hk0]
      unfold ezm_F
      rw [if_pos rfl, if_pos rfl]
      split <;> first | rfl | exact absurd rfl hk0 | exact absurd rfl hk
theorem ezl_m210 {w1 w2 w3 : Int} (hJ : ezl_J s a t b y z g) (hd : 2 ≤ d) (g1 : ezw_il w1) (g2 : ezw_il w2) (g3 : ezw_il w3) : ezw_C l ρ B xa Hb D cA 210 d [ezw_p 72, ezw_l w1, ezw_l w2, ezw_l w3] g (fun v g' => (∃ u, some (ezw_i u) = v) ∧ ezl_J s a (ezf3 w1 w2 w3 t b).1 (ezf3 w1 w2 w3 t b).2 y z g') := by
  refine ezl_op hJ ?_
  intro e F A i0 i2 i3 i7 i8 i13 i18 i19 i20 i25 i29 i30 i31 i36 i37 i38 r73 r74 r75 r76 r77 r78 r79 r80 r81 r82 r83 r84 r85 r86 r87 r88 r89 r90 r91 r92 r93 r94 r95 hg hS hs hy hT htr hok ht hz
  subst hg
  have h0 := hT.t2
  refine ezw_Cmono (ezc_feedM g1 g2 g3 (f := ezm_F F i0 i2 i3 i7 i8 i13 i18 i19 i20 i25 i29 i30 i31 i36 i37 i38 72) (a := r73) rfl rfl h0.1 h0.2 hd) ?_
  rintro v g' ⟨h1, f', h2, h3, h4, h5, h6⟩
  obtain ⟨rfl, rfl, hM⟩ := ht
  have hle := ezf3_le w1 w2 w3 i2 r73 h0.1 h0.2
  have h1 : some (ezw_i (ezf3 w1 w2 w3 i2 r73).1) = v := h1
  have h4 : f' 2 = (ezf3 w1 w2 w3 i2 r73).1 := h4
  have hf := ezl_fm h3 h4
  have hgg : g' = ezm_h e F A 0 ((ezf3 w1 w2 w3 i2 r73).1) i3 i7 i8 i13 i18 i19 i20 i25 i29 i30 i31 i36 i37 i38 ((ezf3 w1 w2 w3 i2 r73).2) r74 r75 r76 r77 r78 r79 r80 r81 r82 r83 r84 r85 r86 r87 r88 r89 r90 r91 r92 r93 r94 r95 := by
    funext q
    by_cases q1 : q = 72
    · subst q1
      rw [h2, hf]
      rfl
    · by_cases q2 : q = 73
      · subst q2
        rw [h5]
        rfl
      · rw [h6 q q1 q2]
        unfold ezm_h ezu_g
        congr 1
        · unfold ezm_F
          rw [if_neg q1, if_neg q1]
        · unfold ezm_A
          split <;> first | rfl | exact absurd rfl q2
  rw [hgg]
  have hT9 : ezm_T 0 ((ezf3 w1 w2 w3 i2 r73).1) i3 i7 i8 i13 i18 i19 i20 i25 i29 i30 i31 i36 i37 i38 ((ezf3 w1 w2 w3 i2 r73).2) r74 r75 r76 r77 r78 r79 r80 r81 r82 r83 r84 r85 r86 r87 r88 r89 r90 r91 r92 r93 r94 r95 := ⟨⟨by decide, by decide⟩, hle, hT.t3, hT.t7, hT.t8, hT.t13, hT.t18, hT.t19, hT.t20, hT.t25, hT.t29, hT.t30, hT.t31, hT.t36, hT.t37, hT.t38, ezf3_in w1 w2 w3 i2 r73 hT.t73, hT.t74, hT.t75, hT.t76, hT.t77, hT.t78, hT.t79, hT.t80, hT.t81, hT.t82, hT.t83, hT.t84, hT.t85, hT.t86, hT.t87, hT.t88, hT.t89, hT.t90, hT.t91, hT.t92, hT.t93, hT.t94, hT.t95⟩
  exact ⟨⟨_, h1⟩, ezl_pk hS hs hy hT9 htr hok ⟨rfl, rfl, hM⟩ hz⟩
theorem ezl_m217 (hJ : ezl_J s a t b y z g) (hd : 38 ≤ d) (tp : ezp_tp (ezp_ch b t) t) : ezw_C l ρ B xa Hb D cA 217 d [ezw_p 72] g (fun v g' => (some (ezw_i (ezp_tree (ezp_ch b t))) = v) ∧ ezl_J s a 0 b y (ezl_ty (ezp_ch b t) z) g') := by
  refine ezl_op hJ ?_
  intro e F A i0 i2 i3 i7 i8 i13 i18 i19 i20 i25 i29 i30 i31 i36 i37 i38 r73 r74 r75 r76 r77 r78 r79 r80 r81 r82 r83 r84 r85 r86 r87 r88 r89 r90 r91 r92 r93 r94 r95 hg hS hs hy hT htr hok ht hz
  subst hg
  obtain ⟨rfl, rfl, hM⟩ := ht
  have ht : i2 = i2 ∧ r73 = r73 ∧ ∀ j, 0 ≤ j → j < 48 → r77 j = ezl_mw.getD j.toNat 0 := ⟨rfl, rfl, hM⟩
  refine ezw_Cmono (ezm_m217p hT hd htr hok rfl tp ht.2.2) ?_
  rintro _ _ ⟨x0, x2, x3, x7, x8, x13, x18, x19, x20, x25, x74, x75, x76, x78, x79, x80, x81, x82, x83, x84, x85, x88, x89, rfl, hT', u, hu, p0, ptr, pok, pan, ptf, ptn, rfl⟩
  exact ⟨by rw [pan], ezl_pk hS hs hy hT' ptr pok ⟨p0, ht.2⟩ (by
    by_cases h : ezp_tree (ezp_ch r73 i2) = 0
    · rw [ezl_ty0 h]
      exact ptn (by rw [pan]; exact h)
    · rw [ezl_ty1 h]
      exact ptf (by rw [pan]; exact h) z hz)⟩
theorem ezl_m254 (hJ : ezl_J s a t b y z g) (hd : 6 ≤ d) : ezw_C l ρ B xa Hb D cA 254 d [ezw_p 72] g (fun v g' => (∃ u, some (ezw_i u) = v) ∧ ezl_J s a 0 b y z g') := by
  refine ezl_op hJ ?_
  intro e F A i0 i2 i3 i7 i8 i13 i18 i19 i20 i25 i29 i30 i31 i36 i37 i38 r73 r74 r75 r76 r77 r78 r79 r80 r81 r82 r83 r84 r85 r86 r87 r88 r89 r90 r91 r92 r93 r94 r95 hg hS hs hy hT htr hok ht hz
  subst hg
  refine ezw_Cmono (ezm_m254 hT hd) ?_
  rintro _ _ ⟨x0, x2, x3, x7, x8, x74, x75, x76, x85, rfl, hT', u, hu, p0, rfl⟩
  exact ⟨⟨u, rfl⟩, ezl_pk hS hs hy hT' htr hok ⟨p0, ht.2⟩ hz⟩
theorem ezl_m256 {a1 a2 : Int} (hJ : ezl_J s a t b y z g) (hd : 2 ≤ d) (ha1 : ezw_in a1) (ha2 : ezw_in a2) : ezw_C l ρ B xa Hb D cA 256 d [ezw_p 72, ezw_i a1, ezw_i a2] g (fun v g' => (∃ u, some (ezw_i u) = v) ∧ ezl_J s a t b y z g') := by
  refine ezl_op hJ ?_
  intro e F A i0 i2 i3 i7 i8 i13 i18 i19 i20 i25 i29 i30 i31 i36 i37 i38 r73 r74 r75 r76 r77 r78 r79 r80 r81 r82 r83 r84 r85 r86 r87 r88 r89 r90 r91 r92 r93 r94 r95 hg hS hs hy hT htr hok ht hz
  subst hg
  refine ezw_Cmono (ezm_m256 hT hd ha1 ha2) ?_
  rintro _ _ ⟨x0, rfl, hT', u, hu, rfl⟩
  exact ⟨⟨u, rfl⟩, ezl_pk hS hs hy hT' htr hok ht hz⟩
theorem ezl_m261 {a1 a2 : Int} (hJ : ezl_J s a t b y z g) (hd : 2 ≤ d) (ha1 : ezw_in a1) (ha2 : ezw_in a2) : ezw_C l ρ B xa Hb D cA 261 d [ezw_p 72, ezw_i a1, ezw_i a2] g (fun v g' => (∃ u, some (ezw_i u) = v) ∧ ezl_J s a t b y z g') := by
  refine ezl_op hJ ?_
  intro e F A i0 i2 i3 i7 i8 i13 i18 i19 i20 i25 i29 i30 i31 i36 i37 i38 r73 r74 r75 r76 r77 r78 r79 r80 r81 r82 r83 r84 r85 r86 r87 r88 r89 r90 r91 r92 r93 r94 r95 hg hS hs hy hT htr hok ht hz
  subst hg
  refine ezw_Cmono (ezm_m261 hT hd ha1 ha2) ?_
  rintro _ _ ⟨x0, rfl, hT', u, hu, rfl⟩
  exact ⟨⟨u, rfl⟩, ezl_pk hS hs hy hT' htr hok ht hz⟩
theorem ezl_m264 {a1 a2 a3 : Int} (hJ : ezl_J s a t b y z g) (hd : 4 ≤ d) (ha1 : ezw_in a1) (ha2 : ezw_in a2) (ha3 : ezw_in a3) : ezw_C l ρ B xa Hb D cA 264 d [ezw_p 72, ezw_i a1, ezw_i a2, ezw_i a3] g (fun v g' => (∃ u, some (ezw_i u) = v) ∧ ezl_J s a t b y z g') := by
  refine ezl_op hJ ?_
  intro e F A i0 i2 i3 i7 i8 i13 i18 i19 i20 i25 i29 i30 i31 i36 i37 i38 r73 r74 r75 r76 r77 r78 r79 r80 r81 r82 r83 r84 r85 r86 r87 r88 r89 r90 r91 r92 r93 r94 r95 hg hS hs hy hT htr hok ht hz
  subst hg
  refine ezw_Cmono (ezm_m264 hT hd ha1 ha2 ha3 htr) ?_
  rintro _ _ ⟨x0, x86, x87, rfl, hT', u, hu, rfl⟩
  exact ⟨⟨u, rfl⟩, ezl_pk hS hs hy hT' htr hok ht hz⟩
theorem ezl_m272 {a1 a2 a3 : Int} (hJ : ezl_J s a t b y z g) (hd : 5 ≤ d) (ha1 : ezw_in a1) (ha2 : ezw_in a2) (ha3 : ezw_in a3) : ezw_C l ρ B xa Hb D cA 272 d [ezw_p 72, ezw_i a1, ezw_i a2, ezw_i a3] g (fun v g' => (∃ u, some (ezw_i u) = v) ∧ ezl_J s a t b y z g') := by
  refine ezl_op hJ ?_
  intro e F A i0 i2 i3 i7 i8 i13 i18 i19 i20 i25 i29 i30 i31 i36 i37 i38 r73 r74 r75 r76 r77 r78 r79 r80 r81 r82 r83 r84 r85 r86 r87 r88 r89 r90 r91 r92 r93 r94 r95 hg hS hs hy hT htr hok ht hz
  subst hg
  refine ezw_Cmono (ezm_m272 hT hd ha1 ha2 ha3 htr hok) ?_
  rintro _ _ ⟨x0, x25, x86, x87, x88, rfl, hT', u, hu, pok, rfl⟩
  exact ⟨⟨u, rfl⟩, ezl_pk hS hs hy hT' htr pok ht hz⟩
theorem ezl_m278 (hJ : ezl_J s a t b y z g) (hd : 2 ≤ d) : ezw_C l ρ B xa Hb D cA 278 d [ezw_p 72] g (fun v g' => (∃ u, some (ezw_i u) = v) ∧ ezl_J s a t b y z g') := by
  refine ezl_op hJ ?_
  intro e F A i0 i2 i3 i7 i8 i13 i18 i19 i20 i25 i29 i30 i31 i36 i37 i38 r73 r74 r75 r76 r77 r78 r79 r80 r81 r82 r83 r84 r85 r86 r87 r88 r89 r90 r91 r92 r93 r94 r95 hg hS hs hy hT htr hok ht hz
  subst hg
  refine ezw_Cmono (ezm_m278 hT hd hok) ?_
  rintro _ _ ⟨x0, x25, x88, rfl, hT', u, hu, pok, rfl⟩
  exact ⟨⟨u, rfl⟩, ezl_pk hS hs hy hT' htr pok ht hz⟩
theorem ezl_m280 (hJ : ezl_J s a t b y z g) (hd : 2 ≤ d) : ezw_C l ρ B xa Hb D cA 280 d [ezw_p 72] g (fun v g' => (∃ u, some (ezw_i u) = v) ∧ ezl_J s a t b y z g') := by
  refine ezl_op hJ ?_
  intro e F A i0 i2 i3 i7 i8 i13 i18 i19 i20 i25 i29 i30 i31 i36 i37 i38 r73 r74 r75 r76 r77 r78 r79 r80 r81 r82 r83 r84 r85 r86 r87 r88 r89 r90 r91 r92 r93 r94 r95 hg hS hs hy hT htr hok ht hz
  subst hg
  refine ezw_Cmono (ezm_m280 hT hd hok) ?_
  rintro _ _ ⟨x0, x25, x88, rfl, hT', u, hu, pok, rfl⟩
  exact ⟨⟨u, rfl⟩, ezl_pk hS hs hy hT' htr pok ht hz⟩
theorem ezl_m282 {a1 a2 : Int} (hJ : ezl_J s a t b y z g) (hd : 2 ≤ d) (ha1 : ezw_in a1) (ha2 : ezw_in a2) : ezw_C l ρ B xa Hb D cA 282 d [ezw_p 72, ezw_i a1, ezw_i a2] g (fun v g' => (∃ u, some (ezw_i u) = v) ∧ ezl_J s a t b y z g') := by
  refine ezl_op hJ ?_
  intro e F A i0 i2 i3 i7 i8 i13 i18 i19 i20 i25 i29 i30 i31 i36 i37 i38 r73 r74 r75 r76 r77 r78 r79 r80 r81 r82 r83 r84 r85 r86 r87 r88 r89 r90 r91 r92 r93 r94 r95 hg hS hs hy hT htr hok ht hz
  subst hg
  refine ezw_Cmono (ezm_m282 hT hd ha1 ha2 hok) ?_
  rintro _ _ ⟨x0, x25, x88, rfl, hT', u, hu, pok, rfl⟩
  exact ⟨⟨u, rfl⟩, ezl_pk hS hs hy hT' htr pok ht hz⟩
theorem ezl_m285 {a1 a2 : Int} (hJ : ezl_J s a t b y z g) (hd : 3 ≤ d) (ha1 : ezw_in a1) (ha2 : ezw_in a2) : ezw_C l ρ B xa Hb D cA 285 d [ezw_p 72, ezw_i a1, ezw_i a2] g (fun v g' => (∃ u, some (ezw_i u) = v) ∧ ezl_J s a t b y z g') := by
  refine ezl_op hJ ?_
  intro e F A i0 i2 i3 i7 i8 i13 i18 i19 i20 i25 i29 i30 i31 i36 i37 i38 r73 r74 r75 r76 r77 r78 r79 r80 r81 r82 r83 r84 r85 r86 r87 r88 r89 r90 r91 r92 r93 r94 r95 hg hS hs hy hT htr hok ht hz
  subst hg
  refine ezw_Cmono (ezm_m285 hT hd ha1 ha2 htr hok) ?_
  rintro _ _ ⟨x0, x25, x88, rfl, hT', u, hu, pok, rfl⟩
  exact ⟨⟨u, rfl⟩, ezl_pk hS hs hy hT' htr pok ht hz⟩
theorem ezl_m288 {a1 : Int} (hJ : ezl_J s a t b y z g) (hd : 2 ≤ d) (ha1 : ezw_in a1) : ezw_C l ρ B xa Hb D cA 288 d [ezw_p 72, ezw_i a1] g (fun v g' => (∃ u, some (ezw_i u) = v) ∧ ezl_J s a t b y z g') := by
  refine ezl_op hJ ?_
  intro e F A i0 i2 i3 i7 i8 i13 i18 i19 i20 i25 i29 i30 i31 i36 i37 i38 r73 r74 r75 r76 r77 r78 r79 r80 r81 r82 r83 r84 r85 r86 r87 r88 r89 r90 r91 r92 r93 r94 r95 hg hS hs hy hT htr hok ht hz
  subst hg
  refine ezw_Cmono (ezm_m288 hT hd ha1 hok) ?_
  rintro _ _ ⟨x0, x25, x88, rfl, hT', u, hu, pok, rfl⟩
  exact ⟨⟨u, rfl⟩, ezl_pk hS hs hy hT' htr pok ht hz⟩
theorem ezl_m291 (hJ : ezl_J s a t b y z g) (hd : 1 ≤ d) : ezw_C l ρ B xa Hb D cA 291 d [ezw_p 72] g (fun v g' => (∃ u, some (ezw_i u) = v) ∧ ezl_J s a t b y z g') := by
  refine ezl_op hJ ?_
  intro e F A i0 i2 i3 i7 i8 i13 i18 i19 i20 i25 i29 i30 i31 i36 i37 i38 r73 r74 r75 r76 r77 r78 r79 r80 r81 r82 r83 r84 r85 r86 r87 r88 r89 r90 r91 r92 r93 r94 r95 hg hS hs hy hT htr hok ht hz
  subst hg
  refine ezw_Cmono (ezm_m291 hT hd hok) ?_
  rintro _ _ ⟨x0, x25, x88, rfl, hT', u, hu, pok, rfl⟩
  exact ⟨⟨u, rfl⟩, ezl_pk hS hs hy hT' htr pok ht hz⟩
theorem ezl_m292 (hJ : ezl_J s a t b y z g) (hd : 2 ≤ d) : ezw_C l ρ B xa Hb D cA 292 d [ezw_p 72] g (fun v g' => (∃ u, some (ezw_i u) = v) ∧ ezl_J s a t b y z g') := by
  refine ezl_op hJ ?_
  intro e F A i0 i2 i3 i7 i8 i13 i18 i19 i20 i25 i29 i30 i31 i36 i37 i38 r73 r74 r75 r76 r77 r78 r79 r80 r81 r82 r83 r84 r85 r86 r87 r88 r89 r90 r91 r92 r93 r94 r95 hg hS hs hy hT htr hok ht hz
  subst hg
  refine ezw_Cmono (ezm_m292 hT hd) ?_
  rintro _ _ ⟨x0, rfl, hT', u, hu, rfl⟩
  exact ⟨⟨u, rfl⟩, ezl_pk hS hs hy hT' htr hok ht hz⟩
theorem ezl_m294 {a1 : Int} (hJ : ezl_J s a t b y z g) (hd : 6 ≤ d) (ha1 : ezw_in a1) : ezw_C l ρ B xa Hb D cA 294 d [ezw_p 72, ezw_i a1] g (fun v g' => (∃ u, some (ezw_i u) = v) ∧ ezl_J s a t b y z g') := by
  refine ezl_op hJ ?_
  intro e F A i0 i2 i3 i7 i8 i13 i18 i19 i20 i25 i29 i30 i31 i36 i37 i38 r73 r74 r75 r76 r77 r78 r79 r80 r81 r82 r83 r84 r85 r86 r87 r88 r89 r90 r91 r92 r93 r94 r95 hg hS hs hy hT htr hok ht hz
  subst hg
  refine ezw_Cmono (ezm_m294 hT hd ha1 htr hok) ?_
  rintro _ _ ⟨x0, x86, x87, x88, rfl, hT', u, hu, pok, rfl⟩
  exact ⟨⟨u, rfl⟩, ezl_pk hS hs hy hT' htr pok ht hz⟩
theorem ezl_m296 {a1 a2 : Int} (hJ : ezl_J s a t b y z g) (hd : 7 ≤ d) (ha1 : ezw_in a1) (ha2 : ezw_in a2) : ezw_C l ρ B xa Hb D cA 296 d [ezw_p 72, ezw_i a1, ezw_i a2] g (fun v g' => (∃ u, some (ezw_i u) = v) ∧ ezl_J s a t b y z g') := by
  refine ezl_op hJ ?_
  intro e F A i0 i2 i3 i7 i8 i13 i18 i19 i20 i25 i29 i30 i31 i36 i37 i38 r73 r74 r75 r76 r77 r78 r79 r80 r81 r82 r83 r84 r85 r86 r87 r88 r89 r90 r91 r92 r93 r94 r95 hg hS hs hy hT htr hok ht hz
  subst hg
  refine ezw_Cmono (ezm_m296 hT hd ha1 ha2 htr hok) ?_
  rintro _ _ ⟨x0, x29, x30, x31, x86, x87, x90, x91, rfl, hT', u, hu, rfl⟩
  exact ⟨⟨u, rfl⟩, ezl_pk hS hs hy hT' htr hok ht hz⟩
theorem ezl_m306 {a1 a2 : Int} (hJ : ezl_J s a t b y z g) (hd : 1 ≤ d) (ha1 : ezw_in a1) (ha2 : ezw_in a2) : ezw_C l ρ B xa Hb D cA 306 d [ezw_p 72, ezw_i a1, ezw_i a2] g (fun v g' => (∃ u, some (ezw_i u) = v) ∧ ezl_J s a t b y z g') := by
  refine ezl_op hJ ?_
  intro e F A i0 i2 i3 i7 i8 i13 i18 i19 i20 i25 i29 i30 i31 i36 i37 i38 r73 r74 r75 r76 r77 r78 r79 r80 r81 r82 r83 r84 r85 r86 r87 r88 r89 r90 r91 r92 r93 r94 r95 hg hS hs hy hT htr hok ht hz
  subst hg
  refine ezw_Cmono (ezm_m306 hT hd ha1 ha2 hok) ?_
  rintro _ _ ⟨x0, x88, rfl, hT', u, hu, pok, rfl⟩
  exact ⟨⟨u, rfl⟩, ezl_pk hS hs hy hT' htr pok ht hz⟩
theorem ezl_m307 (hJ : ezl_J s a t b y z g) (hd : 4 ≤ d) : ezw_C l ρ B xa Hb D cA 307 d [ezw_p 72] g (fun v g' => (∃ u, some (ezw_i u) = v) ∧ ezl_J s a t b y z g') := by
  refine ezl_op hJ ?_
  intro e F A i0 i2 i3 i7 i8 i13 i18 i19 i20 i25 i29 i30 i31 i36 i37 i38 r73 r74 r75 r76 r77 r78 r79 r80 r81 r82 r83 r84 r85 r86 r87 r88 r89 r90 r91 r92 r93 r94 r95 hg hS hs hy hT htr hok ht hz
  subst hg
  refine ezw_Cmono (ezm_m307 hT hd htr) ?_
  rintro _ _ ⟨x0, x86, x87, rfl, hT', u, hu, rfl⟩
  exact ⟨⟨u, rfl⟩, ezl_pk hS hs hy hT' htr hok ht hz⟩
theorem ezl_m309 {a1 : Int} (hJ : ezl_J s a t b y z g) (hd : 4 ≤ d) (ha1 : ezw_in a1) : ezw_C l ρ B xa Hb D cA 309 d [ezw_p 72, ezw_i a1] g (fun v g' => (∃ u, some (ezw_i u) = v) ∧ ezl_J s a t b y z g') := by
  refine ezl_op hJ ?_
  intro e F A i0 i2 i3 i7 i8 i13 i18 i19 i20 i25 i29 i30 i31 i36 i37 i38 r73 r74 r75 r76 r77 r78 r79 r80 r81 r82 r83 r84 r85 r86 r87 r88 r89 r90 r91 r92 r93 r94 r95 hg hS hs hy hT htr hok ht hz
  subst hg
  refine ezw_Cmono (ezm_m309 hT hd ha1 htr) ?_
  rintro _ _ ⟨x0, x86, x87, rfl, hT', u, hu, rfl⟩
  exact ⟨⟨u, rfl⟩, ezl_pk hS hs hy hT' htr hok ht hz⟩
theorem ezl_m310 (hJ : ezl_J s a t b y z g) (hd : 4 ≤ d) : ezw_C l ρ B xa Hb D cA 310 d [ezw_p 72] g (fun v g' => (∃ u, some (ezw_i u) = v) ∧ ezl_J s a t b y z g') := by
  refine ezl_op hJ ?_
  intro e F A i0 i2 i3 i7 i8 i13 i18 i19 i20 i25 i29 i30 i31 i36 i37 i38 r73 r74 r75 r76 r77 r78 r79 r80 r81 r82 r83 r84 r85 r86 r87 r88 r89 r90 r91 r92 r93 r94 r95 hg hS hs hy hT htr hok ht hz
  subst hg
  refine ezw_Cmono (ezm_m310 hT hd htr) ?_
  rintro _ _ ⟨x0, x86, x87, rfl, hT', u, hu, rfl⟩
  exact ⟨⟨u, rfl⟩, ezl_pk hS hs hy hT' htr hok ht hz⟩
theorem ezl_m311 {a1 a2 a3 : Int} (hJ : ezl_J s a t b y z g) (hd : 1 ≤ d) (ha1 : ezw_in a1) (ha2 : ezw_in a2) (ha3 : ezw_in a3) : ezw_C l ρ B xa Hb D cA 311 d [ezw_p 72, ezw_i a1, ezw_i a2, ezw_i a3] g (fun v g' => (∃ u, some (ezw_i u) = v) ∧ ezl_J s a t b y z g') := by
  refine ezl_op hJ ?_
  intro e F A i0 i2 i3 i7 i8 i13 i18 i19 i20 i25 i29 i30 i31 i36 i37 i38 r73 r74 r75 r76 r77 r78 r79 r80 r81 r82 r83 r84 r85 r86 r87 r88 r89 r90 r91 r92 r93 r94 r95 hg hS hs hy hT htr hok ht hz
  subst hg
  refine ezw_Cmono (ezm_m311 hT hd ha1 ha2 ha3) ?_
  rintro _ _ ⟨x0, rfl, hT', u, hu, rfl⟩
  exact ⟨⟨u, rfl⟩, ezl_pk hS hs hy hT' htr hok ht hz⟩
theorem ezl_m313 {a1 a2 : Int} (hJ : ezl_J s a t b y z g) (hd : 2 ≤ d) (ha1 : ezw_in a1) (ha2 : ezw_in a2) : ezw_C l ρ B xa Hb D cA 313 d [ezw_p 72, ezw_i a1, ezw_i a2] g (fun v g' => (∃ u, some (ezw_i u) = v) ∧ ezl_J s a t b y z g') := by
  refine ezl_op hJ ?_
  intro e F A i0 i2 i3 i7 i8 i13 i18 i19 i20 i25 i29 i30 i31 i36 i37 i38 r73 r74 r75 r76 r77 r78 r79 r80 r81 r82 r83 r84 r85 r86 r87 r88 r89 r90 r91 r92 r93 r94 r95 hg hS hs hy hT htr hok ht hz
  subst hg
  refine ezw_Cmono (ezm_m313 hT hd ha1 ha2) ?_
  rintro _ _ ⟨x0, x92, rfl, hT', u, hu, rfl⟩
  exact ⟨⟨u, rfl⟩, ezl_pk hS hs hy hT' htr hok ht hz⟩
theorem ezl_m316 (hJ : ezl_J s a t b y z g) (hd : 1 ≤ d) : ezw_C l ρ B xa Hb D cA 316 d [ezw_p 72] g (fun v g' => (∃ u, some (ezw_i u) = v) ∧ ezl_J s a t b y z g') := by
  refine ezl_op hJ ?_
  intro e F A i0 i2 i3 i7 i8 i13 i18 i19 i20 i25 i29 i30 i31 i36 i37 i38 r73 r74 r75 r76 r77 r78 r79 r80 r81 r82 r83 r84 r85 r86 r87 r88 r89 r90 r91 r92 r93 r94 r95 hg hS hs hy hT htr hok ht hz
  subst hg
  refine ezw_Cmono (ezm_m316 hT hd) ?_
  rintro _ _ ⟨x0, rfl, hT', u, hu, rfl⟩
  exact ⟨⟨u, rfl⟩, ezl_pk hS hs hy hT' htr hok ht hz⟩
theorem ezl_m317 {a1 : Int} (hJ : ezl_J s a t b y z g) (hd : 2 ≤ d) (ha1 : ezw_in a1) (hB : ezp_B z) : ezw_C l ρ B xa Hb D cA 317 d [ezw_p 72, ezw_i a1] g (fun v g' => (∃ u : Int, ezw_in u ∧ (u = ezp_far z a1) ∧ some (ezw_i u) = v) ∧ ezl_J s a t b y z g') := by
  refine ezl_op hJ ?_
  intro e F A i0 i2 i3 i7 i8 i13 i18 i19 i20 i25 i29 i30 i31 i36 i37 i38 r73 r74 r75 r76 r77 r78 r79 r80 r81 r82 r83 r84 r85 r86 r87 r88 r89 r90 r91 r92 r93 r94 r95 hg hS hs hy hT htr hok ht hz
  subst hg
  refine ezw_Cmono (ezm_m317a hT hd ha1 hz hB) ?_
  rintro _ _ ⟨x0, rfl, hT', u, hu, pan, rfl⟩
  exact ⟨⟨u, hu, pan, rfl⟩, ezl_pk hS hs hy hT' htr hok ht hz⟩
theorem ezl_m318 {a1 : Int} (hJ : ezl_J s a t b y z g) (hd : 2 ≤ d) (ha1 : ezw_in a1) (hB : ezp_B z) : ezw_C l ρ B xa Hb D cA 318 d [ezw_p 72, ezw_i a1] g (fun v g' => (∃ u : Int, ezw_in u ∧ (u = ezp_mi z a1) ∧ some (ezw_i u) = v) ∧ ezl_J s a t b y z g') := by
  refine ezl_op hJ ?_
  intro e F A i0 i2 i3 i7 i8 i13 i18 i19 i20 i25 i29 i30 i31 i36 i37 i38 r73 r74 r75 r76 r77 r78 r79 r80 r81 r82 r83 r84 r85 r86 r87 r88 r89 r90 r91 r92 r93 r94 r95 hg hS hs hy hT htr hok ht hz
  subst hg
  refine ezw_Cmono (ezm_m318a hT hd ha1 hz hB) ?_
  rintro _ _ ⟨x0, rfl, hT', u, hu, pan, rfl⟩
  exact ⟨⟨u, hu, pan, rfl⟩, ezl_pk hS hs hy hT' htr hok ht hz⟩
theorem ezl_m319 {a1 a2 : Int} (hJ : ezl_J s a t b y z g) (hd : 3 ≤ d) (ha1 : ezw_in a1) (ha2 : ezw_in a2) (hB : ezp_B z) : ezw_C l ρ B xa Hb D cA 319 d [ezw_p 72, ezw_i a1, ezw_i a2] g (fun v g' => (∃ u : Int, ezw_in u ∧ (u = ezp_sa z a1 a2) ∧ some (ezw_i u) = v) ∧ ezl_J s a t b y z g') := by
  refine ezl_op hJ ?_
  intro e F A i0 i2 i3 i7 i8 i13 i18 i19 i20 i25 i29 i30 i31 i36 i37 i38 r73 r74 r75 r76 r77 r78 r79 r80 r81 r82 r83 r84 r85 r86 r87 r88 r89 r90 r91 r92 r93 r94 r95 hg hS hs hy hT htr hok ht hz
  subst hg
  refine ezw_Cmono (ezm_m319a hT hd ha1 ha2 hz hB) ?_
  rintro _ _ ⟨x0, rfl, hT', u, hu, pan, rfl⟩
  exact ⟨⟨u, hu, pan, rfl⟩, ezl_pk hS hs hy hT' htr hok ht hz⟩
theorem ezl_m324 {a1 : Int} (hJ : ezl_J s a t b y z g) (hd : 3 ≤ d) (ha1 : ezw_in a1) (hB : ezp_B z) : ezw_C l ρ B xa Hb D cA 324 d [ezw_p 72, ezw_i a1] g (fun v g' => (∃ u : Int, ezw_in u ∧ (u = ezp_pla z a1) ∧ some (ezw_i u) = v) ∧ ezl_J s a t b y z g') := by
  refine ezl_op hJ ?_
  intro e F A i0 i2 i3 i7 i8 i13 i18 i19 i20 i25 i29 i30 i31 i36 i37 i38 r73 r74 r75 r76 r77 r78 r79 r80 r81 r82 r83 r84 r85 r86 r87 r88 r89 r90 r91 r92 r93 r94 r95 hg hS hs hy hT htr hok ht hz
  subst hg
  refine ezw_Cmono (ezm_m324a hT hd ha1 hz hB) ?_
  rintro _ _ ⟨x0, rfl, hT', u, hu, pan, rfl⟩
  exact ⟨⟨u, hu, pan, rfl⟩, ezl_pk hS hs hy hT' htr hok ht hz⟩
theorem ezl_m325 {a1 a2 : Int} (hJ : ezl_J s a t b y z g) (hd : 3 ≤ d) (ha1 : ezw_in a1) (ha2 : ezw_in a2) (hB : ezp_B z) : ezw_C l ρ B xa Hb D cA 325 d [ezw_p 72, ezw_i a1, ezw_i a2] g (fun v g' => (∃ u : Int, ezw_in u ∧ (ezp_nea z a1 a2 u) ∧ some (ezw_i u) = v) ∧ ezl_J s a t b y z g') := by
  refine ezl_op hJ ?_
  intro e F A i0 i2 i3 i7 i8 i13 i18 i19 i20 i25 i29 i30 i31 i36 i37 i38 r73 r74 r75 r76 r77 r78 r79 r80 r81 r82 r83 r84 r85 r86 r87 r88 r89 r90 r91 r92 r93 r94 r95 hg hS hs hy hT htr hok ht hz
  subst hg
  refine ezw_Cmono (ezm_m325a hT hd ha1 ha2 hz hB) ?_
  rintro _ _ ⟨x0, rfl, hT', u, hu, pan, rfl⟩
  exact ⟨⟨u, hu, pan, rfl⟩, ezl_pk hS hs hy hT' htr hok ht hz⟩
theorem ezl_m326 {a1 a2 : Int} (hJ : ezl_J s a t b y z g) (hd : 6 ≤ d) (ha1 : ezw_in a1) (ha2 : ezw_in a2) : ezw_C l ρ B xa Hb D cA 326 d [ezw_p 72, ezw_i a1, ezw_i a2] g (fun v g' => (∃ u, some (ezw_i u) = v) ∧ ezl_J s a t b y z g') := by
  refine ezl_op hJ ?_
  intro e F A i0 i2 i3 i7 i8 i13 i18 i19 i20 i25 i29 i30 i31 i36 i37 i38 r73 r74 r75 r76 r77 r78 r79 r80 r81 r82 r83 r84 r85 r86 r87 r88 r89 r90 r91 r92 r93 r94 r95 hg hS hs hy hT htr hok ht hz
  subst hg
  refine ezw_Cmono (ezm_m326 hT hd ha1 ha2) ?_
  rintro _ _ ⟨x0, x36, x93, x94, x95, rfl, hT', u, hu, rfl⟩
  exact ⟨⟨u, rfl⟩, ezl_pk hS hs hy hT' htr hok ht hz⟩
theorem ezl_m329 {a1 a2 a3 a4 : Int} (hJ : ezl_J s a t b y z g) (hd : 7 ≤ d) (ha1 : ezw_in a1) (ha2 : ezw_in a2) (ha3 : ezw_in a3) (ha4 : ezw_in a4) : ezw_C l ρ B xa Hb D cA 329 d [ezw_p 72, ezw_i a1, ezw_i a2, ezw_i a3, ezw_i a4] g (fun v g' => (∃ u, some (ezw_i u) = v) ∧ ezl_J s a t b y z g') := by
  refine ezl_op hJ ?_
  intro e F A i0 i2 i3 i7 i8 i13 i18 i19 i20 i25 i29 i30 i31 i36 i37 i38 r73 r74 r75 r76 r77 r78 r79 r80 r81 r82 r83 r84 r85 r86 r87 r88 r89 r90 r91 r92 r93 r94 r95 hg hS hs hy hT htr hok ht hz
  subst hg
  refine ezw_Cmono (ezm_m329 hT hd ha1 ha2 ha3 ha4 htr hok) ?_
  rintro _ _ ⟨x0, x29, x30, x31, x37, x38, x86, x87, x88, x90, x91, rfl, hT', u, hu, pok, rfl⟩
  exact ⟨⟨u, rfl⟩, ezl_pk hS hs hy hT' htr pok ht hz⟩
theorem ezl_m334 {a1 a2 : Int} (hJ : ezl_J s a t b y z g) (hd : 1 ≤ d) (ha1 : ezw_in a1) (ha2 : ezw_in a2) : ezw_C l ρ B xa Hb D cA 334 d [ezw_p 72, ezw_i a1, ezw_i a2] g (fun v g' => (∃ u, some (ezw_i u) = v) ∧ ezl_J s a t b y z g') := by
  refine ezl_op hJ ?_
  intro e F A i0 i2 i3 i7 i8 i13 i18 i19 i20 i25 i29 i30 i31 i36 i37 i38 r73 r74 r75 r76 r77 r78 r79 r80 r81 r82 r83 r84 r85 r86 r87 r88 r89 r90 r91 r92 r93 r94 r95 hg hS hs hy hT htr hok ht hz
  subst hg
  refine ezw_Cmono (ezm_m334 hT hd ha1 ha2 hok) ?_
  rintro _ _ ⟨x0, x25, x88, x89, rfl, hT', u, hu, pok, rfl⟩
  exact ⟨⟨u, rfl⟩, ezl_pk hS hs hy hT' htr pok ht hz⟩
theorem ezl_m335 {a1 : Int} (hJ : ezl_J s a t b y z g) (hd : 1 ≤ d) (ha1 : ezw_in a1) : ezw_C l ρ B xa Hb D cA 335 d [ezw_p 72, ezw_i a1] g (fun v g' => (∃ u, some (ezw_i u) = v) ∧ ezl_J s a t b y z g') := by
  refine ezl_op hJ ?_
  intro e F A i0 i2 i3 i7 i8 i13 i18 i19 i20 i25 i29 i30 i31 i36 i37 i38 r73 r74 r75 r76 r77 r78 r79 r80 r81 r82 r83 r84 r85 r86 r87 r88 r89 r90 r91 r92 r93 r94 r95 hg hS hs hy hT htr hok ht hz
  subst hg
  refine ezw_Cmono (ezm_m335 hT hd ha1) ?_
  rintro _ _ ⟨x0, rfl, hT', u, hu, rfl⟩
  exact ⟨⟨u, rfl⟩, ezl_pk hS hs hy hT' htr hok ht hz⟩
end KL
