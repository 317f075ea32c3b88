/-! ===== the calls of the model ===== -/
theorem ezj_SV {y : ezp_D} {w : ezn_N} {b : Int} {r78 r88 : Int → Int} (h : ezn_NW y w b r88) (wb : ezn_B y w) (hB : ezp_B y) (k0 : r78 0 = y.kT) : ezm_SV r78 r88 b := by
  obtain ⟨n0, n1, n2, n3, n4, n5, n6, n7⟩ := h
  obtain ⟨⟨x0, x1⟩, x2, x3, x4, x5, x6, x7, x8, x9, x10, x11, x12⟩ := id wb
  have xc := ezn_cn_r x0 x1
  refine ⟨fun z => ?_, fun k k1 k2 => ?_⟩
  · rw [n5] at z
    have g1 := x10 z
    have g2 := ezn_cn_0 x0 x1
    rw [n0]
    by_cases hc : ezn_cn w.ov = 0
    · exact absurd (g2.mpr hc) g1
    · omega
  · rw [n0] at k2
    rw [n1 k k1 k2, k0]
    obtain ⟨q1, q2, -⟩ := ezn_kp_r x0 x1 k1 k2
    exact (hB.2.2.1 _ q1.1 (x2 _ q1.1 q1.2 q2)).2
theorem ezj_OK {y : ezj_S} {i18 i25 : Int} {r78 r79 r80 r81 r83 r88 r89 : Int → Int} (h : ezj_K y i18 i25 r78 r79 r80 r81 r83 r88 r89) (hB : ezp_B y.y) (h89 : ∀ m, 0 ≤ r89 m ∧ r89 m ≤ 1) : ezm_OK r78 r88 r89 i25 := by
  obtain ⟨h1, h2, ⟨h3, h4⟩, -, h7, ⟨h8, h9⟩, h10⟩ := h
  have k0 := (ezm_TRFi h1).1.1
  refine ⟨ezj_SV h3 h4 hB k0, fun u u0 u1 => ezj_SV (h8 u u0 u1) (h9 u u0 u1) hB k0, fun m m0 m1 hm => ?_⟩
  obtain ⟨e1, e2⟩ := h10 m m0 m1
  have e3 := h89 m
  obtain ⟨⟨q1, q2, q3⟩, q4⟩ := e2 (by omega)
  exact ezj_SV q1 q3 hB k0
theorem ezj_K_un {y : ezj_S} {i18 i25 x25 : Int} {r78 r79 r80 r81 r83 r88 r89 x88 : Int → Int} (h : ezj_K y i18 i25 r78 r79 r80 r81 r83 r88 r89) (hc : 0 < i25) (hw : ezn_NW y.y (y.U (i25 - 1)) 0 x88) (h5 : x25 = i25 - 1) (hf : ∀ j, 20 ≤ j → x88 j = r88 j) : ezj_K (ezj_un y) i18 x25 r78 r79 r80 r81 r83 x88 r89 := by
  obtain ⟨h1, h2, ⟨h3, h4⟩, ⟨h5', h6⟩, h7, ⟨h8, h9⟩, h10⟩ := h
  subst h5
  refine ⟨h1, h2, ⟨?_, ?_⟩, ⟨ezn_TD_f h5' (fun j j0 j1 => hf j (by omega)), h6⟩, ?_, ⟨fun k k0 k1 => ezn_NW_f (h8 k k0 (by omega)) (h9 k k0 (by omega)) (fun j j0 j1 => hf j (by omega)), fun k k0 k1 => h9 k k0 (by omega)⟩, fun m m0 m1 => ⟨(h10 m m0 m1).1, fun hm => ?_⟩⟩
  · show ezn_NW y.y (y.U (y.kU - 1)) 0 x88
    rw [← h7]
    exact hw
  · show ezn_B y.y (y.U (y.kU - 1))
    rw [← h7]
    exact h9 _ (by omega) (by omega)
  · show i25 - 1 = y.kU - 1
    rw [h7]
  · obtain ⟨⟨q1, q2, q3⟩, q4⟩ := (h10 m m0 m1).2 hm
    exact ⟨⟨ezn_NW_f q1 q3 (fun j j0 j1 => hf j (by omega)), ezn_TD_f q2 (fun j j0 j1 => hf j (by omega)), q3⟩, q4⟩
theorem ezj_K_tl {y : ezj_S} {c : Int → Int} {i18 i25 : Int} {r78 r79 r80 r81 r83 r88 r89 x88 : Int → Int} (h : ezj_K y i18 i25 r78 r79 r80 r81 r83 r88 r89) (ht : ezn_TD c 0 x88) (tb : ezn_TB c) (hf : ∀ j, ¬ (20 ≤ j ∧ j < 50) → x88 j = r88 j) : ezj_K (ezj_mk y.y y.L y.w c y.kU y.U y.ml y.mN y.mT) i18 i25 r78 r79 r80 r81 r83 x88 r89 := by
  obtain ⟨h1, h2, ⟨h3, h4⟩, ⟨h5, h6⟩, h7, ⟨h8, h9⟩, h10⟩ := h
  refine ⟨h1, h2, ⟨ezn_NW_f h3 h4 (fun j j0 j1 => hf j (by omega)), h4⟩, ⟨ht, tb⟩, h7, ⟨fun k k0 k1 => ezn_NW_f (h8 k k0 k1) (h9 k k0 k1) (fun j j0 j1 => hf j (by omega)), h9⟩, fun m m0 m1 => ⟨(h10 m m0 m1).1, fun hm => ?_⟩⟩
  obtain ⟨⟨q1, q2, q3⟩, q4⟩ := (h10 m m0 m1).2 hm
  exact ⟨⟨ezn_NW_f q1 q3 (fun j j0 j1 => hf j (by omega)), ezn_TD_f q2 (fun j j0 j1 => hf j (by omega)), q3⟩, q4⟩
theorem ezj_K_ly {y : ezj_S} {a1 : Int} {i18 i25 x25 : Int} {r78 r79 r80 r81 r83 r88 r89 x88 x89 : Int → Int} (h : ezj_K y i18 i25 r78 r79 r80 r81 r83 r88 r89) (h25 : 0 ≤ i25 ∧ i25 ≤ 16) (ga : 0 ≤ a1 ∧ a1 < 4) (hl : ezn_NW y.y y.w (50 * a1 + 50) x88 ∧ ezn_TD y.c (50 * a1 + 50) x88 ∧ (∀ j, j < 50 * a1 + 50 ∨ 50 * a1 + 100 ≤ j → x88 j = r88 j) ∧ x25 = i25 ∧ ∀ m, 0 ≤ m → m < 4 → x89 m = (if m = a1 then 1 else y.ml m)) : ezj_K (ezj_ly y a1) i18 x25 r78 r79 r80 r81 r83 x88 x89 := by
  obtain ⟨h1, h2, ⟨h3, h4⟩, ⟨h5, h6⟩, h7, ⟨h8, h9⟩, h10⟩ := h
  obtain ⟨l1, l2, l3, l4, l5⟩ := hl
  subst l4
  refine ⟨h1, h2, ⟨ezn_NW_f h3 h4 (fun j j0 j1 => l3 j (by omega)), h4⟩, ⟨ezn_TD_f h5 (fun j j0 j1 => l3 j (by omega)), h6⟩, h7, ⟨fun k k0 k1 => ezn_NW_f (h8 k k0 k1) (h9 k k0 k1) (fun j j0 j1 => l3 j (by omega)), h9⟩, fun m m0 m1 => ⟨l5 m m0 m1, fun hm => ?_⟩⟩
  have hm : (if m = a1 then 1 else y.ml m) = 1 := hm
  show (ezn_NW y.y (if m = a1 then y.w else y.mN m) (50 * m + 50) x88 ∧ ezn_TD (if m = a1 then y.c else y.mT m) (50 * m + 50) x88 ∧ ezn_B y.y (if m = a1 then y.w else y.mN m)) ∧ ezn_TB (if m = a1 then y.c else y.mT m)
  by_cases hk : m = a1
  · subst hk
    rw [if_pos rfl, if_pos rfl]
    exact ⟨⟨l1, l2, h4⟩, h6⟩
  · rw [if_neg hk] at hm
    rw [if_neg hk, if_neg hk]
    obtain ⟨⟨q1, q2, q3⟩, q4⟩ := (h10 m m0 m1).2 hm
    exact ⟨⟨ezn_NW_f q1 q3 (fun j j0 j1 => l3 j (by omega)), ezn_TD_f q2 (fun j j0 j1 => l3 j (by omega)), q3⟩, q4⟩
theorem ezj_K_bk {y : ezj_S} {a1 : Int} {i18 i25 x25 : Int} {r78 r79 r80 r81 r83 r88 r89 x88 x89 : Int → Int} (h : ezj_K y i18 i25 r78 r79 r80 r81 r83 r88 r89) (ga : 0 ≤ a1 ∧ a1 < 4 ∧ y.ml a1 = 1) (hb : ezn_NW y.y (y.mN a1) 0 x88 ∧ ezn_TD (y.mT a1) 0 x88 ∧ (∀ j, 50 ≤ j → x88 j = r88 j) ∧ x25 = 0 ∧ ∀ m, 0 ≤ m → m < 4 → x89 m = y.ml m) : ezj_K (ezj_bk y a1) i18 x25 r78 r79 r80 r81 r83 x88 x89 := by
  obtain ⟨h1, h2, ⟨h3, h4⟩, ⟨h5, h6⟩, h7, ⟨h8, h9⟩, h10⟩ := h
  obtain ⟨l1, l2, l3, l4, l5⟩ := hb
  obtain ⟨⟨g1, g2, g3⟩, g4⟩ := (h10 a1 ga.1 ga.2.1).2 ga.2.2
  refine ⟨h1, h2, ⟨l1, g3⟩, ⟨l2, g4⟩, l4, ⟨fun k k0 k1 => absurd k1 (by omega), fun k k0 k1 => absurd k1 (by omega)⟩, fun m m0 m1 => ⟨l5 m m0 m1, fun hm => ?_⟩⟩
  obtain ⟨⟨q1, q2, q3⟩, q4⟩ := (h10 m m0 m1).2 hm
  exact ⟨⟨ezn_NW_f q1 q3 (fun j j0 j1 => l3 j (by omega)), ezn_TD_f q2 (fun j j0 j1 => l3 j (by omega)), q3⟩, q4⟩
section KL
variable {l : Launch} {ρ : ezq_E} {B : Nat} {xa : Nat → Option Nat} {Hb : Heap} {D : va_G} {cA : Nat → ClassId} {d : Nat} {g : Nat → ezq_C} {s : Int} {a : Int → Int} {t : Int} {b : Int → Int} {y z : ezj_S}
theorem ezj_m272 {a1 a2 a3 : Int} (hJ : ezl_J s a t b y z g) (hd : 5 ≤ d) (ha1 : ezw_in a1) (ha2 : ezw_in a2) (ha3 : ezw_in a3) (gb : 0 ≤ a2 ∧ a2 ≤ 1) (hq : ezv_LO z.L ∧ ezp_B z.y) : ezw_C l ρ B xa Hb D cA 272 d [ezw_p 72, ezw_i a1, ezw_i a2, ezw_i a3] g (fun v g' => ∃ (u : Int) (z1 : ezj_S), ezw_in u ∧ ezj_N6 z a1 a2 a3 u z1 ∧ some (ezw_i u) = v ∧ ezl_J s a t b y z1 g') := by
  refine ezl_op hJ ?_
  intro e F A i0 i2 i3 i7 i8 i13 i18 i19 i20 i25 i29 i30 i31 i36 i37 i38 r73 r74 r75 r76 r77 r78 r79 r80 r81 r82 r83 r84 r85 r86 r87 r88 r89 r90 r91 r92 r93 r94 r95 hg hS hs hy hT htr hok ht hz
  subst hg
  obtain ⟨k1, k2, ⟨k3, k4⟩, ⟨k5, k6⟩, k7, ⟨k8, k9⟩, k10⟩ := id hz
  have h25 := hT.t25
  refine ezw_Cmono (ezm_m272n hT (by omega) ha1 ha2 ha3 gb k3 k4 k8 k9 k1 hq.2 k2 hq.1) ?_
  rintro _ _ ⟨x0, x25, x86, x87, x88, rfl, hT', u, hu, y1, y0, t1, t0, fm, rfl⟩
  by_cases hc : ezn_cP (ezn_qc z.L z.y) z.y z.w a1 a2 a3
  · have hK := ezj_K_to hz h25 (ezn_B_tP k4 gb.1 hc) (t1 hc) fm
    exact ⟨u, ezj_to z (ezn_tP z.w a2 a3), hu, ⟨fun _ => ⟨y1 hc, rfl⟩, fun hn => absurd hc hn⟩, rfl, (ezl_pk hS hs hy hT' htr (ezj_OK hK hq.2 hT'.t89) ht hK)⟩
  · obtain ⟨rfl, rfl⟩ := t0 hc
    exact ⟨u, z, hu, ⟨fun hn => absurd hn hc, fun _ => ⟨y0 hc, rfl⟩⟩, rfl, (ezl_pk hS hs hy hT' htr (ezj_OK hz hq.2 hT'.t89) ht hz)⟩
theorem ezj_m278 (hJ : ezl_J s a t b y z g) (hd : 2 ≤ d) (hq : ezv_LO z.L ∧ ezp_B z.y) : ezw_C l ρ B xa Hb D cA 278 d [ezw_p 72] g (fun v g' => ∃ (u : Int) (z1 : ezj_S), ezw_in u ∧ ezj_N7 z u z1 ∧ some (ezw_i u) = v ∧ ezl_J s a t b y z1 g') := by
  refine ezl_op hJ ?_
  intro e F A i0 i2 i3 i7 i8 i13 i18 i19 i20 i25 i29 i30 i31 i36 i37 i38 r73 r74 r75 r76 r77 r78 r79 r80 r81 r82 r83 r84 r85 r86 r87 r88 r89 r90 r91 r92 r93 r94 r95 hg hS hs hy hT htr hok ht hz
  subst hg
  obtain ⟨k1, k2, ⟨k3, k4⟩, ⟨k5, k6⟩, k7, ⟨k8, k9⟩, k10⟩ := id hz
  have h25 := hT.t25
  refine ezw_Cmono (ezm_m278n hT (by omega) k3 k4 k8 k9 k1 hq.2 k2 hq.1) ?_
  rintro _ _ ⟨x0, x25, x88, rfl, hT', u, hu, y1, y0, t1, t0, fm, rfl⟩
  by_cases hc : ezn_cS z.w
  · have hK := ezj_K_to hz h25 (ezn_B_sl k4 hc.1 hc.2) (t1 hc) fm
    exact ⟨u, ezj_to z (ezn_sl z.w), hu, ⟨fun _ => ⟨y1 hc, rfl⟩, fun hn => absurd hc hn⟩, rfl, (ezl_pk hS hs hy hT' htr (ezj_OK hK hq.2 hT'.t89) ht hK)⟩
  · obtain ⟨rfl, rfl⟩ := t0 hc
    exact ⟨u, z, hu, ⟨fun hn => absurd hn hc, fun _ => ⟨y0 hc, rfl⟩⟩, rfl, (ezl_pk hS hs hy hT' htr (ezj_OK hz hq.2 hT'.t89) ht hz)⟩
theorem ezj_m280 (hJ : ezl_J s a t b y z g) (hd : 2 ≤ d) (hq : ezv_LO z.L ∧ ezp_B z.y) : ezw_C l ρ B xa Hb D cA 280 d [ezw_p 72] g (fun v g' => ∃ (u : Int) (z1 : ezj_S), ezw_in u ∧ ezj_N8 z u z1 ∧ some (ezw_i u) = v ∧ ezl_J s a t b y z1 g') := by
  refine ezl_op hJ ?_
  intro e F A i0 i2 i3 i7 i8 i13 i18 i19 i20 i25 i29 i30 i31 i36 i37 i38 r73 r74 r75 r76 r77 r78 r79 r80 r81 r82 r83 r84 r85 r86 r87 r88 r89 r90 r91 r92 r93 r94 r95 hg hS hs hy hT htr hok ht hz
  subst hg
  obtain ⟨k1, k2, ⟨k3, k4⟩, ⟨k5, k6⟩, k7, ⟨k8, k9⟩, k10⟩ := id hz
  have h25 := hT.t25
  refine ezw_Cmono (ezm_m280n hT (by omega) k3 k4 k8 k9 k1 hq.2 k2 hq.1) ?_
  rintro _ _ ⟨x0, x25, x88, rfl, hT', u, hu, y1, y0, t1, t0, fm, rfl⟩
  by_cases hc : ezn_cL z.y z.w
  · have hK := ezj_K_to hz h25 (ezn_B_tL k4 hc.1) (t1 hc) fm
    exact ⟨u, ezj_to z (ezn_off z.w (ezn_lo z.w.ov)), ⟨by omega, by omega⟩, ⟨fun _ => ⟨y1 hc, rfl⟩, fun hn => absurd hc hn⟩, rfl, (ezl_pk hS hs hy hT' htr (ezj_OK hK hq.2 hT'.t89) ht hK)⟩
  · obtain ⟨rfl, rfl⟩ := t0 hc
    exact ⟨u, z, ⟨by omega, by omega⟩, ⟨fun hn => absurd hn hc, fun _ => ⟨y0 hc, rfl⟩⟩, rfl, (ezl_pk hS hs hy hT' htr (ezj_OK hz hq.2 hT'.t89) ht hz)⟩
theorem ezj_m282 {a1 a2 : Int} (hJ : ezl_J s a t b y z g) (hd : 2 ≤ d) (ha1 : ezw_in a1) (ha2 : ezw_in a2) (hq : ezv_LO z.L ∧ ezp_B z.y) : ezw_C l ρ B xa Hb D cA 282 d [ezw_p 72, ezw_i a1, ezw_i a2] g (fun v g' => ∃ (u : Int) (z1 : ezj_S), ezw_in u ∧ ezj_N9 z a1 a2 u z1 ∧ some (ezw_i u) = v ∧ ezl_J s a t b y z1 g') := by
  refine ezl_op hJ ?_
  intro e F A i0 i2 i3 i7 i8 i13 i18 i19 i20 i25 i29 i30 i31 i36 i37 i38 r73 r74 r75 r76 r77 r78 r79 r80 r81 r82 r83 r84 r85 r86 r87 r88 r89 r90 r91 r92 r93 r94 r95 hg hS hs hy hT htr hok ht hz
  subst hg
  obtain ⟨k1, k2, ⟨k3, k4⟩, ⟨k5, k6⟩, k7, ⟨k8, k9⟩, k10⟩ := id hz
  have h25 := hT.t25
  refine ezw_Cmono (ezm_m282n hT (by omega) ha1 ha2 k3 k4 k8 k9 k1 hq.2 k2 hq.1) ?_
  rintro _ _ ⟨x0, x25, x88, rfl, hT', u, hu, y1, y0, t1, t0, fm, rfl⟩
  by_cases hc : ezn_cH z.y z.w a1 a2
  · have hK := ezj_K_to hz h25 (ezn_B_tH hq.2 k4 hc) (t1 hc) fm
    exact ⟨u, ezj_to z (ezn_tH z.w a1 a2), hu, ⟨fun _ => ⟨y1 hc, rfl⟩, fun hn => absurd hc hn⟩, rfl, (ezl_pk hS hs hy hT' htr (ezj_OK hK hq.2 hT'.t89) ht hK)⟩
  · obtain ⟨rfl, rfl⟩ := t0 hc
    exact ⟨u, z, hu, ⟨fun hn => absurd hn hc, fun _ => ⟨y0 hc, rfl⟩⟩, rfl, (ezl_pk hS hs hy hT' htr (ezj_OK hz hq.2 hT'.t89) ht hz)⟩
theorem ezj_m285 {a1 a2 : Int} (hJ : ezl_J s a t b y z g) (hd : 3 ≤ d) (ha1 : ezw_in a1) (ha2 : ezw_in a2) (gb : 0 ≤ a2 ∧ a2 ≤ 1) (hq : ezv_LO z.L ∧ ezp_B z.y) : ezw_C l ρ B xa Hb D cA 285 d [ezw_p 72, ezw_i a1, ezw_i a2] g (fun v g' => ∃ (u : Int) (z1 : ezj_S), ezw_in u ∧ ezj_N10 z a1 a2 u z1 ∧ some (ezw_i u) = v ∧ ezl_J s a t b y z1 g') := by
  refine ezl_op hJ ?_
  intro e F A i0 i2 i3 i7 i8 i13 i18 i19 i20 i25 i29 i30 i31 i36 i37 i38 r73 r74 r75 r76 r77 r78 r79 r80 r81 r82 r83 r84 r85 r86 r87 r88 r89 r90 r91 r92 r93 r94 r95 hg hS hs hy hT htr hok ht hz
  subst hg
  obtain ⟨k1, k2, ⟨k3, k4⟩, ⟨k5, k6⟩, k7, ⟨k8, k9⟩, k10⟩ := id hz
  have h25 := hT.t25
  refine ezw_Cmono (ezm_m285n hT (by omega) ha1 ha2 gb k3 k4 k8 k9 k1 hq.2 k2 hq.1) ?_
  rintro _ _ ⟨x0, x25, x88, rfl, hT', u, hu, y1, y0, t1, t0, fm, rfl⟩
  by_cases hc : ezn_cC z.y z.w a1 a2
  · have hK := ezj_K_to hz h25 (ezn_B_tC hq.2 k4 hc) (t1 hc) fm
    exact ⟨u, ezj_to z (ezn_off z.w (ezn_ps z.y z.w a1 6)), ⟨by omega, by omega⟩, ⟨fun _ => ⟨y1 hc, rfl⟩, fun hn => absurd hc hn⟩, rfl, (ezl_pk hS hs hy hT' htr (ezj_OK hK hq.2 hT'.t89) ht hK)⟩
  · obtain ⟨rfl, rfl⟩ := t0 hc
    exact ⟨u, z, ⟨by omega, by omega⟩, ⟨fun hn => absurd hn hc, fun _ => ⟨y0 hc, rfl⟩⟩, rfl, (ezl_pk hS hs hy hT' htr (ezj_OK hz hq.2 hT'.t89) ht hz)⟩
theorem ezj_m288 {a1 : Int} (hJ : ezl_J s a t b y z g) (hd : 2 ≤ d) (ha1 : ezw_in a1) (hq : ezv_LO z.L ∧ ezp_B z.y) : ezw_C l ρ B xa Hb D cA 288 d [ezw_p 72, ezw_i a1] g (fun v g' => ∃ (u : Int) (z1 : ezj_S), ezw_in u ∧ ezj_N11 z a1 u z1 ∧ some (ezw_i u) = v ∧ ezl_J s a t b y z1 g') := by
  refine ezl_op hJ ?_
  intro e F A i0 i2 i3 i7 i8 i13 i18 i19 i20 i25 i29 i30 i31 i36 i37 i38 r73 r74 r75 r76 r77 r78 r79 r80 r81 r82 r83 r84 r85 r86 r87 r88 r89 r90 r91 r92 r93 r94 r95 hg hS hs hy hT htr hok ht hz
  subst hg
  obtain ⟨k1, k2, ⟨k3, k4⟩, ⟨k5, k6⟩, k7, ⟨k8, k9⟩, k10⟩ := id hz
  have h25 := hT.t25
  refine ezw_Cmono (ezm_m288n hT (by omega) ha1 k3 k4 k8 k9 k1 hq.2 k2 hq.1) ?_
  rintro _ _ ⟨x0, x25, x88, rfl, hT', u, hu, y1, y0, t1, t0, fm, rfl⟩
  by_cases hc : 0 ≤ a1 ∧ a1 < 4
  · have hK := ezj_K_to hz h25 (ezn_B_hr k4 (hq.2.2.2.2.2.2.2.2.1.1 6 (by decide) (by decide)).1 hc.1 hc.2) (t1 hc) fm
    exact ⟨u, ezj_to z (ezn_hr z.y z.w a1), hu, ⟨fun _ => ⟨y1 hc, rfl⟩, fun hn => absurd hc hn⟩, rfl, (ezl_pk hS hs hy hT' htr (ezj_OK hK hq.2 hT'.t89) ht hK)⟩
  · obtain ⟨rfl, rfl⟩ := t0 hc
    exact ⟨u, z, hu, ⟨fun hn => absurd hn hc, fun _ => ⟨y0 hc, rfl⟩⟩, rfl, (ezl_pk hS hs hy hT' htr (ezj_OK hz hq.2 hT'.t89) ht hz)⟩
theorem ezj_m291 (hJ : ezl_J s a t b y z g) (hd : 1 ≤ d) (hq : ezv_LO z.L ∧ ezp_B z.y) : ezw_C l ρ B xa Hb D cA 291 d [ezw_p 72] g (fun v g' => ∃ (u : Int) (z1 : ezj_S), ezw_in u ∧ ezj_N12 z u z1 ∧ some (ezw_i u) = v ∧ ezl_J s a t b y z1 g') := by
  refine ezl_op hJ ?_
  intro e F A i0 i2 i3 i7 i8 i13 i18 i19 i20 i25 i29 i30 i31 i36 i37 i38 r73 r74 r75 r76 r77 r78 r79 r80 r81 r82 r83 r84 r85 r86 r87 r88 r89 r90 r91 r92 r93 r94 r95 hg hS hs hy hT htr hok ht hz
  subst hg
  obtain ⟨k1, k2, ⟨k3, k4⟩, ⟨k5, k6⟩, k7, ⟨k8, k9⟩, k10⟩ := id hz
  have h25 := hT.t25
  refine ezw_Cmono (ezm_m291n hT (by omega) k3 k4 k8 k9) ?_
  rintro _ _ ⟨x0, x25, x88, rfl, hT', u, hu, y1, y0, fm, rfl⟩
  by_cases hc : 0 < z.kU
  · obtain ⟨q0, q1, q2⟩ := y1 (by omega)
    have hK := ezj_K_un hz (by omega) q1 q2 fm
    exact ⟨u, ezj_un z, ⟨by omega, by omega⟩, ⟨fun _ => ⟨q0, rfl⟩, fun hn => absurd hc hn⟩, rfl, (ezl_pk hS hs hy hT' htr (ezj_OK hK hq.2 hT'.t89) ht hK)⟩
  · obtain ⟨q0, rfl, rfl⟩ := y0 (by omega)
    exact ⟨u, z, ⟨by omega, by omega⟩, ⟨fun hn => absurd hn hc, fun _ => ⟨q0, rfl⟩⟩, rfl, (ezl_pk hS hs hy hT' htr (ezj_OK hz hq.2 hT'.t89) ht hz)⟩
theorem ezj_m292 (hJ : ezl_J s a t b y z g) (hd : 2 ≤ d) (hq : ezv_LO z.L ∧ ezp_B z.y) : ezw_C l ρ B xa Hb D cA 292 d [ezw_p 72] g (fun v g' => ∃ (u : Int) (z1 : ezj_S), ezw_in u ∧ ezj_N14 z u z1 ∧ some (ezw_i u) = v ∧ ezl_J s a t b y z1 g') := by
  refine ezl_op hJ ?_
  intro e F A i0 i2 i3 i7 i8 i13 i18 i19 i20 i25 i29 i30 i31 i36 i37 i38 r73 r74 r75 r76 r77 r78 r79 r80 r81 r82 r83 r84 r85 r86 r87 r88 r89 r90 r91 r92 r93 r94 r95 hg hS hs hy hT htr hok ht hz
  subst hg
  obtain ⟨k1, k2, ⟨k3, k4⟩, ⟨k5, k6⟩, k7, ⟨k8, k9⟩, k10⟩ := id hz
  have h25 := hT.t25
  refine ezw_Cmono (ezm_m292n hT (by omega) k3 k4 k1 hq.2) ?_
  rintro _ _ ⟨x0, rfl, hT', u, hu, an, rfl⟩
  exact ⟨u, z, hu, ⟨an, rfl⟩, rfl, ezl_pk hS hs hy hT' htr hok ht hz⟩
theorem ezj_m306 {a1 a2 : Int} (hJ : ezl_J s a t b y z g) (hd : 1 ≤ d) (ha1 : ezw_in a1) (ha2 : ezw_in a2) (gb : 0 ≤ a2 ∧ a2 ≤ 1) (hq : ezv_LO z.L ∧ ezp_B z.y) : ezw_C l ρ B xa Hb D cA 306 d [ezw_p 72, ezw_i a1, ezw_i a2] g (fun v g' => ∃ (u : Int) (z1 : ezj_S), ezw_in u ∧ ezj_N16 z a1 a2 u z1 ∧ some (ezw_i u) = v ∧ ezl_J s a t b y z1 g') := by
  refine ezl_op hJ ?_
  intro e F A i0 i2 i3 i7 i8 i13 i18 i19 i20 i25 i29 i30 i31 i36 i37 i38 r73 r74 r75 r76 r77 r78 r79 r80 r81 r82 r83 r84 r85 r86 r87 r88 r89 r90 r91 r92 r93 r94 r95 hg hS hs hy hT htr hok ht hz
  subst hg
  obtain ⟨k1, k2, ⟨k3, k4⟩, ⟨k5, k6⟩, k7, ⟨k8, k9⟩, k10⟩ := id hz
  have h25 := hT.t25
  refine ezw_Cmono (ezm_m306n hT (by omega) ha1 ha2 k5 k6 gb) ?_
  rintro _ _ ⟨x0, x88, rfl, hT', u, hu, y1, y0, fm, rfl⟩
  by_cases hc : 0 ≤ a1 ∧ a1 < 4 ∧ ezn_tm z.c < 12
  · obtain ⟨q0, q1⟩ := y1 hc
    have hK : ezj_K (ezj_tl z a1 a2) _ _ _ _ _ _ _ _ _ := ezj_K_tl (c := ezn_ad z.c a1 a2) hz q1 (ezn_TB_ad k6 hc.2.2 hc.1 hc.2.1 gb.1 gb.2) fm
    exact ⟨u, ezj_tl z a1 a2, ⟨by omega, by omega⟩, ⟨fun _ => ⟨q0, rfl⟩, fun hn => absurd hc hn⟩, rfl, (ezl_pk hS hs hy hT' htr (ezj_OK hK hq.2 hT'.t89) ht hK)⟩
  · obtain ⟨q0, rfl⟩ := y0 hc
    exact ⟨u, z, ⟨by omega, by omega⟩, ⟨fun hn => absurd hn hc, fun _ => ⟨q0, rfl⟩⟩, rfl, (ezl_pk hS hs hy hT' htr (ezj_OK hz hq.2 hT'.t89) ht hz)⟩
theorem ezj_m307 (hJ : ezl_J s a t b y z g) (hd : 4 ≤ d) (hq : ezv_LO z.L ∧ ezp_B z.y) : ezw_C l ρ B xa Hb D cA 307 d [ezw_p 72] g (fun v g' => ∃ (u : Int) (z1 : ezj_S), ezw_in u ∧ ezj_N17 z u z1 ∧ some (ezw_i u) = v ∧ ezl_J s a t b y z1 g') := by
  refine ezl_op hJ ?_
  intro e F A i0 i2 i3 i7 i8 i13 i18 i19 i20 i25 i29 i30 i31 i36 i37 i38 r73 r74 r75 r76 r77 r78 r79 r80 r81 r82 r83 r84 r85 r86 r87 r88 r89 r90 r91 r92 r93 r94 r95 hg hS hs hy hT htr hok ht hz
  subst hg
  obtain ⟨k1, k2, ⟨k3, k4⟩, ⟨k5, k6⟩, k7, ⟨k8, k9⟩, k10⟩ := id hz
  have h25 := hT.t25
  refine ezw_Cmono (ezm_m307n hT (by omega) k1 hq.2 k2 hq.1 k5 k6) ?_
  rintro _ _ ⟨x0, x86, x87, rfl, hT', u, hu, an, rfl⟩
  exact ⟨u, z, hu, ⟨an, rfl⟩, rfl, ezl_pk hS hs hy hT' htr hok ht hz⟩
theorem ezj_m309 {a1 : Int} (hJ : ezl_J s a t b y z g) (hd : 4 ≤ d) (ha1 : ezw_in a1) (hq : ezv_LO z.L ∧ ezp_B z.y) : ezw_C l ρ B xa Hb D cA 309 d [ezw_p 72, ezw_i a1] g (fun v g' => ∃ (u : Int) (z1 : ezj_S), ezw_in u ∧ ezj_N18 z a1 u z1 ∧ some (ezw_i u) = v ∧ ezl_J s a t b y z1 g') := by
  refine ezl_op hJ ?_
  intro e F A i0 i2 i3 i7 i8 i13 i18 i19 i20 i25 i29 i30 i31 i36 i37 i38 r73 r74 r75 r76 r77 r78 r79 r80 r81 r82 r83 r84 r85 r86 r87 r88 r89 r90 r91 r92 r93 r94 r95 hg hS hs hy hT htr hok ht hz
  subst hg
  obtain ⟨k1, k2, ⟨k3, k4⟩, ⟨k5, k6⟩, k7, ⟨k8, k9⟩, k10⟩ := id hz
  have h25 := hT.t25
  refine ezw_Cmono (ezm_m309n hT (by omega) ha1 k1 hq.2 k2 hq.1 k5 k6) ?_
  rintro _ _ ⟨x0, x86, x87, rfl, hT', u, hu, an, rfl⟩
  exact ⟨u, z, hu, ⟨an, rfl⟩, rfl, ezl_pk hS hs hy hT' htr hok ht hz⟩
theorem ezj_m310 (hJ : ezl_J s a t b y z g) (hd : 4 ≤ d) (hq : ezv_LO z.L ∧ ezp_B z.y) : ezw_C l ρ B xa Hb D cA 310 d [ezw_p 72] g (fun v g' => ∃ (u : Int) (z1 : ezj_S), ezw_in u ∧ ezj_N19 z u z1 ∧ some (ezw_i u) = v ∧ ezl_J s a t b y z1 g') := by
  refine ezl_op hJ ?_
  intro e F A i0 i2 i3 i7 i8 i13 i18 i19 i20 i25 i29 i30 i31 i36 i37 i38 r73 r74 r75 r76 r77 r78 r79 r80 r81 r82 r83 r84 r85 r86 r87 r88 r89 r90 r91 r92 r93 r94 r95 hg hS hs hy hT htr hok ht hz
  subst hg
  obtain ⟨k1, k2, ⟨k3, k4⟩, ⟨k5, k6⟩, k7, ⟨k8, k9⟩, k10⟩ := id hz
  have h25 := hT.t25
  refine ezw_Cmono (ezm_m310n hT (by omega) k1 hq.2 k2 hq.1 k5 k6) ?_
  rintro _ _ ⟨x0, x86, x87, rfl, hT', u, hu, an, rfl⟩
  exact ⟨u, z, hu, ⟨an, rfl⟩, rfl, ezl_pk hS hs hy hT' htr hok ht hz⟩
theorem ezj_m316 (hJ : ezl_J s a t b y z g) (hd : 1 ≤ d) (hq : ezv_LO z.L ∧ ezp_B z.y) : ezw_C l ρ B xa Hb D cA 316 d [ezw_p 72] g (fun v g' => ∃ (u : Int) (z1 : ezj_S), ezw_in u ∧ ezj_N22 z u z1 ∧ some (ezw_i u) = v ∧ ezl_J s a t b y z1 g') := by
  refine ezl_op hJ ?_
  intro e F A i0 i2 i3 i7 i8 i13 i18 i19 i20 i25 i29 i30 i31 i36 i37 i38 r73 r74 r75 r76 r77 r78 r79 r80 r81 r82 r83 r84 r85 r86 r87 r88 r89 r90 r91 r92 r93 r94 r95 hg hS hs hy hT htr hok ht hz
  subst hg
  obtain ⟨k1, k2, ⟨k3, k4⟩, ⟨k5, k6⟩, k7, ⟨k8, k9⟩, k10⟩ := id hz
  have h25 := hT.t25
  refine ezw_Cmono (ezm_m316n hT (by omega) k3 k4 k1 hq.2) ?_
  rintro _ _ ⟨x0, rfl, hT', u, hu, an, rfl⟩
  exact ⟨u, z, hu, ⟨an, rfl⟩, rfl, ezl_pk hS hs hy hT' htr hok ht hz⟩
theorem ezj_m256 {a1 a2 : Int} (hJ : ezl_J s a t b y z g) (hd : 2 ≤ d) (ha1 : ezw_in a1) (ha2 : ezw_in a2) (hq : ezv_LO z.L ∧ ezp_B z.y) : ezw_C l ρ B xa Hb D cA 256 d [ezw_p 72, ezw_i a1, ezw_i a2] g (fun v g' => ∃ (u : Int) (z1 : ezj_S), ezw_in u ∧ ezj_N3 z a1 a2 u z1 ∧ some (ezw_i u) = v ∧ ezl_J s a t b y z1 g') := by
  refine ezl_op hJ ?_
  intro e F A i0 i2 i3 i7 i8 i13 i18 i19 i20 i25 i29 i30 i31 i36 i37 i38 r73 r74 r75 r76 r77 r78 r79 r80 r81 r82 r83 r84 r85 r86 r87 r88 r89 r90 r91 r92 r93 r94 r95 hg hS hs hy hT htr hok ht hz
  subst hg
  obtain ⟨k1, k2, ⟨k3, k4⟩, ⟨k5, k6⟩, k7, ⟨k8, k9⟩, k10⟩ := id hz
  have h25 := hT.t25
  refine ezw_Cmono (ezm_m256n hT (by omega) ha1 ha2 k3 k4 k1 hq.2) ?_
  rintro _ _ ⟨x0, rfl, hT', u, hu, an, rfl⟩
  exact ⟨u, z, hu, ⟨an, rfl⟩, rfl, ezl_pk hS hs hy hT' htr hok ht hz⟩
theorem ezj_m261 {a1 a2 : Int} (hJ : ezl_J s a t b y z g) (hd : 2 ≤ d) (ha1 : ezw_in a1) (ha2 : ezw_in a2) (hq : ezv_LO z.L ∧ ezp_B z.y) : ezw_C l ρ B xa Hb D cA 261 d [ezw_p 72, ezw_i a1, ezw_i a2] g (fun v g' => ∃ (u : Int) (z1 : ezj_S), ezw_in u ∧ ezj_N4 z a1 a2 u z1 ∧ some (ezw_i u) = v ∧ ezl_J s a t b y z1 g') := by
  refine ezl_op hJ ?_
  intro e F A i0 i2 i3 i7 i8 i13 i18 i19 i20 i25 i29 i30 i31 i36 i37 i38 r73 r74 r75 r76 r77 r78 r79 r80 r81 r82 r83 r84 r85 r86 r87 r88 r89 r90 r91 r92 r93 r94 r95 hg hS hs hy hT htr hok ht hz
  subst hg
  obtain ⟨k1, k2, ⟨k3, k4⟩, ⟨k5, k6⟩, k7, ⟨k8, k9⟩, k10⟩ := id hz
  have h25 := hT.t25
  refine ezw_Cmono (ezm_m261n hT (by omega) ha1 ha2 k3 k4 k1 hq.2) ?_
  rintro _ _ ⟨x0, rfl, hT', u, hu, an, rfl⟩
  exact ⟨u, z, hu, ⟨an, rfl⟩, rfl, ezl_pk hS hs hy hT' htr hok ht hz⟩
theorem ezj_m264 {a1 a2 a3 : Int} (hJ : ezl_J s a t b y z g) (hd : 4 ≤ d) (ha1 : ezw_in a1) (ha2 : ezw_in a2) (ha3 : ezw_in a3) (gb : 0 ≤ a2 ∧ a2 ≤ 1) (hq : ezv_LO z.L ∧ ezp_B z.y) : ezw_C l ρ B xa Hb D cA 264 d [ezw_p 72, ezw_i a1, ezw_i a2, ezw_i a3] g (fun v g' => ∃ (u : Int) (z1 : ezj_S), ezw_in u ∧ ezj_N5 z a1 a2 a3 u z1 ∧ some (ezw_i u) = v ∧ ezl_J s a t b y z1 g') := by
  refine ezl_op hJ ?_
  intro e F A i0 i2 i3 i7 i8 i13 i18 i19 i20 i25 i29 i30 i31 i36 i37 i38 r73 r74 r75 r76 r77 r78 r79 r80 r81 r82 r83 r84 r85 r86 r87 r88 r89 r90 r91 r92 r93 r94 r95 hg hS hs hy hT htr hok ht hz
  subst hg
  obtain ⟨k1, k2, ⟨k3, k4⟩, ⟨k5, k6⟩, k7, ⟨k8, k9⟩, k10⟩ := id hz
  have h25 := hT.t25
  refine ezw_Cmono (ezm_m264n hT (by omega) ha1 ha2 ha3 k3 k4 k1 hq.2 k2 hq.1 gb) ?_
  rintro _ _ ⟨x0, x86, x87, rfl, hT', u, hu, an, rfl⟩
  exact ⟨u, z, hu, ⟨an, rfl⟩, rfl, ezl_pk hS hs hy hT' htr hok ht hz⟩
theorem ezj_m334 {a1 a2 : Int} (hJ : ezl_J s a t b y z g) (hd : 1 ≤ d) (ha1 : ezw_in a1) (ha2 : ezw_in a2) (gb : 0 ≤ a2 ∧ a2 ≤ 1) (hq : ezv_LO z.L ∧ ezp_B z.y) : ezw_C l ρ B xa Hb D cA 334 d [ezw_p 72, ezw_i a1, ezw_i a2] g (fun v g' => ∃ (u : Int) (z1 : ezj_S), ezw_in u ∧ ezj_N30 z a1 a2 u z1 ∧ some (ezw_i u) = v ∧ ezl_J s a t b y z1 g') := by
  refine ezl_op hJ ?_
  intro e F A i0 i2 i3 i7 i8 i13 i18 i19 i20 i25 i29 i30 i31 i36 i37 i38 r73 r74 r75 r76 r77 r78 r79 r80 r81 r82 r83 r84 r85 r86 r87 r88 r89 r90 r91 r92 r93 r94 r95 hg hS hs hy hT htr hok ht hz
  subst hg
  obtain ⟨k1, k2, ⟨k3, k4⟩, ⟨k5, k6⟩, k7, ⟨k8, k9⟩, k10⟩ := id hz
  have h25 := hT.t25
  refine ezw_Cmono (ezm_m334n hT (by omega) ha1 ha2 k3 k4 k5 (fun m m0 m1 => ⟨(k10 m m0 m1).1, fun h => ((k10 m m0 m1).2 h).1⟩) gb) ?_
  rintro _ _ ⟨x0, x25, x88, x89, rfl, hT', u, hu, y1, y0, ly, bk, rfl⟩
  by_cases hc : 0 ≤ a1 ∧ a1 < 4 ∧ a2 = 0
  · have hK := ezj_K_ly hz h25 ⟨hc.1, hc.2.1⟩ (ly hc)
    exact ⟨u, ezj_ly z a1, ⟨by omega, by omega⟩, ⟨fun _ => ⟨y1 ⟨hc.1, hc.2.1, Or.inl hc.2.2⟩, rfl⟩, fun hn => absurd hc hn⟩, rfl, (ezl_pk hS hs hy hT' htr (ezj_OK hK hq.2 hT'.t89) ht hK)⟩
  · by_cases hd : 0 ≤ a1 ∧ a1 < 4 ∧ a2 = 1 ∧ z.ml a1 = 1
    · have hK := ezj_K_bk hz ⟨hd.1, hd.2.1, hd.2.2.2⟩ (bk hd)
      exact ⟨u, ezj_bk z a1, ⟨by omega, by omega⟩, ⟨fun hn => absurd hn hc, fun _ => ⟨fun _ => ⟨y1 ⟨hd.1, hd.2.1, Or.inr hd.2.2.2⟩, rfl⟩, fun hn => absurd hd hn⟩⟩, rfl, (ezl_pk hS hs hy hT' htr (ezj_OK hK hq.2 hT'.t89) ht hK)⟩
    · obtain ⟨q0, rfl, rfl, rfl⟩ := y0 (fun h => by
        obtain ⟨p1, p2, p3⟩ := h
        rcases p3 with p3 | p3
        · exact hc ⟨p1, p2, p3⟩
        · exact hd ⟨p1, p2, by
            by_cases p4 : a2 = 0
            · exact absurd ⟨p1, p2, p4⟩ hc
            · omega, p3⟩)
      exact ⟨u, z, ⟨by omega, by omega⟩, ⟨fun hn => absurd hn hc, fun _ => ⟨fun hn => absurd hn hd, fun _ => ⟨q0, rfl⟩⟩⟩, rfl, (ezl_pk hS hs hy hT' htr (ezj_OK hz hq.2 hT'.t89) ht hz)⟩
theorem ezj_m254 (hJ : ezl_J s a t b y z g) (hd : 6 ≤ d) (hq : ezv_LO z.L ∧ ezp_B z.y) : ezw_C l ρ B xa Hb D cA 254 d [ezw_p 72] g (fun v g' => (∃ u, some (ezw_i u) = v) ∧ ezl_J s a 0 b y z g') := by
  refine ezl_op hJ ?_
  intro e F A i0 i2 i3 i7 i8 i13 i18 i19 i20 i25 i29 i30 i31 i36 i37 i38 r73 r74 r75 r76 r77 r78 r79 r80 r81 r82 r83 r84 r85 r86 r87 r88 r89 r90 r91 r92 r93 r94 r95 hg hS hs hy hT htr hok ht hz
  subst hg
  refine ezw_Cmono (ezm_m254 hT (by omega)) ?_
  rintro _ _ ⟨x0, x2, x3, x7, x8, x74, x75, x76, x85, rfl, hT', u, hu, p0, rfl⟩
  exact ⟨⟨_, rfl⟩, ezl_pk hS hs hy hT' htr hok ⟨p0, ht.2⟩ hz⟩
theorem ezj_m294 {a1 : Int} (hJ : ezl_J s a t b y z g) (hd : 6 ≤ d) (ha1 : ezw_in a1) (hq : ezv_LO z.L ∧ ezp_B z.y) : ezw_C l ρ B xa Hb D cA 294 d [ezw_p 72, ezw_i a1] g (fun v g' => (∃ u, some (ezw_i u) = v) ∧ ezl_J s a t b y z g') := by
  refine ezl_op hJ ?_
  intro e F A i0 i2 i3 i7 i8 i13 i18 i19 i20 i25 i29 i30 i31 i36 i37 i38 r73 r74 r75 r76 r77 r78 r79 r80 r81 r82 r83 r84 r85 r86 r87 r88 r89 r90 r91 r92 r93 r94 r95 hg hS hs hy hT htr hok ht hz
  subst hg
  refine ezw_Cmono (ezm_m294n hT (by omega) ha1 htr hok) ?_
  rintro _ _ ⟨x0, x86, x87, x88, rfl, hT', u, hu, pok, pfr, rfl⟩
  exact ⟨⟨_, rfl⟩, ezl_pk hS hs hy hT' htr pok ht (ezj_K_88 hz hT.t25 (fun j hj => pfr j (by omega)))⟩
theorem ezj_m296 {a1 a2 : Int} (hJ : ezl_J s a t b y z g) (hd : 7 ≤ d) (ha1 : ezw_in a1) (ha2 : ezw_in a2) (hq : ezv_LO z.L ∧ ezp_B z.y) : ezw_C l ρ B xa Hb D cA 296 d [ezw_p 72, ezw_i a1, ezw_i a2] g (fun v g' => (∃ u, some (ezw_i u) = v) ∧ ezl_J s a t b y z g') := by
  refine ezl_op hJ ?_
  intro e F A i0 i2 i3 i7 i8 i13 i18 i19 i20 i25 i29 i30 i31 i36 i37 i38 r73 r74 r75 r76 r77 r78 r79 r80 r81 r82 r83 r84 r85 r86 r87 r88 r89 r90 r91 r92 r93 r94 r95 hg hS hs hy hT htr hok ht hz
  subst hg
  refine ezw_Cmono (ezm_m296 hT (by omega) ha1 ha2 htr hok) ?_
  rintro _ _ ⟨x0, x29, x30, x31, x86, x87, x90, x91, rfl, hT', u, hu, rfl⟩
  exact ⟨⟨_, rfl⟩, ezl_pk hS hs hy hT' htr hok ht hz⟩
theorem ezj_m311 {a1 a2 a3 : Int} (hJ : ezl_J s a t b y z g) (hd : 1 ≤ d) (ha1 : ezw_in a1) (ha2 : ezw_in a2) (ha3 : ezw_in a3) (hq : ezv_LO z.L ∧ ezp_B z.y) : ezw_C l ρ B xa Hb D cA 311 d [ezw_p 72, ezw_i a1, ezw_i a2, ezw_i a3] g (fun v g' => (∃ u, some (ezw_i u) = v) ∧ ezl_J s a t b y z g') := by
  refine ezl_op hJ ?_
  intro e F A i0 i2 i3 i7 i8 i13 i18 i19 i20 i25 i29 i30 i31 i36 i37 i38 r73 r74 r75 r76 r77 r78 r79 r80 r81 r82 r83 r84 r85 r86 r87 r88 r89 r90 r91 r92 r93 r94 r95 hg hS hs hy hT htr hok ht hz
  subst hg
  refine ezw_Cmono (ezm_m311 hT (by omega) ha1 ha2 ha3) ?_
  rintro _ _ ⟨x0, rfl, hT', u, hu, rfl⟩
  exact ⟨⟨_, rfl⟩, ezl_pk hS hs hy hT' htr hok ht hz⟩
theorem ezj_m313 {a1 a2 : Int} (hJ : ezl_J s a t b y z g) (hd : 2 ≤ d) (ha1 : ezw_in a1) (ha2 : ezw_in a2) (hq : ezv_LO z.L ∧ ezp_B z.y) : ezw_C l ρ B xa Hb D cA 313 d [ezw_p 72, ezw_i a1, ezw_i a2] g (fun v g' => (∃ u, some (ezw_i u) = v) ∧ ezl_J s a t b y z g') := by
  refine ezl_op hJ ?_
  intro e F A i0 i2 i3 i7 i8 i13 i18 i19 i20 i25 i29 i30 i31 i36 i37 i38 r73 r74 r75 r76 r77 r78 r79 r80 r81 r82 r83 r84 r85 r86 r87 r88 r89 r90 r91 r92 r93 r94 r95 hg hS hs hy hT htr hok ht hz
  subst hg
  refine ezw_Cmono (ezm_m313 hT (by omega) ha1 ha2) ?_
  rintro _ _ ⟨x0, x92, rfl, hT', u, hu, rfl⟩
  exact ⟨⟨_, rfl⟩, ezl_pk hS hs hy hT' htr hok ht hz⟩
theorem ezj_m317 {a1 : Int} (hJ : ezl_J s a t b y z g) (hd : 2 ≤ d) (ha1 : ezw_in a1) (hq : ezv_LO z.L ∧ ezp_B z.y) : ezw_C l ρ B xa Hb D cA 317 d [ezw_p 72, ezw_i a1] g (fun v g' => ∃ (u : Int) (z1 : ezj_S), ezw_in u ∧ ezj_N23 z a1 u z1 ∧ some (ezw_i u) = v ∧ ezl_J s a t b y z1 g') := by
  refine ezl_op hJ ?_
  intro e F A i0 i2 i3 i7 i8 i13 i18 i19 i20 i25 i29 i30 i31 i36 i37 i38 r73 r74 r75 r76 r77 r78 r79 r80 r81 r82 r83 r84 r85 r86 r87 r88 r89 r90 r91 r92 r93 r94 r95 hg hS hs hy hT htr hok ht hz
  subst hg
  refine ezw_Cmono (ezm_m317a hT (by omega) ha1 hz.1 hq.2) ?_
  rintro _ _ ⟨x0, rfl, hT', u, hu, pan, rfl⟩
  exact ⟨u, z, hu, ⟨pan, rfl⟩, rfl, ezl_pk hS hs hy hT' htr hok ht hz⟩
theorem ezj_m318 {a1 : Int} (hJ : ezl_J s a t b y z g) (hd : 2 ≤ d) (ha1 : ezw_in a1) (hq : ezv_LO z.L ∧ ezp_B z.y) : ezw_C l ρ B xa Hb D cA 318 d [ezw_p 72, ezw_i a1] g (fun v g' => ∃ (u : Int) (z1 : ezj_S), ezw_in u ∧ ezj_N24 z a1 u z1 ∧ some (ezw_i u) = v ∧ ezl_J s a t b y z1 g') := by
  refine ezl_op hJ ?_
  intro e F A i0 i2 i3 i7 i8 i13 i18 i19 i20 i25 i29 i30 i31 i36 i37 i38 r73 r74 r75 r76 r77 r78 r79 r80 r81 r82 r83 r84 r85 r86 r87 r88 r89 r90 r91 r92 r93 r94 r95 hg hS hs hy hT htr hok ht hz
  subst hg
  refine ezw_Cmono (ezm_m318a hT (by omega) ha1 hz.1 hq.2) ?_
  rintro _ _ ⟨x0, rfl, hT', u, hu, pan, rfl⟩
  exact ⟨u, z, hu, ⟨pan, rfl⟩, rfl, ezl_pk hS hs hy hT' htr hok ht hz⟩
theorem ezj_m319 {a1 a2 : Int} (hJ : ezl_J s a t b y z g) (hd : 3 ≤ d) (ha1 : ezw_in a1) (ha2 : ezw_in a2) (hq : ezv_LO z.L ∧ ezp_B z.y) : ezw_C l ρ B xa Hb D cA 319 d [ezw_p 72, ezw_i a1, ezw_i a2] g (fun v g' => ∃ (u : Int) (z1 : ezj_S), ezw_in u ∧ ezj_N25 z a1 a2 u z1 ∧ some (ezw_i u) = v ∧ ezl_J s a t b y z1 g') := by
  refine ezl_op hJ ?_
  intro e F A i0 i2 i3 i7 i8 i13 i18 i19 i20 i25 i29 i30 i31 i36 i37 i38 r73 r74 r75 r76 r77 r78 r79 r80 r81 r82 r83 r84 r85 r86 r87 r88 r89 r90 r91 r92 r93 r94 r95 hg hS hs hy hT htr hok ht hz
  subst hg
  refine ezw_Cmono (ezm_m319a hT (by omega) ha1 ha2 hz.1 hq.2) ?_
  rintro _ _ ⟨x0, rfl, hT', u, hu, pan, rfl⟩
  exact ⟨u, z, hu, ⟨pan, rfl⟩, rfl, ezl_pk hS hs hy hT' htr hok ht hz⟩
theorem ezj_m324 {a1 : Int} (hJ : ezl_J s a t b y z g) (hd : 3 ≤ d) (ha1 : ezw_in a1) (hq : ezv_LO z.L ∧ ezp_B z.y) : ezw_C l ρ B xa Hb D cA 324 d [ezw_p 72, ezw_i a1] g (fun v g' => ∃ (u : Int) (z1 : ezj_S), ezw_in u ∧ ezj_N26 z a1 u z1 ∧ some (ezw_i u) = v ∧ ezl_J s a t b y z1 g') := by
  refine ezl_op hJ ?_
  intro e F A i0 i2 i3 i7 i8 i13 i18 i19 i20 i25 i29 i30 i31 i36 i37 i38 r73 r74 r75 r76 r77 r78 r79 r80 r81 r82 r83 r84 r85 r86 r87 r88 r89 r90 r91 r92 r93 r94 r95 hg hS hs hy hT htr hok ht hz
  subst hg
  refine ezw_Cmono (ezm_m324a hT (by omega) ha1 hz.1 hq.2) ?_
  rintro _ _ ⟨x0, rfl, hT', u, hu, pan, rfl⟩
  exact ⟨u, z, hu, ⟨pan, rfl⟩, rfl, ezl_pk hS hs hy hT' htr hok ht hz⟩
theorem ezj_m325 {a1 a2 : Int} (hJ : ezl_J s a t b y z g) (hd : 3 ≤ d) (ha1 : ezw_in a1) (ha2 : ezw_in a2) (hq : ezv_LO z.L ∧ ezp_B z.y) : ezw_C l ρ B xa Hb D cA 325 d [ezw_p 72, ezw_i a1, ezw_i a2] g (fun v g' => ∃ (u : Int) (z1 : ezj_S), ezw_in u ∧ ezj_N27 z a1 a2 u z1 ∧ some (ezw_i u) = v ∧ ezl_J s a t b y z1 g') := by
  refine ezl_op hJ ?_
  intro e F A i0 i2 i3 i7 i8 i13 i18 i19 i20 i25 i29 i30 i31 i36 i37 i38 r73 r74 r75 r76 r77 r78 r79 r80 r81 r82 r83 r84 r85 r86 r87 r88 r89 r90 r91 r92 r93 r94 r95 hg hS hs hy hT htr hok ht hz
  subst hg
  refine ezw_Cmono (ezm_m325a hT (by omega) ha1 ha2 hz.1 hq.2) ?_
  rintro _ _ ⟨x0, rfl, hT', u, hu, pan, rfl⟩
  exact ⟨u, z, hu, ⟨pan, rfl⟩, rfl, ezl_pk hS hs hy hT' htr hok ht hz⟩
theorem ezj_m326 {a1 a2 : Int} (hJ : ezl_J s a t b y z g) (hd : 6 ≤ d) (ha1 : ezw_in a1) (ha2 : ezw_in a2) (hq : ezv_LO z.L ∧ ezp_B z.y) : ezw_C l ρ B xa Hb D cA 326 d [ezw_p 72, ezw_i a1, ezw_i a2] g (fun v g' => (∃ u, some (ezw_i u) = v) ∧ ezl_J s a t b y z g') := by
  refine ezl_op hJ ?_
  intro e F A i0 i2 i3 i7 i8 i13 i18 i19 i20 i25 i29 i30 i31 i36 i37 i38 r73 r74 r75 r76 r77 r78 r79 r80 r81 r82 r83 r84 r85 r86 r87 r88 r89 r90 r91 r92 r93 r94 r95 hg hS hs hy hT htr hok ht hz
  subst hg
  refine ezw_Cmono (ezm_m326 hT (by omega) ha1 ha2) ?_
  rintro _ _ ⟨x0, x36, x93, x94, x95, rfl, hT', u, hu, rfl⟩
  exact ⟨⟨_, rfl⟩, ezl_pk hS hs hy hT' htr hok ht hz⟩
theorem ezj_m329 {a1 a2 a3 a4 : Int} (hJ : ezl_J s a t b y z g) (hd : 7 ≤ d) (ha1 : ezw_in a1) (ha2 : ezw_in a2) (ha3 : ezw_in a3) (ha4 : ezw_in a4) (hq : ezv_LO z.L ∧ ezp_B z.y) : ezw_C l ρ B xa Hb D cA 329 d [ezw_p 72, ezw_i a1, ezw_i a2, ezw_i a3, ezw_i a4] g (fun v g' => (∃ u, some (ezw_i u) = v) ∧ ezl_J s a t b y z g') := by
  refine ezl_op hJ ?_
  intro e F A i0 i2 i3 i7 i8 i13 i18 i19 i20 i25 i29 i30 i31 i36 i37 i38 r73 r74 r75 r76 r77 r78 r79 r80 r81 r82 r83 r84 r85 r86 r87 r88 r89 r90 r91 r92 r93 r94 r95 hg hS hs hy hT htr hok ht hz
  subst hg
  refine ezw_Cmono (ezm_m329n hT (by omega) ha1 ha2 ha3 ha4 htr hok) ?_
  rintro _ _ ⟨x0, x29, x30, x31, x37, x38, x86, x87, x88, x90, x91, rfl, hT', u, hu, pok, pfr, rfl⟩
  exact ⟨⟨_, rfl⟩, ezl_pk hS hs hy hT' htr pok ht (ezj_K_88 hz hT.t25 (fun j hj => pfr j (by omega)))⟩
theorem ezj_m335 {a1 : Int} (hJ : ezl_J s a t b y z g) (hd : 1 ≤ d) (ha1 : ezw_in a1) (hq : ezv_LO z.L ∧ ezp_B z.y) : ezw_C l ρ B xa Hb D cA 335 d [ezw_p 72, ezw_i a1] g (fun v g' => (∃ u, some (ezw_i u) = v) ∧ ezl_J s a t b y z g') := by
  refine ezl_op hJ ?_
  intro e F A i0 i2 i3 i7 i8 i13 i18 i19 i20 i25 i29 i30 i31 i36 i37 i38 r73 r74 r75 r76 r77 r78 r79 r80 r81 r82 r83 r84 r85 r86 r87 r88 r89 r90 r91 r92 r93 r94 r95 hg hS hs hy hT htr hok ht hz
  subst hg
  refine ezw_Cmono (ezm_m335n hT (by omega) ha1 hz.2.2.1.1 hz.2.2.1.2 hz.1 hq.2 hz.2.2.2.1.1 hz.2.2.2.1.2) ?_
  rintro _ _ ⟨x0, rfl, hT', u, hu, pan, rfl⟩
  exact ⟨⟨_, rfl⟩, ezl_pk hS hs hy hT' htr hok ht hz⟩
theorem ezj_B {c : Int → Int} {n : Int} (tp : ezp_tp c n) (h : ezp_tree c = 0) : ezp_B (ezj_Y c) := by
  unfold ezj_Y
  rw [ezp_rl_1]
  exact ezb_tree (fun k => (ezp_Pr tp k).1) h
theorem ezj_m217 (hJ : ezl_J s a t b y z g) (hd : 38 ≤ d) (tp : ezp_tp (ezp_ch b t) t) (hq : ezv_LO z.L ∧ ezp_B z.y) : ezw_C l ρ B xa Hb D cA 217 d [ezw_p 72] g (fun v g' => (some (ezw_i (ezp_tree (ezp_ch b t))) = v) ∧ ezl_J s a 0 b y (ezj_ty (ezp_ch b t) z) g') := by
  refine ezl_op hJ ?_
  intro e F A i0 i2 i3 i7 i8 i13 i18 i19 i20 i25 i29 i30 i31 i36 i37 i38 r73 r74 r75 r76 r77 r78 r79 r80 r81 r82 r83 r84 r85 r86 r87 r88 r89 r90 r91 r92 r93 r94 r95 hg hS hs hy hT htr hok ht hz
  subst hg
  obtain ⟨rfl, rfl, hM⟩ := ht
  have ht : i2 = i2 ∧ r73 = r73 ∧ ∀ j, 0 ≤ j → j < 48 → r77 j = ezl_mw.getD j.toNat 0 := ⟨rfl, rfl, hM⟩
  refine ezw_Cmono (ezm_m217n hT hd htr hok rfl tp ht.2.2) ?_
  rintro _ _ ⟨x0, x2, x3, x7, x8, x13, x18, x19, x20, x25, x74, x75, x76, x78, x79, x80, x81, x82, x83, x84, x85, x88, x89, rfl, hT', u, hu, p0, ptr, pok, pan, ptf, ptn, plf, plw, psf, psn, rfl⟩
  refine ⟨by rw [pan], ezl_pk hS hs hy hT' ptr pok ⟨p0, ht.2⟩ ?_⟩
  by_cases h : ezp_tree (ezp_ch r73 i2) = 0
  · rw [ezj_ty0 h]
    have hu0 : u = 0 := pan.trans h
    obtain ⟨q1, q2, q3, q4⟩ := psn hu0
    have tf9 := ptn hu0
    have hB := ezj_B tp h
    exact ⟨tf9, plw hu0, ⟨ezj_NW_bg tf9 hB q1, ezn_B_bg hB⟩, ⟨ezn_TD_0 q2, ⟨fun _ _ _ => Int.le_refl 0, show (0 : Int) ≤ 12 by decide⟩⟩, q3, ⟨fun k k0 k1 => absurd k1 (by omega), fun k k0 k1 => absurd k1 (by omega)⟩, fun m m0 m1 => ⟨q4 m m0 m1, fun hm => absurd (show (0 : Int) = 1 from hm) (by decide)⟩⟩
  · rw [ezj_ty1 h]
    have hu1 : u ≠ 0 := fun e0 => h (pan.symm.trans e0)
    obtain ⟨q1, q2, q3⟩ := psf hu1
    rw [q1, q2, q3]
    exact ⟨ptf hu1 _ hz.1, plf hu1 _ hz.2.1, hz.2.2⟩
theorem ezl_fm {F : Nat → Nat → Int} {i0 i2 i3 i7 i8 i13 i18 i19 i20 i25 i29 i30 i31 i36 i37 i38 : Int} {f' : Nat → Int} {s : Int} (h : ∀ k, k ≠ 2 → f' k = ezw_fu (ezm_F F i0 i2 i3 i7 i8 i13 i18 i19 i20 i25 i29 i30 i31 i36 i37 i38 72) 0 0 k) (h2 : f' 2 = s) : f' = ezm_F F 0 s i3 i7 i8 i13 i18 i19 i20 i25 i29 i30 i31 i36 i37 i38 72 := by
  funext k
  by_cases hk : k = 2
  · subst hk
    rw [h2]
    rfl
  · rw [h k hk]
    unfold ezw_fu
    by_cases hk0 : k = 0
    · subst hk0
      rfl
    · rw [if_neg hk0]
      unfold ezm_F
      rw [if_pos rfl, if_pos rfl]
      split <;> first | rfl | exact absurd rfl hk0 | exact absurd rfl hk
theorem ezj_m210 {w1 w2 w3 : Int} (hJ : ezl_J s a t b y z g) (hd : 2 ≤ d) (g1 : ezw_il w1) (g2 : ezw_il w2) (g3 : ezw_il w3) : ezw_C l ρ B xa Hb D cA 210 d [ezw_p 72, ezw_l w1, ezw_l w2, ezw_l w3] g (fun v g' => (∃ u, some (ezw_i u) = v) ∧ ezl_J s a (ezf3 w1 w2 w3 t b).1 (ezf3 w1 w2 w3 t b).2 y z g') := by
  refine ezl_op hJ ?_
  intro e F A i0 i2 i3 i7 i8 i13 i18 i19 i20 i25 i29 i30 i31 i36 i37 i38 r73 r74 r75 r76 r77 r78 r79 r80 r81 r82 r83 r84 r85 r86 r87 r88 r89 r90 r91 r92 r93 r94 r95 hg hS hs hy hT htr hok ht hz
  subst hg
  have h0 := hT.t2
  refine ezw_Cmono (ezc_feedM g1 g2 g3 (f := ezm_F F i0 i2 i3 i7 i8 i13 i18 i19 i20 i25 i29 i30 i31 i36 i37 i38 72) (a := r73) rfl rfl h0.1 h0.2 hd) ?_
  rintro v g' ⟨h1, f', h2, h3, h4, h5, h6⟩
  obtain ⟨rfl, rfl, hM⟩ := ht
  have hle := ezf3_le w1 w2 w3 i2 r73 h0.1 h0.2
  have h1 : some (ezw_i (ezf3 w1 w2 w3 i2 r73).1) = v := h1
  have h4 : f' 2 = (ezf3 w1 w2 w3 i2 r73).1 := h4
  have hf := ezl_fm h3 h4
  have hgg : g' = ezm_h e F A 0 ((ezf3 w1 w2 w3 i2 r73).1) i3 i7 i8 i13 i18 i19 i20 i25 i29 i30 i31 i36 i37 i38 ((ezf3 w1 w2 w3 i2 r73).2) r74 r75 r76 r77 r78 r79 r80 r81 r82 r83 r84 r85 r86 r87 r88 r89 r90 r91 r92 r93 r94 r95 := by
    funext q
    by_cases q1 : q = 72
    · subst q1
      rw [h2, hf]
      rfl
    · by_cases q2 : q = 73
      · subst q2
        rw [h5]
        rfl
      · rw [h6 q q1 q2]
        unfold ezm_h ezu_g
        congr 1
        · unfold ezm_F
          rw [if_neg q1, if_neg q1]
        · unfold ezm_A
          split <;> first | rfl | exact absurd rfl q2
  rw [hgg]
  have hT9 : ezm_T 0 ((ezf3 w1 w2 w3 i2 r73).1) i3 i7 i8 i13 i18 i19 i20 i25 i29 i30 i31 i36 i37 i38 ((ezf3 w1 w2 w3 i2 r73).2) r74 r75 r76 r77 r78 r79 r80 r81 r82 r83 r84 r85 r86 r87 r88 r89 r90 r91 r92 r93 r94 r95 := ⟨⟨by decide, by decide⟩, hle, hT.t3, hT.t7, hT.t8, hT.t13, hT.t18, hT.t19, hT.t20, hT.t25, hT.t29, hT.t30, hT.t31, hT.t36, hT.t37, hT.t38, ezf3_in w1 w2 w3 i2 r73 hT.t73, hT.t74, hT.t75, hT.t76, hT.t77, hT.t78, hT.t79, hT.t80, hT.t81, hT.t82, hT.t83, hT.t84, hT.t85, hT.t86, hT.t87, hT.t88, hT.t89, hT.t90, hT.t91, hT.t92, hT.t93, hT.t94, hT.t95⟩
  exact ⟨⟨_, h1⟩, ezl_pk hS hs hy hT9 htr hok ⟨rfl, rfl, hM⟩ hz⟩
end KL
