/-! ===== the calls of the class ===== -/
/-- the class behind what leaves it as it is, an undo, what is told, a mark -/
theorem ezj_C_id {e : Bool × Bool} {y : ezj_S} {F F' : Nat → Nat → Int} {A A' : Nat → Int → Int} (h : ezj_C e y F A) (hw : ezn_C 13 y.w F') (nF : ∀ p j, p ≠ 13 → ¬ (p = 18 ∧ j = 4) → F' p j = F p j) (h4 : F' 18 4 = y.kU) (nA : ∀ p, 0 ≤ p → A' p = A p) : ezj_C e y F' A' := by
  obtain ⟨⟨h1, h2, h3, h4'⟩, ⟨h5, h6⟩, ⟨h7, h8⟩, h9, ⟨h10, h11⟩, h12, h13, h14⟩ := h
  have hq := ezl_q_r e
  have f3 : F' 18 3 = F 18 3 := nF 18 3 (by decide) (by decide)
  refine ⟨⟨ezl_TC_fr h1 (fun q q0 q1 => ⟨funext (fun j => nF q j (by omega) (by omega)), nA q (by omega)⟩), h2, ?_, h4'⟩, ⟨hw, h6⟩, ⟨fun j j0 j1 => ?_, h8⟩, ⟨h4, h9.2⟩, ⟨fun k k0 k1 => ?_, h11⟩, ?_, fun m m0 m1 => ?_, fun m m0 m1 hm => ?_⟩
  · rw [nA _ (by omega), nA _ (by omega)]; exact h3
  · rw [nA 17 (by omega)]; exact h7 j j0 j1
  · rw [nA 19 (by omega)]; exact h10 k k0 k1
  · rw [f3]; exact h12
  · rw [f3]; exact h13 m m0 m1
  · rw [nA 20 (by omega), nA 21 (by omega)]; exact h14 m m0 m1 hm
theorem ezj_C_un {e : Bool × Bool} {y : ezj_S} {F F' : Nat → Nat → Int} {A : Nat → Int → Int} (h : ezj_C e y F A) (hk : 0 < y.kU) (hw : ezn_C 13 (y.U (y.kU - 1)) F') (h4 : F' 18 4 = y.kU - 1) (nF : ∀ p j, p ≠ 13 → ¬ (p = 18 ∧ j = 4) → F' p j = F p j) : ezj_C e (ezj_un y) F' A := by
  obtain ⟨⟨h1, h2, h3, h4'⟩, ⟨h5, h6⟩, ⟨h7, h8⟩, h9, ⟨h10, h11⟩, h12, h13, h14⟩ := h
  have hq := ezl_q_r e
  have f3 : F' 18 3 = F 18 3 := nF 18 3 (by decide) (by decide)
  have hn : 0 ≤ y.kU - 1 ∧ y.kU - 1 ≤ 16 := by omega
  refine ⟨⟨ezl_TC_fr h1 (fun q q0 q1 => ⟨funext (fun j => nF q j (by omega) (by omega)), rfl⟩), h2, h3, h4'⟩, ⟨hw, h11 _ (by omega) (by omega)⟩, ⟨h7, h8⟩, ⟨h4, hn⟩, ⟨fun k k0 k1 => h10 k k0 (by have k1 : k < y.kU - 1 := k1; omega), fun k k0 k1 => h11 k k0 (by have k1 : k < y.kU - 1 := k1; omega)⟩, ?_, fun m m0 m1 => ?_, h14⟩
  · rw [f3]; exact h12
  · rw [f3]; exact h13 m m0 m1
theorem ezj_C_tl {e : Bool × Bool} {y : ezj_S} {c : Int → Int} {F : Nat → Nat → Int} {A A' : Nat → Int → Int} (h : ezj_C e y F A) (ct : ∀ j, 0 ≤ j → j < 8 → A' 17 j = c j) (tb : ezn_TB c) (nA : ∀ p, ¬ (p = 17) → A' p = A p) : ezj_C e (ezj_mk y.y y.L y.w c y.kU y.U y.ml y.mN y.mT) F A' := by
  obtain ⟨⟨h1, h2, h3, h4'⟩, ⟨h5, h6⟩, ⟨h7, h8⟩, h9, ⟨h10, h11⟩, h12, h13, h14⟩ := h
  have hq := ezl_q_r e
  refine ⟨⟨ezl_TC_fr h1 (fun q q0 q1 => ⟨rfl, nA q (by omega)⟩), h2, ?_, h4'⟩, ⟨h5, h6⟩, ⟨ct, tb⟩, h9, ⟨fun k k0 k1 => ?_, h11⟩, h12, h13, fun m m0 m1 hm => ?_⟩
  · rw [nA _ (by omega), nA _ (by omega)]; exact h3
  · rw [nA 19 (by decide)]; exact h10 k k0 k1
  · rw [nA 20 (by decide), nA 21 (by decide)]; exact h14 m m0 m1 hm
theorem ezj_C_ly {e : Bool × Bool} {y : ezj_S} {a1 : Int} {F F' : Nat → Nat → Int} {A A' : Nat → Int → Int} (h : ezj_C e y F A) (hl : ezn_C 13 y.w F' ∧ F' 18 4 = y.kU ∧ A' 17 = A 17 ∧ A' 19 = A 19 ∧ (0 ≤ F' 18 3 ∧ F' 18 3 < 16) ∧ ∀ m, 0 ≤ m → m < 4 → ezt_b (F' 18 3) m = (if m = a1 then 1 else y.ml m) ∧ A' 20 m = (if m = a1 then ezn_pk y.w else A 20 m) ∧ A' 21 m = (if m = a1 then ezn_pt y.c else A 21 m)) (nF : ∀ p j, p ≠ 13 → p ≠ 18 → F' p j = F p j) (nA : ∀ p, ¬ (p = 17 ∨ p = 20 ∨ p = 21) → A' p = A p) : ezj_C e (ezj_ly y a1) F' A' := by
  obtain ⟨⟨h1, h2, h3, h4'⟩, ⟨h5, h6⟩, ⟨h7, h8⟩, h9, ⟨h10, h11⟩, h12, h13, h14⟩ := h
  obtain ⟨l1, l2, l3, l4, l5, l6⟩ := hl
  have hq := ezl_q_r e
  refine ⟨⟨ezl_TC_fr h1 (fun q q0 q1 => ⟨funext (fun j => nF q j (by omega) (by omega)), nA q (by omega)⟩), h2, ?_, h4'⟩, ⟨l1, h6⟩, ⟨fun j j0 j1 => ?_, h8⟩, ⟨l2, h9.2⟩, ⟨fun k k0 k1 => ?_, h11⟩, l5, fun m m0 m1 => (l6 m m0 m1).1, fun m m0 m1 hm => ?_⟩
  · rw [nA _ (by omega), nA _ (by omega)]; exact h3
  · rw [l3]; exact h7 j j0 j1
  · rw [l4]; exact h10 k k0 k1
  · have hm : (if m = a1 then 1 else y.ml m) = 1 := hm
    obtain ⟨-, g2, g3⟩ := l6 m m0 m1
    show (A' 20 m = ezn_pk (if m = a1 then y.w else y.mN m) ∧ A' 21 m = ezn_pt (if m = a1 then y.c else y.mT m)) ∧ ezn_B y.y (if m = a1 then y.w else y.mN m) ∧ ezn_TB (if m = a1 then y.c else y.mT m)
    rw [g2, g3]
    by_cases hk : m = a1
    · rw [if_pos hk, if_pos hk, if_pos hk, if_pos hk]
      exact ⟨⟨rfl, rfl⟩, h6, h8⟩
    · rw [if_neg hk] at hm
      rw [if_neg hk, if_neg hk, if_neg hk, if_neg hk]
      exact h14 m m0 m1 hm
theorem ezj_C_bk {e : Bool × Bool} {y : ezj_S} {a1 a2 : Int} {F F' : Nat → Nat → Int} {A A' : Nat → Int → Int} (h : ezj_C e y F A) (hd : 0 ≤ a1 ∧ a1 < 4 ∧ a2 = 1 ∧ y.ml a1 = 1) (hb : ezn_C 13 (y.mN a1) F' ∧ F' 18 4 = 0 ∧ (∀ j, 0 ≤ j → j < 8 → A' 17 j = y.mT a1 j) ∧ F' 18 3 = F 18 3 ∧ A' 19 = A 19 ∧ A' 20 = A 20 ∧ A' 21 = A 21) (nF : ∀ p j, p ≠ 13 → p ≠ 18 → F' p j = F p j) (nA : ∀ p, ¬ (p = 17 ∨ p = 20 ∨ p = 21) → A' p = A p) : ezj_C e (ezj_bk y a1) F' A' := by
  obtain ⟨⟨h1, h2, h3, h4'⟩, ⟨h5, h6⟩, ⟨h7, h8⟩, h9, ⟨h10, h11⟩, h12, h13, h14⟩ := h
  obtain ⟨l1, l2, l3, l4, l5, l6, l7⟩ := hb
  obtain ⟨-, g1, g2⟩ := h14 a1 hd.1 hd.2.1 hd.2.2.2
  have hq := ezl_q_r e
  refine ⟨⟨ezl_TC_fr h1 (fun q q0 q1 => ⟨funext (fun j => nF q j (by omega) (by omega)), nA q (by omega)⟩), h2, ?_, h4'⟩, ⟨l1, g1⟩, ⟨l3, g2⟩, ⟨l2, show (0 : Int) ≤ 0 by decide, show (0 : Int) ≤ 16 by decide⟩, ⟨fun k k0 k1 => absurd (show k < 0 from k1) (by omega), fun k k0 k1 => absurd (show k < 0 from k1) (by omega)⟩, ?_, fun m m0 m1 => ?_, fun m m0 m1 hm => ?_⟩
  · rw [nA _ (by omega), nA _ (by omega)]; exact h3
  · rw [l4]; exact h12
  · rw [l4]; exact h13 m m0 m1
  · rw [l6, l7]; exact h14 m m0 m1 hm

section KL
variable {l : Launch} {ρ : ezq_E} {B : Nat} {xa : Nat → Option Nat} {Hb : Heap} {D : va_G} {cA : Nat → ClassId} {d : Nat} {g : Nat → ezq_C} {s : Int} {a : Int → Int} {t : Int} {b : Int → Int} {y z : ezj_S}
theorem ezj_x117 {a1 a2 a3 : Int} (hJ : ezl_J s a t b y z g) (hd : 6 ≤ d) (ha1 : ezw_in a1) (ha2 : ezw_in a2) (ha3 : ezw_in a3) (gb : 0 ≤ a2 ∧ a2 ≤ 1) : ezw_C l ρ B xa Hb D cA 117 d [ezw_p 0, ezw_i a1, ezw_i a2, ezw_i a3] g (fun v g' => ∃ (u : Int) (y1 : ezj_S), ezw_in u ∧ ezj_N6 y a1 a2 a3 u y1 ∧ some (ezw_i u) = v ∧ ezl_J s a t b y1 z g') := by
  obtain ⟨e, F, A, rfl, hS, hs, hy, hM⟩ := hJ
  obtain ⟨b1, b2⟩ := e
  cases b1
  · obtain ⟨⟨h1, h2, h3, h4⟩, ⟨h5, h6⟩, ⟨h7, h8⟩, h9, ⟨h10, h11⟩, h12, h13, h14⟩ := id hy
    refine ezw_Cmono (ezt_m117_0n_f (F := F) (A := A) hS (by omega) ha1 ha2 ha3 h1.1 h1.2 h2 h5 h6 (ezj_CQ (q := 30) h3) (ezn_qc_r y.L y.y) h9 gb) ?_
    rintro _ _ ⟨F2, A2, rfl, hS2, nF, nA, u, hu, y1, y0, t1, t0, rfl⟩
    by_cases hc : ezn_cP (ezn_qc y.L y.y) y.y y.w a1 a2 a3
    · exact ⟨u, ezj_to y (ezn_tP y.w a2 a3), hu, ⟨fun _ => ⟨y1 hc, rfl⟩, fun hn => absurd hc hn⟩, rfl, _, F2, A2, rfl, hS2, ⟨(nF 1 2 (by decide)).trans hs.1, (nA 2 (by decide)).trans hs.2.1, (by rw [nA 3 (by decide)]; exact hs.2.2)⟩, ezj_C_to hy (fun p j h0 h1 => nF p j (by omega)) nA (ezn_B_tP h6 gb.1 hc) (t1 hc), ezl_Mf hM (fun q hq => ⟨funext (fun j => nF q j (by omega)), nA q (by omega)⟩)⟩
    · obtain ⟨q1, q2, q3⟩ := t0 hc
      exact ⟨u, y, hu, ⟨fun hn => absurd hn hc, fun _ => ⟨y0 hc, rfl⟩⟩, rfl, _, F2, A2, rfl, hS2, ⟨(nF 1 2 (by decide)).trans hs.1, (nA 2 (by decide)).trans hs.2.1, (by rw [nA 3 (by decide)]; exact hs.2.2)⟩, ezj_C_id hy q1 (fun p j h0 h1 => nF p j (by omega)) q2 (fun p hp => by
            by_cases h9 : p = 19
            · subst h9
              exact q3
            · exact nA p h9), ezl_Mf hM (fun q hq => ⟨funext (fun j => nF q j (by omega)), nA q (by omega)⟩)⟩
  · obtain ⟨⟨h1, h2, h3, h4⟩, ⟨h5, h6⟩, ⟨h7, h8⟩, h9, ⟨h10, h11⟩, h12, h13, h14⟩ := id hy
    refine ezw_Cmono (ezt_m117_0n_t (F := F) (A := A) hS (by omega) ha1 ha2 ha3 h1.1 h1.2 h2 h5 h6 (ezj_CQ (q := 47) h3) (ezn_qc_r y.L y.y) h9 gb) ?_
    rintro _ _ ⟨F2, A2, rfl, hS2, nF, nA, u, hu, y1, y0, t1, t0, rfl⟩
    by_cases hc : ezn_cP (ezn_qc y.L y.y) y.y y.w a1 a2 a3
    · exact ⟨u, ezj_to y (ezn_tP y.w a2 a3), hu, ⟨fun _ => ⟨y1 hc, rfl⟩, fun hn => absurd hc hn⟩, rfl, _, F2, A2, rfl, hS2, ⟨(nF 1 2 (by decide)).trans hs.1, (nA 2 (by decide)).trans hs.2.1, (by rw [nA 3 (by decide)]; exact hs.2.2)⟩, ezj_C_to hy (fun p j h0 h1 => nF p j (by omega)) nA (ezn_B_tP h6 gb.1 hc) (t1 hc), ezl_Mf hM (fun q hq => ⟨funext (fun j => nF q j (by omega)), nA q (by omega)⟩)⟩
    · obtain ⟨q1, q2, q3⟩ := t0 hc
      exact ⟨u, y, hu, ⟨fun hn => absurd hn hc, fun _ => ⟨y0 hc, rfl⟩⟩, rfl, _, F2, A2, rfl, hS2, ⟨(nF 1 2 (by decide)).trans hs.1, (nA 2 (by decide)).trans hs.2.1, (by rw [nA 3 (by decide)]; exact hs.2.2)⟩, ezj_C_id hy q1 (fun p j h0 h1 => nF p j (by omega)) q2 (fun p hp => by
            by_cases h9 : p = 19
            · subst h9
              exact q3
            · exact nA p h9), ezl_Mf hM (fun q hq => ⟨funext (fun j => nF q j (by omega)), nA q (by omega)⟩)⟩
theorem ezj_x133 (hJ : ezl_J s a t b y z g) (hd : 3 ≤ d) : ezw_C l ρ B xa Hb D cA 133 d [ezw_p 0] g (fun v g' => ∃ (u : Int) (y1 : ezj_S), ezw_in u ∧ ezj_N7 y u y1 ∧ some (ezw_i u) = v ∧ ezl_J s a t b y1 z g') := by
  obtain ⟨e, F, A, rfl, hS, hs, hy, hM⟩ := hJ
  obtain ⟨b1, b2⟩ := e
  cases b1
  · obtain ⟨⟨h1, h2, h3, h4⟩, ⟨h5, h6⟩, ⟨h7, h8⟩, h9, ⟨h10, h11⟩, h12, h13, h14⟩ := id hy
    refine ezw_Cmono (ezt_m133_0n_f (F := F) (A := A) hS (by omega) h1.1 h1.2 h2 h5 h6 (ezj_CQ (q := 30) h3) (ezn_qc_r y.L y.y) h9) ?_
    rintro _ _ ⟨F2, A2, rfl, hS2, nF, nA, u, hu, y1, y0, t1, t0, rfl⟩
    by_cases hc : ezn_cS y.w
    · exact ⟨u, ezj_to y (ezn_sl y.w), hu, ⟨fun _ => ⟨y1 hc, rfl⟩, fun hn => absurd hc hn⟩, rfl, _, F2, A2, rfl, hS2, ⟨(nF 1 2 (by decide)).trans hs.1, (nA 2 (by decide)).trans hs.2.1, (by rw [nA 3 (by decide)]; exact hs.2.2)⟩, ezj_C_to hy (fun p j h0 h1 => nF p j (by omega)) nA (ezn_B_sl h6 hc.1 hc.2) (t1 hc), ezl_Mf hM (fun q hq => ⟨funext (fun j => nF q j (by omega)), nA q (by omega)⟩)⟩
    · obtain ⟨q1, q2, q3⟩ := t0 hc
      exact ⟨u, y, hu, ⟨fun hn => absurd hn hc, fun _ => ⟨y0 hc, rfl⟩⟩, rfl, _, F2, A2, rfl, hS2, ⟨(nF 1 2 (by decide)).trans hs.1, (nA 2 (by decide)).trans hs.2.1, (by rw [nA 3 (by decide)]; exact hs.2.2)⟩, ezj_C_id hy q1 (fun p j h0 h1 => nF p j (by omega)) q2 (fun p hp => by
            by_cases h9 : p = 19
            · subst h9
              exact q3
            · exact nA p h9), ezl_Mf hM (fun q hq => ⟨funext (fun j => nF q j (by omega)), nA q (by omega)⟩)⟩
  · obtain ⟨⟨h1, h2, h3, h4⟩, ⟨h5, h6⟩, ⟨h7, h8⟩, h9, ⟨h10, h11⟩, h12, h13, h14⟩ := id hy
    refine ezw_Cmono (ezt_m133_0n_t (F := F) (A := A) hS (by omega) h1.1 h1.2 h2 h5 h6 (ezj_CQ (q := 47) h3) (ezn_qc_r y.L y.y) h9) ?_
    rintro _ _ ⟨F2, A2, rfl, hS2, nF, nA, u, hu, y1, y0, t1, t0, rfl⟩
    by_cases hc : ezn_cS y.w
    · exact ⟨u, ezj_to y (ezn_sl y.w), hu, ⟨fun _ => ⟨y1 hc, rfl⟩, fun hn => absurd hc hn⟩, rfl, _, F2, A2, rfl, hS2, ⟨(nF 1 2 (by decide)).trans hs.1, (nA 2 (by decide)).trans hs.2.1, (by rw [nA 3 (by decide)]; exact hs.2.2)⟩, ezj_C_to hy (fun p j h0 h1 => nF p j (by omega)) nA (ezn_B_sl h6 hc.1 hc.2) (t1 hc), ezl_Mf hM (fun q hq => ⟨funext (fun j => nF q j (by omega)), nA q (by omega)⟩)⟩
    · obtain ⟨q1, q2, q3⟩ := t0 hc
      exact ⟨u, y, hu, ⟨fun hn => absurd hn hc, fun _ => ⟨y0 hc, rfl⟩⟩, rfl, _, F2, A2, rfl, hS2, ⟨(nF 1 2 (by decide)).trans hs.1, (nA 2 (by decide)).trans hs.2.1, (by rw [nA 3 (by decide)]; exact hs.2.2)⟩, ezj_C_id hy q1 (fun p j h0 h1 => nF p j (by omega)) q2 (fun p hp => by
            by_cases h9 : p = 19
            · subst h9
              exact q3
            · exact nA p h9), ezl_Mf hM (fun q hq => ⟨funext (fun j => nF q j (by omega)), nA q (by omega)⟩)⟩
theorem ezj_x134 (hJ : ezl_J s a t b y z g) (hd : 6 ≤ d) : ezw_C l ρ B xa Hb D cA 134 d [ezw_p 0] g (fun v g' => ∃ (u : Int) (y1 : ezj_S), ezw_in u ∧ ezj_N8 y u y1 ∧ some (ezw_i u) = v ∧ ezl_J s a t b y1 z g') := by
  obtain ⟨e, F, A, rfl, hS, hs, hy, hM⟩ := hJ
  obtain ⟨b1, b2⟩ := e
  cases b1
  · obtain ⟨⟨h1, h2, h3, h4⟩, ⟨h5, h6⟩, ⟨h7, h8⟩, h9, ⟨h10, h11⟩, h12, h13, h14⟩ := id hy
    refine ezw_Cmono (ezt_m134_0n_f (F := F) (A := A) hS (by omega) h1.1 h1.2 h2 h5 h6 (ezj_CQ (q := 30) h3) (ezn_qc_r y.L y.y) h9) ?_
    rintro _ _ ⟨F2, A2, rfl, hS2, nF, nA, u, hu, y1, y0, t1, t0, rfl⟩
    by_cases hc : ezn_cL y.y y.w
    · exact ⟨u, ezj_to y (ezn_off y.w (ezn_lo y.w.ov)), ⟨by omega, by omega⟩, ⟨fun _ => ⟨y1 hc, rfl⟩, fun hn => absurd hc hn⟩, rfl, _, F2, A2, rfl, hS2, ⟨(nF 1 2 (by decide)).trans hs.1, (nA 2 (by decide)).trans hs.2.1, (by rw [nA 3 (by decide)]; exact hs.2.2)⟩, ezj_C_to hy (fun p j h0 h1 => nF p j (by omega)) nA (ezn_B_tL h6 hc.1) (t1 hc), ezl_Mf hM (fun q hq => ⟨funext (fun j => nF q j (by omega)), nA q (by omega)⟩)⟩
    · obtain ⟨q1, q2, q3⟩ := t0 hc
      exact ⟨u, y, ⟨by omega, by omega⟩, ⟨fun hn => absurd hn hc, fun _ => ⟨y0 hc, rfl⟩⟩, rfl, _, F2, A2, rfl, hS2, ⟨(nF 1 2 (by decide)).trans hs.1, (nA 2 (by decide)).trans hs.2.1, (by rw [nA 3 (by decide)]; exact hs.2.2)⟩, ezj_C_id hy q1 (fun p j h0 h1 => nF p j (by omega)) q2 (fun p hp => by
            by_cases h9 : p = 19
            · subst h9
              exact q3
            · exact nA p h9), ezl_Mf hM (fun q hq => ⟨funext (fun j => nF q j (by omega)), nA q (by omega)⟩)⟩
  · obtain ⟨⟨h1, h2, h3, h4⟩, ⟨h5, h6⟩, ⟨h7, h8⟩, h9, ⟨h10, h11⟩, h12, h13, h14⟩ := id hy
    refine ezw_Cmono (ezt_m134_0n_t (F := F) (A := A) hS (by omega) h1.1 h1.2 h2 h5 h6 (ezj_CQ (q := 47) h3) (ezn_qc_r y.L y.y) h9) ?_
    rintro _ _ ⟨F2, A2, rfl, hS2, nF, nA, u, hu, y1, y0, t1, t0, rfl⟩
    by_cases hc : ezn_cL y.y y.w
    · exact ⟨u, ezj_to y (ezn_off y.w (ezn_lo y.w.ov)), ⟨by omega, by omega⟩, ⟨fun _ => ⟨y1 hc, rfl⟩, fun hn => absurd hc hn⟩, rfl, _, F2, A2, rfl, hS2, ⟨(nF 1 2 (by decide)).trans hs.1, (nA 2 (by decide)).trans hs.2.1, (by rw [nA 3 (by decide)]; exact hs.2.2)⟩, ezj_C_to hy (fun p j h0 h1 => nF p j (by omega)) nA (ezn_B_tL h6 hc.1) (t1 hc), ezl_Mf hM (fun q hq => ⟨funext (fun j => nF q j (by omega)), nA q (by omega)⟩)⟩
    · obtain ⟨q1, q2, q3⟩ := t0 hc
      exact ⟨u, y, ⟨by omega, by omega⟩, ⟨fun hn => absurd hn hc, fun _ => ⟨y0 hc, rfl⟩⟩, rfl, _, F2, A2, rfl, hS2, ⟨(nF 1 2 (by decide)).trans hs.1, (nA 2 (by decide)).trans hs.2.1, (by rw [nA 3 (by decide)]; exact hs.2.2)⟩, ezj_C_id hy q1 (fun p j h0 h1 => nF p j (by omega)) q2 (fun p hp => by
            by_cases h9 : p = 19
            · subst h9
              exact q3
            · exact nA p h9), ezl_Mf hM (fun q hq => ⟨funext (fun j => nF q j (by omega)), nA q (by omega)⟩)⟩
theorem ezj_x135 {a1 a2 : Int} (hJ : ezl_J s a t b y z g) (hd : 6 ≤ d) (ha1 : ezw_in a1) (ha2 : ezw_in a2) : ezw_C l ρ B xa Hb D cA 135 d [ezw_p 0, ezw_i a1, ezw_i a2] g (fun v g' => ∃ (u : Int) (y1 : ezj_S), ezw_in u ∧ ezj_N9 y a1 a2 u y1 ∧ some (ezw_i u) = v ∧ ezl_J s a t b y1 z g') := by
  obtain ⟨e, F, A, rfl, hS, hs, hy, hM⟩ := hJ
  obtain ⟨b1, b2⟩ := e
  cases b1
  · obtain ⟨⟨h1, h2, h3, h4⟩, ⟨h5, h6⟩, ⟨h7, h8⟩, h9, ⟨h10, h11⟩, h12, h13, h14⟩ := id hy
    refine ezw_Cmono (ezt_m135_0n_f (F := F) (A := A) hS (by omega) ha1 ha2 h1.1 h1.2 h2 h5 h6 (ezj_CQ (q := 30) h3) (ezn_qc_r y.L y.y) h9) ?_
    rintro _ _ ⟨F2, A2, rfl, hS2, nF, nA, u, hu, y1, y0, t1, t0, rfl⟩
    by_cases hc : ezn_cH y.y y.w a1 a2
    · exact ⟨u, ezj_to y (ezn_tH y.w a1 a2), hu, ⟨fun _ => ⟨y1 hc, rfl⟩, fun hn => absurd hc hn⟩, rfl, _, F2, A2, rfl, hS2, ⟨(nF 1 2 (by decide)).trans hs.1, (nA 2 (by decide)).trans hs.2.1, (by rw [nA 3 (by decide)]; exact hs.2.2)⟩, ezj_C_to hy (fun p j h0 h1 => nF p j (by omega)) nA (ezn_B_tH h2 h6 hc) (t1 hc), ezl_Mf hM (fun q hq => ⟨funext (fun j => nF q j (by omega)), nA q (by omega)⟩)⟩
    · obtain ⟨q1, q2, q3⟩ := t0 hc
      exact ⟨u, y, hu, ⟨fun hn => absurd hn hc, fun _ => ⟨y0 hc, rfl⟩⟩, rfl, _, F2, A2, rfl, hS2, ⟨(nF 1 2 (by decide)).trans hs.1, (nA 2 (by decide)).trans hs.2.1, (by rw [nA 3 (by decide)]; exact hs.2.2)⟩, ezj_C_id hy q1 (fun p j h0 h1 => nF p j (by omega)) q2 (fun p hp => by
            by_cases h9 : p = 19
            · subst h9
              exact q3
            · exact nA p h9), ezl_Mf hM (fun q hq => ⟨funext (fun j => nF q j (by omega)), nA q (by omega)⟩)⟩
  · obtain ⟨⟨h1, h2, h3, h4⟩, ⟨h5, h6⟩, ⟨h7, h8⟩, h9, ⟨h10, h11⟩, h12, h13, h14⟩ := id hy
    refine ezw_Cmono (ezt_m135_0n_t (F := F) (A := A) hS (by omega) ha1 ha2 h1.1 h1.2 h2 h5 h6 (ezj_CQ (q := 47) h3) (ezn_qc_r y.L y.y) h9) ?_
    rintro _ _ ⟨F2, A2, rfl, hS2, nF, nA, u, hu, y1, y0, t1, t0, rfl⟩
    by_cases hc : ezn_cH y.y y.w a1 a2
    · exact ⟨u, ezj_to y (ezn_tH y.w a1 a2), hu, ⟨fun _ => ⟨y1 hc, rfl⟩, fun hn => absurd hc hn⟩, rfl, _, F2, A2, rfl, hS2, ⟨(nF 1 2 (by decide)).trans hs.1, (nA 2 (by decide)).trans hs.2.1, (by rw [nA 3 (by decide)]; exact hs.2.2)⟩, ezj_C_to hy (fun p j h0 h1 => nF p j (by omega)) nA (ezn_B_tH h2 h6 hc) (t1 hc), ezl_Mf hM (fun q hq => ⟨funext (fun j => nF q j (by omega)), nA q (by omega)⟩)⟩
    · obtain ⟨q1, q2, q3⟩ := t0 hc
      exact ⟨u, y, hu, ⟨fun hn => absurd hn hc, fun _ => ⟨y0 hc, rfl⟩⟩, rfl, _, F2, A2, rfl, hS2, ⟨(nF 1 2 (by decide)).trans hs.1, (nA 2 (by decide)).trans hs.2.1, (by rw [nA 3 (by decide)]; exact hs.2.2)⟩, ezj_C_id hy q1 (fun p j h0 h1 => nF p j (by omega)) q2 (fun p hp => by
            by_cases h9 : p = 19
            · subst h9
              exact q3
            · exact nA p h9), ezl_Mf hM (fun q hq => ⟨funext (fun j => nF q j (by omega)), nA q (by omega)⟩)⟩
theorem ezj_x136 {a1 a2 : Int} (hJ : ezl_J s a t b y z g) (hd : 6 ≤ d) (ha1 : ezw_in a1) (ha2 : ezw_in a2) (gb : 0 ≤ a2 ∧ a2 ≤ 1) : ezw_C l ρ B xa Hb D cA 136 d [ezw_p 0, ezw_i a1, ezw_i a2] g (fun v g' => ∃ (u : Int) (y1 : ezj_S), ezw_in u ∧ ezj_N10 y a1 a2 u y1 ∧ some (ezw_i u) = v ∧ ezl_J s a t b y1 z g') := by
  obtain ⟨e, F, A, rfl, hS, hs, hy, hM⟩ := hJ
  obtain ⟨b1, b2⟩ := e
  cases b1
  · obtain ⟨⟨h1, h2, h3, h4⟩, ⟨h5, h6⟩, ⟨h7, h8⟩, h9, ⟨h10, h11⟩, h12, h13, h14⟩ := id hy
    refine ezw_Cmono (ezt_m136_0n_f (F := F) (A := A) hS (by omega) ha1 ha2 h1.1 h1.2 h2 h5 h6 (ezj_CQ (q := 30) h3) (ezn_qc_r y.L y.y) h9 gb) ?_
    rintro _ _ ⟨F2, A2, rfl, hS2, nF, nA, u, hu, y1, y0, t1, t0, rfl⟩
    by_cases hc : ezn_cC y.y y.w a1 a2
    · exact ⟨u, ezj_to y (ezn_off y.w (ezn_ps y.y y.w a1 6)), ⟨by omega, by omega⟩, ⟨fun _ => ⟨y1 hc, rfl⟩, fun hn => absurd hc hn⟩, rfl, _, F2, A2, rfl, hS2, ⟨(nF 1 2 (by decide)).trans hs.1, (nA 2 (by decide)).trans hs.2.1, (by rw [nA 3 (by decide)]; exact hs.2.2)⟩, ezj_C_to hy (fun p j h0 h1 => nF p j (by omega)) nA (ezn_B_tC h2 h6 hc) (t1 hc), ezl_Mf hM (fun q hq => ⟨funext (fun j => nF q j (by omega)), nA q (by omega)⟩)⟩
    · obtain ⟨q1, q2, q3⟩ := t0 hc
      exact ⟨u, y, ⟨by omega, by omega⟩, ⟨fun hn => absurd hn hc, fun _ => ⟨y0 hc, rfl⟩⟩, rfl, _, F2, A2, rfl, hS2, ⟨(nF 1 2 (by decide)).trans hs.1, (nA 2 (by decide)).trans hs.2.1, (by rw [nA 3 (by decide)]; exact hs.2.2)⟩, ezj_C_id hy q1 (fun p j h0 h1 => nF p j (by omega)) q2 (fun p hp => by
            by_cases h9 : p = 19
            · subst h9
              exact q3
            · exact nA p h9), ezl_Mf hM (fun q hq => ⟨funext (fun j => nF q j (by omega)), nA q (by omega)⟩)⟩
  · obtain ⟨⟨h1, h2, h3, h4⟩, ⟨h5, h6⟩, ⟨h7, h8⟩, h9, ⟨h10, h11⟩, h12, h13, h14⟩ := id hy
    refine ezw_Cmono (ezt_m136_0n_t (F := F) (A := A) hS (by omega) ha1 ha2 h1.1 h1.2 h2 h5 h6 (ezj_CQ (q := 47) h3) (ezn_qc_r y.L y.y) h9 gb) ?_
    rintro _ _ ⟨F2, A2, rfl, hS2, nF, nA, u, hu, y1, y0, t1, t0, rfl⟩
    by_cases hc : ezn_cC y.y y.w a1 a2
    · exact ⟨u, ezj_to y (ezn_off y.w (ezn_ps y.y y.w a1 6)), ⟨by omega, by omega⟩, ⟨fun _ => ⟨y1 hc, rfl⟩, fun hn => absurd hc hn⟩, rfl, _, F2, A2, rfl, hS2, ⟨(nF 1 2 (by decide)).trans hs.1, (nA 2 (by decide)).trans hs.2.1, (by rw [nA 3 (by decide)]; exact hs.2.2)⟩, ezj_C_to hy (fun p j h0 h1 => nF p j (by omega)) nA (ezn_B_tC h2 h6 hc) (t1 hc), ezl_Mf hM (fun q hq => ⟨funext (fun j => nF q j (by omega)), nA q (by omega)⟩)⟩
    · obtain ⟨q1, q2, q3⟩ := t0 hc
      exact ⟨u, y, ⟨by omega, by omega⟩, ⟨fun hn => absurd hn hc, fun _ => ⟨y0 hc, rfl⟩⟩, rfl, _, F2, A2, rfl, hS2, ⟨(nF 1 2 (by decide)).trans hs.1, (nA 2 (by decide)).trans hs.2.1, (by rw [nA 3 (by decide)]; exact hs.2.2)⟩, ezj_C_id hy q1 (fun p j h0 h1 => nF p j (by omega)) q2 (fun p hp => by
            by_cases h9 : p = 19
            · subst h9
              exact q3
            · exact nA p h9), ezl_Mf hM (fun q hq => ⟨funext (fun j => nF q j (by omega)), nA q (by omega)⟩)⟩
theorem ezj_x137 {a1 : Int} (hJ : ezl_J s a t b y z g) (hd : 6 ≤ d) (ha1 : ezw_in a1) : ezw_C l ρ B xa Hb D cA 137 d [ezw_p 0, ezw_i a1] g (fun v g' => ∃ (u : Int) (y1 : ezj_S), ezw_in u ∧ ezj_N11 y a1 u y1 ∧ some (ezw_i u) = v ∧ ezl_J s a t b y1 z g') := by
  obtain ⟨e, F, A, rfl, hS, hs, hy, hM⟩ := hJ
  obtain ⟨b1, b2⟩ := e
  cases b1
  · obtain ⟨⟨h1, h2, h3, h4⟩, ⟨h5, h6⟩, ⟨h7, h8⟩, h9, ⟨h10, h11⟩, h12, h13, h14⟩ := id hy
    refine ezw_Cmono (ezt_m137_0n_f (F := F) (A := A) hS (by omega) ha1 h1.1 h1.2 h2 h5 h6 (ezj_CQ (q := 30) h3) (ezn_qc_r y.L y.y) h9) ?_
    rintro _ _ ⟨F2, A2, rfl, hS2, nF, nA, u, hu, y1, y0, t1, t0, rfl⟩
    by_cases hc : 0 ≤ a1 ∧ a1 < 4
    · exact ⟨u, ezj_to y (ezn_hr y.y y.w a1), hu, ⟨fun _ => ⟨y1 hc, rfl⟩, fun hn => absurd hc hn⟩, rfl, _, F2, A2, rfl, hS2, ⟨(nF 1 2 (by decide)).trans hs.1, (nA 2 (by decide)).trans hs.2.1, (by rw [nA 3 (by decide)]; exact hs.2.2)⟩, ezj_C_to hy (fun p j h0 h1 => nF p j (by omega)) nA (ezn_B_hr h6 (h2.2.2.2.2.2.2.2.1.1 6 (by decide) (by decide)).1 hc.1 hc.2) (t1 hc), ezl_Mf hM (fun q hq => ⟨funext (fun j => nF q j (by omega)), nA q (by omega)⟩)⟩
    · obtain ⟨q1, q2, q3⟩ := t0 hc
      exact ⟨u, y, hu, ⟨fun hn => absurd hn hc, fun _ => ⟨y0 hc, rfl⟩⟩, rfl, _, F2, A2, rfl, hS2, ⟨(nF 1 2 (by decide)).trans hs.1, (nA 2 (by decide)).trans hs.2.1, (by rw [nA 3 (by decide)]; exact hs.2.2)⟩, ezj_C_id hy q1 (fun p j h0 h1 => nF p j (by omega)) q2 (fun p hp => by
            by_cases h9 : p = 19
            · subst h9
              exact q3
            · exact nA p h9), ezl_Mf hM (fun q hq => ⟨funext (fun j => nF q j (by omega)), nA q (by omega)⟩)⟩
  · obtain ⟨⟨h1, h2, h3, h4⟩, ⟨h5, h6⟩, ⟨h7, h8⟩, h9, ⟨h10, h11⟩, h12, h13, h14⟩ := id hy
    refine ezw_Cmono (ezt_m137_0n_t (F := F) (A := A) hS (by omega) ha1 h1.1 h1.2 h2 h5 h6 (ezj_CQ (q := 47) h3) (ezn_qc_r y.L y.y) h9) ?_
    rintro _ _ ⟨F2, A2, rfl, hS2, nF, nA, u, hu, y1, y0, t1, t0, rfl⟩
    by_cases hc : 0 ≤ a1 ∧ a1 < 4
    · exact ⟨u, ezj_to y (ezn_hr y.y y.w a1), hu, ⟨fun _ => ⟨y1 hc, rfl⟩, fun hn => absurd hc hn⟩, rfl, _, F2, A2, rfl, hS2, ⟨(nF 1 2 (by decide)).trans hs.1, (nA 2 (by decide)).trans hs.2.1, (by rw [nA 3 (by decide)]; exact hs.2.2)⟩, ezj_C_to hy (fun p j h0 h1 => nF p j (by omega)) nA (ezn_B_hr h6 (h2.2.2.2.2.2.2.2.1.1 6 (by decide) (by decide)).1 hc.1 hc.2) (t1 hc), ezl_Mf hM (fun q hq => ⟨funext (fun j => nF q j (by omega)), nA q (by omega)⟩)⟩
    · obtain ⟨q1, q2, q3⟩ := t0 hc
      exact ⟨u, y, hu, ⟨fun hn => absurd hn hc, fun _ => ⟨y0 hc, rfl⟩⟩, rfl, _, F2, A2, rfl, hS2, ⟨(nF 1 2 (by decide)).trans hs.1, (nA 2 (by decide)).trans hs.2.1, (by rw [nA 3 (by decide)]; exact hs.2.2)⟩, ezj_C_id hy q1 (fun p j h0 h1 => nF p j (by omega)) q2 (fun p hp => by
            by_cases h9 : p = 19
            · subst h9
              exact q3
            · exact nA p h9), ezl_Mf hM (fun q hq => ⟨funext (fun j => nF q j (by omega)), nA q (by omega)⟩)⟩
theorem ezj_x138 (hJ : ezl_J s a t b y z g) (hd : 2 ≤ d) : ezw_C l ρ B xa Hb D cA 138 d [ezw_p 0] g (fun v g' => ∃ (u : Int) (y1 : ezj_S), ezw_in u ∧ ezj_N12 y u y1 ∧ some (ezw_i u) = v ∧ ezl_J s a t b y1 z g') := by
  obtain ⟨e, F, A, rfl, hS, hs, hy, hM⟩ := hJ
  obtain ⟨b1, b2⟩ := e
  cases b1
  · obtain ⟨⟨h1, h2, h3, h4⟩, ⟨h5, h6⟩, ⟨h7, h8⟩, h9, ⟨h10, h11⟩, h12, h13, h14⟩ := id hy
    refine ezw_Cmono (ezt_m138_0n_f (F := F) (A := A) hS (by omega) h5 h6 h9 h10 h11) ?_
    rintro _ _ ⟨F2, rfl, hS2, nF, u, hu, y1, y0, rfl⟩
    by_cases hc : 0 < y.kU
    · obtain ⟨q0, q1, q2⟩ := y1 hc
      exact ⟨u, ezj_un y, ⟨by omega, by omega⟩, ⟨fun _ => ⟨q0, rfl⟩, fun hn => absurd hc hn⟩, rfl, _, F2, A, rfl, hS2, ⟨(nF 1 2 (by decide)).trans hs.1, hs.2.1, hs.2.2⟩, ezj_C_un hy hc q1 q2 (fun p j h0 h1 => nF p j (by omega)), ezl_Mf hM (fun q hq => ⟨funext (fun j => nF q j (by omega)), rfl⟩)⟩
    · obtain ⟨q0, q1, q2⟩ := y0 (by omega)
      exact ⟨u, y, ⟨by omega, by omega⟩, ⟨fun hn => absurd hn hc, fun _ => ⟨q0, rfl⟩⟩, rfl, _, F2, A, rfl, hS2, ⟨(nF 1 2 (by decide)).trans hs.1, hs.2.1, hs.2.2⟩, ezj_C_id hy q1 (fun p j h0 h1 => nF p j (by omega)) q2 (fun _ _ => rfl), ezl_Mf hM (fun q hq => ⟨funext (fun j => nF q j (by omega)), rfl⟩)⟩
  · obtain ⟨⟨h1, h2, h3, h4⟩, ⟨h5, h6⟩, ⟨h7, h8⟩, h9, ⟨h10, h11⟩, h12, h13, h14⟩ := id hy
    refine ezw_Cmono (ezt_m138_0n_t (F := F) (A := A) hS (by omega) h5 h6 h9 h10 h11) ?_
    rintro _ _ ⟨F2, rfl, hS2, nF, u, hu, y1, y0, rfl⟩
    by_cases hc : 0 < y.kU
    · obtain ⟨q0, q1, q2⟩ := y1 hc
      exact ⟨u, ezj_un y, ⟨by omega, by omega⟩, ⟨fun _ => ⟨q0, rfl⟩, fun hn => absurd hc hn⟩, rfl, _, F2, A, rfl, hS2, ⟨(nF 1 2 (by decide)).trans hs.1, hs.2.1, hs.2.2⟩, ezj_C_un hy hc q1 q2 (fun p j h0 h1 => nF p j (by omega)), ezl_Mf hM (fun q hq => ⟨funext (fun j => nF q j (by omega)), rfl⟩)⟩
    · obtain ⟨q0, q1, q2⟩ := y0 (by omega)
      exact ⟨u, y, ⟨by omega, by omega⟩, ⟨fun hn => absurd hn hc, fun _ => ⟨q0, rfl⟩⟩, rfl, _, F2, A, rfl, hS2, ⟨(nF 1 2 (by decide)).trans hs.1, hs.2.1, hs.2.2⟩, ezj_C_id hy q1 (fun p j h0 h1 => nF p j (by omega)) q2 (fun _ _ => rfl), ezl_Mf hM (fun q hq => ⟨funext (fun j => nF q j (by omega)), rfl⟩)⟩
theorem ezj_x145 (hJ : ezl_J s a t b y z g) (hd : 3 ≤ d) : ezw_C l ρ B xa Hb D cA 145 d [ezw_p 0] g (fun v g' => ∃ (u : Int) (y1 : ezj_S), ezw_in u ∧ ezj_N14 y u y1 ∧ some (ezw_i u) = v ∧ ezl_J s a t b y1 z g') := by
  obtain ⟨e, F, A, rfl, hS, hs, hy, hM⟩ := hJ
  obtain ⟨b1, b2⟩ := e
  cases b1
  · obtain ⟨⟨h1, h2, h3, h4⟩, ⟨h5, h6⟩, ⟨h7, h8⟩, h9, ⟨h10, h11⟩, h12, h13, h14⟩ := id hy
    refine ezw_Cmono (ezt_m145_0n_f (F := F) (A := A) hS (by omega) h1.1 h1.2 h2 h5 h6) ?_
    rintro _ _ ⟨rfl, u, hu, an, rfl⟩
    exact ⟨u, y, hu, ⟨an, rfl⟩, rfl, _, F, A, rfl, hS, hs, hy, hM⟩
  · obtain ⟨⟨h1, h2, h3, h4⟩, ⟨h5, h6⟩, ⟨h7, h8⟩, h9, ⟨h10, h11⟩, h12, h13, h14⟩ := id hy
    refine ezw_Cmono (ezt_m145_0n_t (F := F) (A := A) hS (by omega) h1.1 h1.2 h2 h5 h6) ?_
    rintro _ _ ⟨rfl, u, hu, an, rfl⟩
    exact ⟨u, y, hu, ⟨an, rfl⟩, rfl, _, F, A, rfl, hS, hs, hy, hM⟩
theorem ezj_x156 {a1 a2 : Int} (hJ : ezl_J s a t b y z g) (hd : 2 ≤ d) (ha1 : ezw_in a1) (ha2 : ezw_in a2) (gb : 0 ≤ a2 ∧ a2 ≤ 1) : ezw_C l ρ B xa Hb D cA 156 d [ezw_p 0, ezw_i a1, ezw_i a2] g (fun v g' => ∃ (u : Int) (y1 : ezj_S), ezw_in u ∧ ezj_N16 y a1 a2 u y1 ∧ some (ezw_i u) = v ∧ ezl_J s a t b y1 z g') := by
  obtain ⟨e, F, A, rfl, hS, hs, hy, hM⟩ := hJ
  obtain ⟨b1, b2⟩ := e
  cases b1
  · obtain ⟨⟨h1, h2, h3, h4⟩, ⟨h5, h6⟩, ⟨h7, h8⟩, h9, ⟨h10, h11⟩, h12, h13, h14⟩ := id hy
    refine ezw_Cmono (ezt_m156_0n_f (F := F) (A := A) hS (by omega) ha1 ha2 h7 h8 gb) ?_
    rintro _ _ ⟨A2, rfl, hS2, nA, u, hu, y1, y0, rfl⟩
    by_cases hc : 0 ≤ a1 ∧ a1 < 4 ∧ ezn_tm y.c < 12
    · obtain ⟨q0, q1⟩ := y1 hc
      exact ⟨u, ezj_tl y a1 a2, ⟨by omega, by omega⟩, ⟨fun _ => ⟨q0, rfl⟩, fun hn => absurd hc hn⟩, rfl, _, F, A2, rfl, hS2, ⟨hs.1, (nA 2 (by decide)).trans hs.2.1, (by rw [nA 3 (by decide)]; exact hs.2.2)⟩, ezj_C_tl (c := ezn_ad y.c a1 a2) hy q1 (ezn_TB_ad h8 hc.2.2 hc.1 hc.2.1 gb.1 gb.2) nA, ezl_Mf hM (fun q hq => ⟨rfl, nA q (by omega)⟩)⟩
    · obtain ⟨q0, q1⟩ := y0 hc
      exact ⟨u, y, ⟨by omega, by omega⟩, ⟨fun hn => absurd hn hc, fun _ => ⟨q0, rfl⟩⟩, rfl, _, F, A2, rfl, hS2, ⟨hs.1, (nA 2 (by decide)).trans hs.2.1, (by rw [nA 3 (by decide)]; exact hs.2.2)⟩, ezj_C_tl (c := y.c) hy q1 h8 nA, ezl_Mf hM (fun q hq => ⟨rfl, nA q (by omega)⟩)⟩
  · obtain ⟨⟨h1, h2, h3, h4⟩, ⟨h5, h6⟩, ⟨h7, h8⟩, h9, ⟨h10, h11⟩, h12, h13, h14⟩ := id hy
    refine ezw_Cmono (ezt_m156_0n_t (F := F) (A := A) hS (by omega) ha1 ha2 h7 h8 gb) ?_
    rintro _ _ ⟨A2, rfl, hS2, nA, u, hu, y1, y0, rfl⟩
    by_cases hc : 0 ≤ a1 ∧ a1 < 4 ∧ ezn_tm y.c < 12
    · obtain ⟨q0, q1⟩ := y1 hc
      exact ⟨u, ezj_tl y a1 a2, ⟨by omega, by omega⟩, ⟨fun _ => ⟨q0, rfl⟩, fun hn => absurd hc hn⟩, rfl, _, F, A2, rfl, hS2, ⟨hs.1, (nA 2 (by decide)).trans hs.2.1, (by rw [nA 3 (by decide)]; exact hs.2.2)⟩, ezj_C_tl (c := ezn_ad y.c a1 a2) hy q1 (ezn_TB_ad h8 hc.2.2 hc.1 hc.2.1 gb.1 gb.2) nA, ezl_Mf hM (fun q hq => ⟨rfl, nA q (by omega)⟩)⟩
    · obtain ⟨q0, q1⟩ := y0 hc
      exact ⟨u, y, ⟨by omega, by omega⟩, ⟨fun hn => absurd hn hc, fun _ => ⟨q0, rfl⟩⟩, rfl, _, F, A2, rfl, hS2, ⟨hs.1, (nA 2 (by decide)).trans hs.2.1, (by rw [nA 3 (by decide)]; exact hs.2.2)⟩, ezj_C_tl (c := y.c) hy q1 h8 nA, ezl_Mf hM (fun q hq => ⟨rfl, nA q (by omega)⟩)⟩
theorem ezj_x159 (hJ : ezl_J s a t b y z g) (hd : 3 ≤ d) : ezw_C l ρ B xa Hb D cA 159 d [ezw_p 0] g (fun v g' => ∃ (u : Int) (y1 : ezj_S), ezw_in u ∧ ezj_N17 y u y1 ∧ some (ezw_i u) = v ∧ ezl_J s a t b y1 z g') := by
  obtain ⟨e, F, A, rfl, hS, hs, hy, hM⟩ := hJ
  obtain ⟨b1, b2⟩ := e
  cases b1
  · obtain ⟨⟨h1, h2, h3, h4⟩, ⟨h5, h6⟩, ⟨h7, h8⟩, h9, ⟨h10, h11⟩, h12, h13, h14⟩ := id hy
    refine ezw_Cmono (ezt_m159_0n_f (F := F) (A := A) hS (by omega) h1.1 h1.2 h2 (ezj_CQ (q := 30) h3) (ezn_qc_r y.L y.y) h7 h8) ?_
    rintro _ _ ⟨rfl, u, hu, an, rfl⟩
    exact ⟨u, y, hu, ⟨an, rfl⟩, rfl, _, F, A, rfl, hS, hs, hy, hM⟩
  · obtain ⟨⟨h1, h2, h3, h4⟩, ⟨h5, h6⟩, ⟨h7, h8⟩, h9, ⟨h10, h11⟩, h12, h13, h14⟩ := id hy
    refine ezw_Cmono (ezt_m159_0n_t (F := F) (A := A) hS (by omega) h1.1 h1.2 h2 (ezj_CQ (q := 47) h3) (ezn_qc_r y.L y.y) h7 h8) ?_
    rintro _ _ ⟨rfl, u, hu, an, rfl⟩
    exact ⟨u, y, hu, ⟨an, rfl⟩, rfl, _, F, A, rfl, hS, hs, hy, hM⟩
theorem ezj_x162 {a1 : Int} (hJ : ezl_J s a t b y z g) (hd : 4 ≤ d) (ha1 : ezw_in a1) : ezw_C l ρ B xa Hb D cA 162 d [ezw_p 0, ezw_i a1] g (fun v g' => ∃ (u : Int) (y1 : ezj_S), ezw_in u ∧ ezj_N18 y a1 u y1 ∧ some (ezw_i u) = v ∧ ezl_J s a t b y1 z g') := by
  obtain ⟨e, F, A, rfl, hS, hs, hy, hM⟩ := hJ
  obtain ⟨b1, b2⟩ := e
  cases b1
  · obtain ⟨⟨h1, h2, h3, h4⟩, ⟨h5, h6⟩, ⟨h7, h8⟩, h9, ⟨h10, h11⟩, h12, h13, h14⟩ := id hy
    refine ezw_Cmono (ezt_m162_0n_f (F := F) (A := A) hS (by omega) ha1 h1.1 h1.2 h2 (ezj_CQ (q := 30) h3) (ezn_qc_r y.L y.y) h7 h8) ?_
    rintro _ _ ⟨rfl, u, hu, an, rfl⟩
    exact ⟨u, y, hu, ⟨an, rfl⟩, rfl, _, F, A, rfl, hS, hs, hy, hM⟩
  · obtain ⟨⟨h1, h2, h3, h4⟩, ⟨h5, h6⟩, ⟨h7, h8⟩, h9, ⟨h10, h11⟩, h12, h13, h14⟩ := id hy
    refine ezw_Cmono (ezt_m162_0n_t (F := F) (A := A) hS (by omega) ha1 h1.1 h1.2 h2 (ezj_CQ (q := 47) h3) (ezn_qc_r y.L y.y) h7 h8) ?_
    rintro _ _ ⟨rfl, u, hu, an, rfl⟩
    exact ⟨u, y, hu, ⟨an, rfl⟩, rfl, _, F, A, rfl, hS, hs, hy, hM⟩
theorem ezj_x165 (hJ : ezl_J s a t b y z g) (hd : 5 ≤ d) : ezw_C l ρ B xa Hb D cA 165 d [ezw_p 0] g (fun v g' => ∃ (u : Int) (y1 : ezj_S), ezw_in u ∧ ezj_N19 y u y1 ∧ some (ezw_i u) = v ∧ ezl_J s a t b y1 z g') := by
  obtain ⟨e, F, A, rfl, hS, hs, hy, hM⟩ := hJ
  obtain ⟨b1, b2⟩ := e
  cases b1
  · obtain ⟨⟨h1, h2, h3, h4⟩, ⟨h5, h6⟩, ⟨h7, h8⟩, h9, ⟨h10, h11⟩, h12, h13, h14⟩ := id hy
    refine ezw_Cmono (ezt_m165_0n_f (F := F) (A := A) hS (by omega) h1.1 h1.2 h2 (ezj_CQ (q := 30) h3) (ezn_qc_r y.L y.y) h7 h8) ?_
    rintro _ _ ⟨rfl, u, hu, an, rfl⟩
    exact ⟨u, y, hu, ⟨(an.trans (by
          split
          · rename_i h
            exact (ezj_te0 (ezn_qc_r y.L y.y) h8 h).symm
          · rfl)), rfl⟩, rfl, _, F, A, rfl, hS, hs, hy, hM⟩
  · obtain ⟨⟨h1, h2, h3, h4⟩, ⟨h5, h6⟩, ⟨h7, h8⟩, h9, ⟨h10, h11⟩, h12, h13, h14⟩ := id hy
    refine ezw_Cmono (ezt_m165_0n_t (F := F) (A := A) hS (by omega) h1.1 h1.2 h2 (ezj_CQ (q := 47) h3) (ezn_qc_r y.L y.y) h7 h8) ?_
    rintro _ _ ⟨rfl, u, hu, an, rfl⟩
    exact ⟨u, y, hu, ⟨(an.trans (by
          split
          · rename_i h
            exact (ezj_te0 (ezn_qc_r y.L y.y) h8 h).symm
          · rfl)), rfl⟩, rfl, _, F, A, rfl, hS, hs, hy, hM⟩
theorem ezj_x176 (hJ : ezl_J s a t b y z g) (hd : 4 ≤ d) : ezw_C l ρ B xa Hb D cA 176 d [ezw_p 0] g (fun v g' => ∃ (u : Int) (y1 : ezj_S), ezw_in u ∧ ezj_N22 y u y1 ∧ some (ezw_i u) = v ∧ ezl_J s a t b y1 z g') := by
  obtain ⟨e, F, A, rfl, hS, hs, hy, hM⟩ := hJ
  obtain ⟨b1, b2⟩ := e
  cases b1
  · obtain ⟨⟨h1, h2, h3, h4⟩, ⟨h5, h6⟩, ⟨h7, h8⟩, h9, ⟨h10, h11⟩, h12, h13, h14⟩ := id hy
    refine ezw_Cmono (ezt_m176_0n_f (F := F) (A := A) hS (by omega) h1.1 h1.2 h2 h5 h6) ?_
    rintro _ _ ⟨rfl, u, hu, an, rfl⟩
    exact ⟨u, y, hu, ⟨an, rfl⟩, rfl, _, F, A, rfl, hS, hs, hy, hM⟩
  · obtain ⟨⟨h1, h2, h3, h4⟩, ⟨h5, h6⟩, ⟨h7, h8⟩, h9, ⟨h10, h11⟩, h12, h13, h14⟩ := id hy
    refine ezw_Cmono (ezt_m176_0n_t (F := F) (A := A) hS (by omega) h1.1 h1.2 h2 h5 h6) ?_
    rintro _ _ ⟨rfl, u, hu, an, rfl⟩
    exact ⟨u, y, hu, ⟨an, rfl⟩, rfl, _, F, A, rfl, hS, hs, hy, hM⟩
theorem ezj_x105 {a1 a2 : Int} (hJ : ezl_J s a t b y z g) (hd : 3 ≤ d) (ha1 : ezw_in a1) (ha2 : ezw_in a2) : ezw_C l ρ B xa Hb D cA 105 d [ezw_p 0, ezw_i a1, ezw_i a2] g (fun v g' => ∃ (u : Int) (y1 : ezj_S), ezw_in u ∧ ezj_N3 y a1 a2 u y1 ∧ some (ezw_i u) = v ∧ ezl_J s a t b y1 z g') := by
  obtain ⟨e, F, A, rfl, hS, hs, hy, hM⟩ := hJ
  obtain ⟨b1, b2⟩ := e
  cases b1
  · obtain ⟨⟨h1, h2, h3, h4⟩, ⟨h5, h6⟩, ⟨h7, h8⟩, h9, ⟨h10, h11⟩, h12, h13, h14⟩ := id hy
    refine ezw_Cmono (ezt_m105_0n_f (F := F) (A := A) hS (by omega) ha1 ha2 h1.1 h1.2 h2 h5 h6) ?_
    rintro _ _ ⟨rfl, u, hu, an, rfl⟩
    exact ⟨u, y, hu, ⟨an, rfl⟩, rfl, _, F, A, rfl, hS, hs, hy, hM⟩
  · obtain ⟨⟨h1, h2, h3, h4⟩, ⟨h5, h6⟩, ⟨h7, h8⟩, h9, ⟨h10, h11⟩, h12, h13, h14⟩ := id hy
    refine ezw_Cmono (ezt_m105_0n_t (F := F) (A := A) hS (by omega) ha1 ha2 h1.1 h1.2 h2 h5 h6) ?_
    rintro _ _ ⟨rfl, u, hu, an, rfl⟩
    exact ⟨u, y, hu, ⟨an, rfl⟩, rfl, _, F, A, rfl, hS, hs, hy, hM⟩
theorem ezj_x110 {a1 a2 : Int} (hJ : ezl_J s a t b y z g) (hd : 1 ≤ d) (ha1 : ezw_in a1) (ha2 : ezw_in a2) : ezw_C l ρ B xa Hb D cA 110 d [ezw_p 0, ezw_i a1, ezw_i a2] g (fun v g' => ∃ (u : Int) (y1 : ezj_S), ezw_in u ∧ ezj_N4 y a1 a2 u y1 ∧ some (ezw_i u) = v ∧ ezl_J s a t b y1 z g') := by
  obtain ⟨e, F, A, rfl, hS, hs, hy, hM⟩ := hJ
  obtain ⟨b1, b2⟩ := e
  cases b1
  · obtain ⟨⟨h1, h2, h3, h4⟩, ⟨h5, h6⟩, ⟨h7, h8⟩, h9, ⟨h10, h11⟩, h12, h13, h14⟩ := id hy
    refine ezw_Cmono (ezt_m110_0n_f (F := F) (A := A) hS (by omega) ha1 ha2 h1.1 h1.2 h2 h5 h6) ?_
    rintro _ _ ⟨rfl, u, hu, an, rfl⟩
    exact ⟨u, y, hu, ⟨an, rfl⟩, rfl, _, F, A, rfl, hS, hs, hy, hM⟩
  · obtain ⟨⟨h1, h2, h3, h4⟩, ⟨h5, h6⟩, ⟨h7, h8⟩, h9, ⟨h10, h11⟩, h12, h13, h14⟩ := id hy
    refine ezw_Cmono (ezt_m110_0n_t (F := F) (A := A) hS (by omega) ha1 ha2 h1.1 h1.2 h2 h5 h6) ?_
    rintro _ _ ⟨rfl, u, hu, an, rfl⟩
    exact ⟨u, y, hu, ⟨an, rfl⟩, rfl, _, F, A, rfl, hS, hs, hy, hM⟩
theorem ezj_x111 {a1 a2 a3 : Int} (hJ : ezl_J s a t b y z g) (hd : 3 ≤ d) (ha1 : ezw_in a1) (ha2 : ezw_in a2) (ha3 : ezw_in a3) (gb : 0 ≤ a2 ∧ a2 ≤ 1) : ezw_C l ρ B xa Hb D cA 111 d [ezw_p 0, ezw_i a1, ezw_i a2, ezw_i a3] g (fun v g' => ∃ (u : Int) (y1 : ezj_S), ezw_in u ∧ ezj_N5 y a1 a2 a3 u y1 ∧ some (ezw_i u) = v ∧ ezl_J s a t b y1 z g') := by
  obtain ⟨e, F, A, rfl, hS, hs, hy, hM⟩ := hJ
  obtain ⟨b1, b2⟩ := e
  cases b1
  · obtain ⟨⟨h1, h2, h3, h4⟩, ⟨h5, h6⟩, ⟨h7, h8⟩, h9, ⟨h10, h11⟩, h12, h13, h14⟩ := id hy
    refine ezw_Cmono (ezt_m111_0n_f (F := F) (A := A) hS (by omega) ha1 ha2 ha3 h1.1 h1.2 h2 h5 h6 (ezj_CQ (q := 30) h3) (ezn_qc_r y.L y.y) gb) ?_
    rintro _ _ ⟨rfl, u, hu, an, rfl⟩
    exact ⟨u, y, hu, ⟨an, rfl⟩, rfl, _, F, A, rfl, hS, hs, hy, hM⟩
  · obtain ⟨⟨h1, h2, h3, h4⟩, ⟨h5, h6⟩, ⟨h7, h8⟩, h9, ⟨h10, h11⟩, h12, h13, h14⟩ := id hy
    refine ezw_Cmono (ezt_m111_0n_t (F := F) (A := A) hS (by omega) ha1 ha2 ha3 h1.1 h1.2 h2 h5 h6 (ezj_CQ (q := 47) h3) (ezn_qc_r y.L y.y) gb) ?_
    rintro _ _ ⟨rfl, u, hu, an, rfl⟩
    exact ⟨u, y, hu, ⟨an, rfl⟩, rfl, _, F, A, rfl, hS, hs, hy, hM⟩
theorem ezj_x201 {a1 a2 : Int} (hJ : ezl_J s a t b y z g) (hd : 2 ≤ d) (ha1 : ezw_in a1) (ha2 : ezw_in a2) (gb : 0 ≤ a2 ∧ a2 ≤ 1) : ezw_C l ρ B xa Hb D cA 201 d [ezw_p 0, ezw_i a1, ezw_i a2] g (fun v g' => ∃ (u : Int) (y1 : ezj_S), ezw_in u ∧ ezj_N30 y a1 a2 u y1 ∧ some (ezw_i u) = v ∧ ezl_J s a t b y1 z g') := by
  obtain ⟨e, F, A, rfl, hS, hs, hy, hM⟩ := hJ
  obtain ⟨b1, b2⟩ := e
  cases b1
  · obtain ⟨⟨h1, h2, h3, h4⟩, ⟨h5, h6⟩, ⟨h7, h8⟩, h9, ⟨h10, h11⟩, h12, h13, h14⟩ := id hy
    refine ezw_Cmono (ezt_m201_0n_f (F := F) (A := A) hS (by omega) ha1 ha2 h5 h6 h7 h8 h9 h12 h13 h14 gb) ?_
    rintro _ _ ⟨F2, A2, rfl, hS2, nF, nA, u, hu, y1, y0, ly, bk, rfl⟩
    by_cases hc : 0 ≤ a1 ∧ a1 < 4 ∧ a2 = 0
    · exact ⟨u, ezj_ly y a1, ⟨by omega, by omega⟩, ⟨fun _ => ⟨y1 ⟨hc.1, hc.2.1, Or.inl hc.2.2⟩, rfl⟩, fun hn => absurd hc hn⟩, rfl, _, F2, A2, rfl, hS2, ⟨(nF 1 2 (by decide)).trans hs.1, (nA 2 (by decide)).trans hs.2.1, (by rw [nA 3 (by decide)]; exact hs.2.2)⟩, ezj_C_ly hy (ly hc) (fun p j h0 h1 => nF p j (by omega)) (fun p h0 => nA p (by omega)), ezl_Mf hM (fun q hq => ⟨funext (fun j => nF q j (by omega)), nA q (by omega)⟩)⟩
    · by_cases hd : 0 ≤ a1 ∧ a1 < 4 ∧ a2 = 1 ∧ y.ml a1 = 1
      · exact ⟨u, ezj_bk y a1, ⟨by omega, by omega⟩, ⟨fun hn => absurd hn hc, fun _ => ⟨fun _ => ⟨y1 ⟨hd.1, hd.2.1, Or.inr hd.2.2.2⟩, rfl⟩, fun hn => absurd hd hn⟩⟩, rfl, _, F2, A2, rfl, hS2, ⟨(nF 1 2 (by decide)).trans hs.1, (nA 2 (by decide)).trans hs.2.1, (by rw [nA 3 (by decide)]; exact hs.2.2)⟩, ezj_C_bk hy hd (bk hd) (fun p j h0 h1 => nF p j (by omega)) (fun p h0 => nA p (by omega)), ezl_Mf hM (fun q hq => ⟨funext (fun j => nF q j (by omega)), nA q (by omega)⟩)⟩
      · obtain ⟨q0, rfl, rfl⟩ := y0 (fun h => by
            obtain ⟨p1, p2, p3⟩ := h
            rcases p3 with p3 | p3
            · exact hc ⟨p1, p2, p3⟩
            · exact hd ⟨p1, p2, by
                by_cases p4 : a2 = 0
                · exact absurd ⟨p1, p2, p4⟩ hc
                · omega, p3⟩)
        exact ⟨u, y, ⟨by omega, by omega⟩, ⟨fun hn => absurd hn hc, fun _ => ⟨fun hn => absurd hn hd, fun _ => ⟨q0, rfl⟩⟩⟩, rfl, _, _, _, rfl, hS, hs, hy, hM⟩
  · obtain ⟨⟨h1, h2, h3, h4⟩, ⟨h5, h6⟩, ⟨h7, h8⟩, h9, ⟨h10, h11⟩, h12, h13, h14⟩ := id hy
    refine ezw_Cmono (ezt_m201_0n_t (F := F) (A := A) hS (by omega) ha1 ha2 h5 h6 h7 h8 h9 h12 h13 h14 gb) ?_
    rintro _ _ ⟨F2, A2, rfl, hS2, nF, nA, u, hu, y1, y0, ly, bk, rfl⟩
    by_cases hc : 0 ≤ a1 ∧ a1 < 4 ∧ a2 = 0
    · exact ⟨u, ezj_ly y a1, ⟨by omega, by omega⟩, ⟨fun _ => ⟨y1 ⟨hc.1, hc.2.1, Or.inl hc.2.2⟩, rfl⟩, fun hn => absurd hc hn⟩, rfl, _, F2, A2, rfl, hS2, ⟨(nF 1 2 (by decide)).trans hs.1, (nA 2 (by decide)).trans hs.2.1, (by rw [nA 3 (by decide)]; exact hs.2.2)⟩, ezj_C_ly hy (ly hc) (fun p j h0 h1 => nF p j (by omega)) (fun p h0 => nA p (by omega)), ezl_Mf hM (fun q hq => ⟨funext (fun j => nF q j (by omega)), nA q (by omega)⟩)⟩
    · by_cases hd : 0 ≤ a1 ∧ a1 < 4 ∧ a2 = 1 ∧ y.ml a1 = 1
      · exact ⟨u, ezj_bk y a1, ⟨by omega, by omega⟩, ⟨fun hn => absurd hn hc, fun _ => ⟨fun _ => ⟨y1 ⟨hd.1, hd.2.1, Or.inr hd.2.2.2⟩, rfl⟩, fun hn => absurd hd hn⟩⟩, rfl, _, F2, A2, rfl, hS2, ⟨(nF 1 2 (by decide)).trans hs.1, (nA 2 (by decide)).trans hs.2.1, (by rw [nA 3 (by decide)]; exact hs.2.2)⟩, ezj_C_bk hy hd (bk hd) (fun p j h0 h1 => nF p j (by omega)) (fun p h0 => nA p (by omega)), ezl_Mf hM (fun q hq => ⟨funext (fun j => nF q j (by omega)), nA q (by omega)⟩)⟩
      · obtain ⟨q0, rfl, rfl⟩ := y0 (fun h => by
            obtain ⟨p1, p2, p3⟩ := h
            rcases p3 with p3 | p3
            · exact hc ⟨p1, p2, p3⟩
            · exact hd ⟨p1, p2, by
                by_cases p4 : a2 = 0
                · exact absurd ⟨p1, p2, p4⟩ hc
                · omega, p3⟩)
        exact ⟨u, y, ⟨by omega, by omega⟩, ⟨fun hn => absurd hn hc, fun _ => ⟨fun hn => absurd hn hd, fun _ => ⟨q0, rfl⟩⟩⟩, rfl, _, _, _, rfl, hS, hs, hy, hM⟩
theorem ezj_x22 (hJ : ezl_J s a t b y z g) (hd : 44 ≤ d) (tp : ezp_tp (ezp_ch a s) s) : ezw_C l ρ B xa Hb D cA 22 d [ezw_p 0] g (fun v g' => (ezw_in (ezp_tree (ezp_ch a s)) ∧ some (ezw_i (ezp_tree (ezp_ch a s))) = v) ∧ ∃ a', ezl_J 0 a' t b (ezj_ty (ezp_ch a s) y) z g') := by
  have key : ∀ (e : Bool × Bool) (F : Nat → Nat → Int) (A : Nat → Int → Int), A 2 = a → (∀ j, 0 ≤ j → j < 48 → A 3 j = ezl_cw.getD j.toNat 0) → ezj_C e y F A → ezl_M t b z F A → ∀ (v : Option ezq_V) (g' : Nat → ezq_C), ezt_Pz F A (fun v => ezw_in (ezp_tree (ezp_ch a s)) ∧ some (ezw_i (ezp_tree (ezp_ch a s))) = v) (ezj_X22 (ezp_ch a s) e F A) v g' → (ezw_in (ezp_tree (ezp_ch a s)) ∧ some (ezw_i (ezp_tree (ezp_ch a s))) = v) ∧ ∃ a', ezl_J 0 a' t b (ezj_ty (ezp_ch a s) y) z g' := by
    intro e F A ha hw hy hM v g' h
    obtain ⟨hR, e2, F2, A2, rfl, hS2, h0, h3, h7, hx⟩ := h
    refine ⟨hR, A2 2, e2, F2, A2, rfl, hS2, ⟨h0, rfl, by rw [h3]; exact hw⟩, ?_, ezl_Mf hM h7⟩
    by_cases hu : ezp_tree (ezp_ch a s) = 0
    · obtain ⟨q1, q2, q3, q4, q5, q6, q7, q8, q9, -⟩ := hx.2 hu
      rw [ezj_ty0 hu]
      have z16 : (0 : Int) ≤ 0 ∧ (0 : Int) ≤ 16 := by decide
      refine ⟨⟨q2, q3, q4, q5⟩, ⟨q6, ezn_B_bg q3⟩, ⟨q7, ⟨fun _ _ _ => Int.le_refl 0, show (0 : Int) ≤ 12 by decide⟩⟩, ⟨q9, z16⟩, ⟨fun k k0 k1 => absurd (show k < 0 from k1) (by omega), fun k k0 k1 => absurd (show k < 0 from k1) (by omega)⟩, by rw [q8]; decide, fun m m0 m1 => by rw [q8]; exact ezt_b0 _, fun m m0 m1 hm => absurd (show (0 : Int) = 1 from hm) (by decide)⟩
    · obtain ⟨rfl, hf⟩ := hx.1 hu
      rw [ezj_ty1 hu]
      exact ezj_C_fr hy (fun q hq => hf q (by omega))
  obtain ⟨e, F, A, rfl, hS, hs, hy, hM⟩ := hJ
  obtain ⟨hs1, rfl, hw⟩ := hs
  obtain ⟨b1, b2⟩ := e
  cases b1
  · cases b2
    · exact ezw_Cmono (ezt_treeD_ff (F := F) (A := A) hS hd hs1 rfl tp hw) (key _ F A rfl hw hy hM)
    · exact ezw_Cmono (ezt_treeD_ft (F := F) (A := A) hS hd hs1 rfl tp hw) (key _ F A rfl hw hy hM)
  · cases b2
    · exact ezw_Cmono (ezt_treeD_tf (F := F) (A := A) hS hd hs1 rfl tp hw) (key _ F A rfl hw hy hM)
    · exact ezw_Cmono (ezt_treeD_tt (F := F) (A := A) hS hd hs1 rfl tp hw) (key _ F A rfl hw hy hM)
theorem ezj_x99 (hJ : ezl_J s a t b y z g) (hd : 10 ≤ d) : ezw_C l ρ B xa Hb D cA 99 d [ezw_p 0] g (fun v g' => (∃ u, some (ezw_i u) = v) ∧ ∃ a', ezl_J 0 a' t b y z g') := by
  have key : ∀ (e : Bool × Bool) (F : Nat → Nat → Int) (A : Nat → Int → Int), (∀ j, 0 ≤ j → j < 48 → A 3 j = ezl_cw.getD j.toNat 0) → ezj_C e y F A → ezl_M t b z F A → ∀ (v : Option ezq_V) (g' : Nat → ezq_C), ezt_Pz F A (fun v => ∃ u, some (ezw_i u) = v) (fun e' F' A' => e'.1 = e.1 ∧ ∀ q, 13 ≤ q → q < 64 → F' q = F q ∧ A' q = A q) v g' → (∃ u, some (ezw_i u) = v) ∧ ∃ a', ezl_J 0 a' t b y z g' := by
    intro e F A hw hy hM v g' h
    obtain ⟨hR, e2, F2, A2, rfl, hS2, h0, h3, h7, he, hf⟩ := h
    exact ⟨hR, A2 2, e2, F2, A2, rfl, hS2, ⟨h0, rfl, by rw [h3]; exact hw⟩, ezj_C_e (ezj_C_f2 hy hf) he, ezl_Mf hM h7⟩
  obtain ⟨e, F, A, rfl, hS, hs, hy, hM⟩ := hJ
  obtain ⟨hs1, rfl, hw⟩ := hs
  obtain ⟨b1, b2⟩ := e
  cases b1
  · cases b2
    · exact ezw_Cmono (ezt_aftD_ff (F := F) (A := A) hS hd) (key _ F A hw hy hM)
    · exact ezw_Cmono (ezt_aftD_ft (F := F) (A := A) hS hd) (key _ F A hw hy hM)
  · cases b2
    · exact ezw_Cmono (ezt_aftD_tf (F := F) (A := A) hS hd) (key _ F A hw hy hM)
    · exact ezw_Cmono (ezt_aftD_tt (F := F) (A := A) hS hd) (key _ F A hw hy hM)
theorem ezj_x19 {w1 w2 w3 : Int} (hJ : ezl_J s a t b y z g) (hd : 2 ≤ d) (g1 : ezw_il w1) (g2 : ezw_il w2) (g3 : ezw_il w3) : ezw_C l ρ B xa Hb D cA 19 d [ezw_p 0, ezw_l w1, ezw_l w2, ezw_l w3] g (fun v g' => (∃ u, some (ezw_i u) = v) ∧ ezl_J (ezf3 w1 w2 w3 s a).1 (ezf3 w1 w2 w3 s a).2 t b y z g') := by
  obtain ⟨e, F, A, rfl, hS, hs, hy, hM⟩ := hJ
  obtain ⟨hs1, rfl, hw⟩ := hs
  refine ezw_Cmono (ezt_feed g1 g2 g3 hS hd) ?_
  rintro v g' ⟨h1, F2, A2, rfl, h2, h3, h4, h5, h72, hq⟩
  rw [hs1] at h3 h4
  exact ⟨⟨_, h1⟩, e, F2, A2, rfl, h2, ⟨h3, h4, by rw [h5]; exact hw⟩, ezj_C_f2 hy (fun q q0 q1 => hq q (by omega)), ezl_Mf hM h72⟩
theorem ezj_x141 {a1 : Int} (hJ : ezl_J s a t b y z g) (hd : 6 ≤ d) (ha1 : ezw_in a1) : ezw_C l ρ B xa Hb D cA 141 d [ezw_p 0, ezw_i a1] g (fun v g' => (∃ u, some (ezw_i u) = v) ∧ ezl_J s a t b y z g') := by
  obtain ⟨e, F, A, rfl, hS, hs, hy, hM⟩ := hJ
  obtain ⟨b1, b2⟩ := e
  cases b1
  · cases b2
    · exact ezw_Cmono (ezs_m141_0_ff (fz := ezl_fz) (F0 := F) (A0 := A) ⟨hS, fun _ _ => ⟨rfl, rfl⟩⟩ hd (fun q h0 h1 => ezl_fz0 q (by omega)) ha1) (fun v g' h => ezl_b hs hy hM ezl_ri h)
    · exact ezw_Cmono (ezs_m141_0_ft (fz := ezl_fz) (F0 := F) (A0 := A) ⟨hS, fun _ _ => ⟨rfl, rfl⟩⟩ hd (fun q h0 h1 => ezl_fz0 q (by omega)) ha1) (fun v g' h => ezl_b hs hy hM ezl_ri h)
  · cases b2
    · exact ezw_Cmono (ezs_m141_0_tf (fz := ezl_fz) (F0 := F) (A0 := A) ⟨hS, fun _ _ => ⟨rfl, rfl⟩⟩ hd (fun q h0 h1 => ezl_fz0 q (by omega)) ha1) (fun v g' h => ezl_b hs hy hM ezl_ri h)
    · exact ezw_Cmono (ezs_m141_0_tt (fz := ezl_fz) (F0 := F) (A0 := A) ⟨hS, fun _ _ => ⟨rfl, rfl⟩⟩ hd (fun q h0 h1 => ezl_fz0 q (by omega)) ha1) (fun v g' h => ezl_b hs hy hM ezl_ri h)
theorem ezj_x146 {a1 a2 : Int} (hJ : ezl_J s a t b y z g) (hd : 22 ≤ d) (ha1 : ezw_in a1) (ha2 : ezw_in a2) : ezw_C l ρ B xa Hb D cA 146 d [ezw_p 0, ezw_i a1, ezw_i a2] g (fun v g' => (∃ u, some (ezw_i u) = v) ∧ ezl_J s a t b y z g') := by
  obtain ⟨e, F, A, rfl, hS, hs, hy, hM⟩ := hJ
  obtain ⟨b1, b2⟩ := e
  cases b1
  · exact ezw_Cmono (ezs_m146_0_f (fz := ezl_fz) (F0 := F) (A0 := A) ⟨hS, fun _ _ => ⟨rfl, rfl⟩⟩ hd (fun q h0 h1 => ezl_fz0 q (by omega)) ha1 ha2) (fun v g' h => ezl_b hs hy hM ezl_ri h)
  · exact ezw_Cmono (ezs_m146_0_t (fz := ezl_fz) (F0 := F) (A0 := A) ⟨hS, fun _ _ => ⟨rfl, rfl⟩⟩ hd (fun q h0 h1 => ezl_fz0 q (by omega)) ha1 ha2) (fun v g' h => ezl_b hs hy hM ezl_ri h)
theorem ezj_x169 {a1 a2 a3 : Int} (hJ : ezl_J s a t b y z g) (hd : 3 ≤ d) (ha1 : ezw_in a1) (ha2 : ezw_in a2) (ha3 : ezw_in a3) : ezw_C l ρ B xa Hb D cA 169 d [ezw_p 0, ezw_i a1, ezw_i a2, ezw_i a3] g (fun v g' => (∃ u, some (ezw_i u) = v) ∧ ezl_J s a t b y z g') := by
  obtain ⟨e, F, A, rfl, hS, hs, hy, hM⟩ := hJ
  obtain ⟨b1, b2⟩ := e
  cases b1
  · exact ezw_Cmono (ezs_m169_0_f (fz := ezl_fz) (F0 := F) (A0 := A) ⟨hS, fun _ _ => ⟨rfl, rfl⟩⟩ hd ha1 ha2 ha3) (fun v g' h => ezl_bp hS hs hy hM ezl_ri h)
  · exact ezw_Cmono (ezs_m169_0_t (fz := ezl_fz) (F0 := F) (A0 := A) ⟨hS, fun _ _ => ⟨rfl, rfl⟩⟩ hd ha1 ha2 ha3) (fun v g' h => ezl_bp hS hs hy hM ezl_ri h)
theorem ezj_x172 {a1 a2 : Int} (hJ : ezl_J s a t b y z g) (hd : 5 ≤ d) (ha1 : ezw_in a1) (ha2 : ezw_in a2) : ezw_C l ρ B xa Hb D cA 172 d [ezw_p 0, ezw_i a1, ezw_i a2] g (fun v g' => (∃ u, some (ezw_i u) = v) ∧ ezl_J s a t b y z g') := by
  obtain ⟨e, F, A, rfl, hS, hs, hy, hM⟩ := hJ
  obtain ⟨b1, b2⟩ := e
  cases b1
  · exact ezw_Cmono (ezs_m172_0_f (fz := ezl_fz) (F0 := F) (A0 := A) ⟨hS, fun _ _ => ⟨rfl, rfl⟩⟩ hd (fun q h0 h1 => ezl_fz0 q (by omega)) ha1 ha2) (fun v g' h => ezl_b hs hy hM ezl_ri h)
  · exact ezw_Cmono (ezs_m172_0_t (fz := ezl_fz) (F0 := F) (A0 := A) ⟨hS, fun _ _ => ⟨rfl, rfl⟩⟩ hd (fun q h0 h1 => ezl_fz0 q (by omega)) ha1 ha2) (fun v g' h => ezl_b hs hy hM ezl_ri h)
theorem ezj_x189 {a1 a2 : Int} (hJ : ezl_J s a t b y z g) (hd : 4 ≤ d) (ha1 : ezw_in a1) (ha2 : ezw_in a2) : ezw_C l ρ B xa Hb D cA 189 d [ezw_p 0, ezw_i a1, ezw_i a2] g (fun v g' => (∃ u, some (ezw_i u) = v) ∧ ezl_J s a t b y z g') := by
  obtain ⟨e, F, A, rfl, hS, hs, hy, hM⟩ := hJ
  obtain ⟨b1, b2⟩ := e
  cases b1
  · exact ezw_Cmono (ezs_m189_0_f (fz := ezl_fz) (F0 := F) (A0 := A) ⟨hS, fun _ _ => ⟨rfl, rfl⟩⟩ hd (fun q h0 h1 => ezl_fz0 q (by omega)) ha1 ha2) (fun v g' h => ezl_b hs hy hM ezl_ri h)
  · exact ezw_Cmono (ezs_m189_0_t (fz := ezl_fz) (F0 := F) (A0 := A) ⟨hS, fun _ _ => ⟨rfl, rfl⟩⟩ hd (fun q h0 h1 => ezl_fz0 q (by omega)) ha1 ha2) (fun v g' h => ezl_b hs hy hM ezl_ri h)
theorem ezj_x195 {a1 a2 a3 a4 : Int} (hJ : ezl_J s a t b y z g) (hd : 23 ≤ d) (ha1 : ezw_in a1) (ha2 : ezw_in a2) (ha3 : ezw_in a3) (ha4 : ezw_in a4) : ezw_C l ρ B xa Hb D cA 195 d [ezw_p 0, ezw_i a1, ezw_i a2, ezw_i a3, ezw_i a4] g (fun v g' => (∃ u, some (ezw_i u) = v) ∧ ezl_J s a t b y z g') := by
  obtain ⟨e, F, A, rfl, hS, hs, hy, hM⟩ := hJ
  obtain ⟨b1, b2⟩ := e
  cases b1
  · exact ezw_Cmono (ezs_m195_0_f (fz := ezl_fz) (F0 := F) (A0 := A) ⟨hS, fun _ _ => ⟨rfl, rfl⟩⟩ hd (fun q h0 h1 => ezl_fz0 q (by omega)) ha1 ha2 ha3 ha4) (fun v g' h => ezl_b hs hy hM ezl_ri h)
  · exact ezw_Cmono (ezs_m195_0_t (fz := ezl_fz) (F0 := F) (A0 := A) ⟨hS, fun _ _ => ⟨rfl, rfl⟩⟩ hd (fun q h0 h1 => ezl_fz0 q (by omega)) ha1 ha2 ha3 ha4) (fun v g' h => ezl_b hs hy hM ezl_ri h)
theorem ezj_x209 {a1 : Int} (hJ : ezl_J s a t b y z g) (hd : 2 ≤ d) (ha1 : ezw_in a1) : ezw_C l ρ B xa Hb D cA 209 d [ezw_p 0, ezw_i a1] g (fun v g' => (∃ u, some (ezw_i u) = v) ∧ ezl_J s a t b y z g') := by
  obtain ⟨e, F, A, rfl, hS, hs, hy, hM⟩ := hJ
  obtain ⟨b1, b2⟩ := e
  cases b1
  · cases b2
    · exact ezw_Cmono (ezs_m209_0_ff (fz := ezl_fz) (F0 := F) (A0 := A) ⟨hS, fun _ _ => ⟨rfl, rfl⟩⟩ hd ha1) (fun v g' h => ezl_bp hS hs hy hM ezl_ri h)
    · exact ezw_Cmono (ezs_m209_0_ft (fz := ezl_fz) (F0 := F) (A0 := A) ⟨hS, fun _ _ => ⟨rfl, rfl⟩⟩ hd ha1) (fun v g' h => ezl_bp hS hs hy hM ezl_ri h)
  · cases b2
    · exact ezw_Cmono (ezs_m209_0_tf (fz := ezl_fz) (F0 := F) (A0 := A) ⟨hS, fun _ _ => ⟨rfl, rfl⟩⟩ hd ha1) (fun v g' h => ezl_bp hS hs hy hM ezl_ri h)
    · exact ezw_Cmono (ezs_m209_0_tt (fz := ezl_fz) (F0 := F) (A0 := A) ⟨hS, fun _ _ => ⟨rfl, rfl⟩⟩ hd ha1) (fun v g' h => ezl_bp hS hs hy hM ezl_ri h)
theorem ezj_x177 {a1 : Int} (hJ : ezl_J s a t b y z g) (hd : 2 ≤ d) (ha1 : ezw_in a1) : ezw_C l ρ B xa Hb D cA 177 d [ezw_p 0, ezw_i a1] g (fun v g' => ∃ (u : Int) (y1 : ezj_S), ezw_in u ∧ ezj_N23 y a1 u y1 ∧ some (ezw_i u) = v ∧ ezl_J s a t b y1 z g') := by
  obtain ⟨e, F, A, rfl, hS, hs, hy, hM⟩ := hJ
  obtain ⟨b1, b2⟩ := e
  cases b1
  · refine ezw_Cmono (ezt_m177_0o_f (F := F) (A := A) hS (by omega) ha1 hy.1.1.1 hy.1.1.2 hy.1.2.1) ?_
    rintro _ _ ⟨rfl, u, hu, an, rfl⟩
    exact ⟨u, y, hu, ⟨an, rfl⟩, rfl, _, F, A, rfl, hS, hs, hy, hM⟩
  · refine ezw_Cmono (ezt_m177_0o_t (F := F) (A := A) hS (by omega) ha1 hy.1.1.1 hy.1.1.2 hy.1.2.1) ?_
    rintro _ _ ⟨rfl, u, hu, an, rfl⟩
    exact ⟨u, y, hu, ⟨an, rfl⟩, rfl, _, F, A, rfl, hS, hs, hy, hM⟩
theorem ezj_x178 {a1 : Int} (hJ : ezl_J s a t b y z g) (hd : 4 ≤ d) (ha1 : ezw_in a1) : ezw_C l ρ B xa Hb D cA 178 d [ezw_p 0, ezw_i a1] g (fun v g' => ∃ (u : Int) (y1 : ezj_S), ezw_in u ∧ ezj_N24 y a1 u y1 ∧ some (ezw_i u) = v ∧ ezl_J s a t b y1 z g') := by
  obtain ⟨e, F, A, rfl, hS, hs, hy, hM⟩ := hJ
  obtain ⟨b1, b2⟩ := e
  cases b1
  · refine ezw_Cmono (ezt_m178_0o_f (F := F) (A := A) hS (by omega) ha1 hy.1.1.1 hy.1.1.2 hy.1.2.1) ?_
    rintro _ _ ⟨rfl, u, hu, an, rfl⟩
    exact ⟨u, y, hu, ⟨an, rfl⟩, rfl, _, F, A, rfl, hS, hs, hy, hM⟩
  · refine ezw_Cmono (ezt_m178_0o_t (F := F) (A := A) hS (by omega) ha1 hy.1.1.1 hy.1.1.2 hy.1.2.1) ?_
    rintro _ _ ⟨rfl, u, hu, an, rfl⟩
    exact ⟨u, y, hu, ⟨an, rfl⟩, rfl, _, F, A, rfl, hS, hs, hy, hM⟩
theorem ezj_x181 {a1 a2 : Int} (hJ : ezl_J s a t b y z g) (hd : 4 ≤ d) (ha1 : ezw_in a1) (ha2 : ezw_in a2) : ezw_C l ρ B xa Hb D cA 181 d [ezw_p 0, ezw_i a1, ezw_i a2] g (fun v g' => ∃ (u : Int) (y1 : ezj_S), ezw_in u ∧ ezj_N25 y a1 a2 u y1 ∧ some (ezw_i u) = v ∧ ezl_J s a t b y1 z g') := by
  obtain ⟨e, F, A, rfl, hS, hs, hy, hM⟩ := hJ
  obtain ⟨b1, b2⟩ := e
  cases b1
  · refine ezw_Cmono (ezt_m181_0o_f (F := F) (A := A) hS (by omega) ha1 ha2 hy.1.1.1 hy.1.1.2 hy.1.2.1) ?_
    rintro _ _ ⟨rfl, u, hu, an, rfl⟩
    exact ⟨u, y, hu, ⟨an, rfl⟩, rfl, _, F, A, rfl, hS, hs, hy, hM⟩
  · refine ezw_Cmono (ezt_m181_0o_t (F := F) (A := A) hS (by omega) ha1 ha2 hy.1.1.1 hy.1.1.2 hy.1.2.1) ?_
    rintro _ _ ⟨rfl, u, hu, an, rfl⟩
    exact ⟨u, y, hu, ⟨an, rfl⟩, rfl, _, F, A, rfl, hS, hs, hy, hM⟩
theorem ezj_x185 {a1 : Int} (hJ : ezl_J s a t b y z g) (hd : 5 ≤ d) (ha1 : ezw_in a1) : ezw_C l ρ B xa Hb D cA 185 d [ezw_p 0, ezw_i a1] g (fun v g' => ∃ (u : Int) (y1 : ezj_S), ezw_in u ∧ ezj_N26 y a1 u y1 ∧ some (ezw_i u) = v ∧ ezl_J s a t b y1 z g') := by
  obtain ⟨e, F, A, rfl, hS, hs, hy, hM⟩ := hJ
  obtain ⟨b1, b2⟩ := e
  cases b1
  · refine ezw_Cmono (ezt_m185_0o_f (F := F) (A := A) hS (by omega) ha1 hy.1.1.1 hy.1.1.2 hy.1.2.1) ?_
    rintro _ _ ⟨rfl, u, hu, an, rfl⟩
    exact ⟨u, y, hu, ⟨an, rfl⟩, rfl, _, F, A, rfl, hS, hs, hy, hM⟩
  · refine ezw_Cmono (ezt_m185_0o_t (F := F) (A := A) hS (by omega) ha1 hy.1.1.1 hy.1.1.2 hy.1.2.1) ?_
    rintro _ _ ⟨rfl, u, hu, an, rfl⟩
    exact ⟨u, y, hu, ⟨an, rfl⟩, rfl, _, F, A, rfl, hS, hs, hy, hM⟩
theorem ezj_x187 {a1 a2 : Int} (hJ : ezl_J s a t b y z g) (hd : 5 ≤ d) (ha1 : ezw_in a1) (ha2 : ezw_in a2) : ezw_C l ρ B xa Hb D cA 187 d [ezw_p 0, ezw_i a1, ezw_i a2] g (fun v g' => ∃ (u : Int) (y1 : ezj_S), ezw_in u ∧ ezj_N27 y a1 a2 u y1 ∧ some (ezw_i u) = v ∧ ezl_J s a t b y1 z g') := by
  obtain ⟨e, F, A, rfl, hS, hs, hy, hM⟩ := hJ
  obtain ⟨b1, b2⟩ := e
  cases b1
  · refine ezw_Cmono (ezt_m187_0o_f (F := F) (A := A) hS (by omega) ha1 ha2 hy.1.1.1 hy.1.1.2 hy.1.2.1) ?_
    rintro _ _ ⟨rfl, u, hu, an, rfl⟩
    exact ⟨u, y, hu, ⟨an, rfl⟩, rfl, _, F, A, rfl, hS, hs, hy, hM⟩
  · refine ezw_Cmono (ezt_m187_0o_t (F := F) (A := A) hS (by omega) ha1 ha2 hy.1.1.1 hy.1.1.2 hy.1.2.1) ?_
    rintro _ _ ⟨rfl, u, hu, an, rfl⟩
    exact ⟨u, y, hu, ⟨an, rfl⟩, rfl, _, F, A, rfl, hS, hs, hy, hM⟩
end KL
