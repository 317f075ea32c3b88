/-! ===== what a call comes to ===== -/
def ezj_N6 (y : ezj_S) (a1 a2 a3 : Int) (u : Int) (y1 : ezj_S) : Prop := (ezn_cP (ezn_qc y.L y.y) y.y y.w a1 a2 a3 → u = ezn_cn (ezn_tP y.w a2 a3).ov ∧ y1 = ezj_to y (ezn_tP y.w a2 a3)) ∧ (¬ (ezn_cP (ezn_qc y.L y.y) y.y y.w a1 a2 a3) → u = -1 ∧ y1 = y)
theorem ezj_N6_f {y y1 y2 : ezj_S} {a1 a2 a3 u1 u2 : Int} (h : ezj_N6 y a1 a2 a3 u1 y1) (k : ezj_N6 y a1 a2 a3 u2 y2) : u1 = u2 ∧ y1 = y2 := by
  by_cases hc : ezn_cP (ezn_qc y.L y.y) y.y y.w a1 a2 a3
  · exact ⟨(h.1 hc).1.trans (k.1 hc).1.symm, (h.1 hc).2.trans (k.1 hc).2.symm⟩
  · exact ⟨(h.2 hc).1.trans (k.2 hc).1.symm, (h.2 hc).2.trans (k.2 hc).2.symm⟩
def ezj_N7 (y : ezj_S) (u : Int) (y1 : ezj_S) : Prop := (ezn_cS y.w → u = (ezn_sl y.w).ti ∧ y1 = ezj_to y (ezn_sl y.w)) ∧ (¬ (ezn_cS y.w) → u = -1 ∧ y1 = y)
theorem ezj_N7_f {y y1 y2 : ezj_S} {u1 u2 : Int} (h : ezj_N7 y u1 y1) (k : ezj_N7 y u2 y2) : u1 = u2 ∧ y1 = y2 := by
  by_cases hc : ezn_cS y.w
  · exact ⟨(h.1 hc).1.trans (k.1 hc).1.symm, (h.1 hc).2.trans (k.1 hc).2.symm⟩
  · exact ⟨(h.2 hc).1.trans (k.2 hc).1.symm, (h.2 hc).2.trans (k.2 hc).2.symm⟩
def ezj_N8 (y : ezj_S) (u : Int) (y1 : ezj_S) : Prop := (ezn_cL y.y y.w → u = 1 ∧ y1 = ezj_to y (ezn_off y.w (ezn_lo y.w.ov))) ∧ (¬ (ezn_cL y.y y.w) → u = 0 ∧ y1 = y)
theorem ezj_N8_f {y y1 y2 : ezj_S} {u1 u2 : Int} (h : ezj_N8 y u1 y1) (k : ezj_N8 y u2 y2) : u1 = u2 ∧ y1 = y2 := by
  by_cases hc : ezn_cL y.y y.w
  · exact ⟨(h.1 hc).1.trans (k.1 hc).1.symm, (h.1 hc).2.trans (k.1 hc).2.symm⟩
  · exact ⟨(h.2 hc).1.trans (k.2 hc).1.symm, (h.2 hc).2.trans (k.2 hc).2.symm⟩
def ezj_N9 (y : ezj_S) (a1 a2 : Int) (u : Int) (y1 : ezj_S) : Prop := (ezn_cH y.y y.w a1 a2 → u = ezn_cn (ezn_tH y.w a1 a2).ov ∧ y1 = ezj_to y (ezn_tH y.w a1 a2)) ∧ (¬ (ezn_cH y.y y.w a1 a2) → u = -1 ∧ y1 = y)
theorem ezj_N9_f {y y1 y2 : ezj_S} {a1 a2 u1 u2 : Int} (h : ezj_N9 y a1 a2 u1 y1) (k : ezj_N9 y a1 a2 u2 y2) : u1 = u2 ∧ y1 = y2 := by
  by_cases hc : ezn_cH y.y y.w a1 a2
  · exact ⟨(h.1 hc).1.trans (k.1 hc).1.symm, (h.1 hc).2.trans (k.1 hc).2.symm⟩
  · exact ⟨(h.2 hc).1.trans (k.2 hc).1.symm, (h.2 hc).2.trans (k.2 hc).2.symm⟩
def ezj_N10 (y : ezj_S) (a1 a2 : Int) (u : Int) (y1 : ezj_S) : Prop := (ezn_cC y.y y.w a1 a2 → u = 1 ∧ y1 = ezj_to y (ezn_off y.w (ezn_ps y.y y.w a1 6))) ∧ (¬ (ezn_cC y.y y.w a1 a2) → u = 0 ∧ y1 = y)
theorem ezj_N10_f {y y1 y2 : ezj_S} {a1 a2 u1 u2 : Int} (h : ezj_N10 y a1 a2 u1 y1) (k : ezj_N10 y a1 a2 u2 y2) : u1 = u2 ∧ y1 = y2 := by
  by_cases hc : ezn_cC y.y y.w a1 a2
  · exact ⟨(h.1 hc).1.trans (k.1 hc).1.symm, (h.1 hc).2.trans (k.1 hc).2.symm⟩
  · exact ⟨(h.2 hc).1.trans (k.2 hc).1.symm, (h.2 hc).2.trans (k.2 hc).2.symm⟩
def ezj_N11 (y : ezj_S) (a1 : Int) (u : Int) (y1 : ezj_S) : Prop := (0 ≤ a1 ∧ a1 < 4 → u = (ezn_hr y.y y.w a1).ho ∧ y1 = ezj_to y (ezn_hr y.y y.w a1)) ∧ (¬ (0 ≤ a1 ∧ a1 < 4) → u = -1 ∧ y1 = y)
theorem ezj_N11_f {y y1 y2 : ezj_S} {a1 u1 u2 : Int} (h : ezj_N11 y a1 u1 y1) (k : ezj_N11 y a1 u2 y2) : u1 = u2 ∧ y1 = y2 := by
  by_cases hc : 0 ≤ a1 ∧ a1 < 4
  · exact ⟨(h.1 hc).1.trans (k.1 hc).1.symm, (h.1 hc).2.trans (k.1 hc).2.symm⟩
  · exact ⟨(h.2 hc).1.trans (k.2 hc).1.symm, (h.2 hc).2.trans (k.2 hc).2.symm⟩
def ezj_N3 (y : ezj_S) (a1 a2 : Int) (u : Int) (y1 : ezj_S) : Prop := u = ezn_tw y.y y.w a1 a2 ∧ y1 = y
theorem ezj_N3_f {y y1 y2 : ezj_S} {a1 a2 u1 u2 : Int} (h : ezj_N3 y a1 a2 u1 y1) (k : ezj_N3 y a1 a2 u2 y2) : u1 = u2 ∧ y1 = y2 := ⟨h.1.trans k.1.symm, h.2.trans k.2.symm⟩
def ezj_N4 (y : ezj_S) (a1 a2 : Int) (u : Int) (y1 : ezj_S) : Prop := u = ezn_tg y.y y.w a1 a2 ∧ y1 = y
theorem ezj_N4_f {y y1 y2 : ezj_S} {a1 a2 u1 u2 : Int} (h : ezj_N4 y a1 a2 u1 y1) (k : ezj_N4 y a1 a2 u2 y2) : u1 = u2 ∧ y1 = y2 := ⟨h.1.trans k.1.symm, h.2.trans k.2.symm⟩
def ezj_N5 (y : ezj_S) (a1 a2 a3 : Int) (u : Int) (y1 : ezj_S) : Prop := u = ezn_cc (ezn_qc y.L y.y) y.y y.w a1 a2 a3 ∧ y1 = y
theorem ezj_N5_f {y y1 y2 : ezj_S} {a1 a2 a3 u1 u2 : Int} (h : ezj_N5 y a1 a2 a3 u1 y1) (k : ezj_N5 y a1 a2 a3 u2 y2) : u1 = u2 ∧ y1 = y2 := ⟨h.1.trans k.1.symm, h.2.trans k.2.symm⟩
def ezj_N14 (y : ezj_S) (u : Int) (y1 : ezj_S) : Prop := u = ezn_wr y.y y.w ∧ y1 = y
theorem ezj_N14_f {y y1 y2 : ezj_S} {u1 u2 : Int} (h : ezj_N14 y u1 y1) (k : ezj_N14 y u2 y2) : u1 = u2 ∧ y1 = y2 := ⟨h.1.trans k.1.symm, h.2.trans k.2.symm⟩
def ezj_N17 (y : ezj_S) (u : Int) (y1 : ezj_S) : Prop := u = ezn_ft (ezn_pd (ezn_qc y.L y.y) y.y y.c) y.y.kT.toNat ∧ y1 = y
theorem ezj_N17_f {y y1 y2 : ezj_S} {u1 u2 : Int} (h : ezj_N17 y u1 y1) (k : ezj_N17 y u2 y2) : u1 = u2 ∧ y1 = y2 := ⟨h.1.trans k.1.symm, h.2.trans k.2.symm⟩
def ezj_N18 (y : ezj_S) (a1 : Int) (u : Int) (y1 : ezj_S) : Prop := u = ezn_li (ezn_qc y.L y.y) y.y y.c a1 ∧ y1 = y
theorem ezj_N18_f {y y1 y2 : ezj_S} {a1 u1 u2 : Int} (h : ezj_N18 y a1 u1 y1) (k : ezj_N18 y a1 u2 y2) : u1 = u2 ∧ y1 = y2 := ⟨h.1.trans k.1.symm, h.2.trans k.2.symm⟩
def ezj_N22 (y : ezj_S) (u : Int) (y1 : ezj_S) : Prop := u = ezn_las y.y y.w ∧ y1 = y
theorem ezj_N22_f {y y1 y2 : ezj_S} {u1 u2 : Int} (h : ezj_N22 y u1 y1) (k : ezj_N22 y u2 y2) : u1 = u2 ∧ y1 = y2 := ⟨h.1.trans k.1.symm, h.2.trans k.2.symm⟩
def ezj_N23 (y : ezj_S) (a1 : Int) (u : Int) (y1 : ezj_S) : Prop := u = ezp_far y.y a1 ∧ y1 = y
theorem ezj_N23_f {y y1 y2 : ezj_S} {a1 u1 u2 : Int} (h : ezj_N23 y a1 u1 y1) (k : ezj_N23 y a1 u2 y2) : u1 = u2 ∧ y1 = y2 := ⟨h.1.trans k.1.symm, h.2.trans k.2.symm⟩
def ezj_N24 (y : ezj_S) (a1 : Int) (u : Int) (y1 : ezj_S) : Prop := u = ezp_mi y.y a1 ∧ y1 = y
theorem ezj_N24_f {y y1 y2 : ezj_S} {a1 u1 u2 : Int} (h : ezj_N24 y a1 u1 y1) (k : ezj_N24 y a1 u2 y2) : u1 = u2 ∧ y1 = y2 := ⟨h.1.trans k.1.symm, h.2.trans k.2.symm⟩
def ezj_N25 (y : ezj_S) (a1 a2 : Int) (u : Int) (y1 : ezj_S) : Prop := u = ezp_sa y.y a1 a2 ∧ y1 = y
theorem ezj_N25_f {y y1 y2 : ezj_S} {a1 a2 u1 u2 : Int} (h : ezj_N25 y a1 a2 u1 y1) (k : ezj_N25 y a1 a2 u2 y2) : u1 = u2 ∧ y1 = y2 := ⟨h.1.trans k.1.symm, h.2.trans k.2.symm⟩
def ezj_N26 (y : ezj_S) (a1 : Int) (u : Int) (y1 : ezj_S) : Prop := u = ezp_pla y.y a1 ∧ y1 = y
theorem ezj_N26_f {y y1 y2 : ezj_S} {a1 u1 u2 : Int} (h : ezj_N26 y a1 u1 y1) (k : ezj_N26 y a1 u2 y2) : u1 = u2 ∧ y1 = y2 := ⟨h.1.trans k.1.symm, h.2.trans k.2.symm⟩
def ezj_N27 (y : ezj_S) (a1 a2 : Int) (u : Int) (y1 : ezj_S) : Prop := ezp_nea y.y a1 a2 u ∧ y1 = y
theorem ezj_N27_f {y y1 y2 : ezj_S} {a1 a2 u1 u2 : Int} (h : ezj_N27 y a1 a2 u1 y1) (k : ezj_N27 y a1 a2 u2 y2) : u1 = u2 ∧ y1 = y2 := ⟨ezp_nea_u h.1 k.1, h.2.trans k.2.symm⟩
def ezj_N12 (y : ezj_S) (u : Int) (y1 : ezj_S) : Prop := (0 < y.kU → u = 1 ∧ y1 = ezj_un y) ∧ (¬ (0 < y.kU) → u = 0 ∧ y1 = y)
theorem ezj_N12_f {y y1 y2 : ezj_S} {u1 u2 : Int} (h : ezj_N12 y u1 y1) (k : ezj_N12 y u2 y2) : u1 = u2 ∧ y1 = y2 := by
  by_cases hc : 0 < y.kU
  · exact ⟨(h.1 hc).1.trans (k.1 hc).1.symm, (h.1 hc).2.trans (k.1 hc).2.symm⟩
  · exact ⟨(h.2 hc).1.trans (k.2 hc).1.symm, (h.2 hc).2.trans (k.2 hc).2.symm⟩
def ezj_N16 (y : ezj_S) (a1 a2 : Int) (u : Int) (y1 : ezj_S) : Prop := (0 ≤ a1 ∧ a1 < 4 ∧ ezn_tm y.c < 12 → u = 1 ∧ y1 = ezj_tl y a1 a2) ∧ (¬ (0 ≤ a1 ∧ a1 < 4 ∧ ezn_tm y.c < 12) → u = 0 ∧ y1 = y)
theorem ezj_N16_f {y y1 y2 : ezj_S} {a1 a2 u1 u2 : Int} (h : ezj_N16 y a1 a2 u1 y1) (k : ezj_N16 y a1 a2 u2 y2) : u1 = u2 ∧ y1 = y2 := by
  by_cases hc : 0 ≤ a1 ∧ a1 < 4 ∧ ezn_tm y.c < 12
  · exact ⟨(h.1 hc).1.trans (k.1 hc).1.symm, (h.1 hc).2.trans (k.1 hc).2.symm⟩
  · exact ⟨(h.2 hc).1.trans (k.2 hc).1.symm, (h.2 hc).2.trans (k.2 hc).2.symm⟩
def ezj_N30 (y : ezj_S) (a1 a2 : Int) (u : Int) (y1 : ezj_S) : Prop := (0 ≤ a1 ∧ a1 < 4 ∧ a2 = 0 → u = 1 ∧ y1 = ezj_ly y a1) ∧ (¬ (0 ≤ a1 ∧ a1 < 4 ∧ a2 = 0) → (0 ≤ a1 ∧ a1 < 4 ∧ a2 = 1 ∧ y.ml a1 = 1 → u = 1 ∧ y1 = ezj_bk y a1) ∧ (¬ (0 ≤ a1 ∧ a1 < 4 ∧ a2 = 1 ∧ y.ml a1 = 1) → u = 0 ∧ y1 = y))
theorem ezj_N30_f {y y1 y2 : ezj_S} {a1 a2 u1 u2 : Int} (h : ezj_N30 y a1 a2 u1 y1) (k : ezj_N30 y a1 a2 u2 y2) : u1 = u2 ∧ y1 = y2 := by
  by_cases hc : 0 ≤ a1 ∧ a1 < 4 ∧ a2 = 0
  · exact ⟨(h.1 hc).1.trans (k.1 hc).1.symm, (h.1 hc).2.trans (k.1 hc).2.symm⟩
  · by_cases hd : 0 ≤ a1 ∧ a1 < 4 ∧ a2 = 1 ∧ y.ml a1 = 1
    · exact ⟨((h.2 hc).1 hd).1.trans ((k.2 hc).1 hd).1.symm, ((h.2 hc).1 hd).2.trans ((k.2 hc).1 hd).2.symm⟩
    · exact ⟨((h.2 hc).2 hd).1.trans ((k.2 hc).2 hd).1.symm, ((h.2 hc).2 hd).2.trans ((k.2 hc).2 hd).2.symm⟩
theorem ezj_te0 {qc : ezn_Q} {y : ezp_D} {c : Int → Int} (qr : ezn_QR qc) (tb : ezn_TB c) (h : ezn_bs (ezn_pd qc y c) y.kT.toNat = -1) : ezn_te qc y c = -1 := by
  have hz := ezn_bs_r (ezn_pd qc y c) y.kT.toNat
  have h0 : ∀ k, 0 ≤ k → k < ((y.kT.toNat : Nat) : Int) → ezn_pd qc y c k = 0 := fun k k0 k1 => by
    have g1 := hz.2.2.2.1 h
    have g2 := hz.2.2.2.2.2 k k0 k1
    have g3 := ezn_pd_b (y := y) qr tb k
    omega
  have hg : ∀ (f : Int → Int) (n : Nat), (∀ k, 0 ≤ k → k < (n : Int) → f k = 0) → ezn_gr f n = 0 ∧ ezn_bs f n = -1 := by
    intro f n
    induction n with
    | zero => intro _; exact ⟨rfl, rfl⟩
    | succ n ih =>
      intro hf
      obtain ⟨i1, i2⟩ := ih (fun k k0 k1 => hf k k0 (by omega))
      have e := hf (n : Int) (by omega) (by omega)
      constructor
      · show (if ezn_gr f n < f (n : Int) then f (n : Int) else ezn_gr f n) = 0
        rw [i1, e]
        rfl
      · show (if ezn_gr f n < f (n : Int) then (n : Int) else ezn_bs f n) = -1
        rw [i1, e, i2]
        rfl
  have hs : ∀ s, ezn_sh qc y c s = 0 := fun s => by
    unfold ezn_sh
    rw [(hg _ y.kT.toNat (fun k k0 k1 => by rw [h0 k k0 k1, Int.zero_mul])).1, (hg _ y.kT.toNat (fun k k0 k1 => by rw [h0 k k0 k1, Int.zero_mul])).1]
    rfl
  exact (hg _ 4 (fun k _ _ => hs k)).2
def ezj_N19 (y : ezj_S) (u : Int) (y1 : ezj_S) : Prop := u = ezn_te (ezn_qc y.L y.y) y.y y.c ∧ y1 = y
theorem ezj_N19_f {y y1 y2 : ezj_S} {u1 u2 : Int} (h : ezj_N19 y u1 y1) (k : ezj_N19 y u2 y2) : u1 = u2 ∧ y1 = y2 := ⟨h.1.trans k.1.symm, h.2.trans k.2.symm⟩
