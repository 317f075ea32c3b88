/-! ===== the class: calls ===== -/
section KT
variable {l : Launch} {ρ : ezq_E} {B : Nat} {xa : Nat → Option Nat} {Hb : Heap} {D : va_G} {cA : Nat → ClassId} {d : Nat} {e : Bool × Bool}
def ezt_m120_13_30_v0nQ (e : Bool × Bool) (F : Nat → Nat → Int) (A : Nat → Int → Int) (y : ezp_D) (w : ezn_N) (qc : ezn_Q) (a3 : Int) (a4 : Int) : Option ezq_V → (Nat → ezq_C) → Prop := fun v g' => ∃ (F' : Nat → Nat → Int), ezu_g e F' A = g' ∧ ezs_T F' A ∧ (∀ p j, ¬ (p = 13 ∧ (j = 0 ∨ j = 1 ∨ j = 2 ∨ j = 3 ∨ j = 4 ∨ j = 5 ∨ j = 6)) → F' p j = F p j) ∧ ∃ u : Int, (0 ≤ u ∧ u ≤ 1) ∧ (u = 1 → ezn_cP qc y w a3 0 a4) ∧ (u = 0 → ¬ ezn_cP qc y w a3 0 a4) ∧ (u = 1 → ezn_C 13 (ezn_tP w 0 a4) F') ∧ (u = 0 → ezn_C 13 w F') ∧ some (ezw_i u) = v
theorem ezt_m120_13_30_v0n {y : ezp_D} {w : ezn_N} {qc : ezn_Q} {a3 a4 : Int} {F : Nat → Nat → Int} {A : Nat → Int → Int} (hS : ezs_T F A) (hd : 4 ≤ d) (ha3 : ezw_in a3) (ha4 : ezw_in a4) (tr : ezt_TR 30 y F A) (nu : ezt_NU 30 y A) (hB : ezp_B y) (cw : ezn_C 13 w F) (wb : ezn_B y w) (cq : ezn_CQ qc y 30 A) (qr : ezn_QR qc) : ezw_C l ρ B xa Hb D cA 120 d [ezw_p 13, ezw_p 30, ezw_i (0), ezw_i a3, ezw_i a4] (ezu_g e F A) (ezt_m120_13_30_v0nQ e F A y w qc a3 a4) := by
  refine ezw_met (k := 0) rfl rfl ?_
  refine ezw_iload_n rfl rfl ?_
  refine ezw_tableswitchE (v := 0) (p := 48) rfl rfl (by rfl) ?_
  refine ezw_aload_n rfl rfl ?_
  refine ezw_aload_n rfl rfl ?_
  refine ezw_iload_n rfl rfl ?_
  refine ezw_iconst (0) rfl rfl ?_
  refine ezw_iload rfl rfl ?_
  refine ezw_call0_4 rfl (by omega) (ezu_at rfl) rfl rfl rfl rfl (ezt_m121_13_30n hS (by omega) ha3 ⟨by decide, by decide⟩ ha4 tr nu hB cw wb cq qr (by omega)) ?_
  rintro _ _ ⟨F1, rfl, hS, nF1, u2, hu2, c1_1, c0_1, t1_1, t0_1, rfl⟩
  exact ezw_ireturn rfl (ezw_zret ⟨by omega, by omega⟩) ⟨F1, rfl, hS, (fun p j h => by rw [nF1 p j (fun z => h (⟨z.1, (z.2.elim (fun y => (Or.inl y)) (fun y => (y.elim (fun y => (Or.inr (Or.inl y))) (fun y => (Or.inr (Or.inr (Or.inr (Or.inr (Or.inl y)))))))))⟩))]), u2, ⟨by omega, by omega⟩, c1_1, c0_1, t1_1, t0_1, rfl⟩
def ezt_m118_0_v0n_fQ (b2 : Bool) (F : Nat → Nat → Int) (A : Nat → Int → Int) (y : ezp_D) (w : ezn_N) (qc : ezn_Q) (kU : Int) (a2 : Int) (a3 : Int) : Option ezq_V → (Nat → ezq_C) → Prop := fun v g' => ∃ (F' : Nat → Nat → Int) (A' : Nat → Int → Int), ezu_g (false, b2) F' A' = g' ∧ ezs_T F' A' ∧ (∀ p j, ¬ (p = 13 ∧ (j = 0 ∨ j = 1 ∨ j = 2 ∨ j = 3 ∨ j = 4 ∨ j = 5 ∨ j = 6) ∨ p = 18 ∧ (j = 4)) → F' p j = F p j) ∧ (∀ p, ¬ (p = 19) → A' p = A p) ∧ ∃ u : Int, (0 ≤ u ∧ u ≤ 1) ∧ (u = 1 → ezn_cP qc y w a2 0 a3) ∧ (u = 0 → ¬ ezn_cP qc y w a2 0 a3) ∧ (u = 1 → ezn_C 13 (ezn_tP w 0 a3) F' ∧ F' 18 4 = ezn_pn kU ∧ ∀ k, 0 ≤ k → k < ezn_pn kU → A' 19 k = (if kU = 16 then (if k = 15 then ezn_pk w else A 19 (k + 1)) else (if k = kU then ezn_pk w else A 19 k))) ∧ (u = 0 → ezn_C 13 w F' ∧ F' 18 4 = kU ∧ A' 19 = A 19) ∧ some (ezw_i u) = v
theorem ezt_m118_0_v0n_f {b2 : Bool} {y : ezp_D} {w : ezn_N} {qc : ezn_Q} {kU : Int} {a2 a3 : Int} {F : Nat → Nat → Int} {A : Nat → Int → Int} (hS : ezs_T F A) (hd : 5 ≤ d) (ha2 : ezw_in a2) (ha3 : ezw_in a3) (tr : ezt_TR 30 y F A) (nu : ezt_NU 30 y A) (hB : ezp_B y) (cw : ezn_C 13 w F) (wb : ezn_B y w) (cq : ezn_CQ qc y 30 A) (qr : ezn_QR qc) (uc : F 18 4 = kU ∧ 0 ≤ kU ∧ kU ≤ 16) : ezw_C l ρ B xa Hb D cA 118 d [ezw_p 0, ezw_i (0), ezw_i a2, ezw_i a3] (ezu_g (false, b2) F A) (ezt_m118_0_v0n_fQ b2 F A y w qc kU a2 a3) := by
  refine ezw_met (k := 3) rfl rfl ?_
  refine ezw_aload_n rfl rfl ?_
  refine ezs_getp (p := 13) rfl rfl rfl rfl rfl ?_
  refine ezw_call0_0 rfl (by omega) (ezu_at rfl) rfl rfl rfl rfl (ezt_m119_13n hS (by omega) cw wb) ?_
  rintro _ _ ⟨rfl, u2, hu2, an_1, rfl⟩
  refine ezw_lstore rfl rfl ?_
  refine ezw_aload_n rfl rfl ?_
  refine ezs_getp (p := 13) rfl rfl rfl rfl rfl ?_
  refine ezw_aload_n rfl rfl ?_
  refine ezs_getp (p := 30) rfl rfl rfl rfl rfl ?_
  refine ezw_iload_n rfl rfl ?_
  refine ezw_iload_n rfl rfl ?_
  refine ezw_iload_n rfl rfl ?_
  refine ezw_call0_4 rfl (by omega) (ezu_at rfl) rfl rfl rfl rfl (ezt_m120_13_30_v0n hS (by omega) ha2 ha3 tr nu hB cw wb cq qr) ?_
  rintro _ _ ⟨F3, rfl, hS, nF3, u4, hu4, c1_3, c0_3, t1_3, t0_3, rfl⟩
  refine ezw_istore rfl rfl ?_
  refine ezw_iload rfl rfl ?_
  refine ezw_if_eq rfl rfl ⟨by omega, by omega⟩ (fun h27_4 => ?_) (fun h27_4 => ?_)
  · refine ezw_iload rfl rfl ?_
    have w18_4 : F3 18 4 = (F 18 4) := by rw [nF3 18 4 (by decide)]
    exact ezw_ireturn rfl (ezw_zret ⟨by omega, by omega⟩) ⟨F3, A, rfl, hS, (fun p j h => by rw [nF3 p j (fun z => h (Or.inl ⟨z.1, z.2⟩))]), (fun _ _ => rfl), u4, ⟨by omega, by omega⟩, c1_3, c0_3, (by omega), (fun hu => ⟨t0_3 hu, (by rw [nF3 18 4 (by decide)]; exact uc.1), rfl⟩), rfl⟩
  · refine ezw_aload_n rfl rfl ?_
    refine ezs_getp (p := 18) rfl rfl rfl rfl rfl ?_
    refine ezw_lload rfl rfl ?_
    refine ezw_call0_1 rfl (by omega) (ezu_at rfl) rfl rfl rfl rfl (ezt_m130_18n hS (by omega) hu2 (by rw [nF3 18 4 (by decide)]; exact uc)) ?_
    rintro _ _ ⟨F5, A5, rfl, hS, nF5, nA5, n_5, r_5, rfl⟩
    refine ezw_iload rfl rfl ?_
    exact ezw_ireturn rfl (ezw_zret ⟨by omega, by omega⟩) ⟨F5, A5, rfl, hS, (fun p j h => by rw [nF5 p j (fun z => h (Or.inr ⟨z.1, z.2⟩)), nF3 p j (fun z => h (Or.inl ⟨z.1, z.2⟩))]), (fun p h => by
          funext j
          rw [nA5 p (fun z => h (z))]), u4, ⟨by omega, by omega⟩, c1_3, c0_3, (fun hu => ⟨ezn_C_f (t1_3 hu) (fun k hk => nF5 13 k (fun z => absurd z.1 (by decide))), n_5, fun k k0 k1 => by
          rw [← an_1]
          exact r_5 k k0 k1⟩), (by omega), rfl⟩
def ezt_m120_13_30_v1nQ (e : Bool × Bool) (F : Nat → Nat → Int) (A : Nat → Int → Int) (y : ezp_D) (w : ezn_N) (qc : ezn_Q) (a3 : Int) (a4 : Int) : Option ezq_V → (Nat → ezq_C) → Prop := fun v g' => ∃ (F' : Nat → Nat → Int), ezu_g e F' A = g' ∧ ezs_T F' A ∧ (∀ p j, ¬ (p = 13 ∧ (j = 0 ∨ j = 1 ∨ j = 2 ∨ j = 3 ∨ j = 4 ∨ j = 5 ∨ j = 6)) → F' p j = F p j) ∧ ∃ u : Int, (0 ≤ u ∧ u ≤ 1) ∧ (u = 1 → ezn_cP qc y w a3 1 a4) ∧ (u = 0 → ¬ ezn_cP qc y w a3 1 a4) ∧ (u = 1 → ezn_C 13 (ezn_tP w 1 a4) F') ∧ (u = 0 → ezn_C 13 w F') ∧ some (ezw_i u) = v
theorem ezt_m120_13_30_v1n {y : ezp_D} {w : ezn_N} {qc : ezn_Q} {a3 a4 : Int} {F : Nat → Nat → Int} {A : Nat → Int → Int} (hS : ezs_T F A) (hd : 4 ≤ d) (ha3 : ezw_in a3) (ha4 : ezw_in a4) (tr : ezt_TR 30 y F A) (nu : ezt_NU 30 y A) (hB : ezp_B y) (cw : ezn_C 13 w F) (wb : ezn_B y w) (cq : ezn_CQ qc y 30 A) (qr : ezn_QR qc) : ezw_C l ρ B xa Hb D cA 120 d [ezw_p 13, ezw_p 30, ezw_i (1), ezw_i a3, ezw_i a4] (ezu_g e F A) (ezt_m120_13_30_v1nQ e F A y w qc a3 a4) := by
  refine ezw_met (k := 0) rfl rfl ?_
  refine ezw_iload_n rfl rfl ?_
  refine ezw_tableswitchE (v := 1) (p := 58) rfl rfl (by rfl) ?_
  refine ezw_aload_n rfl rfl ?_
  refine ezw_aload_n rfl rfl ?_
  refine ezw_iload_n rfl rfl ?_
  refine ezw_iconst (1) rfl rfl ?_
  refine ezw_iload rfl rfl ?_
  refine ezw_call0_4 rfl (by omega) (ezu_at rfl) rfl rfl rfl rfl (ezt_m121_13_30n hS (by omega) ha3 ⟨by decide, by decide⟩ ha4 tr nu hB cw wb cq qr (by omega)) ?_
  rintro _ _ ⟨F1, rfl, hS, nF1, u2, hu2, c1_1, c0_1, t1_1, t0_1, rfl⟩
  exact ezw_ireturn rfl (ezw_zret ⟨by omega, by omega⟩) ⟨F1, rfl, hS, (fun p j h => by rw [nF1 p j (fun z => h (⟨z.1, (z.2.elim (fun y => (Or.inl y)) (fun y => (y.elim (fun y => (Or.inr (Or.inl y))) (fun y => (Or.inr (Or.inr (Or.inr (Or.inr (Or.inl y)))))))))⟩))]), u2, ⟨by omega, by omega⟩, c1_1, c0_1, t1_1, t0_1, rfl⟩
def ezt_m118_0_v1n_fQ (b2 : Bool) (F : Nat → Nat → Int) (A : Nat → Int → Int) (y : ezp_D) (w : ezn_N) (qc : ezn_Q) (kU : Int) (a2 : Int) (a3 : Int) : Option ezq_V → (Nat → ezq_C) → Prop := fun v g' => ∃ (F' : Nat → Nat → Int) (A' : Nat → Int → Int), ezu_g (false, b2) F' A' = g' ∧ ezs_T F' A' ∧ (∀ p j, ¬ (p = 13 ∧ (j = 0 ∨ j = 1 ∨ j = 2 ∨ j = 3 ∨ j = 4 ∨ j = 5 ∨ j = 6) ∨ p = 18 ∧ (j = 4)) → F' p j = F p j) ∧ (∀ p, ¬ (p = 19) → A' p = A p) ∧ ∃ u : Int, (0 ≤ u ∧ u ≤ 1) ∧ (u = 1 → ezn_cP qc y w a2 1 a3) ∧ (u = 0 → ¬ ezn_cP qc y w a2 1 a3) ∧ (u = 1 → ezn_C 13 (ezn_tP w 1 a3) F' ∧ F' 18 4 = ezn_pn kU ∧ ∀ k, 0 ≤ k → k < ezn_pn kU → A' 19 k = (if kU = 16 then (if k = 15 then ezn_pk w else A 19 (k + 1)) else (if k = kU then ezn_pk w else A 19 k))) ∧ (u = 0 → ezn_C 13 w F' ∧ F' 18 4 = kU ∧ A' 19 = A 19) ∧ some (ezw_i u) = v
theorem ezt_m118_0_v1n_f {b2 : Bool} {y : ezp_D} {w : ezn_N} {qc : ezn_Q} {kU : Int} {a2 a3 : Int} {F : Nat → Nat → Int} {A : Nat → Int → Int} (hS : ezs_T F A) (hd : 5 ≤ d) (ha2 : ezw_in a2) (ha3 : ezw_in a3) (tr : ezt_TR 30 y F A) (nu : ezt_NU 30 y A) (hB : ezp_B y) (cw : ezn_C 13 w F) (wb : ezn_B y w) (cq : ezn_CQ qc y 30 A) (qr : ezn_QR qc) (uc : F 18 4 = kU ∧ 0 ≤ kU ∧ kU ≤ 16) : ezw_C l ρ B xa Hb D cA 118 d [ezw_p 0, ezw_i (1), ezw_i a2, ezw_i a3] (ezu_g (false, b2) F A) (ezt_m118_0_v1n_fQ b2 F A y w qc kU a2 a3) := by
  refine ezw_met (k := 3) rfl rfl ?_
  refine ezw_aload_n rfl rfl ?_
  refine ezs_getp (p := 13) rfl rfl rfl rfl rfl ?_
  refine ezw_call0_0 rfl (by omega) (ezu_at rfl) rfl rfl rfl rfl (ezt_m119_13n hS (by omega) cw wb) ?_
  rintro _ _ ⟨rfl, u2, hu2, an_1, rfl⟩
  refine ezw_lstore rfl rfl ?_
  refine ezw_aload_n rfl rfl ?_
  refine ezs_getp (p := 13) rfl rfl rfl rfl rfl ?_
  refine ezw_aload_n rfl rfl ?_
  refine ezs_getp (p := 30) rfl rfl rfl rfl rfl ?_
  refine ezw_iload_n rfl rfl ?_
  refine ezw_iload_n rfl rfl ?_
  refine ezw_iload_n rfl rfl ?_
  refine ezw_call0_4 rfl (by omega) (ezu_at rfl) rfl rfl rfl rfl (ezt_m120_13_30_v1n hS (by omega) ha2 ha3 tr nu hB cw wb cq qr) ?_
  rintro _ _ ⟨F3, rfl, hS, nF3, u4, hu4, c1_3, c0_3, t1_3, t0_3, rfl⟩
  refine ezw_istore rfl rfl ?_
  refine ezw_iload rfl rfl ?_
  refine ezw_if_eq rfl rfl ⟨by omega, by omega⟩ (fun h27_4 => ?_) (fun h27_4 => ?_)
  · refine ezw_iload rfl rfl ?_
    have w18_4 : F3 18 4 = (F 18 4) := by rw [nF3 18 4 (by decide)]
    exact ezw_ireturn rfl (ezw_zret ⟨by omega, by omega⟩) ⟨F3, A, rfl, hS, (fun p j h => by rw [nF3 p j (fun z => h (Or.inl ⟨z.1, z.2⟩))]), (fun _ _ => rfl), u4, ⟨by omega, by omega⟩, c1_3, c0_3, (by omega), (fun hu => ⟨t0_3 hu, (by rw [nF3 18 4 (by decide)]; exact uc.1), rfl⟩), rfl⟩
  · refine ezw_aload_n rfl rfl ?_
    refine ezs_getp (p := 18) rfl rfl rfl rfl rfl ?_
    refine ezw_lload rfl rfl ?_
    refine ezw_call0_1 rfl (by omega) (ezu_at rfl) rfl rfl rfl rfl (ezt_m130_18n hS (by omega) hu2 (by rw [nF3 18 4 (by decide)]; exact uc)) ?_
    rintro _ _ ⟨F5, A5, rfl, hS, nF5, nA5, n_5, r_5, rfl⟩
    refine ezw_iload rfl rfl ?_
    exact ezw_ireturn rfl (ezw_zret ⟨by omega, by omega⟩) ⟨F5, A5, rfl, hS, (fun p j h => by rw [nF5 p j (fun z => h (Or.inr ⟨z.1, z.2⟩)), nF3 p j (fun z => h (Or.inl ⟨z.1, z.2⟩))]), (fun p h => by
          funext j
          rw [nA5 p (fun z => h (z))]), u4, ⟨by omega, by omega⟩, c1_3, c0_3, (fun hu => ⟨ezn_C_f (t1_3 hu) (fun k hk => nF5 13 k (fun z => absurd z.1 (by decide))), n_5, fun k k0 k1 => by
          rw [← an_1]
          exact r_5 k k0 k1⟩), (by omega), rfl⟩
def ezt_m117_0n_fQ (b2 : Bool) (F : Nat → Nat → Int) (A : Nat → Int → Int) (y : ezp_D) (w : ezn_N) (qc : ezn_Q) (kU : Int) (a1 : Int) (a2 : Int) (a3 : Int) : Option ezq_V → (Nat → ezq_C) → Prop := fun v g' => ∃ (F' : Nat → Nat → Int) (A' : Nat → Int → Int), ezu_g (false, b2) F' A' = g' ∧ ezs_T F' A' ∧ (∀ p j, ¬ (p = 13 ∧ (j = 0 ∨ j = 1 ∨ j = 2 ∨ j = 3 ∨ j = 4 ∨ j = 5 ∨ j = 6) ∨ p = 18 ∧ (j = 4)) → F' p j = F p j) ∧ (∀ p, ¬ (p = 19) → A' p = A p) ∧ ∃ u : Int, (ezw_in u) ∧ (ezn_cP qc y w a1 a2 a3 → u = (ezn_cn (ezn_tP w a2 a3).ov)) ∧ (¬ ezn_cP qc y w a1 a2 a3 → u = -1) ∧ (ezn_cP qc y w a1 a2 a3 → ezn_C 13 (ezn_tP w a2 a3) F' ∧ F' 18 4 = ezn_pn kU ∧ ∀ k, 0 ≤ k → k < ezn_pn kU → A' 19 k = (if kU = 16 then (if k = 15 then ezn_pk w else A 19 (k + 1)) else (if k = kU then ezn_pk w else A 19 k))) ∧ (¬ ezn_cP qc y w a1 a2 a3 → ezn_C 13 w F' ∧ F' 18 4 = kU ∧ A' 19 = A 19) ∧ some (ezw_i u) = v
theorem ezt_m117_0n_f {b2 : Bool} {y : ezp_D} {w : ezn_N} {qc : ezn_Q} {kU : Int} {a1 a2 a3 : Int} {F : Nat → Nat → Int} {A : Nat → Int → Int} (hS : ezs_T F A) (hd : 6 ≤ d) (ha1 : ezw_in a1) (ha2 : ezw_in a2) (ha3 : ezw_in a3) (tr : ezt_TR 30 y F A) (nu : ezt_NU 30 y A) (hB : ezp_B y) (cw : ezn_C 13 w F) (wb : ezn_B y w) (cq : ezn_CQ qc y 30 A) (qr : ezn_QR qc) (uc : F 18 4 = kU ∧ 0 ≤ kU ∧ kU ≤ 16) (gb : 0 ≤ a2 ∧ a2 ≤ 1) : ezw_C l ρ B xa Hb D cA 117 d [ezw_p 0, ezw_i a1, ezw_i a2, ezw_i a3] (ezu_g (false, b2) F A) (ezt_m117_0n_fQ b2 F A y w qc kU a1 a2 a3) := by
  refine ezw_met (k := 0) rfl rfl ?_
  refine ezw_aload_n rfl rfl ?_
  refine ezw_iload_n rfl rfl ?_
  refine ezw_if_eq rfl rfl ha2 (fun h2_0 => ?_) (fun h2_0 => ?_)
  · refine ezw_iconst (0) rfl rfl ?_
    refine ezw_iload_n rfl rfl ?_
    refine ezw_iload_n rfl rfl ?_
    refine ezw_call0_3 rfl (by omega) (ezu_at rfl) rfl rfl rfl rfl (ezt_m118_0_v0n_f hS (by omega) ha1 ha3 tr nu hB cw wb cq qr uc) ?_
    rintro _ _ ⟨F1, A1, rfl, hS, nF1, nA1, u2, hu2, c1_1, c0_1, t1_1, t0_1, rfl⟩
    refine ezw_if_eq rfl rfl ⟨by omega, by omega⟩ (fun h15_2 => ?_) (fun h15_2 => ?_)
    · refine ezw_iconst (-1) rfl rfl ?_
      exact ezw_ireturn rfl rfl ⟨F1, A1, rfl, hS, (fun p j h => by rw [nF1 p j (fun z => h (z.elim (fun y => (Or.inl ⟨y.1, y.2⟩)) (fun y => (Or.inr ⟨y.1, y.2⟩))))]), (fun p h => by
            funext j
            rw [nA1 p (fun z => h (z))]), (-1), ⟨by decide, by decide⟩, (fun hc => absurd hc (by rw [show a2 = 0 by omega]; exact c0_1 (by omega))), (fun _ => rfl), (fun hc => absurd hc (by rw [show a2 = 0 by omega]; exact c0_1 (by omega))), (fun _ => t0_1 (by omega)), rfl⟩
    · refine ezw_aload_n rfl rfl ?_
      refine ezs_getp (p := 13) rfl rfl rfl rfl rfl ?_
      refine ezw_call0_0 rfl (by omega) (ezu_at rfl) rfl rfl rfl rfl (ezt_m131_13n (w := (ezn_tP w 0 a3)) hS (by omega) (t1_1 (by omega)).1 (ezn_B_tP wb (by omega) (c1_1 (by omega)))) ?_
      rintro _ _ ⟨rfl, u4, hu4, an_3, rfl⟩
      refine ezw_goto rfl rfl ?_
      exact ezw_ireturn rfl rfl ⟨F1, A1, rfl, hS, (fun p j h => by rw [nF1 p j (fun z => h (z.elim (fun y => (Or.inl ⟨y.1, y.2⟩)) (fun y => (Or.inr ⟨y.1, y.2⟩))))]), (fun p h => by
            funext j
            rw [nA1 p (fun z => h (z))]), u4, hu4, (fun _ => by rw [show a2 = 0 by omega]; exact an_3), (fun hn => absurd (by rw [show a2 = 0 by omega]; exact c1_1 (by omega)) hn), (fun _ => by rw [show a2 = 0 by omega]; exact t1_1 (by omega)), (fun hn => absurd (by rw [show a2 = 0 by omega]; exact c1_1 (by omega)) hn), rfl⟩
  · refine ezw_iconst (1) rfl rfl ?_
    refine ezw_goto rfl rfl ?_
    refine ezw_iload_n rfl rfl ?_
    refine ezw_iload_n rfl rfl ?_
    refine ezw_call0_3 rfl (by omega) (ezu_at rfl) rfl rfl rfl rfl (ezt_m118_0_v1n_f hS (by omega) ha1 ha3 tr nu hB cw wb cq qr uc) ?_
    rintro _ _ ⟨F5, A5, rfl, hS, nF5, nA5, u6, hu6, c1_5, c0_5, t1_5, t0_5, rfl⟩
    refine ezw_if_eq rfl rfl ⟨by omega, by omega⟩ (fun h15_6 => ?_) (fun h15_6 => ?_)
    · refine ezw_iconst (-1) rfl rfl ?_
      exact ezw_ireturn rfl rfl ⟨F5, A5, rfl, hS, (fun p j h => by rw [nF5 p j (fun z => h (z.elim (fun y => (Or.inl ⟨y.1, y.2⟩)) (fun y => (Or.inr ⟨y.1, y.2⟩))))]), (fun p h => by
            funext j
            rw [nA5 p (fun z => h (z))]), (-1), ⟨by decide, by decide⟩, (fun hc => absurd hc (by rw [show a2 = 1 by omega]; exact c0_5 (by omega))), (fun _ => rfl), (fun hc => absurd hc (by rw [show a2 = 1 by omega]; exact c0_5 (by omega))), (fun _ => t0_5 (by omega)), rfl⟩
    · refine ezw_aload_n rfl rfl ?_
      refine ezs_getp (p := 13) rfl rfl rfl rfl rfl ?_
      refine ezw_call0_0 rfl (by omega) (ezu_at rfl) rfl rfl rfl rfl (ezt_m131_13n (w := (ezn_tP w 1 a3)) hS (by omega) (t1_5 (by omega)).1 (ezn_B_tP wb (by omega) (c1_5 (by omega)))) ?_
      rintro _ _ ⟨rfl, u8, hu8, an_7, rfl⟩
      refine ezw_goto rfl rfl ?_
      exact ezw_ireturn rfl rfl ⟨F5, A5, rfl, hS, (fun p j h => by rw [nF5 p j (fun z => h (z.elim (fun y => (Or.inl ⟨y.1, y.2⟩)) (fun y => (Or.inr ⟨y.1, y.2⟩))))]), (fun p h => by
            funext j
            rw [nA5 p (fun z => h (z))]), u8, hu8, (fun _ => by rw [show a2 = 1 by omega]; exact an_7), (fun hn => absurd (by rw [show a2 = 1 by omega]; exact c1_5 (by omega)) hn), (fun _ => by rw [show a2 = 1 by omega]; exact t1_5 (by omega)), (fun hn => absurd (by rw [show a2 = 1 by omega]; exact c1_5 (by omega)) hn), rfl⟩
def ezt_m120_13_30_v2nQ (e : Bool × Bool) (F : Nat → Nat → Int) (A : Nat → Int → Int) (y : ezp_D) (w : ezn_N) (qc : ezn_Q) (a3 : Int) (a4 : Int) : Option ezq_V → (Nat → ezq_C) → Prop := fun v g' => ∃ (F' : Nat → Nat → Int), ezu_g e F' A = g' ∧ ezs_T F' A ∧ (∀ p j, ¬ (p = 13 ∧ (j = 0 ∨ j = 1 ∨ j = 2 ∨ j = 3 ∨ j = 4 ∨ j = 5 ∨ j = 6)) → F' p j = F p j) ∧ ∃ u : Int, (0 ≤ u ∧ u ≤ 1) ∧ (u = 1 → ezn_cS w) ∧ (u = 0 → ¬ ezn_cS w) ∧ (u = 1 → ezn_C 13 (ezn_sl w) F') ∧ (u = 0 → ezn_C 13 w F') ∧ some (ezw_i u) = v
theorem ezt_m120_13_30_v2n {y : ezp_D} {w : ezn_N} {qc : ezn_Q} {a3 a4 : Int} {F : Nat → Nat → Int} {A : Nat → Int → Int} (hS : ezs_T F A) (hd : 1 ≤ d) (ha3 : ezw_in a3) (ha4 : ezw_in a4) (tr : ezt_TR 30 y F A) (nu : ezt_NU 30 y A) (hB : ezp_B y) (cw : ezn_C 13 w F) (wb : ezn_B y w) (cq : ezn_CQ qc y 30 A) (qr : ezn_QR qc) : ezw_C l ρ B xa Hb D cA 120 d [ezw_p 13, ezw_p 30, ezw_i (2), ezw_i a3, ezw_i a4] (ezu_g e F A) (ezt_m120_13_30_v2nQ e F A y w qc a3 a4) := by
  refine ezw_met (k := 0) rfl rfl ?_
  refine ezw_iload_n rfl rfl ?_
  refine ezw_tableswitchE (v := 2) (p := 68) rfl rfl (by rfl) ?_
  refine ezw_aload_n rfl rfl ?_
  refine ezw_call0_0 rfl (by omega) (ezu_at rfl) rfl rfl rfl rfl (ezt_m123_13n hS (by omega) cw wb) ?_
  rintro _ _ ⟨F1, rfl, hS, nF1, u2, hu2, c1_1, c0_1, t1_1, t0_1, rfl⟩
  exact ezw_ireturn rfl (ezw_zret ⟨by omega, by omega⟩) ⟨F1, rfl, hS, (fun p j h => by rw [nF1 p j (fun z => h (⟨z.1, (Or.inr (Or.inl z.2))⟩))]), u2, ⟨by omega, by omega⟩, c1_1, c0_1, t1_1, t0_1, rfl⟩
def ezt_m118_0_v2n_fQ (b2 : Bool) (F : Nat → Nat → Int) (A : Nat → Int → Int) (y : ezp_D) (w : ezn_N) (qc : ezn_Q) (kU : Int) (a2 : Int) (a3 : Int) : Option ezq_V → (Nat → ezq_C) → Prop := fun v g' => ∃ (F' : Nat → Nat → Int) (A' : Nat → Int → Int), ezu_g (false, b2) F' A' = g' ∧ ezs_T F' A' ∧ (∀ p j, ¬ (p = 13 ∧ (j = 0 ∨ j = 1 ∨ j = 2 ∨ j = 3 ∨ j = 4 ∨ j = 5 ∨ j = 6) ∨ p = 18 ∧ (j = 4)) → F' p j = F p j) ∧ (∀ p, ¬ (p = 19) → A' p = A p) ∧ ∃ u : Int, (0 ≤ u ∧ u ≤ 1) ∧ (u = 1 → ezn_cS w) ∧ (u = 0 → ¬ ezn_cS w) ∧ (u = 1 → ezn_C 13 (ezn_sl w) F' ∧ F' 18 4 = ezn_pn kU ∧ ∀ k, 0 ≤ k → k < ezn_pn kU → A' 19 k = (if kU = 16 then (if k = 15 then ezn_pk w else A 19 (k + 1)) else (if k = kU then ezn_pk w else A 19 k))) ∧ (u = 0 → ezn_C 13 w F' ∧ F' 18 4 = kU ∧ A' 19 = A 19) ∧ some (ezw_i u) = v
theorem ezt_m118_0_v2n_f {b2 : Bool} {y : ezp_D} {w : ezn_N} {qc : ezn_Q} {kU : Int} {a2 a3 : Int} {F : Nat → Nat → Int} {A : Nat → Int → Int} (hS : ezs_T F A) (hd : 2 ≤ d) (ha2 : ezw_in a2) (ha3 : ezw_in a3) (tr : ezt_TR 30 y F A) (nu : ezt_NU 30 y A) (hB : ezp_B y) (cw : ezn_C 13 w F) (wb : ezn_B y w) (cq : ezn_CQ qc y 30 A) (qr : ezn_QR qc) (uc : F 18 4 = kU ∧ 0 ≤ kU ∧ kU ≤ 16) : ezw_C l ρ B xa Hb D cA 118 d [ezw_p 0, ezw_i (2), ezw_i a2, ezw_i a3] (ezu_g (false, b2) F A) (ezt_m118_0_v2n_fQ b2 F A y w qc kU a2 a3) := by
  refine ezw_met (k := 3) rfl rfl ?_
  refine ezw_aload_n rfl rfl ?_
  refine ezs_getp (p := 13) rfl rfl rfl rfl rfl ?_
  refine ezw_call0_0 rfl (by omega) (ezu_at rfl) rfl rfl rfl rfl (ezt_m119_13n hS (by omega) cw wb) ?_
  rintro _ _ ⟨rfl, u2, hu2, an_1, rfl⟩
  refine ezw_lstore rfl rfl ?_
  refine ezw_aload_n rfl rfl ?_
  refine ezs_getp (p := 13) rfl rfl rfl rfl rfl ?_
  refine ezw_aload_n rfl rfl ?_
  refine ezs_getp (p := 30) rfl rfl rfl rfl rfl ?_
  refine ezw_iload_n rfl rfl ?_
  refine ezw_iload_n rfl rfl ?_
  refine ezw_iload_n rfl rfl ?_
  refine ezw_call0_4 rfl (by omega) (ezu_at rfl) rfl rfl rfl rfl (ezt_m120_13_30_v2n hS (by omega) ha2 ha3 tr nu hB cw wb cq qr) ?_
  rintro _ _ ⟨F3, rfl, hS, nF3, u4, hu4, c1_3, c0_3, t1_3, t0_3, rfl⟩
  refine ezw_istore rfl rfl ?_
  refine ezw_iload rfl rfl ?_
  refine ezw_if_eq rfl rfl ⟨by omega, by omega⟩ (fun h27_4 => ?_) (fun h27_4 => ?_)
  · refine ezw_iload rfl rfl ?_
    have w18_4 : F3 18 4 = (F 18 4) := by rw [nF3 18 4 (by decide)]
    exact ezw_ireturn rfl (ezw_zret ⟨by omega, by omega⟩) ⟨F3, A, rfl, hS, (fun p j h => by rw [nF3 p j (fun z => h (Or.inl ⟨z.1, z.2⟩))]), (fun _ _ => rfl), u4, ⟨by omega, by omega⟩, c1_3, c0_3, (by omega), (fun hu => ⟨t0_3 hu, (by rw [nF3 18 4 (by decide)]; exact uc.1), rfl⟩), rfl⟩
  · refine ezw_aload_n rfl rfl ?_
    refine ezs_getp (p := 18) rfl rfl rfl rfl rfl ?_
    refine ezw_lload rfl rfl ?_
    refine ezw_call0_1 rfl (by omega) (ezu_at rfl) rfl rfl rfl rfl (ezt_m130_18n hS (by omega) hu2 (by rw [nF3 18 4 (by decide)]; exact uc)) ?_
    rintro _ _ ⟨F5, A5, rfl, hS, nF5, nA5, n_5, r_5, rfl⟩
    refine ezw_iload rfl rfl ?_
    exact ezw_ireturn rfl (ezw_zret ⟨by omega, by omega⟩) ⟨F5, A5, rfl, hS, (fun p j h => by rw [nF5 p j (fun z => h (Or.inr ⟨z.1, z.2⟩)), nF3 p j (fun z => h (Or.inl ⟨z.1, z.2⟩))]), (fun p h => by
          funext j
          rw [nA5 p (fun z => h (z))]), u4, ⟨by omega, by omega⟩, c1_3, c0_3, (fun hu => ⟨ezn_C_f (t1_3 hu) (fun k hk => nF5 13 k (fun z => absurd z.1 (by decide))), n_5, fun k k0 k1 => by
          rw [← an_1]
          exact r_5 k k0 k1⟩), (by omega), rfl⟩
def ezt_m133_0n_fQ (b2 : Bool) (F : Nat → Nat → Int) (A : Nat → Int → Int) (y : ezp_D) (w : ezn_N) (qc : ezn_Q) (kU : Int) : Option ezq_V → (Nat → ezq_C) → Prop := fun v g' => ∃ (F' : Nat → Nat → Int) (A' : Nat → Int → Int), ezu_g (false, b2) F' A' = g' ∧ ezs_T F' A' ∧ (∀ p j, ¬ (p = 13 ∧ (j = 0 ∨ j = 1 ∨ j = 2 ∨ j = 3 ∨ j = 4 ∨ j = 5 ∨ j = 6) ∨ p = 18 ∧ (j = 4)) → F' p j = F p j) ∧ (∀ p, ¬ (p = 19) → A' p = A p) ∧ ∃ u : Int, (ezw_in u) ∧ (ezn_cS w → u = (ezn_sl w).ti) ∧ (¬ ezn_cS w → u = -1) ∧ (ezn_cS w → ezn_C 13 (ezn_sl w) F' ∧ F' 18 4 = ezn_pn kU ∧ ∀ k, 0 ≤ k → k < ezn_pn kU → A' 19 k = (if kU = 16 then (if k = 15 then ezn_pk w else A 19 (k + 1)) else (if k = kU then ezn_pk w else A 19 k))) ∧ (¬ ezn_cS w → ezn_C 13 w F' ∧ F' 18 4 = kU ∧ A' 19 = A 19) ∧ some (ezw_i u) = v
theorem ezt_m133_0n_f {b2 : Bool} {y : ezp_D} {w : ezn_N} {qc : ezn_Q} {kU : Int} {F : Nat → Nat → Int} {A : Nat → Int → Int} (hS : ezs_T F A) (hd : 3 ≤ d) (tr : ezt_TR 30 y F A) (nu : ezt_NU 30 y A) (hB : ezp_B y) (cw : ezn_C 13 w F) (wb : ezn_B y w) (cq : ezn_CQ qc y 30 A) (qr : ezn_QR qc) (uc : F 18 4 = kU ∧ 0 ≤ kU ∧ kU ≤ 16) : ezw_C l ρ B xa Hb D cA 133 d [ezw_p 0] (ezu_g (false, b2) F A) (ezt_m133_0n_fQ b2 F A y w qc kU) := by
  refine ezw_met (k := 0) rfl rfl ?_
  refine ezw_aload_n rfl rfl ?_
  refine ezw_iconst (2) rfl rfl ?_
  refine ezw_iconst (0) rfl rfl ?_
  refine ezw_iconst (0) rfl rfl ?_
  refine ezw_call0_3 rfl (by omega) (ezu_at rfl) rfl rfl rfl rfl (ezt_m118_0_v2n_f hS (by omega) ⟨by decide, by decide⟩ ⟨by decide, by decide⟩ tr nu hB cw wb cq qr uc) ?_
  rintro _ _ ⟨F1, A1, rfl, hS, nF1, nA1, u2, hu2, c1_1, c0_1, t1_1, t0_1, rfl⟩
  refine ezw_if_eq rfl rfl ⟨by omega, by omega⟩ (fun h7_2 => ?_) (fun h7_2 => ?_)
  · refine ezw_iconst (-1) rfl rfl ?_
    exact ezw_ireturn rfl rfl ⟨F1, A1, rfl, hS, (fun p j h => by rw [nF1 p j (fun z => h (z.elim (fun y => (Or.inl ⟨y.1, y.2⟩)) (fun y => (Or.inr ⟨y.1, y.2⟩))))]), (fun p h => by
          funext j
          rw [nA1 p (fun z => h (z))]), (-1), ⟨by decide, by decide⟩, (fun hc => absurd hc (by exact c0_1 (by omega))), (fun _ => rfl), (fun hc => absurd hc (by exact c0_1 (by omega))), (fun _ => t0_1 (by omega)), rfl⟩
  · refine ezw_aload_n rfl rfl ?_
    refine ezs_getp (p := 13) rfl rfl rfl rfl rfl ?_
    refine ezy_get_i hS rfl rfl rfl rfl rfl rfl (fun u3 hu3 ku3 eu3 => ?_)
    replace eu3 := eu3.symm
    subst eu3
    refine ezw_goto rfl rfl ?_
    exact ezw_ireturn rfl rfl ⟨F1, A1, rfl, hS, (fun p j h => by rw [nF1 p j (fun z => h (z.elim (fun y => (Or.inl ⟨y.1, y.2⟩)) (fun y => (Or.inr ⟨y.1, y.2⟩))))]), (fun p h => by
          funext j
          rw [nA1 p (fun z => h (z))]), (F1 13 1), hu3, (fun _ => (t1_1 (by omega)).1.2.1), (fun hn => absurd (by exact c1_1 (by omega)) hn), (fun _ => by exact t1_1 (by omega)), (fun hn => absurd (by exact c1_1 (by omega)) hn), rfl⟩
def ezt_m120_13_30_v3nQ (e : Bool × Bool) (F : Nat → Nat → Int) (A : Nat → Int → Int) (y : ezp_D) (w : ezn_N) (qc : ezn_Q) (a3 : Int) (a4 : Int) : Option ezq_V → (Nat → ezq_C) → Prop := fun v g' => ∃ (F' : Nat → Nat → Int), ezu_g e F' A = g' ∧ ezs_T F' A ∧ (∀ p j, ¬ (p = 13 ∧ (j = 0 ∨ j = 1 ∨ j = 2 ∨ j = 3 ∨ j = 4 ∨ j = 5 ∨ j = 6)) → F' p j = F p j) ∧ ∃ u : Int, (0 ≤ u ∧ u ≤ 1) ∧ (u = 1 → ezn_cL y w) ∧ (u = 0 → ¬ ezn_cL y w) ∧ (u = 1 → ezn_C 13 (ezn_off w (ezn_lo w.ov)) F') ∧ (u = 0 → ezn_C 13 w F') ∧ some (ezw_i u) = v
theorem ezt_m120_13_30_v3n {y : ezp_D} {w : ezn_N} {qc : ezn_Q} {a3 a4 : Int} {F : Nat → Nat → Int} {A : Nat → Int → Int} (hS : ezs_T F A) (hd : 4 ≤ d) (ha3 : ezw_in a3) (ha4 : ezw_in a4) (tr : ezt_TR 30 y F A) (nu : ezt_NU 30 y A) (hB : ezp_B y) (cw : ezn_C 13 w F) (wb : ezn_B y w) (cq : ezn_CQ qc y 30 A) (qr : ezn_QR qc) : ezw_C l ρ B xa Hb D cA 120 d [ezw_p 13, ezw_p 30, ezw_i (3), ezw_i a3, ezw_i a4] (ezu_g e F A) (ezt_m120_13_30_v3nQ e F A y w qc a3 a4) := by
  refine ezw_met (k := 0) rfl rfl ?_
  refine ezw_iload_n rfl rfl ?_
  refine ezw_tableswitchE (v := 3) (p := 73) rfl rfl (by rfl) ?_
  refine ezw_aload_n rfl rfl ?_
  refine ezw_aload_n rfl rfl ?_
  refine ezw_call0_1 rfl (by omega) (ezu_at rfl) rfl rfl rfl rfl (ezt_m124_13_30n hS (by omega) tr nu hB cw wb) ?_
  rintro _ _ ⟨F1, rfl, hS, nF1, u2, hu2, c1_1, c0_1, t1_1, t0_1, rfl⟩
  exact ezw_ireturn rfl (ezw_zret ⟨by omega, by omega⟩) ⟨F1, rfl, hS, (fun p j h => by rw [nF1 p j (fun z => h (⟨z.1, (z.2.elim (fun y => (Or.inl y)) (fun y => (y.elim (fun y => (Or.inr (Or.inl y))) (fun y => (Or.inr (Or.inr (Or.inr (Or.inr (Or.inl y)))))))))⟩))]), u2, ⟨by omega, by omega⟩, c1_1, c0_1, t1_1, t0_1, rfl⟩
def ezt_m118_0_v3n_fQ (b2 : Bool) (F : Nat → Nat → Int) (A : Nat → Int → Int) (y : ezp_D) (w : ezn_N) (qc : ezn_Q) (kU : Int) (a2 : Int) (a3 : Int) : Option ezq_V → (Nat → ezq_C) → Prop := fun v g' => ∃ (F' : Nat → Nat → Int) (A' : Nat → Int → Int), ezu_g (false, b2) F' A' = g' ∧ ezs_T F' A' ∧ (∀ p j, ¬ (p = 13 ∧ (j = 0 ∨ j = 1 ∨ j = 2 ∨ j = 3 ∨ j = 4 ∨ j = 5 ∨ j = 6) ∨ p = 18 ∧ (j = 4)) → F' p j = F p j) ∧ (∀ p, ¬ (p = 19) → A' p = A p) ∧ ∃ u : Int, (0 ≤ u ∧ u ≤ 1) ∧ (u = 1 → ezn_cL y w) ∧ (u = 0 → ¬ ezn_cL y w) ∧ (u = 1 → ezn_C 13 (ezn_off w (ezn_lo w.ov)) F' ∧ F' 18 4 = ezn_pn kU ∧ ∀ k, 0 ≤ k → k < ezn_pn kU → A' 19 k = (if kU = 16 then (if k = 15 then ezn_pk w else A 19 (k + 1)) else (if k = kU then ezn_pk w else A 19 k))) ∧ (u = 0 → ezn_C 13 w F' ∧ F' 18 4 = kU ∧ A' 19 = A 19) ∧ some (ezw_i u) = v
theorem ezt_m118_0_v3n_f {b2 : Bool} {y : ezp_D} {w : ezn_N} {qc : ezn_Q} {kU : Int} {a2 a3 : Int} {F : Nat → Nat → Int} {A : Nat → Int → Int} (hS : ezs_T F A) (hd : 5 ≤ d) (ha2 : ezw_in a2) (ha3 : ezw_in a3) (tr : ezt_TR 30 y F A) (nu : ezt_NU 30 y A) (hB : ezp_B y) (cw : ezn_C 13 w F) (wb : ezn_B y w) (cq : ezn_CQ qc y 30 A) (qr : ezn_QR qc) (uc : F 18 4 = kU ∧ 0 ≤ kU ∧ kU ≤ 16) : ezw_C l ρ B xa Hb D cA 118 d [ezw_p 0, ezw_i (3), ezw_i a2, ezw_i a3] (ezu_g (false, b2) F A) (ezt_m118_0_v3n_fQ b2 F A y w qc kU a2 a3) := by
  refine ezw_met (k := 3) rfl rfl ?_
  refine ezw_aload_n rfl rfl ?_
  refine ezs_getp (p := 13) rfl rfl rfl rfl rfl ?_
  refine ezw_call0_0 rfl (by omega) (ezu_at rfl) rfl rfl rfl rfl (ezt_m119_13n hS (by omega) cw wb) ?_
  rintro _ _ ⟨rfl, u2, hu2, an_1, rfl⟩
  refine ezw_lstore rfl rfl ?_
  refine ezw_aload_n rfl rfl ?_
  refine ezs_getp (p := 13) rfl rfl rfl rfl rfl ?_
  refine ezw_aload_n rfl rfl ?_
  refine ezs_getp (p := 30) rfl rfl rfl rfl rfl ?_
  refine ezw_iload_n rfl rfl ?_
  refine ezw_iload_n rfl rfl ?_
  refine ezw_iload_n rfl rfl ?_
  refine ezw_call0_4 rfl (by omega) (ezu_at rfl) rfl rfl rfl rfl (ezt_m120_13_30_v3n hS (by omega) ha2 ha3 tr nu hB cw wb cq qr) ?_
  rintro _ _ ⟨F3, rfl, hS, nF3, u4, hu4, c1_3, c0_3, t1_3, t0_3, rfl⟩
  refine ezw_istore rfl rfl ?_
  refine ezw_iload rfl rfl ?_
  refine ezw_if_eq rfl rfl ⟨by omega, by omega⟩ (fun h27_4 => ?_) (fun h27_4 => ?_)
  · refine ezw_iload rfl rfl ?_
    have w18_4 : F3 18 4 = (F 18 4) := by rw [nF3 18 4 (by decide)]
    exact ezw_ireturn rfl (ezw_zret ⟨by omega, by omega⟩) ⟨F3, A, rfl, hS, (fun p j h => by rw [nF3 p j (fun z => h (Or.inl ⟨z.1, z.2⟩))]), (fun _ _ => rfl), u4, ⟨by omega, by omega⟩, c1_3, c0_3, (by omega), (fun hu => ⟨t0_3 hu, (by rw [nF3 18 4 (by decide)]; exact uc.1), rfl⟩), rfl⟩
  · refine ezw_aload_n rfl rfl ?_
    refine ezs_getp (p := 18) rfl rfl rfl rfl rfl ?_
    refine ezw_lload rfl rfl ?_
    refine ezw_call0_1 rfl (by omega) (ezu_at rfl) rfl rfl rfl rfl (ezt_m130_18n hS (by omega) hu2 (by rw [nF3 18 4 (by decide)]; exact uc)) ?_
    rintro _ _ ⟨F5, A5, rfl, hS, nF5, nA5, n_5, r_5, rfl⟩
    refine ezw_iload rfl rfl ?_
    exact ezw_ireturn rfl (ezw_zret ⟨by omega, by omega⟩) ⟨F5, A5, rfl, hS, (fun p j h => by rw [nF5 p j (fun z => h (Or.inr ⟨z.1, z.2⟩)), nF3 p j (fun z => h (Or.inl ⟨z.1, z.2⟩))]), (fun p h => by
          funext j
          rw [nA5 p (fun z => h (z))]), u4, ⟨by omega, by omega⟩, c1_3, c0_3, (fun hu => ⟨ezn_C_f (t1_3 hu) (fun k hk => nF5 13 k (fun z => absurd z.1 (by decide))), n_5, fun k k0 k1 => by
          rw [← an_1]
          exact r_5 k k0 k1⟩), (by omega), rfl⟩
def ezt_m134_0n_fQ (b2 : Bool) (F : Nat → Nat → Int) (A : Nat → Int → Int) (y : ezp_D) (w : ezn_N) (qc : ezn_Q) (kU : Int) : Option ezq_V → (Nat → ezq_C) → Prop := fun v g' => ∃ (F' : Nat → Nat → Int) (A' : Nat → Int → Int), ezu_g (false, b2) F' A' = g' ∧ ezs_T F' A' ∧ (∀ p j, ¬ (p = 13 ∧ (j = 0 ∨ j = 1 ∨ j = 2 ∨ j = 3 ∨ j = 4 ∨ j = 5 ∨ j = 6) ∨ p = 18 ∧ (j = 4)) → F' p j = F p j) ∧ (∀ p, ¬ (p = 19) → A' p = A p) ∧ ∃ u : Int, (0 ≤ u ∧ u ≤ 1) ∧ (ezn_cL y w → u = 1) ∧ (¬ ezn_cL y w → u = 0) ∧ (ezn_cL y w → ezn_C 13 (ezn_off w (ezn_lo w.ov)) F' ∧ F' 18 4 = ezn_pn kU ∧ ∀ k, 0 ≤ k → k < ezn_pn kU → A' 19 k = (if kU = 16 then (if k = 15 then ezn_pk w else A 19 (k + 1)) else (if k = kU then ezn_pk w else A 19 k))) ∧ (¬ ezn_cL y w → ezn_C 13 w F' ∧ F' 18 4 = kU ∧ A' 19 = A 19) ∧ some (ezw_i u) = v
theorem ezt_m134_0n_f {b2 : Bool} {y : ezp_D} {w : ezn_N} {qc : ezn_Q} {kU : Int} {F : Nat → Nat → Int} {A : Nat → Int → Int} (hS : ezs_T F A) (hd : 6 ≤ d) (tr : ezt_TR 30 y F A) (nu : ezt_NU 30 y A) (hB : ezp_B y) (cw : ezn_C 13 w F) (wb : ezn_B y w) (cq : ezn_CQ qc y 30 A) (qr : ezn_QR qc) (uc : F 18 4 = kU ∧ 0 ≤ kU ∧ kU ≤ 16) : ezw_C l ρ B xa Hb D cA 134 d [ezw_p 0] (ezu_g (false, b2) F A) (ezt_m134_0n_fQ b2 F A y w qc kU) := by
  refine ezw_met (k := 0) rfl rfl ?_
  refine ezw_aload_n rfl rfl ?_
  refine ezw_iconst (3) rfl rfl ?_
  refine ezw_iconst (0) rfl rfl ?_
  refine ezw_iconst (0) rfl rfl ?_
  refine ezw_call0_3 rfl (by omega) (ezu_at rfl) rfl rfl rfl rfl (ezt_m118_0_v3n_f hS (by omega) ⟨by decide, by decide⟩ ⟨by decide, by decide⟩ tr nu hB cw wb cq qr uc) ?_
  rintro _ _ ⟨F1, A1, rfl, hS, nF1, nA1, u2, hu2, c1_1, c0_1, t1_1, t0_1, rfl⟩
  exact ezw_ireturn rfl (ezw_zret ⟨by omega, by omega⟩) ⟨F1, A1, rfl, hS, (fun p j h => by rw [nF1 p j (fun z => h (z.elim (fun y => (Or.inl ⟨y.1, y.2⟩)) (fun y => (Or.inr ⟨y.1, y.2⟩))))]), (fun p h => by
        funext j
        rw [nA1 p (fun z => h (z))]), u2, ⟨by omega, by omega⟩, (fun hc => by
        rcases (show u2 = 0 ∨ u2 = 1 by omega) with h | h
        · exact absurd hc (by exact c0_1 h)
        · exact h), (fun hn => by
        rcases (show u2 = 0 ∨ u2 = 1 by omega) with h | h
        · exact h
        · exact absurd (by exact c1_1 h) hn), (fun hc => by
        rcases (show u2 = 0 ∨ u2 = 1 by omega) with h | h
        · exact absurd hc (by exact c0_1 h)
        · exact t1_1 h), (fun hn => by
        rcases (show u2 = 0 ∨ u2 = 1 by omega) with h | h
        · exact t0_1 h
        · exact absurd (by exact c1_1 h) hn), rfl⟩
def ezt_m120_13_30_v4nQ (e : Bool × Bool) (F : Nat → Nat → Int) (A : Nat → Int → Int) (y : ezp_D) (w : ezn_N) (qc : ezn_Q) (a3 : Int) (a4 : Int) : Option ezq_V → (Nat → ezq_C) → Prop := fun v g' => ∃ (F' : Nat → Nat → Int), ezu_g e F' A = g' ∧ ezs_T F' A ∧ (∀ p j, ¬ (p = 13 ∧ (j = 0 ∨ j = 1 ∨ j = 2 ∨ j = 3 ∨ j = 4 ∨ j = 5 ∨ j = 6)) → F' p j = F p j) ∧ ∃ u : Int, (0 ≤ u ∧ u ≤ 1) ∧ (u = 1 → ezn_cH y w a3 a4) ∧ (u = 0 → ¬ ezn_cH y w a3 a4) ∧ (u = 1 → ezn_C 13 (ezn_tH w a3 a4) F') ∧ (u = 0 → ezn_C 13 w F') ∧ some (ezw_i u) = v
theorem ezt_m120_13_30_v4n {y : ezp_D} {w : ezn_N} {qc : ezn_Q} {a3 a4 : Int} {F : Nat → Nat → Int} {A : Nat → Int → Int} (hS : ezs_T F A) (hd : 4 ≤ d) (ha3 : ezw_in a3) (ha4 : ezw_in a4) (tr : ezt_TR 30 y F A) (nu : ezt_NU 30 y A) (hB : ezp_B y) (cw : ezn_C 13 w F) (wb : ezn_B y w) (cq : ezn_CQ qc y 30 A) (qr : ezn_QR qc) : ezw_C l ρ B xa Hb D cA 120 d [ezw_p 13, ezw_p 30, ezw_i (4), ezw_i a3, ezw_i a4] (ezu_g e F A) (ezt_m120_13_30_v4nQ e F A y w qc a3 a4) := by
  refine ezw_met (k := 0) rfl rfl ?_
  refine ezw_iload_n rfl rfl ?_
  refine ezw_tableswitchE (v := 4) (p := 79) rfl rfl (by rfl) ?_
  refine ezw_aload_n rfl rfl ?_
  refine ezw_aload_n rfl rfl ?_
  refine ezw_iload_n rfl rfl ?_
  refine ezw_iload rfl rfl ?_
  refine ezw_call0_3 rfl (by omega) (ezu_at rfl) rfl rfl rfl rfl (ezt_m125_13_30n hS (by omega) ha3 ha4 tr nu hB cw wb) ?_
  rintro _ _ ⟨F1, rfl, hS, nF1, u2, hu2, c1_1, c0_1, t1_1, t0_1, rfl⟩
  exact ezw_ireturn rfl (ezw_zret ⟨by omega, by omega⟩) ⟨F1, rfl, hS, (fun p j h => by rw [nF1 p j (fun z => h (⟨z.1, (z.2.elim (fun y => (Or.inl y)) (fun y => (y.elim (fun y => (Or.inr (Or.inl y))) (fun y => (y.elim (fun y => (Or.inr (Or.inr (Or.inr (Or.inr (Or.inl y)))))) (fun y => (Or.inr (Or.inr (Or.inr (Or.inr (Or.inr (Or.inr y))))))))))))⟩))]), u2, ⟨by omega, by omega⟩, c1_1, c0_1, t1_1, t0_1, rfl⟩
def ezt_m118_0_v4n_fQ (b2 : Bool) (F : Nat → Nat → Int) (A : Nat → Int → Int) (y : ezp_D) (w : ezn_N) (qc : ezn_Q) (kU : Int) (a2 : Int) (a3 : Int) : Option ezq_V → (Nat → ezq_C) → Prop := fun v g' => ∃ (F' : Nat → Nat → Int) (A' : Nat → Int → Int), ezu_g (false, b2) F' A' = g' ∧ ezs_T F' A' ∧ (∀ p j, ¬ (p = 13 ∧ (j = 0 ∨ j = 1 ∨ j = 2 ∨ j = 3 ∨ j = 4 ∨ j = 5 ∨ j = 6) ∨ p = 18 ∧ (j = 4)) → F' p j = F p j) ∧ (∀ p, ¬ (p = 19) → A' p = A p) ∧ ∃ u : Int, (0 ≤ u ∧ u ≤ 1) ∧ (u = 1 → ezn_cH y w a2 a3) ∧ (u = 0 → ¬ ezn_cH y w a2 a3) ∧ (u = 1 → ezn_C 13 (ezn_tH w a2 a3) F' ∧ F' 18 4 = ezn_pn kU ∧ ∀ k, 0 ≤ k → k < ezn_pn kU → A' 19 k = (if kU = 16 then (if k = 15 then ezn_pk w else A 19 (k + 1)) else (if k = kU then ezn_pk w else A 19 k))) ∧ (u = 0 → ezn_C 13 w F' ∧ F' 18 4 = kU ∧ A' 19 = A 19) ∧ some (ezw_i u) = v
theorem ezt_m118_0_v4n_f {b2 : Bool} {y : ezp_D} {w : ezn_N} {qc : ezn_Q} {kU : Int} {a2 a3 : Int} {F : Nat → Nat → Int} {A : Nat → Int → Int} (hS : ezs_T F A) (hd : 5 ≤ d) (ha2 : ezw_in a2) (ha3 : ezw_in a3) (tr : ezt_TR 30 y F A) (nu : ezt_NU 30 y A) (hB : ezp_B y) (cw : ezn_C 13 w F) (wb : ezn_B y w) (cq : ezn_CQ qc y 30 A) (qr : ezn_QR qc) (uc : F 18 4 = kU ∧ 0 ≤ kU ∧ kU ≤ 16) : ezw_C l ρ B xa Hb D cA 118 d [ezw_p 0, ezw_i (4), ezw_i a2, ezw_i a3] (ezu_g (false, b2) F A) (ezt_m118_0_v4n_fQ b2 F A y w qc kU a2 a3) := by
  refine ezw_met (k := 3) rfl rfl ?_
  refine ezw_aload_n rfl rfl ?_
  refine ezs_getp (p := 13) rfl rfl rfl rfl rfl ?_
  refine ezw_call0_0 rfl (by omega) (ezu_at rfl) rfl rfl rfl rfl (ezt_m119_13n hS (by omega) cw wb) ?_
  rintro _ _ ⟨rfl, u2, hu2, an_1, rfl⟩
  refine ezw_lstore rfl rfl ?_
  refine ezw_aload_n rfl rfl ?_
  refine ezs_getp (p := 13) rfl rfl rfl rfl rfl ?_
  refine ezw_aload_n rfl rfl ?_
  refine ezs_getp (p := 30) rfl rfl rfl rfl rfl ?_
  refine ezw_iload_n rfl rfl ?_
  refine ezw_iload_n rfl rfl ?_
  refine ezw_iload_n rfl rfl ?_
  refine ezw_call0_4 rfl (by omega) (ezu_at rfl) rfl rfl rfl rfl (ezt_m120_13_30_v4n hS (by omega) ha2 ha3 tr nu hB cw wb cq qr) ?_
  rintro _ _ ⟨F3, rfl, hS, nF3, u4, hu4, c1_3, c0_3, t1_3, t0_3, rfl⟩
  refine ezw_istore rfl rfl ?_
  refine ezw_iload rfl rfl ?_
  refine ezw_if_eq rfl rfl ⟨by omega, by omega⟩ (fun h27_4 => ?_) (fun h27_4 => ?_)
  · refine ezw_iload rfl rfl ?_
    have w18_4 : F3 18 4 = (F 18 4) := by rw [nF3 18 4 (by decide)]
    exact ezw_ireturn rfl (ezw_zret ⟨by omega, by omega⟩) ⟨F3, A, rfl, hS, (fun p j h => by rw [nF3 p j (fun z => h (Or.inl ⟨z.1, z.2⟩))]), (fun _ _ => rfl), u4, ⟨by omega, by omega⟩, c1_3, c0_3, (by omega), (fun hu => ⟨t0_3 hu, (by rw [nF3 18 4 (by decide)]; exact uc.1), rfl⟩), rfl⟩
  · refine ezw_aload_n rfl rfl ?_
    refine ezs_getp (p := 18) rfl rfl rfl rfl rfl ?_
    refine ezw_lload rfl rfl ?_
    refine ezw_call0_1 rfl (by omega) (ezu_at rfl) rfl rfl rfl rfl (ezt_m130_18n hS (by omega) hu2 (by rw [nF3 18 4 (by decide)]; exact uc)) ?_
    rintro _ _ ⟨F5, A5, rfl, hS, nF5, nA5, n_5, r_5, rfl⟩
    refine ezw_iload rfl rfl ?_
    exact ezw_ireturn rfl (ezw_zret ⟨by omega, by omega⟩) ⟨F5, A5, rfl, hS, (fun p j h => by rw [nF5 p j (fun z => h (Or.inr ⟨z.1, z.2⟩)), nF3 p j (fun z => h (Or.inl ⟨z.1, z.2⟩))]), (fun p h => by
          funext j
          rw [nA5 p (fun z => h (z))]), u4, ⟨by omega, by omega⟩, c1_3, c0_3, (fun hu => ⟨ezn_C_f (t1_3 hu) (fun k hk => nF5 13 k (fun z => absurd z.1 (by decide))), n_5, fun k k0 k1 => by
          rw [← an_1]
          exact r_5 k k0 k1⟩), (by omega), rfl⟩
def ezt_m135_0n_fQ (b2 : Bool) (F : Nat → Nat → Int) (A : Nat → Int → Int) (y : ezp_D) (w : ezn_N) (qc : ezn_Q) (kU : Int) (a1 : Int) (a2 : Int) : Option ezq_V → (Nat → ezq_C) → Prop := fun v g' => ∃ (F' : Nat → Nat → Int) (A' : Nat → Int → Int), ezu_g (false, b2) F' A' = g' ∧ ezs_T F' A' ∧ (∀ p j, ¬ (p = 13 ∧ (j = 0 ∨ j = 1 ∨ j = 2 ∨ j = 3 ∨ j = 4 ∨ j = 5 ∨ j = 6) ∨ p = 18 ∧ (j = 4)) → F' p j = F p j) ∧ (∀ p, ¬ (p = 19) → A' p = A p) ∧ ∃ u : Int, (ezw_in u) ∧ (ezn_cH y w a1 a2 → u = (ezn_cn (ezn_tH w a1 a2).ov)) ∧ (¬ ezn_cH y w a1 a2 → u = -1) ∧ (ezn_cH y w a1 a2 → ezn_C 13 (ezn_tH w a1 a2) F' ∧ F' 18 4 = ezn_pn kU ∧ ∀ k, 0 ≤ k → k < ezn_pn kU → A' 19 k = (if kU = 16 then (if k = 15 then ezn_pk w else A 19 (k + 1)) else (if k = kU then ezn_pk w else A 19 k))) ∧ (¬ ezn_cH y w a1 a2 → ezn_C 13 w F' ∧ F' 18 4 = kU ∧ A' 19 = A 19) ∧ some (ezw_i u) = v
theorem ezt_m135_0n_f {b2 : Bool} {y : ezp_D} {w : ezn_N} {qc : ezn_Q} {kU : Int} {a1 a2 : Int} {F : Nat → Nat → Int} {A : Nat → Int → Int} (hS : ezs_T F A) (hd : 6 ≤ d) (ha1 : ezw_in a1) (ha2 : ezw_in a2) (tr : ezt_TR 30 y F A) (nu : ezt_NU 30 y A) (hB : ezp_B y) (cw : ezn_C 13 w F) (wb : ezn_B y w) (cq : ezn_CQ qc y 30 A) (qr : ezn_QR qc) (uc : F 18 4 = kU ∧ 0 ≤ kU ∧ kU ≤ 16) : ezw_C l ρ B xa Hb D cA 135 d [ezw_p 0, ezw_i a1, ezw_i a2] (ezu_g (false, b2) F A) (ezt_m135_0n_fQ b2 F A y w qc kU a1 a2) := by
  refine ezw_met (k := 0) rfl rfl ?_
  refine ezw_aload_n rfl rfl ?_
  refine ezw_iconst (4) rfl rfl ?_
  refine ezw_iload_n rfl rfl ?_
  refine ezw_iload_n rfl rfl ?_
  refine ezw_call0_3 rfl (by omega) (ezu_at rfl) rfl rfl rfl rfl (ezt_m118_0_v4n_f hS (by omega) ha1 ha2 tr nu hB cw wb cq qr uc) ?_
  rintro _ _ ⟨F1, A1, rfl, hS, nF1, nA1, u2, hu2, c1_1, c0_1, t1_1, t0_1, rfl⟩
  refine ezw_if_eq rfl rfl ⟨by omega, by omega⟩ (fun h7_2 => ?_) (fun h7_2 => ?_)
  · refine ezw_iconst (-1) rfl rfl ?_
    exact ezw_ireturn rfl rfl ⟨F1, A1, rfl, hS, (fun p j h => by rw [nF1 p j (fun z => h (z.elim (fun y => (Or.inl ⟨y.1, y.2⟩)) (fun y => (Or.inr ⟨y.1, y.2⟩))))]), (fun p h => by
          funext j
          rw [nA1 p (fun z => h (z))]), (-1), ⟨by decide, by decide⟩, (fun hc => absurd hc (by exact c0_1 (by omega))), (fun _ => rfl), (fun hc => absurd hc (by exact c0_1 (by omega))), (fun _ => t0_1 (by omega)), rfl⟩
  · refine ezw_aload_n rfl rfl ?_
    refine ezs_getp (p := 13) rfl rfl rfl rfl rfl ?_
    refine ezw_call0_0 rfl (by omega) (ezu_at rfl) rfl rfl rfl rfl (ezt_m131_13n (w := (ezn_tH w a1 a2)) hS (by omega) (t1_1 (by omega)).1 (ezn_B_tH hB wb (c1_1 (by omega)))) ?_
    rintro _ _ ⟨rfl, u4, hu4, an_3, rfl⟩
    refine ezw_goto rfl rfl ?_
    exact ezw_ireturn rfl rfl ⟨F1, A1, rfl, hS, (fun p j h => by rw [nF1 p j (fun z => h (z.elim (fun y => (Or.inl ⟨y.1, y.2⟩)) (fun y => (Or.inr ⟨y.1, y.2⟩))))]), (fun p h => by
          funext j
          rw [nA1 p (fun z => h (z))]), u4, hu4, (fun _ => by exact an_3), (fun hn => absurd (by exact c1_1 (by omega)) hn), (fun _ => by exact t1_1 (by omega)), (fun hn => absurd (by exact c1_1 (by omega)) hn), rfl⟩
def ezt_m120_13_30_v5nQ (e : Bool × Bool) (F : Nat → Nat → Int) (A : Nat → Int → Int) (y : ezp_D) (w : ezn_N) (qc : ezn_Q) (a3 : Int) (a4 : Int) : Option ezq_V → (Nat → ezq_C) → Prop := fun v g' => ∃ (F' : Nat → Nat → Int), ezu_g e F' A = g' ∧ ezs_T F' A ∧ (∀ p j, ¬ (p = 13 ∧ (j = 0 ∨ j = 1 ∨ j = 2 ∨ j = 3 ∨ j = 4 ∨ j = 5 ∨ j = 6)) → F' p j = F p j) ∧ ∃ u : Int, (0 ≤ u ∧ u ≤ 1) ∧ (u = 1 → ezn_cC y w a3 0) ∧ (u = 0 → ¬ ezn_cC y w a3 0) ∧ (u = 1 → ezn_C 13 (ezn_off w (ezn_ps y w a3 6)) F') ∧ (u = 0 → ezn_C 13 w F') ∧ some (ezw_i u) = v
theorem ezt_m120_13_30_v5n {y : ezp_D} {w : ezn_N} {qc : ezn_Q} {a3 a4 : Int} {F : Nat → Nat → Int} {A : Nat → Int → Int} (hS : ezs_T F A) (hd : 4 ≤ d) (ha3 : ezw_in a3) (ha4 : ezw_in a4) (tr : ezt_TR 30 y F A) (nu : ezt_NU 30 y A) (hB : ezp_B y) (cw : ezn_C 13 w F) (wb : ezn_B y w) (cq : ezn_CQ qc y 30 A) (qr : ezn_QR qc) : ezw_C l ρ B xa Hb D cA 120 d [ezw_p 13, ezw_p 30, ezw_i (5), ezw_i a3, ezw_i a4] (ezu_g e F A) (ezt_m120_13_30_v5nQ e F A y w qc a3 a4) := by
  refine ezw_met (k := 0) rfl rfl ?_
  refine ezw_iload_n rfl rfl ?_
  refine ezw_tableswitchE (v := 5) (p := 88) rfl rfl (by rfl) ?_
  refine ezw_aload_n rfl rfl ?_
  refine ezw_aload_n rfl rfl ?_
  refine ezw_iload_n rfl rfl ?_
  refine ezw_iconst (0) rfl rfl ?_
  refine ezw_call0_3 rfl (by omega) (ezu_at rfl) rfl rfl rfl rfl (ezt_m126_13_30n hS (by omega) ha3 ⟨by decide, by decide⟩ tr nu hB cw wb (by omega)) ?_
  rintro _ _ ⟨F1, rfl, hS, nF1, u2, hu2, c1_1, c0_1, t1_1, t0_1, rfl⟩
  exact ezw_ireturn rfl (ezw_zret ⟨by omega, by omega⟩) ⟨F1, rfl, hS, (fun p j h => by rw [nF1 p j (fun z => h (⟨z.1, (z.2.elim (fun y => (Or.inl y)) (fun y => (y.elim (fun y => (Or.inr (Or.inl y))) (fun y => (Or.inr (Or.inr (Or.inr (Or.inr (Or.inl y)))))))))⟩))]), u2, ⟨by omega, by omega⟩, c1_1, c0_1, t1_1, t0_1, rfl⟩
def ezt_m118_0_v5n_fQ (b2 : Bool) (F : Nat → Nat → Int) (A : Nat → Int → Int) (y : ezp_D) (w : ezn_N) (qc : ezn_Q) (kU : Int) (a2 : Int) (a3 : Int) : Option ezq_V → (Nat → ezq_C) → Prop := fun v g' => ∃ (F' : Nat → Nat → Int) (A' : Nat → Int → Int), ezu_g (false, b2) F' A' = g' ∧ ezs_T F' A' ∧ (∀ p j, ¬ (p = 13 ∧ (j = 0 ∨ j = 1 ∨ j = 2 ∨ j = 3 ∨ j = 4 ∨ j = 5 ∨ j = 6) ∨ p = 18 ∧ (j = 4)) → F' p j = F p j) ∧ (∀ p, ¬ (p = 19) → A' p = A p) ∧ ∃ u : Int, (0 ≤ u ∧ u ≤ 1) ∧ (u = 1 → ezn_cC y w a2 0) ∧ (u = 0 → ¬ ezn_cC y w a2 0) ∧ (u = 1 → ezn_C 13 (ezn_off w (ezn_ps y w a2 6)) F' ∧ F' 18 4 = ezn_pn kU ∧ ∀ k, 0 ≤ k → k < ezn_pn kU → A' 19 k = (if kU = 16 then (if k = 15 then ezn_pk w else A 19 (k + 1)) else (if k = kU then ezn_pk w else A 19 k))) ∧ (u = 0 → ezn_C 13 w F' ∧ F' 18 4 = kU ∧ A' 19 = A 19) ∧ some (ezw_i u) = v
theorem ezt_m118_0_v5n_f {b2 : Bool} {y : ezp_D} {w : ezn_N} {qc : ezn_Q} {kU : Int} {a2 a3 : Int} {F : Nat → Nat → Int} {A : Nat → Int → Int} (hS : ezs_T F A) (hd : 5 ≤ d) (ha2 : ezw_in a2) (ha3 : ezw_in a3) (tr : ezt_TR 30 y F A) (nu : ezt_NU 30 y A) (hB : ezp_B y) (cw : ezn_C 13 w F) (wb : ezn_B y w) (cq : ezn_CQ qc y 30 A) (qr : ezn_QR qc) (uc : F 18 4 = kU ∧ 0 ≤ kU ∧ kU ≤ 16) : ezw_C l ρ B xa Hb D cA 118 d [ezw_p 0, ezw_i (5), ezw_i a2, ezw_i a3] (ezu_g (false, b2) F A) (ezt_m118_0_v5n_fQ b2 F A y w qc kU a2 a3) := by
  refine ezw_met (k := 3) rfl rfl ?_
  refine ezw_aload_n rfl rfl ?_
  refine ezs_getp (p := 13) rfl rfl rfl rfl rfl ?_
  refine ezw_call0_0 rfl (by omega) (ezu_at rfl) rfl rfl rfl rfl (ezt_m119_13n hS (by omega) cw wb) ?_
  rintro _ _ ⟨rfl, u2, hu2, an_1, rfl⟩
  refine ezw_lstore rfl rfl ?_
  refine ezw_aload_n rfl rfl ?_
  refine ezs_getp (p := 13) rfl rfl rfl rfl rfl ?_
  refine ezw_aload_n rfl rfl ?_
  refine ezs_getp (p := 30) rfl rfl rfl rfl rfl ?_
  refine ezw_iload_n rfl rfl ?_
  refine ezw_iload_n rfl rfl ?_
  refine ezw_iload_n rfl rfl ?_
  refine ezw_call0_4 rfl (by omega) (ezu_at rfl) rfl rfl rfl rfl (ezt_m120_13_30_v5n hS (by omega) ha2 ha3 tr nu hB cw wb cq qr) ?_
  rintro _ _ ⟨F3, rfl, hS, nF3, u4, hu4, c1_3, c0_3, t1_3, t0_3, rfl⟩
  refine ezw_istore rfl rfl ?_
  refine ezw_iload rfl rfl ?_
  refine ezw_if_eq rfl rfl ⟨by omega, by omega⟩ (fun h27_4 => ?_) (fun h27_4 => ?_)
  · refine ezw_iload rfl rfl ?_
    have w18_4 : F3 18 4 = (F 18 4) := by rw [nF3 18 4 (by decide)]
    exact ezw_ireturn rfl (ezw_zret ⟨by omega, by omega⟩) ⟨F3, A, rfl, hS, (fun p j h => by rw [nF3 p j (fun z => h (Or.inl ⟨z.1, z.2⟩))]), (fun _ _ => rfl), u4, ⟨by omega, by omega⟩, c1_3, c0_3, (by omega), (fun hu => ⟨t0_3 hu, (by rw [nF3 18 4 (by decide)]; exact uc.1), rfl⟩), rfl⟩
  · refine ezw_aload_n rfl rfl ?_
    refine ezs_getp (p := 18) rfl rfl rfl rfl rfl ?_
    refine ezw_lload rfl rfl ?_
    refine ezw_call0_1 rfl (by omega) (ezu_at rfl) rfl rfl rfl rfl (ezt_m130_18n hS (by omega) hu2 (by rw [nF3 18 4 (by decide)]; exact uc)) ?_
    rintro _ _ ⟨F5, A5, rfl, hS, nF5, nA5, n_5, r_5, rfl⟩
    refine ezw_iload rfl rfl ?_
    exact ezw_ireturn rfl (ezw_zret ⟨by omega, by omega⟩) ⟨F5, A5, rfl, hS, (fun p j h => by rw [nF5 p j (fun z => h (Or.inr ⟨z.1, z.2⟩)), nF3 p j (fun z => h (Or.inl ⟨z.1, z.2⟩))]), (fun p h => by
          funext j
          rw [nA5 p (fun z => h (z))]), u4, ⟨by omega, by omega⟩, c1_3, c0_3, (fun hu => ⟨ezn_C_f (t1_3 hu) (fun k hk => nF5 13 k (fun z => absurd z.1 (by decide))), n_5, fun k k0 k1 => by
          rw [← an_1]
          exact r_5 k k0 k1⟩), (by omega), rfl⟩
def ezt_m120_13_30_v6nQ (e : Bool × Bool) (F : Nat → Nat → Int) (A : Nat → Int → Int) (y : ezp_D) (w : ezn_N) (qc : ezn_Q) (a3 : Int) (a4 : Int) : Option ezq_V → (Nat → ezq_C) → Prop := fun v g' => ∃ (F' : Nat → Nat → Int), ezu_g e F' A = g' ∧ ezs_T F' A ∧ (∀ p j, ¬ (p = 13 ∧ (j = 0 ∨ j = 1 ∨ j = 2 ∨ j = 3 ∨ j = 4 ∨ j = 5 ∨ j = 6)) → F' p j = F p j) ∧ ∃ u : Int, (0 ≤ u ∧ u ≤ 1) ∧ (u = 1 → ezn_cC y w a3 1) ∧ (u = 0 → ¬ ezn_cC y w a3 1) ∧ (u = 1 → ezn_C 13 (ezn_off w (ezn_ps y w a3 6)) F') ∧ (u = 0 → ezn_C 13 w F') ∧ some (ezw_i u) = v
theorem ezt_m120_13_30_v6n {y : ezp_D} {w : ezn_N} {qc : ezn_Q} {a3 a4 : Int} {F : Nat → Nat → Int} {A : Nat → Int → Int} (hS : ezs_T F A) (hd : 4 ≤ d) (ha3 : ezw_in a3) (ha4 : ezw_in a4) (tr : ezt_TR 30 y F A) (nu : ezt_NU 30 y A) (hB : ezp_B y) (cw : ezn_C 13 w F) (wb : ezn_B y w) (cq : ezn_CQ qc y 30 A) (qr : ezn_QR qc) : ezw_C l ρ B xa Hb D cA 120 d [ezw_p 13, ezw_p 30, ezw_i (6), ezw_i a3, ezw_i a4] (ezu_g e F A) (ezt_m120_13_30_v6nQ e F A y w qc a3 a4) := by
  refine ezw_met (k := 0) rfl rfl ?_
  refine ezw_iload_n rfl rfl ?_
  refine ezw_tableswitchE (v := 6) (p := 96) rfl rfl (by rfl) ?_
  refine ezw_aload_n rfl rfl ?_
  refine ezw_aload_n rfl rfl ?_
  refine ezw_iload_n rfl rfl ?_
  refine ezw_iconst (1) rfl rfl ?_
  refine ezw_call0_3 rfl (by omega) (ezu_at rfl) rfl rfl rfl rfl (ezt_m126_13_30n hS (by omega) ha3 ⟨by decide, by decide⟩ tr nu hB cw wb (by omega)) ?_
  rintro _ _ ⟨F1, rfl, hS, nF1, u2, hu2, c1_1, c0_1, t1_1, t0_1, rfl⟩
  exact ezw_ireturn rfl (ezw_zret ⟨by omega, by omega⟩) ⟨F1, rfl, hS, (fun p j h => by rw [nF1 p j (fun z => h (⟨z.1, (z.2.elim (fun y => (Or.inl y)) (fun y => (y.elim (fun y => (Or.inr (Or.inl y))) (fun y => (Or.inr (Or.inr (Or.inr (Or.inr (Or.inl y)))))))))⟩))]), u2, ⟨by omega, by omega⟩, c1_1, c0_1, t1_1, t0_1, rfl⟩
def ezt_m118_0_v6n_fQ (b2 : Bool) (F : Nat → Nat → Int) (A : Nat → Int → Int) (y : ezp_D) (w : ezn_N) (qc : ezn_Q) (kU : Int) (a2 : Int) (a3 : Int) : Option ezq_V → (Nat → ezq_C) → Prop := fun v g' => ∃ (F' : Nat → Nat → Int) (A' : Nat → Int → Int), ezu_g (false, b2) F' A' = g' ∧ ezs_T F' A' ∧ (∀ p j, ¬ (p = 13 ∧ (j = 0 ∨ j = 1 ∨ j = 2 ∨ j = 3 ∨ j = 4 ∨ j = 5 ∨ j = 6) ∨ p = 18 ∧ (j = 4)) → F' p j = F p j) ∧ (∀ p, ¬ (p = 19) → A' p = A p) ∧ ∃ u : Int, (0 ≤ u ∧ u ≤ 1) ∧ (u = 1 → ezn_cC y w a2 1) ∧ (u = 0 → ¬ ezn_cC y w a2 1) ∧ (u = 1 → ezn_C 13 (ezn_off w (ezn_ps y w a2 6)) F' ∧ F' 18 4 = ezn_pn kU ∧ ∀ k, 0 ≤ k → k < ezn_pn kU → A' 19 k = (if kU = 16 then (if k = 15 then ezn_pk w else A 19 (k + 1)) else (if k = kU then ezn_pk w else A 19 k))) ∧ (u = 0 → ezn_C 13 w F' ∧ F' 18 4 = kU ∧ A' 19 = A 19) ∧ some (ezw_i u) = v
theorem ezt_m118_0_v6n_f {b2 : Bool} {y : ezp_D} {w : ezn_N} {qc : ezn_Q} {kU : Int} {a2 a3 : Int} {F : Nat → Nat → Int} {A : Nat → Int → Int} (hS : ezs_T F A) (hd : 5 ≤ d) (ha2 : ezw_in a2) (ha3 : ezw_in a3) (tr : ezt_TR 30 y F A) (nu : ezt_NU 30 y A) (hB : ezp_B y) (cw : ezn_C 13 w F) (wb : ezn_B y w) (cq : ezn_CQ qc y 30 A) (qr : ezn_QR qc) (uc : F 18 4 = kU ∧ 0 ≤ kU ∧ kU ≤ 16) : ezw_C l ρ B xa Hb D cA 118 d [ezw_p 0, ezw_i (6), ezw_i a2, ezw_i a3] (ezu_g (false, b2) F A) (ezt_m118_0_v6n_fQ b2 F A y w qc kU a2 a3) := by
  refine ezw_met (k := 3) rfl rfl ?_
  refine ezw_aload_n rfl rfl ?_
  refine ezs_getp (p := 13) rfl rfl rfl rfl rfl ?_
  refine ezw_call0_0 rfl (by omega) (ezu_at rfl) rfl rfl rfl rfl (ezt_m119_13n hS (by omega) cw wb) ?_
  rintro _ _ ⟨rfl, u2, hu2, an_1, rfl⟩
  refine ezw_lstore rfl rfl ?_
  refine ezw_aload_n rfl rfl ?_
  refine ezs_getp (p := 13) rfl rfl rfl rfl rfl ?_
  refine ezw_aload_n rfl rfl ?_
  refine ezs_getp (p := 30) rfl rfl rfl rfl rfl ?_
  refine ezw_iload_n rfl rfl ?_
  refine ezw_iload_n rfl rfl ?_
  refine ezw_iload_n rfl rfl ?_
  refine ezw_call0_4 rfl (by omega) (ezu_at rfl) rfl rfl rfl rfl (ezt_m120_13_30_v6n hS (by omega) ha2 ha3 tr nu hB cw wb cq qr) ?_
  rintro _ _ ⟨F3, rfl, hS, nF3, u4, hu4, c1_3, c0_3, t1_3, t0_3, rfl⟩
  refine ezw_istore rfl rfl ?_
  refine ezw_iload rfl rfl ?_
  refine ezw_if_eq rfl rfl ⟨by omega, by omega⟩ (fun h27_4 => ?_) (fun h27_4 => ?_)
  · refine ezw_iload rfl rfl ?_
    have w18_4 : F3 18 4 = (F 18 4) := by rw [nF3 18 4 (by decide)]
    exact ezw_ireturn rfl (ezw_zret ⟨by omega, by omega⟩) ⟨F3, A, rfl, hS, (fun p j h => by rw [nF3 p j (fun z => h (Or.inl ⟨z.1, z.2⟩))]), (fun _ _ => rfl), u4, ⟨by omega, by omega⟩, c1_3, c0_3, (by omega), (fun hu => ⟨t0_3 hu, (by rw [nF3 18 4 (by decide)]; exact uc.1), rfl⟩), rfl⟩
  · refine ezw_aload_n rfl rfl ?_
    refine ezs_getp (p := 18) rfl rfl rfl rfl rfl ?_
    refine ezw_lload rfl rfl ?_
    refine ezw_call0_1 rfl (by omega) (ezu_at rfl) rfl rfl rfl rfl (ezt_m130_18n hS (by omega) hu2 (by rw [nF3 18 4 (by decide)]; exact uc)) ?_
    rintro _ _ ⟨F5, A5, rfl, hS, nF5, nA5, n_5, r_5, rfl⟩
    refine ezw_iload rfl rfl ?_
    exact ezw_ireturn rfl (ezw_zret ⟨by omega, by omega⟩) ⟨F5, A5, rfl, hS, (fun p j h => by rw [nF5 p j (fun z => h (Or.inr ⟨z.1, z.2⟩)), nF3 p j (fun z => h (Or.inl ⟨z.1, z.2⟩))]), (fun p h => by
          funext j
          rw [nA5 p (fun z => h (z))]), u4, ⟨by omega, by omega⟩, c1_3, c0_3, (fun hu => ⟨ezn_C_f (t1_3 hu) (fun k hk => nF5 13 k (fun z => absurd z.1 (by decide))), n_5, fun k k0 k1 => by
          rw [← an_1]
          exact r_5 k k0 k1⟩), (by omega), rfl⟩
def ezt_m136_0n_fQ (b2 : Bool) (F : Nat → Nat → Int) (A : Nat → Int → Int) (y : ezp_D) (w : ezn_N) (qc : ezn_Q) (kU : Int) (a1 : Int) (a2 : Int) : Option ezq_V → (Nat → ezq_C) → Prop := fun v g' => ∃ (F' : Nat → Nat → Int) (A' : Nat → Int → Int), ezu_g (false, b2) F' A' = g' ∧ ezs_T F' A' ∧ (∀ p j, ¬ (p = 13 ∧ (j = 0 ∨ j = 1 ∨ j = 2 ∨ j = 3 ∨ j = 4 ∨ j = 5 ∨ j = 6) ∨ p = 18 ∧ (j = 4)) → F' p j = F p j) ∧ (∀ p, ¬ (p = 19) → A' p = A p) ∧ ∃ u : Int, (0 ≤ u ∧ u ≤ 1) ∧ (ezn_cC y w a1 a2 → u = 1) ∧ (¬ ezn_cC y w a1 a2 → u = 0) ∧ (ezn_cC y w a1 a2 → ezn_C 13 (ezn_off w (ezn_ps y w a1 6)) F' ∧ F' 18 4 = ezn_pn kU ∧ ∀ k, 0 ≤ k → k < ezn_pn kU → A' 19 k = (if kU = 16 then (if k = 15 then ezn_pk w else A 19 (k + 1)) else (if k = kU then ezn_pk w else A 19 k))) ∧ (¬ ezn_cC y w a1 a2 → ezn_C 13 w F' ∧ F' 18 4 = kU ∧ A' 19 = A 19) ∧ some (ezw_i u) = v
theorem ezt_m136_0n_f {b2 : Bool} {y : ezp_D} {w : ezn_N} {qc : ezn_Q} {kU : Int} {a1 a2 : Int} {F : Nat → Nat → Int} {A : Nat → Int → Int} (hS : ezs_T F A) (hd : 6 ≤ d) (ha1 : ezw_in a1) (ha2 : ezw_in a2) (tr : ezt_TR 30 y F A) (nu : ezt_NU 30 y A) (hB : ezp_B y) (cw : ezn_C 13 w F) (wb : ezn_B y w) (cq : ezn_CQ qc y 30 A) (qr : ezn_QR qc) (uc : F 18 4 = kU ∧ 0 ≤ kU ∧ kU ≤ 16) (gb : 0 ≤ a2 ∧ a2 ≤ 1) : ezw_C l ρ B xa Hb D cA 136 d [ezw_p 0, ezw_i a1, ezw_i a2] (ezu_g (false, b2) F A) (ezt_m136_0n_fQ b2 F A y w qc kU a1 a2) := by
  refine ezw_met (k := 0) rfl rfl ?_
  refine ezw_aload_n rfl rfl ?_
  refine ezw_iload_n rfl rfl ?_
  refine ezw_if_eq rfl rfl ha2 (fun h2_0 => ?_) (fun h2_0 => ?_)
  · refine ezw_iconst (5) rfl rfl ?_
    refine ezw_iload_n rfl rfl ?_
    refine ezw_iconst (0) rfl rfl ?_
    refine ezw_call0_3 rfl (by omega) (ezu_at rfl) rfl rfl rfl rfl (ezt_m118_0_v5n_f hS (by omega) ha1 ⟨by decide, by decide⟩ tr nu hB cw wb cq qr uc) ?_
    rintro _ _ ⟨F1, A1, rfl, hS, nF1, nA1, u2, hu2, c1_1, c0_1, t1_1, t0_1, rfl⟩
    exact ezw_ireturn rfl (ezw_zret ⟨by omega, by omega⟩) ⟨F1, A1, rfl, hS, (fun p j h => by rw [nF1 p j (fun z => h (z.elim (fun y => (Or.inl ⟨y.1, y.2⟩)) (fun y => (Or.inr ⟨y.1, y.2⟩))))]), (fun p h => by
          funext j
          rw [nA1 p (fun z => h (z))]), u2, ⟨by omega, by omega⟩, (fun hc => by
          rcases (show u2 = 0 ∨ u2 = 1 by omega) with h | h
          · exact absurd hc (by rw [show a2 = 0 by omega]; exact c0_1 h)
          · exact h), (fun hn => by
          rcases (show u2 = 0 ∨ u2 = 1 by omega) with h | h
          · exact h
          · exact absurd (by rw [show a2 = 0 by omega]; exact c1_1 h) hn), (fun hc => by
          rcases (show u2 = 0 ∨ u2 = 1 by omega) with h | h
          · exact absurd hc (by rw [show a2 = 0 by omega]; exact c0_1 h)
          · exact t1_1 h), (fun hn => by
          rcases (show u2 = 0 ∨ u2 = 1 by omega) with h | h
          · exact t0_1 h
          · exact absurd (by rw [show a2 = 0 by omega]; exact c1_1 h) hn), rfl⟩
  · refine ezw_bipush (6) rfl rfl ?_
    refine ezw_goto rfl rfl ?_
    refine ezw_iload_n rfl rfl ?_
    refine ezw_iconst (0) rfl rfl ?_
    refine ezw_call0_3 rfl (by omega) (ezu_at rfl) rfl rfl rfl rfl (ezt_m118_0_v6n_f hS (by omega) ha1 ⟨by decide, by decide⟩ tr nu hB cw wb cq qr uc) ?_
    rintro _ _ ⟨F3, A3, rfl, hS, nF3, nA3, u4, hu4, c1_3, c0_3, t1_3, t0_3, rfl⟩
    exact ezw_ireturn rfl (ezw_zret ⟨by omega, by omega⟩) ⟨F3, A3, rfl, hS, (fun p j h => by rw [nF3 p j (fun z => h (z.elim (fun y => (Or.inl ⟨y.1, y.2⟩)) (fun y => (Or.inr ⟨y.1, y.2⟩))))]), (fun p h => by
          funext j
          rw [nA3 p (fun z => h (z))]), u4, ⟨by omega, by omega⟩, (fun hc => by
          rcases (show u4 = 0 ∨ u4 = 1 by omega) with h | h
          · exact absurd hc (by rw [show a2 = 1 by omega]; exact c0_3 h)
          · exact h), (fun hn => by
          rcases (show u4 = 0 ∨ u4 = 1 by omega) with h | h
          · exact h
          · exact absurd (by rw [show a2 = 1 by omega]; exact c1_3 h) hn), (fun hc => by
          rcases (show u4 = 0 ∨ u4 = 1 by omega) with h | h
          · exact absurd hc (by rw [show a2 = 1 by omega]; exact c0_3 h)
          · exact t1_3 h), (fun hn => by
          rcases (show u4 = 0 ∨ u4 = 1 by omega) with h | h
          · exact t0_3 h
          · exact absurd (by rw [show a2 = 1 by omega]; exact c1_3 h) hn), rfl⟩
def ezt_m120_13_30_v7nQ (e : Bool × Bool) (F : Nat → Nat → Int) (A : Nat → Int → Int) (y : ezp_D) (w : ezn_N) (qc : ezn_Q) (a3 : Int) (a4 : Int) : Option ezq_V → (Nat → ezq_C) → Prop := fun v g' => ∃ (F' : Nat → Nat → Int), ezu_g e F' A = g' ∧ ezs_T F' A ∧ (∀ p j, ¬ (p = 13 ∧ (j = 0 ∨ j = 1 ∨ j = 2 ∨ j = 3 ∨ j = 4 ∨ j = 5 ∨ j = 6)) → F' p j = F p j) ∧ ∃ u : Int, (0 ≤ u ∧ u ≤ 1) ∧ (u = 1 → (0 ≤ a3 ∧ a3 < 4)) ∧ (u = 0 → ¬ (0 ≤ a3 ∧ a3 < 4)) ∧ (u = 1 → ezn_C 13 (ezn_hr y w a3) F') ∧ (u = 0 → ezn_C 13 w F') ∧ some (ezw_i u) = v
theorem ezt_m120_13_30_v7n {y : ezp_D} {w : ezn_N} {qc : ezn_Q} {a3 a4 : Int} {F : Nat → Nat → Int} {A : Nat → Int → Int} (hS : ezs_T F A) (hd : 4 ≤ d) (ha3 : ezw_in a3) (ha4 : ezw_in a4) (tr : ezt_TR 30 y F A) (nu : ezt_NU 30 y A) (hB : ezp_B y) (cw : ezn_C 13 w F) (wb : ezn_B y w) (cq : ezn_CQ qc y 30 A) (qr : ezn_QR qc) : ezw_C l ρ B xa Hb D cA 120 d [ezw_p 13, ezw_p 30, ezw_i (7), ezw_i a3, ezw_i a4] (ezu_g e F A) (ezt_m120_13_30_v7nQ e F A y w qc a3 a4) := by
  refine ezw_met (k := 0) rfl rfl ?_
  refine ezw_iload_n rfl rfl ?_
  refine ezw_tableswitchE (v := 7) (p := 104) rfl rfl (by rfl) ?_
  refine ezw_aload_n rfl rfl ?_
  refine ezw_aload_n rfl rfl ?_
  refine ezw_iload_n rfl rfl ?_
  refine ezw_call0_2 rfl (by omega) (ezu_at rfl) rfl rfl rfl rfl (ezt_m128_13_30n hS (by omega) ha3 tr nu hB cw wb) ?_
  rintro _ _ ⟨F1, rfl, hS, nF1, u2, hu2, c1_1, c0_1, t1_1, t0_1, rfl⟩
  exact ezw_ireturn rfl (ezw_zret ⟨by omega, by omega⟩) ⟨F1, rfl, hS, (fun p j h => by rw [nF1 p j (fun z => h (⟨z.1, (z.2.elim (fun y => (Or.inr (Or.inr (Or.inl y)))) (fun y => (y.elim (fun y => (Or.inr (Or.inr (Or.inr (Or.inl y))))) (fun y => (Or.inr (Or.inr (Or.inr (Or.inr (Or.inr (Or.inl y))))))))))⟩))]), u2, ⟨by omega, by omega⟩, c1_1, c0_1, t1_1, t0_1, rfl⟩
def ezt_m118_0_v7n_fQ (b2 : Bool) (F : Nat → Nat → Int) (A : Nat → Int → Int) (y : ezp_D) (w : ezn_N) (qc : ezn_Q) (kU : Int) (a2 : Int) (a3 : Int) : Option ezq_V → (Nat → ezq_C) → Prop := fun v g' => ∃ (F' : Nat → Nat → Int) (A' : Nat → Int → Int), ezu_g (false, b2) F' A' = g' ∧ ezs_T F' A' ∧ (∀ p j, ¬ (p = 13 ∧ (j = 0 ∨ j = 1 ∨ j = 2 ∨ j = 3 ∨ j = 4 ∨ j = 5 ∨ j = 6) ∨ p = 18 ∧ (j = 4)) → F' p j = F p j) ∧ (∀ p, ¬ (p = 19) → A' p = A p) ∧ ∃ u : Int, (0 ≤ u ∧ u ≤ 1) ∧ (u = 1 → (0 ≤ a2 ∧ a2 < 4)) ∧ (u = 0 → ¬ (0 ≤ a2 ∧ a2 < 4)) ∧ (u = 1 → ezn_C 13 (ezn_hr y w a2) F' ∧ F' 18 4 = ezn_pn kU ∧ ∀ k, 0 ≤ k → k < ezn_pn kU → A' 19 k = (if kU = 16 then (if k = 15 then ezn_pk w else A 19 (k + 1)) else (if k = kU then ezn_pk w else A 19 k))) ∧ (u = 0 → ezn_C 13 w F' ∧ F' 18 4 = kU ∧ A' 19 = A 19) ∧ some (ezw_i u) = v
theorem ezt_m118_0_v7n_f {b2 : Bool} {y : ezp_D} {w : ezn_N} {qc : ezn_Q} {kU : Int} {a2 a3 : Int} {F : Nat → Nat → Int} {A : Nat → Int → Int} (hS : ezs_T F A) (hd : 5 ≤ d) (ha2 : ezw_in a2) (ha3 : ezw_in a3) (tr : ezt_TR 30 y F A) (nu : ezt_NU 30 y A) (hB : ezp_B y) (cw : ezn_C 13 w F) (wb : ezn_B y w) (cq : ezn_CQ qc y 30 A) (qr : ezn_QR qc) (uc : F 18 4 = kU ∧ 0 ≤ kU ∧ kU ≤ 16) : ezw_C l ρ B xa Hb D cA 118 d [ezw_p 0, ezw_i (7), ezw_i a2, ezw_i a3] (ezu_g (false, b2) F A) (ezt_m118_0_v7n_fQ b2 F A y w qc kU a2 a3) := by
  refine ezw_met (k := 3) rfl rfl ?_
  refine ezw_aload_n rfl rfl ?_
  refine ezs_getp (p := 13) rfl rfl rfl rfl rfl ?_
  refine ezw_call0_0 rfl (by omega) (ezu_at rfl) rfl rfl rfl rfl (ezt_m119_13n hS (by omega) cw wb) ?_
  rintro _ _ ⟨rfl, u2, hu2, an_1, rfl⟩
  refine ezw_lstore rfl rfl ?_
  refine ezw_aload_n rfl rfl ?_
  refine ezs_getp (p := 13) rfl rfl rfl rfl rfl ?_
  refine ezw_aload_n rfl rfl ?_
  refine ezs_getp (p := 30) rfl rfl rfl rfl rfl ?_
  refine ezw_iload_n rfl rfl ?_
  refine ezw_iload_n rfl rfl ?_
  refine ezw_iload_n rfl rfl ?_
  refine ezw_call0_4 rfl (by omega) (ezu_at rfl) rfl rfl rfl rfl (ezt_m120_13_30_v7n hS (by omega) ha2 ha3 tr nu hB cw wb cq qr) ?_
  rintro _ _ ⟨F3, rfl, hS, nF3, u4, hu4, c1_3, c0_3, t1_3, t0_3, rfl⟩
  refine ezw_istore rfl rfl ?_
  refine ezw_iload rfl rfl ?_
  refine ezw_if_eq rfl rfl ⟨by omega, by omega⟩ (fun h27_4 => ?_) (fun h27_4 => ?_)
  · refine ezw_iload rfl rfl ?_
    have w18_4 : F3 18 4 = (F 18 4) := by rw [nF3 18 4 (by decide)]
    exact ezw_ireturn rfl (ezw_zret ⟨by omega, by omega⟩) ⟨F3, A, rfl, hS, (fun p j h => by rw [nF3 p j (fun z => h (Or.inl ⟨z.1, z.2⟩))]), (fun _ _ => rfl), u4, ⟨by omega, by omega⟩, c1_3, c0_3, (by omega), (fun hu => ⟨t0_3 hu, (by rw [nF3 18 4 (by decide)]; exact uc.1), rfl⟩), rfl⟩
  · refine ezw_aload_n rfl rfl ?_
    refine ezs_getp (p := 18) rfl rfl rfl rfl rfl ?_
    refine ezw_lload rfl rfl ?_
    refine ezw_call0_1 rfl (by omega) (ezu_at rfl) rfl rfl rfl rfl (ezt_m130_18n hS (by omega) hu2 (by rw [nF3 18 4 (by decide)]; exact uc)) ?_
    rintro _ _ ⟨F5, A5, rfl, hS, nF5, nA5, n_5, r_5, rfl⟩
    refine ezw_iload rfl rfl ?_
    exact ezw_ireturn rfl (ezw_zret ⟨by omega, by omega⟩) ⟨F5, A5, rfl, hS, (fun p j h => by rw [nF5 p j (fun z => h (Or.inr ⟨z.1, z.2⟩)), nF3 p j (fun z => h (Or.inl ⟨z.1, z.2⟩))]), (fun p h => by
          funext j
          rw [nA5 p (fun z => h (z))]), u4, ⟨by omega, by omega⟩, c1_3, c0_3, (fun hu => ⟨ezn_C_f (t1_3 hu) (fun k hk => nF5 13 k (fun z => absurd z.1 (by decide))), n_5, fun k k0 k1 => by
          rw [← an_1]
          exact r_5 k k0 k1⟩), (by omega), rfl⟩
def ezt_m137_0n_fQ (b2 : Bool) (F : Nat → Nat → Int) (A : Nat → Int → Int) (y : ezp_D) (w : ezn_N) (qc : ezn_Q) (kU : Int) (a1 : Int) : Option ezq_V → (Nat → ezq_C) → Prop := fun v g' => ∃ (F' : Nat → Nat → Int) (A' : Nat → Int → Int), ezu_g (false, b2) F' A' = g' ∧ ezs_T F' A' ∧ (∀ p j, ¬ (p = 13 ∧ (j = 0 ∨ j = 1 ∨ j = 2 ∨ j = 3 ∨ j = 4 ∨ j = 5 ∨ j = 6) ∨ p = 18 ∧ (j = 4)) → F' p j = F p j) ∧ (∀ p, ¬ (p = 19) → A' p = A p) ∧ ∃ u : Int, (ezw_in u) ∧ ((0 ≤ a1 ∧ a1 < 4) → u = (ezn_hr y w a1).ho) ∧ (¬ (0 ≤ a1 ∧ a1 < 4) → u = -1) ∧ ((0 ≤ a1 ∧ a1 < 4) → ezn_C 13 (ezn_hr y w a1) F' ∧ F' 18 4 = ezn_pn kU ∧ ∀ k, 0 ≤ k → k < ezn_pn kU → A' 19 k = (if kU = 16 then (if k = 15 then ezn_pk w else A 19 (k + 1)) else (if k = kU then ezn_pk w else A 19 k))) ∧ (¬ (0 ≤ a1 ∧ a1 < 4) → ezn_C 13 w F' ∧ F' 18 4 = kU ∧ A' 19 = A 19) ∧ some (ezw_i u) = v
theorem ezt_m137_0n_f {b2 : Bool} {y : ezp_D} {w : ezn_N} {qc : ezn_Q} {kU : Int} {a1 : Int} {F : Nat → Nat → Int} {A : Nat → Int → Int} (hS : ezs_T F A) (hd : 6 ≤ d) (ha1 : ezw_in a1) (tr : ezt_TR 30 y F A) (nu : ezt_NU 30 y A) (hB : ezp_B y) (cw : ezn_C 13 w F) (wb : ezn_B y w) (cq : ezn_CQ qc y 30 A) (qr : ezn_QR qc) (uc : F 18 4 = kU ∧ 0 ≤ kU ∧ kU ≤ 16) : ezw_C l ρ B xa Hb D cA 137 d [ezw_p 0, ezw_i a1] (ezu_g (false, b2) F A) (ezt_m137_0n_fQ b2 F A y w qc kU a1) := by
  refine ezw_met (k := 0) rfl rfl ?_
  refine ezw_aload_n rfl rfl ?_
  refine ezw_bipush (7) rfl rfl ?_
  refine ezw_iload_n rfl rfl ?_
  refine ezw_iconst (0) rfl rfl ?_
  refine ezw_call0_3 rfl (by omega) (ezu_at rfl) rfl rfl rfl rfl (ezt_m118_0_v7n_f hS (by omega) ha1 ⟨by decide, by decide⟩ tr nu hB cw wb cq qr uc) ?_
  rintro _ _ ⟨F1, A1, rfl, hS, nF1, nA1, u2, hu2, c1_1, c0_1, t1_1, t0_1, rfl⟩
  refine ezw_if_eq rfl rfl ⟨by omega, by omega⟩ (fun h8_2 => ?_) (fun h8_2 => ?_)
  · refine ezw_iconst (-1) rfl rfl ?_
    exact ezw_ireturn rfl rfl ⟨F1, A1, rfl, hS, (fun p j h => by rw [nF1 p j (fun z => h (z.elim (fun y => (Or.inl ⟨y.1, y.2⟩)) (fun y => (Or.inr ⟨y.1, y.2⟩))))]), (fun p h => by
          funext j
          rw [nA1 p (fun z => h (z))]), (-1), ⟨by decide, by decide⟩, (fun hc => absurd hc (by exact c0_1 (by omega))), (fun _ => rfl), (fun hc => absurd hc (by exact c0_1 (by omega))), (fun _ => t0_1 (by omega)), rfl⟩
  · refine ezw_aload_n rfl rfl ?_
    refine ezs_getp (p := 13) rfl rfl rfl rfl rfl ?_
    refine ezy_get_i hS rfl rfl rfl rfl rfl rfl (fun u3 hu3 ku3 eu3 => ?_)
    replace eu3 := eu3.symm
    subst eu3
    refine ezw_goto rfl rfl ?_
    exact ezw_ireturn rfl rfl ⟨F1, A1, rfl, hS, (fun p j h => by rw [nF1 p j (fun z => h (z.elim (fun y => (Or.inl ⟨y.1, y.2⟩)) (fun y => (Or.inr ⟨y.1, y.2⟩))))]), (fun p h => by
          funext j
          rw [nA1 p (fun z => h (z))]), (F1 13 2), hu3, (fun _ => (t1_1 (by omega)).1.2.2.1), (fun hn => absurd (by exact c1_1 (by omega)) hn), (fun _ => by exact t1_1 (by omega)), (fun hn => absurd (by exact c1_1 (by omega)) hn), rfl⟩
def ezt_m120_13_47_v0nQ (e : Bool × Bool) (F : Nat → Nat → Int) (A : Nat → Int → Int) (y : ezp_D) (w : ezn_N) (qc : ezn_Q) (a3 : Int) (a4 : Int) : Option ezq_V → (Nat → ezq_C) → Prop := fun v g' => ∃ (F' : Nat → Nat → Int), ezu_g e F' A = g' ∧ ezs_T F' A ∧ (∀ p j, ¬ (p = 13 ∧ (j = 0 ∨ j = 1 ∨ j = 2 ∨ j = 3 ∨ j = 4 ∨ j = 5 ∨ j = 6)) → F' p j = F p j) ∧ ∃ u : Int, (0 ≤ u ∧ u ≤ 1) ∧ (u = 1 → ezn_cP qc y w a3 0 a4) ∧ (u = 0 → ¬ ezn_cP qc y w a3 0 a4) ∧ (u = 1 → ezn_C 13 (ezn_tP w 0 a4) F') ∧ (u = 0 → ezn_C 13 w F') ∧ some (ezw_i u) = v
theorem ezt_m120_13_47_v0n {y : ezp_D} {w : ezn_N} {qc : ezn_Q} {a3 a4 : Int} {F : Nat → Nat → Int} {A : Nat → Int → Int} (hS : ezs_T F A) (hd : 4 ≤ d) (ha3 : ezw_in a3) (ha4 : ezw_in a4) (tr : ezt_TR 47 y F A) (nu : ezt_NU 47 y A) (hB : ezp_B y) (cw : ezn_C 13 w F) (wb : ezn_B y w) (cq : ezn_CQ qc y 47 A) (qr : ezn_QR qc) : ezw_C l ρ B xa Hb D cA 120 d [ezw_p 13, ezw_p 47, ezw_i (0), ezw_i a3, ezw_i a4] (ezu_g e F A) (ezt_m120_13_47_v0nQ e F A y w qc a3 a4) := by
  refine ezw_met (k := 0) rfl rfl ?_
  refine ezw_iload_n rfl rfl ?_
  refine ezw_tableswitchE (v := 0) (p := 48) rfl rfl (by rfl) ?_
  refine ezw_aload_n rfl rfl ?_
  refine ezw_aload_n rfl rfl ?_
  refine ezw_iload_n rfl rfl ?_
  refine ezw_iconst (0) rfl rfl ?_
  refine ezw_iload rfl rfl ?_
  refine ezw_call0_4 rfl (by omega) (ezu_at rfl) rfl rfl rfl rfl (ezt_m121_13_47n hS (by omega) ha3 ⟨by decide, by decide⟩ ha4 tr nu hB cw wb cq qr (by omega)) ?_
  rintro _ _ ⟨F1, rfl, hS, nF1, u2, hu2, c1_1, c0_1, t1_1, t0_1, rfl⟩
  exact ezw_ireturn rfl (ezw_zret ⟨by omega, by omega⟩) ⟨F1, rfl, hS, (fun p j h => by rw [nF1 p j (fun z => h (⟨z.1, (z.2.elim (fun y => (Or.inl y)) (fun y => (y.elim (fun y => (Or.inr (Or.inl y))) (fun y => (Or.inr (Or.inr (Or.inr (Or.inr (Or.inl y)))))))))⟩))]), u2, ⟨by omega, by omega⟩, c1_1, c0_1, t1_1, t0_1, rfl⟩
def ezt_m118_0_v0n_tQ (b2 : Bool) (F : Nat → Nat → Int) (A : Nat → Int → Int) (y : ezp_D) (w : ezn_N) (qc : ezn_Q) (kU : Int) (a2 : Int) (a3 : Int) : Option ezq_V → (Nat → ezq_C) → Prop := fun v g' => ∃ (F' : Nat → Nat → Int) (A' : Nat → Int → Int), ezu_g (true, b2) F' A' = g' ∧ ezs_T F' A' ∧ (∀ p j, ¬ (p = 13 ∧ (j = 0 ∨ j = 1 ∨ j = 2 ∨ j = 3 ∨ j = 4 ∨ j = 5 ∨ j = 6) ∨ p = 18 ∧ (j = 4)) → F' p j = F p j) ∧ (∀ p, ¬ (p = 19) → A' p = A p) ∧ ∃ u : Int, (0 ≤ u ∧ u ≤ 1) ∧ (u = 1 → ezn_cP qc y w a2 0 a3) ∧ (u = 0 → ¬ ezn_cP qc y w a2 0 a3) ∧ (u = 1 → ezn_C 13 (ezn_tP w 0 a3) F' ∧ F' 18 4 = ezn_pn kU ∧ ∀ k, 0 ≤ k → k < ezn_pn kU → A' 19 k = (if kU = 16 then (if k = 15 then ezn_pk w else A 19 (k + 1)) else (if k = kU then ezn_pk w else A 19 k))) ∧ (u = 0 → ezn_C 13 w F' ∧ F' 18 4 = kU ∧ A' 19 = A 19) ∧ some (ezw_i u) = v
theorem ezt_m118_0_v0n_t {b2 : Bool} {y : ezp_D} {w : ezn_N} {qc : ezn_Q} {kU : Int} {a2 a3 : Int} {F : Nat → Nat → Int} {A : Nat → Int → Int} (hS : ezs_T F A) (hd : 5 ≤ d) (ha2 : ezw_in a2) (ha3 : ezw_in a3) (tr : ezt_TR 47 y F A) (nu : ezt_NU 47 y A) (hB : ezp_B y) (cw : ezn_C 13 w F) (wb : ezn_B y w) (cq : ezn_CQ qc y 47 A) (qr : ezn_QR qc) (uc : F 18 4 = kU ∧ 0 ≤ kU ∧ kU ≤ 16) : ezw_C l ρ B xa Hb D cA 118 d [ezw_p 0, ezw_i (0), ezw_i a2, ezw_i a3] (ezu_g (true, b2) F A) (ezt_m118_0_v0n_tQ b2 F A y w qc kU a2 a3) := by
  refine ezw_met (k := 3) rfl rfl ?_
  refine ezw_aload_n rfl rfl ?_
  refine ezs_getp (p := 13) rfl rfl rfl rfl rfl ?_
  refine ezw_call0_0 rfl (by omega) (ezu_at rfl) rfl rfl rfl rfl (ezt_m119_13n hS (by omega) cw wb) ?_
  rintro _ _ ⟨rfl, u2, hu2, an_1, rfl⟩
  refine ezw_lstore rfl rfl ?_
  refine ezw_aload_n rfl rfl ?_
  refine ezs_getp (p := 13) rfl rfl rfl rfl rfl ?_
  refine ezw_aload_n rfl rfl ?_
  refine ezs_getp (p := 47) rfl rfl rfl rfl rfl ?_
  refine ezw_iload_n rfl rfl ?_
  refine ezw_iload_n rfl rfl ?_
  refine ezw_iload_n rfl rfl ?_
  refine ezw_call0_4 rfl (by omega) (ezu_at rfl) rfl rfl rfl rfl (ezt_m120_13_47_v0n hS (by omega) ha2 ha3 tr nu hB cw wb cq qr) ?_
  rintro _ _ ⟨F3, rfl, hS, nF3, u4, hu4, c1_3, c0_3, t1_3, t0_3, rfl⟩
  refine ezw_istore rfl rfl ?_
  refine ezw_iload rfl rfl ?_
  refine ezw_if_eq rfl rfl ⟨by omega, by omega⟩ (fun h27_4 => ?_) (fun h27_4 => ?_)
  · refine ezw_iload rfl rfl ?_
    have w18_4 : F3 18 4 = (F 18 4) := by rw [nF3 18 4 (by decide)]
    exact ezw_ireturn rfl (ezw_zret ⟨by omega, by omega⟩) ⟨F3, A, rfl, hS, (fun p j h => by rw [nF3 p j (fun z => h (Or.inl ⟨z.1, z.2⟩))]), (fun _ _ => rfl), u4, ⟨by omega, by omega⟩, c1_3, c0_3, (by omega), (fun hu => ⟨t0_3 hu, (by rw [nF3 18 4 (by decide)]; exact uc.1), rfl⟩), rfl⟩
  · refine ezw_aload_n rfl rfl ?_
    refine ezs_getp (p := 18) rfl rfl rfl rfl rfl ?_
    refine ezw_lload rfl rfl ?_
    refine ezw_call0_1 rfl (by omega) (ezu_at rfl) rfl rfl rfl rfl (ezt_m130_18n hS (by omega) hu2 (by rw [nF3 18 4 (by decide)]; exact uc)) ?_
    rintro _ _ ⟨F5, A5, rfl, hS, nF5, nA5, n_5, r_5, rfl⟩
    refine ezw_iload rfl rfl ?_
    exact ezw_ireturn rfl (ezw_zret ⟨by omega, by omega⟩) ⟨F5, A5, rfl, hS, (fun p j h => by rw [nF5 p j (fun z => h (Or.inr ⟨z.1, z.2⟩)), nF3 p j (fun z => h (Or.inl ⟨z.1, z.2⟩))]), (fun p h => by
          funext j
          rw [nA5 p (fun z => h (z))]), u4, ⟨by omega, by omega⟩, c1_3, c0_3, (fun hu => ⟨ezn_C_f (t1_3 hu) (fun k hk => nF5 13 k (fun z => absurd z.1 (by decide))), n_5, fun k k0 k1 => by
          rw [← an_1]
          exact r_5 k k0 k1⟩), (by omega), rfl⟩
def ezt_m120_13_47_v1nQ (e : Bool × Bool) (F : Nat → Nat → Int) (A : Nat → Int → Int) (y : ezp_D) (w : ezn_N) (qc : ezn_Q) (a3 : Int) (a4 : Int) : Option ezq_V → (Nat → ezq_C) → Prop := fun v g' => ∃ (F' : Nat → Nat → Int), ezu_g e F' A = g' ∧ ezs_T F' A ∧ (∀ p j, ¬ (p = 13 ∧ (j = 0 ∨ j = 1 ∨ j = 2 ∨ j = 3 ∨ j = 4 ∨ j = 5 ∨ j = 6)) → F' p j = F p j) ∧ ∃ u : Int, (0 ≤ u ∧ u ≤ 1) ∧ (u = 1 → ezn_cP qc y w a3 1 a4) ∧ (u = 0 → ¬ ezn_cP qc y w a3 1 a4) ∧ (u = 1 → ezn_C 13 (ezn_tP w 1 a4) F') ∧ (u = 0 → ezn_C 13 w F') ∧ some (ezw_i u) = v
theorem ezt_m120_13_47_v1n {y : ezp_D} {w : ezn_N} {qc : ezn_Q} {a3 a4 : Int} {F : Nat → Nat → Int} {A : Nat → Int → Int} (hS : ezs_T F A) (hd : 4 ≤ d) (ha3 : ezw_in a3) (ha4 : ezw_in a4) (tr : ezt_TR 47 y F A) (nu : ezt_NU 47 y A) (hB : ezp_B y) (cw : ezn_C 13 w F) (wb : ezn_B y w) (cq : ezn_CQ qc y 47 A) (qr : ezn_QR qc) : ezw_C l ρ B xa Hb D cA 120 d [ezw_p 13, ezw_p 47, ezw_i (1), ezw_i a3, ezw_i a4] (ezu_g e F A) (ezt_m120_13_47_v1nQ e F A y w qc a3 a4) := by
  refine ezw_met (k := 0) rfl rfl ?_
  refine ezw_iload_n rfl rfl ?_
  refine ezw_tableswitchE (v := 1) (p := 58) rfl rfl (by rfl) ?_
  refine ezw_aload_n rfl rfl ?_
  refine ezw_aload_n rfl rfl ?_
  refine ezw_iload_n rfl rfl ?_
  refine ezw_iconst (1) rfl rfl ?_
  refine ezw_iload rfl rfl ?_
  refine ezw_call0_4 rfl (by omega) (ezu_at rfl) rfl rfl rfl rfl (ezt_m121_13_47n hS (by omega) ha3 ⟨by decide, by decide⟩ ha4 tr nu hB cw wb cq qr (by omega)) ?_
  rintro _ _ ⟨F1, rfl, hS, nF1, u2, hu2, c1_1, c0_1, t1_1, t0_1, rfl⟩
  exact ezw_ireturn rfl (ezw_zret ⟨by omega, by omega⟩) ⟨F1, rfl, hS, (fun p j h => by rw [nF1 p j (fun z => h (⟨z.1, (z.2.elim (fun y => (Or.inl y)) (fun y => (y.elim (fun y => (Or.inr (Or.inl y))) (fun y => (Or.inr (Or.inr (Or.inr (Or.inr (Or.inl y)))))))))⟩))]), u2, ⟨by omega, by omega⟩, c1_1, c0_1, t1_1, t0_1, rfl⟩
def ezt_m118_0_v1n_tQ (b2 : Bool) (F : Nat → Nat → Int) (A : Nat → Int → Int) (y : ezp_D) (w : ezn_N) (qc : ezn_Q) (kU : Int) (a2 : Int) (a3 : Int) : Option ezq_V → (Nat → ezq_C) → Prop := fun v g' => ∃ (F' : Nat → Nat → Int) (A' : Nat → Int → Int), ezu_g (true, b2) F' A' = g' ∧ ezs_T F' A' ∧ (∀ p j, ¬ (p = 13 ∧ (j = 0 ∨ j = 1 ∨ j = 2 ∨ j = 3 ∨ j = 4 ∨ j = 5 ∨ j = 6) ∨ p = 18 ∧ (j = 4)) → F' p j = F p j) ∧ (∀ p, ¬ (p = 19) → A' p = A p) ∧ ∃ u : Int, (0 ≤ u ∧ u ≤ 1) ∧ (u = 1 → ezn_cP qc y w a2 1 a3) ∧ (u = 0 → ¬ ezn_cP qc y w a2 1 a3) ∧ (u = 1 → ezn_C 13 (ezn_tP w 1 a3) F' ∧ F' 18 4 = ezn_pn kU ∧ ∀ k, 0 ≤ k → k < ezn_pn kU → A' 19 k = (if kU = 16 then (if k = 15 then ezn_pk w else A 19 (k + 1)) else (if k = kU then ezn_pk w else A 19 k))) ∧ (u = 0 → ezn_C 13 w F' ∧ F' 18 4 = kU ∧ A' 19 = A 19) ∧ some (ezw_i u) = v
theorem ezt_m118_0_v1n_t {b2 : Bool} {y : ezp_D} {w : ezn_N} {qc : ezn_Q} {kU : Int} {a2 a3 : Int} {F : Nat → Nat → Int} {A : Nat → Int → Int} (hS : ezs_T F A) (hd : 5 ≤ d) (ha2 : ezw_in a2) (ha3 : ezw_in a3) (tr : ezt_TR 47 y F A) (nu : ezt_NU 47 y A) (hB : ezp_B y) (cw : ezn_C 13 w F) (wb : ezn_B y w) (cq : ezn_CQ qc y 47 A) (qr : ezn_QR qc) (uc : F 18 4 = kU ∧ 0 ≤ kU ∧ kU ≤ 16) : ezw_C l ρ B xa Hb D cA 118 d [ezw_p 0, ezw_i (1), ezw_i a2, ezw_i a3] (ezu_g (true, b2) F A) (ezt_m118_0_v1n_tQ b2 F A y w qc kU a2 a3) := by
  refine ezw_met (k := 3) rfl rfl ?_
  refine ezw_aload_n rfl rfl ?_
  refine ezs_getp (p := 13) rfl rfl rfl rfl rfl ?_
  refine ezw_call0_0 rfl (by omega) (ezu_at rfl) rfl rfl rfl rfl (ezt_m119_13n hS (by omega) cw wb) ?_
  rintro _ _ ⟨rfl, u2, hu2, an_1, rfl⟩
  refine ezw_lstore rfl rfl ?_
  refine ezw_aload_n rfl rfl ?_
  refine ezs_getp (p := 13) rfl rfl rfl rfl rfl ?_
  refine ezw_aload_n rfl rfl ?_
  refine ezs_getp (p := 47) rfl rfl rfl rfl rfl ?_
  refine ezw_iload_n rfl rfl ?_
  refine ezw_iload_n rfl rfl ?_
  refine ezw_iload_n rfl rfl ?_
  refine ezw_call0_4 rfl (by omega) (ezu_at rfl) rfl rfl rfl rfl (ezt_m120_13_47_v1n hS (by omega) ha2 ha3 tr nu hB cw wb cq qr) ?_
  rintro _ _ ⟨F3, rfl, hS, nF3, u4, hu4, c1_3, c0_3, t1_3, t0_3, rfl⟩
  refine ezw_istore rfl rfl ?_
  refine ezw_iload rfl rfl ?_
  refine ezw_if_eq rfl rfl ⟨by omega, by omega⟩ (fun h27_4 => ?_) (fun h27_4 => ?_)
  · refine ezw_iload rfl rfl ?_
    have w18_4 : F3 18 4 = (F 18 4) := by rw [nF3 18 4 (by decide)]
    exact ezw_ireturn rfl (ezw_zret ⟨by omega, by omega⟩) ⟨F3, A, rfl, hS, (fun p j h => by rw [nF3 p j (fun z => h (Or.inl ⟨z.1, z.2⟩))]), (fun _ _ => rfl), u4, ⟨by omega, by omega⟩, c1_3, c0_3, (by omega), (fun hu => ⟨t0_3 hu, (by rw [nF3 18 4 (by decide)]; exact uc.1), rfl⟩), rfl⟩
  · refine ezw_aload_n rfl rfl ?_
    refine ezs_getp (p := 18) rfl rfl rfl rfl rfl ?_
    refine ezw_lload rfl rfl ?_
    refine ezw_call0_1 rfl (by omega) (ezu_at rfl) rfl rfl rfl rfl (ezt_m130_18n hS (by omega) hu2 (by rw [nF3 18 4 (by decide)]; exact uc)) ?_
    rintro _ _ ⟨F5, A5, rfl, hS, nF5, nA5, n_5, r_5, rfl⟩
    refine ezw_iload rfl rfl ?_
    exact ezw_ireturn rfl (ezw_zret ⟨by omega, by omega⟩) ⟨F5, A5, rfl, hS, (fun p j h => by rw [nF5 p j (fun z => h (Or.inr ⟨z.1, z.2⟩)), nF3 p j (fun z => h (Or.inl ⟨z.1, z.2⟩))]), (fun p h => by
          funext j
          rw [nA5 p (fun z => h (z))]), u4, ⟨by omega, by omega⟩, c1_3, c0_3, (fun hu => ⟨ezn_C_f (t1_3 hu) (fun k hk => nF5 13 k (fun z => absurd z.1 (by decide))), n_5, fun k k0 k1 => by
          rw [← an_1]
          exact r_5 k k0 k1⟩), (by omega), rfl⟩
def ezt_m117_0n_tQ (b2 : Bool) (F : Nat → Nat → Int) (A : Nat → Int → Int) (y : ezp_D) (w : ezn_N) (qc : ezn_Q) (kU : Int) (a1 : Int) (a2 : Int) (a3 : Int) : Option ezq_V → (Nat → ezq_C) → Prop := fun v g' => ∃ (F' : Nat → Nat → Int) (A' : Nat → Int → Int), ezu_g (true, b2) F' A' = g' ∧ ezs_T F' A' ∧ (∀ p j, ¬ (p = 13 ∧ (j = 0 ∨ j = 1 ∨ j = 2 ∨ j = 3 ∨ j = 4 ∨ j = 5 ∨ j = 6) ∨ p = 18 ∧ (j = 4)) → F' p j = F p j) ∧ (∀ p, ¬ (p = 19) → A' p = A p) ∧ ∃ u : Int, (ezw_in u) ∧ (ezn_cP qc y w a1 a2 a3 → u = (ezn_cn (ezn_tP w a2 a3).ov)) ∧ (¬ ezn_cP qc y w a1 a2 a3 → u = -1) ∧ (ezn_cP qc y w a1 a2 a3 → ezn_C 13 (ezn_tP w a2 a3) F' ∧ F' 18 4 = ezn_pn kU ∧ ∀ k, 0 ≤ k → k < ezn_pn kU → A' 19 k = (if kU = 16 then (if k = 15 then ezn_pk w else A 19 (k + 1)) else (if k = kU then ezn_pk w else A 19 k))) ∧ (¬ ezn_cP qc y w a1 a2 a3 → ezn_C 13 w F' ∧ F' 18 4 = kU ∧ A' 19 = A 19) ∧ some (ezw_i u) = v
theorem ezt_m117_0n_t {b2 : Bool} {y : ezp_D} {w : ezn_N} {qc : ezn_Q} {kU : Int} {a1 a2 a3 : Int} {F : Nat → Nat → Int} {A : Nat → Int → Int} (hS : ezs_T F A) (hd : 6 ≤ d) (ha1 : ezw_in a1) (ha2 : ezw_in a2) (ha3 : ezw_in a3) (tr : ezt_TR 47 y F A) (nu : ezt_NU 47 y A) (hB : ezp_B y) (cw : ezn_C 13 w F) (wb : ezn_B y w) (cq : ezn_CQ qc y 47 A) (qr : ezn_QR qc) (uc : F 18 4 = kU ∧ 0 ≤ kU ∧ kU ≤ 16) (gb : 0 ≤ a2 ∧ a2 ≤ 1) : ezw_C l ρ B xa Hb D cA 117 d [ezw_p 0, ezw_i a1, ezw_i a2, ezw_i a3] (ezu_g (true, b2) F A) (ezt_m117_0n_tQ b2 F A y w qc kU a1 a2 a3) := by
  refine ezw_met (k := 0) rfl rfl ?_
  refine ezw_aload_n rfl rfl ?_
  refine ezw_iload_n rfl rfl ?_
  refine ezw_if_eq rfl rfl ha2 (fun h2_0 => ?_) (fun h2_0 => ?_)
  · refine ezw_iconst (0) rfl rfl ?_
    refine ezw_iload_n rfl rfl ?_
    refine ezw_iload_n rfl rfl ?_
    refine ezw_call0_3 rfl (by omega) (ezu_at rfl) rfl rfl rfl rfl (ezt_m118_0_v0n_t hS (by omega) ha1 ha3 tr nu hB cw wb cq qr uc) ?_
    rintro _ _ ⟨F1, A1, rfl, hS, nF1, nA1, u2, hu2, c1_1, c0_1, t1_1, t0_1, rfl⟩
    refine ezw_if_eq rfl rfl ⟨by omega, by omega⟩ (fun h15_2 => ?_) (fun h15_2 => ?_)
    · refine ezw_iconst (-1) rfl rfl ?_
      exact ezw_ireturn rfl rfl ⟨F1, A1, rfl, hS, (fun p j h => by rw [nF1 p j (fun z => h (z.elim (fun y => (Or.inl ⟨y.1, y.2⟩)) (fun y => (Or.inr ⟨y.1, y.2⟩))))]), (fun p h => by
            funext j
            rw [nA1 p (fun z => h (z))]), (-1), ⟨by decide, by decide⟩, (fun hc => absurd hc (by rw [show a2 = 0 by omega]; exact c0_1 (by omega))), (fun _ => rfl), (fun hc => absurd hc (by rw [show a2 = 0 by omega]; exact c0_1 (by omega))), (fun _ => t0_1 (by omega)), rfl⟩
    · refine ezw_aload_n rfl rfl ?_
      refine ezs_getp (p := 13) rfl rfl rfl rfl rfl ?_
      refine ezw_call0_0 rfl (by omega) (ezu_at rfl) rfl rfl rfl rfl (ezt_m131_13n (w := (ezn_tP w 0 a3)) hS (by omega) (t1_1 (by omega)).1 (ezn_B_tP wb (by omega) (c1_1 (by omega)))) ?_
      rintro _ _ ⟨rfl, u4, hu4, an_3, rfl⟩
      refine ezw_goto rfl rfl ?_
      exact ezw_ireturn rfl rfl ⟨F1, A1, rfl, hS, (fun p j h => by rw [nF1 p j (fun z => h (z.elim (fun y => (Or.inl ⟨y.1, y.2⟩)) (fun y => (Or.inr ⟨y.1, y.2⟩))))]), (fun p h => by
            funext j
            rw [nA1 p (fun z => h (z))]), u4, hu4, (fun _ => by rw [show a2 = 0 by omega]; exact an_3), (fun hn => absurd (by rw [show a2 = 0 by omega]; exact c1_1 (by omega)) hn), (fun _ => by rw [show a2 = 0 by omega]; exact t1_1 (by omega)), (fun hn => absurd (by rw [show a2 = 0 by omega]; exact c1_1 (by omega)) hn), rfl⟩
  · refine ezw_iconst (1) rfl rfl ?_
    refine ezw_goto rfl rfl ?_
    refine ezw_iload_n rfl rfl ?_
    refine ezw_iload_n rfl rfl ?_
    refine ezw_call0_3 rfl (by omega) (ezu_at rfl) rfl rfl rfl rfl (ezt_m118_0_v1n_t hS (by omega) ha1 ha3 tr nu hB cw wb cq qr uc) ?_
    rintro _ _ ⟨F5, A5, rfl, hS, nF5, nA5, u6, hu6, c1_5, c0_5, t1_5, t0_5, rfl⟩
    refine ezw_if_eq rfl rfl ⟨by omega, by omega⟩ (fun h15_6 => ?_) (fun h15_6 => ?_)
    · refine ezw_iconst (-1) rfl rfl ?_
      exact ezw_ireturn rfl rfl ⟨F5, A5, rfl, hS, (fun p j h => by rw [nF5 p j (fun z => h (z.elim (fun y => (Or.inl ⟨y.1, y.2⟩)) (fun y => (Or.inr ⟨y.1, y.2⟩))))]), (fun p h => by
            funext j
            rw [nA5 p (fun z => h (z))]), (-1), ⟨by decide, by decide⟩, (fun hc => absurd hc (by rw [show a2 = 1 by omega]; exact c0_5 (by omega))), (fun _ => rfl), (fun hc => absurd hc (by rw [show a2 = 1 by omega]; exact c0_5 (by omega))), (fun _ => t0_5 (by omega)), rfl⟩
    · refine ezw_aload_n rfl rfl ?_
      refine ezs_getp (p := 13) rfl rfl rfl rfl rfl ?_
      refine ezw_call0_0 rfl (by omega) (ezu_at rfl) rfl rfl rfl rfl (ezt_m131_13n (w := (ezn_tP w 1 a3)) hS (by omega) (t1_5 (by omega)).1 (ezn_B_tP wb (by omega) (c1_5 (by omega)))) ?_
      rintro _ _ ⟨rfl, u8, hu8, an_7, rfl⟩
      refine ezw_goto rfl rfl ?_
      exact ezw_ireturn rfl rfl ⟨F5, A5, rfl, hS, (fun p j h => by rw [nF5 p j (fun z => h (z.elim (fun y => (Or.inl ⟨y.1, y.2⟩)) (fun y => (Or.inr ⟨y.1, y.2⟩))))]), (fun p h => by
            funext j
            rw [nA5 p (fun z => h (z))]), u8, hu8, (fun _ => by rw [show a2 = 1 by omega]; exact an_7), (fun hn => absurd (by rw [show a2 = 1 by omega]; exact c1_5 (by omega)) hn), (fun _ => by rw [show a2 = 1 by omega]; exact t1_5 (by omega)), (fun hn => absurd (by rw [show a2 = 1 by omega]; exact c1_5 (by omega)) hn), rfl⟩
def ezt_m120_13_47_v2nQ (e : Bool × Bool) (F : Nat → Nat → Int) (A : Nat → Int → Int) (y : ezp_D) (w : ezn_N) (qc : ezn_Q) (a3 : Int) (a4 : Int) : Option ezq_V → (Nat → ezq_C) → Prop := fun v g' => ∃ (F' : Nat → Nat → Int), ezu_g e F' A = g' ∧ ezs_T F' A ∧ (∀ p j, ¬ (p = 13 ∧ (j = 0 ∨ j = 1 ∨ j = 2 ∨ j = 3 ∨ j = 4 ∨ j = 5 ∨ j = 6)) → F' p j = F p j) ∧ ∃ u : Int, (0 ≤ u ∧ u ≤ 1) ∧ (u = 1 → ezn_cS w) ∧ (u = 0 → ¬ ezn_cS w) ∧ (u = 1 → ezn_C 13 (ezn_sl w) F') ∧ (u = 0 → ezn_C 13 w F') ∧ some (ezw_i u) = v
theorem ezt_m120_13_47_v2n {y : ezp_D} {w : ezn_N} {qc : ezn_Q} {a3 a4 : Int} {F : Nat → Nat → Int} {A : Nat → Int → Int} (hS : ezs_T F A) (hd : 1 ≤ d) (ha3 : ezw_in a3) (ha4 : ezw_in a4) (tr : ezt_TR 47 y F A) (nu : ezt_NU 47 y A) (hB : ezp_B y) (cw : ezn_C 13 w F) (wb : ezn_B y w) (cq : ezn_CQ qc y 47 A) (qr : ezn_QR qc) : ezw_C l ρ B xa Hb D cA 120 d [ezw_p 13, ezw_p 47, ezw_i (2), ezw_i a3, ezw_i a4] (ezu_g e F A) (ezt_m120_13_47_v2nQ e F A y w qc a3 a4) := by
  refine ezw_met (k := 0) rfl rfl ?_
  refine ezw_iload_n rfl rfl ?_
  refine ezw_tableswitchE (v := 2) (p := 68) rfl rfl (by rfl) ?_
  refine ezw_aload_n rfl rfl ?_
  refine ezw_call0_0 rfl (by omega) (ezu_at rfl) rfl rfl rfl rfl (ezt_m123_13n hS (by omega) cw wb) ?_
  rintro _ _ ⟨F1, rfl, hS, nF1, u2, hu2, c1_1, c0_1, t1_1, t0_1, rfl⟩
  exact ezw_ireturn rfl (ezw_zret ⟨by omega, by omega⟩) ⟨F1, rfl, hS, (fun p j h => by rw [nF1 p j (fun z => h (⟨z.1, (Or.inr (Or.inl z.2))⟩))]), u2, ⟨by omega, by omega⟩, c1_1, c0_1, t1_1, t0_1, rfl⟩
def ezt_m118_0_v2n_tQ (b2 : Bool) (F : Nat → Nat → Int) (A : Nat → Int → Int) (y : ezp_D) (w : ezn_N) (qc : ezn_Q) (kU : Int) (a2 : Int) (a3 : Int) : Option ezq_V → (Nat → ezq_C) → Prop := fun v g' => ∃ (F' : Nat → Nat → Int) (A' : Nat → Int → Int), ezu_g (true, b2) F' A' = g' ∧ ezs_T F' A' ∧ (∀ p j, ¬ (p = 13 ∧ (j = 0 ∨ j = 1 ∨ j = 2 ∨ j = 3 ∨ j = 4 ∨ j = 5 ∨ j = 6) ∨ p = 18 ∧ (j = 4)) → F' p j = F p j) ∧ (∀ p, ¬ (p = 19) → A' p = A p) ∧ ∃ u : Int, (0 ≤ u ∧ u ≤ 1) ∧ (u = 1 → ezn_cS w) ∧ (u = 0 → ¬ ezn_cS w) ∧ (u = 1 → ezn_C 13 (ezn_sl w) F' ∧ F' 18 4 = ezn_pn kU ∧ ∀ k, 0 ≤ k → k < ezn_pn kU → A' 19 k = (if kU = 16 then (if k = 15 then ezn_pk w else A 19 (k + 1)) else (if k = kU then ezn_pk w else A 19 k))) ∧ (u = 0 → ezn_C 13 w F' ∧ F' 18 4 = kU ∧ A' 19 = A 19) ∧ some (ezw_i u) = v
theorem ezt_m118_0_v2n_t {b2 : Bool} {y : ezp_D} {w : ezn_N} {qc : ezn_Q} {kU : Int} {a2 a3 : Int} {F : Nat → Nat → Int} {A : Nat → Int → Int} (hS : ezs_T F A) (hd : 2 ≤ d) (ha2 : ezw_in a2) (ha3 : ezw_in a3) (tr : ezt_TR 47 y F A) (nu : ezt_NU 47 y A) (hB : ezp_B y) (cw : ezn_C 13 w F) (wb : ezn_B y w) (cq : ezn_CQ qc y 47 A) (qr : ezn_QR qc) (uc : F 18 4 = kU ∧ 0 ≤ kU ∧ kU ≤ 16) : ezw_C l ρ B xa Hb D cA 118 d [ezw_p 0, ezw_i (2), ezw_i a2, ezw_i a3] (ezu_g (true, b2) F A) (ezt_m118_0_v2n_tQ b2 F A y w qc kU a2 a3) := by
  refine ezw_met (k := 3) rfl rfl ?_
  refine ezw_aload_n rfl rfl ?_
  refine ezs_getp (p := 13) rfl rfl rfl rfl rfl ?_
  refine ezw_call0_0 rfl (by omega) (ezu_at rfl) rfl rfl rfl rfl (ezt_m119_13n hS (by omega) cw wb) ?_
  rintro _ _ ⟨rfl, u2, hu2, an_1, rfl⟩
  refine ezw_lstore rfl rfl ?_
  refine ezw_aload_n rfl rfl ?_
  refine ezs_getp (p := 13) rfl rfl rfl rfl rfl ?_
  refine ezw_aload_n rfl rfl ?_
  refine ezs_getp (p := 47) rfl rfl rfl rfl rfl ?_
  refine ezw_iload_n rfl rfl ?_
  refine ezw_iload_n rfl rfl ?_
  refine ezw_iload_n rfl rfl ?_
  refine ezw_call0_4 rfl (by omega) (ezu_at rfl) rfl rfl rfl rfl (ezt_m120_13_47_v2n hS (by omega) ha2 ha3 tr nu hB cw wb cq qr) ?_
  rintro _ _ ⟨F3, rfl, hS, nF3, u4, hu4, c1_3, c0_3, t1_3, t0_3, rfl⟩
  refine ezw_istore rfl rfl ?_
  refine ezw_iload rfl rfl ?_
  refine ezw_if_eq rfl rfl ⟨by omega, by omega⟩ (fun h27_4 => ?_) (fun h27_4 => ?_)
  · refine ezw_iload rfl rfl ?_
    have w18_4 : F3 18 4 = (F 18 4) := by rw [nF3 18 4 (by decide)]
    exact ezw_ireturn rfl (ezw_zret ⟨by omega, by omega⟩) ⟨F3, A, rfl, hS, (fun p j h => by rw [nF3 p j (fun z => h (Or.inl ⟨z.1, z.2⟩))]), (fun _ _ => rfl), u4, ⟨by omega, by omega⟩, c1_3, c0_3, (by omega), (fun hu => ⟨t0_3 hu, (by rw [nF3 18 4 (by decide)]; exact uc.1), rfl⟩), rfl⟩
  · refine ezw_aload_n rfl rfl ?_
    refine ezs_getp (p := 18) rfl rfl rfl rfl rfl ?_
    refine ezw_lload rfl rfl ?_
    refine ezw_call0_1 rfl (by omega) (ezu_at rfl) rfl rfl rfl rfl (ezt_m130_18n hS (by omega) hu2 (by rw [nF3 18 4 (by decide)]; exact uc)) ?_
    rintro _ _ ⟨F5, A5, rfl, hS, nF5, nA5, n_5, r_5, rfl⟩
    refine ezw_iload rfl rfl ?_
    exact ezw_ireturn rfl (ezw_zret ⟨by omega, by omega⟩) ⟨F5, A5, rfl, hS, (fun p j h => by rw [nF5 p j (fun z => h (Or.inr ⟨z.1, z.2⟩)), nF3 p j (fun z => h (Or.inl ⟨z.1, z.2⟩))]), (fun p h => by
          funext j
          rw [nA5 p (fun z => h (z))]), u4, ⟨by omega, by omega⟩, c1_3, c0_3, (fun hu => ⟨ezn_C_f (t1_3 hu) (fun k hk => nF5 13 k (fun z => absurd z.1 (by decide))), n_5, fun k k0 k1 => by
          rw [← an_1]
          exact r_5 k k0 k1⟩), (by omega), rfl⟩
def ezt_m133_0n_tQ (b2 : Bool) (F : Nat → Nat → Int) (A : Nat → Int → Int) (y : ezp_D) (w : ezn_N) (qc : ezn_Q) (kU : Int) : Option ezq_V → (Nat → ezq_C) → Prop := fun v g' => ∃ (F' : Nat → Nat → Int) (A' : Nat → Int → Int), ezu_g (true, b2) F' A' = g' ∧ ezs_T F' A' ∧ (∀ p j, ¬ (p = 13 ∧ (j = 0 ∨ j = 1 ∨ j = 2 ∨ j = 3 ∨ j = 4 ∨ j = 5 ∨ j = 6) ∨ p = 18 ∧ (j = 4)) → F' p j = F p j) ∧ (∀ p, ¬ (p = 19) → A' p = A p) ∧ ∃ u : Int, (ezw_in u) ∧ (ezn_cS w → u = (ezn_sl w).ti) ∧ (¬ ezn_cS w → u = -1) ∧ (ezn_cS w → ezn_C 13 (ezn_sl w) F' ∧ F' 18 4 = ezn_pn kU ∧ ∀ k, 0 ≤ k → k < ezn_pn kU → A' 19 k = (if kU = 16 then (if k = 15 then ezn_pk w else A 19 (k + 1)) else (if k = kU then ezn_pk w else A 19 k))) ∧ (¬ ezn_cS w → ezn_C 13 w F' ∧ F' 18 4 = kU ∧ A' 19 = A 19) ∧ some (ezw_i u) = v
theorem ezt_m133_0n_t {b2 : Bool} {y : ezp_D} {w : ezn_N} {qc : ezn_Q} {kU : Int} {F : Nat → Nat → Int} {A : Nat → Int → Int} (hS : ezs_T F A) (hd : 3 ≤ d) (tr : ezt_TR 47 y F A) (nu : ezt_NU 47 y A) (hB : ezp_B y) (cw : ezn_C 13 w F) (wb : ezn_B y w) (cq : ezn_CQ qc y 47 A) (qr : ezn_QR qc) (uc : F 18 4 = kU ∧ 0 ≤ kU ∧ kU ≤ 16) : ezw_C l ρ B xa Hb D cA 133 d [ezw_p 0] (ezu_g (true, b2) F A) (ezt_m133_0n_tQ b2 F A y w qc kU) := by
  refine ezw_met (k := 0) rfl rfl ?_
  refine ezw_aload_n rfl rfl ?_
  refine ezw_iconst (2) rfl rfl ?_
  refine ezw_iconst (0) rfl rfl ?_
  refine ezw_iconst (0) rfl rfl ?_
  refine ezw_call0_3 rfl (by omega) (ezu_at rfl) rfl rfl rfl rfl (ezt_m118_0_v2n_t hS (by omega) ⟨by decide, by decide⟩ ⟨by decide, by decide⟩ tr nu hB cw wb cq qr uc) ?_
  rintro _ _ ⟨F1, A1, rfl, hS, nF1, nA1, u2, hu2, c1_1, c0_1, t1_1, t0_1, rfl⟩
  refine ezw_if_eq rfl rfl ⟨by omega, by omega⟩ (fun h7_2 => ?_) (fun h7_2 => ?_)
  · refine ezw_iconst (-1) rfl rfl ?_
    exact ezw_ireturn rfl rfl ⟨F1, A1, rfl, hS, (fun p j h => by rw [nF1 p j (fun z => h (z.elim (fun y => (Or.inl ⟨y.1, y.2⟩)) (fun y => (Or.inr ⟨y.1, y.2⟩))))]), (fun p h => by
          funext j
          rw [nA1 p (fun z => h (z))]), (-1), ⟨by decide, by decide⟩, (fun hc => absurd hc (by exact c0_1 (by omega))), (fun _ => rfl), (fun hc => absurd hc (by exact c0_1 (by omega))), (fun _ => t0_1 (by omega)), rfl⟩
  · refine ezw_aload_n rfl rfl ?_
    refine ezs_getp (p := 13) rfl rfl rfl rfl rfl ?_
    refine ezy_get_i hS rfl rfl rfl rfl rfl rfl (fun u3 hu3 ku3 eu3 => ?_)
    replace eu3 := eu3.symm
    subst eu3
    refine ezw_goto rfl rfl ?_
    exact ezw_ireturn rfl rfl ⟨F1, A1, rfl, hS, (fun p j h => by rw [nF1 p j (fun z => h (z.elim (fun y => (Or.inl ⟨y.1, y.2⟩)) (fun y => (Or.inr ⟨y.1, y.2⟩))))]), (fun p h => by
          funext j
          rw [nA1 p (fun z => h (z))]), (F1 13 1), hu3, (fun _ => (t1_1 (by omega)).1.2.1), (fun hn => absurd (by exact c1_1 (by omega)) hn), (fun _ => by exact t1_1 (by omega)), (fun hn => absurd (by exact c1_1 (by omega)) hn), rfl⟩
def ezt_m120_13_47_v3nQ (e : Bool × Bool) (F : Nat → Nat → Int) (A : Nat → Int → Int) (y : ezp_D) (w : ezn_N) (qc : ezn_Q) (a3 : Int) (a4 : Int) : Option ezq_V → (Nat → ezq_C) → Prop := fun v g' => ∃ (F' : Nat → Nat → Int), ezu_g e F' A = g' ∧ ezs_T F' A ∧ (∀ p j, ¬ (p = 13 ∧ (j = 0 ∨ j = 1 ∨ j = 2 ∨ j = 3 ∨ j = 4 ∨ j = 5 ∨ j = 6)) → F' p j = F p j) ∧ ∃ u : Int, (0 ≤ u ∧ u ≤ 1) ∧ (u = 1 → ezn_cL y w) ∧ (u = 0 → ¬ ezn_cL y w) ∧ (u = 1 → ezn_C 13 (ezn_off w (ezn_lo w.ov)) F') ∧ (u = 0 → ezn_C 13 w F') ∧ some (ezw_i u) = v
theorem ezt_m120_13_47_v3n {y : ezp_D} {w : ezn_N} {qc : ezn_Q} {a3 a4 : Int} {F : Nat → Nat → Int} {A : Nat → Int → Int} (hS : ezs_T F A) (hd : 4 ≤ d) (ha3 : ezw_in a3) (ha4 : ezw_in a4) (tr : ezt_TR 47 y F A) (nu : ezt_NU 47 y A) (hB : ezp_B y) (cw : ezn_C 13 w F) (wb : ezn_B y w) (cq : ezn_CQ qc y 47 A) (qr : ezn_QR qc) : ezw_C l ρ B xa Hb D cA 120 d [ezw_p 13, ezw_p 47, ezw_i (3), ezw_i a3, ezw_i a4] (ezu_g e F A) (ezt_m120_13_47_v3nQ e F A y w qc a3 a4) := by
  refine ezw_met (k := 0) rfl rfl ?_
  refine ezw_iload_n rfl rfl ?_
  refine ezw_tableswitchE (v := 3) (p := 73) rfl rfl (by rfl) ?_
  refine ezw_aload_n rfl rfl ?_
  refine ezw_aload_n rfl rfl ?_
  refine ezw_call0_1 rfl (by omega) (ezu_at rfl) rfl rfl rfl rfl (ezt_m124_13_47n hS (by omega) tr nu hB cw wb) ?_
  rintro _ _ ⟨F1, rfl, hS, nF1, u2, hu2, c1_1, c0_1, t1_1, t0_1, rfl⟩
  exact ezw_ireturn rfl (ezw_zret ⟨by omega, by omega⟩) ⟨F1, rfl, hS, (fun p j h => by rw [nF1 p j (fun z => h (⟨z.1, (z.2.elim (fun y => (Or.inl y)) (fun y => (y.elim (fun y => (Or.inr (Or.inl y))) (fun y => (Or.inr (Or.inr (Or.inr (Or.inr (Or.inl y)))))))))⟩))]), u2, ⟨by omega, by omega⟩, c1_1, c0_1, t1_1, t0_1, rfl⟩
def ezt_m118_0_v3n_tQ (b2 : Bool) (F : Nat → Nat → Int) (A : Nat → Int → Int) (y : ezp_D) (w : ezn_N) (qc : ezn_Q) (kU : Int) (a2 : Int) (a3 : Int) : Option ezq_V → (Nat → ezq_C) → Prop := fun v g' => ∃ (F' : Nat → Nat → Int) (A' : Nat → Int → Int), ezu_g (true, b2) F' A' = g' ∧ ezs_T F' A' ∧ (∀ p j, ¬ (p = 13 ∧ (j = 0 ∨ j = 1 ∨ j = 2 ∨ j = 3 ∨ j = 4 ∨ j = 5 ∨ j = 6) ∨ p = 18 ∧ (j = 4)) → F' p j = F p j) ∧ (∀ p, ¬ (p = 19) → A' p = A p) ∧ ∃ u : Int, (0 ≤ u ∧ u ≤ 1) ∧ (u = 1 → ezn_cL y w) ∧ (u = 0 → ¬ ezn_cL y w) ∧ (u = 1 → ezn_C 13 (ezn_off w (ezn_lo w.ov)) F' ∧ F' 18 4 = ezn_pn kU ∧ ∀ k, 0 ≤ k → k < ezn_pn kU → A' 19 k = (if kU = 16 then (if k = 15 then ezn_pk w else A 19 (k + 1)) else (if k = kU then ezn_pk w else A 19 k))) ∧ (u = 0 → ezn_C 13 w F' ∧ F' 18 4 = kU ∧ A' 19 = A 19) ∧ some (ezw_i u) = v
theorem ezt_m118_0_v3n_t {b2 : Bool} {y : ezp_D} {w : ezn_N} {qc : ezn_Q} {kU : Int} {a2 a3 : Int} {F : Nat → Nat → Int} {A : Nat → Int → Int} (hS : ezs_T F A) (hd : 5 ≤ d) (ha2 : ezw_in a2) (ha3 : ezw_in a3) (tr : ezt_TR 47 y F A) (nu : ezt_NU 47 y A) (hB : ezp_B y) (cw : ezn_C 13 w F) (wb : ezn_B y w) (cq : ezn_CQ qc y 47 A) (qr : ezn_QR qc) (uc : F 18 4 = kU ∧ 0 ≤ kU ∧ kU ≤ 16) : ezw_C l ρ B xa Hb D cA 118 d [ezw_p 0, ezw_i (3), ezw_i a2, ezw_i a3] (ezu_g (true, b2) F A) (ezt_m118_0_v3n_tQ b2 F A y w qc kU a2 a3) := by
  refine ezw_met (k := 3) rfl rfl ?_
  refine ezw_aload_n rfl rfl ?_
  refine ezs_getp (p := 13) rfl rfl rfl rfl rfl ?_
  refine ezw_call0_0 rfl (by omega) (ezu_at rfl) rfl rfl rfl rfl (ezt_m119_13n hS (by omega) cw wb) ?_
  rintro _ _ ⟨rfl, u2, hu2, an_1, rfl⟩
  refine ezw_lstore rfl rfl ?_
  refine ezw_aload_n rfl rfl ?_
  refine ezs_getp (p := 13) rfl rfl rfl rfl rfl ?_
  refine ezw_aload_n rfl rfl ?_
  refine ezs_getp (p := 47) rfl rfl rfl rfl rfl ?_
  refine ezw_iload_n rfl rfl ?_
  refine ezw_iload_n rfl rfl ?_
  refine ezw_iload_n rfl rfl ?_
  refine ezw_call0_4 rfl (by omega) (ezu_at rfl) rfl rfl rfl rfl (ezt_m120_13_47_v3n hS (by omega) ha2 ha3 tr nu hB cw wb cq qr) ?_
  rintro _ _ ⟨F3, rfl, hS, nF3, u4, hu4, c1_3, c0_3, t1_3, t0_3, rfl⟩
  refine ezw_istore rfl rfl ?_
  refine ezw_iload rfl rfl ?_
  refine ezw_if_eq rfl rfl ⟨by omega, by omega⟩ (fun h27_4 => ?_) (fun h27_4 => ?_)
  · refine ezw_iload rfl rfl ?_
    have w18_4 : F3 18 4 = (F 18 4) := by rw [nF3 18 4 (by decide)]
    exact ezw_ireturn rfl (ezw_zret ⟨by omega, by omega⟩) ⟨F3, A, rfl, hS, (fun p j h => by rw [nF3 p j (fun z => h (Or.inl ⟨z.1, z.2⟩))]), (fun _ _ => rfl), u4, ⟨by omega, by omega⟩, c1_3, c0_3, (by omega), (fun hu => ⟨t0_3 hu, (by rw [nF3 18 4 (by decide)]; exact uc.1), rfl⟩), rfl⟩
  · refine ezw_aload_n rfl rfl ?_
    refine ezs_getp (p := 18) rfl rfl rfl rfl rfl ?_
    refine ezw_lload rfl rfl ?_
    refine ezw_call0_1 rfl (by omega) (ezu_at rfl) rfl rfl rfl rfl (ezt_m130_18n hS (by omega) hu2 (by rw [nF3 18 4 (by decide)]; exact uc)) ?_
    rintro _ _ ⟨F5, A5, rfl, hS, nF5, nA5, n_5, r_5, rfl⟩
    refine ezw_iload rfl rfl ?_
    exact ezw_ireturn rfl (ezw_zret ⟨by omega, by omega⟩) ⟨F5, A5, rfl, hS, (fun p j h => by rw [nF5 p j (fun z => h (Or.inr ⟨z.1, z.2⟩)), nF3 p j (fun z => h (Or.inl ⟨z.1, z.2⟩))]), (fun p h => by
          funext j
          rw [nA5 p (fun z => h (z))]), u4, ⟨by omega, by omega⟩, c1_3, c0_3, (fun hu => ⟨ezn_C_f (t1_3 hu) (fun k hk => nF5 13 k (fun z => absurd z.1 (by decide))), n_5, fun k k0 k1 => by
          rw [← an_1]
          exact r_5 k k0 k1⟩), (by omega), rfl⟩
def ezt_m134_0n_tQ (b2 : Bool) (F : Nat → Nat → Int) (A : Nat → Int → Int) (y : ezp_D) (w : ezn_N) (qc : ezn_Q) (kU : Int) : Option ezq_V → (Nat → ezq_C) → Prop := fun v g' => ∃ (F' : Nat → Nat → Int) (A' : Nat → Int → Int), ezu_g (true, b2) F' A' = g' ∧ ezs_T F' A' ∧ (∀ p j, ¬ (p = 13 ∧ (j = 0 ∨ j = 1 ∨ j = 2 ∨ j = 3 ∨ j = 4 ∨ j = 5 ∨ j = 6) ∨ p = 18 ∧ (j = 4)) → F' p j = F p j) ∧ (∀ p, ¬ (p = 19) → A' p = A p) ∧ ∃ u : Int, (0 ≤ u ∧ u ≤ 1) ∧ (ezn_cL y w → u = 1) ∧ (¬ ezn_cL y w → u = 0) ∧ (ezn_cL y w → ezn_C 13 (ezn_off w (ezn_lo w.ov)) F' ∧ F' 18 4 = ezn_pn kU ∧ ∀ k, 0 ≤ k → k < ezn_pn kU → A' 19 k = (if kU = 16 then (if k = 15 then ezn_pk w else A 19 (k + 1)) else (if k = kU then ezn_pk w else A 19 k))) ∧ (¬ ezn_cL y w → ezn_C 13 w F' ∧ F' 18 4 = kU ∧ A' 19 = A 19) ∧ some (ezw_i u) = v
theorem ezt_m134_0n_t {b2 : Bool} {y : ezp_D} {w : ezn_N} {qc : ezn_Q} {kU : Int} {F : Nat → Nat → Int} {A : Nat → Int → Int} (hS : ezs_T F A) (hd : 6 ≤ d) (tr : ezt_TR 47 y F A) (nu : ezt_NU 47 y A) (hB : ezp_B y) (cw : ezn_C 13 w F) (wb : ezn_B y w) (cq : ezn_CQ qc y 47 A) (qr : ezn_QR qc) (uc : F 18 4 = kU ∧ 0 ≤ kU ∧ kU ≤ 16) : ezw_C l ρ B xa Hb D cA 134 d [ezw_p 0] (ezu_g (true, b2) F A) (ezt_m134_0n_tQ b2 F A y w qc kU) := by
  refine ezw_met (k := 0) rfl rfl ?_
  refine ezw_aload_n rfl rfl ?_
  refine ezw_iconst (3) rfl rfl ?_
  refine ezw_iconst (0) rfl rfl ?_
  refine ezw_iconst (0) rfl rfl ?_
  refine ezw_call0_3 rfl (by omega) (ezu_at rfl) rfl rfl rfl rfl (ezt_m118_0_v3n_t hS (by omega) ⟨by decide, by decide⟩ ⟨by decide, by decide⟩ tr nu hB cw wb cq qr uc) ?_
  rintro _ _ ⟨F1, A1, rfl, hS, nF1, nA1, u2, hu2, c1_1, c0_1, t1_1, t0_1, rfl⟩
  exact ezw_ireturn rfl (ezw_zret ⟨by omega, by omega⟩) ⟨F1, A1, rfl, hS, (fun p j h => by rw [nF1 p j (fun z => h (z.elim (fun y => (Or.inl ⟨y.1, y.2⟩)) (fun y => (Or.inr ⟨y.1, y.2⟩))))]), (fun p h => by
        funext j
        rw [nA1 p (fun z => h (z))]), u2, ⟨by omega, by omega⟩, (fun hc => by
        rcases (show u2 = 0 ∨ u2 = 1 by omega) with h | h
        · exact absurd hc (by exact c0_1 h)
        · exact h), (fun hn => by
        rcases (show u2 = 0 ∨ u2 = 1 by omega) with h | h
        · exact h
        · exact absurd (by exact c1_1 h) hn), (fun hc => by
        rcases (show u2 = 0 ∨ u2 = 1 by omega) with h | h
        · exact absurd hc (by exact c0_1 h)
        · exact t1_1 h), (fun hn => by
        rcases (show u2 = 0 ∨ u2 = 1 by omega) with h | h
        · exact t0_1 h
        · exact absurd (by exact c1_1 h) hn), rfl⟩
def ezt_m120_13_47_v4nQ (e : Bool × Bool) (F : Nat → Nat → Int) (A : Nat → Int → Int) (y : ezp_D) (w : ezn_N) (qc : ezn_Q) (a3 : Int) (a4 : Int) : Option ezq_V → (Nat → ezq_C) → Prop := fun v g' => ∃ (F' : Nat → Nat → Int), ezu_g e F' A = g' ∧ ezs_T F' A ∧ (∀ p j, ¬ (p = 13 ∧ (j = 0 ∨ j = 1 ∨ j = 2 ∨ j = 3 ∨ j = 4 ∨ j = 5 ∨ j = 6)) → F' p j = F p j) ∧ ∃ u : Int, (0 ≤ u ∧ u ≤ 1) ∧ (u = 1 → ezn_cH y w a3 a4) ∧ (u = 0 → ¬ ezn_cH y w a3 a4) ∧ (u = 1 → ezn_C 13 (ezn_tH w a3 a4) F') ∧ (u = 0 → ezn_C 13 w F') ∧ some (ezw_i u) = v
theorem ezt_m120_13_47_v4n {y : ezp_D} {w : ezn_N} {qc : ezn_Q} {a3 a4 : Int} {F : Nat → Nat → Int} {A : Nat → Int → Int} (hS : ezs_T F A) (hd : 4 ≤ d) (ha3 : ezw_in a3) (ha4 : ezw_in a4) (tr : ezt_TR 47 y F A) (nu : ezt_NU 47 y A) (hB : ezp_B y) (cw : ezn_C 13 w F) (wb : ezn_B y w) (cq : ezn_CQ qc y 47 A) (qr : ezn_QR qc) : ezw_C l ρ B xa Hb D cA 120 d [ezw_p 13, ezw_p 47, ezw_i (4), ezw_i a3, ezw_i a4] (ezu_g e F A) (ezt_m120_13_47_v4nQ e F A y w qc a3 a4) := by
  refine ezw_met (k := 0) rfl rfl ?_
  refine ezw_iload_n rfl rfl ?_
  refine ezw_tableswitchE (v := 4) (p := 79) rfl rfl (by rfl) ?_
  refine ezw_aload_n rfl rfl ?_
  refine ezw_aload_n rfl rfl ?_
  refine ezw_iload_n rfl rfl ?_
  refine ezw_iload rfl rfl ?_
  refine ezw_call0_3 rfl (by omega) (ezu_at rfl) rfl rfl rfl rfl (ezt_m125_13_47n hS (by omega) ha3 ha4 tr nu hB cw wb) ?_
  rintro _ _ ⟨F1, rfl, hS, nF1, u2, hu2, c1_1, c0_1, t1_1, t0_1, rfl⟩
  exact ezw_ireturn rfl (ezw_zret ⟨by omega, by omega⟩) ⟨F1, rfl, hS, (fun p j h => by rw [nF1 p j (fun z => h (⟨z.1, (z.2.elim (fun y => (Or.inl y)) (fun y => (y.elim (fun y => (Or.inr (Or.inl y))) (fun y => (y.elim (fun y => (Or.inr (Or.inr (Or.inr (Or.inr (Or.inl y)))))) (fun y => (Or.inr (Or.inr (Or.inr (Or.inr (Or.inr (Or.inr y))))))))))))⟩))]), u2, ⟨by omega, by omega⟩, c1_1, c0_1, t1_1, t0_1, rfl⟩
def ezt_m118_0_v4n_tQ (b2 : Bool) (F : Nat → Nat → Int) (A : Nat → Int → Int) (y : ezp_D) (w : ezn_N) (qc : ezn_Q) (kU : Int) (a2 : Int) (a3 : Int) : Option ezq_V → (Nat → ezq_C) → Prop := fun v g' => ∃ (F' : Nat → Nat → Int) (A' : Nat → Int → Int), ezu_g (true, b2) F' A' = g' ∧ ezs_T F' A' ∧ (∀ p j, ¬ (p = 13 ∧ (j = 0 ∨ j = 1 ∨ j = 2 ∨ j = 3 ∨ j = 4 ∨ j = 5 ∨ j = 6) ∨ p = 18 ∧ (j = 4)) → F' p j = F p j) ∧ (∀ p, ¬ (p = 19) → A' p = A p) ∧ ∃ u : Int, (0 ≤ u ∧ u ≤ 1) ∧ (u = 1 → ezn_cH y w a2 a3) ∧ (u = 0 → ¬ ezn_cH y w a2 a3) ∧ (u = 1 → ezn_C 13 (ezn_tH w a2 a3) F' ∧ F' 18 4 = ezn_pn kU ∧ ∀ k, 0 ≤ k → k < ezn_pn kU → A' 19 k = (if kU = 16 then (if k = 15 then ezn_pk w else A 19 (k + 1)) else (if k = kU then ezn_pk w else A 19 k))) ∧ (u = 0 → ezn_C 13 w F' ∧ F' 18 4 = kU ∧ A' 19 = A 19) ∧ some (ezw_i u) = v
theorem ezt_m118_0_v4n_t {b2 : Bool} {y : ezp_D} {w : ezn_N} {qc : ezn_Q} {kU : Int} {a2 a3 : Int} {F : Nat → Nat → Int} {A : Nat → Int → Int} (hS : ezs_T F A) (hd : 5 ≤ d) (ha2 : ezw_in a2) (ha3 : ezw_in a3) (tr : ezt_TR 47 y F A) (nu : ezt_NU 47 y A) (hB : ezp_B y) (cw : ezn_C 13 w F) (wb : ezn_B y w) (cq : ezn_CQ qc y 47 A) (qr : ezn_QR qc) (uc : F 18 4 = kU ∧ 0 ≤ kU ∧ kU ≤ 16) : ezw_C l ρ B xa Hb D cA 118 d [ezw_p 0, ezw_i (4), ezw_i a2, ezw_i a3] (ezu_g (true, b2) F A) (ezt_m118_0_v4n_tQ b2 F A y w qc kU a2 a3) := by
  refine ezw_met (k := 3) rfl rfl ?_
  refine ezw_aload_n rfl rfl ?_
  refine ezs_getp (p := 13) rfl rfl rfl rfl rfl ?_
  refine ezw_call0_0 rfl (by omega) (ezu_at rfl) rfl rfl rfl rfl (ezt_m119_13n hS (by omega) cw wb) ?_
  rintro _ _ ⟨rfl, u2, hu2, an_1, rfl⟩
  refine ezw_lstore rfl rfl ?_
  refine ezw_aload_n rfl rfl ?_
  refine ezs_getp (p := 13) rfl rfl rfl rfl rfl ?_
  refine ezw_aload_n rfl rfl ?_
  refine ezs_getp (p := 47) rfl rfl rfl rfl rfl ?_
  refine ezw_iload_n rfl rfl ?_
  refine ezw_iload_n rfl rfl ?_
  refine ezw_iload_n rfl rfl ?_
  refine ezw_call0_4 rfl (by omega) (ezu_at rfl) rfl rfl rfl rfl (ezt_m120_13_47_v4n hS (by omega) ha2 ha3 tr nu hB cw wb cq qr) ?_
  rintro _ _ ⟨F3, rfl, hS, nF3, u4, hu4, c1_3, c0_3, t1_3, t0_3, rfl⟩
  refine ezw_istore rfl rfl ?_
  refine ezw_iload rfl rfl ?_
  refine ezw_if_eq rfl rfl ⟨by omega, by omega⟩ (fun h27_4 => ?_) (fun h27_4 => ?_)
  · refine ezw_iload rfl rfl ?_
    have w18_4 : F3 18 4 = (F 18 4) := by rw [nF3 18 4 (by decide)]
    exact ezw_ireturn rfl (ezw_zret ⟨by omega, by omega⟩) ⟨F3, A, rfl, hS, (fun p j h => by rw [nF3 p j (fun z => h (Or.inl ⟨z.1, z.2⟩))]), (fun _ _ => rfl), u4, ⟨by omega, by omega⟩, c1_3, c0_3, (by omega), (fun hu => ⟨t0_3 hu, (by rw [nF3 18 4 (by decide)]; exact uc.1), rfl⟩), rfl⟩
  · refine ezw_aload_n rfl rfl ?_
    refine ezs_getp (p := 18) rfl rfl rfl rfl rfl ?_
    refine ezw_lload rfl rfl ?_
    refine ezw_call0_1 rfl (by omega) (ezu_at rfl) rfl rfl rfl rfl (ezt_m130_18n hS (by omega) hu2 (by rw [nF3 18 4 (by decide)]; exact uc)) ?_
    rintro _ _ ⟨F5, A5, rfl, hS, nF5, nA5, n_5, r_5, rfl⟩
    refine ezw_iload rfl rfl ?_
    exact ezw_ireturn rfl (ezw_zret ⟨by omega, by omega⟩) ⟨F5, A5, rfl, hS, (fun p j h => by rw [nF5 p j (fun z => h (Or.inr ⟨z.1, z.2⟩)), nF3 p j (fun z => h (Or.inl ⟨z.1, z.2⟩))]), (fun p h => by
          funext j
          rw [nA5 p (fun z => h (z))]), u4, ⟨by omega, by omega⟩, c1_3, c0_3, (fun hu => ⟨ezn_C_f (t1_3 hu) (fun k hk => nF5 13 k (fun z => absurd z.1 (by decide))), n_5, fun k k0 k1 => by
          rw [← an_1]
          exact r_5 k k0 k1⟩), (by omega), rfl⟩
def ezt_m135_0n_tQ (b2 : Bool) (F : Nat → Nat → Int) (A : Nat → Int → Int) (y : ezp_D) (w : ezn_N) (qc : ezn_Q) (kU : Int) (a1 : Int) (a2 : Int) : Option ezq_V → (Nat → ezq_C) → Prop := fun v g' => ∃ (F' : Nat → Nat → Int) (A' : Nat → Int → Int), ezu_g (true, b2) F' A' = g' ∧ ezs_T F' A' ∧ (∀ p j, ¬ (p = 13 ∧ (j = 0 ∨ j = 1 ∨ j = 2 ∨ j = 3 ∨ j = 4 ∨ j = 5 ∨ j = 6) ∨ p = 18 ∧ (j = 4)) → F' p j = F p j) ∧ (∀ p, ¬ (p = 19) → A' p = A p) ∧ ∃ u : Int, (ezw_in u) ∧ (ezn_cH y w a1 a2 → u = (ezn_cn (ezn_tH w a1 a2).ov)) ∧ (¬ ezn_cH y w a1 a2 → u = -1) ∧ (ezn_cH y w a1 a2 → ezn_C 13 (ezn_tH w a1 a2) F' ∧ F' 18 4 = ezn_pn kU ∧ ∀ k, 0 ≤ k → k < ezn_pn kU → A' 19 k = (if kU = 16 then (if k = 15 then ezn_pk w else A 19 (k + 1)) else (if k = kU then ezn_pk w else A 19 k))) ∧ (¬ ezn_cH y w a1 a2 → ezn_C 13 w F' ∧ F' 18 4 = kU ∧ A' 19 = A 19) ∧ some (ezw_i u) = v
theorem ezt_m135_0n_t {b2 : Bool} {y : ezp_D} {w : ezn_N} {qc : ezn_Q} {kU : Int} {a1 a2 : Int} {F : Nat → Nat → Int} {A : Nat → Int → Int} (hS : ezs_T F A) (hd : 6 ≤ d) (ha1 : ezw_in a1) (ha2 : ezw_in a2) (tr : ezt_TR 47 y F A) (nu : ezt_NU 47 y A) (hB : ezp_B y) (cw : ezn_C 13 w F) (wb : ezn_B y w) (cq : ezn_CQ qc y 47 A) (qr : ezn_QR qc) (uc : F 18 4 = kU ∧ 0 ≤ kU ∧ kU ≤ 16) : ezw_C l ρ B xa Hb D cA 135 d [ezw_p 0, ezw_i a1, ezw_i a2] (ezu_g (true, b2) F A) (ezt_m135_0n_tQ b2 F A y w qc kU a1 a2) := by
  refine ezw_met (k := 0) rfl rfl ?_
  refine ezw_aload_n rfl rfl ?_
  refine ezw_iconst (4) rfl rfl ?_
  refine ezw_iload_n rfl rfl ?_
  refine ezw_iload_n rfl rfl ?_
  refine ezw_call0_3 rfl (by omega) (ezu_at rfl) rfl rfl rfl rfl (ezt_m118_0_v4n_t hS (by omega) ha1 ha2 tr nu hB cw wb cq qr uc) ?_
  rintro _ _ ⟨F1, A1, rfl, hS, nF1, nA1, u2, hu2, c1_1, c0_1, t1_1, t0_1, rfl⟩
  refine ezw_if_eq rfl rfl ⟨by omega, by omega⟩ (fun h7_2 => ?_) (fun h7_2 => ?_)
  · refine ezw_iconst (-1) rfl rfl ?_
    exact ezw_ireturn rfl rfl ⟨F1, A1, rfl, hS, (fun p j h => by rw [nF1 p j (fun z => h (z.elim (fun y => (Or.inl ⟨y.1, y.2⟩)) (fun y => (Or.inr ⟨y.1, y.2⟩))))]), (fun p h => by
          funext j
          rw [nA1 p (fun z => h (z))]), (-1), ⟨by decide, by decide⟩, (fun hc => absurd hc (by exact c0_1 (by omega))), (fun _ => rfl), (fun hc => absurd hc (by exact c0_1 (by omega))), (fun _ => t0_1 (by omega)), rfl⟩
  · refine ezw_aload_n rfl rfl ?_
    refine ezs_getp (p := 13) rfl rfl rfl rfl rfl ?_
    refine ezw_call0_0 rfl (by omega) (ezu_at rfl) rfl rfl rfl rfl (ezt_m131_13n (w := (ezn_tH w a1 a2)) hS (by omega) (t1_1 (by omega)).1 (ezn_B_tH hB wb (c1_1 (by omega)))) ?_
    rintro _ _ ⟨rfl, u4, hu4, an_3, rfl⟩
    refine ezw_goto rfl rfl ?_
    exact ezw_ireturn rfl rfl ⟨F1, A1, rfl, hS, (fun p j h => by rw [nF1 p j (fun z => h (z.elim (fun y => (Or.inl ⟨y.1, y.2⟩)) (fun y => (Or.inr ⟨y.1, y.2⟩))))]), (fun p h => by
          funext j
          rw [nA1 p (fun z => h (z))]), u4, hu4, (fun _ => by exact an_3), (fun hn => absurd (by exact c1_1 (by omega)) hn), (fun _ => by exact t1_1 (by omega)), (fun hn => absurd (by exact c1_1 (by omega)) hn), rfl⟩
def ezt_m120_13_47_v5nQ (e : Bool × Bool) (F : Nat → Nat → Int) (A : Nat → Int → Int) (y : ezp_D) (w : ezn_N) (qc : ezn_Q) (a3 : Int) (a4 : Int) : Option ezq_V → (Nat → ezq_C) → Prop := fun v g' => ∃ (F' : Nat → Nat → Int), ezu_g e F' A = g' ∧ ezs_T F' A ∧ (∀ p j, ¬ (p = 13 ∧ (j = 0 ∨ j = 1 ∨ j = 2 ∨ j = 3 ∨ j = 4 ∨ j = 5 ∨ j = 6)) → F' p j = F p j) ∧ ∃ u : Int, (0 ≤ u ∧ u ≤ 1) ∧ (u = 1 → ezn_cC y w a3 0) ∧ (u = 0 → ¬ ezn_cC y w a3 0) ∧ (u = 1 → ezn_C 13 (ezn_off w (ezn_ps y w a3 6)) F') ∧ (u = 0 → ezn_C 13 w F') ∧ some (ezw_i u) = v
theorem ezt_m120_13_47_v5n {y : ezp_D} {w : ezn_N} {qc : ezn_Q} {a3 a4 : Int} {F : Nat → Nat → Int} {A : Nat → Int → Int} (hS : ezs_T F A) (hd : 4 ≤ d) (ha3 : ezw_in a3) (ha4 : ezw_in a4) (tr : ezt_TR 47 y F A) (nu : ezt_NU 47 y A) (hB : ezp_B y) (cw : ezn_C 13 w F) (wb : ezn_B y w) (cq : ezn_CQ qc y 47 A) (qr : ezn_QR qc) : ezw_C l ρ B xa Hb D cA 120 d [ezw_p 13, ezw_p 47, ezw_i (5), ezw_i a3, ezw_i a4] (ezu_g e F A) (ezt_m120_13_47_v5nQ e F A y w qc a3 a4) := by
  refine ezw_met (k := 0) rfl rfl ?_
  refine ezw_iload_n rfl rfl ?_
  refine ezw_tableswitchE (v := 5) (p := 88) rfl rfl (by rfl) ?_
  refine ezw_aload_n rfl rfl ?_
  refine ezw_aload_n rfl rfl ?_
  refine ezw_iload_n rfl rfl ?_
  refine ezw_iconst (0) rfl rfl ?_
  refine ezw_call0_3 rfl (by omega) (ezu_at rfl) rfl rfl rfl rfl (ezt_m126_13_47n hS (by omega) ha3 ⟨by decide, by decide⟩ tr nu hB cw wb (by omega)) ?_
  rintro _ _ ⟨F1, rfl, hS, nF1, u2, hu2, c1_1, c0_1, t1_1, t0_1, rfl⟩
  exact ezw_ireturn rfl (ezw_zret ⟨by omega, by omega⟩) ⟨F1, rfl, hS, (fun p j h => by rw [nF1 p j (fun z => h (⟨z.1, (z.2.elim (fun y => (Or.inl y)) (fun y => (y.elim (fun y => (Or.inr (Or.inl y))) (fun y => (Or.inr (Or.inr (Or.inr (Or.inr (Or.inl y)))))))))⟩))]), u2, ⟨by omega, by omega⟩, c1_1, c0_1, t1_1, t0_1, rfl⟩
def ezt_m118_0_v5n_tQ (b2 : Bool) (F : Nat → Nat → Int) (A : Nat → Int → Int) (y : ezp_D) (w : ezn_N) (qc : ezn_Q) (kU : Int) (a2 : Int) (a3 : Int) : Option ezq_V → (Nat → ezq_C) → Prop := fun v g' => ∃ (F' : Nat → Nat → Int) (A' : Nat → Int → Int), ezu_g (true, b2) F' A' = g' ∧ ezs_T F' A' ∧ (∀ p j, ¬ (p = 13 ∧ (j = 0 ∨ j = 1 ∨ j = 2 ∨ j = 3 ∨ j = 4 ∨ j = 5 ∨ j = 6) ∨ p = 18 ∧ (j = 4)) → F' p j = F p j) ∧ (∀ p, ¬ (p = 19) → A' p = A p) ∧ ∃ u : Int, (0 ≤ u ∧ u ≤ 1) ∧ (u = 1 → ezn_cC y w a2 0) ∧ (u = 0 → ¬ ezn_cC y w a2 0) ∧ (u = 1 → ezn_C 13 (ezn_off w (ezn_ps y w a2 6)) F' ∧ F' 18 4 = ezn_pn kU ∧ ∀ k, 0 ≤ k → k < ezn_pn kU → A' 19 k = (if kU = 16 then (if k = 15 then ezn_pk w else A 19 (k + 1)) else (if k = kU then ezn_pk w else A 19 k))) ∧ (u = 0 → ezn_C 13 w F' ∧ F' 18 4 = kU ∧ A' 19 = A 19) ∧ some (ezw_i u) = v
theorem ezt_m118_0_v5n_t {b2 : Bool} {y : ezp_D} {w : ezn_N} {qc : ezn_Q} {kU : Int} {a2 a3 : Int} {F : Nat → Nat → Int} {A : Nat → Int → Int} (hS : ezs_T F A) (hd : 5 ≤ d) (ha2 : ezw_in a2) (ha3 : ezw_in a3) (tr : ezt_TR 47 y F A) (nu : ezt_NU 47 y A) (hB : ezp_B y) (cw : ezn_C 13 w F) (wb : ezn_B y w) (cq : ezn_CQ qc y 47 A) (qr : ezn_QR qc) (uc : F 18 4 = kU ∧ 0 ≤ kU ∧ kU ≤ 16) : ezw_C l ρ B xa Hb D cA 118 d [ezw_p 0, ezw_i (5), ezw_i a2, ezw_i a3] (ezu_g (true, b2) F A) (ezt_m118_0_v5n_tQ b2 F A y w qc kU a2 a3) := by
  refine ezw_met (k := 3) rfl rfl ?_
  refine ezw_aload_n rfl rfl ?_
  refine ezs_getp (p := 13) rfl rfl rfl rfl rfl ?_
  refine ezw_call0_0 rfl (by omega) (ezu_at rfl) rfl rfl rfl rfl (ezt_m119_13n hS (by omega) cw wb) ?_
  rintro _ _ ⟨rfl, u2, hu2, an_1, rfl⟩
  refine ezw_lstore rfl rfl ?_
  refine ezw_aload_n rfl rfl ?_
  refine ezs_getp (p := 13) rfl rfl rfl rfl rfl ?_
  refine ezw_aload_n rfl rfl ?_
  refine ezs_getp (p := 47) rfl rfl rfl rfl rfl ?_
  refine ezw_iload_n rfl rfl ?_
  refine ezw_iload_n rfl rfl ?_
  refine ezw_iload_n rfl rfl ?_
  refine ezw_call0_4 rfl (by omega) (ezu_at rfl) rfl rfl rfl rfl (ezt_m120_13_47_v5n hS (by omega) ha2 ha3 tr nu hB cw wb cq qr) ?_
  rintro _ _ ⟨F3, rfl, hS, nF3, u4, hu4, c1_3, c0_3, t1_3, t0_3, rfl⟩
  refine ezw_istore rfl rfl ?_
  refine ezw_iload rfl rfl ?_
  refine ezw_if_eq rfl rfl ⟨by omega, by omega⟩ (fun h27_4 => ?_) (fun h27_4 => ?_)
  · refine ezw_iload rfl rfl ?_
    have w18_4 : F3 18 4 = (F 18 4) := by rw [nF3 18 4 (by decide)]
    exact ezw_ireturn rfl (ezw_zret ⟨by omega, by omega⟩) ⟨F3, A, rfl, hS, (fun p j h => by rw [nF3 p j (fun z => h (Or.inl ⟨z.1, z.2⟩))]), (fun _ _ => rfl), u4, ⟨by omega, by omega⟩, c1_3, c0_3, (by omega), (fun hu => ⟨t0_3 hu, (by rw [nF3 18 4 (by decide)]; exact uc.1), rfl⟩), rfl⟩
  · refine ezw_aload_n rfl rfl ?_
    refine ezs_getp (p := 18) rfl rfl rfl rfl rfl ?_
    refine ezw_lload rfl rfl ?_
    refine ezw_call0_1 rfl (by omega) (ezu_at rfl) rfl rfl rfl rfl (ezt_m130_18n hS (by omega) hu2 (by rw [nF3 18 4 (by decide)]; exact uc)) ?_
    rintro _ _ ⟨F5, A5, rfl, hS, nF5, nA5, n_5, r_5, rfl⟩
    refine ezw_iload rfl rfl ?_
    exact ezw_ireturn rfl (ezw_zret ⟨by omega, by omega⟩) ⟨F5, A5, rfl, hS, (fun p j h => by rw [nF5 p j (fun z => h (Or.inr ⟨z.1, z.2⟩)), nF3 p j (fun z => h (Or.inl ⟨z.1, z.2⟩))]), (fun p h => by
          funext j
          rw [nA5 p (fun z => h (z))]), u4, ⟨by omega, by omega⟩, c1_3, c0_3, (fun hu => ⟨ezn_C_f (t1_3 hu) (fun k hk => nF5 13 k (fun z => absurd z.1 (by decide))), n_5, fun k k0 k1 => by
          rw [← an_1]
          exact r_5 k k0 k1⟩), (by omega), rfl⟩
def ezt_m120_13_47_v6nQ (e : Bool × Bool) (F : Nat → Nat → Int) (A : Nat → Int → Int) (y : ezp_D) (w : ezn_N) (qc : ezn_Q) (a3 : Int) (a4 : Int) : Option ezq_V → (Nat → ezq_C) → Prop := fun v g' => ∃ (F' : Nat → Nat → Int), ezu_g e F' A = g' ∧ ezs_T F' A ∧ (∀ p j, ¬ (p = 13 ∧ (j = 0 ∨ j = 1 ∨ j = 2 ∨ j = 3 ∨ j = 4 ∨ j = 5 ∨ j = 6)) → F' p j = F p j) ∧ ∃ u : Int, (0 ≤ u ∧ u ≤ 1) ∧ (u = 1 → ezn_cC y w a3 1) ∧ (u = 0 → ¬ ezn_cC y w a3 1) ∧ (u = 1 → ezn_C 13 (ezn_off w (ezn_ps y w a3 6)) F') ∧ (u = 0 → ezn_C 13 w F') ∧ some (ezw_i u) = v
theorem ezt_m120_13_47_v6n {y : ezp_D} {w : ezn_N} {qc : ezn_Q} {a3 a4 : Int} {F : Nat → Nat → Int} {A : Nat → Int → Int} (hS : ezs_T F A) (hd : 4 ≤ d) (ha3 : ezw_in a3) (ha4 : ezw_in a4) (tr : ezt_TR 47 y F A) (nu : ezt_NU 47 y A) (hB : ezp_B y) (cw : ezn_C 13 w F) (wb : ezn_B y w) (cq : ezn_CQ qc y 47 A) (qr : ezn_QR qc) : ezw_C l ρ B xa Hb D cA 120 d [ezw_p 13, ezw_p 47, ezw_i (6), ezw_i a3, ezw_i a4] (ezu_g e F A) (ezt_m120_13_47_v6nQ e F A y w qc a3 a4) := by
  refine ezw_met (k := 0) rfl rfl ?_
  refine ezw_iload_n rfl rfl ?_
  refine ezw_tableswitchE (v := 6) (p := 96) rfl rfl (by rfl) ?_
  refine ezw_aload_n rfl rfl ?_
  refine ezw_aload_n rfl rfl ?_
  refine ezw_iload_n rfl rfl ?_
  refine ezw_iconst (1) rfl rfl ?_
  refine ezw_call0_3 rfl (by omega) (ezu_at rfl) rfl rfl rfl rfl (ezt_m126_13_47n hS (by omega) ha3 ⟨by decide, by decide⟩ tr nu hB cw wb (by omega)) ?_
  rintro _ _ ⟨F1, rfl, hS, nF1, u2, hu2, c1_1, c0_1, t1_1, t0_1, rfl⟩
  exact ezw_ireturn rfl (ezw_zret ⟨by omega, by omega⟩) ⟨F1, rfl, hS, (fun p j h => by rw [nF1 p j (fun z => h (⟨z.1, (z.2.elim (fun y => (Or.inl y)) (fun y => (y.elim (fun y => (Or.inr (Or.inl y))) (fun y => (Or.inr (Or.inr (Or.inr (Or.inr (Or.inl y)))))))))⟩))]), u2, ⟨by omega, by omega⟩, c1_1, c0_1, t1_1, t0_1, rfl⟩
def ezt_m118_0_v6n_tQ (b2 : Bool) (F : Nat → Nat → Int) (A : Nat → Int → Int) (y : ezp_D) (w : ezn_N) (qc : ezn_Q) (kU : Int) (a2 : Int) (a3 : Int) : Option ezq_V → (Nat → ezq_C) → Prop := fun v g' => ∃ (F' : Nat → Nat → Int) (A' : Nat → Int → Int), ezu_g (true, b2) F' A' = g' ∧ ezs_T F' A' ∧ (∀ p j, ¬ (p = 13 ∧ (j = 0 ∨ j = 1 ∨ j = 2 ∨ j = 3 ∨ j = 4 ∨ j = 5 ∨ j = 6) ∨ p = 18 ∧ (j = 4)) → F' p j = F p j) ∧ (∀ p, ¬ (p = 19) → A' p = A p) ∧ ∃ u : Int, (0 ≤ u ∧ u ≤ 1) ∧ (u = 1 → ezn_cC y w a2 1) ∧ (u = 0 → ¬ ezn_cC y w a2 1) ∧ (u = 1 → ezn_C 13 (ezn_off w (ezn_ps y w a2 6)) F' ∧ F' 18 4 = ezn_pn kU ∧ ∀ k, 0 ≤ k → k < ezn_pn kU → A' 19 k = (if kU = 16 then (if k = 15 then ezn_pk w else A 19 (k + 1)) else (if k = kU then ezn_pk w else A 19 k))) ∧ (u = 0 → ezn_C 13 w F' ∧ F' 18 4 = kU ∧ A' 19 = A 19) ∧ some (ezw_i u) = v
theorem ezt_m118_0_v6n_t {b2 : Bool} {y : ezp_D} {w : ezn_N} {qc : ezn_Q} {kU : Int} {a2 a3 : Int} {F : Nat → Nat → Int} {A : Nat → Int → Int} (hS : ezs_T F A) (hd : 5 ≤ d) (ha2 : ezw_in a2) (ha3 : ezw_in a3) (tr : ezt_TR 47 y F A) (nu : ezt_NU 47 y A) (hB : ezp_B y) (cw : ezn_C 13 w F) (wb : ezn_B y w) (cq : ezn_CQ qc y 47 A) (qr : ezn_QR qc) (uc : F 18 4 = kU ∧ 0 ≤ kU ∧ kU ≤ 16) : ezw_C l ρ B xa Hb D cA 118 d [ezw_p 0, ezw_i (6), ezw_i a2, ezw_i a3] (ezu_g (true, b2) F A) (ezt_m118_0_v6n_tQ b2 F A y w qc kU a2 a3) := by
  refine ezw_met (k := 3) rfl rfl ?_
  refine ezw_aload_n rfl rfl ?_
  refine ezs_getp (p := 13) rfl rfl rfl rfl rfl ?_
  refine ezw_call0_0 rfl (by omega) (ezu_at rfl) rfl rfl rfl rfl (ezt_m119_13n hS (by omega) cw wb) ?_
  rintro _ _ ⟨rfl, u2, hu2, an_1, rfl⟩
  refine ezw_lstore rfl rfl ?_
  refine ezw_aload_n rfl rfl ?_
  refine ezs_getp (p := 13) rfl rfl rfl rfl rfl ?_
  refine ezw_aload_n rfl rfl ?_
  refine ezs_getp (p := 47) rfl rfl rfl rfl rfl ?_
  refine ezw_iload_n rfl rfl ?_
  refine ezw_iload_n rfl rfl ?_
  refine ezw_iload_n rfl rfl ?_
  refine ezw_call0_4 rfl (by omega) (ezu_at rfl) rfl rfl rfl rfl (ezt_m120_13_47_v6n hS (by omega) ha2 ha3 tr nu hB cw wb cq qr) ?_
  rintro _ _ ⟨F3, rfl, hS, nF3, u4, hu4, c1_3, c0_3, t1_3, t0_3, rfl⟩
  refine ezw_istore rfl rfl ?_
  refine ezw_iload rfl rfl ?_
  refine ezw_if_eq rfl rfl ⟨by omega, by omega⟩ (fun h27_4 => ?_) (fun h27_4 => ?_)
  · refine ezw_iload rfl rfl ?_
    have w18_4 : F3 18 4 = (F 18 4) := by rw [nF3 18 4 (by decide)]
    exact ezw_ireturn rfl (ezw_zret ⟨by omega, by omega⟩) ⟨F3, A, rfl, hS, (fun p j h => by rw [nF3 p j (fun z => h (Or.inl ⟨z.1, z.2⟩))]), (fun _ _ => rfl), u4, ⟨by omega, by omega⟩, c1_3, c0_3, (by omega), (fun hu => ⟨t0_3 hu, (by rw [nF3 18 4 (by decide)]; exact uc.1), rfl⟩), rfl⟩
  · refine ezw_aload_n rfl rfl ?_
    refine ezs_getp (p := 18) rfl rfl rfl rfl rfl ?_
    refine ezw_lload rfl rfl ?_
    refine ezw_call0_1 rfl (by omega) (ezu_at rfl) rfl rfl rfl rfl (ezt_m130_18n hS (by omega) hu2 (by rw [nF3 18 4 (by decide)]; exact uc)) ?_
    rintro _ _ ⟨F5, A5, rfl, hS, nF5, nA5, n_5, r_5, rfl⟩
    refine ezw_iload rfl rfl ?_
    exact ezw_ireturn rfl (ezw_zret ⟨by omega, by omega⟩) ⟨F5, A5, rfl, hS, (fun p j h => by rw [nF5 p j (fun z => h (Or.inr ⟨z.1, z.2⟩)), nF3 p j (fun z => h (Or.inl ⟨z.1, z.2⟩))]), (fun p h => by
          funext j
          rw [nA5 p (fun z => h (z))]), u4, ⟨by omega, by omega⟩, c1_3, c0_3, (fun hu => ⟨ezn_C_f (t1_3 hu) (fun k hk => nF5 13 k (fun z => absurd z.1 (by decide))), n_5, fun k k0 k1 => by
          rw [← an_1]
          exact r_5 k k0 k1⟩), (by omega), rfl⟩
def ezt_m136_0n_tQ (b2 : Bool) (F : Nat → Nat → Int) (A : Nat → Int → Int) (y : ezp_D) (w : ezn_N) (qc : ezn_Q) (kU : Int) (a1 : Int) (a2 : Int) : Option ezq_V → (Nat → ezq_C) → Prop := fun v g' => ∃ (F' : Nat → Nat → Int) (A' : Nat → Int → Int), ezu_g (true, b2) F' A' = g' ∧ ezs_T F' A' ∧ (∀ p j, ¬ (p = 13 ∧ (j = 0 ∨ j = 1 ∨ j = 2 ∨ j = 3 ∨ j = 4 ∨ j = 5 ∨ j = 6) ∨ p = 18 ∧ (j = 4)) → F' p j = F p j) ∧ (∀ p, ¬ (p = 19) → A' p = A p) ∧ ∃ u : Int, (0 ≤ u ∧ u ≤ 1) ∧ (ezn_cC y w a1 a2 → u = 1) ∧ (¬ ezn_cC y w a1 a2 → u = 0) ∧ (ezn_cC y w a1 a2 → ezn_C 13 (ezn_off w (ezn_ps y w a1 6)) F' ∧ F' 18 4 = ezn_pn kU ∧ ∀ k, 0 ≤ k → k < ezn_pn kU → A' 19 k = (if kU = 16 then (if k = 15 then ezn_pk w else A 19 (k + 1)) else (if k = kU then ezn_pk w else A 19 k))) ∧ (¬ ezn_cC y w a1 a2 → ezn_C 13 w F' ∧ F' 18 4 = kU ∧ A' 19 = A 19) ∧ some (ezw_i u) = v
theorem ezt_m136_0n_t {b2 : Bool} {y : ezp_D} {w : ezn_N} {qc : ezn_Q} {kU : Int} {a1 a2 : Int} {F : Nat → Nat → Int} {A : Nat → Int → Int} (hS : ezs_T F A) (hd : 6 ≤ d) (ha1 : ezw_in a1) (ha2 : ezw_in a2) (tr : ezt_TR 47 y F A) (nu : ezt_NU 47 y A) (hB : ezp_B y) (cw : ezn_C 13 w F) (wb : ezn_B y w) (cq : ezn_CQ qc y 47 A) (qr : ezn_QR qc) (uc : F 18 4 = kU ∧ 0 ≤ kU ∧ kU ≤ 16) (gb : 0 ≤ a2 ∧ a2 ≤ 1) : ezw_C l ρ B xa Hb D cA 136 d [ezw_p 0, ezw_i a1, ezw_i a2] (ezu_g (true, b2) F A) (ezt_m136_0n_tQ b2 F A y w qc kU a1 a2) := by
  refine ezw_met (k := 0) rfl rfl ?_
  refine ezw_aload_n rfl rfl ?_
  refine ezw_iload_n rfl rfl ?_
  refine ezw_if_eq rfl rfl ha2 (fun h2_0 => ?_) (fun h2_0 => ?_)
  · refine ezw_iconst (5) rfl rfl ?_
    refine ezw_iload_n rfl rfl ?_
    refine ezw_iconst (0) rfl rfl ?_
    refine ezw_call0_3 rfl (by omega) (ezu_at rfl) rfl rfl rfl rfl (ezt_m118_0_v5n_t hS (by omega) ha1 ⟨by decide, by decide⟩ tr nu hB cw wb cq qr uc) ?_
    rintro _ _ ⟨F1, A1, rfl, hS, nF1, nA1, u2, hu2, c1_1, c0_1, t1_1, t0_1, rfl⟩
    exact ezw_ireturn rfl (ezw_zret ⟨by omega, by omega⟩) ⟨F1, A1, rfl, hS, (fun p j h => by rw [nF1 p j (fun z => h (z.elim (fun y => (Or.inl ⟨y.1, y.2⟩)) (fun y => (Or.inr ⟨y.1, y.2⟩))))]), (fun p h => by
          funext j
          rw [nA1 p (fun z => h (z))]), u2, ⟨by omega, by omega⟩, (fun hc => by
          rcases (show u2 = 0 ∨ u2 = 1 by omega) with h | h
          · exact absurd hc (by rw [show a2 = 0 by omega]; exact c0_1 h)
          · exact h), (fun hn => by
          rcases (show u2 = 0 ∨ u2 = 1 by omega) with h | h
          · exact h
          · exact absurd (by rw [show a2 = 0 by omega]; exact c1_1 h) hn), (fun hc => by
          rcases (show u2 = 0 ∨ u2 = 1 by omega) with h | h
          · exact absurd hc (by rw [show a2 = 0 by omega]; exact c0_1 h)
          · exact t1_1 h), (fun hn => by
          rcases (show u2 = 0 ∨ u2 = 1 by omega) with h | h
          · exact t0_1 h
          · exact absurd (by rw [show a2 = 0 by omega]; exact c1_1 h) hn), rfl⟩
  · refine ezw_bipush (6) rfl rfl ?_
    refine ezw_goto rfl rfl ?_
    refine ezw_iload_n rfl rfl ?_
    refine ezw_iconst (0) rfl rfl ?_
    refine ezw_call0_3 rfl (by omega) (ezu_at rfl) rfl rfl rfl rfl (ezt_m118_0_v6n_t hS (by omega) ha1 ⟨by decide, by decide⟩ tr nu hB cw wb cq qr uc) ?_
    rintro _ _ ⟨F3, A3, rfl, hS, nF3, nA3, u4, hu4, c1_3, c0_3, t1_3, t0_3, rfl⟩
    exact ezw_ireturn rfl (ezw_zret ⟨by omega, by omega⟩) ⟨F3, A3, rfl, hS, (fun p j h => by rw [nF3 p j (fun z => h (z.elim (fun y => (Or.inl ⟨y.1, y.2⟩)) (fun y => (Or.inr ⟨y.1, y.2⟩))))]), (fun p h => by
          funext j
          rw [nA3 p (fun z => h (z))]), u4, ⟨by omega, by omega⟩, (fun hc => by
          rcases (show u4 = 0 ∨ u4 = 1 by omega) with h | h
          · exact absurd hc (by rw [show a2 = 1 by omega]; exact c0_3 h)
          · exact h), (fun hn => by
          rcases (show u4 = 0 ∨ u4 = 1 by omega) with h | h
          · exact h
          · exact absurd (by rw [show a2 = 1 by omega]; exact c1_3 h) hn), (fun hc => by
          rcases (show u4 = 0 ∨ u4 = 1 by omega) with h | h
          · exact absurd hc (by rw [show a2 = 1 by omega]; exact c0_3 h)
          · exact t1_3 h), (fun hn => by
          rcases (show u4 = 0 ∨ u4 = 1 by omega) with h | h
          · exact t0_3 h
          · exact absurd (by rw [show a2 = 1 by omega]; exact c1_3 h) hn), rfl⟩
def ezt_m120_13_47_v7nQ (e : Bool × Bool) (F : Nat → Nat → Int) (A : Nat → Int → Int) (y : ezp_D) (w : ezn_N) (qc : ezn_Q) (a3 : Int) (a4 : Int) : Option ezq_V → (Nat → ezq_C) → Prop := fun v g' => ∃ (F' : Nat → Nat → Int), ezu_g e F' A = g' ∧ ezs_T F' A ∧ (∀ p j, ¬ (p = 13 ∧ (j = 0 ∨ j = 1 ∨ j = 2 ∨ j = 3 ∨ j = 4 ∨ j = 5 ∨ j = 6)) → F' p j = F p j) ∧ ∃ u : Int, (0 ≤ u ∧ u ≤ 1) ∧ (u = 1 → (0 ≤ a3 ∧ a3 < 4)) ∧ (u = 0 → ¬ (0 ≤ a3 ∧ a3 < 4)) ∧ (u = 1 → ezn_C 13 (ezn_hr y w a3) F') ∧ (u = 0 → ezn_C 13 w F') ∧ some (ezw_i u) = v
theorem ezt_m120_13_47_v7n {y : ezp_D} {w : ezn_N} {qc : ezn_Q} {a3 a4 : Int} {F : Nat → Nat → Int} {A : Nat → Int → Int} (hS : ezs_T F A) (hd : 4 ≤ d) (ha3 : ezw_in a3) (ha4 : ezw_in a4) (tr : ezt_TR 47 y F A) (nu : ezt_NU 47 y A) (hB : ezp_B y) (cw : ezn_C 13 w F) (wb : ezn_B y w) (cq : ezn_CQ qc y 47 A) (qr : ezn_QR qc) : ezw_C l ρ B xa Hb D cA 120 d [ezw_p 13, ezw_p 47, ezw_i (7), ezw_i a3, ezw_i a4] (ezu_g e F A) (ezt_m120_13_47_v7nQ e F A y w qc a3 a4) := by
  refine ezw_met (k := 0) rfl rfl ?_
  refine ezw_iload_n rfl rfl ?_
  refine ezw_tableswitchE (v := 7) (p := 104) rfl rfl (by rfl) ?_
  refine ezw_aload_n rfl rfl ?_
  refine ezw_aload_n rfl rfl ?_
  refine ezw_iload_n rfl rfl ?_
  refine ezw_call0_2 rfl (by omega) (ezu_at rfl) rfl rfl rfl rfl (ezt_m128_13_47n hS (by omega) ha3 tr nu hB cw wb) ?_
  rintro _ _ ⟨F1, rfl, hS, nF1, u2, hu2, c1_1, c0_1, t1_1, t0_1, rfl⟩
  exact ezw_ireturn rfl (ezw_zret ⟨by omega, by omega⟩) ⟨F1, rfl, hS, (fun p j h => by rw [nF1 p j (fun z => h (⟨z.1, (z.2.elim (fun y => (Or.inr (Or.inr (Or.inl y)))) (fun y => (y.elim (fun y => (Or.inr (Or.inr (Or.inr (Or.inl y))))) (fun y => (Or.inr (Or.inr (Or.inr (Or.inr (Or.inr (Or.inl y))))))))))⟩))]), u2, ⟨by omega, by omega⟩, c1_1, c0_1, t1_1, t0_1, rfl⟩
def ezt_m118_0_v7n_tQ (b2 : Bool) (F : Nat → Nat → Int) (A : Nat → Int → Int) (y : ezp_D) (w : ezn_N) (qc : ezn_Q) (kU : Int) (a2 : Int) (a3 : Int) : Option ezq_V → (Nat → ezq_C) → Prop := fun v g' => ∃ (F' : Nat → Nat → Int) (A' : Nat → Int → Int), ezu_g (true, b2) F' A' = g' ∧ ezs_T F' A' ∧ (∀ p j, ¬ (p = 13 ∧ (j = 0 ∨ j = 1 ∨ j = 2 ∨ j = 3 ∨ j = 4 ∨ j = 5 ∨ j = 6) ∨ p = 18 ∧ (j = 4)) → F' p j = F p j) ∧ (∀ p, ¬ (p = 19) → A' p = A p) ∧ ∃ u : Int, (0 ≤ u ∧ u ≤ 1) ∧ (u = 1 → (0 ≤ a2 ∧ a2 < 4)) ∧ (u = 0 → ¬ (0 ≤ a2 ∧ a2 < 4)) ∧ (u = 1 → ezn_C 13 (ezn_hr y w a2) F' ∧ F' 18 4 = ezn_pn kU ∧ ∀ k, 0 ≤ k → k < ezn_pn kU → A' 19 k = (if kU = 16 then (if k = 15 then ezn_pk w else A 19 (k + 1)) else (if k = kU then ezn_pk w else A 19 k))) ∧ (u = 0 → ezn_C 13 w F' ∧ F' 18 4 = kU ∧ A' 19 = A 19) ∧ some (ezw_i u) = v
theorem ezt_m118_0_v7n_t {b2 : Bool} {y : ezp_D} {w : ezn_N} {qc : ezn_Q} {kU : Int} {a2 a3 : Int} {F : Nat → Nat → Int} {A : Nat → Int → Int} (hS : ezs_T F A) (hd : 5 ≤ d) (ha2 : ezw_in a2) (ha3 : ezw_in a3) (tr : ezt_TR 47 y F A) (nu : ezt_NU 47 y A) (hB : ezp_B y) (cw : ezn_C 13 w F) (wb : ezn_B y w) (cq : ezn_CQ qc y 47 A) (qr : ezn_QR qc) (uc : F 18 4 = kU ∧ 0 ≤ kU ∧ kU ≤ 16) : ezw_C l ρ B xa Hb D cA 118 d [ezw_p 0, ezw_i (7), ezw_i a2, ezw_i a3] (ezu_g (true, b2) F A) (ezt_m118_0_v7n_tQ b2 F A y w qc kU a2 a3) := by
  refine ezw_met (k := 3) rfl rfl ?_
  refine ezw_aload_n rfl rfl ?_
  refine ezs_getp (p := 13) rfl rfl rfl rfl rfl ?_
  refine ezw_call0_0 rfl (by omega) (ezu_at rfl) rfl rfl rfl rfl (ezt_m119_13n hS (by omega) cw wb) ?_
  rintro _ _ ⟨rfl, u2, hu2, an_1, rfl⟩
  refine ezw_lstore rfl rfl ?_
  refine ezw_aload_n rfl rfl ?_
  refine ezs_getp (p := 13) rfl rfl rfl rfl rfl ?_
  refine ezw_aload_n rfl rfl ?_
  refine ezs_getp (p := 47) rfl rfl rfl rfl rfl ?_
  refine ezw_iload_n rfl rfl ?_
  refine ezw_iload_n rfl rfl ?_
  refine ezw_iload_n rfl rfl ?_
  refine ezw_call0_4 rfl (by omega) (ezu_at rfl) rfl rfl rfl rfl (ezt_m120_13_47_v7n hS (by omega) ha2 ha3 tr nu hB cw wb cq qr) ?_
  rintro _ _ ⟨F3, rfl, hS, nF3, u4, hu4, c1_3, c0_3, t1_3, t0_3, rfl⟩
  refine ezw_istore rfl rfl ?_
  refine ezw_iload rfl rfl ?_
  refine ezw_if_eq rfl rfl ⟨by omega, by omega⟩ (fun h27_4 => ?_) (fun h27_4 => ?_)
  · refine ezw_iload rfl rfl ?_
    have w18_4 : F3 18 4 = (F 18 4) := by rw [nF3 18 4 (by decide)]
    exact ezw_ireturn rfl (ezw_zret ⟨by omega, by omega⟩) ⟨F3, A, rfl, hS, (fun p j h => by rw [nF3 p j (fun z => h (Or.inl ⟨z.1, z.2⟩))]), (fun _ _ => rfl), u4, ⟨by omega, by omega⟩, c1_3, c0_3, (by omega), (fun hu => ⟨t0_3 hu, (by rw [nF3 18 4 (by decide)]; exact uc.1), rfl⟩), rfl⟩
  · refine ezw_aload_n rfl rfl ?_
    refine ezs_getp (p := 18) rfl rfl rfl rfl rfl ?_
    refine ezw_lload rfl rfl ?_
    refine ezw_call0_1 rfl (by omega) (ezu_at rfl) rfl rfl rfl rfl (ezt_m130_18n hS (by omega) hu2 (by rw [nF3 18 4 (by decide)]; exact uc)) ?_
    rintro _ _ ⟨F5, A5, rfl, hS, nF5, nA5, n_5, r_5, rfl⟩
    refine ezw_iload rfl rfl ?_
    exact ezw_ireturn rfl (ezw_zret ⟨by omega, by omega⟩) ⟨F5, A5, rfl, hS, (fun p j h => by rw [nF5 p j (fun z => h (Or.inr ⟨z.1, z.2⟩)), nF3 p j (fun z => h (Or.inl ⟨z.1, z.2⟩))]), (fun p h => by
          funext j
          rw [nA5 p (fun z => h (z))]), u4, ⟨by omega, by omega⟩, c1_3, c0_3, (fun hu => ⟨ezn_C_f (t1_3 hu) (fun k hk => nF5 13 k (fun z => absurd z.1 (by decide))), n_5, fun k k0 k1 => by
          rw [← an_1]
          exact r_5 k k0 k1⟩), (by omega), rfl⟩
def ezt_m137_0n_tQ (b2 : Bool) (F : Nat → Nat → Int) (A : Nat → Int → Int) (y : ezp_D) (w : ezn_N) (qc : ezn_Q) (kU : Int) (a1 : Int) : Option ezq_V → (Nat → ezq_C) → Prop := fun v g' => ∃ (F' : Nat → Nat → Int) (A' : Nat → Int → Int), ezu_g (true, b2) F' A' = g' ∧ ezs_T F' A' ∧ (∀ p j, ¬ (p = 13 ∧ (j = 0 ∨ j = 1 ∨ j = 2 ∨ j = 3 ∨ j = 4 ∨ j = 5 ∨ j = 6) ∨ p = 18 ∧ (j = 4)) → F' p j = F p j) ∧ (∀ p, ¬ (p = 19) → A' p = A p) ∧ ∃ u : Int, (ezw_in u) ∧ ((0 ≤ a1 ∧ a1 < 4) → u = (ezn_hr y w a1).ho) ∧ (¬ (0 ≤ a1 ∧ a1 < 4) → u = -1) ∧ ((0 ≤ a1 ∧ a1 < 4) → ezn_C 13 (ezn_hr y w a1) F' ∧ F' 18 4 = ezn_pn kU ∧ ∀ k, 0 ≤ k → k < ezn_pn kU → A' 19 k = (if kU = 16 then (if k = 15 then ezn_pk w else A 19 (k + 1)) else (if k = kU then ezn_pk w else A 19 k))) ∧ (¬ (0 ≤ a1 ∧ a1 < 4) → ezn_C 13 w F' ∧ F' 18 4 = kU ∧ A' 19 = A 19) ∧ some (ezw_i u) = v
theorem ezt_m137_0n_t {b2 : Bool} {y : ezp_D} {w : ezn_N} {qc : ezn_Q} {kU : Int} {a1 : Int} {F : Nat → Nat → Int} {A : Nat → Int → Int} (hS : ezs_T F A) (hd : 6 ≤ d) (ha1 : ezw_in a1) (tr : ezt_TR 47 y F A) (nu : ezt_NU 47 y A) (hB : ezp_B y) (cw : ezn_C 13 w F) (wb : ezn_B y w) (cq : ezn_CQ qc y 47 A) (qr : ezn_QR qc) (uc : F 18 4 = kU ∧ 0 ≤ kU ∧ kU ≤ 16) : ezw_C l ρ B xa Hb D cA 137 d [ezw_p 0, ezw_i a1] (ezu_g (true, b2) F A) (ezt_m137_0n_tQ b2 F A y w qc kU a1) := by
  refine ezw_met (k := 0) rfl rfl ?_
  refine ezw_aload_n rfl rfl ?_
  refine ezw_bipush (7) rfl rfl ?_
  refine ezw_iload_n rfl rfl ?_
  refine ezw_iconst (0) rfl rfl ?_
  refine ezw_call0_3 rfl (by omega) (ezu_at rfl) rfl rfl rfl rfl (ezt_m118_0_v7n_t hS (by omega) ha1 ⟨by decide, by decide⟩ tr nu hB cw wb cq qr uc) ?_
  rintro _ _ ⟨F1, A1, rfl, hS, nF1, nA1, u2, hu2, c1_1, c0_1, t1_1, t0_1, rfl⟩
  refine ezw_if_eq rfl rfl ⟨by omega, by omega⟩ (fun h8_2 => ?_) (fun h8_2 => ?_)
  · refine ezw_iconst (-1) rfl rfl ?_
    exact ezw_ireturn rfl rfl ⟨F1, A1, rfl, hS, (fun p j h => by rw [nF1 p j (fun z => h (z.elim (fun y => (Or.inl ⟨y.1, y.2⟩)) (fun y => (Or.inr ⟨y.1, y.2⟩))))]), (fun p h => by
          funext j
          rw [nA1 p (fun z => h (z))]), (-1), ⟨by decide, by decide⟩, (fun hc => absurd hc (by exact c0_1 (by omega))), (fun _ => rfl), (fun hc => absurd hc (by exact c0_1 (by omega))), (fun _ => t0_1 (by omega)), rfl⟩
  · refine ezw_aload_n rfl rfl ?_
    refine ezs_getp (p := 13) rfl rfl rfl rfl rfl ?_
    refine ezy_get_i hS rfl rfl rfl rfl rfl rfl (fun u3 hu3 ku3 eu3 => ?_)
    replace eu3 := eu3.symm
    subst eu3
    refine ezw_goto rfl rfl ?_
    exact ezw_ireturn rfl rfl ⟨F1, A1, rfl, hS, (fun p j h => by rw [nF1 p j (fun z => h (z.elim (fun y => (Or.inl ⟨y.1, y.2⟩)) (fun y => (Or.inr ⟨y.1, y.2⟩))))]), (fun p h => by
          funext j
          rw [nA1 p (fun z => h (z))]), (F1 13 2), hu3, (fun _ => (t1_1 (by omega)).1.2.2.1), (fun hn => absurd (by exact c1_1 (by omega)) hn), (fun _ => by exact t1_1 (by omega)), (fun hn => absurd (by exact c1_1 (by omega)) hn), rfl⟩
def ezt_m138_0n_fQ (b2 : Bool) (F : Nat → Nat → Int) (A : Nat → Int → Int) (y : ezp_D) (w : ezn_N) (kU : Int) (U : Int → ezn_N) : Option ezq_V → (Nat → ezq_C) → Prop := fun v g' => ∃ (F' : Nat → Nat → Int), ezu_g (false, b2) F' A = g' ∧ ezs_T F' A ∧ (∀ p j, ¬ (p = 13 ∧ (j = 0 ∨ j = 1 ∨ j = 2 ∨ j = 3 ∨ j = 4 ∨ j = 5 ∨ j = 6) ∨ p = 18 ∧ (j = 4)) → F' p j = F p j) ∧ ∃ u : Int, (0 ≤ u ∧ u ≤ 1) ∧ (0 < kU → u = 1 ∧ ezn_C 13 (U (kU - 1)) F' ∧ F' 18 4 = kU - 1) ∧ (kU = 0 → u = 0 ∧ ezn_C 13 w F' ∧ F' 18 4 = kU) ∧ some (ezw_i u) = v
theorem ezt_m138_0n_f {b2 : Bool} {y : ezp_D} {w : ezn_N} {kU : Int} {U : Int → ezn_N} {F : Nat → Nat → Int} {A : Nat → Int → Int} (hS : ezs_T F A) (hd : 2 ≤ d) (cw : ezn_C 13 w F) (wb : ezn_B y w) (uc : F 18 4 = kU ∧ 0 ≤ kU ∧ kU ≤ 16) (us : ∀ k, 0 ≤ k → k < kU → A 19 k = ezn_pk (U k)) (ub : ∀ k, 0 ≤ k → k < kU → ezn_B y (U k)) : ezw_C l ρ B xa Hb D cA 138 d [ezw_p 0] (ezu_g (false, b2) F A) (ezt_m138_0n_fQ b2 F A y w kU U) := by
  refine ezw_met (k := 0) rfl rfl ?_
  refine ezw_aload_n rfl rfl ?_
  refine ezs_getp (p := 18) rfl rfl rfl rfl rfl ?_
  refine ezy_get_i hS rfl rfl rfl rfl rfl rfl (fun u1 hu1 ku1 eu1 => ?_)
  replace eu1 := eu1.symm
  subst eu1
  refine ezw_if_gt rfl rfl hu1 (fun h7_1 => ?_) (fun h7_1 => ?_)
  · refine ezw_aload_n rfl rfl ?_
    refine ezs_getp (p := 13) rfl rfl rfl rfl rfl ?_
    refine ezw_aload_n rfl rfl ?_
    refine ezs_getp (p := 18) rfl rfl rfl rfl rfl ?_
    refine ezw_call0_0 rfl (by omega) (ezu_at rfl) rfl rfl rfl rfl (ezt_m139_18n hS (by omega) ⟨uc.1, by omega, by omega⟩) ?_
    rintro _ _ ⟨F2, rfl, hS, nF2, u3, hu3, n_2, an_2, rfl⟩
    refine ezw_call0_1 rfl (by omega) (ezu_at rfl) rfl rfl rfl rfl (ezt_m140_13n (w := (U (kU - 1))) hS (by omega) hu3 (by rw [an_2]; exact us _ (by omega) (by omega)) (ub _ (by omega) (by omega))) ?_
    rintro _ _ ⟨F4, rfl, hS, nF4, rs_4, rfl⟩
    refine ezw_iconst (1) rfl rfl ?_
    have w18_4 : F4 18 4 = (F2 18 4) := by rw [nF4 18 4 (by decide)]
    exact ezw_ireturn rfl (ezw_zret ⟨by omega, by omega⟩) ⟨F4, rfl, hS, (fun p j h => by rw [nF4 p j (fun z => h (Or.inl ⟨z.1, z.2⟩)), nF2 p j (fun z => h (Or.inr ⟨z.1, z.2⟩))]), (1), ⟨by omega, by omega⟩, (fun _ => ⟨rfl, rs_4, by rw [nF4 18 4 (fun z => absurd z.1 (by decide))]; exact n_2⟩), (fun h => by omega), rfl⟩
  · refine ezw_iconst (0) rfl rfl ?_
    exact ezw_ireturn rfl (ezw_zret ⟨by omega, by omega⟩) ⟨F, rfl, hS, (fun _ _ _ => rfl), (0), ⟨by omega, by omega⟩, (fun h => by omega), (fun h => ⟨rfl, cw, uc.1⟩), rfl⟩
def ezt_m27_35oQ (e : Bool × Bool) (F : Nat → Nat → Int) (A : Nat → Int → Int) (a1 : Int) : Option ezq_V → (Nat → ezq_C) → Prop := fun v g' => ezu_g e F A = g' ∧ ∃ u : Int, (ezw_in u) ∧ (0 ≤ a1 → a1 < 4 → u = A 35 a1) ∧ (a1 < 0 ∨ 4 ≤ a1 → u = 0) ∧ some (ezw_i u) = v
theorem ezt_m27_35o {a1 : Int} {F : Nat → Nat → Int} {A : Nat → Int → Int} (hS : ezs_T F A) (hd : 0 ≤ d) (ha1 : ezw_in a1) : ezw_C l ρ B xa Hb D cA 27 d [ezw_p 35, ezw_i a1] (ezu_g e F A) (ezt_m27_35oQ e F A a1) := by
  refine ezw_met (k := 0) rfl rfl ?_
  refine ezw_aload_n rfl rfl ?_
  refine ezw_ifnull rfl ?_
  refine ezw_iload_n rfl rfl ?_
  refine ezw_if_lt rfl rfl ha1 (fun h5_0 => ?_) (fun h5_0 => ?_)
  · refine ezw_iconst (0) rfl rfl ?_
    exact ezw_ireturn rfl rfl ⟨rfl, (0), ⟨by decide, by decide⟩, by omega, by omega, rfl⟩
  · refine ezw_iload_n rfl rfl ?_
    refine ezw_aload_n rfl rfl ?_
    refine ezs_alen (k := 4) rfl rfl rfl rfl (by decide) (by decide) ?_
    refine ezw_icmp_ge rfl rfl ha1 ⟨by decide, by decide⟩ (fun h11_0 => ?_) (fun h11_0 => ?_)
    · refine ezw_iconst (0) rfl rfl ?_
      exact ezw_ireturn rfl rfl ⟨rfl, (0), ⟨by decide, by decide⟩, by omega, by omega, rfl⟩
    · refine ezw_aload_n rfl rfl ?_
      refine ezw_iload_n rfl rfl ?_
      refine ezy_iaload hS rfl rfl rfl (by omega) (by omega) (by decide) (fun u1 hu1 ku1 eu1 => ?_)
      refine ezw_goto rfl rfl ?_
      exact ezw_ireturn rfl rfl ⟨rfl, u1, hu1, by omega, by omega, rfl⟩
def ezt_m144_30nQ (e : Bool × Bool) (F : Nat → Nat → Int) (A : Nat → Int → Int) (y : ezp_D) (a1 : Int) : Option ezq_V → (Nat → ezq_C) → Prop := fun v g' => ezu_g e F A = g' ∧ ∃ u : Int, (ezw_in u) ∧ (u = ezn_hw y a1) ∧ some (ezw_i u) = v
theorem ezt_m144_30n {y : ezp_D} {a1 : Int} {F : Nat → Nat → Int} {A : Nat → Int → Int} (hS : ezs_T F A) (hd : 1 ≤ d) (ha1 : ezw_in a1) (tr : ezt_TR 30 y F A) (nu : ezt_NU 30 y A) (hB : ezp_B y) : ezw_C l ρ B xa Hb D cA 144 d [ezw_p 30, ezw_i a1] (ezu_g e F A) (ezt_m144_30nQ e F A y a1) := by
  refine ezw_met (k := 2) rfl rfl ?_
  obtain ⟨⟨c1, c2, c3, c4⟩, ⟨d1, d2, d3, d4, d5, d6, d7, d8⟩, e3, e4, e5, e6⟩ := id tr
  obtain ⟨b1, b2', b3, b4, b5, b6, b7, ⟨b8, b8'⟩, b9⟩ := id hB
  refine ezw_iconst (0) rfl rfl ?_
  refine ezw_istore_n rfl rfl ?_
  refine ezw_iconst (0) rfl rfl ?_
  refine ezw_istore_n rfl rfl ?_
  have L4_2 : ∀ c1 : Int, ezw_in c1 → ∀ y3 : Int, ezw_in y3 → ((0) ≤ c1) → (c1 ≤ y.kH) → (y3 = ezp_sm (fun t => if ezt_b a1 t = 1 then y.wo t else 0) (c1).toNat) → (0 ≤ y3 ∧ y3 ≤ 999 * c1) → ezw_E l ρ B xa Hb D cA d ezq_re144 (ezt_m144_30nQ e F A y a1) 4 [some (ezw_p 30), some (ezw_i a1), some (ezw_i y3), some (ezw_i c1)] [] (ezu_g e F A) := by
    refine ezs_up ?_
    intro c1 hc1 ihc1 y3 hy3 g_2 cb_2 sm_2 sr_2
    refine ezw_iload_n rfl rfl ?_
    refine ezw_aload_n rfl rfl ?_
    refine ezy_get_i hS rfl rfl rfl rfl rfl rfl (fun u4 hu4 ku4 eu4 => ?_)
    replace eu4 := eu4.symm
    subst eu4
    refine ezw_icmp_ge rfl rfl hc1 hu4 (fun h9_4 => ?_) (fun h9_4 => ?_)
    · refine ezw_iload_n rfl rfl ?_
      exact ezw_ireturn rfl rfl ⟨rfl, y3, hy3, (by
            rw [sm_2, show c1 = y.kH by omega]
            rfl), rfl⟩
    · refine ezw_iload_n rfl rfl ?_
      refine ezw_iload_n rfl rfl ?_
      refine ezw_call3_2 rfl (by omega) rfl rfl (ezt_m49o hS (by omega) ha1 hc1) ?_
      rintro _ _ ⟨rfl, u6, hu6, v_5, o_5, rfl⟩
      refine ezw_iconst (1) rfl rfl ?_
      refine ezw_icmp_ne rfl rfl hu6 ⟨by decide, by decide⟩ (fun h18_6 => ?_) (fun h18_6 => ?_)
      · refine ezw_iinc (k := c1 + 1) (1) rfl rfl rfl (by omega) rfl ?_
        refine ezw_goto rfl rfl ?_
        exact ezw_keepE [true, true, true, true] (ihc1 (c1 + 1) (by omega) ⟨by omega, by omega⟩ y3 hy3 (by omega) (by omega) (by
              rw [ezp_sm_n (by omega), ← sm_2]
              have h9 := v_5 (by omega) (by omega)
              rw [if_neg (by omega)]
              omega) (by omega))
      · have hb9 := (b2' c1 (by omega) (by omega)).1
        have ha9 : A 35 c1 = y.wo c1 := (e4 c1 (by omega) (by omega)).2.1
        refine ezw_iload_n rfl rfl ?_
        refine ezw_aload_n rfl rfl ?_
        refine ezs_getp (p := 35) rfl rfl rfl rfl rfl ?_
        refine ezw_iload_n rfl rfl ?_
        refine ezw_call3_2 rfl (by omega) rfl rfl (ezt_m27_35o hS (by omega) hc1) ?_
        rintro _ _ ⟨rfl, u8, hu8, v_7, o_7, rfl⟩
        have h8 := v_7 (by omega) (by omega)
        refine ezw_iadd (k := y3 + u8) rfl (by omega) ?_
        refine ezw_istore_n rfl rfl ?_
        refine ezw_iinc (k := c1 + 1) (1) rfl rfl rfl (by omega) rfl ?_
        refine ezw_goto rfl rfl ?_
        exact ezw_keepE [true, true, true, true] (ihc1 (c1 + 1) (by omega) ⟨by omega, by omega⟩ (y3 + u8) ⟨by omega, by omega⟩ (by omega) (by omega) (by
              rw [ezp_sm_n (by omega), ← sm_2]
              have h9 := v_5 (by omega) (by omega)
              rw [if_pos (by omega)]
              have h8 := v_7 (by omega) (by omega)
              have h7 : A 35 c1 = y.wo c1 := (e4 c1 (by omega) (by omega)).2.1
              omega) (by omega))
  exact ezw_keepE [true, true, true, true] (L4_2 (0) ⟨by decide, by decide⟩ (0) ⟨by decide, by decide⟩ (by omega) (by omega) rfl (by omega))
def ezt_m143_13_30nQ (e : Bool × Bool) (F : Nat → Nat → Int) (A : Nat → Int → Int) (y : ezp_D) (w : ezn_N) : Option ezq_V → (Nat → ezq_C) → Prop := fun v g' => ezu_g e F A = g' ∧ ∃ u : Int, (ezw_in u) ∧ (u = ezn_wr y w) ∧ some (ezw_i u) = v
theorem ezt_m143_13_30n {y : ezp_D} {w : ezn_N} {F : Nat → Nat → Int} {A : Nat → Int → Int} (hS : ezs_T F A) (hd : 2 ≤ d) (tr : ezt_TR 30 y F A) (nu : ezt_NU 30 y A) (hB : ezp_B y) (cw : ezn_C 13 w F) (wb : ezn_B y w) : ezw_C l ρ B xa Hb D cA 143 d [ezw_p 13, ezw_p 30] (ezu_g e F A) (ezt_m143_13_30nQ e F A y w) := by
  refine ezw_met (k := 1) rfl rfl ?_
  obtain ⟨⟨c1, c2, c3, c4⟩, ⟨d1, d2, d3, d4, d5, d6, d7, d8⟩, e3, e4, e5, e6⟩ := id tr
  obtain ⟨b1, b2', b3, b4, b5, b6, b7, ⟨b8, b8'⟩, b9⟩ := id hB
  obtain ⟨w0, w1, w2, w3, w4, w5, w6⟩ := id cw
  obtain ⟨⟨x0, x1⟩, x2, x3, x4, x5, x6, x7, x8, x9, x10, x11, x12⟩ := id wb
  have n0 : A 44 0 = y.nu 0 := nu 0 (by decide) (by decide)
  have nb0 : 0 ≤ y.nu 0 ∧ y.nu 0 ≤ 999 := b8 0 (by decide) (by decide)
  refine ezw_aload_n rfl rfl ?_
  refine ezw_aload_n rfl rfl ?_
  refine ezy_get_i hS rfl rfl rfl rfl rfl rfl (fun u1 hu1 ku1 eu1 => ?_)
  replace eu1 := eu1.symm
  subst eu1
  refine ezw_call0_1 rfl (by omega) (ezu_at rfl) rfl rfl rfl rfl (ezt_m144_30n hS (by omega) hu1 tr nu hB) ?_
  rintro _ _ ⟨rfl, u3, hu3, an_2, rfl⟩
  refine ezw_istore_n rfl rfl ?_
  have hwr : 0 ≤ ezn_hw y w.ha ∧ ezn_hw y w.ha ≤ 999 * y.kH.toNat := ezn_hw_r hB w.ha y.kH.toNat (by omega)
  have hv : u3 = ezn_hw y w.ha := by rw [an_2, w6]
  refine ezw_aload_n rfl rfl ?_
  refine ezy_get_i hS rfl rfl rfl rfl rfl rfl (fun u4 hu4 ku4 eu4 => ?_)
  replace eu4 := eu4.symm
  subst eu4
  refine ezw_iconst (1) rfl rfl ?_
  refine ezw_icmp_ne rfl rfl hu4 ⟨by decide, by decide⟩ (fun h14_4 => ?_) (fun h14_4 => ?_)
  · refine ezw_iload_n rfl rfl ?_
    exact ezw_ireturn rfl rfl ⟨rfl, u3, hu3, (by
          unfold ezn_wr
          first
            | (rw [if_pos (by omega)]; omega)
            | (rw [if_neg (by omega)]; omega)), rfl⟩
  · refine ezw_aload_n rfl rfl ?_
    refine ezy_get_i hS rfl rfl rfl rfl rfl rfl (fun u5 hu5 ku5 eu5 => ?_)
    replace eu5 := eu5.symm
    subst eu5
    refine ezw_if_le rfl rfl hu5 (fun h21_5 => ?_) (fun h21_5 => ?_)
    · refine ezw_iload_n rfl rfl ?_
      exact ezw_ireturn rfl rfl ⟨rfl, u3, hu3, (by
            unfold ezn_wr
            first
              | (rw [if_pos (by omega)]; omega)
              | (rw [if_neg (by omega)]; omega)), rfl⟩
    · refine ezw_iload_n rfl rfl ?_
      refine ezw_aload_n rfl rfl ?_
      refine ezw_iconst (0) rfl rfl ?_
      refine ezw_call0_1 rfl (by omega) (ezu_at rfl) rfl rfl rfl rfl (ezt_m95_30o hS (by omega) ⟨by decide, by decide⟩) ?_
      rintro _ _ ⟨rfl, u7, hu7, v_6, rfl⟩
      have z0 := v_6 (by omega) (by omega)
      refine ezw_iadd (k := u3 + u7) rfl (by omega) ?_
      refine ezw_goto rfl rfl ?_
      exact ezw_ireturn rfl rfl ⟨rfl, u3 + u7, ⟨by omega, by omega⟩, (by
            unfold ezn_wr
            first
              | (rw [if_pos (by omega)]; omega)
              | (rw [if_neg (by omega)]; omega)), rfl⟩
def ezt_m145_0n_fQ (b2 : Bool) (F : Nat → Nat → Int) (A : Nat → Int → Int) (y : ezp_D) (w : ezn_N) : Option ezq_V → (Nat → ezq_C) → Prop := fun v g' => ezu_g (false, b2) F A = g' ∧ ∃ u : Int, (ezw_in u) ∧ (u = ezn_wr y w) ∧ some (ezw_i u) = v
theorem ezt_m145_0n_f {b2 : Bool} {y : ezp_D} {w : ezn_N} {F : Nat → Nat → Int} {A : Nat → Int → Int} (hS : ezs_T F A) (hd : 3 ≤ d) (tr : ezt_TR 30 y F A) (nu : ezt_NU 30 y A) (hB : ezp_B y) (cw : ezn_C 13 w F) (wb : ezn_B y w) : ezw_C l ρ B xa Hb D cA 145 d [ezw_p 0] (ezu_g (false, b2) F A) (ezt_m145_0n_fQ b2 F A y w) := by
  refine ezw_met (k := 0) rfl rfl ?_
  refine ezw_aload_n rfl rfl ?_
  refine ezs_getp (p := 13) rfl rfl rfl rfl rfl ?_
  refine ezw_aload_n rfl rfl ?_
  refine ezs_getp (p := 30) rfl rfl rfl rfl rfl ?_
  refine ezw_call0_1 rfl (by omega) (ezu_at rfl) rfl rfl rfl rfl (ezt_m143_13_30n hS (by omega) tr nu hB cw wb) ?_
  rintro _ _ ⟨rfl, u2, hu2, an_1, rfl⟩
  exact ezw_ireturn rfl rfl ⟨rfl, u2, hu2, an_1, rfl⟩
def ezt_m27_52oQ (e : Bool × Bool) (F : Nat → Nat → Int) (A : Nat → Int → Int) (a1 : Int) : Option ezq_V → (Nat → ezq_C) → Prop := fun v g' => ezu_g e F A = g' ∧ ∃ u : Int, (ezw_in u) ∧ (0 ≤ a1 → a1 < 4 → u = A 52 a1) ∧ (a1 < 0 ∨ 4 ≤ a1 → u = 0) ∧ some (ezw_i u) = v
theorem ezt_m27_52o {a1 : Int} {F : Nat → Nat → Int} {A : Nat → Int → Int} (hS : ezs_T F A) (hd : 0 ≤ d) (ha1 : ezw_in a1) : ezw_C l ρ B xa Hb D cA 27 d [ezw_p 52, ezw_i a1] (ezu_g e F A) (ezt_m27_52oQ e F A a1) := by
  refine ezw_met (k := 0) rfl rfl ?_
  refine ezw_aload_n rfl rfl ?_
  refine ezw_ifnull rfl ?_
  refine ezw_iload_n rfl rfl ?_
  refine ezw_if_lt rfl rfl ha1 (fun h5_0 => ?_) (fun h5_0 => ?_)
  · refine ezw_iconst (0) rfl rfl ?_
    exact ezw_ireturn rfl rfl ⟨rfl, (0), ⟨by decide, by decide⟩, by omega, by omega, rfl⟩
  · refine ezw_iload_n rfl rfl ?_
    refine ezw_aload_n rfl rfl ?_
    refine ezs_alen (k := 4) rfl rfl rfl rfl (by decide) (by decide) ?_
    refine ezw_icmp_ge rfl rfl ha1 ⟨by decide, by decide⟩ (fun h11_0 => ?_) (fun h11_0 => ?_)
    · refine ezw_iconst (0) rfl rfl ?_
      exact ezw_ireturn rfl rfl ⟨rfl, (0), ⟨by decide, by decide⟩, by omega, by omega, rfl⟩
    · refine ezw_aload_n rfl rfl ?_
      refine ezw_iload_n rfl rfl ?_
      refine ezy_iaload hS rfl rfl rfl (by omega) (by omega) (by decide) (fun u1 hu1 ku1 eu1 => ?_)
      refine ezw_goto rfl rfl ?_
      exact ezw_ireturn rfl rfl ⟨rfl, u1, hu1, by omega, by omega, rfl⟩
def ezt_m144_47nQ (e : Bool × Bool) (F : Nat → Nat → Int) (A : Nat → Int → Int) (y : ezp_D) (a1 : Int) : Option ezq_V → (Nat → ezq_C) → Prop := fun v g' => ezu_g e F A = g' ∧ ∃ u : Int, (ezw_in u) ∧ (u = ezn_hw y a1) ∧ some (ezw_i u) = v
theorem ezt_m144_47n {y : ezp_D} {a1 : Int} {F : Nat → Nat → Int} {A : Nat → Int → Int} (hS : ezs_T F A) (hd : 1 ≤ d) (ha1 : ezw_in a1) (tr : ezt_TR 47 y F A) (nu : ezt_NU 47 y A) (hB : ezp_B y) : ezw_C l ρ B xa Hb D cA 144 d [ezw_p 47, ezw_i a1] (ezu_g e F A) (ezt_m144_47nQ e F A y a1) := by
  refine ezw_met (k := 2) rfl rfl ?_
  obtain ⟨⟨c1, c2, c3, c4⟩, ⟨d1, d2, d3, d4, d5, d6, d7, d8⟩, e3, e4, e5, e6⟩ := id tr
  obtain ⟨b1, b2', b3, b4, b5, b6, b7, ⟨b8, b8'⟩, b9⟩ := id hB
  refine ezw_iconst (0) rfl rfl ?_
  refine ezw_istore_n rfl rfl ?_
  refine ezw_iconst (0) rfl rfl ?_
  refine ezw_istore_n rfl rfl ?_
  have L4_2 : ∀ c1 : Int, ezw_in c1 → ∀ y3 : Int, ezw_in y3 → ((0) ≤ c1) → (c1 ≤ y.kH) → (y3 = ezp_sm (fun t => if ezt_b a1 t = 1 then y.wo t else 0) (c1).toNat) → (0 ≤ y3 ∧ y3 ≤ 999 * c1) → ezw_E l ρ B xa Hb D cA d ezq_re144 (ezt_m144_47nQ e F A y a1) 4 [some (ezw_p 47), some (ezw_i a1), some (ezw_i y3), some (ezw_i c1)] [] (ezu_g e F A) := by
    refine ezs_up ?_
    intro c1 hc1 ihc1 y3 hy3 g_2 cb_2 sm_2 sr_2
    refine ezw_iload_n rfl rfl ?_
    refine ezw_aload_n rfl rfl ?_
    refine ezy_get_i hS rfl rfl rfl rfl rfl rfl (fun u4 hu4 ku4 eu4 => ?_)
    replace eu4 := eu4.symm
    subst eu4
    refine ezw_icmp_ge rfl rfl hc1 hu4 (fun h9_4 => ?_) (fun h9_4 => ?_)
    · refine ezw_iload_n rfl rfl ?_
      exact ezw_ireturn rfl rfl ⟨rfl, y3, hy3, (by
            rw [sm_2, show c1 = y.kH by omega]
            rfl), rfl⟩
    · refine ezw_iload_n rfl rfl ?_
      refine ezw_iload_n rfl rfl ?_
      refine ezw_call3_2 rfl (by omega) rfl rfl (ezt_m49o hS (by omega) ha1 hc1) ?_
      rintro _ _ ⟨rfl, u6, hu6, v_5, o_5, rfl⟩
      refine ezw_iconst (1) rfl rfl ?_
      refine ezw_icmp_ne rfl rfl hu6 ⟨by decide, by decide⟩ (fun h18_6 => ?_) (fun h18_6 => ?_)
      · refine ezw_iinc (k := c1 + 1) (1) rfl rfl rfl (by omega) rfl ?_
        refine ezw_goto rfl rfl ?_
        exact ezw_keepE [true, true, true, true] (ihc1 (c1 + 1) (by omega) ⟨by omega, by omega⟩ y3 hy3 (by omega) (by omega) (by
              rw [ezp_sm_n (by omega), ← sm_2]
              have h9 := v_5 (by omega) (by omega)
              rw [if_neg (by omega)]
              omega) (by omega))
      · have hb9 := (b2' c1 (by omega) (by omega)).1
        have ha9 : A 52 c1 = y.wo c1 := (e4 c1 (by omega) (by omega)).2.1
        refine ezw_iload_n rfl rfl ?_
        refine ezw_aload_n rfl rfl ?_
        refine ezs_getp (p := 52) rfl rfl rfl rfl rfl ?_
        refine ezw_iload_n rfl rfl ?_
        refine ezw_call3_2 rfl (by omega) rfl rfl (ezt_m27_52o hS (by omega) hc1) ?_
        rintro _ _ ⟨rfl, u8, hu8, v_7, o_7, rfl⟩
        have h8 := v_7 (by omega) (by omega)
        refine ezw_iadd (k := y3 + u8) rfl (by omega) ?_
        refine ezw_istore_n rfl rfl ?_
        refine ezw_iinc (k := c1 + 1) (1) rfl rfl rfl (by omega) rfl ?_
        refine ezw_goto rfl rfl ?_
        exact ezw_keepE [true, true, true, true] (ihc1 (c1 + 1) (by omega) ⟨by omega, by omega⟩ (y3 + u8) ⟨by omega, by omega⟩ (by omega) (by omega) (by
              rw [ezp_sm_n (by omega), ← sm_2]
              have h9 := v_5 (by omega) (by omega)
              rw [if_pos (by omega)]
              have h8 := v_7 (by omega) (by omega)
              have h7 : A 52 c1 = y.wo c1 := (e4 c1 (by omega) (by omega)).2.1
              omega) (by omega))
  exact ezw_keepE [true, true, true, true] (L4_2 (0) ⟨by decide, by decide⟩ (0) ⟨by decide, by decide⟩ (by omega) (by omega) rfl (by omega))
def ezt_m143_13_47nQ (e : Bool × Bool) (F : Nat → Nat → Int) (A : Nat → Int → Int) (y : ezp_D) (w : ezn_N) : Option ezq_V → (Nat → ezq_C) → Prop := fun v g' => ezu_g e F A = g' ∧ ∃ u : Int, (ezw_in u) ∧ (u = ezn_wr y w) ∧ some (ezw_i u) = v
theorem ezt_m143_13_47n {y : ezp_D} {w : ezn_N} {F : Nat → Nat → Int} {A : Nat → Int → Int} (hS : ezs_T F A) (hd : 2 ≤ d) (tr : ezt_TR 47 y F A) (nu : ezt_NU 47 y A) (hB : ezp_B y) (cw : ezn_C 13 w F) (wb : ezn_B y w) : ezw_C l ρ B xa Hb D cA 143 d [ezw_p 13, ezw_p 47] (ezu_g e F A) (ezt_m143_13_47nQ e F A y w) := by
  refine ezw_met (k := 1) rfl rfl ?_
  obtain ⟨⟨c1, c2, c3, c4⟩, ⟨d1, d2, d3, d4, d5, d6, d7, d8⟩, e3, e4, e5, e6⟩ := id tr
  obtain ⟨b1, b2', b3, b4, b5, b6, b7, ⟨b8, b8'⟩, b9⟩ := id hB
  obtain ⟨w0, w1, w2, w3, w4, w5, w6⟩ := id cw
  obtain ⟨⟨x0, x1⟩, x2, x3, x4, x5, x6, x7, x8, x9, x10, x11, x12⟩ := id wb
  have n0 : A 61 0 = y.nu 0 := nu 0 (by decide) (by decide)
  have nb0 : 0 ≤ y.nu 0 ∧ y.nu 0 ≤ 999 := b8 0 (by decide) (by decide)
  refine ezw_aload_n rfl rfl ?_
  refine ezw_aload_n rfl rfl ?_
  refine ezy_get_i hS rfl rfl rfl rfl rfl rfl (fun u1 hu1 ku1 eu1 => ?_)
  replace eu1 := eu1.symm
  subst eu1
  refine ezw_call0_1 rfl (by omega) (ezu_at rfl) rfl rfl rfl rfl (ezt_m144_47n hS (by omega) hu1 tr nu hB) ?_
  rintro _ _ ⟨rfl, u3, hu3, an_2, rfl⟩
  refine ezw_istore_n rfl rfl ?_
  have hwr : 0 ≤ ezn_hw y w.ha ∧ ezn_hw y w.ha ≤ 999 * y.kH.toNat := ezn_hw_r hB w.ha y.kH.toNat (by omega)
  have hv : u3 = ezn_hw y w.ha := by rw [an_2, w6]
  refine ezw_aload_n rfl rfl ?_
  refine ezy_get_i hS rfl rfl rfl rfl rfl rfl (fun u4 hu4 ku4 eu4 => ?_)
  replace eu4 := eu4.symm
  subst eu4
  refine ezw_iconst (1) rfl rfl ?_
  refine ezw_icmp_ne rfl rfl hu4 ⟨by decide, by decide⟩ (fun h14_4 => ?_) (fun h14_4 => ?_)
  · refine ezw_iload_n rfl rfl ?_
    exact ezw_ireturn rfl rfl ⟨rfl, u3, hu3, (by
          unfold ezn_wr
          first
            | (rw [if_pos (by omega)]; omega)
            | (rw [if_neg (by omega)]; omega)), rfl⟩
  · refine ezw_aload_n rfl rfl ?_
    refine ezy_get_i hS rfl rfl rfl rfl rfl rfl (fun u5 hu5 ku5 eu5 => ?_)
    replace eu5 := eu5.symm
    subst eu5
    refine ezw_if_le rfl rfl hu5 (fun h21_5 => ?_) (fun h21_5 => ?_)
    · refine ezw_iload_n rfl rfl ?_
      exact ezw_ireturn rfl rfl ⟨rfl, u3, hu3, (by
            unfold ezn_wr
            first
              | (rw [if_pos (by omega)]; omega)
              | (rw [if_neg (by omega)]; omega)), rfl⟩
    · refine ezw_iload_n rfl rfl ?_
      refine ezw_aload_n rfl rfl ?_
      refine ezw_iconst (0) rfl rfl ?_
      refine ezw_call0_1 rfl (by omega) (ezu_at rfl) rfl rfl rfl rfl (ezt_m95_47o hS (by omega) ⟨by decide, by decide⟩) ?_
      rintro _ _ ⟨rfl, u7, hu7, v_6, rfl⟩
      have z0 := v_6 (by omega) (by omega)
      refine ezw_iadd (k := u3 + u7) rfl (by omega) ?_
      refine ezw_goto rfl rfl ?_
      exact ezw_ireturn rfl rfl ⟨rfl, u3 + u7, ⟨by omega, by omega⟩, (by
            unfold ezn_wr
            first
              | (rw [if_pos (by omega)]; omega)
              | (rw [if_neg (by omega)]; omega)), rfl⟩
def ezt_m145_0n_tQ (b2 : Bool) (F : Nat → Nat → Int) (A : Nat → Int → Int) (y : ezp_D) (w : ezn_N) : Option ezq_V → (Nat → ezq_C) → Prop := fun v g' => ezu_g (true, b2) F A = g' ∧ ∃ u : Int, (ezw_in u) ∧ (u = ezn_wr y w) ∧ some (ezw_i u) = v
theorem ezt_m145_0n_t {b2 : Bool} {y : ezp_D} {w : ezn_N} {F : Nat → Nat → Int} {A : Nat → Int → Int} (hS : ezs_T F A) (hd : 3 ≤ d) (tr : ezt_TR 47 y F A) (nu : ezt_NU 47 y A) (hB : ezp_B y) (cw : ezn_C 13 w F) (wb : ezn_B y w) : ezw_C l ρ B xa Hb D cA 145 d [ezw_p 0] (ezu_g (true, b2) F A) (ezt_m145_0n_tQ b2 F A y w) := by
  refine ezw_met (k := 0) rfl rfl ?_
  refine ezw_aload_n rfl rfl ?_
  refine ezs_getp (p := 13) rfl rfl rfl rfl rfl ?_
  refine ezw_aload_n rfl rfl ?_
  refine ezs_getp (p := 47) rfl rfl rfl rfl rfl ?_
  refine ezw_call0_1 rfl (by omega) (ezu_at rfl) rfl rfl rfl rfl (ezt_m143_13_47n hS (by omega) tr nu hB cw wb) ?_
  rintro _ _ ⟨rfl, u2, hu2, an_1, rfl⟩
  exact ezw_ireturn rfl rfl ⟨rfl, u2, hu2, an_1, rfl⟩
def ezt_m157_16nQ (e : Bool × Bool) (F : Nat → Nat → Int) (A : Nat → Int → Int) (c : Int → Int) : Option ezq_V → (Nat → ezq_C) → Prop := fun v g' => ezu_g e F A = g' ∧ ∃ u : Int, (ezw_in u) ∧ (u = ezn_tm c) ∧ some (ezw_i u) = v
theorem ezt_m157_16n {c : Int → Int} {F : Nat → Nat → Int} {A : Nat → Int → Int} (hS : ezs_T F A) (hd : 0 ≤ d) (ct : ∀ j, 0 ≤ j → j < 8 → A 17 j = c j) (tb : ezn_TB c) : ezw_C l ρ B xa Hb D cA 157 d [ezw_p 16] (ezu_g e F A) (ezt_m157_16nQ e F A c) := by
  refine ezw_met (k := 2) rfl rfl ?_
  have t0 := tb.1 0 (by decide) (by decide)
  have t1 := tb.1 1 (by decide) (by decide)
  have t2 := tb.1 2 (by decide) (by decide)
  have t3 := tb.1 3 (by decide) (by decide)
  have t4 := tb.1 4 (by decide) (by decide)
  have t5 := tb.1 5 (by decide) (by decide)
  have t6 := tb.1 6 (by decide) (by decide)
  have t7 := tb.1 7 (by decide) (by decide)
  have t8 := tb.2
  refine ezw_iconst (0) rfl rfl ?_
  refine ezw_istore_n rfl rfl ?_
  refine ezw_iconst (0) rfl rfl ?_
  refine ezw_istore_n rfl rfl ?_
  have L4_2 : ∀ c1 : Int, ezw_in c1 → ∀ y3 : Int, ezw_in y3 → ((0) ≤ c1) → (c1 ≤ 8) → (y3 = ezp_sm c (c1).toNat) → (0 ≤ y3 ∧ y3 ≤ 12 * c1) → ezw_E l ρ B xa Hb D cA d ezq_re157 (ezt_m157_16nQ e F A c) 4 [some (ezw_p 16), some (ezw_i y3), some (ezw_i c1)] [] (ezu_g e F A) := by
    refine ezs_up ?_
    intro c1 hc1 ihc1 y3 hy3 g_2 cb_2 sm_2 sr_2
    refine ezw_iload_n rfl rfl ?_
    refine ezw_aload_n rfl rfl ?_
    refine ezs_getp (p := 17) rfl rfl rfl rfl rfl ?_
    refine ezs_alen (k := 8) rfl rfl rfl rfl (by decide) (by decide) ?_
    refine ezw_icmp_ge rfl rfl hc1 ⟨by decide, by decide⟩ (fun h10_3 => ?_) (fun h10_3 => ?_)
    · refine ezw_iload_n rfl rfl ?_
      exact ezw_ireturn rfl rfl ⟨rfl, y3, hy3, (by
            rw [sm_2, show c1 = 8 by omega]
            show 0 + c 0 + c 1 + c 2 + c 3 + c 4 + c 5 + c 6 + c 7 = _
            unfold ezn_tm
            omega), rfl⟩
    · refine ezw_iload_n rfl rfl ?_
      refine ezw_aload_n rfl rfl ?_
      refine ezs_getp (p := 17) rfl rfl rfl rfl rfl ?_
      refine ezw_iload_n rfl rfl ?_
      refine ezy_iaload hS rfl rfl rfl (by omega) (by omega) (by decide) (fun u4 hu4 ku4 eu4 => ?_)
      have h9 := ct c1 (by omega) (by omega)
      have h8 := ezn_TB_i tb (j := c1) (by omega) (by omega)
      refine ezw_iadd (k := y3 + u4) rfl (by omega) ?_
      refine ezw_istore_n rfl rfl ?_
      refine ezw_iinc (k := c1 + 1) (1) rfl rfl rfl (by omega) rfl ?_
      refine ezw_goto rfl rfl ?_
      exact ezw_keepE [true, true, true] (ihc1 (c1 + 1) (by omega) ⟨by omega, by omega⟩ (y3 + u4) ⟨by omega, by omega⟩ (by omega) (by omega) (by rw [ezp_sm_n (by omega), ← sm_2]; omega) (by omega))
  exact ezw_keepE [true, true, true] (L4_2 (0) ⟨by decide, by decide⟩ (0) ⟨by decide, by decide⟩ (by omega) (by omega) rfl (by omega))
def ezt_m27_17oQ (e : Bool × Bool) (F : Nat → Nat → Int) (A : Nat → Int → Int) (a1 : Int) : Option ezq_V → (Nat → ezq_C) → Prop := fun v g' => ezu_g e F A = g' ∧ ∃ u : Int, (ezw_in u) ∧ (0 ≤ a1 → a1 < 8 → u = A 17 a1) ∧ (a1 < 0 ∨ 8 ≤ a1 → u = 0) ∧ some (ezw_i u) = v
theorem ezt_m27_17o {a1 : Int} {F : Nat → Nat → Int} {A : Nat → Int → Int} (hS : ezs_T F A) (hd : 0 ≤ d) (ha1 : ezw_in a1) : ezw_C l ρ B xa Hb D cA 27 d [ezw_p 17, ezw_i a1] (ezu_g e F A) (ezt_m27_17oQ e F A a1) := by
  refine ezw_met (k := 0) rfl rfl ?_
  refine ezw_aload_n rfl rfl ?_
  refine ezw_ifnull rfl ?_
  refine ezw_iload_n rfl rfl ?_
  refine ezw_if_lt rfl rfl ha1 (fun h5_0 => ?_) (fun h5_0 => ?_)
  · refine ezw_iconst (0) rfl rfl ?_
    exact ezw_ireturn rfl rfl ⟨rfl, (0), ⟨by decide, by decide⟩, by omega, by omega, rfl⟩
  · refine ezw_iload_n rfl rfl ?_
    refine ezw_aload_n rfl rfl ?_
    refine ezs_alen (k := 8) rfl rfl rfl rfl (by decide) (by decide) ?_
    refine ezw_icmp_ge rfl rfl ha1 ⟨by decide, by decide⟩ (fun h11_0 => ?_) (fun h11_0 => ?_)
    · refine ezw_iconst (0) rfl rfl ?_
      exact ezw_ireturn rfl rfl ⟨rfl, (0), ⟨by decide, by decide⟩, by omega, by omega, rfl⟩
    · refine ezw_aload_n rfl rfl ?_
      refine ezw_iload_n rfl rfl ?_
      refine ezy_iaload hS rfl rfl rfl (by omega) (by omega) (by decide) (fun u1 hu1 ku1 eu1 => ?_)
      refine ezw_goto rfl rfl ?_
      exact ezw_ireturn rfl rfl ⟨rfl, u1, hu1, by omega, by omega, rfl⟩
def ezt_m21_17Q (e : Bool × Bool) (F : Nat → Nat → Int) (A : Nat → Int → Int) (a1 : Int) (a2 : Int) : Option ezq_V → (Nat → ezq_C) → Prop := fun v g' => ∃ (A' : Nat → Int → Int), ezu_g e F A' = g' ∧ ezs_T F A' ∧ (∀ p, ¬ (p = 17) → A' p = A p) ∧ (0 ≤ a1 → a1 < 8 → A' 17 a1 = a2) ∧ (∀ j, j ≠ a1 → A' 17 j = A 17 j) ∧ none = v
theorem ezt_m21_17 {a1 a2 : Int} {F : Nat → Nat → Int} {A : Nat → Int → Int} (hS : ezs_T F A) (hd : 0 ≤ d) (ha1 : ezw_in a1) (ha2 : ezw_in a2) : ezw_C l ρ B xa Hb D cA 21 d [ezw_p 17, ezw_i a1, ezw_i a2] (ezu_g e F A) (ezt_m21_17Q e F A a1 a2) := by
  refine ezw_met (k := 0) rfl rfl ?_
  refine ezw_aload_n rfl rfl ?_
  refine ezw_ifnull rfl ?_
  refine ezw_iload_n rfl rfl ?_
  refine ezw_if_lt rfl rfl ha1 (fun h5_0 => ?_) (fun h5_0 => ?_)
  · exact ezw_return rfl rfl ⟨A, rfl, hS, (fun _ _ => rfl), (by omega), (fun _ _ => rfl), rfl⟩
  · refine ezw_iload_n rfl rfl ?_
    refine ezw_aload_n rfl rfl ?_
    refine ezs_alen (k := 8) rfl rfl rfl rfl (by decide) (by decide) ?_
    refine ezw_icmp_ge rfl rfl ha1 ⟨by decide, by decide⟩ (fun h11_0 => ?_) (fun h11_0 => ?_)
    · exact ezw_return rfl rfl ⟨A, rfl, hS, (fun _ _ => rfl), (by omega), (fun _ _ => rfl), rfl⟩
    · refine ezw_aload_n rfl rfl ?_
      refine ezw_iload_n rfl rfl ?_
      refine ezw_iload_n rfl rfl ?_
      refine ezy_iastore hS rfl rfl rfl (by omega) (by omega) (by decide) ha2 (fun A1 hS mA1 nA1 => ?_)
      exact ezw_return rfl rfl ⟨A1, rfl, hS, (fun p h => by
            funext j
            rw [nA1 p j (fun z => h (z.1))]), (fun _ _ => mA1), (fun j hj => nA1 17 j (by omega)), rfl⟩
def ezt_m158_16nQ (e : Bool × Bool) (F : Nat → Nat → Int) (A : Nat → Int → Int) (c : Int → Int) (a1 : Int) (a2 : Int) : Option ezq_V → (Nat → ezq_C) → Prop := fun v g' => ∃ (A' : Nat → Int → Int), ezu_g e F A' = g' ∧ ezs_T F A' ∧ (∀ p, ¬ (p = 17) → A' p = A p) ∧ (∀ j, 0 ≤ j → j < 8 → A' 17 j = ezn_ad c a1 a2 j) ∧ none = v
theorem ezt_m158_16n {c : Int → Int} {a1 a2 : Int} {F : Nat → Nat → Int} {A : Nat → Int → Int} (hS : ezs_T F A) (hd : 1 ≤ d) (ha1 : ezw_in a1) (ha2 : ezw_in a2) (ct : ∀ j, 0 ≤ j → j < 8 → A 17 j = c j) (tb : ezn_TB c) (ga : 0 ≤ a1 ∧ a1 < 4 ∧ 0 ≤ a2 ∧ a2 ≤ 1) : ezw_C l ρ B xa Hb D cA 158 d [ezw_p 16, ezw_i a1, ezw_i a2] (ezu_g e F A) (ezt_m158_16nQ e F A c a1 a2) := by
  refine ezw_met (k := 1) rfl rfl ?_
  refine ezw_iconst (2) rfl rfl ?_
  refine ezw_iload_n rfl rfl ?_
  refine ezw_imul (k := 2 * a1) rfl (by omega) ?_
  refine ezw_iload_n rfl rfl ?_
  have J12_2 : ∀ y1 : Int, ezw_in y1 → (y1 = a2) → ezw_E l ρ B xa Hb D cA d ezq_re158 (ezt_m158_16nQ e F A c a1 a2) 12 [some (ezw_p 16), some (ezw_i a1), some (ezw_i a2), none] [ezw_i y1, ezw_i (2 * a1)] (ezu_g e F A) := by
    intro y1 hy1 v_2
    refine ezw_iadd (k := 2 * a1 + y1) rfl (by omega) ?_
    refine ezw_istore_n rfl rfl ?_
    refine ezw_aload_n rfl rfl ?_
    refine ezs_getp (p := 17) rfl rfl rfl rfl rfl ?_
    refine ezw_iload_n rfl rfl ?_
    refine ezw_aload_n rfl rfl ?_
    refine ezs_getp (p := 17) rfl rfl rfl rfl rfl ?_
    refine ezw_iload_n rfl rfl ?_
    refine ezw_call3_2 rfl (by omega) rfl rfl (ezt_m27_17o hS (by omega) ⟨by omega, by omega⟩) ?_
    rintro _ _ ⟨rfl, u4, hu4, v_3, o_3, rfl⟩
    have h9 := v_3 (by omega) (by omega)
    have h8 := ct (2 * a1 + y1) (by omega) (by omega)
    have h7 := ezn_TB_i tb (j := 2 * a1 + y1) (by omega) (by omega)
    refine ezw_iconst (1) rfl rfl ?_
    refine ezw_iadd (k := u4 + 1) rfl (by omega) ?_
    refine ezw_call3_3 rfl (by omega) rfl rfl (ezt_m21_17 hS (by omega) ⟨by omega, by omega⟩ ⟨by omega, by omega⟩) ?_
    rintro _ _ ⟨A5, rfl, hS, nA5, m_5, n_5, rfl⟩
    exact ezw_return rfl rfl ⟨A5, rfl, hS, (fun p h => by
          funext j
          rw [nA5 p (fun z => h (z))]), (fun j j0 j1 => by
          unfold ezn_ad ezp_up
          by_cases hj : j = 2 * a1 + a2
          · rw [if_pos hj, hj, show 2 * a1 + a2 = 2 * a1 + y1 by omega]
            have h9 := m_5 (by omega) (by omega)
            have h8 := v_3 (by omega) (by omega)
            have h7 := ct (2 * a1 + y1) (by omega) (by omega)
            rw [h9, h8, h7]
          · rw [if_neg hj, n_5 j (by omega)]
            exact ct j j0 j1), rfl⟩
  refine ezw_if_eq rfl rfl ha2 (fun h4_0 => ?_) (fun h4_0 => ?_)
  · refine ezw_iconst (0) rfl rfl ?_
    exact ezw_keepE [true, true, true, false] (J12_2 (0) ⟨by decide, by decide⟩ (by omega))
  · refine ezw_iconst (1) rfl rfl ?_
    refine ezw_goto rfl rfl ?_
    exact ezw_keepE [true, true, true, false] (J12_2 (1) ⟨by decide, by decide⟩ (by omega))
def ezt_m156_0n_fQ (b2 : Bool) (F : Nat → Nat → Int) (A : Nat → Int → Int) (c : Int → Int) (a1 : Int) (a2 : Int) : Option ezq_V → (Nat → ezq_C) → Prop := fun v g' => ∃ (A' : Nat → Int → Int), ezu_g (false, b2) F A' = g' ∧ ezs_T F A' ∧ (∀ p, ¬ (p = 17) → A' p = A p) ∧ ∃ u : Int, (0 ≤ u ∧ u ≤ 1) ∧ (0 ≤ a1 ∧ a1 < 4 ∧ ezn_tm c < 12 → u = 1 ∧ ∀ j, 0 ≤ j → j < 8 → A' 17 j = ezn_ad c a1 a2 j) ∧ (¬ (0 ≤ a1 ∧ a1 < 4 ∧ ezn_tm c < 12) → u = 0 ∧ ∀ j, 0 ≤ j → j < 8 → A' 17 j = c j) ∧ some (ezw_i u) = v
theorem ezt_m156_0n_f {b2 : Bool} {c : Int → Int} {a1 a2 : Int} {F : Nat → Nat → Int} {A : Nat → Int → Int} (hS : ezs_T F A) (hd : 2 ≤ d) (ha1 : ezw_in a1) (ha2 : ezw_in a2) (ct : ∀ j, 0 ≤ j → j < 8 → A 17 j = c j) (tb : ezn_TB c) (gb : 0 ≤ a2 ∧ a2 ≤ 1) : ezw_C l ρ B xa Hb D cA 156 d [ezw_p 0, ezw_i a1, ezw_i a2] (ezu_g (false, b2) F A) (ezt_m156_0n_fQ b2 F A c a1 a2) := by
  refine ezw_met (k := 0) rfl rfl ?_
  refine ezw_iload_n rfl rfl ?_
  refine ezw_call2_1 rfl (by omega) rfl rfl (ezt_m112o hS (by omega) ha1) ?_
  rintro _ _ ⟨rfl, u2, hu2, p1_0, p1_1, rfl⟩
  refine ezw_if_eq rfl rfl ⟨by omega, by omega⟩ (fun h4_2 => ?_) (fun h4_2 => ?_)
  · refine ezw_iconst (0) rfl rfl ?_
    exact ezw_ireturn rfl (ezw_zret ⟨by omega, by omega⟩) ⟨A, rfl, hS, (fun _ _ => rfl), (0), ⟨by omega, by omega⟩, (fun h => by omega), (fun _ => ⟨rfl, ct⟩), rfl⟩
  · refine ezw_aload_n rfl rfl ?_
    refine ezs_getp (p := 16) rfl rfl rfl rfl rfl ?_
    refine ezw_call0_0 rfl (by omega) (ezu_at rfl) rfl rfl rfl rfl (ezt_m157_16n hS (by omega) ct tb) ?_
    rintro _ _ ⟨rfl, u4, hu4, an_3, rfl⟩
    have htm := an_3
    refine ezw_bipush (12) rfl rfl ?_
    refine ezw_icmp_lt rfl rfl hu4 ⟨by decide, by decide⟩ (fun h16_4 => ?_) (fun h16_4 => ?_)
    · refine ezw_aload_n rfl rfl ?_
      refine ezs_getp (p := 16) rfl rfl rfl rfl rfl ?_
      refine ezw_iload_n rfl rfl ?_
      refine ezw_iload_n rfl rfl ?_
      refine ezw_call0_2 rfl (by omega) (ezu_at rfl) rfl rfl rfl rfl (ezt_m158_16n hS (by omega) ha1 ha2 ct tb (by omega)) ?_
      rintro _ _ ⟨A5, rfl, hS, nA5, ad_5, rfl⟩
      refine ezw_iconst (1) rfl rfl ?_
      exact ezw_ireturn rfl (ezw_zret ⟨by omega, by omega⟩) ⟨A5, rfl, hS, (fun p h => by
            funext j
            rw [nA5 p (fun z => h (z))]), (1), ⟨by omega, by omega⟩, (fun _ => ⟨rfl, ad_5⟩), (fun h => by omega), rfl⟩
    · refine ezw_iconst (0) rfl rfl ?_
      exact ezw_ireturn rfl (ezw_zret ⟨by omega, by omega⟩) ⟨A, rfl, hS, (fun _ _ => rfl), (0), ⟨by omega, by omega⟩, (fun h => by omega), (fun _ => ⟨rfl, ct⟩), rfl⟩
def ezt_m202_16nQ (e : Bool × Bool) (F : Nat → Nat → Int) (A : Nat → Int → Int) (c : Int → Int) : Option ezq_V → (Nat → ezq_C) → Prop := fun v g' => ezu_g e F A = g' ∧ ∃ u : Int, (ezw_il u) ∧ (u = ezn_pt c) ∧ some (ezw_l u) = v
theorem ezt_m202_16n {c : Int → Int} {F : Nat → Nat → Int} {A : Nat → Int → Int} (hS : ezs_T F A) (hd : 0 ≤ d) (ct : ∀ j, 0 ≤ j → j < 8 → A 17 j = c j) (tb : ezn_TB c) : ezw_C l ρ B xa Hb D cA 202 d [ezw_p 16] (ezu_g e F A) (ezt_m202_16nQ e F A c) := by
  refine ezw_met (k := 3) rfl rfl ?_
  refine ezw_lconst (0) rfl rfl ?_
  refine ezw_lstore_n rfl rfl ?_
  refine ezw_iconst (0) rfl rfl ?_
  refine ezw_istore_n rfl rfl ?_
  have L4_2 : ∀ c1 : Int, ezw_in c1 → ∀ y3 : Int, ezw_il y3 → ((0) ≤ c1) → (c1 ≤ 8) → (y3 = ezn_ptn c (c1).toNat) → ezw_E l ρ B xa Hb D cA d ezq_re202 (ezt_m202_16nQ e F A c) 4 [some (ezw_p 16), some (ezw_l y3), none, some (ezw_i c1)] [] (ezu_g e F A) := by
    refine ezs_up ?_
    intro c1 hc1 ihc1 y3 hy3 g_2 cb_2 pt_2
    refine ezw_iload_n rfl rfl ?_
    refine ezw_aload_n rfl rfl ?_
    refine ezs_getp (p := 17) rfl rfl rfl rfl rfl ?_
    refine ezs_alen (k := 8) rfl rfl rfl rfl (by decide) (by decide) ?_
    refine ezw_icmp_ge rfl rfl hc1 ⟨by decide, by decide⟩ (fun h10_3 => ?_) (fun h10_3 => ?_)
    · refine ezw_lload_n rfl rfl ?_
      exact ezw_lreturn rfl rfl ⟨rfl, y3, hy3, (by
            rw [pt_2, show c1 = 8 by omega]
            rfl), rfl⟩
    · have h7 := ezn_ptn_7 tb (n := (c1).toNat) (by omega)
      rw [← pt_2] at h7
      refine ezw_lload_n rfl rfl ?_
      refine ezw_iconst (4) rfl rfl ?_
      refine ezw_lshl rfl (by omega) (by omega) (k := 16 * y3) (by rw [ezn_t4]; omega) ?_
      refine ezw_aload_n rfl rfl ?_
      refine ezs_getp (p := 17) rfl rfl rfl rfl rfl ?_
      refine ezw_iload_n rfl rfl ?_
      refine ezy_iaload hS rfl rfl rfl (by omega) (by omega) (by decide) (fun u4 hu4 ku4 eu4 => ?_)
      have h9 := ct c1 (by omega) (by omega)
      have h8 := ezn_TB_i tb (j := c1) (by omega) (by omega)
      refine ezw_i2l rfl hu4 rfl ?_
      refine ezw_lor rfl (k := 16 * y3 + u4) ((ezn_orl 4 16 (by decide) (by omega) (by omega) (by omega) (by omega) (by omega)).trans (by omega)) ?_
      refine ezw_lstore_n rfl rfl ?_
      refine ezw_iinc (k := c1 + 1) (1) rfl rfl rfl (by omega) rfl ?_
      refine ezw_goto rfl rfl ?_
      exact ezw_keepE [true, true, false, true] (ihc1 (c1 + 1) (by omega) ⟨by omega, by omega⟩ (16 * y3 + u4) ⟨by omega, by omega⟩ (by omega) (by omega) (by rw [ezn_ptn_s (by omega), ← pt_2]; omega))
  exact ezw_keepE [true, true, false, true] (L4_2 (0) ⟨by decide, by decide⟩ (0) ⟨by decide, by decide⟩ (by omega) (by omega) rfl)
def ezt_m207_16nQ (e : Bool × Bool) (F : Nat → Nat → Int) (A : Nat → Int → Int) (c : Int → Int) (a1 : Int) : Option ezq_V → (Nat → ezq_C) → Prop := fun v g' => ∃ (A' : Nat → Int → Int), ezu_g e F A' = g' ∧ ezs_T F A' ∧ (∀ p, ¬ (p = 17) → A' p = A p) ∧ (∀ j, 0 ≤ j → j < 8 → A' 17 j = c j) ∧ none = v
theorem ezt_m207_16n {c : Int → Int} {a1 : Int} {F : Nat → Nat → Int} {A : Nat → Int → Int} (hS : ezs_T F A) (hd : 0 ≤ d) (ha1 : ezw_il a1) (pk : a1 = ezn_pt c) (tb : ezn_TB c) : ezw_C l ρ B xa Hb D cA 207 d [ezw_p 16, ezw_l a1] (ezu_g e F A) (ezt_m207_16nQ e F A c a1) := by
  refine ezw_met (k := 3) rfl rfl ?_
  refine ezw_lload_n rfl rfl ?_
  refine ezw_lstore_n rfl rfl ?_
  refine ezw_aload_n rfl rfl ?_
  refine ezs_getp (p := 17) rfl rfl rfl rfl rfl ?_
  refine ezs_alen (k := 8) rfl rfl rfl rfl (by decide) (by decide) ?_
  refine ezw_iconst (1) rfl rfl ?_
  refine ezw_isub (k := (7)) rfl (by omega) ?_
  refine ezw_istore rfl rfl ?_
  have L11_2 : ∀ c1 : Int, ezw_in c1 → ∀ y3 : Int, ezw_il y3 → ∀ A_2 : Nat → Int → Int, ezs_T F A_2 → (∀ p, ¬ (p = 17) → A_2 p = A p) → (c1 ≤ (7)) → (-1 ≤ c1) → (y3 = ezn_ptn c (c1 + 1).toNat) → (∀ j, c1 < j → j < 8 → A_2 17 j = c j) → ezw_E l ρ B xa Hb D cA d ezq_re207 (ezt_m207_16nQ e F A c a1) 11 [some (ezw_p 16), some (ezw_l a1), none, some (ezw_l y3), none, some (ezw_i c1)] [] (ezu_g e F A_2) := by
    refine ezs_dn ?_
    intro c1 hc1 ihc1 y3 hy3 A_2 hS nA_2 g_2 cb_2 pt_2 rw_2
    refine ezw_iload rfl rfl ?_
    refine ezw_if_lt rfl rfl hc1 (fun h13_3 => ?_) (fun h13_3 => ?_)
    · exact ezw_return rfl rfl ⟨A_2, rfl, hS, (fun p h => by
            funext j
            rw [nA_2 p (fun z => h (z))]), (fun j j0 j1 => rw_2 j (by omega) j1), rfl⟩
    · have h7 := ezn_ptn_8 tb (n := (c1 + 1).toNat) (by omega)
      rw [← pt_2] at h7
      have h6 := ezn_ptn_s (c := c) (i := c1) (by omega)
      rw [← pt_2] at h6
      have h5 := ezn_TB_i tb (j := c1) (by omega) (by omega)
      refine ezw_aload_n rfl rfl ?_
      refine ezs_getp (p := 17) rfl rfl rfl rfl rfl ?_
      refine ezw_iload rfl rfl ?_
      refine ezw_lload_n rfl rfl ?_
      refine ezw_ldc2_w (15) rfl rfl ?_
      refine ezw_land rfl (k := (y3 % 16)) (ezn_andl 4 16 15 (by decide) (by decide) (by omega) (by omega)) ?_
      refine ezw_l2i rfl rfl ?_
      refine ezy_iastore hS rfl rfl rfl (by omega) (by omega) (by decide) ⟨by omega, by omega⟩ (fun A4 hS mA4 nA4 => ?_)
      refine ezw_lload_n rfl rfl ?_
      refine ezw_iconst (4) rfl rfl ?_
      refine ezw_lshr rfl hy3 (by omega) (by omega) (k := (y3 / 16)) (by rw [ezn_t4]) ?_
      refine ezw_lstore_n rfl rfl ?_
      refine ezw_iinc (k := c1 - 1) (-1) rfl rfl rfl (by omega) rfl ?_
      refine ezw_goto rfl rfl ?_
      exact ezw_keepE [true, true, false, true, false, true] (ihc1 (c1 - 1) (by omega) ⟨by omega, by omega⟩ (y3 / 16) ⟨by omega, by omega⟩ A4 hS (fun p h => by
            funext j
            rw [nA4 p j (fun z => h (z.1)), nA_2 p (fun z => h (z))]) (by omega) (by omega) (by
            rw [show c1 - 1 + 1 = c1 by omega]
            omega) (fun j j0 j1 => by
            by_cases hj : j = c1
            · rw [hj, mA4]
              omega
            · rw [nA4 17 j (by omega)]
              exact rw_2 j (by omega) j1))
  exact ezw_keepE [true, true, false, true, false, true] (L11_2 (7) ⟨by decide, by decide⟩ a1 ha1 A hS (fun _ _ => rfl) (by omega) (by omega) pk (fun j j0 j1 => by omega))
end KT
