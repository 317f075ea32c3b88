/-! ===== the class: tree, afternoon, feed, by what they answer ===== -/
theorem ezt_bleF {a b : Nat} (h : b < a) : Nat.ble a b = false := by
  cases hb : Nat.ble a b
  · rfl
  · exact absurd (Nat.le_of_ble_eq_true hb) (by omega)
/-- where the tree lies that stands -/
def ezl_q (e : Bool × Bool) : Nat := bif e.1 then 47 else 30
/-- the tree that stands is y -/
def ezl_TC (e : Bool × Bool) (y : ezp_D) (F : Nat → Nat → Int) (A : Nat → Int → Int) : Prop := ezt_TR (ezl_q e) y F A ∧ ezt_NU (ezl_q e) y A
theorem ezl_TC_fr {e : Bool × Bool} {y : ezp_D} {F F' : Nat → Nat → Int} {A A' : Nat → Int → Int} (h : ezl_TC e y F A) (hf : ∀ q, ezl_q e ≤ q → q < ezl_q e + 17 → F' q = F q ∧ A' q = A q) : ezl_TC e y F' A' := by
  have h0 := (hf (ezl_q e) (by omega) (by omega)).1
  have h8 := (hf (ezl_q e + 8) (by omega) (by omega)).1
  refine ⟨ezt_TR_fr h.1 (congrFun h0 15) (congrFun h0 16) (congrFun h0 17) (congrFun h8 1) (fun k k0 k1 => (hf _ (by omega) (by omega)).2), ezt_NU_eq h.2 rfl (hf _ (by omega) (by omega)).2⟩
theorem ezl_q_r (e : Bool × Bool) : 30 ≤ ezl_q e ∧ ezl_q e + 17 ≤ 64 := by
  obtain ⟨a, b⟩ := e
  cases a
  · exact ⟨(by decide : 30 ≤ 30), (by decide : 30 + 17 ≤ 64)⟩
  · exact ⟨(by decide : 30 ≤ 47), (by decide : 47 + 17 ≤ 64)⟩
theorem ezl_TC_e {e e' : Bool × Bool} {y : ezp_D} {F : Nat → Nat → Int} {A : Nat → Int → Int} (h : ezl_TC e y F A) (he : e'.1 = e.1) : ezl_TC e' y F A := by
  unfold ezl_TC ezl_q at h ⊢
  rw [he]
  exact h
/-- behind tree, or afternoon: the tape is empty, the words stand -/
def ezt_Pz (F : Nat → Nat → Int) (A : Nat → Int → Int) (R : Option ezq_V → Prop) (X : (Bool × Bool) → (Nat → Nat → Int) → (Nat → Int → Int) → Prop) : Option ezq_V → (Nat → ezq_C) → Prop := fun v g' => R v ∧ ∃ e' F' A', g' = ezu_g e' F' A' ∧ ezs_T F' A' ∧ F' 1 2 = 0 ∧ A' 3 = A 3 ∧ (∀ q, 72 ≤ q → F' q = F q ∧ A' q = A q) ∧ X e' F' A'
def ezl_d (e : Bool × Bool) : Nat := bif e.2 then 68 else 64
/-- tree and laws that a reading comes to -/
def ezj_Y (c : Int → Int) : ezp_D := (ezp_rl c 1000 (((0, 0), ezp_D0), ezv_L0)).1.2
def ezj_L (c : Int → Int) : ezv_LL := (ezp_rl c 1000 (((0, 0), ezp_D0), ezv_L0)).2
def ezj_X22 (c : Int → Int) (e : Bool × Bool) (F : Nat → Nat → Int) (A : Nat → Int → Int) (e' : Bool × Bool) (F' : Nat → Nat → Int) (A' : Nat → Int → Int) : Prop := (ezp_tree c ≠ 0 → e' = e ∧ ∀ q, 13 ≤ q ∧ q < 30 ∨ ezl_q e ≤ q ∧ q < ezl_q e + 17 ∨ 64 ≤ q → F' q = F q ∧ A' q = A q) ∧ (ezp_tree c = 0 → e'.2 = e.2 ∧ (ezt_TR (ezl_q e') (ezj_Y c) F' A' ∧ ezt_NU (ezl_q e') (ezj_Y c) A') ∧ ezp_B (ezj_Y c) ∧ ezv_CH (ezj_L c) (ezj_Y c) (A' (ezl_q e' + 15)) (A' (ezl_q e' + 16)) ∧ ezv_LO (ezj_L c) ∧ ezn_C 13 (ezn_bg (ezj_Y c)) F' ∧ (∀ j, 0 ≤ j → j < 8 → A' 17 j = 0) ∧ F' 18 3 = 0 ∧ F' 18 4 = 0 ∧ F' (ezl_d e') 3 = 0)
def ezj_fv : Nat → Bool := fun q => Nat.ble 72 q || (Nat.beq q 3 || (Nat.ble 13 q && Nat.ble q 63))
theorem ezj_fvD : ∀ q, 64 ≤ q → q < 72 → ezj_fv q = false := fun q h0 h1 => by
  unfold ezj_fv
  rw [ezt_bleF (show q < 72 by omega), ezw_beqF (by omega), ezt_bleF (show 63 < q by omega), Bool.and_false]
  rfl
theorem ezj_fvT {q : Nat} (h : 72 ≤ q) : ezj_fv q = true := by
  unfold ezj_fv
  rw [Nat.ble_eq_true_of_le h]
  rfl
theorem ezj_fvQ {q : Nat} (h0 : 13 ≤ q) (h1 : q < 64) : ezj_fv q = true := by
  unfold ezj_fv
  rw [Nat.ble_eq_true_of_le h0, Nat.ble_eq_true_of_le (show q ≤ 63 by omega)]
  simp
section KM
variable {l : Launch} {ρ : ezq_E} {B : Nat} {xa : Nat → Option Nat} {Hb : Heap} {D : va_G} {cA : Nat → ClassId} {d : Nat} {e : Bool × Bool}
theorem ezt_treeD_ff {c : Int → Int} {n : Int} {F : Nat → Nat → Int} {A : Nat → Int → Int} (hS : ezs_T F A) (hd : 44 ≤ d) (hn : F 1 2 = n) (hc : c = ezp_ch (A 2) n) (tp : ezp_tp c n) (hw : ∀ j, 0 ≤ j → j < 48 → A 3 j = ezl_cw.getD j.toNat 0) : ezw_C l ρ B xa Hb D cA 22 d [ezw_p 0] (ezu_g (false, false) F A) (ezt_Pz F A (fun v => ezw_in (ezp_tree c) ∧ some (ezw_i (ezp_tree c)) = v) (ezj_X22 c (false, false) F A)) := by
  refine ezw_met (k := 2) rfl rfl ?_
  refine ezw_aload_n rfl rfl ?_
  refine ezs_getp (p := 4) rfl rfl rfl rfl rfl ?_
  refine ezw_aload_n rfl rfl ?_
  refine ezs_getp (p := 1) rfl rfl rfl rfl rfl ?_
  refine ezw_aload_n rfl rfl ?_
  refine ezs_getp (p := 47) rfl rfl rfl rfl rfl ?_
  refine ezw_call0_2 rfl (by omega) (ezu_at rfl) rfl rfl rfl rfl (ezt_m23_4_1_47 hS (by omega) hn hc tp hw) ?_
  rintro _ _ ⟨F1, A1, rfl, hS, nF, nA, u, hu, an, hz, htr, rfl⟩
  have e3 : A1 3 = A 3 := nA 3 (by decide)
  have e72 : ∀ q, 72 ≤ q → F1 q = F q ∧ A1 q = A q := fun q hq => ⟨funext (fun j => nF q j (by omega)), nA q (by omega)⟩
  have hR : ezw_in (ezp_tree c) ∧ some (ezw_i (ezp_tree c)) = some (ezw_i u) := by rw [← an]; exact ⟨hu, rfl⟩
  refine ezw_istore_n rfl rfl ?_
  refine ezw_iload_n rfl rfl ?_
  refine ezw_if_ne rfl rfl hu (fun h => ?_) (fun h => ?_)
  · refine ezw_iload_n rfl rfl ?_
    exact ezw_ireturn rfl rfl ⟨hR, _, F1, A1, rfl, hS, hz, e3, e72, (fun _ => ⟨rfl, fun q hq => by
      have hq : 13 ≤ q ∧ q < 30 ∨ 30 ≤ q ∧ q < 47 ∨ 64 ≤ q := hq
      exact ⟨funext (fun j => nF q j (by omega)), nA q (by omega)⟩⟩), fun h0 => absurd h0 (by omega)⟩
  · obtain ⟨tr, nu, hB, hch, hlo⟩ := (fun z : ezt_TR 47 (ezj_Y c) F1 A1 ∧ ezt_NU 47 (ezj_Y c) A1 ∧ ezv_CH (ezj_L c) (ezj_Y c) (A1 62) (A1 63) ∧ ezv_LO (ezj_L c) ∧ ezp_B (ezj_Y c) => (⟨z.1, z.2.1, z.2.2.2.2, z.2.2.1, z.2.2.2.1⟩ : ezt_TR 47 (ezj_Y c) F1 A1 ∧ ezt_NU 47 (ezj_Y c) A1 ∧ ezp_B (ezj_Y c) ∧ ezv_CH (ezj_L c) (ezj_Y c) (A1 62) (A1 63) ∧ ezv_LO (ezj_L c))) (htr (by omega))
    refine ezw_aload_n rfl rfl ?_
    refine ezs_getp (p := 30) rfl rfl rfl rfl rfl ?_
    refine ezw_astore_n rfl rfl ?_
    refine ezw_aload_n rfl rfl ?_
    refine ezw_aload_n rfl rfl ?_
    refine ezs_getp (p := 47) rfl rfl rfl rfl rfl ?_
    refine ezw_putf_a rfl (ezu_at rfl) rfl rfl rfl ?_
    refine ezw_aload_n rfl rfl ?_
    refine ezw_aload_n rfl rfl ?_
    refine ezw_putf_a rfl (if_pos rfl) rfl rfl rfl ?_
    rw [ezu_swTff]
    refine ezw_aload_n rfl rfl ?_
    refine ezs_getp (p := 13) rfl rfl rfl rfl rfl ?_
    refine ezw_aload_n rfl rfl ?_
    refine ezs_getp (p := 47) rfl rfl rfl rfl rfl ?_
    refine ezw_call0_1 rfl (by omega) (ezu_at rfl) rfl rfl rfl rfl (ezt_m94_13_47n hS (by omega) tr nu hB) ?_
    rintro _ _ ⟨F2, rfl, hS, nF2, bg2, rfl⟩
    refine ezw_aload_n rfl rfl ?_
    refine ezs_getp (p := 16) rfl rfl rfl rfl rfl ?_
    refine ezw_call0_0 rfl (by omega) (ezu_at rfl) rfl rfl rfl rfl (ezt_m96_16n hS (by omega)) ?_
    rintro _ _ ⟨A3, rfl, hS, nA3, fl3, rfl⟩
    refine ezw_aload_n rfl rfl ?_
    refine ezs_getp (p := 18) rfl rfl rfl rfl rfl ?_
    refine ezw_call0_0 rfl (by omega) (ezu_at rfl) rfl rfl rfl rfl (ezt_m97_18n hS (by omega)) ?_
    rintro _ _ ⟨F4, rfl, hS, nF4, z44, z43, rfl⟩
    refine ezw_aload_n rfl rfl ?_
    refine ezs_getp (p := 64) rfl rfl rfl rfl rfl ?_
    refine ezw_call0_0 rfl (by omega) (ezu_at rfl) rfl rfl rfl rfl (ezt_m98_64n hS (by omega)) ?_
    rintro _ _ ⟨F5, rfl, hS, nF5, z53, rfl⟩
    refine ezw_iload_n rfl rfl ?_
    exact ezw_ireturn rfl rfl ⟨hR, _, F5, A3, rfl, hS, (by rw [nF5 1 2 (by decide), nF4 1 2 (by decide), nF2 1 2 (by decide)]; exact hz), (by rw [nA3 3 (by decide)]; exact e3), (fun q hq => ⟨funext (fun j => by rw [nF5 q j (by omega), nF4 q j (by omega), nF2 q j (by omega)]; exact congrFun (e72 q hq).1 j), by rw [nA3 q (by omega)]; exact (e72 q hq).2⟩), (fun h0 => absurd (show ezp_tree c = 0 by omega) h0), fun _ => ⟨rfl, ⟨ezt_TR_fr (q := 47) tr (by rw [nF5 47 15 (by decide), nF4 47 15 (by decide), nF2 47 15 (by decide)]) (by rw [nF5 47 16 (by decide), nF4 47 16 (by decide), nF2 47 16 (by decide)]) (by rw [nF5 47 17 (by decide), nF4 47 17 (by decide), nF2 47 17 (by decide)]) (by rw [nF5 55 1 (by decide), nF4 55 1 (by decide), nF2 55 1 (by decide)]) (fun k k0 k1 => nA3 (47 + k) (by omega)), ezt_NU_eq (q := 47) nu rfl (nA3 61 (by decide))⟩, hB, (by
      have h1 := nA3 62 (by decide)
      have h2 := nA3 63 (by decide)
      show ezv_CH _ _ (A3 62) (A3 63)
      rw [h1, h2]
      exact hch), hlo, ezn_C_f bg2 (fun k hk => by rw [nF5 13 k (fun z => absurd z.1 (by decide)), nF4 13 k (fun z => absurd z.1 (by decide))]), fl3, (by rw [nF5 18 3 (by decide)]; exact z43), (by rw [nF5 18 4 (by decide)]; exact z44), z53⟩⟩
theorem ezt_aftD_ff {F : Nat → Nat → Int} {A : Nat → Int → Int} (hS : ezs_T F A) (hd : 10 ≤ d) : ezw_C l ρ B xa Hb D cA 99 d [ezw_p 0] (ezu_g (false, false) F A) (ezt_Pz F A (fun v => ∃ u, some (ezw_i u) = v) (fun e' F' A' => e'.1 = false ∧ ∀ q, 13 ≤ q → q < 64 → F' q = F q ∧ A' q = A q)) := by
  refine ezw_Cmono (ezs_aft_ff (fz := ezj_fv) (F0 := F) (A0 := A) ⟨hS, fun _ _ => ⟨rfl, rfl⟩⟩ hd (fun q h0 h1 => ezj_fvD q (by omega) (by omega)) rfl) ?_
  rintro v g' ⟨⟨e', F', A', he, rfl, hI, hz⟩, u, hu, rfl⟩
  exact ⟨⟨u, rfl⟩, e', F', A', rfl, hI.1, hz, (hI.2 3 rfl).2, fun q hq => hI.2 q (ezj_fvT hq), he, fun q q0 q1 => hI.2 q (ezj_fvQ q0 q1)⟩
theorem ezt_treeD_ft {c : Int → Int} {n : Int} {F : Nat → Nat → Int} {A : Nat → Int → Int} (hS : ezs_T F A) (hd : 44 ≤ d) (hn : F 1 2 = n) (hc : c = ezp_ch (A 2) n) (tp : ezp_tp c n) (hw : ∀ j, 0 ≤ j → j < 48 → A 3 j = ezl_cw.getD j.toNat 0) : ezw_C l ρ B xa Hb D cA 22 d [ezw_p 0] (ezu_g (false, true) F A) (ezt_Pz F A (fun v => ezw_in (ezp_tree c) ∧ some (ezw_i (ezp_tree c)) = v) (ezj_X22 c (false, true) F A)) := by
  refine ezw_met (k := 2) rfl rfl ?_
  refine ezw_aload_n rfl rfl ?_
  refine ezs_getp (p := 4) rfl rfl rfl rfl rfl ?_
  refine ezw_aload_n rfl rfl ?_
  refine ezs_getp (p := 1) rfl rfl rfl rfl rfl ?_
  refine ezw_aload_n rfl rfl ?_
  refine ezs_getp (p := 47) rfl rfl rfl rfl rfl ?_
  refine ezw_call0_2 rfl (by omega) (ezu_at rfl) rfl rfl rfl rfl (ezt_m23_4_1_47 hS (by omega) hn hc tp hw) ?_
  rintro _ _ ⟨F1, A1, rfl, hS, nF, nA, u, hu, an, hz, htr, rfl⟩
  have e3 : A1 3 = A 3 := nA 3 (by decide)
  have e72 : ∀ q, 72 ≤ q → F1 q = F q ∧ A1 q = A q := fun q hq => ⟨funext (fun j => nF q j (by omega)), nA q (by omega)⟩
  have hR : ezw_in (ezp_tree c) ∧ some (ezw_i (ezp_tree c)) = some (ezw_i u) := by rw [← an]; exact ⟨hu, rfl⟩
  refine ezw_istore_n rfl rfl ?_
  refine ezw_iload_n rfl rfl ?_
  refine ezw_if_ne rfl rfl hu (fun h => ?_) (fun h => ?_)
  · refine ezw_iload_n rfl rfl ?_
    exact ezw_ireturn rfl rfl ⟨hR, _, F1, A1, rfl, hS, hz, e3, e72, (fun _ => ⟨rfl, fun q hq => by
      have hq : 13 ≤ q ∧ q < 30 ∨ 30 ≤ q ∧ q < 47 ∨ 64 ≤ q := hq
      exact ⟨funext (fun j => nF q j (by omega)), nA q (by omega)⟩⟩), fun h0 => absurd h0 (by omega)⟩
  · obtain ⟨tr, nu, hB, hch, hlo⟩ := (fun z : ezt_TR 47 (ezj_Y c) F1 A1 ∧ ezt_NU 47 (ezj_Y c) A1 ∧ ezv_CH (ezj_L c) (ezj_Y c) (A1 62) (A1 63) ∧ ezv_LO (ezj_L c) ∧ ezp_B (ezj_Y c) => (⟨z.1, z.2.1, z.2.2.2.2, z.2.2.1, z.2.2.2.1⟩ : ezt_TR 47 (ezj_Y c) F1 A1 ∧ ezt_NU 47 (ezj_Y c) A1 ∧ ezp_B (ezj_Y c) ∧ ezv_CH (ezj_L c) (ezj_Y c) (A1 62) (A1 63) ∧ ezv_LO (ezj_L c))) (htr (by omega))
    refine ezw_aload_n rfl rfl ?_
    refine ezs_getp (p := 30) rfl rfl rfl rfl rfl ?_
    refine ezw_astore_n rfl rfl ?_
    refine ezw_aload_n rfl rfl ?_
    refine ezw_aload_n rfl rfl ?_
    refine ezs_getp (p := 47) rfl rfl rfl rfl rfl ?_
    refine ezw_putf_a rfl (ezu_at rfl) rfl rfl rfl ?_
    refine ezw_aload_n rfl rfl ?_
    refine ezw_aload_n rfl rfl ?_
    refine ezw_putf_a rfl (if_pos rfl) rfl rfl rfl ?_
    rw [ezu_swTft]
    refine ezw_aload_n rfl rfl ?_
    refine ezs_getp (p := 13) rfl rfl rfl rfl rfl ?_
    refine ezw_aload_n rfl rfl ?_
    refine ezs_getp (p := 47) rfl rfl rfl rfl rfl ?_
    refine ezw_call0_1 rfl (by omega) (ezu_at rfl) rfl rfl rfl rfl (ezt_m94_13_47n hS (by omega) tr nu hB) ?_
    rintro _ _ ⟨F2, rfl, hS, nF2, bg2, rfl⟩
    refine ezw_aload_n rfl rfl ?_
    refine ezs_getp (p := 16) rfl rfl rfl rfl rfl ?_
    refine ezw_call0_0 rfl (by omega) (ezu_at rfl) rfl rfl rfl rfl (ezt_m96_16n hS (by omega)) ?_
    rintro _ _ ⟨A3, rfl, hS, nA3, fl3, rfl⟩
    refine ezw_aload_n rfl rfl ?_
    refine ezs_getp (p := 18) rfl rfl rfl rfl rfl ?_
    refine ezw_call0_0 rfl (by omega) (ezu_at rfl) rfl rfl rfl rfl (ezt_m97_18n hS (by omega)) ?_
    rintro _ _ ⟨F4, rfl, hS, nF4, z44, z43, rfl⟩
    refine ezw_aload_n rfl rfl ?_
    refine ezs_getp (p := 68) rfl rfl rfl rfl rfl ?_
    refine ezw_call0_0 rfl (by omega) (ezu_at rfl) rfl rfl rfl rfl (ezt_m98_68n hS (by omega)) ?_
    rintro _ _ ⟨F5, rfl, hS, nF5, z53, rfl⟩
    refine ezw_iload_n rfl rfl ?_
    exact ezw_ireturn rfl rfl ⟨hR, _, F5, A3, rfl, hS, (by rw [nF5 1 2 (by decide), nF4 1 2 (by decide), nF2 1 2 (by decide)]; exact hz), (by rw [nA3 3 (by decide)]; exact e3), (fun q hq => ⟨funext (fun j => by rw [nF5 q j (by omega), nF4 q j (by omega), nF2 q j (by omega)]; exact congrFun (e72 q hq).1 j), by rw [nA3 q (by omega)]; exact (e72 q hq).2⟩), (fun h0 => absurd (show ezp_tree c = 0 by omega) h0), fun _ => ⟨rfl, ⟨ezt_TR_fr (q := 47) tr (by rw [nF5 47 15 (by decide), nF4 47 15 (by decide), nF2 47 15 (by decide)]) (by rw [nF5 47 16 (by decide), nF4 47 16 (by decide), nF2 47 16 (by decide)]) (by rw [nF5 47 17 (by decide), nF4 47 17 (by decide), nF2 47 17 (by decide)]) (by rw [nF5 55 1 (by decide), nF4 55 1 (by decide), nF2 55 1 (by decide)]) (fun k k0 k1 => nA3 (47 + k) (by omega)), ezt_NU_eq (q := 47) nu rfl (nA3 61 (by decide))⟩, hB, (by
      have h1 := nA3 62 (by decide)
      have h2 := nA3 63 (by decide)
      show ezv_CH _ _ (A3 62) (A3 63)
      rw [h1, h2]
      exact hch), hlo, ezn_C_f bg2 (fun k hk => by rw [nF5 13 k (fun z => absurd z.1 (by decide)), nF4 13 k (fun z => absurd z.1 (by decide))]), fl3, (by rw [nF5 18 3 (by decide)]; exact z43), (by rw [nF5 18 4 (by decide)]; exact z44), z53⟩⟩
theorem ezt_aftD_ft {F : Nat → Nat → Int} {A : Nat → Int → Int} (hS : ezs_T F A) (hd : 10 ≤ d) : ezw_C l ρ B xa Hb D cA 99 d [ezw_p 0] (ezu_g (false, true) F A) (ezt_Pz F A (fun v => ∃ u, some (ezw_i u) = v) (fun e' F' A' => e'.1 = false ∧ ∀ q, 13 ≤ q → q < 64 → F' q = F q ∧ A' q = A q)) := by
  refine ezw_Cmono (ezs_aft_ft (fz := ezj_fv) (F0 := F) (A0 := A) ⟨hS, fun _ _ => ⟨rfl, rfl⟩⟩ hd (fun q h0 h1 => ezj_fvD q (by omega) (by omega)) rfl) ?_
  rintro v g' ⟨⟨e', F', A', he, rfl, hI, hz⟩, u, hu, rfl⟩
  exact ⟨⟨u, rfl⟩, e', F', A', rfl, hI.1, hz, (hI.2 3 rfl).2, fun q hq => hI.2 q (ezj_fvT hq), he, fun q q0 q1 => hI.2 q (ezj_fvQ q0 q1)⟩
theorem ezt_treeD_tf {c : Int → Int} {n : Int} {F : Nat → Nat → Int} {A : Nat → Int → Int} (hS : ezs_T F A) (hd : 44 ≤ d) (hn : F 1 2 = n) (hc : c = ezp_ch (A 2) n) (tp : ezp_tp c n) (hw : ∀ j, 0 ≤ j → j < 48 → A 3 j = ezl_cw.getD j.toNat 0) : ezw_C l ρ B xa Hb D cA 22 d [ezw_p 0] (ezu_g (true, false) F A) (ezt_Pz F A (fun v => ezw_in (ezp_tree c) ∧ some (ezw_i (ezp_tree c)) = v) (ezj_X22 c (true, false) F A)) := by
  refine ezw_met (k := 2) rfl rfl ?_
  refine ezw_aload_n rfl rfl ?_
  refine ezs_getp (p := 4) rfl rfl rfl rfl rfl ?_
  refine ezw_aload_n rfl rfl ?_
  refine ezs_getp (p := 1) rfl rfl rfl rfl rfl ?_
  refine ezw_aload_n rfl rfl ?_
  refine ezs_getp (p := 30) rfl rfl rfl rfl rfl ?_
  refine ezw_call0_2 rfl (by omega) (ezu_at rfl) rfl rfl rfl rfl (ezt_m23_4_1_30 hS (by omega) hn hc tp hw) ?_
  rintro _ _ ⟨F1, A1, rfl, hS, nF, nA, u, hu, an, hz, htr, rfl⟩
  have e3 : A1 3 = A 3 := nA 3 (by decide)
  have e72 : ∀ q, 72 ≤ q → F1 q = F q ∧ A1 q = A q := fun q hq => ⟨funext (fun j => nF q j (by omega)), nA q (by omega)⟩
  have hR : ezw_in (ezp_tree c) ∧ some (ezw_i (ezp_tree c)) = some (ezw_i u) := by rw [← an]; exact ⟨hu, rfl⟩
  refine ezw_istore_n rfl rfl ?_
  refine ezw_iload_n rfl rfl ?_
  refine ezw_if_ne rfl rfl hu (fun h => ?_) (fun h => ?_)
  · refine ezw_iload_n rfl rfl ?_
    exact ezw_ireturn rfl rfl ⟨hR, _, F1, A1, rfl, hS, hz, e3, e72, (fun _ => ⟨rfl, fun q hq => by
      have hq : 13 ≤ q ∧ q < 30 ∨ 47 ≤ q ∧ q < 64 ∨ 64 ≤ q := hq
      exact ⟨funext (fun j => nF q j (by omega)), nA q (by omega)⟩⟩), fun h0 => absurd h0 (by omega)⟩
  · obtain ⟨tr, nu, hB, hch, hlo⟩ := (fun z : ezt_TR 30 (ezj_Y c) F1 A1 ∧ ezt_NU 30 (ezj_Y c) A1 ∧ ezv_CH (ezj_L c) (ezj_Y c) (A1 45) (A1 46) ∧ ezv_LO (ezj_L c) ∧ ezp_B (ezj_Y c) => (⟨z.1, z.2.1, z.2.2.2.2, z.2.2.1, z.2.2.2.1⟩ : ezt_TR 30 (ezj_Y c) F1 A1 ∧ ezt_NU 30 (ezj_Y c) A1 ∧ ezp_B (ezj_Y c) ∧ ezv_CH (ezj_L c) (ezj_Y c) (A1 45) (A1 46) ∧ ezv_LO (ezj_L c))) (htr (by omega))
    refine ezw_aload_n rfl rfl ?_
    refine ezs_getp (p := 47) rfl rfl rfl rfl rfl ?_
    refine ezw_astore_n rfl rfl ?_
    refine ezw_aload_n rfl rfl ?_
    refine ezw_aload_n rfl rfl ?_
    refine ezs_getp (p := 30) rfl rfl rfl rfl rfl ?_
    refine ezw_putf_a rfl (ezu_at rfl) rfl rfl rfl ?_
    refine ezw_aload_n rfl rfl ?_
    refine ezw_aload_n rfl rfl ?_
    refine ezw_putf_a rfl (if_pos rfl) rfl rfl rfl ?_
    rw [ezu_swTtf]
    refine ezw_aload_n rfl rfl ?_
    refine ezs_getp (p := 13) rfl rfl rfl rfl rfl ?_
    refine ezw_aload_n rfl rfl ?_
    refine ezs_getp (p := 30) rfl rfl rfl rfl rfl ?_
    refine ezw_call0_1 rfl (by omega) (ezu_at rfl) rfl rfl rfl rfl (ezt_m94_13_30n hS (by omega) tr nu hB) ?_
    rintro _ _ ⟨F2, rfl, hS, nF2, bg2, rfl⟩
    refine ezw_aload_n rfl rfl ?_
    refine ezs_getp (p := 16) rfl rfl rfl rfl rfl ?_
    refine ezw_call0_0 rfl (by omega) (ezu_at rfl) rfl rfl rfl rfl (ezt_m96_16n hS (by omega)) ?_
    rintro _ _ ⟨A3, rfl, hS, nA3, fl3, rfl⟩
    refine ezw_aload_n rfl rfl ?_
    refine ezs_getp (p := 18) rfl rfl rfl rfl rfl ?_
    refine ezw_call0_0 rfl (by omega) (ezu_at rfl) rfl rfl rfl rfl (ezt_m97_18n hS (by omega)) ?_
    rintro _ _ ⟨F4, rfl, hS, nF4, z44, z43, rfl⟩
    refine ezw_aload_n rfl rfl ?_
    refine ezs_getp (p := 64) rfl rfl rfl rfl rfl ?_
    refine ezw_call0_0 rfl (by omega) (ezu_at rfl) rfl rfl rfl rfl (ezt_m98_64n hS (by omega)) ?_
    rintro _ _ ⟨F5, rfl, hS, nF5, z53, rfl⟩
    refine ezw_iload_n rfl rfl ?_
    exact ezw_ireturn rfl rfl ⟨hR, _, F5, A3, rfl, hS, (by rw [nF5 1 2 (by decide), nF4 1 2 (by decide), nF2 1 2 (by decide)]; exact hz), (by rw [nA3 3 (by decide)]; exact e3), (fun q hq => ⟨funext (fun j => by rw [nF5 q j (by omega), nF4 q j (by omega), nF2 q j (by omega)]; exact congrFun (e72 q hq).1 j), by rw [nA3 q (by omega)]; exact (e72 q hq).2⟩), (fun h0 => absurd (show ezp_tree c = 0 by omega) h0), fun _ => ⟨rfl, ⟨ezt_TR_fr (q := 30) tr (by rw [nF5 30 15 (by decide), nF4 30 15 (by decide), nF2 30 15 (by decide)]) (by rw [nF5 30 16 (by decide), nF4 30 16 (by decide), nF2 30 16 (by decide)]) (by rw [nF5 30 17 (by decide), nF4 30 17 (by decide), nF2 30 17 (by decide)]) (by rw [nF5 38 1 (by decide), nF4 38 1 (by decide), nF2 38 1 (by decide)]) (fun k k0 k1 => nA3 (30 + k) (by omega)), ezt_NU_eq (q := 30) nu rfl (nA3 44 (by decide))⟩, hB, (by
      have h1 := nA3 45 (by decide)
      have h2 := nA3 46 (by decide)
      show ezv_CH _ _ (A3 45) (A3 46)
      rw [h1, h2]
      exact hch), hlo, ezn_C_f bg2 (fun k hk => by rw [nF5 13 k (fun z => absurd z.1 (by decide)), nF4 13 k (fun z => absurd z.1 (by decide))]), fl3, (by rw [nF5 18 3 (by decide)]; exact z43), (by rw [nF5 18 4 (by decide)]; exact z44), z53⟩⟩
theorem ezt_aftD_tf {F : Nat → Nat → Int} {A : Nat → Int → Int} (hS : ezs_T F A) (hd : 10 ≤ d) : ezw_C l ρ B xa Hb D cA 99 d [ezw_p 0] (ezu_g (true, false) F A) (ezt_Pz F A (fun v => ∃ u, some (ezw_i u) = v) (fun e' F' A' => e'.1 = true ∧ ∀ q, 13 ≤ q → q < 64 → F' q = F q ∧ A' q = A q)) := by
  refine ezw_Cmono (ezs_aft_tf (fz := ezj_fv) (F0 := F) (A0 := A) ⟨hS, fun _ _ => ⟨rfl, rfl⟩⟩ hd (fun q h0 h1 => ezj_fvD q (by omega) (by omega)) rfl) ?_
  rintro v g' ⟨⟨e', F', A', he, rfl, hI, hz⟩, u, hu, rfl⟩
  exact ⟨⟨u, rfl⟩, e', F', A', rfl, hI.1, hz, (hI.2 3 rfl).2, fun q hq => hI.2 q (ezj_fvT hq), he, fun q q0 q1 => hI.2 q (ezj_fvQ q0 q1)⟩
theorem ezt_treeD_tt {c : Int → Int} {n : Int} {F : Nat → Nat → Int} {A : Nat → Int → Int} (hS : ezs_T F A) (hd : 44 ≤ d) (hn : F 1 2 = n) (hc : c = ezp_ch (A 2) n) (tp : ezp_tp c n) (hw : ∀ j, 0 ≤ j → j < 48 → A 3 j = ezl_cw.getD j.toNat 0) : ezw_C l ρ B xa Hb D cA 22 d [ezw_p 0] (ezu_g (true, true) F A) (ezt_Pz F A (fun v => ezw_in (ezp_tree c) ∧ some (ezw_i (ezp_tree c)) = v) (ezj_X22 c (true, true) F A)) := by
  refine ezw_met (k := 2) rfl rfl ?_
  refine ezw_aload_n rfl rfl ?_
  refine ezs_getp (p := 4) rfl rfl rfl rfl rfl ?_
  refine ezw_aload_n rfl rfl ?_
  refine ezs_getp (p := 1) rfl rfl rfl rfl rfl ?_
  refine ezw_aload_n rfl rfl ?_
  refine ezs_getp (p := 30) rfl rfl rfl rfl rfl ?_
  refine ezw_call0_2 rfl (by omega) (ezu_at rfl) rfl rfl rfl rfl (ezt_m23_4_1_30 hS (by omega) hn hc tp hw) ?_
  rintro _ _ ⟨F1, A1, rfl, hS, nF, nA, u, hu, an, hz, htr, rfl⟩
  have e3 : A1 3 = A 3 := nA 3 (by decide)
  have e72 : ∀ q, 72 ≤ q → F1 q = F q ∧ A1 q = A q := fun q hq => ⟨funext (fun j => nF q j (by omega)), nA q (by omega)⟩
  have hR : ezw_in (ezp_tree c) ∧ some (ezw_i (ezp_tree c)) = some (ezw_i u) := by rw [← an]; exact ⟨hu, rfl⟩
  refine ezw_istore_n rfl rfl ?_
  refine ezw_iload_n rfl rfl ?_
  refine ezw_if_ne rfl rfl hu (fun h => ?_) (fun h => ?_)
  · refine ezw_iload_n rfl rfl ?_
    exact ezw_ireturn rfl rfl ⟨hR, _, F1, A1, rfl, hS, hz, e3, e72, (fun _ => ⟨rfl, fun q hq => by
      have hq : 13 ≤ q ∧ q < 30 ∨ 47 ≤ q ∧ q < 64 ∨ 64 ≤ q := hq
      exact ⟨funext (fun j => nF q j (by omega)), nA q (by omega)⟩⟩), fun h0 => absurd h0 (by omega)⟩
  · obtain ⟨tr, nu, hB, hch, hlo⟩ := (fun z : ezt_TR 30 (ezj_Y c) F1 A1 ∧ ezt_NU 30 (ezj_Y c) A1 ∧ ezv_CH (ezj_L c) (ezj_Y c) (A1 45) (A1 46) ∧ ezv_LO (ezj_L c) ∧ ezp_B (ezj_Y c) => (⟨z.1, z.2.1, z.2.2.2.2, z.2.2.1, z.2.2.2.1⟩ : ezt_TR 30 (ezj_Y c) F1 A1 ∧ ezt_NU 30 (ezj_Y c) A1 ∧ ezp_B (ezj_Y c) ∧ ezv_CH (ezj_L c) (ezj_Y c) (A1 45) (A1 46) ∧ ezv_LO (ezj_L c))) (htr (by omega))
    refine ezw_aload_n rfl rfl ?_
    refine ezs_getp (p := 47) rfl rfl rfl rfl rfl ?_
    refine ezw_astore_n rfl rfl ?_
    refine ezw_aload_n rfl rfl ?_
    refine ezw_aload_n rfl rfl ?_
    refine ezs_getp (p := 30) rfl rfl rfl rfl rfl ?_
    refine ezw_putf_a rfl (ezu_at rfl) rfl rfl rfl ?_
    refine ezw_aload_n rfl rfl ?_
    refine ezw_aload_n rfl rfl ?_
    refine ezw_putf_a rfl (if_pos rfl) rfl rfl rfl ?_
    rw [ezu_swTtt]
    refine ezw_aload_n rfl rfl ?_
    refine ezs_getp (p := 13) rfl rfl rfl rfl rfl ?_
    refine ezw_aload_n rfl rfl ?_
    refine ezs_getp (p := 30) rfl rfl rfl rfl rfl ?_
    refine ezw_call0_1 rfl (by omega) (ezu_at rfl) rfl rfl rfl rfl (ezt_m94_13_30n hS (by omega) tr nu hB) ?_
    rintro _ _ ⟨F2, rfl, hS, nF2, bg2, rfl⟩
    refine ezw_aload_n rfl rfl ?_
    refine ezs_getp (p := 16) rfl rfl rfl rfl rfl ?_
    refine ezw_call0_0 rfl (by omega) (ezu_at rfl) rfl rfl rfl rfl (ezt_m96_16n hS (by omega)) ?_
    rintro _ _ ⟨A3, rfl, hS, nA3, fl3, rfl⟩
    refine ezw_aload_n rfl rfl ?_
    refine ezs_getp (p := 18) rfl rfl rfl rfl rfl ?_
    refine ezw_call0_0 rfl (by omega) (ezu_at rfl) rfl rfl rfl rfl (ezt_m97_18n hS (by omega)) ?_
    rintro _ _ ⟨F4, rfl, hS, nF4, z44, z43, rfl⟩
    refine ezw_aload_n rfl rfl ?_
    refine ezs_getp (p := 68) rfl rfl rfl rfl rfl ?_
    refine ezw_call0_0 rfl (by omega) (ezu_at rfl) rfl rfl rfl rfl (ezt_m98_68n hS (by omega)) ?_
    rintro _ _ ⟨F5, rfl, hS, nF5, z53, rfl⟩
    refine ezw_iload_n rfl rfl ?_
    exact ezw_ireturn rfl rfl ⟨hR, _, F5, A3, rfl, hS, (by rw [nF5 1 2 (by decide), nF4 1 2 (by decide), nF2 1 2 (by decide)]; exact hz), (by rw [nA3 3 (by decide)]; exact e3), (fun q hq => ⟨funext (fun j => by rw [nF5 q j (by omega), nF4 q j (by omega), nF2 q j (by omega)]; exact congrFun (e72 q hq).1 j), by rw [nA3 q (by omega)]; exact (e72 q hq).2⟩), (fun h0 => absurd (show ezp_tree c = 0 by omega) h0), fun _ => ⟨rfl, ⟨ezt_TR_fr (q := 30) tr (by rw [nF5 30 15 (by decide), nF4 30 15 (by decide), nF2 30 15 (by decide)]) (by rw [nF5 30 16 (by decide), nF4 30 16 (by decide), nF2 30 16 (by decide)]) (by rw [nF5 30 17 (by decide), nF4 30 17 (by decide), nF2 30 17 (by decide)]) (by rw [nF5 38 1 (by decide), nF4 38 1 (by decide), nF2 38 1 (by decide)]) (fun k k0 k1 => nA3 (30 + k) (by omega)), ezt_NU_eq (q := 30) nu rfl (nA3 44 (by decide))⟩, hB, (by
      have h1 := nA3 45 (by decide)
      have h2 := nA3 46 (by decide)
      show ezv_CH _ _ (A3 45) (A3 46)
      rw [h1, h2]
      exact hch), hlo, ezn_C_f bg2 (fun k hk => by rw [nF5 13 k (fun z => absurd z.1 (by decide)), nF4 13 k (fun z => absurd z.1 (by decide))]), fl3, (by rw [nF5 18 3 (by decide)]; exact z43), (by rw [nF5 18 4 (by decide)]; exact z44), z53⟩⟩
theorem ezt_aftD_tt {F : Nat → Nat → Int} {A : Nat → Int → Int} (hS : ezs_T F A) (hd : 10 ≤ d) : ezw_C l ρ B xa Hb D cA 99 d [ezw_p 0] (ezu_g (true, true) F A) (ezt_Pz F A (fun v => ∃ u, some (ezw_i u) = v) (fun e' F' A' => e'.1 = true ∧ ∀ q, 13 ≤ q → q < 64 → F' q = F q ∧ A' q = A q)) := by
  refine ezw_Cmono (ezs_aft_tt (fz := ezj_fv) (F0 := F) (A0 := A) ⟨hS, fun _ _ => ⟨rfl, rfl⟩⟩ hd (fun q h0 h1 => ezj_fvD q (by omega) (by omega)) rfl) ?_
  rintro v g' ⟨⟨e', F', A', he, rfl, hI, hz⟩, u, hu, rfl⟩
  exact ⟨⟨u, rfl⟩, e', F', A', rfl, hI.1, hz, (hI.2 3 rfl).2, fun q hq => hI.2 q (ezj_fvT hq), he, fun q q0 q1 => hI.2 q (ezj_fvQ q0 q1)⟩
theorem ezt_feed {x y z : Int} {F : Nat → Nat → Int} {A : Nat → Int → Int} (hx : ezw_il x) (hy : ezw_il y) (hz : ezw_il z) (hI : ezs_T F A) (hd : 2 ≤ d) : ezw_C l ρ B xa Hb D cA 19 d [ezw_p 0, ezw_l x, ezw_l y, ezw_l z] (ezu_g e F A) (fun v g' => some (ezw_i (ezf3 x y z (F 1 2) (A 2)).1) = v ∧ ∃ F' A', g' = ezu_g e F' A' ∧ ezs_T F' A' ∧ F' 1 2 = (ezf3 x y z (F 1 2) (A 2)).1 ∧ A' 2 = (ezf3 x y z (F 1 2) (A 2)).2 ∧ A' 3 = A 3 ∧ (∀ q, 72 ≤ q → F' q = F q ∧ A' q = A q) ∧ ∀ q, 4 ≤ q → F' q = F q ∧ A' q = A q) := by
  have h0 : 0 ≤ F 1 2 ∧ F 1 2 ≤ 1000 := (hI 1 (by decide)).1 2
  refine ezw_Cmono (ezc_feed hx hy hz (e := e) (fX := F 0) (f := F 1) (a := A 2) rfl rfl rfl h0.1 h0.2 hd) ?_
  rintro v g' ⟨h1, f', h2, h3, h4, h5, h6⟩
  have hle := ezf3_le x y z (F 1 2) (A 2) h0.1 h0.2
  refine ⟨h1, ezu_U F 1 f', ezu_U A 2 (ezf3 x y z (F 1 2) (A 2)).2, ?_, ?_, ?_, ?_, ezu_Un _ _ (by decide), fun q hq => ⟨ezu_Un _ _ (by omega), ezu_Un _ _ (by omega)⟩, ?_⟩
  · funext q
    by_cases q1 : q = 1
    · subst q1
      rw [h2]
      show _ = ezu_cell (ezu_kd 1) (ezu_rf e 1) (ezu_U F 1 f' 1) _
      rw [ezu_Uq]
      rfl
    · by_cases q2 : q = 2
      · subst q2
        rw [h5]
        show _ = ezu_cell (ezu_kd 2) (ezu_rf e 2) _ (ezu_U A 2 _ 2)
        rw [ezu_Uq]
        rfl
      · rw [h6 q q1 q2]
        unfold ezu_g
        rw [ezu_Un _ _ q1, ezu_Un _ _ q2]
  · intro q hq
    refine ⟨fun k => ?_, fun j => ?_⟩
    · by_cases q1 : q = 1
      · subst q1
        rw [ezu_Uq]
        by_cases k2 : k = 2
        · subst k2
          rw [h4]
          exact hle
        · rw [h3 k k2]
          exact (hI 1 hq).1 k
      · rw [ezu_Un _ _ q1]
        exact (hI q hq).1 k
    · by_cases q2 : q = 2
      · subst q2
        rw [ezu_Uq]
        exact ezf3_in x y z _ _ (fun j => ezs_ak_in rfl ((hI 2 (by decide)).2 j)) j
      · rw [ezu_Un _ _ q2]
        exact (hI q hq).2 j
  · rw [ezu_Uq]
    exact h4
  · exact ezu_Uq _ _ _
  · intro q hq
    exact ⟨ezu_Un _ _ (by omega), ezu_Un _ _ (by omega)⟩
end KM
/-! ===== the two tapes ===== -/
def ezf_ok (x : Int) : Prop := x = 10 ∨ 32 ≤ x ∧ x ≤ 126
/-- both tapes hold the same -/
def ezf_eq (s : Int) (a b : Int → Int) : Prop := ∀ j, 0 ≤ j → j < s → a j = b j ∧ ezf_ok (b j)
theorem ezf_eqs (v : Int) (n : Nat) : ∀ (s : Int) (a b : Int → Int), 0 ≤ s → ezf_eq s a b → (ezf v n s a).1 = (ezf v n s b).1 ∧ 0 ≤ (ezf v n s b).1 ∧ ezf_eq (ezf v n s b).1 (ezf v n s a).2 (ezf v n s b).2 := by
  induction n with
  | zero => intro s a b h0 h; exact ⟨rfl, h0, h⟩
  | succ n ih =>
    intro s a b h0 h
    by_cases hc : (ezf_b v n = 10 ∨ 32 ≤ ezf_b v n ∧ ezf_b v n ≤ 126) ∧ s < 1000
    · rw [ezf_t hc, ezf_t hc]
      refine ih (s + 1) _ _ (by omega) (fun j j0 j1 => ?_)
      unfold ezw_au
      by_cases hj : j = s
      · rw [if_pos hj, if_pos hj]
        exact ⟨rfl, hc.1⟩
      · rw [if_neg hj, if_neg hj]
        exact h j j0 (by omega)
    · rw [ezf_f hc, ezf_f hc]
      exact ih s a b h0 h
theorem ezf3_eqs (x y z : Int) {s : Int} {a b : Int → Int} (h0 : 0 ≤ s) (h : ezf_eq s a b) : (ezf3 x y z s a).1 = (ezf3 x y z s b).1 ∧ ezf_eq (ezf3 x y z s b).1 (ezf3 x y z s a).2 (ezf3 x y z s b).2 := by
  obtain ⟨e1, g1, h1⟩ := ezf_eqs x 8 s a b h0 h
  obtain ⟨e2, g2, h2⟩ := ezf_eqs y 8 _ _ _ g1 h1
  obtain ⟨e3, g3, h3⟩ := ezf_eqs z 8 _ _ _ g2 h2
  unfold ezf3
  rw [e1, e2]
  exact ⟨e3, h3⟩
theorem ezf_ch {s : Int} {a b : Int → Int} (h : ezf_eq s a b) : ezp_ch a s = ezp_ch b s := by
  funext p
  unfold ezp_ch
  by_cases hp : 0 ≤ p ∧ p < s
  · rw [if_pos hp, if_pos hp]
    exact (h p hp.1 hp.2).1
  · rw [if_neg hp, if_neg hp]
theorem ezf_tp {s : Int} {a b : Int → Int} (h : ezf_eq s a b) (h0 : 0 ≤ s) (h1 : s ≤ 1000) : ezp_tp (ezp_ch b s) s := by
  refine ⟨h0, h1, fun j hj => if_neg (by omega), fun j j0 j1 => ?_⟩
  unfold ezp_ch
  rw [if_pos ⟨j0, j1⟩]
  exact (h j j0 j1).2
