/-! ===== the program: a line, the other tree ===== -/
section KT
variable {l : Launch} {ρ : ezq_E} {B : Nat} {xa : Nat → Option Nat} {Hb : Heap} {D : va_G} {cA : Nat → ClassId} {d : Nat} {e : Bool × Bool}
def ezt_m47_4_1_47wfQ (e : Bool × Bool) (F : Nat → Nat → Int) (A : Nat → Int → Int) (c : Int → Int) (n : Int) (s : Int × Int) (t : ezp_D) (L : ezv_LL) : Option ezq_V → (Nat → ezq_C) → Prop := fun v g' => ∃ (F' : Nat → Nat → Int) (A' : Nat → Int → Int), ezu_g e F' A' = g' ∧ ezs_T F' A' ∧ (∀ p j, ¬ (p = 1 ∧ (j = 3 ∨ j = 4 ∨ j = 5 ∨ j = 6 ∨ j = 7 ∨ j = 8 ∨ j = 9) ∨ p = 4 ∧ (j = 2) ∨ p = 5 ∧ (j = 3 ∨ j = 4) ∨ p = 9 ∧ (j = 3 ∨ j = 4) ∨ p = 47 ∧ (j = 15 ∨ j = 16 ∨ j = 17) ∨ p = 55 ∧ (j = 1)) → F' p j = F p j) ∧ (∀ p, ¬ (p = 6 ∨ p = 10 ∨ p = 48 ∨ p = 49 ∨ p = 50 ∨ p = 51 ∨ p = 52 ∨ p = 53 ∨ p = 54 ∨ p = 56 ∨ p = 57 ∨ p = 58 ∨ p = 59 ∨ p = 60 ∨ p = 61) → A' p = A p) ∧ (ezt_ST c n ((ezp_lne c t s).1) F') ∧ (ezt_TR 47 ((ezp_lne c t s).2) F' A') ∧ ((ezp_lne c t s).1.1 = 0 → ezt_NU 47 (ezp_lne c t s).2 A') ∧ ((ezp_lne c t s).1.1 = 0 → ezt_DI (ezp_lne c t s).2 F') ∧ (ezt_LA (ezp_lnl c t s L) F' A') ∧ none = v
theorem ezt_m47_4_1_47wf {c : Int → Int} {n : Int} {s : Int × Int} {t : ezp_D} {L : ezv_LL} {F : Nat → Nat → Int} {A : Nat → Int → Int} (hS : ezs_T F A) (hd : 2 ≤ d) (hn : F 1 2 = n) (hc : c = ezp_ch (A 2) n) (tp : ezp_tp c n) (hw : ∀ j, 0 ≤ j → j < 48 → A 3 j = ezl_cw.getD j.toNat 0) (st : ezt_ST c n s F) (tr : ezt_TR 47 t F A) (nu : s.1 = 0 → ezt_NU 47 t A) (di : ezt_DI t F) (la : ezt_LA L F A) (z0 : s.1 = 0) (hcz0 : (ezp_cf c t s).1 ≠ 0) : ezw_C l ρ B xa Hb D cA 47 d [ezw_p 4, ezw_p 1, ezw_p 47] (ezu_g e F A) (ezt_m47_4_1_47wfQ e F A c n s t L) := by
  refine ezw_met (k := 1) rfl rfl ?_
  have hn0 := tp.1
  have hn1 := tp.2.1
  obtain ⟨sf, sk, sc, sb, sb2⟩ := id st
  have hP := ezp_Pr tp s.2
  have c3i : s.1 = 0 → F 1 3 = ezp_K c s.2 := fun z => (sc z).2.2.1
  have c8i : s.1 = 0 → F 1 8 = ezp_P c s.2 := fun z => (sc z).1
  have c4i : s.1 = 0 → ezp_K c s.2 = 101 → F 1 4 = ezp_V c s.2 := fun z => (sc z).2.2.2.1
  have c7i : s.1 = 0 → ezp_K c s.2 = 100 → F 1 7 = ezp_v 32 (ezp_W c s.2) ∧ F 1 5 = ezp_ix (ezp_W c s.2) - 44 := fun z => (sc z).2.2.2.2
  have k3 := c3i z0
  replace nu := nu z0
  clear c3i c8i c4i c7i sc
  refine ezw_aload_n rfl rfl ?_
  refine ezy_get_i hS rfl rfl rfl rfl rfl rfl (fun u1 hu1 ku1 eu1 => ?_)
  replace eu1 := eu1.symm
  subst eu1
  refine ezw_istore_n rfl rfl ?_
  refine ezw_aload_n rfl rfl ?_
  refine ezw_aload_n rfl rfl ?_
  refine ezw_aload_n rfl rfl ?_
  refine ezw_iload_n rfl rfl ?_
  refine ezw_call0_3 rfl (by omega) (ezu_at rfl) rfl rfl rfl rfl (ezt_m48_4_1_47 hS (by omega) hu1 hn hc tp st tr di z0 k3) ?_
  rintro _ _ ⟨F2, rfl, hS, nF2, st_2, rfl⟩
  refine ezw_aload_n rfl rfl ?_
  refine ezw_call0_0 rfl (by omega) (ezu_at rfl) rfl rfl rfl rfl (ezt_m45_1 hS (by omega)) ?_
  rintro _ _ ⟨rfl, u4, hu4, p3_0, p3_1, rfl⟩
  have h6 := st_2.1
  refine ezw_if_ne rfl rfl ⟨by omega, by omega⟩ (fun h16_4 => absurd h16_4 (by omega)) (fun h16_4 => ?_)
  exact ezw_return rfl rfl ⟨F2, A, rfl, hS, (fun p j h => by rw [nF2 p j (fun z => h (Or.inl ⟨z.1, (Or.inr (Or.inr (Or.inr (Or.inl z.2))))⟩))]), (fun _ _ => rfl), (by
        rw [ezp_lne_0 (fun h9 => p3_1 (by omega) (st_2.1.trans h9))]
        exact st_2), (by
        rw [ezp_lne_0 (fun h9 => p3_1 (by omega) (st_2.1.trans h9))]
        exact (ezt_TR_fr tr (by rw [nF2 47 15 (by decide)]) (by rw [nF2 47 16 (by decide)]) (by rw [nF2 47 17 (by decide)]) (by rw [nF2 55 1 (by decide)]) (fun _ _ _ => rfl))), (fun z => absurd z (by rw [ezp_lne_0 (fun h9 => p3_1 (by omega) (st_2.1.trans h9))]; exact (fun h9 => p3_1 (by omega) (st_2.1.trans h9)))), (fun z => absurd z (by rw [ezp_lne_0 (fun h9 => p3_1 (by omega) (st_2.1.trans h9))]; exact (fun h9 => p3_1 (by omega) (st_2.1.trans h9)))), (by
        rw [ezp_lnl_0 (fun h9 => p3_1 (by omega) (st_2.1.trans h9))]
        exact (ezt_LA_fr la (by rw [nF2 5 3 (by decide)]) (by rw [nF2 5 4 (by decide)]) rfl (by rw [nF2 9 3 (by decide)]) (by rw [nF2 9 4 (by decide)]) rfl)), rfl⟩
def ezt_m47_4_1_47w0Q (e : Bool × Bool) (F : Nat → Nat → Int) (A : Nat → Int → Int) (c : Int → Int) (n : Int) (s : Int × Int) (t : ezp_D) (L : ezv_LL) : Option ezq_V → (Nat → ezq_C) → Prop := fun v g' => ∃ (F' : Nat → Nat → Int) (A' : Nat → Int → Int), ezu_g e F' A' = g' ∧ ezs_T F' A' ∧ (∀ p j, ¬ (p = 1 ∧ (j = 3 ∨ j = 4 ∨ j = 5 ∨ j = 6 ∨ j = 7 ∨ j = 8 ∨ j = 9) ∨ p = 4 ∧ (j = 2) ∨ p = 5 ∧ (j = 3 ∨ j = 4) ∨ p = 9 ∧ (j = 3 ∨ j = 4) ∨ p = 47 ∧ (j = 15 ∨ j = 16 ∨ j = 17) ∨ p = 55 ∧ (j = 1)) → F' p j = F p j) ∧ (∀ p, ¬ (p = 6 ∨ p = 10 ∨ p = 48 ∨ p = 49 ∨ p = 50 ∨ p = 51 ∨ p = 52 ∨ p = 53 ∨ p = 54 ∨ p = 56 ∨ p = 57 ∨ p = 58 ∨ p = 59 ∨ p = 60 ∨ p = 61) → A' p = A p) ∧ (ezt_ST c n ((ezp_lne c t s).1) F') ∧ (ezt_TR 47 ((ezp_lne c t s).2) F' A') ∧ ((ezp_lne c t s).1.1 = 0 → ezt_NU 47 (ezp_lne c t s).2 A') ∧ ((ezp_lne c t s).1.1 = 0 → ezt_DI (ezp_lne c t s).2 F') ∧ (ezt_LA (ezp_lnl c t s L) F' A') ∧ none = v
theorem ezt_m47_4_1_47w0 {c : Int → Int} {n : Int} {s : Int × Int} {t : ezp_D} {L : ezv_LL} {F : Nat → Nat → Int} {A : Nat → Int → Int} (hS : ezs_T F A) (hd : 9 ≤ d) (hn : F 1 2 = n) (hc : c = ezp_ch (A 2) n) (tp : ezp_tp c n) (hw : ∀ j, 0 ≤ j → j < 48 → A 3 j = ezl_cw.getD j.toNat 0) (st : ezt_ST c n s F) (tr : ezt_TR 47 t F A) (nu : s.1 = 0 → ezt_NU 47 t A) (di : ezt_DI t F) (la : ezt_LA L F A) (z0 : s.1 = 0) (hcz0 : (ezp_cf c t s).1 = 0) (kw : ezp_K c s.2 = 0) : ezw_C l ρ B xa Hb D cA 47 d [ezw_p 4, ezw_p 1, ezw_p 47] (ezu_g e F A) (ezt_m47_4_1_47w0Q e F A c n s t L) := by
  refine ezw_met (k := 1) rfl rfl ?_
  have hn0 := tp.1
  have hn1 := tp.2.1
  obtain ⟨sf, sk, sc, sb, sb2⟩ := id st
  have hP := ezp_Pr tp s.2
  have c3i : s.1 = 0 → F 1 3 = ezp_K c s.2 := fun z => (sc z).2.2.1
  have c8i : s.1 = 0 → F 1 8 = ezp_P c s.2 := fun z => (sc z).1
  have c4i : s.1 = 0 → ezp_K c s.2 = 101 → F 1 4 = ezp_V c s.2 := fun z => (sc z).2.2.2.1
  have c7i : s.1 = 0 → ezp_K c s.2 = 100 → F 1 7 = ezp_v 32 (ezp_W c s.2) ∧ F 1 5 = ezp_ix (ezp_W c s.2) - 44 := fun z => (sc z).2.2.2.2
  have k3 := c3i z0
  replace nu := nu z0
  clear c3i c8i c4i c7i sc
  refine ezw_aload_n rfl rfl ?_
  refine ezy_get_i hS rfl rfl rfl rfl rfl rfl (fun u1 hu1 ku1 eu1 => ?_)
  replace eu1 := eu1.symm
  subst eu1
  refine ezw_istore_n rfl rfl ?_
  refine ezw_aload_n rfl rfl ?_
  refine ezw_aload_n rfl rfl ?_
  refine ezw_aload_n rfl rfl ?_
  refine ezw_iload_n rfl rfl ?_
  refine ezw_call0_3 rfl (by omega) (ezu_at rfl) rfl rfl rfl rfl (ezt_m48_4_1_47 hS (by omega) hu1 hn hc tp st tr di z0 k3) ?_
  rintro _ _ ⟨F2, rfl, hS, nF2, st_2, rfl⟩
  refine ezw_aload_n rfl rfl ?_
  refine ezw_call0_0 rfl (by omega) (ezu_at rfl) rfl rfl rfl rfl (ezt_m45_1 hS (by omega)) ?_
  rintro _ _ ⟨rfl, u4, hu4, p3_0, p3_1, rfl⟩
  have h6 := st_2.1
  refine ezw_if_ne rfl rfl ⟨by omega, by omega⟩ (fun h16_4 => ?_) (fun h16_4 => absurd h16_4 (by omega))
  have hcz : (ezp_cf c t s).1 = 0 := st_2.1.symm.trans (p3_0 (by omega))
  obtain ⟨hcf, hcw⟩ := ezp_cf_0 hP.1 hcz
  obtain ⟨⟨w0, w1⟩, -, hk8, hk4, hkE⟩ := ezp_cf_w hcw
  replace hk8 := hk8 kw
  clear hk4 hkE hcw
  have stA : ezt_ST c n s F2 := by
    have h7 := st_2
    rw [hcf] at h7
    exact h7
  clear hcf
  refine ezw_aload_n rfl rfl ?_
  refine ezw_dup rfl rfl ?_
  refine ezy_get_i hS rfl rfl rfl rfl rfl rfl (fun u5 hu5 ku5 eu5 => ?_)
  rw [nF2 4 2 (by decide)] at eu5
  replace eu5 := eu5.symm
  subst eu5
  refine ezw_iconst (1) rfl rfl ?_
  refine ezw_iload_n rfl rfl ?_
  refine ezw_ishl rfl (by omega) (by omega) (k := (1 * 2 ^ ((F 1 3)).toNat)) (rfl) ?_
  refine ezw_ior rfl (k := ezw_or (F 4 2) (1 * 2 ^ ((F 1 3)).toNat)) rfl ?_
  refine ezy_put_i hS rfl rfl rfl rfl rfl (ezt_DI_in di (by omega) (by omega)) (fun F6 hS mF6 nF6 => ?_)
  have trA : ezt_TR 47 (t.once (ezp_K c s.2)) F6 A := (ezt_TR_fr tr (by rw [nF6 47 15 (by decide), nF2 47 15 (by decide)]) (by rw [nF6 47 16 (by decide), nF2 47 16 (by decide)]) (by rw [nF6 47 17 (by decide), nF2 47 17 (by decide)]) (by rw [nF6 55 1 (by decide), nF2 55 1 (by decide)]) (fun _ _ _ => rfl))
  have diA : ezt_DI (t.once (ezp_K c s.2)) F6 := ezt_DI_once di w0 w1 (by rw [mF6, k3])
  have nuA : ezt_NU 47 (t.once (ezp_K c s.2)) A := nu
  refine ezw_aload_n rfl rfl ?_
  refine ezw_call0_0 rfl (by omega) (ezu_at rfl) rfl rfl rfl rfl (ezt_take hS (by omega) (by rw [nF6 1 2 (by decide), nF2 1 2 (by decide)]; exact hn) hc tp hw (ezt_ST_fr stA (fun j j0 j1 => by rw [nF6 1 j (by omega)]))) ?_
  rintro _ _ ⟨F7, rfl, hS, nF7, st_7, rfl⟩
  refine ezw_iload_n rfl rfl ?_
  refine ezw_tableswitchE (v := 0) (p := 144) (show (F 1 3) = 0 by omega) rfl (by rfl) ?_
  refine ezw_aload_n rfl rfl ?_
  refine ezw_aload_n rfl rfl ?_
  refine ezw_call2_2 rfl (by omega) rfl rfl (ezt_m51_1_47 hS (by omega) (by rw [nF7 1 2 (by decide), nF6 1 2 (by decide), nF2 1 2 (by decide)]; exact hn) hc tp hw st_7 (ezt_TR_fr trA (by rw [nF7 47 15 (by decide)]) (by rw [nF7 47 16 (by decide)]) (by rw [nF7 47 17 (by decide)]) (by rw [nF7 55 1 (by decide)]) (fun _ _ _ => rfl)) hk8) ?_
  rintro _ _ ⟨F8, A8, rfl, hS, nF8, nA8, st_8, tr_8, rfl⟩
  refine ezw_goto rfl rfl ?_
  refine ezw_aload_n rfl rfl ?_
  refine ezw_sipush (259) rfl rfl ?_
  refine ezw_call0_1 rfl (by omega) (ezu_at rfl) rfl rfl rfl rfl (ezt_m56_1 hS (by omega) ⟨by decide, by decide⟩ (by rw [nF8 1 2 (by decide), nF7 1 2 (by decide), nF6 1 2 (by decide), nF2 1 2 (by decide)]; exact hn) (by rw [nA8 2 (by decide)]; exact hc) tp (by rw [nA8 3 (by decide)]; exact hw) st_8) ?_
  rintro _ _ ⟨F9, rfl, hS, nF9, st_9, rfl⟩
  exact ezw_return rfl rfl ⟨F9, A8, rfl, hS, (fun p j h => by rw [nF9 p j (fun z => h (Or.inl ⟨z.1, z.2⟩)), nF8 p j (fun z => h (z.elim (fun y => (Or.inl ⟨y.1, y.2⟩)) (fun y => (Or.inr (Or.inr (Or.inr (Or.inr (Or.inl ⟨y.1, (Or.inl y.2)⟩)))))))), nF7 p j (fun z => h (Or.inl ⟨z.1, (z.2.elim (fun y => (Or.inl y)) (fun y => (y.elim (fun y => (Or.inr (Or.inl y))) (fun y => (y.elim (fun y => (Or.inr (Or.inr (Or.inl y)))) (fun y => (y.elim (fun y => (Or.inr (Or.inr (Or.inr (Or.inr (Or.inl y)))))) (fun y => (y.elim (fun y => (Or.inr (Or.inr (Or.inr (Or.inr (Or.inr (Or.inl y))))))) (fun y => (Or.inr (Or.inr (Or.inr (Or.inr (Or.inr (Or.inr y))))))))))))))))⟩)), nF6 p j (fun z => h (Or.inr (Or.inl ⟨z.1, z.2⟩))), nF2 p j (fun z => h (Or.inl ⟨z.1, (Or.inr (Or.inr (Or.inr (Or.inl z.2))))⟩))]), (fun p h => by
        funext j
        rw [nA8 p (fun z => h (z.elim (fun y => (Or.inr (Or.inr (Or.inl y)))) (fun y => (y.elim (fun y => (Or.inr (Or.inr (Or.inr (Or.inl y))))) (fun y => (y.elim (fun y => (Or.inr (Or.inr (Or.inr (Or.inr (Or.inl y)))))) (fun y => (y.elim (fun y => (Or.inr (Or.inr (Or.inr (Or.inr (Or.inr (Or.inl y))))))) (fun y => (Or.inr (Or.inr (Or.inr (Or.inr (Or.inr (Or.inr (Or.inr (Or.inr (Or.inr (Or.inr (Or.inl y))))))))))))))))))))]), (by
        rw [ezp_lne_1 hcz, ezp_lw_0 (w := ezp_K c s.2) (by omega)]
        exact st_9), (by
        rw [ezp_lne_1 hcz, ezp_lw_0 (w := ezp_K c s.2) (by omega)]
        exact (ezt_TR_fr tr_8 (by rw [nF9 47 15 (by decide)]) (by rw [nF9 47 16 (by decide)]) (by rw [nF9 47 17 (by decide)]) (by rw [nF9 55 1 (by decide)]) (fun _ _ _ => rfl))), (by
        rw [ezp_lne_1 hcz, ezp_lw_0 (w := ezp_K c s.2) (by omega)]
        intro z
        have z2 := ezp_0w z
        exact ezt_NU_eq nuA ezp_twD_nu.1 (by rw [nA8 61 (by decide)])), (by
        rw [ezp_lne_1 hcz, ezp_lw_0 (w := ezp_K c s.2) (by omega)]
        intro z
        have z2 := ezp_0w z
        exact ezt_DI_eq diA ezp_twD_nu.2 (by rw [nF9 4 2 (by decide), nF8 4 2 (by decide), nF7 4 2 (by decide)])), (by
        rw [ezp_lnl_n hcz ⟨by omega, by omega⟩]
        exact (ezt_LA_fr la (by rw [nF9 5 3 (by decide), nF8 5 3 (by decide), nF7 5 3 (by decide), nF6 5 3 (by decide), nF2 5 3 (by decide)]) (by rw [nF9 5 4 (by decide), nF8 5 4 (by decide), nF7 5 4 (by decide), nF6 5 4 (by decide), nF2 5 4 (by decide)]) (by rw [nA8 6 (by decide)]) (by rw [nF9 9 3 (by decide), nF8 9 3 (by decide), nF7 9 3 (by decide), nF6 9 3 (by decide), nF2 9 3 (by decide)]) (by rw [nF9 9 4 (by decide), nF8 9 4 (by decide), nF7 9 4 (by decide), nF6 9 4 (by decide), nF2 9 4 (by decide)]) (by rw [nA8 10 (by decide)]))), rfl⟩
def ezt_m47_4_1_47w5Q (e : Bool × Bool) (F : Nat → Nat → Int) (A : Nat → Int → Int) (c : Int → Int) (n : Int) (s : Int × Int) (t : ezp_D) (L : ezv_LL) : Option ezq_V → (Nat → ezq_C) → Prop := fun v g' => ∃ (F' : Nat → Nat → Int) (A' : Nat → Int → Int), ezu_g e F' A' = g' ∧ ezs_T F' A' ∧ (∀ p j, ¬ (p = 1 ∧ (j = 3 ∨ j = 4 ∨ j = 5 ∨ j = 6 ∨ j = 7 ∨ j = 8 ∨ j = 9) ∨ p = 4 ∧ (j = 2) ∨ p = 5 ∧ (j = 3 ∨ j = 4) ∨ p = 9 ∧ (j = 3 ∨ j = 4) ∨ p = 47 ∧ (j = 15 ∨ j = 16 ∨ j = 17) ∨ p = 55 ∧ (j = 1)) → F' p j = F p j) ∧ (∀ p, ¬ (p = 6 ∨ p = 10 ∨ p = 48 ∨ p = 49 ∨ p = 50 ∨ p = 51 ∨ p = 52 ∨ p = 53 ∨ p = 54 ∨ p = 56 ∨ p = 57 ∨ p = 58 ∨ p = 59 ∨ p = 60 ∨ p = 61) → A' p = A p) ∧ (ezt_ST c n ((ezp_lne c t s).1) F') ∧ (ezt_TR 47 ((ezp_lne c t s).2) F' A') ∧ ((ezp_lne c t s).1.1 = 0 → ezt_NU 47 (ezp_lne c t s).2 A') ∧ ((ezp_lne c t s).1.1 = 0 → ezt_DI (ezp_lne c t s).2 F') ∧ (ezt_LA (ezp_lnl c t s L) F' A') ∧ none = v
theorem ezt_m47_4_1_47w5 {c : Int → Int} {n : Int} {s : Int × Int} {t : ezp_D} {L : ezv_LL} {F : Nat → Nat → Int} {A : Nat → Int → Int} (hS : ezs_T F A) (hd : 8 ≤ d) (hn : F 1 2 = n) (hc : c = ezp_ch (A 2) n) (tp : ezp_tp c n) (hw : ∀ j, 0 ≤ j → j < 48 → A 3 j = ezl_cw.getD j.toNat 0) (st : ezt_ST c n s F) (tr : ezt_TR 47 t F A) (nu : s.1 = 0 → ezt_NU 47 t A) (di : ezt_DI t F) (la : ezt_LA L F A) (z0 : s.1 = 0) (hcz0 : (ezp_cf c t s).1 = 0) (kw : ezp_K c s.2 = 5) : ezw_C l ρ B xa Hb D cA 47 d [ezw_p 4, ezw_p 1, ezw_p 47] (ezu_g e F A) (ezt_m47_4_1_47w5Q e F A c n s t L) := by
  refine ezw_met (k := 1) rfl rfl ?_
  have hn0 := tp.1
  have hn1 := tp.2.1
  obtain ⟨sf, sk, sc, sb, sb2⟩ := id st
  have hP := ezp_Pr tp s.2
  have c3i : s.1 = 0 → F 1 3 = ezp_K c s.2 := fun z => (sc z).2.2.1
  have c8i : s.1 = 0 → F 1 8 = ezp_P c s.2 := fun z => (sc z).1
  have c4i : s.1 = 0 → ezp_K c s.2 = 101 → F 1 4 = ezp_V c s.2 := fun z => (sc z).2.2.2.1
  have c7i : s.1 = 0 → ezp_K c s.2 = 100 → F 1 7 = ezp_v 32 (ezp_W c s.2) ∧ F 1 5 = ezp_ix (ezp_W c s.2) - 44 := fun z => (sc z).2.2.2.2
  have k3 := c3i z0
  replace nu := nu z0
  clear c3i c8i c4i c7i sc
  refine ezw_aload_n rfl rfl ?_
  refine ezy_get_i hS rfl rfl rfl rfl rfl rfl (fun u1 hu1 ku1 eu1 => ?_)
  replace eu1 := eu1.symm
  subst eu1
  refine ezw_istore_n rfl rfl ?_
  refine ezw_aload_n rfl rfl ?_
  refine ezw_aload_n rfl rfl ?_
  refine ezw_aload_n rfl rfl ?_
  refine ezw_iload_n rfl rfl ?_
  refine ezw_call0_3 rfl (by omega) (ezu_at rfl) rfl rfl rfl rfl (ezt_m48_4_1_47 hS (by omega) hu1 hn hc tp st tr di z0 k3) ?_
  rintro _ _ ⟨F2, rfl, hS, nF2, st_2, rfl⟩
  refine ezw_aload_n rfl rfl ?_
  refine ezw_call0_0 rfl (by omega) (ezu_at rfl) rfl rfl rfl rfl (ezt_m45_1 hS (by omega)) ?_
  rintro _ _ ⟨rfl, u4, hu4, p3_0, p3_1, rfl⟩
  have h6 := st_2.1
  refine ezw_if_ne rfl rfl ⟨by omega, by omega⟩ (fun h16_4 => ?_) (fun h16_4 => absurd h16_4 (by omega))
  have hcz : (ezp_cf c t s).1 = 0 := st_2.1.symm.trans (p3_0 (by omega))
  obtain ⟨hcf, hcw⟩ := ezp_cf_0 hP.1 hcz
  obtain ⟨⟨w0, w1⟩, -, hk8, hk4, hkE⟩ := ezp_cf_w hcw
  clear hk8 hk4 hkE hcw
  have stA : ezt_ST c n s F2 := by
    have h7 := st_2
    rw [hcf] at h7
    exact h7
  clear hcf
  refine ezw_aload_n rfl rfl ?_
  refine ezw_dup rfl rfl ?_
  refine ezy_get_i hS rfl rfl rfl rfl rfl rfl (fun u5 hu5 ku5 eu5 => ?_)
  rw [nF2 4 2 (by decide)] at eu5
  replace eu5 := eu5.symm
  subst eu5
  refine ezw_iconst (1) rfl rfl ?_
  refine ezw_iload_n rfl rfl ?_
  refine ezw_ishl rfl (by omega) (by omega) (k := (1 * 2 ^ ((F 1 3)).toNat)) (rfl) ?_
  refine ezw_ior rfl (k := ezw_or (F 4 2) (1 * 2 ^ ((F 1 3)).toNat)) rfl ?_
  refine ezy_put_i hS rfl rfl rfl rfl rfl (ezt_DI_in di (by omega) (by omega)) (fun F6 hS mF6 nF6 => ?_)
  have trA : ezt_TR 47 (t.once (ezp_K c s.2)) F6 A := (ezt_TR_fr tr (by rw [nF6 47 15 (by decide), nF2 47 15 (by decide)]) (by rw [nF6 47 16 (by decide), nF2 47 16 (by decide)]) (by rw [nF6 47 17 (by decide), nF2 47 17 (by decide)]) (by rw [nF6 55 1 (by decide), nF2 55 1 (by decide)]) (fun _ _ _ => rfl))
  have diA : ezt_DI (t.once (ezp_K c s.2)) F6 := ezt_DI_once di w0 w1 (by rw [mF6, k3])
  have nuA : ezt_NU 47 (t.once (ezp_K c s.2)) A := nu
  refine ezw_aload_n rfl rfl ?_
  refine ezw_call0_0 rfl (by omega) (ezu_at rfl) rfl rfl rfl rfl (ezt_take hS (by omega) (by rw [nF6 1 2 (by decide), nF2 1 2 (by decide)]; exact hn) hc tp hw (ezt_ST_fr stA (fun j j0 j1 => by rw [nF6 1 j (by omega)]))) ?_
  rintro _ _ ⟨F7, rfl, hS, nF7, st_7, rfl⟩
  refine ezw_iload_n rfl rfl ?_
  refine ezw_tableswitchE (v := 5) (p := 152) (show (F 1 3) = 5 by omega) rfl (by rfl) ?_
  refine ezw_aload_n rfl rfl ?_
  refine ezw_aload_n rfl rfl ?_
  refine ezw_call2_2 rfl (by omega) rfl rfl (ezt_m65_1_47 hS (by omega) (by rw [nF7 1 2 (by decide), nF6 1 2 (by decide), nF2 1 2 (by decide)]; exact hn) hc tp hw st_7 (ezt_TR_fr trA (by rw [nF7 47 15 (by decide)]) (by rw [nF7 47 16 (by decide)]) (by rw [nF7 47 17 (by decide)]) (by rw [nF7 55 1 (by decide)]) (fun _ _ _ => rfl))) ?_
  rintro _ _ ⟨F8, A8, rfl, hS, nF8, nA8, st_8, tr_8, ns_8, rfl⟩
  refine ezw_goto rfl rfl ?_
  refine ezw_aload_n rfl rfl ?_
  refine ezw_sipush (259) rfl rfl ?_
  refine ezw_call0_1 rfl (by omega) (ezu_at rfl) rfl rfl rfl rfl (ezt_m56_1 hS (by omega) ⟨by decide, by decide⟩ (by rw [nF8 1 2 (by decide), nF7 1 2 (by decide), nF6 1 2 (by decide), nF2 1 2 (by decide)]; exact hn) (by rw [nA8 2 (by decide)]; exact hc) tp (by rw [nA8 3 (by decide)]; exact hw) st_8) ?_
  rintro _ _ ⟨F9, rfl, hS, nF9, st_9, rfl⟩
  exact ezw_return rfl rfl ⟨F9, A8, rfl, hS, (fun p j h => by rw [nF9 p j (fun z => h (Or.inl ⟨z.1, z.2⟩)), nF8 p j (fun z => h (z.elim (fun y => (Or.inl ⟨y.1, y.2⟩)) (fun y => (Or.inr (Or.inr (Or.inr (Or.inr (Or.inl ⟨y.1, (Or.inr (Or.inr y.2))⟩)))))))), nF7 p j (fun z => h (Or.inl ⟨z.1, (z.2.elim (fun y => (Or.inl y)) (fun y => (y.elim (fun y => (Or.inr (Or.inl y))) (fun y => (y.elim (fun y => (Or.inr (Or.inr (Or.inl y)))) (fun y => (y.elim (fun y => (Or.inr (Or.inr (Or.inr (Or.inr (Or.inl y)))))) (fun y => (y.elim (fun y => (Or.inr (Or.inr (Or.inr (Or.inr (Or.inr (Or.inl y))))))) (fun y => (Or.inr (Or.inr (Or.inr (Or.inr (Or.inr (Or.inr y))))))))))))))))⟩)), nF6 p j (fun z => h (Or.inr (Or.inl ⟨z.1, z.2⟩))), nF2 p j (fun z => h (Or.inl ⟨z.1, (Or.inr (Or.inr (Or.inr (Or.inl z.2))))⟩))]), (fun p h => by
        funext j
        rw [nA8 p (fun z => h (Or.inr (Or.inr (Or.inr (Or.inr (Or.inr (Or.inr (Or.inr (Or.inr (Or.inr (Or.inr (Or.inr (Or.inr (Or.inr (Or.inl z)))))))))))))))]), (by
        rw [ezp_lne_1 hcz, ezp_lw_5 (w := ezp_K c s.2) (by omega)]
        exact st_9), (by
        rw [ezp_lne_1 hcz, ezp_lw_5 (w := ezp_K c s.2) (by omega)]
        exact (ezt_TR_fr tr_8 (by rw [nF9 47 15 (by decide)]) (by rw [nF9 47 16 (by decide)]) (by rw [nF9 47 17 (by decide)]) (by rw [nF9 55 1 (by decide)]) (fun _ _ _ => rfl))), (by
        rw [ezp_lne_1 hcz, ezp_lw_5 (w := ezp_K c s.2) (by omega)]
        intro z
        have z2 := ezp_0w z
        exact ezt_NU_eq nuA ns_8.1 (by rw [nA8 61 (by decide)])), (by
        rw [ezp_lne_1 hcz, ezp_lw_5 (w := ezp_K c s.2) (by omega)]
        intro z
        have z2 := ezp_0w z
        exact ezt_DI_eq diA ns_8.2 (by rw [nF9 4 2 (by decide), nF8 4 2 (by decide), nF7 4 2 (by decide)])), (by
        rw [ezp_lnl_n hcz ⟨by omega, by omega⟩]
        exact (ezt_LA_fr la (by rw [nF9 5 3 (by decide), nF8 5 3 (by decide), nF7 5 3 (by decide), nF6 5 3 (by decide), nF2 5 3 (by decide)]) (by rw [nF9 5 4 (by decide), nF8 5 4 (by decide), nF7 5 4 (by decide), nF6 5 4 (by decide), nF2 5 4 (by decide)]) (by rw [nA8 6 (by decide)]) (by rw [nF9 9 3 (by decide), nF8 9 3 (by decide), nF7 9 3 (by decide), nF6 9 3 (by decide), nF2 9 3 (by decide)]) (by rw [nF9 9 4 (by decide), nF8 9 4 (by decide), nF7 9 4 (by decide), nF6 9 4 (by decide), nF2 9 4 (by decide)]) (by rw [nA8 10 (by decide)]))), rfl⟩
def ezt_m47_4_1_47w6Q (e : Bool × Bool) (F : Nat → Nat → Int) (A : Nat → Int → Int) (c : Int → Int) (n : Int) (s : Int × Int) (t : ezp_D) (L : ezv_LL) : Option ezq_V → (Nat → ezq_C) → Prop := fun v g' => ∃ (F' : Nat → Nat → Int) (A' : Nat → Int → Int), ezu_g e F' A' = g' ∧ ezs_T F' A' ∧ (∀ p j, ¬ (p = 1 ∧ (j = 3 ∨ j = 4 ∨ j = 5 ∨ j = 6 ∨ j = 7 ∨ j = 8 ∨ j = 9) ∨ p = 4 ∧ (j = 2) ∨ p = 5 ∧ (j = 3 ∨ j = 4) ∨ p = 9 ∧ (j = 3 ∨ j = 4) ∨ p = 47 ∧ (j = 15 ∨ j = 16 ∨ j = 17) ∨ p = 55 ∧ (j = 1)) → F' p j = F p j) ∧ (∀ p, ¬ (p = 6 ∨ p = 10 ∨ p = 48 ∨ p = 49 ∨ p = 50 ∨ p = 51 ∨ p = 52 ∨ p = 53 ∨ p = 54 ∨ p = 56 ∨ p = 57 ∨ p = 58 ∨ p = 59 ∨ p = 60 ∨ p = 61) → A' p = A p) ∧ (ezt_ST c n ((ezp_lne c t s).1) F') ∧ (ezt_TR 47 ((ezp_lne c t s).2) F' A') ∧ ((ezp_lne c t s).1.1 = 0 → ezt_NU 47 (ezp_lne c t s).2 A') ∧ ((ezp_lne c t s).1.1 = 0 → ezt_DI (ezp_lne c t s).2 F') ∧ (ezt_LA (ezp_lnl c t s L) F' A') ∧ none = v
theorem ezt_m47_4_1_47w6 {c : Int → Int} {n : Int} {s : Int × Int} {t : ezp_D} {L : ezv_LL} {F : Nat → Nat → Int} {A : Nat → Int → Int} (hS : ezs_T F A) (hd : 9 ≤ d) (hn : F 1 2 = n) (hc : c = ezp_ch (A 2) n) (tp : ezp_tp c n) (hw : ∀ j, 0 ≤ j → j < 48 → A 3 j = ezl_cw.getD j.toNat 0) (st : ezt_ST c n s F) (tr : ezt_TR 47 t F A) (nu : s.1 = 0 → ezt_NU 47 t A) (di : ezt_DI t F) (la : ezt_LA L F A) (z0 : s.1 = 0) (hcz0 : (ezp_cf c t s).1 = 0) (kw : ezp_K c s.2 = 6) : ezw_C l ρ B xa Hb D cA 47 d [ezw_p 4, ezw_p 1, ezw_p 47] (ezu_g e F A) (ezt_m47_4_1_47w6Q e F A c n s t L) := by
  refine ezw_met (k := 1) rfl rfl ?_
  have hn0 := tp.1
  have hn1 := tp.2.1
  obtain ⟨sf, sk, sc, sb, sb2⟩ := id st
  have hP := ezp_Pr tp s.2
  have c3i : s.1 = 0 → F 1 3 = ezp_K c s.2 := fun z => (sc z).2.2.1
  have c8i : s.1 = 0 → F 1 8 = ezp_P c s.2 := fun z => (sc z).1
  have c4i : s.1 = 0 → ezp_K c s.2 = 101 → F 1 4 = ezp_V c s.2 := fun z => (sc z).2.2.2.1
  have c7i : s.1 = 0 → ezp_K c s.2 = 100 → F 1 7 = ezp_v 32 (ezp_W c s.2) ∧ F 1 5 = ezp_ix (ezp_W c s.2) - 44 := fun z => (sc z).2.2.2.2
  have k3 := c3i z0
  replace nu := nu z0
  clear c3i c8i c4i c7i sc
  refine ezw_aload_n rfl rfl ?_
  refine ezy_get_i hS rfl rfl rfl rfl rfl rfl (fun u1 hu1 ku1 eu1 => ?_)
  replace eu1 := eu1.symm
  subst eu1
  refine ezw_istore_n rfl rfl ?_
  refine ezw_aload_n rfl rfl ?_
  refine ezw_aload_n rfl rfl ?_
  refine ezw_aload_n rfl rfl ?_
  refine ezw_iload_n rfl rfl ?_
  refine ezw_call0_3 rfl (by omega) (ezu_at rfl) rfl rfl rfl rfl (ezt_m48_4_1_47 hS (by omega) hu1 hn hc tp st tr di z0 k3) ?_
  rintro _ _ ⟨F2, rfl, hS, nF2, st_2, rfl⟩
  refine ezw_aload_n rfl rfl ?_
  refine ezw_call0_0 rfl (by omega) (ezu_at rfl) rfl rfl rfl rfl (ezt_m45_1 hS (by omega)) ?_
  rintro _ _ ⟨rfl, u4, hu4, p3_0, p3_1, rfl⟩
  have h6 := st_2.1
  refine ezw_if_ne rfl rfl ⟨by omega, by omega⟩ (fun h16_4 => ?_) (fun h16_4 => absurd h16_4 (by omega))
  have hcz : (ezp_cf c t s).1 = 0 := st_2.1.symm.trans (p3_0 (by omega))
  obtain ⟨hcf, hcw⟩ := ezp_cf_0 hP.1 hcz
  obtain ⟨⟨w0, w1⟩, -, hk8, hk4, hkE⟩ := ezp_cf_w hcw
  clear hk8 hk4 hkE hcw
  have stA : ezt_ST c n s F2 := by
    have h7 := st_2
    rw [hcf] at h7
    exact h7
  clear hcf
  refine ezw_aload_n rfl rfl ?_
  refine ezw_dup rfl rfl ?_
  refine ezy_get_i hS rfl rfl rfl rfl rfl rfl (fun u5 hu5 ku5 eu5 => ?_)
  rw [nF2 4 2 (by decide)] at eu5
  replace eu5 := eu5.symm
  subst eu5
  refine ezw_iconst (1) rfl rfl ?_
  refine ezw_iload_n rfl rfl ?_
  refine ezw_ishl rfl (by omega) (by omega) (k := (1 * 2 ^ ((F 1 3)).toNat)) (rfl) ?_
  refine ezw_ior rfl (k := ezw_or (F 4 2) (1 * 2 ^ ((F 1 3)).toNat)) rfl ?_
  refine ezy_put_i hS rfl rfl rfl rfl rfl (ezt_DI_in di (by omega) (by omega)) (fun F6 hS mF6 nF6 => ?_)
  have trA : ezt_TR 47 (t.once (ezp_K c s.2)) F6 A := (ezt_TR_fr tr (by rw [nF6 47 15 (by decide), nF2 47 15 (by decide)]) (by rw [nF6 47 16 (by decide), nF2 47 16 (by decide)]) (by rw [nF6 47 17 (by decide), nF2 47 17 (by decide)]) (by rw [nF6 55 1 (by decide), nF2 55 1 (by decide)]) (fun _ _ _ => rfl))
  have diA : ezt_DI (t.once (ezp_K c s.2)) F6 := ezt_DI_once di w0 w1 (by rw [mF6, k3])
  have nuA : ezt_NU 47 (t.once (ezp_K c s.2)) A := nu
  refine ezw_aload_n rfl rfl ?_
  refine ezw_call0_0 rfl (by omega) (ezu_at rfl) rfl rfl rfl rfl (ezt_take hS (by omega) (by rw [nF6 1 2 (by decide), nF2 1 2 (by decide)]; exact hn) hc tp hw (ezt_ST_fr stA (fun j j0 j1 => by rw [nF6 1 j (by omega)]))) ?_
  rintro _ _ ⟨F7, rfl, hS, nF7, st_7, rfl⟩
  refine ezw_iload_n rfl rfl ?_
  refine ezw_tableswitchE (v := 6) (p := 160) (show (F 1 3) = 6 by omega) rfl (by rfl) ?_
  refine ezw_aload_n rfl rfl ?_
  refine ezw_aload_n rfl rfl ?_
  refine ezw_call2_2 rfl (by omega) rfl rfl (ezt_m68_1_47 hS (by omega) (by rw [nF7 1 2 (by decide), nF6 1 2 (by decide), nF2 1 2 (by decide)]; exact hn) hc tp hw st_7 (ezt_TR_fr trA (by rw [nF7 47 15 (by decide)]) (by rw [nF7 47 16 (by decide)]) (by rw [nF7 47 17 (by decide)]) (by rw [nF7 55 1 (by decide)]) (fun _ _ _ => rfl)) (fun _ => nuA)) ?_
  rintro _ _ ⟨F8, A8, rfl, hS, nF8, nA8, st_8, tr_8, nu_8, rfl⟩
  refine ezw_goto rfl rfl ?_
  refine ezw_aload_n rfl rfl ?_
  refine ezw_sipush (259) rfl rfl ?_
  refine ezw_call0_1 rfl (by omega) (ezu_at rfl) rfl rfl rfl rfl (ezt_m56_1 hS (by omega) ⟨by decide, by decide⟩ (by rw [nF8 1 2 (by decide), nF7 1 2 (by decide), nF6 1 2 (by decide), nF2 1 2 (by decide)]; exact hn) (by rw [nA8 2 (by decide)]; exact hc) tp (by rw [nA8 3 (by decide)]; exact hw) st_8) ?_
  rintro _ _ ⟨F9, rfl, hS, nF9, st_9, rfl⟩
  exact ezw_return rfl rfl ⟨F9, A8, rfl, hS, (fun p j h => by rw [nF9 p j (fun z => h (Or.inl ⟨z.1, z.2⟩)), nF8 p j (fun z => h (Or.inl ⟨z.1, z.2⟩)), nF7 p j (fun z => h (Or.inl ⟨z.1, (z.2.elim (fun y => (Or.inl y)) (fun y => (y.elim (fun y => (Or.inr (Or.inl y))) (fun y => (y.elim (fun y => (Or.inr (Or.inr (Or.inl y)))) (fun y => (y.elim (fun y => (Or.inr (Or.inr (Or.inr (Or.inr (Or.inl y)))))) (fun y => (y.elim (fun y => (Or.inr (Or.inr (Or.inr (Or.inr (Or.inr (Or.inl y))))))) (fun y => (Or.inr (Or.inr (Or.inr (Or.inr (Or.inr (Or.inr y))))))))))))))))⟩)), nF6 p j (fun z => h (Or.inr (Or.inl ⟨z.1, z.2⟩))), nF2 p j (fun z => h (Or.inl ⟨z.1, (Or.inr (Or.inr (Or.inr (Or.inl z.2))))⟩))]), (fun p h => by
        funext j
        rw [nA8 p (fun z => h (Or.inr (Or.inr (Or.inr (Or.inr (Or.inr (Or.inr (Or.inr (Or.inr (Or.inr (Or.inr (Or.inr (Or.inr (Or.inr (Or.inr z)))))))))))))))]), (by
        rw [ezp_lne_1 hcz, ezp_lw_6 (w := ezp_K c s.2) (by omega)]
        exact st_9), (by
        rw [ezp_lne_1 hcz, ezp_lw_6 (w := ezp_K c s.2) (by omega)]
        exact (ezt_TR_fr tr_8 (by rw [nF9 47 15 (by decide)]) (by rw [nF9 47 16 (by decide)]) (by rw [nF9 47 17 (by decide)]) (by rw [nF9 55 1 (by decide)]) (fun _ _ _ => rfl))), (by
        rw [ezp_lne_1 hcz, ezp_lw_6 (w := ezp_K c s.2) (by omega)]
        intro z
        have z2 := ezp_0w z
        exact nu_8 z2), (by
        rw [ezp_lne_1 hcz, ezp_lw_6 (w := ezp_K c s.2) (by omega)]
        intro z
        have z2 := ezp_0w z
        exact ezt_DI_eq diA ezp_ktD_di (by rw [nF9 4 2 (by decide), nF8 4 2 (by decide), nF7 4 2 (by decide)])), (by
        rw [ezp_lnl_n hcz ⟨by omega, by omega⟩]
        exact (ezt_LA_fr la (by rw [nF9 5 3 (by decide), nF8 5 3 (by decide), nF7 5 3 (by decide), nF6 5 3 (by decide), nF2 5 3 (by decide)]) (by rw [nF9 5 4 (by decide), nF8 5 4 (by decide), nF7 5 4 (by decide), nF6 5 4 (by decide), nF2 5 4 (by decide)]) (by rw [nA8 6 (by decide)]) (by rw [nF9 9 3 (by decide), nF8 9 3 (by decide), nF7 9 3 (by decide), nF6 9 3 (by decide), nF2 9 3 (by decide)]) (by rw [nF9 9 4 (by decide), nF8 9 4 (by decide), nF7 9 4 (by decide), nF6 9 4 (by decide), nF2 9 4 (by decide)]) (by rw [nA8 10 (by decide)]))), rfl⟩
def ezt_m47_4_1_47w9Q (e : Bool × Bool) (F : Nat → Nat → Int) (A : Nat → Int → Int) (c : Int → Int) (n : Int) (s : Int × Int) (t : ezp_D) (L : ezv_LL) : Option ezq_V → (Nat → ezq_C) → Prop := fun v g' => ∃ (F' : Nat → Nat → Int) (A' : Nat → Int → Int), ezu_g e F' A' = g' ∧ ezs_T F' A' ∧ (∀ p j, ¬ (p = 1 ∧ (j = 3 ∨ j = 4 ∨ j = 5 ∨ j = 6 ∨ j = 7 ∨ j = 8 ∨ j = 9) ∨ p = 4 ∧ (j = 2) ∨ p = 5 ∧ (j = 3 ∨ j = 4) ∨ p = 9 ∧ (j = 3 ∨ j = 4) ∨ p = 47 ∧ (j = 15 ∨ j = 16 ∨ j = 17) ∨ p = 55 ∧ (j = 1)) → F' p j = F p j) ∧ (∀ p, ¬ (p = 6 ∨ p = 10 ∨ p = 48 ∨ p = 49 ∨ p = 50 ∨ p = 51 ∨ p = 52 ∨ p = 53 ∨ p = 54 ∨ p = 56 ∨ p = 57 ∨ p = 58 ∨ p = 59 ∨ p = 60 ∨ p = 61) → A' p = A p) ∧ (ezt_ST c n ((ezp_lne c t s).1) F') ∧ (ezt_TR 47 ((ezp_lne c t s).2) F' A') ∧ ((ezp_lne c t s).1.1 = 0 → ezt_NU 47 (ezp_lne c t s).2 A') ∧ ((ezp_lne c t s).1.1 = 0 → ezt_DI (ezp_lne c t s).2 F') ∧ (ezt_LA (ezp_lnl c t s L) F' A') ∧ none = v
theorem ezt_m47_4_1_47w9 {c : Int → Int} {n : Int} {s : Int × Int} {t : ezp_D} {L : ezv_LL} {F : Nat → Nat → Int} {A : Nat → Int → Int} (hS : ezs_T F A) (hd : 9 ≤ d) (hn : F 1 2 = n) (hc : c = ezp_ch (A 2) n) (tp : ezp_tp c n) (hw : ∀ j, 0 ≤ j → j < 48 → A 3 j = ezl_cw.getD j.toNat 0) (st : ezt_ST c n s F) (tr : ezt_TR 47 t F A) (nu : s.1 = 0 → ezt_NU 47 t A) (di : ezt_DI t F) (la : ezt_LA L F A) (z0 : s.1 = 0) (hcz0 : (ezp_cf c t s).1 = 0) (kw : ezp_K c s.2 = 9) : ezw_C l ρ B xa Hb D cA 47 d [ezw_p 4, ezw_p 1, ezw_p 47] (ezu_g e F A) (ezt_m47_4_1_47w9Q e F A c n s t L) := by
  refine ezw_met (k := 1) rfl rfl ?_
  have hn0 := tp.1
  have hn1 := tp.2.1
  obtain ⟨sf, sk, sc, sb, sb2⟩ := id st
  have hP := ezp_Pr tp s.2
  have c3i : s.1 = 0 → F 1 3 = ezp_K c s.2 := fun z => (sc z).2.2.1
  have c8i : s.1 = 0 → F 1 8 = ezp_P c s.2 := fun z => (sc z).1
  have c4i : s.1 = 0 → ezp_K c s.2 = 101 → F 1 4 = ezp_V c s.2 := fun z => (sc z).2.2.2.1
  have c7i : s.1 = 0 → ezp_K c s.2 = 100 → F 1 7 = ezp_v 32 (ezp_W c s.2) ∧ F 1 5 = ezp_ix (ezp_W c s.2) - 44 := fun z => (sc z).2.2.2.2
  have k3 := c3i z0
  replace nu := nu z0
  clear c3i c8i c4i c7i sc
  refine ezw_aload_n rfl rfl ?_
  refine ezy_get_i hS rfl rfl rfl rfl rfl rfl (fun u1 hu1 ku1 eu1 => ?_)
  replace eu1 := eu1.symm
  subst eu1
  refine ezw_istore_n rfl rfl ?_
  refine ezw_aload_n rfl rfl ?_
  refine ezw_aload_n rfl rfl ?_
  refine ezw_aload_n rfl rfl ?_
  refine ezw_iload_n rfl rfl ?_
  refine ezw_call0_3 rfl (by omega) (ezu_at rfl) rfl rfl rfl rfl (ezt_m48_4_1_47 hS (by omega) hu1 hn hc tp st tr di z0 k3) ?_
  rintro _ _ ⟨F2, rfl, hS, nF2, st_2, rfl⟩
  refine ezw_aload_n rfl rfl ?_
  refine ezw_call0_0 rfl (by omega) (ezu_at rfl) rfl rfl rfl rfl (ezt_m45_1 hS (by omega)) ?_
  rintro _ _ ⟨rfl, u4, hu4, p3_0, p3_1, rfl⟩
  have h6 := st_2.1
  refine ezw_if_ne rfl rfl ⟨by omega, by omega⟩ (fun h16_4 => ?_) (fun h16_4 => absurd h16_4 (by omega))
  have hcz : (ezp_cf c t s).1 = 0 := st_2.1.symm.trans (p3_0 (by omega))
  obtain ⟨hcf, hcw⟩ := ezp_cf_0 hP.1 hcz
  obtain ⟨⟨w0, w1⟩, -, hk8, hk4, hkE⟩ := ezp_cf_w hcw
  replace hk4 := hk4 kw
  clear hk8 hkE hcw
  have stA : ezt_ST c n s F2 := by
    have h7 := st_2
    rw [hcf] at h7
    exact h7
  clear hcf
  refine ezw_aload_n rfl rfl ?_
  refine ezw_dup rfl rfl ?_
  refine ezy_get_i hS rfl rfl rfl rfl rfl rfl (fun u5 hu5 ku5 eu5 => ?_)
  rw [nF2 4 2 (by decide)] at eu5
  replace eu5 := eu5.symm
  subst eu5
  refine ezw_iconst (1) rfl rfl ?_
  refine ezw_iload_n rfl rfl ?_
  refine ezw_ishl rfl (by omega) (by omega) (k := (1 * 2 ^ ((F 1 3)).toNat)) (rfl) ?_
  refine ezw_ior rfl (k := ezw_or (F 4 2) (1 * 2 ^ ((F 1 3)).toNat)) rfl ?_
  refine ezy_put_i hS rfl rfl rfl rfl rfl (ezt_DI_in di (by omega) (by omega)) (fun F6 hS mF6 nF6 => ?_)
  have trA : ezt_TR 47 (t.once (ezp_K c s.2)) F6 A := (ezt_TR_fr tr (by rw [nF6 47 15 (by decide), nF2 47 15 (by decide)]) (by rw [nF6 47 16 (by decide), nF2 47 16 (by decide)]) (by rw [nF6 47 17 (by decide), nF2 47 17 (by decide)]) (by rw [nF6 55 1 (by decide), nF2 55 1 (by decide)]) (fun _ _ _ => rfl))
  have diA : ezt_DI (t.once (ezp_K c s.2)) F6 := ezt_DI_once di w0 w1 (by rw [mF6, k3])
  have nuA : ezt_NU 47 (t.once (ezp_K c s.2)) A := nu
  refine ezw_aload_n rfl rfl ?_
  refine ezw_call0_0 rfl (by omega) (ezu_at rfl) rfl rfl rfl rfl (ezt_take hS (by omega) (by rw [nF6 1 2 (by decide), nF2 1 2 (by decide)]; exact hn) hc tp hw (ezt_ST_fr stA (fun j j0 j1 => by rw [nF6 1 j (by omega)]))) ?_
  rintro _ _ ⟨F7, rfl, hS, nF7, st_7, rfl⟩
  refine ezw_iload_n rfl rfl ?_
  refine ezw_tableswitchE (v := 9) (p := 168) (show (F 1 3) = 9 by omega) rfl (by rfl) ?_
  refine ezw_aload_n rfl rfl ?_
  refine ezw_aload_n rfl rfl ?_
  refine ezw_call2_2 rfl (by omega) rfl rfl (ezt_m70_1_47 hS (by omega) (by rw [nF7 1 2 (by decide), nF6 1 2 (by decide), nF2 1 2 (by decide)]; exact hn) hc tp hw st_7 (ezt_TR_fr trA (by rw [nF7 47 15 (by decide)]) (by rw [nF7 47 16 (by decide)]) (by rw [nF7 47 17 (by decide)]) (by rw [nF7 55 1 (by decide)]) (fun _ _ _ => rfl)) hk4) ?_
  rintro _ _ ⟨F8, A8, rfl, hS, nF8, nA8, st_8, tr_8, rfl⟩
  refine ezw_goto rfl rfl ?_
  refine ezw_aload_n rfl rfl ?_
  refine ezw_sipush (259) rfl rfl ?_
  refine ezw_call0_1 rfl (by omega) (ezu_at rfl) rfl rfl rfl rfl (ezt_m56_1 hS (by omega) ⟨by decide, by decide⟩ (by rw [nF8 1 2 (by decide), nF7 1 2 (by decide), nF6 1 2 (by decide), nF2 1 2 (by decide)]; exact hn) (by rw [nA8 2 (by decide)]; exact hc) tp (by rw [nA8 3 (by decide)]; exact hw) st_8) ?_
  rintro _ _ ⟨F9, rfl, hS, nF9, st_9, rfl⟩
  exact ezw_return rfl rfl ⟨F9, A8, rfl, hS, (fun p j h => by rw [nF9 p j (fun z => h (Or.inl ⟨z.1, z.2⟩)), nF8 p j (fun z => h (z.elim (fun y => (Or.inl ⟨y.1, y.2⟩)) (fun y => (Or.inr (Or.inr (Or.inr (Or.inr (Or.inl ⟨y.1, (Or.inr (Or.inl y.2))⟩)))))))), nF7 p j (fun z => h (Or.inl ⟨z.1, (z.2.elim (fun y => (Or.inl y)) (fun y => (y.elim (fun y => (Or.inr (Or.inl y))) (fun y => (y.elim (fun y => (Or.inr (Or.inr (Or.inl y)))) (fun y => (y.elim (fun y => (Or.inr (Or.inr (Or.inr (Or.inr (Or.inl y)))))) (fun y => (y.elim (fun y => (Or.inr (Or.inr (Or.inr (Or.inr (Or.inr (Or.inl y))))))) (fun y => (Or.inr (Or.inr (Or.inr (Or.inr (Or.inr (Or.inr y))))))))))))))))⟩)), nF6 p j (fun z => h (Or.inr (Or.inl ⟨z.1, z.2⟩))), nF2 p j (fun z => h (Or.inl ⟨z.1, (Or.inr (Or.inr (Or.inr (Or.inl z.2))))⟩))]), (fun p h => by
        funext j
        rw [nA8 p (fun z => h (z.elim (fun y => (Or.inr (Or.inr (Or.inr (Or.inr (Or.inr (Or.inr (Or.inl y)))))))) (fun y => (y.elim (fun y => (Or.inr (Or.inr (Or.inr (Or.inr (Or.inr (Or.inr (Or.inr (Or.inl y))))))))) (fun y => (y.elim (fun y => (Or.inr (Or.inr (Or.inr (Or.inr (Or.inr (Or.inr (Or.inr (Or.inr (Or.inl y)))))))))) (fun y => (y.elim (fun y => (Or.inr (Or.inr (Or.inr (Or.inr (Or.inr (Or.inr (Or.inr (Or.inr (Or.inr (Or.inr (Or.inr (Or.inl y))))))))))))) (fun y => (Or.inr (Or.inr (Or.inr (Or.inr (Or.inr (Or.inr (Or.inr (Or.inr (Or.inr (Or.inr (Or.inr (Or.inr (Or.inl y))))))))))))))))))))))]), (by
        rw [ezp_lne_1 hcz, ezp_lw_9 (w := ezp_K c s.2) (by omega)]
        exact st_9), (by
        rw [ezp_lne_1 hcz, ezp_lw_9 (w := ezp_K c s.2) (by omega)]
        exact (ezt_TR_fr tr_8 (by rw [nF9 47 15 (by decide)]) (by rw [nF9 47 16 (by decide)]) (by rw [nF9 47 17 (by decide)]) (by rw [nF9 55 1 (by decide)]) (fun _ _ _ => rfl))), (by
        rw [ezp_lne_1 hcz, ezp_lw_9 (w := ezp_K c s.2) (by omega)]
        intro z
        have z2 := ezp_0w z
        exact ezt_NU_eq nuA ezp_thD_nu.1 (by rw [nA8 61 (by decide)])), (by
        rw [ezp_lne_1 hcz, ezp_lw_9 (w := ezp_K c s.2) (by omega)]
        intro z
        have z2 := ezp_0w z
        exact ezt_DI_eq diA ezp_thD_nu.2 (by rw [nF9 4 2 (by decide), nF8 4 2 (by decide), nF7 4 2 (by decide)])), (by
        rw [ezp_lnl_n hcz ⟨by omega, by omega⟩]
        exact (ezt_LA_fr la (by rw [nF9 5 3 (by decide), nF8 5 3 (by decide), nF7 5 3 (by decide), nF6 5 3 (by decide), nF2 5 3 (by decide)]) (by rw [nF9 5 4 (by decide), nF8 5 4 (by decide), nF7 5 4 (by decide), nF6 5 4 (by decide), nF2 5 4 (by decide)]) (by rw [nA8 6 (by decide)]) (by rw [nF9 9 3 (by decide), nF8 9 3 (by decide), nF7 9 3 (by decide), nF6 9 3 (by decide), nF2 9 3 (by decide)]) (by rw [nF9 9 4 (by decide), nF8 9 4 (by decide), nF7 9 4 (by decide), nF6 9 4 (by decide), nF2 9 4 (by decide)]) (by rw [nA8 10 (by decide)]))), rfl⟩
def ezt_m47_4_1_47w12Q (e : Bool × Bool) (F : Nat → Nat → Int) (A : Nat → Int → Int) (c : Int → Int) (n : Int) (s : Int × Int) (t : ezp_D) (L : ezv_LL) : Option ezq_V → (Nat → ezq_C) → Prop := fun v g' => ∃ (F' : Nat → Nat → Int) (A' : Nat → Int → Int), ezu_g e F' A' = g' ∧ ezs_T F' A' ∧ (∀ p j, ¬ (p = 1 ∧ (j = 3 ∨ j = 4 ∨ j = 5 ∨ j = 6 ∨ j = 7 ∨ j = 8 ∨ j = 9) ∨ p = 4 ∧ (j = 2) ∨ p = 5 ∧ (j = 3 ∨ j = 4) ∨ p = 9 ∧ (j = 3 ∨ j = 4) ∨ p = 47 ∧ (j = 15 ∨ j = 16 ∨ j = 17) ∨ p = 55 ∧ (j = 1)) → F' p j = F p j) ∧ (∀ p, ¬ (p = 6 ∨ p = 10 ∨ p = 48 ∨ p = 49 ∨ p = 50 ∨ p = 51 ∨ p = 52 ∨ p = 53 ∨ p = 54 ∨ p = 56 ∨ p = 57 ∨ p = 58 ∨ p = 59 ∨ p = 60 ∨ p = 61) → A' p = A p) ∧ (ezt_ST c n ((ezp_lne c t s).1) F') ∧ (ezt_TR 47 ((ezp_lne c t s).2) F' A') ∧ ((ezp_lne c t s).1.1 = 0 → ezt_NU 47 (ezp_lne c t s).2 A') ∧ ((ezp_lne c t s).1.1 = 0 → ezt_DI (ezp_lne c t s).2 F') ∧ (ezt_LA (ezp_lnl c t s L) F' A') ∧ none = v
theorem ezt_m47_4_1_47w12 {c : Int → Int} {n : Int} {s : Int × Int} {t : ezp_D} {L : ezv_LL} {F : Nat → Nat → Int} {A : Nat → Int → Int} (hS : ezs_T F A) (hd : 9 ≤ d) (hn : F 1 2 = n) (hc : c = ezp_ch (A 2) n) (tp : ezp_tp c n) (hw : ∀ j, 0 ≤ j → j < 48 → A 3 j = ezl_cw.getD j.toNat 0) (st : ezt_ST c n s F) (tr : ezt_TR 47 t F A) (nu : s.1 = 0 → ezt_NU 47 t A) (di : ezt_DI t F) (la : ezt_LA L F A) (z0 : s.1 = 0) (hcz0 : (ezp_cf c t s).1 = 0) (kw : ezp_K c s.2 = 12) : ezw_C l ρ B xa Hb D cA 47 d [ezw_p 4, ezw_p 1, ezw_p 47] (ezu_g e F A) (ezt_m47_4_1_47w12Q e F A c n s t L) := by
  refine ezw_met (k := 1) rfl rfl ?_
  have hn0 := tp.1
  have hn1 := tp.2.1
  obtain ⟨sf, sk, sc, sb, sb2⟩ := id st
  have hP := ezp_Pr tp s.2
  have c3i : s.1 = 0 → F 1 3 = ezp_K c s.2 := fun z => (sc z).2.2.1
  have c8i : s.1 = 0 → F 1 8 = ezp_P c s.2 := fun z => (sc z).1
  have c4i : s.1 = 0 → ezp_K c s.2 = 101 → F 1 4 = ezp_V c s.2 := fun z => (sc z).2.2.2.1
  have c7i : s.1 = 0 → ezp_K c s.2 = 100 → F 1 7 = ezp_v 32 (ezp_W c s.2) ∧ F 1 5 = ezp_ix (ezp_W c s.2) - 44 := fun z => (sc z).2.2.2.2
  have k3 := c3i z0
  replace nu := nu z0
  clear c3i c8i c4i c7i sc
  refine ezw_aload_n rfl rfl ?_
  refine ezy_get_i hS rfl rfl rfl rfl rfl rfl (fun u1 hu1 ku1 eu1 => ?_)
  replace eu1 := eu1.symm
  subst eu1
  refine ezw_istore_n rfl rfl ?_
  refine ezw_aload_n rfl rfl ?_
  refine ezw_aload_n rfl rfl ?_
  refine ezw_aload_n rfl rfl ?_
  refine ezw_iload_n rfl rfl ?_
  refine ezw_call0_3 rfl (by omega) (ezu_at rfl) rfl rfl rfl rfl (ezt_m48_4_1_47 hS (by omega) hu1 hn hc tp st tr di z0 k3) ?_
  rintro _ _ ⟨F2, rfl, hS, nF2, st_2, rfl⟩
  refine ezw_aload_n rfl rfl ?_
  refine ezw_call0_0 rfl (by omega) (ezu_at rfl) rfl rfl rfl rfl (ezt_m45_1 hS (by omega)) ?_
  rintro _ _ ⟨rfl, u4, hu4, p3_0, p3_1, rfl⟩
  have h6 := st_2.1
  refine ezw_if_ne rfl rfl ⟨by omega, by omega⟩ (fun h16_4 => ?_) (fun h16_4 => absurd h16_4 (by omega))
  have hcz : (ezp_cf c t s).1 = 0 := st_2.1.symm.trans (p3_0 (by omega))
  obtain ⟨hcf, hcw⟩ := ezp_cf_0 hP.1 hcz
  obtain ⟨⟨w0, w1⟩, -, hk8, hk4, hkE⟩ := ezp_cf_w hcw
  clear hk8 hk4 hkE hcw
  have stA : ezt_ST c n s F2 := by
    have h7 := st_2
    rw [hcf] at h7
    exact h7
  clear hcf
  refine ezw_aload_n rfl rfl ?_
  refine ezw_dup rfl rfl ?_
  refine ezy_get_i hS rfl rfl rfl rfl rfl rfl (fun u5 hu5 ku5 eu5 => ?_)
  rw [nF2 4 2 (by decide)] at eu5
  replace eu5 := eu5.symm
  subst eu5
  refine ezw_iconst (1) rfl rfl ?_
  refine ezw_iload_n rfl rfl ?_
  refine ezw_ishl rfl (by omega) (by omega) (k := (1 * 2 ^ ((F 1 3)).toNat)) (rfl) ?_
  refine ezw_ior rfl (k := ezw_or (F 4 2) (1 * 2 ^ ((F 1 3)).toNat)) rfl ?_
  refine ezy_put_i hS rfl rfl rfl rfl rfl (ezt_DI_in di (by omega) (by omega)) (fun F6 hS mF6 nF6 => ?_)
  have trA : ezt_TR 47 (t.once (ezp_K c s.2)) F6 A := (ezt_TR_fr tr (by rw [nF6 47 15 (by decide), nF2 47 15 (by decide)]) (by rw [nF6 47 16 (by decide), nF2 47 16 (by decide)]) (by rw [nF6 47 17 (by decide), nF2 47 17 (by decide)]) (by rw [nF6 55 1 (by decide), nF2 55 1 (by decide)]) (fun _ _ _ => rfl))
  have diA : ezt_DI (t.once (ezp_K c s.2)) F6 := ezt_DI_once di w0 w1 (by rw [mF6, k3])
  have nuA : ezt_NU 47 (t.once (ezp_K c s.2)) A := nu
  refine ezw_aload_n rfl rfl ?_
  refine ezw_call0_0 rfl (by omega) (ezu_at rfl) rfl rfl rfl rfl (ezt_take hS (by omega) (by rw [nF6 1 2 (by decide), nF2 1 2 (by decide)]; exact hn) hc tp hw (ezt_ST_fr stA (fun j j0 j1 => by rw [nF6 1 j (by omega)]))) ?_
  rintro _ _ ⟨F7, rfl, hS, nF7, st_7, rfl⟩
  refine ezw_iload_n rfl rfl ?_
  refine ezw_tableswitchE (v := 12) (p := 176) (show (F 1 3) = 12 by omega) rfl (by rfl) ?_
  refine ezw_aload_n rfl rfl ?_
  refine ezw_aload_n rfl rfl ?_
  refine ezw_call2_2 rfl (by omega) rfl rfl (ezt_m72_1_47 hS (by omega) (by rw [nF7 1 2 (by decide), nF6 1 2 (by decide), nF2 1 2 (by decide)]; exact hn) hc tp hw st_7 (ezt_TR_fr trA (by rw [nF7 47 15 (by decide)]) (by rw [nF7 47 16 (by decide)]) (by rw [nF7 47 17 (by decide)]) (by rw [nF7 55 1 (by decide)]) (fun _ _ _ => rfl))) ?_
  rintro _ _ ⟨F8, A8, rfl, hS, nF8, nA8, st_8, tr_8, rfl⟩
  refine ezw_goto rfl rfl ?_
  refine ezw_aload_n rfl rfl ?_
  refine ezw_sipush (259) rfl rfl ?_
  refine ezw_call0_1 rfl (by omega) (ezu_at rfl) rfl rfl rfl rfl (ezt_m56_1 hS (by omega) ⟨by decide, by decide⟩ (by rw [nF8 1 2 (by decide), nF7 1 2 (by decide), nF6 1 2 (by decide), nF2 1 2 (by decide)]; exact hn) (by rw [nA8 2 (by decide)]; exact hc) tp (by rw [nA8 3 (by decide)]; exact hw) st_8) ?_
  rintro _ _ ⟨F9, rfl, hS, nF9, st_9, rfl⟩
  exact ezw_return rfl rfl ⟨F9, A8, rfl, hS, (fun p j h => by rw [nF9 p j (fun z => h (Or.inl ⟨z.1, z.2⟩)), nF8 p j (fun z => h (Or.inl ⟨z.1, z.2⟩)), nF7 p j (fun z => h (Or.inl ⟨z.1, (z.2.elim (fun y => (Or.inl y)) (fun y => (y.elim (fun y => (Or.inr (Or.inl y))) (fun y => (y.elim (fun y => (Or.inr (Or.inr (Or.inl y)))) (fun y => (y.elim (fun y => (Or.inr (Or.inr (Or.inr (Or.inr (Or.inl y)))))) (fun y => (y.elim (fun y => (Or.inr (Or.inr (Or.inr (Or.inr (Or.inr (Or.inl y))))))) (fun y => (Or.inr (Or.inr (Or.inr (Or.inr (Or.inr (Or.inr y))))))))))))))))⟩)), nF6 p j (fun z => h (Or.inr (Or.inl ⟨z.1, z.2⟩))), nF2 p j (fun z => h (Or.inl ⟨z.1, (Or.inr (Or.inr (Or.inr (Or.inl z.2))))⟩))]), (fun p h => by
        funext j
        rw [nA8 p (fun z => h (Or.inr (Or.inr (Or.inr (Or.inr (Or.inr (Or.inr (Or.inr (Or.inr (Or.inr (Or.inr (Or.inr (Or.inr (Or.inl z))))))))))))))]), (by
        rw [ezp_lne_1 hcz, ezp_lw_12 (w := ezp_K c s.2) (by omega)]
        exact st_9), (by
        rw [ezp_lne_1 hcz, ezp_lw_12 (w := ezp_K c s.2) (by omega)]
        exact (ezt_TR_fr tr_8 (by rw [nF9 47 15 (by decide)]) (by rw [nF9 47 16 (by decide)]) (by rw [nF9 47 17 (by decide)]) (by rw [nF9 55 1 (by decide)]) (fun _ _ _ => rfl))), (by
        rw [ezp_lne_1 hcz, ezp_lw_12 (w := ezp_K c s.2) (by omega)]
        intro z
        have z2 := ezp_0w z
        exact ezt_NU_eq nuA ezp_ovD_nu.1 (by rw [nA8 61 (by decide)])), (by
        rw [ezp_lne_1 hcz, ezp_lw_12 (w := ezp_K c s.2) (by omega)]
        intro z
        have z2 := ezp_0w z
        exact ezt_DI_eq diA ezp_ovD_nu.2 (by rw [nF9 4 2 (by decide), nF8 4 2 (by decide), nF7 4 2 (by decide)])), (by
        rw [ezp_lnl_n hcz ⟨by omega, by omega⟩]
        exact (ezt_LA_fr la (by rw [nF9 5 3 (by decide), nF8 5 3 (by decide), nF7 5 3 (by decide), nF6 5 3 (by decide), nF2 5 3 (by decide)]) (by rw [nF9 5 4 (by decide), nF8 5 4 (by decide), nF7 5 4 (by decide), nF6 5 4 (by decide), nF2 5 4 (by decide)]) (by rw [nA8 6 (by decide)]) (by rw [nF9 9 3 (by decide), nF8 9 3 (by decide), nF7 9 3 (by decide), nF6 9 3 (by decide), nF2 9 3 (by decide)]) (by rw [nF9 9 4 (by decide), nF8 9 4 (by decide), nF7 9 4 (by decide), nF6 9 4 (by decide), nF2 9 4 (by decide)]) (by rw [nA8 10 (by decide)]))), rfl⟩
def ezt_m47_4_1_47w13Q (e : Bool × Bool) (F : Nat → Nat → Int) (A : Nat → Int → Int) (c : Int → Int) (n : Int) (s : Int × Int) (t : ezp_D) (L : ezv_LL) : Option ezq_V → (Nat → ezq_C) → Prop := fun v g' => ∃ (F' : Nat → Nat → Int) (A' : Nat → Int → Int), ezu_g e F' A' = g' ∧ ezs_T F' A' ∧ (∀ p j, ¬ (p = 1 ∧ (j = 3 ∨ j = 4 ∨ j = 5 ∨ j = 6 ∨ j = 7 ∨ j = 8 ∨ j = 9) ∨ p = 4 ∧ (j = 2) ∨ p = 5 ∧ (j = 3 ∨ j = 4) ∨ p = 9 ∧ (j = 3 ∨ j = 4) ∨ p = 47 ∧ (j = 15 ∨ j = 16 ∨ j = 17) ∨ p = 55 ∧ (j = 1)) → F' p j = F p j) ∧ (∀ p, ¬ (p = 6 ∨ p = 10 ∨ p = 48 ∨ p = 49 ∨ p = 50 ∨ p = 51 ∨ p = 52 ∨ p = 53 ∨ p = 54 ∨ p = 56 ∨ p = 57 ∨ p = 58 ∨ p = 59 ∨ p = 60 ∨ p = 61) → A' p = A p) ∧ (ezt_ST c n ((ezp_lne c t s).1) F') ∧ (ezt_TR 47 ((ezp_lne c t s).2) F' A') ∧ ((ezp_lne c t s).1.1 = 0 → ezt_NU 47 (ezp_lne c t s).2 A') ∧ ((ezp_lne c t s).1.1 = 0 → ezt_DI (ezp_lne c t s).2 F') ∧ (ezt_LA (ezp_lnl c t s L) F' A') ∧ none = v
theorem ezt_m47_4_1_47w13 {c : Int → Int} {n : Int} {s : Int × Int} {t : ezp_D} {L : ezv_LL} {F : Nat → Nat → Int} {A : Nat → Int → Int} (hS : ezs_T F A) (hd : 9 ≤ d) (hn : F 1 2 = n) (hc : c = ezp_ch (A 2) n) (tp : ezp_tp c n) (hw : ∀ j, 0 ≤ j → j < 48 → A 3 j = ezl_cw.getD j.toNat 0) (st : ezt_ST c n s F) (tr : ezt_TR 47 t F A) (nu : s.1 = 0 → ezt_NU 47 t A) (di : ezt_DI t F) (la : ezt_LA L F A) (z0 : s.1 = 0) (hcz0 : (ezp_cf c t s).1 = 0) (kw : ezp_K c s.2 = 13) : ezw_C l ρ B xa Hb D cA 47 d [ezw_p 4, ezw_p 1, ezw_p 47] (ezu_g e F A) (ezt_m47_4_1_47w13Q e F A c n s t L) := by
  refine ezw_met (k := 1) rfl rfl ?_
  have hn0 := tp.1
  have hn1 := tp.2.1
  obtain ⟨sf, sk, sc, sb, sb2⟩ := id st
  have hP := ezp_Pr tp s.2
  have c3i : s.1 = 0 → F 1 3 = ezp_K c s.2 := fun z => (sc z).2.2.1
  have c8i : s.1 = 0 → F 1 8 = ezp_P c s.2 := fun z => (sc z).1
  have c4i : s.1 = 0 → ezp_K c s.2 = 101 → F 1 4 = ezp_V c s.2 := fun z => (sc z).2.2.2.1
  have c7i : s.1 = 0 → ezp_K c s.2 = 100 → F 1 7 = ezp_v 32 (ezp_W c s.2) ∧ F 1 5 = ezp_ix (ezp_W c s.2) - 44 := fun z => (sc z).2.2.2.2
  have k3 := c3i z0
  replace nu := nu z0
  clear c3i c8i c4i c7i sc
  refine ezw_aload_n rfl rfl ?_
  refine ezy_get_i hS rfl rfl rfl rfl rfl rfl (fun u1 hu1 ku1 eu1 => ?_)
  replace eu1 := eu1.symm
  subst eu1
  refine ezw_istore_n rfl rfl ?_
  refine ezw_aload_n rfl rfl ?_
  refine ezw_aload_n rfl rfl ?_
  refine ezw_aload_n rfl rfl ?_
  refine ezw_iload_n rfl rfl ?_
  refine ezw_call0_3 rfl (by omega) (ezu_at rfl) rfl rfl rfl rfl (ezt_m48_4_1_47 hS (by omega) hu1 hn hc tp st tr di z0 k3) ?_
  rintro _ _ ⟨F2, rfl, hS, nF2, st_2, rfl⟩
  refine ezw_aload_n rfl rfl ?_
  refine ezw_call0_0 rfl (by omega) (ezu_at rfl) rfl rfl rfl rfl (ezt_m45_1 hS (by omega)) ?_
  rintro _ _ ⟨rfl, u4, hu4, p3_0, p3_1, rfl⟩
  have h6 := st_2.1
  refine ezw_if_ne rfl rfl ⟨by omega, by omega⟩ (fun h16_4 => ?_) (fun h16_4 => absurd h16_4 (by omega))
  have hcz : (ezp_cf c t s).1 = 0 := st_2.1.symm.trans (p3_0 (by omega))
  obtain ⟨hcf, hcw⟩ := ezp_cf_0 hP.1 hcz
  obtain ⟨⟨w0, w1⟩, -, hk8, hk4, hkE⟩ := ezp_cf_w hcw
  clear hk8 hk4 hkE hcw
  have stA : ezt_ST c n s F2 := by
    have h7 := st_2
    rw [hcf] at h7
    exact h7
  clear hcf
  refine ezw_aload_n rfl rfl ?_
  refine ezw_dup rfl rfl ?_
  refine ezy_get_i hS rfl rfl rfl rfl rfl rfl (fun u5 hu5 ku5 eu5 => ?_)
  rw [nF2 4 2 (by decide)] at eu5
  replace eu5 := eu5.symm
  subst eu5
  refine ezw_iconst (1) rfl rfl ?_
  refine ezw_iload_n rfl rfl ?_
  refine ezw_ishl rfl (by omega) (by omega) (k := (1 * 2 ^ ((F 1 3)).toNat)) (rfl) ?_
  refine ezw_ior rfl (k := ezw_or (F 4 2) (1 * 2 ^ ((F 1 3)).toNat)) rfl ?_
  refine ezy_put_i hS rfl rfl rfl rfl rfl (ezt_DI_in di (by omega) (by omega)) (fun F6 hS mF6 nF6 => ?_)
  have trA : ezt_TR 47 (t.once (ezp_K c s.2)) F6 A := (ezt_TR_fr tr (by rw [nF6 47 15 (by decide), nF2 47 15 (by decide)]) (by rw [nF6 47 16 (by decide), nF2 47 16 (by decide)]) (by rw [nF6 47 17 (by decide), nF2 47 17 (by decide)]) (by rw [nF6 55 1 (by decide), nF2 55 1 (by decide)]) (fun _ _ _ => rfl))
  have diA : ezt_DI (t.once (ezp_K c s.2)) F6 := ezt_DI_once di w0 w1 (by rw [mF6, k3])
  have nuA : ezt_NU 47 (t.once (ezp_K c s.2)) A := nu
  refine ezw_aload_n rfl rfl ?_
  refine ezw_call0_0 rfl (by omega) (ezu_at rfl) rfl rfl rfl rfl (ezt_take hS (by omega) (by rw [nF6 1 2 (by decide), nF2 1 2 (by decide)]; exact hn) hc tp hw (ezt_ST_fr stA (fun j j0 j1 => by rw [nF6 1 j (by omega)]))) ?_
  rintro _ _ ⟨F7, rfl, hS, nF7, st_7, rfl⟩
  refine ezw_iload_n rfl rfl ?_
  refine ezw_tableswitchE (v := 13) (p := 184) (show (F 1 3) = 13 by omega) rfl (by rfl) ?_
  refine ezw_aload_n rfl rfl ?_
  refine ezw_aload_n rfl rfl ?_
  refine ezw_call2_2 rfl (by omega) rfl rfl (ezt_m75_1_47 hS (by omega) (by rw [nF7 1 2 (by decide), nF6 1 2 (by decide), nF2 1 2 (by decide)]; exact hn) hc tp hw st_7 (ezt_TR_fr trA (by rw [nF7 47 15 (by decide)]) (by rw [nF7 47 16 (by decide)]) (by rw [nF7 47 17 (by decide)]) (by rw [nF7 55 1 (by decide)]) (fun _ _ _ => rfl)) (fun _ => nuA)) ?_
  rintro _ _ ⟨F8, A8, rfl, hS, nF8, nA8, st_8, tr_8, nu_8, rfl⟩
  refine ezw_goto rfl rfl ?_
  refine ezw_aload_n rfl rfl ?_
  refine ezw_sipush (259) rfl rfl ?_
  refine ezw_call0_1 rfl (by omega) (ezu_at rfl) rfl rfl rfl rfl (ezt_m56_1 hS (by omega) ⟨by decide, by decide⟩ (by rw [nF8 1 2 (by decide), nF7 1 2 (by decide), nF6 1 2 (by decide), nF2 1 2 (by decide)]; exact hn) (by rw [nA8 2 (by decide)]; exact hc) tp (by rw [nA8 3 (by decide)]; exact hw) st_8) ?_
  rintro _ _ ⟨F9, rfl, hS, nF9, st_9, rfl⟩
  exact ezw_return rfl rfl ⟨F9, A8, rfl, hS, (fun p j h => by rw [nF9 p j (fun z => h (Or.inl ⟨z.1, z.2⟩)), nF8 p j (fun z => h (Or.inl ⟨z.1, z.2⟩)), nF7 p j (fun z => h (Or.inl ⟨z.1, (z.2.elim (fun y => (Or.inl y)) (fun y => (y.elim (fun y => (Or.inr (Or.inl y))) (fun y => (y.elim (fun y => (Or.inr (Or.inr (Or.inl y)))) (fun y => (y.elim (fun y => (Or.inr (Or.inr (Or.inr (Or.inr (Or.inl y)))))) (fun y => (y.elim (fun y => (Or.inr (Or.inr (Or.inr (Or.inr (Or.inr (Or.inl y))))))) (fun y => (Or.inr (Or.inr (Or.inr (Or.inr (Or.inr (Or.inr y))))))))))))))))⟩)), nF6 p j (fun z => h (Or.inr (Or.inl ⟨z.1, z.2⟩))), nF2 p j (fun z => h (Or.inl ⟨z.1, (Or.inr (Or.inr (Or.inr (Or.inl z.2))))⟩))]), (fun p h => by
        funext j
        rw [nA8 p (fun z => h (Or.inr (Or.inr (Or.inr (Or.inr (Or.inr (Or.inr (Or.inr (Or.inr (Or.inr (Or.inr (Or.inr (Or.inr (Or.inr (Or.inr z)))))))))))))))]), (by
        rw [ezp_lne_1 hcz, ezp_lw_13 (w := ezp_K c s.2) (by omega)]
        exact st_9), (by
        rw [ezp_lne_1 hcz, ezp_lw_13 (w := ezp_K c s.2) (by omega)]
        exact (ezt_TR_fr tr_8 (by rw [nF9 47 15 (by decide)]) (by rw [nF9 47 16 (by decide)]) (by rw [nF9 47 17 (by decide)]) (by rw [nF9 55 1 (by decide)]) (fun _ _ _ => rfl))), (by
        rw [ezp_lne_1 hcz, ezp_lw_13 (w := ezp_K c s.2) (by omega)]
        intro z
        have z2 := ezp_0w z
        exact nu_8 z2), (by
        rw [ezp_lne_1 hcz, ezp_lw_13 (w := ezp_K c s.2) (by omega)]
        intro z
        have z2 := ezp_0w z
        exact ezt_DI_eq diA ezp_wiD_di (by rw [nF9 4 2 (by decide), nF8 4 2 (by decide), nF7 4 2 (by decide)])), (by
        rw [ezp_lnl_n hcz ⟨by omega, by omega⟩]
        exact (ezt_LA_fr la (by rw [nF9 5 3 (by decide), nF8 5 3 (by decide), nF7 5 3 (by decide), nF6 5 3 (by decide), nF2 5 3 (by decide)]) (by rw [nF9 5 4 (by decide), nF8 5 4 (by decide), nF7 5 4 (by decide), nF6 5 4 (by decide), nF2 5 4 (by decide)]) (by rw [nA8 6 (by decide)]) (by rw [nF9 9 3 (by decide), nF8 9 3 (by decide), nF7 9 3 (by decide), nF6 9 3 (by decide), nF2 9 3 (by decide)]) (by rw [nF9 9 4 (by decide), nF8 9 4 (by decide), nF7 9 4 (by decide), nF6 9 4 (by decide), nF2 9 4 (by decide)]) (by rw [nA8 10 (by decide)]))), rfl⟩
def ezt_m47_4_1_47w14Q (e : Bool × Bool) (F : Nat → Nat → Int) (A : Nat → Int → Int) (c : Int → Int) (n : Int) (s : Int × Int) (t : ezp_D) (L : ezv_LL) : Option ezq_V → (Nat → ezq_C) → Prop := fun v g' => ∃ (F' : Nat → Nat → Int) (A' : Nat → Int → Int), ezu_g e F' A' = g' ∧ ezs_T F' A' ∧ (∀ p j, ¬ (p = 1 ∧ (j = 3 ∨ j = 4 ∨ j = 5 ∨ j = 6 ∨ j = 7 ∨ j = 8 ∨ j = 9) ∨ p = 4 ∧ (j = 2) ∨ p = 5 ∧ (j = 3 ∨ j = 4) ∨ p = 9 ∧ (j = 3 ∨ j = 4) ∨ p = 47 ∧ (j = 15 ∨ j = 16 ∨ j = 17) ∨ p = 55 ∧ (j = 1)) → F' p j = F p j) ∧ (∀ p, ¬ (p = 6 ∨ p = 10 ∨ p = 48 ∨ p = 49 ∨ p = 50 ∨ p = 51 ∨ p = 52 ∨ p = 53 ∨ p = 54 ∨ p = 56 ∨ p = 57 ∨ p = 58 ∨ p = 59 ∨ p = 60 ∨ p = 61) → A' p = A p) ∧ (ezt_ST c n ((ezp_lne c t s).1) F') ∧ (ezt_TR 47 ((ezp_lne c t s).2) F' A') ∧ ((ezp_lne c t s).1.1 = 0 → ezt_NU 47 (ezp_lne c t s).2 A') ∧ ((ezp_lne c t s).1.1 = 0 → ezt_DI (ezp_lne c t s).2 F') ∧ (ezt_LA (ezp_lnl c t s L) F' A') ∧ none = v
theorem ezt_m47_4_1_47w14 {c : Int → Int} {n : Int} {s : Int × Int} {t : ezp_D} {L : ezv_LL} {F : Nat → Nat → Int} {A : Nat → Int → Int} (hS : ezs_T F A) (hd : 8 ≤ d) (hn : F 1 2 = n) (hc : c = ezp_ch (A 2) n) (tp : ezp_tp c n) (hw : ∀ j, 0 ≤ j → j < 48 → A 3 j = ezl_cw.getD j.toNat 0) (st : ezt_ST c n s F) (tr : ezt_TR 47 t F A) (nu : s.1 = 0 → ezt_NU 47 t A) (di : ezt_DI t F) (la : ezt_LA L F A) (z0 : s.1 = 0) (hcz0 : (ezp_cf c t s).1 = 0) (kw : ezp_K c s.2 = 14) : ezw_C l ρ B xa Hb D cA 47 d [ezw_p 4, ezw_p 1, ezw_p 47] (ezu_g e F A) (ezt_m47_4_1_47w14Q e F A c n s t L) := by
  refine ezw_met (k := 1) rfl rfl ?_
  have hn0 := tp.1
  have hn1 := tp.2.1
  obtain ⟨sf, sk, sc, sb, sb2⟩ := id st
  have hP := ezp_Pr tp s.2
  have c3i : s.1 = 0 → F 1 3 = ezp_K c s.2 := fun z => (sc z).2.2.1
  have c8i : s.1 = 0 → F 1 8 = ezp_P c s.2 := fun z => (sc z).1
  have c4i : s.1 = 0 → ezp_K c s.2 = 101 → F 1 4 = ezp_V c s.2 := fun z => (sc z).2.2.2.1
  have c7i : s.1 = 0 → ezp_K c s.2 = 100 → F 1 7 = ezp_v 32 (ezp_W c s.2) ∧ F 1 5 = ezp_ix (ezp_W c s.2) - 44 := fun z => (sc z).2.2.2.2
  have k3 := c3i z0
  replace nu := nu z0
  clear c3i c8i c4i c7i sc
  refine ezw_aload_n rfl rfl ?_
  refine ezy_get_i hS rfl rfl rfl rfl rfl rfl (fun u1 hu1 ku1 eu1 => ?_)
  replace eu1 := eu1.symm
  subst eu1
  refine ezw_istore_n rfl rfl ?_
  refine ezw_aload_n rfl rfl ?_
  refine ezw_aload_n rfl rfl ?_
  refine ezw_aload_n rfl rfl ?_
  refine ezw_iload_n rfl rfl ?_
  refine ezw_call0_3 rfl (by omega) (ezu_at rfl) rfl rfl rfl rfl (ezt_m48_4_1_47 hS (by omega) hu1 hn hc tp st tr di z0 k3) ?_
  rintro _ _ ⟨F2, rfl, hS, nF2, st_2, rfl⟩
  refine ezw_aload_n rfl rfl ?_
  refine ezw_call0_0 rfl (by omega) (ezu_at rfl) rfl rfl rfl rfl (ezt_m45_1 hS (by omega)) ?_
  rintro _ _ ⟨rfl, u4, hu4, p3_0, p3_1, rfl⟩
  have h6 := st_2.1
  refine ezw_if_ne rfl rfl ⟨by omega, by omega⟩ (fun h16_4 => ?_) (fun h16_4 => absurd h16_4 (by omega))
  have hcz : (ezp_cf c t s).1 = 0 := st_2.1.symm.trans (p3_0 (by omega))
  obtain ⟨hcf, hcw⟩ := ezp_cf_0 hP.1 hcz
  obtain ⟨⟨w0, w1⟩, -, hk8, hk4, hkE⟩ := ezp_cf_w hcw
  clear hk8 hk4 hkE hcw
  have stA : ezt_ST c n s F2 := by
    have h7 := st_2
    rw [hcf] at h7
    exact h7
  clear hcf
  refine ezw_aload_n rfl rfl ?_
  refine ezw_dup rfl rfl ?_
  refine ezy_get_i hS rfl rfl rfl rfl rfl rfl (fun u5 hu5 ku5 eu5 => ?_)
  rw [nF2 4 2 (by decide)] at eu5
  replace eu5 := eu5.symm
  subst eu5
  refine ezw_iconst (1) rfl rfl ?_
  refine ezw_iload_n rfl rfl ?_
  refine ezw_ishl rfl (by omega) (by omega) (k := (1 * 2 ^ ((F 1 3)).toNat)) (rfl) ?_
  refine ezw_ior rfl (k := ezw_or (F 4 2) (1 * 2 ^ ((F 1 3)).toNat)) rfl ?_
  refine ezy_put_i hS rfl rfl rfl rfl rfl (ezt_DI_in di (by omega) (by omega)) (fun F6 hS mF6 nF6 => ?_)
  have trA : ezt_TR 47 (t.once (ezp_K c s.2)) F6 A := (ezt_TR_fr tr (by rw [nF6 47 15 (by decide), nF2 47 15 (by decide)]) (by rw [nF6 47 16 (by decide), nF2 47 16 (by decide)]) (by rw [nF6 47 17 (by decide), nF2 47 17 (by decide)]) (by rw [nF6 55 1 (by decide), nF2 55 1 (by decide)]) (fun _ _ _ => rfl))
  have diA : ezt_DI (t.once (ezp_K c s.2)) F6 := ezt_DI_once di w0 w1 (by rw [mF6, k3])
  have nuA : ezt_NU 47 (t.once (ezp_K c s.2)) A := nu
  refine ezw_aload_n rfl rfl ?_
  refine ezw_call0_0 rfl (by omega) (ezu_at rfl) rfl rfl rfl rfl (ezt_take hS (by omega) (by rw [nF6 1 2 (by decide), nF2 1 2 (by decide)]; exact hn) hc tp hw (ezt_ST_fr stA (fun j j0 j1 => by rw [nF6 1 j (by omega)]))) ?_
  rintro _ _ ⟨F7, rfl, hS, nF7, st_7, rfl⟩
  refine ezw_iload_n rfl rfl ?_
  refine ezw_tableswitchE (v := 14) (p := 230) (show (F 1 3) = 14 by omega) rfl (by rfl) ?_
  refine ezw_aload_n rfl rfl ?_
  refine ezw_iconst (5) rfl rfl ?_
  refine ezw_aload_n rfl rfl ?_
  refine ezw_iconst (0) rfl rfl ?_
  refine ezw_bipush (10) rfl rfl ?_
  refine ezw_call0_2 rfl (by omega) (ezu_at rfl) rfl rfl rfl rfl (ezt_m57_1 hS (by omega) ⟨by decide, by decide⟩ ⟨by decide, by decide⟩ (by rw [nF7 1 2 (by decide), nF6 1 2 (by decide), nF2 1 2 (by decide)]; exact hn) hc tp hw st_7) ?_
  rintro _ _ ⟨F8, rfl, hS, nF8, u9, hu9, st_8, v_8, p8_2, rfl⟩
  refine ezw_call0_2 rfl (by omega) (ezu_at rfl) rfl rfl rfl rfl (ezt_m69_47 hS (by omega) ⟨by decide, by decide⟩ hu9 (by omega)) ?_
  rintro _ _ ⟨A10, rfl, hS, nA10, m_10, n_10, rfl⟩
  refine ezw_goto rfl rfl ?_
  refine ezw_aload_n rfl rfl ?_
  refine ezw_sipush (259) rfl rfl ?_
  refine ezw_call0_1 rfl (by omega) (ezu_at rfl) rfl rfl rfl rfl (ezt_m56_1 hS (by omega) ⟨by decide, by decide⟩ (by rw [nF8 1 2 (by decide), nF7 1 2 (by decide), nF6 1 2 (by decide), nF2 1 2 (by decide)]; exact hn) (by rw [nA10 2 (by decide)]; exact hc) tp (by rw [nA10 3 (by decide)]; exact hw) st_8) ?_
  rintro _ _ ⟨F11, rfl, hS, nF11, st_11, rfl⟩
  exact ezw_return rfl rfl ⟨F11, A10, rfl, hS, (fun p j h => by rw [nF11 p j (fun z => h (Or.inl ⟨z.1, z.2⟩)), nF8 p j (fun z => h (Or.inl ⟨z.1, z.2⟩)), nF7 p j (fun z => h (Or.inl ⟨z.1, (z.2.elim (fun y => (Or.inl y)) (fun y => (y.elim (fun y => (Or.inr (Or.inl y))) (fun y => (y.elim (fun y => (Or.inr (Or.inr (Or.inl y)))) (fun y => (y.elim (fun y => (Or.inr (Or.inr (Or.inr (Or.inr (Or.inl y)))))) (fun y => (y.elim (fun y => (Or.inr (Or.inr (Or.inr (Or.inr (Or.inr (Or.inl y))))))) (fun y => (Or.inr (Or.inr (Or.inr (Or.inr (Or.inr (Or.inr y))))))))))))))))⟩)), nF6 p j (fun z => h (Or.inr (Or.inl ⟨z.1, z.2⟩))), nF2 p j (fun z => h (Or.inl ⟨z.1, (Or.inr (Or.inr (Or.inr (Or.inl z.2))))⟩))]), (fun p h => by
        funext j
        rw [nA10 p (fun z => h (Or.inr (Or.inr (Or.inr (Or.inr (Or.inr (Or.inr (Or.inr (Or.inr (Or.inr (Or.inr (Or.inr (Or.inr (Or.inr (Or.inr z)))))))))))))))]), (by
        rw [ezp_lne_1 hcz, ezp_lw_14 (w := ezp_K c s.2) (by omega)]
        exact st_11), (by
        rw [ezp_lne_1 hcz, ezp_lw_14 (w := ezp_K c s.2) (by omega)]
        exact (ezt_TR_say (ezt_TR_fr trA (by rw [nF11 47 15 (by decide), nF8 47 15 (by decide), nF7 47 15 (by decide)]) (by rw [nF11 47 16 (by decide), nF8 47 16 (by decide), nF7 47 16 (by decide)]) (by rw [nF11 47 17 (by decide), nF8 47 17 (by decide), nF7 47 17 (by decide)]) (by rw [nF11 55 1 (by decide), nF8 55 1 (by decide), nF7 55 1 (by decide)]) (fun k k1 k2 => by rw [nA10 (47 + k) (by omega)])))), (by
        rw [ezp_lne_1 hcz, ezp_lw_14 (w := ezp_K c s.2) (by omega)]
        intro z
        have z2 := ezp_0w z
        exact ezt_NU_say (k := 5) nuA ((m_10 (by omega) (by omega)).trans (v_8 z2).1) n_10), (by
        rw [ezp_lne_1 hcz, ezp_lw_14 (w := ezp_K c s.2) (by omega)]
        intro z
        have z2 := ezp_0w z
        exact ezt_DI_eq diA ezp_say_di (by rw [nF11 4 2 (by decide), nF8 4 2 (by decide), nF7 4 2 (by decide)])), (by
        rw [ezp_lnl_n hcz ⟨by omega, by omega⟩]
        exact (ezt_LA_fr la (by rw [nF11 5 3 (by decide), nF8 5 3 (by decide), nF7 5 3 (by decide), nF6 5 3 (by decide), nF2 5 3 (by decide)]) (by rw [nF11 5 4 (by decide), nF8 5 4 (by decide), nF7 5 4 (by decide), nF6 5 4 (by decide), nF2 5 4 (by decide)]) (by rw [nA10 6 (by decide)]) (by rw [nF11 9 3 (by decide), nF8 9 3 (by decide), nF7 9 3 (by decide), nF6 9 3 (by decide), nF2 9 3 (by decide)]) (by rw [nF11 9 4 (by decide), nF8 9 4 (by decide), nF7 9 4 (by decide), nF6 9 4 (by decide), nF2 9 4 (by decide)]) (by rw [nA10 10 (by decide)]))), rfl⟩
def ezt_m47_4_1_47w15Q (e : Bool × Bool) (F : Nat → Nat → Int) (A : Nat → Int → Int) (c : Int → Int) (n : Int) (s : Int × Int) (t : ezp_D) (L : ezv_LL) : Option ezq_V → (Nat → ezq_C) → Prop := fun v g' => ∃ (F' : Nat → Nat → Int) (A' : Nat → Int → Int), ezu_g e F' A' = g' ∧ ezs_T F' A' ∧ (∀ p j, ¬ (p = 1 ∧ (j = 3 ∨ j = 4 ∨ j = 5 ∨ j = 6 ∨ j = 7 ∨ j = 8 ∨ j = 9) ∨ p = 4 ∧ (j = 2) ∨ p = 5 ∧ (j = 3 ∨ j = 4) ∨ p = 9 ∧ (j = 3 ∨ j = 4) ∨ p = 47 ∧ (j = 15 ∨ j = 16 ∨ j = 17) ∨ p = 55 ∧ (j = 1)) → F' p j = F p j) ∧ (∀ p, ¬ (p = 6 ∨ p = 10 ∨ p = 48 ∨ p = 49 ∨ p = 50 ∨ p = 51 ∨ p = 52 ∨ p = 53 ∨ p = 54 ∨ p = 56 ∨ p = 57 ∨ p = 58 ∨ p = 59 ∨ p = 60 ∨ p = 61) → A' p = A p) ∧ (ezt_ST c n ((ezp_lne c t s).1) F') ∧ (ezt_TR 47 ((ezp_lne c t s).2) F' A') ∧ ((ezp_lne c t s).1.1 = 0 → ezt_NU 47 (ezp_lne c t s).2 A') ∧ ((ezp_lne c t s).1.1 = 0 → ezt_DI (ezp_lne c t s).2 F') ∧ (ezt_LA (ezp_lnl c t s L) F' A') ∧ none = v
theorem ezt_m47_4_1_47w15 {c : Int → Int} {n : Int} {s : Int × Int} {t : ezp_D} {L : ezv_LL} {F : Nat → Nat → Int} {A : Nat → Int → Int} (hS : ezs_T F A) (hd : 8 ≤ d) (hn : F 1 2 = n) (hc : c = ezp_ch (A 2) n) (tp : ezp_tp c n) (hw : ∀ j, 0 ≤ j → j < 48 → A 3 j = ezl_cw.getD j.toNat 0) (st : ezt_ST c n s F) (tr : ezt_TR 47 t F A) (nu : s.1 = 0 → ezt_NU 47 t A) (di : ezt_DI t F) (la : ezt_LA L F A) (z0 : s.1 = 0) (hcz0 : (ezp_cf c t s).1 = 0) (kw : ezp_K c s.2 = 15) : ezw_C l ρ B xa Hb D cA 47 d [ezw_p 4, ezw_p 1, ezw_p 47] (ezu_g e F A) (ezt_m47_4_1_47w15Q e F A c n s t L) := by
  refine ezw_met (k := 1) rfl rfl ?_
  have hn0 := tp.1
  have hn1 := tp.2.1
  obtain ⟨sf, sk, sc, sb, sb2⟩ := id st
  have hP := ezp_Pr tp s.2
  have c3i : s.1 = 0 → F 1 3 = ezp_K c s.2 := fun z => (sc z).2.2.1
  have c8i : s.1 = 0 → F 1 8 = ezp_P c s.2 := fun z => (sc z).1
  have c4i : s.1 = 0 → ezp_K c s.2 = 101 → F 1 4 = ezp_V c s.2 := fun z => (sc z).2.2.2.1
  have c7i : s.1 = 0 → ezp_K c s.2 = 100 → F 1 7 = ezp_v 32 (ezp_W c s.2) ∧ F 1 5 = ezp_ix (ezp_W c s.2) - 44 := fun z => (sc z).2.2.2.2
  have k3 := c3i z0
  replace nu := nu z0
  clear c3i c8i c4i c7i sc
  refine ezw_aload_n rfl rfl ?_
  refine ezy_get_i hS rfl rfl rfl rfl rfl rfl (fun u1 hu1 ku1 eu1 => ?_)
  replace eu1 := eu1.symm
  subst eu1
  refine ezw_istore_n rfl rfl ?_
  refine ezw_aload_n rfl rfl ?_
  refine ezw_aload_n rfl rfl ?_
  refine ezw_aload_n rfl rfl ?_
  refine ezw_iload_n rfl rfl ?_
  refine ezw_call0_3 rfl (by omega) (ezu_at rfl) rfl rfl rfl rfl (ezt_m48_4_1_47 hS (by omega) hu1 hn hc tp st tr di z0 k3) ?_
  rintro _ _ ⟨F2, rfl, hS, nF2, st_2, rfl⟩
  refine ezw_aload_n rfl rfl ?_
  refine ezw_call0_0 rfl (by omega) (ezu_at rfl) rfl rfl rfl rfl (ezt_m45_1 hS (by omega)) ?_
  rintro _ _ ⟨rfl, u4, hu4, p3_0, p3_1, rfl⟩
  have h6 := st_2.1
  refine ezw_if_ne rfl rfl ⟨by omega, by omega⟩ (fun h16_4 => ?_) (fun h16_4 => absurd h16_4 (by omega))
  have hcz : (ezp_cf c t s).1 = 0 := st_2.1.symm.trans (p3_0 (by omega))
  obtain ⟨hcf, hcw⟩ := ezp_cf_0 hP.1 hcz
  obtain ⟨⟨w0, w1⟩, -, hk8, hk4, hkE⟩ := ezp_cf_w hcw
  clear hk8 hk4 hkE hcw
  have stA : ezt_ST c n s F2 := by
    have h7 := st_2
    rw [hcf] at h7
    exact h7
  clear hcf
  refine ezw_aload_n rfl rfl ?_
  refine ezw_dup rfl rfl ?_
  refine ezy_get_i hS rfl rfl rfl rfl rfl rfl (fun u5 hu5 ku5 eu5 => ?_)
  rw [nF2 4 2 (by decide)] at eu5
  replace eu5 := eu5.symm
  subst eu5
  refine ezw_iconst (1) rfl rfl ?_
  refine ezw_iload_n rfl rfl ?_
  refine ezw_ishl rfl (by omega) (by omega) (k := (1 * 2 ^ ((F 1 3)).toNat)) (rfl) ?_
  refine ezw_ior rfl (k := ezw_or (F 4 2) (1 * 2 ^ ((F 1 3)).toNat)) rfl ?_
  refine ezy_put_i hS rfl rfl rfl rfl rfl (ezt_DI_in di (by omega) (by omega)) (fun F6 hS mF6 nF6 => ?_)
  have trA : ezt_TR 47 (t.once (ezp_K c s.2)) F6 A := (ezt_TR_fr tr (by rw [nF6 47 15 (by decide), nF2 47 15 (by decide)]) (by rw [nF6 47 16 (by decide), nF2 47 16 (by decide)]) (by rw [nF6 47 17 (by decide), nF2 47 17 (by decide)]) (by rw [nF6 55 1 (by decide), nF2 55 1 (by decide)]) (fun _ _ _ => rfl))
  have diA : ezt_DI (t.once (ezp_K c s.2)) F6 := ezt_DI_once di w0 w1 (by rw [mF6, k3])
  have nuA : ezt_NU 47 (t.once (ezp_K c s.2)) A := nu
  refine ezw_aload_n rfl rfl ?_
  refine ezw_call0_0 rfl (by omega) (ezu_at rfl) rfl rfl rfl rfl (ezt_take hS (by omega) (by rw [nF6 1 2 (by decide), nF2 1 2 (by decide)]; exact hn) hc tp hw (ezt_ST_fr stA (fun j j0 j1 => by rw [nF6 1 j (by omega)]))) ?_
  rintro _ _ ⟨F7, rfl, hS, nF7, st_7, rfl⟩
  refine ezw_iload_n rfl rfl ?_
  refine ezw_tableswitchE (v := 15) (p := 245) (show (F 1 3) = 15 by omega) rfl (by rfl) ?_
  refine ezw_aload_n rfl rfl ?_
  refine ezw_bipush (6) rfl rfl ?_
  refine ezw_aload_n rfl rfl ?_
  refine ezw_iconst (0) rfl rfl ?_
  refine ezw_bipush (9) rfl rfl ?_
  refine ezw_call0_2 rfl (by omega) (ezu_at rfl) rfl rfl rfl rfl (ezt_m57_1 hS (by omega) ⟨by decide, by decide⟩ ⟨by decide, by decide⟩ (by rw [nF7 1 2 (by decide), nF6 1 2 (by decide), nF2 1 2 (by decide)]; exact hn) hc tp hw st_7) ?_
  rintro _ _ ⟨F8, rfl, hS, nF8, u9, hu9, st_8, v_8, p8_2, rfl⟩
  refine ezw_call0_2 rfl (by omega) (ezu_at rfl) rfl rfl rfl rfl (ezt_m69_47 hS (by omega) ⟨by decide, by decide⟩ hu9 (by omega)) ?_
  rintro _ _ ⟨A10, rfl, hS, nA10, m_10, n_10, rfl⟩
  refine ezw_goto rfl rfl ?_
  refine ezw_aload_n rfl rfl ?_
  refine ezw_sipush (259) rfl rfl ?_
  refine ezw_call0_1 rfl (by omega) (ezu_at rfl) rfl rfl rfl rfl (ezt_m56_1 hS (by omega) ⟨by decide, by decide⟩ (by rw [nF8 1 2 (by decide), nF7 1 2 (by decide), nF6 1 2 (by decide), nF2 1 2 (by decide)]; exact hn) (by rw [nA10 2 (by decide)]; exact hc) tp (by rw [nA10 3 (by decide)]; exact hw) st_8) ?_
  rintro _ _ ⟨F11, rfl, hS, nF11, st_11, rfl⟩
  exact ezw_return rfl rfl ⟨F11, A10, rfl, hS, (fun p j h => by rw [nF11 p j (fun z => h (Or.inl ⟨z.1, z.2⟩)), nF8 p j (fun z => h (Or.inl ⟨z.1, z.2⟩)), nF7 p j (fun z => h (Or.inl ⟨z.1, (z.2.elim (fun y => (Or.inl y)) (fun y => (y.elim (fun y => (Or.inr (Or.inl y))) (fun y => (y.elim (fun y => (Or.inr (Or.inr (Or.inl y)))) (fun y => (y.elim (fun y => (Or.inr (Or.inr (Or.inr (Or.inr (Or.inl y)))))) (fun y => (y.elim (fun y => (Or.inr (Or.inr (Or.inr (Or.inr (Or.inr (Or.inl y))))))) (fun y => (Or.inr (Or.inr (Or.inr (Or.inr (Or.inr (Or.inr y))))))))))))))))⟩)), nF6 p j (fun z => h (Or.inr (Or.inl ⟨z.1, z.2⟩))), nF2 p j (fun z => h (Or.inl ⟨z.1, (Or.inr (Or.inr (Or.inr (Or.inl z.2))))⟩))]), (fun p h => by
        funext j
        rw [nA10 p (fun z => h (Or.inr (Or.inr (Or.inr (Or.inr (Or.inr (Or.inr (Or.inr (Or.inr (Or.inr (Or.inr (Or.inr (Or.inr (Or.inr (Or.inr z)))))))))))))))]), (by
        rw [ezp_lne_1 hcz, ezp_lw_15 (w := ezp_K c s.2) (by omega)]
        exact st_11), (by
        rw [ezp_lne_1 hcz, ezp_lw_15 (w := ezp_K c s.2) (by omega)]
        exact (ezt_TR_say (ezt_TR_fr trA (by rw [nF11 47 15 (by decide), nF8 47 15 (by decide), nF7 47 15 (by decide)]) (by rw [nF11 47 16 (by decide), nF8 47 16 (by decide), nF7 47 16 (by decide)]) (by rw [nF11 47 17 (by decide), nF8 47 17 (by decide), nF7 47 17 (by decide)]) (by rw [nF11 55 1 (by decide), nF8 55 1 (by decide), nF7 55 1 (by decide)]) (fun k k1 k2 => by rw [nA10 (47 + k) (by omega)])))), (by
        rw [ezp_lne_1 hcz, ezp_lw_15 (w := ezp_K c s.2) (by omega)]
        intro z
        have z2 := ezp_0w z
        exact ezt_NU_say (k := 6) nuA ((m_10 (by omega) (by omega)).trans (v_8 z2).1) n_10), (by
        rw [ezp_lne_1 hcz, ezp_lw_15 (w := ezp_K c s.2) (by omega)]
        intro z
        have z2 := ezp_0w z
        exact ezt_DI_eq diA ezp_say_di (by rw [nF11 4 2 (by decide), nF8 4 2 (by decide), nF7 4 2 (by decide)])), (by
        rw [ezp_lnl_n hcz ⟨by omega, by omega⟩]
        exact (ezt_LA_fr la (by rw [nF11 5 3 (by decide), nF8 5 3 (by decide), nF7 5 3 (by decide), nF6 5 3 (by decide), nF2 5 3 (by decide)]) (by rw [nF11 5 4 (by decide), nF8 5 4 (by decide), nF7 5 4 (by decide), nF6 5 4 (by decide), nF2 5 4 (by decide)]) (by rw [nA10 6 (by decide)]) (by rw [nF11 9 3 (by decide), nF8 9 3 (by decide), nF7 9 3 (by decide), nF6 9 3 (by decide), nF2 9 3 (by decide)]) (by rw [nF11 9 4 (by decide), nF8 9 4 (by decide), nF7 9 4 (by decide), nF6 9 4 (by decide), nF2 9 4 (by decide)]) (by rw [nA10 10 (by decide)]))), rfl⟩
def ezt_m47_4_1_47w16Q (e : Bool × Bool) (F : Nat → Nat → Int) (A : Nat → Int → Int) (c : Int → Int) (n : Int) (s : Int × Int) (t : ezp_D) (L : ezv_LL) : Option ezq_V → (Nat → ezq_C) → Prop := fun v g' => ∃ (F' : Nat → Nat → Int) (A' : Nat → Int → Int), ezu_g e F' A' = g' ∧ ezs_T F' A' ∧ (∀ p j, ¬ (p = 1 ∧ (j = 3 ∨ j = 4 ∨ j = 5 ∨ j = 6 ∨ j = 7 ∨ j = 8 ∨ j = 9) ∨ p = 4 ∧ (j = 2) ∨ p = 5 ∧ (j = 3 ∨ j = 4) ∨ p = 9 ∧ (j = 3 ∨ j = 4) ∨ p = 47 ∧ (j = 15 ∨ j = 16 ∨ j = 17) ∨ p = 55 ∧ (j = 1)) → F' p j = F p j) ∧ (∀ p, ¬ (p = 6 ∨ p = 10 ∨ p = 48 ∨ p = 49 ∨ p = 50 ∨ p = 51 ∨ p = 52 ∨ p = 53 ∨ p = 54 ∨ p = 56 ∨ p = 57 ∨ p = 58 ∨ p = 59 ∨ p = 60 ∨ p = 61) → A' p = A p) ∧ (ezt_ST c n ((ezp_lne c t s).1) F') ∧ (ezt_TR 47 ((ezp_lne c t s).2) F' A') ∧ ((ezp_lne c t s).1.1 = 0 → ezt_NU 47 (ezp_lne c t s).2 A') ∧ ((ezp_lne c t s).1.1 = 0 → ezt_DI (ezp_lne c t s).2 F') ∧ (ezt_LA (ezp_lnl c t s L) F' A') ∧ none = v
theorem ezt_m47_4_1_47w16 {c : Int → Int} {n : Int} {s : Int × Int} {t : ezp_D} {L : ezv_LL} {F : Nat → Nat → Int} {A : Nat → Int → Int} (hS : ezs_T F A) (hd : 9 ≤ d) (hn : F 1 2 = n) (hc : c = ezp_ch (A 2) n) (tp : ezp_tp c n) (hw : ∀ j, 0 ≤ j → j < 48 → A 3 j = ezl_cw.getD j.toNat 0) (st : ezt_ST c n s F) (tr : ezt_TR 47 t F A) (nu : s.1 = 0 → ezt_NU 47 t A) (di : ezt_DI t F) (la : ezt_LA L F A) (z0 : s.1 = 0) (hcz0 : (ezp_cf c t s).1 = 0) (kw : ezp_K c s.2 = 16) : ezw_C l ρ B xa Hb D cA 47 d [ezw_p 4, ezw_p 1, ezw_p 47] (ezu_g e F A) (ezt_m47_4_1_47w16Q e F A c n s t L) := by
  refine ezw_met (k := 1) rfl rfl ?_
  have hn0 := tp.1
  have hn1 := tp.2.1
  obtain ⟨sf, sk, sc, sb, sb2⟩ := id st
  have hP := ezp_Pr tp s.2
  have c3i : s.1 = 0 → F 1 3 = ezp_K c s.2 := fun z => (sc z).2.2.1
  have c8i : s.1 = 0 → F 1 8 = ezp_P c s.2 := fun z => (sc z).1
  have c4i : s.1 = 0 → ezp_K c s.2 = 101 → F 1 4 = ezp_V c s.2 := fun z => (sc z).2.2.2.1
  have c7i : s.1 = 0 → ezp_K c s.2 = 100 → F 1 7 = ezp_v 32 (ezp_W c s.2) ∧ F 1 5 = ezp_ix (ezp_W c s.2) - 44 := fun z => (sc z).2.2.2.2
  have k3 := c3i z0
  replace nu := nu z0
  clear c3i c8i c4i c7i sc
  refine ezw_aload_n rfl rfl ?_
  refine ezy_get_i hS rfl rfl rfl rfl rfl rfl (fun u1 hu1 ku1 eu1 => ?_)
  replace eu1 := eu1.symm
  subst eu1
  refine ezw_istore_n rfl rfl ?_
  refine ezw_aload_n rfl rfl ?_
  refine ezw_aload_n rfl rfl ?_
  refine ezw_aload_n rfl rfl ?_
  refine ezw_iload_n rfl rfl ?_
  refine ezw_call0_3 rfl (by omega) (ezu_at rfl) rfl rfl rfl rfl (ezt_m48_4_1_47 hS (by omega) hu1 hn hc tp st tr di z0 k3) ?_
  rintro _ _ ⟨F2, rfl, hS, nF2, st_2, rfl⟩
  refine ezw_aload_n rfl rfl ?_
  refine ezw_call0_0 rfl (by omega) (ezu_at rfl) rfl rfl rfl rfl (ezt_m45_1 hS (by omega)) ?_
  rintro _ _ ⟨rfl, u4, hu4, p3_0, p3_1, rfl⟩
  have h6 := st_2.1
  refine ezw_if_ne rfl rfl ⟨by omega, by omega⟩ (fun h16_4 => ?_) (fun h16_4 => absurd h16_4 (by omega))
  have hcz : (ezp_cf c t s).1 = 0 := st_2.1.symm.trans (p3_0 (by omega))
  obtain ⟨hcf, hcw⟩ := ezp_cf_0 hP.1 hcz
  obtain ⟨⟨w0, w1⟩, -, hk8, hk4, hkE⟩ := ezp_cf_w hcw
  clear hk8 hk4 hkE hcw
  have stA : ezt_ST c n s F2 := by
    have h7 := st_2
    rw [hcf] at h7
    exact h7
  clear hcf
  refine ezw_aload_n rfl rfl ?_
  refine ezw_dup rfl rfl ?_
  refine ezy_get_i hS rfl rfl rfl rfl rfl rfl (fun u5 hu5 ku5 eu5 => ?_)
  rw [nF2 4 2 (by decide)] at eu5
  replace eu5 := eu5.symm
  subst eu5
  refine ezw_iconst (1) rfl rfl ?_
  refine ezw_iload_n rfl rfl ?_
  refine ezw_ishl rfl (by omega) (by omega) (k := (1 * 2 ^ ((F 1 3)).toNat)) (rfl) ?_
  refine ezw_ior rfl (k := ezw_or (F 4 2) (1 * 2 ^ ((F 1 3)).toNat)) rfl ?_
  refine ezy_put_i hS rfl rfl rfl rfl rfl (ezt_DI_in di (by omega) (by omega)) (fun F6 hS mF6 nF6 => ?_)
  have trA : ezt_TR 47 (t.once (ezp_K c s.2)) F6 A := (ezt_TR_fr tr (by rw [nF6 47 15 (by decide), nF2 47 15 (by decide)]) (by rw [nF6 47 16 (by decide), nF2 47 16 (by decide)]) (by rw [nF6 47 17 (by decide), nF2 47 17 (by decide)]) (by rw [nF6 55 1 (by decide), nF2 55 1 (by decide)]) (fun _ _ _ => rfl))
  have diA : ezt_DI (t.once (ezp_K c s.2)) F6 := ezt_DI_once di w0 w1 (by rw [mF6, k3])
  have nuA : ezt_NU 47 (t.once (ezp_K c s.2)) A := nu
  refine ezw_aload_n rfl rfl ?_
  refine ezw_call0_0 rfl (by omega) (ezu_at rfl) rfl rfl rfl rfl (ezt_take hS (by omega) (by rw [nF6 1 2 (by decide), nF2 1 2 (by decide)]; exact hn) hc tp hw (ezt_ST_fr stA (fun j j0 j1 => by rw [nF6 1 j (by omega)]))) ?_
  rintro _ _ ⟨F7, rfl, hS, nF7, st_7, rfl⟩
  refine ezw_iload_n rfl rfl ?_
  refine ezw_tableswitchE (v := 16) (p := 192) (show (F 1 3) = 16 by omega) rfl (by rfl) ?_
  refine ezw_aload_n rfl rfl ?_
  refine ezw_aload_n rfl rfl ?_
  refine ezw_call2_2 rfl (by omega) rfl rfl (ezt_m76_1_47 hS (by omega) (by rw [nF7 1 2 (by decide), nF6 1 2 (by decide), nF2 1 2 (by decide)]; exact hn) hc tp hw st_7 (ezt_TR_fr trA (by rw [nF7 47 15 (by decide)]) (by rw [nF7 47 16 (by decide)]) (by rw [nF7 47 17 (by decide)]) (by rw [nF7 55 1 (by decide)]) (fun _ _ _ => rfl)) (fun _ => nuA)) ?_
  rintro _ _ ⟨F8, A8, rfl, hS, nF8, nA8, st_8, tr_8, nu_8, rfl⟩
  refine ezw_goto rfl rfl ?_
  refine ezw_aload_n rfl rfl ?_
  refine ezw_sipush (259) rfl rfl ?_
  refine ezw_call0_1 rfl (by omega) (ezu_at rfl) rfl rfl rfl rfl (ezt_m56_1 hS (by omega) ⟨by decide, by decide⟩ (by rw [nF8 1 2 (by decide), nF7 1 2 (by decide), nF6 1 2 (by decide), nF2 1 2 (by decide)]; exact hn) (by rw [nA8 2 (by decide)]; exact hc) tp (by rw [nA8 3 (by decide)]; exact hw) st_8) ?_
  rintro _ _ ⟨F9, rfl, hS, nF9, st_9, rfl⟩
  exact ezw_return rfl rfl ⟨F9, A8, rfl, hS, (fun p j h => by rw [nF9 p j (fun z => h (Or.inl ⟨z.1, z.2⟩)), nF8 p j (fun z => h (Or.inl ⟨z.1, z.2⟩)), nF7 p j (fun z => h (Or.inl ⟨z.1, (z.2.elim (fun y => (Or.inl y)) (fun y => (y.elim (fun y => (Or.inr (Or.inl y))) (fun y => (y.elim (fun y => (Or.inr (Or.inr (Or.inl y)))) (fun y => (y.elim (fun y => (Or.inr (Or.inr (Or.inr (Or.inr (Or.inl y)))))) (fun y => (y.elim (fun y => (Or.inr (Or.inr (Or.inr (Or.inr (Or.inr (Or.inl y))))))) (fun y => (Or.inr (Or.inr (Or.inr (Or.inr (Or.inr (Or.inr y))))))))))))))))⟩)), nF6 p j (fun z => h (Or.inr (Or.inl ⟨z.1, z.2⟩))), nF2 p j (fun z => h (Or.inl ⟨z.1, (Or.inr (Or.inr (Or.inr (Or.inl z.2))))⟩))]), (fun p h => by
        funext j
        rw [nA8 p (fun z => h (Or.inr (Or.inr (Or.inr (Or.inr (Or.inr (Or.inr (Or.inr (Or.inr (Or.inr (Or.inr (Or.inr (Or.inr (Or.inr (Or.inr z)))))))))))))))]), (by
        rw [ezp_lne_1 hcz, ezp_lw_16 (w := ezp_K c s.2) (by omega)]
        exact st_9), (by
        rw [ezp_lne_1 hcz, ezp_lw_16 (w := ezp_K c s.2) (by omega)]
        exact (ezt_TR_fr tr_8 (by rw [nF9 47 15 (by decide)]) (by rw [nF9 47 16 (by decide)]) (by rw [nF9 47 17 (by decide)]) (by rw [nF9 55 1 (by decide)]) (fun _ _ _ => rfl))), (by
        rw [ezp_lne_1 hcz, ezp_lw_16 (w := ezp_K c s.2) (by omega)]
        intro z
        have z2 := ezp_0w z
        exact nu_8 z2), (by
        rw [ezp_lne_1 hcz, ezp_lw_16 (w := ezp_K c s.2) (by omega)]
        intro z
        have z2 := ezp_0w z
        exact ezt_DI_eq diA ezp_laD_di (by rw [nF9 4 2 (by decide), nF8 4 2 (by decide), nF7 4 2 (by decide)])), (by
        rw [ezp_lnl_n hcz ⟨by omega, by omega⟩]
        exact (ezt_LA_fr la (by rw [nF9 5 3 (by decide), nF8 5 3 (by decide), nF7 5 3 (by decide), nF6 5 3 (by decide), nF2 5 3 (by decide)]) (by rw [nF9 5 4 (by decide), nF8 5 4 (by decide), nF7 5 4 (by decide), nF6 5 4 (by decide), nF2 5 4 (by decide)]) (by rw [nA8 6 (by decide)]) (by rw [nF9 9 3 (by decide), nF8 9 3 (by decide), nF7 9 3 (by decide), nF6 9 3 (by decide), nF2 9 3 (by decide)]) (by rw [nF9 9 4 (by decide), nF8 9 4 (by decide), nF7 9 4 (by decide), nF6 9 4 (by decide), nF2 9 4 (by decide)]) (by rw [nA8 10 (by decide)]))), rfl⟩
def ezt_m47_4_1_47w18Q (e : Bool × Bool) (F : Nat → Nat → Int) (A : Nat → Int → Int) (c : Int → Int) (n : Int) (s : Int × Int) (t : ezp_D) (L : ezv_LL) : Option ezq_V → (Nat → ezq_C) → Prop := fun v g' => ∃ (F' : Nat → Nat → Int) (A' : Nat → Int → Int), ezu_g e F' A' = g' ∧ ezs_T F' A' ∧ (∀ p j, ¬ (p = 1 ∧ (j = 3 ∨ j = 4 ∨ j = 5 ∨ j = 6 ∨ j = 7 ∨ j = 8 ∨ j = 9) ∨ p = 4 ∧ (j = 2) ∨ p = 5 ∧ (j = 3 ∨ j = 4) ∨ p = 9 ∧ (j = 3 ∨ j = 4) ∨ p = 47 ∧ (j = 15 ∨ j = 16 ∨ j = 17) ∨ p = 55 ∧ (j = 1)) → F' p j = F p j) ∧ (∀ p, ¬ (p = 6 ∨ p = 10 ∨ p = 48 ∨ p = 49 ∨ p = 50 ∨ p = 51 ∨ p = 52 ∨ p = 53 ∨ p = 54 ∨ p = 56 ∨ p = 57 ∨ p = 58 ∨ p = 59 ∨ p = 60 ∨ p = 61) → A' p = A p) ∧ (ezt_ST c n ((ezp_lne c t s).1) F') ∧ (ezt_TR 47 ((ezp_lne c t s).2) F' A') ∧ ((ezp_lne c t s).1.1 = 0 → ezt_NU 47 (ezp_lne c t s).2 A') ∧ ((ezp_lne c t s).1.1 = 0 → ezt_DI (ezp_lne c t s).2 F') ∧ (ezt_LA (ezp_lnl c t s L) F' A') ∧ none = v
theorem ezt_m47_4_1_47w18 {c : Int → Int} {n : Int} {s : Int × Int} {t : ezp_D} {L : ezv_LL} {F : Nat → Nat → Int} {A : Nat → Int → Int} (hS : ezs_T F A) (hd : 8 ≤ d) (hn : F 1 2 = n) (hc : c = ezp_ch (A 2) n) (tp : ezp_tp c n) (hw : ∀ j, 0 ≤ j → j < 48 → A 3 j = ezl_cw.getD j.toNat 0) (st : ezt_ST c n s F) (tr : ezt_TR 47 t F A) (nu : s.1 = 0 → ezt_NU 47 t A) (di : ezt_DI t F) (la : ezt_LA L F A) (z0 : s.1 = 0) (hcz0 : (ezp_cf c t s).1 = 0) (kw : ezp_K c s.2 = 18) : ezw_C l ρ B xa Hb D cA 47 d [ezw_p 4, ezw_p 1, ezw_p 47] (ezu_g e F A) (ezt_m47_4_1_47w18Q e F A c n s t L) := by
  refine ezw_met (k := 1) rfl rfl ?_
  have hn0 := tp.1
  have hn1 := tp.2.1
  obtain ⟨sf, sk, sc, sb, sb2⟩ := id st
  have hP := ezp_Pr tp s.2
  have c3i : s.1 = 0 → F 1 3 = ezp_K c s.2 := fun z => (sc z).2.2.1
  have c8i : s.1 = 0 → F 1 8 = ezp_P c s.2 := fun z => (sc z).1
  have c4i : s.1 = 0 → ezp_K c s.2 = 101 → F 1 4 = ezp_V c s.2 := fun z => (sc z).2.2.2.1
  have c7i : s.1 = 0 → ezp_K c s.2 = 100 → F 1 7 = ezp_v 32 (ezp_W c s.2) ∧ F 1 5 = ezp_ix (ezp_W c s.2) - 44 := fun z => (sc z).2.2.2.2
  have k3 := c3i z0
  replace nu := nu z0
  clear c3i c8i c4i c7i sc
  refine ezw_aload_n rfl rfl ?_
  refine ezy_get_i hS rfl rfl rfl rfl rfl rfl (fun u1 hu1 ku1 eu1 => ?_)
  replace eu1 := eu1.symm
  subst eu1
  refine ezw_istore_n rfl rfl ?_
  refine ezw_aload_n rfl rfl ?_
  refine ezw_aload_n rfl rfl ?_
  refine ezw_aload_n rfl rfl ?_
  refine ezw_iload_n rfl rfl ?_
  refine ezw_call0_3 rfl (by omega) (ezu_at rfl) rfl rfl rfl rfl (ezt_m48_4_1_47 hS (by omega) hu1 hn hc tp st tr di z0 k3) ?_
  rintro _ _ ⟨F2, rfl, hS, nF2, st_2, rfl⟩
  refine ezw_aload_n rfl rfl ?_
  refine ezw_call0_0 rfl (by omega) (ezu_at rfl) rfl rfl rfl rfl (ezt_m45_1 hS (by omega)) ?_
  rintro _ _ ⟨rfl, u4, hu4, p3_0, p3_1, rfl⟩
  have h6 := st_2.1
  refine ezw_if_ne rfl rfl ⟨by omega, by omega⟩ (fun h16_4 => ?_) (fun h16_4 => absurd h16_4 (by omega))
  have hcz : (ezp_cf c t s).1 = 0 := st_2.1.symm.trans (p3_0 (by omega))
  obtain ⟨hcf, hcw⟩ := ezp_cf_0 hP.1 hcz
  obtain ⟨⟨w0, w1⟩, -, hk8, hk4, hkE⟩ := ezp_cf_w hcw
  clear hk8 hk4 hkE hcw
  have stA : ezt_ST c n s F2 := by
    have h7 := st_2
    rw [hcf] at h7
    exact h7
  clear hcf
  refine ezw_aload_n rfl rfl ?_
  refine ezw_dup rfl rfl ?_
  refine ezy_get_i hS rfl rfl rfl rfl rfl rfl (fun u5 hu5 ku5 eu5 => ?_)
  rw [nF2 4 2 (by decide)] at eu5
  replace eu5 := eu5.symm
  subst eu5
  refine ezw_iconst (1) rfl rfl ?_
  refine ezw_iload_n rfl rfl ?_
  refine ezw_ishl rfl (by omega) (by omega) (k := (1 * 2 ^ ((F 1 3)).toNat)) (rfl) ?_
  refine ezw_ior rfl (k := ezw_or (F 4 2) (1 * 2 ^ ((F 1 3)).toNat)) rfl ?_
  refine ezy_put_i hS rfl rfl rfl rfl rfl (ezt_DI_in di (by omega) (by omega)) (fun F6 hS mF6 nF6 => ?_)
  have trA : ezt_TR 47 (t.once (ezp_K c s.2)) F6 A := (ezt_TR_fr tr (by rw [nF6 47 15 (by decide), nF2 47 15 (by decide)]) (by rw [nF6 47 16 (by decide), nF2 47 16 (by decide)]) (by rw [nF6 47 17 (by decide), nF2 47 17 (by decide)]) (by rw [nF6 55 1 (by decide), nF2 55 1 (by decide)]) (fun _ _ _ => rfl))
  have diA : ezt_DI (t.once (ezp_K c s.2)) F6 := ezt_DI_once di w0 w1 (by rw [mF6, k3])
  have nuA : ezt_NU 47 (t.once (ezp_K c s.2)) A := nu
  refine ezw_aload_n rfl rfl ?_
  refine ezw_call0_0 rfl (by omega) (ezu_at rfl) rfl rfl rfl rfl (ezt_take hS (by omega) (by rw [nF6 1 2 (by decide), nF2 1 2 (by decide)]; exact hn) hc tp hw (ezt_ST_fr stA (fun j j0 j1 => by rw [nF6 1 j (by omega)]))) ?_
  rintro _ _ ⟨F7, rfl, hS, nF7, st_7, rfl⟩
  refine ezw_iload_n rfl rfl ?_
  refine ezw_tableswitchE (v := 18) (p := 261) (show (F 1 3) = 18 by omega) rfl (by rfl) ?_
  refine ezw_aload_n rfl rfl ?_
  refine ezw_bipush (9) rfl rfl ?_
  refine ezw_aload_n rfl rfl ?_
  refine ezw_iconst (1) rfl rfl ?_
  refine ezw_bipush (99) rfl rfl ?_
  refine ezw_call0_2 rfl (by omega) (ezu_at rfl) rfl rfl rfl rfl (ezt_m57_1 hS (by omega) ⟨by decide, by decide⟩ ⟨by decide, by decide⟩ (by rw [nF7 1 2 (by decide), nF6 1 2 (by decide), nF2 1 2 (by decide)]; exact hn) hc tp hw st_7) ?_
  rintro _ _ ⟨F8, rfl, hS, nF8, u9, hu9, st_8, v_8, p8_2, rfl⟩
  refine ezw_call0_2 rfl (by omega) (ezu_at rfl) rfl rfl rfl rfl (ezt_m69_47 hS (by omega) ⟨by decide, by decide⟩ hu9 (by omega)) ?_
  rintro _ _ ⟨A10, rfl, hS, nA10, m_10, n_10, rfl⟩
  refine ezw_goto rfl rfl ?_
  refine ezw_aload_n rfl rfl ?_
  refine ezw_sipush (259) rfl rfl ?_
  refine ezw_call0_1 rfl (by omega) (ezu_at rfl) rfl rfl rfl rfl (ezt_m56_1 hS (by omega) ⟨by decide, by decide⟩ (by rw [nF8 1 2 (by decide), nF7 1 2 (by decide), nF6 1 2 (by decide), nF2 1 2 (by decide)]; exact hn) (by rw [nA10 2 (by decide)]; exact hc) tp (by rw [nA10 3 (by decide)]; exact hw) st_8) ?_
  rintro _ _ ⟨F11, rfl, hS, nF11, st_11, rfl⟩
  exact ezw_return rfl rfl ⟨F11, A10, rfl, hS, (fun p j h => by rw [nF11 p j (fun z => h (Or.inl ⟨z.1, z.2⟩)), nF8 p j (fun z => h (Or.inl ⟨z.1, z.2⟩)), nF7 p j (fun z => h (Or.inl ⟨z.1, (z.2.elim (fun y => (Or.inl y)) (fun y => (y.elim (fun y => (Or.inr (Or.inl y))) (fun y => (y.elim (fun y => (Or.inr (Or.inr (Or.inl y)))) (fun y => (y.elim (fun y => (Or.inr (Or.inr (Or.inr (Or.inr (Or.inl y)))))) (fun y => (y.elim (fun y => (Or.inr (Or.inr (Or.inr (Or.inr (Or.inr (Or.inl y))))))) (fun y => (Or.inr (Or.inr (Or.inr (Or.inr (Or.inr (Or.inr y))))))))))))))))⟩)), nF6 p j (fun z => h (Or.inr (Or.inl ⟨z.1, z.2⟩))), nF2 p j (fun z => h (Or.inl ⟨z.1, (Or.inr (Or.inr (Or.inr (Or.inl z.2))))⟩))]), (fun p h => by
        funext j
        rw [nA10 p (fun z => h (Or.inr (Or.inr (Or.inr (Or.inr (Or.inr (Or.inr (Or.inr (Or.inr (Or.inr (Or.inr (Or.inr (Or.inr (Or.inr (Or.inr z)))))))))))))))]), (by
        rw [ezp_lne_1 hcz, ezp_lw_18 (w := ezp_K c s.2) (by omega)]
        exact st_11), (by
        rw [ezp_lne_1 hcz, ezp_lw_18 (w := ezp_K c s.2) (by omega)]
        exact (ezt_TR_say (ezt_TR_fr trA (by rw [nF11 47 15 (by decide), nF8 47 15 (by decide), nF7 47 15 (by decide)]) (by rw [nF11 47 16 (by decide), nF8 47 16 (by decide), nF7 47 16 (by decide)]) (by rw [nF11 47 17 (by decide), nF8 47 17 (by decide), nF7 47 17 (by decide)]) (by rw [nF11 55 1 (by decide), nF8 55 1 (by decide), nF7 55 1 (by decide)]) (fun k k1 k2 => by rw [nA10 (47 + k) (by omega)])))), (by
        rw [ezp_lne_1 hcz, ezp_lw_18 (w := ezp_K c s.2) (by omega)]
        intro z
        have z2 := ezp_0w z
        exact ezt_NU_say (k := 9) nuA ((m_10 (by omega) (by omega)).trans (v_8 z2).1) n_10), (by
        rw [ezp_lne_1 hcz, ezp_lw_18 (w := ezp_K c s.2) (by omega)]
        intro z
        have z2 := ezp_0w z
        exact ezt_DI_eq diA ezp_say_di (by rw [nF11 4 2 (by decide), nF8 4 2 (by decide), nF7 4 2 (by decide)])), (by
        rw [ezp_lnl_n hcz ⟨by omega, by omega⟩]
        exact (ezt_LA_fr la (by rw [nF11 5 3 (by decide), nF8 5 3 (by decide), nF7 5 3 (by decide), nF6 5 3 (by decide), nF2 5 3 (by decide)]) (by rw [nF11 5 4 (by decide), nF8 5 4 (by decide), nF7 5 4 (by decide), nF6 5 4 (by decide), nF2 5 4 (by decide)]) (by rw [nA10 6 (by decide)]) (by rw [nF11 9 3 (by decide), nF8 9 3 (by decide), nF7 9 3 (by decide), nF6 9 3 (by decide), nF2 9 3 (by decide)]) (by rw [nF11 9 4 (by decide), nF8 9 4 (by decide), nF7 9 4 (by decide), nF6 9 4 (by decide), nF2 9 4 (by decide)]) (by rw [nA10 10 (by decide)]))), rfl⟩
def ezt_m47_4_1_47w19Q (e : Bool × Bool) (F : Nat → Nat → Int) (A : Nat → Int → Int) (c : Int → Int) (n : Int) (s : Int × Int) (t : ezp_D) (L : ezv_LL) : Option ezq_V → (Nat → ezq_C) → Prop := fun v g' => ∃ (F' : Nat → Nat → Int) (A' : Nat → Int → Int), ezu_g e F' A' = g' ∧ ezs_T F' A' ∧ (∀ p j, ¬ (p = 1 ∧ (j = 3 ∨ j = 4 ∨ j = 5 ∨ j = 6 ∨ j = 7 ∨ j = 8 ∨ j = 9) ∨ p = 4 ∧ (j = 2) ∨ p = 5 ∧ (j = 3 ∨ j = 4) ∨ p = 9 ∧ (j = 3 ∨ j = 4) ∨ p = 47 ∧ (j = 15 ∨ j = 16 ∨ j = 17) ∨ p = 55 ∧ (j = 1)) → F' p j = F p j) ∧ (∀ p, ¬ (p = 6 ∨ p = 10 ∨ p = 48 ∨ p = 49 ∨ p = 50 ∨ p = 51 ∨ p = 52 ∨ p = 53 ∨ p = 54 ∨ p = 56 ∨ p = 57 ∨ p = 58 ∨ p = 59 ∨ p = 60 ∨ p = 61) → A' p = A p) ∧ (ezt_ST c n ((ezp_lne c t s).1) F') ∧ (ezt_TR 47 ((ezp_lne c t s).2) F' A') ∧ ((ezp_lne c t s).1.1 = 0 → ezt_NU 47 (ezp_lne c t s).2 A') ∧ ((ezp_lne c t s).1.1 = 0 → ezt_DI (ezp_lne c t s).2 F') ∧ (ezt_LA (ezp_lnl c t s L) F' A') ∧ none = v
theorem ezt_m47_4_1_47w19 {c : Int → Int} {n : Int} {s : Int × Int} {t : ezp_D} {L : ezv_LL} {F : Nat → Nat → Int} {A : Nat → Int → Int} (hS : ezs_T F A) (hd : 8 ≤ d) (hn : F 1 2 = n) (hc : c = ezp_ch (A 2) n) (tp : ezp_tp c n) (hw : ∀ j, 0 ≤ j → j < 48 → A 3 j = ezl_cw.getD j.toNat 0) (st : ezt_ST c n s F) (tr : ezt_TR 47 t F A) (nu : s.1 = 0 → ezt_NU 47 t A) (di : ezt_DI t F) (la : ezt_LA L F A) (z0 : s.1 = 0) (hcz0 : (ezp_cf c t s).1 = 0) (kw : ezp_K c s.2 = 19) : ezw_C l ρ B xa Hb D cA 47 d [ezw_p 4, ezw_p 1, ezw_p 47] (ezu_g e F A) (ezt_m47_4_1_47w19Q e F A c n s t L) := by
  refine ezw_met (k := 1) rfl rfl ?_
  have hn0 := tp.1
  have hn1 := tp.2.1
  obtain ⟨sf, sk, sc, sb, sb2⟩ := id st
  have hP := ezp_Pr tp s.2
  have c3i : s.1 = 0 → F 1 3 = ezp_K c s.2 := fun z => (sc z).2.2.1
  have c8i : s.1 = 0 → F 1 8 = ezp_P c s.2 := fun z => (sc z).1
  have c4i : s.1 = 0 → ezp_K c s.2 = 101 → F 1 4 = ezp_V c s.2 := fun z => (sc z).2.2.2.1
  have c7i : s.1 = 0 → ezp_K c s.2 = 100 → F 1 7 = ezp_v 32 (ezp_W c s.2) ∧ F 1 5 = ezp_ix (ezp_W c s.2) - 44 := fun z => (sc z).2.2.2.2
  have k3 := c3i z0
  replace nu := nu z0
  clear c3i c8i c4i c7i sc
  refine ezw_aload_n rfl rfl ?_
  refine ezy_get_i hS rfl rfl rfl rfl rfl rfl (fun u1 hu1 ku1 eu1 => ?_)
  replace eu1 := eu1.symm
  subst eu1
  refine ezw_istore_n rfl rfl ?_
  refine ezw_aload_n rfl rfl ?_
  refine ezw_aload_n rfl rfl ?_
  refine ezw_aload_n rfl rfl ?_
  refine ezw_iload_n rfl rfl ?_
  refine ezw_call0_3 rfl (by omega) (ezu_at rfl) rfl rfl rfl rfl (ezt_m48_4_1_47 hS (by omega) hu1 hn hc tp st tr di z0 k3) ?_
  rintro _ _ ⟨F2, rfl, hS, nF2, st_2, rfl⟩
  refine ezw_aload_n rfl rfl ?_
  refine ezw_call0_0 rfl (by omega) (ezu_at rfl) rfl rfl rfl rfl (ezt_m45_1 hS (by omega)) ?_
  rintro _ _ ⟨rfl, u4, hu4, p3_0, p3_1, rfl⟩
  have h6 := st_2.1
  refine ezw_if_ne rfl rfl ⟨by omega, by omega⟩ (fun h16_4 => ?_) (fun h16_4 => absurd h16_4 (by omega))
  have hcz : (ezp_cf c t s).1 = 0 := st_2.1.symm.trans (p3_0 (by omega))
  obtain ⟨hcf, hcw⟩ := ezp_cf_0 hP.1 hcz
  obtain ⟨⟨w0, w1⟩, -, hk8, hk4, hkE⟩ := ezp_cf_w hcw
  clear hk8 hk4 hkE hcw
  have stA : ezt_ST c n s F2 := by
    have h7 := st_2
    rw [hcf] at h7
    exact h7
  clear hcf
  refine ezw_aload_n rfl rfl ?_
  refine ezw_dup rfl rfl ?_
  refine ezy_get_i hS rfl rfl rfl rfl rfl rfl (fun u5 hu5 ku5 eu5 => ?_)
  rw [nF2 4 2 (by decide)] at eu5
  replace eu5 := eu5.symm
  subst eu5
  refine ezw_iconst (1) rfl rfl ?_
  refine ezw_iload_n rfl rfl ?_
  refine ezw_ishl rfl (by omega) (by omega) (k := (1 * 2 ^ ((F 1 3)).toNat)) (rfl) ?_
  refine ezw_ior rfl (k := ezw_or (F 4 2) (1 * 2 ^ ((F 1 3)).toNat)) rfl ?_
  refine ezy_put_i hS rfl rfl rfl rfl rfl (ezt_DI_in di (by omega) (by omega)) (fun F6 hS mF6 nF6 => ?_)
  have trA : ezt_TR 47 (t.once (ezp_K c s.2)) F6 A := (ezt_TR_fr tr (by rw [nF6 47 15 (by decide), nF2 47 15 (by decide)]) (by rw [nF6 47 16 (by decide), nF2 47 16 (by decide)]) (by rw [nF6 47 17 (by decide), nF2 47 17 (by decide)]) (by rw [nF6 55 1 (by decide), nF2 55 1 (by decide)]) (fun _ _ _ => rfl))
  have diA : ezt_DI (t.once (ezp_K c s.2)) F6 := ezt_DI_once di w0 w1 (by rw [mF6, k3])
  have nuA : ezt_NU 47 (t.once (ezp_K c s.2)) A := nu
  refine ezw_aload_n rfl rfl ?_
  refine ezw_call0_0 rfl (by omega) (ezu_at rfl) rfl rfl rfl rfl (ezt_take hS (by omega) (by rw [nF6 1 2 (by decide), nF2 1 2 (by decide)]; exact hn) hc tp hw (ezt_ST_fr stA (fun j j0 j1 => by rw [nF6 1 j (by omega)]))) ?_
  rintro _ _ ⟨F7, rfl, hS, nF7, st_7, rfl⟩
  refine ezw_iload_n rfl rfl ?_
  refine ezw_tableswitchE (v := 19) (p := 277) (show (F 1 3) = 19 by omega) rfl (by rfl) ?_
  refine ezw_aload_n rfl rfl ?_
  refine ezw_bipush (10) rfl rfl ?_
  refine ezw_aload_n rfl rfl ?_
  refine ezw_iconst (1) rfl rfl ?_
  refine ezw_bipush (15) rfl rfl ?_
  refine ezw_call0_2 rfl (by omega) (ezu_at rfl) rfl rfl rfl rfl (ezt_m57_1 hS (by omega) ⟨by decide, by decide⟩ ⟨by decide, by decide⟩ (by rw [nF7 1 2 (by decide), nF6 1 2 (by decide), nF2 1 2 (by decide)]; exact hn) hc tp hw st_7) ?_
  rintro _ _ ⟨F8, rfl, hS, nF8, u9, hu9, st_8, v_8, p8_2, rfl⟩
  refine ezw_call0_2 rfl (by omega) (ezu_at rfl) rfl rfl rfl rfl (ezt_m69_47 hS (by omega) ⟨by decide, by decide⟩ hu9 (by omega)) ?_
  rintro _ _ ⟨A10, rfl, hS, nA10, m_10, n_10, rfl⟩
  refine ezw_aload_n rfl rfl ?_
  refine ezw_sipush (259) rfl rfl ?_
  refine ezw_call0_1 rfl (by omega) (ezu_at rfl) rfl rfl rfl rfl (ezt_m56_1 hS (by omega) ⟨by decide, by decide⟩ (by rw [nF8 1 2 (by decide), nF7 1 2 (by decide), nF6 1 2 (by decide), nF2 1 2 (by decide)]; exact hn) (by rw [nA10 2 (by decide)]; exact hc) tp (by rw [nA10 3 (by decide)]; exact hw) st_8) ?_
  rintro _ _ ⟨F11, rfl, hS, nF11, st_11, rfl⟩
  exact ezw_return rfl rfl ⟨F11, A10, rfl, hS, (fun p j h => by rw [nF11 p j (fun z => h (Or.inl ⟨z.1, z.2⟩)), nF8 p j (fun z => h (Or.inl ⟨z.1, z.2⟩)), nF7 p j (fun z => h (Or.inl ⟨z.1, (z.2.elim (fun y => (Or.inl y)) (fun y => (y.elim (fun y => (Or.inr (Or.inl y))) (fun y => (y.elim (fun y => (Or.inr (Or.inr (Or.inl y)))) (fun y => (y.elim (fun y => (Or.inr (Or.inr (Or.inr (Or.inr (Or.inl y)))))) (fun y => (y.elim (fun y => (Or.inr (Or.inr (Or.inr (Or.inr (Or.inr (Or.inl y))))))) (fun y => (Or.inr (Or.inr (Or.inr (Or.inr (Or.inr (Or.inr y))))))))))))))))⟩)), nF6 p j (fun z => h (Or.inr (Or.inl ⟨z.1, z.2⟩))), nF2 p j (fun z => h (Or.inl ⟨z.1, (Or.inr (Or.inr (Or.inr (Or.inl z.2))))⟩))]), (fun p h => by
        funext j
        rw [nA10 p (fun z => h (Or.inr (Or.inr (Or.inr (Or.inr (Or.inr (Or.inr (Or.inr (Or.inr (Or.inr (Or.inr (Or.inr (Or.inr (Or.inr (Or.inr z)))))))))))))))]), (by
        rw [ezp_lne_1 hcz, ezp_lw_19 (w := ezp_K c s.2) (by omega)]
        exact st_11), (by
        rw [ezp_lne_1 hcz, ezp_lw_19 (w := ezp_K c s.2) (by omega)]
        exact (ezt_TR_say (ezt_TR_fr trA (by rw [nF11 47 15 (by decide), nF8 47 15 (by decide), nF7 47 15 (by decide)]) (by rw [nF11 47 16 (by decide), nF8 47 16 (by decide), nF7 47 16 (by decide)]) (by rw [nF11 47 17 (by decide), nF8 47 17 (by decide), nF7 47 17 (by decide)]) (by rw [nF11 55 1 (by decide), nF8 55 1 (by decide), nF7 55 1 (by decide)]) (fun k k1 k2 => by rw [nA10 (47 + k) (by omega)])))), (by
        rw [ezp_lne_1 hcz, ezp_lw_19 (w := ezp_K c s.2) (by omega)]
        intro z
        have z2 := ezp_0w z
        exact ezt_NU_say (k := 10) nuA ((m_10 (by omega) (by omega)).trans (v_8 z2).1) n_10), (by
        rw [ezp_lne_1 hcz, ezp_lw_19 (w := ezp_K c s.2) (by omega)]
        intro z
        have z2 := ezp_0w z
        exact ezt_DI_eq diA ezp_say_di (by rw [nF11 4 2 (by decide), nF8 4 2 (by decide), nF7 4 2 (by decide)])), (by
        rw [ezp_lnl_n hcz ⟨by omega, by omega⟩]
        exact (ezt_LA_fr la (by rw [nF11 5 3 (by decide), nF8 5 3 (by decide), nF7 5 3 (by decide), nF6 5 3 (by decide), nF2 5 3 (by decide)]) (by rw [nF11 5 4 (by decide), nF8 5 4 (by decide), nF7 5 4 (by decide), nF6 5 4 (by decide), nF2 5 4 (by decide)]) (by rw [nA10 6 (by decide)]) (by rw [nF11 9 3 (by decide), nF8 9 3 (by decide), nF7 9 3 (by decide), nF6 9 3 (by decide), nF2 9 3 (by decide)]) (by rw [nF11 9 4 (by decide), nF8 9 4 (by decide), nF7 9 4 (by decide), nF6 9 4 (by decide), nF2 9 4 (by decide)]) (by rw [nA10 10 (by decide)]))), rfl⟩
def ezt_m47_4_1_47w20Q (e : Bool × Bool) (F : Nat → Nat → Int) (A : Nat → Int → Int) (c : Int → Int) (n : Int) (s : Int × Int) (t : ezp_D) (L : ezv_LL) : Option ezq_V → (Nat → ezq_C) → Prop := fun v g' => ∃ (F' : Nat → Nat → Int) (A' : Nat → Int → Int), ezu_g e F' A' = g' ∧ ezs_T F' A' ∧ (∀ p j, ¬ (p = 1 ∧ (j = 3 ∨ j = 4 ∨ j = 5 ∨ j = 6 ∨ j = 7 ∨ j = 8 ∨ j = 9) ∨ p = 4 ∧ (j = 2) ∨ p = 5 ∧ (j = 3 ∨ j = 4) ∨ p = 9 ∧ (j = 3 ∨ j = 4) ∨ p = 47 ∧ (j = 15 ∨ j = 16 ∨ j = 17) ∨ p = 55 ∧ (j = 1)) → F' p j = F p j) ∧ (∀ p, ¬ (p = 6 ∨ p = 10 ∨ p = 48 ∨ p = 49 ∨ p = 50 ∨ p = 51 ∨ p = 52 ∨ p = 53 ∨ p = 54 ∨ p = 56 ∨ p = 57 ∨ p = 58 ∨ p = 59 ∨ p = 60 ∨ p = 61) → A' p = A p) ∧ (ezt_ST c n ((ezp_lne c t s).1) F') ∧ (ezt_TR 47 ((ezp_lne c t s).2) F' A') ∧ ((ezp_lne c t s).1.1 = 0 → ezt_NU 47 (ezp_lne c t s).2 A') ∧ ((ezp_lne c t s).1.1 = 0 → ezt_DI (ezp_lne c t s).2 F') ∧ (ezt_LA (ezp_lnl c t s L) F' A') ∧ none = v
theorem ezt_m47_4_1_47w20 {c : Int → Int} {n : Int} {s : Int × Int} {t : ezp_D} {L : ezv_LL} {F : Nat → Nat → Int} {A : Nat → Int → Int} (hS : ezs_T F A) (hd : 9 ≤ d) (hn : F 1 2 = n) (hc : c = ezp_ch (A 2) n) (tp : ezp_tp c n) (hw : ∀ j, 0 ≤ j → j < 48 → A 3 j = ezl_cw.getD j.toNat 0) (st : ezt_ST c n s F) (tr : ezt_TR 47 t F A) (nu : s.1 = 0 → ezt_NU 47 t A) (di : ezt_DI t F) (la : ezt_LA L F A) (z0 : s.1 = 0) (hcz0 : (ezp_cf c t s).1 = 0) (kw : ezp_K c s.2 = 20) : ezw_C l ρ B xa Hb D cA 47 d [ezw_p 4, ezw_p 1, ezw_p 47] (ezu_g e F A) (ezt_m47_4_1_47w20Q e F A c n s t L) := by
  refine ezw_met (k := 1) rfl rfl ?_
  have hn0 := tp.1
  have hn1 := tp.2.1
  obtain ⟨sf, sk, sc, sb, sb2⟩ := id st
  have hP := ezp_Pr tp s.2
  have c3i : s.1 = 0 → F 1 3 = ezp_K c s.2 := fun z => (sc z).2.2.1
  have c8i : s.1 = 0 → F 1 8 = ezp_P c s.2 := fun z => (sc z).1
  have c4i : s.1 = 0 → ezp_K c s.2 = 101 → F 1 4 = ezp_V c s.2 := fun z => (sc z).2.2.2.1
  have c7i : s.1 = 0 → ezp_K c s.2 = 100 → F 1 7 = ezp_v 32 (ezp_W c s.2) ∧ F 1 5 = ezp_ix (ezp_W c s.2) - 44 := fun z => (sc z).2.2.2.2
  have k3 := c3i z0
  replace nu := nu z0
  clear c3i c8i c4i c7i sc
  refine ezw_aload_n rfl rfl ?_
  refine ezy_get_i hS rfl rfl rfl rfl rfl rfl (fun u1 hu1 ku1 eu1 => ?_)
  replace eu1 := eu1.symm
  subst eu1
  refine ezw_istore_n rfl rfl ?_
  refine ezw_aload_n rfl rfl ?_
  refine ezw_aload_n rfl rfl ?_
  refine ezw_aload_n rfl rfl ?_
  refine ezw_iload_n rfl rfl ?_
  refine ezw_call0_3 rfl (by omega) (ezu_at rfl) rfl rfl rfl rfl (ezt_m48_4_1_47 hS (by omega) hu1 hn hc tp st tr di z0 k3) ?_
  rintro _ _ ⟨F2, rfl, hS, nF2, st_2, rfl⟩
  refine ezw_aload_n rfl rfl ?_
  refine ezw_call0_0 rfl (by omega) (ezu_at rfl) rfl rfl rfl rfl (ezt_m45_1 hS (by omega)) ?_
  rintro _ _ ⟨rfl, u4, hu4, p3_0, p3_1, rfl⟩
  have h6 := st_2.1
  refine ezw_if_ne rfl rfl ⟨by omega, by omega⟩ (fun h16_4 => ?_) (fun h16_4 => absurd h16_4 (by omega))
  have hcz : (ezp_cf c t s).1 = 0 := st_2.1.symm.trans (p3_0 (by omega))
  obtain ⟨hcf, hcw⟩ := ezp_cf_0 hP.1 hcz
  obtain ⟨⟨w0, w1⟩, -, hk8, hk4, hkE⟩ := ezp_cf_w hcw
  replace hkE := hkE kw
  clear hk8 hk4 hcw
  have stA : ezt_ST c n s F2 := by
    have h7 := st_2
    rw [hcf] at h7
    exact h7
  clear hcf
  refine ezw_aload_n rfl rfl ?_
  refine ezw_dup rfl rfl ?_
  refine ezy_get_i hS rfl rfl rfl rfl rfl rfl (fun u5 hu5 ku5 eu5 => ?_)
  rw [nF2 4 2 (by decide)] at eu5
  replace eu5 := eu5.symm
  subst eu5
  refine ezw_iconst (1) rfl rfl ?_
  refine ezw_iload_n rfl rfl ?_
  refine ezw_ishl rfl (by omega) (by omega) (k := (1 * 2 ^ ((F 1 3)).toNat)) (rfl) ?_
  refine ezw_ior rfl (k := ezw_or (F 4 2) (1 * 2 ^ ((F 1 3)).toNat)) rfl ?_
  refine ezy_put_i hS rfl rfl rfl rfl rfl (ezt_DI_in di (by omega) (by omega)) (fun F6 hS mF6 nF6 => ?_)
  have trA : ezt_TR 47 (t.once (ezp_K c s.2)) F6 A := (ezt_TR_fr tr (by rw [nF6 47 15 (by decide), nF2 47 15 (by decide)]) (by rw [nF6 47 16 (by decide), nF2 47 16 (by decide)]) (by rw [nF6 47 17 (by decide), nF2 47 17 (by decide)]) (by rw [nF6 55 1 (by decide), nF2 55 1 (by decide)]) (fun _ _ _ => rfl))
  have diA : ezt_DI (t.once (ezp_K c s.2)) F6 := ezt_DI_once di w0 w1 (by rw [mF6, k3])
  have nuA : ezt_NU 47 (t.once (ezp_K c s.2)) A := nu
  refine ezw_aload_n rfl rfl ?_
  refine ezw_call0_0 rfl (by omega) (ezu_at rfl) rfl rfl rfl rfl (ezt_take hS (by omega) (by rw [nF6 1 2 (by decide), nF2 1 2 (by decide)]; exact hn) hc tp hw (ezt_ST_fr stA (fun j j0 j1 => by rw [nF6 1 j (by omega)]))) ?_
  rintro _ _ ⟨F7, rfl, hS, nF7, st_7, rfl⟩
  refine ezw_iload_n rfl rfl ?_
  refine ezw_tableswitchE (v := 20) (p := 200) (show (F 1 3) = 20 by omega) rfl (by rfl) ?_
  refine ezw_aload_n rfl rfl ?_
  refine ezw_aload_n rfl rfl ?_
  refine ezw_call2_2 rfl (by omega) rfl rfl (ezt_m77_1_47 hS (by omega) (by rw [nF7 1 2 (by decide), nF6 1 2 (by decide), nF2 1 2 (by decide)]; exact hn) hc tp hw st_7 (ezt_TR_fr trA (by rw [nF7 47 15 (by decide)]) (by rw [nF7 47 16 (by decide)]) (by rw [nF7 47 17 (by decide)]) (by rw [nF7 55 1 (by decide)]) (fun _ _ _ => rfl)) hkE) ?_
  rintro _ _ ⟨F8, A8, rfl, hS, nF8, nA8, st_8, tr_8, rfl⟩
  refine ezw_goto rfl rfl ?_
  refine ezw_aload_n rfl rfl ?_
  refine ezw_sipush (259) rfl rfl ?_
  refine ezw_call0_1 rfl (by omega) (ezu_at rfl) rfl rfl rfl rfl (ezt_m56_1 hS (by omega) ⟨by decide, by decide⟩ (by rw [nF8 1 2 (by decide), nF7 1 2 (by decide), nF6 1 2 (by decide), nF2 1 2 (by decide)]; exact hn) (by rw [nA8 2 (by decide)]; exact hc) tp (by rw [nA8 3 (by decide)]; exact hw) st_8) ?_
  rintro _ _ ⟨F9, rfl, hS, nF9, st_9, rfl⟩
  exact ezw_return rfl rfl ⟨F9, A8, rfl, hS, (fun p j h => by rw [nF9 p j (fun z => h (Or.inl ⟨z.1, z.2⟩)), nF8 p j (fun z => h (z.elim (fun y => (Or.inl ⟨y.1, y.2⟩)) (fun y => (Or.inr (Or.inr (Or.inr (Or.inr (Or.inr ⟨y.1, y.2⟩)))))))), nF7 p j (fun z => h (Or.inl ⟨z.1, (z.2.elim (fun y => (Or.inl y)) (fun y => (y.elim (fun y => (Or.inr (Or.inl y))) (fun y => (y.elim (fun y => (Or.inr (Or.inr (Or.inl y)))) (fun y => (y.elim (fun y => (Or.inr (Or.inr (Or.inr (Or.inr (Or.inl y)))))) (fun y => (y.elim (fun y => (Or.inr (Or.inr (Or.inr (Or.inr (Or.inr (Or.inl y))))))) (fun y => (Or.inr (Or.inr (Or.inr (Or.inr (Or.inr (Or.inr y))))))))))))))))⟩)), nF6 p j (fun z => h (Or.inr (Or.inl ⟨z.1, z.2⟩))), nF2 p j (fun z => h (Or.inl ⟨z.1, (Or.inr (Or.inr (Or.inr (Or.inl z.2))))⟩))]), (fun p h => by
        funext j
        rw [nA8 p (fun z => h (Or.inr (Or.inr (Or.inr (Or.inr (Or.inr (Or.inr (Or.inr (Or.inr (Or.inr (Or.inl z)))))))))))]), (by
        rw [ezp_lne_1 hcz, ezp_lw_20 (w := ezp_K c s.2) (by omega)]
        exact st_9), (by
        rw [ezp_lne_1 hcz, ezp_lw_20 (w := ezp_K c s.2) (by omega)]
        exact (ezt_TR_fr tr_8 (by rw [nF9 47 15 (by decide)]) (by rw [nF9 47 16 (by decide)]) (by rw [nF9 47 17 (by decide)]) (by rw [nF9 55 1 (by decide)]) (fun _ _ _ => rfl))), (by
        rw [ezp_lne_1 hcz, ezp_lw_20 (w := ezp_K c s.2) (by omega)]
        intro z
        have z2 := ezp_0w z
        exact ezt_NU_eq nuA ezp_elD_nu.1 (by rw [nA8 61 (by decide)])), (by
        rw [ezp_lne_1 hcz, ezp_lw_20 (w := ezp_K c s.2) (by omega)]
        intro z
        have z2 := ezp_0w z
        exact ezt_DI_eq diA ezp_elD_nu.2 (by rw [nF9 4 2 (by decide), nF8 4 2 (by decide), nF7 4 2 (by decide)])), (by
        rw [ezp_lnl_n hcz ⟨by omega, by omega⟩]
        exact (ezt_LA_fr la (by rw [nF9 5 3 (by decide), nF8 5 3 (by decide), nF7 5 3 (by decide), nF6 5 3 (by decide), nF2 5 3 (by decide)]) (by rw [nF9 5 4 (by decide), nF8 5 4 (by decide), nF7 5 4 (by decide), nF6 5 4 (by decide), nF2 5 4 (by decide)]) (by rw [nA8 6 (by decide)]) (by rw [nF9 9 3 (by decide), nF8 9 3 (by decide), nF7 9 3 (by decide), nF6 9 3 (by decide), nF2 9 3 (by decide)]) (by rw [nF9 9 4 (by decide), nF8 9 4 (by decide), nF7 9 4 (by decide), nF6 9 4 (by decide), nF2 9 4 (by decide)]) (by rw [nA8 10 (by decide)]))), rfl⟩
def ezt_m47_4_1_47w21Q (e : Bool × Bool) (F : Nat → Nat → Int) (A : Nat → Int → Int) (c : Int → Int) (n : Int) (s : Int × Int) (t : ezp_D) (L : ezv_LL) : Option ezq_V → (Nat → ezq_C) → Prop := fun v g' => ∃ (F' : Nat → Nat → Int) (A' : Nat → Int → Int), ezu_g e F' A' = g' ∧ ezs_T F' A' ∧ (∀ p j, ¬ (p = 1 ∧ (j = 3 ∨ j = 4 ∨ j = 5 ∨ j = 6 ∨ j = 7 ∨ j = 8 ∨ j = 9) ∨ p = 4 ∧ (j = 2) ∨ p = 5 ∧ (j = 3 ∨ j = 4) ∨ p = 9 ∧ (j = 3 ∨ j = 4) ∨ p = 47 ∧ (j = 15 ∨ j = 16 ∨ j = 17) ∨ p = 55 ∧ (j = 1)) → F' p j = F p j) ∧ (∀ p, ¬ (p = 6 ∨ p = 10 ∨ p = 48 ∨ p = 49 ∨ p = 50 ∨ p = 51 ∨ p = 52 ∨ p = 53 ∨ p = 54 ∨ p = 56 ∨ p = 57 ∨ p = 58 ∨ p = 59 ∨ p = 60 ∨ p = 61) → A' p = A p) ∧ (ezt_ST c n ((ezp_lne c t s).1) F') ∧ (ezt_TR 47 ((ezp_lne c t s).2) F' A') ∧ ((ezp_lne c t s).1.1 = 0 → ezt_NU 47 (ezp_lne c t s).2 A') ∧ ((ezp_lne c t s).1.1 = 0 → ezt_DI (ezp_lne c t s).2 F') ∧ (ezt_LA (ezp_lnl c t s L) F' A') ∧ none = v
theorem ezt_m47_4_1_47w21 {c : Int → Int} {n : Int} {s : Int × Int} {t : ezp_D} {L : ezv_LL} {F : Nat → Nat → Int} {A : Nat → Int → Int} (hS : ezs_T F A) (hd : 42 ≤ d) (hn : F 1 2 = n) (hc : c = ezp_ch (A 2) n) (tp : ezp_tp c n) (hw : ∀ j, 0 ≤ j → j < 48 → A 3 j = ezl_cw.getD j.toNat 0) (st : ezt_ST c n s F) (tr : ezt_TR 47 t F A) (nu : s.1 = 0 → ezt_NU 47 t A) (di : ezt_DI t F) (la : ezt_LA L F A) (z0 : s.1 = 0) (hcz0 : (ezp_cf c t s).1 = 0) (kw : ezp_K c s.2 = 21) : ezw_C l ρ B xa Hb D cA 47 d [ezw_p 4, ezw_p 1, ezw_p 47] (ezu_g e F A) (ezt_m47_4_1_47w21Q e F A c n s t L) := by
  refine ezw_met (k := 1) rfl rfl ?_
  have hn0 := tp.1
  have hn1 := tp.2.1
  obtain ⟨sf, sk, sc, sb, sb2⟩ := id st
  have hP := ezp_Pr tp s.2
  have c3i : s.1 = 0 → F 1 3 = ezp_K c s.2 := fun z => (sc z).2.2.1
  have c8i : s.1 = 0 → F 1 8 = ezp_P c s.2 := fun z => (sc z).1
  have c4i : s.1 = 0 → ezp_K c s.2 = 101 → F 1 4 = ezp_V c s.2 := fun z => (sc z).2.2.2.1
  have c7i : s.1 = 0 → ezp_K c s.2 = 100 → F 1 7 = ezp_v 32 (ezp_W c s.2) ∧ F 1 5 = ezp_ix (ezp_W c s.2) - 44 := fun z => (sc z).2.2.2.2
  have k3 := c3i z0
  replace nu := nu z0
  clear c3i c8i c4i c7i sc
  refine ezw_aload_n rfl rfl ?_
  refine ezy_get_i hS rfl rfl rfl rfl rfl rfl (fun u1 hu1 ku1 eu1 => ?_)
  replace eu1 := eu1.symm
  subst eu1
  refine ezw_istore_n rfl rfl ?_
  refine ezw_aload_n rfl rfl ?_
  refine ezw_aload_n rfl rfl ?_
  refine ezw_aload_n rfl rfl ?_
  refine ezw_iload_n rfl rfl ?_
  refine ezw_call0_3 rfl (by omega) (ezu_at rfl) rfl rfl rfl rfl (ezt_m48_4_1_47 hS (by omega) hu1 hn hc tp st tr di z0 k3) ?_
  rintro _ _ ⟨F2, rfl, hS, nF2, st_2, rfl⟩
  refine ezw_aload_n rfl rfl ?_
  refine ezw_call0_0 rfl (by omega) (ezu_at rfl) rfl rfl rfl rfl (ezt_m45_1 hS (by omega)) ?_
  rintro _ _ ⟨rfl, u4, hu4, p3_0, p3_1, rfl⟩
  have h6 := st_2.1
  refine ezw_if_ne rfl rfl ⟨by omega, by omega⟩ (fun h16_4 => ?_) (fun h16_4 => absurd h16_4 (by omega))
  have hcz : (ezp_cf c t s).1 = 0 := st_2.1.symm.trans (p3_0 (by omega))
  obtain ⟨hcf, hcw⟩ := ezp_cf_0 hP.1 hcz
  obtain ⟨⟨w0, w1⟩, -, hk8, hk4, hkE⟩ := ezp_cf_w hcw
  clear hk8 hk4 hkE hcw
  have stA : ezt_ST c n s F2 := by
    have h7 := st_2
    rw [hcf] at h7
    exact h7
  clear hcf
  refine ezw_aload_n rfl rfl ?_
  refine ezw_dup rfl rfl ?_
  refine ezy_get_i hS rfl rfl rfl rfl rfl rfl (fun u5 hu5 ku5 eu5 => ?_)
  rw [nF2 4 2 (by decide)] at eu5
  replace eu5 := eu5.symm
  subst eu5
  refine ezw_iconst (1) rfl rfl ?_
  refine ezw_iload_n rfl rfl ?_
  refine ezw_ishl rfl (by omega) (by omega) (k := (1 * 2 ^ ((F 1 3)).toNat)) (rfl) ?_
  refine ezw_ior rfl (k := ezw_or (F 4 2) (1 * 2 ^ ((F 1 3)).toNat)) rfl ?_
  refine ezy_put_i hS rfl rfl rfl rfl rfl (ezt_DI_in di (by omega) (by omega)) (fun F6 hS mF6 nF6 => ?_)
  have trA : ezt_TR 47 (t.once (ezp_K c s.2)) F6 A := (ezt_TR_fr tr (by rw [nF6 47 15 (by decide), nF2 47 15 (by decide)]) (by rw [nF6 47 16 (by decide), nF2 47 16 (by decide)]) (by rw [nF6 47 17 (by decide), nF2 47 17 (by decide)]) (by rw [nF6 55 1 (by decide), nF2 55 1 (by decide)]) (fun _ _ _ => rfl))
  have diA : ezt_DI (t.once (ezp_K c s.2)) F6 := ezt_DI_once di w0 w1 (by rw [mF6, k3])
  have nuA : ezt_NU 47 (t.once (ezp_K c s.2)) A := nu
  refine ezw_aload_n rfl rfl ?_
  refine ezw_call0_0 rfl (by omega) (ezu_at rfl) rfl rfl rfl rfl (ezt_take hS (by omega) (by rw [nF6 1 2 (by decide), nF2 1 2 (by decide)]; exact hn) hc tp hw (ezt_ST_fr stA (fun j j0 j1 => by rw [nF6 1 j (by omega)]))) ?_
  rintro _ _ ⟨F7, rfl, hS, nF7, st_7, rfl⟩
  refine ezw_iload_n rfl rfl ?_
  refine ezw_tableswitchE (v := 21) (p := 208) (show (F 1 3) = 21 by omega) rfl (by rfl) ?_
  refine ezw_aload_n rfl rfl ?_
  refine ezs_getp (p := 5) rfl rfl rfl rfl rfl ?_
  refine ezw_aload_n rfl rfl ?_
  refine ezw_call0_1 rfl (by omega) (ezu_at rfl) rfl rfl rfl rfl (ezt_m80_5_1 hS (by omega) (by rw [nF7 1 2 (by decide), nF6 1 2 (by decide), nF2 1 2 (by decide)]; exact hn) hc tp hw st_7) ?_
  rintro _ _ ⟨F8, A8, rfl, hS, nF8, nA8, st_8, lw_8, to_8, rfl⟩
  refine ezw_goto rfl rfl ?_
  refine ezw_aload_n rfl rfl ?_
  refine ezw_sipush (259) rfl rfl ?_
  refine ezw_call0_1 rfl (by omega) (ezu_at rfl) rfl rfl rfl rfl (ezt_m56_1 hS (by omega) ⟨by decide, by decide⟩ (by rw [nF8 1 2 (by decide), nF7 1 2 (by decide), nF6 1 2 (by decide), nF2 1 2 (by decide)]; exact hn) (by rw [nA8 2 (by decide)]; exact hc) tp (by rw [nA8 3 (by decide)]; exact hw) st_8) ?_
  rintro _ _ ⟨F9, rfl, hS, nF9, st_9, rfl⟩
  exact ezw_return rfl rfl ⟨F9, A8, rfl, hS, (fun p j h => by rw [nF9 p j (fun z => h (Or.inl ⟨z.1, z.2⟩)), nF8 p j (fun z => h (z.elim (fun y => (Or.inl ⟨y.1, y.2⟩)) (fun y => (Or.inr (Or.inr (Or.inl ⟨y.1, y.2⟩)))))), nF7 p j (fun z => h (Or.inl ⟨z.1, (z.2.elim (fun y => (Or.inl y)) (fun y => (y.elim (fun y => (Or.inr (Or.inl y))) (fun y => (y.elim (fun y => (Or.inr (Or.inr (Or.inl y)))) (fun y => (y.elim (fun y => (Or.inr (Or.inr (Or.inr (Or.inr (Or.inl y)))))) (fun y => (y.elim (fun y => (Or.inr (Or.inr (Or.inr (Or.inr (Or.inr (Or.inl y))))))) (fun y => (Or.inr (Or.inr (Or.inr (Or.inr (Or.inr (Or.inr y))))))))))))))))⟩)), nF6 p j (fun z => h (Or.inr (Or.inl ⟨z.1, z.2⟩))), nF2 p j (fun z => h (Or.inl ⟨z.1, (Or.inr (Or.inr (Or.inr (Or.inl z.2))))⟩))]), (fun p h => by
        funext j
        rw [nA8 p (fun z => h (Or.inl z))]), (by
        rw [ezp_lne_1 hcz, ezp_lw_21 (w := ezp_K c s.2) (by omega)]
        exact st_9), (by
        rw [ezp_lne_1 hcz, ezp_lw_21 (w := ezp_K c s.2) (by omega)]
        exact (ezt_TR_fr trA (by rw [nF9 47 15 (by decide), nF8 47 15 (by decide), nF7 47 15 (by decide)]) (by rw [nF9 47 16 (by decide), nF8 47 16 (by decide), nF7 47 16 (by decide)]) (by rw [nF9 47 17 (by decide), nF8 47 17 (by decide), nF7 47 17 (by decide)]) (by rw [nF9 55 1 (by decide), nF8 55 1 (by decide), nF7 55 1 (by decide)]) (fun k k1 k2 => by rw [nA8 (47 + k) (by omega)]))), (by
        rw [ezp_lne_1 hcz, ezp_lw_21 (w := ezp_K c s.2) (by omega)]
        intro z
        have z2 := ezp_0w z
        exact ezt_NU_eq nuA rfl (by rw [nA8 61 (by decide)])), (by
        rw [ezp_lne_1 hcz, ezp_lw_21 (w := ezp_K c s.2) (by omega)]
        intro z
        have z2 := ezp_0w z
        exact ezt_DI_eq diA rfl (by rw [nF9 4 2 (by decide), nF8 4 2 (by decide), nF7 4 2 (by decide)])), (by
        rw [ezp_lnl_21 hcz (by omega)]
        exact ⟨⟨Eq.trans (by rw [nF9 5 3 (by decide)]) to_8, fun _ => ezt_LW_fr lw_8 (by rw [nF9 5 4 (by decide)]) rfl⟩, ⟨Eq.trans (by rw [nF9 9 3 (by decide), nF8 9 3 (by decide), nF7 9 3 (by decide), nF6 9 3 (by decide), nF2 9 3 (by decide)]) la.2.1, fun z => ezt_LW_fr (la.2.2 z) (by rw [nF9 9 4 (by decide), nF8 9 4 (by decide), nF7 9 4 (by decide), nF6 9 4 (by decide), nF2 9 4 (by decide)]) (by rw [nA8 10 (by decide)])⟩⟩), rfl⟩
def ezt_m47_4_1_47w22Q (e : Bool × Bool) (F : Nat → Nat → Int) (A : Nat → Int → Int) (c : Int → Int) (n : Int) (s : Int × Int) (t : ezp_D) (L : ezv_LL) : Option ezq_V → (Nat → ezq_C) → Prop := fun v g' => ∃ (F' : Nat → Nat → Int) (A' : Nat → Int → Int), ezu_g e F' A' = g' ∧ ezs_T F' A' ∧ (∀ p j, ¬ (p = 1 ∧ (j = 3 ∨ j = 4 ∨ j = 5 ∨ j = 6 ∨ j = 7 ∨ j = 8 ∨ j = 9) ∨ p = 4 ∧ (j = 2) ∨ p = 5 ∧ (j = 3 ∨ j = 4) ∨ p = 9 ∧ (j = 3 ∨ j = 4) ∨ p = 47 ∧ (j = 15 ∨ j = 16 ∨ j = 17) ∨ p = 55 ∧ (j = 1)) → F' p j = F p j) ∧ (∀ p, ¬ (p = 6 ∨ p = 10 ∨ p = 48 ∨ p = 49 ∨ p = 50 ∨ p = 51 ∨ p = 52 ∨ p = 53 ∨ p = 54 ∨ p = 56 ∨ p = 57 ∨ p = 58 ∨ p = 59 ∨ p = 60 ∨ p = 61) → A' p = A p) ∧ (ezt_ST c n ((ezp_lne c t s).1) F') ∧ (ezt_TR 47 ((ezp_lne c t s).2) F' A') ∧ ((ezp_lne c t s).1.1 = 0 → ezt_NU 47 (ezp_lne c t s).2 A') ∧ ((ezp_lne c t s).1.1 = 0 → ezt_DI (ezp_lne c t s).2 F') ∧ (ezt_LA (ezp_lnl c t s L) F' A') ∧ none = v
theorem ezt_m47_4_1_47w22 {c : Int → Int} {n : Int} {s : Int × Int} {t : ezp_D} {L : ezv_LL} {F : Nat → Nat → Int} {A : Nat → Int → Int} (hS : ezs_T F A) (hd : 42 ≤ d) (hn : F 1 2 = n) (hc : c = ezp_ch (A 2) n) (tp : ezp_tp c n) (hw : ∀ j, 0 ≤ j → j < 48 → A 3 j = ezl_cw.getD j.toNat 0) (st : ezt_ST c n s F) (tr : ezt_TR 47 t F A) (nu : s.1 = 0 → ezt_NU 47 t A) (di : ezt_DI t F) (la : ezt_LA L F A) (z0 : s.1 = 0) (hcz0 : (ezp_cf c t s).1 = 0) (kw : ezp_K c s.2 = 22) : ezw_C l ρ B xa Hb D cA 47 d [ezw_p 4, ezw_p 1, ezw_p 47] (ezu_g e F A) (ezt_m47_4_1_47w22Q e F A c n s t L) := by
  refine ezw_met (k := 1) rfl rfl ?_
  have hn0 := tp.1
  have hn1 := tp.2.1
  obtain ⟨sf, sk, sc, sb, sb2⟩ := id st
  have hP := ezp_Pr tp s.2
  have c3i : s.1 = 0 → F 1 3 = ezp_K c s.2 := fun z => (sc z).2.2.1
  have c8i : s.1 = 0 → F 1 8 = ezp_P c s.2 := fun z => (sc z).1
  have c4i : s.1 = 0 → ezp_K c s.2 = 101 → F 1 4 = ezp_V c s.2 := fun z => (sc z).2.2.2.1
  have c7i : s.1 = 0 → ezp_K c s.2 = 100 → F 1 7 = ezp_v 32 (ezp_W c s.2) ∧ F 1 5 = ezp_ix (ezp_W c s.2) - 44 := fun z => (sc z).2.2.2.2
  have k3 := c3i z0
  replace nu := nu z0
  clear c3i c8i c4i c7i sc
  refine ezw_aload_n rfl rfl ?_
  refine ezy_get_i hS rfl rfl rfl rfl rfl rfl (fun u1 hu1 ku1 eu1 => ?_)
  replace eu1 := eu1.symm
  subst eu1
  refine ezw_istore_n rfl rfl ?_
  refine ezw_aload_n rfl rfl ?_
  refine ezw_aload_n rfl rfl ?_
  refine ezw_aload_n rfl rfl ?_
  refine ezw_iload_n rfl rfl ?_
  refine ezw_call0_3 rfl (by omega) (ezu_at rfl) rfl rfl rfl rfl (ezt_m48_4_1_47 hS (by omega) hu1 hn hc tp st tr di z0 k3) ?_
  rintro _ _ ⟨F2, rfl, hS, nF2, st_2, rfl⟩
  refine ezw_aload_n rfl rfl ?_
  refine ezw_call0_0 rfl (by omega) (ezu_at rfl) rfl rfl rfl rfl (ezt_m45_1 hS (by omega)) ?_
  rintro _ _ ⟨rfl, u4, hu4, p3_0, p3_1, rfl⟩
  have h6 := st_2.1
  refine ezw_if_ne rfl rfl ⟨by omega, by omega⟩ (fun h16_4 => ?_) (fun h16_4 => absurd h16_4 (by omega))
  have hcz : (ezp_cf c t s).1 = 0 := st_2.1.symm.trans (p3_0 (by omega))
  obtain ⟨hcf, hcw⟩ := ezp_cf_0 hP.1 hcz
  obtain ⟨⟨w0, w1⟩, -, hk8, hk4, hkE⟩ := ezp_cf_w hcw
  clear hk8 hk4 hkE hcw
  have stA : ezt_ST c n s F2 := by
    have h7 := st_2
    rw [hcf] at h7
    exact h7
  clear hcf
  refine ezw_aload_n rfl rfl ?_
  refine ezw_dup rfl rfl ?_
  refine ezy_get_i hS rfl rfl rfl rfl rfl rfl (fun u5 hu5 ku5 eu5 => ?_)
  rw [nF2 4 2 (by decide)] at eu5
  replace eu5 := eu5.symm
  subst eu5
  refine ezw_iconst (1) rfl rfl ?_
  refine ezw_iload_n rfl rfl ?_
  refine ezw_ishl rfl (by omega) (by omega) (k := (1 * 2 ^ ((F 1 3)).toNat)) (rfl) ?_
  refine ezw_ior rfl (k := ezw_or (F 4 2) (1 * 2 ^ ((F 1 3)).toNat)) rfl ?_
  refine ezy_put_i hS rfl rfl rfl rfl rfl (ezt_DI_in di (by omega) (by omega)) (fun F6 hS mF6 nF6 => ?_)
  have trA : ezt_TR 47 (t.once (ezp_K c s.2)) F6 A := (ezt_TR_fr tr (by rw [nF6 47 15 (by decide), nF2 47 15 (by decide)]) (by rw [nF6 47 16 (by decide), nF2 47 16 (by decide)]) (by rw [nF6 47 17 (by decide), nF2 47 17 (by decide)]) (by rw [nF6 55 1 (by decide), nF2 55 1 (by decide)]) (fun _ _ _ => rfl))
  have diA : ezt_DI (t.once (ezp_K c s.2)) F6 := ezt_DI_once di w0 w1 (by rw [mF6, k3])
  have nuA : ezt_NU 47 (t.once (ezp_K c s.2)) A := nu
  refine ezw_aload_n rfl rfl ?_
  refine ezw_call0_0 rfl (by omega) (ezu_at rfl) rfl rfl rfl rfl (ezt_take hS (by omega) (by rw [nF6 1 2 (by decide), nF2 1 2 (by decide)]; exact hn) hc tp hw (ezt_ST_fr stA (fun j j0 j1 => by rw [nF6 1 j (by omega)]))) ?_
  rintro _ _ ⟨F7, rfl, hS, nF7, st_7, rfl⟩
  refine ezw_iload_n rfl rfl ?_
  refine ezw_tableswitchE (v := 22) (p := 219) (show (F 1 3) = 22 by omega) rfl (by rfl) ?_
  refine ezw_aload_n rfl rfl ?_
  refine ezs_getp (p := 9) rfl rfl rfl rfl rfl ?_
  refine ezw_aload_n rfl rfl ?_
  refine ezw_call0_1 rfl (by omega) (ezu_at rfl) rfl rfl rfl rfl (ezt_m80_9_1 hS (by omega) (by rw [nF7 1 2 (by decide), nF6 1 2 (by decide), nF2 1 2 (by decide)]; exact hn) hc tp hw st_7) ?_
  rintro _ _ ⟨F8, A8, rfl, hS, nF8, nA8, st_8, lw_8, to_8, rfl⟩
  refine ezw_goto rfl rfl ?_
  refine ezw_aload_n rfl rfl ?_
  refine ezw_sipush (259) rfl rfl ?_
  refine ezw_call0_1 rfl (by omega) (ezu_at rfl) rfl rfl rfl rfl (ezt_m56_1 hS (by omega) ⟨by decide, by decide⟩ (by rw [nF8 1 2 (by decide), nF7 1 2 (by decide), nF6 1 2 (by decide), nF2 1 2 (by decide)]; exact hn) (by rw [nA8 2 (by decide)]; exact hc) tp (by rw [nA8 3 (by decide)]; exact hw) st_8) ?_
  rintro _ _ ⟨F9, rfl, hS, nF9, st_9, rfl⟩
  exact ezw_return rfl rfl ⟨F9, A8, rfl, hS, (fun p j h => by rw [nF9 p j (fun z => h (Or.inl ⟨z.1, z.2⟩)), nF8 p j (fun z => h (z.elim (fun y => (Or.inl ⟨y.1, y.2⟩)) (fun y => (Or.inr (Or.inr (Or.inr (Or.inl ⟨y.1, y.2⟩))))))), nF7 p j (fun z => h (Or.inl ⟨z.1, (z.2.elim (fun y => (Or.inl y)) (fun y => (y.elim (fun y => (Or.inr (Or.inl y))) (fun y => (y.elim (fun y => (Or.inr (Or.inr (Or.inl y)))) (fun y => (y.elim (fun y => (Or.inr (Or.inr (Or.inr (Or.inr (Or.inl y)))))) (fun y => (y.elim (fun y => (Or.inr (Or.inr (Or.inr (Or.inr (Or.inr (Or.inl y))))))) (fun y => (Or.inr (Or.inr (Or.inr (Or.inr (Or.inr (Or.inr y))))))))))))))))⟩)), nF6 p j (fun z => h (Or.inr (Or.inl ⟨z.1, z.2⟩))), nF2 p j (fun z => h (Or.inl ⟨z.1, (Or.inr (Or.inr (Or.inr (Or.inl z.2))))⟩))]), (fun p h => by
        funext j
        rw [nA8 p (fun z => h (Or.inr (Or.inl z)))]), (by
        rw [ezp_lne_1 hcz, ezp_lw_22 (w := ezp_K c s.2) (by omega)]
        exact st_9), (by
        rw [ezp_lne_1 hcz, ezp_lw_22 (w := ezp_K c s.2) (by omega)]
        exact (ezt_TR_fr trA (by rw [nF9 47 15 (by decide), nF8 47 15 (by decide), nF7 47 15 (by decide)]) (by rw [nF9 47 16 (by decide), nF8 47 16 (by decide), nF7 47 16 (by decide)]) (by rw [nF9 47 17 (by decide), nF8 47 17 (by decide), nF7 47 17 (by decide)]) (by rw [nF9 55 1 (by decide), nF8 55 1 (by decide), nF7 55 1 (by decide)]) (fun k k1 k2 => by rw [nA8 (47 + k) (by omega)]))), (by
        rw [ezp_lne_1 hcz, ezp_lw_22 (w := ezp_K c s.2) (by omega)]
        intro z
        have z2 := ezp_0w z
        exact ezt_NU_eq nuA rfl (by rw [nA8 61 (by decide)])), (by
        rw [ezp_lne_1 hcz, ezp_lw_22 (w := ezp_K c s.2) (by omega)]
        intro z
        have z2 := ezp_0w z
        exact ezt_DI_eq diA rfl (by rw [nF9 4 2 (by decide), nF8 4 2 (by decide), nF7 4 2 (by decide)])), (by
        rw [ezp_lnl_22 hcz (by omega)]
        exact ⟨⟨Eq.trans (by rw [nF9 5 3 (by decide), nF8 5 3 (by decide), nF7 5 3 (by decide), nF6 5 3 (by decide), nF2 5 3 (by decide)]) la.1.1, fun z => ezt_LW_fr (la.1.2 z) (by rw [nF9 5 4 (by decide), nF8 5 4 (by decide), nF7 5 4 (by decide), nF6 5 4 (by decide), nF2 5 4 (by decide)]) (by rw [nA8 6 (by decide)])⟩, ⟨Eq.trans (by rw [nF9 9 3 (by decide)]) to_8, fun _ => ezt_LW_fr lw_8 (by rw [nF9 9 4 (by decide)]) rfl⟩⟩), rfl⟩
end KT
