/-! ===== the class: tree, afternoon, feed ===== -/
def ezs_f1 (fz : Nat → Bool) : Nat → Bool := fun q => fz q || Nat.beq q 1
theorem ezs_f1I {fz : Nat → Bool} {F0 F F' : Nat → Nat → Int} {A0 A A' : Nat → Int → Int} (h : ezs_I fz F0 A0 F A) (h2 : ezs_I (ezs_f1 fz) F A F' A') : ezs_I fz F0 A0 F' A' :=
  ⟨h2.1, fun q hq => by
    have h3 := h2.2 q (by unfold ezs_f1; rw [hq]; rfl)
    have h4 := h.2 q hq
    exact ⟨h3.1.trans h4.1, h3.2.trans h4.2⟩⟩
theorem ezs_f1z {fz : Nat → Bool} {F F' : Nat → Nat → Int} {A A' : Nat → Int → Int} (h2 : ezs_I (ezs_f1 fz) F A F' A') : F' 1 = F 1 := (h2.2 1 (by show (fz 1 || true) = true; exact Bool.or_true _)).1
theorem ezs_f1A {fz : Nat → Bool} (h : ∀ q, 4 ≤ q → q < 72 → fz q = false) : ∀ q, 4 ≤ q → q < 72 → ezs_f1 fz q = false := fun q h0 h1 => by
  unfold ezs_f1
  rw [h q h0 h1, ezw_beqF (by omega)]
  rfl
def ezs_Pe (fz : Nat → Bool) (F0 : Nat → Nat → Int) (A0 : Nat → Int → Int) (R : Option ezq_V → Prop) : Option ezq_V → (Nat → ezq_C) → Prop := fun v g' => (∃ e' F' A', g' = ezu_g e' F' A' ∧ ezs_I fz F0 A0 F' A' ∧ F' 1 2 = 0) ∧ R v
theorem ezu_rf0 {e e' : Bool × Bool} {p : Nat} (h : p ≠ 0) : ezu_rf e p = ezu_rf e' p := by
  unfold ezu_rf
  split <;> first | rfl | exact absurd rfl h
theorem ezu_swTff {F : Nat → Nat → Int} {A : Nat → Int → Int} : ezw_u (ezw_u (ezu_g (false, false) F A) 0 (ezw_obj 11 (ezw_ru (ezu_rf (false, false) 0) 7 47) (F 0))) 0 (ezw_obj 11 (ezw_ru (ezw_ru (ezu_rf (false, false) 0) 7 47) 8 30) (F 0)) = ezu_g (true, false) F A := by
  funext p
  unfold ezw_u
  by_cases hp : p = 0
  · subst hp
    rw [if_pos rfl]
    rfl
  · rw [if_neg hp, if_neg hp]
    unfold ezu_g
    rw [ezu_rf0 (e := (false, false)) (e' := (true, false)) hp]
theorem ezu_swDff {F : Nat → Nat → Int} {A : Nat → Int → Int} : ezw_u (ezw_u (ezu_g (false, false) F A) 0 (ezw_obj 11 (ezw_ru (ezu_rf (false, false) 0) 9 68) (F 0))) 0 (ezw_obj 11 (ezw_ru (ezw_ru (ezu_rf (false, false) 0) 9 68) 10 64) (F 0)) = ezu_g (false, true) F A := by
  funext p
  unfold ezw_u
  by_cases hp : p = 0
  · subst hp
    rw [if_pos rfl]
    rfl
  · rw [if_neg hp, if_neg hp]
    unfold ezu_g
    rw [ezu_rf0 (e := (false, false)) (e' := (false, true)) hp]
theorem ezu_swTft {F : Nat → Nat → Int} {A : Nat → Int → Int} : ezw_u (ezw_u (ezu_g (false, true) F A) 0 (ezw_obj 11 (ezw_ru (ezu_rf (false, true) 0) 7 47) (F 0))) 0 (ezw_obj 11 (ezw_ru (ezw_ru (ezu_rf (false, true) 0) 7 47) 8 30) (F 0)) = ezu_g (true, true) F A := by
  funext p
  unfold ezw_u
  by_cases hp : p = 0
  · subst hp
    rw [if_pos rfl]
    rfl
  · rw [if_neg hp, if_neg hp]
    unfold ezu_g
    rw [ezu_rf0 (e := (false, true)) (e' := (true, true)) hp]
theorem ezu_swDft {F : Nat → Nat → Int} {A : Nat → Int → Int} : ezw_u (ezw_u (ezu_g (false, true) F A) 0 (ezw_obj 11 (ezw_ru (ezu_rf (false, true) 0) 9 64) (F 0))) 0 (ezw_obj 11 (ezw_ru (ezw_ru (ezu_rf (false, true) 0) 9 64) 10 68) (F 0)) = ezu_g (false, false) F A := by
  funext p
  unfold ezw_u
  by_cases hp : p = 0
  · subst hp
    rw [if_pos rfl]
    rfl
  · rw [if_neg hp, if_neg hp]
    unfold ezu_g
    rw [ezu_rf0 (e := (false, true)) (e' := (false, false)) hp]
theorem ezu_swTtf {F : Nat → Nat → Int} {A : Nat → Int → Int} : ezw_u (ezw_u (ezu_g (true, false) F A) 0 (ezw_obj 11 (ezw_ru (ezu_rf (true, false) 0) 7 30) (F 0))) 0 (ezw_obj 11 (ezw_ru (ezw_ru (ezu_rf (true, false) 0) 7 30) 8 47) (F 0)) = ezu_g (false, false) F A := by
  funext p
  unfold ezw_u
  by_cases hp : p = 0
  · subst hp
    rw [if_pos rfl]
    rfl
  · rw [if_neg hp, if_neg hp]
    unfold ezu_g
    rw [ezu_rf0 (e := (true, false)) (e' := (false, false)) hp]
theorem ezu_swDtf {F : Nat → Nat → Int} {A : Nat → Int → Int} : ezw_u (ezw_u (ezu_g (true, false) F A) 0 (ezw_obj 11 (ezw_ru (ezu_rf (true, false) 0) 9 68) (F 0))) 0 (ezw_obj 11 (ezw_ru (ezw_ru (ezu_rf (true, false) 0) 9 68) 10 64) (F 0)) = ezu_g (true, true) F A := by
  funext p
  unfold ezw_u
  by_cases hp : p = 0
  · subst hp
    rw [if_pos rfl]
    rfl
  · rw [if_neg hp, if_neg hp]
    unfold ezu_g
    rw [ezu_rf0 (e := (true, false)) (e' := (true, true)) hp]
theorem ezu_swTtt {F : Nat → Nat → Int} {A : Nat → Int → Int} : ezw_u (ezw_u (ezu_g (true, true) F A) 0 (ezw_obj 11 (ezw_ru (ezu_rf (true, true) 0) 7 30) (F 0))) 0 (ezw_obj 11 (ezw_ru (ezw_ru (ezu_rf (true, true) 0) 7 30) 8 47) (F 0)) = ezu_g (false, true) F A := by
  funext p
  unfold ezw_u
  by_cases hp : p = 0
  · subst hp
    rw [if_pos rfl]
    rfl
  · rw [if_neg hp, if_neg hp]
    unfold ezu_g
    rw [ezu_rf0 (e := (true, true)) (e' := (false, true)) hp]
theorem ezu_swDtt {F : Nat → Nat → Int} {A : Nat → Int → Int} : ezw_u (ezw_u (ezu_g (true, true) F A) 0 (ezw_obj 11 (ezw_ru (ezu_rf (true, true) 0) 9 64) (F 0))) 0 (ezw_obj 11 (ezw_ru (ezw_ru (ezu_rf (true, true) 0) 9 64) 10 68) (F 0)) = ezu_g (true, false) F A := by
  funext p
  unfold ezw_u
  by_cases hp : p = 0
  · subst hp
    rw [if_pos rfl]
    rfl
  · rw [if_neg hp, if_neg hp]
    unfold ezu_g
    rw [ezu_rf0 (e := (true, true)) (e' := (true, false)) hp]
section KM
variable {l : Launch} {ρ : ezq_E} {B : Nat} {xa : Nat → Option Nat} {Hb : Heap} {D : va_G} {cA : Nat → ClassId} {d : Nat} {e : Bool × Bool} {fz : Nat → Bool} {F0 : Nat → Nat → Int} {A0 : Nat → Int → Int}
theorem ezs_tree_ff {F : Nat → Nat → Int} {A : Nat → Int → Int} (hI : ezs_I fz F0 A0 F A) (hd : 42 ≤ d) (hzA : ∀ q, 4 ≤ q → q < 72 → fz q = false) (hzT : fz 1 = false) : ezw_C l ρ B xa Hb D cA 22 d [ezw_p 0] (ezu_g (false, false) F A) (ezs_Pe fz F0 A0 ezs_ri) := by
  refine ezw_met (k := 2) rfl rfl ?_
  refine ezw_aload_n rfl rfl ?_
  refine ezs_getp (p := 4) rfl rfl rfl rfl rfl ?_
  refine ezw_aload_n rfl rfl ?_
  refine ezs_getp (p := 1) rfl rfl rfl rfl rfl ?_
  refine ezw_aload_n rfl rfl ?_
  refine ezs_getp (p := 47) rfl rfl rfl rfl rfl ?_
  refine ezw_call0_2 rfl (by omega) (ezu_at rfl) rfl rfl rfl rfl (ezs_m23_4_1_47 hI (by omega) hzA hzT) ?_
  rintro _ _ ⟨⟨F, A, rfl, hI, hz0⟩, u, hu, rfl⟩
  refine ezw_istore_n rfl rfl ?_
  refine ezw_iload_n rfl rfl ?_
  refine ezw_if_ne rfl rfl hu (fun h => ?_) (fun h => ?_)
  · refine ezw_iload_n rfl rfl ?_
    exact ezw_ireturn rfl rfl ⟨⟨_, F, A, rfl, hI, hz0⟩, u, hu, rfl⟩
  · refine ezw_aload_n rfl rfl ?_
    refine ezs_getp (p := 30) rfl rfl rfl rfl rfl ?_
    refine ezw_astore_n rfl rfl ?_
    refine ezw_aload_n rfl rfl ?_
    refine ezw_aload_n rfl rfl ?_
    refine ezs_getp (p := 47) rfl rfl rfl rfl rfl ?_
    refine ezw_putf_a rfl (ezu_at rfl) rfl rfl rfl ?_
    refine ezw_aload_n rfl rfl ?_
    refine ezw_aload_n rfl rfl ?_
    refine ezw_putf_a rfl (if_pos rfl) rfl rfl rfl ?_
    rw [ezu_swTff]
    have hf : ezs_I (ezs_f1 fz) F A F A := ⟨hI.1, fun _ _ => ⟨rfl, rfl⟩⟩
    have hg := ezs_f1A hzA
    refine ezw_aload_n rfl rfl ?_
    refine ezs_getp (p := 13) rfl rfl rfl rfl rfl ?_
    refine ezw_aload_n rfl rfl ?_
    refine ezs_getp (p := 47) rfl rfl rfl rfl rfl ?_
    refine ezw_call0_1 rfl (by omega) (ezu_at rfl) rfl rfl rfl rfl (ezs_m94_13_47 hf (by omega) hg) ?_
    rintro _ _ ⟨⟨F1, A1, rfl, hf⟩, rfl⟩
    refine ezw_aload_n rfl rfl ?_
    refine ezs_getp (p := 16) rfl rfl rfl rfl rfl ?_
    refine ezw_call0_0 rfl (by omega) (ezu_at rfl) rfl rfl rfl rfl (ezs_m96_16 hf (by omega) hg) ?_
    rintro _ _ ⟨⟨F1, A1, rfl, hf⟩, rfl⟩
    refine ezw_aload_n rfl rfl ?_
    refine ezs_getp (p := 18) rfl rfl rfl rfl rfl ?_
    refine ezw_call0_0 rfl (by omega) (ezu_at rfl) rfl rfl rfl rfl (ezs_m97_18 hf (by omega) hg) ?_
    rintro _ _ ⟨⟨F1, A1, rfl, hf⟩, rfl⟩
    refine ezw_aload_n rfl rfl ?_
    refine ezs_getp (p := 64) rfl rfl rfl rfl rfl ?_
    refine ezw_call0_0 rfl (by omega) (ezu_at rfl) rfl rfl rfl rfl (ezs_m98_64 hf (by omega) hg) ?_
    rintro _ _ ⟨⟨F1, A1, rfl, hf⟩, rfl⟩
    refine ezw_iload_n rfl rfl ?_
    exact ezw_ireturn rfl rfl ⟨⟨_, F1, A1, rfl, ezs_f1I hI hf, by rw [ezs_f1z hf]; exact hz0⟩, u, hu, rfl⟩
theorem ezs_aft_ff {F : Nat → Nat → Int} {A : Nat → Int → Int} (hI : ezs_I fz F0 A0 F A) (hd : 10 ≤ d) (hzA : ∀ q, 4 ≤ q → q < 72 → fz q = false) (hzT : fz 1 = false) : ezw_C l ρ B xa Hb D cA 99 d [ezw_p 0] (ezu_g (false, false) F A) (ezs_Pe fz F0 A0 ezs_ri) := by
  refine ezw_met (k := 2) rfl rfl ?_
  refine ezw_aload_n rfl rfl ?_
  refine ezs_getp (p := 68) rfl rfl rfl rfl rfl ?_
  refine ezw_aload_n rfl rfl ?_
  refine ezs_getp (p := 1) rfl rfl rfl rfl rfl ?_
  refine ezw_aload_n rfl rfl ?_
  refine ezs_getp (p := 30) rfl rfl rfl rfl rfl ?_
  refine ezw_call0_2 rfl (by omega) (ezu_at rfl) rfl rfl rfl rfl (ezs_m100_68_1_30 hI (by omega) hzA hzT) ?_
  rintro _ _ ⟨⟨F, A, rfl, hI, hz0⟩, u, hu, rfl⟩
  refine ezw_istore_n rfl rfl ?_
  refine ezw_iload_n rfl rfl ?_
  refine ezw_if_ne rfl rfl hu (fun h => ?_) (fun h => ?_)
  · refine ezw_iload_n rfl rfl ?_
    exact ezw_ireturn rfl rfl ⟨⟨_, F, A, rfl, hI, hz0⟩, u, hu, rfl⟩
  · refine ezw_aload_n rfl rfl ?_
    refine ezs_getp (p := 64) rfl rfl rfl rfl rfl ?_
    refine ezw_astore_n rfl rfl ?_
    refine ezw_aload_n rfl rfl ?_
    refine ezw_aload_n rfl rfl ?_
    refine ezs_getp (p := 68) rfl rfl rfl rfl rfl ?_
    refine ezw_putf_a rfl (ezu_at rfl) rfl rfl rfl ?_
    refine ezw_aload_n rfl rfl ?_
    refine ezw_aload_n rfl rfl ?_
    refine ezw_putf_a rfl (if_pos rfl) rfl rfl rfl ?_
    rw [ezu_swDff]
    refine ezw_iload_n rfl rfl ?_
    exact ezw_ireturn rfl rfl ⟨⟨_, F, A, rfl, hI, hz0⟩, u, hu, rfl⟩
theorem ezs_tree_ft {F : Nat → Nat → Int} {A : Nat → Int → Int} (hI : ezs_I fz F0 A0 F A) (hd : 42 ≤ d) (hzA : ∀ q, 4 ≤ q → q < 72 → fz q = false) (hzT : fz 1 = false) : ezw_C l ρ B xa Hb D cA 22 d [ezw_p 0] (ezu_g (false, true) F A) (ezs_Pe fz F0 A0 ezs_ri) := by
  refine ezw_met (k := 2) rfl rfl ?_
  refine ezw_aload_n rfl rfl ?_
  refine ezs_getp (p := 4) rfl rfl rfl rfl rfl ?_
  refine ezw_aload_n rfl rfl ?_
  refine ezs_getp (p := 1) rfl rfl rfl rfl rfl ?_
  refine ezw_aload_n rfl rfl ?_
  refine ezs_getp (p := 47) rfl rfl rfl rfl rfl ?_
  refine ezw_call0_2 rfl (by omega) (ezu_at rfl) rfl rfl rfl rfl (ezs_m23_4_1_47 hI (by omega) hzA hzT) ?_
  rintro _ _ ⟨⟨F, A, rfl, hI, hz0⟩, u, hu, rfl⟩
  refine ezw_istore_n rfl rfl ?_
  refine ezw_iload_n rfl rfl ?_
  refine ezw_if_ne rfl rfl hu (fun h => ?_) (fun h => ?_)
  · refine ezw_iload_n rfl rfl ?_
    exact ezw_ireturn rfl rfl ⟨⟨_, F, A, rfl, hI, hz0⟩, u, hu, rfl⟩
  · refine ezw_aload_n rfl rfl ?_
    refine ezs_getp (p := 30) rfl rfl rfl rfl rfl ?_
    refine ezw_astore_n rfl rfl ?_
    refine ezw_aload_n rfl rfl ?_
    refine ezw_aload_n rfl rfl ?_
    refine ezs_getp (p := 47) rfl rfl rfl rfl rfl ?_
    refine ezw_putf_a rfl (ezu_at rfl) rfl rfl rfl ?_
    refine ezw_aload_n rfl rfl ?_
    refine ezw_aload_n rfl rfl ?_
    refine ezw_putf_a rfl (if_pos rfl) rfl rfl rfl ?_
    rw [ezu_swTft]
    have hf : ezs_I (ezs_f1 fz) F A F A := ⟨hI.1, fun _ _ => ⟨rfl, rfl⟩⟩
    have hg := ezs_f1A hzA
    refine ezw_aload_n rfl rfl ?_
    refine ezs_getp (p := 13) rfl rfl rfl rfl rfl ?_
    refine ezw_aload_n rfl rfl ?_
    refine ezs_getp (p := 47) rfl rfl rfl rfl rfl ?_
    refine ezw_call0_1 rfl (by omega) (ezu_at rfl) rfl rfl rfl rfl (ezs_m94_13_47 hf (by omega) hg) ?_
    rintro _ _ ⟨⟨F1, A1, rfl, hf⟩, rfl⟩
    refine ezw_aload_n rfl rfl ?_
    refine ezs_getp (p := 16) rfl rfl rfl rfl rfl ?_
    refine ezw_call0_0 rfl (by omega) (ezu_at rfl) rfl rfl rfl rfl (ezs_m96_16 hf (by omega) hg) ?_
    rintro _ _ ⟨⟨F1, A1, rfl, hf⟩, rfl⟩
    refine ezw_aload_n rfl rfl ?_
    refine ezs_getp (p := 18) rfl rfl rfl rfl rfl ?_
    refine ezw_call0_0 rfl (by omega) (ezu_at rfl) rfl rfl rfl rfl (ezs_m97_18 hf (by omega) hg) ?_
    rintro _ _ ⟨⟨F1, A1, rfl, hf⟩, rfl⟩
    refine ezw_aload_n rfl rfl ?_
    refine ezs_getp (p := 68) rfl rfl rfl rfl rfl ?_
    refine ezw_call0_0 rfl (by omega) (ezu_at rfl) rfl rfl rfl rfl (ezs_m98_68 hf (by omega) hg) ?_
    rintro _ _ ⟨⟨F1, A1, rfl, hf⟩, rfl⟩
    refine ezw_iload_n rfl rfl ?_
    exact ezw_ireturn rfl rfl ⟨⟨_, F1, A1, rfl, ezs_f1I hI hf, by rw [ezs_f1z hf]; exact hz0⟩, u, hu, rfl⟩
theorem ezs_aft_ft {F : Nat → Nat → Int} {A : Nat → Int → Int} (hI : ezs_I fz F0 A0 F A) (hd : 10 ≤ d) (hzA : ∀ q, 4 ≤ q → q < 72 → fz q = false) (hzT : fz 1 = false) : ezw_C l ρ B xa Hb D cA 99 d [ezw_p 0] (ezu_g (false, true) F A) (ezs_Pe fz F0 A0 ezs_ri) := by
  refine ezw_met (k := 2) rfl rfl ?_
  refine ezw_aload_n rfl rfl ?_
  refine ezs_getp (p := 64) rfl rfl rfl rfl rfl ?_
  refine ezw_aload_n rfl rfl ?_
  refine ezs_getp (p := 1) rfl rfl rfl rfl rfl ?_
  refine ezw_aload_n rfl rfl ?_
  refine ezs_getp (p := 30) rfl rfl rfl rfl rfl ?_
  refine ezw_call0_2 rfl (by omega) (ezu_at rfl) rfl rfl rfl rfl (ezs_m100_64_1_30 hI (by omega) hzA hzT) ?_
  rintro _ _ ⟨⟨F, A, rfl, hI, hz0⟩, u, hu, rfl⟩
  refine ezw_istore_n rfl rfl ?_
  refine ezw_iload_n rfl rfl ?_
  refine ezw_if_ne rfl rfl hu (fun h => ?_) (fun h => ?_)
  · refine ezw_iload_n rfl rfl ?_
    exact ezw_ireturn rfl rfl ⟨⟨_, F, A, rfl, hI, hz0⟩, u, hu, rfl⟩
  · refine ezw_aload_n rfl rfl ?_
    refine ezs_getp (p := 68) rfl rfl rfl rfl rfl ?_
    refine ezw_astore_n rfl rfl ?_
    refine ezw_aload_n rfl rfl ?_
    refine ezw_aload_n rfl rfl ?_
    refine ezs_getp (p := 64) rfl rfl rfl rfl rfl ?_
    refine ezw_putf_a rfl (ezu_at rfl) rfl rfl rfl ?_
    refine ezw_aload_n rfl rfl ?_
    refine ezw_aload_n rfl rfl ?_
    refine ezw_putf_a rfl (if_pos rfl) rfl rfl rfl ?_
    rw [ezu_swDft]
    refine ezw_iload_n rfl rfl ?_
    exact ezw_ireturn rfl rfl ⟨⟨_, F, A, rfl, hI, hz0⟩, u, hu, rfl⟩
theorem ezs_tree_tf {F : Nat → Nat → Int} {A : Nat → Int → Int} (hI : ezs_I fz F0 A0 F A) (hd : 42 ≤ d) (hzA : ∀ q, 4 ≤ q → q < 72 → fz q = false) (hzT : fz 1 = false) : ezw_C l ρ B xa Hb D cA 22 d [ezw_p 0] (ezu_g (true, false) F A) (ezs_Pe fz F0 A0 ezs_ri) := by
  refine ezw_met (k := 2) rfl rfl ?_
  refine ezw_aload_n rfl rfl ?_
  refine ezs_getp (p := 4) rfl rfl rfl rfl rfl ?_
  refine ezw_aload_n rfl rfl ?_
  refine ezs_getp (p := 1) rfl rfl rfl rfl rfl ?_
  refine ezw_aload_n rfl rfl ?_
  refine ezs_getp (p := 30) rfl rfl rfl rfl rfl ?_
  refine ezw_call0_2 rfl (by omega) (ezu_at rfl) rfl rfl rfl rfl (ezs_m23_4_1_30 hI (by omega) hzA hzT) ?_
  rintro _ _ ⟨⟨F, A, rfl, hI, hz0⟩, u, hu, rfl⟩
  refine ezw_istore_n rfl rfl ?_
  refine ezw_iload_n rfl rfl ?_
  refine ezw_if_ne rfl rfl hu (fun h => ?_) (fun h => ?_)
  · refine ezw_iload_n rfl rfl ?_
    exact ezw_ireturn rfl rfl ⟨⟨_, F, A, rfl, hI, hz0⟩, u, hu, rfl⟩
  · refine ezw_aload_n rfl rfl ?_
    refine ezs_getp (p := 47) rfl rfl rfl rfl rfl ?_
    refine ezw_astore_n rfl rfl ?_
    refine ezw_aload_n rfl rfl ?_
    refine ezw_aload_n rfl rfl ?_
    refine ezs_getp (p := 30) rfl rfl rfl rfl rfl ?_
    refine ezw_putf_a rfl (ezu_at rfl) rfl rfl rfl ?_
    refine ezw_aload_n rfl rfl ?_
    refine ezw_aload_n rfl rfl ?_
    refine ezw_putf_a rfl (if_pos rfl) rfl rfl rfl ?_
    rw [ezu_swTtf]
    have hf : ezs_I (ezs_f1 fz) F A F A := ⟨hI.1, fun _ _ => ⟨rfl, rfl⟩⟩
    have hg := ezs_f1A hzA
    refine ezw_aload_n rfl rfl ?_
    refine ezs_getp (p := 13) rfl rfl rfl rfl rfl ?_
    refine ezw_aload_n rfl rfl ?_
    refine ezs_getp (p := 30) rfl rfl rfl rfl rfl ?_
    refine ezw_call0_1 rfl (by omega) (ezu_at rfl) rfl rfl rfl rfl (ezs_m94_13_30 hf (by omega) hg) ?_
    rintro _ _ ⟨⟨F1, A1, rfl, hf⟩, rfl⟩
    refine ezw_aload_n rfl rfl ?_
    refine ezs_getp (p := 16) rfl rfl rfl rfl rfl ?_
    refine ezw_call0_0 rfl (by omega) (ezu_at rfl) rfl rfl rfl rfl (ezs_m96_16 hf (by omega) hg) ?_
    rintro _ _ ⟨⟨F1, A1, rfl, hf⟩, rfl⟩
    refine ezw_aload_n rfl rfl ?_
    refine ezs_getp (p := 18) rfl rfl rfl rfl rfl ?_
    refine ezw_call0_0 rfl (by omega) (ezu_at rfl) rfl rfl rfl rfl (ezs_m97_18 hf (by omega) hg) ?_
    rintro _ _ ⟨⟨F1, A1, rfl, hf⟩, rfl⟩
    refine ezw_aload_n rfl rfl ?_
    refine ezs_getp (p := 64) rfl rfl rfl rfl rfl ?_
    refine ezw_call0_0 rfl (by omega) (ezu_at rfl) rfl rfl rfl rfl (ezs_m98_64 hf (by omega) hg) ?_
    rintro _ _ ⟨⟨F1, A1, rfl, hf⟩, rfl⟩
    refine ezw_iload_n rfl rfl ?_
    exact ezw_ireturn rfl rfl ⟨⟨_, F1, A1, rfl, ezs_f1I hI hf, by rw [ezs_f1z hf]; exact hz0⟩, u, hu, rfl⟩
theorem ezs_aft_tf {F : Nat → Nat → Int} {A : Nat → Int → Int} (hI : ezs_I fz F0 A0 F A) (hd : 10 ≤ d) (hzA : ∀ q, 4 ≤ q → q < 72 → fz q = false) (hzT : fz 1 = false) : ezw_C l ρ B xa Hb D cA 99 d [ezw_p 0] (ezu_g (true, false) F A) (ezs_Pe fz F0 A0 ezs_ri) := by
  refine ezw_met (k := 2) rfl rfl ?_
  refine ezw_aload_n rfl rfl ?_
  refine ezs_getp (p := 68) rfl rfl rfl rfl rfl ?_
  refine ezw_aload_n rfl rfl ?_
  refine ezs_getp (p := 1) rfl rfl rfl rfl rfl ?_
  refine ezw_aload_n rfl rfl ?_
  refine ezs_getp (p := 47) rfl rfl rfl rfl rfl ?_
  refine ezw_call0_2 rfl (by omega) (ezu_at rfl) rfl rfl rfl rfl (ezs_m100_68_1_47 hI (by omega) hzA hzT) ?_
  rintro _ _ ⟨⟨F, A, rfl, hI, hz0⟩, u, hu, rfl⟩
  refine ezw_istore_n rfl rfl ?_
  refine ezw_iload_n rfl rfl ?_
  refine ezw_if_ne rfl rfl hu (fun h => ?_) (fun h => ?_)
  · refine ezw_iload_n rfl rfl ?_
    exact ezw_ireturn rfl rfl ⟨⟨_, F, A, rfl, hI, hz0⟩, u, hu, rfl⟩
  · refine ezw_aload_n rfl rfl ?_
    refine ezs_getp (p := 64) rfl rfl rfl rfl rfl ?_
    refine ezw_astore_n rfl rfl ?_
    refine ezw_aload_n rfl rfl ?_
    refine ezw_aload_n rfl rfl ?_
    refine ezs_getp (p := 68) rfl rfl rfl rfl rfl ?_
    refine ezw_putf_a rfl (ezu_at rfl) rfl rfl rfl ?_
    refine ezw_aload_n rfl rfl ?_
    refine ezw_aload_n rfl rfl ?_
    refine ezw_putf_a rfl (if_pos rfl) rfl rfl rfl ?_
    rw [ezu_swDtf]
    refine ezw_iload_n rfl rfl ?_
    exact ezw_ireturn rfl rfl ⟨⟨_, F, A, rfl, hI, hz0⟩, u, hu, rfl⟩
theorem ezs_tree_tt {F : Nat → Nat → Int} {A : Nat → Int → Int} (hI : ezs_I fz F0 A0 F A) (hd : 42 ≤ d) (hzA : ∀ q, 4 ≤ q → q < 72 → fz q = false) (hzT : fz 1 = false) : ezw_C l ρ B xa Hb D cA 22 d [ezw_p 0] (ezu_g (true, true) F A) (ezs_Pe fz F0 A0 ezs_ri) := by
  refine ezw_met (k := 2) rfl rfl ?_
  refine ezw_aload_n rfl rfl ?_
  refine ezs_getp (p := 4) rfl rfl rfl rfl rfl ?_
  refine ezw_aload_n rfl rfl ?_
  refine ezs_getp (p := 1) rfl rfl rfl rfl rfl ?_
  refine ezw_aload_n rfl rfl ?_
  refine ezs_getp (p := 30) rfl rfl rfl rfl rfl ?_
  refine ezw_call0_2 rfl (by omega) (ezu_at rfl) rfl rfl rfl rfl (ezs_m23_4_1_30 hI (by omega) hzA hzT) ?_
  rintro _ _ ⟨⟨F, A, rfl, hI, hz0⟩, u, hu, rfl⟩
  refine ezw_istore_n rfl rfl ?_
  refine ezw_iload_n rfl rfl ?_
  refine ezw_if_ne rfl rfl hu (fun h => ?_) (fun h => ?_)
  · refine ezw_iload_n rfl rfl ?_
    exact ezw_ireturn rfl rfl ⟨⟨_, F, A, rfl, hI, hz0⟩, u, hu, rfl⟩
  · refine ezw_aload_n rfl rfl ?_
    refine ezs_getp (p := 47) rfl rfl rfl rfl rfl ?_
    refine ezw_astore_n rfl rfl ?_
    refine ezw_aload_n rfl rfl ?_
    refine ezw_aload_n rfl rfl ?_
    refine ezs_getp (p := 30) rfl rfl rfl rfl rfl ?_
    refine ezw_putf_a rfl (ezu_at rfl) rfl rfl rfl ?_
    refine ezw_aload_n rfl rfl ?_
    refine ezw_aload_n rfl rfl ?_
    refine ezw_putf_a rfl (if_pos rfl) rfl rfl rfl ?_
    rw [ezu_swTtt]
    have hf : ezs_I (ezs_f1 fz) F A F A := ⟨hI.1, fun _ _ => ⟨rfl, rfl⟩⟩
    have hg := ezs_f1A hzA
    refine ezw_aload_n rfl rfl ?_
    refine ezs_getp (p := 13) rfl rfl rfl rfl rfl ?_
    refine ezw_aload_n rfl rfl ?_
    refine ezs_getp (p := 30) rfl rfl rfl rfl rfl ?_
    refine ezw_call0_1 rfl (by omega) (ezu_at rfl) rfl rfl rfl rfl (ezs_m94_13_30 hf (by omega) hg) ?_
    rintro _ _ ⟨⟨F1, A1, rfl, hf⟩, rfl⟩
    refine ezw_aload_n rfl rfl ?_
    refine ezs_getp (p := 16) rfl rfl rfl rfl rfl ?_
    refine ezw_call0_0 rfl (by omega) (ezu_at rfl) rfl rfl rfl rfl (ezs_m96_16 hf (by omega) hg) ?_
    rintro _ _ ⟨⟨F1, A1, rfl, hf⟩, rfl⟩
    refine ezw_aload_n rfl rfl ?_
    refine ezs_getp (p := 18) rfl rfl rfl rfl rfl ?_
    refine ezw_call0_0 rfl (by omega) (ezu_at rfl) rfl rfl rfl rfl (ezs_m97_18 hf (by omega) hg) ?_
    rintro _ _ ⟨⟨F1, A1, rfl, hf⟩, rfl⟩
    refine ezw_aload_n rfl rfl ?_
    refine ezs_getp (p := 68) rfl rfl rfl rfl rfl ?_
    refine ezw_call0_0 rfl (by omega) (ezu_at rfl) rfl rfl rfl rfl (ezs_m98_68 hf (by omega) hg) ?_
    rintro _ _ ⟨⟨F1, A1, rfl, hf⟩, rfl⟩
    refine ezw_iload_n rfl rfl ?_
    exact ezw_ireturn rfl rfl ⟨⟨_, F1, A1, rfl, ezs_f1I hI hf, by rw [ezs_f1z hf]; exact hz0⟩, u, hu, rfl⟩
theorem ezs_aft_tt {F : Nat → Nat → Int} {A : Nat → Int → Int} (hI : ezs_I fz F0 A0 F A) (hd : 10 ≤ d) (hzA : ∀ q, 4 ≤ q → q < 72 → fz q = false) (hzT : fz 1 = false) : ezw_C l ρ B xa Hb D cA 99 d [ezw_p 0] (ezu_g (true, true) F A) (ezs_Pe fz F0 A0 ezs_ri) := by
  refine ezw_met (k := 2) rfl rfl ?_
  refine ezw_aload_n rfl rfl ?_
  refine ezs_getp (p := 64) rfl rfl rfl rfl rfl ?_
  refine ezw_aload_n rfl rfl ?_
  refine ezs_getp (p := 1) rfl rfl rfl rfl rfl ?_
  refine ezw_aload_n rfl rfl ?_
  refine ezs_getp (p := 47) rfl rfl rfl rfl rfl ?_
  refine ezw_call0_2 rfl (by omega) (ezu_at rfl) rfl rfl rfl rfl (ezs_m100_64_1_47 hI (by omega) hzA hzT) ?_
  rintro _ _ ⟨⟨F, A, rfl, hI, hz0⟩, u, hu, rfl⟩
  refine ezw_istore_n rfl rfl ?_
  refine ezw_iload_n rfl rfl ?_
  refine ezw_if_ne rfl rfl hu (fun h => ?_) (fun h => ?_)
  · refine ezw_iload_n rfl rfl ?_
    exact ezw_ireturn rfl rfl ⟨⟨_, F, A, rfl, hI, hz0⟩, u, hu, rfl⟩
  · refine ezw_aload_n rfl rfl ?_
    refine ezs_getp (p := 68) rfl rfl rfl rfl rfl ?_
    refine ezw_astore_n rfl rfl ?_
    refine ezw_aload_n rfl rfl ?_
    refine ezw_aload_n rfl rfl ?_
    refine ezs_getp (p := 64) rfl rfl rfl rfl rfl ?_
    refine ezw_putf_a rfl (ezu_at rfl) rfl rfl rfl ?_
    refine ezw_aload_n rfl rfl ?_
    refine ezw_aload_n rfl rfl ?_
    refine ezw_putf_a rfl (if_pos rfl) rfl rfl rfl ?_
    rw [ezu_swDtt]
    refine ezw_iload_n rfl rfl ?_
    exact ezw_ireturn rfl rfl ⟨⟨_, F, A, rfl, hI, hz0⟩, u, hu, rfl⟩
theorem ezf_in (v : Int) (n : Nat) : ∀ (s : Int) (a : Int → Int), (∀ j, ezw_in (a j)) → ∀ j, ezw_in ((ezf v n s a).2 j) := by
  induction n with
  | zero => intro s a h j; exact h j
  | succ n ih =>
    intro s a h j
    have b0 := ezf_b01 v n
    by_cases hc : (ezf_b v n = 10 ∨ 32 ≤ ezf_b v n ∧ ezf_b v n ≤ 126) ∧ s < 1000
    · rw [ezf_t hc]
      refine ih _ _ (fun k => ?_) j
      unfold ezw_au
      split
      · exact ⟨by omega, by omega⟩
      · exact h k
    · rw [ezf_f hc]
      exact ih _ _ h j
theorem ezf_one (v : Int) (n : Nat) : ∀ (s : Int) (a a' : Int → Int), (ezf v n s a).1 = (ezf v n s a').1 := by
  induction n with
  | zero => intro s a a'; rfl
  | succ n ih =>
    intro s a a'
    by_cases hc : (ezf_b v n = 10 ∨ 32 ≤ ezf_b v n ∧ ezf_b v n ≤ 126) ∧ s < 1000
    · rw [ezf_t hc, ezf_t hc]
      exact ih _ _ _
    · rw [ezf_f hc, ezf_f hc]
      exact ih _ _ _
theorem ezf3_one (x y z s : Int) (a a' : Int → Int) : (ezf3 x y z s a).1 = (ezf3 x y z s a').1 := by
  unfold ezf3
  rw [ezf_one x 8 s a a', ezf_one y 8 (ezf x 8 s a').1 (ezf x 8 s a).2 (ezf x 8 s a').2]
  exact ezf_one _ _ _ _ _
theorem ezf3_in (x y z s : Int) (a : Int → Int) (h : ∀ j, ezw_in (a j)) : ∀ j, ezw_in ((ezf3 x y z s a).2 j) := ezf_in _ _ _ _ (ezf_in _ _ _ _ (ezf_in _ _ _ _ h))
theorem ezf3_le (x y z s : Int) (a : Int → Int) (h0 : 0 ≤ s) (h1 : s ≤ 1000) : 0 ≤ (ezf3 x y z s a).1 ∧ (ezf3 x y z s a).1 ≤ 1000 := by
  have e1 := ezf_le x 8 s a h1
  have e2 := ezf_le y 8 _ (ezf x 8 s a).2 e1.2
  have e3 := ezf_le z 8 _ (ezf y 8 (ezf x 8 s a).1 (ezf x 8 s a).2).2 e2.2
  unfold ezf3
  omega
/-- how many signs lie there behind a feed -/
def ezf1 (x y z s : Int) : Int := (ezf3 x y z s (fun _ => 0)).1
theorem ezs_feed {x y z : Int} {F : Nat → Nat → Int} {A : Nat → Int → Int} (hx : ezw_il x) (hy : ezw_il y) (hz : ezw_il z) (hI : ezs_T F A) (hd : 2 ≤ d) : ezw_C l ρ B xa Hb D cA 19 d [ezw_p 0, ezw_l x, ezw_l y, ezw_l z] (ezu_g e F A) (fun v g' => some (ezw_i (ezf1 x y z (F 1 2))) = v ∧ ∃ F' A', g' = ezu_g e F' A' ∧ ezs_T F' A' ∧ F' 1 2 = ezf1 x y z (F 1 2) ∧ ∀ q, 72 ≤ q → F' q = F q ∧ A' q = A q) := by
  have h0 : 0 ≤ F 1 2 ∧ F 1 2 ≤ 1000 := (hI 1 (by decide)).1 2
  refine ezw_Cmono (ezc_feed hx hy hz (e := e) (fX := F 0) (f := F 1) (a := A 2) rfl rfl rfl h0.1 h0.2 hd) ?_
  rintro v g' ⟨h1, f', h2, h3, h4, h5, h6⟩
  have e0 : (ezf3 x y z (F 1 2) (A 2)).1 = ezf1 x y z (F 1 2) := ezf3_one _ _ _ _ _ _
  have hle := ezf3_le x y z (F 1 2) (A 2) h0.1 h0.2
  rw [e0] at h1 h4 hle
  refine ⟨h1, ezu_U F 1 f', ezu_U A 2 (ezf3 x y z (F 1 2) (A 2)).2, ?_, ?_, ?_, ?_⟩
  · funext q
    by_cases q1 : q = 1
    · subst q1
      rw [h2]
      show _ = ezu_cell (ezu_kd 1) (ezu_rf e 1) (ezu_U F 1 f' 1) _
      rw [ezu_Uq]
      rfl
    · by_cases q2 : q = 2
      · subst q2
        rw [h5]
        show _ = ezu_cell (ezu_kd 2) (ezu_rf e 2) _ (ezu_U A 2 _ 2)
        rw [ezu_Uq]
        rfl
      · rw [h6 q q1 q2]
        unfold ezu_g
        rw [ezu_Un _ _ q1, ezu_Un _ _ q2]
  · intro q hq
    refine ⟨fun k => ?_, fun j => ?_⟩
    · by_cases q1 : q = 1
      · subst q1
        rw [ezu_Uq]
        by_cases k2 : k = 2
        · subst k2
          rw [h4]
          exact hle
        · rw [h3 k k2]
          exact (hI 1 hq).1 k
      · rw [ezu_Un _ _ q1]
        exact (hI q hq).1 k
    · by_cases q2 : q = 2
      · subst q2
        rw [ezu_Uq]
        exact ezf3_in x y z _ _ (fun j => ezs_ak_in rfl ((hI 2 (by decide)).2 j)) j
      · rw [ezu_Un _ _ q2]
        exact (hI q hq).2 j
  · rw [ezu_Uq]
    exact h4
  · intro q hq
    exact ⟨ezu_Un _ _ (by omega), ezu_Un _ _ (by omega)⟩
end KM
