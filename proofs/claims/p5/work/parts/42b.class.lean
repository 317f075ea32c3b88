/-! ===== the class: tree, afternoon, feed ===== -/
def ezs_Pe (b : Bool) (fz : Nat → Bool) (F0 : Nat → Nat → Int) (A0 : Nat → Int → Int) (R : Option ezq_V → Prop) : Option ezq_V → (Nat → ezq_C) → Prop := fun v g' => (∃ (e' : Bool × Bool) (F' : Nat → Nat → Int) (A' : Nat → Int → Int), e'.1 = b ∧ g' = ezu_g e' F' A' ∧ ezs_I fz F0 A0 F' A' ∧ F' 1 2 = 0) ∧ R v
theorem ezu_rf0 {e e' : Bool × Bool} {p : Nat} (h : p ≠ 0) : ezu_rf e p = ezu_rf e' p := by
  unfold ezu_rf
  split <;> first | rfl | exact absurd rfl h
theorem ezu_swTff {F : Nat → Nat → Int} {A : Nat → Int → Int} : ezw_u (ezw_u (ezu_g (false, false) F A) 0 (ezw_obj 11 (ezw_ru (ezu_rf (false, false) 0) 7 47) (F 0))) 0 (ezw_obj 11 (ezw_ru (ezw_ru (ezu_rf (false, false) 0) 7 47) 8 30) (F 0)) = ezu_g (true, false) F A := by
  funext p
  unfold ezw_u
  by_cases hp : p = 0
  · subst hp
    rw [if_pos rfl]
    rfl
  · rw [if_neg hp, if_neg hp]
    unfold ezu_g
    rw [ezu_rf0 (e := (false, false)) (e' := (true, false)) hp]
theorem ezu_swDff {F : Nat → Nat → Int} {A : Nat → Int → Int} : ezw_u (ezw_u (ezu_g (false, false) F A) 0 (ezw_obj 11 (ezw_ru (ezu_rf (false, false) 0) 9 68) (F 0))) 0 (ezw_obj 11 (ezw_ru (ezw_ru (ezu_rf (false, false) 0) 9 68) 10 64) (F 0)) = ezu_g (false, true) F A := by
  funext p
  unfold ezw_u
  by_cases hp : p = 0
  · subst hp
    rw [if_pos rfl]
    rfl
  · rw [if_neg hp, if_neg hp]
    unfold ezu_g
    rw [ezu_rf0 (e := (false, false)) (e' := (false, true)) hp]
theorem ezu_swTft {F : Nat → Nat → Int} {A : Nat → Int → Int} : ezw_u (ezw_u (ezu_g (false, true) F A) 0 (ezw_obj 11 (ezw_ru (ezu_rf (false, true) 0) 7 47) (F 0))) 0 (ezw_obj 11 (ezw_ru (ezw_ru (ezu_rf (false, true) 0) 7 47) 8 30) (F 0)) = ezu_g (true, true) F A := by
  funext p
  unfold ezw_u
  by_cases hp : p = 0
  · subst hp
    rw [if_pos rfl]
    rfl
  · rw [if_neg hp, if_neg hp]
    unfold ezu_g
    rw [ezu_rf0 (e := (false, true)) (e' := (true, true)) hp]
theorem ezu_swDft {F : Nat → Nat → Int} {A : Nat → Int → Int} : ezw_u (ezw_u (ezu_g (false, true) F A) 0 (ezw_obj 11 (ezw_ru (ezu_rf (false, true) 0) 9 64) (F 0))) 0 (ezw_obj 11 (ezw_ru (ezw_ru (ezu_rf (false, true) 0) 9 64) 10 68) (F 0)) = ezu_g (false, false) F A := by
  funext p
  unfold ezw_u
  by_cases hp : p = 0
  · subst hp
    rw [if_pos rfl]
    rfl
  · rw [if_neg hp, if_neg hp]
    unfold ezu_g
    rw [ezu_rf0 (e := (false, true)) (e' := (false, false)) hp]
theorem ezu_swTtf {F : Nat → Nat → Int} {A : Nat → Int → Int} : ezw_u (ezw_u (ezu_g (true, false) F A) 0 (ezw_obj 11 (ezw_ru (ezu_rf (true, false) 0) 7 30) (F 0))) 0 (ezw_obj 11 (ezw_ru (ezw_ru (ezu_rf (true, false) 0) 7 30) 8 47) (F 0)) = ezu_g (false, false) F A := by
  funext p
  unfold ezw_u
  by_cases hp : p = 0
  · subst hp
    rw [if_pos rfl]
    rfl
  · rw [if_neg hp, if_neg hp]
    unfold ezu_g
    rw [ezu_rf0 (e := (true, false)) (e' := (false, false)) hp]
theorem ezu_swDtf {F : Nat → Nat → Int} {A : Nat → Int → Int} : ezw_u (ezw_u (ezu_g (true, false) F A) 0 (ezw_obj 11 (ezw_ru (ezu_rf (true, false) 0) 9 68) (F 0))) 0 (ezw_obj 11 (ezw_ru (ezw_ru (ezu_rf (true, false) 0) 9 68) 10 64) (F 0)) = ezu_g (true, true) F A := by
  funext p
  unfold ezw_u
  by_cases hp : p = 0
  · subst hp
    rw [if_pos rfl]
    rfl
  · rw [if_neg hp, if_neg hp]
    unfold ezu_g
    rw [ezu_rf0 (e := (true, false)) (e' := (true, true)) hp]
theorem ezu_swTtt {F : Nat → Nat → Int} {A : Nat → Int → Int} : ezw_u (ezw_u (ezu_g (true, true) F A) 0 (ezw_obj 11 (ezw_ru (ezu_rf (true, true) 0) 7 30) (F 0))) 0 (ezw_obj 11 (ezw_ru (ezw_ru (ezu_rf (true, true) 0) 7 30) 8 47) (F 0)) = ezu_g (false, true) F A := by
  funext p
  unfold ezw_u
  by_cases hp : p = 0
  · subst hp
    rw [if_pos rfl]
    rfl
  · rw [if_neg hp, if_neg hp]
    unfold ezu_g
    rw [ezu_rf0 (e := (true, true)) (e' := (false, true)) hp]
theorem ezu_swDtt {F : Nat → Nat → Int} {A : Nat → Int → Int} : ezw_u (ezw_u (ezu_g (true, true) F A) 0 (ezw_obj 11 (ezw_ru (ezu_rf (true, true) 0) 9 64) (F 0))) 0 (ezw_obj 11 (ezw_ru (ezw_ru (ezu_rf (true, true) 0) 9 64) 10 68) (F 0)) = ezu_g (true, false) F A := by
  funext p
  unfold ezw_u
  by_cases hp : p = 0
  · subst hp
    rw [if_pos rfl]
    rfl
  · rw [if_neg hp, if_neg hp]
    unfold ezu_g
    rw [ezu_rf0 (e := (true, true)) (e' := (true, false)) hp]
section KM
variable {l : Launch} {ρ : ezq_E} {B : Nat} {xa : Nat → Option Nat} {Hb : Heap} {D : va_G} {cA : Nat → ClassId} {d : Nat} {e : Bool × Bool} {fz : Nat → Bool} {F0 : Nat → Nat → Int} {A0 : Nat → Int → Int}
theorem ezs_aft_ff {F : Nat → Nat → Int} {A : Nat → Int → Int} (hI : ezs_I fz F0 A0 F A) (hd : 10 ≤ d) (hzA : ∀ q, 64 ≤ q → q < 72 → fz q = false) (hzT : fz 1 = false) : ezw_C l ρ B xa Hb D cA 99 d [ezw_p 0] (ezu_g (false, false) F A) (ezs_Pe false fz F0 A0 ezs_ri) := by
  refine ezw_met (k := 2) rfl rfl ?_
  refine ezw_aload_n rfl rfl ?_
  refine ezs_getp (p := 68) rfl rfl rfl rfl rfl ?_
  refine ezw_aload_n rfl rfl ?_
  refine ezs_getp (p := 1) rfl rfl rfl rfl rfl ?_
  refine ezw_aload_n rfl rfl ?_
  refine ezs_getp (p := 30) rfl rfl rfl rfl rfl ?_
  refine ezw_call0_2 rfl (by omega) (ezu_at rfl) rfl rfl rfl rfl (ezs_m100_68_1_30 hI (by omega) (fun q h0 h1 => hzA q (by omega) (by omega)) hzT) ?_
  rintro _ _ ⟨⟨F, A, rfl, hI, hz0⟩, u, hu, rfl⟩
  refine ezw_istore_n rfl rfl ?_
  refine ezw_iload_n rfl rfl ?_
  refine ezw_if_ne rfl rfl hu (fun h => ?_) (fun h => ?_)
  · refine ezw_iload_n rfl rfl ?_
    exact ezw_ireturn rfl rfl ⟨⟨_, F, A, rfl, rfl, hI, hz0⟩, u, hu, rfl⟩
  · refine ezw_aload_n rfl rfl ?_
    refine ezs_getp (p := 64) rfl rfl rfl rfl rfl ?_
    refine ezw_astore_n rfl rfl ?_
    refine ezw_aload_n rfl rfl ?_
    refine ezw_aload_n rfl rfl ?_
    refine ezs_getp (p := 68) rfl rfl rfl rfl rfl ?_
    refine ezw_putf_a rfl (ezu_at rfl) rfl rfl rfl ?_
    refine ezw_aload_n rfl rfl ?_
    refine ezw_aload_n rfl rfl ?_
    refine ezw_putf_a rfl (if_pos rfl) rfl rfl rfl ?_
    rw [ezu_swDff]
    refine ezw_iload_n rfl rfl ?_
    exact ezw_ireturn rfl rfl ⟨⟨_, F, A, rfl, rfl, hI, hz0⟩, u, hu, rfl⟩
theorem ezs_aft_ft {F : Nat → Nat → Int} {A : Nat → Int → Int} (hI : ezs_I fz F0 A0 F A) (hd : 10 ≤ d) (hzA : ∀ q, 64 ≤ q → q < 72 → fz q = false) (hzT : fz 1 = false) : ezw_C l ρ B xa Hb D cA 99 d [ezw_p 0] (ezu_g (false, true) F A) (ezs_Pe false fz F0 A0 ezs_ri) := by
  refine ezw_met (k := 2) rfl rfl ?_
  refine ezw_aload_n rfl rfl ?_
  refine ezs_getp (p := 64) rfl rfl rfl rfl rfl ?_
  refine ezw_aload_n rfl rfl ?_
  refine ezs_getp (p := 1) rfl rfl rfl rfl rfl ?_
  refine ezw_aload_n rfl rfl ?_
  refine ezs_getp (p := 30) rfl rfl rfl rfl rfl ?_
  refine ezw_call0_2 rfl (by omega) (ezu_at rfl) rfl rfl rfl rfl (ezs_m100_64_1_30 hI (by omega) (fun q h0 h1 => hzA q (by omega) (by omega)) hzT) ?_
  rintro _ _ ⟨⟨F, A, rfl, hI, hz0⟩, u, hu, rfl⟩
  refine ezw_istore_n rfl rfl ?_
  refine ezw_iload_n rfl rfl ?_
  refine ezw_if_ne rfl rfl hu (fun h => ?_) (fun h => ?_)
  · refine ezw_iload_n rfl rfl ?_
    exact ezw_ireturn rfl rfl ⟨⟨_, F, A, rfl, rfl, hI, hz0⟩, u, hu, rfl⟩
  · refine ezw_aload_n rfl rfl ?_
    refine ezs_getp (p := 68) rfl rfl rfl rfl rfl ?_
    refine ezw_astore_n rfl rfl ?_
    refine ezw_aload_n rfl rfl ?_
    refine ezw_aload_n rfl rfl ?_
    refine ezs_getp (p := 64) rfl rfl rfl rfl rfl ?_
    refine ezw_putf_a rfl (ezu_at rfl) rfl rfl rfl ?_
    refine ezw_aload_n rfl rfl ?_
    refine ezw_aload_n rfl rfl ?_
    refine ezw_putf_a rfl (if_pos rfl) rfl rfl rfl ?_
    rw [ezu_swDft]
    refine ezw_iload_n rfl rfl ?_
    exact ezw_ireturn rfl rfl ⟨⟨_, F, A, rfl, rfl, hI, hz0⟩, u, hu, rfl⟩
theorem ezs_aft_tf {F : Nat → Nat → Int} {A : Nat → Int → Int} (hI : ezs_I fz F0 A0 F A) (hd : 10 ≤ d) (hzA : ∀ q, 64 ≤ q → q < 72 → fz q = false) (hzT : fz 1 = false) : ezw_C l ρ B xa Hb D cA 99 d [ezw_p 0] (ezu_g (true, false) F A) (ezs_Pe true fz F0 A0 ezs_ri) := by
  refine ezw_met (k := 2) rfl rfl ?_
  refine ezw_aload_n rfl rfl ?_
  refine ezs_getp (p := 68) rfl rfl rfl rfl rfl ?_
  refine ezw_aload_n rfl rfl ?_
  refine ezs_getp (p := 1) rfl rfl rfl rfl rfl ?_
  refine ezw_aload_n rfl rfl ?_
  refine ezs_getp (p := 47) rfl rfl rfl rfl rfl ?_
  refine ezw_call0_2 rfl (by omega) (ezu_at rfl) rfl rfl rfl rfl (ezs_m100_68_1_47 hI (by omega) (fun q h0 h1 => hzA q (by omega) (by omega)) hzT) ?_
  rintro _ _ ⟨⟨F, A, rfl, hI, hz0⟩, u, hu, rfl⟩
  refine ezw_istore_n rfl rfl ?_
  refine ezw_iload_n rfl rfl ?_
  refine ezw_if_ne rfl rfl hu (fun h => ?_) (fun h => ?_)
  · refine ezw_iload_n rfl rfl ?_
    exact ezw_ireturn rfl rfl ⟨⟨_, F, A, rfl, rfl, hI, hz0⟩, u, hu, rfl⟩
  · refine ezw_aload_n rfl rfl ?_
    refine ezs_getp (p := 64) rfl rfl rfl rfl rfl ?_
    refine ezw_astore_n rfl rfl ?_
    refine ezw_aload_n rfl rfl ?_
    refine ezw_aload_n rfl rfl ?_
    refine ezs_getp (p := 68) rfl rfl rfl rfl rfl ?_
    refine ezw_putf_a rfl (ezu_at rfl) rfl rfl rfl ?_
    refine ezw_aload_n rfl rfl ?_
    refine ezw_aload_n rfl rfl ?_
    refine ezw_putf_a rfl (if_pos rfl) rfl rfl rfl ?_
    rw [ezu_swDtf]
    refine ezw_iload_n rfl rfl ?_
    exact ezw_ireturn rfl rfl ⟨⟨_, F, A, rfl, rfl, hI, hz0⟩, u, hu, rfl⟩
theorem ezs_aft_tt {F : Nat → Nat → Int} {A : Nat → Int → Int} (hI : ezs_I fz F0 A0 F A) (hd : 10 ≤ d) (hzA : ∀ q, 64 ≤ q → q < 72 → fz q = false) (hzT : fz 1 = false) : ezw_C l ρ B xa Hb D cA 99 d [ezw_p 0] (ezu_g (true, true) F A) (ezs_Pe true fz F0 A0 ezs_ri) := by
  refine ezw_met (k := 2) rfl rfl ?_
  refine ezw_aload_n rfl rfl ?_
  refine ezs_getp (p := 64) rfl rfl rfl rfl rfl ?_
  refine ezw_aload_n rfl rfl ?_
  refine ezs_getp (p := 1) rfl rfl rfl rfl rfl ?_
  refine ezw_aload_n rfl rfl ?_
  refine ezs_getp (p := 47) rfl rfl rfl rfl rfl ?_
  refine ezw_call0_2 rfl (by omega) (ezu_at rfl) rfl rfl rfl rfl (ezs_m100_64_1_47 hI (by omega) (fun q h0 h1 => hzA q (by omega) (by omega)) hzT) ?_
  rintro _ _ ⟨⟨F, A, rfl, hI, hz0⟩, u, hu, rfl⟩
  refine ezw_istore_n rfl rfl ?_
  refine ezw_iload_n rfl rfl ?_
  refine ezw_if_ne rfl rfl hu (fun h => ?_) (fun h => ?_)
  · refine ezw_iload_n rfl rfl ?_
    exact ezw_ireturn rfl rfl ⟨⟨_, F, A, rfl, rfl, hI, hz0⟩, u, hu, rfl⟩
  · refine ezw_aload_n rfl rfl ?_
    refine ezs_getp (p := 68) rfl rfl rfl rfl rfl ?_
    refine ezw_astore_n rfl rfl ?_
    refine ezw_aload_n rfl rfl ?_
    refine ezw_aload_n rfl rfl ?_
    refine ezs_getp (p := 64) rfl rfl rfl rfl rfl ?_
    refine ezw_putf_a rfl (ezu_at rfl) rfl rfl rfl ?_
    refine ezw_aload_n rfl rfl ?_
    refine ezw_aload_n rfl rfl ?_
    refine ezw_putf_a rfl (if_pos rfl) rfl rfl rfl ?_
    rw [ezu_swDtt]
    refine ezw_iload_n rfl rfl ?_
    exact ezw_ireturn rfl rfl ⟨⟨_, F, A, rfl, rfl, hI, hz0⟩, u, hu, rfl⟩
theorem ezf_in (v : Int) (n : Nat) : ∀ (s : Int) (a : Int → Int), (∀ j, ezw_in (a j)) → ∀ j, ezw_in ((ezf v n s a).2 j) := by
  induction n with
  | zero => intro s a h j; exact h j
  | succ n ih =>
    intro s a h j
    have b0 := ezf_b01 v n
    by_cases hc : (ezf_b v n = 10 ∨ 32 ≤ ezf_b v n ∧ ezf_b v n ≤ 126) ∧ s < 1000
    · rw [ezf_t hc]
      refine ih _ _ (fun k => ?_) j
      unfold ezw_au
      split
      · exact ⟨by omega, by omega⟩
      · exact h k
    · rw [ezf_f hc]
      exact ih _ _ h j
theorem ezf3_in (x y z s : Int) (a : Int → Int) (h : ∀ j, ezw_in (a j)) : ∀ j, ezw_in ((ezf3 x y z s a).2 j) := ezf_in _ _ _ _ (ezf_in _ _ _ _ (ezf_in _ _ _ _ h))
theorem ezf3_le (x y z s : Int) (a : Int → Int) (h0 : 0 ≤ s) (h1 : s ≤ 1000) : 0 ≤ (ezf3 x y z s a).1 ∧ (ezf3 x y z s a).1 ≤ 1000 := by
  have e1 := ezf_le x 8 s a h1
  have e2 := ezf_le y 8 _ (ezf x 8 s a).2 e1.2
  have e3 := ezf_le z 8 _ (ezf y 8 (ezf x 8 s a).1 (ezf x 8 s a).2).2 e2.2
  unfold ezf3
  omega
end KM
