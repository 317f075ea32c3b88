/-! ===== the program, roughly: cleared ===== -/
section KM
variable {l : Launch} {ρ : ezq_E} {B : Nat} {xa : Nat → Option Nat} {Hb : Heap} {D : va_G} {cA : Nat → ClassId} {d : Nat} {e : Bool × Bool} {fz : Nat → Bool} {F0 : Nat → Nat → Int} {A0 : Nat → Int → Int}
theorem ezs_m26_17 {a1 : Int} {F : Nat → Nat → Int} {A : Nat → Int → Int} (hI : ezs_I fz F0 A0 F A) (hd : 0 ≤ d) (hzA : ∀ q, 17 ≤ q → q < 18 → fz q = false) (ha1 : ezw_in a1) : ezw_C l ρ B xa Hb D cA 26 d [ezw_p 17, ezw_i a1] (ezu_g e F A) (ezs_P e fz F0 A0 ezs_rn) := by
  refine ezw_met (k := 2) rfl rfl ?_
  refine ezw_iconst (0) rfl rfl ?_
  refine ezw_istore_n rfl rfl ?_
  refine ezw_aload_n rfl rfl ?_
  refine ezs_alen (k := 8) rfl rfl rfl rfl (by decide) (by decide) ?_
  refine ezw_istore_n rfl rfl ?_
  have L5_1 : ∀ c1 : Int, ezw_in c1 → (0) ≤ c1 → ∀ F A, ezs_I fz F0 A0 F A → ezw_E l ρ B xa Hb D cA d ezq_re26 (ezs_P e fz F0 A0 ezs_rn) 5 [some (ezw_p 17), some (ezw_i a1), some (ezw_i c1), some (ezw_i (8))] [] (ezu_g e F A) := by
    refine ezs_up ?_
    intro c1 hc1 ihc1 gc1 F A hI
    refine ezw_iload_n rfl rfl ?_
    refine ezw_iload_n rfl rfl ?_
    refine ezw_icmp_ge rfl rfl hc1 ⟨by decide, by decide⟩ (fun h7_2 => ?_) (fun h7_2 => ?_)
    · exact ezw_return rfl rfl ⟨⟨F, A, rfl, hI⟩, rfl⟩
    · refine ezw_aload_n rfl rfl ?_
      refine ezw_iload_n rfl rfl ?_
      refine ezw_iload_n rfl rfl ?_
      refine ezs_iastore hI rfl rfl rfl (by omega) (by omega) (by decide) (hzA 17 (by decide) (by decide)) ha1 (fun F A hI => ?_)
      refine ezw_iinc (1) rfl rfl rfl rfl rfl ?_
      refine ezw_goto rfl rfl ?_
      exact ezw_keepE [true, true, true, true] (ihc1 (c1 + (1)) (by omega) ⟨by omega, by omega⟩ (by omega)  F A hI)
  exact ezw_keepE [true, true, true, true] (L5_1 (0) ⟨by decide, by decide⟩ (by omega)  F A hI)
theorem ezs_m96_16 {F : Nat → Nat → Int} {A : Nat → Int → Int} (hI : ezs_I fz F0 A0 F A) (hd : 1 ≤ d) (hzA : ∀ q, 17 ≤ q → q < 18 → fz q = false) : ezw_C l ρ B xa Hb D cA 96 d [ezw_p 16] (ezu_g e F A) (ezs_P e fz F0 A0 ezs_rn) := by
  refine ezw_met (k := 0) rfl rfl ?_
  refine ezw_aload_n rfl rfl ?_
  refine ezs_getp (p := 17) rfl rfl rfl rfl rfl ?_
  refine ezw_iconst (0) rfl rfl ?_
  refine ezw_call2_2 rfl (by omega) rfl rfl (ezs_m26_17 hI (by omega) (fun q h0 h1 => hzA q (by omega) (by omega)) ⟨by decide, by decide⟩) ?_
  rintro _ _ ⟨⟨F, A, rfl, hI⟩, rfl⟩
  exact ezw_return rfl rfl ⟨⟨F, A, rfl, hI⟩, rfl⟩
theorem ezs_m97_18 {F : Nat → Nat → Int} {A : Nat → Int → Int} (hI : ezs_I fz F0 A0 F A) (hd : 0 ≤ d) (hzA : ∀ q, 18 ≤ q → q < 19 → fz q = false) : ezw_C l ρ B xa Hb D cA 97 d [ezw_p 18] (ezu_g e F A) (ezs_P e fz F0 A0 ezs_rn) := by
  refine ezw_met (k := 0) rfl rfl ?_
  refine ezw_aload_n rfl rfl ?_
  refine ezw_iconst (0) rfl rfl ?_
  refine ezs_put_i hI rfl rfl rfl rfl rfl (hzA 18 (by decide) (by decide)) ⟨by decide, by decide⟩ (fun F A hI => ?_)
  refine ezw_aload_n rfl rfl ?_
  refine ezw_iconst (0) rfl rfl ?_
  refine ezs_put_i hI rfl rfl rfl rfl rfl (hzA 18 (by decide) (by decide)) ⟨by decide, by decide⟩ (fun F A hI => ?_)
  exact ezw_return rfl rfl ⟨⟨F, A, rfl, hI⟩, rfl⟩
end KM
