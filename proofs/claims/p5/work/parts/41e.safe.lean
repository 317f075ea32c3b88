/-! ===== the program, roughly: trees read ===== -/
section KM
variable {l : Launch} {ρ : ezq_E} {B : Nat} {xa : Nat → Option Nat} {Hb : Heap} {D : va_G} {cA : Nat → ClassId} {d : Nat} {e : Bool × Bool} {fz : Nat → Bool} {F0 : Nat → Nat → Int} {A0 : Nat → Int → Int}
theorem ezs_m93_1 {F : Nat → Nat → Int} {A : Nat → Int → Int} (hI : ezs_I fz F0 A0 F A) (hd : 0 ≤ d) (hzT : fz 1 = false) : ezw_C l ρ B xa Hb D cA 93 d [ezw_p 1] (ezu_g e F A) (ezs_P0 e fz F0 A0 ezs_ri) := by
  refine ezw_met (k := 0) rfl rfl ?_
  refine ezw_aload_n rfl rfl ?_
  refine ezw_iconst (0) rfl rfl ?_
  refine ezs_putX hI rfl rfl rfl rfl rfl hzT (show ezs_fk 1 2 _ from ⟨by omega, by omega⟩) (fun F hI m2 n2 => ?_)
  have hz0 := m2
  refine ezw_aload_n rfl rfl ?_
  refine ezs_get_i hI rfl rfl rfl rfl rfl rfl (fun u1 hu1 ku1 => ?_)
  exact ezw_ireturn rfl rfl ⟨⟨F, A, rfl, hI, hz0⟩, _, hu1, rfl⟩
end KM
