/-! ===== the model: codes ===== -/
section KM6
variable {l : Launch} {ρ : ezq_E} {B : Nat} {xa : Nat → Option Nat} {Hb : Heap} {D : va_G} {cA : Nat → ClassId} {d : Nat} {e : Bool × Bool} {F : Nat → Nat → Int} {A : Nat → Int → Int} {i0 i2 i3 i7 i8 i13 i18 i19 i20 i25 i29 i30 i31 i36 i37 i38 : Int} {r73 r74 r75 r76 r77 r78 r79 r80 r81 r82 r83 r84 r85 r86 r87 r88 r89 r90 r91 r92 r93 r94 r95 : Int → Int}
def ezm_m251Q (e : Bool × Bool) (F : Nat → Nat → Int) (A : Nat → Int → Int) (i0 i2 i3 i7 i8 i13 i18 i19 i20 i25 i29 i30 i31 i36 i37 i38 : Int) (r73 r74 r75 r76 r77 r78 r79 r80 r81 r82 r83 r84 r85 r86 r87 r88 r89 r90 r91 r92 r93 r94 r95 : Int → Int) (a1 : Int) (a2 : Int) : Option ezq_V → (Nat → ezq_C) → Prop := fun v g' => ∃ (x13 : Int) (x79 x80 : Int → Int), ezm_h e F A i0 i2 i3 i7 i8 x13 i18 i19 i20 i25 i29 i30 i31 i36 i37 i38 r73 r74 r75 r76 r77 r78 x79 x80 r81 r82 r83 r84 r85 r86 r87 r88 r89 r90 r91 r92 r93 r94 r95 = g' ∧ ezm_T i0 i2 i3 i7 i8 x13 i18 i19 i20 i25 i29 i30 i31 i36 i37 i38 r73 r74 r75 r76 r77 r78 x79 x80 r81 r82 r83 r84 r85 r86 r87 r88 r89 r90 r91 r92 r93 r94 r95 ∧ (x13 = i13 + 1) ∧ (ezm_fr r79 r80 x79 x80 (i13 + 1100)) ∧ (x79 (i13 + 1100) = a1) ∧ (x80 (i13 + 1100) = a2) ∧ none = v
theorem ezm_m251 {a1 a2 : Int} (hT : ezm_T i0 i2 i3 i7 i8 i13 i18 i19 i20 i25 i29 i30 i31 i36 i37 i38 r73 r74 r75 r76 r77 r78 r79 r80 r81 r82 r83 r84 r85 r86 r87 r88 r89 r90 r91 r92 r93 r94 r95) (hd : 0 ≤ d) (ha1 : ezw_in a1) (ha2 : ezw_in a2) (gc : 0 ≤ i13 ∧ i13 ≤ 1001) : ezw_C l ρ B xa Hb D cA 251 d [ezw_p 72, ezw_i a1, ezw_i a2] (ezm_h e F A i0 i2 i3 i7 i8 i13 i18 i19 i20 i25 i29 i30 i31 i36 i37 i38 r73 r74 r75 r76 r77 r78 r79 r80 r81 r82 r83 r84 r85 r86 r87 r88 r89 r90 r91 r92 r93 r94 r95) (ezm_m251Q  e F A i0 i2 i3 i7 i8 i13 i18 i19 i20 i25 i29 i30 i31 i36 i37 i38 r73 r74 r75 r76 r77 r78 r79 r80 r81 r82 r83 r84 r85 r86 r87 r88 r89 r90 r91 r92 r93 r94 r95 a1 a2) := by
  refine ezw_met (k := 0) rfl rfl ?_
  refine ezw_aload_n rfl rfl ?_
  refine ezm_gp (p := 79) rfl (fun _ => rfl) ?_
  refine ezw_sipush (1100) rfl rfl ?_
  refine ezw_aload_n rfl rfl ?_
  refine ezm_g13 rfl ?_
  have k1 := hT.t13
  refine ezw_iadd (k := i13 + 1100) rfl (by omega) ?_
  refine ezw_iload_n rfl rfl ?_
  refine ezm_s79 hT rfl (by omega) (by omega) ha1 (fun r79_2 hT er79_2 fr79_2 => ?_)
  refine ezw_aload_n rfl rfl ?_
  refine ezm_gp (p := 80) rfl (fun _ => rfl) ?_
  refine ezw_sipush (1100) rfl rfl ?_
  refine ezw_aload_n rfl rfl ?_
  refine ezm_g13 rfl ?_
  refine ezw_iadd (k := i13 + 1100) rfl (by omega) ?_
  refine ezw_iload_n rfl rfl ?_
  refine ezm_s80 hT rfl (by omega) (by omega) ha2 (fun r80_3 hT er80_3 fr80_3 => ?_)
  refine ezw_aload_n rfl rfl ?_
  refine ezw_dup rfl rfl ?_
  refine ezm_g13 rfl ?_
  refine ezw_iconst (1) rfl rfl ?_
  refine ezw_iadd (k := i13 + 1) rfl (by omega) ?_
  refine ezm_p13 hT rfl ⟨by omega, by omega⟩ (fun hT => ?_)
  exact ezw_return rfl rfl ⟨(i13 + 1), r79_2, r80_3, rfl, hT, by omega, fun j hj => ⟨fr79_2 j (by omega), fr80_3 j (by omega)⟩, er79_2, er80_3, rfl⟩
end KM6
