/-! ===== the model: laws, all levels ===== -/
section KM6
variable {l : Launch} {ρ : ezq_E} {B : Nat} {xa : Nat → Option Nat} {Hb : Heap} {D : va_G} {cA : Nat → ClassId} {d : Nat} {e : Bool × Bool} {F : Nat → Nat → Int} {A : Nat → Int → Int} {i0 i2 i3 i7 i8 i13 i18 i19 i20 i25 i29 i30 i31 i36 i37 i38 : Int} {r73 r74 r75 r76 r77 r78 r79 r80 r81 r82 r83 r84 r85 r86 r87 r88 r89 r90 r91 r92 r93 r94 r95 : Int → Int}
theorem ezm_lev : ∀ m : Nat, m ≤ 5 → ezm_I249 l ρ B xa Hb D cA m ∧ ezm_I245 l ρ B xa Hb D cA m := by
  intro m
  induction m with
  | zero =>
    intro _
    refine ⟨?_, ?_⟩
    · intro d e F A i0 i2 i3 i7 i8 i13 i18 i19 i20 i25 i29 i30 i31 i36 i37 i38 r73 r74 r75 r76 r77 r78 r79 r80 r81 r82 r83 r84 r85 r86 r87 r88 r89 r90 r91 r92 r93 r94 r95 n c x kk tpn dd hT hd hc hn hs h1 tk hM st g1 lm tp hdd
      have hdd : dd = 5 := by omega
      subst hdd
      exact ezm_m249_v5p hT (by omega) hc hn hs h1 tk hM st g1 lm tp
    · intro d e F A i0 i2 i3 i7 i8 i13 i18 i19 i20 i25 i29 i30 i31 i36 i37 i38 r73 r74 r75 r76 r77 r78 r79 r80 r81 r82 r83 r84 r85 r86 r87 r88 r89 r90 r91 r92 r93 r94 r95 n c x kk tpn dd hT hd hc hn hs h1 tk hM st g1 lm tp hdd
      have hdd : dd = 5 := by omega
      subst hdd
      exact ezm_m245_v5p hT (by omega) hc hn hs h1 tk hM st g1 lm tp
  | succ m ih =>
    intro hm
    obtain ⟨i249, i245⟩ := ih (by omega)
    refine ⟨?_, ?_⟩
    · intro d e F A i0 i2 i3 i7 i8 i13 i18 i19 i20 i25 i29 i30 i31 i36 i37 i38 r73 r74 r75 r76 r77 r78 r79 r80 r81 r82 r83 r84 r85 r86 r87 r88 r89 r90 r91 r92 r93 r94 r95 n c x kk tpn dd hT hd hc hn hs h1 tk hM st g1 lm tp hdd
      exact ezm_m249_vSp (ml := m + 1) (mm := m) hT (by omega) rfl (by omega) hdd i249 i245 hc hn hs h1 tk hM st g1 lm tp
    · intro d e F A i0 i2 i3 i7 i8 i13 i18 i19 i20 i25 i29 i30 i31 i36 i37 i38 r73 r74 r75 r76 r77 r78 r79 r80 r81 r82 r83 r84 r85 r86 r87 r88 r89 r90 r91 r92 r93 r94 r95 n c x kk tpn dd hT hd hc hn hs h1 tk hM st g1 lm tp hdd
      exact ezm_m245_vSp (ml := m + 1) (mm := m) hT (by omega) rfl (by omega) hdd i249 i245 hc hn hs h1 tk hM st g1 lm tp
theorem ezm_m245_v0L {n : Int} {c : Int → Int} {x : ezp_X} {kk : Int} {tpn : Int} (hT : ezm_T i0 i2 i3 i7 i8 i13 i18 i19 i20 i25 i29 i30 i31 i36 i37 i38 r73 r74 r75 r76 r77 r78 r79 r80 r81 r82 r83 r84 r85 r86 r87 r88 r89 r90 r91 r92 r93 r94 r95) (hd : 36 ≤ d) (hc : 0 ≤ i13 ∧ i13 ≤ i7) (hn : 0 ≤ i7 ∧ i7 ≤ n) (hs : r74 n = 0) (h1 : n ≤ 1000) (tk : ezm_TK c n r74 r75 r76) (hM : ∀ w, 0 ≤ w → w < 48 → r77 w = ezl_mw.getD w.toNat 0) (st : ezm_ST x.1 i8 i7) (g1 : 1 ≤ i7) (lm : ezm_LM kk x.2 i13 r79 r80) (tp : ezp_tp c tpn) : ezw_C l ρ B xa Hb D cA 245 d [ezw_p 72, ezw_i (0)] (ezm_h e F A i0 i2 i3 i7 i8 i13 i18 i19 i20 i25 i29 i30 i31 i36 i37 i38 r73 r74 r75 r76 r77 r78 r79 r80 r81 r82 r83 r84 r85 r86 r87 r88 r89 r90 r91 r92 r93 r94 r95) (fun v g' => ∃ (x7 x8 x13 : Int) (x79 x80 : Int → Int), ezm_h e F A i0 i2 i3 x7 x8 x13 i18 i19 i20 i25 i29 i30 i31 i36 i37 i38 r73 r74 r75 r76 r77 r78 x79 x80 r81 r82 r83 r84 r85 r86 r87 r88 r89 r90 r91 r92 r93 r94 r95 = g' ∧ ezm_T i0 i2 i3 x7 x8 x13 i18 i19 i20 i25 i29 i30 i31 i36 i37 i38 r73 r74 r75 r76 r77 r78 x79 x80 r81 r82 r83 r84 r85 r86 r87 r88 r89 r90 r91 r92 r93 r94 r95 ∧ (i8 ≠ 0 → x8 ≠ 0) ∧ (i7 ≤ x7 ∧ x7 ≤ n) ∧ (i13 ≤ x13 ∧ x13 - i13 ≤ x7 - i7) ∧ (ezm_fr r79 r80 x79 x80 (i13 + 1100)) ∧ (x8 = 0 → ezm_sg x79 x80 (i13 + 1100) (x13 + 1100)) ∧ (ezm_ST ((ezp_rk c (ezp_pt c 5) 4 x).1) x8 x7) ∧ (ezm_LM kk ((ezp_rk c (ezp_pt c 5) 4 x).2) x13 x79 x80) ∧ none = v) := (ezm_lev 5 (by decide)).2 d e F A i0 i2 i3 i7 i8 i13 i18 i19 i20 i25 i29 i30 i31 i36 i37 i38 r73 r74 r75 r76 r77 r78 r79 r80 r81 r82 r83 r84 r85 r86 r87 r88 r89 r90 r91 r92 r93 r94 r95 n c x kk tpn 0 hT (by omega) hc hn hs h1 tk hM st g1 lm tp (by decide)
end KM6
