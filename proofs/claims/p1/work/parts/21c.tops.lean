/-! ===== the map, asked through the class; and the reference ===== -/
section KM
variable {l : Launch} {ρ : ezq_E} {B : Nat} {xa : Nat → Option Nat} {Hb : Heap} {D : va_G} {cA : Nat → ClassId} {d : Nat} {g : Nat → ezq_C}

/-- the class's objects as the constructors lay them; elm is at 30 -/
def ezw_rfX : Nat → Nat := fun k => match k with
  | 0 => 1
  | 1 => 4
  | 2 => 13
  | 3 => 16
  | 4 => 18
  | 5 => 22
  | 6 => 29
  | 7 => 30
  | 8 => 47
  | 9 => 64
  | _ => 68
def ezw_first : Int → Int := fun k => if k = 1 then 9 else if k = 9 then 10 else if k = 10 then 5 else 0
/-- the tree of the start: no elms, the numbers as always -/
def ezw_tree0 (g : Nat → ezq_C) : Prop := (∃ f, g 0 = ezw_obj 11 ezw_rfX f) ∧ (∃ f, g 30 = ezw_obj 9 (ezw_rfT 30) f ∧ f 15 = 0 ∧ f 16 = 0 ∧ f 17 = 0) ∧ g 44 = ezw_ca 11 ezw_first ∧ (∃ f, g 38 = ezw_obj 2 (fun _ => 39) f) ∧ ∃ a, g 39 = ezw_ca 16 a ∧ ∀ k, a k = 0
theorem ezc_safe {x y : Int} (hx : ezw_in x) (hy : ezw_in y) (h0 : ezw_tree0 g) (hd : 6 ≤ d) : ezw_C l ρ B xa Hb D cA 181 d [ezw_p 0, ezw_i x, ezw_i y] g (ezw_Q (some (ezw_i (if 0 ≤ x ∧ x < 16 ∧ 0 ≤ y ∧ y < 16 then 15 else -1))) g) := by
  refine ezw_met (k := 0) rfl ?_
  have hx1 := hx.1
  have hx2 := hx.2
  have hy1 := hy.1
  have hy2 := hy.2
  obtain ⟨⟨fX, hX⟩, ⟨fT, hT, t15, t16, t17⟩, hN, ⟨fE, hE⟩, ⟨a, hA, ha⟩⟩ := h0
  refine ezw_iload_n rfl rfl ?_
  refine ezw_iload_n rfl rfl ?_
  refine ezw_call2_2 rfl (by omega) rfl rfl (ezc_isPlace ⟨by omega, by omega⟩ ⟨by omega, by omega⟩) ?_
  rintro _ _ ⟨rfl, rfl⟩
  have e5 : (if 0 ≤ x ∧ x < 16 ∧ 0 ≤ y ∧ y < 16 then (1 : Int) else 0) = 1 ∧ (0 ≤ x ∧ x < 16 ∧ 0 ≤ y ∧ y < 16) ∨ (if 0 ≤ x ∧ x < 16 ∧ 0 ≤ y ∧ y < 16 then (1 : Int) else 0) = 0 ∧ ¬ (0 ≤ x ∧ x < 16 ∧ 0 ≤ y ∧ y < 16) := by
    by_cases hc : 0 ≤ x ∧ x < 16 ∧ 0 ≤ y ∧ y < 16
    · exact Or.inl ⟨if_pos hc, hc⟩
    · exact Or.inr ⟨if_neg hc, hc⟩
  generalize (if 0 ≤ x ∧ x < 16 ∧ 0 ≤ y ∧ y < 16 then (1 : Int) else 0) = p5 at e5 ⊢
  refine ezw_if_eq rfl rfl ⟨by omega, by omega⟩ (fun h5 => ?_) (fun h5 => ?_)
  · refine ezw_iconst (-1) rfl rfl ?_
    exact ezw_ireturn rfl rfl ⟨congrArg (fun x => some (ezw_i x)) (by first | exact if_pos (by omega) | exact if_neg (by omega)), rfl⟩
  · refine ezw_aload_n rfl rfl ?_
    refine ezw_getfield rfl hX rfl rfl rfl ?_
    refine ezw_getfield rfl hT rfl rfl rfl ?_
    refine ezw_iload_n rfl rfl ?_
    refine ezw_iload_n rfl rfl ?_
    refine ezw_aload_n rfl rfl ?_
    refine ezw_getfield rfl hX rfl rfl rfl ?_
    refine ezw_bipush (10) rfl rfl ?_
    refine ezw_call0_1 rfl (by omega) hT rfl rfl rfl rfl (ezc_number (q := 30) hT hN (by omega) ⟨by omega, by omega⟩ (by omega)) ?_
    rintro _ _ ⟨rfl, rfl⟩
    refine ezw_call0_3 rfl (by omega) hE rfl rfl rfl rfl (ezc_safe0 (e := 38) hE hA ha (by omega) (by omega) (by omega) (by omega) (by omega) (by decide) (by decide) (by omega)) ?_
    rintro _ _ ⟨rfl, rfl⟩
    refine ezw_goto rfl rfl ?_
    exact ezw_ireturn rfl rfl ⟨congrArg (fun x => some (ezw_i x)) (by first | exact if_pos (by omega) | exact if_neg (by omega)), rfl⟩
theorem ezc_nearest {x y : Int} (hx : ezw_in x) (hy : ezw_in y) (h0 : ezw_tree0 g) (hd : 6 ≤ d) : ezw_C l ρ B xa Hb D cA 187 d [ezw_p 0, ezw_i x, ezw_i y] g (ezw_Q (some (ezw_i (if 0 ≤ x ∧ x < 16 ∧ 0 ≤ y ∧ y < 16 then 0 else -1))) g) := by
  refine ezw_met (k := 0) rfl ?_
  have hx1 := hx.1
  have hx2 := hx.2
  have hy1 := hy.1
  have hy2 := hy.2
  obtain ⟨⟨fX, hX⟩, ⟨fT, hT, t15, t16, t17⟩, hN, ⟨fE, hE⟩, ⟨a, hA, ha⟩⟩ := h0
  refine ezw_iload_n rfl rfl ?_
  refine ezw_iload_n rfl rfl ?_
  refine ezw_call2_2 rfl (by omega) rfl rfl (ezc_isPlace ⟨by omega, by omega⟩ ⟨by omega, by omega⟩) ?_
  rintro _ _ ⟨rfl, rfl⟩
  have e5 : (if 0 ≤ x ∧ x < 16 ∧ 0 ≤ y ∧ y < 16 then (1 : Int) else 0) = 1 ∧ (0 ≤ x ∧ x < 16 ∧ 0 ≤ y ∧ y < 16) ∨ (if 0 ≤ x ∧ x < 16 ∧ 0 ≤ y ∧ y < 16 then (1 : Int) else 0) = 0 ∧ ¬ (0 ≤ x ∧ x < 16 ∧ 0 ≤ y ∧ y < 16) := by
    by_cases hc : 0 ≤ x ∧ x < 16 ∧ 0 ≤ y ∧ y < 16
    · exact Or.inl ⟨if_pos hc, hc⟩
    · exact Or.inr ⟨if_neg hc, hc⟩
  generalize (if 0 ≤ x ∧ x < 16 ∧ 0 ≤ y ∧ y < 16 then (1 : Int) else 0) = p5 at e5 ⊢
  refine ezw_if_eq rfl rfl ⟨by omega, by omega⟩ (fun h5 => ?_) (fun h5 => ?_)
  · refine ezw_iconst (-1) rfl rfl ?_
    exact ezw_ireturn rfl rfl ⟨congrArg (fun x => some (ezw_i x)) (by first | exact if_pos (by omega) | exact if_neg (by omega)), rfl⟩
  · refine ezw_aload_n rfl rfl ?_
    refine ezw_getfield rfl hX rfl rfl rfl ?_
    refine ezw_getfield rfl hT rfl rfl rfl ?_
    refine ezw_iload_n rfl rfl ?_
    refine ezw_iload_n rfl rfl ?_
    refine ezw_aload_n rfl rfl ?_
    refine ezw_getfield rfl hX rfl rfl rfl ?_
    refine ezw_bipush (10) rfl rfl ?_
    refine ezw_call0_1 rfl (by omega) hT rfl rfl rfl rfl (ezc_number (q := 30) hT hN (by omega) ⟨by omega, by omega⟩ (by omega)) ?_
    rintro _ _ ⟨rfl, rfl⟩
    refine ezw_call0_3 rfl (by omega) hE rfl rfl rfl rfl (ezc_steps0 (e := 38) hE hA ha (by omega) (by decide) (by decide) (by omega) (by omega) (by omega) (by omega) (by omega)) ?_
    rintro _ _ ⟨rfl, rfl⟩
    refine ezw_goto rfl rfl ?_
    exact ezw_ireturn rfl rfl ⟨congrArg (fun x => some (ezw_i x)) (by first | exact if_pos (by omega) | exact if_neg (by omega)), rfl⟩
theorem ezc_places {x : Int} (hx : ezw_in x) (h0 : ezw_tree0 g) (hd : 6 ≤ d) : ezw_C l ρ B xa Hb D cA 185 d [ezw_p 0, ezw_i x] g (ezw_Q (some (ezw_i (if -1 ≤ x ∧ x < 4 then 256 else -1))) g) := by
  refine ezw_met (k := 0) rfl ?_
  have hx1 := hx.1
  have hx2 := hx.2
  obtain ⟨⟨fX, hX⟩, ⟨fT, hT, t15, t16, t17⟩, hN, ⟨fE, hE⟩, ⟨a, hA, ha⟩⟩ := h0
  refine ezw_iload_n rfl rfl ?_
  refine ezw_iconst (-1) rfl rfl ?_
  refine ezw_icmp_eq rfl rfl ⟨by omega, by omega⟩ ⟨by omega, by omega⟩ (fun h2 => ?_) (fun h2 => ?_)
  · refine ezw_aload_n rfl rfl ?_
    refine ezw_getfield rfl hX rfl rfl rfl ?_
    refine ezw_getfield rfl hT rfl rfl rfl ?_
    refine ezw_iload_n rfl rfl ?_
    refine ezw_iconst (-1) rfl rfl ?_
    refine ezw_icmp_ne rfl rfl ⟨by omega, by omega⟩ ⟨by omega, by omega⟩ (fun h23 => ?_) (fun h23 => ?_)
    · have hx03 : x = 0 ∨ x = 1 ∨ x = 2 ∨ x = 3 := by omega
      refine ezw_iconst (1) rfl rfl ?_
      refine ezw_iload_n rfl rfl ?_
      refine ezw_ishl rfl (by omega) (by omega) rfl ?_
      refine ezw_aload_n rfl rfl ?_
      refine ezw_getfield rfl hX rfl rfl rfl ?_
      refine ezw_bipush (10) rfl rfl ?_
      refine ezw_call0_1 rfl (by omega) hT rfl rfl rfl rfl (ezc_number (q := 30) hT hN (by omega) ⟨by omega, by omega⟩ (by omega)) ?_
      rintro _ _ ⟨rfl, rfl⟩
      refine ezw_call0_2 rfl (by omega) hE rfl rfl rfl rfl (ezc_cells0 (e := 38) hE hA ha (by omega) (by decide) (by decide) (by first | rfl | (rcases hx03 with rfl | rfl | rfl | rfl <;> rfl)) (by first | exact ⟨by decide, by decide⟩ | (rcases hx03 with rfl | rfl | rfl | rfl <;> exact ⟨by decide, by decide⟩)) (by omega)) ?_
      rintro _ _ ⟨rfl, rfl⟩
      exact ezw_ireturn rfl rfl ⟨congrArg (fun x => some (ezw_i x)) (by first | exact if_pos (by omega) | exact if_neg (by omega)), rfl⟩
    · refine ezw_bipush (15) rfl rfl ?_
      refine ezw_goto rfl rfl ?_
      refine ezw_aload_n rfl rfl ?_
      refine ezw_getfield rfl hX rfl rfl rfl ?_
      refine ezw_bipush (10) rfl rfl ?_
      refine ezw_call0_1 rfl (by omega) hT rfl rfl rfl rfl (ezc_number (q := 30) hT hN (by omega) ⟨by omega, by omega⟩ (by omega)) ?_
      rintro _ _ ⟨rfl, rfl⟩
      refine ezw_call0_2 rfl (by omega) hE rfl rfl rfl rfl (ezc_cells0 (e := 38) hE hA ha (by omega) (by decide) (by decide) (by first | rfl | (rcases hx03 with rfl | rfl | rfl | rfl <;> rfl)) (by first | exact ⟨by decide, by decide⟩ | (rcases hx03 with rfl | rfl | rfl | rfl <;> exact ⟨by decide, by decide⟩)) (by omega)) ?_
      rintro _ _ ⟨rfl, rfl⟩
      exact ezw_ireturn rfl rfl ⟨congrArg (fun x => some (ezw_i x)) (by first | exact if_pos (by omega) | exact if_neg (by omega)), rfl⟩
  · refine ezw_iload_n rfl rfl ?_
    refine ezw_call2_1 rfl (by omega) rfl rfl (ezc_isSide ⟨by omega, by omega⟩) ?_
    rintro _ _ ⟨rfl, rfl⟩
    have e5 : (if 0 ≤ x ∧ x < 4 then (1 : Int) else 0) = 1 ∧ (0 ≤ x ∧ x < 4) ∨ (if 0 ≤ x ∧ x < 4 then (1 : Int) else 0) = 0 ∧ ¬ (0 ≤ x ∧ x < 4) := by
      by_cases hc : 0 ≤ x ∧ x < 4
      · exact Or.inl ⟨if_pos hc, hc⟩
      · exact Or.inr ⟨if_neg hc, hc⟩
    generalize (if 0 ≤ x ∧ x < 4 then (1 : Int) else 0) = p5 at e5 ⊢
    refine ezw_if_ne rfl rfl ⟨by omega, by omega⟩ (fun h9 => ?_) (fun h9 => ?_)
    · refine ezw_aload_n rfl rfl ?_
      refine ezw_getfield rfl hX rfl rfl rfl ?_
      refine ezw_getfield rfl hT rfl rfl rfl ?_
      refine ezw_iload_n rfl rfl ?_
      refine ezw_iconst (-1) rfl rfl ?_
      refine ezw_icmp_ne rfl rfl ⟨by omega, by omega⟩ ⟨by omega, by omega⟩ (fun h23 => ?_) (fun h23 => ?_)
      · have hx03 : x = 0 ∨ x = 1 ∨ x = 2 ∨ x = 3 := by omega
        refine ezw_iconst (1) rfl rfl ?_
        refine ezw_iload_n rfl rfl ?_
        refine ezw_ishl rfl (by omega) (by omega) rfl ?_
        refine ezw_aload_n rfl rfl ?_
        refine ezw_getfield rfl hX rfl rfl rfl ?_
        refine ezw_bipush (10) rfl rfl ?_
        refine ezw_call0_1 rfl (by omega) hT rfl rfl rfl rfl (ezc_number (q := 30) hT hN (by omega) ⟨by omega, by omega⟩ (by omega)) ?_
        rintro _ _ ⟨rfl, rfl⟩
        refine ezw_call0_2 rfl (by omega) hE rfl rfl rfl rfl (ezc_cells0 (e := 38) hE hA ha (by omega) (by decide) (by decide) (by first | rfl | (rcases hx03 with rfl | rfl | rfl | rfl <;> rfl)) (by first | exact ⟨by decide, by decide⟩ | (rcases hx03 with rfl | rfl | rfl | rfl <;> exact ⟨by decide, by decide⟩)) (by omega)) ?_
        rintro _ _ ⟨rfl, rfl⟩
        exact ezw_ireturn rfl rfl ⟨congrArg (fun x => some (ezw_i x)) (by first | exact if_pos (by omega) | exact if_neg (by omega)), rfl⟩
      · refine ezw_bipush (15) rfl rfl ?_
        refine ezw_goto rfl rfl ?_
        refine ezw_aload_n rfl rfl ?_
        refine ezw_getfield rfl hX rfl rfl rfl ?_
        refine ezw_bipush (10) rfl rfl ?_
        refine ezw_call0_1 rfl (by omega) hT rfl rfl rfl rfl (ezc_number (q := 30) hT hN (by omega) ⟨by omega, by omega⟩ (by omega)) ?_
        rintro _ _ ⟨rfl, rfl⟩
        refine ezw_call0_2 rfl (by omega) hE rfl rfl rfl rfl (ezc_cells0 (e := 38) hE hA ha (by omega) (by decide) (by decide) (by first | rfl | (rcases hx03 with rfl | rfl | rfl | rfl <;> rfl)) (by first | exact ⟨by decide, by decide⟩ | (rcases hx03 with rfl | rfl | rfl | rfl <;> exact ⟨by decide, by decide⟩)) (by omega)) ?_
        rintro _ _ ⟨rfl, rfl⟩
        exact ezw_ireturn rfl rfl ⟨congrArg (fun x => some (ezw_i x)) (by first | exact if_pos (by omega) | exact if_neg (by omega)), rfl⟩
    · refine ezw_iconst (-1) rfl rfl ?_
      exact ezw_ireturn rfl rfl ⟨congrArg (fun x => some (ezw_i x)) (by first | exact if_pos (by omega) | exact if_neg (by omega)), rfl⟩
end KM
