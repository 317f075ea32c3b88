/-! ===== the reference: the map without elms ===== -/
section KM
variable {l : Launch} {ρ : ezq_E} {B : Nat} {xa : Nat → Option Nat} {Hb : Heap} {D : va_G} {cA : Nat → ClassId} {d : Nat} {g : Nat → ezq_C}

/-- the reference's rows as its constructor lays them -/
def ezw_rfM : Nat → Nat := fun k => match k with
  | 1 => 73
  | 4 => 74
  | 5 => 75
  | 6 => 76
  | 9 => 77
  | 10 => 78
  | 11 => 79
  | 12 => 80
  | 14 => 81
  | 15 => 82
  | 16 => 83
  | 17 => 84
  | 21 => 85
  | 22 => 86
  | 23 => 87
  | 24 => 88
  | 26 => 89
  | 27 => 90
  | 28 => 91
  | 32 => 92
  | 33 => 93
  | 34 => 94
  | _ => 95
/-- the trees' row of the start -/
def ezw_tr0 (tr : Int → Int) : Prop := tr 1 = 0 ∧ tr 2 = 0 ∧ tr 4 = 0 ∧ tr 7 = 0 ∧ tr 8 = 0 ∧ tr 10 = 0 ∧ tr 14 = 5
theorem ezc_isElm0 {f : Nat → Int} {tr : Int → Int} (hM : g 72 = ezw_obj 12 ezw_rfM f) (hR : g 78 = ezw_ca 200 tr) (h0 : ezw_tr0 tr) {x y : Int} : ezw_C l ρ B xa Hb D cA 323 d [ezw_p 72, ezw_i x, ezw_i y] g (ezw_Q (some (ezw_i (0))) g) := by
  refine ezw_met (k := 2) rfl ?_
  obtain ⟨r1, r2, r4, r7, r8, r10, r14⟩ := h0
  refine ezw_iconst (0) rfl rfl ?_
  refine ezw_istore_n rfl rfl ?_
  refine ezw_iconst (0) rfl rfl ?_
  refine ezw_istore rfl rfl ?_
  refine ezw_iload rfl rfl ?_
  refine ezw_aload_n rfl rfl ?_
  refine ezw_getfield rfl hM rfl rfl rfl ?_
  refine ezw_iconst (2) rfl rfl ?_
  refine ezw_iaload rfl hR rfl (by omega) (by omega) (by omega) rfl ?_
  refine ezw_icmp_ge rfl rfl ⟨by omega, by omega⟩ ⟨by omega, by omega⟩ (fun h13 => ?_) (fun h13 => ?_)
  rotate_left
  · exact absurd h13 (by omega)
  refine ezw_iload_n rfl rfl ?_
  exact ezw_ireturn rfl (ezw_zret ⟨by omega, by omega⟩) ⟨rfl, rfl⟩
theorem ezc_isSafeL {f : Nat → Int} {tr : Int → Int} (hM : g 72 = ezw_obj 12 ezw_rfM f) (hR : g 78 = ezw_ca 200 tr) (h0 : ezw_tr0 tr) {x y s : Int} (hs0 : 0 ≤ s) (hs1 : s < 4) (hd : 1 ≤ d) (k : Nat) : ∀ (i : Int) (l6 l7 : Option ezq_V), 0 ≤ i → i + (k : Int) = 6 → ezw_E l ρ B xa Hb D cA d ezq_re322 (ezw_Q (some (ezw_i (1))) g) 6 [some (ezw_p 72), some (ezw_i x), some (ezw_i y), some (ezw_i s), some (ezw_i 1), some (ezw_i i), l6, l7] [] g := by
  have h00 := h0
  obtain ⟨r1, r2, r4, r7, r8, r10, r14⟩ := h0
  induction k with
  | zero =>
    intro i l6 l7 i0 i1
    refine ezw_iload rfl rfl ?_
    refine ezw_aload_n rfl rfl ?_
    refine ezw_getfield rfl hM rfl rfl rfl ?_
    refine ezw_bipush (14) rfl rfl ?_
    refine ezw_iaload rfl hR rfl (by omega) (by omega) (by omega) rfl ?_
    refine ezw_icmp_gt rfl rfl ⟨by omega, by omega⟩ ⟨by omega, by omega⟩ (fun h15 => ?_) (fun h15 => ?_)
    rotate_left
    · exact absurd h15 (by omega)
    refine ezw_iload rfl rfl ?_
    exact ezw_ireturn rfl (ezw_zret ⟨by omega, by omega⟩) ⟨rfl, rfl⟩
  | succ k ih =>
    intro i l6 l7 i0 i1
    refine ezw_iload rfl rfl ?_
    refine ezw_aload_n rfl rfl ?_
    refine ezw_getfield rfl hM rfl rfl rfl ?_
    refine ezw_bipush (14) rfl rfl ?_
    refine ezw_iaload rfl hR rfl (by omega) (by omega) (by omega) rfl ?_
    refine ezw_icmp_gt rfl rfl ⟨by omega, by omega⟩ ⟨by omega, by omega⟩ (fun h15 => ?_) (fun h15 => ?_)
    · exact absurd h15 (by omega)
    refine ezw_iload_n rfl rfl ?_
    refine ezw_iconst (1) rfl rfl ?_
    refine ezw_icmp_ne rfl rfl ⟨by omega, by omega⟩ ⟨by omega, by omega⟩ (fun h20 => ?_) (fun h20 => ?_)
    · refine ezw_iload_n rfl rfl ?_
      refine ezw_iconst (3) rfl rfl ?_
      refine ezw_icmp_ne rfl rfl ⟨by omega, by omega⟩ ⟨by omega, by omega⟩ (fun h31 => ?_) (fun h31 => ?_)
      · refine ezw_iconst (0) rfl rfl ?_
        refine ezw_istore rfl rfl ?_
        refine ezw_iload_n rfl rfl ?_
        refine ezw_if_ne rfl rfl ⟨by omega, by omega⟩ (fun h43 => ?_) (fun h43 => ?_)
        · refine ezw_iload_n rfl rfl ?_
          refine ezw_iconst (2) rfl rfl ?_
          refine ezw_icmp_ne rfl rfl ⟨by omega, by omega⟩ ⟨by omega, by omega⟩ (fun h53 => ?_) (fun h53 => ?_)
          · refine ezw_iconst (0) rfl rfl ?_
            refine ezw_istore rfl rfl ?_
            refine ezw_iload rfl rfl ?_
            refine ezw_if_eq rfl rfl ⟨by omega, by omega⟩ (fun h67 => ?_) (fun h67 => ?_)
            · exact absurd h67 (by omega)
            refine ezw_aload_n rfl rfl ?_
            refine ezw_iload_n rfl rfl ?_
            refine ezw_iload rfl rfl ?_
            refine ezw_iadd rfl rfl ?_
            refine ezw_iload_n rfl rfl ?_
            refine ezw_iload rfl rfl ?_
            refine ezw_iadd rfl rfl ?_
            refine ezw_call0_2 rfl (by omega) hM rfl rfl rfl rfl (ezc_isElm0 hM hR h00) ?_
            rintro _ _ ⟨rfl, rfl⟩
            refine ezw_if_ne rfl rfl ⟨by omega, by omega⟩ (fun h82 => ?_) (fun h82 => ?_)
            · exact absurd h82 (by omega)
            refine ezw_iconst (1) rfl rfl ?_
            refine ezw_goto rfl rfl ?_
            refine ezw_istore rfl rfl ?_
            refine ezw_iinc (1) rfl rfl rfl rfl rfl ?_
            refine ezw_goto rfl rfl ?_
            exact ih _ _ _ (by omega) (by omega)
          · refine ezw_iload rfl rfl ?_
            refine ezw_ineg rfl rfl ?_
            refine ezw_goto rfl rfl ?_
            refine ezw_istore rfl rfl ?_
            refine ezw_iload rfl rfl ?_
            refine ezw_if_eq rfl rfl ⟨by omega, by omega⟩ (fun h67 => ?_) (fun h67 => ?_)
            · exact absurd h67 (by omega)
            refine ezw_aload_n rfl rfl ?_
            refine ezw_iload_n rfl rfl ?_
            refine ezw_iload rfl rfl ?_
            refine ezw_iadd rfl rfl ?_
            refine ezw_iload_n rfl rfl ?_
            refine ezw_iload rfl rfl ?_
            refine ezw_iadd rfl rfl ?_
            refine ezw_call0_2 rfl (by omega) hM rfl rfl rfl rfl (ezc_isElm0 hM hR h00) ?_
            rintro _ _ ⟨rfl, rfl⟩
            refine ezw_if_ne rfl rfl ⟨by omega, by omega⟩ (fun h82 => ?_) (fun h82 => ?_)
            · exact absurd h82 (by omega)
            refine ezw_iconst (1) rfl rfl ?_
            refine ezw_goto rfl rfl ?_
            refine ezw_istore rfl rfl ?_
            refine ezw_iinc (1) rfl rfl rfl rfl rfl ?_
            refine ezw_goto rfl rfl ?_
            exact ih _ _ _ (by omega) (by omega)
        · refine ezw_iload rfl rfl ?_
          refine ezw_goto rfl rfl ?_
          refine ezw_istore rfl rfl ?_
          refine ezw_iload rfl rfl ?_
          refine ezw_if_eq rfl rfl ⟨by omega, by omega⟩ (fun h67 => ?_) (fun h67 => ?_)
          · exact absurd h67 (by omega)
          refine ezw_aload_n rfl rfl ?_
          refine ezw_iload_n rfl rfl ?_
          refine ezw_iload rfl rfl ?_
          refine ezw_iadd rfl rfl ?_
          refine ezw_iload_n rfl rfl ?_
          refine ezw_iload rfl rfl ?_
          refine ezw_iadd rfl rfl ?_
          refine ezw_call0_2 rfl (by omega) hM rfl rfl rfl rfl (ezc_isElm0 hM hR h00) ?_
          rintro _ _ ⟨rfl, rfl⟩
          refine ezw_if_ne rfl rfl ⟨by omega, by omega⟩ (fun h82 => ?_) (fun h82 => ?_)
          · exact absurd h82 (by omega)
          refine ezw_iconst (1) rfl rfl ?_
          refine ezw_goto rfl rfl ?_
          refine ezw_istore rfl rfl ?_
          refine ezw_iinc (1) rfl rfl rfl rfl rfl ?_
          refine ezw_goto rfl rfl ?_
          exact ih _ _ _ (by omega) (by omega)
      · refine ezw_iload rfl rfl ?_
        refine ezw_goto rfl rfl ?_
        refine ezw_istore rfl rfl ?_
        refine ezw_iload_n rfl rfl ?_
        refine ezw_if_ne rfl rfl ⟨by omega, by omega⟩ (fun h43 => ?_) (fun h43 => ?_)
        · refine ezw_iload_n rfl rfl ?_
          refine ezw_iconst (2) rfl rfl ?_
          refine ezw_icmp_ne rfl rfl ⟨by omega, by omega⟩ ⟨by omega, by omega⟩ (fun h53 => ?_) (fun h53 => ?_)
          · refine ezw_iconst (0) rfl rfl ?_
            refine ezw_istore rfl rfl ?_
            refine ezw_iload rfl rfl ?_
            refine ezw_if_eq rfl rfl ⟨by omega, by omega⟩ (fun h67 => ?_) (fun h67 => ?_)
            · exact absurd h67 (by omega)
            refine ezw_aload_n rfl rfl ?_
            refine ezw_iload_n rfl rfl ?_
            refine ezw_iload rfl rfl ?_
            refine ezw_iadd rfl rfl ?_
            refine ezw_iload_n rfl rfl ?_
            refine ezw_iload rfl rfl ?_
            refine ezw_iadd rfl rfl ?_
            refine ezw_call0_2 rfl (by omega) hM rfl rfl rfl rfl (ezc_isElm0 hM hR h00) ?_
            rintro _ _ ⟨rfl, rfl⟩
            refine ezw_if_ne rfl rfl ⟨by omega, by omega⟩ (fun h82 => ?_) (fun h82 => ?_)
            · exact absurd h82 (by omega)
            refine ezw_iconst (1) rfl rfl ?_
            refine ezw_goto rfl rfl ?_
            refine ezw_istore rfl rfl ?_
            refine ezw_iinc (1) rfl rfl rfl rfl rfl ?_
            refine ezw_goto rfl rfl ?_
            exact ih _ _ _ (by omega) (by omega)
          · refine ezw_iload rfl rfl ?_
            refine ezw_ineg rfl rfl ?_
            refine ezw_goto rfl rfl ?_
            refine ezw_istore rfl rfl ?_
            refine ezw_iload rfl rfl ?_
            refine ezw_if_eq rfl rfl ⟨by omega, by omega⟩ (fun h67 => ?_) (fun h67 => ?_)
            · exact absurd h67 (by omega)
            refine ezw_aload_n rfl rfl ?_
            refine ezw_iload_n rfl rfl ?_
            refine ezw_iload rfl rfl ?_
            refine ezw_iadd rfl rfl ?_
            refine ezw_iload_n rfl rfl ?_
            refine ezw_iload rfl rfl ?_
            refine ezw_iadd rfl rfl ?_
            refine ezw_call0_2 rfl (by omega) hM rfl rfl rfl rfl (ezc_isElm0 hM hR h00) ?_
            rintro _ _ ⟨rfl, rfl⟩
            refine ezw_if_ne rfl rfl ⟨by omega, by omega⟩ (fun h82 => ?_) (fun h82 => ?_)
            · exact absurd h82 (by omega)
            refine ezw_iconst (1) rfl rfl ?_
            refine ezw_goto rfl rfl ?_
            refine ezw_istore rfl rfl ?_
            refine ezw_iinc (1) rfl rfl rfl rfl rfl ?_
            refine ezw_goto rfl rfl ?_
            exact ih _ _ _ (by omega) (by omega)
        · refine ezw_iload rfl rfl ?_
          refine ezw_goto rfl rfl ?_
          refine ezw_istore rfl rfl ?_
          refine ezw_iload rfl rfl ?_
          refine ezw_if_eq rfl rfl ⟨by omega, by omega⟩ (fun h67 => ?_) (fun h67 => ?_)
          · exact absurd h67 (by omega)
          refine ezw_aload_n rfl rfl ?_
          refine ezw_iload_n rfl rfl ?_
          refine ezw_iload rfl rfl ?_
          refine ezw_iadd rfl rfl ?_
          refine ezw_iload_n rfl rfl ?_
          refine ezw_iload rfl rfl ?_
          refine ezw_iadd rfl rfl ?_
          refine ezw_call0_2 rfl (by omega) hM rfl rfl rfl rfl (ezc_isElm0 hM hR h00) ?_
          rintro _ _ ⟨rfl, rfl⟩
          refine ezw_if_ne rfl rfl ⟨by omega, by omega⟩ (fun h82 => ?_) (fun h82 => ?_)
          · exact absurd h82 (by omega)
          refine ezw_iconst (1) rfl rfl ?_
          refine ezw_goto rfl rfl ?_
          refine ezw_istore rfl rfl ?_
          refine ezw_iinc (1) rfl rfl rfl rfl rfl ?_
          refine ezw_goto rfl rfl ?_
          exact ih _ _ _ (by omega) (by omega)
    · refine ezw_iload rfl rfl ?_
      refine ezw_ineg rfl rfl ?_
      refine ezw_goto rfl rfl ?_
      refine ezw_istore rfl rfl ?_
      refine ezw_iload_n rfl rfl ?_
      refine ezw_if_ne rfl rfl ⟨by omega, by omega⟩ (fun h43 => ?_) (fun h43 => ?_)
      · refine ezw_iload_n rfl rfl ?_
        refine ezw_iconst (2) rfl rfl ?_
        refine ezw_icmp_ne rfl rfl ⟨by omega, by omega⟩ ⟨by omega, by omega⟩ (fun h53 => ?_) (fun h53 => ?_)
        · refine ezw_iconst (0) rfl rfl ?_
          refine ezw_istore rfl rfl ?_
          refine ezw_iload rfl rfl ?_
          refine ezw_if_eq rfl rfl ⟨by omega, by omega⟩ (fun h67 => ?_) (fun h67 => ?_)
          · exact absurd h67 (by omega)
          refine ezw_aload_n rfl rfl ?_
          refine ezw_iload_n rfl rfl ?_
          refine ezw_iload rfl rfl ?_
          refine ezw_iadd rfl rfl ?_
          refine ezw_iload_n rfl rfl ?_
          refine ezw_iload rfl rfl ?_
          refine ezw_iadd rfl rfl ?_
          refine ezw_call0_2 rfl (by omega) hM rfl rfl rfl rfl (ezc_isElm0 hM hR h00) ?_
          rintro _ _ ⟨rfl, rfl⟩
          refine ezw_if_ne rfl rfl ⟨by omega, by omega⟩ (fun h82 => ?_) (fun h82 => ?_)
          · exact absurd h82 (by omega)
          refine ezw_iconst (1) rfl rfl ?_
          refine ezw_goto rfl rfl ?_
          refine ezw_istore rfl rfl ?_
          refine ezw_iinc (1) rfl rfl rfl rfl rfl ?_
          refine ezw_goto rfl rfl ?_
          exact ih _ _ _ (by omega) (by omega)
        · refine ezw_iload rfl rfl ?_
          refine ezw_ineg rfl rfl ?_
          refine ezw_goto rfl rfl ?_
          refine ezw_istore rfl rfl ?_
          refine ezw_iload rfl rfl ?_
          refine ezw_if_eq rfl rfl ⟨by omega, by omega⟩ (fun h67 => ?_) (fun h67 => ?_)
          · exact absurd h67 (by omega)
          refine ezw_aload_n rfl rfl ?_
          refine ezw_iload_n rfl rfl ?_
          refine ezw_iload rfl rfl ?_
          refine ezw_iadd rfl rfl ?_
          refine ezw_iload_n rfl rfl ?_
          refine ezw_iload rfl rfl ?_
          refine ezw_iadd rfl rfl ?_
          refine ezw_call0_2 rfl (by omega) hM rfl rfl rfl rfl (ezc_isElm0 hM hR h00) ?_
          rintro _ _ ⟨rfl, rfl⟩
          refine ezw_if_ne rfl rfl ⟨by omega, by omega⟩ (fun h82 => ?_) (fun h82 => ?_)
          · exact absurd h82 (by omega)
          refine ezw_iconst (1) rfl rfl ?_
          refine ezw_goto rfl rfl ?_
          refine ezw_istore rfl rfl ?_
          refine ezw_iinc (1) rfl rfl rfl rfl rfl ?_
          refine ezw_goto rfl rfl ?_
          exact ih _ _ _ (by omega) (by omega)
      · refine ezw_iload rfl rfl ?_
        refine ezw_goto rfl rfl ?_
        refine ezw_istore rfl rfl ?_
        refine ezw_iload rfl rfl ?_
        refine ezw_if_eq rfl rfl ⟨by omega, by omega⟩ (fun h67 => ?_) (fun h67 => ?_)
        · exact absurd h67 (by omega)
        refine ezw_aload_n rfl rfl ?_
        refine ezw_iload_n rfl rfl ?_
        refine ezw_iload rfl rfl ?_
        refine ezw_iadd rfl rfl ?_
        refine ezw_iload_n rfl rfl ?_
        refine ezw_iload rfl rfl ?_
        refine ezw_iadd rfl rfl ?_
        refine ezw_call0_2 rfl (by omega) hM rfl rfl rfl rfl (ezc_isElm0 hM hR h00) ?_
        rintro _ _ ⟨rfl, rfl⟩
        refine ezw_if_ne rfl rfl ⟨by omega, by omega⟩ (fun h82 => ?_) (fun h82 => ?_)
        · exact absurd h82 (by omega)
        refine ezw_iconst (1) rfl rfl ?_
        refine ezw_goto rfl rfl ?_
        refine ezw_istore rfl rfl ?_
        refine ezw_iinc (1) rfl rfl rfl rfl rfl ?_
        refine ezw_goto rfl rfl ?_
        exact ih _ _ _ (by omega) (by omega)
theorem ezc_isSafe0 {f : Nat → Int} {tr : Int → Int} (hM : g 72 = ezw_obj 12 ezw_rfM f) (hR : g 78 = ezw_ca 200 tr) (h0 : ezw_tr0 tr) {x y s : Int} (hs0 : 0 ≤ s) (hs1 : s < 4) (hd : 1 ≤ d) : ezw_C l ρ B xa Hb D cA 322 d [ezw_p 72, ezw_i x, ezw_i y, ezw_i s] g (ezw_Q (some (ezw_i (1))) g) := by
  refine ezw_met (k := 4) rfl ?_
  refine ezw_iconst (1) rfl rfl ?_
  refine ezw_istore rfl rfl ?_
  refine ezw_iconst (0) rfl rfl ?_
  refine ezw_istore rfl rfl ?_
  exact ezc_isSafeL hM hR h0 hs0 hs1 (by omega) 6 0 none none (by omega) (by omega)
theorem ezc_safeSidesM4 {f : Nat → Int} {tr : Int → Int} (hM : g 72 = ezw_obj 12 ezw_rfM f) (hR : g 78 = ezw_ca 200 tr) (h0 : ezw_tr0 tr) {x y : Int} (hd : 2 ≤ d) : ezw_E l ρ B xa Hb D cA d ezq_re321 (ezw_Q (some (ezw_i (15))) g) 5 [some (ezw_p 72), some (ezw_i x), some (ezw_i y), some (ezw_i 15), some (ezw_i 4)] [] g := by
  refine ezw_iload rfl rfl ?_
  refine ezw_iconst (4) rfl rfl ?_
  refine ezw_icmp_ge rfl rfl ⟨by omega, by omega⟩ ⟨by omega, by omega⟩ (fun h8 => ?_) (fun h8 => ?_)
  rotate_left
  · exact absurd h8 (by omega)
  refine ezw_iload_n rfl rfl ?_
  exact ezw_ireturn rfl rfl ⟨rfl, rfl⟩
theorem ezc_safeSidesM3 {f : Nat → Int} {tr : Int → Int} (hM : g 72 = ezw_obj 12 ezw_rfM f) (hR : g 78 = ezw_ca 200 tr) (h0 : ezw_tr0 tr) {x y : Int} (hd : 2 ≤ d) : ezw_E l ρ B xa Hb D cA d ezq_re321 (ezw_Q (some (ezw_i (15))) g) 5 [some (ezw_p 72), some (ezw_i x), some (ezw_i y), some (ezw_i 7), some (ezw_i 3)] [] g := by
  refine ezw_iload rfl rfl ?_
  refine ezw_iconst (4) rfl rfl ?_
  refine ezw_icmp_ge rfl rfl ⟨by omega, by omega⟩ ⟨by omega, by omega⟩ (fun h8 => ?_) (fun h8 => ?_)
  · exact absurd h8 (by omega)
  refine ezw_iload_n rfl rfl ?_
  refine ezw_aload_n rfl rfl ?_
  refine ezw_iload_n rfl rfl ?_
  refine ezw_iload_n rfl rfl ?_
  refine ezw_iload rfl rfl ?_
  refine ezw_call0_3 rfl (by omega) hM rfl rfl rfl rfl (ezc_isSafe0 hM hR h0 (by omega) (by omega) (by omega)) ?_
  rintro _ _ ⟨rfl, rfl⟩
  refine ezw_if_eq rfl rfl ⟨by omega, by omega⟩ (fun h20 => ?_) (fun h20 => ?_)
  · exact absurd h20 (by omega)
  refine ezw_iconst (1) rfl rfl ?_
  refine ezw_iload rfl rfl ?_
  refine ezw_ishl rfl (by omega) (by omega) rfl ?_
  refine ezw_goto rfl rfl ?_
  refine ezw_ior rfl rfl ?_
  refine ezw_istore_n rfl rfl ?_
  refine ezw_iinc (1) rfl rfl rfl rfl rfl ?_
  refine ezw_goto rfl rfl ?_
  exact ezc_safeSidesM4 hM hR h0 hd
theorem ezc_safeSidesM2 {f : Nat → Int} {tr : Int → Int} (hM : g 72 = ezw_obj 12 ezw_rfM f) (hR : g 78 = ezw_ca 200 tr) (h0 : ezw_tr0 tr) {x y : Int} (hd : 2 ≤ d) : ezw_E l ρ B xa Hb D cA d ezq_re321 (ezw_Q (some (ezw_i (15))) g) 5 [some (ezw_p 72), some (ezw_i x), some (ezw_i y), some (ezw_i 3), some (ezw_i 2)] [] g := by
  refine ezw_iload rfl rfl ?_
  refine ezw_iconst (4) rfl rfl ?_
  refine ezw_icmp_ge rfl rfl ⟨by omega, by omega⟩ ⟨by omega, by omega⟩ (fun h8 => ?_) (fun h8 => ?_)
  · exact absurd h8 (by omega)
  refine ezw_iload_n rfl rfl ?_
  refine ezw_aload_n rfl rfl ?_
  refine ezw_iload_n rfl rfl ?_
  refine ezw_iload_n rfl rfl ?_
  refine ezw_iload rfl rfl ?_
  refine ezw_call0_3 rfl (by omega) hM rfl rfl rfl rfl (ezc_isSafe0 hM hR h0 (by omega) (by omega) (by omega)) ?_
  rintro _ _ ⟨rfl, rfl⟩
  refine ezw_if_eq rfl rfl ⟨by omega, by omega⟩ (fun h20 => ?_) (fun h20 => ?_)
  · exact absurd h20 (by omega)
  refine ezw_iconst (1) rfl rfl ?_
  refine ezw_iload rfl rfl ?_
  refine ezw_ishl rfl (by omega) (by omega) rfl ?_
  refine ezw_goto rfl rfl ?_
  refine ezw_ior rfl rfl ?_
  refine ezw_istore_n rfl rfl ?_
  refine ezw_iinc (1) rfl rfl rfl rfl rfl ?_
  refine ezw_goto rfl rfl ?_
  exact ezc_safeSidesM3 hM hR h0 hd
theorem ezc_safeSidesM1 {f : Nat → Int} {tr : Int → Int} (hM : g 72 = ezw_obj 12 ezw_rfM f) (hR : g 78 = ezw_ca 200 tr) (h0 : ezw_tr0 tr) {x y : Int} (hd : 2 ≤ d) : ezw_E l ρ B xa Hb D cA d ezq_re321 (ezw_Q (some (ezw_i (15))) g) 5 [some (ezw_p 72), some (ezw_i x), some (ezw_i y), some (ezw_i 1), some (ezw_i 1)] [] g := by
  refine ezw_iload rfl rfl ?_
  refine ezw_iconst (4) rfl rfl ?_
  refine ezw_icmp_ge rfl rfl ⟨by omega, by omega⟩ ⟨by omega, by omega⟩ (fun h8 => ?_) (fun h8 => ?_)
  · exact absurd h8 (by omega)
  refine ezw_iload_n rfl rfl ?_
  refine ezw_aload_n rfl rfl ?_
  refine ezw_iload_n rfl rfl ?_
  refine ezw_iload_n rfl rfl ?_
  refine ezw_iload rfl rfl ?_
  refine ezw_call0_3 rfl (by omega) hM rfl rfl rfl rfl (ezc_isSafe0 hM hR h0 (by omega) (by omega) (by omega)) ?_
  rintro _ _ ⟨rfl, rfl⟩
  refine ezw_if_eq rfl rfl ⟨by omega, by omega⟩ (fun h20 => ?_) (fun h20 => ?_)
  · exact absurd h20 (by omega)
  refine ezw_iconst (1) rfl rfl ?_
  refine ezw_iload rfl rfl ?_
  refine ezw_ishl rfl (by omega) (by omega) rfl ?_
  refine ezw_goto rfl rfl ?_
  refine ezw_ior rfl rfl ?_
  refine ezw_istore_n rfl rfl ?_
  refine ezw_iinc (1) rfl rfl rfl rfl rfl ?_
  refine ezw_goto rfl rfl ?_
  exact ezc_safeSidesM2 hM hR h0 hd
theorem ezc_safeSidesM0 {f : Nat → Int} {tr : Int → Int} (hM : g 72 = ezw_obj 12 ezw_rfM f) (hR : g 78 = ezw_ca 200 tr) (h0 : ezw_tr0 tr) {x y : Int} (hd : 2 ≤ d) : ezw_E l ρ B xa Hb D cA d ezq_re321 (ezw_Q (some (ezw_i (15))) g) 5 [some (ezw_p 72), some (ezw_i x), some (ezw_i y), some (ezw_i 0), some (ezw_i 0)] [] g := by
  refine ezw_iload rfl rfl ?_
  refine ezw_iconst (4) rfl rfl ?_
  refine ezw_icmp_ge rfl rfl ⟨by omega, by omega⟩ ⟨by omega, by omega⟩ (fun h8 => ?_) (fun h8 => ?_)
  · exact absurd h8 (by omega)
  refine ezw_iload_n rfl rfl ?_
  refine ezw_aload_n rfl rfl ?_
  refine ezw_iload_n rfl rfl ?_
  refine ezw_iload_n rfl rfl ?_
  refine ezw_iload rfl rfl ?_
  refine ezw_call0_3 rfl (by omega) hM rfl rfl rfl rfl (ezc_isSafe0 hM hR h0 (by omega) (by omega) (by omega)) ?_
  rintro _ _ ⟨rfl, rfl⟩
  refine ezw_if_eq rfl rfl ⟨by omega, by omega⟩ (fun h20 => ?_) (fun h20 => ?_)
  · exact absurd h20 (by omega)
  refine ezw_iconst (1) rfl rfl ?_
  refine ezw_iload rfl rfl ?_
  refine ezw_ishl rfl (by omega) (by omega) rfl ?_
  refine ezw_goto rfl rfl ?_
  refine ezw_ior rfl rfl ?_
  refine ezw_istore_n rfl rfl ?_
  refine ezw_iinc (1) rfl rfl rfl rfl rfl ?_
  refine ezw_goto rfl rfl ?_
  exact ezc_safeSidesM1 hM hR h0 hd
theorem ezc_safeM0 {f : Nat → Int} {tr : Int → Int} (hM : g 72 = ezw_obj 12 ezw_rfM f) (hR : g 78 = ezw_ca 200 tr) (h0 : ezw_tr0 tr) {x y : Int} (hd : 2 ≤ d) : ezw_C l ρ B xa Hb D cA 321 d [ezw_p 72, ezw_i x, ezw_i y] g (ezw_Q (some (ezw_i (15))) g) := by
  refine ezw_met (k := 2) rfl ?_
  refine ezw_iconst (0) rfl rfl ?_
  refine ezw_istore_n rfl rfl ?_
  refine ezw_iconst (0) rfl rfl ?_
  refine ezw_istore rfl rfl ?_
  exact ezc_safeSidesM0 hM hR h0 hd
theorem ezc_safeM {f : Nat → Int} {tr : Int → Int} (hM : g 72 = ezw_obj 12 ezw_rfM f) (hR : g 78 = ezw_ca 200 tr) (h0 : ezw_tr0 tr) {x y : Int} (hx : ezw_in x) (hy : ezw_in y) (hd : 4 ≤ d) : ezw_C l ρ B xa Hb D cA 319 d [ezw_p 72, ezw_i x, ezw_i y] g (ezw_Q (some (ezw_i (if 0 ≤ x ∧ x < 16 ∧ 0 ≤ y ∧ y < 16 then 15 else -1))) (ezw_u g 72 (ezw_obj 12 ezw_rfM (ezw_fu f 0 0)))) := by
  refine ezw_met (k := 0) rfl ?_
  have hx1 := hx.1
  have hx2 := hx.2
  have hy1 := hy.1
  have hy2 := hy.2
  refine ezw_aload_n rfl rfl ?_
  refine ezw_iconst (0) rfl rfl ?_
  refine ezw_putf_i rfl hM rfl rfl rfl ?_
  refine ezw_iload_n rfl rfl ?_
  refine ezw_iload_n rfl rfl ?_
  refine ezw_call2_2 rfl (by omega) rfl rfl (ezc_isPlaceM ⟨by omega, by omega⟩ ⟨by omega, by omega⟩) ?_
  rintro _ _ ⟨rfl, rfl⟩
  have e5 : (if 0 ≤ x ∧ x < 16 ∧ 0 ≤ y ∧ y < 16 then (1 : Int) else 0) = 1 ∧ (0 ≤ x ∧ x < 16 ∧ 0 ≤ y ∧ y < 16) ∨ (if 0 ≤ x ∧ x < 16 ∧ 0 ≤ y ∧ y < 16 then (1 : Int) else 0) = 0 ∧ ¬ (0 ≤ x ∧ x < 16 ∧ 0 ≤ y ∧ y < 16) := by
    by_cases hc : 0 ≤ x ∧ x < 16 ∧ 0 ≤ y ∧ y < 16
    · exact Or.inl ⟨if_pos hc, hc⟩
    · exact Or.inr ⟨if_neg hc, hc⟩
  generalize (if 0 ≤ x ∧ x < 16 ∧ 0 ≤ y ∧ y < 16 then (1 : Int) else 0) = p5 at e5 ⊢
  refine ezw_if_eq rfl rfl ⟨by omega, by omega⟩ (fun h10 => ?_) (fun h10 => ?_)
  · refine ezw_iconst (-1) rfl rfl ?_
    exact ezw_ireturn rfl rfl ⟨congrArg (fun x => some (ezw_i x)) (by first | exact if_pos (by omega) | exact if_neg (by omega)), rfl⟩
  · refine ezw_aload_n rfl rfl ?_
    refine ezw_iload_n rfl rfl ?_
    refine ezw_iload_n rfl rfl ?_
    refine ezw_call0_2 rfl (by omega) ezw_ug rfl rfl rfl rfl (ezc_safeM0 ezw_ug ((ezw_un (by decide)).trans hR) h0 (by omega)) ?_
    rintro _ _ ⟨rfl, rfl⟩
    refine ezw_goto rfl rfl ?_
    exact ezw_ireturn rfl rfl ⟨congrArg (fun x => some (ezw_i x)) (by first | exact if_pos (by omega) | exact if_neg (by omega)), rfl⟩
theorem ezc_placesML {f : Nat → Int} {tr : Int → Int} (hM : g 72 = ezw_obj 12 ezw_rfM f) (hR : g 78 = ezw_ca 200 tr) (h0 : ezw_tr0 tr) {x : Int} (hx0 : -1 ≤ x) (hx1 : x < 4) (hd : 3 ≤ d) (k : Nat) : ∀ (k0 n : Int) (l4 : Option ezq_V), 0 ≤ k0 → k0 + (k : Int) = 256 → n = k0 → ezw_E l ρ B xa Hb D cA d ezq_re324 (ezw_Q (some (ezw_i (256))) g) 20 [some (ezw_p 72), some (ezw_i x), some (ezw_i n), some (ezw_i k0), l4] [] g := by
  have hxs : ∀ x : Int, -1 ≤ x → x < 4 → 0 ≤ x → ezw_and (15 / 2 ^ x.toNat) 1 = 1 := by
    intro x a b c
    have : x = 0 ∨ x = 1 ∨ x = 2 ∨ x = 3 := by omega
    rcases this with rfl | rfl | rfl | rfl <;> rfl
  induction k with
  | zero =>
    intro k0 n l4 i0 i1 i2
    refine ezw_iload_n rfl rfl ?_
    refine ezw_sipush (256) rfl rfl ?_
    refine ezw_icmp_ge rfl rfl ⟨by omega, by omega⟩ ⟨by omega, by omega⟩ (fun h24 => ?_) (fun h24 => ?_)
    rotate_left
    · exact absurd h24 (by omega)
    refine ezw_iload_n rfl rfl ?_
    exact ezw_ireturn rfl rfl ⟨by rw [show n = 256 by omega], rfl⟩
  | succ k ih =>
    intro k0 n l4 i0 i1 i2
    refine ezw_iload_n rfl rfl ?_
    refine ezw_sipush (256) rfl rfl ?_
    refine ezw_icmp_ge rfl rfl ⟨by omega, by omega⟩ ⟨by omega, by omega⟩ (fun h24 => ?_) (fun h24 => ?_)
    · exact absurd h24 (by omega)
    refine ezw_aload_n rfl rfl ?_
    refine ezw_iload_n rfl rfl ?_
    refine ezw_bipush (16) rfl rfl ?_
    refine ezw_iremN rfl ⟨by omega, by omega⟩ ⟨by omega, by omega⟩ (by omega) (by omega) rfl ?_
    refine ezw_iload_n rfl rfl ?_
    refine ezw_bipush (16) rfl rfl ?_
    refine ezw_idivN rfl ⟨by omega, by omega⟩ ⟨by omega, by omega⟩ (by omega) (by omega) rfl ?_
    refine ezw_call0_2 rfl (by omega) hM rfl rfl rfl rfl (ezc_safeM0 hM hR h0 (by omega)) ?_
    rintro _ _ ⟨rfl, rfl⟩
    refine ezw_istore rfl rfl ?_
    refine ezw_iload_n rfl rfl ?_
    refine ezw_iload_n rfl rfl ?_
    refine ezw_if_ge rfl rfl ⟨by omega, by omega⟩ (fun h43 => ?_) (fun h43 => ?_)
    · refine ezw_iload rfl rfl ?_
      refine ezw_iload_n rfl rfl ?_
      refine ezw_ishr rfl ⟨by omega, by omega⟩ (by omega) (by omega) rfl ?_
      refine ezw_iconst (1) rfl rfl ?_
      refine ezw_iand rfl (hxs x hx0 hx1 h43) ?_
      refine ezw_iadd rfl rfl ?_
      refine ezw_istore_n rfl rfl ?_
      refine ezw_iinc (1) rfl rfl rfl rfl rfl ?_
      refine ezw_goto rfl rfl ?_
      exact ih _ _ _ (by omega) (by omega) (by omega)
    · refine ezw_iload rfl rfl ?_
      refine ezw_bipush (15) rfl rfl ?_
      refine ezw_icmp_ne rfl rfl ⟨by omega, by omega⟩ ⟨by omega, by omega⟩ (fun h50 => ?_) (fun h50 => ?_)
      · exact absurd h50 (by omega)
      refine ezw_iconst (1) rfl rfl ?_
      refine ezw_goto rfl rfl ?_
      refine ezw_iadd rfl rfl ?_
      refine ezw_istore_n rfl rfl ?_
      refine ezw_iinc (1) rfl rfl rfl rfl rfl ?_
      refine ezw_goto rfl rfl ?_
      exact ih _ _ _ (by omega) (by omega) (by omega)
theorem ezc_placesM {f : Nat → Int} {tr : Int → Int} (hM : g 72 = ezw_obj 12 ezw_rfM f) (hR : g 78 = ezw_ca 200 tr) (h0 : ezw_tr0 tr) {x : Int} (hx : ezw_in x) (hd : 4 ≤ d) : ezw_C l ρ B xa Hb D cA 324 d [ezw_p 72, ezw_i x] g (ezw_Q (some (ezw_i (if -1 ≤ x ∧ x < 4 then 256 else -1))) (ezw_u g 72 (ezw_obj 12 ezw_rfM (ezw_fu f 0 0)))) := by
  refine ezw_met (k := 3) rfl ?_
  have hx1 := hx.1
  have hx2 := hx.2
  refine ezw_aload_n rfl rfl ?_
  refine ezw_iconst (0) rfl rfl ?_
  refine ezw_putf_i rfl hM rfl rfl rfl ?_
  refine ezw_iload_n rfl rfl ?_
  refine ezw_iconst (-1) rfl rfl ?_
  refine ezw_iconst (3) rfl rfl ?_
  refine ezw_call2_3 rfl (by omega) rfl rfl (ezc_within ⟨by omega, by omega⟩ ⟨by omega, by omega⟩ ⟨by omega, by omega⟩) ?_
  rintro _ _ ⟨rfl, rfl⟩
  have e5 : (if -1 ≤ x ∧ x ≤ 3 then (1 : Int) else 0) = 1 ∧ (-1 ≤ x ∧ x ≤ 3) ∨ (if -1 ≤ x ∧ x ≤ 3 then (1 : Int) else 0) = 0 ∧ ¬ (-1 ≤ x ∧ x ≤ 3) := by
    by_cases hc : -1 ≤ x ∧ x ≤ 3
    · exact Or.inl ⟨if_pos hc, hc⟩
    · exact Or.inr ⟨if_neg hc, hc⟩
  generalize (if -1 ≤ x ∧ x ≤ 3 then (1 : Int) else 0) = p5 at e5 ⊢
  refine ezw_if_ne rfl rfl ⟨by omega, by omega⟩ (fun h11 => ?_) (fun h11 => ?_)
  · refine ezw_iconst (0) rfl rfl ?_
    refine ezw_istore_n rfl rfl ?_
    refine ezw_iconst (0) rfl rfl ?_
    refine ezw_istore_n rfl rfl ?_
    exact ezw_Emono (P := ezw_Q (some (ezw_i 256)) _) (by rintro _ _ ⟨rfl, rfl⟩; exact ⟨congrArg (fun x => some (ezw_i x)) (if_pos (by omega)), rfl⟩) (ezc_placesML ezw_ug ((ezw_un (by decide)).trans hR) h0 (by omega) (by omega) (by omega) 256 0 0 none (by omega) (by omega) (by omega))
  · refine ezw_iconst (-1) rfl rfl ?_
    exact ezw_ireturn rfl rfl ⟨congrArg (fun x => some (ezw_i x)) (by first | exact if_pos (by omega) | exact if_neg (by omega)), rfl⟩
theorem ezc_nearestML {f : Nat → Int} {tr : Int → Int} (hM : g 72 = ezw_obj 12 ezw_rfM f) (hR : g 78 = ezw_ca 200 tr) (h0 : ezw_tr0 tr) {u v : Int} (hu0 : 0 ≤ u) (hu1 : u < 16) (hv0 : 0 ≤ v) (hv1 : v < 16) (hd : 3 ≤ d) (k : Nat) : ∀ (k0 m : Int) (l5 l6 l7 : Option ezq_V), 0 ≤ k0 → k0 + (k : Int) = 256 → (k0 ≤ 16 * v + u ∧ (m = -1 ∨ 0 < m ∧ m ≤ 30) ∨ 16 * v + u < k0 ∧ m = 0) → ezw_E l ρ B xa Hb D cA d ezq_re325 (ezw_Q (some (ezw_i (0))) g) 10 [some (ezw_p 72), some (ezw_i u), some (ezw_i v), some (ezw_i m), some (ezw_i k0), l5, l6, l7] [] g := by
  induction k with
  | zero =>
    intro k0 m l5 l6 l7 i0 i1 inv
    refine ezw_iload rfl rfl ?_
    refine ezw_sipush (256) rfl rfl ?_
    refine ezw_icmp_ge rfl rfl ⟨by omega, by omega⟩ ⟨by omega, by omega⟩ (fun h15 => ?_) (fun h15 => ?_)
    rotate_left
    · exact absurd h15 (by omega)
    refine ezw_iload_n rfl rfl ?_
    exact ezw_ireturn rfl rfl ⟨by rw [show m = 0 by omega], rfl⟩
  | succ k ih =>
    intro k0 m l5 l6 l7 i0 i1 inv
    refine ezw_iload rfl rfl ?_
    refine ezw_sipush (256) rfl rfl ?_
    refine ezw_icmp_ge rfl rfl ⟨by omega, by omega⟩ ⟨by omega, by omega⟩ (fun h15 => ?_) (fun h15 => ?_)
    · exact absurd h15 (by omega)
    refine ezw_iload_n rfl rfl ?_
    refine ezw_iload_n rfl rfl ?_
    refine ezw_call2_2 rfl (by omega) rfl rfl (ezc_isPlaceM ⟨by omega, by omega⟩ ⟨by omega, by omega⟩) ?_
    rintro _ _ ⟨rfl, rfl⟩
    rw [show (if 0 ≤ u ∧ u < 16 ∧ 0 ≤ v ∧ v < 16 then (1 : Int) else 0) = 1 from if_pos (show 0 ≤ u ∧ u < 16 ∧ 0 ≤ v ∧ v < 16 from ⟨hu0, hu1, hv0, hv1⟩)]
    refine ezw_if_eq rfl rfl ⟨by omega, by omega⟩ (fun h23 => ?_) (fun h23 => ?_)
    · exact absurd h23 (by omega)
    refine ezw_iload rfl rfl ?_
    refine ezw_bipush (16) rfl rfl ?_
    refine ezw_iremN rfl ⟨by omega, by omega⟩ ⟨by omega, by omega⟩ (by omega) (by omega) rfl ?_
    refine ezw_iload_n rfl rfl ?_
    refine ezw_isub rfl rfl ?_
    refine ezw_istore rfl rfl ?_
    refine ezw_iload rfl rfl ?_
    refine ezw_bipush (16) rfl rfl ?_
    refine ezw_idivN rfl ⟨by omega, by omega⟩ ⟨by omega, by omega⟩ (by omega) (by omega) rfl ?_
    refine ezw_iload_n rfl rfl ?_
    refine ezw_isub rfl rfl ?_
    refine ezw_istore rfl rfl ?_
    refine ezw_iload rfl rfl ?_
    refine ezw_if_ge rfl rfl ⟨by omega, by omega⟩ (fun h46 => ?_) (fun h46 => ?_)
    · refine ezw_iload rfl rfl ?_
      refine ezw_iload rfl rfl ?_
      refine ezw_if_ge rfl rfl ⟨by omega, by omega⟩ (fun h59 => ?_) (fun h59 => ?_)
      · refine ezw_iload rfl rfl ?_
        refine ezw_iadd rfl rfl ?_
        refine ezw_istore rfl rfl ?_
        refine ezw_aload_n rfl rfl ?_
        refine ezw_iload rfl rfl ?_
        refine ezw_bipush (16) rfl rfl ?_
        refine ezw_iremN rfl ⟨by omega, by omega⟩ ⟨by omega, by omega⟩ (by omega) (by omega) rfl ?_
        refine ezw_iload rfl rfl ?_
        refine ezw_bipush (16) rfl rfl ?_
        refine ezw_idivN rfl ⟨by omega, by omega⟩ ⟨by omega, by omega⟩ (by omega) (by omega) rfl ?_
        refine ezw_call0_2 rfl (by omega) hM rfl rfl rfl rfl (ezc_safeM0 hM hR h0 (by omega)) ?_
        rintro _ _ ⟨rfl, rfl⟩
        refine ezw_bipush (15) rfl rfl ?_
        refine ezw_icmp_ne rfl rfl ⟨by omega, by omega⟩ ⟨by omega, by omega⟩ (fun h89 => ?_) (fun h89 => ?_)
        · exact absurd h89 (by omega)
        refine ezw_iload_n rfl rfl ?_
        refine ezw_if_lt rfl rfl ⟨by omega, by omega⟩ (fun h93 => ?_) (fun h93 => ?_)
        · refine ezw_iload rfl rfl ?_
          refine ezw_goto rfl rfl ?_
          refine ezw_istore_n rfl rfl ?_
          refine ezw_iinc (1) rfl rfl rfl rfl rfl ?_
          refine ezw_goto rfl rfl ?_
          exact ih _ _ _ _ _ (by omega) (by omega) (by omega)
        · refine ezw_iload rfl rfl ?_
          refine ezw_iload_n rfl rfl ?_
          refine ezw_icmp_ge rfl rfl ⟨by omega, by omega⟩ ⟨by omega, by omega⟩ (fun h99 => ?_) (fun h99 => ?_)
          · refine ezw_iload_n rfl rfl ?_
            refine ezw_istore_n rfl rfl ?_
            refine ezw_iinc (1) rfl rfl rfl rfl rfl ?_
            refine ezw_goto rfl rfl ?_
            exact ih _ _ _ _ _ (by omega) (by omega) (by omega)
          · refine ezw_iload rfl rfl ?_
            refine ezw_goto rfl rfl ?_
            refine ezw_istore_n rfl rfl ?_
            refine ezw_iinc (1) rfl rfl rfl rfl rfl ?_
            refine ezw_goto rfl rfl ?_
            exact ih _ _ _ _ _ (by omega) (by omega) (by omega)
      · refine ezw_iload rfl rfl ?_
        refine ezw_ineg rfl rfl ?_
        refine ezw_goto rfl rfl ?_
        refine ezw_iadd rfl rfl ?_
        refine ezw_istore rfl rfl ?_
        refine ezw_aload_n rfl rfl ?_
        refine ezw_iload rfl rfl ?_
        refine ezw_bipush (16) rfl rfl ?_
        refine ezw_iremN rfl ⟨by omega, by omega⟩ ⟨by omega, by omega⟩ (by omega) (by omega) rfl ?_
        refine ezw_iload rfl rfl ?_
        refine ezw_bipush (16) rfl rfl ?_
        refine ezw_idivN rfl ⟨by omega, by omega⟩ ⟨by omega, by omega⟩ (by omega) (by omega) rfl ?_
        refine ezw_call0_2 rfl (by omega) hM rfl rfl rfl rfl (ezc_safeM0 hM hR h0 (by omega)) ?_
        rintro _ _ ⟨rfl, rfl⟩
        refine ezw_bipush (15) rfl rfl ?_
        refine ezw_icmp_ne rfl rfl ⟨by omega, by omega⟩ ⟨by omega, by omega⟩ (fun h89 => ?_) (fun h89 => ?_)
        · exact absurd h89 (by omega)
        refine ezw_iload_n rfl rfl ?_
        refine ezw_if_lt rfl rfl ⟨by omega, by omega⟩ (fun h93 => ?_) (fun h93 => ?_)
        · refine ezw_iload rfl rfl ?_
          refine ezw_goto rfl rfl ?_
          refine ezw_istore_n rfl rfl ?_
          refine ezw_iinc (1) rfl rfl rfl rfl rfl ?_
          refine ezw_goto rfl rfl ?_
          exact ih _ _ _ _ _ (by omega) (by omega) (by omega)
        · refine ezw_iload rfl rfl ?_
          refine ezw_iload_n rfl rfl ?_
          refine ezw_icmp_ge rfl rfl ⟨by omega, by omega⟩ ⟨by omega, by omega⟩ (fun h99 => ?_) (fun h99 => ?_)
          · refine ezw_iload_n rfl rfl ?_
            refine ezw_istore_n rfl rfl ?_
            refine ezw_iinc (1) rfl rfl rfl rfl rfl ?_
            refine ezw_goto rfl rfl ?_
            exact ih _ _ _ _ _ (by omega) (by omega) (by omega)
          · refine ezw_iload rfl rfl ?_
            refine ezw_goto rfl rfl ?_
            refine ezw_istore_n rfl rfl ?_
            refine ezw_iinc (1) rfl rfl rfl rfl rfl ?_
            refine ezw_goto rfl rfl ?_
            exact ih _ _ _ _ _ (by omega) (by omega) (by omega)
    · refine ezw_iload rfl rfl ?_
      refine ezw_ineg rfl rfl ?_
      refine ezw_goto rfl rfl ?_
      refine ezw_iload rfl rfl ?_
      refine ezw_if_ge rfl rfl ⟨by omega, by omega⟩ (fun h59 => ?_) (fun h59 => ?_)
      · refine ezw_iload rfl rfl ?_
        refine ezw_iadd rfl rfl ?_
        refine ezw_istore rfl rfl ?_
        refine ezw_aload_n rfl rfl ?_
        refine ezw_iload rfl rfl ?_
        refine ezw_bipush (16) rfl rfl ?_
        refine ezw_iremN rfl ⟨by omega, by omega⟩ ⟨by omega, by omega⟩ (by omega) (by omega) rfl ?_
        refine ezw_iload rfl rfl ?_
        refine ezw_bipush (16) rfl rfl ?_
        refine ezw_idivN rfl ⟨by omega, by omega⟩ ⟨by omega, by omega⟩ (by omega) (by omega) rfl ?_
        refine ezw_call0_2 rfl (by omega) hM rfl rfl rfl rfl (ezc_safeM0 hM hR h0 (by omega)) ?_
        rintro _ _ ⟨rfl, rfl⟩
        refine ezw_bipush (15) rfl rfl ?_
        refine ezw_icmp_ne rfl rfl ⟨by omega, by omega⟩ ⟨by omega, by omega⟩ (fun h89 => ?_) (fun h89 => ?_)
        · exact absurd h89 (by omega)
        refine ezw_iload_n rfl rfl ?_
        refine ezw_if_lt rfl rfl ⟨by omega, by omega⟩ (fun h93 => ?_) (fun h93 => ?_)
        · refine ezw_iload rfl rfl ?_
          refine ezw_goto rfl rfl ?_
          refine ezw_istore_n rfl rfl ?_
          refine ezw_iinc (1) rfl rfl rfl rfl rfl ?_
          refine ezw_goto rfl rfl ?_
          exact ih _ _ _ _ _ (by omega) (by omega) (by omega)
        · refine ezw_iload rfl rfl ?_
          refine ezw_iload_n rfl rfl ?_
          refine ezw_icmp_ge rfl rfl ⟨by omega, by omega⟩ ⟨by omega, by omega⟩ (fun h99 => ?_) (fun h99 => ?_)
          · refine ezw_iload_n rfl rfl ?_
            refine ezw_istore_n rfl rfl ?_
            refine ezw_iinc (1) rfl rfl rfl rfl rfl ?_
            refine ezw_goto rfl rfl ?_
            exact ih _ _ _ _ _ (by omega) (by omega) (by omega)
          · refine ezw_iload rfl rfl ?_
            refine ezw_goto rfl rfl ?_
            refine ezw_istore_n rfl rfl ?_
            refine ezw_iinc (1) rfl rfl rfl rfl rfl ?_
            refine ezw_goto rfl rfl ?_
            exact ih _ _ _ _ _ (by omega) (by omega) (by omega)
      · refine ezw_iload rfl rfl ?_
        refine ezw_ineg rfl rfl ?_
        refine ezw_goto rfl rfl ?_
        refine ezw_iadd rfl rfl ?_
        refine ezw_istore rfl rfl ?_
        refine ezw_aload_n rfl rfl ?_
        refine ezw_iload rfl rfl ?_
        refine ezw_bipush (16) rfl rfl ?_
        refine ezw_iremN rfl ⟨by omega, by omega⟩ ⟨by omega, by omega⟩ (by omega) (by omega) rfl ?_
        refine ezw_iload rfl rfl ?_
        refine ezw_bipush (16) rfl rfl ?_
        refine ezw_idivN rfl ⟨by omega, by omega⟩ ⟨by omega, by omega⟩ (by omega) (by omega) rfl ?_
        refine ezw_call0_2 rfl (by omega) hM rfl rfl rfl rfl (ezc_safeM0 hM hR h0 (by omega)) ?_
        rintro _ _ ⟨rfl, rfl⟩
        refine ezw_bipush (15) rfl rfl ?_
        refine ezw_icmp_ne rfl rfl ⟨by omega, by omega⟩ ⟨by omega, by omega⟩ (fun h89 => ?_) (fun h89 => ?_)
        · exact absurd h89 (by omega)
        refine ezw_iload_n rfl rfl ?_
        refine ezw_if_lt rfl rfl ⟨by omega, by omega⟩ (fun h93 => ?_) (fun h93 => ?_)
        · refine ezw_iload rfl rfl ?_
          refine ezw_goto rfl rfl ?_
          refine ezw_istore_n rfl rfl ?_
          refine ezw_iinc (1) rfl rfl rfl rfl rfl ?_
          refine ezw_goto rfl rfl ?_
          exact ih _ _ _ _ _ (by omega) (by omega) (by omega)
        · refine ezw_iload rfl rfl ?_
          refine ezw_iload_n rfl rfl ?_
          refine ezw_icmp_ge rfl rfl ⟨by omega, by omega⟩ ⟨by omega, by omega⟩ (fun h99 => ?_) (fun h99 => ?_)
          · refine ezw_iload_n rfl rfl ?_
            refine ezw_istore_n rfl rfl ?_
            refine ezw_iinc (1) rfl rfl rfl rfl rfl ?_
            refine ezw_goto rfl rfl ?_
            exact ih _ _ _ _ _ (by omega) (by omega) (by omega)
          · refine ezw_iload rfl rfl ?_
            refine ezw_goto rfl rfl ?_
            refine ezw_istore_n rfl rfl ?_
            refine ezw_iinc (1) rfl rfl rfl rfl rfl ?_
            refine ezw_goto rfl rfl ?_
            exact ih _ _ _ _ _ (by omega) (by omega) (by omega)
theorem ezc_nearestM {f : Nat → Int} {tr : Int → Int} (hM : g 72 = ezw_obj 12 ezw_rfM f) (hR : g 78 = ezw_ca 200 tr) (h0 : ezw_tr0 tr) {x y : Int} (hx : ezw_in x) (hy : ezw_in y) (hd : 4 ≤ d) : ezw_C l ρ B xa Hb D cA 325 d [ezw_p 72, ezw_i x, ezw_i y] g (ezw_Q (some (ezw_i (if 0 ≤ x ∧ x < 16 ∧ 0 ≤ y ∧ y < 16 then 0 else -1))) (ezw_u g 72 (ezw_obj 12 ezw_rfM (ezw_fu f 0 0)))) := by
  refine ezw_met (k := 5) rfl ?_
  have hx1 := hx.1
  have hx2 := hx.2
  have hy1 := hy.1
  have hy2 := hy.2
  by_cases hc : 0 ≤ x ∧ x < 16 ∧ 0 ≤ y ∧ y < 16
  · refine ezw_aload_n rfl rfl ?_
    refine ezw_iconst (0) rfl rfl ?_
    refine ezw_putf_i rfl hM rfl rfl rfl ?_
    refine ezw_iconst (-1) rfl rfl ?_
    refine ezw_istore_n rfl rfl ?_
    refine ezw_iconst (0) rfl rfl ?_
    refine ezw_istore rfl rfl ?_
    exact ezw_Emono (P := ezw_Q (some (ezw_i 0)) _) (by rintro _ _ ⟨rfl, rfl⟩; exact ⟨congrArg (fun x => some (ezw_i x)) (if_pos hc), rfl⟩) (ezc_nearestML ezw_ug ((ezw_un (by decide)).trans hR) h0 hc.1 hc.2.1 hc.2.2.1 hc.2.2.2 (by omega) 256 0 (-1) none none none (by omega) (by omega) (by omega))
  · refine ezw_aload_n rfl rfl ?_
    refine ezw_iconst (0) rfl rfl ?_
    refine ezw_putf_i rfl hM rfl rfl rfl ?_
    refine ezw_iconst (-1) rfl rfl ?_
    refine ezw_istore_n rfl rfl ?_
    refine ezw_iconst (0) rfl rfl ?_
    refine ezw_istore rfl rfl ?_
    refine ezw_iload rfl rfl ?_
    refine ezw_sipush (256) rfl rfl ?_
    refine ezw_icmp_ge rfl rfl ⟨by omega, by omega⟩ ⟨by omega, by omega⟩ (fun h15 => ?_) (fun h15 => ?_)
    · exact absurd h15 (by omega)
    refine ezw_iload_n rfl rfl ?_
    refine ezw_iload_n rfl rfl ?_
    refine ezw_call2_2 rfl (by omega) rfl rfl (ezc_isPlaceM ⟨by omega, by omega⟩ ⟨by omega, by omega⟩) ?_
    rintro _ _ ⟨rfl, rfl⟩
    rw [show (if 0 ≤ x ∧ x < 16 ∧ 0 ≤ y ∧ y < 16 then (1 : Int) else 0) = 0 from if_neg hc]
    refine ezw_if_eq rfl rfl ⟨by omega, by omega⟩ (fun h23 => ?_) (fun h23 => ?_)
    rotate_left
    · exact absurd h23 (by omega)
    refine ezw_iload_n rfl rfl ?_
    exact ezw_ireturn rfl rfl ⟨congrArg (fun x => some (ezw_i x)) (by first | exact if_pos (by omega) | exact if_neg (by omega)), rfl⟩
end KM
