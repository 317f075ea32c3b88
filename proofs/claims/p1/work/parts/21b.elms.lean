/-! ===== the map without elms ===== -/
section KM
variable {l : Launch} {ρ : ezq_E} {B : Nat} {xa : Nat → Option Nat} {Hb : Heap} {D : va_G} {cA : Nat → ClassId} {d : Nat} {g : Nat → ezq_C}

theorem ezc_stands0 {e : Nat} {f : Nat → Int} {a : Int → Int} (hE : g e = ezw_obj 2 (fun _ => e + 1) f) (hA : g (e + 1) = ezw_ca 16 a) (ha : ∀ k, a k = 0) (he : e + 1 < 96) {x y : Int} (hx : ezw_in x) (hy : ezw_in y) (hd : 1 ≤ d) : ezw_C l ρ B xa Hb D cA 78 d [ezw_p e, ezw_i x, ezw_i y] g (ezw_Q (some (ezw_i (0))) g) := by
  refine ezw_met (k := 0) rfl ?_
  have hx1 := hx.1
  have hx2 := hx.2
  have hy1 := hy.1
  have hy2 := hy.2
  refine ezw_aload_n rfl rfl ?_
  refine ezw_getfield rfl hE (ezw_blt (by omega)) rfl rfl ?_
  refine ezw_iload_n rfl rfl ?_
  refine ezw_call3_2 rfl (by omega) rfl rfl (ezc_at hA (ezw_blt he) (by omega) ⟨by omega, by omega⟩) ?_
  rintro _ _ ⟨rfl, rfl⟩
  have h0 : ezw_gt 16 a x = 0 := by unfold ezw_gt; rw [ha, ite_self]
  rw [h0]
  refine ezw_iload_n rfl rfl ?_
  refine ezw_call3_2 rfl (by omega) rfl rfl (ezc_bit ⟨by omega, by omega⟩ ⟨by omega, by omega⟩) ?_
  rintro _ _ ⟨rfl, rfl⟩
  rw [ezw_bit0]
  refine ezw_iconst (1) rfl rfl ?_
  refine ezw_icmp_ne rfl rfl ⟨by omega, by omega⟩ ⟨by omega, by omega⟩ (fun h13 => ?_) (fun h13 => ?_)
  rotate_left
  · exact absurd h13 (by omega)
  refine ezw_iconst (0) rfl rfl ?_
  exact ezw_ireturn rfl (ezw_zret ⟨by omega, by omega⟩) ⟨rfl, rfl⟩
theorem ezc_isClearL {e : Nat} {f : Nat → Int} {a : Int → Int} (hE : g e = ezw_obj 2 (fun _ => e + 1) f) (hA : g (e + 1) = ezw_ca 16 a) (ha : ∀ k, a k = 0) (he : e + 1 < 96) {x y s c ov on : Int} (hx0 : -1 < x) (hx1 : x < 16) (hy0 : -1 < y) (hy1 : y < 16) (hc0 : 0 ≤ c) (hc : c ≤ 15) (hov : ov = -1 ∨ ov = 0 ∨ ov = 1) (hon : on = -1 ∨ on = 0 ∨ on = 1) (hd : 2 ≤ d) (k : Nat) : ∀ i : Int, 0 ≤ i → i + (k : Int) = c + 1 → ezw_E l ρ B xa Hb D cA d ezq_re184 (ezw_Q (some (ezw_i (1))) g) 44 [some (ezw_p e), some (ezw_i x), some (ezw_i y), some (ezw_i s), some (ezw_i c), some (ezw_i ov), some (ezw_i on), some (ezw_i i)] [] g := by
  induction k with
  | zero =>
    intro i i0 i1
    refine ezw_iload rfl rfl ?_
    refine ezw_iload rfl rfl ?_
    refine ezw_icmp_gt rfl rfl ⟨by omega, by omega⟩ ⟨by omega, by omega⟩ (fun h48 => ?_) (fun h48 => ?_)
    rotate_left
    · exact absurd h48 (by omega)
    refine ezw_iconst (1) rfl rfl ?_
    exact ezw_ireturn rfl (ezw_zret ⟨by omega, by omega⟩) ⟨rfl, rfl⟩
  | succ k ih =>
    intro i i0 i1
    refine ezw_iload rfl rfl ?_
    refine ezw_iload rfl rfl ?_
    refine ezw_icmp_gt rfl rfl ⟨by omega, by omega⟩ ⟨by omega, by omega⟩ (fun h48 => ?_) (fun h48 => ?_)
    · exact absurd h48 (by omega)
    have b1 : -20 ≤ i * ov ∧ i * ov ≤ 20 := by rcases hov with rfl | rfl | rfl <;> omega
    have b2 : -20 ≤ i * on ∧ i * on ≤ 20 := by rcases hon with rfl | rfl | rfl <;> omega
    refine ezw_aload_n rfl rfl ?_
    refine ezw_iload_n rfl rfl ?_
    refine ezw_iload rfl rfl ?_
    refine ezw_iload rfl rfl ?_
    refine ezw_imul rfl rfl ?_
    refine ezw_iadd rfl rfl ?_
    refine ezw_iload_n rfl rfl ?_
    refine ezw_iload rfl rfl ?_
    refine ezw_iload rfl rfl ?_
    refine ezw_imul rfl rfl ?_
    refine ezw_iadd rfl rfl ?_
    refine ezw_call0_2 rfl (by omega) hE (ezw_blt (by omega)) rfl rfl rfl (ezc_stands0 hE hA ha he ⟨by omega, by omega⟩ ⟨by omega, by omega⟩ (by omega)) ?_
    rintro _ _ ⟨rfl, rfl⟩
    refine ezw_if_eq rfl rfl ⟨by omega, by omega⟩ (fun h69 => ?_) (fun h69 => ?_)
    rotate_left
    · exact absurd h69 (by omega)
    refine ezw_iinc (1) rfl rfl rfl rfl rfl ?_
    refine ezw_goto rfl rfl ?_
    exact ih _ (by omega) (by omega)
theorem ezc_isClear0 {e : Nat} {f : Nat → Int} {a : Int → Int} (hE : g e = ezw_obj 2 (fun _ => e + 1) f) (hA : g (e + 1) = ezw_ca 16 a) (ha : ∀ k, a k = 0) (he : e + 1 < 96) {x y s c : Int} (hx0 : -1 < x) (hx1 : x < 16) (hy0 : -1 < y) (hy1 : y < 16) (hc0 : 0 ≤ c) (hc : c ≤ 15) (hs0 : 0 ≤ s) (hs1 : s < 4) (hd : 2 ≤ d) : ezw_C l ρ B xa Hb D cA 184 d [ezw_p e, ezw_i x, ezw_i y, ezw_i s, ezw_i c] g (ezw_Q (some (ezw_i (1))) g) := by
  refine ezw_met (k := 3) rfl ?_
  refine ezw_iload_n rfl rfl ?_
  refine ezw_iconst (1) rfl rfl ?_
  refine ezw_icmp_ne rfl rfl ⟨by omega, by omega⟩ ⟨by omega, by omega⟩ (fun h2 => ?_) (fun h2 => ?_)
  · refine ezw_iload_n rfl rfl ?_
    refine ezw_iconst (3) rfl rfl ?_
    refine ezw_icmp_ne rfl rfl ⟨by omega, by omega⟩ ⟨by omega, by omega⟩ (fun h11 => ?_) (fun h11 => ?_)
    · refine ezw_iconst (0) rfl rfl ?_
      refine ezw_istore rfl rfl ?_
      refine ezw_iload_n rfl rfl ?_
      refine ezw_if_ne rfl rfl ⟨by omega, by omega⟩ (fun h22 => ?_) (fun h22 => ?_)
      · refine ezw_iload_n rfl rfl ?_
        refine ezw_iconst (2) rfl rfl ?_
        refine ezw_icmp_ne rfl rfl ⟨by omega, by omega⟩ ⟨by omega, by omega⟩ (fun h31 => ?_) (fun h31 => ?_)
        · refine ezw_iconst (0) rfl rfl ?_
          refine ezw_istore rfl rfl ?_
          refine ezw_iconst (0) rfl rfl ?_
          refine ezw_istore rfl rfl ?_
          exact ezc_isClearL hE hA ha he hx0 hx1 hy0 hy1 hc0 hc (by omega) (by omega) (by omega) (c + 1).toNat 0 (by omega) (by omega)
        · refine ezw_iconst (-1) rfl rfl ?_
          refine ezw_goto rfl rfl ?_
          refine ezw_istore rfl rfl ?_
          refine ezw_iconst (0) rfl rfl ?_
          refine ezw_istore rfl rfl ?_
          exact ezc_isClearL hE hA ha he hx0 hx1 hy0 hy1 hc0 hc (by omega) (by omega) (by omega) (c + 1).toNat 0 (by omega) (by omega)
      · refine ezw_iconst (1) rfl rfl ?_
        refine ezw_goto rfl rfl ?_
        refine ezw_istore rfl rfl ?_
        refine ezw_iconst (0) rfl rfl ?_
        refine ezw_istore rfl rfl ?_
        exact ezc_isClearL hE hA ha he hx0 hx1 hy0 hy1 hc0 hc (by omega) (by omega) (by omega) (c + 1).toNat 0 (by omega) (by omega)
    · refine ezw_iconst (1) rfl rfl ?_
      refine ezw_goto rfl rfl ?_
      refine ezw_istore rfl rfl ?_
      refine ezw_iload_n rfl rfl ?_
      refine ezw_if_ne rfl rfl ⟨by omega, by omega⟩ (fun h22 => ?_) (fun h22 => ?_)
      · refine ezw_iload_n rfl rfl ?_
        refine ezw_iconst (2) rfl rfl ?_
        refine ezw_icmp_ne rfl rfl ⟨by omega, by omega⟩ ⟨by omega, by omega⟩ (fun h31 => ?_) (fun h31 => ?_)
        · refine ezw_iconst (0) rfl rfl ?_
          refine ezw_istore rfl rfl ?_
          refine ezw_iconst (0) rfl rfl ?_
          refine ezw_istore rfl rfl ?_
          exact ezc_isClearL hE hA ha he hx0 hx1 hy0 hy1 hc0 hc (by omega) (by omega) (by omega) (c + 1).toNat 0 (by omega) (by omega)
        · refine ezw_iconst (-1) rfl rfl ?_
          refine ezw_goto rfl rfl ?_
          refine ezw_istore rfl rfl ?_
          refine ezw_iconst (0) rfl rfl ?_
          refine ezw_istore rfl rfl ?_
          exact ezc_isClearL hE hA ha he hx0 hx1 hy0 hy1 hc0 hc (by omega) (by omega) (by omega) (c + 1).toNat 0 (by omega) (by omega)
      · refine ezw_iconst (1) rfl rfl ?_
        refine ezw_goto rfl rfl ?_
        refine ezw_istore rfl rfl ?_
        refine ezw_iconst (0) rfl rfl ?_
        refine ezw_istore rfl rfl ?_
        exact ezc_isClearL hE hA ha he hx0 hx1 hy0 hy1 hc0 hc (by omega) (by omega) (by omega) (c + 1).toNat 0 (by omega) (by omega)
  · refine ezw_iconst (-1) rfl rfl ?_
    refine ezw_goto rfl rfl ?_
    refine ezw_istore rfl rfl ?_
    refine ezw_iload_n rfl rfl ?_
    refine ezw_if_ne rfl rfl ⟨by omega, by omega⟩ (fun h22 => ?_) (fun h22 => ?_)
    · refine ezw_iload_n rfl rfl ?_
      refine ezw_iconst (2) rfl rfl ?_
      refine ezw_icmp_ne rfl rfl ⟨by omega, by omega⟩ ⟨by omega, by omega⟩ (fun h31 => ?_) (fun h31 => ?_)
      · refine ezw_iconst (0) rfl rfl ?_
        refine ezw_istore rfl rfl ?_
        refine ezw_iconst (0) rfl rfl ?_
        refine ezw_istore rfl rfl ?_
        exact ezc_isClearL hE hA ha he hx0 hx1 hy0 hy1 hc0 hc (by omega) (by omega) (by omega) (c + 1).toNat 0 (by omega) (by omega)
      · refine ezw_iconst (-1) rfl rfl ?_
        refine ezw_goto rfl rfl ?_
        refine ezw_istore rfl rfl ?_
        refine ezw_iconst (0) rfl rfl ?_
        refine ezw_istore rfl rfl ?_
        exact ezc_isClearL hE hA ha he hx0 hx1 hy0 hy1 hc0 hc (by omega) (by omega) (by omega) (c + 1).toNat 0 (by omega) (by omega)
    · refine ezw_iconst (1) rfl rfl ?_
      refine ezw_goto rfl rfl ?_
      refine ezw_istore rfl rfl ?_
      refine ezw_iconst (0) rfl rfl ?_
      refine ezw_istore rfl rfl ?_
      exact ezc_isClearL hE hA ha he hx0 hx1 hy0 hy1 hc0 hc (by omega) (by omega) (by omega) (c + 1).toNat 0 (by omega) (by omega)
theorem ezc_safeSides4 {e : Nat} {f : Nat → Int} {a : Int → Int} (hE : g e = ezw_obj 2 (fun _ => e + 1) f) (hA : g (e + 1) = ezw_ca 16 a) (ha : ∀ k, a k = 0) (he : e + 1 < 96) {x y c : Int} (hx0 : -1 < x) (hx1 : x < 16) (hy0 : -1 < y) (hy1 : y < 16) (hc0 : 0 ≤ c) (hc : c ≤ 15) (hd : 3 ≤ d) : ezw_E l ρ B xa Hb D cA d ezq_re183 (ezw_Q (some (ezw_i (15))) g) 6 [some (ezw_p e), some (ezw_i x), some (ezw_i y), some (ezw_i c), some (ezw_i 15), some (ezw_i 4)] [] g := by
  refine ezw_iload rfl rfl ?_
  refine ezw_iconst (4) rfl rfl ?_
  refine ezw_icmp_ge rfl rfl ⟨by omega, by omega⟩ ⟨by omega, by omega⟩ (fun h9 => ?_) (fun h9 => ?_)
  rotate_left
  · exact absurd h9 (by omega)
  refine ezw_iload rfl rfl ?_
  exact ezw_ireturn rfl rfl ⟨rfl, rfl⟩
theorem ezc_safeSides3 {e : Nat} {f : Nat → Int} {a : Int → Int} (hE : g e = ezw_obj 2 (fun _ => e + 1) f) (hA : g (e + 1) = ezw_ca 16 a) (ha : ∀ k, a k = 0) (he : e + 1 < 96) {x y c : Int} (hx0 : -1 < x) (hx1 : x < 16) (hy0 : -1 < y) (hy1 : y < 16) (hc0 : 0 ≤ c) (hc : c ≤ 15) (hd : 3 ≤ d) : ezw_E l ρ B xa Hb D cA d ezq_re183 (ezw_Q (some (ezw_i (15))) g) 6 [some (ezw_p e), some (ezw_i x), some (ezw_i y), some (ezw_i c), some (ezw_i 7), some (ezw_i 3)] [] g := by
  refine ezw_iload rfl rfl ?_
  refine ezw_iconst (4) rfl rfl ?_
  refine ezw_icmp_ge rfl rfl ⟨by omega, by omega⟩ ⟨by omega, by omega⟩ (fun h9 => ?_) (fun h9 => ?_)
  · exact absurd h9 (by omega)
  refine ezw_aload_n rfl rfl ?_
  refine ezw_iload_n rfl rfl ?_
  refine ezw_iload_n rfl rfl ?_
  refine ezw_iload rfl rfl ?_
  refine ezw_iload_n rfl rfl ?_
  refine ezw_call0_4 rfl (by omega) hE (ezw_blt (by omega)) rfl rfl rfl (ezc_isClear0 hE hA ha he hx0 hx1 hy0 hy1 hc0 hc (by omega) (by omega) (by omega)) ?_
  rintro _ _ ⟨rfl, rfl⟩
  refine ezw_if_eq rfl rfl ⟨by omega, by omega⟩ (fun h21 => ?_) (fun h21 => ?_)
  · exact absurd h21 (by omega)
  refine ezw_iload rfl rfl ?_
  refine ezw_iconst (1) rfl rfl ?_
  refine ezw_iload rfl rfl ?_
  refine ezw_ishl rfl (by omega) (by omega) rfl ?_
  refine ezw_ior rfl rfl ?_
  refine ezw_istore rfl rfl ?_
  refine ezw_iinc (1) rfl rfl rfl rfl rfl ?_
  refine ezw_goto rfl rfl ?_
  exact ezc_safeSides4 hE hA ha he hx0 hx1 hy0 hy1 hc0 hc hd
theorem ezc_safeSides2 {e : Nat} {f : Nat → Int} {a : Int → Int} (hE : g e = ezw_obj 2 (fun _ => e + 1) f) (hA : g (e + 1) = ezw_ca 16 a) (ha : ∀ k, a k = 0) (he : e + 1 < 96) {x y c : Int} (hx0 : -1 < x) (hx1 : x < 16) (hy0 : -1 < y) (hy1 : y < 16) (hc0 : 0 ≤ c) (hc : c ≤ 15) (hd : 3 ≤ d) : ezw_E l ρ B xa Hb D cA d ezq_re183 (ezw_Q (some (ezw_i (15))) g) 6 [some (ezw_p e), some (ezw_i x), some (ezw_i y), some (ezw_i c), some (ezw_i 3), some (ezw_i 2)] [] g := by
  refine ezw_iload rfl rfl ?_
  refine ezw_iconst (4) rfl rfl ?_
  refine ezw_icmp_ge rfl rfl ⟨by omega, by omega⟩ ⟨by omega, by omega⟩ (fun h9 => ?_) (fun h9 => ?_)
  · exact absurd h9 (by omega)
  refine ezw_aload_n rfl rfl ?_
  refine ezw_iload_n rfl rfl ?_
  refine ezw_iload_n rfl rfl ?_
  refine ezw_iload rfl rfl ?_
  refine ezw_iload_n rfl rfl ?_
  refine ezw_call0_4 rfl (by omega) hE (ezw_blt (by omega)) rfl rfl rfl (ezc_isClear0 hE hA ha he hx0 hx1 hy0 hy1 hc0 hc (by omega) (by omega) (by omega)) ?_
  rintro _ _ ⟨rfl, rfl⟩
  refine ezw_if_eq rfl rfl ⟨by omega, by omega⟩ (fun h21 => ?_) (fun h21 => ?_)
  · exact absurd h21 (by omega)
  refine ezw_iload rfl rfl ?_
  refine ezw_iconst (1) rfl rfl ?_
  refine ezw_iload rfl rfl ?_
  refine ezw_ishl rfl (by omega) (by omega) rfl ?_
  refine ezw_ior rfl rfl ?_
  refine ezw_istore rfl rfl ?_
  refine ezw_iinc (1) rfl rfl rfl rfl rfl ?_
  refine ezw_goto rfl rfl ?_
  exact ezc_safeSides3 hE hA ha he hx0 hx1 hy0 hy1 hc0 hc hd
theorem ezc_safeSides1 {e : Nat} {f : Nat → Int} {a : Int → Int} (hE : g e = ezw_obj 2 (fun _ => e + 1) f) (hA : g (e + 1) = ezw_ca 16 a) (ha : ∀ k, a k = 0) (he : e + 1 < 96) {x y c : Int} (hx0 : -1 < x) (hx1 : x < 16) (hy0 : -1 < y) (hy1 : y < 16) (hc0 : 0 ≤ c) (hc : c ≤ 15) (hd : 3 ≤ d) : ezw_E l ρ B xa Hb D cA d ezq_re183 (ezw_Q (some (ezw_i (15))) g) 6 [some (ezw_p e), some (ezw_i x), some (ezw_i y), some (ezw_i c), some (ezw_i 1), some (ezw_i 1)] [] g := by
  refine ezw_iload rfl rfl ?_
  refine ezw_iconst (4) rfl rfl ?_
  refine ezw_icmp_ge rfl rfl ⟨by omega, by omega⟩ ⟨by omega, by omega⟩ (fun h9 => ?_) (fun h9 => ?_)
  · exact absurd h9 (by omega)
  refine ezw_aload_n rfl rfl ?_
  refine ezw_iload_n rfl rfl ?_
  refine ezw_iload_n rfl rfl ?_
  refine ezw_iload rfl rfl ?_
  refine ezw_iload_n rfl rfl ?_
  refine ezw_call0_4 rfl (by omega) hE (ezw_blt (by omega)) rfl rfl rfl (ezc_isClear0 hE hA ha he hx0 hx1 hy0 hy1 hc0 hc (by omega) (by omega) (by omega)) ?_
  rintro _ _ ⟨rfl, rfl⟩
  refine ezw_if_eq rfl rfl ⟨by omega, by omega⟩ (fun h21 => ?_) (fun h21 => ?_)
  · exact absurd h21 (by omega)
  refine ezw_iload rfl rfl ?_
  refine ezw_iconst (1) rfl rfl ?_
  refine ezw_iload rfl rfl ?_
  refine ezw_ishl rfl (by omega) (by omega) rfl ?_
  refine ezw_ior rfl rfl ?_
  refine ezw_istore rfl rfl ?_
  refine ezw_iinc (1) rfl rfl rfl rfl rfl ?_
  refine ezw_goto rfl rfl ?_
  exact ezc_safeSides2 hE hA ha he hx0 hx1 hy0 hy1 hc0 hc hd
theorem ezc_safeSides0 {e : Nat} {f : Nat → Int} {a : Int → Int} (hE : g e = ezw_obj 2 (fun _ => e + 1) f) (hA : g (e + 1) = ezw_ca 16 a) (ha : ∀ k, a k = 0) (he : e + 1 < 96) {x y c : Int} (hx0 : -1 < x) (hx1 : x < 16) (hy0 : -1 < y) (hy1 : y < 16) (hc0 : 0 ≤ c) (hc : c ≤ 15) (hd : 3 ≤ d) : ezw_E l ρ B xa Hb D cA d ezq_re183 (ezw_Q (some (ezw_i (15))) g) 6 [some (ezw_p e), some (ezw_i x), some (ezw_i y), some (ezw_i c), some (ezw_i 0), some (ezw_i 0)] [] g := by
  refine ezw_iload rfl rfl ?_
  refine ezw_iconst (4) rfl rfl ?_
  refine ezw_icmp_ge rfl rfl ⟨by omega, by omega⟩ ⟨by omega, by omega⟩ (fun h9 => ?_) (fun h9 => ?_)
  · exact absurd h9 (by omega)
  refine ezw_aload_n rfl rfl ?_
  refine ezw_iload_n rfl rfl ?_
  refine ezw_iload_n rfl rfl ?_
  refine ezw_iload rfl rfl ?_
  refine ezw_iload_n rfl rfl ?_
  refine ezw_call0_4 rfl (by omega) hE (ezw_blt (by omega)) rfl rfl rfl (ezc_isClear0 hE hA ha he hx0 hx1 hy0 hy1 hc0 hc (by omega) (by omega) (by omega)) ?_
  rintro _ _ ⟨rfl, rfl⟩
  refine ezw_if_eq rfl rfl ⟨by omega, by omega⟩ (fun h21 => ?_) (fun h21 => ?_)
  · exact absurd h21 (by omega)
  refine ezw_iload rfl rfl ?_
  refine ezw_iconst (1) rfl rfl ?_
  refine ezw_iload rfl rfl ?_
  refine ezw_ishl rfl (by omega) (by omega) rfl ?_
  refine ezw_ior rfl rfl ?_
  refine ezw_istore rfl rfl ?_
  refine ezw_iinc (1) rfl rfl rfl rfl rfl ?_
  refine ezw_goto rfl rfl ?_
  exact ezc_safeSides1 hE hA ha he hx0 hx1 hy0 hy1 hc0 hc hd
theorem ezc_safe0 {e : Nat} {f : Nat → Int} {a : Int → Int} (hE : g e = ezw_obj 2 (fun _ => e + 1) f) (hA : g (e + 1) = ezw_ca 16 a) (ha : ∀ k, a k = 0) (he : e + 1 < 96) {x y c : Int} (hx0 : -1 < x) (hx1 : x < 16) (hy0 : -1 < y) (hy1 : y < 16) (hc0 : 0 ≤ c) (hc : c ≤ 15) (hd : 3 ≤ d) : ezw_C l ρ B xa Hb D cA 183 d [ezw_p e, ezw_i x, ezw_i y, ezw_i c] g (ezw_Q (some (ezw_i (15))) g) := by
  refine ezw_met (k := 2) rfl ?_
  refine ezw_iconst (0) rfl rfl ?_
  refine ezw_istore rfl rfl ?_
  refine ezw_iconst (0) rfl rfl ?_
  refine ezw_istore rfl rfl ?_
  exact ezc_safeSides0 hE hA ha he hx0 hx1 hy0 hy1 hc0 hc hd
theorem ezc_cellsI {e : Nat} {f : Nat → Int} {a : Int → Int} (hE : g e = ezw_obj 2 (fun _ => e + 1) f) (hA : g (e + 1) = ezw_ca 16 a) (ha : ∀ k, a k = 0) (he : e + 1 < 96) {sd c x m0 : Int} {P : Option ezq_V → (Nat → ezq_C) → Prop} (hc0 : 0 ≤ c) (hc : c ≤ 15) (hsd : ezw_and 15 sd = sd) (hsi : ezw_in sd) (hx0 : 0 ≤ x) (hx1 : x < 16) (hd : 4 ≤ d)
    (hout : ezw_E l ρ B xa Hb D cA d ezq_re186 P 46 [some (ezw_p e), some (ezw_i sd), some (ezw_i c), some (ezw_i m0), some (ezw_i x), some (ezw_i 16)] [] g) (hm : 0 ≤ m0 ∧ m0 ≤ 300) (k : Nat) : ∀ y m : Int, 0 ≤ y → y + (k : Int) = 16 → 0 ≤ m → m + (k : Int) = m0 → ezw_E l ρ B xa Hb D cA d ezq_re186 P 15 [some (ezw_p e), some (ezw_i sd), some (ezw_i c), some (ezw_i m), some (ezw_i x), some (ezw_i y)] [] g := by
  have s1 := hsi.1
  have s2 := hsi.2
  induction k with
  | zero =>
    intro y m y0 y1 m1 m2
    refine ezw_iload rfl rfl ?_
    refine ezw_bipush (16) rfl rfl ?_
    refine ezw_icmp_ge rfl rfl ⟨by omega, by omega⟩ ⟨by omega, by omega⟩ (fun h19 => ?_) (fun h19 => ?_)
    rotate_left
    · exact absurd h19 (by omega)
    rw [show m = m0 by omega, show y = 16 by omega]
    exact hout
  | succ k ih =>
    intro y m y0 y1 m1 m2
    refine ezw_iload rfl rfl ?_
    refine ezw_bipush (16) rfl rfl ?_
    refine ezw_icmp_ge rfl rfl ⟨by omega, by omega⟩ ⟨by omega, by omega⟩ (fun h19 => ?_) (fun h19 => ?_)
    · exact absurd h19 (by omega)
    refine ezw_aload_n rfl rfl ?_
    refine ezw_iload rfl rfl ?_
    refine ezw_iload rfl rfl ?_
    refine ezw_iload_n rfl rfl ?_
    refine ezw_call0_3 rfl (by omega) hE (ezw_blt (by omega)) rfl rfl rfl (ezc_safe0 hE hA ha he (by omega) (by omega) (by omega) (by omega) hc0 hc (by omega)) ?_
    rintro _ _ ⟨rfl, rfl⟩
    refine ezw_iload_n rfl rfl ?_
    refine ezw_iand rfl rfl ?_
    rw [hsd]
    refine ezw_iload_n rfl rfl ?_
    refine ezw_icmp_ne rfl rfl ⟨by omega, by omega⟩ ⟨by omega, by omega⟩ (fun h34 => ?_) (fun h34 => ?_)
    · exact absurd h34 (by omega)
    refine ezw_iinc (1) rfl rfl rfl rfl rfl ?_
    refine ezw_iinc (1) rfl rfl rfl rfl rfl ?_
    refine ezw_goto rfl rfl ?_
    exact ih _ _ (by omega) (by omega) (by omega) (by omega)
theorem ezc_cellsO {e : Nat} {f : Nat → Int} {a : Int → Int} (hE : g e = ezw_obj 2 (fun _ => e + 1) f) (hA : g (e + 1) = ezw_ca 16 a) (ha : ∀ k, a k = 0) (he : e + 1 < 96) {sd c : Int} (hc0 : 0 ≤ c) (hc : c ≤ 15) (hsd : ezw_and 15 sd = sd) (hsi : ezw_in sd) (hd : 4 ≤ d) (k : Nat) : ∀ (x m : Int) (lo : Option ezq_V), 0 ≤ x → x + (k : Int) = 16 → m = 16 * x → ezw_E l ρ B xa Hb D cA d ezq_re186 (ezw_Q (some (ezw_i (256))) g) 5 [some (ezw_p e), some (ezw_i sd), some (ezw_i c), some (ezw_i m), some (ezw_i x), lo] [] g := by
  have s1 := hsi.1
  have s2 := hsi.2
  induction k with
  | zero =>
    intro x m lo x0 x1 m1
    refine ezw_iload rfl rfl ?_
    refine ezw_bipush (16) rfl rfl ?_
    refine ezw_icmp_ge rfl rfl ⟨by omega, by omega⟩ ⟨by omega, by omega⟩ (fun h9 => ?_) (fun h9 => ?_)
    rotate_left
    · exact absurd h9 (by omega)
    refine ezw_iload_n rfl rfl ?_
    exact ezw_ireturn rfl rfl ⟨by rw [show m = 256 by omega], rfl⟩
  | succ k ih =>
    intro x m lo x0 x1 m1
    refine ezw_iload rfl rfl ?_
    refine ezw_bipush (16) rfl rfl ?_
    refine ezw_icmp_ge rfl rfl ⟨by omega, by omega⟩ ⟨by omega, by omega⟩ (fun h9 => ?_) (fun h9 => ?_)
    · exact absurd h9 (by omega)
    refine ezw_iconst (0) rfl rfl ?_
    refine ezw_istore rfl rfl ?_
    refine ezc_cellsI hE hA ha he hc0 hc hsd hsi (m0 := m + 16) (by omega) (by omega) hd ?_ ⟨by omega, by omega⟩ 16 0 m (by omega) (by omega) (by omega) (by omega)
    refine ezw_iinc (1) rfl rfl rfl rfl rfl ?_
    refine ezw_goto rfl rfl ?_
    exact ih _ _ _ (by omega) (by omega) (by omega)
theorem ezc_cells0 {e : Nat} {f : Nat → Int} {a : Int → Int} (hE : g e = ezw_obj 2 (fun _ => e + 1) f) (hA : g (e + 1) = ezw_ca 16 a) (ha : ∀ k, a k = 0) (he : e + 1 < 96) {sd c : Int} (hc0 : 0 ≤ c) (hc : c ≤ 15) (hsd : ezw_and 15 sd = sd) (hsi : ezw_in sd) (hd : 4 ≤ d) : ezw_C l ρ B xa Hb D cA 186 d [ezw_p e, ezw_i sd, ezw_i c] g (ezw_Q (some (ezw_i (256))) g) := by
  refine ezw_met (k := 3) rfl ?_
  refine ezw_iconst (0) rfl rfl ?_
  refine ezw_istore_n rfl rfl ?_
  refine ezw_iconst (0) rfl rfl ?_
  refine ezw_istore rfl rfl ?_
  exact ezc_cellsO hE hA ha he hc0 hc hsd hsi hd 16 0 0 none (by omega) (by omega) (by omega)
theorem ezc_stepsI {e : Nat} {f : Nat → Int} {a : Int → Int} (hE : g e = ezw_obj 2 (fun _ => e + 1) f) (hA : g (e + 1) = ezw_ca 16 a) (ha : ∀ k, a k = 0) (he : e + 1 < 96) {u v c x : Int} {P : Option ezq_V → (Nat → ezq_C) → Prop} (hc0 : 0 ≤ c) (hc : c ≤ 15) (hu0 : 0 ≤ u) (hu1 : u < 16) (hv0 : 0 ≤ v) (hv1 : v < 16) (hx0 : 0 ≤ x) (hx1 : x < 16) (hd : 4 ≤ d)
    (hout : ∀ (m : Int) (l7 l8 : Option ezq_V), (16 * x + 16 ≤ 16 * u + v ∧ (m = -1 ∨ 0 < m ∧ m ≤ 30) ∨ 16 * u + v < 16 * x + 16 ∧ m = 0) → ezw_E l ρ B xa Hb D cA d ezq_re188 P 89 [some (ezw_p e), some (ezw_i u), some (ezw_i v), some (ezw_i c), some (ezw_i m), some (ezw_i x), some (ezw_i 16), l7, l8] [] g) (k : Nat) : ∀ (y m : Int) (l7 l8 : Option ezq_V), 0 ≤ y → y + (k : Int) = 16 → (16 * x + y ≤ 16 * u + v ∧ (m = -1 ∨ 0 < m ∧ m ≤ 30) ∨ 16 * u + v < 16 * x + y ∧ m = 0) → ezw_E l ρ B xa Hb D cA d ezq_re188 P 16 [some (ezw_p e), some (ezw_i u), some (ezw_i v), some (ezw_i c), some (ezw_i m), some (ezw_i x), some (ezw_i y), l7, l8] [] g := by
  induction k with
  | zero =>
    intro y m l7 l8 y0 y1 inv
    refine ezw_iload rfl rfl ?_
    refine ezw_bipush (16) rfl rfl ?_
    refine ezw_icmp_ge rfl rfl ⟨by omega, by omega⟩ ⟨by omega, by omega⟩ (fun h20 => ?_) (fun h20 => ?_)
    rotate_left
    · exact absurd h20 (by omega)
    obtain rfl : y = 16 := by omega
    exact hout _ _ _ inv
  | succ k ih =>
    intro y m l7 l8 y0 y1 inv
    refine ezw_iload rfl rfl ?_
    refine ezw_bipush (16) rfl rfl ?_
    refine ezw_icmp_ge rfl rfl ⟨by omega, by omega⟩ ⟨by omega, by omega⟩ (fun h20 => ?_) (fun h20 => ?_)
    · exact absurd h20 (by omega)
    refine ezw_iload rfl rfl ?_
    refine ezw_iload_n rfl rfl ?_
    refine ezw_isub rfl rfl ?_
    refine ezw_mabsE rfl ⟨by omega, by omega⟩ rfl (fun u27 f27 => ?_)
    refine ezw_iload rfl rfl ?_
    refine ezw_iload_n rfl rfl ?_
    refine ezw_isub rfl rfl ?_
    refine ezw_mabsE rfl ⟨by omega, by omega⟩ rfl (fun u34 f34 => ?_)
    refine ezw_iadd rfl rfl ?_
    refine ezw_istore rfl rfl ?_
    refine ezw_iload rfl rfl ?_
    refine ezw_iconst (-1) rfl rfl ?_
    refine ezw_icmp_eq rfl rfl ⟨by omega, by omega⟩ ⟨by omega, by omega⟩ (fun h43 => ?_) (fun h43 => ?_)
    · refine ezw_iconst (1) rfl rfl ?_
      refine ezw_goto rfl rfl ?_
      refine ezw_istore rfl rfl ?_
      refine ezw_iload rfl rfl ?_
      refine ezw_if_eq rfl rfl ⟨by omega, by omega⟩ (fun h62 => ?_) (fun h62 => ?_)
      · refine ezw_iinc (1) rfl rfl rfl rfl rfl ?_
        refine ezw_goto rfl rfl ?_
        exact ih _ _ _ _ (by omega) (by omega) (by omega)
      · refine ezw_aload_n rfl rfl ?_
        refine ezw_iload rfl rfl ?_
        refine ezw_iload rfl rfl ?_
        refine ezw_iload_n rfl rfl ?_
        refine ezw_call0_3 rfl (by omega) hE (ezw_blt (by omega)) rfl rfl rfl (ezc_safe0 hE hA ha he (by omega) (by omega) (by omega) (by omega) hc0 hc (by omega)) ?_
        rintro _ _ ⟨rfl, rfl⟩
        refine ezw_bipush (15) rfl rfl ?_
        refine ezw_icmp_ne rfl rfl ⟨by omega, by omega⟩ ⟨by omega, by omega⟩ (fun h76 => ?_) (fun h76 => ?_)
        · exact absurd h76 (by omega)
        refine ezw_iload rfl rfl ?_
        refine ezw_istore rfl rfl ?_
        refine ezw_iinc (1) rfl rfl rfl rfl rfl ?_
        refine ezw_goto rfl rfl ?_
        exact ih _ _ _ _ (by omega) (by omega) (by omega)
    · refine ezw_iload rfl rfl ?_
      refine ezw_iload rfl rfl ?_
      refine ezw_icmp_ge rfl rfl ⟨by omega, by omega⟩ ⟨by omega, by omega⟩ (fun h50 => ?_) (fun h50 => ?_)
      · refine ezw_iconst (0) rfl rfl ?_
        refine ezw_istore rfl rfl ?_
        refine ezw_iload rfl rfl ?_
        refine ezw_if_eq rfl rfl ⟨by omega, by omega⟩ (fun h62 => ?_) (fun h62 => ?_)
        · refine ezw_iinc (1) rfl rfl rfl rfl rfl ?_
          refine ezw_goto rfl rfl ?_
          exact ih _ _ _ _ (by omega) (by omega) (by omega)
        · refine ezw_aload_n rfl rfl ?_
          refine ezw_iload rfl rfl ?_
          refine ezw_iload rfl rfl ?_
          refine ezw_iload_n rfl rfl ?_
          refine ezw_call0_3 rfl (by omega) hE (ezw_blt (by omega)) rfl rfl rfl (ezc_safe0 hE hA ha he (by omega) (by omega) (by omega) (by omega) hc0 hc (by omega)) ?_
          rintro _ _ ⟨rfl, rfl⟩
          refine ezw_bipush (15) rfl rfl ?_
          refine ezw_icmp_ne rfl rfl ⟨by omega, by omega⟩ ⟨by omega, by omega⟩ (fun h76 => ?_) (fun h76 => ?_)
          · exact absurd h76 (by omega)
          refine ezw_iload rfl rfl ?_
          refine ezw_istore rfl rfl ?_
          refine ezw_iinc (1) rfl rfl rfl rfl rfl ?_
          refine ezw_goto rfl rfl ?_
          exact ih _ _ _ _ (by omega) (by omega) (by omega)
      · refine ezw_iconst (1) rfl rfl ?_
        refine ezw_goto rfl rfl ?_
        refine ezw_istore rfl rfl ?_
        refine ezw_iload rfl rfl ?_
        refine ezw_if_eq rfl rfl ⟨by omega, by omega⟩ (fun h62 => ?_) (fun h62 => ?_)
        · refine ezw_iinc (1) rfl rfl rfl rfl rfl ?_
          refine ezw_goto rfl rfl ?_
          exact ih _ _ _ _ (by omega) (by omega) (by omega)
        · refine ezw_aload_n rfl rfl ?_
          refine ezw_iload rfl rfl ?_
          refine ezw_iload rfl rfl ?_
          refine ezw_iload_n rfl rfl ?_
          refine ezw_call0_3 rfl (by omega) hE (ezw_blt (by omega)) rfl rfl rfl (ezc_safe0 hE hA ha he (by omega) (by omega) (by omega) (by omega) hc0 hc (by omega)) ?_
          rintro _ _ ⟨rfl, rfl⟩
          refine ezw_bipush (15) rfl rfl ?_
          refine ezw_icmp_ne rfl rfl ⟨by omega, by omega⟩ ⟨by omega, by omega⟩ (fun h76 => ?_) (fun h76 => ?_)
          · exact absurd h76 (by omega)
          refine ezw_iload rfl rfl ?_
          refine ezw_istore rfl rfl ?_
          refine ezw_iinc (1) rfl rfl rfl rfl rfl ?_
          refine ezw_goto rfl rfl ?_
          exact ih _ _ _ _ (by omega) (by omega) (by omega)
theorem ezc_stepsO {e : Nat} {f : Nat → Int} {a : Int → Int} (hE : g e = ezw_obj 2 (fun _ => e + 1) f) (hA : g (e + 1) = ezw_ca 16 a) (ha : ∀ k, a k = 0) (he : e + 1 < 96) {u v c : Int} (hc0 : 0 ≤ c) (hc : c ≤ 15) (hu0 : 0 ≤ u) (hu1 : u < 16) (hv0 : 0 ≤ v) (hv1 : v < 16) (hd : 4 ≤ d) (k : Nat) : ∀ (x m : Int) (l6 l7 l8 : Option ezq_V), 0 ≤ x → x + (k : Int) = 16 → (16 * x + 0 ≤ 16 * u + v ∧ (m = -1 ∨ 0 < m ∧ m ≤ 30) ∨ 16 * u + v < 16 * x + 0 ∧ m = 0) → ezw_E l ρ B xa Hb D cA d ezq_re188 (ezw_Q (some (ezw_i (0))) g) 6 [some (ezw_p e), some (ezw_i u), some (ezw_i v), some (ezw_i c), some (ezw_i m), some (ezw_i x), l6, l7, l8] [] g := by
  induction k with
  | zero =>
    intro x m l6 l7 l8 x0 x1 inv
    refine ezw_iload rfl rfl ?_
    refine ezw_bipush (16) rfl rfl ?_
    refine ezw_icmp_ge rfl rfl ⟨by omega, by omega⟩ ⟨by omega, by omega⟩ (fun h10 => ?_) (fun h10 => ?_)
    rotate_left
    · exact absurd h10 (by omega)
    refine ezw_iload rfl rfl ?_
    exact ezw_ireturn rfl rfl ⟨by rw [show m = 0 by omega], rfl⟩
  | succ k ih =>
    intro x m l6 l7 l8 x0 x1 inv
    refine ezw_iload rfl rfl ?_
    refine ezw_bipush (16) rfl rfl ?_
    refine ezw_icmp_ge rfl rfl ⟨by omega, by omega⟩ ⟨by omega, by omega⟩ (fun h10 => ?_) (fun h10 => ?_)
    · exact absurd h10 (by omega)
    refine ezw_iconst (0) rfl rfl ?_
    refine ezw_istore rfl rfl ?_
    refine ezc_stepsI hE hA ha he hc0 hc hu0 hu1 hv0 hv1 (by omega) (by omega) hd ?_ 16 0 m l7 l8 (by omega) (by omega) inv
    intro m l7 l8 inv
    refine ezw_iinc (1) rfl rfl rfl rfl rfl ?_
    refine ezw_goto rfl rfl ?_
    exact ih _ _ _ _ _ (by omega) (by omega) (by omega)
theorem ezc_steps0 {e : Nat} {f : Nat → Int} {a : Int → Int} (hE : g e = ezw_obj 2 (fun _ => e + 1) f) (hA : g (e + 1) = ezw_ca 16 a) (ha : ∀ k, a k = 0) (he : e + 1 < 96) {u v c : Int} (hc0 : 0 ≤ c) (hc : c ≤ 15) (hu0 : 0 ≤ u) (hu1 : u < 16) (hv0 : 0 ≤ v) (hv1 : v < 16) (hd : 4 ≤ d) : ezw_C l ρ B xa Hb D cA 188 d [ezw_p e, ezw_i u, ezw_i v, ezw_i c] g (ezw_Q (some (ezw_i (0))) g) := by
  refine ezw_met (k := 5) rfl ?_
  refine ezw_iconst (-1) rfl rfl ?_
  refine ezw_istore rfl rfl ?_
  refine ezw_iconst (0) rfl rfl ?_
  refine ezw_istore rfl rfl ?_
  exact ezc_stepsO hE hA ha he hc0 hc hu0 hu1 hv0 hv1 hd 16 0 (-1) none none none (by omega) (by omega) (by omega)
end KM
