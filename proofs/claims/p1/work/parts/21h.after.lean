/-! ===== afternoons at the start ===== -/
section KM
variable {l : Launch} {ρ : ezq_E} {B : Nat} {xa : Nat → Option Nat} {Hb : Heap} {D : va_G} {cA : Nat → ClassId} {d : Nat} {g : Nat → ezq_C}

theorem ezw_fillup {a : Int → Int} {i v : Int} (h : ∀ j, 0 ≤ j → j < i → a j = v) : ∀ j, 0 ≤ j → j < i + 1 → ezw_au a i v j = v := by
  intro j j0 j1
  show (if j = i then v else a j) = v
  by_cases e : j = i
  · rw [if_pos e]
  · rw [if_neg e]
    exact h j j0 (by omega)
theorem ezc_fillL {g0 : Nat → ezq_C} {q n : Nat} {v : Int} (h9 : Nat.blt q 96 = true) (hn : n ≤ 100000) (k : Nat) : ∀ {g : Nat → ezq_C} (a : Int → Int) (i : Int) (hf : ∀ p, p ≠ q → g p = g0 p) (hq : g q = ezw_ca n a) (ha : ∀ j, 0 ≤ j → j < i → a j = v), 0 ≤ i → i + (k : Int) = (n : Int) → ezw_E l ρ B xa Hb D cA d ezq_re26 (fun x g' => none = x ∧ (∃ a, g' q = ezw_ca n a ∧ ∀ j, 0 ≤ j → j < (n : Int) → a j = v) ∧ ∀ p, p ≠ q → g' p = g0 p) 5 [some (ezw_p q), some (ezw_i v), some (ezw_i i), some (ezw_i (n : Int))] [] g := by
  induction k with
  | zero =>
    intro g a i hf hq ha i0 i1
    refine ezw_iload_n rfl rfl ?_
    refine ezw_iload_n rfl rfl ?_
    refine ezw_icmp_ge rfl rfl ⟨by omega, by omega⟩ ⟨by omega, by omega⟩ (fun h7 => ?_) (fun h7 => ?_)
    rotate_left
    · exact absurd h7 (by omega)
    exact ezw_return rfl rfl ⟨rfl, ⟨a, hq, fun j j0 j1 => ha j j0 (by omega)⟩, hf⟩
  | succ k ih =>
    intro g a i hf hq ha i0 i1
    refine ezw_iload_n rfl rfl ?_
    refine ezw_iload_n rfl rfl ?_
    refine ezw_icmp_ge rfl rfl ⟨by omega, by omega⟩ ⟨by omega, by omega⟩ (fun h7 => ?_) (fun h7 => ?_)
    · exact absurd h7 (by omega)
    refine ezw_aload_n rfl rfl ?_
    refine ezw_iload_n rfl rfl ?_
    refine ezw_iload_n rfl rfl ?_
    refine ezw_iastore rfl hq h9 (by omega) (by omega) (by omega) ?_
    refine ezw_iinc (1) rfl rfl rfl rfl rfl ?_
    refine ezw_goto rfl rfl ?_
    exact ih _ _ (fun p hp => (ezw_un hp).trans (hf p hp)) ezw_ug (ezw_fillup ha) (by omega) (by omega)
theorem ezc_fill {q n : Nat} {a : Int → Int} {v : Int} (hq : g q = ezw_ca n a) (h9 : Nat.blt q 96 = true) (hn : n ≤ 100000) : ezw_C l ρ B xa Hb D cA 26 d [ezw_p q, ezw_i v] g (fun x g' => none = x ∧ (∃ a, g' q = ezw_ca n a ∧ ∀ j, 0 ≤ j → j < (n : Int) → a j = v) ∧ ∀ p, p ≠ q → g' p = g p) := by
  refine ezw_met (k := 2) rfl ?_
  refine ezw_iconst (0) rfl rfl ?_
  refine ezw_istore_n rfl rfl ?_
  refine ezw_aload_n rfl rfl ?_
  refine ezw_arraylength rfl hq h9 rfl (by omega) ?_
  refine ezw_istore_n rfl rfl ?_
  exact ezc_fillL h9 hn n a 0 (fun _ _ => rfl) hq (fun j j0 j1 => absurd j0 (by omega)) (by omega) (by omega)
theorem ezc_held0 {q : Nat} {f : Nat → Int} (hO : g q = ezw_obj 4 (ezw_rfN q) f) (hn : ezw_now0 f) (h9 : Nat.blt q 96 = true) : ezw_C l ρ B xa Hb D cA 119 d [ezw_p q] g (ezw_Q (some (ezw_l 395408)) g) := by
  refine ezw_met (k := 2) rfl ?_
  obtain ⟨n0, n1, n2, n3, n4, n5, n6⟩ := hn
  refine ezw_aload_n rfl rfl ?_
  refine ezw_getfield rfl hO h9 rfl rfl ?_
  rw [n0]
  refine ezw_i2l rfl ⟨by omega, by omega⟩ rfl ?_
  refine ezw_lstore_n rfl rfl ?_
  refine ezw_lload_n rfl rfl ?_
  refine ezw_iconst (4) rfl rfl ?_
  refine ezw_lshl rfl (by omega) (by omega) rfl ?_
  refine ezw_aload_n rfl rfl ?_
  refine ezw_getfield rfl hO h9 rfl rfl ?_
  rw [n1]
  refine ezw_i2l rfl ⟨by omega, by omega⟩ rfl ?_
  refine ezw_lor rfl rfl ?_
  refine ezw_lstore_n rfl rfl ?_
  refine ezw_lload_n rfl rfl ?_
  refine ezw_iconst (5) rfl rfl ?_
  refine ezw_lshl rfl (by omega) (by omega) rfl ?_
  refine ezw_aload_n rfl rfl ?_
  refine ezw_getfield rfl hO h9 rfl rfl ?_
  rw [n2]
  refine ezw_i2l rfl ⟨by omega, by omega⟩ rfl ?_
  refine ezw_lor rfl rfl ?_
  refine ezw_lstore_n rfl rfl ?_
  refine ezw_lload_n rfl rfl ?_
  refine ezw_iconst (2) rfl rfl ?_
  refine ezw_lshl rfl (by omega) (by omega) rfl ?_
  refine ezw_aload_n rfl rfl ?_
  refine ezw_getfield rfl hO h9 rfl rfl ?_
  rw [n3]
  refine ezw_i2l rfl ⟨by omega, by omega⟩ rfl ?_
  refine ezw_lor rfl rfl ?_
  refine ezw_lstore_n rfl rfl ?_
  refine ezw_lload_n rfl rfl ?_
  refine ezw_iconst (2) rfl rfl ?_
  refine ezw_lshl rfl (by omega) (by omega) rfl ?_
  refine ezw_aload_n rfl rfl ?_
  refine ezw_getfield rfl hO h9 rfl rfl ?_
  rw [n4]
  refine ezw_i2l rfl ⟨by omega, by omega⟩ rfl ?_
  refine ezw_lor rfl rfl ?_
  refine ezw_lstore_n rfl rfl ?_
  refine ezw_lload_n rfl rfl ?_
  refine ezw_bipush (7) rfl rfl ?_
  refine ezw_lshl rfl (by omega) (by omega) rfl ?_
  refine ezw_aload_n rfl rfl ?_
  refine ezw_getfield rfl hO h9 rfl rfl ?_
  rw [n5]
  refine ezw_i2l rfl ⟨by omega, by omega⟩ rfl ?_
  refine ezw_lor rfl rfl ?_
  refine ezw_lstore_n rfl rfl ?_
  refine ezw_lload_n rfl rfl ?_
  refine ezw_iconst (4) rfl rfl ?_
  refine ezw_lshl rfl (by omega) (by omega) rfl ?_
  refine ezw_aload_n rfl rfl ?_
  refine ezw_getfield rfl hO h9 rfl rfl ?_
  rw [n6]
  refine ezw_i2l rfl ⟨by omega, by omega⟩ rfl ?_
  refine ezw_lor rfl rfl ?_
  exact ezw_lreturn rfl rfl ⟨congrArg (fun x => some (ezw_l x)) (by rfl), rfl⟩
theorem ezc_restore0 {q : Nat} {f : Nat → Int} (hO : g q = ezw_obj 4 (ezw_rfN q) f) (h9 : Nat.blt q 96 = true) : ezw_C l ρ B xa Hb D cA 140 d [ezw_p q, ezw_l 395408] g (fun x g' => none = x ∧ (∃ f', g' q = ezw_obj 4 (ezw_rfN q) f' ∧ ezw_now0 f') ∧ ∀ p, p ≠ q → g' p = g p) := by
  refine ezw_met (k := 0) rfl ?_
  refine ezw_aload_n rfl rfl ?_
  refine ezw_lload_n rfl rfl ?_
  refine ezw_ldc2_w (15) rfl rfl ?_
  refine ezw_land rfl rfl ?_
  refine ezw_l2i rfl rfl ?_
  refine ezw_putf_i rfl hO h9 rfl rfl ?_
  refine ezw_aload_n rfl rfl ?_
  refine ezw_lload_n rfl rfl ?_
  refine ezw_iconst (4) rfl rfl ?_
  refine ezw_lshr rfl ⟨by omega, by omega⟩ (by omega) (by omega) rfl ?_
  refine ezw_ldc2_w (127) rfl rfl ?_
  refine ezw_land rfl rfl ?_
  refine ezw_l2i rfl rfl ?_
  refine ezw_putf_i rfl ezw_ug h9 rfl rfl ?_
  refine ezw_aload_n rfl rfl ?_
  refine ezw_lload_n rfl rfl ?_
  refine ezw_bipush (11) rfl rfl ?_
  refine ezw_lshr rfl ⟨by omega, by omega⟩ (by omega) (by omega) rfl ?_
  refine ezw_ldc2_w (3) rfl rfl ?_
  refine ezw_land rfl rfl ?_
  refine ezw_l2i rfl rfl ?_
  refine ezw_putf_i rfl ezw_ug h9 rfl rfl ?_
  refine ezw_aload_n rfl rfl ?_
  refine ezw_lload_n rfl rfl ?_
  refine ezw_bipush (13) rfl rfl ?_
  refine ezw_lshr rfl ⟨by omega, by omega⟩ (by omega) (by omega) rfl ?_
  refine ezw_ldc2_w (3) rfl rfl ?_
  refine ezw_land rfl rfl ?_
  refine ezw_l2i rfl rfl ?_
  refine ezw_putf_i rfl ezw_ug h9 rfl rfl ?_
  refine ezw_aload_n rfl rfl ?_
  refine ezw_lload_n rfl rfl ?_
  refine ezw_bipush (15) rfl rfl ?_
  refine ezw_lshr rfl ⟨by omega, by omega⟩ (by omega) (by omega) rfl ?_
  refine ezw_ldc2_w (31) rfl rfl ?_
  refine ezw_land rfl rfl ?_
  refine ezw_l2i rfl rfl ?_
  refine ezw_putf_i rfl ezw_ug h9 rfl rfl ?_
  refine ezw_aload_n rfl rfl ?_
  refine ezw_lload_n rfl rfl ?_
  refine ezw_bipush (20) rfl rfl ?_
  refine ezw_lshr rfl ⟨by omega, by omega⟩ (by omega) (by omega) rfl ?_
  refine ezw_ldc2_w (15) rfl rfl ?_
  refine ezw_land rfl rfl ?_
  refine ezw_l2i rfl rfl ?_
  refine ezw_putf_i rfl ezw_ug h9 rfl rfl ?_
  refine ezw_aload_n rfl rfl ?_
  refine ezw_lload_n rfl rfl ?_
  refine ezw_bipush (24) rfl rfl ?_
  refine ezw_lshr rfl ⟨by omega, by omega⟩ (by omega) (by omega) rfl ?_
  refine ezw_ldc2_w (63) rfl rfl ?_
  refine ezw_land rfl rfl ?_
  refine ezw_l2i rfl rfl ?_
  refine ezw_putf_i rfl ezw_ug h9 rfl rfl ?_
  exact ezw_return rfl rfl ⟨rfl, ⟨_, ezw_ug, rfl, rfl, rfl, rfl, rfl, rfl, rfl⟩, fun p hp => by simp only [ezw_u, if_neg hp]⟩
theorem ezc_hand0 {f : Nat → Int} (hT : g 30 = ezw_obj 9 (ezw_rfT 30) f) (t16 : f 16 = 0) {h : Int} : ezw_C l ρ B xa Hb D cA 144 d [ezw_p 30, ezw_i h] g (ezw_Q (some (ezw_i 0)) g) := by
  refine ezw_met (k := 2) rfl ?_
  refine ezw_iconst (0) rfl rfl ?_
  refine ezw_istore_n rfl rfl ?_
  refine ezw_iconst (0) rfl rfl ?_
  refine ezw_istore_n rfl rfl ?_
  refine ezw_iload_n rfl rfl ?_
  refine ezw_aload_n rfl rfl ?_
  refine ezw_getfield rfl hT rfl rfl rfl ?_
  refine ezw_icmp_ge rfl rfl ⟨by omega, by omega⟩ ⟨by omega, by omega⟩ (fun h9 => ?_) (fun h9 => ?_)
  rotate_left
  · exact absurd h9 (by omega)
  refine ezw_iload_n rfl rfl ?_
  exact ezw_ireturn rfl rfl ⟨rfl, rfl⟩
theorem ezc_inAll0 {q : Nat} {fN : Nat → Int} (hO : g q = ezw_obj 4 (ezw_rfN q) fN) (hn : ezw_now0 fN) (h9 : Nat.blt q 96 = true) {f : Nat → Int} (hT : g 30 = ezw_obj 9 (ezw_rfT 30) f) (t16 : f 16 = 0) (hN : g 44 = ezw_ca 11 ezw_first) (hd : 2 ≤ d) : ezw_C l ρ B xa Hb D cA 143 d [ezw_p q, ezw_p 30] g (ezw_Q (some (ezw_i 0)) g) := by
  refine ezw_met (k := 1) rfl ?_
  obtain ⟨n0, n1, n2, n3, n4, n5, n6⟩ := hn
  refine ezw_aload_n rfl rfl ?_
  refine ezw_aload_n rfl rfl ?_
  refine ezw_getfield rfl hO h9 rfl rfl ?_
  refine ezw_call0_1 rfl (by omega) hT rfl rfl rfl rfl (ezc_hand0 hT t16) ?_
  rintro _ _ ⟨rfl, rfl⟩
  refine ezw_istore_n rfl rfl ?_
  refine ezw_aload_n rfl rfl ?_
  refine ezw_getfield rfl hO h9 rfl rfl ?_
  refine ezw_iconst (1) rfl rfl ?_
  refine ezw_icmp_ne rfl rfl ⟨by omega, by omega⟩ ⟨by omega, by omega⟩ (fun h14 => ?_) (fun h14 => ?_)
  · exact absurd h14 (by omega)
  refine ezw_aload_n rfl rfl ?_
  refine ezw_getfield rfl hO h9 rfl rfl ?_
  refine ezw_if_le rfl rfl ⟨by omega, by omega⟩ (fun h21 => ?_) (fun h21 => ?_)
  · exact absurd h21 (by omega)
  refine ezw_iload_n rfl rfl ?_
  refine ezw_aload_n rfl rfl ?_
  refine ezw_iconst (0) rfl rfl ?_
  refine ezw_call0_1 rfl (by omega) hT rfl rfl rfl rfl (ezc_number (q := 30) hT hN (by omega) ⟨by omega, by omega⟩ (by omega)) ?_
  rintro _ _ ⟨rfl, rfl⟩
  refine ezw_iadd rfl rfl ?_
  refine ezw_goto rfl rfl ?_
  exact ezw_ireturn rfl rfl ⟨rfl, rfl⟩
def ezw_rfP : Nat → Nat := fun k => k + 24
def ezw_rfD : Nat → Nat := fun k => match k with
  | 0 => 23
  | _ => 26
theorem ezc_lookL {g0 : Nat → ezq_C} {f fN : Nat → Int} (hT : g0 30 = ezw_obj 9 (ezw_rfT 30) f) (hN : g0 44 = ezw_ca 11 ezw_first) (hNow : g0 13 = ezw_obj 4 (ezw_rfN 13) fN) (hn : ezw_now0 fN) {fP : Nat → Int} {a : Int → Int} (hP : g 23 = ezw_obj 6 ezw_rfP fP) (hA : g 24 = ezw_ca 5760 a) (hf : ∀ p, p ≠ 23 → p ≠ 24 → g p = g0 p) (hd : 1 ≤ d) (k : Nat) : ∀ i : Int, 0 ≤ i → i + (k : Int) = 6 → ezw_E l ρ B xa Hb D cA d ezq_re147 (fun x g' => none = x ∧ (∃ f', g' 23 = ezw_obj 6 ezw_rfP f') ∧ (∃ a, g' 24 = ezw_ca 5760 a) ∧ ∀ p, p ≠ 23 → p ≠ 24 → g' p = g0 p) 33 [some (ezw_p 23), some (ezw_p 30), some (ezw_p 13), some (ezw_i 0), some (ezw_i i)] [] g := by
  obtain ⟨n0, n1, n2, n3, n4, n5, n6⟩ := hn
  induction k with
  | zero =>
    intro i i0 i1
    refine ezw_iload rfl rfl ?_
    refine ezw_bipush (6) rfl rfl ?_
    refine ezw_icmp_ge rfl rfl ⟨by omega, by omega⟩ ⟨by omega, by omega⟩ (fun h37 => ?_) (fun h37 => ?_)
    rotate_left
    · exact absurd h37 (by omega)
    refine ezw_aload_n rfl rfl ?_
    refine ezw_getfield rfl hP rfl rfl rfl ?_
    refine ezw_iconst (-1) rfl rfl ?_
    refine ezw_call2_2 rfl (by omega) rfl rfl (ezc_fill hA rfl (by decide)) ?_
    rintro _ g2 ⟨rfl, ⟨a2, ha2, -⟩, hf2⟩
    exact ezw_return rfl rfl ⟨rfl, ⟨fP, (hf2 23 (by decide)).trans hP⟩, ⟨a2, ha2⟩, fun p hp hp2 => (hf2 p hp2).trans (hf p hp hp2)⟩
  | succ k ih =>
    intro i i0 i1
    refine ezw_iload rfl rfl ?_
    refine ezw_bipush (6) rfl rfl ?_
    refine ezw_icmp_ge rfl rfl ⟨by omega, by omega⟩ ⟨by omega, by omega⟩ (fun h37 => ?_) (fun h37 => ?_)
    · exact absurd h37 (by omega)
    refine ezw_aload_n rfl rfl ?_
    refine ezw_getfield rfl ((hf 13 (by decide) (by decide)).trans hNow) rfl rfl rfl ?_
    rw [n0]
    refine ezw_iload rfl rfl ?_
    refine ezw_call3_2 rfl (by omega) rfl rfl (ezc_bit ⟨by omega, by omega⟩ ⟨by omega, by omega⟩) ?_
    rintro _ _ ⟨rfl, rfl⟩
    rw [ezw_bit0]
    refine ezw_iconst (1) rfl rfl ?_
    refine ezw_icmp_ne rfl rfl ⟨by omega, by omega⟩ ⟨by omega, by omega⟩ (fun h50 => ?_) (fun h50 => ?_)
    rotate_left
    · exact absurd h50 (by omega)
    refine ezw_iinc (1) rfl rfl rfl rfl rfl ?_
    refine ezw_goto rfl rfl ?_
    exact ih _ (by omega) (by omega)
theorem ezc_look0 {g0 : Nat → ezq_C} {f fN : Nat → Int} (hT : g0 30 = ezw_obj 9 (ezw_rfT 30) f) (hN : g0 44 = ezw_ca 11 ezw_first) (hNow : g0 13 = ezw_obj 4 (ezw_rfN 13) fN) (hn : ezw_now0 fN) {fP : Nat → Int} {a : Int → Int} (hP : g0 23 = ezw_obj 6 ezw_rfP fP) (hA : g0 24 = ezw_ca 5760 a) (hd : 2 ≤ d) : ezw_C l ρ B xa Hb D cA 147 d [ezw_p 23, ezw_p 30, ezw_p 13] g0 (fun x g' => none = x ∧ (∃ f', g' 23 = ezw_obj 6 ezw_rfP f') ∧ (∃ a, g' 24 = ezw_ca 5760 a) ∧ ∀ p, p ≠ 23 → p ≠ 24 → g' p = g0 p) := by
  refine ezw_met (k := 2) rfl ?_
  obtain ⟨n0, n1, n2, n3, n4, n5, n6⟩ := hn
  refine ezw_aload_n rfl rfl ?_
  refine ezw_aload_n rfl rfl ?_
  refine ezw_getfield rfl hNow rfl rfl rfl ?_
  refine ezw_putf_i rfl hP rfl rfl rfl ?_
  refine ezw_aload_n rfl rfl ?_
  refine ezw_aload_n rfl rfl ?_
  refine ezw_getfield rfl ((ezw_un (by decide)).trans hNow) rfl rfl rfl ?_
  refine ezw_if_le rfl rfl ⟨by omega, by omega⟩ (fun h13 => ?_) (fun h13 => ?_)
  · exact absurd h13 (by omega)
  refine ezw_aload_n rfl rfl ?_
  refine ezw_iconst (0) rfl rfl ?_
  refine ezw_call0_1 rfl (by omega) ((ezw_un (by decide)).trans hT) rfl rfl rfl rfl (ezc_number (q := 30) ((ezw_un (by decide)).trans hT) ((ezw_un (by decide)).trans hN) (by omega) ⟨by omega, by omega⟩ (by omega)) ?_
  rintro _ _ ⟨rfl, rfl⟩
  refine ezw_goto rfl rfl ?_
  refine ezw_putf_i rfl ezw_ug rfl rfl rfl ?_
  refine ezw_iconst (0) rfl rfl ?_
  refine ezw_istore_n rfl rfl ?_
  refine ezw_iconst (0) rfl rfl ?_
  refine ezw_istore rfl rfl ?_
  exact ezc_lookL hT hN hNow (by exact ⟨n0, n1, n2, n3, n4, n5, n6⟩) ezw_ug ((ezw_un (by decide)).trans ((ezw_un (by decide)).trans hA)) (fun p hp hp2 => by simp only [ezw_u, if_neg hp]) (by omega) 6 0 (by omega) (by omega)
theorem ezc_playL {g0 : Nat → ezq_C} {f fN : Nat → Int} (hT : g0 30 = ezw_obj 9 (ezw_rfT 30) f) (t16 : f 16 = 0) (hN : g0 44 = ezw_ca 11 ezw_first) (hNow : g0 13 = ezw_obj 4 (ezw_rfN 13) fN) (hn : ezw_now0 fN) {seed many tries : Int} (ht0 : 1 ≤ tries) (ht1 : tries ≤ 6) (hm0 : 1 ≤ many) (hm1 : many ≤ 20) (hd : 4 ≤ d) (k : Nat) : ∀ {g : Nat → ezq_C} (fD fS : Nat → Int) (i : Int) (l7 l8 : Option ezq_V), 0 ≤ i → i + (k : Int) = many → (∀ p, p ≠ 22 → p ≠ 23 → p ≠ 24 → p ≠ 26 → g p = g0 p) → g 22 = ezw_obj 1 ezw_rfD fD → (fD 3 = 0 ∧ fD 4 = 0 ∧ fD 5 = 0) → g 26 = ezw_obj 4 (ezw_rfN 26) fS → ezw_E l ρ B xa Hb D cA d ezq_re196 (fun x g' => none = x ∧ (∃ f', g' 22 = ezw_obj 1 ezw_rfD f' ∧ f' 3 = 0 ∧ f' 4 = 0 ∧ f' 5 = 0) ∧ ∀ p, p ≠ 22 → p ≠ 23 → p ≠ 24 → p ≠ 26 → g' p = g0 p) 33 [some (ezw_p 22), some (ezw_p 30), some (ezw_p 13), some (ezw_i seed), some (ezw_i many), some (ezw_i tries), some (ezw_i i), l7, l8] [] g := by
  induction k with
  | zero =>
    intro g fD fS i l7 l8 i0 i1 hf hD hD0 hS
    refine ezw_iload rfl rfl ?_
    refine ezw_iload rfl rfl ?_
    refine ezw_icmp_ge rfl rfl ⟨by omega, by omega⟩ ⟨by omega, by omega⟩ (fun h37 => ?_) (fun h37 => ?_)
    rotate_left
    · exact absurd h37 (by omega)
    exact ezw_return rfl rfl ⟨rfl, ⟨fD, hD, hD0⟩, hf⟩
  | succ k ih =>
    intro g fD fS i l7 l8 i0 i1 hf hD hD0 hS
    obtain ⟨d3, d4, d5⟩ := hD0
    refine ezw_iload rfl rfl ?_
    refine ezw_iload rfl rfl ?_
    refine ezw_icmp_ge rfl rfl ⟨by omega, by omega⟩ ⟨by omega, by omega⟩ (fun h37 => ?_) (fun h37 => ?_)
    · exact absurd h37 (by omega)
    refine ezw_aload_n rfl rfl ?_
    refine ezw_getfield rfl hD rfl rfl rfl ?_
    refine ezw_aload_n rfl rfl ?_
    refine ezw_call0_0 rfl (by omega) ((hf 13 (by decide) (by decide) (by decide) (by decide)).trans hNow) rfl rfl rfl rfl (ezc_held0 ((hf 13 (by decide) (by decide) (by decide) (by decide)).trans hNow) hn rfl) ?_
    rintro _ _ ⟨rfl, rfl⟩
    refine ezw_call0_1 rfl (by omega) hS rfl rfl rfl rfl (ezc_restore0 hS rfl) ?_
    rintro _ g3 ⟨rfl, ⟨fS3, hS3, hn3⟩, hf3⟩
    refine ezw_iconst (1) rfl rfl ?_
    refine ezw_istore rfl rfl ?_
    refine ezw_iload rfl rfl ?_
    refine ezw_istore rfl rfl ?_
    refine ezw_iload rfl rfl ?_
    refine ezw_if_le rfl rfl ⟨by omega, by omega⟩ (fun h60 => ?_) (fun h60 => ?_)
    · exact absurd h60 (by omega)
    refine ezw_aload_n rfl rfl ?_
    refine ezw_getfield rfl ((hf3 22 (by decide)).trans hD) rfl rfl rfl ?_
    refine ezw_getfield rfl hS3 rfl rfl rfl ?_
    rw [hn3.2.2.2.2.1]
    refine ezw_if_ne rfl rfl ⟨by omega, by omega⟩ (fun h70 => ?_) (fun h70 => ?_)
    rotate_left
    · exact absurd h70 (by omega)
    refine ezw_aload_n rfl rfl ?_
    refine ezw_dup rfl rfl ?_
    refine ezw_getfield rfl ((hf3 22 (by decide)).trans hD) rfl rfl rfl ?_
    refine ezw_aload_n rfl rfl ?_
    refine ezw_getfield rfl ((hf3 22 (by decide)).trans hD) rfl rfl rfl ?_
    refine ezw_aload_n rfl rfl ?_
    refine ezw_call0_1 rfl (by omega) hS3 rfl rfl rfl rfl (ezc_inAll0 hS3 hn3 rfl ((hf3 30 (by decide)).trans ((hf 30 (by decide) (by decide) (by decide) (by decide)).trans hT)) t16 ((hf3 44 (by decide)).trans ((hf 44 (by decide) (by decide) (by decide) (by decide)).trans hN)) (by omega)) ?_
    rintro _ _ ⟨rfl, rfl⟩
    rw [d3]
    refine ezw_iadd rfl rfl ?_
    refine ezw_putf_i rfl ((hf3 22 (by decide)).trans hD) rfl rfl rfl ?_
    refine ezw_iinc (1) rfl rfl rfl rfl rfl ?_
    refine ezw_goto rfl rfl ?_
    exact ih _ _ _ _ _ (by omega) (by omega) (fun p h1 h2 h3 h4 => (ezw_un h1).trans ((hf3 p h4).trans (hf p h1 h2 h3 h4))) ezw_ug ⟨rfl, d4, d5⟩ ((ezw_un (by decide)).trans hS3)
theorem ezc_play0 {g0 : Nat → ezq_C} {f fN : Nat → Int} (hT : g0 30 = ezw_obj 9 (ezw_rfT 30) f) (t16 : f 16 = 0) (hN : g0 44 = ezw_ca 11 ezw_first) (hNow : g0 13 = ezw_obj 4 (ezw_rfN 13) fN) (hn : ezw_now0 fN) {fD fS fP : Nat → Int} {a : Int → Int} (hD : g0 22 = ezw_obj 1 ezw_rfD fD) (hS : g0 26 = ezw_obj 4 (ezw_rfN 26) fS) (hP : g0 23 = ezw_obj 6 ezw_rfP fP) (hK : g0 24 = ezw_ca 5760 a) {seed many tries : Int} (hs0 : 0 ≤ seed) (hs1 : seed ≤ 9999) (ht0 : 1 ≤ tries) (ht1 : tries ≤ 6) (hm0 : 1 ≤ many) (hm1 : many ≤ 20) (hd : 4 ≤ d) : ezw_C l ρ B xa Hb D cA 196 d [ezw_p 22, ezw_p 30, ezw_p 13, ezw_i seed, ezw_i many, ezw_i tries] g0 (fun x g' => none = x ∧ (∃ f', g' 22 = ezw_obj 1 ezw_rfD f' ∧ f' 3 = 0 ∧ f' 4 = 0 ∧ f' 5 = 0) ∧ ∀ p, p ≠ 22 → p ≠ 23 → p ≠ 24 → p ≠ 26 → g' p = g0 p) := by
  refine ezw_met (k := 3) rfl ?_
  refine ezw_aload_n rfl rfl ?_
  refine ezw_iload_n rfl rfl ?_
  refine ezw_i2l rfl ⟨by omega, by omega⟩ rfl ?_
  refine ezw_putf_l rfl hD rfl rfl rfl ?_
  refine ezw_aload_n rfl rfl ?_
  refine ezw_iconst (0) rfl rfl ?_
  refine ezw_putf_i rfl ezw_ug rfl rfl rfl ?_
  refine ezw_aload_n rfl rfl ?_
  refine ezw_iconst (0) rfl rfl ?_
  refine ezw_putf_i rfl ezw_ug rfl rfl rfl ?_
  refine ezw_aload_n rfl rfl ?_
  refine ezw_iconst (0) rfl rfl ?_
  refine ezw_putf_i rfl ezw_ug rfl rfl rfl ?_
  refine ezw_aload_n rfl rfl ?_
  refine ezw_getfield rfl ezw_ug rfl rfl rfl ?_
  refine ezw_aload_n rfl rfl ?_
  refine ezw_aload_n rfl rfl ?_
  refine ezw_call0_2 rfl (by omega) ((ezw_un (by decide)).trans ((ezw_un (by decide)).trans ((ezw_un (by decide)).trans ((ezw_un (by decide)).trans hP)))) rfl rfl rfl rfl (ezc_look0 ((ezw_un (by decide)).trans ((ezw_un (by decide)).trans ((ezw_un (by decide)).trans ((ezw_un (by decide)).trans hT)))) ((ezw_un (by decide)).trans ((ezw_un (by decide)).trans ((ezw_un (by decide)).trans ((ezw_un (by decide)).trans hN)))) ((ezw_un (by decide)).trans ((ezw_un (by decide)).trans ((ezw_un (by decide)).trans ((ezw_un (by decide)).trans hNow)))) hn ((ezw_un (by decide)).trans ((ezw_un (by decide)).trans ((ezw_un (by decide)).trans ((ezw_un (by decide)).trans hP)))) ((ezw_un (by decide)).trans ((ezw_un (by decide)).trans ((ezw_un (by decide)).trans ((ezw_un (by decide)).trans hK)))) (by omega)) ?_
  rintro _ g2 ⟨rfl, ⟨fP2, hP2⟩, ⟨a2, hA2⟩, hf2⟩
  refine ezw_iconst (0) rfl rfl ?_
  refine ezw_istore rfl rfl ?_
  exact ezc_playL hT t16 hN hNow hn ht0 ht1 hm0 hm1 hd many.toNat _ _ 0 none none (by omega) (by omega) (fun p h1 h2 h3 h4 => (hf2 p h2 h3).trans (by simp only [ezw_u, if_neg h1])) ((hf2 22 (by decide) (by decide)).trans ezw_ug) ⟨rfl, rfl, rfl⟩ ((hf2 26 (by decide) (by decide)).trans ((ezw_un (by decide)).trans ((ezw_un (by decide)).trans ((ezw_un (by decide)).trans ((ezw_un (by decide)).trans hS)))))
theorem ezc_afternoons {f fN fX fD fS fP : Nat → Int} {ak : Int → Int} (hX : g 0 = ezw_obj 11 ezw_rfX fX) (hT : g 30 = ezw_obj 9 (ezw_rfT 30) f) (t16 : f 16 = 0) (hN : g 44 = ezw_ca 11 ezw_first) (hNow : g 13 = ezw_obj 4 (ezw_rfN 13) fN) (hn : ezw_now0 fN) (hD : g 22 = ezw_obj 1 ezw_rfD fD) (hS : g 26 = ezw_obj 4 (ezw_rfN 26) fS) (hP : g 23 = ezw_obj 6 ezw_rfP fP) (hK : g 24 = ezw_ca 5760 ak) {a b c e : Int} (ha : ezw_in a) (hb : ezw_in b) (hc : ezw_in c) (he : ezw_in e) (hd : 5 ≤ d) : ezw_C l ρ B xa Hb D cA 195 d [ezw_p 0, ezw_i a, ezw_i b, ezw_i c, ezw_i e] g (fun v g' => some (ezw_i (if 0 ≤ a ∧ a ≤ 9999 ∧ 1 ≤ b ∧ b ≤ 20 ∧ 1 ≤ c ∧ c ≤ 6 ∧ 0 ≤ e ∧ e ≤ 2 then 0 else -1)) = v ∧ ∀ p, p ≠ 22 → p ≠ 23 → p ≠ 24 → p ≠ 26 → g' p = g p) := by
  refine ezw_met (k := 0) rfl ?_
  have ha1 := ha.1
  have ha2 := ha.2
  have hb1 := hb.1
  have hb2 := hb.2
  have hc1 := hc.1
  have hc2 := hc.2
  have he1 := he.1
  have he2 := he.2
  refine ezw_iload_n rfl rfl ?_
  refine ezw_if_lt rfl rfl ⟨by omega, by omega⟩ (fun h1 => ?_) (fun h1 => ?_)
  · refine ezw_iconst (-1) rfl rfl ?_
    exact ezw_ireturn rfl rfl ⟨congrArg (fun x => some (ezw_i x)) (if_neg (by omega)), fun _ _ _ _ _ => rfl⟩
  · refine ezw_iload_n rfl rfl ?_
    refine ezw_sipush (9999) rfl rfl ?_
    refine ezw_icmp_gt rfl rfl ⟨by omega, by omega⟩ ⟨by omega, by omega⟩ (fun h8 => ?_) (fun h8 => ?_)
    · refine ezw_iconst (-1) rfl rfl ?_
      exact ezw_ireturn rfl rfl ⟨congrArg (fun x => some (ezw_i x)) (if_neg (by omega)), fun _ _ _ _ _ => rfl⟩
    · refine ezw_iload_n rfl rfl ?_
      refine ezw_iconst (1) rfl rfl ?_
      refine ezw_icmp_lt rfl rfl ⟨by omega, by omega⟩ ⟨by omega, by omega⟩ (fun h13 => ?_) (fun h13 => ?_)
      · refine ezw_iconst (-1) rfl rfl ?_
        exact ezw_ireturn rfl rfl ⟨congrArg (fun x => some (ezw_i x)) (if_neg (by omega)), fun _ _ _ _ _ => rfl⟩
      · refine ezw_iload_n rfl rfl ?_
        refine ezw_bipush (20) rfl rfl ?_
        refine ezw_icmp_gt rfl rfl ⟨by omega, by omega⟩ ⟨by omega, by omega⟩ (fun h19 => ?_) (fun h19 => ?_)
        · refine ezw_iconst (-1) rfl rfl ?_
          exact ezw_ireturn rfl rfl ⟨congrArg (fun x => some (ezw_i x)) (if_neg (by omega)), fun _ _ _ _ _ => rfl⟩
        · refine ezw_iload_n rfl rfl ?_
          refine ezw_iconst (1) rfl rfl ?_
          refine ezw_icmp_lt rfl rfl ⟨by omega, by omega⟩ ⟨by omega, by omega⟩ (fun h24 => ?_) (fun h24 => ?_)
          · refine ezw_iconst (-1) rfl rfl ?_
            exact ezw_ireturn rfl rfl ⟨congrArg (fun x => some (ezw_i x)) (if_neg (by omega)), fun _ _ _ _ _ => rfl⟩
          · refine ezw_iload_n rfl rfl ?_
            refine ezw_bipush (6) rfl rfl ?_
            refine ezw_icmp_le rfl rfl ⟨by omega, by omega⟩ ⟨by omega, by omega⟩ (fun h30 => ?_) (fun h30 => ?_)
            · refine ezw_iload rfl rfl ?_
              refine ezw_if_lt rfl rfl ⟨by omega, by omega⟩ (fun h37 => ?_) (fun h37 => ?_)
              · refine ezw_iconst (-1) rfl rfl ?_
                exact ezw_ireturn rfl rfl ⟨congrArg (fun x => some (ezw_i x)) (if_neg (by omega)), fun _ _ _ _ _ => rfl⟩
              · refine ezw_iload rfl rfl ?_
                refine ezw_iconst (2) rfl rfl ?_
                refine ezw_icmp_le rfl rfl ⟨by omega, by omega⟩ ⟨by omega, by omega⟩ (fun h43 => ?_) (fun h43 => ?_)
                · refine ezw_aload_n rfl rfl ?_
                  refine ezw_getfield rfl hX rfl rfl rfl ?_
                  refine ezw_aload_n rfl rfl ?_
                  refine ezw_getfield rfl hX rfl rfl rfl ?_
                  refine ezw_aload_n rfl rfl ?_
                  refine ezw_getfield rfl hX rfl rfl rfl ?_
                  refine ezw_iload_n rfl rfl ?_
                  refine ezw_iload_n rfl rfl ?_
                  refine ezw_iload_n rfl rfl ?_
                  refine ezw_call0_5 rfl (by omega) hD rfl rfl rfl rfl (ezc_play0 hT t16 hN hNow hn hD hS hP hK (by omega) (by omega) (by omega) (by omega) (by omega) (by omega) (by omega)) ?_
                  rintro _ g2 ⟨rfl, ⟨fD2, hD2, d3, d4, d5⟩, hf2⟩
                  have e3 : e = 0 ∨ e = 1 ∨ e = 2 := by omega
                  rcases e3 with e3 | e3 | e3
                  · obtain rfl : e = 0 := by omega
                    refine ezw_iload rfl rfl ?_
                    refine ezw_lookupswitch (p := 96) rfl (by rfl) ?_
                    refine ezw_aload_n rfl rfl ?_
                    refine ezw_getfield rfl ((hf2 0 (by decide) (by decide) (by decide) (by decide)).trans hX) rfl rfl rfl ?_
                    refine ezw_getfield rfl hD2 rfl rfl rfl ?_
                    exact ezw_ireturn rfl rfl ⟨congrArg (fun x => some (ezw_i x)) ((if_pos (by omega)).trans d3.symm), hf2⟩
                  · obtain rfl : e = 1 := by omega
                    refine ezw_iload rfl rfl ?_
                    refine ezw_lookupswitch (p := 104) rfl (by rfl) ?_
                    refine ezw_aload_n rfl rfl ?_
                    refine ezw_getfield rfl ((hf2 0 (by decide) (by decide) (by decide) (by decide)).trans hX) rfl rfl rfl ?_
                    refine ezw_getfield rfl hD2 rfl rfl rfl ?_
                    exact ezw_ireturn rfl rfl ⟨congrArg (fun x => some (ezw_i x)) ((if_pos (by omega)).trans d4.symm), hf2⟩
                  · obtain rfl : e = 2 := by omega
                    refine ezw_iload rfl rfl ?_
                    refine ezw_lookupswitch (p := 112) rfl (by rfl) ?_
                    refine ezw_aload_n rfl rfl ?_
                    refine ezw_getfield rfl ((hf2 0 (by decide) (by decide) (by decide) (by decide)).trans hX) rfl rfl rfl ?_
                    refine ezw_getfield rfl hD2 rfl rfl rfl ?_
                    exact ezw_ireturn rfl rfl ⟨congrArg (fun x => some (ezw_i x)) ((if_pos (by omega)).trans d5.symm), hf2⟩
                · refine ezw_iconst (-1) rfl rfl ?_
                  exact ezw_ireturn rfl rfl ⟨congrArg (fun x => some (ezw_i x)) (if_neg (by omega)), fun _ _ _ _ _ => rfl⟩
            · refine ezw_iconst (-1) rfl rfl ?_
              exact ezw_ireturn rfl rfl ⟨congrArg (fun x => some (ezw_i x)) (if_neg (by omega)), fun _ _ _ _ _ => rfl⟩
end KM
