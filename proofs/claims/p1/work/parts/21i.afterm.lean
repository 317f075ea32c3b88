/-! ===== afternoons of the reference at the start ===== -/
section KM
variable {l : Launch} {ρ : ezq_E} {B : Nat} {xa : Nat → Option Nat} {Hb : Heap} {D : va_G} {cA : Nat → ClassId} {d : Nat} {g : Nat → ezq_C}

theorem ezw_cp1 {st st0 : Int → Int} {a b i v : Int} (h : ∀ j, 0 ≤ j → j < i → st (b + j) = st0 (a + j)) (hv : v = st0 (a + i)) : ∀ j, 0 ≤ j → j < i + 1 → ezw_au st (b + i) v (b + j) = st0 (a + j) := by
  intro j j0 j1
  show (if b + j = b + i then v else st (b + j)) = _
  by_cases e : j = i
  · rw [if_pos (by omega), e]
    exact hv
  · rw [if_neg (by omega)]
    exact h j j0 (by omega)
theorem ezw_cp2 {st st0 : Int → Int} {b m i v : Int} (h : ∀ p, (p < b ∨ b + m ≤ p) → st p = st0 p) (i0 : 0 ≤ i) (i1 : i < m) : ∀ p, (p < b ∨ b + m ≤ p) → ezw_au st (b + i) v p = st0 p := by
  intro p hp
  show (if p = b + i then v else st p) = _
  rw [if_neg (by omega)]
  exact h p hp
theorem ezc_copiesL {g0 : Nat → ezq_C} {f : Nat → Int} (hM : g0 72 = ezw_obj 12 ezw_rfM f) {st0 : Int → Int} {a b m : Int} (a0 : 0 ≤ a) (a1 : a + m ≤ 1150) (b0 : 0 ≤ b) (b1 : b + m ≤ 1150) (m0 : 0 ≤ m) (hab : a + m ≤ b ∨ b + m ≤ a) (k : Nat) : ∀ {g : Nat → ezq_C} (st : Int → Int) (i : Int) (hf : ∀ p, p ≠ 88 → g p = g0 p) (hS : g 88 = ezw_ca 1150 st) (h1 : ∀ j, 0 ≤ j → j < i → st (b + j) = st0 (a + j)) (h2 : ∀ p, (p < b ∨ b + m ≤ p) → st p = st0 p), 0 ≤ i → i + (k : Int) = m → ezw_E l ρ B xa Hb D cA d ezq_re275 (fun x g' => none = x ∧ (∃ st', g' 88 = ezw_ca 1150 st' ∧ (∀ j, 0 ≤ j → j < m → st' (b + j) = st0 (a + j)) ∧ ∀ p, (p < b ∨ b + m ≤ p) → st' p = st0 p) ∧ ∀ p, p ≠ 88 → g' p = g0 p) 3 [some (ezw_p 72), some (ezw_i a), some (ezw_i b), some (ezw_i m), some (ezw_i i)] [] g := by
  induction k with
  | zero =>
    intro g st i hf hS h1 h2 i0 i1
    refine ezw_iload rfl rfl ?_
    refine ezw_iload_n rfl rfl ?_
    refine ezw_icmp_ge rfl rfl ⟨by omega, by omega⟩ ⟨by omega, by omega⟩ (fun h6 => ?_) (fun h6 => ?_)
    rotate_left
    · exact absurd h6 (by omega)
    exact ezw_return rfl rfl ⟨rfl, ⟨st, hS, fun j j0 j1 => h1 j j0 (by omega), h2⟩, hf⟩
  | succ k ih =>
    intro g st i hf hS h1 h2 i0 i1
    refine ezw_iload rfl rfl ?_
    refine ezw_iload_n rfl rfl ?_
    refine ezw_icmp_ge rfl rfl ⟨by omega, by omega⟩ ⟨by omega, by omega⟩ (fun h6 => ?_) (fun h6 => ?_)
    · exact absurd h6 (by omega)
    refine ezw_aload_n rfl rfl ?_
    refine ezw_getfield rfl ((hf 72 (by decide)).trans hM) rfl rfl rfl ?_
    refine ezw_iload_n rfl rfl ?_
    refine ezw_iload rfl rfl ?_
    refine ezw_iadd rfl rfl ?_
    refine ezw_aload_n rfl rfl ?_
    refine ezw_getfield rfl ((hf 72 (by decide)).trans hM) rfl rfl rfl ?_
    refine ezw_iload_n rfl rfl ?_
    refine ezw_iload rfl rfl ?_
    refine ezw_iadd rfl rfl ?_
    refine ezw_iaload rfl hS rfl (by omega) (by omega) (by omega) rfl ?_
    refine ezw_iastore rfl hS rfl (by omega) (by omega) (by omega) ?_
    refine ezw_iinc (1) rfl rfl rfl rfl rfl ?_
    refine ezw_goto rfl rfl ?_
    exact ih _ _ (fun p hp => (ezw_un hp).trans (hf p hp)) ezw_ug (ezw_cp1 h1 (h2 (a + i) (by omega))) (ezw_cp2 h2 (by omega) (by omega)) (by omega) (by omega)
theorem ezc_copies {f : Nat → Int} (hM : g 72 = ezw_obj 12 ezw_rfM f) {st0 : Int → Int} (hS : g 88 = ezw_ca 1150 st0) {a b m : Int} (a0 : 0 ≤ a) (a1 : a + m ≤ 1150) (b0 : 0 ≤ b) (b1 : b + m ≤ 1150) (m0 : 0 ≤ m) (hab : a + m ≤ b ∨ b + m ≤ a) : ezw_C l ρ B xa Hb D cA 275 d [ezw_p 72, ezw_i a, ezw_i b, ezw_i m] g (fun x g' => none = x ∧ (∃ st', g' 88 = ezw_ca 1150 st' ∧ (∀ j, 0 ≤ j → j < m → st' (b + j) = st0 (a + j)) ∧ ∀ p, (p < b ∨ b + m ≤ p) → st' p = st0 p) ∧ ∀ p, p ≠ 88 → g' p = g p) := by
  refine ezw_met (k := 1) rfl ?_
  refine ezw_iconst (0) rfl rfl ?_
  refine ezw_istore rfl rfl ?_
  exact ezc_copiesL hM a0 a1 b0 b1 m0 hab m.toNat st0 0 (fun _ _ => rfl) hS (fun j j0 j1 => absurd j0 (by omega)) (fun _ _ => rfl) (by omega) (by omega)
theorem ezc_isUp {f : Nat → Int} (hM : g 72 = ezw_obj 12 ezw_rfM f) {st : Int → Int} (hS : g 88 = ezw_ca 1150 st) {b : Int} (hb0 : 0 ≤ b) (hb1 : b ≤ 1100) (hs : ezw_in (st (b + 17))) : ezw_C l ρ B xa Hb D cA 266 d [ezw_p 72, ezw_i b] g (ezw_Q (some (ezw_i (if st (b + 17) = 0 then 1 else 0))) g) := by
  refine ezw_met (k := 0) rfl ?_
  have hs1 := hs.1
  have hs2 := hs.2
  refine ezw_aload_n rfl rfl ?_
  refine ezw_getfield rfl hM rfl rfl rfl ?_
  refine ezw_iload_n rfl rfl ?_
  refine ezw_bipush (17) rfl rfl ?_
  refine ezw_iadd rfl rfl ?_
  refine ezw_iaload rfl hS rfl (by omega) (by omega) (by omega) rfl ?_
  refine ezw_if_ne rfl rfl ⟨by omega, by omega⟩ (fun h9 => ?_) (fun h9 => ?_)
  · refine ezw_iconst (0) rfl rfl ?_
    exact ezw_ireturn rfl (ezw_zret ⟨by omega, by omega⟩) ⟨congrArg (fun x => some (ezw_i x)) (by first | exact if_pos (by omega) | exact if_neg (by omega)), rfl⟩
  · refine ezw_iconst (1) rfl rfl ?_
    refine ezw_goto rfl rfl ?_
    exact ezw_ireturn rfl (ezw_zret ⟨by omega, by omega⟩) ⟨congrArg (fun x => some (ezw_i x)) (by first | exact if_pos (by omega) | exact if_neg (by omega)), rfl⟩
theorem ezc_things {f : Nat → Int} (hM : g 72 = ezw_obj 12 ezw_rfM f) {tr : Int → Int} (hR : g 78 = ezw_ca 200 tr) : ezw_C l ρ B xa Hb D cA 216 d [ezw_p 72] g (ezw_Q (some (ezw_i (tr 1))) g) := by
  refine ezw_met (k := 0) rfl ?_
  refine ezw_aload_n rfl rfl ?_
  refine ezw_getfield rfl hM rfl rfl rfl ?_
  refine ezw_iconst (1) rfl rfl ?_
  refine ezw_iaload rfl hR rfl (by omega) (by omega) (by omega) rfl ?_
  exact ezw_ireturn rfl rfl ⟨rfl, rfl⟩
theorem ezc_worth0 {f : Nat → Int} (hM : g 72 = ezw_obj 12 ezw_rfM f) {st : Int → Int} (hS : g 88 = ezw_ca 1150 st) {tr : Int → Int} (hR : g 78 = ezw_ca 200 tr) (h0 : ezw_tr0 tr) {b : Int} (hb0 : 0 ≤ b) (hb1 : b ≤ 1100) (h17 : st (b + 17) = 1) (h18 : st (b + 18) = 9) (hd : 1 ≤ d) : ezw_C l ρ B xa Hb D cA 293 d [ezw_p 72, ezw_i b] g (ezw_Q (some (ezw_i 0)) g) := by
  refine ezw_met (k := 2) rfl ?_
  obtain ⟨r1, r2, r4, r7, r8, r10, r14⟩ := id h0
  refine ezw_aload_n rfl rfl ?_
  refine ezw_getfield rfl hM rfl rfl rfl ?_
  refine ezw_iload_n rfl rfl ?_
  refine ezw_bipush (17) rfl rfl ?_
  refine ezw_iadd rfl rfl ?_
  refine ezw_iaload rfl hS rfl (by omega) (by omega) (by omega) rfl ?_
  rw [h17]
  refine ezw_iconst (1) rfl rfl ?_
  refine ezw_icmp_ne rfl rfl ⟨by omega, by omega⟩ ⟨by omega, by omega⟩ (fun h10 => ?_) (fun h10 => ?_)
  · exact absurd h10 (by omega)
  refine ezw_aload_n rfl rfl ?_
  refine ezw_getfield rfl hM rfl rfl rfl ?_
  refine ezw_iload_n rfl rfl ?_
  refine ezw_bipush (18) rfl rfl ?_
  refine ezw_iadd rfl rfl ?_
  refine ezw_iaload rfl hS rfl (by omega) (by omega) (by omega) rfl ?_
  rw [h18]
  refine ezw_if_le rfl rfl ⟨by omega, by omega⟩ (fun h22 => ?_) (fun h22 => ?_)
  · exact absurd h22 (by omega)
  refine ezw_aload_n rfl rfl ?_
  refine ezw_getfield rfl hM rfl rfl rfl ?_
  refine ezw_iconst (4) rfl rfl ?_
  refine ezw_iaload rfl hR rfl (by omega) (by omega) (by omega) rfl ?_
  rw [r4]
  refine ezw_goto rfl rfl ?_
  refine ezw_istore_n rfl rfl ?_
  refine ezw_iconst (0) rfl rfl ?_
  refine ezw_istore_n rfl rfl ?_
  refine ezw_iload_n rfl rfl ?_
  refine ezw_aload_n rfl rfl ?_
  refine ezw_call0_0 rfl (by omega) hM rfl rfl rfl rfl (ezc_things hM hR) ?_
  rintro _ _ ⟨rfl, rfl⟩
  rw [r1]
  refine ezw_icmp_ge rfl rfl ⟨by omega, by omega⟩ ⟨by omega, by omega⟩ (fun h43 => ?_) (fun h43 => ?_)
  rotate_left
  · exact absurd h43 (by omega)
  refine ezw_iload_n rfl rfl ?_
  exact ezw_ireturn rfl rfl ⟨rfl, rfl⟩
theorem ezc_afterML {g0 : Nat → ezq_C} {f : Nat → Int} {tr : Int → Int} (hM : g0 72 = ezw_obj 12 ezw_rfM f) (hR : g0 78 = ezw_ca 200 tr) (h0 : ezw_tr0 tr) (f38 : f 38 = 0) {a b c e : Int} (hb0 : 1 ≤ b) (hb1 : b ≤ 20) (hc0 : 1 ≤ c) (hc1 : c ≤ 6) (he0 : 0 ≤ e) (he1 : e ≤ 2) (hd : 2 ≤ d) (k : Nat) : ∀ {g : Nat → ezq_C} (st : Int → Int) (i : Int) (l8 l9 : Option ezq_V), 0 ≤ i → i + (k : Int) = b → (∀ p, p ≠ 88 → g p = g0 p) → g 88 = ezw_ca 1150 st → st 17 = 1 → st 18 = 9 → ezw_E l ρ B xa Hb D cA d ezq_re329 (fun x g' => some (ezw_i 0) = x ∧ ∀ p, p ≠ 88 → g' p = g0 p) 68 [some (ezw_p 72), some (ezw_i a), some (ezw_i b), some (ezw_i c), some (ezw_i e), some (ezw_i 0), some (ezw_i 0), some (ezw_i i), l8, l9] [] g := by
  induction k with
  | zero =>
    intro g st i l8 l9 i0 i1 hf hS s17 s18
    refine ezw_iload rfl rfl ?_
    refine ezw_iload_n rfl rfl ?_
    refine ezw_icmp_ge rfl rfl ⟨by omega, by omega⟩ ⟨by omega, by omega⟩ (fun h71 => ?_) (fun h71 => ?_)
    rotate_left
    · exact absurd h71 (by omega)
    refine ezw_iload rfl rfl ?_
    refine ezw_if_ne rfl rfl ⟨by omega, by omega⟩ (fun h209 => ?_) (fun h209 => ?_)
    · refine ezw_iload rfl rfl ?_
      refine ezw_iconst (1) rfl rfl ?_
      refine ezw_icmp_ne rfl rfl ⟨by omega, by omega⟩ ⟨by omega, by omega⟩ (fun h220 => ?_) (fun h220 => ?_)
      · refine ezw_aload_n rfl rfl ?_
        refine ezw_getfield rfl ((hf 72 (by decide)).trans hM) rfl rfl rfl ?_
        exact ezw_ireturn rfl rfl ⟨by first | rfl | exact congrArg (fun x => some (ezw_i x)) f38.symm, hf⟩
      · refine ezw_iload rfl rfl ?_
        refine ezw_goto rfl rfl ?_
        exact ezw_ireturn rfl rfl ⟨by first | rfl | exact congrArg (fun x => some (ezw_i x)) f38.symm, hf⟩
    · refine ezw_iload rfl rfl ?_
      refine ezw_goto rfl rfl ?_
      exact ezw_ireturn rfl rfl ⟨by first | rfl | exact congrArg (fun x => some (ezw_i x)) f38.symm, hf⟩
  | succ k ih =>
    intro g st i l8 l9 i0 i1 hf hS s17 s18
    refine ezw_iload rfl rfl ?_
    refine ezw_iload_n rfl rfl ?_
    refine ezw_icmp_ge rfl rfl ⟨by omega, by omega⟩ ⟨by omega, by omega⟩ (fun h71 => ?_) (fun h71 => ?_)
    · exact absurd h71 (by omega)
    refine ezw_aload_n rfl rfl ?_
    refine ezw_iconst (0) rfl rfl ?_
    refine ezw_sipush (1100) rfl rfl ?_
    refine ezw_bipush (20) rfl rfl ?_
    refine ezw_call0_3 rfl (by omega) ((hf 72 (by decide)).trans hM) rfl rfl rfl rfl (ezc_copies ((hf 72 (by decide)).trans hM) hS (by omega) (by omega) (by omega) (by omega) (by omega) (by omega)) ?_
    rintro _ g2 ⟨rfl, ⟨st2, hS2, c1, c2⟩, hf2⟩
    have z17 : st2 (1100 + 17) = 1 := by rw [c1 17 (by omega) (by omega)]; exact s17
    have z18 : st2 (1100 + 18) = 9 := by rw [c1 18 (by omega) (by omega)]; exact s18
    have y17 : st2 17 = 1 := by rw [c2 17 (by omega)]; exact s17
    have y18 : st2 18 = 9 := by rw [c2 18 (by omega)]; exact s18
    refine ezw_aload_n rfl rfl ?_
    refine ezw_getfield rfl ((hf2 72 (by decide)).trans ((hf 72 (by decide)).trans hM)) rfl rfl rfl ?_
    refine ezw_bipush (17) rfl rfl ?_
    refine ezw_iaload rfl hS2 rfl (by omega) (by omega) (by omega) rfl ?_
    rw [y17]
    refine ezw_iconst (2) rfl rfl ?_
    refine ezw_icmp_ne rfl rfl ⟨by omega, by omega⟩ ⟨by omega, by omega⟩ (fun h92 => ?_) (fun h92 => ?_)
    rotate_left
    · exact absurd h92 (by omega)
    refine ezw_iconst (0) rfl rfl ?_
    refine ezw_istore rfl rfl ?_
    refine ezw_iload_n rfl rfl ?_
    refine ezw_istore rfl rfl ?_
    refine ezw_iload rfl rfl ?_
    refine ezw_if_le rfl rfl ⟨by omega, by omega⟩ (fun h107 => ?_) (fun h107 => ?_)
    · exact absurd h107 (by omega)
    refine ezw_aload_n rfl rfl ?_
    refine ezw_sipush (1100) rfl rfl ?_
    refine ezw_call0_1 rfl (by omega) ((hf2 72 (by decide)).trans ((hf 72 (by decide)).trans hM)) rfl rfl rfl rfl (ezc_isUp ((hf2 72 (by decide)).trans ((hf 72 (by decide)).trans hM)) hS2 (by omega) (by omega) ⟨by omega, by omega⟩) ?_
    rintro _ _ ⟨rfl, rfl⟩
    rw [show (if st2 (1100 + 17) = 0 then (1 : Int) else 0) = 0 from if_neg (by omega)]
    refine ezw_if_eq rfl rfl ⟨by omega, by omega⟩ (fun h117 => ?_) (fun h117 => ?_)
    rotate_left
    · exact absurd h117 (by omega)
    refine ezw_iload rfl rfl ?_
    refine ezw_aload_n rfl rfl ?_
    refine ezw_sipush (1100) rfl rfl ?_
    refine ezw_call0_1 rfl (by omega) ((hf2 72 (by decide)).trans ((hf 72 (by decide)).trans hM)) rfl rfl rfl rfl (ezc_worth0 ((hf2 72 (by decide)).trans ((hf 72 (by decide)).trans hM)) hS2 ((hf2 78 (by decide)).trans ((hf 78 (by decide)).trans hR)) h0 (by omega) (by omega) z17 z18 (by omega)) ?_
    rintro _ _ ⟨rfl, rfl⟩
    refine ezw_iadd rfl rfl ?_
    refine ezw_istore rfl rfl ?_
    refine ezw_iload rfl rfl ?_
    refine ezw_aload_n rfl rfl ?_
    refine ezw_getfield rfl ((hf2 72 (by decide)).trans ((hf 72 (by decide)).trans hM)) rfl rfl rfl ?_
    refine ezw_sipush (1117) rfl rfl ?_
    refine ezw_iaload rfl hS2 rfl (by omega) (by omega) (by omega) rfl ?_
    rw [show st2 1117 = 1 from z17]
    refine ezw_iconst (2) rfl rfl ?_
    refine ezw_icmp_ne rfl rfl ⟨by omega, by omega⟩ ⟨by omega, by omega⟩ (fun h187 => ?_) (fun h187 => ?_)
    rotate_left
    · exact absurd h187 (by omega)
    refine ezw_iconst (0) rfl rfl ?_
    refine ezw_iload rfl rfl ?_
    refine ezw_isub rfl rfl ?_
    refine ezw_iadd rfl rfl ?_
    refine ezw_istore rfl rfl ?_
    refine ezw_iinc (1) rfl rfl rfl rfl rfl ?_
    refine ezw_goto rfl rfl ?_
    exact ih _ _ _ _ (by omega) (by omega) (fun p hp => (hf2 p hp).trans (hf p hp)) hS2 y17 y18
theorem ezc_afternoonsM {f : Nat → Int} {tr st : Int → Int} (hM : g 72 = ezw_obj 12 ezw_rfM f) (hR : g 78 = ezw_ca 200 tr) (h0 : ezw_tr0 tr) (hS : g 88 = ezw_ca 1150 st) (hst : ezw_st0 st) {a b c e : Int} (ha : ezw_in a) (hb : ezw_in b) (hc : ezw_in c) (he : ezw_in e) (hd : 4 ≤ d) : ezw_C l ρ B xa Hb D cA 329 d [ezw_p 72, ezw_i a, ezw_i b, ezw_i c, ezw_i e] g (fun v g' => some (ezw_i (if 0 ≤ a ∧ a ≤ 9999 ∧ 1 ≤ b ∧ b ≤ 20 ∧ 1 ≤ c ∧ c ≤ 6 ∧ 0 ≤ e ∧ e ≤ 2 then 0 else -1)) = v ∧ ∀ p, p ≠ 88 → p ≠ 72 → g' p = g p) := by
  refine ezw_met (k := 5) rfl ?_
  have ha1 := ha.1
  have ha2 := ha.2
  have hb1 := hb.1
  have hb2 := hb.2
  have hc1 := hc.1
  have hc2 := hc.2
  have he1 := he.1
  have he2 := he.2
  obtain ⟨s15, s16, s17, s18, s19⟩ := id hst
  refine ezw_aload_n rfl rfl ?_
  refine ezw_iconst (0) rfl rfl ?_
  refine ezw_putf_i rfl hM rfl rfl rfl ?_
  refine ezw_iload_n rfl rfl ?_
  refine ezw_iconst (0) rfl rfl ?_
  refine ezw_sipush (9999) rfl rfl ?_
  refine ezw_call2_3 rfl (by omega) rfl rfl (ezc_within ⟨by omega, by omega⟩ ⟨by omega, by omega⟩ ⟨by omega, by omega⟩) ?_
  rintro _ _ ⟨rfl, rfl⟩
  have e5 : (if 0 ≤ a ∧ a ≤ 9999 then (1 : Int) else 0) = 1 ∧ (0 ≤ a ∧ a ≤ 9999) ∨ (if 0 ≤ a ∧ a ≤ 9999 then (1 : Int) else 0) = 0 ∧ ¬ (0 ≤ a ∧ a ≤ 9999) := by
    by_cases hc : 0 ≤ a ∧ a ≤ 9999
    · exact Or.inl ⟨if_pos hc, hc⟩
    · exact Or.inr ⟨if_neg hc, hc⟩
  generalize (if 0 ≤ a ∧ a ≤ 9999 then (1 : Int) else 0) = p5 at e5 ⊢
  refine ezw_if_eq rfl rfl ⟨by omega, by omega⟩ (fun h13 => ?_) (fun h13 => ?_)
  · refine ezw_iconst (-1) rfl rfl ?_
    exact ezw_ireturn rfl rfl ⟨congrArg (fun x => some (ezw_i x)) (if_neg (by omega)), fun p _ hp2 => ezw_un hp2⟩
  · refine ezw_iload_n rfl rfl ?_
    refine ezw_iconst (1) rfl rfl ?_
    refine ezw_bipush (20) rfl rfl ?_
    refine ezw_call2_3 rfl (by omega) rfl rfl (ezc_within ⟨by omega, by omega⟩ ⟨by omega, by omega⟩ ⟨by omega, by omega⟩) ?_
    rintro _ _ ⟨rfl, rfl⟩
    have e6 : (if 1 ≤ b ∧ b ≤ 20 then (1 : Int) else 0) = 1 ∧ (1 ≤ b ∧ b ≤ 20) ∨ (if 1 ≤ b ∧ b ≤ 20 then (1 : Int) else 0) = 0 ∧ ¬ (1 ≤ b ∧ b ≤ 20) := by
      by_cases hc : 1 ≤ b ∧ b ≤ 20
      · exact Or.inl ⟨if_pos hc, hc⟩
      · exact Or.inr ⟨if_neg hc, hc⟩
    generalize (if 1 ≤ b ∧ b ≤ 20 then (1 : Int) else 0) = p6 at e6 ⊢
    refine ezw_if_eq rfl rfl ⟨by omega, by omega⟩ (fun h23 => ?_) (fun h23 => ?_)
    · refine ezw_iconst (-1) rfl rfl ?_
      exact ezw_ireturn rfl rfl ⟨congrArg (fun x => some (ezw_i x)) (if_neg (by omega)), fun p _ hp2 => ezw_un hp2⟩
    · refine ezw_iload_n rfl rfl ?_
      refine ezw_iconst (1) rfl rfl ?_
      refine ezw_bipush (6) rfl rfl ?_
      refine ezw_call2_3 rfl (by omega) rfl rfl (ezc_within ⟨by omega, by omega⟩ ⟨by omega, by omega⟩ ⟨by omega, by omega⟩) ?_
      rintro _ _ ⟨rfl, rfl⟩
      have e7 : (if 1 ≤ c ∧ c ≤ 6 then (1 : Int) else 0) = 1 ∧ (1 ≤ c ∧ c ≤ 6) ∨ (if 1 ≤ c ∧ c ≤ 6 then (1 : Int) else 0) = 0 ∧ ¬ (1 ≤ c ∧ c ≤ 6) := by
        by_cases hc : 1 ≤ c ∧ c ≤ 6
        · exact Or.inl ⟨if_pos hc, hc⟩
        · exact Or.inr ⟨if_neg hc, hc⟩
      generalize (if 1 ≤ c ∧ c ≤ 6 then (1 : Int) else 0) = p7 at e7 ⊢
      refine ezw_if_eq rfl rfl ⟨by omega, by omega⟩ (fun h33 => ?_) (fun h33 => ?_)
      · refine ezw_iconst (-1) rfl rfl ?_
        exact ezw_ireturn rfl rfl ⟨congrArg (fun x => some (ezw_i x)) (if_neg (by omega)), fun p _ hp2 => ezw_un hp2⟩
      · refine ezw_iload rfl rfl ?_
        refine ezw_iconst (0) rfl rfl ?_
        refine ezw_iconst (2) rfl rfl ?_
        refine ezw_call2_3 rfl (by omega) rfl rfl (ezc_within ⟨by omega, by omega⟩ ⟨by omega, by omega⟩ ⟨by omega, by omega⟩) ?_
        rintro _ _ ⟨rfl, rfl⟩
        have e8 : (if 0 ≤ e ∧ e ≤ 2 then (1 : Int) else 0) = 1 ∧ (0 ≤ e ∧ e ≤ 2) ∨ (if 0 ≤ e ∧ e ≤ 2 then (1 : Int) else 0) = 0 ∧ ¬ (0 ≤ e ∧ e ≤ 2) := by
          by_cases hc : 0 ≤ e ∧ e ≤ 2
          · exact Or.inl ⟨if_pos hc, hc⟩
          · exact Or.inr ⟨if_neg hc, hc⟩
        generalize (if 0 ≤ e ∧ e ≤ 2 then (1 : Int) else 0) = p8 at e8 ⊢
        refine ezw_if_ne rfl rfl ⟨by omega, by omega⟩ (fun h43 => ?_) (fun h43 => ?_)
        · refine ezw_aload_n rfl rfl ?_
          refine ezw_iload_n rfl rfl ?_
          refine ezw_i2l rfl ⟨by omega, by omega⟩ rfl ?_
          refine ezw_putf_l rfl ezw_ug rfl rfl rfl ?_
          refine ezw_iconst (0) rfl rfl ?_
          refine ezw_istore rfl rfl ?_
          refine ezw_iconst (0) rfl rfl ?_
          refine ezw_istore rfl rfl ?_
          refine ezw_aload_n rfl rfl ?_
          refine ezw_iconst (0) rfl rfl ?_
          refine ezw_putf_i rfl ezw_ug rfl rfl rfl ?_
          refine ezw_iconst (0) rfl rfl ?_
          refine ezw_istore rfl rfl ?_
          refine ezw_Emono ?_ (ezc_afterML (g0 := _) ezw_ug ((ezw_un (by decide)).trans ((ezw_un (by decide)).trans ((ezw_un (by decide)).trans hR))) h0 rfl (by omega) (by omega) (by omega) (by omega) (by omega) (by omega) (by omega) b.toNat _ 0 none none (by omega) (by omega) (fun _ _ => rfl) ((ezw_un (by decide)).trans ((ezw_un (by decide)).trans ((ezw_un (by decide)).trans hS))) s17 s18)
          rintro v g2 ⟨rfl, hf⟩
          exact ⟨congrArg (fun x => some (ezw_i x)) (if_pos (by omega)), fun p hp hp2 => (hf p hp).trans (by simp only [ezw_u, if_neg hp2])⟩
        · refine ezw_iconst (-1) rfl rfl ?_
          exact ezw_ireturn rfl rfl ⟨congrArg (fun x => some (ezw_i x)) (if_neg (by omega)), fun p _ hp2 => ezw_un hp2⟩
end KM
