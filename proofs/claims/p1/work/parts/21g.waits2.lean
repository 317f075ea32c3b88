/-! ===== waits asked; the reference's waits at the start ===== -/
section KM
variable {l : Launch} {ρ : ezq_E} {B : Nat} {xa : Nat → Option Nat} {Hb : Heap} {D : va_G} {cA : Nat → ClassId} {d : Nat} {g : Nat → ezq_C}

theorem ezc_waits {s h : Int} (hs : ezw_in s) (hh : ezw_in h) {fX f fN : Nat → Int} {c c2 : Int → Int} (hX : g 0 = ezw_obj 11 ezw_rfX fX) (hT : g 30 = ezw_obj 9 (ezw_rfT 30) f) (hN : g 44 = ezw_ca 11 ezw_first) (hNow : g 13 = ezw_obj 4 (ezw_rfN 13) fN) (hn : ezw_now0 fN) (hC : g 14 = ezw_ca 4 c) (hL : g 15 = ezw_ca 4 c2) (hd : 6 ≤ d) : ezw_C l ρ B xa Hb D cA 172 d [ezw_p 0, ezw_i s, ezw_i h] g (fun v g' => some (ezw_i (if 0 ≤ s ∧ s < 4 ∧ 0 ≤ h ∧ h ≤ 48 then if s = 0 then 1000000 else 0 else -1)) = v ∧ ∀ q, q ≠ 14 → q ≠ 15 → g' q = g q) := by
  refine ezw_met (k := 0) rfl ?_
  have hs1 := hs.1
  have hs2 := hs.2
  have hh1 := hh.1
  have hh2 := hh.2
  refine ezw_iload_n rfl rfl ?_
  refine ezw_call2_1 rfl (by omega) rfl rfl (ezc_isSide ⟨by omega, by omega⟩) ?_
  rintro _ _ ⟨rfl, rfl⟩
  have e5 : (if 0 ≤ s ∧ s < 4 then (1 : Int) else 0) = 1 ∧ (0 ≤ s ∧ s < 4) ∨ (if 0 ≤ s ∧ s < 4 then (1 : Int) else 0) = 0 ∧ ¬ (0 ≤ s ∧ s < 4) := by
    by_cases hc : 0 ≤ s ∧ s < 4
    · exact Or.inl ⟨if_pos hc, hc⟩
    · exact Or.inr ⟨if_neg hc, hc⟩
  generalize (if 0 ≤ s ∧ s < 4 then (1 : Int) else 0) = p5 at e5 ⊢
  refine ezw_if_eq rfl rfl ⟨by omega, by omega⟩ (fun h4 => ?_) (fun h4 => ?_)
  · refine ezw_iconst (-1) rfl rfl ?_
    exact ezw_ireturn rfl rfl ⟨congrArg (fun x => some (ezw_i x)) (if_neg (by omega)), fun _ _ _ => rfl⟩
  · refine ezw_iload_n rfl rfl ?_
    refine ezw_if_lt rfl rfl ⟨by omega, by omega⟩ (fun h8 => ?_) (fun h8 => ?_)
    · refine ezw_iconst (-1) rfl rfl ?_
      exact ezw_ireturn rfl rfl ⟨congrArg (fun x => some (ezw_i x)) (if_neg (by omega)), fun _ _ _ => rfl⟩
    · refine ezw_iload_n rfl rfl ?_
      refine ezw_bipush (48) rfl rfl ?_
      refine ezw_icmp_le rfl rfl ⟨by omega, by omega⟩ ⟨by omega, by omega⟩ (fun h14 => ?_) (fun h14 => ?_)
      · refine ezw_aload_n rfl rfl ?_
        refine ezw_getfield rfl hX rfl rfl rfl ?_
        refine ezw_aload_n rfl rfl ?_
        refine ezw_getfield rfl hX rfl rfl rfl ?_
        refine ezw_iload_n rfl rfl ?_
        refine ezw_iload_n rfl rfl ?_
        refine ezw_call0_3 rfl (by omega) hNow rfl rfl rfl rfl (ezc_wind0 hT hN hNow hn (fun _ _ _ => rfl) (by omega) (by omega) (by omega) (by omega) (by omega) hC hL) ?_
        rintro _ g2 ⟨rfl, -, hf⟩
        exact ezw_ireturn rfl rfl ⟨congrArg (fun x => some (ezw_i x)) (if_pos (by omega)), hf⟩
      · refine ezw_iconst (-1) rfl rfl ?_
        exact ezw_ireturn rfl rfl ⟨congrArg (fun x => some (ezw_i x)) (if_neg (by omega)), fun _ _ _ => rfl⟩
/-- the state's row of the start -/
def ezw_st0 (st : Int → Int) : Prop := st 15 = 12 ∧ st 16 = 0 ∧ st 17 = 1 ∧ st 18 = 9 ∧ st 19 = 0
theorem ezc_turns0 {f : Nat → Int} {tr : Int → Int} (hM : g 72 = ezw_obj 12 ezw_rfM f) (hR : g 78 = ezw_ca 200 tr) (h0 : ezw_tr0 tr) {a b : Int} (ha0 : 0 ≤ a) (ha1 : a < 4) (hb0 : 0 ≤ b) (hb1 : b < 4) : ezw_C l ρ B xa Hb D cA 315 d [ezw_p 72, ezw_i a, ezw_i b] g (ezw_Q (some (ezw_i (if a = b then 10 else 0))) g) := by
  refine ezw_met (k := 3) rfl ?_
  obtain ⟨r1, r2, r4, r7, r8, r10, r14⟩ := id h0
  refine ezw_aload_n rfl rfl ?_
  refine ezw_getfield rfl hM rfl rfl rfl ?_
  refine ezw_bipush (7) rfl rfl ?_
  refine ezw_iaload rfl hR rfl (by omega) (by omega) (by omega) rfl ?_
  refine ezw_istore_n rfl rfl ?_
  refine ezw_aload_n rfl rfl ?_
  refine ezw_getfield rfl hM rfl rfl rfl ?_
  refine ezw_bipush (8) rfl rfl ?_
  refine ezw_iaload rfl hR rfl (by omega) (by omega) (by omega) rfl ?_
  refine ezw_istore rfl rfl ?_
  refine ezw_iload_n rfl rfl ?_
  refine ezw_iload_n rfl rfl ?_
  refine ezw_isub rfl rfl ?_
  refine ezw_iconst (4) rfl rfl ?_
  refine ezw_iadd rfl rfl ?_
  refine ezw_iconst (4) rfl rfl ?_
  refine ezw_iremN rfl ⟨by omega, by omega⟩ ⟨by omega, by omega⟩ (by omega) (by omega) rfl ?_
  refine ezw_istore rfl rfl ?_
  refine ezw_iload rfl rfl ?_
  refine ezw_if_ne rfl rfl ⟨by omega, by omega⟩ (fun h28 => ?_) (fun h28 => ?_)
  · refine ezw_iload rfl rfl ?_
    refine ezw_iconst (1) rfl rfl ?_
    refine ezw_icmp_ne rfl rfl ⟨by omega, by omega⟩ ⟨by omega, by omega⟩ (fun h44 => ?_) (fun h44 => ?_)
    · refine ezw_iload rfl rfl ?_
      refine ezw_iconst (3) rfl rfl ?_
      refine ezw_icmp_ne rfl rfl ⟨by omega, by omega⟩ ⟨by omega, by omega⟩ (fun h54 => ?_) (fun h54 => ?_)
      · refine ezw_iconst (0) rfl rfl ?_
        exact ezw_ireturn rfl rfl ⟨congrArg (fun x => some (ezw_i x)) (by first | (rw [if_pos (by omega)]; omega) | (rw [if_neg (by omega)]; omega) | (rw [if_neg (by omega)])), rfl⟩
      · refine ezw_iload rfl rfl ?_
        refine ezw_goto rfl rfl ?_
        exact ezw_ireturn rfl rfl ⟨congrArg (fun x => some (ezw_i x)) (by first | (rw [if_pos (by omega)]; omega) | (rw [if_neg (by omega)]; omega) | (rw [if_neg (by omega)])), rfl⟩
    · refine ezw_iload_n rfl rfl ?_
      refine ezw_goto rfl rfl ?_
      exact ezw_ireturn rfl rfl ⟨congrArg (fun x => some (ezw_i x)) (by first | (rw [if_pos (by omega)]; omega) | (rw [if_neg (by omega)]; omega) | (rw [if_neg (by omega)])), rfl⟩
  · refine ezw_bipush (10) rfl rfl ?_
    refine ezw_iload_n rfl rfl ?_
    refine ezw_isub rfl rfl ?_
    refine ezw_iload rfl rfl ?_
    refine ezw_isub rfl rfl ?_
    refine ezw_goto rfl rfl ?_
    exact ezw_ireturn rfl rfl ⟨congrArg (fun x => some (ezw_i x)) (by first | (rw [if_pos (by omega)]; omega) | (rw [if_neg (by omega)]; omega) | (rw [if_neg (by omega)])), rfl⟩
theorem ezc_behindL {f : Nat → Int} {tr st : Int → Int} (hM : g 72 = ezw_obj 12 ezw_rfM f) (hR : g 78 = ezw_ca 200 tr) (h0 : ezw_tr0 tr) (hS : g 88 = ezw_ca 1150 st) (hst : ezw_st0 st) {h : Int} (hh0 : 0 ≤ h) (hh1 : h ≤ 48) (hd : 1 ≤ d) (k : Nat) : ∀ i : Int, 1 ≤ i → i + (k : Int) = h + 1 → ezw_E l ρ B xa Hb D cA d ezq_re314 (ezw_Q (some (ezw_i (9))) g) 10 [some (ezw_p 72), some (ezw_i h), some (ezw_i 9), some (ezw_i i)] [] g := by
  obtain ⟨r1, r2, r4, r7, r8, r10, r14⟩ := id h0
  obtain ⟨s15, s16, s17, s18, s19⟩ := id hst
  induction k with
  | zero =>
    intro i i0 i1
    refine ezw_iload_n rfl rfl ?_
    refine ezw_iload_n rfl rfl ?_
    refine ezw_icmp_gt rfl rfl ⟨by omega, by omega⟩ ⟨by omega, by omega⟩ (fun h12 => ?_) (fun h12 => ?_)
    rotate_left
    · exact absurd h12 (by omega)
    refine ezw_iload_n rfl rfl ?_
    refine ezw_if_ge rfl rfl ⟨by omega, by omega⟩ (fun h54 => ?_) (fun h54 => ?_)
    rotate_left
    · exact absurd h54 (by omega)
    refine ezw_iload_n rfl rfl ?_
    exact ezw_ireturn rfl rfl ⟨rfl, rfl⟩
  | succ k ih =>
    intro i i0 i1
    refine ezw_iload_n rfl rfl ?_
    refine ezw_iload_n rfl rfl ?_
    refine ezw_icmp_gt rfl rfl ⟨by omega, by omega⟩ ⟨by omega, by omega⟩ (fun h12 => ?_) (fun h12 => ?_)
    · exact absurd h12 (by omega)
    refine ezw_iload_n rfl rfl ?_
    refine ezw_aload_n rfl rfl ?_
    refine ezw_getfield rfl hM rfl rfl rfl ?_
    refine ezw_bipush (15) rfl rfl ?_
    refine ezw_iaload rfl hS rfl (by omega) (by omega) (by omega) rfl ?_
    refine ezw_iload_n rfl rfl ?_
    refine ezw_iadd rfl rfl ?_
    refine ezw_bipush (24) rfl rfl ?_
    refine ezw_iremN rfl ⟨by omega, by omega⟩ ⟨by omega, by omega⟩ (by omega) (by omega) rfl ?_
    refine ezw_call2_1 rfl (by omega) rfl rfl (ezc_isDewy ⟨by omega, by omega⟩) ?_
    rintro _ _ ⟨rfl, rfl⟩
    have e5 : (if 20 ≤ (st 15 + i) % 24 ∨ (st 15 + i) % 24 < 6 then (1 : Int) else 0) = 1 ∧ (20 ≤ (st 15 + i) % 24 ∨ (st 15 + i) % 24 < 6) ∨ (if 20 ≤ (st 15 + i) % 24 ∨ (st 15 + i) % 24 < 6 then (1 : Int) else 0) = 0 ∧ ¬ (20 ≤ (st 15 + i) % 24 ∨ (st 15 + i) % 24 < 6) := by
      by_cases hc : 20 ≤ (st 15 + i) % 24 ∨ (st 15 + i) % 24 < 6
      · exact Or.inl ⟨if_pos hc, hc⟩
      · exact Or.inr ⟨if_neg hc, hc⟩
    generalize (if 20 ≤ (st 15 + i) % 24 ∨ (st 15 + i) % 24 < 6 then (1 : Int) else 0) = p5 at e5 ⊢
    refine ezw_if_eq rfl rfl ⟨by omega, by omega⟩ (fun h31 => ?_) (fun h31 => ?_)
    · refine ezw_iconst (0) rfl rfl ?_
      refine ezw_isub rfl (k := 9) (by omega) ?_
      refine ezw_istore_n rfl rfl ?_
      refine ezw_iinc (1) rfl rfl rfl rfl rfl ?_
      refine ezw_goto rfl rfl ?_
      exact ih _ (by omega) (by omega)
    · refine ezw_aload_n rfl rfl ?_
      refine ezw_getfield rfl hM rfl rfl rfl ?_
      refine ezw_bipush (10) rfl rfl ?_
      refine ezw_iaload rfl hR rfl (by omega) (by omega) (by omega) rfl ?_
      refine ezw_goto rfl rfl ?_
      refine ezw_isub rfl (k := 9) (by omega) ?_
      refine ezw_istore_n rfl rfl ?_
      refine ezw_iinc (1) rfl rfl rfl rfl rfl ?_
      refine ezw_goto rfl rfl ?_
      exact ih _ (by omega) (by omega)
theorem ezc_behind0 {f : Nat → Int} {tr st : Int → Int} (hM : g 72 = ezw_obj 12 ezw_rfM f) (hR : g 78 = ezw_ca 200 tr) (h0 : ezw_tr0 tr) (hS : g 88 = ezw_ca 1150 st) (hst : ezw_st0 st) {h : Int} (hh0 : 0 ≤ h) (hh1 : h ≤ 48) (hd : 1 ≤ d) : ezw_C l ρ B xa Hb D cA 314 d [ezw_p 72, ezw_i h] g (ezw_Q (some (ezw_i (9))) g) := by
  refine ezw_met (k := 2) rfl ?_
  obtain ⟨r1, r2, r4, r7, r8, r10, r14⟩ := id h0
  obtain ⟨s15, s16, s17, s18, s19⟩ := id hst
  refine ezw_aload_n rfl rfl ?_
  refine ezw_getfield rfl hM rfl rfl rfl ?_
  refine ezw_bipush (18) rfl rfl ?_
  refine ezw_iaload rfl hS rfl (by omega) (by omega) (by omega) rfl ?_
  rw [s18]
  refine ezw_istore_n rfl rfl ?_
  refine ezw_iconst (1) rfl rfl ?_
  refine ezw_istore_n rfl rfl ?_
  exact ezc_behindL hM hR h0 hS hst hh0 hh1 hd h.toNat 1 (by omega) (by omega)
/-- the odds as they stand at the head of the loop: a million at 0, if that isn't the side asked -/
def ezw_od (s n : Int) (o : Int) (c : Int → Int) : Prop := ∀ j, 0 ≤ j → j < n → c (o + j) = if j = 0 ∧ s ≠ 0 then 1000000 else 0
theorem ezw_od_b {s n o : Int} {c : Int → Int} (h : ezw_od s n o c) {j : Int} (h0 : 0 ≤ j) (h1 : j < n) : 0 ≤ c (o + j) ∧ c (o + j) ≤ 1000000 := by
  rw [h j h0 h1]
  split <;> omega
theorem ezw_od_up {s n o v : Int} {c : Int → Int} (h : ezw_od s n o c) (hv : v = if n = 0 ∧ s ≠ 0 then 1000000 else 0) : ezw_od s (n + 1) o (ezw_au c (o + n) v) := by
  intro j h0 h1
  show (if o + j = o + n then v else c (o + j)) = _
  by_cases hj : j = n
  · rw [if_pos (by omega), hj]
    exact hv
  · rw [if_neg (by omega)]
    exact h j h0 (by omega)
theorem ezw_od_0 (s o : Int) (c : Int → Int) : ezw_od s 0 o c := fun j h0 h1 => absurd h0 (by omega)
theorem ezw_od_other {s n o p v : Int} {c : Int → Int} (h : ezw_od s n o c) (hp : p < o ∨ o + n ≤ p) : ezw_od s n o (ezw_au c p v) := by
  intro j h0 h1
  show (if o + j = p then v else c (o + j)) = _
  rw [if_neg (by omega)]
  exact h j h0 h1
theorem ezc_waitsS {f : Nat → Int} {tr c : Int → Int} (hM : g 72 = ezw_obj 12 ezw_rfM f) (hR : g 78 = ezw_ca 200 tr) (h0 : ezw_tr0 tr) (hO : g 92 = ezw_ca 8 c) {P : Option ezq_V → (Nat → ezq_C) → Prop} {s h sm k0 b : Int} (hb0 : 0 ≤ b) (hb1 : b < 4) (hc : ∀ j, 0 ≤ j → j < 4 → 0 ≤ c j ∧ c j ≤ 1000000) (hd : 1 ≤ d)
    (hout : ezw_E l ρ B xa Hb D cA d ezq_re313 P 155 [some (ezw_p 72), some (ezw_i s), some (ezw_i h), some (ezw_i sm), some (ezw_i k0), some (ezw_i b), some (ezw_l (10 * c b)), none, some (ezw_i 4)] [] g) (k : Nat) : ∀ i v : Int, 0 ≤ i → i + (k : Int) = 4 → v = (if b < i then 10 * c b else 0) → ezw_E l ρ B xa Hb D cA d ezq_re313 P 120 [some (ezw_p 72), some (ezw_i s), some (ezw_i h), some (ezw_i sm), some (ezw_i k0), some (ezw_i b), some (ezw_l v), none, some (ezw_i i)] [] g := by
  induction k with
  | zero =>
    intro i v i0 i1 hv
    refine ezw_iload rfl rfl ?_
    refine ezw_iconst (4) rfl rfl ?_
    refine ezw_icmp_ge rfl rfl ⟨by omega, by omega⟩ ⟨by omega, by omega⟩ (fun h123 => ?_) (fun h123 => ?_)
    rotate_left
    · exact absurd h123 (by omega)
    obtain rfl : i = 4 := by omega
    rw [if_pos (by omega)] at hv
    subst hv
    exact hout
  | succ k ih =>
    intro i v i0 i1 hv
    have hci := hc i (by omega) (by omega)
    have hcb := hc b hb0 hb1
    have hv01 : 0 ≤ v ∧ v ≤ 10000000 := by
      rw [hv]
      split <;> omega
    by_cases hib : i = b
    · refine ezw_iload rfl rfl ?_
      refine ezw_iconst (4) rfl rfl ?_
      refine ezw_icmp_ge rfl rfl ⟨by omega, by omega⟩ ⟨by omega, by omega⟩ (fun h123 => ?_) (fun h123 => ?_)
      · exact absurd h123 (by omega)
      refine ezw_lload rfl rfl ?_
      refine ezw_aload_n rfl rfl ?_
      refine ezw_getfield rfl hM rfl rfl rfl ?_
      refine ezw_iload rfl rfl ?_
      refine ezw_iaload rfl hO rfl (by omega) (by omega) (by omega) rfl ?_
      refine ezw_i2l rfl ⟨by omega, by omega⟩ rfl ?_
      refine ezw_aload_n rfl rfl ?_
      refine ezw_iload rfl rfl ?_
      refine ezw_iload rfl rfl ?_
      refine ezw_call0_2 rfl (by omega) hM rfl rfl rfl rfl (ezc_turns0 hM hR h0 (by omega) (by omega) (by omega) (by omega)) ?_
      rintro _ _ ⟨rfl, rfl⟩
      rw [if_pos hib]
      refine ezw_i2l rfl ⟨by omega, by omega⟩ rfl ?_
      refine ezw_lmul rfl rfl ?_
      refine ezw_ladd rfl rfl ?_
      refine ezw_lstore rfl rfl ?_
      refine ezw_iinc (1) rfl rfl rfl rfl rfl ?_
      refine ezw_goto rfl rfl ?_
      exact ih _ _ (by omega) (by omega) (by rw [if_pos (by omega)]; rw [if_neg (by omega)] at hv; rw [hv, hib]; omega)
    · refine ezw_iload rfl rfl ?_
      refine ezw_iconst (4) rfl rfl ?_
      refine ezw_icmp_ge rfl rfl ⟨by omega, by omega⟩ ⟨by omega, by omega⟩ (fun h123 => ?_) (fun h123 => ?_)
      · exact absurd h123 (by omega)
      refine ezw_lload rfl rfl ?_
      refine ezw_aload_n rfl rfl ?_
      refine ezw_getfield rfl hM rfl rfl rfl ?_
      refine ezw_iload rfl rfl ?_
      refine ezw_iaload rfl hO rfl (by omega) (by omega) (by omega) rfl ?_
      refine ezw_i2l rfl ⟨by omega, by omega⟩ rfl ?_
      refine ezw_aload_n rfl rfl ?_
      refine ezw_iload rfl rfl ?_
      refine ezw_iload rfl rfl ?_
      refine ezw_call0_2 rfl (by omega) hM rfl rfl rfl rfl (ezc_turns0 hM hR h0 (by omega) (by omega) (by omega) (by omega)) ?_
      rintro _ _ ⟨rfl, rfl⟩
      rw [if_neg hib]
      refine ezw_i2l rfl ⟨by omega, by omega⟩ rfl ?_
      refine ezw_lmul rfl rfl ?_
      refine ezw_ladd rfl rfl ?_
      refine ezw_lstore rfl rfl ?_
      refine ezw_iinc (1) rfl rfl rfl rfl rfl ?_
      refine ezw_goto rfl rfl ?_
      exact ih _ _ (by omega) (by omega) (by rw [hv]; by_cases hbi : b < i <;> first | (rw [if_pos hbi, if_pos (by omega)]; omega) | (rw [if_neg hbi, if_neg (by omega)]; omega))
theorem ezc_waitsB {g0 : Nat → ezq_C} {f : Nat → Int} {tr st : Int → Int} (hM : g0 72 = ezw_obj 12 ezw_rfM f) (hR : g0 78 = ezw_ca 200 tr) (h0 : ezw_tr0 tr) (hS : g0 88 = ezw_ca 1150 st) (hst : ezw_st0 st) {P : Option ezq_V → (Nat → ezq_C) → Prop} {s h sm k0 : Int} (hd : 2 ≤ d) (hout : ∀ {g : Nat → ezq_C} (hf : ∀ q, q ≠ 92 → g q = g0 q) (c : Int → Int) (hO : g 92 = ezw_ca 8 c) (ho : ezw_od s 4 0 c) (ho2 : ezw_od s 4 4 c) (l5 l6 l7 l8 : Option ezq_V), ezw_E l ρ B xa Hb D cA d ezq_re313 P 177 [some (ezw_p 72), some (ezw_i s), some (ezw_i h), some (ezw_i sm), some (ezw_i k0), l5, l6, l7, l8] [] g) (k : Nat) : ∀ {g : Nat → ezq_C} (b : Int) (c : Int → Int) (hf : ∀ q, q ≠ 92 → g q = g0 q) (hO : g 92 = ezw_ca 8 c) (ho : ezw_od s 4 0 c) (ho2 : ezw_od s b 4 c) (l6 l7 l8 : Option ezq_V), 0 ≤ b → b + (k : Int) = 4 → ezw_E l ρ B xa Hb D cA d ezq_re313 P 108 [some (ezw_p 72), some (ezw_i s), some (ezw_i h), some (ezw_i sm), some (ezw_i k0), some (ezw_i b), l6, l7, l8] [] g := by
  induction k with
  | zero =>
    intro g b c hf hO ho ho2 l6 l7 l8 b0 b1
    refine ezw_iload rfl rfl ?_
    refine ezw_iconst (4) rfl rfl ?_
    refine ezw_icmp_ge rfl rfl ⟨by omega, by omega⟩ ⟨by omega, by omega⟩ (fun h111 => ?_) (fun h111 => ?_)
    rotate_left
    · exact absurd h111 (by omega)
    obtain rfl : b = 4 := by omega
    exact hout hf c hO ho ho2 _ _ _ _
  | succ k ih =>
    intro g b c hf hO ho ho2 l6 l7 l8 b0 b1
    refine ezw_iload rfl rfl ?_
    refine ezw_iconst (4) rfl rfl ?_
    refine ezw_icmp_ge rfl rfl ⟨by omega, by omega⟩ ⟨by omega, by omega⟩ (fun h111 => ?_) (fun h111 => ?_)
    · exact absurd h111 (by omega)
    have hcb : ∀ j, 0 ≤ j → j < 4 → 0 ≤ c j ∧ c j ≤ 1000000 := fun j j0 j1 => by have := ezw_od_b ho j0 j1; rw [Int.zero_add] at this; exact this
    have hcb2 := hcb b (by omega) (by omega)
    refine ezw_lconst (0) rfl rfl ?_
    refine ezw_lstore rfl rfl ?_
    refine ezw_iconst (0) rfl rfl ?_
    refine ezw_istore rfl rfl ?_
    refine ezc_waitsS ((hf 72 (by decide)).trans hM) ((hf 78 (by decide)).trans hR) h0 hO (by omega) (by omega) hcb (by omega) ?_ 4 0 0 (by omega) (by omega) (by rw [if_neg (by omega)])
    refine ezw_aload_n rfl rfl ?_
    refine ezw_getfield rfl ((hf 72 (by decide)).trans hM) rfl rfl rfl ?_
    refine ezw_iconst (4) rfl rfl ?_
    refine ezw_iload rfl rfl ?_
    refine ezw_iadd rfl rfl ?_
    refine ezw_lload rfl rfl ?_
    refine ezw_ldc2_w (10) rfl rfl ?_
    refine ezw_ldivN rfl ⟨by omega, by omega⟩ ⟨by omega, by omega⟩ (by omega) (by omega) rfl ?_
    refine ezw_l2i rfl rfl ?_
    refine ezw_iastore rfl hO rfl (by omega) (by omega) (by omega) ?_
    refine ezw_iinc (1) rfl rfl rfl rfl rfl ?_
    refine ezw_goto rfl rfl ?_
    exact ih _ _ (fun q h1 => (ezw_un h1).trans (hf q h1)) ezw_ug (ezw_od_other ho (by omega)) (ezw_od_up ho2 (by have := ho b (by omega) (by omega); rw [Int.zero_add] at this; rw [← this]; omega)) _ _ _ (by omega) (by omega)
theorem ezc_waitsC {g0 : Nat → ezq_C} {f : Nat → Int} {tr st : Int → Int} (hM : g0 72 = ezw_obj 12 ezw_rfM f) (hR : g0 78 = ezw_ca 200 tr) (h0 : ezw_tr0 tr) (hS : g0 88 = ezw_ca 1150 st) (hst : ezw_st0 st) {P : Option ezq_V → (Nat → ezq_C) → Prop} {s h sm k0 : Int} {l6 l7 l8 : Option ezq_V} (hout : ∀ {g : Nat → ezq_C} (hf : ∀ q, q ≠ 92 → g q = g0 q) (c : Int → Int) (hO : g 92 = ezw_ca 8 c) (ho : ezw_od s 4 0 c) (l5 l6 l7 l8 : Option ezq_V), ezw_E l ρ B xa Hb D cA d ezq_re313 P 208 [some (ezw_p 72), some (ezw_i s), some (ezw_i h), some (ezw_i sm), some (ezw_i k0), l5, l6, l7, l8] [] g) (k : Nat) : ∀ {g : Nat → ezq_C} (b : Int) (c : Int → Int) (hf : ∀ q, q ≠ 92 → g q = g0 q) (hO : g 92 = ezw_ca 8 c) (ho2 : ezw_od s 4 4 c) (ho : ezw_od s b 0 c), 0 ≤ b → b + (k : Int) = 4 → ezw_E l ρ B xa Hb D cA d ezq_re313 P 180 [some (ezw_p 72), some (ezw_i s), some (ezw_i h), some (ezw_i sm), some (ezw_i k0), some (ezw_i b), l6, l7, l8] [] g := by
  induction k with
  | zero =>
    intro g b c hf hO ho2 ho b0 b1
    refine ezw_iload rfl rfl ?_
    refine ezw_iconst (4) rfl rfl ?_
    refine ezw_icmp_ge rfl rfl ⟨by omega, by omega⟩ ⟨by omega, by omega⟩ (fun h183 => ?_) (fun h183 => ?_)
    rotate_left
    · exact absurd h183 (by omega)
    exact hout hf c hO (by rw [show (4 : Int) = b by omega]; exact ho) _ _ _ _
  | succ k ih =>
    intro g b c hf hO ho2 ho b0 b1
    refine ezw_iload rfl rfl ?_
    refine ezw_iconst (4) rfl rfl ?_
    refine ezw_icmp_ge rfl rfl ⟨by omega, by omega⟩ ⟨by omega, by omega⟩ (fun h183 => ?_) (fun h183 => ?_)
    · exact absurd h183 (by omega)
    refine ezw_aload_n rfl rfl ?_
    refine ezw_getfield rfl ((hf 72 (by decide)).trans hM) rfl rfl rfl ?_
    refine ezw_iload rfl rfl ?_
    refine ezw_aload_n rfl rfl ?_
    refine ezw_getfield rfl ((hf 72 (by decide)).trans hM) rfl rfl rfl ?_
    refine ezw_iconst (4) rfl rfl ?_
    refine ezw_iload rfl rfl ?_
    refine ezw_iadd rfl rfl ?_
    refine ezw_iaload rfl hO rfl (by omega) (by omega) (by omega) rfl ?_
    refine ezw_iastore rfl hO rfl (by omega) (by omega) (by omega) ?_
    refine ezw_iinc (1) rfl rfl rfl rfl rfl ?_
    refine ezw_goto rfl rfl ?_
    exact ih _ _ (fun q h1 => (ezw_un h1).trans (hf q h1)) ezw_ug (ezw_od_other ho2 (by omega)) (by have := ezw_od_up ho (v := c (4 + b)) (ho2 b (by omega) (by omega)); rw [Int.zero_add] at this; exact this) (by omega) (by omega)
theorem ezw_od_cl {s : Int} {c : Int → Int} (h : ezw_od s 4 0 c) : ezw_od s 4 0 (ezw_au c s 0) := by
  intro j j0 j1
  have h1 := h j j0 j1
  rw [Int.zero_add] at h1 ⊢
  show (if j = s then 0 else c j) = _
  by_cases e : j = s
  · rw [if_pos e, if_neg (by omega)]
  · rw [if_neg e]
    exact h1
theorem ezc_waitsH {g0 : Nat → ezq_C} {f : Nat → Int} {tr st : Int → Int} (hM : g0 72 = ezw_obj 12 ezw_rfM f) (hR : g0 78 = ezw_ca 200 tr) (h0 : ezw_tr0 tr) (hS : g0 88 = ezw_ca 1150 st) (hst : ezw_st0 st) {s h : Int} (hs0 : 0 ≤ s) (hs1 : s < 4) (hh0 : 0 ≤ h) (hh1 : h ≤ 48) (hd : 2 ≤ d) (k : Nat) : ∀ {g : Nat → ezq_C} (k0 sm : Int) (c : Int → Int) (hf : ∀ q, q ≠ 92 → g q = g0 q) (hO : g 92 = ezw_ca 8 c) (ho : ezw_od s 4 0 c) (hsm : sm = (if s = 0 then (1000000 : Int) else 0)) (l5 l6 l7 l8 : Option ezq_V), 1 ≤ k0 → k0 + (k : Int) = h + 1 → ezw_E l ρ B xa Hb D cA d ezq_re313 (fun v g' => some (ezw_i (if s = 0 then 1000000 else 0)) = v ∧ (∃ c, g' 92 = ezw_ca 8 c) ∧ ∀ q, q ≠ 92 → g' q = g0 q) 90 [some (ezw_p 72), some (ezw_i s), some (ezw_i h), some (ezw_i sm), some (ezw_i k0), l5, l6, l7, l8] [] g := by
  induction k with
  | zero =>
    intro g k0 sm c hf hO ho hsm l5 l6 l7 l8 k1 k2
    refine ezw_iload rfl rfl ?_
    refine ezw_iload_n rfl rfl ?_
    refine ezw_icmp_gt rfl rfl ⟨by omega, by omega⟩ ⟨by omega, by omega⟩ (fun h93 => ?_) (fun h93 => ?_)
    rotate_left
    · exact absurd h93 (by omega)
    refine ezw_iload_n rfl rfl ?_
    exact ezw_ireturn rfl rfl ⟨by rw [hsm], ⟨c, hO⟩, hf⟩
  | succ k ih =>
    intro g k0 sm c hf hO ho hsm l5 l6 l7 l8 k1 k2
    refine ezw_iload rfl rfl ?_
    refine ezw_iload_n rfl rfl ?_
    refine ezw_icmp_gt rfl rfl ⟨by omega, by omega⟩ ⟨by omega, by omega⟩ (fun h93 => ?_) (fun h93 => ?_)
    · exact absurd h93 (by omega)
    refine ezw_aload_n rfl rfl ?_
    refine ezw_iload rfl rfl ?_
    refine ezw_call0_1 rfl (by omega) ((hf 72 (by decide)).trans hM) rfl rfl rfl rfl (ezc_behind0 ((hf 72 (by decide)).trans hM) ((hf 78 (by decide)).trans hR) h0 ((hf 88 (by decide)).trans hS) hst (by omega) (by omega) (by omega)) ?_
    rintro _ _ ⟨rfl, rfl⟩
    refine ezw_if_le rfl rfl ⟨by omega, by omega⟩ (fun h102 => ?_) (fun h102 => ?_)
    · exact absurd h102 (by omega)
    refine ezw_iconst (0) rfl rfl ?_
    refine ezw_istore rfl rfl ?_
    refine ezc_waitsB hM hR h0 hS hst (by omega) ?_ 4 0 c hf hO ho (ezw_od_0 s 4 c) l6 l7 l8 (by omega) (by omega)
    clear hf hO ho
    intro g hf c hO ho ho2 l5 l6 l7 l8
    refine ezw_iconst (0) rfl rfl ?_
    refine ezw_istore rfl rfl ?_
    refine ezc_waitsC hM hR h0 hS hst ?_ 4 0 c hf hO ho2 (ezw_od_0 s 0 c) (by omega) (by omega)
    clear hf hO ho ho2
    intro g hf c hO ho l5 l6 l7 l8
    have hs4 := ezw_od_b ho (j := s) (by omega) (by omega)
    refine ezw_iload_n rfl rfl ?_
    refine ezw_aload_n rfl rfl ?_
    refine ezw_getfield rfl ((hf 72 (by decide)).trans hM) rfl rfl rfl ?_
    refine ezw_iload_n rfl rfl ?_
    refine ezw_iaload rfl hO rfl (by omega) (by omega) (by omega) rfl ?_
    refine ezw_iadd rfl rfl ?_
    refine ezw_istore_n rfl rfl ?_
    refine ezw_aload_n rfl rfl ?_
    refine ezw_getfield rfl ((hf 72 (by decide)).trans hM) rfl rfl rfl ?_
    refine ezw_iload_n rfl rfl ?_
    refine ezw_iconst (0) rfl rfl ?_
    refine ezw_iastore rfl hO rfl (by omega) (by omega) (by omega) ?_
    refine ezw_iinc (1) rfl rfl rfl rfl rfl ?_
    refine ezw_goto rfl rfl ?_
    exact ih _ _ _ (fun q h1 => (ezw_un h1).trans (hf q h1)) ezw_ug (ezw_od_cl ho) (by have h1 := ho s (by omega) (by omega); rw [Int.zero_add, if_neg (by omega)] at h1; rw [hsm, h1]; omega) _ _ _ _ (by omega) (by omega)
theorem ezw_od_first {s : Int} {c : Int → Int} (h : ezw_mil 0 4 c) (hs0 : 0 ≤ s) (hs1 : s < 4) : ezw_od s 4 0 (ezw_au c s 0) := by
  intro j j0 j1
  rw [Int.zero_add]
  show (if j = s then 0 else c j) = _
  by_cases e : j = s
  · rw [if_pos e, if_neg (by omega)]
  · rw [if_neg e, h j j0 j1]
    by_cases e2 : j = 0
    · rw [if_pos e2, if_pos ⟨e2, by omega⟩]
    · rw [if_neg e2, if_neg (fun z => e2 z.1)]
theorem ezc_waitsI {g0 : Nat → ezq_C} {f : Nat → Int} {tr st : Int → Int} (hM : g0 72 = ezw_obj 12 ezw_rfM f) (hR : g0 78 = ezw_ca 200 tr) (h0 : ezw_tr0 tr) (hS : g0 88 = ezw_ca 1150 st) (hst : ezw_st0 st) {s h : Int} (hs0 : 0 ≤ s) (hs1 : s < 4) (hh0 : 0 ≤ h) (hh1 : h ≤ 48) (hd : 2 ≤ d) (k : Nat) : ∀ {g : Nat → ezq_C} (i : Int) (c : Int → Int) (hf : ∀ q, q ≠ 92 → g q = g0 q) (hO : g 92 = ezw_ca 8 c) (hc : ezw_mil 0 i c), 0 ≤ i → i + (k : Int) = 4 → ezw_E l ρ B xa Hb D cA d ezq_re313 (fun v g' => some (ezw_i (if s = 0 then 1000000 else 0)) = v ∧ (∃ c, g' 92 = ezw_ca 8 c) ∧ ∀ q, q ≠ 92 → g' q = g0 q) 38 [some (ezw_p 72), some (ezw_i s), some (ezw_i h), some (ezw_i i), none, none, none, none, none] [] g := by
  obtain ⟨s15, s16, s17, s18, s19⟩ := id hst
  induction k with
  | zero =>
    intro g i c hf hO hc i0 i1
    refine ezw_iload_n rfl rfl ?_
    refine ezw_iconst (4) rfl rfl ?_
    refine ezw_icmp_ge rfl rfl ⟨by omega, by omega⟩ ⟨by omega, by omega⟩ (fun h40 => ?_) (fun h40 => ?_)
    rotate_left
    · exact absurd h40 (by omega)
    obtain rfl : i = 4 := by omega
    refine ezw_aload_n rfl rfl ?_
    refine ezw_getfield rfl ((hf 72 (by decide)).trans hM) rfl rfl rfl ?_
    refine ezw_iload_n rfl rfl ?_
    refine ezw_iaload rfl hO rfl (by omega) (by omega) (by omega) rfl ?_
    refine ezw_istore_n rfl rfl ?_
    refine ezw_aload_n rfl rfl ?_
    refine ezw_getfield rfl ((hf 72 (by decide)).trans hM) rfl rfl rfl ?_
    refine ezw_iload_n rfl rfl ?_
    refine ezw_iconst (0) rfl rfl ?_
    refine ezw_iastore rfl hO rfl (by omega) (by omega) (by omega) ?_
    refine ezw_iconst (1) rfl rfl ?_
    refine ezw_istore rfl rfl ?_
    exact ezc_waitsH hM hR h0 hS hst hs0 hs1 hh0 hh1 hd h.toNat 1 _ _ (fun q h1 => (ezw_un h1).trans (hf q h1)) ezw_ug (ezw_od_first hc hs0 hs1) (by rw [hc s hs0 hs1]) _ _ _ _ (by omega) (by omega)
  | succ k ih =>
    intro g i c hf hO hc i0 i1
    refine ezw_iload_n rfl rfl ?_
    refine ezw_iconst (4) rfl rfl ?_
    refine ezw_icmp_ge rfl rfl ⟨by omega, by omega⟩ ⟨by omega, by omega⟩ (fun h40 => ?_) (fun h40 => ?_)
    · exact absurd h40 (by omega)
    refine ezw_aload_n rfl rfl ?_
    refine ezw_getfield rfl ((hf 72 (by decide)).trans hM) rfl rfl rfl ?_
    refine ezw_iload_n rfl rfl ?_
    refine ezw_iload_n rfl rfl ?_
    refine ezw_aload_n rfl rfl ?_
    refine ezw_getfield rfl ((hf 72 (by decide)).trans hM) rfl rfl rfl ?_
    refine ezw_bipush (16) rfl rfl ?_
    refine ezw_iaload rfl ((hf 88 (by decide)).trans hS) rfl (by omega) (by omega) (by omega) rfl ?_
    rw [s16]
    refine ezw_icmp_ne rfl rfl ⟨by omega, by omega⟩ ⟨by omega, by omega⟩ (fun h56 => ?_) (fun h56 => ?_)
    · refine ezw_iconst (0) rfl rfl ?_
      refine ezw_iastore rfl hO rfl (by omega) (by omega) (by omega) ?_
      refine ezw_iinc (1) rfl rfl rfl rfl rfl ?_
      refine ezw_goto rfl rfl ?_
      exact ih _ _ (fun q h1 => (ezw_un h1).trans (hf q h1)) ezw_ug (ezw_mil_up hc (by first | exact ezw_mp (by omega) (by omega) | exact ezw_mn (by omega) (by omega))) (by omega) (by omega)
    · refine ezw_ldc_w (1000000) rfl rfl ?_
      refine ezw_goto rfl rfl ?_
      refine ezw_iastore rfl hO rfl (by omega) (by omega) (by omega) ?_
      refine ezw_iinc (1) rfl rfl rfl rfl rfl ?_
      refine ezw_goto rfl rfl ?_
      exact ih _ _ (fun q h1 => (ezw_un h1).trans (hf q h1)) ezw_ug (ezw_mil_up hc (by first | exact ezw_mp (by omega) (by omega) | exact ezw_mn (by omega) (by omega))) (by omega) (by omega)
theorem ezc_waitsM {f : Nat → Int} {tr st : Int → Int} (hM : g 72 = ezw_obj 12 ezw_rfM f) (hR : g 78 = ezw_ca 200 tr) (h0 : ezw_tr0 tr) (hS : g 88 = ezw_ca 1150 st) (hst : ezw_st0 st) {c : Int → Int} (hO : g 92 = ezw_ca 8 c) {s h : Int} (hs : ezw_in s) (hh : ezw_in h) (hd : 4 ≤ d) : ezw_C l ρ B xa Hb D cA 313 d [ezw_p 72, ezw_i s, ezw_i h] g (fun v g' => some (ezw_i (if 0 ≤ s ∧ s < 4 ∧ 0 ≤ h ∧ h ≤ 48 then if s = 0 then 1000000 else 0 else -1)) = v ∧ ∀ q, q ≠ 92 → q ≠ 72 → g' q = g q) := by
  refine ezw_met (k := 6) rfl ?_
  have hsi1 := hs.1
  have hsi2 := hs.2
  have hhi1 := hh.1
  have hhi2 := hh.2
  obtain ⟨s15, s16, s17, s18, s19⟩ := id hst
  refine ezw_aload_n rfl rfl ?_
  refine ezw_iconst (0) rfl rfl ?_
  refine ezw_putf_i rfl hM rfl rfl rfl ?_
  refine ezw_iload_n rfl rfl ?_
  refine ezw_call2_1 rfl (by omega) rfl rfl (ezc_isSideM ⟨by omega, by omega⟩) ?_
  rintro _ _ ⟨rfl, rfl⟩
  have e5 : (if 0 ≤ s ∧ s < 4 then (1 : Int) else 0) = 1 ∧ (0 ≤ s ∧ s < 4) ∨ (if 0 ≤ s ∧ s < 4 then (1 : Int) else 0) = 0 ∧ ¬ (0 ≤ s ∧ s < 4) := by
    by_cases hc : 0 ≤ s ∧ s < 4
    · exact Or.inl ⟨if_pos hc, hc⟩
    · exact Or.inr ⟨if_neg hc, hc⟩
  generalize (if 0 ≤ s ∧ s < 4 then (1 : Int) else 0) = p5 at e5 ⊢
  refine ezw_if_eq rfl rfl ⟨by omega, by omega⟩ (fun h9 => ?_) (fun h9 => ?_)
  · refine ezw_iconst (-1) rfl rfl ?_
    exact ezw_ireturn rfl rfl ⟨congrArg (fun x => some (ezw_i x)) (if_neg (by omega)), fun q _ hq => ezw_un hq⟩
  · refine ezw_iload_n rfl rfl ?_
    refine ezw_iconst (0) rfl rfl ?_
    refine ezw_bipush (48) rfl rfl ?_
    refine ezw_call2_3 rfl (by omega) rfl rfl (ezc_within ⟨by omega, by omega⟩ ⟨by omega, by omega⟩ ⟨by omega, by omega⟩) ?_
    rintro _ _ ⟨rfl, rfl⟩
    have e6 : (if 0 ≤ h ∧ h ≤ 48 then (1 : Int) else 0) = 1 ∧ (0 ≤ h ∧ h ≤ 48) ∨ (if 0 ≤ h ∧ h ≤ 48 then (1 : Int) else 0) = 0 ∧ ¬ (0 ≤ h ∧ h ≤ 48) := by
      by_cases hc : 0 ≤ h ∧ h ≤ 48
      · exact Or.inl ⟨if_pos hc, hc⟩
      · exact Or.inr ⟨if_neg hc, hc⟩
    generalize (if 0 ≤ h ∧ h ≤ 48 then (1 : Int) else 0) = p6 at e6 ⊢
    refine ezw_if_ne rfl rfl ⟨by omega, by omega⟩ (fun h19 => ?_) (fun h19 => ?_)
    · refine ezw_aload_n rfl rfl ?_
      refine ezw_getfield rfl ezw_ug rfl rfl rfl ?_
      refine ezw_bipush (18) rfl rfl ?_
      refine ezw_iaload rfl ((ezw_un (by decide)).trans hS) rfl (by omega) (by omega) (by omega) rfl ?_
      rw [s18]
      refine ezw_if_ne rfl rfl ⟨by omega, by omega⟩ (fun h31 => ?_) (fun h31 => ?_)
      rotate_left
      · exact absurd h31 (by omega)
      refine ezw_iconst (0) rfl rfl ?_
      refine ezw_istore_n rfl rfl ?_
      refine ezw_Emono ?_ (ezc_waitsI (g0 := ezw_u g 72 (ezw_obj 12 ezw_rfM (ezw_fu f 0 0))) ezw_ug ((ezw_un (by decide)).trans hR) h0 ((ezw_un (by decide)).trans hS) hst (by omega) (by omega) (by omega) (by omega) (by omega) 4 0 c (fun _ _ => rfl) ((ezw_un (by decide)).trans hO) (ezw_mil_0 0 c) (by omega) (by omega))
      rintro v g2 ⟨rfl, -, hf⟩
      exact ⟨congrArg (fun x => some (ezw_i x)) (if_pos (by omega)), fun q hq hq2 => (hf q hq).trans (ezw_un hq2)⟩
    · refine ezw_iconst (-1) rfl rfl ?_
      exact ezw_ireturn rfl rfl ⟨congrArg (fun x => some (ezw_i x)) (if_neg (by omega)), fun q _ hq => ezw_un hq⟩
end KM
