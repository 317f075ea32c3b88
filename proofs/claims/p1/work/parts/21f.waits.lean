/-! ===== waits, as it stands at the start ===== -/
section KM
variable {l : Launch} {ρ : ezq_E} {B : Nat} {xa : Nat → Option Nat} {Hb : Heap} {D : va_G} {cA : Nat → ClassId} {d : Nat} {g : Nat → ezq_C}

/-- the class's now as the constructors lay it -/
def ezw_rfN (q : Nat) : Nat → Nat := fun k => q + k - 6
def ezw_now0 (f : Nat → Int) : Prop := f 0 = 0 ∧ f 1 = 0 ∧ f 2 = 12 ∧ f 3 = 0 ∧ f 4 = 1 ∧ f 5 = 9 ∧ f 6 = 0
/-- a million at s, else nothing -/
def ezw_mil (s n : Int) (c : Int → Int) : Prop := ∀ j, 0 ≤ j → j < n → c j = if j = s then 1000000 else 0
theorem ezw_mil_b {s : Int} {c : Int → Int} (h : ezw_mil s 4 c) (p : Int) : 0 ≤ ezw_gt 4 c p ∧ ezw_gt 4 c p ≤ 1000000 := by
  by_cases hp : 0 ≤ p ∧ p < ((4 : Nat) : Int)
  · rw [ezw_gtI hp.1 hp.2, h p hp.1 hp.2]
    split <;> omega
  · rw [ezw_gtO (by omega)]
    omega
theorem ezw_mil_v {s : Int} {c : Int → Int} (h : ezw_mil s 4 c) {p : Int} (h0 : 0 ≤ p) (h1 : p < 4) : ezw_gt 4 c p = if p = s then 1000000 else 0 := by
  rw [ezw_gtI h0 h1, h p h0 h1]
theorem ezw_mil_up {s n v : Int} {c : Int → Int} (h : ezw_mil s n c) (hv : v = if n = s then 1000000 else 0) : ezw_mil s (n + 1) (ezw_au c n v) := by
  intro j h0 h1
  show (if j = n then v else c j) = _
  by_cases hj : j = n
  · rw [if_pos hj, hj]
    exact hv
  · rw [if_neg hj]
    exact h j h0 (by omega)
theorem ezw_mp {i s v : Int} (h : i = s) (hv : v = 1000000) : v = if i = s then 1000000 else 0 := by rw [if_pos h, hv]
theorem ezw_mn {i s v : Int} (h : i ≠ s) (hv : v = 0) : v = if i = s then 1000000 else 0 := by rw [if_neg h, hv]
theorem ezw_mil_0 (s : Int) (c : Int → Int) : ezw_mil s 0 c := fun j h0 h1 => absurd h0 (by omega)
theorem ezc_pbd0 {f : Nat → Int} (hT : g 30 = ezw_obj 9 (ezw_rfT 30) f) (hN : g 44 = ezw_ca 11 ezw_first) {h p : Int} (hh0 : 0 ≤ h) (hh1 : h < 24) (hp0 : 0 ≤ p) (hp1 : p < 100) (hd : 2 ≤ d) : ezw_C l ρ B xa Hb D cA 129 d [ezw_p 30, ezw_i h, ezw_i p] g (ezw_Q (some (ezw_i (p))) g) := by
  refine ezw_met (k := 1) rfl ?_
  refine ezw_iload_n rfl rfl ?_
  refine ezw_bipush (20) rfl rfl ?_
  refine ezw_icmp_ge rfl rfl ⟨by omega, by omega⟩ ⟨by omega, by omega⟩ (fun h3 => ?_) (fun h3 => ?_)
  · refine ezw_iconst (1) rfl rfl ?_
    refine ezw_goto rfl rfl ?_
    refine ezw_istore_n rfl rfl ?_
    refine ezw_iload_n rfl rfl ?_
    refine ezw_if_eq rfl rfl ⟨by omega, by omega⟩ (fun h19 => ?_) (fun h19 => ?_)
    · refine ezw_iload_n rfl rfl ?_
      exact ezw_ireturn rfl rfl ⟨congrArg (fun x => some (ezw_i x)) (by omega), rfl⟩
    · refine ezw_iconst (0) rfl rfl ?_
      refine ezw_iload_n rfl rfl ?_
      refine ezw_aload_n rfl rfl ?_
      refine ezw_bipush (6) rfl rfl ?_
      refine ezw_call0_1 rfl (by omega) hT rfl rfl rfl rfl (ezc_number (q := 30) hT hN (by omega) ⟨by omega, by omega⟩ (by omega)) ?_
      rintro _ _ ⟨rfl, rfl⟩
      rw [show ezw_gt 11 ezw_first 6 = 0 from rfl]
      refine ezw_isub rfl rfl ?_
      refine ezw_mmaxE rfl ⟨by omega, by omega⟩ ⟨by omega, by omega⟩ rfl (fun u31 f31 => ?_)
      refine ezw_goto rfl rfl ?_
      exact ezw_ireturn rfl rfl ⟨congrArg (fun x => some (ezw_i x)) (by omega), rfl⟩
  · refine ezw_iload_n rfl rfl ?_
    refine ezw_bipush (6) rfl rfl ?_
    refine ezw_icmp_ge rfl rfl ⟨by omega, by omega⟩ ⟨by omega, by omega⟩ (fun h9 => ?_) (fun h9 => ?_)
    · refine ezw_iconst (0) rfl rfl ?_
      refine ezw_istore_n rfl rfl ?_
      refine ezw_iload_n rfl rfl ?_
      refine ezw_if_eq rfl rfl ⟨by omega, by omega⟩ (fun h19 => ?_) (fun h19 => ?_)
      · refine ezw_iload_n rfl rfl ?_
        exact ezw_ireturn rfl rfl ⟨congrArg (fun x => some (ezw_i x)) (by omega), rfl⟩
      · refine ezw_iconst (0) rfl rfl ?_
        refine ezw_iload_n rfl rfl ?_
        refine ezw_aload_n rfl rfl ?_
        refine ezw_bipush (6) rfl rfl ?_
        refine ezw_call0_1 rfl (by omega) hT rfl rfl rfl rfl (ezc_number (q := 30) hT hN (by omega) ⟨by omega, by omega⟩ (by omega)) ?_
        rintro _ _ ⟨rfl, rfl⟩
        rw [show ezw_gt 11 ezw_first 6 = 0 from rfl]
        refine ezw_isub rfl rfl ?_
        refine ezw_mmaxE rfl ⟨by omega, by omega⟩ ⟨by omega, by omega⟩ rfl (fun u31 f31 => ?_)
        refine ezw_goto rfl rfl ?_
        exact ezw_ireturn rfl rfl ⟨congrArg (fun x => some (ezw_i x)) (by omega), rfl⟩
    · refine ezw_iconst (1) rfl rfl ?_
      refine ezw_goto rfl rfl ?_
      refine ezw_istore_n rfl rfl ?_
      refine ezw_iload_n rfl rfl ?_
      refine ezw_if_eq rfl rfl ⟨by omega, by omega⟩ (fun h19 => ?_) (fun h19 => ?_)
      · refine ezw_iload_n rfl rfl ?_
        exact ezw_ireturn rfl rfl ⟨congrArg (fun x => some (ezw_i x)) (by omega), rfl⟩
      · refine ezw_iconst (0) rfl rfl ?_
        refine ezw_iload_n rfl rfl ?_
        refine ezw_aload_n rfl rfl ?_
        refine ezw_bipush (6) rfl rfl ?_
        refine ezw_call0_1 rfl (by omega) hT rfl rfl rfl rfl (ezc_number (q := 30) hT hN (by omega) ⟨by omega, by omega⟩ (by omega)) ?_
        rintro _ _ ⟨rfl, rfl⟩
        rw [show ezw_gt 11 ezw_first 6 = 0 from rfl]
        refine ezw_isub rfl rfl ?_
        refine ezw_mmaxE rfl ⟨by omega, by omega⟩ ⟨by omega, by omega⟩ rfl (fun u31 f31 => ?_)
        refine ezw_goto rfl rfl ?_
        exact ezw_ireturn rfl rfl ⟨congrArg (fun x => some (ezw_i x)) (by omega), rfl⟩
theorem ezc_lastsL {f : Nat → Int} (hT : g 30 = ezw_obj 9 (ezw_rfT 30) f) (hN : g 44 = ezw_ca 11 ezw_first) (hd : 3 ≤ d) (k : Nat) : ∀ (n th : Int), 0 ≤ n → n + (k : Int) = 241 → 0 ≤ th → th < 24 → ezw_E l ρ B xa Hb D cA d ezq_re174 (ezw_Q (some (ezw_i (-1))) g) 13 [some (ezw_p 13), some (ezw_p 30), some (ezw_i th), some (ezw_i 9), some (ezw_i n)] [] g := by
  induction k with
  | zero =>
    intro n th n0 n1 t0 t1
    refine ezw_iload rfl rfl ?_
    refine ezw_sipush (240) rfl rfl ?_
    refine ezw_icmp_gt rfl rfl ⟨by omega, by omega⟩ ⟨by omega, by omega⟩ (fun h18 => ?_) (fun h18 => ?_)
    rotate_left
    · exact absurd h18 (by omega)
    refine ezw_iconst (-1) rfl rfl ?_
    exact ezw_ireturn rfl rfl ⟨rfl, rfl⟩
  | succ k ih =>
    intro n th n0 n1 t0 t1
    refine ezw_iload rfl rfl ?_
    refine ezw_sipush (240) rfl rfl ?_
    refine ezw_icmp_gt rfl rfl ⟨by omega, by omega⟩ ⟨by omega, by omega⟩ (fun h18 => ?_) (fun h18 => ?_)
    · exact absurd h18 (by omega)
    refine ezw_iload_n rfl rfl ?_
    refine ezw_if_gt rfl rfl ⟨by omega, by omega⟩ (fun h22 => ?_) (fun h22 => ?_)
    rotate_left
    · exact absurd h22 (by omega)
    refine ezw_iload_n rfl rfl ?_
    refine ezw_iconst (1) rfl rfl ?_
    refine ezw_iadd rfl rfl ?_
    refine ezw_bipush (24) rfl rfl ?_
    refine ezw_iremN rfl ⟨by omega, by omega⟩ ⟨by omega, by omega⟩ (by omega) (by omega) rfl ?_
    refine ezw_istore_n rfl rfl ?_
    refine ezw_aload_n rfl rfl ?_
    refine ezw_iload_n rfl rfl ?_
    refine ezw_iload_n rfl rfl ?_
    refine ezw_call2_3 rfl (by omega) rfl rfl (ezc_pbd0 hT hN (by omega) (by omega) (by omega) (by omega) (by omega)) ?_
    rintro _ _ ⟨rfl, rfl⟩
    refine ezw_istore_n rfl rfl ?_
    refine ezw_iinc (1) rfl rfl rfl rfl rfl ?_
    refine ezw_goto rfl rfl ?_
    exact ih _ _ (by omega) (by omega) (by omega) (by omega)
theorem ezc_lasts0 {f : Nat → Int} (hT : g 30 = ezw_obj 9 (ezw_rfT 30) f) (hN : g 44 = ezw_ca 11 ezw_first) {fN : Nat → Int} (hNow : g 13 = ezw_obj 4 (ezw_rfN 13) fN) (hn : ezw_now0 fN) (hd : 3 ≤ d) : ezw_C l ρ B xa Hb D cA 174 d [ezw_p 13, ezw_p 30] g (ezw_Q (some (ezw_i (-1))) g) := by
  refine ezw_met (k := 3) rfl ?_
  obtain ⟨n0, n1, n2, n3, n4, n5, n6⟩ := hn
  refine ezw_aload_n rfl rfl ?_
  refine ezw_getfield rfl hNow rfl rfl rfl ?_
  rw [n2]
  refine ezw_istore_n rfl rfl ?_
  refine ezw_aload_n rfl rfl ?_
  refine ezw_getfield rfl hNow rfl rfl rfl ?_
  rw [n5]
  refine ezw_istore_n rfl rfl ?_
  refine ezw_iconst (0) rfl rfl ?_
  refine ezw_istore rfl rfl ?_
  exact ezc_lastsL hT hN hd 241 0 12 (by omega) (by omega) (by omega) (by omega)
theorem ezc_waitC {g0 : Nat → ezq_C} {f fN : Nat → Int} (hT : g0 30 = ezw_obj 9 (ezw_rfT 30) f) (hN : g0 44 = ezw_ca 11 ezw_first) (hNow : g0 13 = ezw_obj 4 (ezw_rfN 13) fN) (hn : ezw_now0 fN) {s : Int} (hd : 3 ≤ d) (k : Nat) : ∀ {g : Nat → ezq_C} (hf : ∀ q, q ≠ 14 → q ≠ 15 → g q = g0 q) (c c2 : Int → Int) (i : Int) (hC : g 14 = ezw_ca 4 c) (hL : g 15 = ezw_ca 4 c2) (hm : ezw_mil s i c) (hm2 : ezw_mil s 4 c2) (l6 : Option ezq_V), 0 ≤ i → i + (k : Int) = 4 → ezw_E l ρ B xa Hb D cA d ezq_re175 (fun v g' => none = v ∧ (∃ c c2, ezw_mil s 4 c ∧ g' 14 = ezw_ca 4 c ∧ g' 15 = ezw_ca 4 c2) ∧ ∀ q, q ≠ 14 → q ≠ 15 → g' q = g0 q) 110 [some (ezw_p 13), some (ezw_p 30), some (ezw_i s), some (ezw_i 0), some (ezw_i 0), some (ezw_i i), l6] [] g := by
  induction k with
  | zero =>
    intro g hf c c2 i hC hL hm hm2 l6 i0 i1
    refine ezw_iload rfl rfl ?_
    refine ezw_iconst (4) rfl rfl ?_
    refine ezw_icmp_ge rfl rfl ⟨by omega, by omega⟩ ⟨by omega, by omega⟩ (fun h113 => ?_) (fun h113 => ?_)
    rotate_left
    · exact absurd h113 (by omega)
    exact ezw_return rfl rfl ⟨rfl, ⟨c, c2, by rw [show (4 : Int) = i by omega]; exact hm, hC, hL⟩, hf⟩
  | succ k ih =>
    intro g hf c c2 i hC hL hm hm2 l6 i0 i1
    refine ezw_iload rfl rfl ?_
    refine ezw_iconst (4) rfl rfl ?_
    refine ezw_icmp_ge rfl rfl ⟨by omega, by omega⟩ ⟨by omega, by omega⟩ (fun h113 => ?_) (fun h113 => ?_)
    · exact absurd h113 (by omega)
    refine ezw_aload_n rfl rfl ?_
    refine ezw_getfield rfl ((hf 13 (by decide) (by decide)).trans hNow) rfl rfl rfl ?_
    refine ezw_iload rfl rfl ?_
    refine ezw_aload_n rfl rfl ?_
    refine ezw_getfield rfl ((hf 13 (by decide) (by decide)).trans hNow) rfl rfl rfl ?_
    refine ezw_iload rfl rfl ?_
    refine ezw_call3_2 rfl (by omega) rfl rfl (ezc_at hL rfl (by omega) ⟨by omega, by omega⟩) ?_
    rintro _ _ ⟨rfl, rfl⟩
    have b1 := ezw_mil_b hm2 i
    refine ezw_call3_3 rfl (by omega) rfl rfl (ezc_putI hC rfl (by omega) (by omega) (by omega)) ?_
    rintro _ _ ⟨rfl, rfl⟩
    refine ezw_iinc (1) rfl rfl rfl rfl rfl ?_
    refine ezw_goto rfl rfl ?_
    exact ih (fun q h1 h2 => by first | exact (ezw_un h1).trans (hf q h1 h2) | exact (ezw_un h2).trans (hf q h1 h2)) _ _ _ ezw_ug ((ezw_un (by decide)).trans hL) (ezw_mil_up hm (by rw [ezw_mil_v hm2 (by omega) (by omega)])) hm2 _ (by omega) (by omega)
theorem ezc_waitB {g0 : Nat → ezq_C} {f fN : Nat → Int} (hT : g0 30 = ezw_obj 9 (ezw_rfT 30) f) (hN : g0 44 = ezw_ca 11 ezw_first) (hNow : g0 13 = ezw_obj 4 (ezw_rfN 13) fN) (hn : ezw_now0 fN) {s : Int} (hs0 : 0 ≤ s) (hs1 : s < 4) (hd : 3 ≤ d) (k : Nat) : ∀ {g : Nat → ezq_C} (hf : ∀ q, q ≠ 14 → q ≠ 15 → g q = g0 q) (c c2 : Int → Int) (i : Int) (hC : g 14 = ezw_ca 4 c) (hL : g 15 = ezw_ca 4 c2) (hm : ezw_mil s 4 c) (hm2 : ezw_mil s i c2) (l6 : Option ezq_V), 0 ≤ i → i + (k : Int) = 4 → ezw_E l ρ B xa Hb D cA d ezq_re175 (fun v g' => none = v ∧ (∃ c c2, ezw_mil s 4 c ∧ g' 14 = ezw_ca 4 c ∧ g' 15 = ezw_ca 4 c2) ∧ ∀ q, q ≠ 14 → q ≠ 15 → g' q = g0 q) 16 [some (ezw_p 13), some (ezw_p 30), some (ezw_i s), some (ezw_i 0), some (ezw_i 0), some (ezw_i i), l6] [] g := by
  induction k with
  | zero =>
    intro g hf c c2 i hC hL hm hm2 l6 i0 i1
    refine ezw_iload rfl rfl ?_
    refine ezw_iconst (4) rfl rfl ?_
    refine ezw_icmp_ge rfl rfl ⟨by omega, by omega⟩ ⟨by omega, by omega⟩ (fun h19 => ?_) (fun h19 => ?_)
    rotate_left
    · exact absurd h19 (by omega)
    refine ezw_iconst (0) rfl rfl ?_
    refine ezw_istore rfl rfl ?_
    exact ezc_waitC hT hN hNow hn hd 4 hf c c2 0 hC hL (ezw_mil_0 s c) (by rw [show (4 : Int) = i by omega]; exact hm2) l6 (by omega) (by omega)
  | succ k ih =>
    intro g hf c c2 i hC hL hm hm2 l6 i0 i1
    refine ezw_iload rfl rfl ?_
    refine ezw_iconst (4) rfl rfl ?_
    refine ezw_icmp_ge rfl rfl ⟨by omega, by omega⟩ ⟨by omega, by omega⟩ (fun h19 => ?_) (fun h19 => ?_)
    · exact absurd h19 (by omega)
    have b1 := ezw_mil_b hm ((i + 1) % 4)
    have b2 := ezw_mil_b hm ((i + 4 - 1) % 4)
    have b3 := ezw_mil_b hm i
    have b4 := ezw_mil_v hm (p := i) (by omega) (by omega)
    have b5 : (i = s ∧ ezw_gt 4 c i = 1000000) ∨ (i ≠ s ∧ ezw_gt 4 c i = 0) := by
      by_cases e : i = s
      · exact Or.inl ⟨e, by rw [b4, if_pos e]⟩
      · exact Or.inr ⟨e, by rw [b4, if_neg e]⟩
    refine ezw_iload_n rfl rfl ?_
    refine ezw_aload_n rfl rfl ?_
    refine ezw_getfield rfl ((hf 13 (by decide) (by decide)).trans hNow) rfl rfl rfl ?_
    refine ezw_iload rfl rfl ?_
    refine ezw_iconst (1) rfl rfl ?_
    refine ezw_iadd rfl rfl ?_
    refine ezw_iconst (4) rfl rfl ?_
    refine ezw_iremN rfl ⟨by omega, by omega⟩ ⟨by omega, by omega⟩ (by omega) (by omega) rfl ?_
    refine ezw_call3_2 rfl (by omega) rfl rfl (ezc_at hC rfl (by omega) ⟨by omega, by omega⟩) ?_
    rintro _ _ ⟨rfl, rfl⟩
    refine ezw_imul rfl rfl ?_
    refine ezw_iload rfl rfl ?_
    refine ezw_aload_n rfl rfl ?_
    refine ezw_getfield rfl ((hf 13 (by decide) (by decide)).trans hNow) rfl rfl rfl ?_
    refine ezw_iload rfl rfl ?_
    refine ezw_iconst (4) rfl rfl ?_
    refine ezw_iadd rfl rfl ?_
    refine ezw_iconst (1) rfl rfl ?_
    refine ezw_isub rfl rfl ?_
    refine ezw_iconst (4) rfl rfl ?_
    refine ezw_iremN rfl ⟨by omega, by omega⟩ ⟨by omega, by omega⟩ (by omega) (by omega) rfl ?_
    refine ezw_call3_2 rfl (by omega) rfl rfl (ezc_at hC rfl (by omega) ⟨by omega, by omega⟩) ?_
    rintro _ _ ⟨rfl, rfl⟩
    refine ezw_imul rfl rfl ?_
    refine ezw_iadd rfl rfl ?_
    refine ezw_bipush (10) rfl rfl ?_
    refine ezw_iload_n rfl rfl ?_
    refine ezw_isub rfl rfl ?_
    refine ezw_iload rfl rfl ?_
    refine ezw_isub rfl rfl ?_
    refine ezw_aload_n rfl rfl ?_
    refine ezw_getfield rfl ((hf 13 (by decide) (by decide)).trans hNow) rfl rfl rfl ?_
    refine ezw_iload rfl rfl ?_
    refine ezw_call3_2 rfl (by omega) rfl rfl (ezc_at hC rfl (by omega) ⟨by omega, by omega⟩) ?_
    rintro _ _ ⟨rfl, rfl⟩
    refine ezw_imul rfl rfl ?_
    refine ezw_iadd rfl rfl ?_
    refine ezw_bipush (10) rfl rfl ?_
    refine ezw_idivN rfl ⟨by omega, by omega⟩ ⟨by omega, by omega⟩ (by omega) (by omega) rfl ?_
    refine ezw_istore rfl rfl ?_
    refine ezw_aload_n rfl rfl ?_
    refine ezw_getfield rfl ((hf 13 (by decide) (by decide)).trans hNow) rfl rfl rfl ?_
    refine ezw_iload rfl rfl ?_
    refine ezw_iload rfl rfl ?_
    refine ezw_iload_n rfl rfl ?_
    refine ezw_icmp_ne rfl rfl ⟨by omega, by omega⟩ ⟨by omega, by omega⟩ (fun h88 => ?_) (fun h88 => ?_)
    · refine ezw_iload rfl rfl ?_
      refine ezw_call3_3 rfl (by omega) rfl rfl (ezc_putI hL rfl (by omega) (by omega) (by omega)) ?_
      rintro _ _ ⟨rfl, rfl⟩
      refine ezw_iinc (1) rfl rfl rfl rfl rfl ?_
      refine ezw_goto rfl rfl ?_
      exact ih (fun q h1 h2 => by first | exact (ezw_un h1).trans (hf q h1 h2) | exact (ezw_un h2).trans (hf q h1 h2)) _ _ _ ((ezw_un (by decide)).trans hC) ezw_ug hm (ezw_mil_up hm2 (by first | exact ezw_mp (by omega) (by omega) | exact ezw_mn (by omega) (by omega))) _ (by omega) (by omega)
    · refine ezw_ldc (1000000) rfl rfl ?_
      refine ezw_goto rfl rfl ?_
      refine ezw_call3_3 rfl (by omega) rfl rfl (ezc_putI hL rfl (by omega) (by omega) (by omega)) ?_
      rintro _ _ ⟨rfl, rfl⟩
      refine ezw_iinc (1) rfl rfl rfl rfl rfl ?_
      refine ezw_goto rfl rfl ?_
      exact ih (fun q h1 h2 => by first | exact (ezw_un h1).trans (hf q h1 h2) | exact (ezw_un h2).trans (hf q h1 h2)) _ _ _ ((ezw_un (by decide)).trans hC) ezw_ug hm (ezw_mil_up hm2 (by first | exact ezw_mp (by omega) (by omega) | exact ezw_mn (by omega) (by omega))) _ (by omega) (by omega)
theorem ezc_wait0 {g0 : Nat → ezq_C} {f fN : Nat → Int} (hT : g0 30 = ezw_obj 9 (ezw_rfT 30) f) (hN : g0 44 = ezw_ca 11 ezw_first) (hNow : g0 13 = ezw_obj 4 (ezw_rfN 13) fN) (hn : ezw_now0 fN) (hf : ∀ q, q ≠ 14 → q ≠ 15 → g q = g0 q) {s : Int} (hs0 : 0 ≤ s) (hs1 : s < 4) (hd : 3 ≤ d) {c c2 : Int → Int} (hC : g 14 = ezw_ca 4 c) (hL : g 15 = ezw_ca 4 c2) (hm : ezw_mil s 4 c) : ezw_C l ρ B xa Hb D cA 175 d [ezw_p 13, ezw_p 30, ezw_i s] g (fun v g' => none = v ∧ (∃ c c2, ezw_mil s 4 c ∧ g' 14 = ezw_ca 4 c ∧ g' 15 = ezw_ca 4 c2) ∧ ∀ q, q ≠ 14 → q ≠ 15 → g' q = g0 q) := by
  refine ezw_met (k := 4) rfl ?_
  refine ezw_aload_n rfl rfl ?_
  refine ezw_iconst (3) rfl rfl ?_
  refine ezw_call0_1 rfl (by omega) ((hf 30 (by decide) (by decide)).trans hT) rfl rfl rfl rfl (ezc_number (q := 30) ((hf 30 (by decide) (by decide)).trans hT) ((hf 44 (by decide) (by decide)).trans hN) (by omega) ⟨by omega, by omega⟩ (by omega)) ?_
  rintro _ _ ⟨rfl, rfl⟩
  rw [show ezw_gt 11 ezw_first 3 = 0 from rfl]
  refine ezw_istore_n rfl rfl ?_
  refine ezw_aload_n rfl rfl ?_
  refine ezw_iconst (4) rfl rfl ?_
  refine ezw_call0_1 rfl (by omega) ((hf 30 (by decide) (by decide)).trans hT) rfl rfl rfl rfl (ezc_number (q := 30) ((hf 30 (by decide) (by decide)).trans hT) ((hf 44 (by decide) (by decide)).trans hN) (by omega) ⟨by omega, by omega⟩ (by omega)) ?_
  rintro _ _ ⟨rfl, rfl⟩
  rw [show ezw_gt 11 ezw_first 4 = 0 from rfl]
  refine ezw_istore rfl rfl ?_
  refine ezw_iconst (0) rfl rfl ?_
  refine ezw_istore rfl rfl ?_
  exact ezc_waitB hT hN hNow hn hs0 hs1 hd 4 hf c c2 0 hC hL hm (ezw_mil_0 s c2) none (by omega) (by omega)
theorem ezc_windB {g0 : Nat → ezq_C} {f fN : Nat → Int} (hT : g0 30 = ezw_obj 9 (ezw_rfT 30) f) (hN : g0 44 = ezw_ca 11 ezw_first) (hNow : g0 13 = ezw_obj 4 (ezw_rfN 13) fN) (hn : ezw_now0 fN) {s h : Int} (hs0 : 0 ≤ s) (hs1 : s < 4) (hh0 : 0 ≤ h) (hh1 : h ≤ 48) (hd : 4 ≤ d) (k : Nat) : ∀ {g : Nat → ezq_C} (hf : ∀ q, q ≠ 14 → q ≠ 15 → g q = g0 q) (c c2 : Int → Int) (i : Int) (hC : g 14 = ezw_ca 4 c) (hL : g 15 = ezw_ca 4 c2) (hm : ezw_mil s 4 c), 0 ≤ i → i + (k : Int) = h → ezw_E l ρ B xa Hb D cA d ezq_re173 (fun v g' => some (ezw_i (if s = 0 then 1000000 else 0)) = v ∧ (∃ c c2, g' 14 = ezw_ca 4 c ∧ g' 15 = ezw_ca 4 c2) ∧ ∀ q, q ≠ 14 → q ≠ 15 → g' q = g0 q) 73 [some (ezw_p 13), some (ezw_p 30), some (ezw_i s), some (ezw_i h), some (ezw_i (-1)), some (ezw_i h), some (ezw_i i)] [] g := by
  obtain ⟨n0, n1, n2, n3, n4, n5, n6⟩ := id hn
  induction k with
  | zero =>
    intro g hf c c2 i hC hL hm i0 i1
    refine ezw_iload rfl rfl ?_
    refine ezw_iload rfl rfl ?_
    refine ezw_icmp_ge rfl rfl ⟨by omega, by omega⟩ ⟨by omega, by omega⟩ (fun h77 => ?_) (fun h77 => ?_)
    rotate_left
    · exact absurd h77 (by omega)
    refine ezw_aload_n rfl rfl ?_
    refine ezw_getfield rfl ((hf 13 (by decide) (by decide)).trans hNow) rfl rfl rfl ?_
    refine ezw_aload_n rfl rfl ?_
    refine ezw_getfield rfl ((hf 13 (by decide) (by decide)).trans hNow) rfl rfl rfl ?_
    rw [n3]
    refine ezw_call3_2 rfl (by omega) rfl rfl (ezc_at hC rfl (by omega) ⟨by omega, by omega⟩) ?_
    rintro _ _ ⟨rfl, rfl⟩
    exact ezw_ireturn rfl rfl ⟨by rw [ezw_mil_v hm (by omega) (by omega)]; exact congrArg (fun x => some (ezw_i x)) (by by_cases e : s = 0 <;> simp [e, eq_comm]), ⟨c, c2, hC, hL⟩, hf⟩
  | succ k ih =>
    intro g hf c c2 i hC hL hm i0 i1
    refine ezw_iload rfl rfl ?_
    refine ezw_iload rfl rfl ?_
    refine ezw_icmp_ge rfl rfl ⟨by omega, by omega⟩ ⟨by omega, by omega⟩ (fun h77 => ?_) (fun h77 => ?_)
    · exact absurd h77 (by omega)
    refine ezw_aload_n rfl rfl ?_
    refine ezw_aload_n rfl rfl ?_
    refine ezw_iload_n rfl rfl ?_
    refine ezw_call0_2 rfl (by omega) ((hf 13 (by decide) (by decide)).trans hNow) rfl rfl rfl rfl (ezc_wait0 hT hN hNow hn hf hs0 hs1 (by omega) hC hL hm) ?_
    rintro _ g2 ⟨rfl, ⟨c, c2, hm, hC, hL⟩, hf⟩
    refine ezw_iinc (1) rfl rfl rfl rfl rfl ?_
    refine ezw_goto rfl rfl ?_
    exact ih hf c c2 (i + 1) hC hL hm (by omega) (by omega)
theorem ezc_windA {g0 : Nat → ezq_C} {f fN : Nat → Int} (hT : g0 30 = ezw_obj 9 (ezw_rfT 30) f) (hN : g0 44 = ezw_ca 11 ezw_first) (hNow : g0 13 = ezw_obj 4 (ezw_rfN 13) fN) (hn : ezw_now0 fN) {s h : Int} (hs0 : 0 ≤ s) (hs1 : s < 4) (hh0 : 0 ≤ h) (hh1 : h ≤ 48) (hd : 4 ≤ d) (k : Nat) : ∀ {g : Nat → ezq_C} (hf : ∀ q, q ≠ 14 → q ≠ 15 → g q = g0 q) (c c2 : Int → Int) (i : Int) (hC : g 14 = ezw_ca 4 c) (hL : g 15 = ezw_ca 4 c2) (hm : ezw_mil s i c), 0 ≤ i → i + (k : Int) = 4 → ezw_E l ρ B xa Hb D cA d ezq_re173 (fun v g' => some (ezw_i (if s = 0 then 1000000 else 0)) = v ∧ (∃ c c2, g' 14 = ezw_ca 4 c ∧ g' 15 = ezw_ca 4 c2) ∧ ∀ q, q ≠ 14 → q ≠ 15 → g' q = g0 q) 37 [some (ezw_p 13), some (ezw_p 30), some (ezw_i s), some (ezw_i h), some (ezw_i (-1)), some (ezw_i h), some (ezw_i i)] [] g := by
  induction k with
  | zero =>
    intro g hf c c2 i hC hL hm i0 i1
    refine ezw_iload rfl rfl ?_
    refine ezw_iconst (4) rfl rfl ?_
    refine ezw_icmp_ge rfl rfl ⟨by omega, by omega⟩ ⟨by omega, by omega⟩ (fun h40 => ?_) (fun h40 => ?_)
    rotate_left
    · exact absurd h40 (by omega)
    refine ezw_iconst (0) rfl rfl ?_
    refine ezw_istore rfl rfl ?_
    exact ezc_windB hT hN hNow hn hs0 hs1 hh0 hh1 hd h.toNat hf c c2 0 hC hL (by rw [show (4 : Int) = i by omega]; exact hm) (by omega) (by omega)
  | succ k ih =>
    intro g hf c c2 i hC hL hm i0 i1
    refine ezw_iload rfl rfl ?_
    refine ezw_iconst (4) rfl rfl ?_
    refine ezw_icmp_ge rfl rfl ⟨by omega, by omega⟩ ⟨by omega, by omega⟩ (fun h40 => ?_) (fun h40 => ?_)
    · exact absurd h40 (by omega)
    refine ezw_aload_n rfl rfl ?_
    refine ezw_getfield rfl ((hf 13 (by decide) (by decide)).trans hNow) rfl rfl rfl ?_
    refine ezw_iload rfl rfl ?_
    refine ezw_iload rfl rfl ?_
    refine ezw_iload_n rfl rfl ?_
    refine ezw_icmp_ne rfl rfl ⟨by omega, by omega⟩ ⟨by omega, by omega⟩ (fun h52 => ?_) (fun h52 => ?_)
    · refine ezw_iconst (0) rfl rfl ?_
      refine ezw_call3_3 rfl (by omega) rfl rfl (ezc_putI hC rfl (by omega) (by omega) (by omega)) ?_
      rintro _ _ ⟨rfl, rfl⟩
      refine ezw_iinc (1) rfl rfl rfl rfl rfl ?_
      refine ezw_goto rfl rfl ?_
      exact ih (fun q h1 h2 => by first | exact (ezw_un h1).trans (hf q h1 h2) | exact (ezw_un h2).trans (hf q h1 h2)) _ _ _ ezw_ug ((ezw_un (by decide)).trans hL) (ezw_mil_up hm (by first | exact ezw_mp (by omega) (by omega) | exact ezw_mn (by omega) (by omega))) (by omega) (by omega)
    · refine ezw_ldc (1000000) rfl rfl ?_
      refine ezw_goto rfl rfl ?_
      refine ezw_call3_3 rfl (by omega) rfl rfl (ezc_putI hC rfl (by omega) (by omega) (by omega)) ?_
      rintro _ _ ⟨rfl, rfl⟩
      refine ezw_iinc (1) rfl rfl rfl rfl rfl ?_
      refine ezw_goto rfl rfl ?_
      exact ih (fun q h1 h2 => by first | exact (ezw_un h1).trans (hf q h1 h2) | exact (ezw_un h2).trans (hf q h1 h2)) _ _ _ ezw_ug ((ezw_un (by decide)).trans hL) (ezw_mil_up hm (by first | exact ezw_mp (by omega) (by omega) | exact ezw_mn (by omega) (by omega))) (by omega) (by omega)
theorem ezc_wind0 {g0 : Nat → ezq_C} {f fN : Nat → Int} (hT : g0 30 = ezw_obj 9 (ezw_rfT 30) f) (hN : g0 44 = ezw_ca 11 ezw_first) (hNow : g0 13 = ezw_obj 4 (ezw_rfN 13) fN) (hn : ezw_now0 fN) (hf : ∀ q, q ≠ 14 → q ≠ 15 → g q = g0 q) {s h : Int} (hs0 : 0 ≤ s) (hs1 : s < 4) (hh0 : 0 ≤ h) (hh1 : h ≤ 48) (hd : 4 ≤ d) {c c2 : Int → Int} (hC : g 14 = ezw_ca 4 c) (hL : g 15 = ezw_ca 4 c2) : ezw_C l ρ B xa Hb D cA 173 d [ezw_p 13, ezw_p 30, ezw_i s, ezw_i h] g (fun v g' => some (ezw_i (if s = 0 then 1000000 else 0)) = v ∧ (∃ c c2, g' 14 = ezw_ca 4 c ∧ g' 15 = ezw_ca 4 c2) ∧ ∀ q, q ≠ 14 → q ≠ 15 → g' q = g0 q) := by
  refine ezw_met (k := 3) rfl ?_
  refine ezw_aload_n rfl rfl ?_
  refine ezw_aload_n rfl rfl ?_
  refine ezw_call0_1 rfl (by omega) ((hf 13 (by decide) (by decide)).trans hNow) rfl rfl rfl rfl (ezc_lasts0 ((hf 30 (by decide) (by decide)).trans hT) ((hf 44 (by decide) (by decide)).trans hN) ((hf 13 (by decide) (by decide)).trans hNow) hn (by omega)) ?_
  rintro _ _ ⟨rfl, rfl⟩
  refine ezw_istore rfl rfl ?_
  refine ezw_iload rfl rfl ?_
  refine ezw_if_ne rfl rfl ⟨by omega, by omega⟩ (fun h9 => ?_) (fun h9 => ?_)
  rotate_left
  · exact absurd h9 (by omega)
  refine ezw_iload rfl rfl ?_
  refine ezw_iconst (-1) rfl rfl ?_
  refine ezw_icmp_ne rfl rfl ⟨by omega, by omega⟩ ⟨by omega, by omega⟩ (fun h17 => ?_) (fun h17 => ?_)
  · exact absurd h17 (by omega)
  refine ezw_iload_n rfl rfl ?_
  refine ezw_goto rfl rfl ?_
  refine ezw_istore rfl rfl ?_
  refine ezw_iconst (0) rfl rfl ?_
  refine ezw_istore rfl rfl ?_
  exact ezc_windA hT hN hNow hn hs0 hs1 hh0 hh1 hd 4 hf c c2 0 hC hL (ezw_mil_0 s c) (by omega) (by omega)
end KM
