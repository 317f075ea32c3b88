/-! ===== small methods ===== -/
def ezw_gt (n : Nat) (a : Int → Int) (p : Int) : Int := if 0 ≤ p ∧ p < (n : Int) then a p else 0
def ezw_bit (b p : Int) : Int := if 0 ≤ p ∧ p < 31 then b / 2 ^ p.toNat % 2 else 0
def ezw_tf (c : Prop) [Decidable c] : Int := if c then 1 else 0
theorem ezw_blt {a b : Nat} (h : a < b) : Nat.blt a b = true := Nat.ble_eq_true_of_le h
theorem ezw_gtI {n : Nat} {a : Int → Int} {p : Int} (h : 0 ≤ p) (h2 : p < (n : Int)) : ezw_gt n a p = a p := if_pos ⟨h, h2⟩
theorem ezw_gtO {n : Nat} {a : Int → Int} {p : Int} (h : p < 0 ∨ (n : Int) ≤ p) : ezw_gt n a p = 0 := if_neg (by omega)
theorem ezw_and1 (x : Int) : ezw_and x 1 = x % 2 := by
  unfold ezw_and
  rw [show ezw_z 1 = 1 from rfl, Nat.and_one_is_mod]
  unfold ezw_z
  omega
theorem ezw_bit01 (b p : Int) : 0 ≤ ezw_bit b p ∧ ezw_bit b p ≤ 1 := by
  unfold ezw_bit
  split <;> omega
theorem ezw_bit0 (p : Int) : ezw_bit 0 p = 0 := by
  unfold ezw_bit
  split
  · rw [Int.zero_ediv]
    rfl
  · rfl

section KM
variable {l : Launch} {ρ : ezq_E} {B : Nat} {xa : Nat → Option Nat} {Hb : Heap} {D : va_G} {cA : Nat → ClassId} {d : Nat} {g : Nat → ezq_C}

theorem ezc_at {q n : Nat} {a : Int → Int} {p : Int} (hq : g q = ezw_ca n a) (h9 : Nat.blt q 96 = true) (hn : n ≤ 100000) (hp : ezw_in p) : ezw_C l ρ B xa Hb D cA 27 d [ezw_p q, ezw_i p] g (ezw_Q (some (ezw_i (ezw_gt n a p))) g) := by
  refine ezw_met (k := 0) rfl ?_
  have hp1 := hp.1
  have hp2 := hp.2
  refine ezw_aload_n rfl rfl ?_
  refine ezw_ifnull rfl ?_
  refine ezw_iload_n rfl rfl ?_
  refine ezw_if_lt rfl rfl ⟨by omega, by omega⟩ (fun h5 => ?_) (fun h5 => ?_)
  · refine ezw_iconst (0) rfl rfl ?_
    exact ezw_ireturn rfl rfl ⟨congrArg (fun x => some (ezw_i x)) (ezw_gtO (by omega)), rfl⟩
  · refine ezw_iload_n rfl rfl ?_
    refine ezw_aload_n rfl rfl ?_
    refine ezw_arraylength rfl hq h9 rfl (by omega) ?_
    refine ezw_icmp_ge rfl rfl ⟨by omega, by omega⟩ ⟨by omega, by omega⟩ (fun h11 => ?_) (fun h11 => ?_)
    · refine ezw_iconst (0) rfl rfl ?_
      exact ezw_ireturn rfl rfl ⟨congrArg (fun x => some (ezw_i x)) (ezw_gtO (by omega)), rfl⟩
    · refine ezw_aload_n rfl rfl ?_
      refine ezw_iload_n rfl rfl ?_
      refine ezw_iaload rfl hq h9 (by omega) (by omega) (by omega) rfl ?_
      refine ezw_goto rfl rfl ?_
      exact ezw_ireturn rfl rfl ⟨congrArg (fun x => some (ezw_i x)) (ezw_gtI (by omega) (by omega)), rfl⟩
theorem ezc_put {q n : Nat} {a : Int → Int} {p v : Int} (hq : g q = ezw_ca n a) (h9 : Nat.blt q 96 = true) (hn : n ≤ 100000) (hp : ezw_in p) : ezw_C l ρ B xa Hb D cA 21 d [ezw_p q, ezw_i p, ezw_i v] g (ezw_Q none (if 0 ≤ p ∧ p < (n : Int) then ezw_u g q (ezw_ca n (ezw_au a p v)) else g)) := by
  refine ezw_met (k := 0) rfl ?_
  have hp1 := hp.1
  have hp2 := hp.2
  refine ezw_aload_n rfl rfl ?_
  refine ezw_ifnull rfl ?_
  refine ezw_iload_n rfl rfl ?_
  refine ezw_if_lt rfl rfl ⟨by omega, by omega⟩ (fun h5 => ?_) (fun h5 => ?_)
  · exact ezw_return rfl rfl ⟨rfl, if_neg (by omega)⟩
  · refine ezw_iload_n rfl rfl ?_
    refine ezw_aload_n rfl rfl ?_
    refine ezw_arraylength rfl hq h9 rfl (by omega) ?_
    refine ezw_icmp_ge rfl rfl ⟨by omega, by omega⟩ ⟨by omega, by omega⟩ (fun h11 => ?_) (fun h11 => ?_)
    · exact ezw_return rfl rfl ⟨rfl, if_neg (by omega)⟩
    · refine ezw_aload_n rfl rfl ?_
      refine ezw_iload_n rfl rfl ?_
      refine ezw_iload_n rfl rfl ?_
      refine ezw_iastore rfl hq h9 (by omega) (by omega) (by omega) ?_
      exact ezw_return rfl rfl ⟨rfl, if_pos (by omega)⟩
theorem ezc_putI {q n : Nat} {a : Int → Int} {p v : Int} (hq : g q = ezw_ca n a) (h9 : Nat.blt q 96 = true) (hn : n ≤ 100000) (h0 : 0 ≤ p) (h1 : p < (n : Int)) : ezw_C l ρ B xa Hb D cA 21 d [ezw_p q, ezw_i p, ezw_i v] g (ezw_Q none (ezw_u g q (ezw_ca n (ezw_au a p v)))) := by
  have h := ezc_put (l := l) (ρ := ρ) (B := B) (xa := xa) (Hb := Hb) (D := D) (cA := cA) (d := d) (p := p) (v := v) hq h9 hn ⟨by omega, by omega⟩
  rw [if_pos ⟨h0, h1⟩] at h
  exact h
theorem ezc_bit {b p : Int} (hb : ezw_in b) (hp : ezw_in p) : ezw_C l ρ B xa Hb D cA 49 d [ezw_i b, ezw_i p] g (ezw_Q (some (ezw_i (ezw_bit b p))) g) := by
  refine ezw_met (k := 0) rfl ?_
  have hp1 := hp.1
  have hp2 := hp.2
  have hb1 := hb.1
  have hb2 := hb.2
  refine ezw_iload_n rfl rfl ?_
  refine ezw_if_lt rfl rfl ⟨by omega, by omega⟩ (fun h1 => ?_) (fun h1 => ?_)
  · refine ezw_iconst (0) rfl rfl ?_
    exact ezw_ireturn rfl rfl ⟨congrArg (fun x => some (ezw_i x)) (if_neg (by omega)), rfl⟩
  · refine ezw_iload_n rfl rfl ?_
    refine ezw_bipush (31) rfl rfl ?_
    refine ezw_icmp_ge rfl rfl ⟨by omega, by omega⟩ ⟨by omega, by omega⟩ (fun h7 => ?_) (fun h7 => ?_)
    · refine ezw_iconst (0) rfl rfl ?_
      exact ezw_ireturn rfl rfl ⟨congrArg (fun x => some (ezw_i x)) (if_neg (by omega)), rfl⟩
    · refine ezw_iload_n rfl rfl ?_
      refine ezw_iload_n rfl rfl ?_
      refine ezw_ishr rfl ⟨by omega, by omega⟩ (by omega) (by omega) rfl ?_
      refine ezw_iconst (1) rfl rfl ?_
      refine ezw_iand rfl rfl ?_
      refine ezw_goto rfl rfl ?_
      exact ezw_ireturn rfl rfl ⟨congrArg (fun x => some (ezw_i x)) ((if_pos (by omega)).trans (ezw_and1 _).symm), rfl⟩
theorem ezc_isSide {s : Int} (hs : ezw_in s) : ezw_C l ρ B xa Hb D cA 112 d [ezw_i s] g (ezw_Q (some (ezw_i (if 0 ≤ s ∧ s < 4 then 1 else 0))) g) := by
  refine ezw_met (k := 0) rfl ?_
  have hs1 := hs.1
  have hs2 := hs.2
  refine ezw_iload_n rfl rfl ?_
  refine ezw_if_lt rfl rfl ⟨by omega, by omega⟩ (fun h1 => ?_) (fun h1 => ?_)
  · refine ezw_iconst (0) rfl rfl ?_
    exact ezw_ireturn rfl (ezw_zret ⟨by omega, by omega⟩) ⟨congrArg (fun x => some (ezw_i x)) (by first | exact if_pos (by omega) | exact if_neg (by omega)), rfl⟩
  · refine ezw_iload_n rfl rfl ?_
    refine ezw_iconst (4) rfl rfl ?_
    refine ezw_icmp_ge rfl rfl ⟨by omega, by omega⟩ ⟨by omega, by omega⟩ (fun h6 => ?_) (fun h6 => ?_)
    · refine ezw_iconst (0) rfl rfl ?_
      exact ezw_ireturn rfl (ezw_zret ⟨by omega, by omega⟩) ⟨congrArg (fun x => some (ezw_i x)) (by first | exact if_pos (by omega) | exact if_neg (by omega)), rfl⟩
    · refine ezw_iconst (1) rfl rfl ?_
      refine ezw_goto rfl rfl ?_
      exact ezw_ireturn rfl (ezw_zret ⟨by omega, by omega⟩) ⟨congrArg (fun x => some (ezw_i x)) (by first | exact if_pos (by omega) | exact if_neg (by omega)), rfl⟩
theorem ezc_isSideM {s : Int} (hs : ezw_in s) : ezw_C l ρ B xa Hb D cA 265 d [ezw_i s] g (ezw_Q (some (ezw_i (if 0 ≤ s ∧ s < 4 then 1 else 0))) g) := by
  refine ezw_met (k := 0) rfl ?_
  have hs1 := hs.1
  have hs2 := hs.2
  refine ezw_iload_n rfl rfl ?_
  refine ezw_if_lt rfl rfl ⟨by omega, by omega⟩ (fun h1 => ?_) (fun h1 => ?_)
  · refine ezw_iconst (0) rfl rfl ?_
    exact ezw_ireturn rfl (ezw_zret ⟨by omega, by omega⟩) ⟨congrArg (fun x => some (ezw_i x)) (by first | exact if_pos (by omega) | exact if_neg (by omega)), rfl⟩
  · refine ezw_iload_n rfl rfl ?_
    refine ezw_iconst (4) rfl rfl ?_
    refine ezw_icmp_ge rfl rfl ⟨by omega, by omega⟩ ⟨by omega, by omega⟩ (fun h6 => ?_) (fun h6 => ?_)
    · refine ezw_iconst (0) rfl rfl ?_
      exact ezw_ireturn rfl (ezw_zret ⟨by omega, by omega⟩) ⟨congrArg (fun x => some (ezw_i x)) (by first | exact if_pos (by omega) | exact if_neg (by omega)), rfl⟩
    · refine ezw_iconst (1) rfl rfl ?_
      refine ezw_goto rfl rfl ?_
      exact ezw_ireturn rfl (ezw_zret ⟨by omega, by omega⟩) ⟨congrArg (fun x => some (ezw_i x)) (by first | exact if_pos (by omega) | exact if_neg (by omega)), rfl⟩
theorem ezc_isPlace {x : Int} {y : Int} (hx : ezw_in x) (hy : ezw_in y) : ezw_C l ρ B xa Hb D cA 182 d [ezw_i x, ezw_i y] g (ezw_Q (some (ezw_i (if 0 ≤ x ∧ x < 16 ∧ 0 ≤ y ∧ y < 16 then 1 else 0))) g) := by
  refine ezw_met (k := 0) rfl ?_
  have hx1 := hx.1
  have hx2 := hx.2
  have hy1 := hy.1
  have hy2 := hy.2
  refine ezw_iload_n rfl rfl ?_
  refine ezw_if_lt rfl rfl ⟨by omega, by omega⟩ (fun h1 => ?_) (fun h1 => ?_)
  · refine ezw_iconst (0) rfl rfl ?_
    exact ezw_ireturn rfl (ezw_zret ⟨by omega, by omega⟩) ⟨congrArg (fun x => some (ezw_i x)) (by first | exact if_pos (by omega) | exact if_neg (by omega)), rfl⟩
  · refine ezw_iload_n rfl rfl ?_
    refine ezw_bipush (16) rfl rfl ?_
    refine ezw_icmp_ge rfl rfl ⟨by omega, by omega⟩ ⟨by omega, by omega⟩ (fun h7 => ?_) (fun h7 => ?_)
    · refine ezw_iconst (0) rfl rfl ?_
      exact ezw_ireturn rfl (ezw_zret ⟨by omega, by omega⟩) ⟨congrArg (fun x => some (ezw_i x)) (by first | exact if_pos (by omega) | exact if_neg (by omega)), rfl⟩
    · refine ezw_iload_n rfl rfl ?_
      refine ezw_if_lt rfl rfl ⟨by omega, by omega⟩ (fun h11 => ?_) (fun h11 => ?_)
      · refine ezw_iconst (0) rfl rfl ?_
        exact ezw_ireturn rfl (ezw_zret ⟨by omega, by omega⟩) ⟨congrArg (fun x => some (ezw_i x)) (by first | exact if_pos (by omega) | exact if_neg (by omega)), rfl⟩
      · refine ezw_iload_n rfl rfl ?_
        refine ezw_bipush (16) rfl rfl ?_
        refine ezw_icmp_ge rfl rfl ⟨by omega, by omega⟩ ⟨by omega, by omega⟩ (fun h17 => ?_) (fun h17 => ?_)
        · refine ezw_iconst (0) rfl rfl ?_
          exact ezw_ireturn rfl (ezw_zret ⟨by omega, by omega⟩) ⟨congrArg (fun x => some (ezw_i x)) (by first | exact if_pos (by omega) | exact if_neg (by omega)), rfl⟩
        · refine ezw_iconst (1) rfl rfl ?_
          refine ezw_goto rfl rfl ?_
          exact ezw_ireturn rfl (ezw_zret ⟨by omega, by omega⟩) ⟨congrArg (fun x => some (ezw_i x)) (by first | exact if_pos (by omega) | exact if_neg (by omega)), rfl⟩
theorem ezc_isPlaceM {x : Int} {y : Int} (hx : ezw_in x) (hy : ezw_in y) : ezw_C l ρ B xa Hb D cA 320 d [ezw_i x, ezw_i y] g (ezw_Q (some (ezw_i (if 0 ≤ x ∧ x < 16 ∧ 0 ≤ y ∧ y < 16 then 1 else 0))) g) := by
  refine ezw_met (k := 0) rfl ?_
  have hx1 := hx.1
  have hx2 := hx.2
  have hy1 := hy.1
  have hy2 := hy.2
  refine ezw_iload_n rfl rfl ?_
  refine ezw_if_lt rfl rfl ⟨by omega, by omega⟩ (fun h1 => ?_) (fun h1 => ?_)
  · refine ezw_iconst (0) rfl rfl ?_
    exact ezw_ireturn rfl (ezw_zret ⟨by omega, by omega⟩) ⟨congrArg (fun x => some (ezw_i x)) (by first | exact if_pos (by omega) | exact if_neg (by omega)), rfl⟩
  · refine ezw_iload_n rfl rfl ?_
    refine ezw_bipush (16) rfl rfl ?_
    refine ezw_icmp_ge rfl rfl ⟨by omega, by omega⟩ ⟨by omega, by omega⟩ (fun h7 => ?_) (fun h7 => ?_)
    · refine ezw_iconst (0) rfl rfl ?_
      exact ezw_ireturn rfl (ezw_zret ⟨by omega, by omega⟩) ⟨congrArg (fun x => some (ezw_i x)) (by first | exact if_pos (by omega) | exact if_neg (by omega)), rfl⟩
    · refine ezw_iload_n rfl rfl ?_
      refine ezw_if_lt rfl rfl ⟨by omega, by omega⟩ (fun h11 => ?_) (fun h11 => ?_)
      · refine ezw_iconst (0) rfl rfl ?_
        exact ezw_ireturn rfl (ezw_zret ⟨by omega, by omega⟩) ⟨congrArg (fun x => some (ezw_i x)) (by first | exact if_pos (by omega) | exact if_neg (by omega)), rfl⟩
      · refine ezw_iload_n rfl rfl ?_
        refine ezw_bipush (16) rfl rfl ?_
        refine ezw_icmp_ge rfl rfl ⟨by omega, by omega⟩ ⟨by omega, by omega⟩ (fun h17 => ?_) (fun h17 => ?_)
        · refine ezw_iconst (0) rfl rfl ?_
          exact ezw_ireturn rfl (ezw_zret ⟨by omega, by omega⟩) ⟨congrArg (fun x => some (ezw_i x)) (by first | exact if_pos (by omega) | exact if_neg (by omega)), rfl⟩
        · refine ezw_iconst (1) rfl rfl ?_
          refine ezw_goto rfl rfl ?_
          exact ezw_ireturn rfl (ezw_zret ⟨by omega, by omega⟩) ⟨congrArg (fun x => some (ezw_i x)) (by first | exact if_pos (by omega) | exact if_neg (by omega)), rfl⟩
theorem ezc_within {v : Int} {lo : Int} {hi : Int} (hv : ezw_in v) (hlo : ezw_in lo) (hhi : ezw_in hi) : ezw_C l ρ B xa Hb D cA 236 d [ezw_i v, ezw_i lo, ezw_i hi] g (ezw_Q (some (ezw_i (if lo ≤ v ∧ v ≤ hi then 1 else 0))) g) := by
  refine ezw_met (k := 0) rfl ?_
  have hv1 := hv.1
  have hv2 := hv.2
  have hlo1 := hlo.1
  have hlo2 := hlo.2
  have hhi1 := hhi.1
  have hhi2 := hhi.2
  refine ezw_iload_n rfl rfl ?_
  refine ezw_iload_n rfl rfl ?_
  refine ezw_icmp_lt rfl rfl ⟨by omega, by omega⟩ ⟨by omega, by omega⟩ (fun h2 => ?_) (fun h2 => ?_)
  · refine ezw_iconst (0) rfl rfl ?_
    exact ezw_ireturn rfl (ezw_zret ⟨by omega, by omega⟩) ⟨congrArg (fun x => some (ezw_i x)) (by first | exact if_pos (by omega) | exact if_neg (by omega)), rfl⟩
  · refine ezw_iload_n rfl rfl ?_
    refine ezw_iload_n rfl rfl ?_
    refine ezw_icmp_gt rfl rfl ⟨by omega, by omega⟩ ⟨by omega, by omega⟩ (fun h7 => ?_) (fun h7 => ?_)
    · refine ezw_iconst (0) rfl rfl ?_
      exact ezw_ireturn rfl (ezw_zret ⟨by omega, by omega⟩) ⟨congrArg (fun x => some (ezw_i x)) (by first | exact if_pos (by omega) | exact if_neg (by omega)), rfl⟩
    · refine ezw_iconst (1) rfl rfl ?_
      refine ezw_goto rfl rfl ?_
      exact ezw_ireturn rfl (ezw_zret ⟨by omega, by omega⟩) ⟨congrArg (fun x => some (ezw_i x)) (by first | exact if_pos (by omega) | exact if_neg (by omega)), rfl⟩
theorem ezc_isDewy {h : Int} (hh : ezw_in h) : ezw_C l ρ B xa Hb D cA 290 d [ezw_i h] g (ezw_Q (some (ezw_i (if 20 ≤ h ∨ h < 6 then 1 else 0))) g) := by
  refine ezw_met (k := 0) rfl ?_
  have hh1 := hh.1
  have hh2 := hh.2
  refine ezw_iload_n rfl rfl ?_
  refine ezw_bipush (20) rfl rfl ?_
  refine ezw_icmp_ge rfl rfl ⟨by omega, by omega⟩ ⟨by omega, by omega⟩ (fun h3 => ?_) (fun h3 => ?_)
  · refine ezw_iconst (1) rfl rfl ?_
    refine ezw_goto rfl rfl ?_
    exact ezw_ireturn rfl (ezw_zret ⟨by omega, by omega⟩) ⟨congrArg (fun x => some (ezw_i x)) (by first | exact if_pos (by omega) | exact if_neg (by omega)), rfl⟩
  · refine ezw_iload_n rfl rfl ?_
    refine ezw_bipush (6) rfl rfl ?_
    refine ezw_icmp_ge rfl rfl ⟨by omega, by omega⟩ ⟨by omega, by omega⟩ (fun h9 => ?_) (fun h9 => ?_)
    · refine ezw_iconst (0) rfl rfl ?_
      exact ezw_ireturn rfl (ezw_zret ⟨by omega, by omega⟩) ⟨congrArg (fun x => some (ezw_i x)) (by first | exact if_pos (by omega) | exact if_neg (by omega)), rfl⟩
    · refine ezw_iconst (1) rfl rfl ?_
      refine ezw_goto rfl rfl ?_
      exact ezw_ireturn rfl (ezw_zret ⟨by omega, by omega⟩) ⟨congrArg (fun x => some (ezw_i x)) (by first | exact if_pos (by omega) | exact if_neg (by omega)), rfl⟩
/-- a tree at q -/
def ezw_rfT (q : Nat) : Nat → Nat := fun k => if k < 8 then q + 1 + k else q + 2 + k
theorem ezc_number {q : Nat} {w : Int} {f : Nat → Int} {a : Int → Int} (hT : g q = ezw_obj 9 (ezw_rfT q) f) (hN : g (q + 14) = ezw_ca 11 a) (hq : q ≤ 47) (hw : ezw_in w) (hd : 1 ≤ d) : ezw_C l ρ B xa Hb D cA 95 d [ezw_p q, ezw_i w] g (ezw_Q (some (ezw_i (ezw_gt 11 a w))) g) := by
  refine ezw_met (k := 0) rfl ?_
  have hw1 := hw.1
  have hw2 := hw.2
  have h9 : Nat.blt q 96 = true := ezw_blt (by omega)
  refine ezw_aload_n rfl rfl ?_
  refine ezw_getfield rfl hT h9 rfl rfl ?_
  refine ezw_iload_n rfl rfl ?_
  refine ezw_call3_2 rfl (by omega) rfl rfl (ezc_at hN (ezw_blt (show q + 14 < 96 by omega)) (by omega) ⟨by omega, by omega⟩) ?_
  rintro _ _ ⟨rfl, rfl⟩
  exact ezw_ireturn rfl rfl ⟨rfl, rfl⟩
end KM
