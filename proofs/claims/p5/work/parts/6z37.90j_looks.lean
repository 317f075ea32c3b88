/-! ===== what is looked at: pure ===== -/
def ezn_tw (y : ezp_D) (w : ezn_N) (t wh : Int) : Int := if 0 ≤ t ∧ t < y.kT then (if wh = 0 then y.hi t else if wh = 1 then y.th t else if wh = 2 then y.si t else if wh = 3 then y.on t else if wh = 4 then (if t = ezn_la y w then w.ti else 0) else if wh = 5 then (if ezn_ps y w t 6 = -1 then 0 else 1) else -1) else -1
def ezn_tg (y : ezp_D) (w : ezn_N) (t wh : Int) : Int := if 0 ≤ t ∧ t < y.kH then (if wh = 0 then y.wo t else if wh = 1 then y.st t else if wh = 2 then y.fr t else if wh = 3 then ezt_b w.ha t else -1) else -1
def ezn_cc (qc : ezn_Q) (y : ezp_D) (w : ezn_N) (s f wh : Int) : Int := if (0 ≤ s ∧ s < 4) ∧ w.ki = 0 then (if wh = 0 then ezn_ch qc y w 0 s f else if wh = 1 then ezn_ch qc y w 1 s f else -1) else -1
/-- how many hours the paper lasts -/
def ezn_ls1 (y : ezp_D) : Nat → Int → Int → Int → Int
  | 0, _, _, _ => -1
  | n + 1, k, h, pa => if pa ≤ 0 then k else ezn_ls1 y n (k + 1) ((h + 1) % 24) (ezn_dw y ((h + 1) % 24) pa)
def ezn_las (y : ezp_D) (w : ezn_N) : Int := ezn_ls1 y 241 0 w.ho w.pa
/-- lines of the afternoon, signs on the tape, told, what can be undone -/
def ezn_cu (y : ezp_D) (w : ezn_N) (dl tm kU sg wh : Int) : Int := if wh = 0 then y.kT else if wh = 1 then y.kH else if wh = 2 then ezn_cn w.ov else if wh = 3 then w.ho else if wh = 4 then w.wi else if wh = 5 then w.ki else if wh = 6 then w.pa else if wh = 7 then y.kE else if wh = 8 then dl else if wh = 9 then tm else if wh = 10 then kU else if wh = 11 then sg else if wh = 12 then ezn_cn w.ha else -1
theorem ezn_ls1_T {y : ezp_D} {k h pa : Int} (k0 : 0 ≤ k) (k1 : k ≤ 240) (hp : 0 < pa) : ezn_ls1 y (241 - k).toNat k h pa = ezn_ls1 y (241 - (k + 1)).toNat (k + 1) ((h + 1) % 24) (ezn_dw y ((h + 1) % 24) pa) := by
  rw [show (241 - k).toNat = (241 - (k + 1)).toNat + 1 by omega]
  show (if pa ≤ 0 then k else ezn_ls1 y (241 - (k + 1)).toNat (k + 1) ((h + 1) % 24) (ezn_dw y ((h + 1) % 24) pa)) = _
  rw [if_neg (by omega)]
theorem ezn_ls1_F {y : ezp_D} {k h pa : Int} (k0 : 0 ≤ k) (k1 : k ≤ 240) (hp : pa ≤ 0) : ezn_ls1 y (241 - k).toNat k h pa = k := by
  rw [show (241 - k).toNat = (241 - (k + 1)).toNat + 1 by omega]
  show (if pa ≤ 0 then k else ezn_ls1 y (241 - (k + 1)).toNat (k + 1) ((h + 1) % 24) (ezn_dw y ((h + 1) % 24) pa)) = _
  rw [if_pos hp]
theorem ezn_f8 : ∀ n : Nat, n < 16 → ezn_cnN n = n % 2 + n / 2 % 2 + n / 4 % 2 + n / 8 % 2 := by decide +kernel
theorem ezn_cn_h {x k : Int} (x0 : 0 ≤ x) (x1 : x < 16) (k0 : 0 ≤ k) (k1 : k ≤ 4) (h : ∀ t, 0 ≤ t → t < 4 → ezt_b x t = 1 → t < k) : ezp_sm (fun t => ezt_b x t) k.toNat = ezn_cn x := by
  obtain ⟨n, rfl⟩ := Int.eq_ofNat_of_zero_le x0
  have hc := ezn_f8 n (by omega)
  have e : ezn_cn (n : Int) = ((ezn_cnN n : Nat) : Int) := by
    unfold ezn_cn
    rw [Int.toNat_natCast]
  have b0 : ezt_b (n : Int) 0 = ((n % 2 : Nat) : Int) := by
    have := ezn_b n 0
    rw [Nat.pow_zero, Nat.div_one] at this
    exact this
  have b1 : ezt_b (n : Int) 1 = ((n / 2 % 2 : Nat) : Int) := ezn_b n 1
  have b2 : ezt_b (n : Int) 2 = ((n / 4 % 2 : Nat) : Int) := ezn_b n 2
  have b3 : ezt_b (n : Int) 3 = ((n / 8 % 2 : Nat) : Int) := ezn_b n 3
  have h0 := h 0 (by decide) (by decide)
  have h1 := h 1 (by decide) (by decide)
  have h2 := h 2 (by decide) (by decide)
  have h3 := h 3 (by decide) (by decide)
  rw [e, hc]
  rcases (show k = 0 ∨ k = 1 ∨ k = 2 ∨ k = 3 ∨ k = 4 by omega) with rfl | rfl | rfl | rfl | rfl
  · show (0 : Int) = _
    omega
  · show 0 + ezt_b (n : Int) 0 = _
    omega
  · show 0 + ezt_b (n : Int) 0 + ezt_b (n : Int) 1 = _
    omega
  · show 0 + ezt_b (n : Int) 0 + ezt_b (n : Int) 1 + ezt_b (n : Int) 2 = _
    omega
  · show 0 + ezt_b (n : Int) 0 + ezt_b (n : Int) 1 + ezt_b (n : Int) 2 + ezt_b (n : Int) 3 = _
    omega
