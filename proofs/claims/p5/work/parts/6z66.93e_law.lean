/-! ===== the law ===== -/
def ezl_w (a b : Int) : Int := ezw_orl (a * 2 ^ (32 : Int).toNat) (ezw_andl b 4294967295)
theorem ezl_s0 {s t : Int} {a b : Int → Int} {y z : ezj_S} {g : Nat → ezq_C} (h : ezl_J s a t b y z g) : 0 ≤ s ∧ s ≤ 1000 := by
  obtain ⟨e, F, A, -, hS, hs, -, -⟩ := h
  rw [← hs.1]
  exact (hS 1 (by decide)).1 2
section KL
variable {l : Launch} {ρ : ezq_E} {B : Nat} {xa : Nat → Option Nat} {Hb : Heap} {D : va_G} {cA : Nat → ClassId} {d : Nat}
theorem ezl_c0 {L : Nat} (hL : L ≤ 3584) (hρ : ρ 8 = Int32.ofNat L) (hd : 60 ≤ d) {c : Int} (hc : ezw_in c) (h0 : 0 ≤ c) (h7 : c + 7 ≤ (L : Int)) {g : Nat → ezq_C} {s : Int} {a b : Int → Int} {y : ezj_S} (hJ : ezl_J s a s b y y g) (hE : ezf_eq s a b) (fin : ∀ (s : Int) (a b : Int → Int) (g : Nat → ezq_C) (y : ezj_S), ezl_J s a s b y y g → ezf_eq s a b → ezw_E l ρ B xa Hb D cA d ezq_re336 (fun v _ => v = some (ezw_i 1)) 1214 [some (ezq_xt 0), some (ezw_p 0), some (ezw_p 72), some (ezw_i c)] [] g) : ezw_E l ρ B xa Hb D cA d ezq_re336 (fun v _ => v = some (ezw_i 1)) 176 [some (ezq_xt 0), some (ezw_p 0), some (ezw_p 72), some (ezw_i c)] [] g := by
  obtain ⟨s1, hs1, es1⟩ : ∃ s1, ezw_in s1 ∧ (ρ (ezq_sx (c + 1).toNat)).toInt = s1 := ⟨_, ⟨Int32.le_toInt _, Int32.toInt_lt _⟩, rfl⟩
  obtain ⟨s2, hs2, es2⟩ : ∃ s2, ezw_in s2 ∧ (ρ (ezq_sx (c + 2).toNat)).toInt = s2 := ⟨_, ⟨Int32.le_toInt _, Int32.toInt_lt _⟩, rfl⟩
  obtain ⟨s3, hs3, es3⟩ : ∃ s3, ezw_in s3 ∧ (ρ (ezq_sx (c + 3).toNat)).toInt = s3 := ⟨_, ⟨Int32.le_toInt _, Int32.toInt_lt _⟩, rfl⟩
  obtain ⟨s4, hs4, es4⟩ : ∃ s4, ezw_in s4 ∧ (ρ (ezq_sx (c + 4).toNat)).toInt = s4 := ⟨_, ⟨Int32.le_toInt _, Int32.toInt_lt _⟩, rfl⟩
  obtain ⟨s5, hs5, es5⟩ : ∃ s5, ezw_in s5 ∧ (ρ (ezq_sx (c + 5).toNat)).toInt = s5 := ⟨_, ⟨Int32.le_toInt _, Int32.toInt_lt _⟩, rfl⟩
  obtain ⟨s6, hs6, es6⟩ : ∃ s6, ezw_in s6 ∧ (ρ (ezq_sx (c + 6).toNat)).toInt = s6 := ⟨_, ⟨Int32.le_toInt _, Int32.toInt_lt _⟩, rfl⟩
  obtain ⟨w1, hw1, ew1⟩ := ezw_wrapl (ezl_w s1 s2)
  obtain ⟨w3, hw3, ew3⟩ := ezw_wrapl (ezl_w s3 s4)
  obtain ⟨w5, hw5, ew5⟩ := ezw_wrapl (ezl_w s5 s6)
  have hs0 := ezl_s0 hJ
  have tpb := ezf_tp hE hs0.1 hs0.2
  have tpa : ezp_tp (ezp_ch a s) s := by rw [ezf_ch hE]; exact tpb
  refine ezw_aload_n rfl rfl ?_
  refine ezw_aloadx rfl rfl ?_
  refine ezw_iload_n rfl rfl ?_
  refine ezw_iconst (1) rfl rfl ?_
  refine ezw_iadd (k := c + 1) rfl (by omega) ?_
  refine ezw_sload rfl (by omega) (by omega) hL hρ ?_
  rw [es1]
  refine ezw_i2l rfl hs1 rfl ?_
  refine ezw_bipush (32) rfl rfl ?_
  refine ezw_lshl rfl (by omega) (by omega) rfl ?_
  refine ezw_aloadx rfl rfl ?_
  refine ezw_iload_n rfl rfl ?_
  refine ezw_iconst (2) rfl rfl ?_
  refine ezw_iadd (k := c + 2) rfl (by omega) ?_
  refine ezw_sload rfl (by omega) (by omega) hL hρ ?_
  rw [es2]
  refine ezw_i2l rfl hs2 rfl ?_
  refine ezw_ldc2_w (4294967295) rfl rfl ?_
  refine ezw_land rfl rfl ?_
  refine ezw_lor (k := ezl_w s1 s2) rfl rfl ?_
  rw [ew1]
  refine ezw_aloadx rfl rfl ?_
  refine ezw_iload_n rfl rfl ?_
  refine ezw_iconst (3) rfl rfl ?_
  refine ezw_iadd (k := c + 3) rfl (by omega) ?_
  refine ezw_sload rfl (by omega) (by omega) hL hρ ?_
  rw [es3]
  refine ezw_i2l rfl hs3 rfl ?_
  refine ezw_bipush (32) rfl rfl ?_
  refine ezw_lshl rfl (by omega) (by omega) rfl ?_
  refine ezw_aloadx rfl rfl ?_
  refine ezw_iload_n rfl rfl ?_
  refine ezw_iconst (4) rfl rfl ?_
  refine ezw_iadd (k := c + 4) rfl (by omega) ?_
  refine ezw_sload rfl (by omega) (by omega) hL hρ ?_
  rw [es4]
  refine ezw_i2l rfl hs4 rfl ?_
  refine ezw_ldc2_w (4294967295) rfl rfl ?_
  refine ezw_land rfl rfl ?_
  refine ezw_lor (k := ezl_w s3 s4) rfl rfl ?_
  rw [ew3]
  refine ezw_aloadx rfl rfl ?_
  refine ezw_iload_n rfl rfl ?_
  refine ezw_iconst (5) rfl rfl ?_
  refine ezw_iadd (k := c + 5) rfl (by omega) ?_
  refine ezw_sload rfl (by omega) (by omega) hL hρ ?_
  rw [es5]
  refine ezw_i2l rfl hs5 rfl ?_
  refine ezw_bipush (32) rfl rfl ?_
  refine ezw_lshl rfl (by omega) (by omega) rfl ?_
  refine ezw_aloadx rfl rfl ?_
  refine ezw_iload_n rfl rfl ?_
  refine ezw_bipush (6) rfl rfl ?_
  refine ezw_iadd (k := c + 6) rfl (by omega) ?_
  refine ezw_sload rfl (by omega) (by omega) hL hρ ?_
  rw [es6]
  refine ezw_i2l rfl hs6 rfl ?_
  refine ezw_ldc2_w (4294967295) rfl rfl ?_
  refine ezw_land rfl rfl ?_
  refine ezw_lor (k := ezl_w s5 s6) rfl rfl ?_
  rw [ew5]
  obtain ⟨fs1, ex1⟩ := ezl_x0 hJ
  refine ezw_call0_3 rfl (by omega) ex1 rfl rfl rfl rfl (ezj_x19 hJ (by omega) hw1 hw3 hw5) ?_
  rintro _ g1 ⟨⟨u1, rfl⟩, hJ1⟩
  refine ezw_pop rfl rfl ?_
  refine ezw_aload_n rfl rfl ?_
  refine ezw_aloadx rfl rfl ?_
  refine ezw_iload_n rfl rfl ?_
  refine ezw_iconst (1) rfl rfl ?_
  refine ezw_iadd (k := c + 1) rfl (by omega) ?_
  refine ezw_sload rfl (by omega) (by omega) hL hρ ?_
  rw [es1]
  refine ezw_i2l rfl hs1 rfl ?_
  refine ezw_bipush (32) rfl rfl ?_
  refine ezw_lshl rfl (by omega) (by omega) rfl ?_
  refine ezw_aloadx rfl rfl ?_
  refine ezw_iload_n rfl rfl ?_
  refine ezw_iconst (2) rfl rfl ?_
  refine ezw_iadd (k := c + 2) rfl (by omega) ?_
  refine ezw_sload rfl (by omega) (by omega) hL hρ ?_
  rw [es2]
  refine ezw_i2l rfl hs2 rfl ?_
  refine ezw_ldc2_w (4294967295) rfl rfl ?_
  refine ezw_land rfl rfl ?_
  refine ezw_lor (k := ezl_w s1 s2) rfl rfl ?_
  rw [ew1]
  refine ezw_aloadx rfl rfl ?_
  refine ezw_iload_n rfl rfl ?_
  refine ezw_iconst (3) rfl rfl ?_
  refine ezw_iadd (k := c + 3) rfl (by omega) ?_
  refine ezw_sload rfl (by omega) (by omega) hL hρ ?_
  rw [es3]
  refine ezw_i2l rfl hs3 rfl ?_
  refine ezw_bipush (32) rfl rfl ?_
  refine ezw_lshl rfl (by omega) (by omega) rfl ?_
  refine ezw_aloadx rfl rfl ?_
  refine ezw_iload_n rfl rfl ?_
  refine ezw_iconst (4) rfl rfl ?_
  refine ezw_iadd (k := c + 4) rfl (by omega) ?_
  refine ezw_sload rfl (by omega) (by omega) hL hρ ?_
  rw [es4]
  refine ezw_i2l rfl hs4 rfl ?_
  refine ezw_ldc2_w (4294967295) rfl rfl ?_
  refine ezw_land rfl rfl ?_
  refine ezw_lor (k := ezl_w s3 s4) rfl rfl ?_
  rw [ew3]
  refine ezw_aloadx rfl rfl ?_
  refine ezw_iload_n rfl rfl ?_
  refine ezw_iconst (5) rfl rfl ?_
  refine ezw_iadd (k := c + 5) rfl (by omega) ?_
  refine ezw_sload rfl (by omega) (by omega) hL hρ ?_
  rw [es5]
  refine ezw_i2l rfl hs5 rfl ?_
  refine ezw_bipush (32) rfl rfl ?_
  refine ezw_lshl rfl (by omega) (by omega) rfl ?_
  refine ezw_aloadx rfl rfl ?_
  refine ezw_iload_n rfl rfl ?_
  refine ezw_bipush (6) rfl rfl ?_
  refine ezw_iadd (k := c + 6) rfl (by omega) ?_
  refine ezw_sload rfl (by omega) (by omega) hL hρ ?_
  rw [es6]
  refine ezw_i2l rfl hs6 rfl ?_
  refine ezw_ldc2_w (4294967295) rfl rfl ?_
  refine ezw_land rfl rfl ?_
  refine ezw_lor (k := ezl_w s5 s6) rfl rfl ?_
  rw [ew5]
  obtain ⟨fs2, ex2⟩ := ezl_m0 hJ1
  refine ezw_call0_3 rfl (by omega) ex2 rfl rfl rfl rfl (ezj_m210 hJ1 (by omega) hw1 hw3 hw5) ?_
  rintro _ g2 ⟨⟨u2, rfl⟩, hJ2⟩
  refine ezw_pop rfl rfl ?_
  refine ezw_goto rfl rfl ?_
  exact fin _ _ _ g2 y (by rw [(ezf3_eqs w1 w3 w5 hs0.1 hE).1] at hJ2; exact hJ2) (ezf3_eqs w1 w3 w5 hs0.1 hE).2
theorem ezl_c1 {L : Nat} (hL : L ≤ 3584) (hρ : ρ 8 = Int32.ofNat L) (hd : 60 ≤ d) {c : Int} (hc : ezw_in c) (h0 : 0 ≤ c) (h7 : c + 7 ≤ (L : Int)) {g : Nat → ezq_C} {s : Int} {a b : Int → Int} {y : ezj_S} (hJ : ezl_J s a s b y y g) (hE : ezf_eq s a b) (fin : ∀ (s : Int) (a b : Int → Int) (g : Nat → ezq_C) (y : ezj_S), ezl_J s a s b y y g → ezf_eq s a b → ezw_E l ρ B xa Hb D cA d ezq_re336 (fun v _ => v = some (ezw_i 1)) 1214 [some (ezq_xt 0), some (ezw_p 0), some (ezw_p 72), some (ezw_i c)] [] g) : ezw_E l ρ B xa Hb D cA d ezq_re336 (fun v _ => v = some (ezw_i 1)) 311 [some (ezq_xt 0), some (ezw_p 0), some (ezw_p 72), some (ezw_i c)] [] g := by
  have hs0 := ezl_s0 hJ
  have tpb := ezf_tp hE hs0.1 hs0.2
  have tpa : ezp_tp (ezp_ch a s) s := by rw [ezf_ch hE]; exact tpb
  have hq := ezl_hz hJ
  refine ezw_aload_n rfl rfl ?_
  obtain ⟨fs1, ex1⟩ := ezl_x0 hJ
  refine ezw_call0_0 rfl (by omega) ex1 rfl rfl rfl rfl (ezj_x22 hJ (by omega) tpa) ?_
  rintro _ g1 ⟨⟨hin, rfl⟩, a1, hJ1⟩
  refine ezw_pop rfl rfl ?_
  refine ezw_aload_n rfl rfl ?_
  obtain ⟨fs2, ex2⟩ := ezl_m0 hJ1
  refine ezw_call0_0 rfl (by omega) ex2 rfl rfl rfl rfl (ezj_m217 hJ1 (by omega) tpb hq) ?_
  rintro _ g2 ⟨rfl, hJ2⟩
  refine ezw_pop rfl rfl ?_
  refine ezw_goto rfl rfl ?_
  exact fin 0 _ b g2 _ (by rw [ezf_ch hE] at hJ2; exact hJ2) (fun j j0 j1 => absurd j1 (by omega))
theorem ezl_c2 {L : Nat} (hL : L ≤ 3584) (hρ : ρ 8 = Int32.ofNat L) (hd : 60 ≤ d) {c : Int} (hc : ezw_in c) (h0 : 0 ≤ c) (h7 : c + 7 ≤ (L : Int)) {g : Nat → ezq_C} {s : Int} {a b : Int → Int} {y : ezj_S} (hJ : ezl_J s a s b y y g) (hE : ezf_eq s a b) (fin : ∀ (s : Int) (a b : Int → Int) (g : Nat → ezq_C) (y : ezj_S), ezl_J s a s b y y g → ezf_eq s a b → ezw_E l ρ B xa Hb D cA d ezq_re336 (fun v _ => v = some (ezw_i 1)) 1214 [some (ezq_xt 0), some (ezw_p 0), some (ezw_p 72), some (ezw_i c)] [] g) : ezw_E l ρ B xa Hb D cA d ezq_re336 (fun v _ => v = some (ezw_i 1)) 324 [some (ezq_xt 0), some (ezw_p 0), some (ezw_p 72), some (ezw_i c)] [] g := by
  have hq := ezl_hz hJ
  refine ezw_aload_n rfl rfl ?_
  obtain ⟨fs1, ex1⟩ := ezl_x0 hJ
  refine ezw_call0_0 rfl (by omega) ex1 rfl rfl rfl rfl (ezj_x99 hJ (by omega)) ?_
  rintro _ g1 ⟨⟨u1, rfl⟩, a1, hJ1⟩
  refine ezw_pop rfl rfl ?_
  refine ezw_aload_n rfl rfl ?_
  obtain ⟨fs2, ex2⟩ := ezl_m0 hJ1
  refine ezw_call0_0 rfl (by omega) ex2 rfl rfl rfl rfl (ezj_m254 hJ1 (by omega) hq) ?_
  rintro _ g2 ⟨⟨u2, rfl⟩, hJ2⟩
  refine ezw_pop rfl rfl ?_
  refine ezw_goto rfl rfl ?_
  exact fin 0 _ b g2 _ hJ2 (fun j j0 j1 => absurd j1 (by omega))
theorem ezl_c3 {L : Nat} (hL : L ≤ 3584) (hρ : ρ 8 = Int32.ofNat L) (hd : 60 ≤ d) {c : Int} (hc : ezw_in c) (h0 : 0 ≤ c) (h7 : c + 7 ≤ (L : Int)) {g : Nat → ezq_C} {s : Int} {a b : Int → Int} {y : ezj_S} (hJ : ezl_J s a s b y y g) (hE : ezf_eq s a b) (fin : ∀ (s : Int) (a b : Int → Int) (g : Nat → ezq_C) (y : ezj_S), ezl_J s a s b y y g → ezf_eq s a b → ezw_E l ρ B xa Hb D cA d ezq_re336 (fun v _ => v = some (ezw_i 1)) 1214 [some (ezq_xt 0), some (ezw_p 0), some (ezw_p 72), some (ezw_i c)] [] g) : ezw_E l ρ B xa Hb D cA d ezq_re336 (fun v _ => v = some (ezw_i 1)) 337 [some (ezq_xt 0), some (ezw_p 0), some (ezw_p 72), some (ezw_i c)] [] g := by
  obtain ⟨s1, hs1, es1⟩ : ∃ s1, ezw_in s1 ∧ (ρ (ezq_sx (c + 1).toNat)).toInt = s1 := ⟨_, ⟨Int32.le_toInt _, Int32.toInt_lt _⟩, rfl⟩
  obtain ⟨s2, hs2, es2⟩ : ∃ s2, ezw_in s2 ∧ (ρ (ezq_sx (c + 2).toNat)).toInt = s2 := ⟨_, ⟨Int32.le_toInt _, Int32.toInt_lt _⟩, rfl⟩
  have hq := ezl_hz hJ
  refine ezw_aload_n rfl rfl ?_
  refine ezw_aloadx rfl rfl ?_
  refine ezw_iload_n rfl rfl ?_
  refine ezw_iconst (1) rfl rfl ?_
  refine ezw_iadd (k := c + 1) rfl (by omega) ?_
  refine ezw_sload rfl (by omega) (by omega) hL hρ ?_
  rw [es1]
  refine ezw_aloadx rfl rfl ?_
  refine ezw_iload_n rfl rfl ?_
  refine ezw_iconst (2) rfl rfl ?_
  refine ezw_iadd (k := c + 2) rfl (by omega) ?_
  refine ezw_sload rfl (by omega) (by omega) hL hρ ?_
  rw [es2]
  obtain ⟨fs1, ex1⟩ := ezl_x0 hJ
  refine ezw_call0_2 rfl (by omega) ex1 rfl rfl rfl rfl (ezj_x105 hJ (by omega) hs1 hs2) ?_
  rintro _ g1 ⟨u1, y1, hu1, n1, rfl, hJ1⟩
  refine ezw_aload_n rfl rfl ?_
  refine ezw_aloadx rfl rfl ?_
  refine ezw_iload_n rfl rfl ?_
  refine ezw_iconst (1) rfl rfl ?_
  refine ezw_iadd (k := c + 1) rfl (by omega) ?_
  refine ezw_sload rfl (by omega) (by omega) hL hρ ?_
  rw [es1]
  refine ezw_aloadx rfl rfl ?_
  refine ezw_iload_n rfl rfl ?_
  refine ezw_iconst (2) rfl rfl ?_
  refine ezw_iadd (k := c + 2) rfl (by omega) ?_
  refine ezw_sload rfl (by omega) (by omega) hL hρ ?_
  rw [es2]
  obtain ⟨fs2, ex2⟩ := ezl_m0 hJ1
  refine ezw_call0_2 rfl (by omega) ex2 rfl rfl rfl rfl (ezj_m256 hJ1 (by omega) hs1 hs2 hq) ?_
  rintro _ g2 ⟨u2, y2, hu2, n2, rfl, hJ2⟩
  obtain ⟨hte2, hye2⟩ := ezj_N3_f n1 n2
  subst hye2
  refine ezw_icmp_eq rfl rfl hu1 hu2 (fun _ => ?_) (fun hne => absurd hte2 hne)
  exact fin s a b g2 y1 hJ2 hE
theorem ezl_c4 {L : Nat} (hL : L ≤ 3584) (hρ : ρ 8 = Int32.ofNat L) (hd : 60 ≤ d) {c : Int} (hc : ezw_in c) (h0 : 0 ≤ c) (h7 : c + 7 ≤ (L : Int)) {g : Nat → ezq_C} {s : Int} {a b : Int → Int} {y : ezj_S} (hJ : ezl_J s a s b y y g) (hE : ezf_eq s a b) (fin : ∀ (s : Int) (a b : Int → Int) (g : Nat → ezq_C) (y : ezj_S), ezl_J s a s b y y g → ezf_eq s a b → ezw_E l ρ B xa Hb D cA d ezq_re336 (fun v _ => v = some (ezw_i 1)) 1214 [some (ezq_xt 0), some (ezw_p 0), some (ezw_p 72), some (ezw_i c)] [] g) : ezw_E l ρ B xa Hb D cA d ezq_re336 (fun v _ => v = some (ezw_i 1)) 370 [some (ezq_xt 0), some (ezw_p 0), some (ezw_p 72), some (ezw_i c)] [] g := by
  obtain ⟨s1, hs1, es1⟩ : ∃ s1, ezw_in s1 ∧ (ρ (ezq_sx (c + 1).toNat)).toInt = s1 := ⟨_, ⟨Int32.le_toInt _, Int32.toInt_lt _⟩, rfl⟩
  obtain ⟨s2, hs2, es2⟩ : ∃ s2, ezw_in s2 ∧ (ρ (ezq_sx (c + 2).toNat)).toInt = s2 := ⟨_, ⟨Int32.le_toInt _, Int32.toInt_lt _⟩, rfl⟩
  have hq := ezl_hz hJ
  refine ezw_aload_n rfl rfl ?_
  refine ezw_aloadx rfl rfl ?_
  refine ezw_iload_n rfl rfl ?_
  refine ezw_iconst (1) rfl rfl ?_
  refine ezw_iadd (k := c + 1) rfl (by omega) ?_
  refine ezw_sload rfl (by omega) (by omega) hL hρ ?_
  rw [es1]
  refine ezw_aloadx rfl rfl ?_
  refine ezw_iload_n rfl rfl ?_
  refine ezw_iconst (2) rfl rfl ?_
  refine ezw_iadd (k := c + 2) rfl (by omega) ?_
  refine ezw_sload rfl (by omega) (by omega) hL hρ ?_
  rw [es2]
  obtain ⟨fs1, ex1⟩ := ezl_x0 hJ
  refine ezw_call0_2 rfl (by omega) ex1 rfl rfl rfl rfl (ezj_x110 hJ (by omega) hs1 hs2) ?_
  rintro _ g1 ⟨u1, y1, hu1, n1, rfl, hJ1⟩
  refine ezw_pop rfl rfl ?_
  refine ezw_aload_n rfl rfl ?_
  refine ezw_aloadx rfl rfl ?_
  refine ezw_iload_n rfl rfl ?_
  refine ezw_iconst (1) rfl rfl ?_
  refine ezw_iadd (k := c + 1) rfl (by omega) ?_
  refine ezw_sload rfl (by omega) (by omega) hL hρ ?_
  rw [es1]
  refine ezw_aloadx rfl rfl ?_
  refine ezw_iload_n rfl rfl ?_
  refine ezw_iconst (2) rfl rfl ?_
  refine ezw_iadd (k := c + 2) rfl (by omega) ?_
  refine ezw_sload rfl (by omega) (by omega) hL hρ ?_
  rw [es2]
  obtain ⟨fs2, ex2⟩ := ezl_m0 hJ1
  refine ezw_call0_2 rfl (by omega) ex2 rfl rfl rfl rfl (ezj_m261 hJ1 (by omega) hs1 hs2 hq) ?_
  rintro _ g2 ⟨u2, y2, hu2, n2, rfl, hJ2⟩
  obtain ⟨hte2, hye2⟩ := ezj_N4_f n1 n2
  subst hye2
  refine ezw_pop rfl rfl ?_
  refine ezw_goto rfl rfl ?_
  exact fin s a b g2 y1 hJ2 hE
theorem ezl_c5 {L : Nat} (hL : L ≤ 3584) (hρ : ρ 8 = Int32.ofNat L) (hd : 60 ≤ d) {c : Int} (hc : ezw_in c) (h0 : 0 ≤ c) (h7 : c + 7 ≤ (L : Int)) {g : Nat → ezq_C} {s : Int} {a b : Int → Int} {y : ezj_S} (hJ : ezl_J s a s b y y g) (hE : ezf_eq s a b) (fin : ∀ (s : Int) (a b : Int → Int) (g : Nat → ezq_C) (y : ezj_S), ezl_J s a s b y y g → ezf_eq s a b → ezw_E l ρ B xa Hb D cA d ezq_re336 (fun v _ => v = some (ezw_i 1)) 1214 [some (ezq_xt 0), some (ezw_p 0), some (ezw_p 72), some (ezw_i c)] [] g) : ezw_E l ρ B xa Hb D cA d ezq_re336 (fun v _ => v = some (ezw_i 1)) 403 [some (ezq_xt 0), some (ezw_p 0), some (ezw_p 72), some (ezw_i c)] [] g := by
  obtain ⟨s1, hs1, es1⟩ : ∃ s1, ezw_in s1 ∧ (ρ (ezq_sx (c + 1).toNat)).toInt = s1 := ⟨_, ⟨Int32.le_toInt _, Int32.toInt_lt _⟩, rfl⟩
  obtain ⟨s2, hs2, es2⟩ : ∃ s2, ezw_in s2 ∧ (ρ (ezq_sx (c + 2).toNat)).toInt = s2 := ⟨_, ⟨Int32.le_toInt _, Int32.toInt_lt _⟩, rfl⟩
  obtain ⟨s3, hs3, es3⟩ : ∃ s3, ezw_in s3 ∧ (ρ (ezq_sx (c + 3).toNat)).toInt = s3 := ⟨_, ⟨Int32.le_toInt _, Int32.toInt_lt _⟩, rfl⟩
  have hq := ezl_hz hJ
  refine ezw_aload_n rfl rfl ?_
  refine ezw_aloadx rfl rfl ?_
  refine ezw_iload_n rfl rfl ?_
  refine ezw_iconst (1) rfl rfl ?_
  refine ezw_iadd (k := c + 1) rfl (by omega) ?_
  refine ezw_sload rfl (by omega) (by omega) hL hρ ?_
  rw [es1]
  refine ezw_aloadx rfl rfl ?_
  refine ezw_iload_n rfl rfl ?_
  refine ezw_iconst (2) rfl rfl ?_
  refine ezw_iadd (k := c + 2) rfl (by omega) ?_
  refine ezw_sload rfl (by omega) (by omega) hL hρ ?_
  rw [es2]
  refine ezw_if_eq rfl rfl hs2 (fun h1 => ?_) (fun h1 => ?_)
  · refine ezw_iconst (0) rfl rfl ?_
    refine ezw_aloadx rfl rfl ?_
    refine ezw_iload_n rfl rfl ?_
    refine ezw_iconst (3) rfl rfl ?_
    refine ezw_iadd (k := c + 3) rfl (by omega) ?_
    refine ezw_sload rfl (by omega) (by omega) hL hρ ?_
    rw [es3]
    obtain ⟨fs2, ex2⟩ := ezl_x0 hJ
    refine ezw_call0_3 rfl (by omega) ex2 rfl rfl rfl rfl (ezj_x111 hJ (by omega) hs1 ⟨by decide, by decide⟩ hs3 ⟨by decide, by decide⟩) ?_
    rintro _ g2 ⟨u2, y2, hu2, n2, rfl, hJ2⟩
    refine ezw_pop rfl rfl ?_
    refine ezw_aload_n rfl rfl ?_
    refine ezw_aloadx rfl rfl ?_
    refine ezw_iload_n rfl rfl ?_
    refine ezw_iconst (1) rfl rfl ?_
    refine ezw_iadd (k := c + 1) rfl (by omega) ?_
    refine ezw_sload rfl (by omega) (by omega) hL hρ ?_
    rw [es1]
    refine ezw_aloadx rfl rfl ?_
    refine ezw_iload_n rfl rfl ?_
    refine ezw_iconst (2) rfl rfl ?_
    refine ezw_iadd (k := c + 2) rfl (by omega) ?_
    refine ezw_sload rfl (by omega) (by omega) hL hρ ?_
    rw [es2]
    refine ezw_if_eq rfl rfl hs2 (fun h3 => ?_) (fun h3 => ?_)
    · refine ezw_iconst (0) rfl rfl ?_
      refine ezw_aloadx rfl rfl ?_
      refine ezw_iload_n rfl rfl ?_
      refine ezw_iconst (3) rfl rfl ?_
      refine ezw_iadd (k := c + 3) rfl (by omega) ?_
      refine ezw_sload rfl (by omega) (by omega) hL hρ ?_
      rw [es3]
      obtain ⟨fs4, ex4⟩ := ezl_m0 hJ2
      refine ezw_call0_3 rfl (by omega) ex4 rfl rfl rfl rfl (ezj_m264 hJ2 (by omega) hs1 ⟨by decide, by decide⟩ hs3 ⟨by decide, by decide⟩ hq) ?_
      rintro _ g4 ⟨u4, y4, hu4, n4, rfl, hJ4⟩
      obtain ⟨hte4, hye4⟩ := ezj_N5_f n2 n4
      subst hye4
      refine ezw_pop rfl rfl ?_
      refine ezw_goto rfl rfl ?_
      exact fin s a b g4 y2 hJ4 hE
    · exfalso
      omega
  · refine ezw_iconst (1) rfl rfl ?_
    refine ezw_goto rfl rfl ?_
    refine ezw_aloadx rfl rfl ?_
    refine ezw_iload_n rfl rfl ?_
    refine ezw_iconst (3) rfl rfl ?_
    refine ezw_iadd (k := c + 3) rfl (by omega) ?_
    refine ezw_sload rfl (by omega) (by omega) hL hρ ?_
    rw [es3]
    obtain ⟨fs5, ex5⟩ := ezl_x0 hJ
    refine ezw_call0_3 rfl (by omega) ex5 rfl rfl rfl rfl (ezj_x111 hJ (by omega) hs1 ⟨by decide, by decide⟩ hs3 ⟨by decide, by decide⟩) ?_
    rintro _ g5 ⟨u5, y5, hu5, n5, rfl, hJ5⟩
    refine ezw_pop rfl rfl ?_
    refine ezw_aload_n rfl rfl ?_
    refine ezw_aloadx rfl rfl ?_
    refine ezw_iload_n rfl rfl ?_
    refine ezw_iconst (1) rfl rfl ?_
    refine ezw_iadd (k := c + 1) rfl (by omega) ?_
    refine ezw_sload rfl (by omega) (by omega) hL hρ ?_
    rw [es1]
    refine ezw_aloadx rfl rfl ?_
    refine ezw_iload_n rfl rfl ?_
    refine ezw_iconst (2) rfl rfl ?_
    refine ezw_iadd (k := c + 2) rfl (by omega) ?_
    refine ezw_sload rfl (by omega) (by omega) hL hρ ?_
    rw [es2]
    refine ezw_if_eq rfl rfl hs2 (fun h6 => ?_) (fun h6 => ?_)
    · exfalso
      omega
    · refine ezw_iconst (1) rfl rfl ?_
      refine ezw_goto rfl rfl ?_
      refine ezw_aloadx rfl rfl ?_
      refine ezw_iload_n rfl rfl ?_
      refine ezw_iconst (3) rfl rfl ?_
      refine ezw_iadd (k := c + 3) rfl (by omega) ?_
      refine ezw_sload rfl (by omega) (by omega) hL hρ ?_
      rw [es3]
      obtain ⟨fs7, ex7⟩ := ezl_m0 hJ5
      refine ezw_call0_3 rfl (by omega) ex7 rfl rfl rfl rfl (ezj_m264 hJ5 (by omega) hs1 ⟨by decide, by decide⟩ hs3 ⟨by decide, by decide⟩ hq) ?_
      rintro _ g7 ⟨u7, y7, hu7, n7, rfl, hJ7⟩
      obtain ⟨hte7, hye7⟩ := ezj_N5_f n5 n7
      subst hye7
      refine ezw_pop rfl rfl ?_
      refine ezw_goto rfl rfl ?_
      exact fin s a b g7 y5 hJ7 hE
theorem ezl_c6 {L : Nat} (hL : L ≤ 3584) (hρ : ρ 8 = Int32.ofNat L) (hd : 60 ≤ d) {c : Int} (hc : ezw_in c) (h0 : 0 ≤ c) (h7 : c + 7 ≤ (L : Int)) {g : Nat → ezq_C} {s : Int} {a b : Int → Int} {y : ezj_S} (hJ : ezl_J s a s b y y g) (hE : ezf_eq s a b) (fin : ∀ (s : Int) (a b : Int → Int) (g : Nat → ezq_C) (y : ezj_S), ezl_J s a s b y y g → ezf_eq s a b → ezw_E l ρ B xa Hb D cA d ezq_re336 (fun v _ => v = some (ezw_i 1)) 1214 [some (ezq_xt 0), some (ezw_p 0), some (ezw_p 72), some (ezw_i c)] [] g) : ezw_E l ρ B xa Hb D cA d ezq_re336 (fun v _ => v = some (ezw_i 1)) 462 [some (ezq_xt 0), some (ezw_p 0), some (ezw_p 72), some (ezw_i c)] [] g := by
  obtain ⟨s1, hs1, es1⟩ : ∃ s1, ezw_in s1 ∧ (ρ (ezq_sx (c + 1).toNat)).toInt = s1 := ⟨_, ⟨Int32.le_toInt _, Int32.toInt_lt _⟩, rfl⟩
  obtain ⟨s2, hs2, es2⟩ : ∃ s2, ezw_in s2 ∧ (ρ (ezq_sx (c + 2).toNat)).toInt = s2 := ⟨_, ⟨Int32.le_toInt _, Int32.toInt_lt _⟩, rfl⟩
  obtain ⟨s3, hs3, es3⟩ : ∃ s3, ezw_in s3 ∧ (ρ (ezq_sx (c + 3).toNat)).toInt = s3 := ⟨_, ⟨Int32.le_toInt _, Int32.toInt_lt _⟩, rfl⟩
  have hq := ezl_hz hJ
  refine ezw_aload_n rfl rfl ?_
  refine ezw_aloadx rfl rfl ?_
  refine ezw_iload_n rfl rfl ?_
  refine ezw_iconst (1) rfl rfl ?_
  refine ezw_iadd (k := c + 1) rfl (by omega) ?_
  refine ezw_sload rfl (by omega) (by omega) hL hρ ?_
  rw [es1]
  refine ezw_aloadx rfl rfl ?_
  refine ezw_iload_n rfl rfl ?_
  refine ezw_iconst (2) rfl rfl ?_
  refine ezw_iadd (k := c + 2) rfl (by omega) ?_
  refine ezw_sload rfl (by omega) (by omega) hL hρ ?_
  rw [es2]
  refine ezw_if_eq rfl rfl hs2 (fun h1 => ?_) (fun h1 => ?_)
  · refine ezw_iconst (0) rfl rfl ?_
    refine ezw_aloadx rfl rfl ?_
    refine ezw_iload_n rfl rfl ?_
    refine ezw_iconst (3) rfl rfl ?_
    refine ezw_iadd (k := c + 3) rfl (by omega) ?_
    refine ezw_sload rfl (by omega) (by omega) hL hρ ?_
    rw [es3]
    obtain ⟨fs2, ex2⟩ := ezl_x0 hJ
    refine ezw_call0_3 rfl (by omega) ex2 rfl rfl rfl rfl (ezj_x117 hJ (by omega) hs1 ⟨by decide, by decide⟩ hs3 ⟨by decide, by decide⟩) ?_
    rintro _ g2 ⟨u2, y2, hu2, n2, rfl, hJ2⟩
    refine ezw_pop rfl rfl ?_
    refine ezw_aload_n rfl rfl ?_
    refine ezw_aloadx rfl rfl ?_
    refine ezw_iload_n rfl rfl ?_
    refine ezw_iconst (1) rfl rfl ?_
    refine ezw_iadd (k := c + 1) rfl (by omega) ?_
    refine ezw_sload rfl (by omega) (by omega) hL hρ ?_
    rw [es1]
    refine ezw_aloadx rfl rfl ?_
    refine ezw_iload_n rfl rfl ?_
    refine ezw_iconst (2) rfl rfl ?_
    refine ezw_iadd (k := c + 2) rfl (by omega) ?_
    refine ezw_sload rfl (by omega) (by omega) hL hρ ?_
    rw [es2]
    refine ezw_if_eq rfl rfl hs2 (fun h3 => ?_) (fun h3 => ?_)
    · refine ezw_iconst (0) rfl rfl ?_
      refine ezw_aloadx rfl rfl ?_
      refine ezw_iload_n rfl rfl ?_
      refine ezw_iconst (3) rfl rfl ?_
      refine ezw_iadd (k := c + 3) rfl (by omega) ?_
      refine ezw_sload rfl (by omega) (by omega) hL hρ ?_
      rw [es3]
      obtain ⟨fs4, ex4⟩ := ezl_m0 hJ2
      refine ezw_call0_3 rfl (by omega) ex4 rfl rfl rfl rfl (ezj_m272 hJ2 (by omega) hs1 ⟨by decide, by decide⟩ hs3 ⟨by decide, by decide⟩ hq) ?_
      rintro _ g4 ⟨u4, y4, hu4, n4, rfl, hJ4⟩
      obtain ⟨hte4, hye4⟩ := ezj_N6_f n2 n4
      subst hye4
      refine ezw_pop rfl rfl ?_
      refine ezw_goto rfl rfl ?_
      exact fin s a b g4 y2 hJ4 hE
    · exfalso
      omega
  · refine ezw_iconst (1) rfl rfl ?_
    refine ezw_goto rfl rfl ?_
    refine ezw_aloadx rfl rfl ?_
    refine ezw_iload_n rfl rfl ?_
    refine ezw_iconst (3) rfl rfl ?_
    refine ezw_iadd (k := c + 3) rfl (by omega) ?_
    refine ezw_sload rfl (by omega) (by omega) hL hρ ?_
    rw [es3]
    obtain ⟨fs5, ex5⟩ := ezl_x0 hJ
    refine ezw_call0_3 rfl (by omega) ex5 rfl rfl rfl rfl (ezj_x117 hJ (by omega) hs1 ⟨by decide, by decide⟩ hs3 ⟨by decide, by decide⟩) ?_
    rintro _ g5 ⟨u5, y5, hu5, n5, rfl, hJ5⟩
    refine ezw_pop rfl rfl ?_
    refine ezw_aload_n rfl rfl ?_
    refine ezw_aloadx rfl rfl ?_
    refine ezw_iload_n rfl rfl ?_
    refine ezw_iconst (1) rfl rfl ?_
    refine ezw_iadd (k := c + 1) rfl (by omega) ?_
    refine ezw_sload rfl (by omega) (by omega) hL hρ ?_
    rw [es1]
    refine ezw_aloadx rfl rfl ?_
    refine ezw_iload_n rfl rfl ?_
    refine ezw_iconst (2) rfl rfl ?_
    refine ezw_iadd (k := c + 2) rfl (by omega) ?_
    refine ezw_sload rfl (by omega) (by omega) hL hρ ?_
    rw [es2]
    refine ezw_if_eq rfl rfl hs2 (fun h6 => ?_) (fun h6 => ?_)
    · exfalso
      omega
    · refine ezw_iconst (1) rfl rfl ?_
      refine ezw_goto rfl rfl ?_
      refine ezw_aloadx rfl rfl ?_
      refine ezw_iload_n rfl rfl ?_
      refine ezw_iconst (3) rfl rfl ?_
      refine ezw_iadd (k := c + 3) rfl (by omega) ?_
      refine ezw_sload rfl (by omega) (by omega) hL hρ ?_
      rw [es3]
      obtain ⟨fs7, ex7⟩ := ezl_m0 hJ5
      refine ezw_call0_3 rfl (by omega) ex7 rfl rfl rfl rfl (ezj_m272 hJ5 (by omega) hs1 ⟨by decide, by decide⟩ hs3 ⟨by decide, by decide⟩ hq) ?_
      rintro _ g7 ⟨u7, y7, hu7, n7, rfl, hJ7⟩
      obtain ⟨hte7, hye7⟩ := ezj_N6_f n5 n7
      subst hye7
      refine ezw_pop rfl rfl ?_
      refine ezw_goto rfl rfl ?_
      exact fin s a b g7 y5 hJ7 hE
theorem ezl_c7 {L : Nat} (hL : L ≤ 3584) (hρ : ρ 8 = Int32.ofNat L) (hd : 60 ≤ d) {c : Int} (hc : ezw_in c) (h0 : 0 ≤ c) (h7 : c + 7 ≤ (L : Int)) {g : Nat → ezq_C} {s : Int} {a b : Int → Int} {y : ezj_S} (hJ : ezl_J s a s b y y g) (hE : ezf_eq s a b) (fin : ∀ (s : Int) (a b : Int → Int) (g : Nat → ezq_C) (y : ezj_S), ezl_J s a s b y y g → ezf_eq s a b → ezw_E l ρ B xa Hb D cA d ezq_re336 (fun v _ => v = some (ezw_i 1)) 1214 [some (ezq_xt 0), some (ezw_p 0), some (ezw_p 72), some (ezw_i c)] [] g) : ezw_E l ρ B xa Hb D cA d ezq_re336 (fun v _ => v = some (ezw_i 1)) 521 [some (ezq_xt 0), some (ezw_p 0), some (ezw_p 72), some (ezw_i c)] [] g := by
  have hq := ezl_hz hJ
  refine ezw_aload_n rfl rfl ?_
  obtain ⟨fs1, ex1⟩ := ezl_x0 hJ
  refine ezw_call0_0 rfl (by omega) ex1 rfl rfl rfl rfl (ezj_x133 hJ (by omega)) ?_
  rintro _ g1 ⟨u1, y1, hu1, n1, rfl, hJ1⟩
  refine ezw_pop rfl rfl ?_
  refine ezw_aload_n rfl rfl ?_
  obtain ⟨fs2, ex2⟩ := ezl_m0 hJ1
  refine ezw_call0_0 rfl (by omega) ex2 rfl rfl rfl rfl (ezj_m278 hJ1 (by omega) hq) ?_
  rintro _ g2 ⟨u2, y2, hu2, n2, rfl, hJ2⟩
  obtain ⟨hte2, hye2⟩ := ezj_N7_f n1 n2
  subst hye2
  refine ezw_pop rfl rfl ?_
  refine ezw_goto rfl rfl ?_
  exact fin s a b g2 y1 hJ2 hE
theorem ezl_c8 {L : Nat} (hL : L ≤ 3584) (hρ : ρ 8 = Int32.ofNat L) (hd : 60 ≤ d) {c : Int} (hc : ezw_in c) (h0 : 0 ≤ c) (h7 : c + 7 ≤ (L : Int)) {g : Nat → ezq_C} {s : Int} {a b : Int → Int} {y : ezj_S} (hJ : ezl_J s a s b y y g) (hE : ezf_eq s a b) (fin : ∀ (s : Int) (a b : Int → Int) (g : Nat → ezq_C) (y : ezj_S), ezl_J s a s b y y g → ezf_eq s a b → ezw_E l ρ B xa Hb D cA d ezq_re336 (fun v _ => v = some (ezw_i 1)) 1214 [some (ezq_xt 0), some (ezw_p 0), some (ezw_p 72), some (ezw_i c)] [] g) : ezw_E l ρ B xa Hb D cA d ezq_re336 (fun v _ => v = some (ezw_i 1)) 534 [some (ezq_xt 0), some (ezw_p 0), some (ezw_p 72), some (ezw_i c)] [] g := by
  have hq := ezl_hz hJ
  refine ezw_aload_n rfl rfl ?_
  obtain ⟨fs1, ex1⟩ := ezl_x0 hJ
  refine ezw_call0_0 rfl (by omega) ex1 rfl rfl rfl rfl (ezj_x134 hJ (by omega)) ?_
  rintro _ g1 ⟨u1, y1, hu1, n1, rfl, hJ1⟩
  refine ezw_pop rfl rfl ?_
  refine ezw_aload_n rfl rfl ?_
  obtain ⟨fs2, ex2⟩ := ezl_m0 hJ1
  refine ezw_call0_0 rfl (by omega) ex2 rfl rfl rfl rfl (ezj_m280 hJ1 (by omega) hq) ?_
  rintro _ g2 ⟨u2, y2, hu2, n2, rfl, hJ2⟩
  obtain ⟨hte2, hye2⟩ := ezj_N8_f n1 n2
  subst hye2
  refine ezw_pop rfl rfl ?_
  refine ezw_goto rfl rfl ?_
  exact fin s a b g2 y1 hJ2 hE
theorem ezl_c9 {L : Nat} (hL : L ≤ 3584) (hρ : ρ 8 = Int32.ofNat L) (hd : 60 ≤ d) {c : Int} (hc : ezw_in c) (h0 : 0 ≤ c) (h7 : c + 7 ≤ (L : Int)) {g : Nat → ezq_C} {s : Int} {a b : Int → Int} {y : ezj_S} (hJ : ezl_J s a s b y y g) (hE : ezf_eq s a b) (fin : ∀ (s : Int) (a b : Int → Int) (g : Nat → ezq_C) (y : ezj_S), ezl_J s a s b y y g → ezf_eq s a b → ezw_E l ρ B xa Hb D cA d ezq_re336 (fun v _ => v = some (ezw_i 1)) 1214 [some (ezq_xt 0), some (ezw_p 0), some (ezw_p 72), some (ezw_i c)] [] g) : ezw_E l ρ B xa Hb D cA d ezq_re336 (fun v _ => v = some (ezw_i 1)) 547 [some (ezq_xt 0), some (ezw_p 0), some (ezw_p 72), some (ezw_i c)] [] g := by
  obtain ⟨s1, hs1, es1⟩ : ∃ s1, ezw_in s1 ∧ (ρ (ezq_sx (c + 1).toNat)).toInt = s1 := ⟨_, ⟨Int32.le_toInt _, Int32.toInt_lt _⟩, rfl⟩
  obtain ⟨s2, hs2, es2⟩ : ∃ s2, ezw_in s2 ∧ (ρ (ezq_sx (c + 2).toNat)).toInt = s2 := ⟨_, ⟨Int32.le_toInt _, Int32.toInt_lt _⟩, rfl⟩
  have hq := ezl_hz hJ
  refine ezw_aload_n rfl rfl ?_
  refine ezw_aloadx rfl rfl ?_
  refine ezw_iload_n rfl rfl ?_
  refine ezw_iconst (1) rfl rfl ?_
  refine ezw_iadd (k := c + 1) rfl (by omega) ?_
  refine ezw_sload rfl (by omega) (by omega) hL hρ ?_
  rw [es1]
  refine ezw_aloadx rfl rfl ?_
  refine ezw_iload_n rfl rfl ?_
  refine ezw_iconst (2) rfl rfl ?_
  refine ezw_iadd (k := c + 2) rfl (by omega) ?_
  refine ezw_sload rfl (by omega) (by omega) hL hρ ?_
  rw [es2]
  obtain ⟨fs1, ex1⟩ := ezl_x0 hJ
  refine ezw_call0_2 rfl (by omega) ex1 rfl rfl rfl rfl (ezj_x135 hJ (by omega) hs1 hs2) ?_
  rintro _ g1 ⟨u1, y1, hu1, n1, rfl, hJ1⟩
  refine ezw_pop rfl rfl ?_
  refine ezw_aload_n rfl rfl ?_
  refine ezw_aloadx rfl rfl ?_
  refine ezw_iload_n rfl rfl ?_
  refine ezw_iconst (1) rfl rfl ?_
  refine ezw_iadd (k := c + 1) rfl (by omega) ?_
  refine ezw_sload rfl (by omega) (by omega) hL hρ ?_
  rw [es1]
  refine ezw_aloadx rfl rfl ?_
  refine ezw_iload_n rfl rfl ?_
  refine ezw_iconst (2) rfl rfl ?_
  refine ezw_iadd (k := c + 2) rfl (by omega) ?_
  refine ezw_sload rfl (by omega) (by omega) hL hρ ?_
  rw [es2]
  obtain ⟨fs2, ex2⟩ := ezl_m0 hJ1
  refine ezw_call0_2 rfl (by omega) ex2 rfl rfl rfl rfl (ezj_m282 hJ1 (by omega) hs1 hs2 hq) ?_
  rintro _ g2 ⟨u2, y2, hu2, n2, rfl, hJ2⟩
  obtain ⟨hte2, hye2⟩ := ezj_N9_f n1 n2
  subst hye2
  refine ezw_pop rfl rfl ?_
  refine ezw_goto rfl rfl ?_
  exact fin s a b g2 y1 hJ2 hE
theorem ezl_c10 {L : Nat} (hL : L ≤ 3584) (hρ : ρ 8 = Int32.ofNat L) (hd : 60 ≤ d) {c : Int} (hc : ezw_in c) (h0 : 0 ≤ c) (h7 : c + 7 ≤ (L : Int)) {g : Nat → ezq_C} {s : Int} {a b : Int → Int} {y : ezj_S} (hJ : ezl_J s a s b y y g) (hE : ezf_eq s a b) (fin : ∀ (s : Int) (a b : Int → Int) (g : Nat → ezq_C) (y : ezj_S), ezl_J s a s b y y g → ezf_eq s a b → ezw_E l ρ B xa Hb D cA d ezq_re336 (fun v _ => v = some (ezw_i 1)) 1214 [some (ezq_xt 0), some (ezw_p 0), some (ezw_p 72), some (ezw_i c)] [] g) : ezw_E l ρ B xa Hb D cA d ezq_re336 (fun v _ => v = some (ezw_i 1)) 580 [some (ezq_xt 0), some (ezw_p 0), some (ezw_p 72), some (ezw_i c)] [] g := by
  obtain ⟨s1, hs1, es1⟩ : ∃ s1, ezw_in s1 ∧ (ρ (ezq_sx (c + 1).toNat)).toInt = s1 := ⟨_, ⟨Int32.le_toInt _, Int32.toInt_lt _⟩, rfl⟩
  obtain ⟨s2, hs2, es2⟩ : ∃ s2, ezw_in s2 ∧ (ρ (ezq_sx (c + 2).toNat)).toInt = s2 := ⟨_, ⟨Int32.le_toInt _, Int32.toInt_lt _⟩, rfl⟩
  have hq := ezl_hz hJ
  refine ezw_aload_n rfl rfl ?_
  refine ezw_aloadx rfl rfl ?_
  refine ezw_iload_n rfl rfl ?_
  refine ezw_iconst (1) rfl rfl ?_
  refine ezw_iadd (k := c + 1) rfl (by omega) ?_
  refine ezw_sload rfl (by omega) (by omega) hL hρ ?_
  rw [es1]
  refine ezw_aloadx rfl rfl ?_
  refine ezw_iload_n rfl rfl ?_
  refine ezw_iconst (2) rfl rfl ?_
  refine ezw_iadd (k := c + 2) rfl (by omega) ?_
  refine ezw_sload rfl (by omega) (by omega) hL hρ ?_
  rw [es2]
  refine ezw_if_eq rfl rfl hs2 (fun h1 => ?_) (fun h1 => ?_)
  · refine ezw_iconst (0) rfl rfl ?_
    obtain ⟨fs2, ex2⟩ := ezl_x0 hJ
    refine ezw_call0_2 rfl (by omega) ex2 rfl rfl rfl rfl (ezj_x136 hJ (by omega) hs1 ⟨by decide, by decide⟩ ⟨by decide, by decide⟩) ?_
    rintro _ g2 ⟨u2, y2, hu2, n2, rfl, hJ2⟩
    refine ezw_pop rfl rfl ?_
    refine ezw_aload_n rfl rfl ?_
    refine ezw_aloadx rfl rfl ?_
    refine ezw_iload_n rfl rfl ?_
    refine ezw_iconst (1) rfl rfl ?_
    refine ezw_iadd (k := c + 1) rfl (by omega) ?_
    refine ezw_sload rfl (by omega) (by omega) hL hρ ?_
    rw [es1]
    refine ezw_aloadx rfl rfl ?_
    refine ezw_iload_n rfl rfl ?_
    refine ezw_iconst (2) rfl rfl ?_
    refine ezw_iadd (k := c + 2) rfl (by omega) ?_
    refine ezw_sload rfl (by omega) (by omega) hL hρ ?_
    rw [es2]
    refine ezw_if_eq rfl rfl hs2 (fun h3 => ?_) (fun h3 => ?_)
    · refine ezw_iconst (0) rfl rfl ?_
      obtain ⟨fs4, ex4⟩ := ezl_m0 hJ2
      refine ezw_call0_2 rfl (by omega) ex4 rfl rfl rfl rfl (ezj_m285 hJ2 (by omega) hs1 ⟨by decide, by decide⟩ ⟨by decide, by decide⟩ hq) ?_
      rintro _ g4 ⟨u4, y4, hu4, n4, rfl, hJ4⟩
      obtain ⟨hte4, hye4⟩ := ezj_N10_f n2 n4
      subst hye4
      refine ezw_pop rfl rfl ?_
      refine ezw_goto rfl rfl ?_
      exact fin s a b g4 y2 hJ4 hE
    · exfalso
      omega
  · refine ezw_iconst (1) rfl rfl ?_
    refine ezw_goto rfl rfl ?_
    obtain ⟨fs5, ex5⟩ := ezl_x0 hJ
    refine ezw_call0_2 rfl (by omega) ex5 rfl rfl rfl rfl (ezj_x136 hJ (by omega) hs1 ⟨by decide, by decide⟩ ⟨by decide, by decide⟩) ?_
    rintro _ g5 ⟨u5, y5, hu5, n5, rfl, hJ5⟩
    refine ezw_pop rfl rfl ?_
    refine ezw_aload_n rfl rfl ?_
    refine ezw_aloadx rfl rfl ?_
    refine ezw_iload_n rfl rfl ?_
    refine ezw_iconst (1) rfl rfl ?_
    refine ezw_iadd (k := c + 1) rfl (by omega) ?_
    refine ezw_sload rfl (by omega) (by omega) hL hρ ?_
    rw [es1]
    refine ezw_aloadx rfl rfl ?_
    refine ezw_iload_n rfl rfl ?_
    refine ezw_iconst (2) rfl rfl ?_
    refine ezw_iadd (k := c + 2) rfl (by omega) ?_
    refine ezw_sload rfl (by omega) (by omega) hL hρ ?_
    rw [es2]
    refine ezw_if_eq rfl rfl hs2 (fun h6 => ?_) (fun h6 => ?_)
    · exfalso
      omega
    · refine ezw_iconst (1) rfl rfl ?_
      refine ezw_goto rfl rfl ?_
      obtain ⟨fs7, ex7⟩ := ezl_m0 hJ5
      refine ezw_call0_2 rfl (by omega) ex7 rfl rfl rfl rfl (ezj_m285 hJ5 (by omega) hs1 ⟨by decide, by decide⟩ ⟨by decide, by decide⟩ hq) ?_
      rintro _ g7 ⟨u7, y7, hu7, n7, rfl, hJ7⟩
      obtain ⟨hte7, hye7⟩ := ezj_N10_f n5 n7
      subst hye7
      refine ezw_pop rfl rfl ?_
      refine ezw_goto rfl rfl ?_
      exact fin s a b g7 y5 hJ7 hE
theorem ezl_c11 {L : Nat} (hL : L ≤ 3584) (hρ : ρ 8 = Int32.ofNat L) (hd : 60 ≤ d) {c : Int} (hc : ezw_in c) (h0 : 0 ≤ c) (h7 : c + 7 ≤ (L : Int)) {g : Nat → ezq_C} {s : Int} {a b : Int → Int} {y : ezj_S} (hJ : ezl_J s a s b y y g) (hE : ezf_eq s a b) (fin : ∀ (s : Int) (a b : Int → Int) (g : Nat → ezq_C) (y : ezj_S), ezl_J s a s b y y g → ezf_eq s a b → ezw_E l ρ B xa Hb D cA d ezq_re336 (fun v _ => v = some (ezw_i 1)) 1214 [some (ezq_xt 0), some (ezw_p 0), some (ezw_p 72), some (ezw_i c)] [] g) : ezw_E l ρ B xa Hb D cA d ezq_re336 (fun v _ => v = some (ezw_i 1)) 629 [some (ezq_xt 0), some (ezw_p 0), some (ezw_p 72), some (ezw_i c)] [] g := by
  obtain ⟨s1, hs1, es1⟩ : ∃ s1, ezw_in s1 ∧ (ρ (ezq_sx (c + 1).toNat)).toInt = s1 := ⟨_, ⟨Int32.le_toInt _, Int32.toInt_lt _⟩, rfl⟩
  have hq := ezl_hz hJ
  refine ezw_aload_n rfl rfl ?_
  refine ezw_aloadx rfl rfl ?_
  refine ezw_iload_n rfl rfl ?_
  refine ezw_iconst (1) rfl rfl ?_
  refine ezw_iadd (k := c + 1) rfl (by omega) ?_
  refine ezw_sload rfl (by omega) (by omega) hL hρ ?_
  rw [es1]
  obtain ⟨fs1, ex1⟩ := ezl_x0 hJ
  refine ezw_call0_1 rfl (by omega) ex1 rfl rfl rfl rfl (ezj_x137 hJ (by omega) hs1) ?_
  rintro _ g1 ⟨u1, y1, hu1, n1, rfl, hJ1⟩
  refine ezw_pop rfl rfl ?_
  refine ezw_aload_n rfl rfl ?_
  refine ezw_aloadx rfl rfl ?_
  refine ezw_iload_n rfl rfl ?_
  refine ezw_iconst (1) rfl rfl ?_
  refine ezw_iadd (k := c + 1) rfl (by omega) ?_
  refine ezw_sload rfl (by omega) (by omega) hL hρ ?_
  rw [es1]
  obtain ⟨fs2, ex2⟩ := ezl_m0 hJ1
  refine ezw_call0_1 rfl (by omega) ex2 rfl rfl rfl rfl (ezj_m288 hJ1 (by omega) hs1 hq) ?_
  rintro _ g2 ⟨u2, y2, hu2, n2, rfl, hJ2⟩
  obtain ⟨hte2, hye2⟩ := ezj_N11_f n1 n2
  subst hye2
  refine ezw_pop rfl rfl ?_
  refine ezw_goto rfl rfl ?_
  exact fin s a b g2 y1 hJ2 hE
theorem ezl_c12 {L : Nat} (hL : L ≤ 3584) (hρ : ρ 8 = Int32.ofNat L) (hd : 60 ≤ d) {c : Int} (hc : ezw_in c) (h0 : 0 ≤ c) (h7 : c + 7 ≤ (L : Int)) {g : Nat → ezq_C} {s : Int} {a b : Int → Int} {y : ezj_S} (hJ : ezl_J s a s b y y g) (hE : ezf_eq s a b) (fin : ∀ (s : Int) (a b : Int → Int) (g : Nat → ezq_C) (y : ezj_S), ezl_J s a s b y y g → ezf_eq s a b → ezw_E l ρ B xa Hb D cA d ezq_re336 (fun v _ => v = some (ezw_i 1)) 1214 [some (ezq_xt 0), some (ezw_p 0), some (ezw_p 72), some (ezw_i c)] [] g) : ezw_E l ρ B xa Hb D cA d ezq_re336 (fun v _ => v = some (ezw_i 1)) 652 [some (ezq_xt 0), some (ezw_p 0), some (ezw_p 72), some (ezw_i c)] [] g := by
  have hq := ezl_hz hJ
  refine ezw_aload_n rfl rfl ?_
  obtain ⟨fs1, ex1⟩ := ezl_x0 hJ
  refine ezw_call0_0 rfl (by omega) ex1 rfl rfl rfl rfl (ezj_x138 hJ (by omega)) ?_
  rintro _ g1 ⟨u1, y1, hu1, n1, rfl, hJ1⟩
  refine ezw_pop rfl rfl ?_
  refine ezw_aload_n rfl rfl ?_
  obtain ⟨fs2, ex2⟩ := ezl_m0 hJ1
  refine ezw_call0_0 rfl (by omega) ex2 rfl rfl rfl rfl (ezj_m291 hJ1 (by omega) hq) ?_
  rintro _ g2 ⟨u2, y2, hu2, n2, rfl, hJ2⟩
  obtain ⟨hte2, hye2⟩ := ezj_N12_f n1 n2
  subst hye2
  refine ezw_pop rfl rfl ?_
  refine ezw_goto rfl rfl ?_
  exact fin s a b g2 y1 hJ2 hE
theorem ezl_c13 {L : Nat} (hL : L ≤ 3584) (hρ : ρ 8 = Int32.ofNat L) (hd : 60 ≤ d) {c : Int} (hc : ezw_in c) (h0 : 0 ≤ c) (h7 : c + 7 ≤ (L : Int)) {g : Nat → ezq_C} {s : Int} {a b : Int → Int} {y : ezj_S} (hJ : ezl_J s a s b y y g) (hE : ezf_eq s a b) (fin : ∀ (s : Int) (a b : Int → Int) (g : Nat → ezq_C) (y : ezj_S), ezl_J s a s b y y g → ezf_eq s a b → ezw_E l ρ B xa Hb D cA d ezq_re336 (fun v _ => v = some (ezw_i 1)) 1214 [some (ezq_xt 0), some (ezw_p 0), some (ezw_p 72), some (ezw_i c)] [] g) : ezw_E l ρ B xa Hb D cA d ezq_re336 (fun v _ => v = some (ezw_i 1)) 665 [some (ezq_xt 0), some (ezw_p 0), some (ezw_p 72), some (ezw_i c)] [] g := by
  obtain ⟨s1, hs1, es1⟩ : ∃ s1, ezw_in s1 ∧ (ρ (ezq_sx (c + 1).toNat)).toInt = s1 := ⟨_, ⟨Int32.le_toInt _, Int32.toInt_lt _⟩, rfl⟩
  have hq := ezl_hz hJ
  refine ezw_aload_n rfl rfl ?_
  refine ezw_aloadx rfl rfl ?_
  refine ezw_iload_n rfl rfl ?_
  refine ezw_iconst (1) rfl rfl ?_
  refine ezw_iadd (k := c + 1) rfl (by omega) ?_
  refine ezw_sload rfl (by omega) (by omega) hL hρ ?_
  rw [es1]
  obtain ⟨fs1, ex1⟩ := ezl_x0 hJ
  refine ezw_call0_1 rfl (by omega) ex1 rfl rfl rfl rfl (ezj_x141 hJ (by omega) hs1) ?_
  rintro _ g1 ⟨⟨u1, rfl⟩, hJ1⟩
  refine ezw_pop rfl rfl ?_
  refine ezw_aload_n rfl rfl ?_
  refine ezw_aloadx rfl rfl ?_
  refine ezw_iload_n rfl rfl ?_
  refine ezw_iconst (1) rfl rfl ?_
  refine ezw_iadd (k := c + 1) rfl (by omega) ?_
  refine ezw_sload rfl (by omega) (by omega) hL hρ ?_
  rw [es1]
  obtain ⟨fs2, ex2⟩ := ezl_m0 hJ1
  refine ezw_call0_1 rfl (by omega) ex2 rfl rfl rfl rfl (ezj_m294 hJ1 (by omega) hs1 hq) ?_
  rintro _ g2 ⟨⟨u2, rfl⟩, hJ2⟩
  refine ezw_pop rfl rfl ?_
  refine ezw_goto rfl rfl ?_
  exact fin s a b g2 y hJ2 hE
theorem ezl_c14 {L : Nat} (hL : L ≤ 3584) (hρ : ρ 8 = Int32.ofNat L) (hd : 60 ≤ d) {c : Int} (hc : ezw_in c) (h0 : 0 ≤ c) (h7 : c + 7 ≤ (L : Int)) {g : Nat → ezq_C} {s : Int} {a b : Int → Int} {y : ezj_S} (hJ : ezl_J s a s b y y g) (hE : ezf_eq s a b) (fin : ∀ (s : Int) (a b : Int → Int) (g : Nat → ezq_C) (y : ezj_S), ezl_J s a s b y y g → ezf_eq s a b → ezw_E l ρ B xa Hb D cA d ezq_re336 (fun v _ => v = some (ezw_i 1)) 1214 [some (ezq_xt 0), some (ezw_p 0), some (ezw_p 72), some (ezw_i c)] [] g) : ezw_E l ρ B xa Hb D cA d ezq_re336 (fun v _ => v = some (ezw_i 1)) 688 [some (ezq_xt 0), some (ezw_p 0), some (ezw_p 72), some (ezw_i c)] [] g := by
  have hq := ezl_hz hJ
  refine ezw_aload_n rfl rfl ?_
  obtain ⟨fs1, ex1⟩ := ezl_x0 hJ
  refine ezw_call0_0 rfl (by omega) ex1 rfl rfl rfl rfl (ezj_x145 hJ (by omega)) ?_
  rintro _ g1 ⟨u1, y1, hu1, n1, rfl, hJ1⟩
  refine ezw_pop rfl rfl ?_
  refine ezw_aload_n rfl rfl ?_
  obtain ⟨fs2, ex2⟩ := ezl_m0 hJ1
  refine ezw_call0_0 rfl (by omega) ex2 rfl rfl rfl rfl (ezj_m292 hJ1 (by omega) hq) ?_
  rintro _ g2 ⟨u2, y2, hu2, n2, rfl, hJ2⟩
  obtain ⟨hte2, hye2⟩ := ezj_N14_f n1 n2
  subst hye2
  refine ezw_pop rfl rfl ?_
  refine ezw_goto rfl rfl ?_
  exact fin s a b g2 y1 hJ2 hE
theorem ezl_c15 {L : Nat} (hL : L ≤ 3584) (hρ : ρ 8 = Int32.ofNat L) (hd : 60 ≤ d) {c : Int} (hc : ezw_in c) (h0 : 0 ≤ c) (h7 : c + 7 ≤ (L : Int)) {g : Nat → ezq_C} {s : Int} {a b : Int → Int} {y : ezj_S} (hJ : ezl_J s a s b y y g) (hE : ezf_eq s a b) (fin : ∀ (s : Int) (a b : Int → Int) (g : Nat → ezq_C) (y : ezj_S), ezl_J s a s b y y g → ezf_eq s a b → ezw_E l ρ B xa Hb D cA d ezq_re336 (fun v _ => v = some (ezw_i 1)) 1214 [some (ezq_xt 0), some (ezw_p 0), some (ezw_p 72), some (ezw_i c)] [] g) : ezw_E l ρ B xa Hb D cA d ezq_re336 (fun v _ => v = some (ezw_i 1)) 701 [some (ezq_xt 0), some (ezw_p 0), some (ezw_p 72), some (ezw_i c)] [] g := by
  obtain ⟨s1, hs1, es1⟩ : ∃ s1, ezw_in s1 ∧ (ρ (ezq_sx (c + 1).toNat)).toInt = s1 := ⟨_, ⟨Int32.le_toInt _, Int32.toInt_lt _⟩, rfl⟩
  obtain ⟨s2, hs2, es2⟩ : ∃ s2, ezw_in s2 ∧ (ρ (ezq_sx (c + 2).toNat)).toInt = s2 := ⟨_, ⟨Int32.le_toInt _, Int32.toInt_lt _⟩, rfl⟩
  have hq := ezl_hz hJ
  refine ezw_aload_n rfl rfl ?_
  refine ezw_aloadx rfl rfl ?_
  refine ezw_iload_n rfl rfl ?_
  refine ezw_iconst (1) rfl rfl ?_
  refine ezw_iadd (k := c + 1) rfl (by omega) ?_
  refine ezw_sload rfl (by omega) (by omega) hL hρ ?_
  rw [es1]
  refine ezw_aloadx rfl rfl ?_
  refine ezw_iload_n rfl rfl ?_
  refine ezw_iconst (2) rfl rfl ?_
  refine ezw_iadd (k := c + 2) rfl (by omega) ?_
  refine ezw_sload rfl (by omega) (by omega) hL hρ ?_
  rw [es2]
  obtain ⟨fs1, ex1⟩ := ezl_x0 hJ
  refine ezw_call0_2 rfl (by omega) ex1 rfl rfl rfl rfl (ezj_x146 hJ (by omega) hs1 hs2) ?_
  rintro _ g1 ⟨⟨u1, rfl⟩, hJ1⟩
  refine ezw_pop rfl rfl ?_
  refine ezw_aload_n rfl rfl ?_
  refine ezw_aloadx rfl rfl ?_
  refine ezw_iload_n rfl rfl ?_
  refine ezw_iconst (1) rfl rfl ?_
  refine ezw_iadd (k := c + 1) rfl (by omega) ?_
  refine ezw_sload rfl (by omega) (by omega) hL hρ ?_
  rw [es1]
  refine ezw_aloadx rfl rfl ?_
  refine ezw_iload_n rfl rfl ?_
  refine ezw_iconst (2) rfl rfl ?_
  refine ezw_iadd (k := c + 2) rfl (by omega) ?_
  refine ezw_sload rfl (by omega) (by omega) hL hρ ?_
  rw [es2]
  obtain ⟨fs2, ex2⟩ := ezl_m0 hJ1
  refine ezw_call0_2 rfl (by omega) ex2 rfl rfl rfl rfl (ezj_m296 hJ1 (by omega) hs1 hs2 hq) ?_
  rintro _ g2 ⟨⟨u2, rfl⟩, hJ2⟩
  refine ezw_pop rfl rfl ?_
  refine ezw_goto rfl rfl ?_
  exact fin s a b g2 y hJ2 hE
theorem ezl_c16 {L : Nat} (hL : L ≤ 3584) (hρ : ρ 8 = Int32.ofNat L) (hd : 60 ≤ d) {c : Int} (hc : ezw_in c) (h0 : 0 ≤ c) (h7 : c + 7 ≤ (L : Int)) {g : Nat → ezq_C} {s : Int} {a b : Int → Int} {y : ezj_S} (hJ : ezl_J s a s b y y g) (hE : ezf_eq s a b) (fin : ∀ (s : Int) (a b : Int → Int) (g : Nat → ezq_C) (y : ezj_S), ezl_J s a s b y y g → ezf_eq s a b → ezw_E l ρ B xa Hb D cA d ezq_re336 (fun v _ => v = some (ezw_i 1)) 1214 [some (ezq_xt 0), some (ezw_p 0), some (ezw_p 72), some (ezw_i c)] [] g) : ezw_E l ρ B xa Hb D cA d ezq_re336 (fun v _ => v = some (ezw_i 1)) 734 [some (ezq_xt 0), some (ezw_p 0), some (ezw_p 72), some (ezw_i c)] [] g := by
  obtain ⟨s1, hs1, es1⟩ : ∃ s1, ezw_in s1 ∧ (ρ (ezq_sx (c + 1).toNat)).toInt = s1 := ⟨_, ⟨Int32.le_toInt _, Int32.toInt_lt _⟩, rfl⟩
  obtain ⟨s2, hs2, es2⟩ : ∃ s2, ezw_in s2 ∧ (ρ (ezq_sx (c + 2).toNat)).toInt = s2 := ⟨_, ⟨Int32.le_toInt _, Int32.toInt_lt _⟩, rfl⟩
  have hq := ezl_hz hJ
  refine ezw_aload_n rfl rfl ?_
  refine ezw_aloadx rfl rfl ?_
  refine ezw_iload_n rfl rfl ?_
  refine ezw_iconst (1) rfl rfl ?_
  refine ezw_iadd (k := c + 1) rfl (by omega) ?_
  refine ezw_sload rfl (by omega) (by omega) hL hρ ?_
  rw [es1]
  refine ezw_aloadx rfl rfl ?_
  refine ezw_iload_n rfl rfl ?_
  refine ezw_iconst (2) rfl rfl ?_
  refine ezw_iadd (k := c + 2) rfl (by omega) ?_
  refine ezw_sload rfl (by omega) (by omega) hL hρ ?_
  rw [es2]
  refine ezw_if_eq rfl rfl hs2 (fun h1 => ?_) (fun h1 => ?_)
  · refine ezw_iconst (0) rfl rfl ?_
    obtain ⟨fs2, ex2⟩ := ezl_x0 hJ
    refine ezw_call0_2 rfl (by omega) ex2 rfl rfl rfl rfl (ezj_x156 hJ (by omega) hs1 ⟨by decide, by decide⟩ ⟨by decide, by decide⟩) ?_
    rintro _ g2 ⟨u2, y2, hu2, n2, rfl, hJ2⟩
    refine ezw_pop rfl rfl ?_
    refine ezw_aload_n rfl rfl ?_
    refine ezw_aloadx rfl rfl ?_
    refine ezw_iload_n rfl rfl ?_
    refine ezw_iconst (1) rfl rfl ?_
    refine ezw_iadd (k := c + 1) rfl (by omega) ?_
    refine ezw_sload rfl (by omega) (by omega) hL hρ ?_
    rw [es1]
    refine ezw_aloadx rfl rfl ?_
    refine ezw_iload_n rfl rfl ?_
    refine ezw_iconst (2) rfl rfl ?_
    refine ezw_iadd (k := c + 2) rfl (by omega) ?_
    refine ezw_sload rfl (by omega) (by omega) hL hρ ?_
    rw [es2]
    refine ezw_if_eq rfl rfl hs2 (fun h3 => ?_) (fun h3 => ?_)
    · refine ezw_iconst (0) rfl rfl ?_
      obtain ⟨fs4, ex4⟩ := ezl_m0 hJ2
      refine ezw_call0_2 rfl (by omega) ex4 rfl rfl rfl rfl (ezj_m306 hJ2 (by omega) hs1 ⟨by decide, by decide⟩ ⟨by decide, by decide⟩ hq) ?_
      rintro _ g4 ⟨u4, y4, hu4, n4, rfl, hJ4⟩
      obtain ⟨hte4, hye4⟩ := ezj_N16_f n2 n4
      subst hye4
      refine ezw_pop rfl rfl ?_
      refine ezw_goto rfl rfl ?_
      exact fin s a b g4 y2 hJ4 hE
    · exfalso
      omega
  · refine ezw_iconst (1) rfl rfl ?_
    refine ezw_goto rfl rfl ?_
    obtain ⟨fs5, ex5⟩ := ezl_x0 hJ
    refine ezw_call0_2 rfl (by omega) ex5 rfl rfl rfl rfl (ezj_x156 hJ (by omega) hs1 ⟨by decide, by decide⟩ ⟨by decide, by decide⟩) ?_
    rintro _ g5 ⟨u5, y5, hu5, n5, rfl, hJ5⟩
    refine ezw_pop rfl rfl ?_
    refine ezw_aload_n rfl rfl ?_
    refine ezw_aloadx rfl rfl ?_
    refine ezw_iload_n rfl rfl ?_
    refine ezw_iconst (1) rfl rfl ?_
    refine ezw_iadd (k := c + 1) rfl (by omega) ?_
    refine ezw_sload rfl (by omega) (by omega) hL hρ ?_
    rw [es1]
    refine ezw_aloadx rfl rfl ?_
    refine ezw_iload_n rfl rfl ?_
    refine ezw_iconst (2) rfl rfl ?_
    refine ezw_iadd (k := c + 2) rfl (by omega) ?_
    refine ezw_sload rfl (by omega) (by omega) hL hρ ?_
    rw [es2]
    refine ezw_if_eq rfl rfl hs2 (fun h6 => ?_) (fun h6 => ?_)
    · exfalso
      omega
    · refine ezw_iconst (1) rfl rfl ?_
      refine ezw_goto rfl rfl ?_
      obtain ⟨fs7, ex7⟩ := ezl_m0 hJ5
      refine ezw_call0_2 rfl (by omega) ex7 rfl rfl rfl rfl (ezj_m306 hJ5 (by omega) hs1 ⟨by decide, by decide⟩ ⟨by decide, by decide⟩ hq) ?_
      rintro _ g7 ⟨u7, y7, hu7, n7, rfl, hJ7⟩
      obtain ⟨hte7, hye7⟩ := ezj_N16_f n5 n7
      subst hye7
      refine ezw_pop rfl rfl ?_
      refine ezw_goto rfl rfl ?_
      exact fin s a b g7 y5 hJ7 hE
theorem ezl_c17 {L : Nat} (hL : L ≤ 3584) (hρ : ρ 8 = Int32.ofNat L) (hd : 60 ≤ d) {c : Int} (hc : ezw_in c) (h0 : 0 ≤ c) (h7 : c + 7 ≤ (L : Int)) {g : Nat → ezq_C} {s : Int} {a b : Int → Int} {y : ezj_S} (hJ : ezl_J s a s b y y g) (hE : ezf_eq s a b) (fin : ∀ (s : Int) (a b : Int → Int) (g : Nat → ezq_C) (y : ezj_S), ezl_J s a s b y y g → ezf_eq s a b → ezw_E l ρ B xa Hb D cA d ezq_re336 (fun v _ => v = some (ezw_i 1)) 1214 [some (ezq_xt 0), some (ezw_p 0), some (ezw_p 72), some (ezw_i c)] [] g) : ezw_E l ρ B xa Hb D cA d ezq_re336 (fun v _ => v = some (ezw_i 1)) 783 [some (ezq_xt 0), some (ezw_p 0), some (ezw_p 72), some (ezw_i c)] [] g := by
  have hq := ezl_hz hJ
  refine ezw_aload_n rfl rfl ?_
  obtain ⟨fs1, ex1⟩ := ezl_x0 hJ
  refine ezw_call0_0 rfl (by omega) ex1 rfl rfl rfl rfl (ezj_x159 hJ (by omega)) ?_
  rintro _ g1 ⟨u1, y1, hu1, n1, rfl, hJ1⟩
  refine ezw_pop rfl rfl ?_
  refine ezw_aload_n rfl rfl ?_
  obtain ⟨fs2, ex2⟩ := ezl_m0 hJ1
  refine ezw_call0_0 rfl (by omega) ex2 rfl rfl rfl rfl (ezj_m307 hJ1 (by omega) hq) ?_
  rintro _ g2 ⟨u2, y2, hu2, n2, rfl, hJ2⟩
  obtain ⟨hte2, hye2⟩ := ezj_N17_f n1 n2
  subst hye2
  refine ezw_pop rfl rfl ?_
  refine ezw_goto rfl rfl ?_
  exact fin s a b g2 y1 hJ2 hE
theorem ezl_c18 {L : Nat} (hL : L ≤ 3584) (hρ : ρ 8 = Int32.ofNat L) (hd : 60 ≤ d) {c : Int} (hc : ezw_in c) (h0 : 0 ≤ c) (h7 : c + 7 ≤ (L : Int)) {g : Nat → ezq_C} {s : Int} {a b : Int → Int} {y : ezj_S} (hJ : ezl_J s a s b y y g) (hE : ezf_eq s a b) (fin : ∀ (s : Int) (a b : Int → Int) (g : Nat → ezq_C) (y : ezj_S), ezl_J s a s b y y g → ezf_eq s a b → ezw_E l ρ B xa Hb D cA d ezq_re336 (fun v _ => v = some (ezw_i 1)) 1214 [some (ezq_xt 0), some (ezw_p 0), some (ezw_p 72), some (ezw_i c)] [] g) : ezw_E l ρ B xa Hb D cA d ezq_re336 (fun v _ => v = some (ezw_i 1)) 796 [some (ezq_xt 0), some (ezw_p 0), some (ezw_p 72), some (ezw_i c)] [] g := by
  obtain ⟨s1, hs1, es1⟩ : ∃ s1, ezw_in s1 ∧ (ρ (ezq_sx (c + 1).toNat)).toInt = s1 := ⟨_, ⟨Int32.le_toInt _, Int32.toInt_lt _⟩, rfl⟩
  have hq := ezl_hz hJ
  refine ezw_aload_n rfl rfl ?_
  refine ezw_aloadx rfl rfl ?_
  refine ezw_iload_n rfl rfl ?_
  refine ezw_iconst (1) rfl rfl ?_
  refine ezw_iadd (k := c + 1) rfl (by omega) ?_
  refine ezw_sload rfl (by omega) (by omega) hL hρ ?_
  rw [es1]
  obtain ⟨fs1, ex1⟩ := ezl_x0 hJ
  refine ezw_call0_1 rfl (by omega) ex1 rfl rfl rfl rfl (ezj_x162 hJ (by omega) hs1) ?_
  rintro _ g1 ⟨u1, y1, hu1, n1, rfl, hJ1⟩
  refine ezw_pop rfl rfl ?_
  refine ezw_aload_n rfl rfl ?_
  refine ezw_aloadx rfl rfl ?_
  refine ezw_iload_n rfl rfl ?_
  refine ezw_iconst (1) rfl rfl ?_
  refine ezw_iadd (k := c + 1) rfl (by omega) ?_
  refine ezw_sload rfl (by omega) (by omega) hL hρ ?_
  rw [es1]
  obtain ⟨fs2, ex2⟩ := ezl_m0 hJ1
  refine ezw_call0_1 rfl (by omega) ex2 rfl rfl rfl rfl (ezj_m309 hJ1 (by omega) hs1 hq) ?_
  rintro _ g2 ⟨u2, y2, hu2, n2, rfl, hJ2⟩
  obtain ⟨hte2, hye2⟩ := ezj_N18_f n1 n2
  subst hye2
  refine ezw_pop rfl rfl ?_
  refine ezw_goto rfl rfl ?_
  exact fin s a b g2 y1 hJ2 hE
theorem ezl_c19 {L : Nat} (hL : L ≤ 3584) (hρ : ρ 8 = Int32.ofNat L) (hd : 60 ≤ d) {c : Int} (hc : ezw_in c) (h0 : 0 ≤ c) (h7 : c + 7 ≤ (L : Int)) {g : Nat → ezq_C} {s : Int} {a b : Int → Int} {y : ezj_S} (hJ : ezl_J s a s b y y g) (hE : ezf_eq s a b) (fin : ∀ (s : Int) (a b : Int → Int) (g : Nat → ezq_C) (y : ezj_S), ezl_J s a s b y y g → ezf_eq s a b → ezw_E l ρ B xa Hb D cA d ezq_re336 (fun v _ => v = some (ezw_i 1)) 1214 [some (ezq_xt 0), some (ezw_p 0), some (ezw_p 72), some (ezw_i c)] [] g) : ezw_E l ρ B xa Hb D cA d ezq_re336 (fun v _ => v = some (ezw_i 1)) 819 [some (ezq_xt 0), some (ezw_p 0), some (ezw_p 72), some (ezw_i c)] [] g := by
  have hq := ezl_hz hJ
  refine ezw_aload_n rfl rfl ?_
  obtain ⟨fs1, ex1⟩ := ezl_x0 hJ
  refine ezw_call0_0 rfl (by omega) ex1 rfl rfl rfl rfl (ezj_x165 hJ (by omega)) ?_
  rintro _ g1 ⟨u1, y1, hu1, n1, rfl, hJ1⟩
  refine ezw_pop rfl rfl ?_
  refine ezw_aload_n rfl rfl ?_
  obtain ⟨fs2, ex2⟩ := ezl_m0 hJ1
  refine ezw_call0_0 rfl (by omega) ex2 rfl rfl rfl rfl (ezj_m310 hJ1 (by omega) hq) ?_
  rintro _ g2 ⟨u2, y2, hu2, n2, rfl, hJ2⟩
  obtain ⟨hte2, hye2⟩ := ezj_N19_f n1 n2
  subst hye2
  refine ezw_pop rfl rfl ?_
  refine ezw_goto rfl rfl ?_
  exact fin s a b g2 y1 hJ2 hE
theorem ezl_c20 {L : Nat} (hL : L ≤ 3584) (hρ : ρ 8 = Int32.ofNat L) (hd : 60 ≤ d) {c : Int} (hc : ezw_in c) (h0 : 0 ≤ c) (h7 : c + 7 ≤ (L : Int)) {g : Nat → ezq_C} {s : Int} {a b : Int → Int} {y : ezj_S} (hJ : ezl_J s a s b y y g) (hE : ezf_eq s a b) (fin : ∀ (s : Int) (a b : Int → Int) (g : Nat → ezq_C) (y : ezj_S), ezl_J s a s b y y g → ezf_eq s a b → ezw_E l ρ B xa Hb D cA d ezq_re336 (fun v _ => v = some (ezw_i 1)) 1214 [some (ezq_xt 0), some (ezw_p 0), some (ezw_p 72), some (ezw_i c)] [] g) : ezw_E l ρ B xa Hb D cA d ezq_re336 (fun v _ => v = some (ezw_i 1)) 832 [some (ezq_xt 0), some (ezw_p 0), some (ezw_p 72), some (ezw_i c)] [] g := by
  obtain ⟨s1, hs1, es1⟩ : ∃ s1, ezw_in s1 ∧ (ρ (ezq_sx (c + 1).toNat)).toInt = s1 := ⟨_, ⟨Int32.le_toInt _, Int32.toInt_lt _⟩, rfl⟩
  obtain ⟨s2, hs2, es2⟩ : ∃ s2, ezw_in s2 ∧ (ρ (ezq_sx (c + 2).toNat)).toInt = s2 := ⟨_, ⟨Int32.le_toInt _, Int32.toInt_lt _⟩, rfl⟩
  obtain ⟨s3, hs3, es3⟩ : ∃ s3, ezw_in s3 ∧ (ρ (ezq_sx (c + 3).toNat)).toInt = s3 := ⟨_, ⟨Int32.le_toInt _, Int32.toInt_lt _⟩, rfl⟩
  have hq := ezl_hz hJ
  refine ezw_aload_n rfl rfl ?_
  refine ezw_aloadx rfl rfl ?_
  refine ezw_iload_n rfl rfl ?_
  refine ezw_iconst (1) rfl rfl ?_
  refine ezw_iadd (k := c + 1) rfl (by omega) ?_
  refine ezw_sload rfl (by omega) (by omega) hL hρ ?_
  rw [es1]
  refine ezw_aloadx rfl rfl ?_
  refine ezw_iload_n rfl rfl ?_
  refine ezw_iconst (2) rfl rfl ?_
  refine ezw_iadd (k := c + 2) rfl (by omega) ?_
  refine ezw_sload rfl (by omega) (by omega) hL hρ ?_
  rw [es2]
  refine ezw_aloadx rfl rfl ?_
  refine ezw_iload_n rfl rfl ?_
  refine ezw_iconst (3) rfl rfl ?_
  refine ezw_iadd (k := c + 3) rfl (by omega) ?_
  refine ezw_sload rfl (by omega) (by omega) hL hρ ?_
  rw [es3]
  obtain ⟨fs1, ex1⟩ := ezl_x0 hJ
  refine ezw_call0_3 rfl (by omega) ex1 rfl rfl rfl rfl (ezj_x169 hJ (by omega) hs1 hs2 hs3) ?_
  rintro _ g1 ⟨⟨u1, rfl⟩, hJ1⟩
  refine ezw_pop rfl rfl ?_
  refine ezw_aload_n rfl rfl ?_
  refine ezw_aloadx rfl rfl ?_
  refine ezw_iload_n rfl rfl ?_
  refine ezw_iconst (1) rfl rfl ?_
  refine ezw_iadd (k := c + 1) rfl (by omega) ?_
  refine ezw_sload rfl (by omega) (by omega) hL hρ ?_
  rw [es1]
  refine ezw_aloadx rfl rfl ?_
  refine ezw_iload_n rfl rfl ?_
  refine ezw_iconst (2) rfl rfl ?_
  refine ezw_iadd (k := c + 2) rfl (by omega) ?_
  refine ezw_sload rfl (by omega) (by omega) hL hρ ?_
  rw [es2]
  refine ezw_aloadx rfl rfl ?_
  refine ezw_iload_n rfl rfl ?_
  refine ezw_iconst (3) rfl rfl ?_
  refine ezw_iadd (k := c + 3) rfl (by omega) ?_
  refine ezw_sload rfl (by omega) (by omega) hL hρ ?_
  rw [es3]
  obtain ⟨fs2, ex2⟩ := ezl_m0 hJ1
  refine ezw_call0_3 rfl (by omega) ex2 rfl rfl rfl rfl (ezj_m311 hJ1 (by omega) hs1 hs2 hs3 hq) ?_
  rintro _ g2 ⟨⟨u2, rfl⟩, hJ2⟩
  refine ezw_pop rfl rfl ?_
  refine ezw_goto rfl rfl ?_
  exact fin s a b g2 y hJ2 hE
theorem ezl_c21 {L : Nat} (hL : L ≤ 3584) (hρ : ρ 8 = Int32.ofNat L) (hd : 60 ≤ d) {c : Int} (hc : ezw_in c) (h0 : 0 ≤ c) (h7 : c + 7 ≤ (L : Int)) {g : Nat → ezq_C} {s : Int} {a b : Int → Int} {y : ezj_S} (hJ : ezl_J s a s b y y g) (hE : ezf_eq s a b) (fin : ∀ (s : Int) (a b : Int → Int) (g : Nat → ezq_C) (y : ezj_S), ezl_J s a s b y y g → ezf_eq s a b → ezw_E l ρ B xa Hb D cA d ezq_re336 (fun v _ => v = some (ezw_i 1)) 1214 [some (ezq_xt 0), some (ezw_p 0), some (ezw_p 72), some (ezw_i c)] [] g) : ezw_E l ρ B xa Hb D cA d ezq_re336 (fun v _ => v = some (ezw_i 1)) 875 [some (ezq_xt 0), some (ezw_p 0), some (ezw_p 72), some (ezw_i c)] [] g := by
  obtain ⟨s1, hs1, es1⟩ : ∃ s1, ezw_in s1 ∧ (ρ (ezq_sx (c + 1).toNat)).toInt = s1 := ⟨_, ⟨Int32.le_toInt _, Int32.toInt_lt _⟩, rfl⟩
  obtain ⟨s2, hs2, es2⟩ : ∃ s2, ezw_in s2 ∧ (ρ (ezq_sx (c + 2).toNat)).toInt = s2 := ⟨_, ⟨Int32.le_toInt _, Int32.toInt_lt _⟩, rfl⟩
  have hq := ezl_hz hJ
  refine ezw_aload_n rfl rfl ?_
  refine ezw_aloadx rfl rfl ?_
  refine ezw_iload_n rfl rfl ?_
  refine ezw_iconst (1) rfl rfl ?_
  refine ezw_iadd (k := c + 1) rfl (by omega) ?_
  refine ezw_sload rfl (by omega) (by omega) hL hρ ?_
  rw [es1]
  refine ezw_aloadx rfl rfl ?_
  refine ezw_iload_n rfl rfl ?_
  refine ezw_iconst (2) rfl rfl ?_
  refine ezw_iadd (k := c + 2) rfl (by omega) ?_
  refine ezw_sload rfl (by omega) (by omega) hL hρ ?_
  rw [es2]
  obtain ⟨fs1, ex1⟩ := ezl_x0 hJ
  refine ezw_call0_2 rfl (by omega) ex1 rfl rfl rfl rfl (ezj_x172 hJ (by omega) hs1 hs2) ?_
  rintro _ g1 ⟨⟨u1, rfl⟩, hJ1⟩
  refine ezw_pop rfl rfl ?_
  refine ezw_aload_n rfl rfl ?_
  refine ezw_aloadx rfl rfl ?_
  refine ezw_iload_n rfl rfl ?_
  refine ezw_iconst (1) rfl rfl ?_
  refine ezw_iadd (k := c + 1) rfl (by omega) ?_
  refine ezw_sload rfl (by omega) (by omega) hL hρ ?_
  rw [es1]
  refine ezw_aloadx rfl rfl ?_
  refine ezw_iload_n rfl rfl ?_
  refine ezw_iconst (2) rfl rfl ?_
  refine ezw_iadd (k := c + 2) rfl (by omega) ?_
  refine ezw_sload rfl (by omega) (by omega) hL hρ ?_
  rw [es2]
  obtain ⟨fs2, ex2⟩ := ezl_m0 hJ1
  refine ezw_call0_2 rfl (by omega) ex2 rfl rfl rfl rfl (ezj_m313 hJ1 (by omega) hs1 hs2 hq) ?_
  rintro _ g2 ⟨⟨u2, rfl⟩, hJ2⟩
  refine ezw_pop rfl rfl ?_
  refine ezw_goto rfl rfl ?_
  exact fin s a b g2 y hJ2 hE
theorem ezl_c22 {L : Nat} (hL : L ≤ 3584) (hρ : ρ 8 = Int32.ofNat L) (hd : 60 ≤ d) {c : Int} (hc : ezw_in c) (h0 : 0 ≤ c) (h7 : c + 7 ≤ (L : Int)) {g : Nat → ezq_C} {s : Int} {a b : Int → Int} {y : ezj_S} (hJ : ezl_J s a s b y y g) (hE : ezf_eq s a b) (fin : ∀ (s : Int) (a b : Int → Int) (g : Nat → ezq_C) (y : ezj_S), ezl_J s a s b y y g → ezf_eq s a b → ezw_E l ρ B xa Hb D cA d ezq_re336 (fun v _ => v = some (ezw_i 1)) 1214 [some (ezq_xt 0), some (ezw_p 0), some (ezw_p 72), some (ezw_i c)] [] g) : ezw_E l ρ B xa Hb D cA d ezq_re336 (fun v _ => v = some (ezw_i 1)) 908 [some (ezq_xt 0), some (ezw_p 0), some (ezw_p 72), some (ezw_i c)] [] g := by
  have hq := ezl_hz hJ
  refine ezw_aload_n rfl rfl ?_
  obtain ⟨fs1, ex1⟩ := ezl_x0 hJ
  refine ezw_call0_0 rfl (by omega) ex1 rfl rfl rfl rfl (ezj_x176 hJ (by omega)) ?_
  rintro _ g1 ⟨u1, y1, hu1, n1, rfl, hJ1⟩
  refine ezw_pop rfl rfl ?_
  refine ezw_aload_n rfl rfl ?_
  obtain ⟨fs2, ex2⟩ := ezl_m0 hJ1
  refine ezw_call0_0 rfl (by omega) ex2 rfl rfl rfl rfl (ezj_m316 hJ1 (by omega) hq) ?_
  rintro _ g2 ⟨u2, y2, hu2, n2, rfl, hJ2⟩
  obtain ⟨hte2, hye2⟩ := ezj_N22_f n1 n2
  subst hye2
  refine ezw_pop rfl rfl ?_
  refine ezw_goto rfl rfl ?_
  exact fin s a b g2 y1 hJ2 hE
theorem ezl_c23 {L : Nat} (hL : L ≤ 3584) (hρ : ρ 8 = Int32.ofNat L) (hd : 60 ≤ d) {c : Int} (hc : ezw_in c) (h0 : 0 ≤ c) (h7 : c + 7 ≤ (L : Int)) {g : Nat → ezq_C} {s : Int} {a b : Int → Int} {y : ezj_S} (hJ : ezl_J s a s b y y g) (hE : ezf_eq s a b) (fin : ∀ (s : Int) (a b : Int → Int) (g : Nat → ezq_C) (y : ezj_S), ezl_J s a s b y y g → ezf_eq s a b → ezw_E l ρ B xa Hb D cA d ezq_re336 (fun v _ => v = some (ezw_i 1)) 1214 [some (ezq_xt 0), some (ezw_p 0), some (ezw_p 72), some (ezw_i c)] [] g) : ezw_E l ρ B xa Hb D cA d ezq_re336 (fun v _ => v = some (ezw_i 1)) 921 [some (ezq_xt 0), some (ezw_p 0), some (ezw_p 72), some (ezw_i c)] [] g := by
  obtain ⟨s1, hs1, es1⟩ : ∃ s1, ezw_in s1 ∧ (ρ (ezq_sx (c + 1).toNat)).toInt = s1 := ⟨_, ⟨Int32.le_toInt _, Int32.toInt_lt _⟩, rfl⟩
  have hq := ezl_hz hJ
  refine ezw_aload_n rfl rfl ?_
  refine ezw_aloadx rfl rfl ?_
  refine ezw_iload_n rfl rfl ?_
  refine ezw_iconst (1) rfl rfl ?_
  refine ezw_iadd (k := c + 1) rfl (by omega) ?_
  refine ezw_sload rfl (by omega) (by omega) hL hρ ?_
  rw [es1]
  obtain ⟨fs1, ex1⟩ := ezl_x0 hJ
  refine ezw_call0_1 rfl (by omega) ex1 rfl rfl rfl rfl (ezj_x177 hJ (by omega) hs1) ?_
  rintro _ g1 ⟨u1, y1, hu1, n1, rfl, hJ1⟩
  refine ezw_pop rfl rfl ?_
  refine ezw_aload_n rfl rfl ?_
  refine ezw_aloadx rfl rfl ?_
  refine ezw_iload_n rfl rfl ?_
  refine ezw_iconst (1) rfl rfl ?_
  refine ezw_iadd (k := c + 1) rfl (by omega) ?_
  refine ezw_sload rfl (by omega) (by omega) hL hρ ?_
  rw [es1]
  obtain ⟨fs2, ex2⟩ := ezl_m0 hJ1
  refine ezw_call0_1 rfl (by omega) ex2 rfl rfl rfl rfl (ezj_m317 hJ1 (by omega) hs1 hq) ?_
  rintro _ g2 ⟨u2, y2, hu2, n2, rfl, hJ2⟩
  obtain ⟨hte2, hye2⟩ := ezj_N23_f n1 n2
  subst hye2
  refine ezw_pop rfl rfl ?_
  refine ezw_goto rfl rfl ?_
  exact fin s a b g2 y1 hJ2 hE
theorem ezl_c24 {L : Nat} (hL : L ≤ 3584) (hρ : ρ 8 = Int32.ofNat L) (hd : 60 ≤ d) {c : Int} (hc : ezw_in c) (h0 : 0 ≤ c) (h7 : c + 7 ≤ (L : Int)) {g : Nat → ezq_C} {s : Int} {a b : Int → Int} {y : ezj_S} (hJ : ezl_J s a s b y y g) (hE : ezf_eq s a b) (fin : ∀ (s : Int) (a b : Int → Int) (g : Nat → ezq_C) (y : ezj_S), ezl_J s a s b y y g → ezf_eq s a b → ezw_E l ρ B xa Hb D cA d ezq_re336 (fun v _ => v = some (ezw_i 1)) 1214 [some (ezq_xt 0), some (ezw_p 0), some (ezw_p 72), some (ezw_i c)] [] g) : ezw_E l ρ B xa Hb D cA d ezq_re336 (fun v _ => v = some (ezw_i 1)) 944 [some (ezq_xt 0), some (ezw_p 0), some (ezw_p 72), some (ezw_i c)] [] g := by
  obtain ⟨s1, hs1, es1⟩ : ∃ s1, ezw_in s1 ∧ (ρ (ezq_sx (c + 1).toNat)).toInt = s1 := ⟨_, ⟨Int32.le_toInt _, Int32.toInt_lt _⟩, rfl⟩
  have hq := ezl_hz hJ
  refine ezw_aload_n rfl rfl ?_
  refine ezw_aloadx rfl rfl ?_
  refine ezw_iload_n rfl rfl ?_
  refine ezw_iconst (1) rfl rfl ?_
  refine ezw_iadd (k := c + 1) rfl (by omega) ?_
  refine ezw_sload rfl (by omega) (by omega) hL hρ ?_
  rw [es1]
  obtain ⟨fs1, ex1⟩ := ezl_x0 hJ
  refine ezw_call0_1 rfl (by omega) ex1 rfl rfl rfl rfl (ezj_x178 hJ (by omega) hs1) ?_
  rintro _ g1 ⟨u1, y1, hu1, n1, rfl, hJ1⟩
  refine ezw_pop rfl rfl ?_
  refine ezw_aload_n rfl rfl ?_
  refine ezw_aloadx rfl rfl ?_
  refine ezw_iload_n rfl rfl ?_
  refine ezw_iconst (1) rfl rfl ?_
  refine ezw_iadd (k := c + 1) rfl (by omega) ?_
  refine ezw_sload rfl (by omega) (by omega) hL hρ ?_
  rw [es1]
  obtain ⟨fs2, ex2⟩ := ezl_m0 hJ1
  refine ezw_call0_1 rfl (by omega) ex2 rfl rfl rfl rfl (ezj_m318 hJ1 (by omega) hs1 hq) ?_
  rintro _ g2 ⟨u2, y2, hu2, n2, rfl, hJ2⟩
  obtain ⟨hte2, hye2⟩ := ezj_N24_f n1 n2
  subst hye2
  refine ezw_pop rfl rfl ?_
  refine ezw_goto rfl rfl ?_
  exact fin s a b g2 y1 hJ2 hE
theorem ezl_c25 {L : Nat} (hL : L ≤ 3584) (hρ : ρ 8 = Int32.ofNat L) (hd : 60 ≤ d) {c : Int} (hc : ezw_in c) (h0 : 0 ≤ c) (h7 : c + 7 ≤ (L : Int)) {g : Nat → ezq_C} {s : Int} {a b : Int → Int} {y : ezj_S} (hJ : ezl_J s a s b y y g) (hE : ezf_eq s a b) (fin : ∀ (s : Int) (a b : Int → Int) (g : Nat → ezq_C) (y : ezj_S), ezl_J s a s b y y g → ezf_eq s a b → ezw_E l ρ B xa Hb D cA d ezq_re336 (fun v _ => v = some (ezw_i 1)) 1214 [some (ezq_xt 0), some (ezw_p 0), some (ezw_p 72), some (ezw_i c)] [] g) : ezw_E l ρ B xa Hb D cA d ezq_re336 (fun v _ => v = some (ezw_i 1)) 967 [some (ezq_xt 0), some (ezw_p 0), some (ezw_p 72), some (ezw_i c)] [] g := by
  obtain ⟨s1, hs1, es1⟩ : ∃ s1, ezw_in s1 ∧ (ρ (ezq_sx (c + 1).toNat)).toInt = s1 := ⟨_, ⟨Int32.le_toInt _, Int32.toInt_lt _⟩, rfl⟩
  obtain ⟨s2, hs2, es2⟩ : ∃ s2, ezw_in s2 ∧ (ρ (ezq_sx (c + 2).toNat)).toInt = s2 := ⟨_, ⟨Int32.le_toInt _, Int32.toInt_lt _⟩, rfl⟩
  have hq := ezl_hz hJ
  refine ezw_aload_n rfl rfl ?_
  refine ezw_aloadx rfl rfl ?_
  refine ezw_iload_n rfl rfl ?_
  refine ezw_iconst (1) rfl rfl ?_
  refine ezw_iadd (k := c + 1) rfl (by omega) ?_
  refine ezw_sload rfl (by omega) (by omega) hL hρ ?_
  rw [es1]
  refine ezw_aloadx rfl rfl ?_
  refine ezw_iload_n rfl rfl ?_
  refine ezw_iconst (2) rfl rfl ?_
  refine ezw_iadd (k := c + 2) rfl (by omega) ?_
  refine ezw_sload rfl (by omega) (by omega) hL hρ ?_
  rw [es2]
  obtain ⟨fs1, ex1⟩ := ezl_x0 hJ
  refine ezw_call0_2 rfl (by omega) ex1 rfl rfl rfl rfl (ezj_x181 hJ (by omega) hs1 hs2) ?_
  rintro _ g1 ⟨u1, y1, hu1, n1, rfl, hJ1⟩
  refine ezw_pop rfl rfl ?_
  refine ezw_aload_n rfl rfl ?_
  refine ezw_aloadx rfl rfl ?_
  refine ezw_iload_n rfl rfl ?_
  refine ezw_iconst (1) rfl rfl ?_
  refine ezw_iadd (k := c + 1) rfl (by omega) ?_
  refine ezw_sload rfl (by omega) (by omega) hL hρ ?_
  rw [es1]
  refine ezw_aloadx rfl rfl ?_
  refine ezw_iload_n rfl rfl ?_
  refine ezw_iconst (2) rfl rfl ?_
  refine ezw_iadd (k := c + 2) rfl (by omega) ?_
  refine ezw_sload rfl (by omega) (by omega) hL hρ ?_
  rw [es2]
  obtain ⟨fs2, ex2⟩ := ezl_m0 hJ1
  refine ezw_call0_2 rfl (by omega) ex2 rfl rfl rfl rfl (ezj_m319 hJ1 (by omega) hs1 hs2 hq) ?_
  rintro _ g2 ⟨u2, y2, hu2, n2, rfl, hJ2⟩
  obtain ⟨hte2, hye2⟩ := ezj_N25_f n1 n2
  subst hye2
  refine ezw_pop rfl rfl ?_
  refine ezw_goto rfl rfl ?_
  exact fin s a b g2 y1 hJ2 hE
theorem ezl_c26 {L : Nat} (hL : L ≤ 3584) (hρ : ρ 8 = Int32.ofNat L) (hd : 60 ≤ d) {c : Int} (hc : ezw_in c) (h0 : 0 ≤ c) (h7 : c + 7 ≤ (L : Int)) {g : Nat → ezq_C} {s : Int} {a b : Int → Int} {y : ezj_S} (hJ : ezl_J s a s b y y g) (hE : ezf_eq s a b) (fin : ∀ (s : Int) (a b : Int → Int) (g : Nat → ezq_C) (y : ezj_S), ezl_J s a s b y y g → ezf_eq s a b → ezw_E l ρ B xa Hb D cA d ezq_re336 (fun v _ => v = some (ezw_i 1)) 1214 [some (ezq_xt 0), some (ezw_p 0), some (ezw_p 72), some (ezw_i c)] [] g) : ezw_E l ρ B xa Hb D cA d ezq_re336 (fun v _ => v = some (ezw_i 1)) 1000 [some (ezq_xt 0), some (ezw_p 0), some (ezw_p 72), some (ezw_i c)] [] g := by
  obtain ⟨s1, hs1, es1⟩ : ∃ s1, ezw_in s1 ∧ (ρ (ezq_sx (c + 1).toNat)).toInt = s1 := ⟨_, ⟨Int32.le_toInt _, Int32.toInt_lt _⟩, rfl⟩
  have hq := ezl_hz hJ
  refine ezw_aload_n rfl rfl ?_
  refine ezw_aloadx rfl rfl ?_
  refine ezw_iload_n rfl rfl ?_
  refine ezw_iconst (1) rfl rfl ?_
  refine ezw_iadd (k := c + 1) rfl (by omega) ?_
  refine ezw_sload rfl (by omega) (by omega) hL hρ ?_
  rw [es1]
  obtain ⟨fs1, ex1⟩ := ezl_x0 hJ
  refine ezw_call0_1 rfl (by omega) ex1 rfl rfl rfl rfl (ezj_x185 hJ (by omega) hs1) ?_
  rintro _ g1 ⟨u1, y1, hu1, n1, rfl, hJ1⟩
  refine ezw_pop rfl rfl ?_
  refine ezw_aload_n rfl rfl ?_
  refine ezw_aloadx rfl rfl ?_
  refine ezw_iload_n rfl rfl ?_
  refine ezw_iconst (1) rfl rfl ?_
  refine ezw_iadd (k := c + 1) rfl (by omega) ?_
  refine ezw_sload rfl (by omega) (by omega) hL hρ ?_
  rw [es1]
  obtain ⟨fs2, ex2⟩ := ezl_m0 hJ1
  refine ezw_call0_1 rfl (by omega) ex2 rfl rfl rfl rfl (ezj_m324 hJ1 (by omega) hs1 hq) ?_
  rintro _ g2 ⟨u2, y2, hu2, n2, rfl, hJ2⟩
  obtain ⟨hte2, hye2⟩ := ezj_N26_f n1 n2
  subst hye2
  refine ezw_pop rfl rfl ?_
  refine ezw_goto rfl rfl ?_
  exact fin s a b g2 y1 hJ2 hE
theorem ezl_c27 {L : Nat} (hL : L ≤ 3584) (hρ : ρ 8 = Int32.ofNat L) (hd : 60 ≤ d) {c : Int} (hc : ezw_in c) (h0 : 0 ≤ c) (h7 : c + 7 ≤ (L : Int)) {g : Nat → ezq_C} {s : Int} {a b : Int → Int} {y : ezj_S} (hJ : ezl_J s a s b y y g) (hE : ezf_eq s a b) (fin : ∀ (s : Int) (a b : Int → Int) (g : Nat → ezq_C) (y : ezj_S), ezl_J s a s b y y g → ezf_eq s a b → ezw_E l ρ B xa Hb D cA d ezq_re336 (fun v _ => v = some (ezw_i 1)) 1214 [some (ezq_xt 0), some (ezw_p 0), some (ezw_p 72), some (ezw_i c)] [] g) : ezw_E l ρ B xa Hb D cA d ezq_re336 (fun v _ => v = some (ezw_i 1)) 1023 [some (ezq_xt 0), some (ezw_p 0), some (ezw_p 72), some (ezw_i c)] [] g := by
  obtain ⟨s1, hs1, es1⟩ : ∃ s1, ezw_in s1 ∧ (ρ (ezq_sx (c + 1).toNat)).toInt = s1 := ⟨_, ⟨Int32.le_toInt _, Int32.toInt_lt _⟩, rfl⟩
  obtain ⟨s2, hs2, es2⟩ : ∃ s2, ezw_in s2 ∧ (ρ (ezq_sx (c + 2).toNat)).toInt = s2 := ⟨_, ⟨Int32.le_toInt _, Int32.toInt_lt _⟩, rfl⟩
  have hq := ezl_hz hJ
  refine ezw_aload_n rfl rfl ?_
  refine ezw_aloadx rfl rfl ?_
  refine ezw_iload_n rfl rfl ?_
  refine ezw_iconst (1) rfl rfl ?_
  refine ezw_iadd (k := c + 1) rfl (by omega) ?_
  refine ezw_sload rfl (by omega) (by omega) hL hρ ?_
  rw [es1]
  refine ezw_aloadx rfl rfl ?_
  refine ezw_iload_n rfl rfl ?_
  refine ezw_iconst (2) rfl rfl ?_
  refine ezw_iadd (k := c + 2) rfl (by omega) ?_
  refine ezw_sload rfl (by omega) (by omega) hL hρ ?_
  rw [es2]
  obtain ⟨fs1, ex1⟩ := ezl_x0 hJ
  refine ezw_call0_2 rfl (by omega) ex1 rfl rfl rfl rfl (ezj_x187 hJ (by omega) hs1 hs2) ?_
  rintro _ g1 ⟨u1, y1, hu1, n1, rfl, hJ1⟩
  refine ezw_pop rfl rfl ?_
  refine ezw_aload_n rfl rfl ?_
  refine ezw_aloadx rfl rfl ?_
  refine ezw_iload_n rfl rfl ?_
  refine ezw_iconst (1) rfl rfl ?_
  refine ezw_iadd (k := c + 1) rfl (by omega) ?_
  refine ezw_sload rfl (by omega) (by omega) hL hρ ?_
  rw [es1]
  refine ezw_aloadx rfl rfl ?_
  refine ezw_iload_n rfl rfl ?_
  refine ezw_iconst (2) rfl rfl ?_
  refine ezw_iadd (k := c + 2) rfl (by omega) ?_
  refine ezw_sload rfl (by omega) (by omega) hL hρ ?_
  rw [es2]
  obtain ⟨fs2, ex2⟩ := ezl_m0 hJ1
  refine ezw_call0_2 rfl (by omega) ex2 rfl rfl rfl rfl (ezj_m325 hJ1 (by omega) hs1 hs2 hq) ?_
  rintro _ g2 ⟨u2, y2, hu2, n2, rfl, hJ2⟩
  obtain ⟨hte2, hye2⟩ := ezj_N27_f n1 n2
  subst hye2
  refine ezw_pop rfl rfl ?_
  refine ezw_goto rfl rfl ?_
  exact fin s a b g2 y1 hJ2 hE
theorem ezl_c28 {L : Nat} (hL : L ≤ 3584) (hρ : ρ 8 = Int32.ofNat L) (hd : 60 ≤ d) {c : Int} (hc : ezw_in c) (h0 : 0 ≤ c) (h7 : c + 7 ≤ (L : Int)) {g : Nat → ezq_C} {s : Int} {a b : Int → Int} {y : ezj_S} (hJ : ezl_J s a s b y y g) (hE : ezf_eq s a b) (fin : ∀ (s : Int) (a b : Int → Int) (g : Nat → ezq_C) (y : ezj_S), ezl_J s a s b y y g → ezf_eq s a b → ezw_E l ρ B xa Hb D cA d ezq_re336 (fun v _ => v = some (ezw_i 1)) 1214 [some (ezq_xt 0), some (ezw_p 0), some (ezw_p 72), some (ezw_i c)] [] g) : ezw_E l ρ B xa Hb D cA d ezq_re336 (fun v _ => v = some (ezw_i 1)) 1056 [some (ezq_xt 0), some (ezw_p 0), some (ezw_p 72), some (ezw_i c)] [] g := by
  obtain ⟨s1, hs1, es1⟩ : ∃ s1, ezw_in s1 ∧ (ρ (ezq_sx (c + 1).toNat)).toInt = s1 := ⟨_, ⟨Int32.le_toInt _, Int32.toInt_lt _⟩, rfl⟩
  obtain ⟨s2, hs2, es2⟩ : ∃ s2, ezw_in s2 ∧ (ρ (ezq_sx (c + 2).toNat)).toInt = s2 := ⟨_, ⟨Int32.le_toInt _, Int32.toInt_lt _⟩, rfl⟩
  have hq := ezl_hz hJ
  refine ezw_aload_n rfl rfl ?_
  refine ezw_aloadx rfl rfl ?_
  refine ezw_iload_n rfl rfl ?_
  refine ezw_iconst (1) rfl rfl ?_
  refine ezw_iadd (k := c + 1) rfl (by omega) ?_
  refine ezw_sload rfl (by omega) (by omega) hL hρ ?_
  rw [es1]
  refine ezw_aloadx rfl rfl ?_
  refine ezw_iload_n rfl rfl ?_
  refine ezw_iconst (2) rfl rfl ?_
  refine ezw_iadd (k := c + 2) rfl (by omega) ?_
  refine ezw_sload rfl (by omega) (by omega) hL hρ ?_
  rw [es2]
  obtain ⟨fs1, ex1⟩ := ezl_x0 hJ
  refine ezw_call0_2 rfl (by omega) ex1 rfl rfl rfl rfl (ezj_x189 hJ (by omega) hs1 hs2) ?_
  rintro _ g1 ⟨⟨u1, rfl⟩, hJ1⟩
  refine ezw_pop rfl rfl ?_
  refine ezw_aload_n rfl rfl ?_
  refine ezw_aloadx rfl rfl ?_
  refine ezw_iload_n rfl rfl ?_
  refine ezw_iconst (1) rfl rfl ?_
  refine ezw_iadd (k := c + 1) rfl (by omega) ?_
  refine ezw_sload rfl (by omega) (by omega) hL hρ ?_
  rw [es1]
  refine ezw_aloadx rfl rfl ?_
  refine ezw_iload_n rfl rfl ?_
  refine ezw_iconst (2) rfl rfl ?_
  refine ezw_iadd (k := c + 2) rfl (by omega) ?_
  refine ezw_sload rfl (by omega) (by omega) hL hρ ?_
  rw [es2]
  obtain ⟨fs2, ex2⟩ := ezl_m0 hJ1
  refine ezw_call0_2 rfl (by omega) ex2 rfl rfl rfl rfl (ezj_m326 hJ1 (by omega) hs1 hs2 hq) ?_
  rintro _ g2 ⟨⟨u2, rfl⟩, hJ2⟩
  refine ezw_pop rfl rfl ?_
  refine ezw_goto rfl rfl ?_
  exact fin s a b g2 y hJ2 hE
theorem ezl_c29 {L : Nat} (hL : L ≤ 3584) (hρ : ρ 8 = Int32.ofNat L) (hd : 60 ≤ d) {c : Int} (hc : ezw_in c) (h0 : 0 ≤ c) (h7 : c + 7 ≤ (L : Int)) {g : Nat → ezq_C} {s : Int} {a b : Int → Int} {y : ezj_S} (hJ : ezl_J s a s b y y g) (hE : ezf_eq s a b) (fin : ∀ (s : Int) (a b : Int → Int) (g : Nat → ezq_C) (y : ezj_S), ezl_J s a s b y y g → ezf_eq s a b → ezw_E l ρ B xa Hb D cA d ezq_re336 (fun v _ => v = some (ezw_i 1)) 1214 [some (ezq_xt 0), some (ezw_p 0), some (ezw_p 72), some (ezw_i c)] [] g) : ezw_E l ρ B xa Hb D cA d ezq_re336 (fun v _ => v = some (ezw_i 1)) 1089 [some (ezq_xt 0), some (ezw_p 0), some (ezw_p 72), some (ezw_i c)] [] g := by
  obtain ⟨s1, hs1, es1⟩ : ∃ s1, ezw_in s1 ∧ (ρ (ezq_sx (c + 1).toNat)).toInt = s1 := ⟨_, ⟨Int32.le_toInt _, Int32.toInt_lt _⟩, rfl⟩
  obtain ⟨s2, hs2, es2⟩ : ∃ s2, ezw_in s2 ∧ (ρ (ezq_sx (c + 2).toNat)).toInt = s2 := ⟨_, ⟨Int32.le_toInt _, Int32.toInt_lt _⟩, rfl⟩
  obtain ⟨s3, hs3, es3⟩ : ∃ s3, ezw_in s3 ∧ (ρ (ezq_sx (c + 3).toNat)).toInt = s3 := ⟨_, ⟨Int32.le_toInt _, Int32.toInt_lt _⟩, rfl⟩
  obtain ⟨s4, hs4, es4⟩ : ∃ s4, ezw_in s4 ∧ (ρ (ezq_sx (c + 4).toNat)).toInt = s4 := ⟨_, ⟨Int32.le_toInt _, Int32.toInt_lt _⟩, rfl⟩
  have hq := ezl_hz hJ
  refine ezw_aload_n rfl rfl ?_
  refine ezw_aloadx rfl rfl ?_
  refine ezw_iload_n rfl rfl ?_
  refine ezw_iconst (1) rfl rfl ?_
  refine ezw_iadd (k := c + 1) rfl (by omega) ?_
  refine ezw_sload rfl (by omega) (by omega) hL hρ ?_
  rw [es1]
  refine ezw_aloadx rfl rfl ?_
  refine ezw_iload_n rfl rfl ?_
  refine ezw_iconst (2) rfl rfl ?_
  refine ezw_iadd (k := c + 2) rfl (by omega) ?_
  refine ezw_sload rfl (by omega) (by omega) hL hρ ?_
  rw [es2]
  refine ezw_aloadx rfl rfl ?_
  refine ezw_iload_n rfl rfl ?_
  refine ezw_iconst (3) rfl rfl ?_
  refine ezw_iadd (k := c + 3) rfl (by omega) ?_
  refine ezw_sload rfl (by omega) (by omega) hL hρ ?_
  rw [es3]
  refine ezw_aloadx rfl rfl ?_
  refine ezw_iload_n rfl rfl ?_
  refine ezw_iconst (4) rfl rfl ?_
  refine ezw_iadd (k := c + 4) rfl (by omega) ?_
  refine ezw_sload rfl (by omega) (by omega) hL hρ ?_
  rw [es4]
  obtain ⟨fs1, ex1⟩ := ezl_x0 hJ
  refine ezw_call0_4 rfl (by omega) ex1 rfl rfl rfl rfl (ezj_x195 hJ (by omega) hs1 hs2 hs3 hs4) ?_
  rintro _ g1 ⟨⟨u1, rfl⟩, hJ1⟩
  refine ezw_pop rfl rfl ?_
  refine ezw_aload_n rfl rfl ?_
  refine ezw_aloadx rfl rfl ?_
  refine ezw_iload_n rfl rfl ?_
  refine ezw_iconst (1) rfl rfl ?_
  refine ezw_iadd (k := c + 1) rfl (by omega) ?_
  refine ezw_sload rfl (by omega) (by omega) hL hρ ?_
  rw [es1]
  refine ezw_aloadx rfl rfl ?_
  refine ezw_iload_n rfl rfl ?_
  refine ezw_iconst (2) rfl rfl ?_
  refine ezw_iadd (k := c + 2) rfl (by omega) ?_
  refine ezw_sload rfl (by omega) (by omega) hL hρ ?_
  rw [es2]
  refine ezw_aloadx rfl rfl ?_
  refine ezw_iload_n rfl rfl ?_
  refine ezw_iconst (3) rfl rfl ?_
  refine ezw_iadd (k := c + 3) rfl (by omega) ?_
  refine ezw_sload rfl (by omega) (by omega) hL hρ ?_
  rw [es3]
  refine ezw_aloadx rfl rfl ?_
  refine ezw_iload_n rfl rfl ?_
  refine ezw_iconst (4) rfl rfl ?_
  refine ezw_iadd (k := c + 4) rfl (by omega) ?_
  refine ezw_sload rfl (by omega) (by omega) hL hρ ?_
  rw [es4]
  obtain ⟨fs2, ex2⟩ := ezl_m0 hJ1
  refine ezw_call0_4 rfl (by omega) ex2 rfl rfl rfl rfl (ezj_m329 hJ1 (by omega) hs1 hs2 hs3 hs4 hq) ?_
  rintro _ g2 ⟨⟨u2, rfl⟩, hJ2⟩
  refine ezw_pop rfl rfl ?_
  refine ezw_goto rfl rfl ?_
  exact fin s a b g2 y hJ2 hE
theorem ezl_c30 {L : Nat} (hL : L ≤ 3584) (hρ : ρ 8 = Int32.ofNat L) (hd : 60 ≤ d) {c : Int} (hc : ezw_in c) (h0 : 0 ≤ c) (h7 : c + 7 ≤ (L : Int)) {g : Nat → ezq_C} {s : Int} {a b : Int → Int} {y : ezj_S} (hJ : ezl_J s a s b y y g) (hE : ezf_eq s a b) (fin : ∀ (s : Int) (a b : Int → Int) (g : Nat → ezq_C) (y : ezj_S), ezl_J s a s b y y g → ezf_eq s a b → ezw_E l ρ B xa Hb D cA d ezq_re336 (fun v _ => v = some (ezw_i 1)) 1214 [some (ezq_xt 0), some (ezw_p 0), some (ezw_p 72), some (ezw_i c)] [] g) : ezw_E l ρ B xa Hb D cA d ezq_re336 (fun v _ => v = some (ezw_i 1)) 1142 [some (ezq_xt 0), some (ezw_p 0), some (ezw_p 72), some (ezw_i c)] [] g := by
  obtain ⟨s1, hs1, es1⟩ : ∃ s1, ezw_in s1 ∧ (ρ (ezq_sx (c + 1).toNat)).toInt = s1 := ⟨_, ⟨Int32.le_toInt _, Int32.toInt_lt _⟩, rfl⟩
  obtain ⟨s2, hs2, es2⟩ : ∃ s2, ezw_in s2 ∧ (ρ (ezq_sx (c + 2).toNat)).toInt = s2 := ⟨_, ⟨Int32.le_toInt _, Int32.toInt_lt _⟩, rfl⟩
  have hq := ezl_hz hJ
  refine ezw_aload_n rfl rfl ?_
  refine ezw_aloadx rfl rfl ?_
  refine ezw_iload_n rfl rfl ?_
  refine ezw_iconst (1) rfl rfl ?_
  refine ezw_iadd (k := c + 1) rfl (by omega) ?_
  refine ezw_sload rfl (by omega) (by omega) hL hρ ?_
  rw [es1]
  refine ezw_aloadx rfl rfl ?_
  refine ezw_iload_n rfl rfl ?_
  refine ezw_iconst (2) rfl rfl ?_
  refine ezw_iadd (k := c + 2) rfl (by omega) ?_
  refine ezw_sload rfl (by omega) (by omega) hL hρ ?_
  rw [es2]
  refine ezw_if_eq rfl rfl hs2 (fun h1 => ?_) (fun h1 => ?_)
  · refine ezw_iconst (0) rfl rfl ?_
    obtain ⟨fs2, ex2⟩ := ezl_x0 hJ
    refine ezw_call0_2 rfl (by omega) ex2 rfl rfl rfl rfl (ezj_x201 hJ (by omega) hs1 ⟨by decide, by decide⟩ ⟨by decide, by decide⟩) ?_
    rintro _ g2 ⟨u2, y2, hu2, n2, rfl, hJ2⟩
    refine ezw_pop rfl rfl ?_
    refine ezw_aload_n rfl rfl ?_
    refine ezw_aloadx rfl rfl ?_
    refine ezw_iload_n rfl rfl ?_
    refine ezw_iconst (1) rfl rfl ?_
    refine ezw_iadd (k := c + 1) rfl (by omega) ?_
    refine ezw_sload rfl (by omega) (by omega) hL hρ ?_
    rw [es1]
    refine ezw_aloadx rfl rfl ?_
    refine ezw_iload_n rfl rfl ?_
    refine ezw_iconst (2) rfl rfl ?_
    refine ezw_iadd (k := c + 2) rfl (by omega) ?_
    refine ezw_sload rfl (by omega) (by omega) hL hρ ?_
    rw [es2]
    refine ezw_if_eq rfl rfl hs2 (fun h3 => ?_) (fun h3 => ?_)
    · refine ezw_iconst (0) rfl rfl ?_
      obtain ⟨fs4, ex4⟩ := ezl_m0 hJ2
      refine ezw_call0_2 rfl (by omega) ex4 rfl rfl rfl rfl (ezj_m334 hJ2 (by omega) hs1 ⟨by decide, by decide⟩ ⟨by decide, by decide⟩ hq) ?_
      rintro _ g4 ⟨u4, y4, hu4, n4, rfl, hJ4⟩
      obtain ⟨hte4, hye4⟩ := ezj_N30_f n2 n4
      subst hye4
      refine ezw_pop rfl rfl ?_
      refine ezw_goto rfl rfl ?_
      exact fin s a b g4 y2 hJ4 hE
    · exfalso
      omega
  · refine ezw_iconst (1) rfl rfl ?_
    refine ezw_goto rfl rfl ?_
    obtain ⟨fs5, ex5⟩ := ezl_x0 hJ
    refine ezw_call0_2 rfl (by omega) ex5 rfl rfl rfl rfl (ezj_x201 hJ (by omega) hs1 ⟨by decide, by decide⟩ ⟨by decide, by decide⟩) ?_
    rintro _ g5 ⟨u5, y5, hu5, n5, rfl, hJ5⟩
    refine ezw_pop rfl rfl ?_
    refine ezw_aload_n rfl rfl ?_
    refine ezw_aloadx rfl rfl ?_
    refine ezw_iload_n rfl rfl ?_
    refine ezw_iconst (1) rfl rfl ?_
    refine ezw_iadd (k := c + 1) rfl (by omega) ?_
    refine ezw_sload rfl (by omega) (by omega) hL hρ ?_
    rw [es1]
    refine ezw_aloadx rfl rfl ?_
    refine ezw_iload_n rfl rfl ?_
    refine ezw_iconst (2) rfl rfl ?_
    refine ezw_iadd (k := c + 2) rfl (by omega) ?_
    refine ezw_sload rfl (by omega) (by omega) hL hρ ?_
    rw [es2]
    refine ezw_if_eq rfl rfl hs2 (fun h6 => ?_) (fun h6 => ?_)
    · exfalso
      omega
    · refine ezw_iconst (1) rfl rfl ?_
      refine ezw_goto rfl rfl ?_
      obtain ⟨fs7, ex7⟩ := ezl_m0 hJ5
      refine ezw_call0_2 rfl (by omega) ex7 rfl rfl rfl rfl (ezj_m334 hJ5 (by omega) hs1 ⟨by decide, by decide⟩ ⟨by decide, by decide⟩ hq) ?_
      rintro _ g7 ⟨u7, y7, hu7, n7, rfl, hJ7⟩
      obtain ⟨hte7, hye7⟩ := ezj_N30_f n5 n7
      subst hye7
      refine ezw_pop rfl rfl ?_
      refine ezw_goto rfl rfl ?_
      exact fin s a b g7 y5 hJ7 hE
theorem ezl_c31 {L : Nat} (hL : L ≤ 3584) (hρ : ρ 8 = Int32.ofNat L) (hd : 60 ≤ d) {c : Int} (hc : ezw_in c) (h0 : 0 ≤ c) (h7 : c + 7 ≤ (L : Int)) {g : Nat → ezq_C} {s : Int} {a b : Int → Int} {y : ezj_S} (hJ : ezl_J s a s b y y g) (hE : ezf_eq s a b) (fin : ∀ (s : Int) (a b : Int → Int) (g : Nat → ezq_C) (y : ezj_S), ezl_J s a s b y y g → ezf_eq s a b → ezw_E l ρ B xa Hb D cA d ezq_re336 (fun v _ => v = some (ezw_i 1)) 1214 [some (ezq_xt 0), some (ezw_p 0), some (ezw_p 72), some (ezw_i c)] [] g) : ezw_E l ρ B xa Hb D cA d ezq_re336 (fun v _ => v = some (ezw_i 1)) 1191 [some (ezq_xt 0), some (ezw_p 0), some (ezw_p 72), some (ezw_i c)] [] g := by
  obtain ⟨s1, hs1, es1⟩ : ∃ s1, ezw_in s1 ∧ (ρ (ezq_sx (c + 1).toNat)).toInt = s1 := ⟨_, ⟨Int32.le_toInt _, Int32.toInt_lt _⟩, rfl⟩
  have hq := ezl_hz hJ
  refine ezw_aload_n rfl rfl ?_
  refine ezw_aloadx rfl rfl ?_
  refine ezw_iload_n rfl rfl ?_
  refine ezw_iconst (1) rfl rfl ?_
  refine ezw_iadd (k := c + 1) rfl (by omega) ?_
  refine ezw_sload rfl (by omega) (by omega) hL hρ ?_
  rw [es1]
  obtain ⟨fs1, ex1⟩ := ezl_x0 hJ
  refine ezw_call0_1 rfl (by omega) ex1 rfl rfl rfl rfl (ezj_x209 hJ (by omega) hs1) ?_
  rintro _ g1 ⟨⟨u1, rfl⟩, hJ1⟩
  refine ezw_pop rfl rfl ?_
  refine ezw_aload_n rfl rfl ?_
  refine ezw_aloadx rfl rfl ?_
  refine ezw_iload_n rfl rfl ?_
  refine ezw_iconst (1) rfl rfl ?_
  refine ezw_iadd (k := c + 1) rfl (by omega) ?_
  refine ezw_sload rfl (by omega) (by omega) hL hρ ?_
  rw [es1]
  obtain ⟨fs2, ex2⟩ := ezl_m0 hJ1
  refine ezw_call0_1 rfl (by omega) ex2 rfl rfl rfl rfl (ezj_m335 hJ1 (by omega) hs1 hq) ?_
  rintro _ g2 ⟨⟨u2, rfl⟩, hJ2⟩
  refine ezw_pop rfl rfl ?_
  refine ezw_goto rfl rfl ?_
  exact fin s a b g2 y hJ2 hE
theorem ezl_loop {L : Nat} (hL : L ≤ 3584) (hρ : ρ 8 = Int32.ofNat L) (hd : 60 ≤ d) : ∀ c, ezw_in c → 0 ≤ c → ∀ (s : Int) (a b : Int → Int) (g : Nat → ezq_C) (y : ezj_S), ezl_J s a s b y y g → ezf_eq s a b → ezw_E l ρ B xa Hb D cA d ezq_re336 (fun v _ => v = some (ezw_i 1)) 18 [some (ezq_xt 0), some (ezw_p 0), some (ezw_p 72), some (ezw_i c)] [] g := by
  refine ezs_up ?_
  intro c hc ih h0 s a b g y hJ hE
  have h8 : (ρ 8).toInt = (L : Int) := by
    rw [hρ]
    exact Int32.toInt_ofNat_of_lt (by omega)
  refine ezw_iload_n rfl rfl ?_
  refine ezw_aloadx rfl rfl ?_
  refine ezw_slen rfl ?_
  rw [h8]
  refine ezw_bipush (7) rfl rfl ?_
  refine ezw_isub (k := (L : Int) - 7) rfl (by omega) ?_
  refine ezw_icmp_gt rfl rfl hc ⟨by omega, by omega⟩ (fun h => ?_) (fun h => ?_)
  · refine ezw_iconst (1) rfl rfl ?_
    exact ezw_ireturn rfl (ezw_zret ⟨by omega, by omega⟩) rfl
  have fin : ∀ (s : Int) (a b : Int → Int) (g : Nat → ezq_C) (y : ezj_S), ezl_J s a s b y y g → ezf_eq s a b → ezw_E l ρ B xa Hb D cA d ezq_re336 (fun v _ => v = some (ezw_i 1)) 1214 [some (ezq_xt 0), some (ezw_p 0), some (ezw_p 72), some (ezw_i c)] [] g := by
    intro s a b g y hJ hE
    refine ezw_iinc (k := c + 7) (7) rfl rfl rfl rfl rfl ?_
    refine ezw_goto rfl rfl ?_
    exact ih (c + 7) (by omega) ⟨by omega, by omega⟩ (by omega) s a b g y hJ hE
  refine ezw_aloadx rfl rfl ?_
  refine ezw_iload_n rfl rfl ?_
  refine ezw_sload rfl (by omega) (by omega) hL hρ ?_
  refine ezw_bipush (31) rfl rfl ?_
  refine ezm_iand rfl (fun u hu ku => ?_)
  by_cases q0 : u = (0)
  · refine ezw_tableswitchE (v := 0) (p := 176) q0 rfl (by rfl) ?_
    exact ezl_c0 hL hρ hd hc h0 (by omega) hJ hE fin
  by_cases q1 : u = (1)
  · refine ezw_tableswitchE (v := 1) (p := 311) q1 rfl (by rfl) ?_
    exact ezl_c1 hL hρ hd hc h0 (by omega) hJ hE fin
  by_cases q2 : u = (2)
  · refine ezw_tableswitchE (v := 2) (p := 324) q2 rfl (by rfl) ?_
    exact ezl_c2 hL hρ hd hc h0 (by omega) hJ hE fin
  by_cases q3 : u = (3)
  · refine ezw_tableswitchE (v := 3) (p := 337) q3 rfl (by rfl) ?_
    exact ezl_c3 hL hρ hd hc h0 (by omega) hJ hE fin
  by_cases q4 : u = (4)
  · refine ezw_tableswitchE (v := 4) (p := 370) q4 rfl (by rfl) ?_
    exact ezl_c4 hL hρ hd hc h0 (by omega) hJ hE fin
  by_cases q5 : u = (5)
  · refine ezw_tableswitchE (v := 5) (p := 403) q5 rfl (by rfl) ?_
    exact ezl_c5 hL hρ hd hc h0 (by omega) hJ hE fin
  by_cases q6 : u = (6)
  · refine ezw_tableswitchE (v := 6) (p := 462) q6 rfl (by rfl) ?_
    exact ezl_c6 hL hρ hd hc h0 (by omega) hJ hE fin
  by_cases q7 : u = (7)
  · refine ezw_tableswitchE (v := 7) (p := 521) q7 rfl (by rfl) ?_
    exact ezl_c7 hL hρ hd hc h0 (by omega) hJ hE fin
  by_cases q8 : u = (8)
  · refine ezw_tableswitchE (v := 8) (p := 534) q8 rfl (by rfl) ?_
    exact ezl_c8 hL hρ hd hc h0 (by omega) hJ hE fin
  by_cases q9 : u = (9)
  · refine ezw_tableswitchE (v := 9) (p := 547) q9 rfl (by rfl) ?_
    exact ezl_c9 hL hρ hd hc h0 (by omega) hJ hE fin
  by_cases q10 : u = (10)
  · refine ezw_tableswitchE (v := 10) (p := 580) q10 rfl (by rfl) ?_
    exact ezl_c10 hL hρ hd hc h0 (by omega) hJ hE fin
  by_cases q11 : u = (11)
  · refine ezw_tableswitchE (v := 11) (p := 629) q11 rfl (by rfl) ?_
    exact ezl_c11 hL hρ hd hc h0 (by omega) hJ hE fin
  by_cases q12 : u = (12)
  · refine ezw_tableswitchE (v := 12) (p := 652) q12 rfl (by rfl) ?_
    exact ezl_c12 hL hρ hd hc h0 (by omega) hJ hE fin
  by_cases q13 : u = (13)
  · refine ezw_tableswitchE (v := 13) (p := 665) q13 rfl (by rfl) ?_
    exact ezl_c13 hL hρ hd hc h0 (by omega) hJ hE fin
  by_cases q14 : u = (14)
  · refine ezw_tableswitchE (v := 14) (p := 688) q14 rfl (by rfl) ?_
    exact ezl_c14 hL hρ hd hc h0 (by omega) hJ hE fin
  by_cases q15 : u = (15)
  · refine ezw_tableswitchE (v := 15) (p := 701) q15 rfl (by rfl) ?_
    exact ezl_c15 hL hρ hd hc h0 (by omega) hJ hE fin
  by_cases q16 : u = (16)
  · refine ezw_tableswitchE (v := 16) (p := 734) q16 rfl (by rfl) ?_
    exact ezl_c16 hL hρ hd hc h0 (by omega) hJ hE fin
  by_cases q17 : u = (17)
  · refine ezw_tableswitchE (v := 17) (p := 783) q17 rfl (by rfl) ?_
    exact ezl_c17 hL hρ hd hc h0 (by omega) hJ hE fin
  by_cases q18 : u = (18)
  · refine ezw_tableswitchE (v := 18) (p := 796) q18 rfl (by rfl) ?_
    exact ezl_c18 hL hρ hd hc h0 (by omega) hJ hE fin
  by_cases q19 : u = (19)
  · refine ezw_tableswitchE (v := 19) (p := 819) q19 rfl (by rfl) ?_
    exact ezl_c19 hL hρ hd hc h0 (by omega) hJ hE fin
  by_cases q20 : u = (20)
  · refine ezw_tableswitchE (v := 20) (p := 832) q20 rfl (by rfl) ?_
    exact ezl_c20 hL hρ hd hc h0 (by omega) hJ hE fin
  by_cases q21 : u = (21)
  · refine ezw_tableswitchE (v := 21) (p := 875) q21 rfl (by rfl) ?_
    exact ezl_c21 hL hρ hd hc h0 (by omega) hJ hE fin
  by_cases q22 : u = (22)
  · refine ezw_tableswitchE (v := 22) (p := 908) q22 rfl (by rfl) ?_
    exact ezl_c22 hL hρ hd hc h0 (by omega) hJ hE fin
  by_cases q23 : u = (23)
  · refine ezw_tableswitchE (v := 23) (p := 921) q23 rfl (by rfl) ?_
    exact ezl_c23 hL hρ hd hc h0 (by omega) hJ hE fin
  by_cases q24 : u = (24)
  · refine ezw_tableswitchE (v := 24) (p := 944) q24 rfl (by rfl) ?_
    exact ezl_c24 hL hρ hd hc h0 (by omega) hJ hE fin
  by_cases q25 : u = (25)
  · refine ezw_tableswitchE (v := 25) (p := 967) q25 rfl (by rfl) ?_
    exact ezl_c25 hL hρ hd hc h0 (by omega) hJ hE fin
  by_cases q26 : u = (26)
  · refine ezw_tableswitchE (v := 26) (p := 1000) q26 rfl (by rfl) ?_
    exact ezl_c26 hL hρ hd hc h0 (by omega) hJ hE fin
  by_cases q27 : u = (27)
  · refine ezw_tableswitchE (v := 27) (p := 1023) q27 rfl (by rfl) ?_
    exact ezl_c27 hL hρ hd hc h0 (by omega) hJ hE fin
  by_cases q28 : u = (28)
  · refine ezw_tableswitchE (v := 28) (p := 1056) q28 rfl (by rfl) ?_
    exact ezl_c28 hL hρ hd hc h0 (by omega) hJ hE fin
  by_cases q29 : u = (29)
  · refine ezw_tableswitchE (v := 29) (p := 1089) q29 rfl (by rfl) ?_
    exact ezl_c29 hL hρ hd hc h0 (by omega) hJ hE fin
  by_cases q30 : u = (30)
  · refine ezw_tableswitchE (v := 30) (p := 1142) q30 rfl (by rfl) ?_
    exact ezl_c30 hL hρ hd hc h0 (by omega) hJ hE fin
  by_cases q31 : u = (31)
  · refine ezw_tableswitchE (v := 31) (p := 1191) q31 rfl (by rfl) ?_
    exact ezl_c31 hL hρ hd hc h0 (by omega) hJ hE fin
  exact absurd ku (by omega)
end KL
