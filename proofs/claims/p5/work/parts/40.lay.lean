/-! ===== all cells as two families of numbers ===== -/
/-- what lies at a place: 0 a row of ints, 1 of longs, 2 of truths, and how long; 3 and on an object of that number less 3 -/
def ezu_kd (q : Nat) : Nat × Nat := match q with
  | 0 => (14, 0)
  | 1 => (10, 0)
  | 2 => (0, 1000)
  | 3 => (1, 48)
  | 4 => (13, 0)
  | 5 => (6, 0)
  | 6 => (0, 1000)
  | 7 => (0, 32)
  | 8 => (0, 4)
  | 9 => (6, 0)
  | 10 => (0, 1000)
  | 11 => (0, 32)
  | 12 => (0, 4)
  | 13 => (7, 0)
  | 14 => (0, 4)
  | 15 => (0, 4)
  | 16 => (11, 0)
  | 17 => (0, 8)
  | 18 => (8, 0)
  | 19 => (1, 16)
  | 20 => (1, 4)
  | 21 => (1, 4)
  | 22 => (4, 0)
  | 23 => (9, 0)
  | 24 => (0, 5760)
  | 25 => (0, 6)
  | 26 => (7, 0)
  | 27 => (0, 4)
  | 28 => (0, 4)
  | 29 => (0, 16)
  | 30 => (12, 0)
  | 31 => (0, 8)
  | 32 => (0, 8)
  | 33 => (0, 8)
  | 34 => (0, 8)
  | 35 => (0, 4)
  | 36 => (0, 4)
  | 37 => (0, 4)
  | 38 => (5, 0)
  | 39 => (0, 16)
  | 40 => (1, 8)
  | 41 => (1, 4)
  | 42 => (0, 4)
  | 43 => (0, 6)
  | 44 => (0, 11)
  | 45 => (0, 480)
  | 46 => (0, 480)
  | 47 => (12, 0)
  | 48 => (0, 8)
  | 49 => (0, 8)
  | 50 => (0, 8)
  | 51 => (0, 8)
  | 52 => (0, 4)
  | 53 => (0, 4)
  | 54 => (0, 4)
  | 55 => (5, 0)
  | 56 => (0, 16)
  | 57 => (1, 8)
  | 58 => (1, 4)
  | 59 => (0, 4)
  | 60 => (0, 6)
  | 61 => (0, 11)
  | 62 => (0, 480)
  | 63 => (0, 480)
  | 64 => (3, 0)
  | 65 => (0, 24)
  | 66 => (0, 24)
  | 67 => (0, 24)
  | 68 => (3, 0)
  | 69 => (0, 24)
  | 70 => (0, 24)
  | 71 => (0, 24)
  | 72 => (15, 0)
  | 73 => (0, 1000)
  | 74 => (0, 1002)
  | 75 => (0, 1002)
  | 76 => (1, 1002)
  | 77 => (1, 48)
  | 78 => (0, 200)
  | 79 => (0, 2200)
  | 80 => (0, 2200)
  | 81 => (1, 12)
  | 82 => (1, 12)
  | 83 => (0, 12)
  | 84 => (0, 12)
  | 85 => (0, 210)
  | 86 => (0, 4)
  | 87 => (0, 1100)
  | 88 => (0, 1150)
  | 89 => (2, 4)
  | 90 => (0, 1120)
  | 91 => (0, 1120)
  | 92 => (0, 8)
  | 93 => (0, 4)
  | 94 => (0, 4)
  | 95 => (0, 4)
  | _ => (0, 0)
/-- what the references name; e: the trees, the days stand the other way round -/
def ezu_rfM (k : Nat) : Nat := match k with
  | 1 => 73
  | 4 => 74
  | 5 => 75
  | 6 => 76
  | 9 => 77
  | 10 => 78
  | 11 => 79
  | 12 => 80
  | 14 => 81
  | 15 => 82
  | 16 => 83
  | 17 => 84
  | 21 => 85
  | 22 => 86
  | 23 => 87
  | 24 => 88
  | 26 => 89
  | 27 => 90
  | 28 => 91
  | 32 => 92
  | 33 => 93
  | 34 => 94
  | _ => 95
def ezu_rfX (e : Bool × Bool) (k : Nat) : Nat := match k with
  | 0 => 1
  | 1 => 4
  | 2 => 13
  | 3 => 16
  | 4 => 18
  | 5 => 22
  | 6 => 29
  | 7 => bif e.1 then 47 else 30
  | 8 => bif e.1 then 30 else 47
  | 9 => bif e.2 then 68 else 64
  | _ => bif e.2 then 64 else 68
def ezu_rf (e : Bool × Bool) (q : Nat) : Nat → Nat := match q with
  | 0 => ezu_rfX e
  | 1 => fun k => k + 2
  | 4 => fun k => match k with
    | 0 => 5
    | _ => 9
  | 5 => fun k => k + 6
  | 9 => fun k => k + 10
  | 13 => fun k => k + 7
  | 16 => fun _ => 17
  | 18 => fun k => k + 19
  | 22 => fun k => match k with
    | 0 => 23
    | _ => 26
  | 23 => fun k => k + 24
  | 26 => fun k => k + 20
  | 30 => fun k => if k < 8 then k + 31 else k + 32
  | 38 => fun _ => 39
  | 47 => fun k => if k < 8 then k + 48 else k + 49
  | 55 => fun _ => 56
  | 64 => fun k => k + 65
  | 68 => fun k => k + 69
  | 72 => ezu_rfM
  | _ => fun _ => 0
def ezu_cell (kd : Nat × Nat) (rf : Nat → Nat) (f : Nat → Int) (a : Int → Int) : ezq_C := match kd with
  | (0, n) => ezw_ca n a
  | (1, n) => ezw_cl n a
  | (2, n) => ezw_cb n a
  | (k + 3, _) => ezw_obj k rf f
/-- the cells out of the fields' numbers F and the rows' numbers A -/
def ezu_g (e : Bool × Bool) (F : Nat → Nat → Int) (A : Nat → Int → Int) : Nat → ezq_C := fun q => ezu_cell (ezu_kd q) (ezu_rf e q) (F q) (A q)
def ezu_U {α : Type} (A : Nat → α) (q : Nat) (a : α) : Nat → α := fun p => if p = q then a else A p
theorem ezu_Uq {α : Type} (A : Nat → α) (q : Nat) (a : α) : ezu_U A q a q = a := if_pos rfl
theorem ezu_Un {α : Type} (A : Nat → α) {q p : Nat} (a : α) (h : p ≠ q) : ezu_U A q a p = A p := if_neg h
section KU
variable {l : Launch} {ρ : ezq_E} {B : Nat} {xa : Nat → Option Nat} {Hb : Heap} {D : va_G} {cA : Nat → ClassId} {d : Nat} {e : Bool × Bool} {F : Nat → Nat → Int} {A : Nat → Int → Int}
theorem ezu_setA {q : Nat} {c : ezq_C} {a : Int → Int} (h : c = ezu_cell (ezu_kd q) (ezu_rf e q) (F q) a) : ezw_u (ezu_g e F A) q c = ezu_g e F (ezu_U A q a) := by
  funext p
  unfold ezw_u ezu_g ezu_U
  by_cases hp : p = q
  · subst hp
    rw [if_pos rfl, if_pos rfl]
    exact h
  · rw [if_neg hp, if_neg hp]
theorem ezu_setF {q : Nat} {c : ezq_C} {f : Nat → Int} (h : c = ezu_cell (ezu_kd q) (ezu_rf e q) f (A q)) : ezw_u (ezu_g e F A) q c = ezu_g e (ezu_U F q f) A := by
  funext p
  unfold ezw_u ezu_g ezu_U
  by_cases hp : p = q
  · subst hp
    rw [if_pos rfl, if_pos rfl]
    exact h
  · rw [if_neg hp, if_neg hp]
theorem ezu_at {q : Nat} {kd : Nat × Nat} (h : ezu_kd q = kd) : ezu_g e F A q = ezu_cell kd (ezu_rf e q) (F q) (A q) := by
  unfold ezu_g
  rw [h]
variable {r : ezq_R} {P : Option ezq_V → (Nat → ezq_C) → Prop} {pc : Nat} {ls : List (Option ezq_V)} {st : List ezq_V}
theorem ezu_iastore {q n0 a b c x y : Nat} {i v : Int} (he : ezw_at r pc = some (.iastore, 1, (a, b, c, x, y))) (hk : ezu_kd q = (0, n0)) (hq9 : Nat.blt q 96 = true) (h0 : 0 ≤ i) (h1 : i < (n0 : Int)) (hn : n0 ≤ 100000) (h : ezw_E l ρ B xa Hb D cA d r P (pc + 1) ls st (ezu_g e F (ezu_U A q (ezw_au (A q) i v)))) : ezw_E l ρ B xa Hb D cA d r P pc ls (ezw_i v :: ezw_i i :: ezw_p q :: st) (ezu_g e F A) := by
  refine ezw_iastore he (ezu_at hk) hq9 h0 h1 hn ?_
  rw [ezu_setA (by rw [hk]; rfl)]
  exact h
theorem ezu_lastore {q n0 a b c x y : Nat} {i v : Int} (he : ezw_at r pc = some (.lastore, 1, (a, b, c, x, y))) (hk : ezu_kd q = (1, n0)) (hq9 : Nat.blt q 96 = true) (h0 : 0 ≤ i) (h1 : i < (n0 : Int)) (hn : n0 ≤ 100000) (h : ezw_E l ρ B xa Hb D cA d r P (pc + 1) ls st (ezu_g e F (ezu_U A q (ezw_au (A q) i v)))) : ezw_E l ρ B xa Hb D cA d r P pc ls (ezw_l v :: ezw_i i :: ezw_p q :: st) (ezu_g e F A) := by
  refine ezw_lastore he (ezu_at hk) hq9 h0 h1 hn ?_
  rw [ezu_setA (by rw [hk]; rfl)]
  exact h
theorem ezu_putf_i {k q a b0 c0 y0 : Nat} {i : Int} (he : ezw_at r pc = some (.putfield k, 3, (a, b0, c0, 0, y0))) (hk : ezu_kd q = (a + 3, 0)) (hq9 : Nat.blt q 96 = true) (ha : Nat.blt a 13 = true) (hs : (ezw_flds a (ezu_rf e q) (F q)).set b0 (ezw_i i) = ezw_flds a (ezu_rf e q) (ezw_fu (F q) b0 i)) (h : ezw_E l ρ B xa Hb D cA d r P (pc + 3) ls st (ezu_g e (ezu_U F q (ezw_fu (F q) b0 i)) A)) : ezw_E l ρ B xa Hb D cA d r P pc ls (ezw_i i :: ezw_p q :: st) (ezu_g e F A) := by
  refine ezw_putf_i he (ezu_at hk) hq9 ha hs ?_
  rw [ezu_setF (by rw [hk]; rfl)]
  exact h
theorem ezu_putf_l {k q a b0 c0 y0 : Nat} {i : Int} (he : ezw_at r pc = some (.putfield k, 3, (a, b0, c0, 1, y0))) (hk : ezu_kd q = (a + 3, 0)) (hq9 : Nat.blt q 96 = true) (ha : Nat.blt a 13 = true) (hs : (ezw_flds a (ezu_rf e q) (F q)).set b0 (ezw_l i) = ezw_flds a (ezu_rf e q) (ezw_fu (F q) b0 i)) (h : ezw_E l ρ B xa Hb D cA d r P (pc + 3) ls st (ezu_g e (ezu_U F q (ezw_fu (F q) b0 i)) A)) : ezw_E l ρ B xa Hb D cA d r P pc ls (ezw_l i :: ezw_p q :: st) (ezu_g e F A) := by
  refine ezw_putf_l he (ezu_at hk) hq9 ha hs ?_
  rw [ezu_setF (by rw [hk]; rfl)]
  exact h
theorem ezu_putf_z {k q a b0 c0 y0 : Nat} {i : Int} (he : ezw_at r pc = some (.putfield k, 3, (a, b0, c0, 2, y0))) (hk : ezu_kd q = (a + 3, 0)) (hq9 : Nat.blt q 96 = true) (ha : Nat.blt a 13 = true) (hz : 0 ≤ i ∧ i ≤ 1) (hs : (ezw_flds a (ezu_rf e q) (F q)).set b0 (ezw_i i) = ezw_flds a (ezu_rf e q) (ezw_fu (F q) b0 i)) (h : ezw_E l ρ B xa Hb D cA d r P (pc + 3) ls st (ezu_g e (ezu_U F q (ezw_fu (F q) b0 i)) A)) : ezw_E l ρ B xa Hb D cA d r P pc ls (ezw_i i :: ezw_p q :: st) (ezu_g e F A) := by
  refine ezw_putf_z he (ezu_at hk) hq9 ha hz hs ?_
  rw [ezu_setF (by rw [hk]; rfl)]
  exact h
variable {g : Nat → ezq_C}
theorem ezs_iadd {i j : Int} {a b c x y : Nat} (he : ezw_at r pc = some (.iadd, 1, (a, b, c, x, y))) (h : ∀ u, ezw_in u → ezw_E l ρ B xa Hb D cA d r P (pc + 1) ls (ezw_i u :: st) g) : ezw_E l ρ B xa Hb D cA d r P pc ls (ezw_i j :: ezw_i i :: st) g := by
  obtain ⟨u, hu, eu⟩ := ezw_wrap (i + j)
  refine ezw_iadd he rfl ?_
  rw [eu]
  exact h u hu
theorem ezs_isub {i j : Int} {a b c x y : Nat} (he : ezw_at r pc = some (.isub, 1, (a, b, c, x, y))) (h : ∀ u, ezw_in u → ezw_E l ρ B xa Hb D cA d r P (pc + 1) ls (ezw_i u :: st) g) : ezw_E l ρ B xa Hb D cA d r P pc ls (ezw_i j :: ezw_i i :: st) g := by
  obtain ⟨u, hu, eu⟩ := ezw_wrap (i - j)
  refine ezw_isub he rfl ?_
  rw [eu]
  exact h u hu
theorem ezs_imul {i j : Int} {a b c x y : Nat} (he : ezw_at r pc = some (.imul, 1, (a, b, c, x, y))) (h : ∀ u, ezw_in u → ezw_E l ρ B xa Hb D cA d r P (pc + 1) ls (ezw_i u :: st) g) : ezw_E l ρ B xa Hb D cA d r P pc ls (ezw_i j :: ezw_i i :: st) g := by
  obtain ⟨u, hu, eu⟩ := ezw_wrap (i * j)
  refine ezw_imul he rfl ?_
  rw [eu]
  exact h u hu
theorem ezs_iand {i j : Int} {a b c x y : Nat} (he : ezw_at r pc = some (.iand, 1, (a, b, c, x, y))) (h : ∀ u, ezw_in u → ezw_E l ρ B xa Hb D cA d r P (pc + 1) ls (ezw_i u :: st) g) : ezw_E l ρ B xa Hb D cA d r P pc ls (ezw_i j :: ezw_i i :: st) g := by
  obtain ⟨u, hu, eu⟩ := ezw_wrap (ezw_and i j)
  refine ezw_iand he rfl ?_
  rw [eu]
  exact h u hu
theorem ezs_ior {i j : Int} {a b c x y : Nat} (he : ezw_at r pc = some (.ior, 1, (a, b, c, x, y))) (h : ∀ u, ezw_in u → ezw_E l ρ B xa Hb D cA d r P (pc + 1) ls (ezw_i u :: st) g) : ezw_E l ρ B xa Hb D cA d r P pc ls (ezw_i j :: ezw_i i :: st) g := by
  obtain ⟨u, hu, eu⟩ := ezw_wrap (ezw_or i j)
  refine ezw_ior he rfl ?_
  rw [eu]
  exact h u hu
theorem ezs_ixor {i j : Int} {a b c x y : Nat} (he : ezw_at r pc = some (.ixor, 1, (a, b, c, x, y))) (h : ∀ u, ezw_in u → ezw_E l ρ B xa Hb D cA d r P (pc + 1) ls (ezw_i u :: st) g) : ezw_E l ρ B xa Hb D cA d r P pc ls (ezw_i j :: ezw_i i :: st) g := by
  obtain ⟨u, hu, eu⟩ := ezw_wrap (ezw_xor i j)
  refine ezw_ixor he rfl ?_
  rw [eu]
  exact h u hu
theorem ezs_ladd {i j : Int} {a b c x y : Nat} (he : ezw_at r pc = some (.ladd, 1, (a, b, c, x, y))) (h : ∀ u, ezw_il u → ezw_E l ρ B xa Hb D cA d r P (pc + 1) ls (ezw_l u :: st) g) : ezw_E l ρ B xa Hb D cA d r P pc ls (ezw_l j :: ezw_l i :: st) g := by
  obtain ⟨u, hu, eu⟩ := ezw_wrapl (i + j)
  refine ezw_ladd he rfl ?_
  rw [eu]
  exact h u hu
theorem ezs_lsub {i j : Int} {a b c x y : Nat} (he : ezw_at r pc = some (.lsub, 1, (a, b, c, x, y))) (h : ∀ u, ezw_il u → ezw_E l ρ B xa Hb D cA d r P (pc + 1) ls (ezw_l u :: st) g) : ezw_E l ρ B xa Hb D cA d r P pc ls (ezw_l j :: ezw_l i :: st) g := by
  obtain ⟨u, hu, eu⟩ := ezw_wrapl (i - j)
  refine ezw_lsub he rfl ?_
  rw [eu]
  exact h u hu
theorem ezs_lmul {i j : Int} {a b c x y : Nat} (he : ezw_at r pc = some (.lmul, 1, (a, b, c, x, y))) (h : ∀ u, ezw_il u → ezw_E l ρ B xa Hb D cA d r P (pc + 1) ls (ezw_l u :: st) g) : ezw_E l ρ B xa Hb D cA d r P pc ls (ezw_l j :: ezw_l i :: st) g := by
  obtain ⟨u, hu, eu⟩ := ezw_wrapl (i * j)
  refine ezw_lmul he rfl ?_
  rw [eu]
  exact h u hu
theorem ezs_land {i j : Int} {a b c x y : Nat} (he : ezw_at r pc = some (.land, 1, (a, b, c, x, y))) (h : ∀ u, ezw_il u → ezw_E l ρ B xa Hb D cA d r P (pc + 1) ls (ezw_l u :: st) g) : ezw_E l ρ B xa Hb D cA d r P pc ls (ezw_l j :: ezw_l i :: st) g := by
  obtain ⟨u, hu, eu⟩ := ezw_wrapl (ezw_andl i j)
  refine ezw_land he rfl ?_
  rw [eu]
  exact h u hu
theorem ezs_lor {i j : Int} {a b c x y : Nat} (he : ezw_at r pc = some (.lor, 1, (a, b, c, x, y))) (h : ∀ u, ezw_il u → ezw_E l ρ B xa Hb D cA d r P (pc + 1) ls (ezw_l u :: st) g) : ezw_E l ρ B xa Hb D cA d r P pc ls (ezw_l j :: ezw_l i :: st) g := by
  obtain ⟨u, hu, eu⟩ := ezw_wrapl (ezw_orl i j)
  refine ezw_lor he rfl ?_
  rw [eu]
  exact h u hu
theorem ezs_idiv {i j : Int} {a b c x y : Nat} (he : ezw_at r pc = some (.idiv, 1, (a, b, c, x, y))) (hi : ezw_in i) (hj : ezw_in j) (h0 : j ≠ 0) (h : ∀ u, ezw_in u → ezw_E l ρ B xa Hb D cA d r P (pc + 1) ls (ezw_i u :: st) g) : ezw_E l ρ B xa Hb D cA d r P pc ls (ezw_i j :: ezw_i i :: st) g := by
  obtain ⟨u, hu, eu⟩ := ezw_wrap (i.tdiv j)
  refine ezw_idiv he hi hj h0 rfl ?_
  rw [eu]
  exact h u hu
theorem ezs_irem {i j : Int} {a b c x y : Nat} (he : ezw_at r pc = some (.irem, 1, (a, b, c, x, y))) (hi : ezw_in i) (hj : ezw_in j) (h0 : j ≠ 0) (h : ∀ u, ezw_in u → ezw_E l ρ B xa Hb D cA d r P (pc + 1) ls (ezw_i u :: st) g) : ezw_E l ρ B xa Hb D cA d r P pc ls (ezw_i j :: ezw_i i :: st) g := by
  obtain ⟨u, hu, eu⟩ := ezw_wrap (i.tmod j)
  refine ezw_irem he hi hj h0 rfl ?_
  rw [eu]
  exact h u hu
theorem ezs_ldiv {i j : Int} {a b c x y : Nat} (he : ezw_at r pc = some (.ldiv, 1, (a, b, c, x, y))) (hi : ezw_il i) (hj : ezw_il j) (h0 : j ≠ 0) (h : ∀ u, ezw_il u → ezw_E l ρ B xa Hb D cA d r P (pc + 1) ls (ezw_l u :: st) g) : ezw_E l ρ B xa Hb D cA d r P pc ls (ezw_l j :: ezw_l i :: st) g := by
  obtain ⟨u, hu, eu⟩ := ezw_wrapl (i.tdiv j)
  refine ezw_ldiv he hi hj h0 rfl ?_
  rw [eu]
  exact h u hu
theorem ezs_lrem {i j : Int} {a b c x y : Nat} (he : ezw_at r pc = some (.lrem, 1, (a, b, c, x, y))) (hi : ezw_il i) (hj : ezw_il j) (h0 : j ≠ 0) (h : ∀ u, ezw_il u → ezw_E l ρ B xa Hb D cA d r P (pc + 1) ls (ezw_l u :: st) g) : ezw_E l ρ B xa Hb D cA d r P pc ls (ezw_l j :: ezw_l i :: st) g := by
  obtain ⟨u, hu, eu⟩ := ezw_wrapl (i.tmod j)
  refine ezw_lrem he hi hj h0 rfl ?_
  rw [eu]
  exact h u hu
theorem ezs_lshl {i j : Int} {a b c x y : Nat} (he : ezw_at r pc = some (.lshl, 1, (a, b, c, x, y))) (hj0 : 0 ≤ j) (hj1 : j < 64) (h : ∀ u, ezw_il u → ezw_E l ρ B xa Hb D cA d r P (pc + 1) ls (ezw_l u :: st) g) : ezw_E l ρ B xa Hb D cA d r P pc ls (ezw_i j :: ezw_l i :: st) g := by
  obtain ⟨u, hu, eu⟩ := ezw_wrapl (i * 2 ^ j.toNat)
  refine ezw_lshl he hj0 hj1 rfl ?_
  rw [eu]
  exact h u hu
theorem ezs_lshr {i j : Int} {a b c x y : Nat} (he : ezw_at r pc = some (.lshr, 1, (a, b, c, x, y))) (hi : ezw_il i) (hj0 : 0 ≤ j) (hj1 : j < 64) (h : ∀ u, ezw_il u → ezw_E l ρ B xa Hb D cA d r P (pc + 1) ls (ezw_l u :: st) g) : ezw_E l ρ B xa Hb D cA d r P pc ls (ezw_i j :: ezw_l i :: st) g := by
  obtain ⟨u, hu, eu⟩ := ezw_wrapl (i / 2 ^ j.toNat)
  refine ezw_lshr he hi hj0 hj1 rfl ?_
  rw [eu]
  exact h u hu
theorem ezs_ineg {i : Int} {a b c x y : Nat} (he : ezw_at r pc = some (.ineg, 1, (a, b, c, x, y))) (h : ∀ u, ezw_in u → ezw_E l ρ B xa Hb D cA d r P (pc + 1) ls (ezw_i u :: st) g) : ezw_E l ρ B xa Hb D cA d r P pc ls (ezw_i i :: st) g := by
  obtain ⟨u, hu, eu⟩ := ezw_wrap (-i)
  refine ezw_ineg he rfl ?_
  rw [eu]
  exact h u hu
theorem ezs_l2i {i : Int} {a b c x y : Nat} (he : ezw_at r pc = some (.l2i, 1, (a, b, c, x, y))) (h : ∀ u, ezw_in u → ezw_E l ρ B xa Hb D cA d r P (pc + 1) ls (ezw_i u :: st) g) : ezw_E l ρ B xa Hb D cA d r P pc ls (ezw_l i :: st) g := by
  obtain ⟨u, hu, eu⟩ := ezw_wrap (i)
  refine ezw_l2i he rfl ?_
  rw [eu]
  exact h u hu
theorem ezw_in_il {i : Int} (h : ezw_in i) : ezw_il i := by
  have h1 := h.1
  have h2 := h.2
  exact ⟨by omega, by omega⟩
theorem ezs_iincO {k k2 : _} {a b0 c0 x0 y0 : Nat} {i : Int} (j : Int) (he : ezw_at r pc = some (.iinc k k2, 3, (a, b0, c0, x0, y0))) (hj : ezw_z j = b0) (hv : ls[a]? = some (some (ezw_i i))) (hn : ezw_nl ls a = true) (h : ∀ u, ezw_in u → ezw_E l ρ B xa Hb D cA d r P (pc + 3) (ls.set a (some (ezw_i u))) st g) : ezw_E l ρ B xa Hb D cA d r P pc ls st g := by
  obtain ⟨u, hu, eu⟩ := ezw_wrap (i + j)
  refine ezw_iinc j he hj hv rfl hn ?_
  rw [eu]
  exact h u hu
/-! measures of loops -/
theorem ezs_up {Q : Int → Prop} (h : ∀ c, ezw_in c → (∀ c', c < c' → ezw_in c' → Q c') → Q c) : ∀ c, ezw_in c → Q c := by
  have gen : ∀ (k : Nat) (c : Int), ezw_in c → 2147483648 - c ≤ (k : Int) → Q c := by
    intro k
    induction k with
    | zero =>
      intro c hc hk
      have := hc.2
      omega
    | succ k ih =>
      intro c hc hk
      exact h c hc fun c' h1 h2 => ih c' h2 (by omega)
  intro c hc
  have h1 := hc.1
  have h2 := hc.2
  exact gen (2147483648 - c).toNat c hc (by omega)
theorem ezs_dn {Q : Int → Prop} (h : ∀ c, ezw_in c → (∀ c', c' < c → ezw_in c' → Q c') → Q c) : ∀ c, ezw_in c → Q c := by
  have gen : ∀ (k : Nat) (c : Int), ezw_in c → c + 2147483649 ≤ (k : Int) → Q c := by
    intro k
    induction k with
    | zero =>
      intro c hc hk
      have := hc.1
      omega
    | succ k ih =>
      intro c hc hk
      exact h c hc fun c' h1 h2 => ih c' h2 (by omega)
  intro c hc
  have h1 := hc.1
  have h2 := hc.2
  exact gen (c + 2147483649).toNat c hc (by omega)
end KU
/-! ===== the program's cells, roughly: every number has its range ===== -/
def ezs_fk (q k : Nat) (v : Int) : Prop :=
  if q = 1 then (if k = 2 then 0 ≤ v ∧ v ≤ 1000 else if k = 4 then 0 ≤ v ∧ v ≤ 9999 else if k = 7 then ezw_il v else ezw_in v)
  else if q = 22 then (if k = 2 then ezw_il v else ezw_in v)
  else if q = 5 then (if k = 3 then 0 ≤ v ∧ v ≤ 1 else ezw_in v)
  else if q = 9 then (if k = 3 then 0 ≤ v ∧ v ≤ 1 else ezw_in v)
  else ezw_in v
def ezs_ak (q : Nat) (v : Int) : Prop := if (ezu_kd q).1 = 1 then ezw_il v else if q = 44 then -2147483648 ≤ v ∧ v ≤ 9999 else if q = 61 then -2147483648 ≤ v ∧ v ≤ 9999 else ezw_in v
def ezs_T (F : Nat → Nat → Int) (A : Nat → Int → Int) : Prop := ∀ q, q < 72 → (∀ k, ezs_fk q k (F q k)) ∧ ∀ j, ezs_ak q (A q j)
/-- fz: what stands as it stood -/
def ezs_I (fz : Nat → Bool) (F0 : Nat → Nat → Int) (A0 : Nat → Int → Int) (F : Nat → Nat → Int) (A : Nat → Int → Int) : Prop := ezs_T F A ∧ ∀ q, fz q = true → F q = F0 q ∧ A q = A0 q
theorem ezs_fk_in {q k : Nat} {v : Int} (hl : (Nat.beq q 1 && Nat.beq k 7 || Nat.beq q 22 && Nat.beq k 2) = false) (h : ezs_fk q k v) : ezw_in v := by
  unfold ezs_fk at h
  split at h
  · rename_i e1
    split at h
    · exact ⟨by omega, by omega⟩
    · split at h
      · exact ⟨by omega, by omega⟩
      · split at h
        · rename_i e2
          rw [e1, e2] at hl
          cases hl
        · exact h
  · split at h
    · rename_i e1
      split at h
      · rename_i e2
        rw [e1, e2] at hl
        cases hl
      · exact h
    · split at h
      · split at h
        · exact ⟨by omega, by omega⟩
        · exact h
      · split at h
        · split at h
          · exact ⟨by omega, by omega⟩
          · exact h
        · exact h
theorem ezs_ak_in {q : Nat} {v : Int} (hl : Nat.beq (ezu_kd q).1 1 = false) (h : ezs_ak q v) : ezw_in v := by
  unfold ezs_ak at h
  split at h
  · rename_i e1
    rw [e1] at hl
    cases hl
  · split at h
    · exact ⟨by omega, by omega⟩
    · split at h
      · exact ⟨by omega, by omega⟩
      · exact h
section KS
variable {l : Launch} {ρ : ezq_E} {B : Nat} {xa : Nat → Option Nat} {Hb : Heap} {D : va_G} {cA : Nat → ClassId} {d : Nat} {e : Bool × Bool} {F : Nat → Nat → Int} {A : Nat → Int → Int} {fz : Nat → Bool} {F0 : Nat → Nat → Int} {A0 : Nat → Int → Int}
theorem ezs_I.setF {q k : Nat} {v : Int} (h : ezs_I fz F0 A0 F A) (hz : fz q = false) (hv : ezs_fk q k v) : ezs_I fz F0 A0 (ezu_U F q (ezw_fu (F q) k v)) A := by
  refine ⟨fun p hp => ⟨fun j => ?_, (h.1 p hp).2⟩, fun p hp => ⟨?_, (h.2 p hp).2⟩⟩
  · by_cases e1 : p = q
    · subst e1
      rw [ezu_Uq]
      unfold ezw_fu
      split
      · rename_i e2
        rw [e2]
        exact hv
      · exact (h.1 p hp).1 j
    · rw [ezu_Un _ _ e1]
      exact (h.1 p hp).1 j
  · have e1 : p ≠ q := fun z => by rw [z, hz] at hp; cases hp
    rw [ezu_Un _ _ e1]
    exact (h.2 p hp).1
theorem ezs_I.setA {q : Nat} {i v : Int} (h : ezs_I fz F0 A0 F A) (hz : fz q = false) (hv : ezs_ak q v) : ezs_I fz F0 A0 F (ezu_U A q (ezw_au (A q) i v)) := by
  refine ⟨fun p hp => ⟨(h.1 p hp).1, fun j => ?_⟩, fun p hp => ⟨(h.2 p hp).1, ?_⟩⟩
  · by_cases e1 : p = q
    · subst e1
      rw [ezu_Uq]
      unfold ezw_au
      split
      · exact hv
      · exact (h.1 p hp).2 j
    · rw [ezu_Un _ _ e1]
      exact (h.1 p hp).2 j
  · have e1 : p ≠ q := fun z => by rw [z, hz] at hp; cases hp
    rw [ezu_Un _ _ e1]
    exact (h.2 p hp).2
def ezs_ri (v : Option ezq_V) : Prop := ∃ i, ezw_in i ∧ some (ezw_i i) = v
def ezs_rz (v : Option ezq_V) : Prop := ∃ i, (0 ≤ i ∧ i ≤ 1) ∧ some (ezw_i i) = v
def ezs_rl (v : Option ezq_V) : Prop := ∃ i, ezw_il i ∧ some (ezw_l i) = v
def ezs_rd (v : Option ezq_V) : Prop := ∃ i, (0 ≤ i ∧ i ≤ 9999) ∧ some (ezw_i i) = v
def ezs_r9 (v : Option ezq_V) : Prop := ∃ i, (-2147483648 ≤ i ∧ i ≤ 9999) ∧ some (ezw_i i) = v
def ezs_r1 (v : Option ezq_V) : Prop := ∃ i : Int, 1 = i ∧ some (ezw_i i) = v
def ezs_r0 (v : Option ezq_V) : Prop := ∃ i : Int, 0 = i ∧ some (ezw_i i) = v
def ezs_rn (v : Option ezq_V) : Prop := none = v
/-- an end: the cells are as roughly as before, and the answer is as R says -/
def ezs_P (e : Bool × Bool) (fz : Nat → Bool) (F0 : Nat → Nat → Int) (A0 : Nat → Int → Int) (R : Option ezq_V → Prop) : Option ezq_V → (Nat → ezq_C) → Prop := fun v g' => (∃ F' A', g' = ezu_g e F' A' ∧ ezs_I fz F0 A0 F' A') ∧ R v
def ezs_Pp (e : Bool × Bool) (F : Nat → Nat → Int) (A : Nat → Int → Int) (R : Option ezq_V → Prop) : Option ezq_V → (Nat → ezq_C) → Prop := fun v g' => ezu_g e F A = g' ∧ R v
variable {r : ezq_R} {P : Option ezq_V → (Nat → ezq_C) → Prop} {pc : Nat} {ls : List (Option ezq_V)} {st : List ezq_V}
theorem ezs_get_i (hI : ezs_I fz F0 A0 F A) {k q a b0 c0 x0 y0 : Nat} (he : ezw_at r pc = some (.getfield k, 3, (a, b0, c0, x0, y0))) (hk : ezu_kd q = (a + 3, 0)) (hq : Nat.blt q 72 = true) (ha : Nat.blt a 13 = true) (hv : (ezw_flds a (ezu_rf e q) (F q))[b0]? = some (ezw_i (F q b0))) (hl : (Nat.beq q 1 && Nat.beq b0 7 || Nat.beq q 22 && Nat.beq b0 2) = false) (h : ∀ u, ezw_in u → ezs_fk q b0 u → ezw_E l ρ B xa Hb D cA d r P (pc + 3) ls (ezw_i u :: st) (ezu_g e F A)) : ezw_E l ρ B xa Hb D cA d r P pc ls (ezw_p q :: st) (ezu_g e F A) :=
  ezw_getfield he (ezu_at hk) (Nat.ble_eq_true_of_le (Nat.le_trans (ezq_bltT hq) (by decide))) ha hv (h _ (ezs_fk_in hl ((hI.1 q (ezq_bltT hq)).1 b0)) ((hI.1 q (ezq_bltT hq)).1 b0))
theorem ezs_put_i (hI : ezs_I fz F0 A0 F A) {k q a b0 c0 y0 : Nat} {i : Int} (he : ezw_at r pc = some (.putfield k, 3, (a, b0, c0, 0, y0))) (hk : ezu_kd q = (a + 3, 0)) (hq : Nat.blt q 72 = true) (ha : Nat.blt a 13 = true) (hs : (ezw_flds a (ezu_rf e q) (F q)).set b0 (ezw_i i) = ezw_flds a (ezu_rf e q) (ezw_fu (F q) b0 i)) (hz : fz q = false) (hv : ezs_fk q b0 i) (h : ∀ F A, ezs_I fz F0 A0 F A → ezw_E l ρ B xa Hb D cA d r P (pc + 3) ls st (ezu_g e F A)) : ezw_E l ρ B xa Hb D cA d r P pc ls (ezw_i i :: ezw_p q :: st) (ezu_g e F A) :=
  ezu_putf_i he hk (Nat.ble_eq_true_of_le (Nat.le_trans (ezq_bltT hq) (by decide))) ha hs (h _ _ (hI.setF hz hv))
theorem ezs_get_l (hI : ezs_I fz F0 A0 F A) {k q a b0 c0 x0 y0 : Nat} (he : ezw_at r pc = some (.getfield k, 3, (a, b0, c0, x0, y0))) (hk : ezu_kd q = (a + 3, 0)) (hq : Nat.blt q 72 = true) (ha : Nat.blt a 13 = true) (hv : (ezw_flds a (ezu_rf e q) (F q))[b0]? = some (ezw_l (F q b0))) (h : ∀ u, ezs_fk q b0 u → ezw_E l ρ B xa Hb D cA d r P (pc + 3) ls (ezw_l u :: st) (ezu_g e F A)) : ezw_E l ρ B xa Hb D cA d r P pc ls (ezw_p q :: st) (ezu_g e F A) :=
  ezw_getfield he (ezu_at hk) (Nat.ble_eq_true_of_le (Nat.le_trans (ezq_bltT hq) (by decide))) ha hv (h _ ((hI.1 q (ezq_bltT hq)).1 b0))
theorem ezs_put_l (hI : ezs_I fz F0 A0 F A) {k q a b0 c0 y0 : Nat} {i : Int} (he : ezw_at r pc = some (.putfield k, 3, (a, b0, c0, 1, y0))) (hk : ezu_kd q = (a + 3, 0)) (hq : Nat.blt q 72 = true) (ha : Nat.blt a 13 = true) (hs : (ezw_flds a (ezu_rf e q) (F q)).set b0 (ezw_l i) = ezw_flds a (ezu_rf e q) (ezw_fu (F q) b0 i)) (hz : fz q = false) (hv : ezs_fk q b0 i) (h : ∀ F A, ezs_I fz F0 A0 F A → ezw_E l ρ B xa Hb D cA d r P (pc + 3) ls st (ezu_g e F A)) : ezw_E l ρ B xa Hb D cA d r P pc ls (ezw_l i :: ezw_p q :: st) (ezu_g e F A) :=
  ezu_putf_l he hk (Nat.ble_eq_true_of_le (Nat.le_trans (ezq_bltT hq) (by decide))) ha hs (h _ _ (hI.setF hz hv))
theorem ezs_iaload (hI : ezs_I fz F0 A0 F A) {q n0 a b0 c0 x0 y0 : Nat} {i : Int} (he : ezw_at r pc = some (.iaload, 1, (a, b0, c0, x0, y0))) (hk : ezu_kd q = (0, n0)) (hq : Nat.blt q 72 = true) (h0 : 0 ≤ i) (h1 : i < (n0 : Int)) (hn : n0 ≤ 100000) (h : ∀ u, ezw_in u → ezs_ak q u → ezw_E l ρ B xa Hb D cA d r P (pc + 1) ls (ezw_i u :: st) (ezu_g e F A)) : ezw_E l ρ B xa Hb D cA d r P pc ls (ezw_i i :: ezw_p q :: st) (ezu_g e F A) :=
  ezw_iaload he (ezu_at hk) (Nat.ble_eq_true_of_le (Nat.le_trans (ezq_bltT hq) (by decide))) h0 h1 hn rfl (h _ (ezs_ak_in (by rw [hk]; rfl) ((hI.1 q (ezq_bltT hq)).2 i)) ((hI.1 q (ezq_bltT hq)).2 i))
theorem ezs_laload (hI : ezs_I fz F0 A0 F A) {q n0 a b0 c0 x0 y0 : Nat} {i : Int} (he : ezw_at r pc = some (.laload, 1, (a, b0, c0, x0, y0))) (hk : ezu_kd q = (1, n0)) (hq : Nat.blt q 72 = true) (h0 : 0 ≤ i) (h1 : i < (n0 : Int)) (hn : n0 ≤ 100000) (h : ∀ u, ezs_ak q u → ezw_E l ρ B xa Hb D cA d r P (pc + 1) ls (ezw_l u :: st) (ezu_g e F A)) : ezw_E l ρ B xa Hb D cA d r P pc ls (ezw_i i :: ezw_p q :: st) (ezu_g e F A) :=
  ezw_laload he (ezu_at hk) (Nat.ble_eq_true_of_le (Nat.le_trans (ezq_bltT hq) (by decide))) h0 h1 hn rfl (h _ ((hI.1 q (ezq_bltT hq)).2 i))
theorem ezs_iastore (hI : ezs_I fz F0 A0 F A) {q n0 a b0 c0 x0 y0 : Nat} {i v : Int} (he : ezw_at r pc = some (.iastore, 1, (a, b0, c0, x0, y0))) (hk : ezu_kd q = (0, n0)) (hq : Nat.blt q 72 = true) (h0 : 0 ≤ i) (h1 : i < (n0 : Int)) (hn : n0 ≤ 100000) (hz : fz q = false) (hv : ezs_ak q v) (h : ∀ F A, ezs_I fz F0 A0 F A → ezw_E l ρ B xa Hb D cA d r P (pc + 1) ls st (ezu_g e F A)) : ezw_E l ρ B xa Hb D cA d r P pc ls (ezw_i v :: ezw_i i :: ezw_p q :: st) (ezu_g e F A) :=
  ezu_iastore he hk (Nat.ble_eq_true_of_le (Nat.le_trans (ezq_bltT hq) (by decide))) h0 h1 hn (h _ _ (hI.setA hz hv))
theorem ezs_putX (hI : ezs_I fz F0 A0 F A) {k q a b0 c0 y0 : Nat} {i : Int} (he : ezw_at r pc = some (.putfield k, 3, (a, b0, c0, 0, y0))) (hk : ezu_kd q = (a + 3, 0)) (hq : Nat.blt q 72 = true) (ha : Nat.blt a 13 = true) (hs : (ezw_flds a (ezu_rf e q) (F q)).set b0 (ezw_i i) = ezw_flds a (ezu_rf e q) (ezw_fu (F q) b0 i)) (hz : fz q = false) (hv : ezs_fk q b0 i) (h : ∀ F', ezs_I fz F0 A0 F' A → F' q b0 = i → (∀ k, k ≠ b0 → F' q k = F q k) → ezw_E l ρ B xa Hb D cA d r P (pc + 3) ls st (ezu_g e F' A)) : ezw_E l ρ B xa Hb D cA d r P pc ls (ezw_i i :: ezw_p q :: st) (ezu_g e F A) :=
  ezu_putf_i he hk (Nat.ble_eq_true_of_le (Nat.le_trans (ezq_bltT hq) (by decide))) ha hs (h _ (hI.setF hz hv) (by rw [ezu_Uq]; exact if_pos rfl) (fun k hk => by rw [ezu_Uq]; exact if_neg hk))
theorem ezs_alen {k : Int} {q n0 a b0 c0 x0 y0 : Nat} (he : ezw_at r pc = some (.arraylength, 1, (a, b0, c0, x0, y0))) {t : Nat} (hk : ezu_kd q = (t, n0)) (ht : Nat.blt t 3 = true) (hq : Nat.blt q 96 = true) (hn : n0 ≤ 100000) (hn2 : (n0 : Int) = k) (h : ezw_E l ρ B xa Hb D cA d r P (pc + 1) ls (ezw_i k :: st) (ezu_g e F A)) : ezw_E l ρ B xa Hb D cA d r P pc ls (ezw_p q :: st) (ezu_g e F A) := by
  have hc : ∃ ty f, ezu_g e F A q = .inr (ty, n0, f) := by
    rw [ezu_at hk]
    have ht := ezq_bltT ht
    match t, ht with
    | 0, _ => exact ⟨_, _, rfl⟩
    | 1, _ => exact ⟨_, _, rfl⟩
    | 2, _ => exact ⟨_, _, rfl⟩
  obtain ⟨ty, f, hc⟩ := hc
  exact ezw_arraylength he hc hq hn2 hn h
theorem ezs_getp {k q a b0 c0 x0 y0 p : Nat} (he : ezw_at r pc = some (.getfield k, 3, (a, b0, c0, x0, y0))) (hk : ezu_kd q = (a + 3, 0)) (hq : Nat.blt q 96 = true) (ha : Nat.blt a 13 = true) (hv : (ezw_flds a (ezu_rf e q) (F q))[b0]? = some (ezw_p p)) (h : ezw_E l ρ B xa Hb D cA d r P (pc + 3) ls (ezw_p p :: st) (ezu_g e F A)) : ezw_E l ρ B xa Hb D cA d r P pc ls (ezw_p q :: st) (ezu_g e F A) :=
  ezw_getfield he (ezu_at hk) hq ha hv h
end KS
