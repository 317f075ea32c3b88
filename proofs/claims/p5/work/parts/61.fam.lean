/-! ===== rows over the families, with what stays and what is new ===== -/
theorem ezy_Sf {F : Nat → Nat → Int} {A : Nat → Int → Int} {q k : Nat} {v : Int} (h : ezs_T F A) (hv : ezs_fk q k v) : ezs_T (ezu_U F q (ezw_fu (F q) k v)) A := by
  intro p hp
  refine ⟨fun j => ?_, (h p hp).2⟩
  by_cases e1 : p = q
  · subst e1
    rw [ezu_Uq]
    unfold ezw_fu
    split
    · rename_i e2
      rw [e2]
      exact hv
    · exact (h p hp).1 j
  · rw [ezu_Un _ _ e1]
    exact (h p hp).1 j
theorem ezy_Sa {F : Nat → Nat → Int} {A : Nat → Int → Int} {q : Nat} {i v : Int} (h : ezs_T F A) (hv : ezs_ak q v) : ezs_T F (ezu_U A q (ezw_au (A q) i v)) := by
  intro p hp
  refine ⟨(h p hp).1, fun j => ?_⟩
  by_cases e1 : p = q
  · subst e1
    rw [ezu_Uq]
    unfold ezw_au
    split
    · exact hv
    · exact (h p hp).2 j
  · rw [ezu_Un _ _ e1]
    exact (h p hp).2 j
theorem ezy_nf {F : Nat → Nat → Int} {q k : Nat} {v : Int} : ∀ p j, ¬ (p = q ∧ j = k) → ezu_U F q (ezw_fu (F q) k v) p j = F p j := by
  intro p j h
  by_cases e1 : p = q
  · subst e1
    rw [ezu_Uq]
    exact if_neg (fun z => h ⟨rfl, z⟩)
  · rw [ezu_Un _ _ e1]
theorem ezy_mf {F : Nat → Nat → Int} {q k : Nat} {v : Int} : ezu_U F q (ezw_fu (F q) k v) q k = v := by
  rw [ezu_Uq]
  exact if_pos rfl
theorem ezy_na {A : Nat → Int → Int} {q : Nat} {i v : Int} : ∀ p j, ¬ (p = q ∧ j = i) → ezu_U A q (ezw_au (A q) i v) p j = A p j := by
  intro p j h
  by_cases e1 : p = q
  · subst e1
    rw [ezu_Uq]
    exact if_neg (fun z => h ⟨rfl, z⟩)
  · rw [ezu_Un _ _ e1]
theorem ezy_ma {A : Nat → Int → Int} {q : Nat} {i v : Int} : ezu_U A q (ezw_au (A q) i v) q i = v := by
  rw [ezu_Uq]
  exact if_pos rfl
section KY
variable {l : Launch} {ρ : ezq_E} {B : Nat} {xa : Nat → Option Nat} {Hb : Heap} {D : va_G} {cA : Nat → ClassId} {d : Nat} {e : Bool × Bool} {F : Nat → Nat → Int} {A : Nat → Int → Int}
variable {r : ezq_R} {P : Option ezq_V → (Nat → ezq_C) → Prop} {pc : Nat} {ls : List (Option ezq_V)} {st : List ezq_V}
theorem ezy_get_i (hS : ezs_T F A) {k q a b0 c0 x0 y0 : Nat} (he : ezw_at r pc = some (.getfield k, 3, (a, b0, c0, x0, y0))) (hk : ezu_kd q = (a + 3, 0)) (hq : Nat.blt q 72 = true) (ha : Nat.blt a 13 = true) (hv : (ezw_flds a (ezu_rf e q) (F q))[b0]? = some (ezw_i (F q b0))) (hl : (Nat.beq q 1 && Nat.beq b0 7 || Nat.beq q 22 && Nat.beq b0 2) = false) (h : ∀ u, ezw_in u → ezs_fk q b0 u → u = F q b0 → ezw_E l ρ B xa Hb D cA d r P (pc + 3) ls (ezw_i u :: st) (ezu_g e F A)) : ezw_E l ρ B xa Hb D cA d r P pc ls (ezw_p q :: st) (ezu_g e F A) :=
  ezw_getfield he (ezu_at hk) (Nat.ble_eq_true_of_le (Nat.le_trans (ezq_bltT hq) (by decide))) ha hv (h _ (ezs_fk_in hl ((hS q (ezq_bltT hq)).1 b0)) ((hS q (ezq_bltT hq)).1 b0) rfl)
theorem ezy_get_l (hS : ezs_T F A) {k q a b0 c0 x0 y0 : Nat} (he : ezw_at r pc = some (.getfield k, 3, (a, b0, c0, x0, y0))) (hk : ezu_kd q = (a + 3, 0)) (hq : Nat.blt q 72 = true) (ha : Nat.blt a 13 = true) (hv : (ezw_flds a (ezu_rf e q) (F q))[b0]? = some (ezw_l (F q b0))) (h : ∀ u, ezs_fk q b0 u → u = F q b0 → ezw_E l ρ B xa Hb D cA d r P (pc + 3) ls (ezw_l u :: st) (ezu_g e F A)) : ezw_E l ρ B xa Hb D cA d r P pc ls (ezw_p q :: st) (ezu_g e F A) :=
  ezw_getfield he (ezu_at hk) (Nat.ble_eq_true_of_le (Nat.le_trans (ezq_bltT hq) (by decide))) ha hv (h _ ((hS q (ezq_bltT hq)).1 b0) rfl)
theorem ezy_put_i (hS : ezs_T F A) {k q a b0 c0 y0 : Nat} {i : Int} (he : ezw_at r pc = some (.putfield k, 3, (a, b0, c0, 0, y0))) (hk : ezu_kd q = (a + 3, 0)) (hq : Nat.blt q 72 = true) (ha : Nat.blt a 13 = true) (hs : (ezw_flds a (ezu_rf e q) (F q)).set b0 (ezw_i i) = ezw_flds a (ezu_rf e q) (ezw_fu (F q) b0 i)) (hv : ezs_fk q b0 i) (h : ∀ F', ezs_T F' A → F' q b0 = i → (∀ p j, ¬ (p = q ∧ j = b0) → F' p j = F p j) → ezw_E l ρ B xa Hb D cA d r P (pc + 3) ls st (ezu_g e F' A)) : ezw_E l ρ B xa Hb D cA d r P pc ls (ezw_i i :: ezw_p q :: st) (ezu_g e F A) :=
  ezu_putf_i he hk (Nat.ble_eq_true_of_le (Nat.le_trans (ezq_bltT hq) (by decide))) ha hs (h _ (ezy_Sf hS hv) ezy_mf ezy_nf)
theorem ezy_put_l (hS : ezs_T F A) {k q a b0 c0 y0 : Nat} {i : Int} (he : ezw_at r pc = some (.putfield k, 3, (a, b0, c0, 1, y0))) (hk : ezu_kd q = (a + 3, 0)) (hq : Nat.blt q 72 = true) (ha : Nat.blt a 13 = true) (hs : (ezw_flds a (ezu_rf e q) (F q)).set b0 (ezw_l i) = ezw_flds a (ezu_rf e q) (ezw_fu (F q) b0 i)) (hv : ezs_fk q b0 i) (h : ∀ F', ezs_T F' A → F' q b0 = i → (∀ p j, ¬ (p = q ∧ j = b0) → F' p j = F p j) → ezw_E l ρ B xa Hb D cA d r P (pc + 3) ls st (ezu_g e F' A)) : ezw_E l ρ B xa Hb D cA d r P pc ls (ezw_l i :: ezw_p q :: st) (ezu_g e F A) :=
  ezu_putf_l he hk (Nat.ble_eq_true_of_le (Nat.le_trans (ezq_bltT hq) (by decide))) ha hs (h _ (ezy_Sf hS hv) ezy_mf ezy_nf)
theorem ezy_put_z (hS : ezs_T F A) {k q a b0 c0 y0 : Nat} {i : Int} (he : ezw_at r pc = some (.putfield k, 3, (a, b0, c0, 2, y0))) (hk : ezu_kd q = (a + 3, 0)) (hq : Nat.blt q 72 = true) (ha : Nat.blt a 13 = true) (hz1 : 0 ≤ i ∧ i ≤ 1) (hs : (ezw_flds a (ezu_rf e q) (F q)).set b0 (ezw_i i) = ezw_flds a (ezu_rf e q) (ezw_fu (F q) b0 i)) (hv : ezs_fk q b0 i) (h : ∀ F', ezs_T F' A → F' q b0 = i → (∀ p j, ¬ (p = q ∧ j = b0) → F' p j = F p j) → ezw_E l ρ B xa Hb D cA d r P (pc + 3) ls st (ezu_g e F' A)) : ezw_E l ρ B xa Hb D cA d r P pc ls (ezw_i i :: ezw_p q :: st) (ezu_g e F A) :=
  ezu_putf_z he hk (Nat.ble_eq_true_of_le (Nat.le_trans (ezq_bltT hq) (by decide))) ha hz1 hs (h _ (ezy_Sf hS hv) ezy_mf ezy_nf)
theorem ezy_iaload (hS : ezs_T F A) {q n0 a b0 c0 x0 y0 : Nat} {i : Int} (he : ezw_at r pc = some (.iaload, 1, (a, b0, c0, x0, y0))) (hk : ezu_kd q = (0, n0)) (hq : Nat.blt q 72 = true) (h0 : 0 ≤ i) (h1 : i < (n0 : Int)) (hn : n0 ≤ 100000) (h : ∀ u, ezw_in u → ezs_ak q u → u = A q i → ezw_E l ρ B xa Hb D cA d r P (pc + 1) ls (ezw_i u :: st) (ezu_g e F A)) : ezw_E l ρ B xa Hb D cA d r P pc ls (ezw_i i :: ezw_p q :: st) (ezu_g e F A) :=
  ezw_iaload he (ezu_at hk) (Nat.ble_eq_true_of_le (Nat.le_trans (ezq_bltT hq) (by decide))) h0 h1 hn rfl (h _ (ezs_ak_in (by rw [hk]; rfl) ((hS q (ezq_bltT hq)).2 i)) ((hS q (ezq_bltT hq)).2 i) rfl)
theorem ezy_laload (hS : ezs_T F A) {q n0 a b0 c0 x0 y0 : Nat} {i : Int} (he : ezw_at r pc = some (.laload, 1, (a, b0, c0, x0, y0))) (hk : ezu_kd q = (1, n0)) (hq : Nat.blt q 72 = true) (h0 : 0 ≤ i) (h1 : i < (n0 : Int)) (hn : n0 ≤ 100000) (h : ∀ u, ezw_il u → u = A q i → ezw_E l ρ B xa Hb D cA d r P (pc + 1) ls (ezw_l u :: st) (ezu_g e F A)) : ezw_E l ρ B xa Hb D cA d r P pc ls (ezw_i i :: ezw_p q :: st) (ezu_g e F A) :=
  ezw_laload he (ezu_at hk) (Nat.ble_eq_true_of_le (Nat.le_trans (ezq_bltT hq) (by decide))) h0 h1 hn rfl (h _ (by
    have h2 := (hS q (ezq_bltT hq)).2 i
    unfold ezs_ak at h2
    rw [hk] at h2
    exact h2) rfl)
theorem ezy_iastore (hS : ezs_T F A) {q n0 a b0 c0 x0 y0 : Nat} {i v : Int} (he : ezw_at r pc = some (.iastore, 1, (a, b0, c0, x0, y0))) (hk : ezu_kd q = (0, n0)) (hq : Nat.blt q 72 = true) (h0 : 0 ≤ i) (h1 : i < (n0 : Int)) (hn : n0 ≤ 100000) (hv : ezs_ak q v) (h : ∀ A', ezs_T F A' → A' q i = v → (∀ p j, ¬ (p = q ∧ j = i) → A' p j = A p j) → ezw_E l ρ B xa Hb D cA d r P (pc + 1) ls st (ezu_g e F A')) : ezw_E l ρ B xa Hb D cA d r P pc ls (ezw_i v :: ezw_i i :: ezw_p q :: st) (ezu_g e F A) :=
  ezu_iastore he hk (Nat.ble_eq_true_of_le (Nat.le_trans (ezq_bltT hq) (by decide))) h0 h1 hn (h _ (ezy_Sa hS hv) ezy_ma ezy_na)
theorem ezy_lastore (hS : ezs_T F A) {q n0 a b0 c0 x0 y0 : Nat} {i v : Int} (he : ezw_at r pc = some (.lastore, 1, (a, b0, c0, x0, y0))) (hk : ezu_kd q = (1, n0)) (hq : Nat.blt q 72 = true) (h0 : 0 ≤ i) (h1 : i < (n0 : Int)) (hn : n0 ≤ 100000) (hv : ezs_ak q v) (h : ∀ A', ezs_T F A' → A' q i = v → (∀ p j, ¬ (p = q ∧ j = i) → A' p j = A p j) → ezw_E l ρ B xa Hb D cA d r P (pc + 1) ls st (ezu_g e F A')) : ezw_E l ρ B xa Hb D cA d r P pc ls (ezw_l v :: ezw_i i :: ezw_p q :: st) (ezu_g e F A) :=
  ezu_lastore he hk (Nat.ble_eq_true_of_le (Nat.le_trans (ezq_bltT hq) (by decide))) h0 h1 hn (h _ (ezy_Sa hS hv) ezy_ma ezy_na)
end KY
theorem ezy_smlc : ∀ n, n < 128 → (fun (x : Int32) => (x.toUInt32 % 65536).toInt32) (Int32.ofNat n) = Int32.ofNat n := by decide
theorem ezy_smlb : ∀ n, n < 128 → (fun (x : Int32) => x.toInt8.toInt32) (Int32.ofNat n) = Int32.ofNat n := by decide
section KY2
variable {l : Launch} {ρ : ezq_E} {B : Nat} {xa : Nat → Option Nat} {Hb : Heap} {D : va_G} {cA : Nat → ClassId} {d : Nat} {g : Nat → ezq_C}
variable {r : ezq_R} {P : Option ezq_V → (Nat → ezq_C) → Prop} {pc : Nat} {ls : List (Option ezq_V)} {st : List ezq_V}
theorem ezy_i2c {i : Int} {a b0 c x y : Nat} (he : ezw_at r pc = some (.i2c, 1, (a, b0, c, x, y))) (h0 : 0 ≤ i) (h1 : i < 128) (h : ezw_E l ρ B xa Hb D cA d r P (pc + 1) ls (ezw_i i :: st) g) : ezw_E l ρ B xa Hb D cA d r P pc ls (ezw_i i :: st) g := by
  have e : (fun (x : Int32) => (x.toUInt32 % 65536).toInt32) (Int32.ofInt i) = Int32.ofInt i := by
    obtain ⟨m, rfl⟩ := Int.eq_ofNat_of_zero_le h0
    rw [← ezw_zof, ezw_zN (by omega)]
    exact ezy_smlc m (by omega)
  obtain ⟨n, v0, g0, hP, h⟩ := h
  obtain ⟨-, hpc⟩ := ezw_at_ok he
  refine ⟨n + 1, v0, g0, hP, fun ls' hl => ezw_rs he fun go gh br sw ca re hgo hgh hbr hsw hca hre => ?_⟩
  show ezq_fi (ezq_o1 (fun x => (x.toUInt32 % 65536).toInt32) (.inl (ezw_z i))) (fun z => go (pc + 1) ls' (.inl z :: st))
  rw [ezq_fi_eq, ezw_o1 (f := fun (x : Int32) => (x.toUInt32 % 65536).toInt32) e]
  exact hgo _ _ _ (by omega) (h ls' hl)
theorem ezy_i2b {i : Int} {a b0 c x y : Nat} (he : ezw_at r pc = some (.i2b, 1, (a, b0, c, x, y))) (h0 : 0 ≤ i) (h1 : i < 128) (h : ezw_E l ρ B xa Hb D cA d r P (pc + 1) ls (ezw_i i :: st) g) : ezw_E l ρ B xa Hb D cA d r P pc ls (ezw_i i :: st) g := by
  have e : (fun (x : Int32) => x.toInt8.toInt32) (Int32.ofInt i) = Int32.ofInt i := by
    obtain ⟨m, rfl⟩ := Int.eq_ofNat_of_zero_le h0
    rw [← ezw_zof, ezw_zN (by omega)]
    exact ezy_smlb m (by omega)
  obtain ⟨n, v0, g0, hP, h⟩ := h
  obtain ⟨-, hpc⟩ := ezw_at_ok he
  refine ⟨n + 1, v0, g0, hP, fun ls' hl => ezw_rs he fun go gh br sw ca re hgo hgh hbr hsw hca hre => ?_⟩
  show ezq_fi (ezq_o1 (fun x => x.toInt8.toInt32) (.inl (ezw_z i))) (fun z => go (pc + 1) ls' (.inl z :: st))
  rw [ezq_fi_eq, ezw_o1 (f := fun (x : Int32) => x.toInt8.toInt32) e]
  exact hgo _ _ _ (by omega) (h ls' hl)
theorem ezy_xbal5 {a b0 c x y : Nat} {i : Int} (he : ezw_at r pc = some (.baload, 1, (a, b0, c, x, y))) (h0 : 0 ≤ i) (h1 : i < 8) (h : ∀ u, ezw_in u → u = ((ezq_t5.getD i.toNat 0 : Nat) : Int) → ezw_E l ρ B xa Hb D cA d r P (pc + 1) ls (ezw_i u :: st) g) : ezw_E l ρ B xa Hb D cA d r P pc ls (ezw_i i :: ezq_xt 5 :: st) g := by
  obtain ⟨m, rfl⟩ := Int.eq_ofNat_of_zero_le h0
  obtain ⟨e1, e2⟩ := ezw_t5in m (by omega)
  obtain ⟨n, v0, g0, hP, h⟩ := h _ e1 (by rw [Int.toNat_natCast])
  obtain ⟨-, hpc⟩ := ezw_at_ok he
  refine ⟨n + 1, v0, g0, hP, fun ls' hl => ezw_rs he fun go gh br sw ca re hgo hgh hbr hsw hca hre => ?_⟩
  show (bif Nat.blt (ezw_z (m : Int)) 8 && Nat.beq 2 2 then go (pc + 1) ls' (ezq_kn (ezq_t5.getD (ezw_z (m : Int)) 0) :: st) else False)
  rw [ezw_zN (by omega), show Nat.blt m 8 = true from Nat.ble_eq_true_of_le (by omega)]
  have e3 : ezq_kn (ezq_t5.getD m 0) = ezw_i ((ezq_t5.getD m 0 : Nat) : Int) := by
    show (Sum.inl (Sum.inl (ezq_t5.getD m 0)) : ezq_V) = .inl (.inl (ezw_z ((ezq_t5.getD m 0 : Nat) : Int)))
    rw [e2]
  show go (pc + 1) ls' (ezq_kn (ezq_t5.getD m 0) :: st)
  rw [e3]
  exact hgo _ _ _ (by omega) (h ls' hl)
end KY2
theorem ezp_t5a : ∀ m, m < 8 → ezp_sg ((ezq_t5.getD m 0 : Nat) : Int) = true := by decide
theorem ezp_t5b {x : Int} (h : ezp_sg x = true) : ∃ m : Nat, m < 8 ∧ ((ezq_t5.getD m 0 : Nat) : Int) = x := by
  have h1 := of_decide_eq_true h
  rcases h1 with rfl | rfl | rfl | rfl | rfl | rfl | rfl | rfl
  · exact ⟨0, by decide, by decide⟩
  · exact ⟨1, by decide, by decide⟩
  · exact ⟨2, by decide, by decide⟩
  · exact ⟨3, by decide, by decide⟩
  · exact ⟨4, by decide, by decide⟩
  · exact ⟨5, by decide, by decide⟩
  · exact ⟨6, by decide, by decide⟩
  · exact ⟨7, by decide, by decide⟩
