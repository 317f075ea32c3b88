/-! ===== what the Statement gives of the start, in the interpreter's words ===== -/
def ezq_rho (L : Nat) (xs : Nat → Int32) : ezq_E := fun k => if k < 7 then xs k else if k = 7 then xs 0 &&& 31 else if k = 8 then Int32.ofNat L else if k = 9 then Int32.ofNat L - 7 else xs (k - 1000)
theorem ezq_rho_sx (L : Nat) (xs : Nat → Int32) (j : Nat) : ezq_rho L xs (ezq_sx j) = xs j := by
  unfold ezq_sx
  cases hb : Nat.blt j 7
  · have h7 := ezq_bltF hb
    show ezq_rho L xs (j + 1000) = xs j
    unfold ezq_rho
    rw [if_neg (by omega), if_neg (by omega), if_neg (by omega), if_neg (by omega), Nat.add_sub_cancel]
  · have h7 := ezq_bltT hb
    show ezq_rho L xs j = xs j
    exact if_pos h7
theorem ezq_CIall : ∀ ci, ci < 13 → ezq_CI.any (fun q => Nat.beq q.1 ci && Nat.beq q.2.1 (ezq_vw ci).2.2) = true := by decide +kernel
theorem ezq_arrOf {s : State} {cB : ClassId} {k : Class} {comp : ClassId} {ty : FieldType} (h2 : s.vm.classes[cB]? = some k) (h3 : k.kind = .array comp ty) : ArrOfT s cB ty := fun n z => ⟨fun k h => (by cases h), k, h2, comp, h3⟩
theorem ezq_arrc {args : Array Value} {s : State} {ty : FieldType} (h : (Cond.arrayClass ty).before args s = true) : ∃ cB, ArrOfT s cB ty ∧ s.vm.findClass ("[" ++ ty.toString) = some cB := by
  obtain ⟨cB, k, comp, h1, h2, h3⟩ := Cond.arrayClass_spec (args := args) (first := s) (o := none) (s := s) (idx := []) h
  exact ⟨cB, ezq_arrOf h2 h3, h1⟩
theorem ezq_len {args : Array Value} {s : State} {t : Term} {a : Nat} {cell : Cell} {n : Nat} (hn : n < 2 ^ 31) (ht : t.eval args s none [] s = some (.ref a)) (hc : s.heap[a]? = some cell) (h : (Term.length t).eval args s none [] s = some (.int (Int32.ofNat n))) : cell.slots.size = n := by
  obtain ⟨b, cell2, ht2, harr, hv⟩ := Term.length_spec h
  cases ht.symm.trans ht2
  obtain ⟨hcell, -, -, -⟩ := State.arrayAt?_spec harr
  cases hc.symm.trans hcell
  have hsz : cell.slots.size < 2 ^ 31 := by
    simp only [Term.eval, ht, harr, Option.bind_eq_bind, Option.bind_some] at h
    by_cases hlt : cell.slots.size < 2147483648
    · exact hlt
    · simp [hlt] at h
  have h1 : (Int32.ofNat n).toInt = (Int32.ofNat cell.slots.size).toInt := by rw [Value.int.inj hv]
  rw [Int32.toInt_ofNat_of_lt hn, Int32.toInt_ofNat_of_lt hsz] at h1
  omega
def ezq_F1 : Term := .static "ElmKite" "FIRST_NUMBERS" "[I"
def ezq_sk (i : Nat) : Term := .string "ElmKite$Tokens" i
def ezq_sv (i : Nat) : Term := .field (.string "ElmKite$Tokens" i) "java/lang/String" "value" "[B"
set_option maxRecDepth 100000 in
theorem ezq_sall1 : ∀ j, j < 11 → (flatC (Jvm.Cond.and given_1 narrow_1))[12 + j]? = some (Cond.eq (.elem ezq_F1 (.int (Int32.ofNat j))) (.int (Int32.ofNat (ezq_t1.getD j 0)))) := by decide +kernel
set_option maxRecDepth 100000 in
theorem ezq_sall5 : ∀ j, j < 8 → (flatC (Jvm.Cond.and given_1 narrow_1))[285 + j]? = some (Cond.eq (.elem (ezq_sv 113) (.int (Int32.ofNat j))) (.int (Int32.ofNat (ezq_t5.getD j 0)))) := by decide +kernel
set_option maxRecDepth 100000 in
theorem ezq_sal3_0 : ∀ j, j < 32 → (flatC (Jvm.Cond.and given_1 narrow_1))[27 + j]? = some (Cond.eq (.elem (ezq_sv 19) (.int (Int32.ofNat (0 + j)))) (.int (Int32.ofNat (ezq_t3.getD (0 + j) 0)))) := by decide +kernel
set_option maxRecDepth 100000 in
theorem ezq_sal3_1 : ∀ j, j < 32 → (flatC (Jvm.Cond.and given_1 narrow_1))[59 + j]? = some (Cond.eq (.elem (ezq_sv 19) (.int (Int32.ofNat (32 + j)))) (.int (Int32.ofNat (ezq_t3.getD (32 + j) 0)))) := by decide +kernel
set_option maxRecDepth 100000 in
theorem ezq_sal3_2 : ∀ j, j < 32 → (flatC (Jvm.Cond.and given_1 narrow_1))[91 + j]? = some (Cond.eq (.elem (ezq_sv 19) (.int (Int32.ofNat (64 + j)))) (.int (Int32.ofNat (ezq_t3.getD (64 + j) 0)))) := by decide +kernel
set_option maxRecDepth 100000 in
theorem ezq_sal3_3 : ∀ j, j < 32 → (flatC (Jvm.Cond.and given_1 narrow_1))[123 + j]? = some (Cond.eq (.elem (ezq_sv 19) (.int (Int32.ofNat (96 + j)))) (.int (Int32.ofNat (ezq_t3.getD (96 + j) 0)))) := by decide +kernel
set_option maxRecDepth 100000 in
theorem ezq_sal3_4 : ∀ j, j < 32 → (flatC (Jvm.Cond.and given_1 narrow_1))[155 + j]? = some (Cond.eq (.elem (ezq_sv 19) (.int (Int32.ofNat (128 + j)))) (.int (Int32.ofNat (ezq_t3.getD (128 + j) 0)))) := by decide +kernel
set_option maxRecDepth 100000 in
theorem ezq_sal3_5 : ∀ j, j < 32 → (flatC (Jvm.Cond.and given_1 narrow_1))[187 + j]? = some (Cond.eq (.elem (ezq_sv 19) (.int (Int32.ofNat (160 + j)))) (.int (Int32.ofNat (ezq_t3.getD (160 + j) 0)))) := by decide +kernel
set_option maxRecDepth 100000 in
theorem ezq_sal3_6 : ∀ j, j < 32 → (flatC (Jvm.Cond.and given_1 narrow_1))[219 + j]? = some (Cond.eq (.elem (ezq_sv 19) (.int (Int32.ofNat (192 + j)))) (.int (Int32.ofNat (ezq_t3.getD (192 + j) 0)))) := by decide +kernel
set_option maxRecDepth 100000 in
theorem ezq_sal3_7 : ∀ j, j < 30 → (flatC (Jvm.Cond.and given_1 narrow_1))[251 + j]? = some (Cond.eq (.elem (ezq_sv 19) (.int (Int32.ofNat (224 + j)))) (.int (Int32.ofNat (ezq_t3.getD (224 + j) 0)))) := by decide +kernel
theorem ezq_sall (j : Nat) (hj : j < 254) : Cond.eq (.elem (ezq_sv 19) (.int (Int32.ofNat j))) (.int (Int32.ofNat (ezq_t3.getD j 0))) ∈ flatC (Jvm.Cond.and given_1 narrow_1) := by
  by_cases h0 : j < 32
  · obtain ⟨i, rfl⟩ : ∃ i, j = 0 + i := ⟨j - 0, by omega⟩
    exact List.mem_of_getElem? (ezq_sal3_0 i (by omega))
  by_cases h1 : j < 64
  · obtain ⟨i, rfl⟩ : ∃ i, j = 32 + i := ⟨j - 32, by omega⟩
    exact List.mem_of_getElem? (ezq_sal3_1 i (by omega))
  by_cases h2 : j < 96
  · obtain ⟨i, rfl⟩ : ∃ i, j = 64 + i := ⟨j - 64, by omega⟩
    exact List.mem_of_getElem? (ezq_sal3_2 i (by omega))
  by_cases h3 : j < 128
  · obtain ⟨i, rfl⟩ : ∃ i, j = 96 + i := ⟨j - 96, by omega⟩
    exact List.mem_of_getElem? (ezq_sal3_3 i (by omega))
  by_cases h4 : j < 160
  · obtain ⟨i, rfl⟩ : ∃ i, j = 128 + i := ⟨j - 128, by omega⟩
    exact List.mem_of_getElem? (ezq_sal3_4 i (by omega))
  by_cases h5 : j < 192
  · obtain ⟨i, rfl⟩ : ∃ i, j = 160 + i := ⟨j - 160, by omega⟩
    exact List.mem_of_getElem? (ezq_sal3_5 i (by omega))
  by_cases h6 : j < 224
  · obtain ⟨i, rfl⟩ : ∃ i, j = 192 + i := ⟨j - 192, by omega⟩
    exact List.mem_of_getElem? (ezq_sal3_6 i (by omega))
  by_cases h7 : j < 254
  · obtain ⟨i, rfl⟩ : ∃ i, j = 224 + i := ⟨j - 224, by omega⟩
    exact List.mem_of_getElem? (ezq_sal3_7 i (by omega))
  omega
set_option maxRecDepth 100000 in
set_option maxHeartbeats 40000000 in
theorem ezq_start {s : State} {b L : Nat} {xs : Nat → Int32} (hL : L ≤ 3584) (hts : ∀ w ∈ lw_tbl, w.before #[Value.ref b] s = true) (hX : va_X b L xs s s.heap) (hbl : b < s.heap.size) (hgv : (Jvm.Cond.and given_1 narrow_1).before #[Value.ref b] s = true) :
    ∃ (xa : Nat → Option Nat) (D : va_G) (cA : Nat → ClassId), ezq_K (ezq_rho L xs) s.heap.size xa s.heap D cA s ∧ xa 0 = some b := by
  have ht0 := ezq_T0_tbl hts
  have hs := flat_of_before _ hgv
  have hA : ∀ a : Nat, a < s.heap.size → ¬ ezq_no s.heap.size a := fun a h => Nat.not_le.mpr h
  -- the classes
  have hD : ∀ ci : Nat, ∃ q : ClassId × (Nat → Nat), ci < 13 → u_Kn s (ezq_vw ci).1 (ezq_vw ci).2.1 (ezq_vw ci).2.2 q.1 q.2 := by
    intro ci
    by_cases h : ci < 13
    · obtain ⟨w1, w2, -⟩ := ezq_CI_ok (ezq_CIall ci h)
      obtain ⟨cC, iS, hk⟩ := u_known (C := (ezq_vw ci).1) (T := (ezq_vw ci).2.1) (N := (ezq_vw ci).2.2) ht0 (ezq_lay h) (ht0 _ w1)
      exact ⟨(cC, iS), fun _ => hk⟩
    · exact ⟨(0, fun _ => 0), fun z => absurd z h⟩
  obtain ⟨dd, hdd⟩ := Classical.axiomOfChoice hD
  -- the arrays
  obtain ⟨c0, k0, n0⟩ := ezq_arrc (ht0 _ (ezq_wi_in ezq_sA0 rfl))
  obtain ⟨c1, k1, n1⟩ := ezq_arrc (ht0 _ (ezq_wi_in ezq_sA1 rfl))
  obtain ⟨c2, k2, n2⟩ := ezq_arrc (ht0 _ (ezq_wi_in ezq_sA2 rfl))
  -- FIRST_NUMBERS
  have f1 : (Cond.arrayOf ezq_F1 .int).before #[Value.ref b] s = true := hs _ (List.mem_of_getElem? (i := 10) (by decide +kernel))
  have f2 : (Cond.eq (.length ezq_F1) (.int 11)).before #[Value.ref b] s = true := hs _ (List.mem_of_getElem? (i := 11) (by decide +kernel))
  have f3 : ∀ j, j < 11 → (Cond.eq (.elem ezq_F1 (.int (Int32.ofNat j))) (.int (Int32.ofNat (ezq_t1.getD j 0)))).before #[Value.ref b] s = true := by
    intro j hj
    exact hs _ (List.mem_of_getElem? (ezq_sall1 j hj))
  have f4 : (Cond.exactly ezq_F1 "[I").before #[Value.ref b] s = true := hs _ (List.mem_of_getElem? (i := 295) (by decide +kernel))
  have f5 := va_eqt f2
  obtain ⟨t1, e1, cell1, y1, y2, y3, y4, y5, y6, y7⟩ := va_Tof (f := fun j => .int (Int32.ofNat (ezq_t1.getD j 0))) (A := ezq_no s.heap.size) (N := 11) (by decide) f1 f5 (fun j hj => va_eqt (f3 j hj)) hA
  have hsz1 := ezq_len (n := 11) (by decide) e1 y1 f5
  obtain ⟨t1', c1', cell1', kk1, q1, q2, q3, q4, q5, q6, -⟩ := Cond.exactly_spec (args := #[Value.ref b]) (first := s) (o := none) (s := s) (idx := []) f4
  cases e1.symm.trans q1
  cases y1.symm.trans q3
  have hcc : cell1.cls = c0 := by
    rw [q6]
    exact Option.some.inj (q2.symm.trans n0)
  have hZ1 := va_Zof (v := .ref t1) (A := ezq_no s.heap.size) (hts (.laysStatic "ElmKite" "FIRST_NUMBERS" "[I") (List.mem_of_getElem? (i := 439) (by decide +kernel))) (hts (.initialized "ElmKite") (List.mem_of_getElem? (i := 118) (by decide +kernel))) e1 hA
  -- the texts
  have strs : ∀ (i n : Nat) (tb : List Nat), n < 2 ^ 31 → (Cond.exactly (ezq_sk i) "java/lang/String").before #[Value.ref b] s = true → (Cond.eq (.field (ezq_sk i) "java/lang/String" "coder" "B") (.int 0)).before #[Value.ref b] s = true → (Cond.arrayOf (ezq_sv i) .byte).before #[Value.ref b] s = true → (Cond.eq (.length (ezq_sv i)) (.int (Int32.ofNat n))).before #[Value.ref b] s = true →
      (∀ j, j < n → (Cond.eq (.elem (ezq_sv i) (.int (Int32.ofNat j))) (.int (Int32.ofNat (tb.getD j 0)))).before #[Value.ref b] s = true) → (∃ tx, (Cond.stringRef "ElmKite$Tokens" i tx).before #[Value.ref b] s = true) → ∃ a v, ezq_XS s.heap.size s.heap s a v i n tb := by
    intro i n tb hn hex hco har hle hel ⟨tx, hsr⟩
    obtain ⟨a, c, cl, kA, q1, q2, q3, q4, q5, q6, -⟩ := Cond.exactly_spec (args := #[Value.ref b]) (first := s) (o := none) (s := s) (idx := []) (t := ezq_sk i) (cls := "java/lang/String") hex
    obtain ⟨v, ht, hT⟩ := va_Tof (f := fun j => .int (Int32.ofNat (tb.getD j 0))) (A := ezq_no s.heap.size) hn har (va_eqt hle) (fun j hj => va_eqt (hel j hj)) hA
    exact ⟨a, v, va_Oof hex q1 hA, vk_OFof q1 (va_eqt hco) hA, vk_OFof q1 ht hA, hT, tx, vk_R.of hsr q1⟩
  obtain ⟨a2, v2, hS2⟩ := strs 19 254 ezq_t3 (by decide) (hs _ (List.mem_of_getElem? (i := 23) (by decide +kernel))) (hs _ (List.mem_of_getElem? (i := 24) (by decide +kernel))) (hs _ (List.mem_of_getElem? (i := 25) (by decide +kernel))) (hs _ (List.mem_of_getElem? (i := 26) (by decide +kernel))) (fun j hj => hs _ (ezq_sall j hj)) ⟨_, hts _ (List.mem_of_getElem? (i := 153) rfl)⟩
  obtain ⟨a4, v4, hS4⟩ := strs 113 8 ezq_t5 (by decide) (hs _ (List.mem_of_getElem? (i := 281) (by decide +kernel))) (hs _ (List.mem_of_getElem? (i := 282) (by decide +kernel))) (hs _ (List.mem_of_getElem? (i := 283) (by decide +kernel))) (hs _ (List.mem_of_getElem? (i := 284) (by decide +kernel))) (fun j hj => hs _ (List.mem_of_getElem? (ezq_sall5 j hj))) ⟨_, hts _ (List.mem_of_getElem? (i := 645) rfl)⟩
  -- the JDK's statics
  have hZ3 := va_Zof (v := .int 1) (A := ezq_no s.heap.size) (hts (.laysStatic "java/lang/String" "COMPACT_STRINGS" "Z") (List.mem_of_getElem? (i := 163) (by decide +kernel))) (hts (.initialized "java/lang/String") (List.mem_of_getElem? (i := 120) (by decide +kernel))) (va_eqi (z := 1) (hs _ (List.mem_of_getElem? (i := 4) (by decide +kernel)))) hA
  obtain ⟨o6, hZ4⟩ : ∃ o6 : Option Nat, va_Z "jdk/internal/util/Preconditions" "SIOOBE_FORMATTER" "Ljava/util/function/BiFunction;" (match o6 with | none => .null | some a => .ref a) (ezq_no s.heap.size) s s.heap := by
    rcases va_Zqof (A := ezq_no s.heap.size) (hts (.laysStatic "jdk/internal/util/Preconditions" "SIOOBE_FORMATTER" "Ljava/util/function/BiFunction;") (List.mem_of_getElem? (i := 179) (by decide +kernel))) (hts (.initialized "jdk/internal/util/Preconditions") (List.mem_of_getElem? (i := 122) (by decide +kernel))) (hs (.isRef (.static "jdk/internal/util/Preconditions" "SIOOBE_FORMATTER" "Ljava/util/function/BiFunction;")) (List.mem_of_getElem? (i := 5) (by decide +kernel))) hA with h | ⟨t6, h⟩
    · exact ⟨none, h⟩
    · exact ⟨some t6, h⟩
  refine ⟨fun i => match i with
    | 0 => some b
    | 1 => some t1
    | 2 => some a2
    | 3 => some v2
    | 4 => some a4
    | 5 => some v4
    | 6 => o6
    | _ => none, (fun ci => (dd ci).1, fun ci => (dd ci).2), fun ty => match ty with
    | 0 => c0
    | 1 => c1
    | _ => c2, ⟨fun ci h => hdd ci h, ?_, ?_, rfl, ?_, ?_, ⟨a2, v2, rfl, rfl, hS2⟩, ⟨a4, v4, rfl, rfl, hS4⟩, hZ3, hZ4⟩, rfl⟩
  · intro ty h
    match ty, h with
    | 0, _ => exact ⟨k0, n0⟩
    | 1, _ => exact ⟨k1, n1⟩
    | 2, _ => exact ⟨k2, n2⟩
    | j + 3, h => exact absurd h (by omega)
  · intro w hw hn
    have h := hts w hw
    cases w <;> first | (simp [ezq_wn] at hn; done) | exact va_Nw.of rfl h
  · obtain ⟨scr, x1, x2, x3, x4, x5⟩ := hX
    refine ⟨b, L, rfl, hL, rfl, rfl, rfl, ⟨scr, x1, x2, x3, x4, fun j hj => ?_⟩, hbl⟩
    rw [x5 j hj]
    exact congrArg (fun z => some (Value.int z)) (ezq_rho_sx L xs j).symm
  · refine ⟨t1, rfl, ⟨cell1, y1, hcc, fun k hk => ?_, y3, ?_⟩, Nat.not_le.mp y7, hZ1⟩
    · rw [hk] at q5
      cases q5
    · show cell1.slots = (arrV c0 11 (fun j => .int (Int32.ofNat (ezq_t1.getD j 0)))).slots
      apply Array.ext
      · rw [hsz1, arrV_size]
      · intro i h1 h2
        have hi : i < 11 := by rw [hsz1] at h1; exact h1
        have g1 := y6 i hi
        have g2 := arrV_read c0 (N := 11) (fun j => .int (Int32.ofNat (ezq_t1.getD j 0))) hi
        rw [Array.getElem?_eq_getElem h1] at g1
        rw [Array.getElem?_eq_getElem h2] at g2
        exact (Option.some.inj g1).trans (Option.some.inj g2).symm
