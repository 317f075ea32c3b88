/-! ===== a run is right ===== -/
def ezq_ri (v : Option ezq_V) : Instr := match v with
  | none => .return_
  | some (.inl _) => .ireturn
  | some (.inr (.inl _)) => .lreturn
  | some (.inr (.inr _)) => .areturn
section KRn
variable {Ω : Type} (bot : Ω) (fk : (ezq_E → Bool) → Ω → Ω → Ω) (hk : ezq_HT Ω) (T : Ω → Prop) (l : Launch) (ρ : ezq_E) (B : Nat) (xa : Nat → Option Nat) (Hb : Heap) (D : va_G) (cA : Nat → ClassId) (Hr : Heap)
def ezq_Ru (n : Nat) : Prop :=
  ∀ (d : Nat) (Γ : ezq_G) (r : ezq_R) (pc : Nat) (ls : ezq_S) (st : List ezq_V) (sz : Nat) (t : ezq_T 7) (cl sl sp : Nat) (ks : ezq_KS Ω) (k : ezq_KK Ω),
    T (ezq_run bot fk hk n d Γ r pc ls st sz t cl sl sp ks k) → ezq_okG ρ Γ → ezq_Good r →
    ∀ (p : Program) (e : Env) (R : Room) (s : State) (m : MethodId) (args : Array Value) (below : List Frame) (meth : Method) (c : Code) (Q : State → Prop), ezq_Act p R s m args meth c ρ B xa Hb D cA r d →
    (∀ (Γ' : ezq_G) (v : Option ezq_V) (sz' : Nat) (t' : ezq_T 7) (cl' sl' pc' : Nat) (lsA : Array Slot) (H : Heap) (locs : List Loc), ezq_okG ρ Γ' → T (k Γ' v sz' t') → ezq_rok r.2.2.2.2.2.1 v = true → cl' ≤ r.2.2.2.2.2.2.1 → sl' ≤ r.2.2.2.2.2.2.2 → ezq_HR ρ B xa Hb D cA Hr sz' t' H → (∀ q ∈ locs, B ≤ q.base) → decode (ezq_byt r.2.1) pc' = .ok (ezq_ri v, 1) →
      W p l e R s m args below meth c H locs cl' sl' Q (F0 m pc' lsA (v.toList.map (ezq_d ρ B xa)))) →
    (∀ (Γ' : ezq_G) (ls' : ezq_S) (st' : List ezq_V) (sz' : Nat) (t' : ezq_T 7) (cl' sl' : Nat), ezq_okG ρ Γ' → T (ks Γ' ls' st' sz' t' cl' sl') → ezq_Wd p l e R s m args below meth c Q ρ B xa Hb D cA Hr r.2.2.2.2.1 sp ls' st' sz' t' cl' sl') →
    ezq_Wd p l e R s m args below meth c Q ρ B xa Hb D cA Hr r.2.2.2.2.1 pc ls st sz t cl sl
def ezq_Qc (k : ezq_KK Ω) : Array Value → State → Outcome → State → Prop := fun _ _ o t => ∃ (Γ' : ezq_G) (v : Option ezq_V) (sz' : Nat) (t' : ezq_T 7), ezq_okG ρ Γ' ∧ T (k Γ' v sz' t') ∧ o = .returned (v.map (ezq_d ρ B xa)) ∧ ezq_HR ρ B xa Hb D cA Hr sz' t' t.heap
/-- a call, as 'hk' makes it, is right -/
def ezq_HkOk (n : Nat) : Prop := ∀ (a d : Nat) (Γ : ezq_G) (as : List ezq_V) (sz : Nat) (t : ezq_T 7) (K : ezq_KK Ω) (fn : Nat → Option ezq_Y) (pb o2 : Nat) (y : MethodName) (mL : Nat) (ret : Option FieldType) (mc ms : Nat),
  ezq_sel a = (fn, pb, o2, y, mL, ret, mc, ms) → T (hk (ezq_run bot fk hk n) a d Γ as sz t K) → ezq_okG ρ Γ → plainName y.cls = true → y.cls = ezq_cn o2 → ezq_cat as ≤ mL →
  Met l y (.code y (ezq_byt pb) mL ret :: ezq_T0) ({ frames := 1 + d, cells := mc, slots := ms, locals := 40 + d * 100 }) (va_Pc (as.map (ezq_d ρ B xa)) (fun U => ezq_HR ρ B xa Hb D cA Hr sz t U.heap ∧ ezq_K ρ B xa Hb D cA U)) (ezq_Qc T ρ B xa Hb D cA Hr K) mc ms (ezq_no B)
end KRn
section KRm
variable {Ω : Type} {bot : Ω} {fk : (ezq_E → Bool) → Ω → Ω → Ω} {hk : ezq_HT Ω} {T : Ω → Prop} {l : Launch} {ρ : ezq_E} {B : Nat} {xa : Nat → Option Nat} {Hb : Heap} {D : va_G} {cA : Nat → ClassId} {Hr : Heap}
theorem ezq_narB : ∀ n, n ≤ 1 → narrow .byte (.int (Int32.ofNat n)) = .int (Int32.ofNat n) := by
  intro n hn
  match n, hn with
  | 0, _ => rfl
  | 1, _ => rfl
  | j + 2, h => exact absurd h (by omega)
theorem ezq_narC (n : Nat) (hn : n ≤ 65535) : narrow .char (.int (Int32.ofNat n)) = .int (Int32.ofNat n) := by
  have h : (Int32.ofNat n).toInt = n := Int32.toInt_ofNat_of_lt (by omega)
  have h1 := lg_i2c_word (v := Int32.ofNat n) (by omega) (by omega)
  show Value.int ((Int32.ofNat n).toUInt32.toUInt16.toUInt32.toInt32) = .int (Int32.ofNat n)
  rw [← lg_i2c_nf, h1]
set_option maxHeartbeats 4000000 in
theorem ezq_met (hbot : ¬ T bot) {n : Nat} (ih : ezq_Ru bot fk hk T l ρ B xa Hb D cA Hr n) {d : Nat} {Γ : ezq_G} {fn : Nat → Option ezq_Y} {pb o2 : Nat} {y : MethodName} {mL : Nat} {ret : Option FieldType} {mc ms : Nat}
    (hGood : ezq_Good (fn, pb, o2, y, mL, ret, mc, ms)) (hplain : plainName y.cls = true) (hcls : y.cls = ezq_cn o2) {as : List ezq_V} {sz : Nat} {t : ezq_T 7} {ks : ezq_KS Ω} (hks : ∀ Γ ls st sz t cl sl, ¬ T (ks Γ ls st sz t cl sl)) {sp : Nat} {k : ezq_KK Ω}
    (h : T (ezq_run bot fk hk n d Γ (fn, pb, o2, y, mL, ret, mc, ms) 0 (ezq_args 0 as) [] sz t 0 0 sp ks k)) (hG : ezq_okG ρ Γ) (hcat : ezq_cat as ≤ mL) :
    Met l y (.code y (ezq_byt pb) mL ret :: ezq_T0) ({ frames := 1 + d, cells := mc, slots := ms, locals := 40 + d * 100 }) (va_Pc (as.map (ezq_d ρ B xa)) (fun U => ezq_HR ρ B xa Hb D cA Hr sz t U.heap ∧ ezq_K ρ B xa Hb D cA U)) (ezq_Qc T ρ B xa Hb D cA Hr k) mc ms (ezq_no B) := by
  refine Met.ofW (cc := ezq_byt pb) (maxL := mL) (ret := ret) hplain rfl ?_
  intro p e s m args below meth c s₁ Bd hml hv
  obtain ⟨rfl, hH, hK⟩ := hv
  have hts := atoms_spec (ws := .code y (ezq_byt pb) mL ret :: ezq_T0) Bd.pre
  have hown : s.vm.findClass (ezq_cn o2) = some m.cls := by rw [← hcls]; exact findClass_of_methodNamed Bd.named
  have hname : meth.name = y.name := (name_of_methodNamed Bd.named Bd.method).1
  have hlocks := Bd.notSynchronized
  have hl := lv_entry (as.map (ezq_d ρ B xa)) (n := mL) (by rw [ezq_slen]; exact hcat)
  rw [ezq_args_d] at hl
  rw [lg_entry_eq]
  refine ih d Γ _ 0 _ [] sz t 0 0 sp ks k h hG hGood p e _ s m _ below meth c _ ⟨Bd.exec, Bd.bytes, hml, hown, fun w hw => hts w (List.mem_cons_of_mem _ hw), hK, fun z => hname.trans z, Nat.le_refl _, Nat.le_refl _, Nat.le_refl _, Nat.le_refl _⟩ ?_ (fun Γ' ls' st' sz' t' cl' sl' _ hk => absurd hk (hks _ _ _ _ _ _ _)) _ s.heap [] hl hH (fun q h => by cases h)
  intro Γ' v sz' t' cl' sl' pc' lsA H locs hG' hk hrok hcl hsl hH' hL hdec
  have hret : meth.sig.returnType = ret := Bd.returns
  refine W.widen (k := mc) (n := ms) hcl hsl ?_
  rcases v with _ | (a | x | pp)
  · have hrn : ret = none := by
      revert hrok
      cases ret <;> intro hrok
      · rfl
      · cases hrok
    subst hrn
    exact W.vret Bd.exec Bd.bytes hret (fun t2 ht hW => ⟨Γ', none, sz', t', hG', hk, rfl, by rw [ht]; exact hH'⟩) hL hdec hlocks
  · have hq : ∀ t2 : State, t2.heap = H → s.WarmedH t2.vm → ezq_Qc T ρ B xa Hb D cA Hr k (as.map (ezq_d ρ B xa)).toArray s (.returned (some (.int (ezq_dI ρ a)))) t2 := fun t2 ht hW => ⟨Γ', some (.inl a), sz', t', hG', hk, rfl, by rw [ht]; exact hH'⟩
    cases ret with
    | none => cases hrok
    | some ty =>
      by_cases hi : ty = .int
      · subst hi
        exact W.iret Bd.exec Bd.bytes hret hq hL hdec hlocks
      · refine W.zret Bd.exec Bd.bytes hret ?_ hq hL hdec hlocks
        cases ty <;> first | (exact absurd rfl hi) | (cases hrok; done) | skip
        all_goals (rcases a with n1 | a <;> first | (cases hrok; done) | skip)
        · exact ezq_narB n1 (Nat.le_of_ble_eq_true hrok)
        · exact ezq_narC n1 (Nat.le_of_ble_eq_true hrok)
        · exact ezq_nz n1 (Nat.le_of_ble_eq_true hrok)
  · have hrn : ret = some .long := by
      revert hrok
      cases ret with
      | none => intro hrok; cases hrok
      | some ty => cases ty <;> intro hrok <;> first | rfl | (cases hrok; done)
    subst hrn
    exact W.lret Bd.exec Bd.bytes hret (fun t2 ht hW => ⟨Γ', some (.inr (.inl x)), sz', t', hG', hk, rfl, by rw [ht]; exact hH'⟩) hL hdec hlocks
  · exfalso
    revert hrok
    cases ret with
    | none => intro hrok; cases hrok
    | some ty => cases ty <;> intro hrok <;> cases hrok
set_option maxHeartbeats 4000000 in
theorem ezq_metG {n : Nat} (ih : ∀ Hr : Heap, ezq_Ru bot fk hk T l ρ B xa Hb D cA Hr n) {Ω2 : Type} {T2 : Ω2 → Prop} {K : ezq_KK Ω2} {t0 : ezq_T 7} {Hq : Heap} (fH : Heap → Heap) {d : Nat} {Γ : ezq_G} {fn : Nat → Option ezq_Y} {pb o2 : Nat} {y : MethodName} {mL : Nat} {ret : Option FieldType} {mc ms : Nat}
    (hGood : ezq_Good (fn, pb, o2, y, mL, ret, mc, ms)) (hplain : plainName y.cls = true) (hcls : y.cls = ezq_cn o2) {as : List ezq_V} {sz : Nat} {t : ezq_T 7} {ks : ezq_KS Ω} (hks : ∀ Γ ls st sz t cl sl, ¬ T (ks Γ ls st sz t cl sl)) {sp : Nat} {k : ezq_KK Ω}
    (h : T (ezq_run bot fk hk n d Γ (fn, pb, o2, y, mL, ret, mc, ms) 0 (ezq_args 0 as) [] sz t 0 0 sp ks k)) (hG : ezq_okG ρ Γ) (hcat : ezq_cat as ≤ mL)
    (hpre : ∀ H : Heap, ezq_HR ρ B xa Hb D cA Hq sz t0 H → ezq_HR ρ B xa Hb D cA (fH H) sz t H)
    (hpost : ∀ (H H2 : Heap) (Γ' : ezq_G) (v : Option ezq_V) (sz' : Nat) (t' : ezq_T 7), ezq_HR ρ B xa Hb D cA Hq sz t0 H → ezq_okG ρ Γ' → T (k Γ' v sz' t') → ezq_HR ρ B xa Hb D cA (fH H) sz' t' H2 → ∃ (Γ2 : ezq_G) (v2 : Option ezq_V) (sz2 : Nat) (t2 : ezq_T 7), ezq_okG ρ Γ2 ∧ T2 (K Γ2 v2 sz2 t2) ∧ v.map (ezq_d ρ B xa) = v2.map (ezq_d ρ B xa) ∧ ezq_HR ρ B xa Hb D cA Hq sz2 t2 H2) :
    Met l y (.code y (ezq_byt pb) mL ret :: ezq_T0) ({ frames := 1 + d, cells := mc, slots := ms, locals := 40 + d * 100 }) (va_Pc (as.map (ezq_d ρ B xa)) (fun U => ezq_HR ρ B xa Hb D cA Hq sz t0 U.heap ∧ ezq_K ρ B xa Hb D cA U)) (ezq_Qc T2 ρ B xa Hb D cA Hq K) mc ms (ezq_no B) := by
  refine Met.ofW (cc := ezq_byt pb) (maxL := mL) (ret := ret) hplain rfl ?_
  intro p e s m args below meth c s₁ Bd hml hv
  obtain ⟨rfl, hH, hK⟩ := hv
  have hts := atoms_spec (ws := .code y (ezq_byt pb) mL ret :: ezq_T0) Bd.pre
  have hown : s.vm.findClass (ezq_cn o2) = some m.cls := by rw [← hcls]; exact findClass_of_methodNamed Bd.named
  have hname : meth.name = y.name := (name_of_methodNamed Bd.named Bd.method).1
  have hlocks := Bd.notSynchronized
  have hl := lv_entry (as.map (ezq_d ρ B xa)) (n := mL) (by rw [ezq_slen]; exact hcat)
  rw [ezq_args_d] at hl
  rw [lg_entry_eq]
  refine ih (fH s.heap) d Γ _ 0 _ [] sz t 0 0 sp ks k h hG hGood p e _ s m _ below meth c _ ⟨Bd.exec, Bd.bytes, hml, hown, fun w hw => hts w (List.mem_cons_of_mem _ hw), hK, fun z => hname.trans z, Nat.le_refl _, Nat.le_refl _, Nat.le_refl _, Nat.le_refl _⟩ ?_ (fun Γ' ls' st' sz' t' cl' sl' _ hk => absurd hk (hks _ _ _ _ _ _ _)) _ s.heap [] hl (hpre _ hH) (fun q h => by cases h)
  intro Γ' v sz' t' cl' sl' pc' lsA H locs hG' hk' hrok hcl hsl hH' hL hdec
  have hret : meth.sig.returnType = ret := Bd.returns
  obtain ⟨Γ2, v2, sz2, t2', g1, g2, g3, g4⟩ := hpost s.heap H Γ' v sz' t' hH hG' hk' hH'
  refine W.widen (k := mc) (n := ms) hcl hsl ?_
  rcases v with _ | (a | x | pp)
  · have hrn : ret = none := by
      revert hrok
      cases ret <;> intro hrok
      · rfl
      · cases hrok
    subst hrn
    exact W.vret Bd.exec Bd.bytes hret (fun t2 ht hW => ⟨Γ2, v2, sz2, t2', g1, g2, by rw [← g3]; rfl, by rw [ht]; exact g4⟩) hL hdec hlocks
  · have hq : ∀ t2 : State, t2.heap = H → s.WarmedH t2.vm → ezq_Qc T2 ρ B xa Hb D cA Hq K (as.map (ezq_d ρ B xa)).toArray s (.returned (some (.int (ezq_dI ρ a)))) t2 := fun t2 ht hW => ⟨Γ2, v2, sz2, t2', g1, g2, by rw [← g3]; rfl, by rw [ht]; exact g4⟩
    cases ret with
    | none => cases hrok
    | some ty =>
      by_cases hi : ty = .int
      · subst hi
        exact W.iret Bd.exec Bd.bytes hret hq hL hdec hlocks
      · refine W.zret Bd.exec Bd.bytes hret ?_ hq hL hdec hlocks
        cases ty <;> first | (exact absurd rfl hi) | (cases hrok; done) | skip
        all_goals (rcases a with n1 | a <;> first | (cases hrok; done) | skip)
        · exact ezq_narB n1 (Nat.le_of_ble_eq_true hrok)
        · exact ezq_narC n1 (Nat.le_of_ble_eq_true hrok)
        · exact ezq_nz n1 (Nat.le_of_ble_eq_true hrok)
  · have hrn : ret = some .long := by
      revert hrok
      cases ret with
      | none => intro hrok; cases hrok
      | some ty => cases ty <;> intro hrok <;> first | rfl | (cases hrok; done)
    subst hrn
    exact W.lret Bd.exec Bd.bytes hret (fun t2 ht hW => ⟨Γ2, v2, sz2, t2', g1, g2, by rw [← g3]; rfl, by rw [ht]; exact g4⟩) hL hdec hlocks
  · exfalso
    revert hrok
    cases ret with
    | none => intro hrok; cases hrok
    | some ty => cases ty <;> intro hrok <;> cases hrok
theorem ezq_h0_met (hbot : ¬ T bot) {n : Nat} (ih : ezq_Ru bot fk hk T l ρ B xa Hb D cA Hr n) {a d : Nat} {Γ : ezq_G} {as : List ezq_V} {sz : Nat} {t : ezq_T 7} {K : ezq_KK Ω} {fn : Nat → Option ezq_Y} {pb o2 : Nat} {y : MethodName} {mL : Nat} {ret : Option FieldType} {mc ms : Nat}
    (hr : ezq_sel a = (fn, pb, o2, y, mL, ret, mc, ms)) (h : T (ezq_h0 bot (ezq_run bot fk hk n) a d Γ as sz t K)) (hG : ezq_okG ρ Γ) (hplain : plainName y.cls = true) (hcls : y.cls = ezq_cn o2) (hcat : ezq_cat as ≤ mL) :
    Met l y (.code y (ezq_byt pb) mL ret :: ezq_T0) ({ frames := 1 + d, cells := mc, slots := ms, locals := 40 + d * 100 }) (va_Pc (as.map (ezq_d ρ B xa)) (fun U => ezq_HR ρ B xa Hb D cA Hr sz t U.heap ∧ ezq_K ρ B xa Hb D cA U)) (ezq_Qc T ρ B xa Hb D cA Hr K) mc ms (ezq_no B) := by
  have hGc : ezq_Good (fn, pb, o2, y, mL, ret, mc, ms) := by
    have := ezq_good a
    rw [hr] at this
    exact this
  unfold ezq_h0 at h
  rw [ezq_arg_eq, hr] at h
  exact ezq_met hbot ih hGc hplain hcls (fun _ _ _ _ _ _ _ => hbot) h hG hcat
section KCw
variable {p : Program} {e : Env} {R : Room} {s : State} {m : MethodId} {args : Array Value} {below : List Frame} {meth : Method} {c : Code} {H : Heap} {locs : List Loc} {cells slots : Nat} {Q : State → Prop}
theorem ezq_callW {mc ms pc : Nat} {ls : Array Slot} {st0 rest : List Value} {Qa : State → Outcome → State → Prop} {free : Addr → Prop} (hr : va_Run p l e R s m args below meth c H locs cells slots mc ms (F0 m pc ls st0) rest Qa free)
    (kk : ∀ (v : Option Value) (st₀ t : State) (H1 : Heap) (L : List Loc), t.heap = H1 → Qa st₀ (.returned v) t → (∀ q ∈ L, free q.base) → W p l e R s m args below meth c H1 (locs ++ L) (cells + mc) (slots + ms) Q (F0 m (pc + 3) ls (v.toList ++ rest))) : W p l e R s m args below meth c H locs cells slots Q (F0 m pc ls st0) := by
  intro T hT X
  obtain ⟨v, st₀, t, T', L, h0, X', hL, e1, e2, hq, st⟩ := hr T hT X
  obtain ⟨t2, a1, b1⟩ := kk v st₀ t T'.heap L e1.symm hq hL T' rfl X'
  exact ⟨t2, st t2 a1, b1⟩
end KCw
theorem ezq_goodIn {y : MethodName} {cc : ByteArray} {mL : Nat} {ret : Option FieldType} (h : Cond.code y cc mL ret ∈ ezq_T0) : GoodIn ezq_T0 (.code y cc mL ret :: ezq_T0) := by
  intro w hw
  have hm : w ∈ ezq_T0 := by
    rcases List.mem_cons.mp hw with e | e
    · rw [e]
      exact h
    · exact e
  exact ⟨hm, good_of_word (List.mem_filter.mp hm).2⟩
/-- what the tables say of a method that is called -/
theorem ezq_moA_ok {o k j n kd pl pc pi pn ps : Nat} {fn : Nat → Option ezq_Y} {pb o2 : Nat} {y : MethodName} {mL : Nat} {ret : Option FieldType} {mc ms : Nat} (hr : ezq_sel j = (fn, pb, o2, y, mL, ret, mc, ms)) (h : ezq_moA (o, k, j, n, kd, pl, pc, pi, pn, ps) = true) :
    Cond.code y (ezq_byt pb) mL ret ∈ ezq_T0 ∧ Cond.initialized y.cls ∈ ezq_T0 ∧ (y.cls ≠ "java/lang/invoke/MethodHandle" ∧ y.cls ≠ "java/lang/invoke/VarHandle") ∧ (parseMethodDescriptor y.desc).map (fun d => d.parameters.length) = some n ∧ plainName y.cls = true ∧ y.cls = ezq_cn o2 := by
  simp only [ezq_moA, hr, Bool.and_eq_true, decide_eq_true_eq] at h
  obtain ⟨h1, h2, h3, h4, h5, h6, h7, h8⟩ := h
  obtain rfl := Nat.eq_of_beq_eq_true h1
  have h2 : Nat.beq pb 1000000 = false := by
    cases hb : Nat.beq pb 1000000
    · rfl
    · rw [hb] at h2
      cases h2
  refine ⟨?_, ezq_wi_in h4 rfl, h5, h6, h7, h8⟩
  have h9 := ezq_isC_ok h3
  have e : ezq_byt pb = ezq_by pb := by
    unfold ezq_byt
    rw [h2]
    rfl
  rw [e]
  exact ezq_in h9 rfl
theorem ezq_caps_ok {j d x : Nat} {fn : Nat → Option ezq_Y} {pb o2 : Nat} {y : MethodName} {mL : Nat} {ret : Option FieldType} {mc ms : Nat} (hr : ezq_sel j = (fn, pb, o2, y, mL, ret, mc, ms)) (h : ezq_caps j d x = true) : mc = d ∧ ms = x := by
  simp only [ezq_caps, hr, Bool.and_eq_true] at h
  exact ⟨Nat.eq_of_beq_eq_true h.1, Nat.eq_of_beq_eq_true h.2⟩
set_option maxHeartbeats 8000000 in
theorem ezq_call_ok (hbot : ¬ T bot) {n : Nat} (ih : ezq_Ru bot fk hk T l ρ B xa Hb D cA Hr n) (hhk : ezq_HkOk bot fk hk T l ρ B xa Hb D cA Hr n) {d : Nat} {Γ : ezq_G} {r : ezq_R} {pc : Nat} {ls : ezq_S} {st : List ezq_V} {sz : Nat} {t : ezq_T 7} {cl sl sp : Nat} {ks : ezq_KS Ω} {k : ezq_KK Ω} {ee : ezq_Y}
    (h : T (ezq_call bot hk (ezq_run bot fk hk n) d Γ r pc ls st sz t cl sl sp ks k ee.2.2.1 ee.2.2.2.1 ee.2.2.2.2.1 ee.2.2.2.2.2.1 ee.2.2.2.2.2.2)) (hG : ezq_okG ρ Γ) (hGood : ezq_Good r)
    {p : Program} {e : Env} {R : Room} {s : State} {m : MethodId} {args : Array Value} {below : List Frame} {meth : Method} {c : Code} {Q : State → Prop} (hAct : ezq_Act p R s m args meth c ρ B xa Hb D cA r d)
    (hex : ∀ (Γ' : ezq_G) (v : Option ezq_V) (sz' : Nat) (t' : ezq_T 7) (cl' sl' pc' : Nat) (lsA : Array Slot) (H : Heap) (locs : List Loc), ezq_okG ρ Γ' → T (k Γ' v sz' t') → ezq_rok r.2.2.2.2.2.1 v = true → cl' ≤ r.2.2.2.2.2.2.1 → sl' ≤ r.2.2.2.2.2.2.2 → ezq_HR ρ B xa Hb D cA Hr sz' t' H → (∀ q ∈ locs, B ≤ q.base) → decode (ezq_byt r.2.1) pc' = .ok (ezq_ri v, 1) →
      W p l e R s m args below meth c H locs cl' sl' Q (F0 m pc' lsA (v.toList.map (ezq_d ρ B xa))))
    (hst : ∀ (Γ' : ezq_G) (ls' : ezq_S) (st' : List ezq_V) (sz' : Nat) (t' : ezq_T 7) (cl' sl' : Nat), ezq_okG ρ Γ' → T (ks Γ' ls' st' sz' t' cl' sl') → ezq_Wd p l e R s m args below meth c Q ρ B xa Hb D cA Hr r.2.2.2.2.1 sp ls' st' sz' t' cl' sl')
    (hdg : decode (ezq_byt r.2.1) pc = .ok (ee.1, ee.2.1)) (hlk : ezq_lk r.2.2.1 r.2.2.2.2.1 (decide (r.2.2.2.1.name = "<init>")) pc ee = true) (hinv : (∃ k, ee.1 = .invokevirtual k) ∨ (∃ k, ee.1 = .invokespecial k) ∨ ∃ k, ee.1 = .invokestatic k) :
    ezq_Wd p l e R s m args below meth c Q ρ B xa Hb D cA Hr r.2.2.2.2.1 pc ls st sz t cl sl := by
  obtain ⟨i, n0, a, b, kd, dd, x⟩ := ee
  replace hdg : decode (ezq_byt r.2.1) pc = .ok (i, n0) := hdg
  have h_1 : T (ezq_call bot hk (ezq_run bot fk hk n) d Γ r pc ls st sz t cl sl sp ks k a b kd dd x) := h
  have hAct0 := hAct
  obtain ⟨hx, hb, hml, hown, hts, hK, hnm, hR1, hR2, hRc, hRs⟩ := hAct0
  cases d with
  | zero => exact absurd h_1 hbot
  | succ d =>
    obtain ⟨hcap, h_2⟩ := ezq_bif_ok hbot h_1
    simp only [Bool.and_eq_true] at hcap
    have hc1 := Nat.le_of_ble_eq_true hcap.1
    have hc2 := Nat.le_of_ble_eq_true hcap.2
    obtain ⟨as, rest0, rfl, hlen, h_3⟩ := ezq_pop_ok hbot b h_2
    rw [List.append_nil] at h_3
    cases hr : ezq_sel a with
    | mk fn rc1 =>
    obtain ⟨pb, o2, y, mL, ret, mc, ms⟩ := rc1
    rw [hr] at h_3
    -- what is left once the callee's arguments are known
    have tail : ∀ {as2 rest : List ezq_V} {H : Heap} {lsA : Array Slot} {locs : List Loc}, mc = dd → ms = x → plainName y.cls = true → y.cls = ezq_cn o2 → lv_has lsA r.2.2.2.2.1 (ezq_dl ρ B xa ls) → (∀ q ∈ locs, B ≤ q.base) → ezq_cat rest ≤ 8 → ezq_cat as2 ≤ mL →
        T (hk (ezq_run bot fk hk n) a d Γ as2 sz t fun Γ' v sz' t' =>
          ezq_fn (pc + 3) fun q => ezq_fn (cl + dd) fun cl' => ezq_fn (sl + x) fun sl' => ezq_id (ezq_run bot fk hk n (d + 1) Γ' r q ls (match v with
            | none => rest
            | some v => v :: rest) sz' t' cl' sl' sp ks k)) →
        ∃ k2 : ezq_KK Ω, Met l y (.code y (ezq_byt pb) mL ret :: ezq_T0) ({ frames := 1 + d, cells := mc, slots := ms, locals := 40 + d * 100 }) (va_Pc (as2.map (ezq_d ρ B xa)) (fun U => ezq_HR ρ B xa Hb D cA Hr sz t U.heap ∧ ezq_K ρ B xa Hb D cA U)) (ezq_Qc T ρ B xa Hb D cA Hr k2) mc ms (ezq_no B) ∧
          ∀ (st0 : List Value) (ar : Array Value), va_Run p l e R s m args below meth c H locs cl sl mc ms (F0 m pc lsA st0) (rest.map (ezq_d ρ B xa)) (ezq_Qc T ρ B xa Hb D cA Hr k2 ar) (ezq_no B) → W p l e R s m args below meth c H locs cl sl Q (F0 m pc lsA st0) := by
      intro as2 rest H lsA locs e1 e2 hpl hcl hl hL h8 hmL h
      subst e1
      subst e2
      refine ⟨_, hhk a d Γ as2 sz t _ fn pb o2 y mL ret mc ms hr h hG hpl hcl hmL, fun st0 ar hrun => ezq_callW hrun ?_⟩
      intro v st₀ t1 H1 L e1 hq hL1
      obtain ⟨Γ', v', sz', t', hG', hk1, hv, hH1⟩ := hq
      cases hv
      dsimp only at hk1
      rw [ezq_fn_eq, ezq_fn_eq, ezq_fn_eq] at hk1
      have hw := ih (d + 1) Γ' r (pc + 3) ls _ sz' t' (cl + mc) (sl + ms) sp ks k hk1 hG' hGood p e R s m args below meth c Q hAct hex hst lsA H1 (locs ++ L) hl (by rw [← e1]; exact hH1) (fun q hq => by
        rcases List.mem_append.mp hq with z | z
        · exact hL q z
        · exact hL1 q z)
      cases v' with
      | none => exact hw
      | some v' => exact hw
    have hblind : ∀ as2 : List ezq_V, FrameBlind (va_Pc (as2.map (ezq_d ρ B xa)) (fun U => ezq_HR ρ B xa Hb D cA Hr sz t U.heap ∧ ezq_K ρ B xa Hb D cA U)) := fun as2 a U g mk q => by
      obtain ⟨q0, q1, q2⟩ := q
      exact ⟨q0, q1, ezq_K.same (s := U) (U := U.calling g mk a) rfl q2⟩
    have hroom : ∀ mL, mL ≤ 80 → (1 + d) + 1 ≤ R.frames ∧ 8 + (mL + 11) + (40 + d * 100) ≤ R.locals := fun mL h_3 => ⟨by omega, by omega⟩
    rcases hinv with ⟨k0, hi⟩ | ⟨k0, hi⟩ | ⟨k0, hi⟩
    · replace hi : i = .invokevirtual k0 := hi
      subst hi
      replace hlk : (Nat.beq n0 3 && (match (generalizing := false) kd with
        | 0 => ezq_isM ezq_M0 r.2.2.1 k0 a b 0 && ezq_caps a dd x
        | 8 => Nat.beq r.2.2.1 9 && Nat.beq k0 56
        | 9 => true
        | _ => false)) = true := hlk
      rw [Bool.and_eq_true] at hlk
      obtain ⟨hn, hlk⟩ := hlk
      obtain rfl := Nat.eq_of_beq_eq_true hn
      match kd, h_3, hlk with
      | 0, h_4, hlk =>
        replace hlk : (ezq_isM ezq_M0 r.2.2.1 k0 a b 0 && ezq_caps a dd x) = true := hlk
        rw [Bool.and_eq_true] at hlk
        obtain ⟨pl, pc', pi, pn, ps, hA, hBB⟩ := ezq_isM_ok ezq_M0A ezq_M0B hlk.1
        obtain ⟨e1, e2⟩ := ezq_caps_ok hr hlk.2
        obtain ⟨w1, w2, w3, w4, w5, w6⟩ := ezq_moA_ok hr hA
        simp only [ezq_moB, hr, Bool.and_eq_true] at hBB
        obtain ⟨b1, b2, b3⟩ := hBB
        obtain ⟨pp, rest, rfl, h_5⟩ := ezq_p1_ok hbot h_4
        rcases pp with _ | q | i
        · exact absurd h_5 hbot
        · obtain ⟨q', ci, fs, e3, hq, ht, h13, h_6⟩ := ezq_ob_ok hbot h_5
          cases e3
          obtain ⟨hci, h_7⟩ := ezq_bif_ok hbot h_6
          have hci : ci = o2 := Nat.eq_of_beq_eq_true hci
          obtain ⟨h80, h_8⟩ := ezq_bif_ok hbot h_7
          simp only [Bool.and_eq_true] at h80
          intro lsA H locs hl hH hL
          obtain ⟨k2, hM, fin⟩ := tail (H := H) e1 e2 w5 w6 hl hL (Nat.le_of_ble_eq_true h80.1) (Nat.le_of_ble_eq_true h80.2.1) h_8
          subst e1
          subst e2
          have hq2 := hH.2.2.1 q hq
          rw [ht] at hq2
          obtain ⟨c1, c2, cell, q1, q2, q3, q4⟩ := ezq_atO (Hr := Hr) (by first | exact h13 | (rw [hci]; exact hci ▸ h13) | (rw [← hci]; exact h13)) hq2
          refine fin _ _ (va_runV (C := y.cls) (b := B + q) (As := as.map (ezq_d ρ B xa)) ⟨hx, hb, hml, hown, hts⟩ hM ⟨callB_of b hts (ezq_goodIn w1) rfl rfl rfl (hts _ w2) (hts _ (ezq_wi_in b1 rfl)) ⟨w3.1, w3.2, w4⟩ (hroom mL (Nat.le_of_ble_eq_true h80.2.2)), hts _ (ezq_wi_in b2 rfl), hts _ (ezq_wi_in b3 rfl)⟩ ⟨hblind _, ⟨cell, q1, by rw [q3]; rfl, ?_⟩, fun U hU hW => ⟨rfl, by rw [hU]; exact hH, hK.warm hW⟩⟩ rfl (by rw [List.length_map]; exact hlen) hl.1 (by rw [List.map_append, List.map_reverse]; rfl) (lv_room (by rw [ezq_sumcat]; exact Nat.le_of_ble_eq_true h80.1)) hdg ⟨by omega, by omega⟩)
          rw [w6, ← hci, ezq_ncl ci c1, q2]
          exact (hK.1 ci c1).2.1
        · obtain ⟨h14, h_9⟩ := ezq_bif_ok hbot h_5
          simp only [Bool.and_eq_true, Bool.or_eq_true] at h14
          have ho : o2 = 14 := Nat.eq_of_beq_eq_true h14.1
          obtain ⟨h80, h_10⟩ := ezq_bif_ok hbot h_9
          simp only [Bool.and_eq_true] at h80
          intro lsA H locs hl hH hL
          obtain ⟨k2, hM, fin⟩ := tail (H := H) e1 e2 w5 w6 hl hL (Nat.le_of_ble_eq_true h80.1) (Nat.le_of_ble_eq_true h80.2.1) h_10
          subst e1
          subst e2
          have hrec : ∃ aw cell, ezq_dP B xa (some (.inr i)) = .ref aw ∧ H[aw]? = some cell ∧ cell.vm.isStatics = false ∧ s.vm.findClass "java/lang/String" = some cell.cls := by
            obtain ⟨-, -, -, -, -, -, ⟨a2, v2, k1, -, k3⟩, ⟨a4, v4, m1, -, m3⟩, -⟩ := hK
            rcases h14.2 with h2 | h2
            · have e5 := Nat.eq_of_beq_eq_true h2
              subst e5
              obtain ⟨cell, z1, z2, z3, z4⟩ := k3.1
              exact ⟨a2, cell, by simp [ezq_dP, k1], by rw [hH.2.2.2 a2 (Nat.not_le.mp z4)]; exact z1, z2, z3⟩
            · have e5 := Nat.eq_of_beq_eq_true h2
              subst e5
              obtain ⟨cell, z1, z2, z3, z4⟩ := m3.1
              exact ⟨a4, cell, by simp [ezq_dP, m1], by rw [hH.2.2.2 a4 (Nat.not_le.mp z4)]; exact z1, z2, z3⟩
          obtain ⟨aw, cell, y1, y2, y3, y4⟩ := hrec
          have hd1 : ∀ v : List ezq_V, ((.inr (.inr (some (.inr i))) : ezq_V) :: v).map (ezq_d ρ B xa) = .ref aw :: v.map (ezq_d ρ B xa) := fun v => by
            show ezq_dP B xa (some (.inr i)) :: _ = _
            rw [y1]
          rw [List.map_append, List.map_reverse, hd1]
          rw [hd1] at hM
          refine fin _ _ (va_runV (C := y.cls) (b := aw) (As := as.map (ezq_d ρ B xa)) ⟨hx, hb, hml, hown, hts⟩ hM ⟨callB_of b hts (ezq_goodIn w1) rfl rfl rfl (hts _ w2) (hts _ (ezq_wi_in b1 rfl)) ⟨w3.1, w3.2, w4⟩ (hroom mL (Nat.le_of_ble_eq_true h80.2.2)), hts _ (ezq_wi_in b2 rfl), hts _ (ezq_wi_in b3 rfl)⟩ ⟨by rw [← hd1]; exact hblind _, ⟨cell, y2, y3, ?_⟩, fun U hU hW => ⟨rfl, by rw [hU]; exact hH, hK.warm hW⟩⟩ rfl (by rw [List.length_map]; exact hlen) hl.1 rfl (lv_room (by rw [ezq_sumcat]; exact Nat.le_of_ble_eq_true h80.1)) hdg ⟨by omega, by omega⟩)
          rw [w6, ho]
          exact y4
      | 1, h_11, hlk => cases hlk
      | 2, h_12, hlk => cases hlk
      | 3, h_13, hlk => cases hlk
      | 4, h_14, hlk => cases hlk
      | j + 5, h_15, hlk => exact absurd h_15 hbot
    · replace hi : i = .invokespecial k0 := hi
      subst hi
      replace hlk : (Nat.beq n0 3 && (match (generalizing := false) kd with
        | 1 => ezq_isM ezq_M1 r.2.2.1 k0 a b 1 && ezq_caps a dd x
        | 4 => ezq_isM ezq_M4 r.2.2.1 k0 a b 4 && ezq_caps a dd x
        | 5 => ezq_OIr.any (fun q => Nat.beq q.1 r.2.2.1 && Nat.beq q.2.1 k0)
        | 9 => true
        | _ => false)) = true := hlk
      rw [Bool.and_eq_true] at hlk
      obtain ⟨hn, hlk⟩ := hlk
      obtain rfl := Nat.eq_of_beq_eq_true hn
      match kd, h_3, hlk with
      | 0, h_16, hlk => cases hlk
      | 1, h_17, hlk =>
        replace hlk : (ezq_isM ezq_M1 r.2.2.1 k0 a b 1 && ezq_caps a dd x) = true := hlk
        rw [Bool.and_eq_true] at hlk
        obtain ⟨pl, pc', pi, pn, ps, hA, hBB⟩ := ezq_isM_ok ezq_M1A ezq_M1B hlk.1
        obtain ⟨e1, e2⟩ := ezq_caps_ok hr hlk.2
        obtain ⟨w1, w2, w3, w4, w5, w6⟩ := ezq_moA_ok hr hA
        simp only [ezq_moB, hr, Bool.and_eq_true, decide_eq_true_eq] at hBB
        obtain ⟨b1, b2, b3, rfl⟩ := hBB
        obtain ⟨pp, rest, rfl, h_18⟩ := ezq_p1_ok hbot h_17
        rcases pp with _ | q | i
        · exact absurd h_18 hbot
        · obtain ⟨h80, h_19⟩ := ezq_bif_ok hbot h_18
          simp only [Bool.and_eq_true] at h80
          intro lsA H locs hl hH hL
          obtain ⟨k2, hM, fin⟩ := tail (H := H) e1 e2 w5 w6 hl hL (Nat.le_of_ble_eq_true h80.1) (Nat.le_of_ble_eq_true h80.2.1) h_19
          subst e1
          subst e2
          exact fin _ _ (va_runI (b := B + q) (As := as.map (ezq_d ρ B xa)) ⟨hx, hb, hml, hown, hts⟩ hM ⟨callB_of b hts (ezq_goodIn w1) rfl rfl rfl (hts _ w2) (hts _ (ezq_wi_in b1 rfl)) ⟨w3.1, w3.2, w4⟩ (hroom mL (Nat.le_of_ble_eq_true h80.2.2)), b3, hts _ (ezq_wi_in b2 rfl)⟩ ⟨hblind _, fun U hU hW => ⟨rfl, by rw [hU]; exact hH, hK.warm hW⟩⟩ rfl (by rw [List.length_map]; exact hlen) hl.1 (by rw [List.map_append, List.map_reverse]; rfl) (lv_room (by rw [ezq_sumcat]; exact Nat.le_of_ble_eq_true h80.1)) hdg ⟨by omega, by omega⟩)
        · exact absurd h_18 hbot
      | 2, h_20, hlk => cases hlk
      | 3, h_21, hlk => cases hlk
      | 4, h_22, hlk =>
        replace hlk : (ezq_isM ezq_M4 r.2.2.1 k0 a b 4 && ezq_caps a dd x) = true := hlk
        rw [Bool.and_eq_true] at hlk
        obtain ⟨pl, pc', pi, pn, ps, hA, hBB⟩ := ezq_isM_ok ezq_M4A ezq_M4B hlk.1
        obtain ⟨e1, e2⟩ := ezq_caps_ok hr hlk.2
        obtain ⟨w1, w2, w3, w4, w5, w6⟩ := ezq_moA_ok hr hA
        simp only [ezq_moB, hr, Bool.and_eq_true, decide_eq_true_eq] at hBB
        obtain ⟨b1, b2, b3, rfl⟩ := hBB
        obtain ⟨pp, rest, rfl, h_23⟩ := ezq_p1_ok hbot h_22
        rcases pp with _ | q | i
        · exact absurd h_23 hbot
        · obtain ⟨h80, h_24⟩ := ezq_bif_ok hbot h_23
          simp only [Bool.and_eq_true] at h80
          intro lsA H locs hl hH hL
          obtain ⟨k2, hM, fin⟩ := tail (H := H) e1 e2 w5 w6 hl hL (Nat.le_of_ble_eq_true h80.1) (Nat.le_of_ble_eq_true h80.2.1) h_24
          subst e1
          subst e2
          exact fin _ _ (va_runIN (host := "ElmKite") (b := B + q) (As := as.map (ezq_d ρ B xa)) ⟨hx, hb, hml, hown, hts⟩ hM ⟨va_cnB b hts (ezq_goodIn w1) rfl rfl rfl (hK.2.2.1 _ (ezq_wi_tbl b1) rfl) (hts _ w2) ⟨w3.1, w3.2, w4⟩ (hroom mL (Nat.le_of_ble_eq_true h80.2.2)), b3, hts _ (ezq_wi_in b2 rfl)⟩ ⟨hblind _, fun U hU hW => ⟨rfl, by rw [hU]; exact hH, hK.warm hW⟩⟩ rfl (by rw [List.length_map]; exact hlen) hl.1 (by rw [List.map_append, List.map_reverse]; rfl) (lv_room (by rw [ezq_sumcat]; exact Nat.le_of_ble_eq_true h80.1)) hdg ⟨by omega, by omega⟩)
        · exact absurd h_23 hbot
      | j + 5, h_25, hlk => exact absurd h_25 hbot
    · replace hi : i = .invokestatic k0 := hi
      subst hi
      replace hlk : (Nat.beq n0 3 && (match (generalizing := false) kd with
        | 2 => ezq_isM ezq_M2 r.2.2.1 k0 a b 2 && ezq_caps a dd x
        | 3 => ezq_isM ezq_M3 r.2.2.1 k0 a b 3 && ezq_caps a dd x
        | 7 => ezq_MX.any (fun q => Nat.beq q.1 r.2.2.1 && (Nat.beq q.2.1 k0 && Nat.beq q.2.2.1 a))
        | 9 => true
        | _ => false)) = true := hlk
      rw [Bool.and_eq_true] at hlk
      obtain ⟨hn, hlk⟩ := hlk
      obtain rfl := Nat.eq_of_beq_eq_true hn
      match kd, h_3, hlk with
      | 0, h_26, hlk => cases hlk
      | 1, h_27, hlk => cases hlk
      | 2, h_28, hlk =>
        replace hlk : (ezq_isM ezq_M2 r.2.2.1 k0 a b 2 && ezq_caps a dd x) = true := hlk
        rw [Bool.and_eq_true] at hlk
        obtain ⟨pl, pc', pi, pn, ps, hA, hBB⟩ := ezq_isM_ok ezq_M2A ezq_M2B hlk.1
        obtain ⟨e1, e2⟩ := ezq_caps_ok hr hlk.2
        obtain ⟨w1, w2, w3, w4, w5, w6⟩ := ezq_moA_ok hr hA
        simp only [ezq_moB, hr, Bool.and_eq_true] at hBB
        obtain ⟨h80, h_29⟩ := ezq_bif_ok hbot h_28
        simp only [Bool.and_eq_true] at h80
        intro lsA H locs hl hH hL
        obtain ⟨k2, hM, fin⟩ := tail (H := H) e1 e2 w5 w6 hl hL (Nat.le_of_ble_eq_true h80.1) (Nat.le_of_ble_eq_true h80.2.1) h_29
        subst e1
        subst e2
        exact fin _ _ (va_runS (As := as.map (ezq_d ρ B xa)) ⟨hx, hb, hml, hown, hts⟩ hM ⟨callB_of b hts (ezq_goodIn w1) rfl rfl rfl (hts _ w2) (hts _ (ezq_wi_in hBB.1 rfl)) ⟨w3.1, w3.2, w4⟩ (hroom mL (Nat.le_of_ble_eq_true h80.2.2)), hts _ (ezq_wi_in hBB.2 rfl)⟩ ⟨hblind _, fun U hU hW => ⟨rfl, by rw [hU]; exact hH, hK.warm hW⟩⟩ rfl (by rw [List.length_map]; exact hlen) hl.1 (by rw [List.map_append, List.map_reverse]) (lv_room (by rw [ezq_sumcat]; exact Nat.le_of_ble_eq_true h80.1)) hdg ⟨by omega, by omega⟩)
      | 3, h_30, hlk =>
        replace hlk : (ezq_isM ezq_M3 r.2.2.1 k0 a b 3 && ezq_caps a dd x) = true := hlk
        rw [Bool.and_eq_true] at hlk
        obtain ⟨pl, pc', pi, pn, ps, hA, hBB⟩ := ezq_isM_ok ezq_M3A ezq_M3B hlk.1
        obtain ⟨e1, e2⟩ := ezq_caps_ok hr hlk.2
        obtain ⟨w1, w2, w3, w4, w5, w6⟩ := ezq_moA_ok hr hA
        simp only [ezq_moB, hr, Bool.and_eq_true] at hBB
        obtain ⟨h80, h_31⟩ := ezq_bif_ok hbot h_30
        simp only [Bool.and_eq_true] at h80
        intro lsA H locs hl hH hL
        obtain ⟨k2, hM, fin⟩ := tail (H := H) e1 e2 w5 w6 hl hL (Nat.le_of_ble_eq_true h80.1) (Nat.le_of_ble_eq_true h80.2.1) h_31
        subst e1
        subst e2
        exact fin _ _ (va_runSN (host := "ElmKite") (As := as.map (ezq_d ρ B xa)) ⟨hx, hb, hml, hown, hts⟩ hM ⟨va_cnB b hts (ezq_goodIn w1) rfl rfl rfl (hK.2.2.1 _ (ezq_wi_tbl hBB.1) rfl) (hts _ w2) ⟨w3.1, w3.2, w4⟩ (hroom mL (Nat.le_of_ble_eq_true h80.2.2)), hts _ (ezq_wi_in hBB.2 rfl), trivial⟩ ⟨hblind _, fun U hU hW => ⟨rfl, by rw [hU]; exact hH, hK.warm hW⟩⟩ rfl (by rw [List.length_map]; exact hlen) hl.1 (by rw [List.map_append, List.map_reverse]) (lv_room (by rw [ezq_sumcat]; exact Nat.le_of_ble_eq_true h80.1)) hdg ⟨by omega, by omega⟩)
      | 4, h_32, hlk => cases hlk
      | j + 5, h_33, hlk => exact absurd h_33 hbot
theorem ezq_swl_ok (hfk : ∀ c a b, T (fk c a b) → (c ρ = true → T a) ∧ (c ρ = false → T b)) {y : ezq_I} {tg : ezq_G → Int → Ω} {dfk : ezq_G → Ω} {df : Int} : ∀ {ps : List (Int × Int)} {Γ : ezq_G}, ps.all (fun q => decide ((Int32.ofInt q.1).toInt = q.1)) = true → ezq_okG ρ Γ → T (ezq_swl fk y tg dfk ps Γ) →
    ∃ Γ', ezq_okG ρ Γ' ∧ ((∃ o, Op.lookupswitch.offset ps df (ezq_dI ρ y).toInt = o ∧ T (tg Γ' o)) ∨ (Op.lookupswitch.offset ps df (ezq_dI ρ y).toInt = df ∧ T (dfk Γ'))) := by
  intro ps
  induction ps with
  | nil => intro Γ _ hG h; exact ⟨Γ, hG, Or.inr ⟨rfl, h⟩⟩
  | cons q r ih =>
    intro Γ hps hG h
    obtain ⟨a, o⟩ := q
    rw [List.all_cons, Bool.and_eq_true, decide_eq_true_eq] at hps
    have h : T (ezq_cmp fk Γ .eq y (ezq_k (Int32.ofInt a)) (fun Γ => tg Γ o) (ezq_swl fk y tg dfk r)) := h
    have hb := ezq_cmp_ok hfk hG h
    rw [ezq_dk] at hb
    rw [Op.lookupswitch.offset_cons]
    by_cases e : a = (ezq_dI ρ y).toInt
    · rw [if_pos e]
      have e2 : ezq_dI ρ y = Int32.ofInt a := Int32.toInt_inj.mp (by rw [← e]; exact hps.1.symm)
      obtain ⟨Γ', h1, h2⟩ := hb.1 (by rw [e2]; exact Nat.beq_refl _)
      exact ⟨Γ', h1, Or.inl ⟨o, rfl, h2⟩⟩
    · rw [if_neg e]
      obtain ⟨Γ', h1, h2⟩ := hb.2 (by
        show Nat.beq _ _ = false
        rw [ezq_beq, decide_eq_false]
        intro q
        have := ezq_off_eq.mp q
        rw [this] at e
        exact e hps.1.symm)
      exact ih hps.2 h1 h2
set_option maxHeartbeats 4000000 in
/-- A RUN IS RIGHT: of any number of steps -/
theorem ezq_run_ok (hbot : ¬ T bot) (hfk : ∀ c a b, T (fk c a b) → (c ρ = true → T a) ∧ (c ρ = false → T b)) (hhk : ∀ n, (∀ Hr : Heap, ezq_Ru bot fk hk T l ρ B xa Hb D cA Hr n) → ∀ Hr : Heap, ezq_HkOk bot fk hk T l ρ B xa Hb D cA Hr n) (n : Nat) : ∀ Hr : Heap, ezq_Ru bot fk hk T l ρ B xa Hb D cA Hr n := by
  induction n with
  | zero =>
    intro Hr d Γ r pc ls st sz t cl sl sp ks k h
    exact absurd h hbot
  | succ n ih0 =>
    intro Hr d Γ r pc ls st sz t cl sl sp ks k h hG hGood p e R s m args below meth c Q hAct hex hst
    have ih := ih0 Hr
    cases hf : r.1 pc with
    | none =>
      have h : T (match r.1 pc with
        | none => bot
        | some e => _) := h
      rw [hf] at h
      exact absurd h hbot
    | some ee =>
      have h : T (match r.1 pc with
        | none => bot
        | some e => _) := h
      rw [hf] at h
      obtain ⟨hdg, hlk⟩ := hGood pc ee hf
      have go : ∀ {Γ' : ezq_G} {pc' : Nat} {ls' : ezq_S} {st' : List ezq_V} {sz' : Nat} {t' : ezq_T 7} {cl' sl' : Nat}, ezq_okG ρ Γ' → T (ezq_fn pc' fun q => bif Nat.beq q sp then ks Γ' ls' st' sz' t' cl' sl' else ezq_id (ezq_run bot fk hk n d Γ' r q ls' st' sz' t' cl' sl' sp ks k)) → ezq_Wd p l e R s m args below meth c Q ρ B xa Hb D cA Hr r.2.2.2.2.1 pc' ls' st' sz' t' cl' sl' := by
        intro Γ' pc' ls' st' sz' t' cl' sl' hG' h1
        rw [ezq_fn_eq] at h1
        cases hb : Nat.beq pc' sp
        · rw [hb] at h1
          exact ih d Γ' r pc' ls' st' sz' t' cl' sl' sp ks k h1 hG' hGood p e R s m args below meth c Q hAct hex hst
        · rw [hb] at h1
          rw [Nat.eq_of_beq_eq_true hb]
          exact hst Γ' ls' st' sz' t' cl' sl' hG' h1
      refine ezq_step_ok hbot hAct hG hdg hlk h (fun pc' ls' st' h1 => go hG h1) (fun pc' st' sz' t' cl' sl' h1 => ?_) (fun cc x y p1 p2 st' h1 => ?_) (fun ps df y st' hps h1 => ?_) (fun h1 hinv => ezq_call_ok hbot ih (hhk n ih0 Hr) h1 hG hGood hAct hex hst hdg hlk hinv) (fun v h1 hv hri hn1 => ?_)
      · rw [ezq_fn_eq] at h1
        exact ih d Γ r pc' ls st' sz' t' cl' sl' sp ks k h1 hG hGood p e R s m args below meth c Q hAct hex hst
      · have hb := ezq_cmp_ok hfk hG h1
        refine ⟨fun q => ?_, fun q => ?_⟩
        · obtain ⟨Γ', g1, g2⟩ := hb.1 q
          exact go g1 g2
        · obtain ⟨Γ', g1, g2⟩ := hb.2 q
          exact go g1 g2
      · obtain ⟨Γ', g1, g2⟩ := ezq_swl_ok hfk (df := df) hps hG h1
        have fin : ∀ {o : Int}, T (bif decide ((pc : Int) + o < 0) then bot else ezq_fn ((pc : Int) + o).toNat fun q => ezq_id (ezq_run bot fk hk n d Γ' r q ls st' sz t cl sl sp ks k)) → ∃ tgt : Nat, (pc : Int) + o = (tgt : Int) ∧ ezq_Wd p l e R s m args below meth c Q ρ B xa Hb D cA Hr r.2.2.2.2.1 tgt ls st' sz t cl sl := by
          intro o h2
          obtain ⟨h3, h2⟩ := ezq_bifN_ok hbot h2
          have h3 := of_decide_eq_false h3
          rw [ezq_fn_eq] at h2
          exact ⟨((pc : Int) + o).toNat, by omega, ih d Γ' r _ ls st' sz t cl sl sp ks k h2 g1 hGood p e R s m args below meth c Q hAct hex hst⟩
        rcases g2 with ⟨o, h2, h3⟩ | ⟨h2, h3⟩
        · rw [h2]
          exact fin h3
        · rw [h2]
          exact fin h3
      · obtain ⟨h2, h1⟩ := ezq_bif_ok hbot h1
        simp only [Bool.and_eq_true] at h2
        intro lsA H locs hl hH hL
        rw [hv]
        refine hex Γ v sz t cl sl pc lsA H locs hG h1 h2.1 (Nat.le_of_ble_eq_true h2.2.1) (Nat.le_of_ble_eq_true h2.2.2) hH hL ?_
        rw [hdg, hn1]
        rcases hri with ⟨rfl, e1⟩ | ⟨a, rfl, e1⟩ | ⟨a, rfl, e1⟩ <;> rw [e1] <;> rfl
end KRm
