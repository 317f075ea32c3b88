/-! ===== hooks: a call that is known by its contract ===== -/
/-- cells out of a window: 14 stands for 'whatever it is' -/
noncomputable def ezq_fzw {Ω : Type} (ci : Nat) (n : Nat) : ezq_T n → Nat → Nat → Nat → (ezq_T n → Ω) → Ω :=
  Nat.rec (motive := fun n => ezq_T n → Nat → Nat → Nat → (ezq_T n → Ω) → Ω) (fun x o lo hi k => bif Nat.ble lo o && Nat.blt o hi then k x else k (.inl (ci, [])))
    (fun n ih t o lo hi k => match t with
      | (a, b) => ezq_fn (o + 2 ^ n) fun o' => ih a o lo hi fun a' => ih b o' lo hi fun b' => k (a', b')) n
noncomputable def ezq_fzt (ci : Nat) (n : Nat) : ezq_T n → Nat → Nat → Nat → ezq_T n :=
  Nat.rec (motive := fun n => ezq_T n → Nat → Nat → Nat → ezq_T n) (fun x o lo hi => bif Nat.ble lo o && Nat.blt o hi then x else .inl (ci, [])) (fun n ih t o lo hi => (ih t.1 o lo hi, ih t.2 (o + 2 ^ n) lo hi)) n
theorem ezq_fzw_eq {Ω : Type} (ci n : Nat) : ∀ (t : ezq_T n) (o lo hi : Nat) (k : ezq_T n → Ω), ezq_fzw ci n t o lo hi k = k (ezq_fzt ci n t o lo hi) := by
  induction n with
  | zero =>
    intro t o lo hi k
    show (bif Nat.ble lo o && Nat.blt o hi then k t else k (.inl (ci, []))) = k (bif Nat.ble lo o && Nat.blt o hi then t else .inl (ci, []))
    cases (Nat.ble lo o && Nat.blt o hi) <;> rfl
  | succ n ih =>
    intro t o lo hi k
    obtain ⟨a, b⟩ := t
    show (ezq_fn (o + 2 ^ n) fun o' => ezq_fzw ci n a o lo hi fun a' => ezq_fzw ci n b o' lo hi fun b' => k (a', b')) = k (ezq_fzt ci n a o lo hi, ezq_fzt ci n b (o + 2 ^ n) lo hi)
    rw [ezq_fn_eq]
    exact (ih a o lo hi (fun a' => ezq_fzw ci n b (o + 2 ^ n) lo hi fun b' => k (a', b'))).trans (ih b (o + 2 ^ n) lo hi (fun b' => k (ezq_fzt ci n a o lo hi, b')))
theorem ezq_fzt_tg (ci n : Nat) : ∀ (t : ezq_T n) (o lo hi i : Nat), i < 2 ^ n → ezq_tg n (ezq_fzt ci n t o lo hi) i = bif Nat.ble lo (o + i) && Nat.blt (o + i) hi then ezq_tg n t i else .inl (ci, []) := by
  induction n with
  | zero =>
    intro t o lo hi i hi'
    obtain rfl : i = 0 := by rw [Nat.pow_zero] at hi'; omega
    rfl
  | succ n ih =>
    intro t o lo hi i hi'
    obtain ⟨a, b⟩ := t
    have hp : 2 ^ (n + 1) = 2 ^ n + 2 ^ n := by rw [Nat.pow_succ]; omega
    show (bif Nat.ble (2 ^ n) i then ezq_tg n (ezq_fzt ci n b (o + 2 ^ n) lo hi) (i - 2 ^ n) else ezq_tg n (ezq_fzt ci n a o lo hi) i) = bif Nat.ble lo (o + i) && Nat.blt (o + i) hi then (bif Nat.ble (2 ^ n) i then ezq_tg n b (i - 2 ^ n) else ezq_tg n a i) else .inl (ci, [])
    cases hb : Nat.ble (2 ^ n) i
    · have h1 := ezq_bleF hb
      exact ih a o lo hi i h1
    · have h1 := Nat.le_of_ble_eq_true hb
      have e := ih b (o + 2 ^ n) lo hi (i - 2 ^ n) (by omega)
      rw [show o + 2 ^ n + (i - 2 ^ n) = o + i by omega] at e
      exact e
def ezh_veq (v w : ezq_V) : Bool := match v with
  | .inl (.inl a) => match w with
    | .inl (.inl b) => Nat.beq a b
    | _ => false
  | .inr (.inl (.inl a)) => match w with
    | .inr (.inl (.inl b)) => Nat.beq a b
    | _ => false
  | .inr (.inr (some (.inl a))) => match w with
    | .inr (.inr (some (.inl b))) => Nat.beq a b
    | _ => false
  | _ => false
theorem ezh_veq_ok {v w : ezq_V} (h : ezh_veq v w = true) : v = w := by
  unfold ezh_veq at h
  split at h
  · split at h
    · rw [Nat.eq_of_beq_eq_true h]
    · cases h
  · split at h
    · rw [Nat.eq_of_beq_eq_true h]
    · cases h
  · split at h
    · rw [Nat.eq_of_beq_eq_true h]
    · cases h
  · cases h
def ezh_veqs (a b : List ezq_V) : Bool := match a with
  | [] => match b with
    | [] => true
    | _ => false
  | v :: r => match b with
    | w :: s => ezh_veq v w && ezh_veqs r s
    | _ => false
theorem ezh_veqs_ok (a : List ezq_V) : ∀ b, ezh_veqs a b = true → a = b := by
  induction a with
  | nil =>
    intro b h
    cases b with
    | nil => rfl
    | cons w s => cases h
  | cons v r ih =>
    intro b h
    cases b with
    | nil => cases h
    | cons w s =>
      have h : (ezh_veq v w && ezh_veqs r s) = true := h
      rw [Bool.and_eq_true] at h
      rw [ezh_veq_ok h.1, ih s h.2]
noncomputable def ezh_all (n : Nat) (p : Nat → Bool) : Bool := Nat.rec (motive := fun _ => Bool) true (fun m ih => p m && ih) n
theorem ezh_all_ok {p : Nat → Bool} (n : Nat) : ezh_all n p = true → ∀ j, j < n → p j = true := by
  induction n with
  | zero => intro h j hj; omega
  | succ n ih =>
    intro h j hj
    have h : (p n && ezh_all n p) = true := h
    rw [Bool.and_eq_true] at h
    by_cases e : j = n
    · rw [e]
      exact h.1
    · exact ih h.2 j (by omega)
noncomputable def ezh_ceq (c c' : ezq_C) : Bool := match c with
  | .inl (ci, fs) => match c' with
    | .inl (ci', fs') => Nat.beq ci ci' && ezh_veqs fs fs'
    | _ => false
  | .inr (ty, n, f) => match c' with
    | .inr (ty', n', f') => (Nat.beq ty ty' && Nat.beq n n') && ezh_all n (fun j => ezh_veq (f j) (f' j))
    | _ => false
theorem ezh_arrV {cI : ClassId} {n : Nat} {f f' : Nat → Value} (h : ∀ j, j < n → f j = f' j) : arrV cI n f = arrV cI n f' := by
  unfold arrV
  congr 1
  congr 1
  funext j
  exact h j.val j.isLt
section KH
variable {l : Launch} {ρ : ezq_E} {B : Nat} {xa : Nat → Option Nat} {Hb : Heap} {D : va_G} {cA : Nat → ClassId}
theorem ezh_ceq_ok {Hr H : Heap} {q : Nat} {c c' : ezq_C} (h : ezh_ceq c c' = true) (ha : ezq_at ρ B xa D cA Hr q c H) : ezq_at ρ B xa D cA Hr q c' H := by
  rcases c with ⟨ci, fs⟩ | ⟨ty, n, f⟩
  · rcases c' with ⟨ci', fs'⟩ | z
    · have h : (Nat.beq ci ci' && ezh_veqs fs fs') = true := h
      rw [Bool.and_eq_true] at h
      rw [← Nat.eq_of_beq_eq_true h.1, ← ezh_veqs_ok _ _ h.2]
      exact ha
    · cases h
  · rcases c' with z | ⟨ty', n', f'⟩
    · cases h
    · have h : ((Nat.beq ty ty' && Nat.beq n n') && ezh_all n (fun j => ezh_veq (f j) (f' j))) = true := h
      rw [Bool.and_eq_true, Bool.and_eq_true] at h
      obtain ⟨⟨h1, h2⟩, h3⟩ := h
      obtain rfl := Nat.eq_of_beq_eq_true h1
      obtain rfl := Nat.eq_of_beq_eq_true h2
      obtain ⟨a1, a2, a3⟩ := ha
      refine ⟨a1, a2, ?_⟩
      rw [a3]
      exact congrArg some (ezh_arrV fun j hj => by rw [ezh_veq_ok (ezh_all_ok n h3 j hj)])
noncomputable def ezh_cks (sp : List (Nat × ezq_C)) (t : ezq_T 7) : Bool := sp.all fun p => ezh_ceq (ezq_tg 7 t p.1) p.2
noncomputable def ezh_g (sp : List (Nat × ezq_C)) (t : ezq_T 7) : Nat → ezq_C := fun q => match sp.find? (fun p => Nat.beq p.1 q) with
  | some p => p.2
  | none => ezq_tg 7 t q
theorem ezh_HR {Hr H : Heap} {sp : List (Nat × ezq_C)} {t : ezq_T 7} (hc : ezh_cks sp t = true) (h : ezq_HR ρ B xa Hb D cA Hr 96 t H) : ezq_HR ρ B xa Hb D cA Hr 96 (ezw_T 7 (ezh_g sp t) 0) H := by
  obtain ⟨h1, h2, h3, h4⟩ := h
  refine ⟨h1, h2, fun k hk => ?_, h4⟩
  rw [ezw_Tg 7 _ 0 k (by omega), Nat.zero_add]
  unfold ezh_g
  cases hf : sp.find? (fun p => Nat.beq p.1 k) with
  | none => exact h3 k hk
  | some p =>
    have e0 : Nat.beq p.1 k = true := List.find?_some (p := fun x : Nat × ezq_C => Nat.beq x.1 k) hf
    have e1 := Nat.eq_of_beq_eq_true e0
    have e2 := List.all_eq_true.mp hc p (List.mem_of_find?_eq_some hf)
    rw [e1] at e2
    exact ezh_ceq_ok e2 (h3 k hk)
/-- the arguments: an object of ours, then symbols -/
def ezh_mk (q : Nat) (lg : Bool) (ks : List Nat) : List ezq_V := (.inr (.inr (some (.inl q)))) :: ks.map fun k => bif lg then .inr (.inl (.inr (.inl k))) else .inl (.inr (.inl k))
def ezh_sym1 (lg : Bool) (v : ezq_V) (k : Nat) : Bool := match v with
  | .inl (.inr (.inl j)) => !lg && Nat.beq j k
  | .inr (.inl (.inr (.inl j))) => lg && Nat.beq j k
  | _ => false
def ezh_syms (lg : Bool) (vs : List ezq_V) (ks : List Nat) : Bool := match vs with
  | [] => match ks with
    | [] => true
    | _ => false
  | v :: r => match ks with
    | k :: s => ezh_sym1 lg v k && ezh_syms lg r s
    | _ => false
def ezh_as (q : Nat) (lg : Bool) (ks : List Nat) (as : List ezq_V) : Bool := match as with
  | .inr (.inr (some (.inl p))) :: r => Nat.beq p q && ezh_syms lg r ks
  | _ => false
theorem ezh_syms_ok (lg : Bool) (vs : List ezq_V) : ∀ ks, ezh_syms lg vs ks = true → vs = ks.map fun k => bif lg then .inr (.inl (.inr (.inl k))) else .inl (.inr (.inl k)) := by
  induction vs with
  | nil =>
    intro ks h
    cases ks with
    | nil => rfl
    | cons k s => cases h
  | cons v r ih =>
    intro ks h
    cases ks with
    | nil => cases h
    | cons k s =>
      have h : (ezh_sym1 lg v k && ezh_syms lg r s) = true := h
      rw [Bool.and_eq_true] at h
      rw [List.map_cons, ← ih s h.2]
      congr 1
      have h1 := h.1
      unfold ezh_sym1 at h1
      split at h1
      · rw [Bool.and_eq_true] at h1
        cases lg
        · rw [Nat.eq_of_beq_eq_true h1.2]
          rfl
        · cases h1.1
      · rw [Bool.and_eq_true] at h1
        cases lg
        · cases h1.1
        · rw [Nat.eq_of_beq_eq_true h1.2]
          rfl
      · cases h1
theorem ezh_as_ok {q : Nat} {lg : Bool} {ks : List Nat} {as : List ezq_V} (h : ezh_as q lg ks as = true) : as = ezh_mk q lg ks := by
  unfold ezh_as at h
  split at h
  · rw [Bool.and_eq_true] at h
    rw [Nat.eq_of_beq_eq_true h.1, ezh_syms_ok lg _ ks h.2]
    rfl
  · cases h
/-- the same arguments as ints of Lean -/
def ezh_mkd (ρ : ezq_E) (q : Nat) (lg : Bool) (ks : List Nat) : List ezq_V := ezw_p q :: ks.map fun k => bif lg then ezw_l (ezq_ls ρ k).toInt else ezw_i (ρ k).toInt
theorem ezh_mk_d {q : Nat} {lg : Bool} {ks : List Nat} : (ezh_mkd ρ q lg ks).map (ezq_d ρ B xa) = (ezh_mk q lg ks).map (ezq_d ρ B xa) := by
  unfold ezh_mkd ezh_mk
  rw [List.map_cons, List.map_cons, List.map_map, List.map_map]
  congr 1
  congr 1
  funext k
  cases lg
  · show Value.int (Int32.ofNat (ezw_z (ρ k).toInt)) = Value.int (ρ k)
    rw [ezw_zof, Int32.ofInt_toInt]
  · show Value.long (Int64.ofNat (ezw_zl (ezq_ls ρ k).toInt)) = Value.long (ezq_ls ρ k)
    rw [ezw_zlof, Int64.ofInt_toInt]
theorem ezh_catc (v : ezq_V) (r : List ezq_V) : ezq_cat (v :: r) = (bif ezq_c2 v then 2 else 1) + ezq_cat r := rfl
theorem ezh_mk_cat {q : Nat} {lg : Bool} {ks : List Nat} : ezq_cat (ezh_mkd ρ q lg ks) = ezq_cat (ezh_mk q lg ks) := by
  have gen : ∀ ks : List Nat, ezq_cat (ks.map fun k => bif lg then ezw_l (ezq_ls ρ k).toInt else ezw_i (ρ k).toInt) = ezq_cat (ks.map fun k => bif lg then (.inr (.inl (.inr (.inl k))) : ezq_V) else .inl (.inr (.inl k))) := by
    intro ks
    induction ks with
    | nil => rfl
    | cons k r ih =>
      rw [List.map_cons, List.map_cons]
      rw [ezh_catc, ezh_catc, ih]
      cases lg <;> rfl
  exact congrArg (fun n => 1 + n) (gen ks)
noncomputable def ezh_hk (q : Nat) (lg : Bool) (ks : List Nat) (sp : List (Nat × ezq_C)) (s lo2 hi2 : Nat) : ezq_HT Bool := fun _ _ d Γ as sz t K =>
  ((Nat.beq sz 96 && Nat.ble 6 d) && (ezh_as q lg ks as && ezh_cks sp t)) && (ezq_fzw 14 7 t 0 lo2 hi2 fun t2 => K Γ (some (.inl (.inr (.inl s)))) sz t2)
theorem ezh_metpre {y : MethodName} {ws : List Jvm.Cond} {rm : Room} {Pc Pc2 : Array Value → State → Prop} {Qc Qc2 : Array Value → State → Outcome → State → Prop} {mc ms : Nat} {free : Addr → Prop} (hM : Met l y ws rm Pc Qc mc ms free) (hp : ∀ a s, Pc2 a s → Pc a s) (hq : ∀ a s o t, Qc a s o t → Qc2 a s o t) : Met l y ws rm Pc2 Qc2 mc ms free := by
  intro p e h1 h2 h3 s m args below h4 h5 h6 h7
  obtain ⟨n, o, a1, a2, a3, a4⟩ := hM p e h1 h2 h3 s m args below h4 h5 (hp _ _ h6) h7
  exact ⟨n, o, a1, a2, a3, hq _ _ _ _ a4.1, a4.2⟩
theorem ezh_use {q : Nat} {lg : Bool} {ks : List Nat} {sp : List (Nat × ezq_C)} {s lo2 hi2 : Nat} {ih : ezq_RT Bool} {Hr : Heap} {a d : Nat} {Γ : ezq_G} {as : List ezq_V} {sz : Nat} {t : ezq_T 7} {K : ezq_KK Bool} {fn : Nat → Option ezq_Y} {pb o2 : Nat} {y : MethodName} {mL : Nat} {ret : Option FieldType} {mc ms : Nat}
    (hr : ezq_sel a = (fn, pb, o2, y, mL, ret, mc, ms)) (h : ezh_hk q lg ks sp s lo2 hi2 ih a d Γ as sz t K = true) (hG : ezq_okG ρ Γ) (hplain : plainName y.cls = true) (hcls : y.cls = ezq_cn o2) (hcat : ezq_cat as ≤ mL)
    {P : Option ezq_V → (Nat → ezq_C) → Prop} (hC : 6 ≤ d → ezw_C l ρ B xa Hb D cA a d (ezh_mkd ρ q lg ks) (ezh_g sp t) P)
    (hP : ∀ v g', P v g' → (∃ i, some (ezw_i i) = v ∧ Int32.ofInt i = ρ s) ∧ ∀ p, lo2 ≤ p → p < hi2 → g' p = ezh_g sp t p) (hsp : ∀ p, lo2 ≤ p → p < hi2 → p < 96 → sp.find? (fun x => Nat.beq x.1 p) = none) :
    Met l y (.code y (ezq_byt pb) mL ret :: ezq_T0) ({ frames := 1 + d, cells := mc, slots := ms, locals := 40 + d * 100 }) (va_Pc (as.map (ezq_d ρ B xa)) (fun U => ezq_HR ρ B xa Hb D cA Hr sz t U.heap ∧ ezq_K ρ B xa Hb D cA U)) (ezq_Qc (fun b : Bool => b = true) ρ B xa Hb D cA Hr K) mc ms (ezq_no B) := by
  unfold ezh_hk at h
  rw [Bool.and_eq_true, Bool.and_eq_true, Bool.and_eq_true, Bool.and_eq_true, ezq_fzw_eq] at h
  obtain ⟨⟨⟨h1, h2⟩, h3, h4⟩, h5⟩ := h
  obtain rfl := Nat.eq_of_beq_eq_true h1
  obtain rfl := ezh_as_ok h3
  obtain ⟨v0, g0, hP0, hM⟩ := hC (Nat.le_of_ble_eq_true h2)
  obtain ⟨⟨i, hv, hi⟩, hw⟩ := hP v0 g0 hP0
  subst hv
  have hM2 := hM Hr fn pb o2 y mL ret mc ms hr hplain hcls (by rw [ezh_mk_cat]; exact hcat)
  rw [ezh_mk_d] at hM2
  refine ezh_metpre hM2 (fun ar U hp => ⟨hp.1, ezh_HR h4 hp.2.1, hp.2.2⟩) ?_
  rintro ar U o t2 ⟨Γ', v, sz', t', -, ⟨h6, g1, h7, ⟨e1, e2⟩⟩, h8, h9⟩
  subst h6
  subst h7
  subst e1
  subst e2
  refine ⟨Γ, _, 96, _, hG, h5, ?_, ?_⟩
  · rw [h8]
    show Outcome.returned (some (Value.int (Int32.ofNat (ezw_z i)))) = Outcome.returned (some (Value.int (ρ s)))
    rw [ezw_zof, hi]
  · obtain ⟨q1, q2, q3, q4⟩ := h9
    refine ⟨q1, q2, fun k hk => ?_, q4⟩
    rw [ezq_fzt_tg 14 7 t 0 lo2 hi2 k (by omega)]
    cases hwin : (Nat.ble lo2 (0 + k) && Nat.blt (0 + k) hi2)
    · exact Or.inr ⟨by omega, fun e => absurd e (by omega)⟩
    · rw [Bool.and_eq_true, Nat.zero_add] at hwin
      have w1 := Nat.le_of_ble_eq_true hwin.1
      have w2 := ezq_bltT hwin.2
      have h10 := q3 k hk
      rw [ezw_Tg 7 _ 0 k (by omega), Nat.zero_add, hw k w1 w2] at h10
      unfold ezh_g at h10
      rw [hsp k w1 w2 hk] at h10
      exact h10
/-! what stands at the start, by what each call looks at -/
def ezh_z : Nat → Int := fun _ => 0
def ezh_0 : Int → Int := fun _ => 0
def ezh_now : Nat → Int := fun k => if k = 2 then 12 else if k = 4 then 1 else if k = 5 then 9 else 0
def ezh_tr : Int → Int := fun k => if k = 5 then 9 else if k = 13 then 10 else if k = 14 then 5 else if k = 15 then -1 else if k = 16 then -1 else 0
def ezh_st : Int → Int := fun k => if k = 15 then 12 else if k = 17 then 1 else if k = 18 then 9 else 0
def ezh_sX : Nat × ezq_C := (0, ezw_obj 11 ezw_rfX ezh_z)
def ezh_sT : Nat × ezq_C := (30, ezw_obj 9 (ezw_rfT 30) ezh_z)
def ezh_sN : Nat × ezq_C := (44, ezw_ca 11 ezw_first)
def ezh_sW : Nat × ezq_C := (13, ezw_obj 4 (ezw_rfN 13) ezh_now)
def ezh_sM : Nat × ezq_C := (72, ezw_obj 12 ezw_rfM ezh_z)
def ezh_sR : Nat × ezq_C := (78, ezw_ca 200 ezh_tr)
def ezh_sS : Nat × ezq_C := (88, ezw_ca 1150 ezh_st)
def ezh_x19 : List (Nat × ezq_C) := [ezh_sX, (1, ezw_obj 7 ezw_rfK ezh_z), (2, ezw_ca 1000 ezh_0)]
def ezh_x181 : List (Nat × ezq_C) := [ezh_sX, ezh_sT, (38, ezw_obj 2 (fun _ => 39) ezh_z), (39, ezw_ca 16 ezh_0), ezh_sN]
def ezh_x172 : List (Nat × ezq_C) := [ezh_sX, ezh_sW, (14, ezw_ca 4 ezh_0), (15, ezw_ca 4 ezh_0), ezh_sT, ezh_sN]
def ezh_x195 : List (Nat × ezq_C) := [ezh_sX, ezh_sW, (22, ezw_obj 1 ezw_rfD ezh_z), (23, ezw_obj 6 ezw_rfP ezh_z), (24, ezw_ca 5760 ezh_0), (26, ezw_obj 4 (ezw_rfN 26) ezh_now), ezh_sT, ezh_sN]
def ezh_m210 : List (Nat × ezq_C) := [ezh_sM, (73, ezw_ca 1000 ezh_0)]
def ezh_m319 : List (Nat × ezq_C) := [ezh_sM, ezh_sR]
def ezh_m313 : List (Nat × ezq_C) := [ezh_sM, ezh_sR, ezh_sS, (92, ezw_ca 8 ezh_0)]
def ezh_m329 : List (Nat × ezq_C) := [ezh_sM, ezh_sR, ezh_sS]
noncomputable def ezq_hB : ezq_HT Bool := fun ih a d Γ as sz t K => ezq_fn a fun a =>
  bif Nat.blt a 172 then (bif Nat.beq a 19 then ezh_hk 0 true [301, 303, 305] ezh_x19 45 72 128 ih a d Γ as sz t K else ezq_h0 false ih a d Γ as sz t K) else
  bif Nat.beq a 172 then ezh_hk 0 false [1, 2] ezh_x172 41 72 128 ih a d Γ as sz t K else
  bif Nat.beq a 181 then ezh_hk 0 false [1, 2] ezh_x181 42 72 128 ih a d Γ as sz t K else
  bif Nat.beq a 185 then ezh_hk 0 false [1] ezh_x181 43 72 128 ih a d Γ as sz t K else
  bif Nat.beq a 187 then ezh_hk 0 false [1, 2] ezh_x181 44 72 128 ih a d Γ as sz t K else
  bif Nat.beq a 195 then ezh_hk 0 false [1, 2, 3, 4] ezh_x195 46 72 128 ih a d Γ as sz t K else
  bif Nat.beq a 210 then ezh_hk 72 true [301, 303, 305] ezh_m210 45 0 72 ih a d Γ as sz t K else
  bif Nat.beq a 313 then ezh_hk 72 false [1, 2] ezh_m313 41 0 72 ih a d Γ as sz t K else
  bif Nat.beq a 319 then ezh_hk 72 false [1, 2] ezh_m319 42 0 72 ih a d Γ as sz t K else
  bif Nat.beq a 324 then ezh_hk 72 false [1] ezh_m319 43 0 72 ih a d Γ as sz t K else
  bif Nat.beq a 325 then ezh_hk 72 false [1, 2] ezh_m319 44 0 72 ih a d Γ as sz t K else
  bif Nat.beq a 329 then ezh_hk 72 false [1, 2, 3, 4] ezh_m329 46 0 72 ih a d Γ as sz t K else ezq_h0 false ih a d Γ as sz t K
/-! the values of the symbols -/
theorem ezh_in (x : Int32) : ezw_in x.toInt := ⟨Int32.le_toInt x, Int32.toInt_lt x⟩
theorem ezh_il (x : Int64) : ezw_il x.toInt := ⟨Int64.le_toInt x, Int64.toInt_lt x⟩
theorem ezh_v41 (hs : ρ 41 = ezq_val 41 ρ) : Int32.ofInt (if 0 ≤ (ρ 1).toInt ∧ (ρ 1).toInt < 4 ∧ 0 ≤ (ρ 2).toInt ∧ (ρ 2).toInt ≤ 48 then if (ρ 1).toInt = 0 then 1000000 else 0 else -1) = ρ 41 := by
  rw [hs]
  unfold ezq_val
  simp only [ezq_box, ezq_bxv, ezq_inb, List.all_cons, List.all_nil, Bool.and_true, cond_eq_ite, Bool.and_eq_true, Nat.ble_eq]
  have i1 := ezh_in (ρ 1)
  have j1 := i1.1
  have k1 := i1.2
  have i2 := ezh_in (ρ 2)
  have j2 := i2.1
  have k2 := i2.2
  unfold ezq_off
  repeat' split
  all_goals first | rfl | decide | (exfalso; omega)
theorem ezh_v42 (hs : ρ 42 = ezq_val 42 ρ) : Int32.ofInt (if 0 ≤ (ρ 1).toInt ∧ (ρ 1).toInt < 16 ∧ 0 ≤ (ρ 2).toInt ∧ (ρ 2).toInt < 16 then 15 else -1) = ρ 42 := by
  rw [hs]
  unfold ezq_val
  simp only [ezq_box, ezq_bxv, ezq_inb, List.all_cons, List.all_nil, Bool.and_true, cond_eq_ite, Bool.and_eq_true, Nat.ble_eq]
  have i1 := ezh_in (ρ 1)
  have j1 := i1.1
  have k1 := i1.2
  have i2 := ezh_in (ρ 2)
  have j2 := i2.1
  have k2 := i2.2
  unfold ezq_off
  repeat' split
  all_goals first | rfl | decide | (exfalso; omega)
theorem ezh_v43 (hs : ρ 43 = ezq_val 43 ρ) : Int32.ofInt (if -1 ≤ (ρ 1).toInt ∧ (ρ 1).toInt < 4 then 256 else -1) = ρ 43 := by
  rw [hs]
  unfold ezq_val
  simp only [ezq_box, ezq_bxv, ezq_inb, List.all_cons, List.all_nil, Bool.and_true, cond_eq_ite, Bool.and_eq_true, Nat.ble_eq]
  have i1 := ezh_in (ρ 1)
  have j1 := i1.1
  have k1 := i1.2
  unfold ezq_off
  repeat' split
  all_goals first | rfl | decide | (exfalso; omega)
theorem ezh_v44 (hs : ρ 44 = ezq_val 44 ρ) : Int32.ofInt (if 0 ≤ (ρ 1).toInt ∧ (ρ 1).toInt < 16 ∧ 0 ≤ (ρ 2).toInt ∧ (ρ 2).toInt < 16 then 0 else -1) = ρ 44 := by
  rw [hs]
  unfold ezq_val
  simp only [ezq_box, ezq_bxv, ezq_inb, List.all_cons, List.all_nil, Bool.and_true, cond_eq_ite, Bool.and_eq_true, Nat.ble_eq]
  have i1 := ezh_in (ρ 1)
  have j1 := i1.1
  have k1 := i1.2
  have i2 := ezh_in (ρ 2)
  have j2 := i2.1
  have k2 := i2.2
  unfold ezq_off
  repeat' split
  all_goals first | rfl | decide | (exfalso; omega)
theorem ezh_v46 (hs : ρ 46 = ezq_val 46 ρ) : Int32.ofInt (if 0 ≤ (ρ 1).toInt ∧ (ρ 1).toInt ≤ 9999 ∧ 1 ≤ (ρ 2).toInt ∧ (ρ 2).toInt ≤ 20 ∧ 1 ≤ (ρ 3).toInt ∧ (ρ 3).toInt ≤ 6 ∧ 0 ≤ (ρ 4).toInt ∧ (ρ 4).toInt ≤ 2 then 0 else -1) = ρ 46 := by
  rw [hs]
  unfold ezq_val
  simp only [ezq_box, ezq_bxv, ezq_inb, List.all_cons, List.all_nil, Bool.and_true, cond_eq_ite, Bool.and_eq_true, Nat.ble_eq]
  have i1 := ezh_in (ρ 1)
  have j1 := i1.1
  have k1 := i1.2
  have i2 := ezh_in (ρ 2)
  have j2 := i2.1
  have k2 := i2.2
  have i3 := ezh_in (ρ 3)
  have j3 := i3.1
  have k3 := i3.2
  have i4 := ezh_in (ρ 4)
  have j4 := i4.1
  have k4 := i4.2
  unfold ezq_off
  repeat' split
  all_goals first | rfl | decide | (exfalso; omega)
theorem ezh_fnone {sp : List (Nat × ezq_C)} {lo hi : Nat} (h : (sp.all fun x => Nat.blt x.1 lo || Nat.ble hi x.1) = true) : ∀ p, lo ≤ p → p < hi → p < 96 → sp.find? (fun x => Nat.beq x.1 p) = none := by
  intro p h1 h2 _
  rw [List.find?_eq_none]
  intro x hx
  have h3 := List.all_eq_true.mp h x hx
  rw [Bool.or_eq_true] at h3
  intro h4
  have h4 := Nat.eq_of_beq_eq_true h4
  rcases h3 with h3 | h3
  · have := ezq_bltT h3
    omega
  · have := Nat.le_of_ble_eq_true h3
    omega
theorem ezh_t0 {t : ezq_T 7} : ezw_tree0 (ezh_g ezh_x181 t) := ⟨⟨ezh_z, rfl⟩, ⟨ezh_z, rfl, rfl, rfl, rfl⟩, rfl, ⟨ezh_z, rfl⟩, ezh_0, rfl, fun _ => rfl⟩
theorem ezh_tr0 : ezw_tr0 ezh_tr := ⟨rfl, rfl, rfl, rfl, rfl, rfl, rfl⟩
theorem ezh_st0 : ezw_st0 ezh_st := ⟨rfl, rfl, rfl, rfl, rfl⟩
theorem ezh_now0 : ezw_now0 ezh_now := ⟨rfl, rfl, rfl, rfl, rfl, rfl, rfl⟩
theorem ezq_hB_ok (hs : ∀ s, 41 ≤ s → s ≤ 46 → s ≠ 45 → ρ s = ezq_val s ρ) (h45 : ρ 45 = Int32.ofInt (ezf3 (ezq_ls ρ 301).toInt (ezq_ls ρ 303).toInt (ezq_ls ρ 305).toInt 0 (fun _ => 0)).1) {an : (ezq_E → Bool) → Bool → Bool → Bool} (n : Nat) (ih : ∀ Hr : Heap, ezq_Ru false an ezq_hB (fun b : Bool => b = true) l ρ B xa Hb D cA Hr n) (Hr : Heap) : ezq_HkOk false an ezq_hB (fun b : Bool => b = true) l ρ B xa Hb D cA Hr n := by
  intro a d Γ as sz t K fn pb o2 y mL ret mc ms hr h hG hpl hcl hcat
  have hb : ¬ (false = true) := fun z => by cases z
  have h0 : ezq_h0 false (ezq_run false an ezq_hB n) a d Γ as sz t K = true → Met l y (.code y (ezq_byt pb) mL ret :: ezq_T0) ({ frames := 1 + d, cells := mc, slots := ms, locals := 40 + d * 100 }) (va_Pc (as.map (ezq_d ρ B xa)) (fun U => ezq_HR ρ B xa Hb D cA Hr sz t U.heap ∧ ezq_K ρ B xa Hb D cA U)) (ezq_Qc (fun b : Bool => b = true) ρ B xa Hb D cA Hr K) mc ms (ezq_no B) :=
    fun h => ezq_h0_met (T := fun b : Bool => b = true) hb (ih Hr) hr h hG hpl hcl hcat
  have h : ezq_hB (ezq_run false an ezq_hB n) a d Γ as sz t K = true := h
  unfold ezq_hB at h
  rw [ezq_fn_eq] at h
  have br : ∀ {c : Bool} {x y : Bool} {P : Prop}, (bif c then x else y) = true → (c = true → x = true → P) → (y = true → P) → P := by
    intro c x y P h h1 h2
    cases c
    · exact h2 h
    · exact h1 rfl h
  refine br h (fun _ h => br h (fun e h => ?_) h0) (fun h => ?_)
  · obtain rfl := Nat.eq_of_beq_eq_true e
    refine ezh_use hr h hG hpl hcl hcat (fun hd => ezc_feed (ezh_il _) (ezh_il _) (ezh_il _) (fX := ezh_z) (f := ezh_z) (a := ezh_0) rfl rfl rfl (by decide) (by decide) (by omega)) ?_ (ezh_fnone rfl)
    rintro v g' ⟨h1, f', h2, h3, h4, h5, h6⟩
    exact ⟨⟨_, h1, h45.symm⟩, fun p p1 p2 => h6 p (by omega) (by omega)⟩
  refine br h (fun e h => ?_) (fun h => ?_)
  · obtain rfl := Nat.eq_of_beq_eq_true e
    refine ezh_use hr h hG hpl hcl hcat (fun hd => ezc_waits (ezh_in _) (ezh_in _) (fX := ezh_z) (f := ezh_z) (fN := ezh_now) (c := ezh_0) (c2 := ezh_0) rfl rfl rfl rfl ezh_now0 rfl rfl (by omega)) ?_ (ezh_fnone rfl)
    rintro v g' ⟨h1, h2⟩
    exact ⟨⟨_, h1, ezh_v41 (hs 41 (by omega) (by omega) (by omega))⟩, fun p p1 p2 => h2 p (by omega) (by omega)⟩
  refine br h (fun e h => ?_) (fun h => ?_)
  · obtain rfl := Nat.eq_of_beq_eq_true e
    refine ezh_use hr h hG hpl hcl hcat (fun hd => ezc_safe (ezh_in _) (ezh_in _) ezh_t0 (by omega)) ?_ (ezh_fnone rfl)
    rintro v g' ⟨h1, h2⟩
    exact ⟨⟨_, h1, ezh_v42 (hs 42 (by omega) (by omega) (by omega))⟩, fun p p1 p2 => by rw [← h2]⟩
  refine br h (fun e h => ?_) (fun h => ?_)
  · obtain rfl := Nat.eq_of_beq_eq_true e
    refine ezh_use hr h hG hpl hcl hcat (fun hd => ezc_places (ezh_in _) ezh_t0 (by omega)) ?_ (ezh_fnone rfl)
    rintro v g' ⟨h1, h2⟩
    exact ⟨⟨_, h1, ezh_v43 (hs 43 (by omega) (by omega) (by omega))⟩, fun p p1 p2 => by rw [← h2]⟩
  refine br h (fun e h => ?_) (fun h => ?_)
  · obtain rfl := Nat.eq_of_beq_eq_true e
    refine ezh_use hr h hG hpl hcl hcat (fun hd => ezc_nearest (ezh_in _) (ezh_in _) ezh_t0 (by omega)) ?_ (ezh_fnone rfl)
    rintro v g' ⟨h1, h2⟩
    exact ⟨⟨_, h1, ezh_v44 (hs 44 (by omega) (by omega) (by omega))⟩, fun p p1 p2 => by rw [← h2]⟩
  refine br h (fun e h => ?_) (fun h => ?_)
  · obtain rfl := Nat.eq_of_beq_eq_true e
    refine ezh_use hr h hG hpl hcl hcat (fun hd => ezc_afternoons (f := ezh_z) (fN := ezh_now) (fX := ezh_z) (fD := ezh_z) (fS := ezh_now) (fP := ezh_z) (ak := ezh_0) rfl rfl rfl rfl rfl ezh_now0 rfl rfl rfl rfl (ezh_in _) (ezh_in _) (ezh_in _) (ezh_in _) (by omega)) ?_ (ezh_fnone rfl)
    rintro v g' ⟨h1, h2⟩
    exact ⟨⟨_, h1, ezh_v46 (hs 46 (by omega) (by omega) (by omega))⟩, fun p p1 p2 => h2 p (by omega) (by omega) (by omega) (by omega)⟩
  refine br h (fun e h => ?_) (fun h => ?_)
  · obtain rfl := Nat.eq_of_beq_eq_true e
    refine ezh_use hr h hG hpl hcl hcat (fun hd => ezc_feedM (ezh_il _) (ezh_il _) (ezh_il _) (f := ezh_z) (a := ezh_0) rfl rfl (by decide) (by decide) (by omega)) ?_ (ezh_fnone rfl)
    rintro v g' ⟨h1, f', h2, h3, h4, h5, h6⟩
    exact ⟨⟨_, h1, h45.symm⟩, fun p p1 p2 => h6 p (by omega) (by omega)⟩
  refine br h (fun e h => ?_) (fun h => ?_)
  · obtain rfl := Nat.eq_of_beq_eq_true e
    refine ezh_use hr h hG hpl hcl hcat (fun hd => ezc_waitsM (f := ezh_z) (tr := ezh_tr) (st := ezh_st) (c := ezh_0) rfl rfl ezh_tr0 rfl ezh_st0 rfl (ezh_in _) (ezh_in _) (by omega)) ?_ (ezh_fnone rfl)
    rintro v g' ⟨h1, h2⟩
    exact ⟨⟨_, h1, ezh_v41 (hs 41 (by omega) (by omega) (by omega))⟩, fun p p1 p2 => h2 p (by omega) (by omega)⟩
  refine br h (fun e h => ?_) (fun h => ?_)
  · obtain rfl := Nat.eq_of_beq_eq_true e
    refine ezh_use hr h hG hpl hcl hcat (fun hd => ezc_safeM (f := ezh_z) (tr := ezh_tr) rfl rfl ezh_tr0 (ezh_in _) (ezh_in _) (by omega)) ?_ (ezh_fnone rfl)
    rintro v g' ⟨h1, h2⟩
    exact ⟨⟨_, h1, ezh_v42 (hs 42 (by omega) (by omega) (by omega))⟩, fun p p1 p2 => by rw [← h2]; exact ezw_un (by omega)⟩
  refine br h (fun e h => ?_) (fun h => ?_)
  · obtain rfl := Nat.eq_of_beq_eq_true e
    refine ezh_use hr h hG hpl hcl hcat (fun hd => ezc_placesM (f := ezh_z) (tr := ezh_tr) rfl rfl ezh_tr0 (ezh_in _) (by omega)) ?_ (ezh_fnone rfl)
    rintro v g' ⟨h1, h2⟩
    exact ⟨⟨_, h1, ezh_v43 (hs 43 (by omega) (by omega) (by omega))⟩, fun p p1 p2 => by rw [← h2]; exact ezw_un (by omega)⟩
  refine br h (fun e h => ?_) (fun h => ?_)
  · obtain rfl := Nat.eq_of_beq_eq_true e
    refine ezh_use hr h hG hpl hcl hcat (fun hd => ezc_nearestM (f := ezh_z) (tr := ezh_tr) rfl rfl ezh_tr0 (ezh_in _) (ezh_in _) (by omega)) ?_ (ezh_fnone rfl)
    rintro v g' ⟨h1, h2⟩
    exact ⟨⟨_, h1, ezh_v44 (hs 44 (by omega) (by omega) (by omega))⟩, fun p p1 p2 => by rw [← h2]; exact ezw_un (by omega)⟩
  refine br h (fun e h => ?_) (fun h => ?_)
  · obtain rfl := Nat.eq_of_beq_eq_true e
    refine ezh_use hr h hG hpl hcl hcat (fun hd => ezc_afternoonsM (f := ezh_z) (tr := ezh_tr) (st := ezh_st) rfl rfl ezh_tr0 rfl ezh_st0 (ezh_in _) (ezh_in _) (ezh_in _) (ezh_in _) (by omega)) ?_ (ezh_fnone rfl)
    rintro v g' ⟨h1, h2⟩
    exact ⟨⟨_, h1, ezh_v46 (hs 46 (by omega) (by omega) (by omega))⟩, fun p p1 p2 => h2 p (by omega) (by omega)⟩
  exact h0 h
end KH
