/-! ===== calls kept in mind and calls summed up are right ===== -/
theorem ezq_nf1_ok {Ω : Type} {bot : Ω} {T : Ω → Prop} (hbot : ¬ T bot) {v : ezq_V} {k : ezq_V → Ω} (h : T (ezq_nf1 bot v k)) : T (k v) := by
  rcases v with (n | z) | (x | (_ | (q | i)))
  · have h : T (ezq_fn n fun m => k (.inl (.inl m))) := h
    rw [ezq_fn_eq] at h
    exact h
  · exact absurd h hbot
  · exact absurd h hbot
  · exact absurd h hbot
  · have h : T (ezq_fn q fun m => k (.inr (.inr (some (.inl m))))) := h
    rw [ezq_fn_eq] at h
    exact h
  · exact absurd h hbot
theorem ezq_nfs_ok {Ω : Type} {bot : Ω} {T : Ω → Prop} (hbot : ¬ T bot) (vs : List ezq_V) : ∀ {k : List ezq_V → Ω}, T (ezq_nfs bot vs k) → T (k vs) := by
  induction vs with
  | nil => intro k h; exact h
  | cons v r ih =>
    intro k h
    have h : T (ezq_nf1 bot v fun v' => ezq_nfs bot r fun r => k (v' :: r)) := h
    exact ih (k := fun r => k (v :: r)) (ezq_nf1_ok (k := fun v' => ezq_nfs bot r fun r => k (v' :: r)) hbot h)
theorem ezq_fzw_eq {Ω : Type} (ci n : Nat) : ∀ (t : ezq_T n) (o lo hi : Nat) (k : ezq_T n → Ω), ezq_fzw ci n t o lo hi k = k (ezq_fzt ci n t o lo hi) := by
  induction n with
  | zero =>
    intro t o lo hi k
    show (bif Nat.ble lo o && Nat.blt o hi then k t else k (.inl (ci, []))) = k (bif Nat.ble lo o && Nat.blt o hi then t else .inl (ci, []))
    cases (Nat.ble lo o && Nat.blt o hi) <;> rfl
  | succ n ih =>
    intro t o lo hi k
    obtain ⟨a, b⟩ := t
    show (ezq_fn (o + 2 ^ n) fun o' => ezq_fzw ci n a o lo hi fun a' => ezq_fzw ci n b o' lo hi fun b' => k (a', b')) = k (ezq_fzt ci n a o lo hi, ezq_fzt ci n b (o + 2 ^ n) lo hi)
    rw [ezq_fn_eq]
    exact (ih a o lo hi (fun a' => ezq_fzw ci n b (o + 2 ^ n) lo hi fun b' => k (a', b'))).trans (ih b (o + 2 ^ n) lo hi (fun b' => k (ezq_fzt ci n a o lo hi, b')))
theorem ezq_fzt_tg (ci n : Nat) : ∀ (t : ezq_T n) (o lo hi i : Nat), i < 2 ^ n → ezq_tg n (ezq_fzt ci n t o lo hi) i = bif Nat.ble lo (o + i) && Nat.blt (o + i) hi then ezq_tg n t i else .inl (ci, []) := by
  induction n with
  | zero =>
    intro t o lo hi i hi'
    obtain rfl : i = 0 := by rw [Nat.pow_zero] at hi'; omega
    rfl
  | succ n ih =>
    intro t o lo hi i hi'
    obtain ⟨a, b⟩ := t
    have hp : 2 ^ (n + 1) = 2 ^ n + 2 ^ n := by rw [Nat.pow_succ]; omega
    show (bif Nat.ble (2 ^ n) i then ezq_tg n (ezq_fzt ci n b (o + 2 ^ n) lo hi) (i - 2 ^ n) else ezq_tg n (ezq_fzt ci n a o lo hi) i) = bif Nat.ble lo (o + i) && Nat.blt (o + i) hi then (bif Nat.ble (2 ^ n) i then ezq_tg n b (i - 2 ^ n) else ezq_tg n a i) else .inl (ci, [])
    cases hb : Nat.ble (2 ^ n) i
    · have h1 := ezq_bleF hb
      exact ih a o lo hi i h1
    · have h1 := Nat.le_of_ble_eq_true hb
      have e := ih b (o + 2 ^ n) lo hi (i - 2 ^ n) (by omega)
      rw [show o + 2 ^ n + (i - 2 ^ n) = o + i by omega] at e
      exact e
theorem ezq_i13_ok {x : ezq_C} (h : ezq_i13 x = true) : ∃ fs, x = .inl (13, fs) := by
  rcases x with ⟨ci, fs⟩ | z
  · have e : ci = 13 := Nat.eq_of_beq_eq_true h
    exact ⟨fs, by rw [e]⟩
  · cases h
theorem ezq_fck_ok (n : Nat) : ∀ (t : ezq_T n) (o lo hi : Nat), ezq_fck n t o lo hi = true → ∀ i, i < 2 ^ n → (Nat.ble lo (o + i) && Nat.blt (o + i) hi) = false → ∃ fs, ezq_tg n t i = .inl (13, fs) := by
  induction n with
  | zero =>
    intro t o lo hi h i hi' hw
    obtain rfl : i = 0 := by rw [Nat.pow_zero] at hi'; omega
    have h : (bif Nat.ble lo o && Nat.blt o hi then true else ezq_i13 t) = true := h
    rw [Nat.add_zero] at hw
    rw [hw] at h
    exact ezq_i13_ok (x := t) h
  | succ n ih =>
    intro t o lo hi h i hi' hw
    obtain ⟨a, b⟩ := t
    have hp : 2 ^ (n + 1) = 2 ^ n + 2 ^ n := by rw [Nat.pow_succ]; omega
    have h : (ezq_fn (o + 2 ^ n) fun o' => ezq_fck n a o lo hi && ezq_fck n b o' lo hi) = true := h
    rw [ezq_fn_eq, Bool.and_eq_true] at h
    show ∃ fs, (bif Nat.ble (2 ^ n) i then ezq_tg n b (i - 2 ^ n) else ezq_tg n a i) = .inl (13, fs)
    cases hb : Nat.ble (2 ^ n) i
    · have h1 := ezq_bleF hb
      exact ih a o lo hi h.1 i h1 hw
    · have h1 := Nat.le_of_ble_eq_true hb
      refine ih b (o + 2 ^ n) lo hi h.2 (i - 2 ^ n) (by omega) ?_
      rw [show o + 2 ^ n + (i - 2 ^ n) = o + i by omega]
      exact hw
theorem ezq_vk_ok {ρ : ezq_E} {Γ : ezq_G} (hG : ezq_okG ρ Γ) (n : Nat) (bs : List (List (Nat × Nat × Nat) × Nat)) : ezq_vk Γ n bs = true → n = ezq_bxv ρ bs := by
  induction bs with
  | nil => intro h; exact Nat.eq_of_beq_eq_true h
  | cons b r ih =>
    intro h
    have h : (bif b.1.all (fun q => Nat.ble q.2.1 (Γ q.1).1 && Nat.ble (Γ q.1).2 q.2.2) then Nat.beq n b.2 else
      bif b.1.any (fun q => Nat.blt (Γ q.1).2 q.2.1 || Nat.blt q.2.2 (Γ q.1).1) then ezq_vk Γ n r else false) = true := h
    show n = bif ezq_inb ρ b.1 then b.2 else ezq_bxv ρ r
    cases hc : b.1.all (fun q => Nat.ble q.2.1 (Γ q.1).1 && Nat.ble (Γ q.1).2 q.2.2)
    · rw [hc] at h
      cases hd : b.1.any (fun q => Nat.blt (Γ q.1).2 q.2.1 || Nat.blt q.2.2 (Γ q.1).1)
      · rw [hd] at h
        cases h
      · rw [hd] at h
        have hin : ezq_inb ρ b.1 = false := by
          cases hi : ezq_inb ρ b.1
          · rfl
          · obtain ⟨q, hq, h1⟩ := List.any_eq_true.mp hd
            have h2 := List.all_eq_true.mp hi q hq
            have hk := hG q.1
            simp only [Bool.and_eq_true] at h2
            have i1 := Nat.le_of_ble_eq_true h2.1
            have i2 := Nat.le_of_ble_eq_true h2.2
            simp only [Bool.or_eq_true] at h1
            rcases h1 with z | z <;> (have := ezq_bltT z; omega)
        rw [hin]
        exact ih h
    · rw [hc] at h
      have hin : ezq_inb ρ b.1 = true := by
        refine List.all_eq_true.mpr fun q hq => ?_
        have h2 := List.all_eq_true.mp hc q hq
        have hk := hG q.1
        simp only [Bool.and_eq_true] at h2
        have i1 := Nat.le_of_ble_eq_true h2.1
        have i2 := Nat.le_of_ble_eq_true h2.2
        rw [Bool.and_eq_true]
        exact ⟨Nat.ble_eq_true_of_le (by omega), Nat.ble_eq_true_of_le (by omega)⟩
      rw [hin]
      exact Nat.eq_of_beq_eq_true h
section KHk
variable {l : Launch} {ρ : ezq_E} {B : Nat} {xa : Nat → Option Nat} {Hb : Heap} {D : va_G} {cA : Nat → ClassId}
theorem ezq_at.self {Hq : Heap} {q : Nat} {x : ezq_C} {H : Heap} (h : ezq_at ρ B xa D cA Hq q x H) : ezq_at ρ B xa D cA H q x H := by
  rcases x with ⟨ci, fs⟩ | z
  · rcases h with h | h
    · exact Or.inl h
    · exact Or.inr ⟨h.1, fun _ => rfl⟩
  · exact h
theorem ezq_HR.win {Hq : Heap} {sz : Nat} {t : ezq_T 7} {H : Heap} (h : ezq_HR ρ B xa Hb D cA Hq sz t H) (lo hi : Nat) : ezq_HR ρ B xa Hb D cA H sz (ezq_fzt 13 7 t 0 lo hi) H := by
  obtain ⟨h1, h2, h3, h4⟩ := h
  refine ⟨h1, h2, fun k hk => ?_, h4⟩
  rw [ezq_fzt_tg 13 7 t 0 lo hi k (by omega)]
  cases (Nat.ble lo (0 + k) && Nat.blt (0 + k) hi)
  · exact Or.inr ⟨Nat.le_refl _, fun _ => rfl⟩
  · exact (h3 k hk).self
theorem ezq_HR.back {Hq : Heap} {sz : Nat} {t t' : ezq_T 7} {H H2 : Heap} {lo hi lo2 hi2 : Nat} (h : ezq_HR ρ B xa Hb D cA Hq sz t H) (h2 : ezq_HR ρ B xa Hb D cA H sz t' H2) (hck : ezq_fck 7 t' 0 lo hi = true) (hc : hi ≤ lo2 ∨ hi2 ≤ lo) : ezq_HR ρ B xa Hb D cA Hq sz (ezq_fzt 14 7 t 0 lo2 hi2) H2 := by
  refine ⟨h2.1, h2.2.1, fun k hk => ?_, h2.2.2.2⟩
  have hk7 : k < 2 ^ 7 := by have := h2.1; omega
  rw [ezq_fzt_tg 14 7 t 0 lo2 hi2 k hk7]
  cases hw : (Nat.ble lo2 (0 + k) && Nat.blt (0 + k) hi2)
  · exact Or.inr ⟨by omega, fun e => absurd e (by omega)⟩
  · rw [Bool.and_eq_true] at hw
    have w1 := Nat.le_of_ble_eq_true hw.1
    have w2 := ezq_bltT hw.2
    have hn : (Nat.ble lo (0 + k) && Nat.blt (0 + k) hi) = false := by
      cases hz : (Nat.ble lo (0 + k) && Nat.blt (0 + k) hi)
      · rfl
      · rw [Bool.and_eq_true] at hz
        have z1 := Nat.le_of_ble_eq_true hz.1
        have z2 := ezq_bltT hz.2
        omega
    obtain ⟨fs, hf⟩ := ezq_fck_ok 7 t' 0 lo hi hck k hk7 hn
    have h3 := h2.2.2.1 k hk
    rw [hf] at h3
    refine (h.2.2.1 k hk).kept ?_
    rcases h3 with h3 | h3
    · exact absurd h3.1 (by omega)
    · exact h3.2 rfl
theorem ezq_gf_ok : ezq_okG ρ ezq_gf := fun k => ⟨Nat.zero_le _, by have := ezq_off_lt (ρ k); show _ ≤ 4294967295; omega⟩
theorem ezq_urun_ok {R : ezq_Re} (n : Nat) : ∀ Hr : Heap, ezq_Ru none ezq_un ezq_hU (fun o : ezq_Ro => o = some R) l ρ B xa Hb D cA Hr n :=
  ezq_run_ok (fun h => by cases h) (fun c a b h => by cases h) (fun n ih Hr a d Γ as sz t K fn pb o2 y mL ret mc ms hr h hG hpl hcl hcat => ezq_h0_met (fun h => by cases h) (ih Hr) hr h hG hpl hcl hcat) n
theorem ezq_hM_ok {Hr : Heap} {N a d : Nat} {Γ : ezq_G} {as : List ezq_V} {sz : Nat} {t : ezq_T 7} {K : ezq_KK Bool} {fn : Nat → Option ezq_Y} {pb o2 : Nat} {y : MethodName} {mL : Nat} {ret : Option FieldType} {mc ms : Nat}
    (hr : ezq_sel a = (fn, pb, o2, y, mL, ret, mc, ms)) (h : ezq_hM N a d Γ as sz t K = true) (hG : ezq_okG ρ Γ) (hplain : plainName y.cls = true) (hcls : y.cls = ezq_cn o2) (hcat : ezq_cat as ≤ mL) :
    Met l y (.code y (ezq_byt pb) mL ret :: ezq_T0) ({ frames := 1 + d, cells := mc, slots := ms, locals := 40 + d * 100 }) (va_Pc (as.map (ezq_d ρ B xa)) (fun U => ezq_HR ρ B xa Hb D cA Hr sz t U.heap ∧ ezq_K ρ B xa Hb D cA U)) (ezq_Qc (fun b : Bool => b = true) ρ B xa Hb D cA Hr K) mc ms (ezq_no B) := by
  have hGc : ezq_Good (fn, pb, o2, y, mL, ret, mc, ms) := by
    have := ezq_good a
    rw [hr] at this
    exact this
  unfold ezq_hM at h
  rw [ezq_fn_eq, ezq_fn_eq, ezq_fn_eq] at h
  have h2 := ezq_nfs_ok (T := fun b : Bool => b = true) (bot := false) (fun h => by cases h) as (k := fun as => match ezq_mem N a d as sz t with
    | none => false
    | some (v, sz', t') => K Γ v sz' t') h
  cases hm : ezq_mem N a d as sz t with
  | none =>
    have h3 : (match ezq_mem N a d as sz t with
      | none => false
      | some (v, sz', t') => K Γ v sz' t') = true := h2
    rw [hm] at h3
    cases h3
  | some R =>
    have h3 : (match ezq_mem N a d as sz t with
      | none => false
      | some (v, sz', t') => K Γ v sz' t') = true := h2
    rw [hm] at h3
    obtain ⟨v, sz', t'⟩ := R
    have h3 : K Γ v sz' t' = true := h3
    unfold ezq_mem at hm
    rw [ezq_arg_eq, ezq_urun_eq, hr] at hm
    refine ezq_metG (T := fun o : ezq_Ro => o = some (v, sz', t')) (n := N) (fun Hr => ezq_urun_ok N Hr) (fun _ => Hr) (Hq := Hr) hGc hplain hcls (fun _ _ _ _ _ _ _ h => by cases h) hm ezq_gf_ok hcat (fun H hH => hH) ?_
    intro H H2 Γ' v' sz2 t2 hH hG' hk1 hH2
    have e : some (v', sz2, t2) = some (v, sz', t') := hk1
    cases e
    exact ⟨Γ, _, _, _, hG, h3, rfl, hH2⟩
theorem ezq_hS_ok {s lo hi lo2 hi2 : Nat} (hc : hi ≤ lo2 ∨ hi2 ≤ lo) (hs : ρ s = ezq_val s ρ) {n : Nat} (ih : ∀ Hr : Heap, ezq_Ru false ezq_an ezq_hB (fun b : Bool => b = true) l ρ B xa Hb D cA Hr n) {Hr : Heap} {a d : Nat} {Γ : ezq_G} {as : List ezq_V} {sz : Nat} {t : ezq_T 7} {K : ezq_KK Bool} {fn : Nat → Option ezq_Y} {pb o2 : Nat} {y : MethodName} {mL : Nat} {ret : Option FieldType} {mc ms : Nat}
    (hr : ezq_sel a = (fn, pb, o2, y, mL, ret, mc, ms)) (h : ezq_hS s lo hi lo2 hi2 (ezq_run false ezq_an ezq_hB n) a d Γ as sz t K = true) (hG : ezq_okG ρ Γ) (hplain : plainName y.cls = true) (hcls : y.cls = ezq_cn o2) (hcat : ezq_cat as ≤ mL) :
    Met l y (.code y (ezq_byt pb) mL ret :: ezq_T0) ({ frames := 1 + d, cells := mc, slots := ms, locals := 40 + d * 100 }) (va_Pc (as.map (ezq_d ρ B xa)) (fun U => ezq_HR ρ B xa Hb D cA Hr sz t U.heap ∧ ezq_K ρ B xa Hb D cA U)) (ezq_Qc (fun b : Bool => b = true) ρ B xa Hb D cA Hr K) mc ms (ezq_no B) := by
  have hGc : ezq_Good (fn, pb, o2, y, mL, ret, mc, ms) := by
    have := ezq_good a
    rw [hr] at this
    exact this
  unfold ezq_hS at h
  rw [Bool.and_eq_true, ezq_fzw_eq, ezq_fzw_eq, ezq_arg_eq, hr] at h
  obtain ⟨h1, h2⟩ := h
  refine ezq_metG (T := fun b : Bool => b = true) ih (fun H => H) (Hq := Hr) hGc hplain hcls (fun _ _ _ _ _ _ _ h => by cases h) h1 hG hcat (fun H hH => hH.win lo hi) ?_
  intro H H2 Γ' v' sz2 t2 hH hG' hk1 hH2
  rcases v' with _ | ((n0 | z) | z)
  · cases hk1
  · have hk2 : ((Nat.beq sz2 sz && ezq_fck 7 t2 0 lo hi) && ezq_vk Γ' n0 (ezq_box s)) = true := hk1
    rw [Bool.and_eq_true, Bool.and_eq_true] at hk2
    obtain ⟨⟨e1, e2⟩, e3⟩ := hk2
    obtain rfl := Nat.eq_of_beq_eq_true e1
    refine ⟨Γ, _, _, _, hG, h2, ?_, hH.back hH2 e2 hc⟩
    show some (Value.int (Int32.ofNat n0)) = some (Value.int (ρ s))
    rw [hs, ezq_vk_ok hG' n0 _ e3]
    rfl
  · cases hk1
  · cases hk1
theorem ezq_hB_ok (hs : ∀ s, 41 ≤ s → s ≤ 46 → ρ s = ezq_val s ρ) (n : Nat) (ih : ∀ Hr : Heap, ezq_Ru false ezq_an ezq_hB (fun b : Bool => b = true) l ρ B xa Hb D cA Hr n) (Hr : Heap) : ezq_HkOk false ezq_an ezq_hB (fun b : Bool => b = true) l ρ B xa Hb D cA Hr n := by
  intro a d Γ as sz t K fn pb o2 y mL ret mc ms hr h hG hpl hcl hcat
  have hb : ¬ (false = true) := fun z => by cases z
  have h0 : ezq_h0 false (ezq_run false ezq_an ezq_hB n) a d Γ as sz t K = true → Met l y (.code y (ezq_byt pb) mL ret :: ezq_T0) ({ frames := 1 + d, cells := mc, slots := ms, locals := 40 + d * 100 }) (va_Pc (as.map (ezq_d ρ B xa)) (fun U => ezq_HR ρ B xa Hb D cA Hr sz t U.heap ∧ ezq_K ρ B xa Hb D cA U)) (ezq_Qc (fun b : Bool => b = true) ρ B xa Hb D cA Hr K) mc ms (ezq_no B) :=
    fun h => ezq_h0_met (T := fun b : Bool => b = true) hb (ih Hr) hr h hG hpl hcl hcat
  have h : ezq_hB (ezq_run false ezq_an ezq_hB n) a d Γ as sz t K = true := h
  unfold ezq_hB at h
  rw [ezq_fn_eq] at h
  have br : ∀ {c : Bool} {x y : Bool} {P : Prop}, (bif c then x else y) = true → (x = true → P) → (y = true → P) → P := by
    intro c x y P h h1 h2
    cases c
    · exact h2 h
    · exact h1 h
  refine br h h0 (fun h => ?_)
  refine br h (fun h => ezq_hM_ok hr h hG hpl hcl hcat) (fun h => ?_)
  refine br h (fun h => ezq_hM_ok hr h hG hpl hcl hcat) (fun h => ?_)
  refine br h (fun h => ezq_hS_ok (by omega) (hs 41 (by omega) (by omega)) ih hr h hG hpl hcl hcat) (fun h => ?_)
  refine br h (fun h => ezq_hS_ok (by omega) (hs 41 (by omega) (by omega)) ih hr h hG hpl hcl hcat) (fun h => ?_)
  refine br h (fun h => ezq_hS_ok (by omega) (hs 42 (by omega) (by omega)) ih hr h hG hpl hcl hcat) (fun h => ?_)
  refine br h (fun h => ezq_hS_ok (by omega) (hs 42 (by omega) (by omega)) ih hr h hG hpl hcl hcat) (fun h => ?_)
  refine br h (fun h => ezq_hS_ok (by omega) (hs 43 (by omega) (by omega)) ih hr h hG hpl hcl hcat) (fun h => ?_)
  refine br h (fun h => ezq_hS_ok (by omega) (hs 43 (by omega) (by omega)) ih hr h hG hpl hcl hcat) (fun h => ?_)
  refine br h (fun h => ezq_hS_ok (by omega) (hs 46 (by omega) (by omega)) ih hr h hG hpl hcl hcat) (fun h => ?_)
  refine br h (fun h => ezq_hS_ok (by omega) (hs 46 (by omega) (by omega)) ih hr h hG hpl hcl hcat) (fun h => ?_)
  refine br h (fun h => ezq_hS_ok (by omega) (hs 44 (by omega) (by omega)) ih hr h hG hpl hcl hcat) (fun h => ?_)
  exact br h (fun h => ezq_hS_ok (by omega) (hs 44 (by omega) (by omega)) ih hr h hG hpl hcl hcat) h0
end KHk
