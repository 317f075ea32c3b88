/-! ===== the constructors, run ===== -/
def ezh_veq (v w : ezq_V) : Bool := match v with
  | .inl (.inl a) => match w with
    | .inl (.inl b) => Nat.beq a b
    | _ => false
  | .inr (.inl (.inl a)) => match w with
    | .inr (.inl (.inl b)) => Nat.beq a b
    | _ => false
  | .inr (.inr (some (.inl a))) => match w with
    | .inr (.inr (some (.inl b))) => Nat.beq a b
    | _ => false
  | _ => false
theorem ezh_veq_ok {v w : ezq_V} (h : ezh_veq v w = true) : v = w := by
  unfold ezh_veq at h
  split at h
  · split at h
    · rw [Nat.eq_of_beq_eq_true h]
    · cases h
  · split at h
    · rw [Nat.eq_of_beq_eq_true h]
    · cases h
  · split at h
    · rw [Nat.eq_of_beq_eq_true h]
    · cases h
  · cases h
def ezh_veqs (a b : List ezq_V) : Bool := match a with
  | [] => match b with
    | [] => true
    | _ => false
  | v :: r => match b with
    | w :: s => ezh_veq v w && ezh_veqs r s
    | _ => false
theorem ezh_veqs_ok (a : List ezq_V) : ∀ b, ezh_veqs a b = true → a = b := by
  induction a with
  | nil =>
    intro b h
    cases b with
    | nil => rfl
    | cons w s => cases h
  | cons v r ih =>
    intro b h
    cases b with
    | nil => cases h
    | cons w s =>
      have h : (ezh_veq v w && ezh_veqs r s) = true := h
      rw [Bool.and_eq_true] at h
      rw [ezh_veq_ok h.1, ih s h.2]
noncomputable def ezh_all (n : Nat) (p : Nat → Bool) : Bool := Nat.rec (motive := fun _ => Bool) true (fun m ih => p m && ih) n
theorem ezh_all_ok {p : Nat → Bool} (n : Nat) : ezh_all n p = true → ∀ j, j < n → p j = true := by
  induction n with
  | zero => intro h j hj; omega
  | succ n ih =>
    intro h j hj
    have h : (p n && ezh_all n p) = true := h
    rw [Bool.and_eq_true] at h
    by_cases e : j = n
    · rw [e]
      exact h.1
    · exact ih h.2 j (by omega)
noncomputable def ezh_ceq (c c' : ezq_C) : Bool := match c with
  | .inl (ci, fs) => match c' with
    | .inl (ci', fs') => Nat.beq ci ci' && ezh_veqs fs fs'
    | _ => false
  | .inr (ty, n, f) => match c' with
    | .inr (ty', n', f') => (Nat.beq ty ty' && Nat.beq n n') && ezh_all n (fun j => ezh_veq (f j) (f' j))
    | _ => false
theorem ezh_arrV {cI : ClassId} {n : Nat} {f f' : Nat → Value} (h : ∀ j, j < n → f j = f' j) : arrV cI n f = arrV cI n f' := by
  unfold arrV
  congr 1
  congr 1
  funext j
  exact h j.val j.isLt
section KH
variable {l : Launch} {ρ : ezq_E} {B : Nat} {xa : Nat → Option Nat} {Hb : Heap} {D : va_G} {cA : Nat → ClassId}
theorem ezh_ceq_ok {Hr H : Heap} {q : Nat} {c c' : ezq_C} (h : ezh_ceq c c' = true) (ha : ezq_at ρ B xa D cA Hr q c H) : ezq_at ρ B xa D cA Hr q c' H := by
  rcases c with ⟨ci, fs⟩ | ⟨ty, n, f⟩
  · rcases c' with ⟨ci', fs'⟩ | z
    · have h : (Nat.beq ci ci' && ezh_veqs fs fs') = true := h
      rw [Bool.and_eq_true] at h
      rw [← Nat.eq_of_beq_eq_true h.1, ← ezh_veqs_ok _ _ h.2]
      exact ha
    · cases h
  · rcases c' with z | ⟨ty', n', f'⟩
    · cases h
    · have h : ((Nat.beq ty ty' && Nat.beq n n') && ezh_all n (fun j => ezh_veq (f j) (f' j))) = true := h
      rw [Bool.and_eq_true, Bool.and_eq_true] at h
      obtain ⟨⟨h1, h2⟩, h3⟩ := h
      obtain rfl := Nat.eq_of_beq_eq_true h1
      obtain rfl := Nat.eq_of_beq_eq_true h2
      obtain ⟨a1, a2, a3⟩ := ha
      refine ⟨a1, a2, ?_⟩
      rw [a3]
      exact congrArg some (ezh_arrV fun j hj => by rw [ezh_veq_ok (ezh_all_ok n h3 j hj)])
theorem ezl_HR {Hr H : Heap} {gs : Nat → ezq_C} {t : ezq_T 7} (hc : ezh_all 96 (fun q => ezh_ceq (ezq_tg 7 t q) (gs q)) = true) (h : ezq_HR ρ B xa Hb D cA Hr 96 t H) : ezq_HR ρ B xa Hb D cA Hr 96 (ezw_T 7 gs 0) H := by
  obtain ⟨h1, h2, h3, h4⟩ := h
  refine ⟨h1, h2, fun k hk => ?_, h4⟩
  rw [ezw_Tg 7 _ 0 k (by omega), Nat.zero_add]
  exact ezh_ceq_ok (ezh_all_ok 96 hc k hk) (h3 k hk)
end KH
def ezl_an : (ezq_E → Bool) → Bool → Bool → Bool := fun _ a b => a && b
def ezl_xt (v : Option ezq_V) : Bool := match v with
  | some (.inr (.inr (some (.inr 0)))) => true
  | _ => false
theorem ezl_xt_ok {v : Option ezq_V} (h : ezl_xt v = true) : v = some (ezq_xt 0) := by
  unfold ezl_xt at h
  split at h
  · rfl
  · cases h
def ezl_vq (v : Option ezq_V) (w : ezq_V) : Bool := match v with
  | some v => ezh_veq v w
  | none => false
theorem ezl_vq_ok {v : Option ezq_V} {w : ezq_V} (h : ezl_vq v w = true) : v = some w := by
  cases v with
  | none => cases h
  | some v => rw [ezh_veq_ok h]
noncomputable def ezl_ks : ezq_KS Bool := fun _ ls st sz t cl sl => (match st with
  | [] => true
  | _ => false) && ((Nat.beq sz 96 && (Nat.ble cl 100 && Nat.ble sl 100000)) && ((ezl_xt (ezw_lk ls 0) && (ezl_vq (ezw_lk ls 1) (ezw_p 0) && (ezl_vq (ezw_lk ls 2) (ezw_p 72) && ezl_vq (ezw_lk ls 3) (ezw_i 0)))) && ezh_all 96 (fun q => ezh_ceq (ezq_tg 7 t q) (ezl_g q))))
def ezl_gm : ezq_G := fun _ => (0, 4294967295)
set_option maxRecDepth 100000 in
theorem ezl_ctor : ezq_run false ezl_an (ezq_h0 false) 1000000 60 ezl_gm ezq_re336 0 [(0, ezq_xt 0)] [] 0 (ezq_te 7) 0 0 18 ezl_ks (fun _ _ _ _ => false) = true := by decide +kernel
theorem ezl_ks_ok {Γ : ezq_G} {ls : ezq_S} {st : List ezq_V} {sz : Nat} {t : ezq_T 7} {cl sl : Nat} (h : ezl_ks Γ ls st sz t cl sl = true) : st = [] ∧ sz = 96 ∧ cl ≤ 100 ∧ sl ≤ 100000 ∧ ezw_has ls [some (ezq_xt 0), some (ezw_p 0), some (ezw_p 72), some (ezw_i 0)] ∧ ezh_all 96 (fun q => ezh_ceq (ezq_tg 7 t q) (ezl_g q)) = true := by
  unfold ezl_ks at h
  simp only [Bool.and_eq_true] at h
  obtain ⟨h1, ⟨h2, h3, h4⟩, ⟨h5, h6, h7, h8⟩, h9⟩ := h
  refine ⟨?_, Nat.eq_of_beq_eq_true h2, Nat.le_of_ble_eq_true h3, Nat.le_of_ble_eq_true h4, ?_, h9⟩
  · cases st with
    | nil => rfl
    | cons a r => cases h1
  · intro i v hv
    match i, hv with
    | 0, hv =>
      obtain rfl := Option.some.inj (Option.some.inj (show some (some (ezq_xt 0)) = some (some v) from hv))
      exact ezl_xt_ok h5
    | 1, hv =>
      obtain rfl := Option.some.inj (Option.some.inj (show some (some (ezw_p 0)) = some (some v) from hv))
      exact ezl_vq_ok h6
    | 2, hv =>
      obtain rfl := Option.some.inj (Option.some.inj (show some (some (ezw_p 72)) = some (some v) from hv))
      exact ezl_vq_ok h7
    | 3, hv =>
      obtain rfl := Option.some.inj (Option.some.inj (show some (some (ezw_i 0)) = some (some v) from hv))
      exact ezl_vq_ok h8
    | j + 4, hv =>
      have hn : (none : Option (Option ezq_V)) = some (some v) := hv
      cases hn
