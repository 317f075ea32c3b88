/-! ===== feed ===== -/
def ezw_rfM : Nat → Nat := ezu_rfM
def ezw_rfX (e : Bool × Bool) : Nat → Nat := ezu_rfX e
section KM
variable {l : Launch} {ρ : ezq_E} {B : Nat} {xa : Nat → Option Nat} {Hb : Heap} {D : va_G} {cA : Nat → ClassId} {d : Nat} {g : Nat → ezq_C}

theorem ezc_put {q n : Nat} {a : Int → Int} {p v : Int} (hq : g q = ezw_ca n a) (h9 : Nat.blt q 96 = true) (hn : n ≤ 100000) (hp : ezw_in p) : ezw_C l ρ B xa Hb D cA 21 d [ezw_p q, ezw_i p, ezw_i v] g (ezw_Q none (if 0 ≤ p ∧ p < (n : Int) then ezw_u g q (ezw_ca n (ezw_au a p v)) else g)) := by
  refine ezw_met (k := 0) rfl rfl ?_
  have hp1 := hp.1
  have hp2 := hp.2
  refine ezw_aload_n rfl rfl ?_
  refine ezw_ifnull rfl ?_
  refine ezw_iload_n rfl rfl ?_
  refine ezw_if_lt rfl rfl ⟨by omega, by omega⟩ (fun h5 => ?_) (fun h5 => ?_)
  · exact ezw_return rfl rfl ⟨rfl, if_neg (by omega)⟩
  · refine ezw_iload_n rfl rfl ?_
    refine ezw_aload_n rfl rfl ?_
    refine ezw_arraylength rfl hq h9 rfl (by omega) ?_
    refine ezw_icmp_ge rfl rfl ⟨by omega, by omega⟩ ⟨by omega, by omega⟩ (fun h11 => ?_) (fun h11 => ?_)
    · exact ezw_return rfl rfl ⟨rfl, if_neg (by omega)⟩
    · refine ezw_aload_n rfl rfl ?_
      refine ezw_iload_n rfl rfl ?_
      refine ezw_iload_n rfl rfl ?_
      refine ezw_iastore rfl hq h9 (by omega) (by omega) (by omega) ?_
      exact ezw_return rfl rfl ⟨rfl, if_pos (by omega)⟩
theorem ezc_putI {q n : Nat} {a : Int → Int} {p v : Int} (hq : g q = ezw_ca n a) (h9 : Nat.blt q 96 = true) (hn : n ≤ 100000) (h0 : 0 ≤ p) (h1 : p < (n : Int)) : ezw_C l ρ B xa Hb D cA 21 d [ezw_p q, ezw_i p, ezw_i v] g (ezw_Q none (ezw_u g q (ezw_ca n (ezw_au a p v)))) := by
  have h := ezc_put (l := l) (ρ := ρ) (B := B) (xa := xa) (Hb := Hb) (D := D) (cA := cA) (d := d) (p := p) (v := v) hq h9 hn ⟨by omega, by omega⟩
  rw [if_pos ⟨h0, h1⟩] at h
  exact h
end KM
def ezf_b (v : Int) (n : Nat) : Int := (ezw_zl v : Int) / 2 ^ (8 * n) % 256
/-- what the last n bytes of v do to what stays, and how many they are -/
def ezf (v : Int) : Nat → Int → (Int → Int) → Int × (Int → Int) := fun n => match n with
  | 0 => fun s a => (s, a)
  | n + 1 => fun s a => if (ezf_b v n = 10 ∨ 32 ≤ ezf_b v n ∧ ezf_b v n ≤ 126) ∧ s < 1000 then ezf v n (s + 1) (ezw_au a s (ezf_b v n)) else ezf v n s a
theorem ezf_b01 (v : Int) (n : Nat) : 0 ≤ ezf_b v n ∧ ezf_b v n < 256 := by
  unfold ezf_b
  omega
theorem ezf_and (x : Int) (h : 0 ≤ x) (h2 : x < 18446744073709551616) : ezw_andl x 255 = x % 256 := by
  unfold ezw_andl
  rw [show ezw_zl 255 = 2 ^ 8 - 1 from rfl, Nat.and_two_pow_sub_one_eq_mod]
  unfold ezw_zl
  omega
theorem ezf_andi (x : Int) : ezw_and x 255 = x % 256 := by
  unfold ezw_and
  rw [show ezw_z 255 = 2 ^ 8 - 1 from rfl, Nat.and_two_pow_sub_one_eq_mod]
  unfold ezw_z
  omega
theorem ezf_up (v : Int) (n : Nat) : ezw_andl ((ezw_zl v : Int) / 2 ^ (8 * n)) 255 = ezf_b v n := by
  refine ezf_and _ (Int.ediv_nonneg (by omega) (Int.le_of_lt (Int.pow_pos (by decide)))) ?_
  have h1 := ezw_zllt v
  have h2 : ((ezw_zl v : Int) / 2 ^ (8 * n)) ≤ (ezw_zl v : Int) := Int.ediv_le_self _ (by omega)
  omega
theorem ezf_sg (v : Int) (n : Nat) (hn : n < 8) : ezw_and (v / 2 ^ (8 * n)) 255 = ezf_b v n := by
  rw [ezf_andi]
  unfold ezf_b ezw_zl
  have : n = 0 ∨ n = 1 ∨ n = 2 ∨ n = 3 ∨ n = 4 ∨ n = 5 ∨ n = 6 ∨ n = 7 := by omega
  rcases this with rfl | rfl | rfl | rfl | rfl | rfl | rfl | rfl <;> (simp only [Nat.reduceMul, Nat.reducePow, Int.reducePow]; omega)
def ezf_post (ci qo qa : Nat) (rf : Nat → Nat) (g : Nat → ezq_C) (f : Nat → Int) (r : Int × (Int → Int)) : Option ezq_V → (Nat → ezq_C) → Prop := fun v g' => none = v ∧ ∃ f', g' qo = ezw_obj ci rf f' ∧ (∀ k, k ≠ 2 → f' k = f k) ∧ f' 2 = r.1 ∧ g' qa = ezw_ca 1000 r.2 ∧ ∀ q, q ≠ qo → q ≠ qa → g' q = g q
theorem ezf_step {ci qo qa : Nat} {rf : Nat → Nat} {g : Nat → ezq_C} {f : Nat → Int} {r : Int × (Int → Int)} {c c2 : ezq_C} {x : Int} {v : Option ezq_V} {g' : Nat → ezq_C} (h : ezf_post ci qo qa rf (ezw_u (ezw_u g qa c) qo c2) (ezw_fu f 2 x) r v g') : ezf_post ci qo qa rf g f r v g' := by
  obtain ⟨h1, f', h2, h3, h4, h5, h6⟩ := h
  refine ⟨h1, f', h2, fun k hk => ?_, h4, h5, fun q hq hq2 => ?_⟩
  · rw [h3 k hk]
    exact if_neg hk
  · rw [h6 q hq hq2, ezw_un hq, ezw_un hq2]
theorem ezf_t {v : Int} {n : Nat} {s : Int} {a : Int → Int} (h : (ezf_b v n = 10 ∨ 32 ≤ ezf_b v n ∧ ezf_b v n ≤ 126) ∧ s < 1000) : ezf v (n + 1) s a = ezf v n (s + 1) (ezw_au a s (ezf_b v n)) := if_pos h
theorem ezf_f {v : Int} {n : Nat} {s : Int} {a : Int → Int} (h : ¬ ((ezf_b v n = 10 ∨ 32 ≤ ezf_b v n ∧ ezf_b v n ≤ 126) ∧ s < 1000)) : ezf v (n + 1) s a = ezf v n s a := if_neg h
theorem ezf_le (v : Int) (n : Nat) : ∀ (s : Int) (a : Int → Int), s ≤ 1000 → s ≤ (ezf v n s a).1 ∧ (ezf v n s a).1 ≤ 1000 := by
  induction n with
  | zero => intro s a h; exact ⟨Int.le_refl _, h⟩
  | succ n ih =>
    intro s a h
    by_cases hc : (ezf_b v n = 10 ∨ 32 ≤ ezf_b v n ∧ ezf_b v n ≤ 126) ∧ s < 1000
    · rw [ezf_t hc]
      have := ih (s + 1) (ezw_au a s (ezf_b v n)) (by omega)
      omega
    · rw [ezf_f hc]
      exact ih s a h
/-- the class's tokens as the constructors lay them -/
def ezw_rfK : Nat → Nat := fun k => k + 2

section KM
variable {l : Launch} {ρ : ezq_E} {B : Nat} {xa : Nat → Option Nat} {Hb : Heap} {D : va_G} {cA : Nat → ClassId} {d : Nat} {g : Nat → ezq_C}

theorem ezc_addEightL {v : Int} (hv : ezw_il v) (hd : 1 ≤ d) (n : Nat) : ∀ {g : Nat → ezq_C} (f : Nat → Int) (a : Int → Int) (hO : g 1 = ezw_obj 7 ezw_rfK f) (hA : g 2 = ezw_ca 1000 a) (sh : Int) (l4 l5 : Option ezq_V) (hs0 : 0 ≤ f 2) (hs1 : f 2 ≤ 1000), n ≤ 8 → sh = 8 * (n : Int) - 8 → ezw_E l ρ B xa Hb D cA d ezq_re20 (ezf_post 7 1 2 ezw_rfK g f (ezf v n (f 2) a)) 3 [some (ezw_p 1), some (ezw_l v), none, some (ezw_i sh), l4, l5] [] g := by
  induction n with
  | zero =>
    intro g f a hO hA sh l4 l5 hs0 hs1 n8 hsh
    refine ezw_iload_n rfl rfl ?_
    refine ezw_if_lt rfl rfl ⟨by omega, by omega⟩ (fun h4 => ?_) (fun h4 => ?_)
    rotate_left
    · exact absurd h4 (by omega)
    exact ezw_return rfl rfl ⟨rfl, f, hO, fun _ _ => rfl, rfl, hA, fun _ _ _ => rfl⟩
  | succ n ih =>
    intro g f a hO hA sh l4 l5 hs0 hs1 n8 hsh
    refine ezw_iload_n rfl rfl ?_
    refine ezw_if_lt rfl rfl ⟨by omega, by omega⟩ (fun h4 => ?_) (fun h4 => ?_)
    · exact absurd h4 (by omega)
    refine ezw_lload_n rfl rfl ?_
    refine ezw_iload_n rfl rfl ?_
    refine ezw_lushr rfl (by omega) (by omega) (k := (ezw_zl v : Int) / 2 ^ (8 * n)) (by rw [show sh.toNat = 8 * n by omega]) ?_
    refine ezw_ldc2_w (255) rfl rfl ?_
    refine ezw_land rfl (ezf_up v n) ?_
    refine ezw_l2i rfl rfl ?_
    refine ezw_istore rfl rfl ?_
    have b0 := ezf_b01 v n
    refine ezw_iload rfl rfl ?_
    refine ezw_bipush (10) rfl rfl ?_
    refine ezw_icmp_eq rfl rfl ⟨by omega, by omega⟩ ⟨by omega, by omega⟩ (fun h21 => ?_) (fun h21 => ?_)
    · refine ezw_iconst (1) rfl rfl ?_
      refine ezw_goto rfl rfl ?_
      refine ezw_istore rfl rfl ?_
      refine ezw_iload rfl rfl ?_
      refine ezw_if_eq rfl rfl ⟨by omega, by omega⟩ (fun h47 => ?_) (fun h47 => ?_)
      · refine ezw_iinc (-8) rfl rfl rfl rfl rfl ?_
        refine ezw_goto rfl rfl ?_
        rw [ezf_f (by omega)]
        exact ih _ _ hO hA _ _ _ hs0 hs1 (by omega) (by omega)
      · refine ezw_aload_n rfl rfl ?_
        refine ezw_getfield rfl hO rfl rfl rfl ?_
        refine ezw_sipush (1000) rfl rfl ?_
        refine ezw_icmp_ge rfl rfl ⟨by omega, by omega⟩ ⟨by omega, by omega⟩ (fun h57 => ?_) (fun h57 => ?_)
        · refine ezw_iinc (-8) rfl rfl rfl rfl rfl ?_
          refine ezw_goto rfl rfl ?_
          rw [ezf_f (by omega)]
          exact ih _ _ hO hA _ _ _ hs0 hs1 (by omega) (by omega)
        · refine ezw_aload_n rfl rfl ?_
          refine ezw_getfield rfl hO rfl rfl rfl ?_
          refine ezw_aload_n rfl rfl ?_
          refine ezw_getfield rfl hO rfl rfl rfl ?_
          refine ezw_iload rfl rfl ?_
          refine ezw_call3_3 rfl (by omega) rfl rfl (ezc_putI hA rfl (by omega) (by omega) (by omega)) ?_
          rintro _ _ ⟨rfl, rfl⟩
          refine ezw_aload_n rfl rfl ?_
          refine ezw_dup rfl rfl ?_
          refine ezw_getfield rfl ((ezw_un (by decide)).trans hO) rfl rfl rfl ?_
          refine ezw_iconst (1) rfl rfl ?_
          refine ezw_iadd rfl rfl ?_
          refine ezw_putf_i rfl ((ezw_un (by decide)).trans hO) rfl rfl rfl ?_
          refine ezw_iinc (-8) rfl rfl rfl rfl rfl ?_
          refine ezw_goto rfl rfl ?_
          rw [ezf_t ⟨by omega, by omega⟩]
          exact ezw_Emono (fun _ _ h => ezf_step h) (ih (ezw_fu f 2 (f 2 + 1)) _ ezw_ug ((ezw_un (by decide)).trans ezw_ug) _ _ _ (by show 0 ≤ f 2 + 1; omega) (by show f 2 + 1 ≤ 1000; omega) (by omega) (by omega))
    · refine ezw_iload rfl rfl ?_
      refine ezw_bipush (32) rfl rfl ?_
      refine ezw_icmp_lt rfl rfl ⟨by omega, by omega⟩ ⟨by omega, by omega⟩ (fun h28 => ?_) (fun h28 => ?_)
      · refine ezw_iconst (0) rfl rfl ?_
        refine ezw_istore rfl rfl ?_
        refine ezw_iload rfl rfl ?_
        refine ezw_if_eq rfl rfl ⟨by omega, by omega⟩ (fun h47 => ?_) (fun h47 => ?_)
        · refine ezw_iinc (-8) rfl rfl rfl rfl rfl ?_
          refine ezw_goto rfl rfl ?_
          rw [ezf_f (by omega)]
          exact ih _ _ hO hA _ _ _ hs0 hs1 (by omega) (by omega)
        · refine ezw_aload_n rfl rfl ?_
          refine ezw_getfield rfl hO rfl rfl rfl ?_
          refine ezw_sipush (1000) rfl rfl ?_
          refine ezw_icmp_ge rfl rfl ⟨by omega, by omega⟩ ⟨by omega, by omega⟩ (fun h57 => ?_) (fun h57 => ?_)
          · refine ezw_iinc (-8) rfl rfl rfl rfl rfl ?_
            refine ezw_goto rfl rfl ?_
            rw [ezf_f (by omega)]
            exact ih _ _ hO hA _ _ _ hs0 hs1 (by omega) (by omega)
          · refine ezw_aload_n rfl rfl ?_
            refine ezw_getfield rfl hO rfl rfl rfl ?_
            refine ezw_aload_n rfl rfl ?_
            refine ezw_getfield rfl hO rfl rfl rfl ?_
            refine ezw_iload rfl rfl ?_
            refine ezw_call3_3 rfl (by omega) rfl rfl (ezc_putI hA rfl (by omega) (by omega) (by omega)) ?_
            rintro _ _ ⟨rfl, rfl⟩
            refine ezw_aload_n rfl rfl ?_
            refine ezw_dup rfl rfl ?_
            refine ezw_getfield rfl ((ezw_un (by decide)).trans hO) rfl rfl rfl ?_
            refine ezw_iconst (1) rfl rfl ?_
            refine ezw_iadd rfl rfl ?_
            refine ezw_putf_i rfl ((ezw_un (by decide)).trans hO) rfl rfl rfl ?_
            refine ezw_iinc (-8) rfl rfl rfl rfl rfl ?_
            refine ezw_goto rfl rfl ?_
            rw [ezf_t ⟨by omega, by omega⟩]
            exact ezw_Emono (fun _ _ h => ezf_step h) (ih (ezw_fu f 2 (f 2 + 1)) _ ezw_ug ((ezw_un (by decide)).trans ezw_ug) _ _ _ (by show 0 ≤ f 2 + 1; omega) (by show f 2 + 1 ≤ 1000; omega) (by omega) (by omega))
      · refine ezw_iload rfl rfl ?_
        refine ezw_bipush (126) rfl rfl ?_
        refine ezw_icmp_gt rfl rfl ⟨by omega, by omega⟩ ⟨by omega, by omega⟩ (fun h35 => ?_) (fun h35 => ?_)
        · refine ezw_iconst (0) rfl rfl ?_
          refine ezw_istore rfl rfl ?_
          refine ezw_iload rfl rfl ?_
          refine ezw_if_eq rfl rfl ⟨by omega, by omega⟩ (fun h47 => ?_) (fun h47 => ?_)
          · refine ezw_iinc (-8) rfl rfl rfl rfl rfl ?_
            refine ezw_goto rfl rfl ?_
            rw [ezf_f (by omega)]
            exact ih _ _ hO hA _ _ _ hs0 hs1 (by omega) (by omega)
          · refine ezw_aload_n rfl rfl ?_
            refine ezw_getfield rfl hO rfl rfl rfl ?_
            refine ezw_sipush (1000) rfl rfl ?_
            refine ezw_icmp_ge rfl rfl ⟨by omega, by omega⟩ ⟨by omega, by omega⟩ (fun h57 => ?_) (fun h57 => ?_)
            · refine ezw_iinc (-8) rfl rfl rfl rfl rfl ?_
              refine ezw_goto rfl rfl ?_
              rw [ezf_f (by omega)]
              exact ih _ _ hO hA _ _ _ hs0 hs1 (by omega) (by omega)
            · refine ezw_aload_n rfl rfl ?_
              refine ezw_getfield rfl hO rfl rfl rfl ?_
              refine ezw_aload_n rfl rfl ?_
              refine ezw_getfield rfl hO rfl rfl rfl ?_
              refine ezw_iload rfl rfl ?_
              refine ezw_call3_3 rfl (by omega) rfl rfl (ezc_putI hA rfl (by omega) (by omega) (by omega)) ?_
              rintro _ _ ⟨rfl, rfl⟩
              refine ezw_aload_n rfl rfl ?_
              refine ezw_dup rfl rfl ?_
              refine ezw_getfield rfl ((ezw_un (by decide)).trans hO) rfl rfl rfl ?_
              refine ezw_iconst (1) rfl rfl ?_
              refine ezw_iadd rfl rfl ?_
              refine ezw_putf_i rfl ((ezw_un (by decide)).trans hO) rfl rfl rfl ?_
              refine ezw_iinc (-8) rfl rfl rfl rfl rfl ?_
              refine ezw_goto rfl rfl ?_
              rw [ezf_t ⟨by omega, by omega⟩]
              exact ezw_Emono (fun _ _ h => ezf_step h) (ih (ezw_fu f 2 (f 2 + 1)) _ ezw_ug ((ezw_un (by decide)).trans ezw_ug) _ _ _ (by show 0 ≤ f 2 + 1; omega) (by show f 2 + 1 ≤ 1000; omega) (by omega) (by omega))
        · refine ezw_iconst (1) rfl rfl ?_
          refine ezw_goto rfl rfl ?_
          refine ezw_istore rfl rfl ?_
          refine ezw_iload rfl rfl ?_
          refine ezw_if_eq rfl rfl ⟨by omega, by omega⟩ (fun h47 => ?_) (fun h47 => ?_)
          · refine ezw_iinc (-8) rfl rfl rfl rfl rfl ?_
            refine ezw_goto rfl rfl ?_
            rw [ezf_f (by omega)]
            exact ih _ _ hO hA _ _ _ hs0 hs1 (by omega) (by omega)
          · refine ezw_aload_n rfl rfl ?_
            refine ezw_getfield rfl hO rfl rfl rfl ?_
            refine ezw_sipush (1000) rfl rfl ?_
            refine ezw_icmp_ge rfl rfl ⟨by omega, by omega⟩ ⟨by omega, by omega⟩ (fun h57 => ?_) (fun h57 => ?_)
            · refine ezw_iinc (-8) rfl rfl rfl rfl rfl ?_
              refine ezw_goto rfl rfl ?_
              rw [ezf_f (by omega)]
              exact ih _ _ hO hA _ _ _ hs0 hs1 (by omega) (by omega)
            · refine ezw_aload_n rfl rfl ?_
              refine ezw_getfield rfl hO rfl rfl rfl ?_
              refine ezw_aload_n rfl rfl ?_
              refine ezw_getfield rfl hO rfl rfl rfl ?_
              refine ezw_iload rfl rfl ?_
              refine ezw_call3_3 rfl (by omega) rfl rfl (ezc_putI hA rfl (by omega) (by omega) (by omega)) ?_
              rintro _ _ ⟨rfl, rfl⟩
              refine ezw_aload_n rfl rfl ?_
              refine ezw_dup rfl rfl ?_
              refine ezw_getfield rfl ((ezw_un (by decide)).trans hO) rfl rfl rfl ?_
              refine ezw_iconst (1) rfl rfl ?_
              refine ezw_iadd rfl rfl ?_
              refine ezw_putf_i rfl ((ezw_un (by decide)).trans hO) rfl rfl rfl ?_
              refine ezw_iinc (-8) rfl rfl rfl rfl rfl ?_
              refine ezw_goto rfl rfl ?_
              rw [ezf_t ⟨by omega, by omega⟩]
              exact ezw_Emono (fun _ _ h => ezf_step h) (ih (ezw_fu f 2 (f 2 + 1)) _ ezw_ug ((ezw_un (by decide)).trans ezw_ug) _ _ _ (by show 0 ≤ f 2 + 1; omega) (by show f 2 + 1 ≤ 1000; omega) (by omega) (by omega))
theorem ezc_addEight {v : Int} {f : Nat → Int} {a : Int → Int} (hv : ezw_il v) (hO : g 1 = ezw_obj 7 ezw_rfK f) (hA : g 2 = ezw_ca 1000 a) (hs0 : 0 ≤ f 2) (hs1 : f 2 ≤ 1000) (hd : 1 ≤ d) : ezw_C l ρ B xa Hb D cA 20 d [ezw_p 1, ezw_l v] g (ezf_post 7 1 2 ezw_rfK g f (ezf v 8 (f 2) a)) := by
  refine ezw_met (k := 3) rfl rfl ?_
  refine ezw_bipush (56) rfl rfl ?_
  refine ezw_istore_n rfl rfl ?_
  exact ezc_addEightL hv hd 8 f a hO hA 56 none none hs0 hs1 (by omega) (by omega)
theorem ezc_layL {v : Int} (hv : ezw_il v) (hd : 1 ≤ d) (n : Nat) : ∀ {g : Nat → ezq_C} (f : Nat → Int) (a : Int → Int) (hO : g 72 = ezw_obj 12 ezw_rfM f) (hA : g 73 = ezw_ca 1000 a) (sh : Int) (l4 : Option ezq_V) (hs0 : 0 ≤ f 2) (hs1 : f 2 ≤ 1000), n ≤ 8 → sh = 8 * (n : Int) - 8 → ezw_E l ρ B xa Hb D cA d ezq_re211 (ezf_post 12 72 73 ezw_rfM g f (ezf v n (f 2) a)) 3 [some (ezw_p 72), some (ezw_l v), none, some (ezw_i sh), l4] [] g := by
  induction n with
  | zero =>
    intro g f a hO hA sh l4 hs0 hs1 n8 hsh
    refine ezw_iload_n rfl rfl ?_
    refine ezw_if_lt rfl rfl ⟨by omega, by omega⟩ (fun h4 => ?_) (fun h4 => ?_)
    rotate_left
    · exact absurd h4 (by omega)
    exact ezw_return rfl rfl ⟨rfl, f, hO, fun _ _ => rfl, rfl, hA, fun _ _ _ => rfl⟩
  | succ n ih =>
    intro g f a hO hA sh l4 hs0 hs1 n8 hsh
    refine ezw_iload_n rfl rfl ?_
    refine ezw_if_lt rfl rfl ⟨by omega, by omega⟩ (fun h4 => ?_) (fun h4 => ?_)
    · exact absurd h4 (by omega)
    refine ezw_lload_n rfl rfl ?_
    refine ezw_iload_n rfl rfl ?_
    refine ezw_lshr rfl hv (by omega) (by omega) (k := v / 2 ^ (8 * n)) (by rw [show sh.toNat = 8 * n by omega]) ?_
    refine ezw_l2i rfl rfl ?_
    refine ezw_sipush (255) rfl rfl ?_
    refine ezw_iand rfl (ezf_sg v n (by omega)) ?_
    refine ezw_istore rfl rfl ?_
    have b0 := ezf_b01 v n
    refine ezw_iload rfl rfl ?_
    refine ezw_bipush (10) rfl rfl ?_
    refine ezw_icmp_eq rfl rfl ⟨by omega, by omega⟩ ⟨by omega, by omega⟩ (fun h21 => ?_) (fun h21 => ?_)
    · refine ezw_aload_n rfl rfl ?_
      refine ezw_getfield rfl hO rfl rfl rfl ?_
      refine ezw_sipush (1000) rfl rfl ?_
      refine ezw_icmp_ge rfl rfl ⟨by omega, by omega⟩ ⟨by omega, by omega⟩ (fun h45 => ?_) (fun h45 => ?_)
      · refine ezw_iinc (-8) rfl rfl rfl rfl rfl ?_
        refine ezw_goto rfl rfl ?_
        rw [ezf_f (by omega)]
        exact ih _ _ hO hA _ _ hs0 hs1 (by omega) (by omega)
      · refine ezw_aload_n rfl rfl ?_
        refine ezw_getfield rfl hO rfl rfl rfl ?_
        refine ezw_aload_n rfl rfl ?_
        refine ezw_getfield rfl hO rfl rfl rfl ?_
        refine ezw_iload rfl rfl ?_
        refine ezw_iastore rfl hA rfl (by omega) (by omega) (by omega) ?_
        refine ezw_aload_n rfl rfl ?_
        refine ezw_dup rfl rfl ?_
        refine ezw_getfield rfl ((ezw_un (by decide)).trans hO) rfl rfl rfl ?_
        refine ezw_iconst (1) rfl rfl ?_
        refine ezw_iadd rfl rfl ?_
        refine ezw_putf_i rfl ((ezw_un (by decide)).trans hO) rfl rfl rfl ?_
        refine ezw_iinc (-8) rfl rfl rfl rfl rfl ?_
        refine ezw_goto rfl rfl ?_
        rw [ezf_t ⟨by omega, by omega⟩]
        exact ezw_Emono (fun _ _ h => ezf_step h) (ih (ezw_fu f 2 (f 2 + 1)) _ ezw_ug ((ezw_un (by decide)).trans ezw_ug) _ _ (by show 0 ≤ f 2 + 1; omega) (by show f 2 + 1 ≤ 1000; omega) (by omega) (by omega))
    · refine ezw_iload rfl rfl ?_
      refine ezw_bipush (32) rfl rfl ?_
      refine ezw_icmp_lt rfl rfl ⟨by omega, by omega⟩ ⟨by omega, by omega⟩ (fun h28 => ?_) (fun h28 => ?_)
      · refine ezw_iinc (-8) rfl rfl rfl rfl rfl ?_
        refine ezw_goto rfl rfl ?_
        rw [ezf_f (by omega)]
        exact ih _ _ hO hA _ _ hs0 hs1 (by omega) (by omega)
      · refine ezw_iload rfl rfl ?_
        refine ezw_bipush (126) rfl rfl ?_
        refine ezw_icmp_gt rfl rfl ⟨by omega, by omega⟩ ⟨by omega, by omega⟩ (fun h35 => ?_) (fun h35 => ?_)
        · refine ezw_iinc (-8) rfl rfl rfl rfl rfl ?_
          refine ezw_goto rfl rfl ?_
          rw [ezf_f (by omega)]
          exact ih _ _ hO hA _ _ hs0 hs1 (by omega) (by omega)
        · refine ezw_aload_n rfl rfl ?_
          refine ezw_getfield rfl hO rfl rfl rfl ?_
          refine ezw_sipush (1000) rfl rfl ?_
          refine ezw_icmp_ge rfl rfl ⟨by omega, by omega⟩ ⟨by omega, by omega⟩ (fun h45 => ?_) (fun h45 => ?_)
          · refine ezw_iinc (-8) rfl rfl rfl rfl rfl ?_
            refine ezw_goto rfl rfl ?_
            rw [ezf_f (by omega)]
            exact ih _ _ hO hA _ _ hs0 hs1 (by omega) (by omega)
          · refine ezw_aload_n rfl rfl ?_
            refine ezw_getfield rfl hO rfl rfl rfl ?_
            refine ezw_aload_n rfl rfl ?_
            refine ezw_getfield rfl hO rfl rfl rfl ?_
            refine ezw_iload rfl rfl ?_
            refine ezw_iastore rfl hA rfl (by omega) (by omega) (by omega) ?_
            refine ezw_aload_n rfl rfl ?_
            refine ezw_dup rfl rfl ?_
            refine ezw_getfield rfl ((ezw_un (by decide)).trans hO) rfl rfl rfl ?_
            refine ezw_iconst (1) rfl rfl ?_
            refine ezw_iadd rfl rfl ?_
            refine ezw_putf_i rfl ((ezw_un (by decide)).trans hO) rfl rfl rfl ?_
            refine ezw_iinc (-8) rfl rfl rfl rfl rfl ?_
            refine ezw_goto rfl rfl ?_
            rw [ezf_t ⟨by omega, by omega⟩]
            exact ezw_Emono (fun _ _ h => ezf_step h) (ih (ezw_fu f 2 (f 2 + 1)) _ ezw_ug ((ezw_un (by decide)).trans ezw_ug) _ _ (by show 0 ≤ f 2 + 1; omega) (by show f 2 + 1 ≤ 1000; omega) (by omega) (by omega))
theorem ezc_lay {v : Int} {f : Nat → Int} {a : Int → Int} (hv : ezw_il v) (hO : g 72 = ezw_obj 12 ezw_rfM f) (hA : g 73 = ezw_ca 1000 a) (hs0 : 0 ≤ f 2) (hs1 : f 2 ≤ 1000) (hd : 1 ≤ d) : ezw_C l ρ B xa Hb D cA 211 d [ezw_p 72, ezw_l v] g (ezf_post 12 72 73 ezw_rfM g f (ezf v 8 (f 2) a)) := by
  refine ezw_met (k := 2) rfl rfl ?_
  refine ezw_bipush (56) rfl rfl ?_
  refine ezw_istore_n rfl rfl ?_
  exact ezc_layL hv hd 8 f a hO hA 56 none hs0 hs1 (by omega) (by omega)
def ezf3 (x y z : Int) (s : Int) (a : Int → Int) : Int × (Int → Int) := ezf z 8 (ezf y 8 (ezf x 8 s a).1 (ezf x 8 s a).2).1 (ezf y 8 (ezf x 8 s a).1 (ezf x 8 s a).2).2
def ezf_postf (ci qo qa : Nat) (rf : Nat → Nat) (g : Nat → ezq_C) (f : Nat → Int) (r : Int × (Int → Int)) : Option ezq_V → (Nat → ezq_C) → Prop := fun v g' => some (ezw_i r.1) = v ∧ ∃ f', g' qo = ezw_obj ci rf f' ∧ (∀ k, k ≠ 2 → f' k = f k) ∧ f' 2 = r.1 ∧ g' qa = ezw_ca 1000 r.2 ∧ ∀ q, q ≠ qo → q ≠ qa → g' q = g q
theorem ezc_feed {x y z : Int} (hx : ezw_il x) (hy : ezw_il y) (hz : ezw_il z) {e : Bool × Bool} {fX f : Nat → Int} {a : Int → Int} (hX : g 0 = ezw_obj 11 (ezw_rfX e) fX) (hO : g 1 = ezw_obj 7 ezw_rfK f) (hA : g 2 = ezw_ca 1000 a) (hs0 : 0 ≤ f 2) (hs1 : f 2 ≤ 1000) (hd : 2 ≤ d) : ezw_C l ρ B xa Hb D cA 19 d [ezw_p 0, ezw_l x, ezw_l y, ezw_l z] g (ezf_postf 7 1 2 ezw_rfK g f (ezf3 x y z (f 2) a)) := by
  refine ezw_met (k := 0) rfl rfl ?_
  refine ezw_aload_n rfl rfl ?_
  refine ezw_getfield rfl hX rfl rfl rfl ?_
  refine ezw_lload_n rfl rfl ?_
  refine ezw_call0_1 rfl (by omega) hO rfl rfl rfl rfl (ezc_addEight hx hO hA hs0 hs1 (by omega)) ?_
  rintro _ g1 ⟨rfl, f1, o1, k1, s1, a1, q1⟩
  have le1 : 0 ≤ f1 2 ∧ f1 2 ≤ 1000 := by
    rw [s1]
    exact ⟨Int.le_trans hs0 (ezf_le _ 8 _ _ hs1).1, (ezf_le _ 8 _ _ hs1).2⟩
  refine ezw_aload_n rfl rfl ?_
  refine ezw_getfield rfl ((q1 0 (by decide) (by decide)).trans hX) rfl rfl rfl ?_
  refine ezw_lload_n rfl rfl ?_
  refine ezw_call0_1 rfl (by omega) o1 rfl rfl rfl rfl (ezc_addEight hy o1 a1 (le1).1 (le1).2 (by omega)) ?_
  rintro _ g2 ⟨rfl, f2, o2, k2, s2, a2, q2⟩
  have le2 : 0 ≤ f2 2 ∧ f2 2 ≤ 1000 := by
    rw [s2]
    exact ⟨Int.le_trans (le1).1 (ezf_le _ 8 _ _ (le1).2).1, (ezf_le _ 8 _ _ (le1).2).2⟩
  refine ezw_aload_n rfl rfl ?_
  refine ezw_getfield rfl ((q2 0 (by decide) (by decide)).trans ((q1 0 (by decide) (by decide)).trans hX)) rfl rfl rfl ?_
  refine ezw_lload rfl rfl ?_
  refine ezw_call0_1 rfl (by omega) o2 rfl rfl rfl rfl (ezc_addEight hz o2 a2 (le2).1 (le2).2 (by omega)) ?_
  rintro _ g3 ⟨rfl, f3, o3, k3, s3, a3, q3⟩
  have le3 : 0 ≤ f3 2 ∧ f3 2 ≤ 1000 := by
    rw [s3]
    exact ⟨Int.le_trans (le2).1 (ezf_le _ 8 _ _ (le2).2).1, (ezf_le _ 8 _ _ (le2).2).2⟩
  refine ezw_aload_n rfl rfl ?_
  refine ezw_getfield rfl ((q3 0 (by decide) (by decide)).trans ((q2 0 (by decide) (by decide)).trans ((q1 0 (by decide) (by decide)).trans hX))) rfl rfl rfl ?_
  refine ezw_getfield rfl o3 rfl rfl rfl ?_
  exact ezw_ireturn rfl rfl ⟨by rw [s3, s2, s1]; rfl, f3, o3, fun k hk => by rw [k3 k hk, k2 k hk, k1 k hk], by rw [s3, s2, s1]; rfl, by rw [a3, s2, s1]; rfl, fun q hq hq2 => by rw [q3 q hq hq2, q2 q hq hq2, q1 q hq hq2]⟩
theorem ezc_feedM {x y z : Int} (hx : ezw_il x) (hy : ezw_il y) (hz : ezw_il z) {f : Nat → Int} {a : Int → Int} (hO : g 72 = ezw_obj 12 ezw_rfM f) (hA : g 73 = ezw_ca 1000 a) (hs0 : 0 ≤ f 2) (hs1 : f 2 ≤ 1000) (hd : 2 ≤ d) : ezw_C l ρ B xa Hb D cA 210 d [ezw_p 72, ezw_l x, ezw_l y, ezw_l z] g (ezf_postf 12 72 73 ezw_rfM g (ezw_fu f 0 0) (ezf3 x y z (f 2) a)) := by
  refine ezw_met (k := 0) rfl rfl ?_
  refine ezw_aload_n rfl rfl ?_
  refine ezw_iconst (0) rfl rfl ?_
  refine ezw_putf_i rfl hO rfl rfl rfl ?_
  refine ezw_aload_n rfl rfl ?_
  refine ezw_lload_n rfl rfl ?_
  refine ezw_call0_1 rfl (by omega) ezw_ug rfl rfl rfl rfl (ezc_lay hx ezw_ug ((ezw_un (by decide)).trans hA) hs0 hs1 (by omega)) ?_
  rintro _ g1 ⟨rfl, f1, o1, k1, s1, a1, q1⟩
  have le1 : 0 ≤ f1 2 ∧ f1 2 ≤ 1000 := by
    rw [s1]
    exact ⟨Int.le_trans hs0 (ezf_le _ 8 _ _ hs1).1, (ezf_le _ 8 _ _ hs1).2⟩
  refine ezw_aload_n rfl rfl ?_
  refine ezw_lload_n rfl rfl ?_
  refine ezw_call0_1 rfl (by omega) o1 rfl rfl rfl rfl (ezc_lay hy o1 a1 (le1).1 (le1).2 (by omega)) ?_
  rintro _ g2 ⟨rfl, f2, o2, k2, s2, a2, q2⟩
  have le2 : 0 ≤ f2 2 ∧ f2 2 ≤ 1000 := by
    rw [s2]
    exact ⟨Int.le_trans (le1).1 (ezf_le _ 8 _ _ (le1).2).1, (ezf_le _ 8 _ _ (le1).2).2⟩
  refine ezw_aload_n rfl rfl ?_
  refine ezw_lload rfl rfl ?_
  refine ezw_call0_1 rfl (by omega) o2 rfl rfl rfl rfl (ezc_lay hz o2 a2 (le2).1 (le2).2 (by omega)) ?_
  rintro _ g3 ⟨rfl, f3, o3, k3, s3, a3, q3⟩
  have le3 : 0 ≤ f3 2 ∧ f3 2 ≤ 1000 := by
    rw [s3]
    exact ⟨Int.le_trans (le2).1 (ezf_le _ 8 _ _ (le2).2).1, (ezf_le _ 8 _ _ (le2).2).2⟩
  refine ezw_aload_n rfl rfl ?_
  refine ezw_getfield rfl o3 rfl rfl rfl ?_
  exact ezw_ireturn rfl rfl ⟨by rw [s3, s2, s1]; rfl, f3, o3, fun k hk => by rw [k3 k hk, k2 k hk, k1 k hk], by rw [s3, s2, s1]; rfl, by rw [a3, s2, s1]; rfl, fun q hq hq2 => by rw [q3 q hq hq2, q2 q hq hq2, q1 q hq hq2]; exact ezw_un hq⟩
end KM
