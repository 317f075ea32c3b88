/-! ===== what a line tells ===== -/
theorem ezp_n_c {c : Int → Int} {a b b' : Int} {s : Int × Int} (h : s.1 = 0 → b = b') : ezp_n c a b s = ezp_n c a b' s := by
  by_cases e : s.1 = 0
  · rw [h e]
  · rw [ezp_n_n e, ezp_n_n e]
theorem ezp_tk_1 {c : Int → Int} {w : Int} {s : Int × Int} (h : s.1 = 0 ∧ ezp_K c s.2 = w) : ezp_tk c w s = ezp_t s := if_pos h
theorem ezp_tk_0 {c : Int → Int} {w : Int} {s : Int × Int} (h : ¬ (s.1 = 0 ∧ ezp_K c s.2 = w)) : ezp_tk c w s = s := if_neg h
def ezp_tw2 (c : Int → Int) (t : ezp_D) (s : Int × Int) : Int × Int := ezp_w c 1 (ezp_nn c t.nT t.kT t.nH t.kH s)
def ezp_tw4 (c : Int → Int) (t : ezp_D) (s : Int × Int) : Int × Int := ezp_w c 2 (ezp_n c 1 60 (ezp_tw2 c t s))
def ezp_tw6 (c : Int → Int) (t : ezp_D) (s : Int × Int) : Int × Int := ezp_w c 3 (ezp_n c 1 20 (ezp_tw4 c t s))
def ezp_tw7 (c : Int → Int) (t : ezp_D) (s : Int × Int) : Int × Int := ezp_o c 30 4 (ezp_tw6 c t s)
def ezp_twS (c : Int → Int) (t : ezp_D) (s : Int × Int) : Int × Int := if (ezp_tw7 c t s).1 = 0 ∧ ezp_K c (ezp_tw7 c t s).2 = 4 then ezp_ta c t.nT t.kT (ezp_tk c 4 (ezp_tw7 c t s)) else ezp_tk c 4 (ezp_tw7 c t s)
def ezp_twD (c : Int → Int) (t : ezp_D) (s : Int × Int) : ezp_D := if (ezp_twS c t s).1 = 0 then t.twig (ezp_W c s.2) (ezp_V c (ezp_tw2 c t s).2) (ezp_V c (ezp_tw4 c t s).2) (ezp_K c (ezp_tw6 c t s).2 - 30) (if (ezp_tw7 c t s).1 = 0 ∧ ezp_K c (ezp_tw7 c t s).2 = 4 then ezp_fi t.nT t.kT (ezp_W c (ezp_tk c 4 (ezp_tw7 c t s)).2) else -1) else t
section
variable {c : Int → Int} {t : ezp_D} {s : Int × Int}
theorem ezp_twS_1 (h : (ezp_tw7 c t s).1 = 0 ∧ ezp_K c (ezp_tw7 c t s).2 = 4) : ezp_twS c t s = ezp_ta c t.nT t.kT (ezp_tk c 4 (ezp_tw7 c t s)) := if_pos h
theorem ezp_twS_0 (h : (ezp_tw7 c t s).1 ≠ 0 ∨ ezp_K c (ezp_tw7 c t s).2 ≠ 4) : ezp_twS c t s = ezp_tk c 4 (ezp_tw7 c t s) := if_neg (fun z => h.elim (fun y => y z.1) (fun y => y z.2))
theorem ezp_twD_1 (h : (ezp_tw7 c t s).1 = 0 ∧ ezp_K c (ezp_tw7 c t s).2 = 4) (z : (ezp_ta c t.nT t.kT (ezp_tk c 4 (ezp_tw7 c t s))).1 = 0) : ezp_twD c t s = t.twig (ezp_W c s.2) (ezp_V c (ezp_tw2 c t s).2) (ezp_V c (ezp_tw4 c t s).2) (ezp_K c (ezp_tw6 c t s).2 - 30) (ezp_fi t.nT t.kT (ezp_W c (ezp_tk c 4 (ezp_tw7 c t s)).2)) := by
  unfold ezp_twD
  rw [if_pos (by rw [ezp_twS_1 h]; exact z), if_pos h]
theorem ezp_twD_0 (h : (ezp_tw7 c t s).1 ≠ 0 ∨ ezp_K c (ezp_tw7 c t s).2 ≠ 4) (z : (ezp_tk c 4 (ezp_tw7 c t s)).1 = 0) : ezp_twD c t s = t.twig (ezp_W c s.2) (ezp_V c (ezp_tw2 c t s).2) (ezp_V c (ezp_tw4 c t s).2) (ezp_K c (ezp_tw6 c t s).2 - 30) (-1) := by
  unfold ezp_twD
  rw [if_pos (by rw [ezp_twS_0 h]; exact z), if_neg (fun z => h.elim (fun y => y z.1) (fun y => y z.2))]
theorem ezp_twD_1n (h : (ezp_tw7 c t s).1 = 0 ∧ ezp_K c (ezp_tw7 c t s).2 = 4) (z : (ezp_ta c t.nT t.kT (ezp_tk c 4 (ezp_tw7 c t s))).1 ≠ 0) : ezp_twD c t s = t := by
  unfold ezp_twD
  rw [if_neg (by rw [ezp_twS_1 h]; exact z)]
theorem ezp_twD_0n (h : (ezp_tw7 c t s).1 ≠ 0 ∨ ezp_K c (ezp_tw7 c t s).2 ≠ 4) (z : (ezp_tk c 4 (ezp_tw7 c t s)).1 ≠ 0) : ezp_twD c t s = t := by
  unfold ezp_twD
  rw [if_neg (by rw [ezp_twS_0 h]; exact z)]
theorem ezp_twD_nu : (ezp_twD c t s).nu = t.nu ∧ (ezp_twD c t s).di = t.di := by
  unfold ezp_twD
  split <;> exact ⟨rfl, rfl⟩
end
def ezp_th2 (c : Int → Int) (t : ezp_D) (s : Int × Int) : Int × Int := ezp_w c 7 (ezp_nn c t.nT t.kT t.nH t.kH s)
def ezp_th4 (c : Int → Int) (t : ezp_D) (s : Int × Int) : Int × Int := ezp_w c 10 (ezp_n c 0 999 (ezp_th2 c t s))
def ezp_th6 (c : Int → Int) (t : ezp_D) (s : Int × Int) : Int × Int := ezp_w c 11 (ezp_n c 0 10 (ezp_th4 c t s))
def ezp_thS (c : Int → Int) (t : ezp_D) (s : Int × Int) : Int × Int := ezp_n c 0 (10 - ezp_V c (ezp_th4 c t s).2) (ezp_th6 c t s)
def ezp_thD (c : Int → Int) (t : ezp_D) (s : Int × Int) : ezp_D := if (ezp_thS c t s).1 = 0 then t.thing (ezp_W c s.2) (ezp_V c (ezp_th2 c t s).2) (ezp_V c (ezp_th4 c t s).2) (ezp_V c (ezp_th6 c t s).2) else t
section
variable {c : Int → Int} {t : ezp_D} {s : Int × Int}
theorem ezp_thD_1 (z : (ezp_thS c t s).1 = 0) : ezp_thD c t s = t.thing (ezp_W c s.2) (ezp_V c (ezp_th2 c t s).2) (ezp_V c (ezp_th4 c t s).2) (ezp_V c (ezp_th6 c t s).2) := if_pos z
theorem ezp_thD_n (z : (ezp_thS c t s).1 ≠ 0) : ezp_thD c t s = t := if_neg z
theorem ezp_thD_nu : (ezp_thD c t s).nu = t.nu ∧ (ezp_thD c t s).di = t.di := by
  unfold ezp_thD
  split <;> exact ⟨rfl, rfl⟩
end
def ezp_ov2 (c : Int → Int) (t : ezp_D) (s : Int × Int) : Int × Int := ezp_se c t.nH t.kH (ezp_ta c t.nH t.kH s)
def ezp_ova (c : Int → Int) (t : ezp_D) (s : Int × Int) : Int := ezp_fi t.nH t.kH (ezp_W c s.2)
def ezp_ovb (c : Int → Int) (t : ezp_D) (s : Int × Int) : Int := ezp_fi t.nH t.kH (ezp_W c (ezp_ta c t.nH t.kH s).2)
def ezp_ovS (c : Int → Int) (t : ezp_D) (s : Int × Int) : Int × Int := if (ezp_ov2 c t s).1 = 0 then (if ezp_ova c t s = ezp_ovb c t s ∨ t.ah (ezp_ovb c t s) (ezp_ova c t s) = 1 then ezp_wr c 3 (ezp_ov2 c t s) else ezp_t (ezp_ov2 c t s)) else ezp_ov2 c t s
def ezp_ovD (c : Int → Int) (t : ezp_D) (s : Int × Int) : ezp_D := if (ezp_ov2 c t s).1 = 0 then (if ezp_ova c t s = ezp_ovb c t s ∨ t.ah (ezp_ovb c t s) (ezp_ova c t s) = 1 then t else t.over (ezp_ova c t s) (ezp_ovb c t s)) else t
section
variable {c : Int → Int} {t : ezp_D} {s : Int × Int}
theorem ezp_ov_n1 (z : (ezp_ta c t.nH t.kH s).1 ≠ 0) : ezp_ovS c t s = ezp_ta c t.nH t.kH s ∧ ezp_ovD c t s = t := by
  have e : ezp_ov2 c t s = ezp_ta c t.nH t.kH s := ezp_se_n z
  unfold ezp_ovS ezp_ovD
  rw [e, if_neg z, if_neg z]
  exact ⟨rfl, rfl⟩
theorem ezp_ov_n2 (z : (ezp_ov2 c t s).1 ≠ 0) : ezp_ovS c t s = ezp_ov2 c t s ∧ ezp_ovD c t s = t := ⟨if_neg z, if_neg z⟩
theorem ezp_ov_1 (z : (ezp_ov2 c t s).1 = 0) (h : ezp_ova c t s = ezp_ovb c t s ∨ t.ah (ezp_ovb c t s) (ezp_ova c t s) = 1) : ezp_ovS c t s = ezp_wr c 3 (ezp_ov2 c t s) ∧ ezp_ovD c t s = t := by
  unfold ezp_ovS ezp_ovD
  rw [if_pos z, if_pos z, if_pos h, if_pos h]
  exact ⟨rfl, rfl⟩
theorem ezp_ov_0 (z : (ezp_ov2 c t s).1 = 0) (h : ezp_ova c t s ≠ ezp_ovb c t s ∧ t.ah (ezp_ovb c t s) (ezp_ova c t s) ≠ 1) : ezp_ovS c t s = ezp_t (ezp_ov2 c t s) ∧ ezp_ovD c t s = t.over (ezp_ova c t s) (ezp_ovb c t s) := by
  unfold ezp_ovS ezp_ovD
  rw [if_pos z, if_pos z, if_neg (fun y => y.elim h.1 h.2), if_neg (fun y => y.elim h.1 h.2)]
  exact ⟨rfl, rfl⟩
theorem ezp_ovD_nu : (ezp_ovD c t s).nu = t.nu ∧ (ezp_ovD c t s).di = t.di := by
  unfold ezp_ovD
  split
  · split <;> exact ⟨rfl, rfl⟩
  · exact ⟨rfl, rfl⟩
end
def ezp_el2 (c : Int → Int) (s : Int × Int) : Int × Int := ezp_sn c 0 15 (ezp_n c 0 15 s)
def ezp_elS (c : Int → Int) (t : ezp_D) (s : Int × Int) : Int × Int := if (ezp_el2 c s).1 = 0 then (if t.el (ezp_V c s.2) (ezp_V c (ezp_n c 0 15 s).2) = 1 then ezp_wr c 3 (ezp_el2 c s) else ezp_t (ezp_el2 c s)) else ezp_el2 c s
def ezp_elD (c : Int → Int) (t : ezp_D) (s : Int × Int) : ezp_D := if (ezp_el2 c s).1 = 0 then (if t.el (ezp_V c s.2) (ezp_V c (ezp_n c 0 15 s).2) = 1 then t else t.elm (ezp_V c s.2) (ezp_V c (ezp_n c 0 15 s).2)) else t
section
variable {c : Int → Int} {t : ezp_D} {s : Int × Int}
theorem ezp_el_n (z : (ezp_el2 c s).1 ≠ 0) : ezp_elS c t s = ezp_el2 c s ∧ ezp_elD c t s = t := ⟨if_neg z, if_neg z⟩
theorem ezp_el_1 (z : (ezp_el2 c s).1 = 0) (h : t.el (ezp_V c s.2) (ezp_V c (ezp_n c 0 15 s).2) = 1) : ezp_elS c t s = ezp_wr c 3 (ezp_el2 c s) ∧ ezp_elD c t s = t := by
  unfold ezp_elS ezp_elD
  rw [if_pos z, if_pos z, if_pos h, if_pos h]
  exact ⟨rfl, rfl⟩
theorem ezp_el_0 (z : (ezp_el2 c s).1 = 0) (h : t.el (ezp_V c s.2) (ezp_V c (ezp_n c 0 15 s).2) ≠ 1) : ezp_elS c t s = ezp_t (ezp_el2 c s) ∧ ezp_elD c t s = t.elm (ezp_V c s.2) (ezp_V c (ezp_n c 0 15 s).2) := by
  unfold ezp_elS ezp_elD
  rw [if_pos z, if_pos z, if_neg h, if_neg h]
  exact ⟨rfl, rfl⟩
theorem ezp_elD_nu : (ezp_elD c t s).nu = t.nu ∧ (ezp_elD c t s).di = t.di := by
  unfold ezp_elD
  split
  · split <;> exact ⟨rfl, rfl⟩
  · exact ⟨rfl, rfl⟩
end
def ezp_ktS (c : Int → Int) (s : Int × Int) : Int × Int := ezp_n c 0 99 (ezp_w c 8 (ezp_n c 0 999 (ezp_w c 7 s)))
def ezp_ktD (c : Int → Int) (t : ezp_D) (s : Int × Int) : ezp_D := (t.say 0 (ezp_V c (ezp_w c 7 s).2)).say 1 (ezp_V c (ezp_w c 8 (ezp_n c 0 999 (ezp_w c 7 s))).2)
def ezp_wi2 (c : Int → Int) (s : Int × Int) : Int × Int := ezp_n c 0 10 (ezp_o c 30 4 s)
def ezp_wiS (c : Int → Int) (s : Int × Int) : Int × Int := ezp_n c 0 (10 - ezp_V c (ezp_o c 30 4 s).2) (ezp_wi2 c s)
def ezp_wiD (c : Int → Int) (t : ezp_D) (s : Int × Int) : ezp_D := ((t.say 2 (ezp_K c s.2 - 30)).say 3 (ezp_V c (ezp_o c 30 4 s).2)).say 4 (ezp_V c (ezp_wi2 c s).2)
def ezp_laS (c : Int → Int) (s : Int × Int) : Int × Int := ezp_n c 0 60 (ezp_w c 17 (ezp_n c 0 60 s))
def ezp_laD (c : Int → Int) (t : ezp_D) (s : Int × Int) : ezp_D := (t.say 7 (ezp_V c s.2)).say 8 (ezp_V c (ezp_w c 17 (ezp_n c 0 60 s)).2)
theorem ezt_NU_say {q : Nat} {t : ezp_D} {A A' : Nat → Int → Int} {k v : Int} (h : ezt_NU q t A) (m : A' (q + 14) k = v) (n : ∀ j, j ≠ k → A' (q + 14) j = A (q + 14) j) : ezt_NU q (t.say k v) A' := by
  intro i i0 i1
  show A' (q + 14) i = ezp_up t.nu k v i
  by_cases e : i = k
  · rw [e, ezp_up_s]
    exact m
  · rw [ezp_up_o _ _ e, n i e]
    exact h i i0 i1
/-- the string's twigs, so many at most -/
def ezp_sr (c : Int → Int) : Nat → Bool → Int × Int → ezp_D → (Int × Int) × ezp_D := fun m => match m with
  | 0 => fun _ s t => (s, t)
  | m + 1 => fun b s t => if s.1 = 0 then (if b = false ∧ ezp_K c s.2 = 259 then (s, t) else if (ezp_se c t.nT t.kT s).1 = 0 then
      (if ezp_hs t.sg (ezp_fi t.nT t.kT (ezp_W c s.2)) t.kS.toNat = true then ezp_sr c m false (ezp_wr c 3 (ezp_se c t.nT t.kT s)) t
       else if 6 ≤ t.kS then ezp_sr c m false (ezp_wr c 5 (ezp_se c t.nT t.kT s)) t
       else ezp_sr c m false (ezp_t (ezp_se c t.nT t.kT s)) (t.strg (ezp_fi t.nT t.kT (ezp_W c s.2)))) else (ezp_se c t.nT t.kT s, t)) else (s, t)
section
variable {c : Int → Int} {m : Nat} {b : Bool} {t : ezp_D} {s : Int × Int}
theorem ezp_sr_n (z : s.1 ≠ 0) : ezp_sr c m b s t = (s, t) := by
  cases m with
  | zero => rfl
  | succ m => exact if_neg z
theorem ezp_sr_e (z : s.1 = 0) (h : b = false ∧ ezp_K c s.2 = 259) : ezp_sr c (m + 1) b s t = (s, t) := (if_pos z).trans (if_pos h)
theorem ezp_sr_f (h : ¬ (b = false ∧ ezp_K c s.2 = 259)) (z2 : (ezp_se c t.nT t.kT s).1 ≠ 0) : ezp_sr c (m + 1) b s t = (ezp_se c t.nT t.kT s, t) := by
  by_cases z : s.1 = 0
  · exact (if_pos z).trans ((if_neg h).trans (if_neg z2))
  · rw [ezp_sr_n z, ezp_se_n z]
theorem ezp_sr_3 (h : ¬ (b = false ∧ ezp_K c s.2 = 259)) (z2 : (ezp_se c t.nT t.kT s).1 = 0) (h2 : ezp_hs t.sg (ezp_fi t.nT t.kT (ezp_W c s.2)) t.kS.toNat = true) : ezp_sr c (m + 1) b s t = ezp_sr c m false (ezp_wr c 3 (ezp_se c t.nT t.kT s)) t := (if_pos (ezp_0se z2)).trans ((if_neg h).trans ((if_pos z2).trans (if_pos h2)))
theorem ezp_sr_5 (h : ¬ (b = false ∧ ezp_K c s.2 = 259)) (z2 : (ezp_se c t.nT t.kT s).1 = 0) (h2 : ezp_hs t.sg (ezp_fi t.nT t.kT (ezp_W c s.2)) t.kS.toNat = false) (h3 : 6 ≤ t.kS) : ezp_sr c (m + 1) b s t = ezp_sr c m false (ezp_wr c 5 (ezp_se c t.nT t.kT s)) t := (if_pos (ezp_0se z2)).trans ((if_neg h).trans ((if_pos z2).trans ((if_neg (by rw [h2]; decide)).trans (if_pos h3))))
theorem ezp_sr_s (h : ¬ (b = false ∧ ezp_K c s.2 = 259)) (z2 : (ezp_se c t.nT t.kT s).1 = 0) (h2 : ezp_hs t.sg (ezp_fi t.nT t.kT (ezp_W c s.2)) t.kS.toNat = false) (h3 : t.kS < 6) : ezp_sr c (m + 1) b s t = ezp_sr c m false (ezp_t (ezp_se c t.nT t.kT s)) (t.strg (ezp_fi t.nT t.kT (ezp_W c s.2))) := (if_pos (ezp_0se z2)).trans ((if_neg h).trans ((if_pos z2).trans ((if_neg (by rw [h2]; decide)).trans (if_neg (by omega)))))
end
theorem ezt_TR_tn {q : Nat} {t : ezp_D} {F : Nat → Nat → Int} {A : Nat → Int → Int} (h : ezt_TR q t F A) : F q 15 = t.kT ∧ F q 16 = t.kH ∧ F q 15 ≤ 8 ∧ F q 16 ≤ 4 := ⟨h.1.1, h.1.2.1, (ezt_TR_tw h).1, (ezt_TR_tw h).2⟩
/-- what a line begins with -/
def ezp_cf (c : Int → Int) (t : ezp_D) (s : Int × Int) : Int × Int :=
  if ezp_K c s.2 = 0 then (if 8 ≤ t.kT then ezp_wr c 5 s else s)
  else if ezp_K c s.2 = 9 then (if 4 ≤ t.kH then ezp_wr c 5 s else s)
  else if ezp_K c s.2 = 20 then (if 8 ≤ t.kE then ezp_wr c 5 s else s)
  else if ezp_K c s.2 = 12 then s
  else if ezp_K c s.2 = 5 ∨ ezp_K c s.2 = 6 ∨ ezp_K c s.2 = 13 ∨ ezp_K c s.2 = 14 ∨ ezp_K c s.2 = 15 ∨ ezp_K c s.2 = 16 ∨ ezp_K c s.2 = 18 ∨ ezp_K c s.2 = 19 ∨ ezp_K c s.2 = 21 ∨ ezp_K c s.2 = 22 then (if t.di (ezp_K c s.2) = 1 then ezp_wr c 3 s else s)
  else ezp_wr c 1 s
