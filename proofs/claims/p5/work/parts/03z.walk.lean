/-! ===== a method's bytes walked down, once ===== -/
def ezd_h (l : List UInt8) : Nat := match l with
  | [] => 256
  | u :: _ => u.toNat
theorem ezd_hh (l : List UInt8) : ezd_h l = (match l.head? with
  | some u => u.toNat
  | none => 256) := by
  cases l <;> rfl
theorem ezd_byd (code : ByteArray) (p : Nat) : ezd_by code p = ezd_h (code.data.toList.drop p) := by
  rw [ezd_hh, List.head?_drop, Array.getElem?_toList]
  rfl
def ezd_go (r : ezq_R) (code : ByteArray) : List UInt8 → Nat → Bool
  | [], _ => true
  | a :: t, pc => (match r.1 pc with
    | none => true
    | some e => (ezd_vf (fun k => ezd_h ((a :: t).drop k)) e.1 e.2.1 || decide (decode code pc = .ok (e.1, e.2.1))) && ezq_lk r.2.2.1 r.2.2.2.2.1 (decide (r.2.2.2.1.name = "<init>")) pc e) && ezd_go r code t (pc + 1)
theorem ezd_go_ok {r : ezq_R} {code : ByteArray} : ∀ (l : List UInt8) (pc : Nat), code.data.toList.drop pc = l → ezd_go r code l pc = true → ∀ q e, pc ≤ q → q < pc + l.length → r.1 q = some e → decode code q = .ok (e.1, e.2.1) ∧ ezq_lk r.2.2.1 r.2.2.2.2.1 (decide (r.2.2.2.1.name = "<init>")) q e = true := by
  intro l
  induction l with
  | nil => exact fun pc _ _ q e h1 h2 => absurd h2 (by show ¬ q < pc + 0; omega)
  | cons a t ih =>
    intro pc hl h q e h1 h2 he
    have hx : (match r.1 pc with
      | none => true
      | some e => (ezd_vf (fun k => ezd_h ((a :: t).drop k)) e.1 e.2.1 || decide (decode code pc = .ok (e.1, e.2.1))) && ezq_lk r.2.2.1 r.2.2.2.2.1 (decide (r.2.2.2.1.name = "<init>")) pc e) = true ∧ ezd_go r code t (pc + 1) = true := (Bool.and_eq_true _ _).mp h
    by_cases hq : q = pc
    · subst hq
      have h3 := hx.1
      rw [he] at h3
      obtain ⟨h4, h5⟩ := (Bool.and_eq_true _ _).mp h3
      refine ⟨?_, h5⟩
      rcases (Bool.or_eq_true _ _).mp h4 with h6 | h6
      · have hf : (fun k => ezd_h ((a :: t).drop k)) = (fun k => ezd_by code (q + k)) := by
          funext k
          rw [ezd_byd, ← hl, List.drop_drop]
        rw [hf] at h6
        exact ezd_ok h6
      · exact of_decide_eq_true h6
    · have ht : code.data.toList.drop (pc + 1) = t := by
        rw [← List.drop_drop, hl]
        rfl
      exact ih (pc + 1) ht hx.2 q e (by omega) (by simp only [List.length_cons] at h2; omega) he
def ezd_ck (r : ezq_R) (n : Nat) : Bool := Nat.ble n (ezq_byt r.2.1).data.toList.length && ezd_go r (ezq_byt r.2.1) (ezq_byt r.2.1).data.toList 0
theorem ezd_mkGood {n : Nat} {f : Nat → Option ezq_Y} (r : ezq_R) (hr : r.1 = ezq_lim n f) (hc : ezd_ck r n = true) : ezq_Good r := by
  intro pc e he
  have hlt : pc < n := by
    rcases Nat.lt_or_ge pc n with h | h
    · exact h
    · rw [hr] at he
      simp [ezq_lim, Nat.ble_eq_true_of_le h] at he
  obtain ⟨h1, h2⟩ := (Bool.and_eq_true _ _).mp hc
  exact ezd_go_ok (ezq_byt r.2.1).data.toList 0 rfl h2 pc e (Nat.zero_le _) (by have := Nat.le_of_ble_eq_true h1; omega) he
