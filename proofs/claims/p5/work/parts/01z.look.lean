/-! ===== the table of words, by pieces of 64 (a search in the whole costs the kernel a third of a second) ===== -/
def ezg_dr : Nat → List Cond
  | 0 => lw_tbl
  | k + 1 => (ezg_dr k).drop 64
theorem ezg_dre (k : Nat) : ezg_dr k = lw_tbl.drop (64 * k) := by
  induction k with
  | zero => rfl
  | succ k ih =>
    have e : ezg_dr (k + 1) = (ezg_dr k).drop 64 := rfl
    rw [e, ih, List.drop_drop, show 64 * (k + 1) = 64 * k + 64 from by omega]
def ezg_tb (i : Nat) : Option Cond := (ezg_dr (i / 64))[i % 64]?
theorem ezg_tb_eq (i : Nat) : ezg_tb i = lw_tbl[i]? := by
  unfold ezg_tb
  rw [ezg_dre, List.getElem?_drop, Nat.div_add_mod]
