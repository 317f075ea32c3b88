def ezq_g0 (k : Nat) : ezq_G := fun j => match j with
  | 7 => (2147483648 + k, 2147483648 + k)
  | 8 => (2147483655, 2147483655)
  | 9 => (2147483648, 2147483648)
  | _ => (0, 4294967295)
def ezq_ko : ezq_KK Bool := fun _ v _ _ => match v with
  | some (.inl (.inl 1)) => true
  | _ => false
noncomputable def ezq_law (n k : Nat) : Bool := ezq_run false (fun _ a b => a && b) n 30 (ezq_g0 k) ezq_re336 0 [(0, ezq_xt 0)] [] 0 (ezq_te 7) 0 0 1000000000 (fun _ _ _ _ _ _ _ => false) ezq_ko
set_option maxRecDepth 100000 in
theorem ezq_test14 : ezq_law 1000000 14 = true := by decide +kernel
