theorem ezq_cks {r : ezq_R} {i pc : Nat} (h : ((List.range 102).all fun j => ezq_ck r (102 * i + j)) = true) (h1 : 102 * i ≤ pc) (h2 : pc < 102 * i + 102) : ezq_ck r pc = true := by
  have h3 : ezq_ck r (102 * i + (pc - 102 * i)) = true := List.all_eq_true.mp h (pc - 102 * i) (List.mem_range.mpr (by omega))
  rwa [show 102 * i + (pc - 102 * i) = pc by omega] at h3
theorem ezq_ck336_0 : ((List.range 102).all fun j => ezq_ck ezq_re336 (102 * 0 + j)) = true := by decide +kernel
theorem ezq_ck336_1 : ((List.range 102).all fun j => ezq_ck ezq_re336 (102 * 1 + j)) = true := by decide +kernel
theorem ezq_ck336_2 : ((List.range 102).all fun j => ezq_ck ezq_re336 (102 * 2 + j)) = true := by decide +kernel
theorem ezq_ck336_3 : ((List.range 102).all fun j => ezq_ck ezq_re336 (102 * 3 + j)) = true := by decide +kernel
theorem ezq_ck336_4 : ((List.range 102).all fun j => ezq_ck ezq_re336 (102 * 4 + j)) = true := by decide +kernel
theorem ezq_ck336_5 : ((List.range 102).all fun j => ezq_ck ezq_re336 (102 * 5 + j)) = true := by decide +kernel
theorem ezq_ck336_6 : ((List.range 102).all fun j => ezq_ck ezq_re336 (102 * 6 + j)) = true := by decide +kernel
theorem ezq_ck336_7 : ((List.range 102).all fun j => ezq_ck ezq_re336 (102 * 7 + j)) = true := by decide +kernel
theorem ezq_ck336_8 : ((List.range 102).all fun j => ezq_ck ezq_re336 (102 * 8 + j)) = true := by decide +kernel
theorem ezq_ck336_9 : ((List.range 102).all fun j => ezq_ck ezq_re336 (102 * 9 + j)) = true := by decide +kernel
theorem ezq_ck336_10 : ((List.range 102).all fun j => ezq_ck ezq_re336 (102 * 10 + j)) = true := by decide +kernel
theorem ezq_ck336_11 : ((List.range 102).all fun j => ezq_ck ezq_re336 (102 * 11 + j)) = true := by decide +kernel
theorem ezq_gd336 : ezq_Good ezq_re336 := by
  refine ezq_mkGood _ rfl (List.all_eq_true.mpr fun pc h => ?_)
  have h := List.mem_range.mp h
  rcases Nat.lt_or_ge pc 102 with g0 | g0
  · exact ezq_cks ezq_ck336_0 (by omega) (by omega)
  rcases Nat.lt_or_ge pc 204 with g1 | g1
  · exact ezq_cks ezq_ck336_1 (by omega) (by omega)
  rcases Nat.lt_or_ge pc 306 with g2 | g2
  · exact ezq_cks ezq_ck336_2 (by omega) (by omega)
  rcases Nat.lt_or_ge pc 408 with g3 | g3
  · exact ezq_cks ezq_ck336_3 (by omega) (by omega)
  rcases Nat.lt_or_ge pc 510 with g4 | g4
  · exact ezq_cks ezq_ck336_4 (by omega) (by omega)
  rcases Nat.lt_or_ge pc 612 with g5 | g5
  · exact ezq_cks ezq_ck336_5 (by omega) (by omega)
  rcases Nat.lt_or_ge pc 714 with g6 | g6
  · exact ezq_cks ezq_ck336_6 (by omega) (by omega)
  rcases Nat.lt_or_ge pc 816 with g7 | g7
  · exact ezq_cks ezq_ck336_7 (by omega) (by omega)
  rcases Nat.lt_or_ge pc 918 with g8 | g8
  · exact ezq_cks ezq_ck336_8 (by omega) (by omega)
  rcases Nat.lt_or_ge pc 1020 with g9 | g9
  · exact ezq_cks ezq_ck336_9 (by omega) (by omega)
  rcases Nat.lt_or_ge pc 1122 with g10 | g10
  · exact ezq_cks ezq_ck336_10 (by omega) (by omega)
  exact ezq_cks ezq_ck336_11 (by omega) (by omega)
