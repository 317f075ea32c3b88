set_option maxRecDepth 100000 in
theorem ezq_v7a : ezq_law 3000 (ezq_gm 8 7 7 7) = false := by decide +kernel
set_option maxRecDepth 100000 in
theorem ezq_v7b : ezq_law 6000 (ezq_gm 8 7 7 7) = false := by decide +kernel
set_option maxRecDepth 100000 in
theorem ezq_v7c : ezq_law 12000 (ezq_gm 8 7 7 7) = false := by decide +kernel
set_option maxRecDepth 100000 in
theorem ezq_v7d : ezq_law 24000 (ezq_gm 8 7 7 7) = false := by decide +kernel
