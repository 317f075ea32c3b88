set_option maxRecDepth 100000 in
theorem ezq_r0 : ezq_lawF 10000000 (ezq_gm 8 0 0 7 7) = true := by decide +kernel
set_option maxRecDepth 100000 in
theorem ezq_r1 : ezq_lawF 10000000 (ezq_gm 8 1 12 7 7) = true := by decide +kernel
set_option maxRecDepth 100000 in
theorem ezq_r13 : ezq_lawF 10000000 (ezq_gm 8 13 20 7 7) = true := by decide +kernel
set_option maxRecDepth 100000 in
theorem ezq_r21 : ezq_lawF 10000000 (ezq_gm 8 21 31 7 7) = true := by decide +kernel
set_option maxRecDepth 100000 in
theorem ezq_r32 : ezq_lawF 10000000 (ezq_gm 8 0 31 0 6) = true := by decide +kernel
