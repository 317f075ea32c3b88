set_option maxRecDepth 100000 in
theorem ezq_v13 : ezq_law 10000000 (ezq_gm 8 13 7 7) = true := by decide +kernel
set_option maxRecDepth 100000 in
theorem ezq_v15 : ezq_law 10000000 (ezq_gm 8 15 7 7) = true := by decide +kernel
set_option maxRecDepth 100000 in
theorem ezq_v16 : ezq_law 10000000 (ezq_gm 8 16 7 7) = true := by decide +kernel
set_option maxRecDepth 100000 in
theorem ezq_v17 : ezq_law 10000000 (ezq_gm 8 17 7 7) = true := by decide +kernel
set_option maxRecDepth 100000 in
theorem ezq_v18 : ezq_law 10000000 (ezq_gm 8 18 7 7) = true := by decide +kernel
set_option maxRecDepth 100000 in
theorem ezq_v19 : ezq_law 10000000 (ezq_gm 8 19 7 7) = true := by decide +kernel
set_option maxRecDepth 100000 in
theorem ezq_v20 : ezq_law 10000000 (ezq_gm 8 20 7 7) = true := by decide +kernel
set_option maxRecDepth 100000 in
theorem ezq_v28 : ezq_law 10000000 (ezq_gm 8 28 7 7) = true := by decide +kernel
set_option maxRecDepth 100000 in
theorem ezq_v30 : ezq_law 10000000 (ezq_gm 8 30 7 7) = true := by decide +kernel
set_option maxRecDepth 100000 in
theorem ezq_v31 : ezq_law 10000000 (ezq_gm 8 31 7 7) = true := by decide +kernel
