set_option maxRecDepth 100000 in
theorem ezq_ww1 : ezq_lawF 10000000 (ezq_gm 8 1 12 7 7) = true := by decide +kernel
set_option maxRecDepth 100000 in
theorem ezq_ww2 : ezq_lawF 10000000 (ezq_gm 8 13 20 7 7) = true := by decide +kernel
set_option maxRecDepth 100000 in
theorem ezq_ww3 : ezq_lawF 10000000 (ezq_gm 8 22 24 7 7) = true := by decide +kernel
set_option maxRecDepth 100000 in
theorem ezq_ww4 : ezq_lawF 10000000 (ezq_gm 8 28 28 7 7) = true := by decide +kernel
set_option maxRecDepth 100000 in
theorem ezq_ww5 : ezq_lawF 10000000 (ezq_gm 8 30 31 7 7) = true := by decide +kernel
set_option maxRecDepth 100000 in
theorem ezq_ww6 : ezq_lawF 10000000 (ezq_gm 8 0 31 0 6) = true := by decide +kernel
