set_option maxRecDepth 100000 in
theorem ezq_ww21 : ezq_lawF 10000000 (ezq_gm 8 21 21 7 7) = true := by decide +kernel
set_option maxRecDepth 100000 in
theorem ezq_ww29 : ezq_lawF 10000000 (ezq_gm 8 29 29 7 7) = true := by decide +kernel
set_option maxRecDepth 100000 in
theorem ezq_ww27 : ezq_lawF 10000000 (ezq_up (ezq_up (ezq_gm 20 27 27 7 7) 1 2147483653 2147483653) 2 2147483655 2147483655) = true := by decide +kernel
