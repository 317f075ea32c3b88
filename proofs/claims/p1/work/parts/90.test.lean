set_option maxRecDepth 100000 in
theorem ezq_ww21 : ezq_lawF 10000000 (ezq_up (ezq_gm 8 21 21 7 7) 1 2147483648 2147483648) = true := by decide +kernel
set_option maxRecDepth 100000 in
theorem ezq_ww25 : ezq_lawF 10000000 (ezq_up (ezq_gm 17 25 25 7 7) 1 2147483648 2147483648) = true := by decide +kernel
set_option maxRecDepth 100000 in
theorem ezq_ww29 : ezq_lawF 10000000 (ezq_up (ezq_up (ezq_gm 8 29 29 7 7) 3 2147483649 2147483649) 4 2147483648 2147483648) = true := by decide +kernel
