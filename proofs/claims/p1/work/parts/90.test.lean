set_option maxRecDepth 100000 in
theorem ezq_ww21 : ezq_lawF 10000000 (ezq_gm 8 21 21 7 7) = true := by decide +kernel
