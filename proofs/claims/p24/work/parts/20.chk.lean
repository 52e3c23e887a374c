theorem chk_t0 : (List.range' 0 20).all aCheck = true := by decide +kernel
