/-! the checks of the contracts -/
theorem chk_528 : aCheck 528 = true := by decide +kernel
