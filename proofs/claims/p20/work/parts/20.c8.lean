/-! the checks of the contracts -/
theorem chk_528 : aCheck 528 = true := by decide +kernel
theorem chk_529 : aCheck 529 = true := by decide +kernel
theorem chk_530 : aCheck 530 = true := by decide +kernel
theorem chk_531 : aCheck 531 = true := by decide +kernel
theorem chk_532 : aCheck 532 = true := by decide +kernel
