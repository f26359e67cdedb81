/-! the law, row by row -/
theorem pm_ok_121_10 : cd121_10.all (pm_ok1 121) = true := by decide +kernel
theorem pm_ok_121_11 : cd121_11.all (pm_ok1 121) = true := by decide +kernel
theorem pm_ok_121_12 : cd121_12.all (pm_ok1 121) = true := by decide +kernel
