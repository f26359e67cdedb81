/-! the law, row by row -/
theorem pm_ok_121_5 : cd121_5.all (pm_ok1 121) = true := by decide +kernel
theorem pm_ok_121_6 : cd121_6.all (pm_ok1 121) = true := by decide +kernel
theorem pm_ok_121_7 : cd121_7.all (pm_ok1 121) = true := by decide +kernel
theorem pm_ok_121_8 : cd121_8.all (pm_ok1 121) = true := by decide +kernel
theorem pm_ok_121_9 : cd121_9.all (pm_ok1 121) = true := by decide +kernel
