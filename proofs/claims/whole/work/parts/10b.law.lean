/-! the law, row by row -/
theorem pm_ok_121_0 : cd121_0.all (pm_ok1 121) = true := by decide +kernel
theorem pm_ok_121_1 : cd121_1.all (pm_ok1 121) = true := by decide +kernel
theorem pm_ok_121_2 : cd121_2.all (pm_ok1 121) = true := by decide +kernel
theorem pm_ok_121_3 : cd121_3.all (pm_ok1 121) = true := by decide +kernel
theorem pm_ok_121_4 : cd121_4.all (pm_ok1 121) = true := by decide +kernel
