theorem kbp_18 : (Int8.ofInt (18)).toInt32 = 18 := by decide +kernel
theorem ksp_130 : (Int16.ofInt (130)).toInt32 = 130 := by decide +kernel
theorem ksp_8191 : (Int16.ofInt (8191)).toInt32 = 8191 := by decide +kernel
