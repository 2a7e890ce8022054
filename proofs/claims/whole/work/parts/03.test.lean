theorem zt_1 : plainName "java/lang/Integer" = true := by decide +kernel
theorem zt_2 : plainName "java/util/Arrays" = true := by decide +kernel
theorem zt_3 : plainName "java/lang/Math" = true := by decide +kernel
