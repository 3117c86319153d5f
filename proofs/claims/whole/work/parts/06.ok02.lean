theorem amOks_0_10 : amOkL (yL_law).cls yL_law.name cL_law amC_0_10 amP_0_10 = true := by decide +kernel
theorem amOks_0_11 : amOkL (yL_law).cls yL_law.name cL_law amC_0_11 amP_0_11 = true := by decide +kernel
theorem amOks_0_12 : amOkL (yL_law).cls yL_law.name cL_law amC_0_12 amP_0_12 = true := by decide +kernel
theorem amOks_0_13 : amOkL (yL_law).cls yL_law.name cL_law amC_0_13 amP_0_13 = true := by decide +kernel
theorem amOks_0_14 : amOkL (yL_law).cls yL_law.name cL_law amC_0_14 amP_0_14 = true := by decide +kernel
