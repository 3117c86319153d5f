theorem amOks_0_5 : amOkL (yL_law).cls yL_law.name cL_law amC_0_5 amP_0_5 = true := by decide +kernel
theorem amOks_0_6 : amOkL (yL_law).cls yL_law.name cL_law amC_0_6 amP_0_6 = true := by decide +kernel
theorem amOks_0_7 : amOkL (yL_law).cls yL_law.name cL_law amC_0_7 amP_0_7 = true := by decide +kernel
theorem amOks_0_8 : amOkL (yL_law).cls yL_law.name cL_law amC_0_8 amP_0_8 = true := by decide +kernel
theorem amOks_0_9 : amOkL (yL_law).cls yL_law.name cL_law amC_0_9 amP_0_9 = true := by decide +kernel
