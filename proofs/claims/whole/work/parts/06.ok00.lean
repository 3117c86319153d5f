theorem amOks_0_0 : amOkL (yL_law).cls yL_law.name cL_law amC_0_0 amP_0_0 = true := by decide +kernel
theorem amOks_0_1 : amOkL (yL_law).cls yL_law.name cL_law amC_0_1 amP_0_1 = true := by decide +kernel
theorem amOks_0_2 : amOkL (yL_law).cls yL_law.name cL_law amC_0_2 amP_0_2 = true := by decide +kernel
theorem amOks_0_3 : amOkL (yL_law).cls yL_law.name cL_law amC_0_3 amP_0_3 = true := by decide +kernel
theorem amOks_0_4 : amOkL (yL_law).cls yL_law.name cL_law amC_0_4 amP_0_4 = true := by decide +kernel
