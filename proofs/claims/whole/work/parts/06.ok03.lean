theorem amOks_0_15 : amOkL (yL_law).cls yL_law.name cL_law amC_0_15 amP_0_15 = true := by decide +kernel
theorem amOks_0_16 : amOkL (yL_law).cls yL_law.name cL_law amC_0_16 amP_0_16 = true := by decide +kernel
theorem amOks_0_17 : amOkL (yL_law).cls yL_law.name cL_law amC_0_17 amP_0_17 = true := by decide +kernel
theorem amOks_0_18 : amOkL (yL_law).cls yL_law.name cL_law amC_0_18 amP_0_18 = true := by decide +kernel
theorem amOks_0_19 : amOkL (yL_law).cls yL_law.name cL_law amC_0_19 amP_0_19 = true := by decide +kernel
