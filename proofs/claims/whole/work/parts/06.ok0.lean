theorem amOks_0 : amOkL (yL_law).cls yL_law.name cL_law amC_0 amP_0 = true := by decide +kernel
