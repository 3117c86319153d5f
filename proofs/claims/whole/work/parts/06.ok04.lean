theorem amOks_0_20 : amOkL (yL_law).cls yL_law.name cL_law amC_0_20 amP_0_20 = true := by decide +kernel
theorem amOks_0_21 : amOkL (yL_law).cls yL_law.name cL_law amC_0_21 amP_0_21 = true := by decide +kernel
theorem amOks_0_22 : amOkL (yL_law).cls yL_law.name cL_law amC_0_22 amP_0_22 = true := by decide +kernel
theorem amOks_0_23 : amOkL (yL_law).cls yL_law.name cL_law amC_0_23 amP_0_23 = true := by decide +kernel
theorem amOks_0 : amOkL (yL_law).cls yL_law.name cL_law amC_0 amP_0 = true := amOkL_app amOks_0_0 (amOkL_app amOks_0_1 (amOkL_app amOks_0_2 (amOkL_app amOks_0_3 (amOkL_app amOks_0_4 (amOkL_app amOks_0_5 (amOkL_app amOks_0_6 (amOkL_app amOks_0_7 (amOkL_app amOks_0_8 (amOkL_app amOks_0_9 (amOkL_app amOks_0_10 (amOkL_app amOks_0_11 (amOkL_app amOks_0_12 (amOkL_app amOks_0_13 (amOkL_app amOks_0_14 (amOkL_app amOks_0_15 (amOkL_app amOks_0_16 (amOkL_app amOks_0_17 (amOkL_app amOks_0_18 (amOkL_app amOks_0_19 (amOkL_app amOks_0_20 (amOkL_app amOks_0_21 (amOkL_app amOks_0_22 (amOks_0_23)))))))))))))))))))))))
theorem amOks_1 : amOkL (yJ13_signum_95d88).cls yJ13_signum_95d88.name cJ13_signum_95d88 amC_1 amP_1 = true := by decide +kernel
theorem amOks_2 : amOkL (yX7_init).cls yX7_init.name cX7_init amC_2 amP_2 = true := by decide +kernel
theorem amOks_3 : amOkL (yX7_at).cls yX7_at.name cX7_at amC_3 amP_3 = true := by decide +kernel
