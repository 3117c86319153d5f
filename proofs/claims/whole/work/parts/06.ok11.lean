theorem amOks_209 : amOkL (yX12_which).cls yX12_which.name cX12_which amC_209 amP_209 = true := amOkL_app amOks_209_0 (amOkL_app amOks_209_1 (amOks_209_2))
theorem amOks_210_0 : amOkL (yX12_tries).cls yX12_tries.name cX12_tries amC_210_0 amP_210_0 = true := by decide +kernel
theorem amOks_210_1 : amOkL (yX12_tries).cls yX12_tries.name cX12_tries amC_210_1 amP_210_1 = true := by decide +kernel
theorem amOks_210 : amOkL (yX12_tries).cls yX12_tries.name cX12_tries amC_210 amP_210 = true := amOkL_app amOks_210_0 (amOks_210_1)
theorem amOks_211_0 : amOkL (yX12_findsFractions).cls yX12_findsFractions.name cX12_findsFractions amC_211_0 amP_211_0 = true := by decide +kernel
theorem amOks_211_1 : amOkL (yX12_findsFractions).cls yX12_findsFractions.name cX12_findsFractions amC_211_1 amP_211_1 = true := by decide +kernel
theorem amOks_211_2 : amOkL (yX12_findsFractions).cls yX12_findsFractions.name cX12_findsFractions amC_211_2 amP_211_2 = true := by decide +kernel
theorem amOks_211 : amOkL (yX12_findsFractions).cls yX12_findsFractions.name cX12_findsFractions amC_211 amP_211 = true := amOkL_app amOks_211_0 (amOkL_app amOks_211_1 (amOks_211_2))
theorem amOks_212_0 : amOkL (yX12_fraction).cls yX12_fraction.name cX12_fraction amC_212_0 amP_212_0 = true := by decide +kernel
theorem amOks_212_1 : amOkL (yX12_fraction).cls yX12_fraction.name cX12_fraction amC_212_1 amP_212_1 = true := by decide +kernel
theorem amOks_212 : amOkL (yX12_fraction).cls yX12_fraction.name cX12_fraction amC_212 amP_212 = true := amOkL_app amOks_212_0 (amOks_212_1)
theorem amOks_213 : amOkL (yX12_isOfTwo).cls yX12_isOfTwo.name cX12_isOfTwo amC_213 amP_213 = true := by decide +kernel
theorem amOks_214 : amOkL (yX12_isOfNumber).cls yX12_isOfNumber.name cX12_isOfNumber amC_214 amP_214 = true := by decide +kernel
theorem amOks_215_0 : amOkL (yX12_isMaking).cls yX12_isMaking.name cX12_isMaking amC_215_0 amP_215_0 = true := by decide +kernel
theorem amOks_215_1 : amOkL (yX12_isMaking).cls yX12_isMaking.name cX12_isMaking amC_215_1 amP_215_1 = true := by decide +kernel
theorem amOks_215 : amOkL (yX12_isMaking).cls yX12_isMaking.name cX12_isMaking amC_215 amP_215 = true := amOkL_app amOks_215_0 (amOks_215_1)
theorem amOks_216_0 : amOkL (yX12_shifts).cls yX12_shifts.name cX12_shifts amC_216_0 amP_216_0 = true := by decide +kernel
theorem amOks_216_1 : amOkL (yX12_shifts).cls yX12_shifts.name cX12_shifts amC_216_1 amP_216_1 = true := by decide +kernel
theorem amOks_216 : amOkL (yX12_shifts).cls yX12_shifts.name cX12_shifts amC_216 amP_216 = true := amOkL_app amOks_216_0 (amOks_216_1)
theorem amOks_217_0 : amOkL (yX12_partsOf).cls yX12_partsOf.name cX12_partsOf amC_217_0 amP_217_0 = true := by decide +kernel
theorem amOks_217_1 : amOkL (yX12_partsOf).cls yX12_partsOf.name cX12_partsOf amC_217_1 amP_217_1 = true := by decide +kernel
theorem amOks_217_2 : amOkL (yX12_partsOf).cls yX12_partsOf.name cX12_partsOf amC_217_2 amP_217_2 = true := by decide +kernel
theorem amOks_217_3 : amOkL (yX12_partsOf).cls yX12_partsOf.name cX12_partsOf amC_217_3 amP_217_3 = true := by decide +kernel
theorem amOks_217 : amOkL (yX12_partsOf).cls yX12_partsOf.name cX12_partsOf amC_217 amP_217 = true := amOkL_app amOks_217_0 (amOkL_app amOks_217_1 (amOkL_app amOks_217_2 (amOks_217_3)))
theorem amOks_218_0 : amOkL (yX12_makes).cls yX12_makes.name cX12_makes amC_218_0 amP_218_0 = true := by decide +kernel
theorem amOks_218_1 : amOkL (yX12_makes).cls yX12_makes.name cX12_makes amC_218_1 amP_218_1 = true := by decide +kernel
theorem amOks_218_2 : amOkL (yX12_makes).cls yX12_makes.name cX12_makes amC_218_2 amP_218_2 = true := by decide +kernel
theorem amOks_218_3 : amOkL (yX12_makes).cls yX12_makes.name cX12_makes amC_218_3 amP_218_3 = true := by decide +kernel
theorem amOks_218 : amOkL (yX12_makes).cls yX12_makes.name cX12_makes amC_218 amP_218 = true := amOkL_app amOks_218_0 (amOkL_app amOks_218_1 (amOkL_app amOks_218_2 (amOks_218_3)))
theorem amOks_219 : amOkL (yX12_make).cls yX12_make.name cX12_make amC_219 amP_219 = true := by decide +kernel
theorem amOks_220 : amOkL (yX12_feed).cls yX12_feed.name cX12_feed amC_220 amP_220 = true := by decide +kernel
theorem amOks_221 : amOkL (yX12_here).cls yX12_here.name cX12_here amC_221 amP_221 = true := by decide +kernel
theorem amOks_222 : amOkL (yX12_wrong).cls yX12_wrong.name cX12_wrong amC_222 amP_222 = true := by decide +kernel
theorem amOks_223_0 : amOkL (yX12_term).cls yX12_term.name cX12_term amC_223_0 amP_223_0 = true := by decide +kernel
theorem amOks_223_1 : amOkL (yX12_term).cls yX12_term.name cX12_term amC_223_1 amP_223_1 = true := by decide +kernel
theorem amOks_223_2 : amOkL (yX12_term).cls yX12_term.name cX12_term amC_223_2 amP_223_2 = true := by decide +kernel
theorem amOks_223_3 : amOkL (yX12_term).cls yX12_term.name cX12_term amC_223_3 amP_223_3 = true := by decide +kernel
theorem amOks_223 : amOkL (yX12_term).cls yX12_term.name cX12_term amC_223 amP_223 = true := amOkL_app amOks_223_0 (amOkL_app amOks_223_1 (amOkL_app amOks_223_2 (amOks_223_3)))
theorem amOks_224_0 : amOkL (yX12_polynomial).cls yX12_polynomial.name cX12_polynomial amC_224_0 amP_224_0 = true := by decide +kernel
theorem amOks_224_1 : amOkL (yX12_polynomial).cls yX12_polynomial.name cX12_polynomial amC_224_1 amP_224_1 = true := by decide +kernel
theorem amOks_224 : amOkL (yX12_polynomial).cls yX12_polynomial.name cX12_polynomial amC_224 amP_224 = true := amOkL_app amOks_224_0 (amOks_224_1)
theorem amOks_225_0 : amOkL (yX12_isWord).cls yX12_isWord.name cX12_isWord amC_225_0 amP_225_0 = true := by decide +kernel
theorem amOks_225_1 : amOkL (yX12_isWord).cls yX12_isWord.name cX12_isWord amC_225_1 amP_225_1 = true := by decide +kernel
theorem amOks_225 : amOkL (yX12_isWord).cls yX12_isWord.name cX12_isWord amC_225 amP_225 = true := amOkL_app amOks_225_0 (amOks_225_1)
theorem amOks_226 : amOkL (yX12_isLetter).cls yX12_isLetter.name cX12_isLetter amC_226 amP_226 = true := by decide +kernel
theorem amOks_227_0 : amOkL (yX12_wordFrom).cls yX12_wordFrom.name cX12_wordFrom amC_227_0 amP_227_0 = true := by decide +kernel
theorem amOks_227_1 : amOkL (yX12_wordFrom).cls yX12_wordFrom.name cX12_wordFrom amC_227_1 amP_227_1 = true := by decide +kernel
theorem amOks_227_2 : amOkL (yX12_wordFrom).cls yX12_wordFrom.name cX12_wordFrom amC_227_2 amP_227_2 = true := by decide +kernel
