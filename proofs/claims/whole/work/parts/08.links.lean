theorem wd_659 : (Jvm.Cond.native ({ cls := "java/lang/System", name := "arraycopy", desc := "(Ljava/lang/Object;ILjava/lang/Object;II)V" } : Jvm.MethodName)) ∈ wT0 := wT0_in (List.mem_append_right _ (List.mem_of_getElem? (i := 659) (by decide +kernel))) rfl
theorem fl_X7_9 : wFl RX7 9 7 0 := ⟨RX7, TX7, 8, rfl, wcl_7, by decide, wd_39⟩
theorem fl_X7_13 : wFl RX7 13 7 1 := ⟨RX7, TX7, 8, rfl, wcl_7, by decide, wd_40⟩
theorem fp_X7_13 : wFp RX7 13 7 1 .int := ⟨RX7, TX7, 8, tyX7, rfl, wcl_7, tyX7_ok, nmX7, by decide, wd_40, rfl, by decide +kernel⟩
theorem fl_X10_87 : wFl RX10 87 7 1 := ⟨RX7, TX7, 8, rfl, wcl_7, by decide, wd_41⟩
theorem fp_X10_87 : wFp RX10 87 7 1 .int := ⟨RX7, TX7, 8, tyX7, rfl, wcl_7, tyX7_ok, nmX7, by decide, wd_41, rfl, by decide +kernel⟩
theorem fl_X7_26 : wFl RX7 26 7 2 := ⟨RX7, TX7, 8, rfl, wcl_7, by decide, wd_42⟩
theorem fp_X7_26 : wFp RX7 26 7 2 .int := ⟨RX7, TX7, 8, tyX7, rfl, wcl_7, tyX7_ok, nmX7, by decide, wd_42, rfl, by decide +kernel⟩
theorem fl_X7_29 : wFl RX7 29 7 3 := ⟨RX7, TX7, 8, rfl, wcl_7, by decide, wd_43⟩
theorem fp_X7_29 : wFp RX7 29 7 3 .int := ⟨RX7, TX7, 8, tyX7, rfl, wcl_7, tyX7_ok, nmX7, by decide, wd_43, rfl, by decide +kernel⟩
theorem fl_X7_17 : wFl RX7 17 7 4 := ⟨RX7, TX7, 8, rfl, wcl_7, by decide, wd_44⟩
theorem fp_X7_17 : wFp RX7 17 7 4 .int := ⟨RX7, TX7, 8, tyX7, rfl, wcl_7, tyX7_ok, nmX7, by decide, wd_44, rfl, by decide +kernel⟩
theorem fl_X4_147 : wFl RX4 147 7 5 := ⟨RX7, TX7, 8, rfl, wcl_7, by decide, wd_45⟩
theorem fp_X4_147 : wFp RX4 147 7 5 .int := ⟨RX7, TX7, 8, tyX7, rfl, wcl_7, tyX7_ok, nmX7, by decide, wd_45, rfl, by decide +kernel⟩
theorem fl_X2_83 : wFl RX2 83 7 5 := ⟨RX7, TX7, 8, rfl, wcl_7, by decide, wd_46⟩
theorem fp_X2_83 : wFp RX2 83 7 5 .int := ⟨RX7, TX7, 8, tyX7, rfl, wcl_7, tyX7_ok, nmX7, by decide, wd_46, rfl, by decide +kernel⟩
theorem fl_X7_52 : wFl RX7 52 7 5 := ⟨RX7, TX7, 8, rfl, wcl_7, by decide, wd_47⟩
theorem fp_X7_52 : wFp RX7 52 7 5 .int := ⟨RX7, TX7, 8, tyX7, rfl, wcl_7, tyX7_ok, nmX7, by decide, wd_47, rfl, by decide +kernel⟩
theorem fl_X7_46 : wFl RX7 46 7 6 := ⟨RX7, TX7, 8, rfl, wcl_7, by decide, wd_48⟩
theorem fp_X7_46 : wFp RX7 46 7 6 .long := ⟨RX7, TX7, 8, tyX7, rfl, wcl_7, tyX7_ok, nmX7, by decide, wd_48, rfl, by decide +kernel⟩
theorem fl_X4_171 : wFl RX4 171 7 6 := ⟨RX7, TX7, 8, rfl, wcl_7, by decide, wd_49⟩
theorem fp_X4_171 : wFp RX4 171 7 6 .long := ⟨RX7, TX7, 8, tyX7, rfl, wcl_7, tyX7_ok, nmX7, by decide, wd_49, rfl, by decide +kernel⟩
theorem fl_X4_115 : wFl RX4 115 7 7 := ⟨RX7, TX7, 8, rfl, wcl_7, by decide, wd_50⟩
theorem fp_X4_115 : wFp RX4 115 7 7 .int := ⟨RX7, TX7, 8, tyX7, rfl, wcl_7, tyX7_ok, nmX7, by decide, wd_50, rfl, by decide +kernel⟩
theorem fl_X7_20 : wFl RX7 20 7 7 := ⟨RX7, TX7, 8, rfl, wcl_7, by decide, wd_51⟩
theorem fp_X7_20 : wFp RX7 20 7 7 .int := ⟨RX7, TX7, 8, tyX7, rfl, wcl_7, tyX7_ok, nmX7, by decide, wd_51, rfl, by decide +kernel⟩
theorem fl_X9_41 : wFl RX9 41 7 7 := ⟨RX7, TX7, 8, rfl, wcl_7, by decide, wd_52⟩
theorem fp_X9_41 : wFp RX9 41 7 7 .int := ⟨RX7, TX7, 8, tyX7, rfl, wcl_7, tyX7_ok, nmX7, by decide, wd_52, rfl, by decide +kernel⟩
theorem fl_X2_9 : wFl RX2 9 2 0 := ⟨RX2, TX2, 4, rfl, wcl_2, by decide, wd_83⟩
theorem fl_X2_18 : wFl RX2 18 2 1 := ⟨RX2, TX2, 4, rfl, wcl_2, by decide, wd_84⟩
theorem fp_X2_18 : wFp RX2 18 2 1 .int := ⟨RX2, TX2, 4, tyX2, rfl, wcl_2, tyX2_ok, nmX2, by decide, wd_84, rfl, by decide +kernel⟩
theorem fl_X2_28 : wFl RX2 28 2 2 := ⟨RX2, TX2, 4, rfl, wcl_2, by decide, wd_85⟩
theorem fp_X2_28 : wFp RX2 28 2 2 .boolean := ⟨RX2, TX2, 4, tyX2, rfl, wcl_2, tyX2_ok, nmX2, by decide, wd_85, rfl, by decide +kernel⟩
theorem fl_X2_15 : wFl RX2 15 2 3 := ⟨RX2, TX2, 4, rfl, wcl_2, by decide, wd_86⟩
theorem fl_X4_47 : wFl RX4 47 4 0 := ⟨RX4, TX4, 13, rfl, wcl_4, by decide, wd_98⟩
theorem fp_X4_47 : wFp RX4 47 4 0 .int := ⟨RX4, TX4, 13, tyX4, rfl, wcl_4, tyX4_ok, nmX4, by decide, wd_98, rfl, by decide +kernel⟩
theorem fl_X6_36 : wFl RX6 36 4 0 := ⟨RX4, TX4, 13, rfl, wcl_4, by decide, wd_99⟩
theorem fp_X6_36 : wFp RX6 36 4 0 .int := ⟨RX4, TX4, 13, tyX4, rfl, wcl_4, tyX4_ok, nmX4, by decide, wd_99, rfl, by decide +kernel⟩
theorem fl_X10_268 : wFl RX10 268 4 0 := ⟨RX4, TX4, 13, rfl, wcl_4, by decide, wd_100⟩
theorem fp_X10_268 : wFp RX10 268 4 0 .int := ⟨RX4, TX4, 13, tyX4, rfl, wcl_4, tyX4_ok, nmX4, by decide, wd_100, rfl, by decide +kernel⟩
theorem fl_X4_9 : wFl RX4 9 4 1 := ⟨RX4, TX4, 13, rfl, wcl_4, by decide, wd_101⟩
theorem fl_X4_15 : wFl RX4 15 4 2 := ⟨RX4, TX4, 13, rfl, wcl_4, by decide, wd_102⟩
theorem fl_X10_121 : wFl RX10 121 4 2 := ⟨RX4, TX4, 13, rfl, wcl_4, by decide, wd_103⟩
theorem fl_X6_52 : wFl RX6 52 4 2 := ⟨RX4, TX4, 13, rfl, wcl_4, by decide, wd_104⟩
theorem fl_X4_19 : wFl RX4 19 4 3 := ⟨RX4, TX4, 13, rfl, wcl_4, by decide, wd_105⟩
theorem fl_X6_41 : wFl RX6 41 4 3 := ⟨RX4, TX4, 13, rfl, wcl_4, by decide, wd_106⟩
theorem fl_X4_22 : wFl RX4 22 4 4 := ⟨RX4, TX4, 13, rfl, wcl_4, by decide, wd_107⟩
theorem fl_X10_128 : wFl RX10 128 4 4 := ⟨RX4, TX4, 13, rfl, wcl_4, by decide, wd_108⟩
theorem fl_X6_55 : wFl RX6 55 4 4 := ⟨RX4, TX4, 13, rfl, wcl_4, by decide, wd_109⟩
theorem fl_X3_25 : wFl RX3 25 4 5 := ⟨RX4, TX4, 13, rfl, wcl_4, by decide, wd_110⟩
theorem fp_X3_25 : wFp RX3 25 4 5 .int := ⟨RX4, TX4, 13, tyX4, rfl, wcl_4, tyX4_ok, nmX4, by decide, wd_110, rfl, by decide +kernel⟩
theorem fl_X4_57 : wFl RX4 57 4 5 := ⟨RX4, TX4, 13, rfl, wcl_4, by decide, wd_111⟩
theorem fp_X4_57 : wFp RX4 57 4 5 .int := ⟨RX4, TX4, 13, tyX4, rfl, wcl_4, tyX4_ok, nmX4, by decide, wd_111, rfl, by decide +kernel⟩
theorem fl_X6_106 : wFl RX6 106 4 5 := ⟨RX4, TX4, 13, rfl, wcl_4, by decide, wd_112⟩
theorem fp_X6_106 : wFp RX6 106 4 5 .int := ⟨RX4, TX4, 13, tyX4, rfl, wcl_4, tyX4_ok, nmX4, by decide, wd_112, rfl, by decide +kernel⟩
theorem fl_X10_278 : wFl RX10 278 4 5 := ⟨RX4, TX4, 13, rfl, wcl_4, by decide, wd_113⟩
theorem fp_X10_278 : wFp RX10 278 4 5 .int := ⟨RX4, TX4, 13, tyX4, rfl, wcl_4, tyX4_ok, nmX4, by decide, wd_113, rfl, by decide +kernel⟩
theorem fl_X4_25 : wFl RX4 25 4 6 := ⟨RX4, TX4, 13, rfl, wcl_4, by decide, wd_114⟩
theorem fl_X4_28 : wFl RX4 28 4 7 := ⟨RX4, TX4, 13, rfl, wcl_4, by decide, wd_115⟩
theorem fl_X10_145 : wFl RX10 145 4 7 := ⟨RX4, TX4, 13, rfl, wcl_4, by decide, wd_116⟩
theorem fl_X6_83 : wFl RX6 83 4 7 := ⟨RX4, TX4, 13, rfl, wcl_4, by decide, wd_117⟩
theorem fl_X4_31 : wFl RX4 31 4 8 := ⟨RX4, TX4, 13, rfl, wcl_4, by decide, wd_118⟩
theorem fl_X10_148 : wFl RX10 148 4 8 := ⟨RX4, TX4, 13, rfl, wcl_4, by decide, wd_119⟩
theorem fl_X6_80 : wFl RX6 80 4 8 := ⟨RX4, TX4, 13, rfl, wcl_4, by decide, wd_120⟩
theorem fl_X4_34 : wFl RX4 34 4 9 := ⟨RX4, TX4, 13, rfl, wcl_4, by decide, wd_121⟩
theorem fl_X3_46 : wFl RX3 46 4 9 := ⟨RX4, TX4, 13, rfl, wcl_4, by decide, wd_122⟩
theorem fl_X10_151 : wFl RX10 151 4 9 := ⟨RX4, TX4, 13, rfl, wcl_4, by decide, wd_123⟩
theorem fl_X6_61 : wFl RX6 61 4 9 := ⟨RX4, TX4, 13, rfl, wcl_4, by decide, wd_124⟩
theorem fl_X4_60 : wFl RX4 60 4 10 := ⟨RX4, TX4, 13, rfl, wcl_4, by decide, wd_125⟩
theorem fp_X4_60 : wFp RX4 60 4 10 .int := ⟨RX4, TX4, 13, tyX4, rfl, wcl_4, tyX4_ok, nmX4, by decide, wd_125, rfl, by decide +kernel⟩
theorem fl_X10_224 : wFl RX10 224 4 10 := ⟨RX4, TX4, 13, rfl, wcl_4, by decide, wd_126⟩
theorem fp_X10_224 : wFp RX10 224 4 10 .int := ⟨RX4, TX4, 13, tyX4, rfl, wcl_4, tyX4_ok, nmX4, by decide, wd_126, rfl, by decide +kernel⟩
theorem fl_X4_37 : wFl RX4 37 4 11 := ⟨RX4, TX4, 13, rfl, wcl_4, by decide, wd_127⟩
theorem fl_X4_43 : wFl RX4 43 4 12 := ⟨RX4, TX4, 13, rfl, wcl_4, by decide, wd_128⟩
theorem fl_X6_24 : wFl RX6 24 6 0 := ⟨RX6, TX6, 6, rfl, wcl_6, by decide, wd_162⟩
theorem fl_X6_28 : wFl RX6 28 6 1 := ⟨RX6, TX6, 6, rfl, wcl_6, by decide, wd_163⟩
theorem fp_X6_28 : wFp RX6 28 6 1 .int := ⟨RX6, TX6, 6, tyX6, rfl, wcl_6, tyX6_ok, nmX6, by decide, wd_163, rfl, by decide +kernel⟩
theorem fl_X10_195 : wFl RX10 195 6 1 := ⟨RX6, TX6, 6, rfl, wcl_6, by decide, wd_164⟩
theorem fp_X10_195 : wFp RX10 195 6 1 .int := ⟨RX6, TX6, 6, tyX6, rfl, wcl_6, tyX6_ok, nmX6, by decide, wd_164, rfl, by decide +kernel⟩
theorem fl_X6_9 : wFl RX6 9 6 2 := ⟨RX6, TX6, 6, rfl, wcl_6, by decide, wd_165⟩
theorem fl_X5_32 : wFl RX5 32 6 2 := ⟨RX6, TX6, 6, rfl, wcl_6, by decide, wd_166⟩
theorem fl_X10_125 : wFl RX10 125 6 2 := ⟨RX6, TX6, 6, rfl, wcl_6, by decide, wd_167⟩
theorem fl_X6_15 : wFl RX6 15 6 3 := ⟨RX6, TX6, 6, rfl, wcl_6, by decide, wd_168⟩
theorem fl_X10_131 : wFl RX10 131 6 3 := ⟨RX6, TX6, 6, rfl, wcl_6, by decide, wd_169⟩
theorem fl_X6_18 : wFl RX6 18 6 4 := ⟨RX6, TX6, 6, rfl, wcl_6, by decide, wd_170⟩
theorem fl_X10_164 : wFl RX10 164 6 4 := ⟨RX6, TX6, 6, rfl, wcl_6, by decide, wd_171⟩
theorem fl_X6_21 : wFl RX6 21 6 5 := ⟨RX6, TX6, 6, rfl, wcl_6, by decide, wd_172⟩
theorem fl_X9_15 : wFl RX9 15 9 0 := ⟨RX9, TX9, 2, rfl, wcl_9, by decide, wd_192⟩
theorem fp_X9_15 : wFp RX9 15 9 0 .int := ⟨RX9, TX9, 2, tyX9, rfl, wcl_9, tyX9_ok, nmX9, by decide, wd_192, rfl, by decide +kernel⟩
theorem fl_X10_202 : wFl RX10 202 9 0 := ⟨RX9, TX9, 2, rfl, wcl_9, by decide, wd_193⟩
theorem fp_X10_202 : wFp RX10 202 9 0 .int := ⟨RX9, TX9, 2, tyX9, rfl, wcl_9, tyX9_ok, nmX9, by decide, wd_193, rfl, by decide +kernel⟩
theorem fl_X9_11 : wFl RX9 11 9 1 := ⟨RX9, TX9, 2, rfl, wcl_9, by decide, wd_194⟩
theorem fl_X10_208 : wFl RX10 208 9 1 := ⟨RX9, TX9, 2, rfl, wcl_9, by decide, wd_195⟩
theorem fl_X5_22 : wFl RX5 22 5 0 := ⟨RX5, TX5, 5, rfl, wcl_5, by decide, wd_207⟩
theorem fp_X5_22 : wFp RX5 22 5 0 .int := ⟨RX5, TX5, 5, tyX5, rfl, wcl_5, tyX5_ok, nmX5, by decide, wd_207, rfl, by decide +kernel⟩
theorem fl_X10_328 : wFl RX10 328 5 0 := ⟨RX5, TX5, 5, rfl, wcl_5, by decide, wd_208⟩
theorem fp_X10_328 : wFp RX10 328 5 0 .int := ⟨RX5, TX5, 5, tyX5, rfl, wcl_5, tyX5_ok, nmX5, by decide, wd_208, rfl, by decide +kernel⟩
theorem fl_X5_9 : wFl RX5 9 5 1 := ⟨RX5, TX5, 5, rfl, wcl_5, by decide, wd_209⟩
theorem fl_X5_13 : wFl RX5 13 5 2 := ⟨RX5, TX5, 5, rfl, wcl_5, by decide, wd_210⟩
theorem fl_X5_16 : wFl RX5 16 5 3 := ⟨RX5, TX5, 5, rfl, wcl_5, by decide, wd_211⟩
theorem fl_X5_19 : wFl RX5 19 5 4 := ⟨RX5, TX5, 5, rfl, wcl_5, by decide, wd_212⟩
theorem fl_X8_18 : wFl RX8 18 8 0 := ⟨RX8, TX8, 3, rfl, wcl_8, by decide, wd_233⟩
theorem fp_X8_18 : wFp RX8 18 8 0 .int := ⟨RX8, TX8, 3, tyX8, rfl, wcl_8, tyX8_ok, nmX8, by decide, wd_233, rfl, by decide +kernel⟩
theorem fl_X10_329 : wFl RX10 329 8 0 := ⟨RX8, TX8, 3, rfl, wcl_8, by decide, wd_234⟩
theorem fp_X10_329 : wFp RX10 329 8 0 .int := ⟨RX8, TX8, 3, tyX8, rfl, wcl_8, tyX8_ok, nmX8, by decide, wd_234, rfl, by decide +kernel⟩
theorem fl_X8_22 : wFl RX8 22 8 1 := ⟨RX8, TX8, 3, rfl, wcl_8, by decide, wd_235⟩
theorem fp_X8_22 : wFp RX8 22 8 1 .int := ⟨RX8, TX8, 3, tyX8, rfl, wcl_8, tyX8_ok, nmX8, by decide, wd_235, rfl, by decide +kernel⟩
theorem fl_X8_11 : wFl RX8 11 8 2 := ⟨RX8, TX8, 3, rfl, wcl_8, by decide, wd_236⟩
theorem fl_X3_21 : wFl RX3 21 3 0 := ⟨RX3, TX3, 7, rfl, wcl_3, by decide, wd_250⟩
theorem fl_X3_31 : wFl RX3 31 3 1 := ⟨RX3, TX3, 7, rfl, wcl_3, by decide, wd_251⟩
theorem fp_X3_31 : wFp RX3 31 3 1 .int := ⟨RX3, TX3, 7, tyX3, rfl, wcl_3, tyX3_ok, nmX3, by decide, wd_251, rfl, by decide +kernel⟩
theorem fl_X10_256 : wFl RX10 256 3 1 := ⟨RX3, TX3, 7, rfl, wcl_3, by decide, wd_252⟩
theorem fp_X10_256 : wFp RX10 256 3 1 .int := ⟨RX3, TX3, 7, tyX3, rfl, wcl_3, tyX3_ok, nmX3, by decide, wd_252, rfl, by decide +kernel⟩
theorem fl_X3_9 : wFl RX3 9 3 2 := ⟨RX3, TX3, 7, rfl, wcl_3, by decide, wd_253⟩
theorem fl_X10_259 : wFl RX10 259 3 2 := ⟨RX3, TX3, 7, rfl, wcl_3, by decide, wd_254⟩
theorem fl_X3_15 : wFl RX3 15 3 3 := ⟨RX3, TX3, 7, rfl, wcl_3, by decide, wd_255⟩
theorem fl_X3_53 : wFl RX3 53 3 4 := ⟨RX3, TX3, 7, rfl, wcl_3, by decide, wd_256⟩
theorem fp_X3_53 : wFp RX3 53 3 4 .int := ⟨RX3, TX3, 7, tyX3, rfl, wcl_3, tyX3_ok, nmX3, by decide, wd_256, rfl, by decide +kernel⟩
theorem fl_X3_18 : wFl RX3 18 3 5 := ⟨RX3, TX3, 7, rfl, wcl_3, by decide, wd_257⟩
theorem fl_X3_64 : wFl RX3 64 3 6 := ⟨RX3, TX3, 7, rfl, wcl_3, by decide, wd_258⟩
theorem fp_X3_64 : wFp RX3 64 3 6 .int := ⟨RX3, TX3, 7, tyX3, rfl, wcl_3, tyX3_ok, nmX3, by decide, wd_258, rfl, by decide +kernel⟩
theorem fl_X1_7 : wFl RX1 7 1 0 := ⟨RX1, TX1, 1, rfl, wcl_1, by decide, wd_280⟩
theorem fp_X1_7 : wFp RX1 7 1 0 .long := ⟨RX1, TX1, 1, tyX1, rfl, wcl_1, tyX1_ok, nmX1, by decide, wd_280, rfl, by decide +kernel⟩
theorem fl_X0_42 : wFl RX0 42 0 0 := ⟨RX0, TX0, 4, rfl, wcl_0, by decide, wd_297⟩
theorem fp_X0_42 : wFp RX0 42 0 0 .boolean := ⟨RX0, TX0, 4, tyX0, rfl, wcl_0, tyX0_ok, nmX0, by decide, wd_297, rfl, by decide +kernel⟩
theorem fl_X10_107 : wFl RX10 107 0 0 := ⟨RX0, TX0, 4, rfl, wcl_0, by decide, wd_298⟩
theorem fp_X10_107 : wFp RX10 107 0 0 .boolean := ⟨RX0, TX0, 4, tyX0, rfl, wcl_0, tyX0_ok, nmX0, by decide, wd_298, rfl, by decide +kernel⟩
theorem fl_X0_28 : wFl RX0 28 0 1 := ⟨RX0, TX0, 4, rfl, wcl_0, by decide, wd_299⟩
theorem fl_X10_317 : wFl RX10 317 0 1 := ⟨RX0, TX0, 4, rfl, wcl_0, by decide, wd_300⟩
theorem fl_X0_10 : wFl RX0 10 0 2 := ⟨RX0, TX0, 4, rfl, wcl_0, by decide, wd_301⟩
theorem fl_X10_320 : wFl RX10 320 0 2 := ⟨RX0, TX0, 4, rfl, wcl_0, by decide, wd_302⟩
theorem fl_X0_19 : wFl RX0 19 0 3 := ⟨RX0, TX0, 4, rfl, wcl_0, by decide, wd_303⟩
theorem fl_X10_321 : wFl RX10 321 0 3 := ⟨RX0, TX0, 4, rfl, wcl_0, by decide, wd_304⟩
theorem fl_X10_12 : wFl RX10 12 10 0 := ⟨RX10, TX10, 12, rfl, wcl_10, by decide, wd_314⟩
theorem fl_X10_19 : wFl RX10 19 10 1 := ⟨RX10, TX10, 12, rfl, wcl_10, by decide, wd_315⟩
theorem fl_X10_23 : wFl RX10 23 10 2 := ⟨RX10, TX10, 12, rfl, wcl_10, by decide, wd_316⟩
theorem fl_X10_31 : wFl RX10 31 10 3 := ⟨RX10, TX10, 12, rfl, wcl_10, by decide, wd_317⟩
theorem fl_X10_35 : wFl RX10 35 10 4 := ⟨RX10, TX10, 12, rfl, wcl_10, by decide, wd_318⟩
theorem fl_X10_41 : wFl RX10 41 10 5 := ⟨RX10, TX10, 12, rfl, wcl_10, by decide, wd_319⟩
theorem fl_X10_45 : wFl RX10 45 10 6 := ⟨RX10, TX10, 12, rfl, wcl_10, by decide, wd_320⟩
theorem fl_X10_51 : wFl RX10 51 10 7 := ⟨RX10, TX10, 12, rfl, wcl_10, by decide, wd_321⟩
theorem fl_X10_58 : wFl RX10 58 10 8 := ⟨RX10, TX10, 12, rfl, wcl_10, by decide, wd_322⟩
theorem fl_X10_65 : wFl RX10 65 10 9 := ⟨RX10, TX10, 12, rfl, wcl_10, by decide, wd_323⟩
theorem fl_X10_72 : wFl RX10 72 10 10 := ⟨RX10, TX10, 12, rfl, wcl_10, by decide, wd_324⟩
theorem fl_X10_78 : wFl RX10 78 10 11 := ⟨RX10, TX10, 12, rfl, wcl_10, by decide, wd_325⟩
theorem fl_X11_144 : wFl RX11 144 11 0 := ⟨RX11, TX11, 59, rfl, wcl_11, by decide, wd_1174⟩
theorem fp_X11_144 : wFp RX11 144 11 0 .int := ⟨RX11, TX11, 59, tyX11, rfl, wcl_11, tyX11_ok, nmX11, by decide, wd_1174, rfl, by decide +kernel⟩
theorem fl_X11_150 : wFl RX11 150 11 1 := ⟨RX11, TX11, 59, rfl, wcl_11, by decide, wd_1175⟩
theorem fp_X11_150 : wFp RX11 150 11 1 .int := ⟨RX11, TX11, 59, tyX11, rfl, wcl_11, tyX11_ok, nmX11, by decide, wd_1175, rfl, by decide +kernel⟩
theorem fl_X11_7 : wFl RX11 7 11 2 := ⟨RX11, TX11, 59, rfl, wcl_11, by decide, wd_1176⟩
theorem fl_X11_153 : wFl RX11 153 11 3 := ⟨RX11, TX11, 59, rfl, wcl_11, by decide, wd_1177⟩
theorem fp_X11_153 : wFp RX11 153 11 3 .int := ⟨RX11, TX11, 59, tyX11, rfl, wcl_11, tyX11_ok, nmX11, by decide, wd_1177, rfl, by decide +kernel⟩
theorem fl_X11_156 : wFl RX11 156 11 4 := ⟨RX11, TX11, 59, rfl, wcl_11, by decide, wd_1178⟩
theorem fp_X11_156 : wFp RX11 156 11 4 .int := ⟨RX11, TX11, 59, tyX11, rfl, wcl_11, tyX11_ok, nmX11, by decide, wd_1178, rfl, by decide +kernel⟩
theorem fl_X11_159 : wFl RX11 159 11 5 := ⟨RX11, TX11, 59, rfl, wcl_11, by decide, wd_1179⟩
theorem fp_X11_159 : wFp RX11 159 11 5 .int := ⟨RX11, TX11, 59, tyX11, rfl, wcl_11, tyX11_ok, nmX11, by decide, wd_1179, rfl, by decide +kernel⟩
theorem fl_X11_169 : wFl RX11 169 11 6 := ⟨RX11, TX11, 59, rfl, wcl_11, by decide, wd_1180⟩
theorem fp_X11_169 : wFp RX11 169 11 6 .int := ⟨RX11, TX11, 59, tyX11, rfl, wcl_11, tyX11_ok, nmX11, by decide, wd_1180, rfl, by decide +kernel⟩
theorem fl_X11_162 : wFl RX11 162 11 7 := ⟨RX11, TX11, 59, rfl, wcl_11, by decide, wd_1181⟩
theorem fp_X11_162 : wFp RX11 162 11 7 .long := ⟨RX11, TX11, 59, tyX11, rfl, wcl_11, tyX11_ok, nmX11, by decide, wd_1181, rfl, by decide +kernel⟩
theorem fl_X11_166 : wFl RX11 166 11 8 := ⟨RX11, TX11, 59, rfl, wcl_11, by decide, wd_1182⟩
theorem fp_X11_166 : wFp RX11 166 11 8 .int := ⟨RX11, TX11, 59, tyX11, rfl, wcl_11, tyX11_ok, nmX11, by decide, wd_1182, rfl, by decide +kernel⟩
theorem fl_X11_180 : wFl RX11 180 11 9 := ⟨RX11, TX11, 59, rfl, wcl_11, by decide, wd_1183⟩
theorem fp_X11_180 : wFp RX11 180 11 9 .int := ⟨RX11, TX11, 59, tyX11, rfl, wcl_11, tyX11_ok, nmX11, by decide, wd_1183, rfl, by decide +kernel⟩
theorem fl_X11_13 : wFl RX11 13 11 10 := ⟨RX11, TX11, 59, rfl, wcl_11, by decide, wd_1184⟩
theorem fl_X11_16 : wFl RX11 16 11 11 := ⟨RX11, TX11, 59, rfl, wcl_11, by decide, wd_1185⟩
theorem fl_X11_20 : wFl RX11 20 11 12 := ⟨RX11, TX11, 59, rfl, wcl_11, by decide, wd_1186⟩
theorem fl_X11_23 : wFl RX11 23 11 13 := ⟨RX11, TX11, 59, rfl, wcl_11, by decide, wd_1187⟩
theorem fl_X11_26 : wFl RX11 26 11 14 := ⟨RX11, TX11, 59, rfl, wcl_11, by decide, wd_1188⟩
theorem fl_X11_29 : wFl RX11 29 11 15 := ⟨RX11, TX11, 59, rfl, wcl_11, by decide, wd_1189⟩
theorem fl_X11_32 : wFl RX11 32 11 16 := ⟨RX11, TX11, 59, rfl, wcl_11, by decide, wd_1190⟩
theorem fl_X11_35 : wFl RX11 35 11 17 := ⟨RX11, TX11, 59, rfl, wcl_11, by decide, wd_1191⟩
theorem fl_X11_38 : wFl RX11 38 11 18 := ⟨RX11, TX11, 59, rfl, wcl_11, by decide, wd_1192⟩
theorem fl_X11_41 : wFl RX11 41 11 19 := ⟨RX11, TX11, 59, rfl, wcl_11, by decide, wd_1193⟩
theorem fl_X11_44 : wFl RX11 44 11 20 := ⟨RX11, TX11, 59, rfl, wcl_11, by decide, wd_1194⟩
theorem fl_X11_47 : wFl RX11 47 11 21 := ⟨RX11, TX11, 59, rfl, wcl_11, by decide, wd_1195⟩
theorem fl_X11_50 : wFl RX11 50 11 22 := ⟨RX11, TX11, 59, rfl, wcl_11, by decide, wd_1196⟩
theorem fl_X11_183 : wFl RX11 183 11 23 := ⟨RX11, TX11, 59, rfl, wcl_11, by decide, wd_1197⟩
theorem fp_X11_183 : wFp RX11 183 11 23 .int := ⟨RX11, TX11, 59, tyX11, rfl, wcl_11, tyX11_ok, nmX11, by decide, wd_1197, rfl, by decide +kernel⟩
theorem fl_X11_53 : wFl RX11 53 11 24 := ⟨RX11, TX11, 59, rfl, wcl_11, by decide, wd_1198⟩
theorem fl_X11_56 : wFl RX11 56 11 25 := ⟨RX11, TX11, 59, rfl, wcl_11, by decide, wd_1199⟩
theorem fl_X11_60 : wFl RX11 60 11 26 := ⟨RX11, TX11, 59, rfl, wcl_11, by decide, wd_1200⟩
theorem fl_X11_63 : wFl RX11 63 11 27 := ⟨RX11, TX11, 59, rfl, wcl_11, by decide, wd_1201⟩
theorem fl_X11_66 : wFl RX11 66 11 28 := ⟨RX11, TX11, 59, rfl, wcl_11, by decide, wd_1202⟩
theorem fl_X11_69 : wFl RX11 69 11 29 := ⟨RX11, TX11, 59, rfl, wcl_11, by decide, wd_1203⟩
theorem fl_X11_72 : wFl RX11 72 11 30 := ⟨RX11, TX11, 59, rfl, wcl_11, by decide, wd_1204⟩
theorem fl_X11_75 : wFl RX11 75 11 31 := ⟨RX11, TX11, 59, rfl, wcl_11, by decide, wd_1205⟩
theorem fl_X11_78 : wFl RX11 78 11 32 := ⟨RX11, TX11, 59, rfl, wcl_11, by decide, wd_1206⟩
theorem fl_X11_81 : wFl RX11 81 11 33 := ⟨RX11, TX11, 59, rfl, wcl_11, by decide, wd_1207⟩
theorem fl_X11_84 : wFl RX11 84 11 34 := ⟨RX11, TX11, 59, rfl, wcl_11, by decide, wd_1208⟩
theorem fl_X11_87 : wFl RX11 87 11 35 := ⟨RX11, TX11, 59, rfl, wcl_11, by decide, wd_1209⟩
theorem fl_X11_269 : wFl RX11 269 11 36 := ⟨RX11, TX11, 59, rfl, wcl_11, by decide, wd_1210⟩
theorem fp_X11_269 : wFp RX11 269 11 36 .int := ⟨RX11, TX11, 59, tyX11, rfl, wcl_11, tyX11_ok, nmX11, by decide, wd_1210, rfl, by decide +kernel⟩
theorem fl_X11_286 : wFl RX11 286 11 37 := ⟨RX11, TX11, 59, rfl, wcl_11, by decide, wd_1211⟩
theorem fp_X11_286 : wFp RX11 286 11 37 .long := ⟨RX11, TX11, 59, tyX11, rfl, wcl_11, tyX11_ok, nmX11, by decide, wd_1211, rfl, by decide +kernel⟩
theorem fl_X11_90 : wFl RX11 90 11 38 := ⟨RX11, TX11, 59, rfl, wcl_11, by decide, wd_1212⟩
theorem fl_X11_93 : wFl RX11 93 11 39 := ⟨RX11, TX11, 59, rfl, wcl_11, by decide, wd_1213⟩
theorem fl_X11_96 : wFl RX11 96 11 40 := ⟨RX11, TX11, 59, rfl, wcl_11, by decide, wd_1214⟩
theorem fl_X11_99 : wFl RX11 99 11 41 := ⟨RX11, TX11, 59, rfl, wcl_11, by decide, wd_1215⟩
theorem fl_X11_102 : wFl RX11 102 11 42 := ⟨RX11, TX11, 59, rfl, wcl_11, by decide, wd_1216⟩
theorem fl_X11_105 : wFl RX11 105 11 43 := ⟨RX11, TX11, 59, rfl, wcl_11, by decide, wd_1217⟩
theorem fl_X11_108 : wFl RX11 108 11 44 := ⟨RX11, TX11, 59, rfl, wcl_11, by decide, wd_1218⟩
theorem fl_X11_111 : wFl RX11 111 11 45 := ⟨RX11, TX11, 59, rfl, wcl_11, by decide, wd_1219⟩
theorem fl_X11_114 : wFl RX11 114 11 46 := ⟨RX11, TX11, 59, rfl, wcl_11, by decide, wd_1220⟩
theorem fl_X11_117 : wFl RX11 117 11 47 := ⟨RX11, TX11, 59, rfl, wcl_11, by decide, wd_1221⟩
theorem fl_X11_120 : wFl RX11 120 11 48 := ⟨RX11, TX11, 59, rfl, wcl_11, by decide, wd_1222⟩
theorem fl_X11_123 : wFl RX11 123 11 49 := ⟨RX11, TX11, 59, rfl, wcl_11, by decide, wd_1223⟩
theorem fl_X11_126 : wFl RX11 126 11 50 := ⟨RX11, TX11, 59, rfl, wcl_11, by decide, wd_1224⟩
theorem fl_X11_129 : wFl RX11 129 11 51 := ⟨RX11, TX11, 59, rfl, wcl_11, by decide, wd_1225⟩
theorem fl_X11_132 : wFl RX11 132 11 52 := ⟨RX11, TX11, 59, rfl, wcl_11, by decide, wd_1226⟩
theorem fl_X11_135 : wFl RX11 135 11 53 := ⟨RX11, TX11, 59, rfl, wcl_11, by decide, wd_1227⟩
theorem fl_X11_343 : wFl RX11 343 11 54 := ⟨RX11, TX11, 59, rfl, wcl_11, by decide, wd_1228⟩
theorem fp_X11_343 : wFp RX11 343 11 54 .int := ⟨RX11, TX11, 59, tyX11, rfl, wcl_11, tyX11_ok, nmX11, by decide, wd_1228, rfl, by decide +kernel⟩
theorem fl_X11_138 : wFl RX11 138 11 55 := ⟨RX11, TX11, 59, rfl, wcl_11, by decide, wd_1229⟩
theorem fl_X11_141 : wFl RX11 141 11 56 := ⟨RX11, TX11, 59, rfl, wcl_11, by decide, wd_1230⟩
theorem fl_X11_439 : wFl RX11 439 11 57 := ⟨RX11, TX11, 59, rfl, wcl_11, by decide, wd_1231⟩
theorem fp_X11_439 : wFp RX11 439 11 57 .int := ⟨RX11, TX11, 59, tyX11, rfl, wcl_11, tyX11_ok, nmX11, by decide, wd_1231, rfl, by decide +kernel⟩
theorem fl_X11_462 : wFl RX11 462 11 58 := ⟨RX11, TX11, 59, rfl, wcl_11, by decide, wd_1232⟩
theorem fp_X11_462 : wFp RX11 462 11 58 .long := ⟨RX11, TX11, 59, tyX11, rfl, wcl_11, tyX11_ok, nmX11, by decide, wd_1232, rfl, by decide +kernel⟩
theorem vl_X10_83 : wVl RX10 83 7 yX7_addBytes cX7_addBytes 5 none 1 := by
  have w1 := wd_358
  have w2 := wd_355
  have w3 := wd_356
  have w4 := wd_357
  have w5 := wd_2
  exact ⟨⟨TX7, 8, rfl⟩, by decide +kernel, w1, w2, w3, w4, w5⟩
theorem vl_X10_91 : wVl RX10 91 4 yX4_readFrom cX4_readFrom 3 (some .int) 1 := by
  have w1 := wd_366
  have w2 := wd_363
  have w3 := wd_364
  have w4 := wd_365
  have w5 := wd_3
  exact ⟨⟨TX4, 13, rfl⟩, by decide +kernel, w1, w2, w3, w4, w5⟩
theorem vl_X10_95 : wVl RX10 95 7 yX7_clear cX7_clear 1 none 0 := by
  have w1 := wd_652
  have w2 := wd_649
  have w3 := wd_650
  have w4 := wd_651
  have w5 := wd_2
  exact ⟨⟨TX7, 8, rfl⟩, by decide +kernel, w1, w2, w3, w4, w5⟩
theorem vl_X10_98 : wVl RX10 98 4 yX4_copyFrom cX4_copyFrom 2 none 1 := by
  have w1 := wd_656
  have w2 := wd_653
  have w3 := wd_654
  have w4 := wd_655
  have w5 := wd_3
  exact ⟨⟨TX4, 13, rfl⟩, by decide +kernel, w1, w2, w3, w4, w5⟩
theorem vl_X10_101 : wVl RX10 101 6 yX6_begin cX6_begin 2 none 0 := by
  have w1 := wd_668
  have w2 := wd_665
  have w3 := wd_666
  have w4 := wd_667
  have w5 := wd_5
  exact ⟨⟨TX6, 6, rfl⟩, by decide +kernel, w1, w2, w3, w4, w5⟩
theorem vl_X10_104 : wVl RX10 104 9 yX9_clear cX9_clear 1 none 0 := by
  have w1 := wd_676
  have w2 := wd_673
  have w3 := wd_674
  have w4 := wd_675
  have w5 := wd_6
  exact ⟨⟨TX9, 2, rfl⟩, by decide +kernel, w1, w2, w3, w4, w5⟩
theorem vl_X10_105 : wVl RX10 105 5 yX5_clear cX5_clear 1 none 0 := by
  have w1 := wd_680
  have w2 := wd_677
  have w3 := wd_678
  have w4 := wd_679
  have w5 := wd_7
  exact ⟨⟨TX5, 5, rfl⟩, by decide +kernel, w1, w2, w3, w4, w5⟩
theorem vl_X10_106 : wVl RX10 106 8 yX8_clear cX8_clear 1 none 0 := by
  have w1 := wd_684
  have w2 := wd_681
  have w3 := wd_682
  have w4 := wd_683
  have w5 := wd_8
  exact ⟨⟨TX8, 3, rfl⟩, by decide +kernel, w1, w2, w3, w4, w5⟩
theorem vl_X10_111 : wVl RX10 111 9 yX9_readFrom cX9_readFrom 4 (some .int) 2 := by
  have w1 := wd_692
  have w2 := wd_689
  have w3 := wd_690
  have w4 := wd_691
  have w5 := wd_6
  exact ⟨⟨TX9, 2, rfl⟩, by decide +kernel, w1, w2, w3, w4, w5⟩
theorem vl_X10_114 : wVl RX10 114 9 yX9_copyFrom cX9_copyFrom 2 none 1 := by
  have w1 := wd_720
  have w2 := wd_717
  have w3 := wd_718
  have w4 := wd_719
  have w5 := wd_6
  exact ⟨⟨TX9, 2, rfl⟩, by decide +kernel, w1, w2, w3, w4, w5⟩
theorem vl_X10_117 : wVl RX10 117 4 yX4_hasSkin cX4_hasSkin 2 (some .boolean) 1 := by
  have w1 := wd_729
  have w2 := wd_726
  have w3 := wd_727
  have w4 := wd_728
  have w5 := wd_3
  exact ⟨⟨TX4, 13, rfl⟩, by decide +kernel, w1, w2, w3, w4, w5⟩
theorem vl_X10_134 : wVl RX10 134 6 yX6_damp cX6_damp 1 (some .int) 0 := by
  have w1 := wd_733
  have w2 := wd_730
  have w3 := wd_731
  have w4 := wd_732
  have w5 := wd_5
  exact ⟨⟨TX6, 6, rfl⟩, by decide +kernel, w1, w2, w3, w4, w5⟩
theorem vl_X10_138 : wVl RX10 138 6 yX6_shownLines cX6_shownLines 5 (some .int) 2 := by
  have w1 := wd_741
  have w2 := wd_738
  have w3 := wd_739
  have w4 := wd_740
  have w5 := wd_5
  exact ⟨⟨TX6, 6, rfl⟩, by decide +kernel, w1, w2, w3, w4, w5⟩
theorem vl_X10_142 : wVl RX10 142 4 yX4_hasText cX4_hasText 2 (some .boolean) 1 := by
  have w1 := wd_768
  have w2 := wd_765
  have w3 := wd_766
  have w4 := wd_767
  have w5 := wd_3
  exact ⟨⟨TX4, 13, rfl⟩, by decide +kernel, w1, w2, w3, w4, w5⟩
theorem vl_X10_154 : wVl RX10 154 6 yX6_isWhole cX6_isWhole 3 (some .boolean) 2 := by
  have w1 := wd_772
  have w2 := wd_769
  have w3 := wd_770
  have w4 := wd_771
  have w5 := wd_5
  exact ⟨⟨TX6, 6, rfl⟩, by decide +kernel, w1, w2, w3, w4, w5⟩
theorem vl_X10_158 : wVl RX10 158 6 yX6_made cX6_made 6 (some .int) 2 := by
  have w1 := wd_780
  have w2 := wd_777
  have w3 := wd_778
  have w4 := wd_779
  have w5 := wd_5
  exact ⟨⟨TX6, 6, rfl⟩, by decide +kernel, w1, w2, w3, w4, w5⟩
theorem vl_X10_161 : wVl RX10 161 4 yX4_hasLine cX4_hasLine 3 (some .boolean) 2 := by
  have w1 := wd_788
  have w2 := wd_785
  have w3 := wd_786
  have w4 := wd_787
  have w5 := wd_3
  exact ⟨⟨TX4, 13, rfl⟩, by decide +kernel, w1, w2, w3, w4, w5⟩
theorem vl_X10_167 : wVl RX10 167 6 yX6_layerAt cX6_layerAt 3 (some .int) 2 := by
  have w1 := wd_749
  have w2 := wd_794
  have w3 := wd_747
  have w4 := wd_748
  have w5 := wd_5
  exact ⟨⟨TX6, 6, rfl⟩, by decide +kernel, w1, w2, w3, w4, w5⟩
theorem vl_X10_170 : wVl RX10 170 6 yX6_shown cX6_shown 8 (some .int) 3 := by
  have w1 := wd_745
  have w2 := wd_799
  have w3 := wd_743
  have w4 := wd_744
  have w5 := wd_5
  exact ⟨⟨TX6, 6, rfl⟩, by decide +kernel, w1, w2, w3, w4, w5⟩
theorem vl_X10_174 : wVl RX10 174 6 yX6_canWrite cX6_canWrite 5 (some .boolean) 3 := by
  have w1 := wd_807
  have w2 := wd_804
  have w3 := wd_805
  have w4 := wd_806
  have w5 := wd_5
  exact ⟨⟨TX6, 6, rfl⟩, by decide +kernel, w1, w2, w3, w4, w5⟩
theorem vl_X10_178 : wVl RX10 178 8 yX8_keep cX8_keep 2 none 1 := by
  have w1 := wd_815
  have w2 := wd_812
  have w3 := wd_813
  have w4 := wd_814
  have w5 := wd_8
  exact ⟨⟨TX8, 3, rfl⟩, by decide +kernel, w1, w2, w3, w4, w5⟩
theorem vl_X10_182 : wVl RX10 182 6 yX6_put cX6_put 6 none 3 := by
  have w1 := wd_825
  have w2 := wd_822
  have w3 := wd_823
  have w4 := wd_824
  have w5 := wd_5
  exact ⟨⟨TX6, 6, rfl⟩, by decide +kernel, w1, w2, w3, w4, w5⟩
theorem vl_X10_186 : wVl RX10 186 10 yX10_rubByHand cX10_rubByHand 3 (some .int) 2 := by
  have w1 := wd_833
  have w2 := wd_830
  have w3 := wd_832
  have w4 := wp_13
  have w5 := wd_1
  exact ⟨⟨TX10, 12, rfl⟩, by decide +kernel, w1, w2, w3, w4, w5⟩
theorem vl_X10_189 : wVl RX10 189 6 yX6_canRub cX6_canRub 3 (some .boolean) 2 := by
  have w1 := wd_837
  have w2 := wd_834
  have w3 := wd_835
  have w4 := wd_836
  have w5 := wd_5
  exact ⟨⟨TX6, 6, rfl⟩, by decide +kernel, w1, w2, w3, w4, w5⟩
theorem vl_X10_192 : wVl RX10 192 6 yX6_rub cX6_rub 4 (some .boolean) 2 := by
  have w1 := wd_841
  have w2 := wd_838
  have w3 := wd_839
  have w4 := wd_840
  have w5 := wd_5
  exact ⟨⟨TX6, 6, rfl⟩, by decide +kernel, w1, w2, w3, w4, w5⟩
theorem vl_X10_198 : wVl RX10 198 8 yX8_takeBack cX8_takeBack 2 (some .boolean) 1 := by
  have w1 := wd_862
  have w2 := wd_859
  have w3 := wd_860
  have w4 := wd_861
  have w5 := wd_8
  exact ⟨⟨TX8, 3, rfl⟩, by decide +kernel, w1, w2, w3, w4, w5⟩
theorem vl_X10_205 : wVl RX10 205 6 yX6_goneSkins cX6_goneSkins 3 (some .int) 0 := by
  have w1 := wd_870
  have w2 := wd_867
  have w3 := wd_868
  have w4 := wd_869
  have w5 := wd_5
  exact ⟨⟨TX6, 6, rfl⟩, by decide +kernel, w1, w2, w3, w4, w5⟩
theorem vl_X10_209 : wVl RX10 209 6 yX6_follow cX6_follow 5 (some .boolean) 1 := by
  have w1 := wd_874
  have w2 := wd_871
  have w3 := wd_872
  have w4 := wd_873
  have w5 := wd_5
  exact ⟨⟨TX6, 6, rfl⟩, by decide +kernel, w1, w2, w3, w4, w5⟩
theorem vl_X10_212 : wVl RX10 212 6 yX6_wholeTexts cX6_wholeTexts 8 (some .int) 1 := by
  have w1 := wd_776
  have w2 := wd_884
  have w3 := wd_774
  have w4 := wd_775
  have w5 := wd_5
  exact ⟨⟨TX6, 6, rfl⟩, by decide +kernel, w1, w2, w3, w4, w5⟩
theorem sl_X10_216 : wSl1 RX10 216 yJ6_bitCount_0f7a4 cJ6_bitCount_0f7a4 1 (some .int) 1 := ⟨by decide +kernel, wd_887, wd_885, wd_886, wd_20⟩
theorem vl_X10_221 : wVl RX10 221 4 yX4_dampOf cX4_dampOf 2 (some .int) 1 := by
  have w1 := wd_737
  have w2 := wd_895
  have w3 := wd_735
  have w4 := wd_736
  have w5 := wd_3
  exact ⟨⟨TX4, 13, rfl⟩, by decide +kernel, w1, w2, w3, w4, w5⟩
theorem vl_X10_232 : wVl RX10 232 6 yX6_textsLaid cX6_textsLaid 4 (some .int) 0 := by
  have w1 := wd_912
  have w2 := wd_909
  have w3 := wd_910
  have w4 := wd_911
  have w5 := wd_5
  exact ⟨⟨TX6, 6, rfl⟩, by decide +kernel, w1, w2, w3, w4, w5⟩
theorem vl_X10_235 : wVl RX10 235 6 yX6_shownTexts cX6_shownTexts 6 (some .int) 1 := by
  have w1 := wd_916
  have w2 := wd_913
  have w3 := wd_914
  have w4 := wd_915
  have w5 := wd_5
  exact ⟨⟨TX6, 6, rfl⟩, by decide +kernel, w1, w2, w3, w4, w5⟩
theorem vl_X10_238 : wVl RX10 238 6 yX6_firstPlace cX6_firstPlace 4 (some .int) 2 := by
  have w1 := wd_924
  have w2 := wd_921
  have w3 := wd_922
  have w4 := wd_923
  have w5 := wd_5
  exact ⟨⟨TX6, 6, rfl⟩, by decide +kernel, w1, w2, w3, w4, w5⟩
theorem vl_X10_241 : wVl RX10 241 10 yX10_costOfRubbing cX10_costOfRubbing 4 (some .int) 3 := by
  have w1 := wd_932
  have w2 := wd_929
  have w3 := wd_931
  have w4 := wp_16
  have w5 := wd_1
  exact ⟨⟨TX10, 12, rfl⟩, by decide +kernel, w1, w2, w3, w4, w5⟩
theorem vl_X10_247 : wVl RX10 247 6 yX6_copyFrom cX6_copyFrom 2 none 1 := by
  have w1 := wd_819
  have w2 := wd_933
  have w3 := wd_817
  have w4 := wd_818
  have w5 := wd_5
  exact ⟨⟨TX6, 6, rfl⟩, by decide +kernel, w1, w2, w3, w4, w5⟩
theorem vl_X10_249 : wVl RX10 249 6 yX6_freeLines cX6_freeLines 3 (some .int) 0 := by
  have w1 := wd_942
  have w2 := wd_939
  have w3 := wd_940
  have w4 := wd_941
  have w5 := wd_5
  exact ⟨⟨TX6, 6, rfl⟩, by decide +kernel, w1, w2, w3, w4, w5⟩
theorem vl_X10_252 : wVl RX10 252 3 yX3_find cX3_find 5 none 1 := by
  have w1 := wd_946
  have w2 := wd_943
  have w3 := wd_944
  have w4 := wd_945
  have w5 := wd_9
  exact ⟨⟨TX3, 7, rfl⟩, by decide +kernel, w1, w2, w3, w4, w5⟩
theorem vl_X10_262 : wVl RX10 262 6 yX6_textsOver cX6_textsOver 7 (some .int) 1 := by
  have w1 := wd_982
  have w2 := wd_979
  have w3 := wd_980
  have w4 := wd_981
  have w5 := wd_5
  exact ⟨⟨TX6, 6, rfl⟩, by decide +kernel, w1, w2, w3, w4, w5⟩
theorem vl_X10_265 : wVl RX10 265 6 yX6_pairsAlike cX6_pairsAlike 4 (some .int) 0 := by
  have w1 := wd_998
  have w2 := wd_995
  have w3 := wd_996
  have w4 := wd_997
  have w5 := wd_5
  exact ⟨⟨TX6, 6, rfl⟩, by decide +kernel, w1, w2, w3, w4, w5⟩
theorem vl_X10_271 : wVl RX10 271 5 yX5_add cX5_add 5 (some .boolean) 4 := by
  have w1 := wd_1014
  have w2 := wd_1011
  have w3 := wd_1012
  have w4 := wd_1013
  have w5 := wd_7
  exact ⟨⟨TX5, 5, rfl⟩, by decide +kernel, w1, w2, w3, w4, w5⟩
theorem vl_X10_275 : wVl RX10 275 10 yX10_textsAsSeen cX10_textsAsSeen 3 (some .int) 0 := by
  have w1 := wd_1022
  have w2 := wd_1019
  have w3 := wd_1021
  have w4 := wp_23
  have w5 := wd_1
  exact ⟨⟨TX10, 12, rfl⟩, by decide +kernel, w1, w2, w3, w4, w5⟩
theorem vl_X10_281 : wVl RX10 281 5 yX5_agrees cX5_agrees 6 (some .boolean) 3 := by
  have w1 := wd_1026
  have w2 := wd_1023
  have w3 := wd_1024
  have w4 := wd_1025
  have w5 := wd_7
  exact ⟨⟨TX5, 5, rfl⟩, by decide +kernel, w1, w2, w3, w4, w5⟩
theorem vl_X10_285 : wVl RX10 285 4 yX4_howManyShow cX4_howManyShow 7 (some .int) 4 := by
  have w1 := wd_1035
  have w2 := wd_1032
  have w3 := wd_1033
  have w4 := wd_1034
  have w5 := wd_3
  exact ⟨⟨TX4, 13, rfl⟩, by decide +kernel, w1, w2, w3, w4, w5⟩
theorem sl_X10_290 : wSl1 RX10 290 yX10_isGain cX10_isGain 1 (some .boolean) 1 := ⟨by decide +kernel, wd_1100, wd_1098, wd_1099, wd_1⟩
theorem sl_X10_296 : wSl1 RX10 296 yX10_isContent cX10_isContent 5 (some .boolean) 5 := ⟨by decide +kernel, wd_1164, wd_1162, wd_1163, wd_1⟩
theorem sl_X10_300 : wSl1 RX10 300 yX10_gainOf cX10_gainOf 5 (some .int) 5 := ⟨by decide +kernel, wd_1167, wd_1165, wd_1166, wd_1⟩
theorem vl_X10_304 : wVl RX10 304 1 yX1_start cX1_start 2 none 1 := by
  have w1 := wd_1049
  have w2 := wd_1046
  have w3 := wd_1047
  have w4 := wd_1048
  have w5 := wd_10
  exact ⟨⟨TX1, 1, rfl⟩, by decide +kernel, w1, w2, w3, w4, w5⟩
theorem vl_X10_307 : wVl RX10 307 6 yX6_liveByDraws cX6_liveByDraws 6 (some .boolean) 1 := by
  have w1 := wd_1053
  have w2 := wd_1050
  have w3 := wd_1051
  have w4 := wd_1052
  have w5 := wd_5
  exact ⟨⟨TX6, 6, rfl⟩, by decide +kernel, w1, w2, w3, w4, w5⟩
theorem vl_X10_311 : wVl RX10 311 6 yX6_thickTogether cX6_thickTogether 3 (some .int) 0 := by
  have w1 := wd_1065
  have w2 := wd_1062
  have w3 := wd_1063
  have w4 := wd_1064
  have w5 := wd_5
  exact ⟨⟨TX6, 6, rfl⟩, by decide +kernel, w1, w2, w3, w4, w5⟩
theorem vl_X10_314 : wVl RX10 314 0 yX0_keep cX0_keep 4 none 3 := by
  have w1 := wd_1073
  have w2 := wd_1070
  have w3 := wd_1071
  have w4 := wd_1072
  have w5 := wd_11
  exact ⟨⟨TX0, 4, rfl⟩, by decide +kernel, w1, w2, w3, w4, w5⟩
theorem vl_X10_322 : wVl RX10 322 5 yX5_copyFrom cX5_copyFrom 2 none 1 := by
  have w1 := wd_1079
  have w2 := wd_1081
  have w3 := wd_1077
  have w4 := wd_1078
  have w5 := wd_7
  exact ⟨⟨TX5, 5, rfl⟩, by decide +kernel, w1, w2, w3, w4, w5⟩
theorem vl_X10_325 : wVl RX10 325 6 yX6_layersTogether cX6_layersTogether 3 (some .int) 0 := by
  have w1 := wd_1089
  have w2 := wd_1086
  have w3 := wd_1087
  have w4 := wd_1088
  have w5 := wd_5
  exact ⟨⟨TX6, 6, rfl⟩, by decide +kernel, w1, w2, w3, w4, w5⟩
theorem vl_X0_32 : wVl RX0 32 6 yX6_copyFrom cX6_copyFrom 2 none 1 := by
  have w1 := wd_819
  have w2 := wd_1074
  have w3 := wd_817
  have w4 := wd_818
  have w5 := wd_5
  exact ⟨⟨TX6, 6, rfl⟩, by decide +kernel, w1, w2, w3, w4, w5⟩
theorem vl_X0_36 : wVl RX0 36 9 yX9_copyFrom cX9_copyFrom 2 none 1 := by
  have w1 := wd_720
  have w2 := wd_1075
  have w3 := wd_718
  have w4 := wd_719
  have w5 := wd_6
  exact ⟨⟨TX9, 2, rfl⟩, by decide +kernel, w1, w2, w3, w4, w5⟩
theorem vl_X0_39 : wVl RX0 39 5 yX5_copyFrom cX5_copyFrom 2 none 1 := by
  have w1 := wd_1079
  have w2 := wd_1076
  have w3 := wd_1077
  have w4 := wd_1078
  have w5 := wd_7
  exact ⟨⟨TX5, 5, rfl⟩, by decide +kernel, w1, w2, w3, w4, w5⟩
theorem vl_X2_32 : wVl RX2 32 2 yX2_add cX2_add 2 none 1 := by
  have w1 := wd_374
  have w2 := wd_371
  have w3 := wd_373
  have w4 := wp_0
  have w5 := wd_4
  exact ⟨⟨TX2, 4, rfl⟩, by decide +kernel, w1, w2, w3, w4, w5⟩
theorem vl_X2_36 : wVl RX2 36 7 yX7_fail cX7_fail 2 none 1 := by
  have w1 := wd_520
  have w2 := wd_621
  have w3 := wd_518
  have w4 := wd_519
  have w5 := wd_2
  exact ⟨⟨TX7, 8, rfl⟩, by decide +kernel, w1, w2, w3, w4, w5⟩
theorem vl_X2_39 : wVl RX2 39 7 yX7_next cX7_next 2 none 0 := by
  have w1 := wd_382
  have w2 := wd_622
  have w3 := wd_380
  have w4 := wd_381
  have w5 := wd_2
  exact ⟨⟨TX7, 8, rfl⟩, by decide +kernel, w1, w2, w3, w4, w5⟩
theorem vl_X2_42 : wVl RX2 42 2 yX2_readLevel cX2_readLevel 7 none 3 := by
  have w1 := wd_626
  have w2 := wd_623
  have w3 := wd_625
  have w4 := wp_8
  have w5 := wd_4
  exact ⟨⟨TX2, 4, rfl⟩, by decide +kernel, w1, w2, w3, w4, w5⟩
theorem vl_X2_46 : wVl RX2 46 7 yX7_takeSign cX7_takeSign 2 none 1 := by
  have w1 := wd_572
  have w2 := wd_643
  have w3 := wd_570
  have w4 := wd_571
  have w5 := wd_2
  exact ⟨⟨TX7, 8, rfl⟩, by decide +kernel, w1, w2, w3, w4, w5⟩
theorem vl_X2_50 : wVl RX2 50 2 yX2_readPart cX2_readPart 5 none 2 := by
  have w1 := wd_630
  have w2 := wd_627
  have w3 := wd_629
  have w4 := wp_9
  have w5 := wd_4
  exact ⟨⟨TX2, 4, rfl⟩, by decide +kernel, w1, w2, w3, w4, w5⟩
theorem vl_X2_54 : wVl RX2 54 7 yX7_isSound cX7_isSound 1 (some .boolean) 0 := by
  have w1 := wd_482
  have w2 := wd_631
  have w3 := wd_480
  have w4 := wd_481
  have w5 := wd_2
  exact ⟨⟨TX7, 8, rfl⟩, by decide +kernel, w1, w2, w3, w4, w5⟩
theorem sl_X2_58 : wSl1 RX2 58 yX2_jointAt cX2_jointAt 2 (some .int) 2 := ⟨by decide +kernel, wd_646, wd_644, wd_645, wd_4⟩
theorem vl_X2_64 : wVl RX2 64 7 yX7_isWord cX7_isWord 3 (some .boolean) 1 := by
  have w1 := wd_491
  have w2 := wd_636
  have w3 := wd_489
  have w4 := wd_490
  have w5 := wd_2
  exact ⟨⟨TX7, 8, rfl⟩, by decide +kernel, w1, w2, w3, w4, w5⟩
theorem vl_X2_70 : wVl RX2 70 7 yX7_isSign cX7_isSign 2 (some .boolean) 1 := by
  have w1 := wd_576
  have w2 := wd_642
  have w3 := wd_574
  have w4 := wd_575
  have w5 := wd_2
  exact ⟨⟨TX7, 8, rfl⟩, by decide +kernel, w1, w2, w3, w4, w5⟩
theorem sl_X2_74 : wSl1 RX2 74 yX2_factAt cX2_factAt 1 (some .int) 1 := ⟨by decide +kernel, wd_634, wd_632, wd_633, wd_4⟩
theorem vl_X2_80 : wVl RX2 80 7 yX7_isNumber cX7_isNumber 1 (some .boolean) 0 := by
  have w1 := wd_615
  have w2 := wd_641
  have w3 := wd_613
  have w4 := wd_614
  have w5 := wd_2
  exact ⟨⟨TX7, 8, rfl⟩, by decide +kernel, w1, w2, w3, w4, w5⟩
theorem sl_X2_94 : wSl1 RX2 94 yX2_joined cX2_joined 3 (some .int) 3 := ⟨by decide +kernel, wd_760, wd_758, wd_759, wd_4⟩
theorem vl_X3_34 : wVl RX3 34 3 yX3_canLay cX3_canLay 4 (some .boolean) 3 := by
  have w1 := wd_950
  have w2 := wd_947
  have w3 := wd_949
  have w4 := wp_17
  have w5 := wd_9
  exact ⟨⟨TX3, 7, rfl⟩, by decide +kernel, w1, w2, w3, w4, w5⟩
theorem vl_X3_38 : wVl RX3 38 3 yX3_firstPlaceLeaving cX3_firstPlaceLeaving 7 (some .int) 3 := by
  have w1 := wd_966
  have w2 := wd_963
  have w3 := wd_965
  have w4 := wp_21
  have w5 := wd_9
  exact ⟨⟨TX3, 7, rfl⟩, by decide +kernel, w1, w2, w3, w4, w5⟩
theorem vl_X3_42 : wVl RX3 42 3 yX3_linesOf cX3_linesOf 3 (some .int) 2 := by
  have w1 := wd_970
  have w2 := wd_967
  have w3 := wd_969
  have w4 := wp_22
  have w5 := wd_9
  exact ⟨⟨TX3, 7, rfl⟩, by decide +kernel, w1, w2, w3, w4, w5⟩
theorem vl_X3_49 : wVl RX3 49 3 yX3_gatherShortest cX3_gatherShortest 5 none 2 := by
  have w1 := wd_954
  have w2 := wd_951
  have w3 := wd_953
  have w4 := wp_18
  have w5 := wd_9
  exact ⟨⟨TX3, 7, rfl⟩, by decide +kernel, w1, w2, w3, w4, w5⟩
theorem vl_X3_56 : wVl RX3 56 3 yX3_gatherStretches cX3_gatherStretches 6 none 1 := by
  have w1 := wd_958
  have w2 := wd_955
  have w3 := wd_957
  have w4 := wp_19
  have w5 := wd_9
  exact ⟨⟨TX3, 7, rfl⟩, by decide +kernel, w1, w2, w3, w4, w5⟩
theorem vl_X3_60 : wVl RX3 60 3 yX3_fill cX3_fill 8 (some .boolean) 1 := by
  have w1 := wd_962
  have w2 := wd_959
  have w3 := wd_961
  have w4 := wp_20
  have w5 := wd_9
  exact ⟨⟨TX3, 7, rfl⟩, by decide +kernel, w1, w2, w3, w4, w5⟩
theorem vl_X4_63 : wVl RX4 63 2 yX2_copyFrom cX2_copyFrom 2 none 1 := by
  have w1 := wd_663
  have w2 := wd_660
  have w3 := wd_661
  have w4 := wd_662
  have w5 := wd_4
  exact ⟨⟨TX2, 4, rfl⟩, by decide +kernel, w1, w2, w3, w4, w5⟩
theorem vl_X4_67 : wVl RX4 67 2 yX2_setUntold cX2_setUntold 1 none 0 := by
  have w1 := wd_370
  have w2 := wd_367
  have w3 := wd_368
  have w4 := wd_369
  have w5 := wd_4
  exact ⟨⟨TX2, 4, rfl⟩, by decide +kernel, w1, w2, w3, w4, w5⟩
theorem vl_X4_70 : wVl RX4 70 7 yX7_rewind cX7_rewind 1 none 0 := by
  have w1 := wd_378
  have w2 := wd_375
  have w3 := wd_376
  have w4 := wd_377
  have w5 := wd_2
  exact ⟨⟨TX7, 8, rfl⟩, by decide +kernel, w1, w2, w3, w4, w5⟩
theorem vl_X4_75 : wVl RX4 75 7 yX7_isSound cX7_isSound 1 (some .boolean) 0 := by
  have w1 := wd_482
  have w2 := wd_479
  have w3 := wd_480
  have w4 := wd_481
  have w5 := wd_2
  exact ⟨⟨TX7, 8, rfl⟩, by decide +kernel, w1, w2, w3, w4, w5⟩
theorem vl_X4_79 : wVl RX4 79 7 yX7_isAtEnd cX7_isAtEnd 1 (some .boolean) 0 := by
  have w1 := wd_486
  have w2 := wd_483
  have w3 := wd_484
  have w4 := wd_485
  have w5 := wd_2
  exact ⟨⟨TX7, 8, rfl⟩, by decide +kernel, w1, w2, w3, w4, w5⟩
theorem vl_X4_84 : wVl RX4 84 7 yX7_isWord cX7_isWord 3 (some .boolean) 1 := by
  have w1 := wd_491
  have w2 := wd_488
  have w3 := wd_489
  have w4 := wd_490
  have w5 := wd_2
  exact ⟨⟨TX7, 8, rfl⟩, by decide +kernel, w1, w2, w3, w4, w5⟩
theorem vl_X4_88 : wVl RX4 88 4 yX4_readSkin cX4_readSkin 2 none 1 := by
  have w1 := wd_516
  have w2 := wd_513
  have w3 := wd_515
  have w4 := wp_3
  have w5 := wd_3
  exact ⟨⟨TX4, 13, rfl⟩, by decide +kernel, w1, w2, w3, w4, w5⟩
theorem vl_X4_94 : wVl RX4 94 4 yX4_readHole cX4_readHole 4 none 1 := by
  have w1 := wd_581
  have w2 := wd_578
  have w3 := wd_580
  have w4 := wp_5
  have w5 := wd_3
  exact ⟨⟨TX4, 13, rfl⟩, by decide +kernel, w1, w2, w3, w4, w5⟩
theorem vl_X4_99 : wVl RX4 99 4 yX4_readText cX4_readText 2 none 1 := by
  have w1 := wd_594
  have w2 := wd_591
  have w3 := wd_593
  have w4 := wp_6
  have w5 := wd_3
  exact ⟨⟨TX4, 13, rfl⟩, by decide +kernel, w1, w2, w3, w4, w5⟩
theorem vl_X4_103 : wVl RX4 103 4 yX4_readDamp cX4_readDamp 3 none 1 := by
  have w1 := wd_611
  have w2 := wd_608
  have w3 := wd_610
  have w4 := wp_7
  have w5 := wd_3
  exact ⟨⟨TX4, 13, rfl⟩, by decide +kernel, w1, w2, w3, w4, w5⟩
theorem vl_X4_108 : wVl RX4 108 2 yX2_readFrom cX2_readFrom 2 none 1 := by
  have w1 := wd_620
  have w2 := wd_617
  have w3 := wd_618
  have w4 := wd_619
  have w5 := wd_4
  exact ⟨⟨TX2, 4, rfl⟩, by decide +kernel, w1, w2, w3, w4, w5⟩
theorem vl_X4_111 : wVl RX4 111 7 yX7_fail cX7_fail 2 none 1 := by
  have w1 := wd_520
  have w2 := wd_517
  have w3 := wd_518
  have w4 := wd_519
  have w5 := wd_2
  exact ⟨⟨TX7, 8, rfl⟩, by decide +kernel, w1, w2, w3, w4, w5⟩
theorem vl_X4_118 : wVl RX4 118 7 yX7_next cX7_next 2 none 0 := by
  have w1 := wd_382
  have w2 := wd_521
  have w3 := wd_380
  have w4 := wd_381
  have w5 := wd_2
  exact ⟨⟨TX7, 8, rfl⟩, by decide +kernel, w1, w2, w3, w4, w5⟩
theorem vl_X4_121 : wVl RX4 121 4 yX4_takeNewName cX4_takeNewName 4 (some .long) 1 := by
  have w1 := wd_525
  have w2 := wd_522
  have w3 := wd_524
  have w4 := wp_4
  have w5 := wd_3
  exact ⟨⟨TX4, 13, rfl⟩, by decide +kernel, w1, w2, w3, w4, w5⟩
theorem vl_X4_126 : wVl RX4 126 7 yX7_takeWord cX7_takeWord 2 none 1 := by
  have w1 := wd_558
  have w2 := wd_555
  have w3 := wd_556
  have w4 := wd_557
  have w5 := wd_2
  exact ⟨⟨TX7, 8, rfl⟩, by decide +kernel, w1, w2, w3, w4, w5⟩
theorem vl_X4_130 : wVl RX4 130 7 yX7_takeNumber cX7_takeNumber 4 (some .int) 2 := by
  have w1 := wd_563
  have w2 := wd_560
  have w3 := wd_561
  have w4 := wd_562
  have w5 := wd_2
  exact ⟨⟨TX7, 8, rfl⟩, by decide +kernel, w1, w2, w3, w4, w5⟩
theorem vl_X4_135 : wVl RX4 135 7 yX7_takeSign cX7_takeSign 2 none 1 := by
  have w1 := wd_572
  have w2 := wd_569
  have w3 := wd_570
  have w4 := wd_571
  have w5 := wd_2
  exact ⟨⟨TX7, 8, rfl⟩, by decide +kernel, w1, w2, w3, w4, w5⟩
theorem vl_X4_139 : wVl RX4 139 4 yX4_takeSkin cX4_takeSkin 2 (some .int) 1 := by
  have w1 := wd_585
  have w2 := wd_582
  have w3 := wd_583
  have w4 := wd_584
  have w5 := wd_3
  exact ⟨⟨TX4, 13, rfl⟩, by decide +kernel, w1, w2, w3, w4, w5⟩
theorem vl_X4_143 : wVl RX4 143 7 yX7_isNumberWithin cX7_isNumberWithin 3 (some .boolean) 2 := by
  have w1 := wd_567
  have w2 := wd_589
  have w3 := wd_565
  have w4 := wd_566
  have w5 := wd_2
  exact ⟨⟨TX7, 8, rfl⟩, by decide +kernel, w1, w2, w3, w4, w5⟩
theorem sl_X4_150 : wSl1 RX4 150 yX4_takeKind cX4_takeKind 2 (some .int) 1 := ⟨by decide +kernel, wd_597, wd_595, wd_596, wd_3⟩
theorem sl_X4_153 : wSl1 RX4 153 yX4_takeInk cX4_takeInk 2 (some .int) 1 := ⟨by decide +kernel, wd_604, wd_602, wd_603, wd_3⟩
theorem vl_X4_168 : wVl RX4 168 7 yX7_isNumber cX7_isNumber 1 (some .boolean) 0 := by
  have w1 := wd_615
  have w2 := wd_612
  have w3 := wd_613
  have w4 := wd_614
  have w5 := wd_2
  exact ⟨⟨TX7, 8, rfl⟩, by decide +kernel, w1, w2, w3, w4, w5⟩
theorem vl_X4_175 : wVl RX4 175 7 yX7_isName cX7_isName 2 (some .boolean) 0 := by
  have w1 := wd_529
  have w2 := wd_526
  have w3 := wd_527
  have w4 := wd_528
  have w5 := wd_2
  exact ⟨⟨TX7, 8, rfl⟩, by decide +kernel, w1, w2, w3, w4, w5⟩
theorem sl_X4_178 : wSl1 RX4 178 yX4_indexOf cX4_indexOf 5 (some .int) 3 := ⟨by decide +kernel, wd_553, wd_551, wd_552, wd_3⟩
theorem sl_X4_182 : wSl1 RX4 182 yX4_takeTold cX4_takeTold 4 (some .int) 3 := ⟨by decide +kernel, wd_588, wd_586, wd_587, wd_3⟩
theorem vl_X4_186 : wVl RX4 186 4 yX4_hasSkin cX4_hasSkin 2 (some .boolean) 1 := by
  have w1 := wd_729
  have w2 := wd_789
  have w3 := wd_727
  have w4 := wd_728
  have w5 := wd_3
  exact ⟨⟨TX4, 13, rfl⟩, by decide +kernel, w1, w2, w3, w4, w5⟩
theorem vl_X4_190 : wVl RX4 190 2 yX2_holds cX2_holds 8 (some .boolean) 4 := by
  have w1 := wd_757
  have w2 := wd_754
  have w3 := wd_755
  have w4 := wd_756
  have w5 := wd_4
  exact ⟨⟨TX2, 4, rfl⟩, by decide +kernel, w1, w2, w3, w4, w5⟩
theorem vl_X4_194 : wVl RX4 194 4 yX4_showsText cX4_showsText 7 (some .boolean) 4 := by
  have w1 := wd_753
  have w2 := wd_1036
  have w3 := wd_751
  have w4 := wd_752
  have w5 := wd_3
  exact ⟨⟨TX4, 13, rfl⟩, by decide +kernel, w1, w2, w3, w4, w5⟩
theorem vl_X5_37 : wVl RX5 37 4 yX4_showsText cX4_showsText 7 (some .boolean) 4 := by
  have w1 := wd_753
  have w2 := wd_1027
  have w3 := wd_751
  have w4 := wd_752
  have w5 := wd_3
  exact ⟨⟨TX4, 13, rfl⟩, by decide +kernel, w1, w2, w3, w4, w5⟩
theorem vl_X6_32 : wVl RX6 32 6 yX6_strip cX6_strip 3 none 1 := by
  have w1 := wd_672
  have w2 := wd_669
  have w3 := wd_671
  have w4 := wp_10
  have w5 := wd_5
  exact ⟨⟨TX6, 6, rfl⟩, by decide +kernel, w1, w2, w3, w4, w5⟩
theorem vl_X6_48 : wVl RX6 48 4 yX4_dampOf cX4_dampOf 2 (some .int) 1 := by
  have w1 := wd_737
  have w2 := wd_734
  have w3 := wd_735
  have w4 := wd_736
  have w5 := wd_3
  exact ⟨⟨TX4, 13, rfl⟩, by decide +kernel, w1, w2, w3, w4, w5⟩
theorem vl_X6_58 : wVl RX6 58 6 yX6_freeLinesOf cX6_freeLinesOf 4 (some .int) 1 := by
  have w1 := wd_811
  have w2 := wd_808
  have w3 := wd_810
  have w4 := wp_12
  have w5 := wd_5
  exact ⟨⟨TX6, 6, rfl⟩, by decide +kernel, w1, w2, w3, w4, w5⟩
theorem vl_X6_64 : wVl RX6 64 6 yX6_canWrite cX6_canWrite 5 (some .boolean) 3 := by
  have w1 := wd_807
  have w2 := wd_881
  have w3 := wd_805
  have w4 := wd_806
  have w5 := wd_5
  exact ⟨⟨TX6, 6, rfl⟩, by decide +kernel, w1, w2, w3, w4, w5⟩
theorem vl_X6_68 : wVl RX6 68 6 yX6_wearOf cX6_wearOf 8 (some .int) 2 := by
  have w1 := wd_845
  have w2 := wd_842
  have w3 := wd_844
  have w4 := wp_14
  have w5 := wd_5
  exact ⟨⟨TX6, 6, rfl⟩, by decide +kernel, w1, w2, w3, w4, w5⟩
theorem vl_X6_77 : wVl RX6 77 6 yX6_layerAt cX6_layerAt 3 (some .int) 2 := by
  have w1 := wd_749
  have w2 := wd_746
  have w3 := wd_747
  have w4 := wd_748
  have w5 := wd_5
  exact ⟨⟨TX6, 6, rfl⟩, by decide +kernel, w1, w2, w3, w4, w5⟩
theorem vl_X6_88 : wVl RX6 88 4 yX4_hasSkin cX4_hasSkin 2 (some .boolean) 1 := by
  have w1 := wd_729
  have w2 := wd_875
  have w3 := wd_727
  have w4 := wd_728
  have w5 := wd_3
  exact ⟨⟨TX4, 13, rfl⟩, by decide +kernel, w1, w2, w3, w4, w5⟩
theorem vl_X6_92 : wVl RX6 92 4 yX4_hasText cX4_hasText 2 (some .boolean) 1 := by
  have w1 := wd_768
  have w2 := wd_876
  have w3 := wd_766
  have w4 := wd_767
  have w5 := wd_3
  exact ⟨⟨TX4, 13, rfl⟩, by decide +kernel, w1, w2, w3, w4, w5⟩
theorem vl_X6_95 : wVl RX6 95 6 yX6_writeIfCan cX6_writeIfCan 4 (some .boolean) 3 := by
  have w1 := wd_880
  have w2 := wd_877
  have w3 := wd_879
  have w4 := wp_15
  have w5 := wd_5
  exact ⟨⟨TX6, 6, rfl⟩, by decide +kernel, w1, w2, w3, w4, w5⟩
theorem vl_X6_98 : wVl RX6 98 6 yX6_rub cX6_rub 4 (some .boolean) 2 := by
  have w1 := wd_841
  have w2 := wd_883
  have w3 := wd_839
  have w4 := wd_840
  have w5 := wd_5
  exact ⟨⟨TX6, 6, rfl⟩, by decide +kernel, w1, w2, w3, w4, w5⟩
theorem vl_X6_102 : wVl RX6 102 6 yX6_put cX6_put 6 none 3 := by
  have w1 := wd_825
  have w2 := wd_882
  have w3 := wd_823
  have w4 := wd_824
  have w5 := wd_5
  exact ⟨⟨TX6, 6, rfl⟩, by decide +kernel, w1, w2, w3, w4, w5⟩
theorem vl_X6_109 : wVl RX6 109 1 yX1_below cX1_below 2 (some .int) 1 := by
  have w1 := wd_1057
  have w2 := wd_1054
  have w3 := wd_1055
  have w4 := wd_1056
  have w5 := wd_10
  exact ⟨⟨TX1, 1, rfl⟩, by decide +kernel, w1, w2, w3, w4, w5⟩
theorem vl_X6_114 : wVl RX6 114 4 yX4_showsText cX4_showsText 7 (some .boolean) 4 := by
  have w1 := wd_753
  have w2 := wd_750
  have w3 := wd_751
  have w4 := wd_752
  have w5 := wd_3
  exact ⟨⟨TX4, 13, rfl⟩, by decide +kernel, w1, w2, w3, w4, w5⟩
theorem vl_X6_118 : wVl RX6 118 6 yX6_shown cX6_shown 8 (some .int) 3 := by
  have w1 := wd_745
  have w2 := wd_742
  have w3 := wd_743
  have w4 := wd_744
  have w5 := wd_5
  exact ⟨⟨TX6, 6, rfl⟩, by decide +kernel, w1, w2, w3, w4, w5⟩
theorem vl_X6_122 : wVl RX6 122 6 yX6_wholeTexts cX6_wholeTexts 8 (some .int) 1 := by
  have w1 := wd_776
  have w2 := wd_773
  have w3 := wd_774
  have w4 := wd_775
  have w5 := wd_5
  exact ⟨⟨TX6, 6, rfl⟩, by decide +kernel, w1, w2, w3, w4, w5⟩
theorem vl_X7_23 : wVl RX7 23 7 yX7_next cX7_next 2 none 0 := by
  have w1 := wd_382
  have w2 := wd_379
  have w3 := wd_380
  have w4 := wd_381
  have w5 := wd_2
  exact ⟨⟨TX7, 8, rfl⟩, by decide +kernel, w1, w2, w3, w4, w5⟩
theorem vl_X7_32 : wVl RX7 32 7 yX7_takeLetters cX7_takeLetters 1 none 0 := by
  have w1 := wd_386
  have w2 := wd_383
  have w3 := wd_385
  have w4 := wp_1
  have w5 := wd_2
  exact ⟨⟨TX7, 8, rfl⟩, by decide +kernel, w1, w2, w3, w4, w5⟩
theorem vl_X7_35 : wVl RX7 35 7 yX7_takeDigits cX7_takeDigits 1 none 0 := by
  have w1 := wd_391
  have w2 := wd_388
  have w3 := wd_390
  have w4 := wp_2
  have w5 := wd_2
  exact ⟨⟨TX7, 8, rfl⟩, by decide +kernel, w1, w2, w3, w4, w5⟩
theorem vl_X7_64 : wVl RX7 64 7 yX7_isWord cX7_isWord 3 (some .boolean) 1 := by
  have w1 := wd_491
  have w2 := wd_531
  have w3 := wd_489
  have w4 := wd_490
  have w5 := wd_2
  exact ⟨⟨TX7, 8, rfl⟩, by decide +kernel, w1, w2, w3, w4, w5⟩
theorem vl_X7_106 : wVl RX7 106 7 yX7_fail cX7_fail 2 none 1 := by
  have w1 := wd_520
  have w2 := wd_559
  have w3 := wd_518
  have w4 := wd_519
  have w5 := wd_2
  exact ⟨⟨TX7, 8, rfl⟩, by decide +kernel, w1, w2, w3, w4, w5⟩
theorem vl_X7_110 : wVl RX7 110 7 yX7_isSign cX7_isSign 2 (some .boolean) 1 := by
  have w1 := wd_576
  have w2 := wd_573
  have w3 := wd_574
  have w4 := wd_575
  have w5 := wd_2
  exact ⟨⟨TX7, 8, rfl⟩, by decide +kernel, w1, w2, w3, w4, w5⟩
theorem vl_X7_114 : wVl RX7 114 7 yX7_isNumberWithin cX7_isNumberWithin 3 (some .boolean) 2 := by
  have w1 := wd_567
  have w2 := wd_564
  have w3 := wd_565
  have w4 := wd_566
  have w5 := wd_2
  exact ⟨⟨TX7, 8, rfl⟩, by decide +kernel, w1, w2, w3, w4, w5⟩
theorem vl_X8_25 : wVl RX8 25 6 yX6_copyFrom cX6_copyFrom 2 none 1 := by
  have w1 := wd_819
  have w2 := wd_816
  have w3 := wd_817
  have w4 := wd_818
  have w5 := wd_5
  exact ⟨⟨TX6, 6, rfl⟩, by decide +kernel, w1, w2, w3, w4, w5⟩
theorem vl_X9_25 : wVl RX9 25 7 yX7_rewind cX7_rewind 1 none 0 := by
  have w1 := wd_378
  have w2 := wd_693
  have w3 := wd_376
  have w4 := wd_377
  have w5 := wd_2
  exact ⟨⟨TX7, 8, rfl⟩, by decide +kernel, w1, w2, w3, w4, w5⟩
theorem vl_X9_30 : wVl RX9 30 7 yX7_isSound cX7_isSound 1 (some .boolean) 0 := by
  have w1 := wd_482
  have w2 := wd_694
  have w3 := wd_480
  have w4 := wd_481
  have w5 := wd_2
  exact ⟨⟨TX7, 8, rfl⟩, by decide +kernel, w1, w2, w3, w4, w5⟩
theorem vl_X9_34 : wVl RX9 34 7 yX7_isAtEnd cX7_isAtEnd 1 (some .boolean) 0 := by
  have w1 := wd_486
  have w2 := wd_695
  have w3 := wd_484
  have w4 := wd_485
  have w5 := wd_2
  exact ⟨⟨TX7, 8, rfl⟩, by decide +kernel, w1, w2, w3, w4, w5⟩
theorem vl_X9_37 : wVl RX9 37 9 yX9_readOne cX9_readOne 5 none 2 := by
  have w1 := wd_699
  have w2 := wd_696
  have w3 := wd_698
  have w4 := wp_11
  have w5 := wd_6
  exact ⟨⟨TX9, 2, rfl⟩, by decide +kernel, w1, w2, w3, w4, w5⟩
theorem sl_X9_44 : wSl1 RX9 44 yX9_actAt cX9_actAt 1 (some .int) 1 := ⟨by decide +kernel, wd_702, wd_700, wd_701, wd_6⟩
theorem vl_X9_48 : wVl RX9 48 7 yX7_fail cX7_fail 2 none 1 := by
  have w1 := wd_520
  have w2 := wd_708
  have w3 := wd_518
  have w4 := wd_519
  have w5 := wd_2
  exact ⟨⟨TX7, 8, rfl⟩, by decide +kernel, w1, w2, w3, w4, w5⟩
theorem vl_X9_52 : wVl RX9 52 7 yX7_next cX7_next 2 none 0 := by
  have w1 := wd_382
  have w2 := wd_709
  have w3 := wd_380
  have w4 := wd_381
  have w5 := wd_2
  exact ⟨⟨TX7, 8, rfl⟩, by decide +kernel, w1, w2, w3, w4, w5⟩
theorem vl_X9_55 : wVl RX9 55 4 yX4_takeText cX4_takeText 2 (some .int) 1 := by
  have w1 := wd_713
  have w2 := wd_710
  have w3 := wd_711
  have w4 := wd_712
  have w5 := wd_3
  exact ⟨⟨TX4, 13, rfl⟩, by decide +kernel, w1, w2, w3, w4, w5⟩
theorem vl_X9_60 : wVl RX9 60 4 yX4_takeSkin cX4_takeSkin 2 (some .int) 1 := by
  have w1 := wd_585
  have w2 := wd_714
  have w3 := wd_583
  have w4 := wd_584
  have w5 := wd_3
  exact ⟨⟨TX4, 13, rfl⟩, by decide +kernel, w1, w2, w3, w4, w5⟩
theorem vl_X9_63 : wVl RX9 63 7 yX7_takeNumber cX7_takeNumber 4 (some .int) 2 := by
  have w1 := wd_563
  have w2 := wd_715
  have w3 := wd_561
  have w4 := wd_562
  have w5 := wd_2
  exact ⟨⟨TX7, 8, rfl⟩, by decide +kernel, w1, w2, w3, w4, w5⟩
theorem vl_X9_67 : wVl RX9 67 7 yX7_takeSign cX7_takeSign 2 none 1 := by
  have w1 := wd_572
  have w2 := wd_716
  have w3 := wd_570
  have w4 := wd_571
  have w5 := wd_2
  exact ⟨⟨TX7, 8, rfl⟩, by decide +kernel, w1, w2, w3, w4, w5⟩
theorem vl_X9_73 : wVl RX9 73 7 yX7_isWord cX7_isWord 3 (some .boolean) 1 := by
  have w1 := wd_491
  have w2 := wd_704
  have w3 := wd_489
  have w4 := wd_490
  have w5 := wd_2
  exact ⟨⟨TX7, 8, rfl⟩, by decide +kernel, w1, w2, w3, w4, w5⟩
theorem vl_L_21 : wVl RL 21 10 yX10_feed cX10_feed 7 (some .int) 3 := by
  have w1 := wd_354
  have w2 := wd_351
  have w3 := wd_352
  have w4 := wd_353
  have w5 := wd_1
  exact ⟨⟨TX10, 12, rfl⟩, by decide +kernel, w1, w2, w3, w4, w5⟩
theorem vl_L_25 : wVl RL 25 11 yX11_feed cX11_feed 11 (some .int) 3 := by
  have w1 := wd_1360
  have w2 := wd_1357
  have w3 := wd_1358
  have w4 := wd_1359
  have w5 := wd_12
  exact ⟨⟨TX11, 59, rfl⟩, by decide +kernel, w1, w2, w3, w4, w5⟩
theorem vl_L_26 : wVl RL 26 10 yX10_library cX10_library 3 (some .int) 0 := by
  have w1 := wd_362
  have w2 := wd_359
  have w3 := wd_360
  have w4 := wd_361
  have w5 := wd_1
  exact ⟨⟨TX10, 12, rfl⟩, by decide +kernel, w1, w2, w3, w4, w5⟩
theorem vl_L_30 : wVl RL 30 11 yX11_library cX11_library 2 (some .int) 0 := by
  have w1 := wd_1365
  have w2 := wd_1362
  have w3 := wd_1363
  have w4 := wd_1364
  have w5 := wd_12
  exact ⟨⟨TX11, 59, rfl⟩, by decide +kernel, w1, w2, w3, w4, w5⟩
theorem vl_L_31 : wVl RL 31 10 yX10_year cX10_year 2 (some .int) 0 := by
  have w1 := wd_688
  have w2 := wd_685
  have w3 := wd_686
  have w4 := wd_687
  have w5 := wd_1
  exact ⟨⟨TX10, 12, rfl⟩, by decide +kernel, w1, w2, w3, w4, w5⟩
theorem vl_L_34 : wVl RL 34 11 yX11_year cX11_year 1 (some .int) 0 := by
  have w1 := wd_1504
  have w2 := wd_1501
  have w3 := wd_1502
  have w4 := wd_1503
  have w5 := wd_12
  exact ⟨⟨TX11, 59, rfl⟩, by decide +kernel, w1, w2, w3, w4, w5⟩
theorem vl_L_35 : wVl RL 35 10 yX10_skin cX10_skin 3 (some .int) 2 := by
  have w1 := wd_725
  have w2 := wd_722
  have w3 := wd_723
  have w4 := wd_724
  have w5 := wd_1
  exact ⟨⟨TX10, 12, rfl⟩, by decide +kernel, w1, w2, w3, w4, w5⟩
theorem vl_L_39 : wVl RL 39 11 yX11_skin cX11_skin 3 (some .int) 2 := by
  have w1 := wd_1520
  have w2 := wd_1517
  have w3 := wd_1518
  have w4 := wd_1519
  have w5 := wd_12
  exact ⟨⟨TX11, 59, rfl⟩, by decide +kernel, w1, w2, w3, w4, w5⟩
theorem vl_L_40 : wVl RL 40 10 yX10_text cX10_text 3 (some .int) 2 := by
  have w1 := wd_764
  have w2 := wd_761
  have w3 := wd_762
  have w4 := wd_763
  have w5 := wd_1
  exact ⟨⟨TX10, 12, rfl⟩, by decide +kernel, w1, w2, w3, w4, w5⟩
theorem vl_L_43 : wVl RL 43 11 yX11_text cX11_text 3 (some .int) 2 := by
  have w1 := wd_1560
  have w2 := wd_1557
  have w3 := wd_1558
  have w4 := wd_1559
  have w5 := wd_12
  exact ⟨⟨TX11, 59, rfl⟩, by decide +kernel, w1, w2, w3, w4, w5⟩
theorem vl_L_44 : wVl RL 44 10 yX10_layers cX10_layers 3 (some .int) 2 := by
  have w1 := wd_784
  have w2 := wd_781
  have w3 := wd_782
  have w4 := wd_783
  have w5 := wd_1
  exact ⟨⟨TX10, 12, rfl⟩, by decide +kernel, w1, w2, w3, w4, w5⟩
theorem vl_L_47 : wVl RL 47 11 yX11_layers cX11_layers 3 (some .int) 2 := by
  have w1 := wd_1583
  have w2 := wd_1580
  have w3 := wd_1581
  have w4 := wd_1582
  have w5 := wd_12
  exact ⟨⟨TX11, 59, rfl⟩, by decide +kernel, w1, w2, w3, w4, w5⟩
theorem vl_L_48 : wVl RL 48 10 yX10_layer cX10_layer 4 (some .int) 3 := by
  have w1 := wd_793
  have w2 := wd_790
  have w3 := wd_791
  have w4 := wd_792
  have w5 := wd_1
  exact ⟨⟨TX10, 12, rfl⟩, by decide +kernel, w1, w2, w3, w4, w5⟩
theorem vl_L_52 : wVl RL 52 11 yX11_layer cX11_layer 4 (some .int) 3 := by
  have w1 := wd_1594
  have w2 := wd_1591
  have w3 := wd_1592
  have w4 := wd_1593
  have w5 := wd_12
  exact ⟨⟨TX11, 59, rfl⟩, by decide +kernel, w1, w2, w3, w4, w5⟩
theorem vl_L_53 : wVl RL 53 10 yX10_read cX10_read 3 (some .int) 2 := by
  have w1 := wd_798
  have w2 := wd_795
  have w3 := wd_796
  have w4 := wd_797
  have w5 := wd_1
  exact ⟨⟨TX10, 12, rfl⟩, by decide +kernel, w1, w2, w3, w4, w5⟩
theorem vl_L_56 : wVl RL 56 11 yX11_read cX11_read 3 (some .int) 2 := by
  have w1 := wd_1601
  have w2 := wd_1598
  have w3 := wd_1599
  have w4 := wd_1600
  have w5 := wd_12
  exact ⟨⟨TX11, 59, rfl⟩, by decide +kernel, w1, w2, w3, w4, w5⟩
theorem vl_L_57 : wVl RL 57 10 yX10_write cX10_write 4 (some .boolean) 3 := by
  have w1 := wd_803
  have w2 := wd_800
  have w3 := wd_801
  have w4 := wd_802
  have w5 := wd_1
  exact ⟨⟨TX10, 12, rfl⟩, by decide +kernel, w1, w2, w3, w4, w5⟩
theorem vl_L_61 : wVl RL 61 11 yX11_write cX11_write 4 (some .boolean) 3 := by
  have w1 := wd_1605
  have w2 := wd_1602
  have w3 := wd_1603
  have w4 := wd_1604
  have w5 := wd_12
  exact ⟨⟨TX11, 59, rfl⟩, by decide +kernel, w1, w2, w3, w4, w5⟩
theorem vl_L_62 : wVl RL 62 10 yX10_scrape cX10_scrape 2 (some .int) 1 := by
  have w1 := wd_829
  have w2 := wd_826
  have w3 := wd_827
  have w4 := wd_828
  have w5 := wd_1
  exact ⟨⟨TX10, 12, rfl⟩, by decide +kernel, w1, w2, w3, w4, w5⟩
theorem vl_L_66 : wVl RL 66 11 yX11_scrape cX11_scrape 2 (some .int) 1 := by
  have w1 := wd_1625
  have w2 := wd_1622
  have w3 := wd_1623
  have w4 := wd_1624
  have w5 := wd_12
  exact ⟨⟨TX11, 59, rfl⟩, by decide +kernel, w1, w2, w3, w4, w5⟩
theorem vl_L_67 : wVl RL 67 10 yX10_third cX10_third 2 (some .int) 1 := by
  have w1 := wd_850
  have w2 := wd_847
  have w3 := wd_848
  have w4 := wd_849
  have w5 := wd_1
  exact ⟨⟨TX10, 12, rfl⟩, by decide +kernel, w1, w2, w3, w4, w5⟩
theorem vl_L_70 : wVl RL 70 11 yX11_third cX11_third 2 (some .int) 1 := by
  have w1 := wd_1641
  have w2 := wd_1638
  have w3 := wd_1639
  have w4 := wd_1640
  have w5 := wd_12
  exact ⟨⟨TX11, 59, rfl⟩, by decide +kernel, w1, w2, w3, w4, w5⟩
theorem vl_L_71 : wVl RL 71 10 yX10_week cX10_week 1 (some .int) 0 := by
  have w1 := wd_854
  have w2 := wd_851
  have w3 := wd_852
  have w4 := wd_853
  have w5 := wd_1
  exact ⟨⟨TX10, 12, rfl⟩, by decide +kernel, w1, w2, w3, w4, w5⟩
theorem vl_L_74 : wVl RL 74 11 yX11_week cX11_week 1 (some .int) 0 := by
  have w1 := wd_1645
  have w2 := wd_1642
  have w3 := wd_1643
  have w4 := wd_1644
  have w5 := wd_12
  exact ⟨⟨TX11, 59, rfl⟩, by decide +kernel, w1, w2, w3, w4, w5⟩
theorem vl_L_75 : wVl RL 75 10 yX10_undo cX10_undo 1 (some .boolean) 0 := by
  have w1 := wd_858
  have w2 := wd_855
  have w3 := wd_856
  have w4 := wd_857
  have w5 := wd_1
  exact ⟨⟨TX10, 12, rfl⟩, by decide +kernel, w1, w2, w3, w4, w5⟩
theorem vl_L_79 : wVl RL 79 11 yX11_undo cX11_undo 1 (some .boolean) 0 := by
  have w1 := wd_1649
  have w2 := wd_1646
  have w3 := wd_1647
  have w4 := wd_1648
  have w5 := wd_12
  exact ⟨⟨TX11, 59, rfl⟩, by decide +kernel, w1, w2, w3, w4, w5⟩
theorem vl_L_80 : wVl RL 80 10 yX10_judged cX10_judged 7 (some .int) 1 := by
  have w1 := wd_866
  have w2 := wd_863
  have w3 := wd_864
  have w4 := wd_865
  have w5 := wd_1
  exact ⟨⟨TX10, 12, rfl⟩, by decide +kernel, w1, w2, w3, w4, w5⟩
theorem vl_L_83 : wVl RL 83 11 yX11_judged cX11_judged 6 (some .int) 1 := by
  have w1 := wd_1653
  have w2 := wd_1650
  have w3 := wd_1651
  have w4 := wd_1652
  have w5 := wd_12
  exact ⟨⟨TX11, 59, rfl⟩, by decide +kernel, w1, w2, w3, w4, w5⟩
theorem vl_L_84 : wVl RL 84 10 yX10_later cX10_later 4 (some .int) 3 := by
  have w1 := wd_894
  have w2 := wd_891
  have w3 := wd_892
  have w4 := wd_893
  have w5 := wd_1
  exact ⟨⟨TX10, 12, rfl⟩, by decide +kernel, w1, w2, w3, w4, w5⟩
theorem vl_L_87 : wVl RL 87 11 yX11_later cX11_later 4 (some .int) 3 := by
  have w1 := wd_1665
  have w2 := wd_1662
  have w3 := wd_1663
  have w4 := wd_1664
  have w5 := wd_12
  exact ⟨⟨TX11, 59, rfl⟩, by decide +kernel, w1, w2, w3, w4, w5⟩
theorem vl_L_88 : wVl RL 88 10 yX10_when cX10_when 4 (some .int) 1 := by
  have w1 := wd_899
  have w2 := wd_896
  have w3 := wd_897
  have w4 := wd_898
  have w5 := wd_1
  exact ⟨⟨TX10, 12, rfl⟩, by decide +kernel, w1, w2, w3, w4, w5⟩
theorem vl_L_91 : wVl RL 91 11 yX11_when cX11_when 3 (some .int) 1 := by
  have w1 := wd_1669
  have w2 := wd_1666
  have w3 := wd_1667
  have w4 := wd_1668
  have w5 := wd_12
  exact ⟨⟨TX11, 59, rfl⟩, by decide +kernel, w1, w2, w3, w4, w5⟩
theorem vl_L_92 : wVl RL 92 10 yX10_need cX10_need 3 (some .int) 1 := by
  have w1 := wd_904
  have w2 := wd_901
  have w3 := wd_902
  have w4 := wd_903
  have w5 := wd_1
  exact ⟨⟨TX10, 12, rfl⟩, by decide +kernel, w1, w2, w3, w4, w5⟩
theorem vl_L_95 : wVl RL 95 11 yX11_need cX11_need 3 (some .int) 1 := by
  have w1 := wd_1673
  have w2 := wd_1670
  have w3 := wd_1671
  have w4 := wd_1672
  have w5 := wd_12
  exact ⟨⟨TX11, 59, rfl⟩, by decide +kernel, w1, w2, w3, w4, w5⟩
theorem vl_L_96 : wVl RL 96 10 yX10_lost cX10_lost 3 (some .int) 0 := by
  have w1 := wd_908
  have w2 := wd_905
  have w3 := wd_906
  have w4 := wd_907
  have w5 := wd_1
  exact ⟨⟨TX10, 12, rfl⟩, by decide +kernel, w1, w2, w3, w4, w5⟩
theorem vl_L_99 : wVl RL 99 11 yX11_lost cX11_lost 7 (some .int) 0 := by
  have w1 := wd_1681
  have w2 := wd_1678
  have w3 := wd_1679
  have w4 := wd_1680
  have w5 := wd_12
  exact ⟨⟨TX11, 59, rfl⟩, by decide +kernel, w1, w2, w3, w4, w5⟩
theorem vl_L_100 : wVl RL 100 10 yX10_place cX10_place 3 (some .int) 2 := by
  have w1 := wd_920
  have w2 := wd_917
  have w3 := wd_918
  have w4 := wd_919
  have w5 := wd_1
  exact ⟨⟨TX10, 12, rfl⟩, by decide +kernel, w1, w2, w3, w4, w5⟩
theorem vl_L_103 : wVl RL 103 11 yX11_place cX11_place 3 (some .int) 2 := by
  have w1 := wd_1685
  have w2 := wd_1682
  have w3 := wd_1683
  have w4 := wd_1684
  have w5 := wd_12
  exact ⟨⟨TX11, 59, rfl⟩, by decide +kernel, w1, w2, w3, w4, w5⟩
theorem vl_L_104 : wVl RL 104 10 yX10_cost cX10_cost 5 (some .int) 2 := by
  have w1 := wd_928
  have w2 := wd_925
  have w3 := wd_926
  have w4 := wd_927
  have w5 := wd_1
  exact ⟨⟨TX10, 12, rfl⟩, by decide +kernel, w1, w2, w3, w4, w5⟩
theorem vl_L_107 : wVl RL 107 11 yX11_cost cX11_cost 5 (some .int) 2 := by
  have w1 := wd_1693
  have w2 := wd_1690
  have w3 := wd_1691
  have w4 := wd_1692
  have w5 := wd_12
  exact ⟨⟨TX11, 59, rfl⟩, by decide +kernel, w1, w2, w3, w4, w5⟩
theorem vl_L_108 : wVl RL 108 10 yX10_lay cX10_lay 2 (some .int) 1 := by
  have w1 := wd_938
  have w2 := wd_935
  have w3 := wd_936
  have w4 := wd_937
  have w5 := wd_1
  exact ⟨⟨TX10, 12, rfl⟩, by decide +kernel, w1, w2, w3, w4, w5⟩
theorem vl_L_111 : wVl RL 111 11 yX11_lay cX11_lay 2 (some .int) 1 := by
  have w1 := wd_1702
  have w2 := wd_1699
  have w3 := wd_1700
  have w4 := wd_1701
  have w5 := wd_12
  exact ⟨⟨TX11, 59, rfl⟩, by decide +kernel, w1, w2, w3, w4, w5⟩
theorem vl_L_112 : wVl RL 112 10 yX10_bears cX10_bears 7 (some .int) 2 := by
  have w1 := wd_974
  have w2 := wd_971
  have w3 := wd_972
  have w4 := wd_973
  have w5 := wd_1
  exact ⟨⟨TX10, 12, rfl⟩, by decide +kernel, w1, w2, w3, w4, w5⟩
theorem vl_L_115 : wVl RL 115 11 yX11_bears cX11_bears 5 (some .int) 2 := by
  have w1 := wd_1714
  have w2 := wd_1711
  have w3 := wd_1712
  have w4 := wd_1713
  have w5 := wd_12
  exact ⟨⟨TX11, 59, rfl⟩, by decide +kernel, w1, w2, w3, w4, w5⟩
theorem vl_L_116 : wVl RL 116 10 yX10_over cX10_over 2 (some .int) 1 := by
  have w1 := wd_978
  have w2 := wd_975
  have w3 := wd_976
  have w4 := wd_977
  have w5 := wd_1
  exact ⟨⟨TX10, 12, rfl⟩, by decide +kernel, w1, w2, w3, w4, w5⟩
theorem vl_L_119 : wVl RL 119 11 yX11_over cX11_over 6 (some .int) 1 := by
  have w1 := wd_1718
  have w2 := wd_1715
  have w3 := wd_1716
  have w4 := wd_1717
  have w5 := wd_12
  exact ⟨⟨TX11, 59, rfl⟩, by decide +kernel, w1, w2, w3, w4, w5⟩
theorem vl_L_120 : wVl RL 120 10 yX10_deepest cX10_deepest 4 (some .int) 1 := by
  have w1 := wd_986
  have w2 := wd_983
  have w3 := wd_984
  have w4 := wd_985
  have w5 := wd_1
  exact ⟨⟨TX10, 12, rfl⟩, by decide +kernel, w1, w2, w3, w4, w5⟩
theorem vl_L_123 : wVl RL 123 11 yX11_deepest cX11_deepest 4 (some .int) 1 := by
  have w1 := wd_1722
  have w2 := wd_1719
  have w3 := wd_1720
  have w4 := wd_1721
  have w5 := wd_12
  exact ⟨⟨TX11, 59, rfl⟩, by decide +kernel, w1, w2, w3, w4, w5⟩
theorem vl_L_124 : wVl RL 124 10 yX10_bare cX10_bare 4 (some .int) 1 := by
  have w1 := wd_990
  have w2 := wd_987
  have w3 := wd_988
  have w4 := wd_989
  have w5 := wd_1
  exact ⟨⟨TX10, 12, rfl⟩, by decide +kernel, w1, w2, w3, w4, w5⟩
theorem vl_L_127 : wVl RL 127 11 yX11_bare cX11_bare 4 (some .int) 1 := by
  have w1 := wd_1726
  have w2 := wd_1723
  have w3 := wd_1724
  have w4 := wd_1725
  have w5 := wd_12
  exact ⟨⟨TX11, 59, rfl⟩, by decide +kernel, w1, w2, w3, w4, w5⟩
theorem vl_L_128 : wVl RL 128 10 yX10_same cX10_same 1 (some .int) 0 := by
  have w1 := wd_994
  have w2 := wd_991
  have w3 := wd_992
  have w4 := wd_993
  have w5 := wd_1
  exact ⟨⟨TX10, 12, rfl⟩, by decide +kernel, w1, w2, w3, w4, w5⟩
theorem vl_L_131 : wVl RL 131 11 yX11_same cX11_same 4 (some .int) 0 := by
  have w1 := wd_1730
  have w2 := wd_1727
  have w3 := wd_1728
  have w4 := wd_1729
  have w5 := wd_12
  exact ⟨⟨TX11, 59, rfl⟩, by decide +kernel, w1, w2, w3, w4, w5⟩
theorem vl_L_132 : wVl RL 132 10 yX10_giveup cX10_giveup 6 (some .int) 0 := by
  have w1 := wd_1002
  have w2 := wd_999
  have w3 := wd_1000
  have w4 := wd_1001
  have w5 := wd_1
  exact ⟨⟨TX10, 12, rfl⟩, by decide +kernel, w1, w2, w3, w4, w5⟩
theorem vl_L_135 : wVl RL 135 11 yX11_giveup cX11_giveup 6 (some .int) 0 := by
  have w1 := wd_1734
  have w2 := wd_1731
  have w3 := wd_1732
  have w4 := wd_1733
  have w5 := wd_12
  exact ⟨⟨TX11, 59, rfl⟩, by decide +kernel, w1, w2, w3, w4, w5⟩
theorem vl_L_136 : wVl RL 136 10 yX10_psalter cX10_psalter 4 (some .int) 1 := by
  have w1 := wd_1006
  have w2 := wd_1003
  have w3 := wd_1004
  have w4 := wd_1005
  have w5 := wd_1
  exact ⟨⟨TX10, 12, rfl⟩, by decide +kernel, w1, w2, w3, w4, w5⟩
theorem vl_L_139 : wVl RL 139 11 yX11_psalter cX11_psalter 4 (some .int) 1 := by
  have w1 := wd_1677
  have w2 := wd_1674
  have w3 := wd_1675
  have w4 := wd_1676
  have w5 := wd_12
  exact ⟨⟨TX11, 59, rfl⟩, by decide +kernel, w1, w2, w3, w4, w5⟩
theorem vl_L_140 : wVl RL 140 10 yX10_see cX10_see 5 (some .boolean) 4 := by
  have w1 := wd_1010
  have w2 := wd_1007
  have w3 := wd_1008
  have w4 := wd_1009
  have w5 := wd_1
  exact ⟨⟨TX10, 12, rfl⟩, by decide +kernel, w1, w2, w3, w4, w5⟩
theorem vl_L_144 : wVl RL 144 11 yX11_see cX11_see 5 (some .boolean) 4 := by
  have w1 := wd_1738
  have w2 := wd_1735
  have w3 := wd_1736
  have w4 := wd_1737
  have w5 := wd_12
  exact ⟨⟨TX11, 59, rfl⟩, by decide +kernel, w1, w2, w3, w4, w5⟩
theorem vl_L_145 : wVl RL 145 10 yX10_who cX10_who 1 (some .int) 0 := by
  have w1 := wd_1018
  have w2 := wd_1015
  have w3 := wd_1016
  have w4 := wd_1017
  have w5 := wd_1
  exact ⟨⟨TX10, 12, rfl⟩, by decide +kernel, w1, w2, w3, w4, w5⟩
theorem vl_L_148 : wVl RL 148 11 yX11_who cX11_who 5 (some .int) 0 := by
  have w1 := wd_1742
  have w2 := wd_1739
  have w3 := wd_1740
  have w4 := wd_1741
  have w5 := wd_12
  exact ⟨⟨TX11, 59, rfl⟩, by decide +kernel, w1, w2, w3, w4, w5⟩
theorem vl_L_149 : wVl RL 149 10 yX10_ask cX10_ask 10 (some .int) 1 := by
  have w1 := wd_1031
  have w2 := wd_1028
  have w3 := wd_1029
  have w4 := wd_1030
  have w5 := wd_1
  exact ⟨⟨TX10, 12, rfl⟩, by decide +kernel, w1, w2, w3, w4, w5⟩
theorem vl_L_152 : wVl RL 152 11 yX11_ask cX11_ask 8 (some .int) 1 := by
  have w1 := wd_1746
  have w2 := wd_1743
  have w3 := wd_1744
  have w4 := wd_1745
  have w5 := wd_12
  exact ⟨⟨TX11, 59, rfl⟩, by decide +kernel, w1, w2, w3, w4, w5⟩
theorem vl_L_153 : wVl RL 153 10 yX10_chance cX10_chance 9 (some .int) 3 := by
  have w1 := wd_1040
  have w2 := wd_1037
  have w3 := wd_1038
  have w4 := wd_1039
  have w5 := wd_1
  exact ⟨⟨TX10, 12, rfl⟩, by decide +kernel, w1, w2, w3, w4, w5⟩
theorem vl_L_156 : wVl RL 156 11 yX11_chance cX11_chance 11 (some .int) 3 := by
  have w1 := wd_1752
  have w2 := wd_1749
  have w3 := wd_1750
  have w4 := wd_1751
  have w5 := wd_12
  exact ⟨⟨TX11, 59, rfl⟩, by decide +kernel, w1, w2, w3, w4, w5⟩
theorem vl_L_162 : wVl RL 162 11 yX11_rests cX11_rests 9 (some .int) 4 := by
  have w1 := wd_1758
  have w2 := wd_1755
  have w3 := wd_1756
  have w4 := wd_1757
  have w5 := wd_12
  exact ⟨⟨TX11, 59, rfl⟩, by decide +kernel, w1, w2, w3, w4, w5⟩
theorem vl_L_163 : wVl RL 163 11 yX11_thrown cX11_thrown 1 (some .int) 0 := by
  have w1 := wd_1356
  have w2 := wd_1353
  have w3 := wd_1354
  have w4 := wd_1355
  have w5 := wd_12
  exact ⟨⟨TX11, 59, rfl⟩, by decide +kernel, w1, w2, w3, w4, w5⟩
theorem vl_L_166 : wVl RL 166 10 yX10_years cX10_years 6 (some .int) 3 := by
  have w1 := wd_1045
  have w2 := wd_1042
  have w3 := wd_1043
  have w4 := wd_1044
  have w5 := wd_1
  exact ⟨⟨TX10, 12, rfl⟩, by decide +kernel, w1, w2, w3, w4, w5⟩
theorem vl_L_169 : wVl RL 169 11 yX11_years cX11_years 7 (some .int) 3 := by
  have w1 := wd_1765
  have w2 := wd_1762
  have w3 := wd_1763
  have w4 := wd_1764
  have w5 := wd_12
  exact ⟨⟨TX11, 59, rfl⟩, by decide +kernel, w1, w2, w3, w4, w5⟩
theorem vl_L_170 : wVl RL 170 10 yX10_mark cX10_mark 4 (some .boolean) 2 := by
  have w1 := wd_1069
  have w2 := wd_1066
  have w3 := wd_1067
  have w4 := wd_1068
  have w5 := wd_1
  exact ⟨⟨TX10, 12, rfl⟩, by decide +kernel, w1, w2, w3, w4, w5⟩
theorem vl_L_174 : wVl RL 174 11 yX11_mark cX11_mark 5 (some .boolean) 2 := by
  have w1 := wd_1785
  have w2 := wd_1782
  have w3 := wd_1783
  have w4 := wd_1784
  have w5 := wd_12
  exact ⟨⟨TX11, 59, rfl⟩, by decide +kernel, w1, w2, w3, w4, w5⟩
theorem vl_L_175 : wVl RL 175 10 yX10_count cX10_count 2 (some .int) 1 := by
  have w1 := wd_1085
  have w2 := wd_1082
  have w3 := wd_1083
  have w4 := wd_1084
  have w5 := wd_1
  exact ⟨⟨TX10, 12, rfl⟩, by decide +kernel, w1, w2, w3, w4, w5⟩
theorem vl_L_178 : wVl RL 178 11 yX11_count cX11_count 2 (some .int) 1 := by
  have w1 := wd_1793
  have w2 := wd_1790
  have w3 := wd_1791
  have w4 := wd_1792
  have w5 := wd_12
  exact ⟨⟨TX11, 59, rfl⟩, by decide +kernel, w1, w2, w3, w4, w5⟩
theorem vl_X11_172 : wVl RX11 172 11 yX11_signAt cX11_signAt 2 (some .int) 1 := by
  have w1 := wd_1381
  have w2 := wd_1378
  have w3 := wd_1380
  have w4 := wp_28
  have w5 := wd_12
  exact ⟨⟨TX11, 59, rfl⟩, by decide +kernel, w1, w2, w3, w4, w5⟩
theorem vl_X11_194 : wVl RX11 194 11 yX11_fact cX11_fact 1 (some .int) 0 := by
  have w1 := wd_1478
  have w2 := wd_1475
  have w3 := wd_1477
  have w4 := wp_46
  have w5 := wd_12
  exact ⟨⟨TX11, 59, rfl⟩, by decide +kernel, w1, w2, w3, w4, w5⟩
theorem vl_X11_200 : wVl RX11 200 11 yX11_isWord cX11_isWord 3 (some .boolean) 1 := by
  have w1 := wd_1388
  have w2 := wd_1385
  have w3 := wd_1387
  have w4 := wp_29
  have w5 := wd_12
  exact ⟨⟨TX11, 59, rfl⟩, by decide +kernel, w1, w2, w3, w4, w5⟩
theorem vl_X11_204 : wVl RX11 204 11 yX11_isSign cX11_isSign 2 (some .boolean) 1 := by
  have w1 := wd_1450
  have w2 := wd_1447
  have w3 := wd_1449
  have w4 := wp_39
  have w5 := wd_12
  exact ⟨⟨TX11, 59, rfl⟩, by decide +kernel, w1, w2, w3, w4, w5⟩
theorem vl_X11_208 : wVl RX11 208 11 yX11_fails cX11_fails 2 (some .boolean) 1 := by
  have w1 := wd_1396
  have w2 := wd_1393
  have w3 := wd_1395
  have w4 := wp_31
  have w5 := wd_12
  exact ⟨⟨TX11, 59, rfl⟩, by decide +kernel, w1, w2, w3, w4, w5⟩
theorem vl_X11_211 : wVl RX11 211 11 yX11_puts cX11_puts 2 none 1 := by
  have w1 := wd_1486
  have w2 := wd_1483
  have w3 := wd_1485
  have w4 := wp_47
  have w5 := wd_12
  exact ⟨⟨TX11, 59, rfl⟩, by decide +kernel, w1, w2, w3, w4, w5⟩
theorem vl_X11_215 : wVl RX11 215 11 yX11_nextToken cX11_nextToken 2 none 0 := by
  have w1 := wd_1377
  have w2 := wd_1374
  have w3 := wd_1376
  have w4 := wp_27
  have w5 := wd_12
  exact ⟨⟨TX11, 59, rfl⟩, by decide +kernel, w1, w2, w3, w4, w5⟩
theorem vl_X11_222 : wVl RX11 222 11 yX11_sums cX11_sums 2 none 1 := by
  have w1 := wd_1552
  have w2 := wd_1549
  have w3 := wd_1551
  have w4 := wp_60
  have w5 := wd_12
  exact ⟨⟨TX11, 59, rfl⟩, by decide +kernel, w1, w2, w3, w4, w5⟩
theorem vl_X11_225 : wVl RX11 225 11 yX11_opens cX11_opens 2 none 1 := by
  have w1 := wd_1548
  have w2 := wd_1545
  have w3 := wd_1547
  have w4 := wp_59
  have w5 := wd_12
  exact ⟨⟨TX11, 59, rfl⟩, by decide +kernel, w1, w2, w3, w4, w5⟩
theorem vl_X11_228 : wVl RX11 228 11 yX11_tests cX11_tests 3 none 1 := by
  have w1 := wd_1556
  have w2 := wd_1553
  have w3 := wd_1555
  have w4 := wp_61
  have w5 := wd_12
  exact ⟨⟨TX11, 59, rfl⟩, by decide +kernel, w1, w2, w3, w4, w5⟩
theorem sl_X11_265 : wSl1 RX11 265 yX11_within cX11_within 3 (some .boolean) 3 := ⟨by decide +kernel, wd_1442, wd_1440, wd_1441, wd_12⟩
theorem vl_X11_272 : wVl RX11 272 11 yX11_needsNumber cX11_needsNumber 3 (some .boolean) 2 := by
  have w1 := wd_1439
  have w2 := wd_1436
  have w3 := wd_1438
  have w4 := wp_37
  have w5 := wd_12
  exact ⟨⟨TX11, 59, rfl⟩, by decide +kernel, w1, w2, w3, w4, w5⟩
theorem vl_X11_276 : wVl RX11 276 11 yX11_isKept cX11_isKept 1 (some .boolean) 0 := by
  have w1 := wd_1404
  have w2 := wd_1401
  have w3 := wd_1403
  have w4 := wp_33
  have w5 := wd_12
  exact ⟨⟨TX11, 59, rfl⟩, by decide +kernel, w1, w2, w3, w4, w5⟩
theorem vl_X11_280 : wVl RX11 280 11 yX11_skinNamed cX11_skinNamed 3 (some .int) 1 := by
  have w1 := wd_1427
  have w2 := wd_1424
  have w3 := wd_1426
  have w4 := wp_34
  have w5 := wd_12
  exact ⟨⟨TX11, 59, rfl⟩, by decide +kernel, w1, w2, w3, w4, w5⟩
theorem vl_X11_283 : wVl RX11 283 11 yX11_textNamed cX11_textNamed 3 (some .int) 1 := by
  have w1 := wd_1431
  have w2 := wd_1428
  have w3 := wd_1430
  have w4 := wp_35
  have w5 := wd_12
  exact ⟨⟨TX11, 59, rfl⟩, by decide +kernel, w1, w2, w3, w4, w5⟩
theorem vl_X11_289 : wVl RX11 289 11 yX11_needsNew cX11_needsNew 1 (some .boolean) 0 := by
  have w1 := wd_1400
  have w2 := wd_1397
  have w3 := wd_1399
  have w4 := wp_32
  have w5 := wd_12
  exact ⟨⟨TX11, 59, rfl⟩, by decide +kernel, w1, w2, w3, w4, w5⟩
theorem vl_X11_292 : wVl RX11 292 11 yX11_needsBoth cX11_needsBoth 5 (some .boolean) 3 := by
  have w1 := wd_1435
  have w2 := wd_1432
  have w3 := wd_1434
  have w4 := wp_36
  have w5 := wd_12
  exact ⟨⟨TX11, 59, rfl⟩, by decide +kernel, w1, w2, w3, w4, w5⟩
theorem vl_X11_296 : wVl RX11 296 11 yX11_closes cX11_closes 1 (some .boolean) 0 := by
  have w1 := wd_1446
  have w2 := wd_1443
  have w3 := wd_1445
  have w4 := wp_38
  have w5 := wd_12
  exact ⟨⟨TX11, 59, rfl⟩, by decide +kernel, w1, w2, w3, w4, w5⟩
theorem vl_X11_299 : wVl RX11 299 11 yX11_needsSkin cX11_needsSkin 2 (some .boolean) 1 := by
  have w1 := wd_1458
  have w2 := wd_1455
  have w3 := wd_1457
  have w4 := wp_41
  have w5 := wd_12
  exact ⟨⟨TX11, 59, rfl⟩, by decide +kernel, w1, w2, w3, w4, w5⟩
theorem vl_X11_302 : wVl RX11 302 11 yX11_reads cX11_reads 6 (some .boolean) 0 := by
  have w1 := wd_1474
  have w2 := wd_1471
  have w3 := wd_1473
  have w4 := wp_45
  have w5 := wd_12
  exact ⟨⟨TX11, 59, rfl⟩, by decide +kernel, w1, w2, w3, w4, w5⟩
theorem vl_X11_305 : wVl RX11 305 11 yX11_begins cX11_begins 1 none 0 := by
  have w1 := wd_1373
  have w2 := wd_1370
  have w3 := wd_1372
  have w4 := wp_26
  have w5 := wd_12
  exact ⟨⟨TX11, 59, rfl⟩, by decide +kernel, w1, w2, w3, w4, w5⟩
theorem vl_X11_308 : wVl RX11 308 11 yX11_readsSkin cX11_readsSkin 2 (some .boolean) 0 := by
  have w1 := wd_1392
  have w2 := wd_1389
  have w3 := wd_1391
  have w4 := wp_30
  have w5 := wd_12
  exact ⟨⟨TX11, 59, rfl⟩, by decide +kernel, w1, w2, w3, w4, w5⟩
theorem vl_X11_311 : wVl RX11 311 11 yX11_readsHole cX11_readsHole 2 (some .boolean) 0 := by
  have w1 := wd_1454
  have w2 := wd_1451
  have w3 := wd_1453
  have w4 := wp_40
  have w5 := wd_12
  exact ⟨⟨TX11, 59, rfl⟩, by decide +kernel, w1, w2, w3, w4, w5⟩
theorem vl_X11_314 : wVl RX11 314 11 yX11_readsText cX11_readsText 2 (some .boolean) 0 := by
  have w1 := wd_1462
  have w2 := wd_1459
  have w3 := wd_1461
  have w4 := wp_42
  have w5 := wd_12
  exact ⟨⟨TX11, 59, rfl⟩, by decide +kernel, w1, w2, w3, w4, w5⟩
theorem vl_X11_317 : wVl RX11 317 11 yX11_readsDamp cX11_readsDamp 1 (some .boolean) 0 := by
  have w1 := wd_1466
  have w2 := wd_1463
  have w3 := wd_1465
  have w4 := wp_43
  have w5 := wd_12
  exact ⟨⟨TX11, 59, rfl⟩, by decide +kernel, w1, w2, w3, w4, w5⟩
theorem vl_X11_320 : wVl RX11 320 11 yX11_readsShows cX11_readsShows 1 (some .boolean) 0 := by
  have w1 := wd_1470
  have w2 := wd_1467
  have w3 := wd_1469
  have w4 := wp_44
  have w5 := wd_12
  exact ⟨⟨TX11, 59, rfl⟩, by decide +kernel, w1, w2, w3, w4, w5⟩
theorem sl_X11_323 : wSl1 RX11 323 yX11_shifts cX11_shifts 3 none 2 := ⟨by decide +kernel, wd_1493, wd_1491, wd_1492, wd_12⟩
theorem sl_X11_327 : wSl1 RX11 327 yX11_shiftsNames cX11_shiftsNames 3 none 2 := ⟨by decide +kernel, wd_1496, wd_1494, wd_1495, wd_12⟩
theorem vl_X11_331 : wVl RX11 331 11 yX11_needsText cX11_needsText 1 (some .boolean) 0 := by
  have w1 := wd_1512
  have w2 := wd_1509
  have w3 := wd_1511
  have w4 := wp_51
  have w5 := wd_12
  exact ⟨⟨TX11, 59, rfl⟩, by decide +kernel, w1, w2, w3, w4, w5⟩
theorem vl_X11_334 : wVl RX11 334 11 yX11_readsAll cX11_readsAll 2 (some .boolean) 0 := by
  have w1 := wd_1369
  have w2 := wd_1366
  have w3 := wd_1368
  have w4 := wp_25
  have w5 := wd_12
  exact ⟨⟨TX11, 59, rfl⟩, by decide +kernel, w1, w2, w3, w4, w5⟩
theorem vl_X11_337 : wVl RX11 337 11 yX11_lays cX11_lays 1 none 0 := by
  have w1 := wd_1490
  have w2 := wd_1487
  have w3 := wd_1489
  have w4 := wp_48
  have w5 := wd_12
  exact ⟨⟨TX11, 59, rfl⟩, by decide +kernel, w1, w2, w3, w4, w5⟩
theorem vl_X11_340 : wVl RX11 340 11 yX11_fresh0 cX11_fresh0 2 none 0 := by
  have w1 := wd_1500
  have w2 := wd_1497
  have w3 := wd_1499
  have w4 := wp_49
  have w5 := wd_12
  exact ⟨⟨TX11, 59, rfl⟩, by decide +kernel, w1, w2, w3, w4, w5⟩
theorem vl_X11_346 : wVl RX11 346 11 yX11_readsLine cX11_readsLine 3 (some .boolean) 0 := by
  have w1 := wd_1508
  have w2 := wd_1505
  have w3 := wd_1507
  have w4 := wp_50
  have w5 := wd_12
  exact ⟨⟨TX11, 59, rfl⟩, by decide +kernel, w1, w2, w3, w4, w5⟩
theorem vl_X11_349 : wVl RX11 349 11 yX11_laysLines cX11_laysLines 4 none 2 := by
  have w1 := wd_1516
  have w2 := wd_1513
  have w3 := wd_1515
  have w4 := wp_52
  have w5 := wd_12
  exact ⟨⟨TX11, 59, rfl⟩, by decide +kernel, w1, w2, w3, w4, w5⟩
theorem vl_X11_353 : wVl RX11 353 11 yX11_isSkin cX11_isSkin 2 (some .boolean) 1 := by
  have w1 := wd_1524
  have w2 := wd_1521
  have w3 := wd_1523
  have w4 := wp_53
  have w5 := wd_12
  exact ⟨⟨TX11, 59, rfl⟩, by decide +kernel, w1, w2, w3, w4, w5⟩
theorem vl_X11_356 : wVl RX11 356 11 yX11_worked cX11_worked 6 (some .int) 1 := by
  have w1 := wd_1544
  have w2 := wd_1541
  have w3 := wd_1543
  have w4 := wp_58
  have w5 := wd_12
  exact ⟨⟨TX11, 59, rfl⟩, by decide +kernel, w1, w2, w3, w4, w5⟩
theorem vl_X11_359 : wVl RX11 359 11 yX11_showsBy cX11_showsBy 7 (some .boolean) 4 := by
  have w1 := wd_1540
  have w2 := wd_1537
  have w3 := wd_1539
  have w4 := wp_57
  have w5 := wd_12
  exact ⟨⟨TX11, 59, rfl⟩, by decide +kernel, w1, w2, w3, w4, w5⟩
theorem vl_X11_363 : wVl RX11 363 11 yX11_readBy cX11_readBy 7 (some .int) 3 := by
  have w1 := wd_1536
  have w2 := wd_1533
  have w3 := wd_1535
  have w4 := wp_56
  have w5 := wd_12
  exact ⟨⟨TX11, 59, rfl⟩, by decide +kernel, w1, w2, w3, w4, w5⟩
theorem vl_X11_367 : wVl RX11 367 11 yX11_dampOf cX11_dampOf 2 (some .int) 1 := by
  have w1 := wd_1532
  have w2 := wd_1529
  have w3 := wd_1531
  have w4 := wp_55
  have w5 := wd_12
  exact ⟨⟨TX11, 59, rfl⟩, by decide +kernel, w1, w2, w3, w4, w5⟩
theorem vl_X11_370 : wVl RX11 370 11 yX11_wholeBy cX11_wholeBy 8 (some .int) 1 := by
  have w1 := wd_1572
  have w2 := wd_1569
  have w3 := wd_1571
  have w4 := wp_64
  have w5 := wd_12
  exact ⟨⟨TX11, 59, rfl⟩, by decide +kernel, w1, w2, w3, w4, w5⟩
theorem vl_X11_374 : wVl RX11 374 11 yX11_scrapedBy cX11_scrapedBy 8 (some .int) 2 := by
  have w1 := wd_1633
  have w2 := wd_1630
  have w3 := wd_1632
  have w4 := wp_71
  have w5 := wd_12
  exact ⟨⟨TX11, 59, rfl⟩, by decide +kernel, w1, w2, w3, w4, w5⟩
theorem vl_X11_378 : wVl RX11 378 11 yX11_canWrite cX11_canWrite 5 (some .boolean) 3 := by
  have w1 := wd_1609
  have w2 := wd_1606
  have w3 := wd_1608
  have w4 := wp_67
  have w5 := wd_12
  exact ⟨⟨TX11, 59, rfl⟩, by decide +kernel, w1, w2, w3, w4, w5⟩
theorem vl_X11_381 : wVl RX11 381 11 yX11_readIn cX11_readIn 6 (some .int) 2 := by
  have w1 := wd_1528
  have w2 := wd_1525
  have w3 := wd_1527
  have w4 := wp_54
  have w5 := wd_12
  exact ⟨⟨TX11, 59, rfl⟩, by decide +kernel, w1, w2, w3, w4, w5⟩
theorem sl_X11_384 : wSl1 RX11 384 yX11_bits cX11_bits 3 (some .int) 1 := ⟨by decide +kernel, wd_1579, wd_1577, wd_1578, wd_12⟩
theorem vl_X11_387 : wVl RX11 387 11 yX11_isText cX11_isText 2 (some .boolean) 1 := by
  have w1 := wd_1564
  have w2 := wd_1561
  have w3 := wd_1563
  have w4 := wp_62
  have w5 := wd_12
  exact ⟨⟨TX11, 59, rfl⟩, by decide +kernel, w1, w2, w3, w4, w5⟩
theorem vl_X11_390 : wVl RX11 390 11 yX11_wholeNow cX11_wholeNow 1 (some .int) 0 := by
  have w1 := wd_1568
  have w2 := wd_1565
  have w3 := wd_1567
  have w4 := wp_63
  have w5 := wd_12
  exact ⟨⟨TX11, 59, rfl⟩, by decide +kernel, w1, w2, w3, w4, w5⟩
theorem vl_X11_393 : wVl RX11 393 11 yX11_madeOf cX11_madeOf 4 (some .int) 1 := by
  have w1 := wd_1576
  have w2 := wd_1573
  have w3 := wd_1575
  have w4 := wp_65
  have w5 := wd_12
  exact ⟨⟨TX11, 59, rfl⟩, by decide +kernel, w1, w2, w3, w4, w5⟩
theorem vl_X11_396 : wVl RX11 396 11 yX11_isLine cX11_isLine 3 (some .boolean) 2 := by
  have w1 := wd_1587
  have w2 := wd_1584
  have w3 := wd_1586
  have w4 := wp_66
  have w5 := wd_12
  exact ⟨⟨TX11, 59, rfl⟩, by decide +kernel, w1, w2, w3, w4, w5⟩
theorem sl_X11_399 : wSl1 RX11 399 yX11_deepOf cX11_deepOf 3 (some .int) 1 := ⟨by decide +kernel, wd_1590, wd_1588, wd_1589, wd_12⟩
theorem sl_X11_402 : wSl1 RX11 402 yX11_layerOf cX11_layerOf 4 (some .int) 2 := ⟨by decide +kernel, wd_1597, wd_1595, wd_1596, wd_12⟩
theorem sl_X11_405 : wSl1 RX11 405 yX11_copies cX11_copies 5 none 4 := ⟨by decide +kernel, wd_1617, wd_1615, wd_1616, wd_12⟩
theorem vl_X11_409 : wVl RX11 409 11 yX11_keeps cX11_keeps 2 none 0 := by
  have w1 := wd_1614
  have w2 := wd_1611
  have w3 := wd_1613
  have w4 := wp_68
  have w5 := wd_12
  exact ⟨⟨TX11, 59, rfl⟩, by decide +kernel, w1, w2, w3, w4, w5⟩
theorem vl_X11_412 : wVl RX11 412 11 yX11_writes cX11_writes 5 none 3 := by
  have w1 := wd_1621
  have w2 := wd_1618
  have w3 := wd_1620
  have w4 := wp_69
  have w5 := wd_12
  exact ⟨⟨TX11, 59, rfl⟩, by decide +kernel, w1, w2, w3, w4, w5⟩
theorem vl_X11_416 : wVl RX11 416 11 yX11_scrapes cX11_scrapes 4 none 2 := by
  have w1 := wd_1637
  have w2 := wd_1634
  have w3 := wd_1636
  have w4 := wp_72
  have w5 := wd_12
  exact ⟨⟨TX11, 59, rfl⟩, by decide +kernel, w1, w2, w3, w4, w5⟩
theorem vl_X11_419 : wVl RX11 419 11 yX11_scrapesNow cX11_scrapesNow 3 (some .int) 2 := by
  have w1 := wd_1629
  have w2 := wd_1626
  have w3 := wd_1628
  have w4 := wp_70
  have w5 := wd_12
  exact ⟨⟨TX11, 59, rfl⟩, by decide +kernel, w1, w2, w3, w4, w5⟩
theorem vl_X11_422 : wVl RX11 422 11 yX11_gones cX11_gones 3 (some .int) 0 := by
  have w1 := wd_1657
  have w2 := wd_1654
  have w3 := wd_1656
  have w4 := wp_73
  have w5 := wd_12
  exact ⟨⟨TX11, 59, rfl⟩, by decide +kernel, w1, w2, w3, w4, w5⟩
theorem vl_X11_425 : wVl RX11 425 11 yX11_goes cX11_goes 4 (some .boolean) 1 := by
  have w1 := wd_1661
  have w2 := wd_1658
  have w3 := wd_1660
  have w4 := wp_74
  have w5 := wd_12
  exact ⟨⟨TX11, 59, rfl⟩, by decide +kernel, w1, w2, w3, w4, w5⟩
theorem vl_X11_428 : wVl RX11 428 11 yX11_placeOf cX11_placeOf 4 (some .int) 2 := by
  have w1 := wd_1689
  have w2 := wd_1686
  have w3 := wd_1688
  have w4 := wp_75
  have w5 := wd_12
  exact ⟨⟨TX11, 59, rfl⟩, by decide +kernel, w1, w2, w3, w4, w5⟩
theorem vl_X11_431 : wVl RX11 431 11 yX11_costBy cX11_costBy 6 (some .int) 3 := by
  have w1 := wd_1697
  have w2 := wd_1694
  have w3 := wd_1696
  have w4 := wp_76
  have w5 := wd_12
  exact ⟨⟨TX11, 59, rfl⟩, by decide +kernel, w1, w2, w3, w4, w5⟩
theorem vl_X11_442 : wVl RX11 442 11 yX11_writesAll cX11_writesAll 5 none 2 := by
  have w1 := wd_1706
  have w2 := wd_1703
  have w3 := wd_1705
  have w4 := wp_77
  have w5 := wd_12
  exact ⟨⟨TX11, 59, rfl⟩, by decide +kernel, w1, w2, w3, w4, w5⟩
theorem vl_X11_445 : wVl RX11 445 11 yX11_unwrites cX11_unwrites 5 none 3 := by
  have w1 := wd_1710
  have w2 := wd_1707
  have w3 := wd_1709
  have w4 := wp_78
  have w5 := wd_12
  exact ⟨⟨TX11, 59, rfl⟩, by decide +kernel, w1, w2, w3, w4, w5⟩
theorem vl_X11_448 : wVl RX11 448 11 yX11_who cX11_who 5 (some .int) 0 := by
  have w1 := wd_1742
  have w2 := wd_1747
  have w3 := wd_1740
  have w4 := wd_1741
  have w5 := wd_12
  exact ⟨⟨TX11, 59, rfl⟩, by decide +kernel, w1, w2, w3, w4, w5⟩
theorem sl_X11_458 : wSl1 RX11 458 yX11_getsBy cX11_getsBy 5 (some .int) 5 := ⟨by decide +kernel, wd_1761, wd_1759, wd_1760, wd_12⟩
theorem vl_X11_473 : wVl RX11 473 11 yX11_draws cX11_draws 2 (some .int) 1 := by
  have w1 := wd_1773
  have w2 := wd_1770
  have w3 := wd_1772
  have w4 := wp_80
  have w5 := wd_12
  exact ⟨⟨TX11, 59, rfl⟩, by decide +kernel, w1, w2, w3, w4, w5⟩
theorem vl_X11_476 : wVl RX11 476 11 yX11_livesWeek cX11_livesWeek 6 (some .boolean) 0 := by
  have w1 := wd_1769
  have w2 := wd_1766
  have w3 := wd_1768
  have w4 := wp_79
  have w5 := wd_12
  exact ⟨⟨TX11, 59, rfl⟩, by decide +kernel, w1, w2, w3, w4, w5⟩
theorem vl_X11_479 : wVl RX11 479 11 yX11_allThick cX11_allThick 1 (some .int) 0 := by
  have w1 := wd_1781
  have w2 := wd_1778
  have w3 := wd_1780
  have w4 := wp_81
  have w5 := wd_12
  exact ⟨⟨TX11, 59, rfl⟩, by decide +kernel, w1, w2, w3, w4, w5⟩
theorem vl_X11_482 : wVl RX11 482 11 yX11_laysSeen cX11_laysSeen 4 none 2 := by
  have w1 := wd_1789
  have w2 := wd_1786
  have w3 := wd_1788
  have w4 := wp_82
  have w5 := wd_12
  exact ⟨⟨TX11, 59, rfl⟩, by decide +kernel, w1, w2, w3, w4, w5⟩
theorem vl_X11_485 : wVl RX11 485 11 yX11_allLayers cX11_allLayers 3 (some .int) 0 := by
  have w1 := wd_1797
  have w2 := wd_1794
  have w3 := wd_1796
  have w4 := wp_83
  have w5 := wd_12
  exact ⟨⟨TX11, 59, rfl⟩, by decide +kernel, w1, w2, w3, w4, w5⟩
theorem ci_m1 : Int32.ofInt (-1) = -1 := by decide
theorem ci_0 : Int32.ofInt 0 = 0 := by decide
theorem ci_1 : Int32.ofInt 1 = 1 := by decide
theorem ci_2 : Int32.ofInt 2 = 2 := by decide
theorem ci_3 : Int32.ofInt 3 = 3 := by decide
theorem ci_4 : Int32.ofInt 4 = 4 := by decide
theorem ci_5 : Int32.ofInt 5 = 5 := by decide
theorem cb_m12 : (Int8.ofInt (-12)).toInt32 = -12 := by decide
theorem cb_m11 : (Int8.ofInt (-11)).toInt32 = -11 := by decide
theorem cb_m10 : (Int8.ofInt (-10)).toInt32 = -10 := by decide
theorem cb_m9 : (Int8.ofInt (-9)).toInt32 = -9 := by decide
theorem cb_m8 : (Int8.ofInt (-8)).toInt32 = -8 := by decide
theorem cb_m7 : (Int8.ofInt (-7)).toInt32 = -7 := by decide
theorem cb_m6 : (Int8.ofInt (-6)).toInt32 = -6 := by decide
theorem cb_m5 : (Int8.ofInt (-5)).toInt32 = -5 := by decide
theorem cb_m4 : (Int8.ofInt (-4)).toInt32 = -4 := by decide
theorem cb_m3 : (Int8.ofInt (-3)).toInt32 = -3 := by decide
theorem cb_m2 : (Int8.ofInt (-2)).toInt32 = -2 := by decide
theorem cb_6 : (Int8.ofInt 6).toInt32 = 6 := by decide
theorem cb_7 : (Int8.ofInt 7).toInt32 = 7 := by decide
theorem cb_8 : (Int8.ofInt 8).toInt32 = 8 := by decide
theorem cb_9 : (Int8.ofInt 9).toInt32 = 9 := by decide
theorem cb_10 : (Int8.ofInt 10).toInt32 = 10 := by decide
theorem cb_11 : (Int8.ofInt 11).toInt32 = 11 := by decide
theorem cb_12 : (Int8.ofInt 12).toInt32 = 12 := by decide
theorem cb_16 : (Int8.ofInt 16).toInt32 = 16 := by decide
theorem cb_18 : (Int8.ofInt 18).toInt32 = 18 := by decide
theorem cb_20 : (Int8.ofInt 20).toInt32 = 20 := by decide
theorem cb_21 : (Int8.ofInt 21).toInt32 = 21 := by decide
theorem cb_22 : (Int8.ofInt 22).toInt32 = 22 := by decide
theorem cb_24 : (Int8.ofInt 24).toInt32 = 24 := by decide
theorem cb_25 : (Int8.ofInt 25).toInt32 = 25 := by decide
theorem cb_26 : (Int8.ofInt 26).toInt32 = 26 := by decide
theorem cb_27 : (Int8.ofInt 27).toInt32 = 27 := by decide
theorem cb_28 : (Int8.ofInt 28).toInt32 = 28 := by decide
theorem cb_29 : (Int8.ofInt 29).toInt32 = 29 := by decide
theorem cb_30 : (Int8.ofInt 30).toInt32 = 30 := by decide
theorem cb_32 : (Int8.ofInt 32).toInt32 = 32 := by decide
theorem cb_40 : (Int8.ofInt 40).toInt32 = 40 := by decide
theorem cb_41 : (Int8.ofInt 41).toInt32 = 41 := by decide
theorem cb_42 : (Int8.ofInt 42).toInt32 = 42 := by decide
theorem cb_43 : (Int8.ofInt 43).toInt32 = 43 := by decide
theorem cb_45 : (Int8.ofInt 45).toInt32 = 45 := by decide
theorem cb_48 : (Int8.ofInt 48).toInt32 = 48 := by decide
theorem cb_56 : (Int8.ofInt 56).toInt32 = 56 := by decide
theorem cb_57 : (Int8.ofInt 57).toInt32 = 57 := by decide
theorem cb_59 : (Int8.ofInt 59).toInt32 = 59 := by decide
theorem cb_60 : (Int8.ofInt 60).toInt32 = 60 := by decide
theorem cb_61 : (Int8.ofInt 61).toInt32 = 61 := by decide
theorem cb_63 : (Int8.ofInt 63).toInt32 = 63 := by decide
theorem cb_97 : (Int8.ofInt 97).toInt32 = 97 := by decide
theorem cb_99 : (Int8.ofInt 99).toInt32 = 99 := by decide
theorem cb_100 : (Int8.ofInt 100).toInt32 = 100 := by decide
theorem cb_122 : (Int8.ofInt 122).toInt32 = 122 := by decide
theorem cb_126 : (Int8.ofInt 126).toInt32 = 126 := by decide
theorem cs_200 : (Int16.ofInt 200).toInt32 = 200 := by decide
theorem cs_240 : (Int16.ofInt 240).toInt32 = 240 := by decide
theorem cs_255 : (Int16.ofInt 255).toInt32 = 255 := by decide
theorem cs_375 : (Int16.ofInt 375).toInt32 = 375 := by decide
theorem cs_400 : (Int16.ofInt 400).toInt32 = 400 := by decide
theorem cs_1000 : (Int16.ofInt 1000).toInt32 = 1000 := by decide
theorem cs_2000 : (Int16.ofInt 2000).toInt32 = 2000 := by decide
theorem cs_9999 : (Int16.ofInt 9999).toInt32 = 9999 := by decide
theorem cinc_m8 (x : Int32) : x + Int32.ofInt (-8) = x + (-8) := by rw [show Int32.ofInt (-8) = -8 by decide]
theorem cinc_m1 (x : Int32) : x + Int32.ofInt (-1) = x + (-1) := by rw [show Int32.ofInt (-1) = -1 by decide]
theorem cinc_1 (x : Int32) : x + Int32.ofInt 1 = x + 1 := by rw [show Int32.ofInt 1 = 1 by decide]
theorem cinc_7 (x : Int32) : x + Int32.ofInt 7 = x + 7 := by rw [show Int32.ofInt 7 = 7 by decide]
theorem cn_0 : (0 : Int32).toNatClampNeg = 0 := by decide
theorem cn_1 : (1 : Int32).toNatClampNeg = 1 := by decide
theorem cn_2 : (2 : Int32).toNatClampNeg = 2 := by decide
theorem cn_3 : (3 : Int32).toNatClampNeg = 3 := by decide
theorem cn_4 : (4 : Int32).toNatClampNeg = 4 := by decide
theorem cn_5 : (5 : Int32).toNatClampNeg = 5 := by decide
theorem cn_6 : (6 : Int32).toNatClampNeg = 6 := by decide
theorem cn_7 : (7 : Int32).toNatClampNeg = 7 := by decide
theorem cn_8 : (8 : Int32).toNatClampNeg = 8 := by decide
theorem cn_9 : (9 : Int32).toNatClampNeg = 9 := by decide
theorem cn_10 : (10 : Int32).toNatClampNeg = 10 := by decide
theorem cn_11 : (11 : Int32).toNatClampNeg = 11 := by decide
theorem cn_12 : (12 : Int32).toNatClampNeg = 12 := by decide
theorem cn_16 : (16 : Int32).toNatClampNeg = 16 := by decide
theorem cn_18 : (18 : Int32).toNatClampNeg = 18 := by decide
theorem cn_20 : (20 : Int32).toNatClampNeg = 20 := by decide
theorem cn_21 : (21 : Int32).toNatClampNeg = 21 := by decide
theorem cn_22 : (22 : Int32).toNatClampNeg = 22 := by decide
theorem cn_24 : (24 : Int32).toNatClampNeg = 24 := by decide
theorem cn_25 : (25 : Int32).toNatClampNeg = 25 := by decide
theorem cn_26 : (26 : Int32).toNatClampNeg = 26 := by decide
theorem cn_27 : (27 : Int32).toNatClampNeg = 27 := by decide
theorem cn_28 : (28 : Int32).toNatClampNeg = 28 := by decide
theorem cn_29 : (29 : Int32).toNatClampNeg = 29 := by decide
theorem cn_30 : (30 : Int32).toNatClampNeg = 30 := by decide
theorem cn_32 : (32 : Int32).toNatClampNeg = 32 := by decide
theorem cn_40 : (40 : Int32).toNatClampNeg = 40 := by decide
theorem cn_41 : (41 : Int32).toNatClampNeg = 41 := by decide
theorem cn_42 : (42 : Int32).toNatClampNeg = 42 := by decide
theorem cn_43 : (43 : Int32).toNatClampNeg = 43 := by decide
theorem cn_45 : (45 : Int32).toNatClampNeg = 45 := by decide
theorem cn_48 : (48 : Int32).toNatClampNeg = 48 := by decide
theorem cn_56 : (56 : Int32).toNatClampNeg = 56 := by decide
theorem cn_57 : (57 : Int32).toNatClampNeg = 57 := by decide
theorem cn_59 : (59 : Int32).toNatClampNeg = 59 := by decide
theorem cn_60 : (60 : Int32).toNatClampNeg = 60 := by decide
theorem cn_61 : (61 : Int32).toNatClampNeg = 61 := by decide
theorem cn_63 : (63 : Int32).toNatClampNeg = 63 := by decide
theorem cn_97 : (97 : Int32).toNatClampNeg = 97 := by decide
theorem cn_99 : (99 : Int32).toNatClampNeg = 99 := by decide
theorem cn_100 : (100 : Int32).toNatClampNeg = 100 := by decide
theorem cn_122 : (122 : Int32).toNatClampNeg = 122 := by decide
theorem cn_126 : (126 : Int32).toNatClampNeg = 126 := by decide
theorem cn_200 : (200 : Int32).toNatClampNeg = 200 := by decide
theorem cn_240 : (240 : Int32).toNatClampNeg = 240 := by decide
theorem cn_255 : (255 : Int32).toNatClampNeg = 255 := by decide
theorem cn_375 : (375 : Int32).toNatClampNeg = 375 := by decide
theorem cn_400 : (400 : Int32).toNatClampNeg = 400 := by decide
theorem cn_1000 : (1000 : Int32).toNatClampNeg = 1000 := by decide
theorem cn_2000 : (2000 : Int32).toNatClampNeg = 2000 := by decide
theorem cn_9999 : (9999 : Int32).toNatClampNeg = 9999 := by decide
def S0 : List wSh := [(16, 0, [(2, 1), (2, 3), (2, 16), (2, 29), (2, 34), (2, 39), (2, 41), (2, 43), (2, 48), (2, 130), (2, 134), (2, 135)]), (13, 0, [(2, 2), (0, 0), (0, 0), (0, 0), (0, 0), (0, 0), (1, 0), (0, 0)]), (1, 1000, []), (10, 0, [(0, 0), (2, 4), (2, 5), (2, 6), (2, 7), (0, 0), (2, 8), (2, 9), (2, 10), (2, 11), (0, 0), (2, 12), (2, 13)]), (3, 3, []), (0, 3, []), (0, 3, []), (0, 3, []), (3, 6, []), (0, 6, []), (0, 6, []), (0, 6, []), (0, 12, []), (8, 0, [(2, 14), (0, 0), (0, 0), (2, 15)]), (0, 1000, []), (0, 32, []), (10, 0, [(0, 0), (2, 17), (2, 18), (2, 19), (2, 20), (0, 0), (2, 21), (2, 22), (2, 23), (2, 24), (0, 0), (2, 25), (2, 26)]), (3, 3, []), (0, 3, []), (0, 3, []), (0, 3, []), (3, 6, []), (0, 6, []), (0, 6, []), (0, 6, []), (0, 12, []), (8, 0, [(2, 27), (0, 0), (0, 0), (2, 28)]), (0, 1000, []), (0, 32, []), (12, 0, [(2, 3), (0, 0), (2, 30), (2, 31), (2, 32), (2, 33)]), (0, 3, []), (0, 3, []), (0, 18, []), (0, 18, []), (12, 0, [(2, 3), (0, 0), (2, 35), (2, 36), (2, 37), (2, 38)]), (0, 3, []), (0, 3, []), (0, 18, []), (0, 18, []), (15, 0, [(0, 0), (2, 40)]), (0, 40, []), (15, 0, [(0, 0), (2, 42)]), (0, 40, []), (11, 0, [(0, 0), (2, 44), (2, 45), (2, 46), (2, 47)]), (0, 8, []), (0, 8, []), (0, 8, []), (0, 8, []), (14, 0, [(0, 0), (0, 0), (2, 49)]), (5, 16, [(2, 50), (2, 55), (2, 60), (2, 65), (2, 70), (2, 75), (2, 80), (2, 85), (2, 90), (2, 95), (2, 100), (2, 105), (2, 110), (2, 115), (2, 120), (2, 125)]), (12, 0, [(2, 3), (0, 0), (2, 51), (2, 52), (2, 53), (2, 54)]), (0, 3, []), (0, 3, []), (0, 18, []), (0, 18, []), (12, 0, [(2, 3), (0, 0), (2, 56), (2, 57), (2, 58), (2, 59)]), (0, 3, []), (0, 3, []), (0, 18, []), (0, 18, []), (12, 0, [(2, 3), (0, 0), (2, 61), (2, 62), (2, 63), (2, 64)]), (0, 3, []), (0, 3, []), (0, 18, []), (0, 18, []), (12, 0, [(2, 3), (0, 0), (2, 66), (2, 67), (2, 68), (2, 69)]), (0, 3, []), (0, 3, []), (0, 18, []), (0, 18, []), (12, 0, [(2, 3), (0, 0), (2, 71), (2, 72), (2, 73), (2, 74)]), (0, 3, []), (0, 3, []), (0, 18, []), (0, 18, []), (12, 0, [(2, 3), (0, 0), (2, 76), (2, 77), (2, 78), (2, 79)]), (0, 3, []), (0, 3, []), (0, 18, []), (0, 18, []), (12, 0, [(2, 3), (0, 0), (2, 81), (2, 82), (2, 83), (2, 84)]), (0, 3, []), (0, 3, []), (0, 18, []), (0, 18, []), (12, 0, [(2, 3), (0, 0), (2, 86), (2, 87), (2, 88), (2, 89)]), (0, 3, []), (0, 3, []), (0, 18, []), (0, 18, []), (12, 0, [(2, 3), (0, 0), (2, 91), (2, 92), (2, 93), (2, 94)]), (0, 3, []), (0, 3, []), (0, 18, []), (0, 18, []), (12, 0, [(2, 3), (0, 0), (2, 96), (2, 97), (2, 98), (2, 99)]), (0, 3, []), (0, 3, []), (0, 18, []), (0, 18, []), (12, 0, [(2, 3), (0, 0), (2, 101), (2, 102), (2, 103), (2, 104)]), (0, 3, []), (0, 3, []), (0, 18, []), (0, 18, []), (12, 0, [(2, 3), (0, 0), (2, 106), (2, 107), (2, 108), (2, 109)]), (0, 3, []), (0, 3, []), (0, 18, []), (0, 18, []), (12, 0, [(2, 3), (0, 0), (2, 111), (2, 112), (2, 113), (2, 114)]), (0, 3, []), (0, 3, []), (0, 18, []), (0, 18, []), (12, 0, [(2, 3), (0, 0), (2, 116), (2, 117), (2, 118), (2, 119)]), (0, 3, []), (0, 3, []), (0, 18, []), (0, 18, []), (12, 0, [(2, 3), (0, 0), (2, 121), (2, 122), (2, 123), (2, 124)]), (0, 3, []), (0, 3, []), (0, 18, []), (0, 18, []), (12, 0, [(2, 3), (0, 0), (2, 126), (2, 127), (2, 128), (2, 129)]), (0, 3, []), (0, 3, []), (0, 18, []), (0, 18, []), (9, 0, [(2, 3), (0, 0), (2, 131), (2, 132), (0, 0), (2, 133), (0, 0)]), (0, 6, []), (0, 6, []), (0, 18, []), (7, 0, [(1, 0)]), (4, 4, [(2, 136), (2, 149), (2, 162), (2, 175)]), (6, 0, [(0, 0), (2, 144), (2, 137), (2, 139)]), (15, 0, [(0, 0), (2, 138)]), (0, 40, []), (11, 0, [(0, 0), (2, 140), (2, 141), (2, 142), (2, 143)]), (0, 8, []), (0, 8, []), (0, 8, []), (0, 8, []), (12, 0, [(2, 3), (0, 0), (2, 145), (2, 146), (2, 147), (2, 148)]), (0, 3, []), (0, 3, []), (0, 18, []), (0, 18, []), (6, 0, [(0, 0), (2, 157), (2, 150), (2, 152)]), (15, 0, [(0, 0), (2, 151)]), (0, 40, []), (11, 0, [(0, 0), (2, 153), (2, 154), (2, 155), (2, 156)]), (0, 8, []), (0, 8, []), (0, 8, []), (0, 8, []), (12, 0, [(2, 3), (0, 0), (2, 158), (2, 159), (2, 160), (2, 161)]), (0, 3, []), (0, 3, []), (0, 18, []), (0, 18, []), (6, 0, [(0, 0), (2, 170), (2, 163), (2, 165)]), (15, 0, [(0, 0), (2, 164)]), (0, 40, []), (11, 0, [(0, 0), (2, 166), (2, 167), (2, 168), (2, 169)]), (0, 8, []), (0, 8, []), (0, 8, []), (0, 8, []), (12, 0, [(2, 3), (0, 0), (2, 171), (2, 172), (2, 173), (2, 174)]), (0, 3, []), (0, 3, []), (0, 18, []), (0, 18, []), (6, 0, [(0, 0), (2, 183), (2, 176), (2, 178)]), (15, 0, [(0, 0), (2, 177)]), (0, 40, []), (11, 0, [(0, 0), (2, 179), (2, 180), (2, 181), (2, 182)]), (0, 8, []), (0, 8, []), (0, 8, []), (0, 8, []), (12, 0, [(2, 3), (0, 0), (2, 184), (2, 185), (2, 186), (2, 187)]), (0, 3, []), (0, 3, []), (0, 18, []), (0, 18, []), (17, 0, [(0, 0), (0, 0), (2, 189), (0, 0), (0, 0), (0, 0), (0, 0), (1, 0), (0, 0), (0, 0), (2, 190), (2, 191), (2, 192), (2, 193), (2, 194), (2, 195), (2, 196), (2, 197), (2, 198), (2, 199), (2, 200), (2, 201), (2, 202), (0, 0), (2, 203), (2, 204), (2, 205), (2, 206), (2, 207), (2, 208), (2, 209), (2, 210), (2, 211), (2, 212), (2, 213), (2, 214), (0, 0), (1, 0), (2, 215), (2, 216), (2, 217), (2, 218), (2, 219), (2, 220), (2, 221), (2, 222), (2, 223), (2, 224), (2, 225), (2, 226), (2, 227), (2, 228), (2, 229), (2, 230), (0, 0), (2, 231), (2, 232), (0, 0), (1, 0)]), (0, 1000, []), (0, 6, []), (3, 6, []), (3, 12, []), (0, 6, []), (0, 6, []), (0, 6, []), (0, 12, []), (0, 12, []), (0, 12, []), (0, 24, []), (0, 2, []), (0, 2, []), (0, 2000, []), (0, 7, []), (2, 7, []), (0, 7, []), (0, 7, []), (0, 7, []), (0, 7, []), (0, 7, []), (0, 7, []), (0, 7, []), (0, 7, []), (0, 7, []), (0, 20, []), (0, 6, []), (0, 240, []), (0, 240, []), (0, 240, []), (0, 240, []), (0, 5, []), (0, 40, []), (0, 40, []), (0, 40, []), (2, 40, []), (0, 25, []), (0, 25, []), (0, 25, []), (0, 100, []), (0, 400, []), (2, 4, []), (0, 6, []), (0, 6, []), (3, 1, [])]
theorem S0_0 : S0[0]? = some (16, 0, [(2, 1), (2, 3), (2, 16), (2, 29), (2, 34), (2, 39), (2, 41), (2, 43), (2, 48), (2, 130), (2, 134), (2, 135)]) := rfl
theorem S0_1 : S0[1]? = some (13, 0, [(2, 2), (0, 0), (0, 0), (0, 0), (0, 0), (0, 0), (1, 0), (0, 0)]) := rfl
theorem S0_2 : S0[2]? = some (1, 1000, []) := rfl
theorem S0_3 : S0[3]? = some (10, 0, [(0, 0), (2, 4), (2, 5), (2, 6), (2, 7), (0, 0), (2, 8), (2, 9), (2, 10), (2, 11), (0, 0), (2, 12), (2, 13)]) := rfl
theorem S0_4 : S0[4]? = some (3, 3, []) := rfl
theorem S0_5 : S0[5]? = some (0, 3, []) := rfl
theorem S0_6 : S0[6]? = some (0, 3, []) := rfl
theorem S0_7 : S0[7]? = some (0, 3, []) := rfl
theorem S0_8 : S0[8]? = some (3, 6, []) := rfl
theorem S0_9 : S0[9]? = some (0, 6, []) := rfl
theorem S0_10 : S0[10]? = some (0, 6, []) := rfl
theorem S0_11 : S0[11]? = some (0, 6, []) := rfl
theorem S0_12 : S0[12]? = some (0, 12, []) := rfl
theorem S0_13 : S0[13]? = some (8, 0, [(2, 14), (0, 0), (0, 0), (2, 15)]) := rfl
theorem S0_14 : S0[14]? = some (0, 1000, []) := rfl
theorem S0_15 : S0[15]? = some (0, 32, []) := rfl
theorem S0_16 : S0[16]? = some (10, 0, [(0, 0), (2, 17), (2, 18), (2, 19), (2, 20), (0, 0), (2, 21), (2, 22), (2, 23), (2, 24), (0, 0), (2, 25), (2, 26)]) := rfl
theorem S0_17 : S0[17]? = some (3, 3, []) := rfl
theorem S0_18 : S0[18]? = some (0, 3, []) := rfl
theorem S0_19 : S0[19]? = some (0, 3, []) := rfl
theorem S0_20 : S0[20]? = some (0, 3, []) := rfl
theorem S0_21 : S0[21]? = some (3, 6, []) := rfl
theorem S0_22 : S0[22]? = some (0, 6, []) := rfl
theorem S0_23 : S0[23]? = some (0, 6, []) := rfl
theorem S0_24 : S0[24]? = some (0, 6, []) := rfl
theorem S0_25 : S0[25]? = some (0, 12, []) := rfl
theorem S0_26 : S0[26]? = some (8, 0, [(2, 27), (0, 0), (0, 0), (2, 28)]) := rfl
theorem S0_27 : S0[27]? = some (0, 1000, []) := rfl
theorem S0_28 : S0[28]? = some (0, 32, []) := rfl
theorem S0_29 : S0[29]? = some (12, 0, [(2, 3), (0, 0), (2, 30), (2, 31), (2, 32), (2, 33)]) := rfl
theorem S0_30 : S0[30]? = some (0, 3, []) := rfl
theorem S0_31 : S0[31]? = some (0, 3, []) := rfl
theorem S0_32 : S0[32]? = some (0, 18, []) := rfl
theorem S0_33 : S0[33]? = some (0, 18, []) := rfl
theorem S0_34 : S0[34]? = some (12, 0, [(2, 3), (0, 0), (2, 35), (2, 36), (2, 37), (2, 38)]) := rfl
theorem S0_35 : S0[35]? = some (0, 3, []) := rfl
theorem S0_36 : S0[36]? = some (0, 3, []) := rfl
theorem S0_37 : S0[37]? = some (0, 18, []) := rfl
theorem S0_38 : S0[38]? = some (0, 18, []) := rfl
theorem S0_39 : S0[39]? = some (15, 0, [(0, 0), (2, 40)]) := rfl
theorem S0_40 : S0[40]? = some (0, 40, []) := rfl
theorem S0_41 : S0[41]? = some (15, 0, [(0, 0), (2, 42)]) := rfl
theorem S0_42 : S0[42]? = some (0, 40, []) := rfl
theorem S0_43 : S0[43]? = some (11, 0, [(0, 0), (2, 44), (2, 45), (2, 46), (2, 47)]) := rfl
theorem S0_44 : S0[44]? = some (0, 8, []) := rfl
theorem S0_45 : S0[45]? = some (0, 8, []) := rfl
theorem S0_46 : S0[46]? = some (0, 8, []) := rfl
theorem S0_47 : S0[47]? = some (0, 8, []) := rfl
theorem S0_48 : S0[48]? = some (14, 0, [(0, 0), (0, 0), (2, 49)]) := rfl
theorem S0_49 : S0[49]? = some (5, 16, [(2, 50), (2, 55), (2, 60), (2, 65), (2, 70), (2, 75), (2, 80), (2, 85), (2, 90), (2, 95), (2, 100), (2, 105), (2, 110), (2, 115), (2, 120), (2, 125)]) := rfl
theorem S0_50 : S0[50]? = some (12, 0, [(2, 3), (0, 0), (2, 51), (2, 52), (2, 53), (2, 54)]) := rfl
theorem S0_51 : S0[51]? = some (0, 3, []) := rfl
theorem S0_52 : S0[52]? = some (0, 3, []) := rfl
theorem S0_53 : S0[53]? = some (0, 18, []) := rfl
theorem S0_54 : S0[54]? = some (0, 18, []) := rfl
theorem S0_55 : S0[55]? = some (12, 0, [(2, 3), (0, 0), (2, 56), (2, 57), (2, 58), (2, 59)]) := rfl
theorem S0_56 : S0[56]? = some (0, 3, []) := rfl
theorem S0_57 : S0[57]? = some (0, 3, []) := rfl
theorem S0_58 : S0[58]? = some (0, 18, []) := rfl
theorem S0_59 : S0[59]? = some (0, 18, []) := rfl
theorem S0_60 : S0[60]? = some (12, 0, [(2, 3), (0, 0), (2, 61), (2, 62), (2, 63), (2, 64)]) := rfl
theorem S0_61 : S0[61]? = some (0, 3, []) := rfl
theorem S0_62 : S0[62]? = some (0, 3, []) := rfl
theorem S0_63 : S0[63]? = some (0, 18, []) := rfl
theorem S0_64 : S0[64]? = some (0, 18, []) := rfl
theorem S0_65 : S0[65]? = some (12, 0, [(2, 3), (0, 0), (2, 66), (2, 67), (2, 68), (2, 69)]) := rfl
theorem S0_66 : S0[66]? = some (0, 3, []) := rfl
theorem S0_67 : S0[67]? = some (0, 3, []) := rfl
theorem S0_68 : S0[68]? = some (0, 18, []) := rfl
theorem S0_69 : S0[69]? = some (0, 18, []) := rfl
theorem S0_70 : S0[70]? = some (12, 0, [(2, 3), (0, 0), (2, 71), (2, 72), (2, 73), (2, 74)]) := rfl
theorem S0_71 : S0[71]? = some (0, 3, []) := rfl
theorem S0_72 : S0[72]? = some (0, 3, []) := rfl
theorem S0_73 : S0[73]? = some (0, 18, []) := rfl
theorem S0_74 : S0[74]? = some (0, 18, []) := rfl
theorem S0_75 : S0[75]? = some (12, 0, [(2, 3), (0, 0), (2, 76), (2, 77), (2, 78), (2, 79)]) := rfl
theorem S0_76 : S0[76]? = some (0, 3, []) := rfl
theorem S0_77 : S0[77]? = some (0, 3, []) := rfl
theorem S0_78 : S0[78]? = some (0, 18, []) := rfl
theorem S0_79 : S0[79]? = some (0, 18, []) := rfl
theorem S0_80 : S0[80]? = some (12, 0, [(2, 3), (0, 0), (2, 81), (2, 82), (2, 83), (2, 84)]) := rfl
theorem S0_81 : S0[81]? = some (0, 3, []) := rfl
theorem S0_82 : S0[82]? = some (0, 3, []) := rfl
theorem S0_83 : S0[83]? = some (0, 18, []) := rfl
theorem S0_84 : S0[84]? = some (0, 18, []) := rfl
theorem S0_85 : S0[85]? = some (12, 0, [(2, 3), (0, 0), (2, 86), (2, 87), (2, 88), (2, 89)]) := rfl
theorem S0_86 : S0[86]? = some (0, 3, []) := rfl
theorem S0_87 : S0[87]? = some (0, 3, []) := rfl
theorem S0_88 : S0[88]? = some (0, 18, []) := rfl
theorem S0_89 : S0[89]? = some (0, 18, []) := rfl
theorem S0_90 : S0[90]? = some (12, 0, [(2, 3), (0, 0), (2, 91), (2, 92), (2, 93), (2, 94)]) := rfl
theorem S0_91 : S0[91]? = some (0, 3, []) := rfl
theorem S0_92 : S0[92]? = some (0, 3, []) := rfl
theorem S0_93 : S0[93]? = some (0, 18, []) := rfl
theorem S0_94 : S0[94]? = some (0, 18, []) := rfl
theorem S0_95 : S0[95]? = some (12, 0, [(2, 3), (0, 0), (2, 96), (2, 97), (2, 98), (2, 99)]) := rfl
theorem S0_96 : S0[96]? = some (0, 3, []) := rfl
theorem S0_97 : S0[97]? = some (0, 3, []) := rfl
theorem S0_98 : S0[98]? = some (0, 18, []) := rfl
theorem S0_99 : S0[99]? = some (0, 18, []) := rfl
theorem S0_100 : S0[100]? = some (12, 0, [(2, 3), (0, 0), (2, 101), (2, 102), (2, 103), (2, 104)]) := rfl
theorem S0_101 : S0[101]? = some (0, 3, []) := rfl
theorem S0_102 : S0[102]? = some (0, 3, []) := rfl
theorem S0_103 : S0[103]? = some (0, 18, []) := rfl
theorem S0_104 : S0[104]? = some (0, 18, []) := rfl
theorem S0_105 : S0[105]? = some (12, 0, [(2, 3), (0, 0), (2, 106), (2, 107), (2, 108), (2, 109)]) := rfl
theorem S0_106 : S0[106]? = some (0, 3, []) := rfl
theorem S0_107 : S0[107]? = some (0, 3, []) := rfl
theorem S0_108 : S0[108]? = some (0, 18, []) := rfl
theorem S0_109 : S0[109]? = some (0, 18, []) := rfl
theorem S0_110 : S0[110]? = some (12, 0, [(2, 3), (0, 0), (2, 111), (2, 112), (2, 113), (2, 114)]) := rfl
theorem S0_111 : S0[111]? = some (0, 3, []) := rfl
theorem S0_112 : S0[112]? = some (0, 3, []) := rfl
theorem S0_113 : S0[113]? = some (0, 18, []) := rfl
theorem S0_114 : S0[114]? = some (0, 18, []) := rfl
theorem S0_115 : S0[115]? = some (12, 0, [(2, 3), (0, 0), (2, 116), (2, 117), (2, 118), (2, 119)]) := rfl
theorem S0_116 : S0[116]? = some (0, 3, []) := rfl
theorem S0_117 : S0[117]? = some (0, 3, []) := rfl
theorem S0_118 : S0[118]? = some (0, 18, []) := rfl
theorem S0_119 : S0[119]? = some (0, 18, []) := rfl
theorem S0_120 : S0[120]? = some (12, 0, [(2, 3), (0, 0), (2, 121), (2, 122), (2, 123), (2, 124)]) := rfl
theorem S0_121 : S0[121]? = some (0, 3, []) := rfl
theorem S0_122 : S0[122]? = some (0, 3, []) := rfl
theorem S0_123 : S0[123]? = some (0, 18, []) := rfl
theorem S0_124 : S0[124]? = some (0, 18, []) := rfl
theorem S0_125 : S0[125]? = some (12, 0, [(2, 3), (0, 0), (2, 126), (2, 127), (2, 128), (2, 129)]) := rfl
theorem S0_126 : S0[126]? = some (0, 3, []) := rfl
theorem S0_127 : S0[127]? = some (0, 3, []) := rfl
theorem S0_128 : S0[128]? = some (0, 18, []) := rfl
theorem S0_129 : S0[129]? = some (0, 18, []) := rfl
theorem S0_130 : S0[130]? = some (9, 0, [(2, 3), (0, 0), (2, 131), (2, 132), (0, 0), (2, 133), (0, 0)]) := rfl
theorem S0_131 : S0[131]? = some (0, 6, []) := rfl
theorem S0_132 : S0[132]? = some (0, 6, []) := rfl
theorem S0_133 : S0[133]? = some (0, 18, []) := rfl
theorem S0_134 : S0[134]? = some (7, 0, [(1, 0)]) := rfl
theorem S0_135 : S0[135]? = some (4, 4, [(2, 136), (2, 149), (2, 162), (2, 175)]) := rfl
theorem S0_136 : S0[136]? = some (6, 0, [(0, 0), (2, 144), (2, 137), (2, 139)]) := rfl
theorem S0_137 : S0[137]? = some (15, 0, [(0, 0), (2, 138)]) := rfl
theorem S0_138 : S0[138]? = some (0, 40, []) := rfl
theorem S0_139 : S0[139]? = some (11, 0, [(0, 0), (2, 140), (2, 141), (2, 142), (2, 143)]) := rfl
theorem S0_140 : S0[140]? = some (0, 8, []) := rfl
theorem S0_141 : S0[141]? = some (0, 8, []) := rfl
theorem S0_142 : S0[142]? = some (0, 8, []) := rfl
theorem S0_143 : S0[143]? = some (0, 8, []) := rfl
theorem S0_144 : S0[144]? = some (12, 0, [(2, 3), (0, 0), (2, 145), (2, 146), (2, 147), (2, 148)]) := rfl
theorem S0_145 : S0[145]? = some (0, 3, []) := rfl
theorem S0_146 : S0[146]? = some (0, 3, []) := rfl
theorem S0_147 : S0[147]? = some (0, 18, []) := rfl
theorem S0_148 : S0[148]? = some (0, 18, []) := rfl
theorem S0_149 : S0[149]? = some (6, 0, [(0, 0), (2, 157), (2, 150), (2, 152)]) := rfl
theorem S0_150 : S0[150]? = some (15, 0, [(0, 0), (2, 151)]) := rfl
theorem S0_151 : S0[151]? = some (0, 40, []) := rfl
theorem S0_152 : S0[152]? = some (11, 0, [(0, 0), (2, 153), (2, 154), (2, 155), (2, 156)]) := rfl
theorem S0_153 : S0[153]? = some (0, 8, []) := rfl
theorem S0_154 : S0[154]? = some (0, 8, []) := rfl
theorem S0_155 : S0[155]? = some (0, 8, []) := rfl
theorem S0_156 : S0[156]? = some (0, 8, []) := rfl
theorem S0_157 : S0[157]? = some (12, 0, [(2, 3), (0, 0), (2, 158), (2, 159), (2, 160), (2, 161)]) := rfl
theorem S0_158 : S0[158]? = some (0, 3, []) := rfl
theorem S0_159 : S0[159]? = some (0, 3, []) := rfl
theorem S0_160 : S0[160]? = some (0, 18, []) := rfl
theorem S0_161 : S0[161]? = some (0, 18, []) := rfl
theorem S0_162 : S0[162]? = some (6, 0, [(0, 0), (2, 170), (2, 163), (2, 165)]) := rfl
theorem S0_163 : S0[163]? = some (15, 0, [(0, 0), (2, 164)]) := rfl
theorem S0_164 : S0[164]? = some (0, 40, []) := rfl
theorem S0_165 : S0[165]? = some (11, 0, [(0, 0), (2, 166), (2, 167), (2, 168), (2, 169)]) := rfl
theorem S0_166 : S0[166]? = some (0, 8, []) := rfl
theorem S0_167 : S0[167]? = some (0, 8, []) := rfl
theorem S0_168 : S0[168]? = some (0, 8, []) := rfl
theorem S0_169 : S0[169]? = some (0, 8, []) := rfl
theorem S0_170 : S0[170]? = some (12, 0, [(2, 3), (0, 0), (2, 171), (2, 172), (2, 173), (2, 174)]) := rfl
theorem S0_171 : S0[171]? = some (0, 3, []) := rfl
theorem S0_172 : S0[172]? = some (0, 3, []) := rfl
theorem S0_173 : S0[173]? = some (0, 18, []) := rfl
theorem S0_174 : S0[174]? = some (0, 18, []) := rfl
theorem S0_175 : S0[175]? = some (6, 0, [(0, 0), (2, 183), (2, 176), (2, 178)]) := rfl
theorem S0_176 : S0[176]? = some (15, 0, [(0, 0), (2, 177)]) := rfl
theorem S0_177 : S0[177]? = some (0, 40, []) := rfl
theorem S0_178 : S0[178]? = some (11, 0, [(0, 0), (2, 179), (2, 180), (2, 181), (2, 182)]) := rfl
theorem S0_179 : S0[179]? = some (0, 8, []) := rfl
theorem S0_180 : S0[180]? = some (0, 8, []) := rfl
theorem S0_181 : S0[181]? = some (0, 8, []) := rfl
theorem S0_182 : S0[182]? = some (0, 8, []) := rfl
theorem S0_183 : S0[183]? = some (12, 0, [(2, 3), (0, 0), (2, 184), (2, 185), (2, 186), (2, 187)]) := rfl
theorem S0_184 : S0[184]? = some (0, 3, []) := rfl
theorem S0_185 : S0[185]? = some (0, 3, []) := rfl
theorem S0_186 : S0[186]? = some (0, 18, []) := rfl
theorem S0_187 : S0[187]? = some (0, 18, []) := rfl
theorem S0_188 : S0[188]? = some (17, 0, [(0, 0), (0, 0), (2, 189), (0, 0), (0, 0), (0, 0), (0, 0), (1, 0), (0, 0), (0, 0), (2, 190), (2, 191), (2, 192), (2, 193), (2, 194), (2, 195), (2, 196), (2, 197), (2, 198), (2, 199), (2, 200), (2, 201), (2, 202), (0, 0), (2, 203), (2, 204), (2, 205), (2, 206), (2, 207), (2, 208), (2, 209), (2, 210), (2, 211), (2, 212), (2, 213), (2, 214), (0, 0), (1, 0), (2, 215), (2, 216), (2, 217), (2, 218), (2, 219), (2, 220), (2, 221), (2, 222), (2, 223), (2, 224), (2, 225), (2, 226), (2, 227), (2, 228), (2, 229), (2, 230), (0, 0), (2, 231), (2, 232), (0, 0), (1, 0)]) := rfl
theorem S0_189 : S0[189]? = some (0, 1000, []) := rfl
theorem S0_190 : S0[190]? = some (0, 6, []) := rfl
theorem S0_191 : S0[191]? = some (3, 6, []) := rfl
theorem S0_192 : S0[192]? = some (3, 12, []) := rfl
theorem S0_193 : S0[193]? = some (0, 6, []) := rfl
theorem S0_194 : S0[194]? = some (0, 6, []) := rfl
theorem S0_195 : S0[195]? = some (0, 6, []) := rfl
theorem S0_196 : S0[196]? = some (0, 12, []) := rfl
theorem S0_197 : S0[197]? = some (0, 12, []) := rfl
theorem S0_198 : S0[198]? = some (0, 12, []) := rfl
theorem S0_199 : S0[199]? = some (0, 24, []) := rfl
theorem S0_200 : S0[200]? = some (0, 2, []) := rfl
theorem S0_201 : S0[201]? = some (0, 2, []) := rfl
theorem S0_202 : S0[202]? = some (0, 2000, []) := rfl
theorem S0_203 : S0[203]? = some (0, 7, []) := rfl
theorem S0_204 : S0[204]? = some (2, 7, []) := rfl
theorem S0_205 : S0[205]? = some (0, 7, []) := rfl
theorem S0_206 : S0[206]? = some (0, 7, []) := rfl
theorem S0_207 : S0[207]? = some (0, 7, []) := rfl
theorem S0_208 : S0[208]? = some (0, 7, []) := rfl
theorem S0_209 : S0[209]? = some (0, 7, []) := rfl
theorem S0_210 : S0[210]? = some (0, 7, []) := rfl
theorem S0_211 : S0[211]? = some (0, 7, []) := rfl
theorem S0_212 : S0[212]? = some (0, 7, []) := rfl
theorem S0_213 : S0[213]? = some (0, 7, []) := rfl
theorem S0_214 : S0[214]? = some (0, 20, []) := rfl
theorem S0_215 : S0[215]? = some (0, 6, []) := rfl
theorem S0_216 : S0[216]? = some (0, 240, []) := rfl
theorem S0_217 : S0[217]? = some (0, 240, []) := rfl
theorem S0_218 : S0[218]? = some (0, 240, []) := rfl
theorem S0_219 : S0[219]? = some (0, 240, []) := rfl
theorem S0_220 : S0[220]? = some (0, 5, []) := rfl
theorem S0_221 : S0[221]? = some (0, 40, []) := rfl
theorem S0_222 : S0[222]? = some (0, 40, []) := rfl
theorem S0_223 : S0[223]? = some (0, 40, []) := rfl
theorem S0_224 : S0[224]? = some (2, 40, []) := rfl
theorem S0_225 : S0[225]? = some (0, 25, []) := rfl
theorem S0_226 : S0[226]? = some (0, 25, []) := rfl
theorem S0_227 : S0[227]? = some (0, 25, []) := rfl
theorem S0_228 : S0[228]? = some (0, 100, []) := rfl
theorem S0_229 : S0[229]? = some (0, 400, []) := rfl
theorem S0_230 : S0[230]? = some (2, 4, []) := rfl
theorem S0_231 : S0[231]? = some (0, 6, []) := rfl
theorem S0_232 : S0[232]? = some (0, 6, []) := rfl
theorem S0_233 : S0[233]? = some (3, 1, []) := rfl
