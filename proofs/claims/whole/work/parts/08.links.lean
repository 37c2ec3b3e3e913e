set_option maxRecDepth 20000 in
theorem cl_X0 : CL 0 RX0 TX0 10 tyX0 := ⟨rfl, by decide, lay_X0, tyX0_ok, nmX0, rfl⟩
set_option maxRecDepth 20000 in
theorem cl_X1 : CL 1 RX1 TX1 7 tyX1 := ⟨rfl, by decide, lay_X1, tyX1_ok, nmX1, rfl⟩
set_option maxRecDepth 20000 in
theorem cl_X2 : CL 2 RX2 TX2 3 tyX2 := ⟨rfl, by decide, lay_X2, tyX2_ok, nmX2, rfl⟩
set_option maxRecDepth 20000 in
theorem cl_X3 : CL 3 RX3 TX3 5 tyX3 := ⟨rfl, by decide, lay_X3, tyX3_ok, nmX3, rfl⟩
set_option maxRecDepth 20000 in
theorem cl_X4 : CL 4 RX4 TX4 7 tyX4 := ⟨rfl, by decide, lay_X4, tyX4_ok, nmX4, rfl⟩
set_option maxRecDepth 20000 in
theorem cl_X5 : CL 5 RX5 TX5 3 tyX5 := ⟨rfl, by decide, lay_X5, tyX5_ok, nmX5, rfl⟩
set_option maxRecDepth 20000 in
theorem cl_X7 : CL 6 RX7 TX7 8 tyX7 := ⟨rfl, by decide, lay_X7, tyX7_ok, nmX7, rfl⟩
set_option maxRecDepth 20000 in
theorem cl_X8 : CL 7 RX8 TX8 1 tyX8 := ⟨rfl, by decide, lay_X8, tyX8_ok, nmX8, rfl⟩
set_option maxRecDepth 20000 in
theorem cl_X9 : CL 8 RX9 TX9 5 tyX9 := ⟨rfl, by decide, lay_X9, tyX9_ok, nmX9, rfl⟩
set_option maxRecDepth 20000 in
theorem cl_X10 : CL 9 RX10 TX10 4 tyX10 := ⟨rfl, by decide, lay_X10, tyX10_ok, nmX10, rfl⟩
set_option maxRecDepth 20000 in
theorem cl_X11 : CL 10 RX11 TX11 20 tyX11 := ⟨rfl, by decide, lay_X11, tyX11_ok, nmX11, rfl⟩
set_option maxRecDepth 20000 in
theorem cl_X12 : CL 11 RX12 TX12 41 tyX12 := ⟨rfl, by decide, lay_X12, tyX12_ok, nmX12, rfl⟩
theorem fl_X1_9_1 : FL RX1 9 1 3 (.array .int) true true := ⟨RX1, TX1, 7, tyX1, "SlitDrum$LanternReader", cl_X1, by decide, rfl, rfl, fun _ => rfl, m_170, Or.inl rfl⟩
theorem fl_X1_15_1 : FL RX1 15 1 4 (.boolean) false true := ⟨RX1, TX1, 7, tyX1, "SlitDrum$LanternReader", cl_X1, by decide, rfl, rfl, fun _ => rfl, m_171, Or.inl rfl⟩
theorem fl_X1_19_1 : FL RX1 19 1 5 (.array .int) true true := ⟨RX1, TX1, 7, tyX1, "SlitDrum$LanternReader", cl_X1, by decide, rfl, rfl, fun _ => rfl, m_172, Or.inl rfl⟩
theorem fl_X1_22_1 : FL RX1 22 1 6 (.int) false true := ⟨RX1, TX1, 7, tyX1, "SlitDrum$LanternReader", cl_X1, by decide, rfl, rfl, fun _ => rfl, m_173, Or.inl rfl⟩
theorem fl_X6_9_1 : FL RX6 9 1 0 (.array .int) false true := ⟨RX1, TX1, 7, tyX1, "SlitDrum$Reader", cl_X1, by decide, rfl, rfl, fun _ => rfl, m_174, Or.inl rfl⟩
theorem fl_X6_9_3 : FL RX6 9 3 0 (.array .int) false true := ⟨RX3, TX3, 5, tyX3, "SlitDrum$Reader", cl_X3, by decide, rfl, rfl, fun _ => rfl, m_174, Or.inl rfl⟩
theorem fl_X6_9_8 : FL RX6 9 8 0 (.array .int) false true := ⟨RX9, TX9, 5, tyX9, "SlitDrum$Reader", cl_X9, by decide, rfl, rfl, fun _ => rfl, m_174, Or.inl rfl⟩
theorem fl_X6_15_1 : FL RX6 15 1 1 (.int) false true := ⟨RX1, TX1, 7, tyX1, "SlitDrum$Reader", cl_X1, by decide, rfl, rfl, fun _ => rfl, m_175, Or.inl rfl⟩
theorem fl_X6_15_3 : FL RX6 15 3 1 (.int) false true := ⟨RX3, TX3, 5, tyX3, "SlitDrum$Reader", cl_X3, by decide, rfl, rfl, fun _ => rfl, m_175, Or.inl rfl⟩
theorem fl_X6_15_8 : FL RX6 15 8 1 (.int) false true := ⟨RX9, TX9, 5, tyX9, "SlitDrum$Reader", cl_X9, by decide, rfl, rfl, fun _ => rfl, m_175, Or.inl rfl⟩
theorem fl_X6_19_1 : FL RX6 19 1 2 (.int) false true := ⟨RX1, TX1, 7, tyX1, "SlitDrum$Reader", cl_X1, by decide, rfl, rfl, fun _ => rfl, m_176, Or.inl rfl⟩
theorem fl_X6_19_3 : FL RX6 19 3 2 (.int) false true := ⟨RX3, TX3, 5, tyX3, "SlitDrum$Reader", cl_X3, by decide, rfl, rfl, fun _ => rfl, m_176, Or.inl rfl⟩
theorem fl_X6_19_8 : FL RX6 19 8 2 (.int) false true := ⟨RX9, TX9, 5, tyX9, "SlitDrum$Reader", cl_X9, by decide, rfl, rfl, fun _ => rfl, m_176, Or.inl rfl⟩
theorem fl_X9_23_8 : FL RX9 23 8 2 (.int) false false := ⟨RX9, TX9, 5, tyX9, "SlitDrum$StripReader", cl_X9, by decide, rfl, rfl, (fun h => by cases h), m_177, Or.inr (m_178)⟩
theorem fl_X1_79_1 : FL RX1 79 1 2 (.int) false false := ⟨RX1, TX1, 7, tyX1, "SlitDrum$LanternReader", cl_X1, by decide, rfl, rfl, (fun h => by cases h), m_179, Or.inr (m_180)⟩
theorem fl_X11_129_1 : FL RX11 129 1 2 (.int) false false := ⟨RX1, TX1, 7, tyX1, "SlitDrum$Reader", cl_X1, by decide, rfl, rfl, (fun h => by cases h), m_181, Or.inl rfl⟩
theorem fl_X11_129_3 : FL RX11 129 3 2 (.int) false false := ⟨RX3, TX3, 5, tyX3, "SlitDrum$Reader", cl_X3, by decide, rfl, rfl, (fun h => by cases h), m_181, Or.inl rfl⟩
theorem fl_X11_129_8 : FL RX11 129 8 2 (.int) false false := ⟨RX9, TX9, 5, tyX9, "SlitDrum$Reader", cl_X9, by decide, rfl, rfl, (fun h => by cases h), m_181, Or.inl rfl⟩
theorem fl_X3_74_3 : FL RX3 74 3 2 (.int) false false := ⟨RX3, TX3, 5, tyX3, "SlitDrum$LawReader", cl_X3, by decide, rfl, rfl, (fun h => by cases h), m_182, Or.inr (m_183)⟩
theorem fl_X3_9_3 : FL RX3 9 3 3 (.array .int) true true := ⟨RX3, TX3, 5, tyX3, "SlitDrum$LawReader", cl_X3, by decide, rfl, rfl, fun _ => rfl, m_206, Or.inl rfl⟩
theorem fl_X3_15_3 : FL RX3 15 3 4 (.int) false true := ⟨RX3, TX3, 5, tyX3, "SlitDrum$LawReader", cl_X3, by decide, rfl, rfl, fun _ => rfl, m_207, Or.inl rfl⟩
theorem fl_X9_9_8 : FL RX9 9 8 3 (.array .int) true true := ⟨RX9, TX9, 5, tyX9, "SlitDrum$StripReader", cl_X9, by decide, rfl, rfl, fun _ => rfl, m_222, Or.inl rfl⟩
theorem fl_X9_15_8 : FL RX9 15 8 4 (.int) false true := ⟨RX9, TX9, 5, tyX9, "SlitDrum$StripReader", cl_X9, by decide, rfl, rfl, fun _ => rfl, m_223, Or.inl rfl⟩
theorem fl_X8_9_7 : FL RX8 9 7 0 (.array .int) true true := ⟨RX8, TX8, 1, tyX8, "SlitDrum$Strip", cl_X8, by decide, rfl, rfl, fun _ => rfl, m_241, Or.inl rfl⟩
theorem fl_X10_7_9 : FL RX10 7 9 0 (.int) false true := ⟨RX10, TX10, 4, tyX10, "SlitDrum$Wheel", cl_X10, by decide, rfl, rfl, fun _ => rfl, m_258, Or.inl rfl⟩
theorem fl_X1_109_9 : FL RX1 109 9 0 (.int) false false := ⟨RX10, TX10, 4, tyX10, "SlitDrum$Wheel", cl_X10, by decide, rfl, rfl, (fun h => by cases h), m_259, Or.inl rfl⟩
theorem fl_X11_206_9 : FL RX11 206 9 0 (.int) false false := ⟨RX10, TX10, 4, tyX10, "SlitDrum$Wheel", cl_X10, by decide, rfl, rfl, (fun h => by cases h), m_260, Or.inl rfl⟩
theorem fl_X10_13_9 : FL RX10 13 9 1 (.boolean) false true := ⟨RX10, TX10, 4, tyX10, "SlitDrum$Wheel", cl_X10, by decide, rfl, rfl, fun _ => rfl, m_261, Or.inl rfl⟩
theorem fl_X1_114_9 : FL RX1 114 9 1 (.boolean) false false := ⟨RX10, TX10, 4, tyX10, "SlitDrum$Wheel", cl_X10, by decide, rfl, rfl, (fun h => by cases h), m_262, Or.inl rfl⟩
theorem fl_X11_209_9 : FL RX11 209 9 1 (.boolean) false false := ⟨RX10, TX10, 4, tyX10, "SlitDrum$Wheel", cl_X10, by decide, rfl, rfl, (fun h => by cases h), m_263, Or.inl rfl⟩
theorem fl_X10_17_9 : FL RX10 17 9 2 (.int) false true := ⟨RX10, TX10, 4, tyX10, "SlitDrum$Wheel", cl_X10, by decide, rfl, rfl, fun _ => rfl, m_264, Or.inl rfl⟩
theorem fl_X0_55_9 : FL RX0 55 9 2 (.int) false false := ⟨RX10, TX10, 4, tyX10, "SlitDrum$Wheel", cl_X10, by decide, rfl, rfl, (fun h => by cases h), m_265, Or.inl rfl⟩
theorem fl_X1_117_9 : FL RX1 117 9 2 (.int) false false := ⟨RX10, TX10, 4, tyX10, "SlitDrum$Wheel", cl_X10, by decide, rfl, rfl, (fun h => by cases h), m_266, Or.inl rfl⟩
theorem fl_X11_157_9 : FL RX11 157 9 2 (.int) false false := ⟨RX10, TX10, 4, tyX10, "SlitDrum$Wheel", cl_X10, by decide, rfl, rfl, (fun h => by cases h), m_267, Or.inl rfl⟩
theorem fl_X10_20_9 : FL RX10 20 9 3 (.int) false true := ⟨RX10, TX10, 4, tyX10, "SlitDrum$Wheel", cl_X10, by decide, rfl, rfl, fun _ => rfl, m_268, Or.inl rfl⟩
theorem fl_X1_120_9 : FL RX1 120 9 3 (.int) false false := ⟨RX10, TX10, 4, tyX10, "SlitDrum$Wheel", cl_X10, by decide, rfl, rfl, (fun h => by cases h), m_269, Or.inl rfl⟩
theorem fl_X11_212_9 : FL RX11 212 9 3 (.int) false false := ⟨RX10, TX10, 4, tyX10, "SlitDrum$Wheel", cl_X10, by decide, rfl, rfl, (fun h => by cases h), m_270, Or.inl rfl⟩
theorem fl_X7_11_6 : FL RX7 11 6 0 (.array (.object "SlitDrum$Wheel")) true true := ⟨RX7, TX7, 8, tyX7, "SlitDrum$Scene", cl_X7, by decide, rfl, rfl, fun _ => rfl, m_280, Or.inl rfl⟩
theorem fl_X1_106_6 : FL RX1 106 6 0 (.array (.object "SlitDrum$Wheel")) true false := ⟨RX7, TX7, 8, tyX7, "SlitDrum$Scene", cl_X7, by decide, rfl, rfl, (fun h => by cases h), m_281, Or.inl rfl⟩
theorem fl_X11_153_6 : FL RX11 153 6 0 (.array (.object "SlitDrum$Wheel")) true false := ⟨RX7, TX7, 8, tyX7, "SlitDrum$Scene", cl_X7, by decide, rfl, rfl, (fun h => by cases h), m_282, Or.inl rfl⟩
theorem fl_X7_17_6 : FL RX7 17 6 1 (.int) false true := ⟨RX7, TX7, 8, tyX7, "SlitDrum$Scene", cl_X7, by decide, rfl, rfl, fun _ => rfl, m_283, Or.inl rfl⟩
theorem fl_X1_103_6 : FL RX1 103 6 1 (.int) false false := ⟨RX7, TX7, 8, tyX7, "SlitDrum$Scene", cl_X7, by decide, rfl, rfl, (fun h => by cases h), m_284, Or.inl rfl⟩
theorem fl_X11_150_6 : FL RX11 150 6 1 (.int) false false := ⟨RX7, TX7, 8, tyX7, "SlitDrum$Scene", cl_X7, by decide, rfl, rfl, (fun h => by cases h), m_285, Or.inl rfl⟩
theorem fl_X7_21_6 : FL RX7 21 6 2 (.int) false true := ⟨RX7, TX7, 8, tyX7, "SlitDrum$Scene", cl_X7, by decide, rfl, rfl, fun _ => rfl, m_286, Or.inl rfl⟩
theorem fl_X1_86_6 : FL RX1 86 6 2 (.int) false false := ⟨RX7, TX7, 8, tyX7, "SlitDrum$Scene", cl_X7, by decide, rfl, rfl, (fun h => by cases h), m_287, Or.inl rfl⟩
theorem fl_X11_186_6 : FL RX11 186 6 2 (.int) false false := ⟨RX7, TX7, 8, tyX7, "SlitDrum$Scene", cl_X7, by decide, rfl, rfl, (fun h => by cases h), m_288, Or.inl rfl⟩
theorem fl_X7_24_6 : FL RX7 24 6 3 (.int) false true := ⟨RX7, TX7, 8, tyX7, "SlitDrum$Scene", cl_X7, by decide, rfl, rfl, fun _ => rfl, m_289, Or.inl rfl⟩
theorem fl_X1_91_6 : FL RX1 91 6 3 (.int) false false := ⟨RX7, TX7, 8, tyX7, "SlitDrum$Scene", cl_X7, by decide, rfl, rfl, (fun h => by cases h), m_290, Or.inl rfl⟩
theorem fl_X11_189_6 : FL RX11 189 6 3 (.int) false false := ⟨RX7, TX7, 8, tyX7, "SlitDrum$Scene", cl_X7, by decide, rfl, rfl, (fun h => by cases h), m_291, Or.inl rfl⟩
theorem fl_X7_27_6 : FL RX7 27 6 4 (.int) false true := ⟨RX7, TX7, 8, tyX7, "SlitDrum$Scene", cl_X7, by decide, rfl, rfl, fun _ => rfl, m_292, Or.inl rfl⟩
theorem fl_X1_94_6 : FL RX1 94 6 4 (.int) false false := ⟨RX7, TX7, 8, tyX7, "SlitDrum$Scene", cl_X7, by decide, rfl, rfl, (fun h => by cases h), m_293, Or.inl rfl⟩
theorem fl_X11_192_6 : FL RX11 192 6 4 (.int) false false := ⟨RX7, TX7, 8, tyX7, "SlitDrum$Scene", cl_X7, by decide, rfl, rfl, (fun h => by cases h), m_294, Or.inl rfl⟩
theorem fl_X7_30_6 : FL RX7 30 6 5 (.int) false true := ⟨RX7, TX7, 8, tyX7, "SlitDrum$Scene", cl_X7, by decide, rfl, rfl, fun _ => rfl, m_295, Or.inl rfl⟩
theorem fl_X1_97_6 : FL RX1 97 6 5 (.int) false false := ⟨RX7, TX7, 8, tyX7, "SlitDrum$Scene", cl_X7, by decide, rfl, rfl, (fun h => by cases h), m_296, Or.inl rfl⟩
theorem fl_X11_230_6 : FL RX11 230 6 5 (.int) false false := ⟨RX7, TX7, 8, tyX7, "SlitDrum$Scene", cl_X7, by decide, rfl, rfl, (fun h => by cases h), m_297, Or.inl rfl⟩
theorem fl_X7_33_6 : FL RX7 33 6 6 (.array .int) true true := ⟨RX7, TX7, 8, tyX7, "SlitDrum$Scene", cl_X7, by decide, rfl, rfl, fun _ => rfl, m_298, Or.inl rfl⟩
theorem fl_X7_37_6 : FL RX7 37 6 7 (.int) false true := ⟨RX7, TX7, 8, tyX7, "SlitDrum$Scene", cl_X7, by decide, rfl, rfl, fun _ => rfl, m_299, Or.inl rfl⟩
theorem fl_X1_100_6 : FL RX1 100 6 7 (.int) false false := ⟨RX7, TX7, 8, tyX7, "SlitDrum$Scene", cl_X7, by decide, rfl, rfl, (fun h => by cases h), m_300, Or.inl rfl⟩
theorem fl_X5_11_5 : FL RX5 11 5 0 (.array (.object "SlitDrum$Scene")) true true := ⟨RX5, TX5, 3, tyX5, "SlitDrum$Past", cl_X5, by decide, rfl, rfl, fun _ => rfl, m_327, Or.inl rfl⟩
theorem fl_X5_17_5 : FL RX5 17 5 1 (.int) false true := ⟨RX5, TX5, 3, tyX5, "SlitDrum$Past", cl_X5, by decide, rfl, rfl, fun _ => rfl, m_328, Or.inl rfl⟩
theorem fl_X5_21_5 : FL RX5 21 5 2 (.int) false true := ⟨RX5, TX5, 3, tyX5, "SlitDrum$Past", cl_X5, by decide, rfl, rfl, fun _ => rfl, m_329, Or.inl rfl⟩
theorem fl_X11_420_5 : FL RX11 420 5 2 (.int) false false := ⟨RX5, TX5, 3, tyX5, "SlitDrum$Past", cl_X5, by decide, rfl, rfl, (fun h => by cases h), m_330, Or.inl rfl⟩
theorem fl_X4_9_4 : FL RX4 9 4 0 (.array .int) true true := ⟨RX4, TX4, 7, tyX4, "SlitDrum$Notes", cl_X4, by decide, rfl, rfl, fun _ => rfl, m_344, Or.inl rfl⟩
theorem fl_X4_15_4 : FL RX4 15 4 1 (.array .int) true true := ⟨RX4, TX4, 7, tyX4, "SlitDrum$Notes", cl_X4, by decide, rfl, rfl, fun _ => rfl, m_345, Or.inl rfl⟩
theorem fl_X4_18_4 : FL RX4 18 4 2 (.array .boolean) true true := ⟨RX4, TX4, 7, tyX4, "SlitDrum$Notes", cl_X4, by decide, rfl, rfl, fun _ => rfl, m_346, Or.inl rfl⟩
theorem fl_X4_22_4 : FL RX4 22 4 3 (.int) false true := ⟨RX4, TX4, 7, tyX4, "SlitDrum$Notes", cl_X4, by decide, rfl, rfl, fun _ => rfl, m_347, Or.inl rfl⟩
theorem fl_X11_418_4 : FL RX11 418 4 3 (.int) false false := ⟨RX4, TX4, 7, tyX4, "SlitDrum$Notes", cl_X4, by decide, rfl, rfl, (fun h => by cases h), m_348, Or.inl rfl⟩
theorem fl_X4_26_4 : FL RX4 26 4 4 (.array .int) true true := ⟨RX4, TX4, 7, tyX4, "SlitDrum$Notes", cl_X4, by decide, rfl, rfl, fun _ => rfl, m_349, Or.inl rfl⟩
theorem fl_X4_29_4 : FL RX4 29 4 5 (.int) false true := ⟨RX4, TX4, 7, tyX4, "SlitDrum$Notes", cl_X4, by decide, rfl, rfl, fun _ => rfl, m_350, Or.inl rfl⟩
theorem fl_X11_348_4 : FL RX11 348 4 5 (.int) false false := ⟨RX4, TX4, 7, tyX4, "SlitDrum$Notes", cl_X4, by decide, rfl, rfl, (fun h => by cases h), m_351, Or.inl rfl⟩
theorem fl_X4_32_4 : FL RX4 32 4 6 (.array .int) true true := ⟨RX4, TX4, 7, tyX4, "SlitDrum$Notes", cl_X4, by decide, rfl, rfl, fun _ => rfl, m_352, Or.inl rfl⟩
theorem fl_X0_9_0 : FL RX0 9 0 0 (.int) false true := ⟨RX0, TX0, 10, tyX0, "SlitDrum$Course", cl_X0, by decide, rfl, rfl, fun _ => rfl, m_378, Or.inl rfl⟩
theorem fl_X0_15_0 : FL RX0 15 0 1 (.int) false true := ⟨RX0, TX0, 10, tyX0, "SlitDrum$Course", cl_X0, by decide, rfl, rfl, fun _ => rfl, m_379, Or.inl rfl⟩
theorem fl_X0_23_0 : FL RX0 23 0 2 (.object "SlitDrum$Strip") false true := ⟨RX0, TX0, 10, tyX0, "SlitDrum$Course", cl_X0, by decide, rfl, rfl, fun _ => rfl, m_380, Or.inl rfl⟩
theorem fl_X0_27_0 : FL RX0 27 0 3 (.object "SlitDrum$Law") false true := ⟨RX0, TX0, 10, tyX0, "SlitDrum$Course", cl_X0, by decide, rfl, rfl, fun _ => rfl, m_381, Or.inl rfl⟩
theorem fl_X0_31_0 : FL RX0 31 0 4 (.int) false true := ⟨RX0, TX0, 10, tyX0, "SlitDrum$Course", cl_X0, by decide, rfl, rfl, fun _ => rfl, m_382, Or.inl rfl⟩
theorem fl_X0_34_0 : FL RX0 34 0 5 (.array .int) true true := ⟨RX0, TX0, 10, tyX0, "SlitDrum$Course", cl_X0, by decide, rfl, rfl, fun _ => rfl, m_383, Or.inl rfl⟩
theorem fl_X0_38_0 : FL RX0 38 0 6 (.array .int) true true := ⟨RX0, TX0, 10, tyX0, "SlitDrum$Course", cl_X0, by decide, rfl, rfl, fun _ => rfl, m_384, Or.inl rfl⟩
theorem fl_X0_41_0 : FL RX0 41 0 7 (.array .int) true true := ⟨RX0, TX0, 10, tyX0, "SlitDrum$Course", cl_X0, by decide, rfl, rfl, fun _ => rfl, m_385, Or.inl rfl⟩
theorem fl_X0_44_0 : FL RX0 44 0 8 (.int) false true := ⟨RX0, TX0, 10, tyX0, "SlitDrum$Course", cl_X0, by decide, rfl, rfl, fun _ => rfl, m_386, Or.inl rfl⟩
theorem fl_X0_47_0 : FL RX0 47 0 9 (.int) false true := ⟨RX0, TX0, 10, tyX0, "SlitDrum$Course", cl_X0, by decide, rfl, rfl, fun _ => rfl, m_387, Or.inl rfl⟩
theorem fl_X11_9_10 : FL RX11 9 10 0 (.array .int) true true := ⟨RX11, TX11, 20, tyX11, "SlitDrum", cl_X11, by decide, rfl, rfl, fun _ => rfl, m_409, Or.inl rfl⟩
theorem fl_X11_13_10 : FL RX11 13 10 1 (.int) false true := ⟨RX11, TX11, 20, tyX11, "SlitDrum", cl_X11, by decide, rfl, rfl, fun _ => rfl, m_410, Or.inl rfl⟩
theorem fl_X11_20_10 : FL RX11 20 10 2 (.object "SlitDrum$LanternReader") true true := ⟨RX11, TX11, 20, tyX11, "SlitDrum", cl_X11, by decide, rfl, rfl, fun _ => rfl, m_411, Or.inl rfl⟩
theorem fl_X11_27_10 : FL RX11 27 10 3 (.object "SlitDrum$LawReader") true true := ⟨RX11, TX11, 20, tyX11, "SlitDrum", cl_X11, by decide, rfl, rfl, fun _ => rfl, m_412, Or.inl rfl⟩
theorem fl_X11_34_10 : FL RX11 34 10 4 (.object "SlitDrum$StripReader") true true := ⟨RX11, TX11, 20, tyX11, "SlitDrum", cl_X11, by decide, rfl, rfl, fun _ => rfl, m_413, Or.inl rfl⟩
theorem fl_X11_40_10 : FL RX11 40 10 5 (.array (.object "SlitDrum$Law")) true true := ⟨RX11, TX11, 20, tyX11, "SlitDrum", cl_X11, by decide, rfl, rfl, fun _ => rfl, m_414, Or.inl rfl⟩
theorem fl_X11_44_10 : FL RX11 44 10 6 (.int) false true := ⟨RX11, TX11, 20, tyX11, "SlitDrum", cl_X11, by decide, rfl, rfl, fun _ => rfl, m_415, Or.inl rfl⟩
theorem fl_X11_47_10 : FL RX11 47 10 7 (.int) false true := ⟨RX11, TX11, 20, tyX11, "SlitDrum", cl_X11, by decide, rfl, rfl, fun _ => rfl, m_416, Or.inl rfl⟩
theorem fl_X11_52_10 : FL RX11 52 10 8 (.array (.object "SlitDrum$Strip")) true true := ⟨RX11, TX11, 20, tyX11, "SlitDrum", cl_X11, by decide, rfl, rfl, fun _ => rfl, m_417, Or.inl rfl⟩
theorem fl_X11_56_10 : FL RX11 56 10 9 (.int) false true := ⟨RX11, TX11, 20, tyX11, "SlitDrum", cl_X11, by decide, rfl, rfl, fun _ => rfl, m_418, Or.inl rfl⟩
theorem fl_X11_62_10 : FL RX11 62 10 10 (.object "SlitDrum$Strip") true true := ⟨RX11, TX11, 20, tyX11, "SlitDrum", cl_X11, by decide, rfl, rfl, fun _ => rfl, m_419, Or.inl rfl⟩
theorem fl_X11_66_10 : FL RX11 66 10 11 (.int) false true := ⟨RX11, TX11, 20, tyX11, "SlitDrum", cl_X11, by decide, rfl, rfl, fun _ => rfl, m_420, Or.inl rfl⟩
theorem fl_X11_69_10 : FL RX11 69 10 12 (.array .int) true true := ⟨RX11, TX11, 20, tyX11, "SlitDrum", cl_X11, by decide, rfl, rfl, fun _ => rfl, m_421, Or.inl rfl⟩
theorem fl_X11_75_10 : FL RX11 75 10 13 (.object "SlitDrum$Scene") true true := ⟨RX11, TX11, 20, tyX11, "SlitDrum", cl_X11, by decide, rfl, rfl, fun _ => rfl, m_422, Or.inl rfl⟩
theorem fl_X11_82_10 : FL RX11 82 10 14 (.object "SlitDrum$Past") true true := ⟨RX11, TX11, 20, tyX11, "SlitDrum", cl_X11, by decide, rfl, rfl, fun _ => rfl, m_423, Or.inl rfl⟩
theorem fl_X11_86_10 : FL RX11 86 10 15 (.object "SlitDrum$Scene") true true := ⟨RX11, TX11, 20, tyX11, "SlitDrum", cl_X11, by decide, rfl, rfl, fun _ => rfl, m_424, Or.inl rfl⟩
theorem fl_X11_89_10 : FL RX11 89 10 16 (.boolean) false true := ⟨RX11, TX11, 20, tyX11, "SlitDrum", cl_X11, by decide, rfl, rfl, fun _ => rfl, m_425, Or.inl rfl⟩
theorem fl_X11_96_10 : FL RX11 96 10 17 (.object "SlitDrum$Notes") true true := ⟨RX11, TX11, 20, tyX11, "SlitDrum", cl_X11, by decide, rfl, rfl, fun _ => rfl, m_426, Or.inl rfl⟩
theorem fl_X11_102_10 : FL RX11 102 10 18 (.array (.object "SlitDrum$Course")) true true := ⟨RX11, TX11, 20, tyX11, "SlitDrum", cl_X11, by decide, rfl, rfl, fun _ => rfl, m_427, Or.inl rfl⟩
theorem fl_X11_106_10 : FL RX11 106 10 19 (.long) false true := ⟨RX11, TX11, 20, tyX11, "SlitDrum", cl_X11, by decide, rfl, rfl, fun _ => rfl, m_428, Or.inl rfl⟩
theorem fl_X2_17_2 : FL RX2 17 2 0 (.array .int) true true := ⟨RX2, TX2, 3, tyX2, "SlitDrum$Law", cl_X2, by decide, rfl, rfl, fun _ => rfl, m_795, Or.inl rfl⟩
theorem fl_X2_7_2 : FL RX2 7 2 1 (.array .int) true true := ⟨RX2, TX2, 3, tyX2, "SlitDrum$Law", cl_X2, by decide, rfl, rfl, fun _ => rfl, m_796, Or.inl rfl⟩
theorem fl_X2_13_2 : FL RX2 13 2 2 (.int) false true := ⟨RX2, TX2, 3, tyX2, "SlitDrum$Law", cl_X2, by decide, rfl, rfl, fun _ => rfl, m_797, Or.inl rfl⟩
theorem fl_X12_93_11 : FL RX12 93 11 0 (.int) false true := ⟨RX12, TX12, 41, tyX12, "SlitDrumModel", cl_X12, by decide, rfl, rfl, fun _ => rfl, m_1369, Or.inl rfl⟩
theorem fl_X12_9_11 : FL RX12 9 11 1 (.array .int) true true := ⟨RX12, TX12, 41, tyX12, "SlitDrumModel", cl_X12, by decide, rfl, rfl, fun _ => rfl, m_1370, Or.inl rfl⟩
theorem fl_X12_100_11 : FL RX12 100 11 2 (.int) false true := ⟨RX12, TX12, 41, tyX12, "SlitDrumModel", cl_X12, by decide, rfl, rfl, fun _ => rfl, m_1371, Or.inl rfl⟩
theorem fl_X12_103_11 : FL RX12 103 11 3 (.int) false true := ⟨RX12, TX12, 41, tyX12, "SlitDrumModel", cl_X12, by decide, rfl, rfl, fun _ => rfl, m_1372, Or.inl rfl⟩
theorem fl_X12_110_11 : FL RX12 110 11 4 (.int) false true := ⟨RX12, TX12, 41, tyX12, "SlitDrumModel", cl_X12, by decide, rfl, rfl, fun _ => rfl, m_1373, Or.inl rfl⟩
theorem fl_X12_116_11 : FL RX12 116 11 5 (.int) false true := ⟨RX12, TX12, 41, tyX12, "SlitDrumModel", cl_X12, by decide, rfl, rfl, fun _ => rfl, m_1374, Or.inl rfl⟩
theorem fl_X12_13_11 : FL RX12 13 11 6 (.array .int) true true := ⟨RX12, TX12, 41, tyX12, "SlitDrumModel", cl_X12, by decide, rfl, rfl, fun _ => rfl, m_1375, Or.inl rfl⟩
theorem fl_X12_16_11 : FL RX12 16 11 7 (.array .int) true true := ⟨RX12, TX12, 41, tyX12, "SlitDrumModel", cl_X12, by decide, rfl, rfl, fun _ => rfl, m_1376, Or.inl rfl⟩
theorem fl_X12_19_11 : FL RX12 19 11 8 (.array .int) true true := ⟨RX12, TX12, 41, tyX12, "SlitDrumModel", cl_X12, by decide, rfl, rfl, fun _ => rfl, m_1377, Or.inl rfl⟩
theorem fl_X12_22_11 : FL RX12 22 11 9 (.array .int) true true := ⟨RX12, TX12, 41, tyX12, "SlitDrumModel", cl_X12, by decide, rfl, rfl, fun _ => rfl, m_1378, Or.inl rfl⟩
theorem fl_X12_25_11 : FL RX12 25 11 10 (.array .int) true true := ⟨RX12, TX12, 41, tyX12, "SlitDrumModel", cl_X12, by decide, rfl, rfl, fun _ => rfl, m_1379, Or.inl rfl⟩
theorem fl_X12_28_11 : FL RX12 28 11 11 (.array .int) true true := ⟨RX12, TX12, 41, tyX12, "SlitDrumModel", cl_X12, by decide, rfl, rfl, fun _ => rfl, m_1380, Or.inl rfl⟩
theorem fl_X12_31_11 : FL RX12 31 11 12 (.array .int) true true := ⟨RX12, TX12, 41, tyX12, "SlitDrumModel", cl_X12, by decide, rfl, rfl, fun _ => rfl, m_1381, Or.inl rfl⟩
theorem fl_X12_282_11 : FL RX12 282 11 13 (.int) false true := ⟨RX12, TX12, 41, tyX12, "SlitDrumModel", cl_X12, by decide, rfl, rfl, fun _ => rfl, m_1382, Or.inl rfl⟩
theorem fl_X12_113_11 : FL RX12 113 11 14 (.int) false true := ⟨RX12, TX12, 41, tyX12, "SlitDrumModel", cl_X12, by decide, rfl, rfl, fun _ => rfl, m_1383, Or.inl rfl⟩
theorem fl_X12_34_11 : FL RX12 34 11 15 (.array .int) true true := ⟨RX12, TX12, 41, tyX12, "SlitDrumModel", cl_X12, by decide, rfl, rfl, fun _ => rfl, m_1384, Or.inl rfl⟩
theorem fl_X12_37_11 : FL RX12 37 11 16 (.array .int) true true := ⟨RX12, TX12, 41, tyX12, "SlitDrumModel", cl_X12, by decide, rfl, rfl, fun _ => rfl, m_1385, Or.inl rfl⟩
theorem fl_X12_40_11 : FL RX12 40 11 17 (.array .int) true true := ⟨RX12, TX12, 41, tyX12, "SlitDrumModel", cl_X12, by decide, rfl, rfl, fun _ => rfl, m_1386, Or.inl rfl⟩
theorem fl_X12_43_11 : FL RX12 43 11 18 (.array .int) true true := ⟨RX12, TX12, 41, tyX12, "SlitDrumModel", cl_X12, by decide, rfl, rfl, fun _ => rfl, m_1387, Or.inl rfl⟩
theorem fl_X12_229_11 : FL RX12 229 11 19 (.int) false true := ⟨RX12, TX12, 41, tyX12, "SlitDrumModel", cl_X12, by decide, rfl, rfl, fun _ => rfl, m_1388, Or.inl rfl⟩
theorem fl_X12_263_11 : FL RX12 263 11 20 (.int) false true := ⟨RX12, TX12, 41, tyX12, "SlitDrumModel", cl_X12, by decide, rfl, rfl, fun _ => rfl, m_1389, Or.inl rfl⟩
theorem fl_X12_46_11 : FL RX12 46 11 21 (.array .int) true true := ⟨RX12, TX12, 41, tyX12, "SlitDrumModel", cl_X12, by decide, rfl, rfl, fun _ => rfl, m_1390, Or.inl rfl⟩
theorem fl_X12_49_11 : FL RX12 49 11 22 (.array .int) true true := ⟨RX12, TX12, 41, tyX12, "SlitDrumModel", cl_X12, by decide, rfl, rfl, fun _ => rfl, m_1391, Or.inl rfl⟩
theorem fl_X12_251_11 : FL RX12 251 11 23 (.int) false true := ⟨RX12, TX12, 41, tyX12, "SlitDrumModel", cl_X12, by decide, rfl, rfl, fun _ => rfl, m_1392, Or.inl rfl⟩
theorem fl_X12_52_11 : FL RX12 52 11 24 (.array .int) true true := ⟨RX12, TX12, 41, tyX12, "SlitDrumModel", cl_X12, by decide, rfl, rfl, fun _ => rfl, m_1393, Or.inl rfl⟩
theorem fl_X12_55_11 : FL RX12 55 11 25 (.array .int) true true := ⟨RX12, TX12, 41, tyX12, "SlitDrumModel", cl_X12, by decide, rfl, rfl, fun _ => rfl, m_1394, Or.inl rfl⟩
theorem fl_X12_58_11 : FL RX12 58 11 26 (.int) false true := ⟨RX12, TX12, 41, tyX12, "SlitDrumModel", cl_X12, by decide, rfl, rfl, fun _ => rfl, m_1395, Or.inl rfl⟩
theorem fl_X12_62_11 : FL RX12 62 11 27 (.int) false true := ⟨RX12, TX12, 41, tyX12, "SlitDrumModel", cl_X12, by decide, rfl, rfl, fun _ => rfl, m_1396, Or.inl rfl⟩
theorem fl_X12_65_11 : FL RX12 65 11 28 (.array .int) true true := ⟨RX12, TX12, 41, tyX12, "SlitDrumModel", cl_X12, by decide, rfl, rfl, fun _ => rfl, m_1397, Or.inl rfl⟩
theorem fl_X12_272_11 : FL RX12 272 11 29 (.int) false true := ⟨RX12, TX12, 41, tyX12, "SlitDrumModel", cl_X12, by decide, rfl, rfl, fun _ => rfl, m_1398, Or.inl rfl⟩
theorem fl_X12_328_11 : FL RX12 328 11 30 (.long) false true := ⟨RX12, TX12, 41, tyX12, "SlitDrumModel", cl_X12, by decide, rfl, rfl, fun _ => rfl, m_1399, Or.inl rfl⟩
theorem fl_X12_68_11 : FL RX12 68 11 31 (.array .int) true true := ⟨RX12, TX12, 41, tyX12, "SlitDrumModel", cl_X12, by decide, rfl, rfl, fun _ => rfl, m_1400, Or.inl rfl⟩
theorem fl_X12_71_11 : FL RX12 71 11 32 (.array .int) true true := ⟨RX12, TX12, 41, tyX12, "SlitDrumModel", cl_X12, by decide, rfl, rfl, fun _ => rfl, m_1401, Or.inl rfl⟩
theorem fl_X12_74_11 : FL RX12 74 11 33 (.array .int) true true := ⟨RX12, TX12, 41, tyX12, "SlitDrumModel", cl_X12, by decide, rfl, rfl, fun _ => rfl, m_1402, Or.inl rfl⟩
theorem fl_X12_77_11 : FL RX12 77 11 34 (.array .int) true true := ⟨RX12, TX12, 41, tyX12, "SlitDrumModel", cl_X12, by decide, rfl, rfl, fun _ => rfl, m_1403, Or.inl rfl⟩
theorem fl_X12_80_11 : FL RX12 80 11 35 (.array .int) true true := ⟨RX12, TX12, 41, tyX12, "SlitDrumModel", cl_X12, by decide, rfl, rfl, fun _ => rfl, m_1404, Or.inl rfl⟩
theorem fl_X12_83_11 : FL RX12 83 11 36 (.array .boolean) true true := ⟨RX12, TX12, 41, tyX12, "SlitDrumModel", cl_X12, by decide, rfl, rfl, fun _ => rfl, m_1405, Or.inl rfl⟩
theorem fl_X12_269_11 : FL RX12 269 11 37 (.int) false true := ⟨RX12, TX12, 41, tyX12, "SlitDrumModel", cl_X12, by decide, rfl, rfl, fun _ => rfl, m_1406, Or.inl rfl⟩
theorem fl_X12_87_11 : FL RX12 87 11 38 (.array .int) true true := ⟨RX12, TX12, 41, tyX12, "SlitDrumModel", cl_X12, by decide, rfl, rfl, fun _ => rfl, m_1407, Or.inl rfl⟩
theorem fl_X12_90_11 : FL RX12 90 11 39 (.array .int) true true := ⟨RX12, TX12, 41, tyX12, "SlitDrumModel", cl_X12, by decide, rfl, rfl, fun _ => rfl, m_1408, Or.inl rfl⟩
theorem fl_X12_275_11 : FL RX12 275 11 40 (.boolean) false true := ⟨RX12, TX12, 41, tyX12, "SlitDrumModel", cl_X12, by decide, rfl, rfl, fun _ => rfl, m_1409, Or.inl rfl⟩
theorem ml_X11_init : ML yX11_init cX11_init 2 none 0 := ⟨m_157, m_127, by decide +kernel, by decide +kernel, by decide +kernel⟩
theorem im_X11_init : Cond.instanceMethod yX11_init ∈ wt_ := m_156
theorem ml_X1_init : ML yX1_init cX1_init 1 none 0 := ⟨m_165, m_129, by decide +kernel, by decide +kernel, by decide +kernel⟩
theorem im_X1_init : Cond.instanceMethod yX1_init ∈ wt_ := m_164
theorem ml_X6_init : ML yX6_init cX6_init 1 none 0 := ⟨m_168, m_128, by decide +kernel, by decide +kernel, by decide +kernel⟩
theorem im_X6_init : Cond.instanceMethod yX6_init ∈ wt_ := m_167
theorem ml_X3_init : ML yX3_init cX3_init 1 none 0 := ⟨m_204, m_130, by decide +kernel, by decide +kernel, by decide +kernel⟩
theorem im_X3_init : Cond.instanceMethod yX3_init ∈ wt_ := m_203
theorem ml_X9_init : ML yX9_init cX9_init 1 none 0 := ⟨m_220, m_131, by decide +kernel, by decide +kernel, by decide +kernel⟩
theorem im_X9_init : Cond.instanceMethod yX9_init ∈ wt_ := m_219
theorem ml_X8_init : ML yX8_init cX8_init 2 none 1 := ⟨m_239, m_132, by decide +kernel, by decide +kernel, by decide +kernel⟩
theorem im_X8_init : Cond.instanceMethod yX8_init ∈ wt_ := m_238
theorem ml_X7_init : ML yX7_init cX7_init 2 none 0 := ⟨m_249, m_133, by decide +kernel, by decide +kernel, by decide +kernel⟩
theorem im_X7_init : Cond.instanceMethod yX7_init ∈ wt_ := m_248
theorem ml_X10_init : ML yX10_init cX10_init 1 none 0 := ⟨m_256, m_134, by decide +kernel, by decide +kernel, by decide +kernel⟩
theorem im_X10_init : Cond.instanceMethod yX10_init ∈ wt_ := m_255
theorem ml_X5_init : ML yX5_init cX5_init 2 none 0 := ⟨m_322, m_135, by decide +kernel, by decide +kernel, by decide +kernel⟩
theorem im_X5_init : Cond.instanceMethod yX5_init ∈ wt_ := m_321
theorem ml_X4_init : ML yX4_init cX4_init 1 none 0 := ⟨m_342, m_136, by decide +kernel, by decide +kernel, by decide +kernel⟩
theorem im_X4_init : Cond.instanceMethod yX4_init ∈ wt_ := m_341
theorem ml_X0_init : ML yX0_init cX0_init 1 none 0 := ⟨m_374, m_137, by decide +kernel, by decide +kernel, by decide +kernel⟩
theorem im_X0_init : Cond.instanceMethod yX0_init ∈ wt_ := m_373
theorem ml_X11_feed : ML yX11_feed cX11_feed 7 (some .int) 5 := ⟨m_473, m_127, by decide +kernel, by decide +kernel, by decide +kernel⟩
theorem im_X11_feed : Cond.instanceMethod yX11_feed ∈ wt_ := m_471
theorem se_X11_feed : Cond.selects yX11_feed.cls yX11_feed yX11_feed ∈ wt_ := m_472
theorem ml_X11_bytesIn : ML yX11_bytesIn cX11_bytesIn 3 (some .int) 1 := ⟨m_476, m_127, by decide +kernel, by decide +kernel, by decide +kernel⟩
theorem sm_X11_bytesIn : Cond.static yX11_bytesIn ∈ wt_ := m_475
theorem ml_X11_record : ML yX11_record cX11_record 4 none 1 := ⟨m_480, m_127, by decide +kernel, by decide +kernel, by decide +kernel⟩
theorem im_X11_record : Cond.instanceMethod yX11_record ∈ wt_ := m_479
theorem se_X11_record : Cond.selects yX11_record.cls yX11_record yX11_record ∈ wt_ := m_0
theorem ml_X11_end : ML yX11_end cX11_end 2 (some .boolean) 1 := ⟨m_484, m_127, by decide +kernel, by decide +kernel, by decide +kernel⟩
theorem im_X11_end : Cond.instanceMethod yX11_end ∈ wt_ := m_482
theorem se_X11_end : Cond.selects yX11_end.cls yX11_end yX11_end ∈ wt_ := m_483
theorem ml_X11_fault : ML yX11_fault cX11_fault 3 (some .int) 1 := ⟨m_488, m_127, by decide +kernel, by decide +kernel, by decide +kernel⟩
theorem im_X11_fault : Cond.instanceMethod yX11_fault ∈ wt_ := m_486
theorem se_X11_fault : Cond.selects yX11_fault.cls yX11_fault yX11_fault ∈ wt_ := m_487
theorem ml_X11_readerOf : ML yX11_readerOf cX11_readerOf 3 (some (.object "SlitDrum$Reader")) 1 := ⟨m_492, m_127, by decide +kernel, by decide +kernel, by decide +kernel⟩
theorem im_X11_readerOf : Cond.instanceMethod yX11_readerOf ∈ wt_ := m_491
theorem se_X11_readerOf : Cond.selects yX11_readerOf.cls yX11_readerOf yX11_readerOf ∈ wt_ := m_1
theorem ml_X6_start : ML yX6_start cX6_start 3 none 2 := ⟨m_499, m_128, by decide +kernel, by decide +kernel, by decide +kernel⟩
theorem im_X6_start : Cond.instanceMethod yX6_start ∈ wt_ := m_494
theorem ml_J9_min_7cf53 : ML yJ9_min_7cf53 cJ9_min_7cf53 2 (some .int) 2 := ⟨m_502, m_139, by decide +kernel, by decide +kernel, by decide +kernel⟩
theorem sm_J9_min_7cf53 : Cond.static yJ9_min_7cf53 ∈ wt_ := m_501
theorem ml_X1_isWhole : ML yX1_isWhole cX1_isWhole 2 (some .boolean) 0 := ⟨m_508, m_129, by decide +kernel, by decide +kernel, by decide +kernel⟩
theorem im_X1_isWhole : Cond.instanceMethod yX1_isWhole ∈ wt_ := m_507
theorem ml_X1_isClause : ML yX1_isClause cX1_isClause 2 (some .boolean) 0 := ⟨m_517, m_129, by decide +kernel, by decide +kernel, by decide +kernel⟩
theorem im_X1_isClause : Cond.instanceMethod yX1_isClause ∈ wt_ := m_516
theorem se_X1_isClause : Cond.selects yX1_isClause.cls yX1_isClause yX1_isClause ∈ wt_ := m_2
theorem ml_X6_takes : ML yX6_takes cX6_takes 3 (some .boolean) 1 := ⟨m_523, m_128, by decide +kernel, by decide +kernel, by decide +kernel⟩
theorem im_X6_takes : Cond.instanceMethod yX6_takes ∈ wt_ := m_522
theorem ml_X6_nextSign : ML yX6_nextSign cX6_nextSign 1 (some .int) 0 := ⟨m_530, m_128, by decide +kernel, by decide +kernel, by decide +kernel⟩
theorem im_X6_nextSign : Cond.instanceMethod yX6_nextSign ∈ wt_ := m_525
theorem ml_X1_areItems : ML yX1_areItems cX1_areItems 10 (some .boolean) 5 := ⟨m_539, m_129, by decide +kernel, by decide +kernel, by decide +kernel⟩
theorem im_X1_areItems : Cond.instanceMethod yX1_areItems ∈ wt_ := m_538
theorem se_X1_areItems : Cond.selects yX1_areItems.cls yX1_areItems yX1_areItems ∈ wt_ := m_3
theorem ml_J0_length_8abf5 : ML yJ0_length_8abf5 cJ0_length_8abf5 1 (some .int) 0 := ⟨m_543, m_141, by decide +kernel, by decide +kernel, by decide +kernel⟩
theorem im_J0_length_8abf5 : Cond.instanceMethod yJ0_length_8abf5 ∈ wt_ := m_541
theorem se_J0_length_8abf5 : Cond.selects yJ0_length_8abf5.cls yJ0_length_8abf5 yJ0_length_8abf5 ∈ wt_ := m_542
theorem ml_J0_coder_7d493 : ML yJ0_coder_7d493 cJ0_coder_7d493 1 (some .byte) 0 := ⟨m_547, m_141, by decide +kernel, by decide +kernel, by decide +kernel⟩
theorem im_J0_coder_7d493 : Cond.instanceMethod yJ0_coder_7d493 ∈ wt_ := m_545
theorem se_J0_coder_7d493 : Cond.selects yJ0_coder_7d493.cls yJ0_coder_7d493 yJ0_coder_7d493 ∈ wt_ := m_546
theorem ml_X6_letterOf : ML yX6_letterOf cX6_letterOf 2 (some .int) 2 := ⟨m_557, m_128, by decide +kernel, by decide +kernel, by decide +kernel⟩
theorem sm_X6_letterOf : Cond.static yX6_letterOf ∈ wt_ := m_556
theorem ml_J0_indexOf_0f7a4 : ML yJ0_indexOf_0f7a4 cJ0_indexOf_0f7a4 2 (some .int) 1 := ⟨m_561, m_141, by decide +kernel, by decide +kernel, by decide +kernel⟩
theorem im_J0_indexOf_0f7a4 : Cond.instanceMethod yJ0_indexOf_0f7a4 ∈ wt_ := m_559
theorem se_J0_indexOf_0f7a4 : Cond.selects yJ0_indexOf_0f7a4.cls yJ0_indexOf_0f7a4 yJ0_indexOf_0f7a4 ∈ wt_ := m_560
theorem ml_J0_indexOf_7cf53 : ML yJ0_indexOf_7cf53 cJ0_indexOf_7cf53 3 (some .int) 2 := ⟨m_565, m_141, by decide +kernel, by decide +kernel, by decide +kernel⟩
theorem im_J0_indexOf_7cf53 : Cond.instanceMethod yJ0_indexOf_7cf53 ∈ wt_ := m_563
theorem se_J0_indexOf_7cf53 : Cond.selects yJ0_indexOf_7cf53.cls yJ0_indexOf_7cf53 yJ0_indexOf_7cf53 ∈ wt_ := m_564
theorem ml_J0_isLatin1_aae02 : ML yJ0_isLatin1_aae02 cJ0_isLatin1_aae02 1 (some .boolean) 0 := ⟨m_569, m_141, by decide +kernel, by decide +kernel, by decide +kernel⟩
theorem im_J0_isLatin1_aae02 : Cond.instanceMethod yJ0_isLatin1_aae02 ∈ wt_ := m_567
theorem se_J0_isLatin1_aae02 : Cond.selects yJ0_isLatin1_aae02.cls yJ0_isLatin1_aae02 yJ0_isLatin1_aae02 ∈ wt_ := m_568
theorem ml_J1_indexOf_4cfef : ML yJ1_indexOf_4cfef cJ1_indexOf_4cfef 4 (some .int) 4 := ⟨m_573, m_142, by decide +kernel, by decide +kernel, by decide +kernel⟩
theorem sm_J1_indexOf_4cfef : Cond.static yJ1_indexOf_4cfef ∈ wt_ := m_572
theorem ml_J1_canEncode_9a6ad : ML yJ1_canEncode_9a6ad cJ1_canEncode_9a6ad 1 (some .boolean) 1 := ⟨m_576, m_142, by decide +kernel, by decide +kernel, by decide +kernel⟩
theorem sm_J1_canEncode_9a6ad : Cond.static yJ1_canEncode_9a6ad ∈ wt_ := m_575
theorem ml_J9_max_7cf53 : ML yJ9_max_7cf53 cJ9_max_7cf53 2 (some .int) 2 := ⟨m_579, m_139, by decide +kernel, by decide +kernel, by decide +kernel⟩
theorem sm_J9_max_7cf53 : Cond.static yJ9_max_7cf53 ∈ wt_ := m_578
theorem ml_J1_indexOfChar_4cfef : ML yJ1_indexOfChar_4cfef cJ1_indexOfChar_4cfef 6 (some .int) 4 := ⟨m_583, m_142, by decide +kernel, by decide +kernel, by decide +kernel⟩
theorem sm_J1_indexOfChar_4cfef : Cond.static yJ1_indexOfChar_4cfef ∈ wt_ := m_582
theorem ml_J2_indexOf_4cfef : ML yJ2_indexOf_4cfef cJ2_indexOf_4cfef 4 (some .int) 4 := ⟨m_586, m_143, by decide +kernel, by decide +kernel, by decide +kernel⟩
theorem sm_J2_indexOf_4cfef : Cond.static yJ2_indexOf_4cfef ∈ wt_ := m_585
theorem ml_J2_indexOfChar_4cfef : ML yJ2_indexOfChar_4cfef cJ2_indexOfChar_4cfef 4 (some .int) 4 := ⟨m_592, m_143, by decide +kernel, by decide +kernel, by decide +kernel⟩
theorem sm_J2_indexOfChar_4cfef : Cond.static yJ2_indexOfChar_4cfef ∈ wt_ := m_591
theorem ml_J2_checkBoundsBeginEnd_d044e : ML yJ2_checkBoundsBeginEnd_d044e cJ2_checkBoundsBeginEnd_d044e 3 none 3 := ⟨m_595, m_143, by decide +kernel, by decide +kernel, by decide +kernel⟩
theorem sm_J2_checkBoundsBeginEnd_d044e : Cond.static yJ2_checkBoundsBeginEnd_d044e ∈ wt_ := m_594
theorem ml_J2_length_9d52b : ML yJ2_length_9d52b cJ2_length_9d52b 1 (some .int) 1 := ⟨m_598, m_143, by decide +kernel, by decide +kernel, by decide +kernel⟩
theorem sm_J2_length_9d52b : Cond.static yJ2_length_9d52b ∈ wt_ := m_597
theorem ml_J0_checkBoundsBeginEnd_23922 : ML yJ0_checkBoundsBeginEnd_23922 cJ0_checkBoundsBeginEnd_23922 3 none 3 := ⟨m_601, m_141, by decide +kernel, by decide +kernel, by decide +kernel⟩
theorem sm_J0_checkBoundsBeginEnd_23922 : Cond.static yJ0_checkBoundsBeginEnd_23922 ∈ wt_ := m_600
theorem ml_J3_checkFromToIndex_8c36e : ML yJ3_checkFromToIndex_8c36e cJ3_checkFromToIndex_8c36e 4 (some .int) 4 := ⟨m_606, m_144, by decide +kernel, by decide +kernel, by decide +kernel⟩
theorem sm_J3_checkFromToIndex_8c36e : Cond.static yJ3_checkFromToIndex_8c36e ∈ wt_ := m_605
theorem ml_J2_indexOfCharUnsafe_4cfef : ML yJ2_indexOfCharUnsafe_4cfef cJ2_indexOfCharUnsafe_4cfef 5 (some .int) 4 := ⟨m_609, m_143, by decide +kernel, by decide +kernel, by decide +kernel⟩
theorem sm_J2_indexOfCharUnsafe_4cfef : Cond.static yJ2_indexOfCharUnsafe_4cfef ∈ wt_ := m_608
theorem ml_J2_getChar_3b067 : ML yJ2_getChar_3b067 cJ2_getChar_3b067 2 (some .char) 2 := ⟨m_612, m_143, by decide +kernel, by decide +kernel, by decide +kernel⟩
theorem sm_J2_getChar_3b067 : Cond.static yJ2_getChar_3b067 ∈ wt_ := m_611
theorem ml_J2_indexOfSupplementary_4cfef : ML yJ2_indexOfSupplementary_4cfef cJ2_indexOfSupplementary_4cfef 7 (some .int) 4 := ⟨m_621, m_143, by decide +kernel, by decide +kernel, by decide +kernel⟩
theorem sm_J2_indexOfSupplementary_4cfef : Cond.static yJ2_indexOfSupplementary_4cfef ∈ wt_ := m_620
theorem ml_J11_isValidCodePoint_9a6ad : ML yJ11_isValidCodePoint_9a6ad cJ11_isValidCodePoint_9a6ad 2 (some .boolean) 1 := ⟨m_624, m_145, by decide +kernel, by decide +kernel, by decide +kernel⟩
theorem sm_J11_isValidCodePoint_9a6ad : Cond.static yJ11_isValidCodePoint_9a6ad ∈ wt_ := m_623
theorem ml_J11_highSurrogate_5068e : ML yJ11_highSurrogate_5068e cJ11_highSurrogate_5068e 1 (some .char) 1 := ⟨m_627, m_145, by decide +kernel, by decide +kernel, by decide +kernel⟩
theorem sm_J11_highSurrogate_5068e : Cond.static yJ11_highSurrogate_5068e ∈ wt_ := m_626
theorem ml_J11_lowSurrogate_5068e : ML yJ11_lowSurrogate_5068e cJ11_lowSurrogate_5068e 1 (some .char) 1 := ⟨m_631, m_145, by decide +kernel, by decide +kernel, by decide +kernel⟩
theorem sm_J11_lowSurrogate_5068e : Cond.static yJ11_lowSurrogate_5068e ∈ wt_ := m_630
theorem ml_X6_number : ML yX6_number cX6_number 8 (some .int) 3 := ⟨m_638, m_128, by decide +kernel, by decide +kernel, by decide +kernel⟩
theorem im_X6_number : Cond.instanceMethod yX6_number ∈ wt_ := m_637
theorem ml_X3_isWhole : ML yX3_isWhole cX3_isWhole 2 (some .boolean) 0 := ⟨m_648, m_130, by decide +kernel, by decide +kernel, by decide +kernel⟩
theorem im_X3_isWhole : Cond.instanceMethod yX3_isWhole ∈ wt_ := m_647
theorem ml_X3_isClause : ML yX3_isClause cX3_isClause 2 (some .boolean) 0 := ⟨m_652, m_130, by decide +kernel, by decide +kernel, by decide +kernel⟩
theorem im_X3_isClause : Cond.instanceMethod yX3_isClause ∈ wt_ := m_651
theorem se_X3_isClause : Cond.selects yX3_isClause.cls yX3_isClause yX3_isClause ∈ wt_ := m_4
theorem ml_X3_isCondition : ML yX3_isCondition cX3_isCondition 2 (some .boolean) 1 := ⟨m_662, m_130, by decide +kernel, by decide +kernel, by decide +kernel⟩
theorem im_X3_isCondition : Cond.instanceMethod yX3_isCondition ∈ wt_ := m_661
theorem se_X3_isCondition : Cond.selects yX3_isCondition.cls yX3_isCondition yX3_isCondition ∈ wt_ := m_5
theorem ml_X3_isTruth : ML yX3_isTruth cX3_isTruth 2 (some .boolean) 1 := ⟨m_666, m_130, by decide +kernel, by decide +kernel, by decide +kernel⟩
theorem im_X3_isTruth : Cond.instanceMethod yX3_isTruth ∈ wt_ := m_665
theorem se_X3_isTruth : Cond.selects yX3_isTruth.cls yX3_isTruth yX3_isTruth ∈ wt_ := m_6
theorem ml_X3_isUnit : ML yX3_isUnit cX3_isUnit 3 (some .boolean) 1 := ⟨m_670, m_130, by decide +kernel, by decide +kernel, by decide +kernel⟩
theorem im_X3_isUnit : Cond.instanceMethod yX3_isUnit ∈ wt_ := m_669
theorem se_X3_isUnit : Cond.selects yX3_isUnit.cls yX3_isUnit yX3_isUnit ∈ wt_ := m_7
theorem ml_X3_isSum : ML yX3_isSum cX3_isSum 4 (some .boolean) 1 := ⟨m_674, m_130, by decide +kernel, by decide +kernel, by decide +kernel⟩
theorem im_X3_isSum : Cond.instanceMethod yX3_isSum ∈ wt_ := m_673
theorem se_X3_isSum : Cond.selects yX3_isSum.cls yX3_isSum yX3_isSum ∈ wt_ := m_8
theorem ml_X3_isTerm : ML yX3_isTerm cX3_isTerm 4 (some .boolean) 1 := ⟨m_678, m_130, by decide +kernel, by decide +kernel, by decide +kernel⟩
theorem im_X3_isTerm : Cond.instanceMethod yX3_isTerm ∈ wt_ := m_677
theorem se_X3_isTerm : Cond.selects yX3_isTerm.cls yX3_isTerm yX3_isTerm ∈ wt_ := m_9
theorem ml_X3_isAtom : ML yX3_isAtom cX3_isAtom 5 (some .boolean) 1 := ⟨m_682, m_130, by decide +kernel, by decide +kernel, by decide +kernel⟩
theorem im_X3_isAtom : Cond.instanceMethod yX3_isAtom ∈ wt_ := m_681
theorem se_X3_isAtom : Cond.selects yX3_isAtom.cls yX3_isAtom yX3_isAtom ∈ wt_ := m_10
theorem ml_X2_letterCode : ML yX2_letterCode cX2_letterCode 1 (some .int) 1 := ⟨m_688, m_146, by decide +kernel, by decide +kernel, by decide +kernel⟩
theorem sm_X2_letterCode : Cond.static yX2_letterCode ∈ wt_ := m_687
theorem ml_X3_write : ML yX3_write cX3_write 2 none 1 := ⟨m_692, m_130, by decide +kernel, by decide +kernel, by decide +kernel⟩
theorem im_X3_write : Cond.instanceMethod yX3_write ∈ wt_ := m_691
theorem se_X3_write : Cond.selects yX3_write.cls yX3_write yX3_write ∈ wt_ := m_11
theorem ml_X2_signCode : ML yX2_signCode cX2_signCode 1 (some .int) 1 := ⟨m_698, m_146, by decide +kernel, by decide +kernel, by decide +kernel⟩
theorem sm_X2_signCode : Cond.static yX2_signCode ∈ wt_ := m_697
theorem ml_X3_isCompared : ML yX3_isCompared cX3_isCompared 3 (some .boolean) 1 := ⟨m_702, m_130, by decide +kernel, by decide +kernel, by decide +kernel⟩
theorem im_X3_isCompared : Cond.instanceMethod yX3_isCompared ∈ wt_ := m_701
theorem se_X3_isCompared : Cond.selects yX3_isCompared.cls yX3_isCompared yX3_isCompared ∈ wt_ := m_12
theorem ml_X3_isComparison : ML yX3_isComparison cX3_isComparison 1 (some .boolean) 1 := ⟨m_705, m_130, by decide +kernel, by decide +kernel, by decide +kernel⟩
theorem sm_X3_isComparison : Cond.static yX3_isComparison ∈ wt_ := m_704
theorem ml_X3_areMoreUnits : ML yX3_areMoreUnits cX3_areMoreUnits 3 (some .boolean) 1 := ⟨m_709, m_130, by decide +kernel, by decide +kernel, by decide +kernel⟩
theorem im_X3_areMoreUnits : Cond.instanceMethod yX3_areMoreUnits ∈ wt_ := m_708
theorem se_X3_areMoreUnits : Cond.selects yX3_areMoreUnits.cls yX3_areMoreUnits yX3_areMoreUnits ∈ wt_ := m_13
theorem ml_X3_areMoreTruths : ML yX3_areMoreTruths cX3_areMoreTruths 3 (some .boolean) 1 := ⟨m_713, m_130, by decide +kernel, by decide +kernel, by decide +kernel⟩
theorem im_X3_areMoreTruths : Cond.instanceMethod yX3_areMoreTruths ∈ wt_ := m_712
theorem se_X3_areMoreTruths : Cond.selects yX3_areMoreTruths.cls yX3_areMoreTruths yX3_areMoreTruths ∈ wt_ := m_14
theorem ml_X3_isAnswerIf : ML yX3_isAnswerIf cX3_isAnswerIf 2 (some .boolean) 0 := ⟨m_717, m_130, by decide +kernel, by decide +kernel, by decide +kernel⟩
theorem im_X3_isAnswerIf : Cond.instanceMethod yX3_isAnswerIf ∈ wt_ := m_716
theorem se_X3_isAnswerIf : Cond.selects yX3_isAnswerIf.cls yX3_isAnswerIf yX3_isAnswerIf ∈ wt_ := m_15
theorem ml_X9_isWhole : ML yX9_isWhole cX9_isWhole 5 (some .boolean) 0 := ⟨m_720, m_131, by decide +kernel, by decide +kernel, by decide +kernel⟩
theorem im_X9_isWhole : Cond.instanceMethod yX9_isWhole ∈ wt_ := m_719
theorem ml_X9_pictureOf : ML yX9_pictureOf cX9_pictureOf 1 (some .int) 1 := ⟨m_726, m_131, by decide +kernel, by decide +kernel, by decide +kernel⟩
theorem sm_X9_pictureOf : Cond.static yX9_pictureOf ∈ wt_ := m_725
theorem ml_X9_add : ML yX9_add cX9_add 4 none 2 := ⟨m_730, m_131, by decide +kernel, by decide +kernel, by decide +kernel⟩
theorem im_X9_add : Cond.instanceMethod yX9_add ∈ wt_ := m_729
theorem se_X9_add : Cond.selects yX9_add.cls yX9_add yX9_add ∈ wt_ := m_16
theorem ml_X11_text : ML yX11_text cX11_text 4 (some .int) 1 := ⟨m_735, m_127, by decide +kernel, by decide +kernel, by decide +kernel⟩
theorem im_X11_text : Cond.instanceMethod yX11_text ∈ wt_ := m_733
theorem se_X11_text : Cond.selects yX11_text.cls yX11_text yX11_text ∈ wt_ := m_734
theorem ml_X11_tellLantern : ML yX11_tellLantern cX11_tellLantern 3 (some .int) 0 := ⟨m_739, m_127, by decide +kernel, by decide +kernel, by decide +kernel⟩
theorem im_X11_tellLantern : Cond.instanceMethod yX11_tellLantern ∈ wt_ := m_738
theorem se_X11_tellLantern : Cond.selects yX11_tellLantern.cls yX11_tellLantern yX11_tellLantern ∈ wt_ := m_17
theorem ml_X1_tell : ML yX1_tell cX1_tell 4 none 1 := ⟨m_743, m_129, by decide +kernel, by decide +kernel, by decide +kernel⟩
theorem im_X1_tell : Cond.instanceMethod yX1_tell ∈ wt_ := m_741
theorem se_X1_tell : Cond.selects yX1_tell.cls yX1_tell yX1_tell ∈ wt_ := m_742
theorem ml_X11_stripOf : ML yX11_stripOf cX11_stripOf 2 (some (.object "SlitDrum$Strip")) 1 := ⟨m_747, m_127, by decide +kernel, by decide +kernel, by decide +kernel⟩
theorem im_X11_stripOf : Cond.instanceMethod yX11_stripOf ∈ wt_ := m_746
theorem se_X11_stripOf : Cond.selects yX11_stripOf.cls yX11_stripOf yX11_stripOf ∈ wt_ := m_18
theorem ml_X11_isStrip : ML yX11_isStrip cX11_isStrip 2 (some .boolean) 1 := ⟨m_751, m_127, by decide +kernel, by decide +kernel, by decide +kernel⟩
theorem im_X11_isStrip : Cond.instanceMethod yX11_isStrip ∈ wt_ := m_750
theorem se_X11_isStrip : Cond.selects yX11_isStrip.cls yX11_isStrip yX11_isStrip ∈ wt_ := m_19
theorem ml_X8_size : ML yX8_size cX8_size 1 (some .int) 0 := ⟨m_755, m_132, by decide +kernel, by decide +kernel, by decide +kernel⟩
theorem im_X8_size : Cond.instanceMethod yX8_size ∈ wt_ := m_753
theorem se_X8_size : Cond.selects yX8_size.cls yX8_size yX8_size ∈ wt_ := m_754
theorem ml_X11_round : ML yX11_round cX11_round 2 (some .int) 2 := ⟨m_758, m_127, by decide +kernel, by decide +kernel, by decide +kernel⟩
theorem sm_X11_round : Cond.static yX11_round ∈ wt_ := m_757
theorem ml_J9_floorMod_7cf53 : ML yJ9_floorMod_7cf53 cJ9_floorMod_7cf53 3 (some .int) 2 := ⟨m_761, m_139, by decide +kernel, by decide +kernel, by decide +kernel⟩
theorem sm_J9_floorMod_7cf53 : Cond.static yJ9_floorMod_7cf53 ∈ wt_ := m_760
theorem ml_X5_clear : ML yX5_clear cX5_clear 1 none 0 := ⟨m_765, m_135, by decide +kernel, by decide +kernel, by decide +kernel⟩
theorem im_X5_clear : Cond.instanceMethod yX5_clear ∈ wt_ := m_763
theorem se_X5_clear : Cond.selects yX5_clear.cls yX5_clear yX5_clear ∈ wt_ := m_764
theorem ml_X4_clear : ML yX4_clear cX4_clear 1 none 0 := ⟨m_769, m_136, by decide +kernel, by decide +kernel, by decide +kernel⟩
theorem im_X4_clear : Cond.instanceMethod yX4_clear ∈ wt_ := m_767
theorem se_X4_clear : Cond.selects yX4_clear.cls yX4_clear yX4_clear ∈ wt_ := m_768
theorem ml_X11_tellLaw : ML yX11_tellLaw cX11_tellLaw 1 (some .int) 0 := ⟨m_773, m_127, by decide +kernel, by decide +kernel, by decide +kernel⟩
theorem im_X11_tellLaw : Cond.instanceMethod yX11_tellLaw ∈ wt_ := m_772
theorem se_X11_tellLaw : Cond.selects yX11_tellLaw.cls yX11_tellLaw yX11_tellLaw ∈ wt_ := m_20
theorem ml_X3_written : ML yX3_written cX3_written 1 (some (.array .int)) 0 := ⟨m_778, m_130, by decide +kernel, by decide +kernel, by decide +kernel⟩
theorem im_X3_written : Cond.instanceMethod yX3_written ∈ wt_ := m_776
theorem se_X3_written : Cond.selects yX3_written.cls yX3_written yX3_written ∈ wt_ := m_777
theorem ml_J7_copyOf_59c91 : ML yJ7_copyOf_59c91 cJ7_copyOf_59c91 3 (some (.array .int)) 2 := ⟨m_781, m_147, by decide +kernel, by decide +kernel, by decide +kernel⟩
theorem sm_J7_copyOf_59c91 : Cond.static yJ7_copyOf_59c91 ∈ wt_ := m_780
theorem ml_X2_init : ML yX2_init cX2_init 2 none 1 := ⟨m_793, m_146, by decide +kernel, by decide +kernel, by decide +kernel⟩
theorem im_X2_init : Cond.instanceMethod yX2_init ∈ wt_ := m_792
theorem ml_X11_tellStrip : ML yX11_tellStrip cX11_tellStrip 1 (some .int) 0 := ⟨m_808, m_127, by decide +kernel, by decide +kernel, by decide +kernel⟩
theorem im_X11_tellStrip : Cond.instanceMethod yX11_tellStrip ∈ wt_ := m_807
theorem se_X11_tellStrip : Cond.selects yX11_tellStrip.cls yX11_tellStrip yX11_tellStrip ∈ wt_ := m_21
theorem ml_X9_written : ML yX9_written cX9_written 1 (some (.array .int)) 0 := ⟨m_812, m_131, by decide +kernel, by decide +kernel, by decide +kernel⟩
theorem im_X9_written : Cond.instanceMethod yX9_written ∈ wt_ := m_810
theorem se_X9_written : Cond.selects yX9_written.cls yX9_written yX9_written ∈ wt_ := m_811
theorem ml_X11_rule : ML yX11_rule cX11_rule 2 (some .int) 1 := ⟨m_817, m_127, by decide +kernel, by decide +kernel, by decide +kernel⟩
theorem im_X11_rule : Cond.instanceMethod yX11_rule ∈ wt_ := m_815
theorem se_X11_rule : Cond.selects yX11_rule.cls yX11_rule yX11_rule ∈ wt_ := m_816
theorem ml_X11_isLit : ML yX11_isLit cX11_isLit 1 (some .boolean) 0 := ⟨m_821, m_127, by decide +kernel, by decide +kernel, by decide +kernel⟩
theorem im_X11_isLit : Cond.instanceMethod yX11_isLit ∈ wt_ := m_820
theorem se_X11_isLit : Cond.selects yX11_isLit.cls yX11_isLit yX11_isLit ∈ wt_ := m_22
theorem ml_X11_picture : ML yX11_picture cX11_picture 4 (some .int) 2 := ⟨m_825, m_127, by decide +kernel, by decide +kernel, by decide +kernel⟩
theorem im_X11_picture : Cond.instanceMethod yX11_picture ∈ wt_ := m_823
theorem se_X11_picture : Cond.selects yX11_picture.cls yX11_picture yX11_picture ∈ wt_ := m_824
theorem ml_X8_shownAt : ML yX8_shownAt cX8_shownAt 2 (some .int) 1 := ⟨m_829, m_132, by decide +kernel, by decide +kernel, by decide +kernel⟩
theorem im_X8_shownAt : Cond.instanceMethod yX8_shownAt ∈ wt_ := m_827
theorem se_X8_shownAt : Cond.selects yX8_shownAt.cls yX8_shownAt yX8_shownAt ∈ wt_ := m_828
theorem ml_X11_law : ML yX11_law cX11_law 2 (some .boolean) 1 := ⟨m_834, m_127, by decide +kernel, by decide +kernel, by decide +kernel⟩
theorem im_X11_law : Cond.instanceMethod yX11_law ∈ wt_ := m_832
theorem se_X11_law : Cond.selects yX11_law.cls yX11_law yX11_law ∈ wt_ := m_833
theorem ml_X11_touch : ML yX11_touch cX11_touch 2 (some .boolean) 1 := ⟨m_838, m_127, by decide +kernel, by decide +kernel, by decide +kernel⟩
theorem im_X11_touch : Cond.instanceMethod yX11_touch ∈ wt_ := m_836
theorem se_X11_touch : Cond.selects yX11_touch.cls yX11_touch yX11_touch ∈ wt_ := m_837
theorem ml_X11_ticks : ML yX11_ticks cX11_ticks 3 (some .int) 1 := ⟨m_842, m_127, by decide +kernel, by decide +kernel, by decide +kernel⟩
theorem im_X11_ticks : Cond.instanceMethod yX11_ticks ∈ wt_ := m_840
theorem se_X11_ticks : Cond.selects yX11_ticks.cls yX11_ticks yX11_ticks ∈ wt_ := m_841
theorem ml_X11_refused : ML yX11_refused cX11_refused 2 (some .int) 1 := ⟨m_846, m_127, by decide +kernel, by decide +kernel, by decide +kernel⟩
theorem im_X11_refused : Cond.instanceMethod yX11_refused ∈ wt_ := m_845
theorem se_X11_refused : Cond.selects yX11_refused.cls yX11_refused yX11_refused ∈ wt_ := m_23
theorem ml_X5_keep : ML yX5_keep cX5_keep 2 none 1 := ⟨m_850, m_135, by decide +kernel, by decide +kernel, by decide +kernel⟩
theorem im_X5_keep : Cond.instanceMethod yX5_keep ∈ wt_ := m_848
theorem se_X5_keep : Cond.selects yX5_keep.cls yX5_keep yX5_keep ∈ wt_ := m_849
theorem ml_X7_copyFrom : ML yX7_copyFrom cX7_copyFrom 3 none 1 := ⟨m_855, m_133, by decide +kernel, by decide +kernel, by decide +kernel⟩
theorem im_X7_copyFrom : Cond.instanceMethod yX7_copyFrom ∈ wt_ := m_853
theorem se_X7_copyFrom : Cond.selects yX7_copyFrom.cls yX7_copyFrom yX7_copyFrom ∈ wt_ := m_854
theorem ml_X10_copyFrom : ML yX10_copyFrom cX10_copyFrom 2 none 1 := ⟨m_859, m_134, by decide +kernel, by decide +kernel, by decide +kernel⟩
theorem im_X10_copyFrom : Cond.instanceMethod yX10_copyFrom ∈ wt_ := m_857
theorem se_X10_copyFrom : Cond.selects yX10_copyFrom.cls yX10_copyFrom yX10_copyFrom ∈ wt_ := m_858
theorem ml_X11_tickOnce : ML yX11_tickOnce cX11_tickOnce 2 none 0 := ⟨m_865, m_127, by decide +kernel, by decide +kernel, by decide +kernel⟩
theorem im_X11_tickOnce : Cond.instanceMethod yX11_tickOnce ∈ wt_ := m_864
theorem se_X11_tickOnce : Cond.selects yX11_tickOnce.cls yX11_tickOnce yX11_tickOnce ∈ wt_ := m_24
theorem ml_X11_nextPlace : ML yX11_nextPlace cX11_nextPlace 2 (some .int) 1 := ⟨m_869, m_127, by decide +kernel, by decide +kernel, by decide +kernel⟩
theorem im_X11_nextPlace : Cond.instanceMethod yX11_nextPlace ∈ wt_ := m_868
theorem se_X11_nextPlace : Cond.selects yX11_nextPlace.cls yX11_nextPlace yX11_nextPlace ∈ wt_ := m_25
theorem ml_X11_courseOf : ML yX11_courseOf cX11_courseOf 3 (some (.object "SlitDrum$Course")) 1 := ⟨m_873, m_127, by decide +kernel, by decide +kernel, by decide +kernel⟩
theorem im_X11_courseOf : Cond.instanceMethod yX11_courseOf ∈ wt_ := m_872
theorem se_X11_courseOf : Cond.selects yX11_courseOf.cls yX11_courseOf yX11_courseOf ∈ wt_ := m_26
theorem ml_X11_lawNow : ML yX11_lawNow cX11_lawNow 1 (some (.object "SlitDrum$Law")) 0 := ⟨m_877, m_127, by decide +kernel, by decide +kernel, by decide +kernel⟩
theorem im_X11_lawNow : Cond.instanceMethod yX11_lawNow ∈ wt_ := m_876
theorem se_X11_lawNow : Cond.selects yX11_lawNow.cls yX11_lawNow yX11_lawNow ∈ wt_ := m_27
theorem ml_X0_set : ML yX0_set cX0_set 6 none 5 := ⟨m_881, m_137, by decide +kernel, by decide +kernel, by decide +kernel⟩
theorem im_X0_set : Cond.instanceMethod yX0_set ∈ wt_ := m_879
theorem se_X0_set : Cond.selects yX0_set.cls yX0_set yX0_set ∈ wt_ := m_880
theorem ml_X10_velocity : ML yX10_velocity cX10_velocity 1 (some .int) 0 := ⟨m_885, m_134, by decide +kernel, by decide +kernel, by decide +kernel⟩
theorem im_X10_velocity : Cond.instanceMethod yX10_velocity ∈ wt_ := m_883
theorem se_X10_velocity : Cond.selects yX10_velocity.cls yX10_velocity yX10_velocity ∈ wt_ := m_884
theorem ml_X0_movedFrom : ML yX0_movedFrom cX0_movedFrom 4 (some .int) 2 := ⟨m_890, m_137, by decide +kernel, by decide +kernel, by decide +kernel⟩
theorem im_X0_movedFrom : Cond.instanceMethod yX0_movedFrom ∈ wt_ := m_888
theorem se_X0_movedFrom : Cond.selects yX0_movedFrom.cls yX0_movedFrom yX0_movedFrom ∈ wt_ := m_889
theorem ml_X2_worth : ML yX2_worth cX2_worth 6 (some .int) 1 := ⟨m_896, m_146, by decide +kernel, by decide +kernel, by decide +kernel⟩
theorem im_X2_worth : Cond.instanceMethod yX2_worth ∈ wt_ := m_894
theorem se_X2_worth : Cond.selects yX2_worth.cls yX2_worth yX2_worth ∈ wt_ := m_895
theorem ml_X2_pull : ML yX2_pull cX2_pull 1 (some .int) 0 := ⟨m_900, m_146, by decide +kernel, by decide +kernel, by decide +kernel⟩
theorem im_X2_pull : Cond.instanceMethod yX2_pull ∈ wt_ := m_899
theorem se_X2_pull : Cond.selects yX2_pull.cls yX2_pull yX2_pull ∈ wt_ := m_28
theorem ml_X2_pile : ML yX2_pile cX2_pile 2 none 1 := ⟨m_905, m_146, by decide +kernel, by decide +kernel, by decide +kernel⟩
theorem im_X2_pile : Cond.instanceMethod yX2_pile ∈ wt_ := m_904
theorem se_X2_pile : Cond.selects yX2_pile.cls yX2_pile yX2_pile ∈ wt_ := m_29
theorem ml_X2_joined : ML yX2_joined cX2_joined 3 (some .long) 3 := ⟨m_908, m_146, by decide +kernel, by decide +kernel, by decide +kernel⟩
theorem sm_X2_joined : Cond.static yX2_joined ∈ wt_ := m_907
theorem ml_X11_within : ML yX11_within cX11_within 4 (some .int) 3 := ⟨m_913, m_127, by decide +kernel, by decide +kernel, by decide +kernel⟩
theorem sm_X11_within : Cond.static yX11_within ∈ wt_ := m_912
theorem ml_J9_min_f86c9 : ML yJ9_min_f86c9 cJ9_min_f86c9 4 (some .long) 2 := ⟨m_916, m_139, by decide +kernel, by decide +kernel, by decide +kernel⟩
theorem sm_J9_min_f86c9 : Cond.static yJ9_min_f86c9 ∈ wt_ := m_915
theorem ml_J9_max_f86c9 : ML yJ9_max_f86c9 cJ9_max_f86c9 4 (some .long) 2 := ⟨m_919, m_139, by decide +kernel, by decide +kernel, by decide +kernel⟩
theorem sm_J9_max_f86c9 : Cond.static yJ9_max_f86c9 ∈ wt_ := m_918
theorem ml_X11_lookOnce : ML yX11_lookOnce cX11_lookOnce 4 none 0 := ⟨m_924, m_127, by decide +kernel, by decide +kernel, by decide +kernel⟩
theorem im_X11_lookOnce : Cond.instanceMethod yX11_lookOnce ∈ wt_ := m_923
theorem se_X11_lookOnce : Cond.selects yX11_lookOnce.cls yX11_lookOnce yX11_lookOnce ∈ wt_ := m_30
theorem ml_X11_shown : ML yX11_shown cX11_shown 2 (some .int) 1 := ⟨m_928, m_127, by decide +kernel, by decide +kernel, by decide +kernel⟩
theorem im_X11_shown : Cond.instanceMethod yX11_shown ∈ wt_ := m_927
theorem se_X11_shown : Cond.selects yX11_shown.cls yX11_shown yX11_shown ∈ wt_ := m_31
theorem ml_X7_addRow : ML yX7_addRow cX7_addRow 2 none 1 := ⟨m_932, m_133, by decide +kernel, by decide +kernel, by decide +kernel⟩
theorem im_X7_addRow : Cond.instanceMethod yX7_addRow ∈ wt_ := m_930
theorem se_X7_addRow : Cond.selects yX7_addRow.cls yX7_addRow yX7_addRow ∈ wt_ := m_931
theorem ml_X11_allShowOne : ML yX11_allShowOne cX11_allShowOne 4 (some .boolean) 0 := ⟨m_937, m_127, by decide +kernel, by decide +kernel, by decide +kernel⟩
theorem im_X11_allShowOne : Cond.instanceMethod yX11_allShowOne ∈ wt_ := m_936
theorem se_X11_allShowOne : Cond.selects yX11_allShowOne.cls yX11_allShowOne yX11_allShowOne ∈ wt_ := m_32
theorem ml_X11_flash : ML yX11_flash cX11_flash 3 (some .int) 1 := ⟨m_941, m_127, by decide +kernel, by decide +kernel, by decide +kernel⟩
theorem im_X11_flash : Cond.instanceMethod yX11_flash ∈ wt_ := m_939
theorem se_X11_flash : Cond.selects yX11_flash.cls yX11_flash yX11_flash ∈ wt_ := m_940
theorem ml_X11_speed : ML yX11_speed cX11_speed 5 (some .int) 2 := ⟨m_945, m_127, by decide +kernel, by decide +kernel, by decide +kernel⟩
theorem im_X11_speed : Cond.instanceMethod yX11_speed ∈ wt_ := m_943
theorem se_X11_speed : Cond.selects yX11_speed.cls yX11_speed yX11_speed ∈ wt_ := m_944
theorem ml_X11_isWheel : ML yX11_isWheel cX11_isWheel 2 (some .boolean) 1 := ⟨m_949, m_127, by decide +kernel, by decide +kernel, by decide +kernel⟩
theorem im_X11_isWheel : Cond.instanceMethod yX11_isWheel ∈ wt_ := m_948
theorem se_X11_isWheel : Cond.selects yX11_isWheel.cls yX11_isWheel yX11_isWheel ∈ wt_ := m_33
theorem ml_X11_about : ML yX11_about cX11_about 3 (some .int) 1 := ⟨m_953, m_127, by decide +kernel, by decide +kernel, by decide +kernel⟩
theorem im_X11_about : Cond.instanceMethod yX11_about ∈ wt_ := m_951
theorem se_X11_about : Cond.selects yX11_about.cls yX11_about yX11_about ∈ wt_ := m_952
theorem ml_X11_push : ML yX11_push cX11_push 3 (some .int) 2 := ⟨m_957, m_127, by decide +kernel, by decide +kernel, by decide +kernel⟩
theorem im_X11_push : Cond.instanceMethod yX11_push ∈ wt_ := m_955
theorem se_X11_push : Cond.selects yX11_push.cls yX11_push yX11_push ∈ wt_ := m_956
theorem ml_X11_shove : ML yX11_shove cX11_shove 3 none 2 := ⟨m_961, m_127, by decide +kernel, by decide +kernel, by decide +kernel⟩
theorem im_X11_shove : Cond.instanceMethod yX11_shove ∈ wt_ := m_960
theorem se_X11_shove : Cond.selects yX11_shove.cls yX11_shove yX11_shove ∈ wt_ := m_34
theorem ml_X11_puts : ML yX11_puts cX11_puts 5 (some .int) 2 := ⟨m_965, m_127, by decide +kernel, by decide +kernel, by decide +kernel⟩
theorem im_X11_puts : Cond.instanceMethod yX11_puts ∈ wt_ := m_963
theorem se_X11_puts : Cond.selects yX11_puts.cls yX11_puts yX11_puts ∈ wt_ := m_964
theorem ml_X11_oil : ML yX11_oil cX11_oil 3 (some .int) 1 := ⟨m_969, m_127, by decide +kernel, by decide +kernel, by decide +kernel⟩
theorem im_X11_oil : Cond.instanceMethod yX11_oil ∈ wt_ := m_967
theorem se_X11_oil : Cond.selects yX11_oil.cls yX11_oil yX11_oil ∈ wt_ := m_968
theorem ml_X11_give : ML yX11_give cX11_give 2 (some .int) 1 := ⟨m_973, m_127, by decide +kernel, by decide +kernel, by decide +kernel⟩
theorem im_X11_give : Cond.instanceMethod yX11_give ∈ wt_ := m_971
theorem se_X11_give : Cond.selects yX11_give.cls yX11_give yX11_give ∈ wt_ := m_972
theorem ml_X11_years : ML yX11_years cX11_years 5 (some .int) 2 := ⟨m_977, m_127, by decide +kernel, by decide +kernel, by decide +kernel⟩
theorem im_X11_years : Cond.instanceMethod yX11_years ∈ wt_ := m_975
theorem se_X11_years : Cond.selects yX11_years.cls yX11_years yX11_years ∈ wt_ := m_976
theorem ml_X11_meddle : ML yX11_meddle cX11_meddle 3 none 0 := ⟨m_981, m_127, by decide +kernel, by decide +kernel, by decide +kernel⟩
theorem im_X11_meddle : Cond.instanceMethod yX11_meddle ∈ wt_ := m_980
theorem se_X11_meddle : Cond.selects yX11_meddle.cls yX11_meddle yX11_meddle ∈ wt_ := m_35
theorem ml_X11_draw : ML yX11_draw cX11_draw 2 (some .int) 1 := ⟨m_985, m_127, by decide +kernel, by decide +kernel, by decide +kernel⟩
theorem im_X11_draw : Cond.instanceMethod yX11_draw ∈ wt_ := m_984
theorem se_X11_draw : Cond.selects yX11_draw.cls yX11_draw yX11_draw ∈ wt_ := m_36
theorem ml_X11_status : ML yX11_status cX11_status 2 (some .int) 1 := ⟨m_992, m_127, by decide +kernel, by decide +kernel, by decide +kernel⟩
theorem im_X11_status : Cond.instanceMethod yX11_status ∈ wt_ := m_990
theorem se_X11_status : Cond.selects yX11_status.cls yX11_status yX11_status ∈ wt_ := m_991
theorem ml_X11_undo : ML yX11_undo cX11_undo 1 (some .int) 0 := ⟨m_996, m_127, by decide +kernel, by decide +kernel, by decide +kernel⟩
theorem im_X11_undo : Cond.instanceMethod yX11_undo ∈ wt_ := m_994
theorem se_X11_undo : Cond.selects yX11_undo.cls yX11_undo yX11_undo ∈ wt_ := m_995
theorem ml_X5_bringBack : ML yX5_bringBack cX5_bringBack 2 (some .int) 1 := ⟨m_1000, m_135, by decide +kernel, by decide +kernel, by decide +kernel⟩
theorem im_X5_bringBack : Cond.instanceMethod yX5_bringBack ∈ wt_ := m_998
theorem se_X5_bringBack : Cond.selects yX5_bringBack.cls yX5_bringBack yX5_bringBack ∈ wt_ := m_999
theorem ml_X11_log : ML yX11_log cX11_log 3 (some .int) 2 := ⟨m_1004, m_127, by decide +kernel, by decide +kernel, by decide +kernel⟩
theorem im_X11_log : Cond.instanceMethod yX11_log ∈ wt_ := m_1002
theorem se_X11_log : Cond.selects yX11_log.cls yX11_log yX11_log ∈ wt_ := m_1003
theorem ml_X7_rowCount : ML yX7_rowCount cX7_rowCount 1 (some .int) 0 := ⟨m_1008, m_133, by decide +kernel, by decide +kernel, by decide +kernel⟩
theorem im_X7_rowCount : Cond.instanceMethod yX7_rowCount ∈ wt_ := m_1006
theorem se_X7_rowCount : Cond.selects yX7_rowCount.cls yX7_rowCount yX7_rowCount ∈ wt_ := m_1007
theorem ml_X7_rowBefore : ML yX7_rowBefore cX7_rowBefore 2 (some .int) 1 := ⟨m_1013, m_133, by decide +kernel, by decide +kernel, by decide +kernel⟩
theorem im_X7_rowBefore : Cond.instanceMethod yX7_rowBefore ∈ wt_ := m_1011
theorem se_X7_rowBefore : Cond.selects yX7_rowBefore.cls yX7_rowBefore yX7_rowBefore ∈ wt_ := m_1012
theorem ml_X11_at : ML yX11_at cX11_at 3 (some .int) 2 := ⟨m_1017, m_127, by decide +kernel, by decide +kernel, by decide +kernel⟩
theorem im_X11_at : Cond.instanceMethod yX11_at ∈ wt_ := m_1015
theorem se_X11_at : Cond.selects yX11_at.cls yX11_at yX11_at ∈ wt_ := m_1016
theorem ml_X11_traced : ML yX11_traced cX11_traced 3 (some (.object "SlitDrum$Course")) 1 := ⟨m_1021, m_127, by decide +kernel, by decide +kernel, by decide +kernel⟩
theorem im_X11_traced : Cond.instanceMethod yX11_traced ∈ wt_ := m_1020
theorem se_X11_traced : Cond.selects yX11_traced.cls yX11_traced yX11_traced ∈ wt_ := m_37
theorem ml_X0_trace : ML yX0_trace cX0_trace 3 none 0 := ⟨m_1025, m_137, by decide +kernel, by decide +kernel, by decide +kernel⟩
theorem im_X0_trace : Cond.instanceMethod yX0_trace ∈ wt_ := m_1023
theorem se_X0_trace : Cond.selects yX0_trace.cls yX0_trace yX0_trace ∈ wt_ := m_1024
theorem ml_J7_fill_53178 : ML yJ7_fill_53178 cJ7_fill_53178 4 none 2 := ⟨m_1028, m_147, by decide +kernel, by decide +kernel, by decide +kernel⟩
theorem sm_J7_fill_53178 : Cond.static yJ7_fill_53178 ∈ wt_ := m_1027
theorem ml_X0_shownAfter : ML yX0_shownAfter cX0_shownAfter 2 (some .int) 1 := ⟨m_1033, m_137, by decide +kernel, by decide +kernel, by decide +kernel⟩
theorem im_X0_shownAfter : Cond.instanceMethod yX0_shownAfter ∈ wt_ := m_1031
theorem se_X0_shownAfter : Cond.selects yX0_shownAfter.cls yX0_shownAfter yX0_shownAfter ∈ wt_ := m_1032
theorem ml_X0_placeAfter : ML yX0_placeAfter cX0_placeAfter 3 (some .int) 1 := ⟨m_1037, m_137, by decide +kernel, by decide +kernel, by decide +kernel⟩
theorem im_X0_placeAfter : Cond.instanceMethod yX0_placeAfter ∈ wt_ := m_1035
theorem se_X0_placeAfter : Cond.selects yX0_placeAfter.cls yX0_placeAfter yX0_placeAfter ∈ wt_ := m_1036
theorem ml_X11_seems : ML yX11_seems cX11_seems 6 (some .int) 2 := ⟨m_1041, m_127, by decide +kernel, by decide +kernel, by decide +kernel⟩
theorem im_X11_seems : Cond.instanceMethod yX11_seems ∈ wt_ := m_1039
theorem se_X11_seems : Cond.selects yX11_seems.cls yX11_seems yX11_seems ∈ wt_ := m_1040
theorem ml_X11_stands : ML yX11_stands cX11_stands 6 (some .int) 2 := ⟨m_1047, m_127, by decide +kernel, by decide +kernel, by decide +kernel⟩
theorem im_X11_stands : Cond.instanceMethod yX11_stands ∈ wt_ := m_1045
theorem se_X11_stands : Cond.selects yX11_stands.cls yX11_stands yX11_stands ∈ wt_ := m_1046
theorem ml_X0_isStillBy : ML yX0_isStillBy cX0_isStillBy 4 (some .boolean) 1 := ⟨m_1051, m_137, by decide +kernel, by decide +kernel, by decide +kernel⟩
theorem im_X0_isStillBy : Cond.instanceMethod yX0_isStillBy ∈ wt_ := m_1049
theorem se_X0_isStillBy : Cond.selects yX0_isStillBy.cls yX0_isStillBy yX0_isStillBy ∈ wt_ := m_1050
theorem ml_X0_isHomeAfter : ML yX0_isHomeAfter cX0_isHomeAfter 2 (some .boolean) 1 := ⟨m_1055, m_137, by decide +kernel, by decide +kernel, by decide +kernel⟩
theorem im_X0_isHomeAfter : Cond.instanceMethod yX0_isHomeAfter ∈ wt_ := m_1053
theorem se_X0_isHomeAfter : Cond.selects yX0_isHomeAfter.cls yX0_isHomeAfter yX0_isHomeAfter ∈ wt_ := m_1054
theorem ml_X11_together : ML yX11_together cX11_together 4 (some .int) 0 := ⟨m_1059, m_127, by decide +kernel, by decide +kernel, by decide +kernel⟩
theorem im_X11_together : Cond.instanceMethod yX11_together ∈ wt_ := m_1057
theorem se_X11_together : Cond.selects yX11_together.cls yX11_together yX11_together ∈ wt_ := m_1058
theorem ml_X11_traceAll : ML yX11_traceAll cX11_traceAll 2 none 0 := ⟨m_1063, m_127, by decide +kernel, by decide +kernel, by decide +kernel⟩
theorem im_X11_traceAll : Cond.instanceMethod yX11_traceAll ∈ wt_ := m_1062
theorem se_X11_traceAll : Cond.selects yX11_traceAll.cls yX11_traceAll yX11_traceAll ∈ wt_ := m_38
theorem ml_X11_again : ML yX11_again cX11_again 9 (some .int) 1 := ⟨m_1067, m_127, by decide +kernel, by decide +kernel, by decide +kernel⟩
theorem im_X11_again : Cond.instanceMethod yX11_again ∈ wt_ := m_1065
theorem se_X11_again : Cond.selects yX11_again.cls yX11_again yX11_again ∈ wt_ := m_1066
theorem ml_X11_meets : ML yX11_meets cX11_meets 7 (some .int) 2 := ⟨m_1072, m_127, by decide +kernel, by decide +kernel, by decide +kernel⟩
theorem im_X11_meets : Cond.instanceMethod yX11_meets ∈ wt_ := m_1070
theorem se_X11_meets : Cond.selects yX11_meets.cls yX11_meets yX11_meets ∈ wt_ := m_1071
theorem ml_X11_reads : ML yX11_reads cX11_reads 5 (some .int) 1 := ⟨m_1076, m_127, by decide +kernel, by decide +kernel, by decide +kernel⟩
theorem im_X11_reads : Cond.instanceMethod yX11_reads ∈ wt_ := m_1074
theorem se_X11_reads : Cond.selects yX11_reads.cls yX11_reads yX11_reads ∈ wt_ := m_1075
theorem ml_X11_period : ML yX11_period cX11_period 2 (some .int) 1 := ⟨m_1080, m_127, by decide +kernel, by decide +kernel, by decide +kernel⟩
theorem im_X11_period : Cond.instanceMethod yX11_period ∈ wt_ := m_1078
theorem se_X11_period : Cond.selects yX11_period.cls yX11_period yX11_period ∈ wt_ := m_1079
theorem ml_X8_leastPeriod : ML yX8_leastPeriod cX8_leastPeriod 2 (some .int) 0 := ⟨m_1084, m_132, by decide +kernel, by decide +kernel, by decide +kernel⟩
theorem im_X8_leastPeriod : Cond.instanceMethod yX8_leastPeriod ∈ wt_ := m_1082
theorem se_X8_leastPeriod : Cond.selects yX8_leastPeriod.cls yX8_leastPeriod yX8_leastPeriod ∈ wt_ := m_1083
theorem ml_X8_isRow : ML yX8_isRow cX8_isRow 7 (some .boolean) 3 := ⟨m_1089, m_132, by decide +kernel, by decide +kernel, by decide +kernel⟩
theorem im_X8_isRow : Cond.instanceMethod yX8_isRow ∈ wt_ := m_1088
theorem se_X8_isRow : Cond.selects yX8_isRow.cls yX8_isRow yX8_isRow ∈ wt_ := m_39
theorem ml_X11_least : ML yX11_least cX11_least 2 (some .int) 1 := ⟨m_1094, m_127, by decide +kernel, by decide +kernel, by decide +kernel⟩
theorem im_X11_least : Cond.instanceMethod yX11_least ∈ wt_ := m_1092
theorem se_X11_least : Cond.selects yX11_least.cls yX11_least yX11_least ∈ wt_ := m_1093
theorem ml_X8_leastTurning : ML yX8_leastTurning cX8_leastTurning 3 (some .int) 0 := ⟨m_1098, m_132, by decide +kernel, by decide +kernel, by decide +kernel⟩
theorem im_X8_leastTurning : Cond.instanceMethod yX8_leastTurning ∈ wt_ := m_1096
theorem se_X8_leastTurning : Cond.selects yX8_leastTurning.cls yX8_leastTurning yX8_leastTurning ∈ wt_ := m_1097
theorem ml_X8_compareRows : ML yX8_compareRows cX8_compareRows 6 (some .int) 3 := ⟨m_1102, m_132, by decide +kernel, by decide +kernel, by decide +kernel⟩
theorem im_X8_compareRows : Cond.instanceMethod yX8_compareRows ∈ wt_ := m_1101
theorem se_X8_compareRows : Cond.selects yX8_compareRows.cls yX8_compareRows yX8_compareRows ∈ wt_ := m_40
theorem ml_J6_compare_7cf53 : ML yJ6_compare_7cf53 cJ6_compare_7cf53 2 (some .int) 2 := ⟨m_1105, m_152, by decide +kernel, by decide +kernel, by decide +kernel⟩
theorem sm_J6_compare_7cf53 : Cond.static yJ6_compare_7cf53 ∈ wt_ := m_1104
theorem ml_X11_alike : ML yX11_alike cX11_alike 4 (some .int) 3 := ⟨m_1109, m_127, by decide +kernel, by decide +kernel, by decide +kernel⟩
theorem im_X11_alike : Cond.instanceMethod yX11_alike ∈ wt_ := m_1107
theorem se_X11_alike : Cond.selects yX11_alike.cls yX11_alike yX11_alike ∈ wt_ := m_1108
theorem ml_X8_turningTo : ML yX8_turningTo cX8_turningTo 4 (some .int) 2 := ⟨m_1113, m_132, by decide +kernel, by decide +kernel, by decide +kernel⟩
theorem im_X8_turningTo : Cond.instanceMethod yX8_turningTo ∈ wt_ := m_1111
theorem se_X8_turningTo : Cond.selects yX8_turningTo.cls yX8_turningTo yX8_turningTo ∈ wt_ := m_1112
theorem ml_X11_mirror : ML yX11_mirror cX11_mirror 2 (some .int) 1 := ⟨m_1117, m_127, by decide +kernel, by decide +kernel, by decide +kernel⟩
theorem im_X11_mirror : Cond.instanceMethod yX11_mirror ∈ wt_ := m_1115
theorem se_X11_mirror : Cond.selects yX11_mirror.cls yX11_mirror yX11_mirror ∈ wt_ := m_1116
theorem ml_X11_rows : ML yX11_rows cX11_rows 3 (some .int) 2 := ⟨m_1121, m_127, by decide +kernel, by decide +kernel, by decide +kernel⟩
theorem im_X11_rows : Cond.instanceMethod yX11_rows ∈ wt_ := m_1119
theorem se_X11_rows : Cond.selects yX11_rows.cls yX11_rows yX11_rows ∈ wt_ := m_1120
theorem ml_X8_unlikeRows : ML yX8_unlikeRows cX8_unlikeRows 6 (some .int) 1 := ⟨m_1125, m_132, by decide +kernel, by decide +kernel, by decide +kernel⟩
theorem im_X8_unlikeRows : Cond.instanceMethod yX8_unlikeRows ∈ wt_ := m_1123
theorem se_X8_unlikeRows : Cond.selects yX8_unlikeRows.cls yX8_unlikeRows yX8_unlikeRows ∈ wt_ := m_1124
theorem ml_X11_kinds : ML yX11_kinds cX11_kinds 7 (some .int) 3 := ⟨m_1129, m_127, by decide +kernel, by decide +kernel, by decide +kernel⟩
theorem im_X11_kinds : Cond.instanceMethod yX11_kinds ∈ wt_ := m_1127
theorem se_X11_kinds : Cond.selects yX11_kinds.cls yX11_kinds yX11_kinds ∈ wt_ := m_1128
theorem ml_X11_commonDivisor : ML yX11_commonDivisor cX11_commonDivisor 3 (some .int) 2 := ⟨m_1132, m_127, by decide +kernel, by decide +kernel, by decide +kernel⟩
theorem sm_X11_commonDivisor : Cond.static yX11_commonDivisor ∈ wt_ := m_1131
theorem ml_X11_power : ML yX11_power cX11_power 5 (some .long) 2 := ⟨m_1135, m_127, by decide +kernel, by decide +kernel, by decide +kernel⟩
theorem sm_X11_power : Cond.static yX11_power ∈ wt_ := m_1134
theorem ml_X11_pairsOver : ML yX11_pairsOver cX11_pairsOver 4 (some .int) 2 := ⟨m_1138, m_127, by decide +kernel, by decide +kernel, by decide +kernel⟩
theorem sm_X11_pairsOver : Cond.static yX11_pairsOver ∈ wt_ := m_1137
theorem ml_X11_noted : ML yX11_noted cX11_noted 4 (some .int) 3 := ⟨m_1142, m_127, by decide +kernel, by decide +kernel, by decide +kernel⟩
theorem im_X11_noted : Cond.instanceMethod yX11_noted ∈ wt_ := m_1140
theorem se_X11_noted : Cond.selects yX11_noted.cls yX11_noted yX11_noted ∈ wt_ := m_1141
theorem ml_X4_add : ML yX4_add cX4_add 4 (some .int) 3 := ⟨m_1146, m_136, by decide +kernel, by decide +kernel, by decide +kernel⟩
theorem im_X4_add : Cond.instanceMethod yX4_add ∈ wt_ := m_1144
theorem se_X4_add : Cond.selects yX4_add.cls yX4_add yX4_add ∈ wt_ := m_1145
theorem ml_X11_fits : ML yX11_fits cX11_fits 2 (some .int) 1 := ⟨m_1150, m_127, by decide +kernel, by decide +kernel, by decide +kernel⟩
theorem im_X11_fits : Cond.instanceMethod yX11_fits ∈ wt_ := m_1148
theorem se_X11_fits : Cond.selects yX11_fits.cls yX11_fits yX11_fits ∈ wt_ := m_1149
theorem ml_X4_find : ML yX4_find cX4_find 5 none 1 := ⟨m_1154, m_136, by decide +kernel, by decide +kernel, by decide +kernel⟩
theorem im_X4_find : Cond.instanceMethod yX4_find ∈ wt_ := m_1152
theorem se_X4_find : Cond.selects yX4_find.cls yX4_find yX4_find ∈ wt_ := m_1153
theorem ml_X4_isSo : ML yX4_isSo cX4_isSo 6 (some .boolean) 3 := ⟨m_1159, m_136, by decide +kernel, by decide +kernel, by decide +kernel⟩
theorem im_X4_isSo : Cond.instanceMethod yX4_isSo ∈ wt_ := m_1158
theorem se_X4_isSo : Cond.selects yX4_isSo.cls yX4_isSo yX4_isSo ∈ wt_ := m_41
theorem ml_X4_foundAt : ML yX4_foundAt cX4_foundAt 2 (some .int) 1 := ⟨m_1164, m_136, by decide +kernel, by decide +kernel, by decide +kernel⟩
theorem im_X4_foundAt : Cond.instanceMethod yX4_foundAt ∈ wt_ := m_1162
theorem se_X4_foundAt : Cond.selects yX4_foundAt.cls yX4_foundAt yX4_foundAt ∈ wt_ := m_1163
theorem ml_X11_ask : ML yX11_ask cX11_ask 1 (some .int) 0 := ⟨m_1168, m_127, by decide +kernel, by decide +kernel, by decide +kernel⟩
theorem im_X11_ask : Cond.instanceMethod yX11_ask ∈ wt_ := m_1166
theorem se_X11_ask : Cond.selects yX11_ask.cls yX11_ask yX11_ask ∈ wt_ := m_1167
theorem ml_X4_bestTick : ML yX4_bestTick cX4_bestTick 6 (some .int) 1 := ⟨m_1172, m_136, by decide +kernel, by decide +kernel, by decide +kernel⟩
theorem im_X4_bestTick : Cond.instanceMethod yX4_bestTick ∈ wt_ := m_1170
theorem se_X4_bestTick : Cond.selects yX4_bestTick.cls yX4_bestTick yX4_bestTick ∈ wt_ := m_1171
theorem ml_X4_mostAlike : ML yX4_mostAlike cX4_mostAlike 9 (some .int) 2 := ⟨m_1176, m_136, by decide +kernel, by decide +kernel, by decide +kernel⟩
theorem im_X4_mostAlike : Cond.instanceMethod yX4_mostAlike ∈ wt_ := m_1175
theorem se_X4_mostAlike : Cond.selects yX4_mostAlike.cls yX4_mostAlike yX4_mostAlike ∈ wt_ := m_42
theorem ml_X11_game : ML yX11_game cX11_game 5 (some .int) 4 := ⟨m_1182, m_127, by decide +kernel, by decide +kernel, by decide +kernel⟩
theorem im_X11_game : Cond.instanceMethod yX11_game ∈ wt_ := m_1180
theorem se_X11_game : Cond.selects yX11_game.cls yX11_game yX11_game ∈ wt_ := m_1181
theorem ml_X11_lookerHas : ML yX11_lookerHas cX11_lookerHas 4 (some .int) 3 := ⟨m_1186, m_127, by decide +kernel, by decide +kernel, by decide +kernel⟩
theorem im_X11_lookerHas : Cond.instanceMethod yX11_lookerHas ∈ wt_ := m_1185
theorem se_X11_lookerHas : Cond.selects yX11_lookerHas.cls yX11_lookerHas yX11_lookerHas ∈ wt_ := m_43
theorem ml_X11_unlikeSeen : ML yX11_unlikeSeen cX11_unlikeSeen 6 (some .int) 2 := ⟨m_1190, m_127, by decide +kernel, by decide +kernel, by decide +kernel⟩
theorem im_X11_unlikeSeen : Cond.instanceMethod yX11_unlikeSeen ∈ wt_ := m_1189
theorem se_X11_unlikeSeen : Cond.selects yX11_unlikeSeen.cls yX11_unlikeSeen yX11_unlikeSeen ∈ wt_ := m_44
theorem ml_X11_withoutBlank : ML yX11_withoutBlank cX11_withoutBlank 1 (some .int) 1 := ⟨m_1193, m_127, by decide +kernel, by decide +kernel, by decide +kernel⟩
theorem sm_X11_withoutBlank : Cond.static yX11_withoutBlank ∈ wt_ := m_1192
theorem ml_J6_bitCount_0f7a4 : ML yJ6_bitCount_0f7a4 cJ6_bitCount_0f7a4 1 (some .int) 1 := ⟨m_1197, m_152, by decide +kernel, by decide +kernel, by decide +kernel⟩
theorem sm_J6_bitCount_0f7a4 : Cond.static yJ6_bitCount_0f7a4 ∈ wt_ := m_1196
theorem ml_X11_turnerHas : ML yX11_turnerHas cX11_turnerHas 4 (some .int) 3 := ⟨m_1204, m_127, by decide +kernel, by decide +kernel, by decide +kernel⟩
theorem im_X11_turnerHas : Cond.instanceMethod yX11_turnerHas ∈ wt_ := m_1203
theorem se_X11_turnerHas : Cond.selects yX11_turnerHas.cls yX11_turnerHas yX11_turnerHas ∈ wt_ := m_45
theorem ml_X11_rests : ML yX11_rests cX11_rests 6 (some .int) 2 := ⟨m_1208, m_127, by decide +kernel, by decide +kernel, by decide +kernel⟩
theorem im_X11_rests : Cond.instanceMethod yX11_rests ∈ wt_ := m_1206
theorem se_X11_rests : Cond.selects yX11_rests.cls yX11_rests yX11_rests ∈ wt_ := m_1207
theorem ml_X11_isRest : ML yX11_isRest cX11_isRest 8 (some .boolean) 3 := ⟨m_1212, m_127, by decide +kernel, by decide +kernel, by decide +kernel⟩
theorem im_X11_isRest : Cond.instanceMethod yX11_isRest ∈ wt_ := m_1211
theorem se_X11_isRest : Cond.selects yX11_isRest.cls yX11_isRest yX11_isRest ∈ wt_ := m_46
theorem ml_X11_odds : ML yX11_odds cX11_odds 5 (some .int) 4 := ⟨m_1216, m_127, by decide +kernel, by decide +kernel, by decide +kernel⟩
theorem im_X11_odds : Cond.instanceMethod yX11_odds ∈ wt_ := m_1214
theorem se_X11_odds : Cond.selects yX11_odds.cls yX11_odds yX11_odds ∈ wt_ := m_1215
theorem ml_X0_partsShowing : ML yX0_partsShowing cX0_partsShowing 4 (some .int) 3 := ⟨m_1220, m_137, by decide +kernel, by decide +kernel, by decide +kernel⟩
theorem im_X0_partsShowing : Cond.instanceMethod yX0_partsShowing ∈ wt_ := m_1218
theorem se_X0_partsShowing : Cond.selects yX0_partsShowing.cls yX0_partsShowing yX0_partsShowing ∈ wt_ := m_1219
theorem ml_X0_showingOf : ML yX0_showingOf cX0_showingOf 11 (some .long) 6 := ⟨m_1226, m_137, by decide +kernel, by decide +kernel, by decide +kernel⟩
theorem im_X0_showingOf : Cond.instanceMethod yX0_showingOf ∈ wt_ := m_1225
theorem se_X0_showingOf : Cond.selects yX0_showingOf.cls yX0_showingOf yX0_showingOf ∈ wt_ := m_47
theorem ml_X11_shares : ML yX11_shares cX11_shares 5 (some .int) 2 := ⟨m_1231, m_127, by decide +kernel, by decide +kernel, by decide +kernel⟩
theorem im_X11_shares : Cond.instanceMethod yX11_shares ∈ wt_ := m_1229
theorem se_X11_shares : Cond.selects yX11_shares.cls yX11_shares yX11_shares ∈ wt_ := m_1230
theorem ml_X11_most : ML yX11_most cX11_most 2 (some .int) 1 := ⟨m_1235, m_127, by decide +kernel, by decide +kernel, by decide +kernel⟩
theorem im_X11_most : Cond.instanceMethod yX11_most ∈ wt_ := m_1233
theorem se_X11_most : Cond.selects yX11_most.cls yX11_most yX11_most ∈ wt_ := m_1234
theorem ml_X11_fastest : ML yX11_fastest cX11_fastest 3 (some .int) 0 := ⟨m_1239, m_127, by decide +kernel, by decide +kernel, by decide +kernel⟩
theorem im_X11_fastest : Cond.instanceMethod yX11_fastest ∈ wt_ := m_1238
theorem se_X11_fastest : Cond.selects yX11_fastest.cls yX11_fastest yX11_fastest ∈ wt_ := m_48
theorem ml_X11_longest : ML yX11_longest cX11_longest 3 (some .int) 0 := ⟨m_1243, m_127, by decide +kernel, by decide +kernel, by decide +kernel⟩
theorem im_X11_longest : Cond.instanceMethod yX11_longest ∈ wt_ := m_1242
theorem se_X11_longest : Cond.selects yX11_longest.cls yX11_longest yX11_longest ∈ wt_ := m_49
theorem ml_X11_commonest : ML yX11_commonest cX11_commonest 6 (some .int) 0 := ⟨m_1247, m_127, by decide +kernel, by decide +kernel, by decide +kernel⟩
theorem im_X11_commonest : Cond.instanceMethod yX11_commonest ∈ wt_ := m_1246
theorem se_X11_commonest : Cond.selects yX11_commonest.cls yX11_commonest yX11_commonest ∈ wt_ := m_50
theorem ml_X8_has : ML yX8_has cX8_has 7 (some .boolean) 1 := ⟨m_1251, m_132, by decide +kernel, by decide +kernel, by decide +kernel⟩
theorem im_X8_has : Cond.instanceMethod yX8_has ∈ wt_ := m_1249
theorem se_X8_has : Cond.selects yX8_has.cls yX8_has yX8_has ∈ wt_ := m_1250
theorem ml_X11_shownNow : ML yX11_shownNow cX11_shownNow 3 (some .int) 0 := ⟨m_1255, m_127, by decide +kernel, by decide +kernel, by decide +kernel⟩
theorem im_X11_shownNow : Cond.instanceMethod yX11_shownNow ∈ wt_ := m_1254
theorem se_X11_shownNow : Cond.selects yX11_shownNow.cls yX11_shownNow yX11_shownNow ∈ wt_ := m_51
theorem ml_X11_twins : ML yX11_twins cX11_twins 5 (some .int) 0 := ⟨m_1259, m_127, by decide +kernel, by decide +kernel, by decide +kernel⟩
theorem im_X11_twins : Cond.instanceMethod yX11_twins ∈ wt_ := m_1258
theorem se_X11_twins : Cond.selects yX11_twins.cls yX11_twins yX11_twins ∈ wt_ := m_52
theorem ml_X11_turningBack : ML yX11_turningBack cX11_turningBack 3 (some .int) 0 := ⟨m_1263, m_127, by decide +kernel, by decide +kernel, by decide +kernel⟩
theorem im_X11_turningBack : Cond.instanceMethod yX11_turningBack ∈ wt_ := m_1262
theorem se_X11_turningBack : Cond.selects yX11_turningBack.cls yX11_turningBack yX11_turningBack ∈ wt_ := m_53
theorem ml_X11_bareNow : ML yX11_bareNow cX11_bareNow 3 (some .int) 0 := ⟨m_1267, m_127, by decide +kernel, by decide +kernel, by decide +kernel⟩
theorem im_X11_bareNow : Cond.instanceMethod yX11_bareNow ∈ wt_ := m_1266
theorem se_X11_bareNow : Cond.selects yX11_bareNow.cls yX11_bareNow yX11_bareNow ∈ wt_ := m_54
theorem ml_X11_still : ML yX11_still cX11_still 3 (some .int) 0 := ⟨m_1271, m_127, by decide +kernel, by decide +kernel, by decide +kernel⟩
theorem im_X11_still : Cond.instanceMethod yX11_still ∈ wt_ := m_1270
theorem se_X11_still : Cond.selects yX11_still.cls yX11_still yX11_still ∈ wt_ := m_55
theorem ml_X11_byPlace : ML yX11_byPlace cX11_byPlace 7 (some .int) 0 := ⟨m_1275, m_127, by decide +kernel, by decide +kernel, by decide +kernel⟩
theorem im_X11_byPlace : Cond.instanceMethod yX11_byPlace ∈ wt_ := m_1274
theorem se_X11_byPlace : Cond.selects yX11_byPlace.cls yX11_byPlace yX11_byPlace ∈ wt_ := m_56
theorem ml_X11_image : ML yX11_image cX11_image 1 (some .int) 0 := ⟨m_1279, m_127, by decide +kernel, by decide +kernel, by decide +kernel⟩
theorem im_X11_image : Cond.instanceMethod yX11_image ∈ wt_ := m_1277
theorem se_X11_image : Cond.selects yX11_image.cls yX11_image yX11_image ∈ wt_ := m_1278
theorem ml_X11_back : ML yX11_back cX11_back 1 (some .int) 0 := ⟨m_1284, m_127, by decide +kernel, by decide +kernel, by decide +kernel⟩
theorem im_X11_back : Cond.instanceMethod yX11_back ∈ wt_ := m_1282
theorem se_X11_back : Cond.selects yX11_back.cls yX11_back yX11_back ∈ wt_ := m_1283
theorem ml_X11_count : ML yX11_count cX11_count 2 (some .int) 1 := ⟨m_1288, m_127, by decide +kernel, by decide +kernel, by decide +kernel⟩
theorem im_X11_count : Cond.instanceMethod yX11_count ∈ wt_ := m_1286
theorem se_X11_count : Cond.selects yX11_count.cls yX11_count yX11_count ∈ wt_ := m_1287
theorem ml_X11_wheel : ML yX11_wheel cX11_wheel 4 (some .int) 2 := ⟨m_1296, m_127, by decide +kernel, by decide +kernel, by decide +kernel⟩
theorem im_X11_wheel : Cond.instanceMethod yX11_wheel ∈ wt_ := m_1294
theorem se_X11_wheel : Cond.selects yX11_wheel.cls yX11_wheel yX11_wheel ∈ wt_ := m_1295
theorem ml_X12_init : ML yX12_init cX12_init 1 none 0 := ⟨m_1367, m_138, by decide +kernel, by decide +kernel, by decide +kernel⟩
theorem im_X12_init : Cond.instanceMethod yX12_init ∈ wt_ := m_1366
theorem ml_X12_thrown : ML yX12_thrown cX12_thrown 1 (some .int) 0 := ⟨m_1496, m_138, by decide +kernel, by decide +kernel, by decide +kernel⟩
theorem im_X12_thrown : Cond.instanceMethod yX12_thrown ∈ wt_ := m_1494
theorem se_X12_thrown : Cond.selects yX12_thrown.cls yX12_thrown yX12_thrown ∈ wt_ := m_1495
theorem ml_X12_feed : ML yX12_feed cX12_feed 9 (some .int) 5 := ⟨m_1500, m_138, by decide +kernel, by decide +kernel, by decide +kernel⟩
theorem im_X12_feed : Cond.instanceMethod yX12_feed ∈ wt_ := m_1498
theorem se_X12_feed : Cond.selects yX12_feed.cls yX12_feed yX12_feed ∈ wt_ := m_1499
theorem ml_X12_byteOf : ML yX12_byteOf cX12_byteOf 7 (some .int) 6 := ⟨m_1503, m_138, by decide +kernel, by decide +kernel, by decide +kernel⟩
theorem sm_X12_byteOf : Cond.static yX12_byteOf ∈ wt_ := m_1502
theorem ml_X12_end : ML yX12_end cX12_end 2 (some .boolean) 1 := ⟨m_1507, m_138, by decide +kernel, by decide +kernel, by decide +kernel⟩
theorem im_X12_end : Cond.instanceMethod yX12_end ∈ wt_ := m_1505
theorem se_X12_end : Cond.selects yX12_end.cls yX12_end yX12_end ∈ wt_ := m_1506
theorem ml_X12_fault : ML yX12_fault cX12_fault 2 (some .int) 1 := ⟨m_1511, m_138, by decide +kernel, by decide +kernel, by decide +kernel⟩
theorem im_X12_fault : Cond.instanceMethod yX12_fault ∈ wt_ := m_1509
theorem se_X12_fault : Cond.selects yX12_fault.cls yX12_fault yX12_fault ∈ wt_ := m_1510
theorem ml_X12_readLantern : ML yX12_readLantern cX12_readLantern 4 (some .int) 0 := ⟨m_1515, m_138, by decide +kernel, by decide +kernel, by decide +kernel⟩
theorem im_X12_readLantern : Cond.instanceMethod yX12_readLantern ∈ wt_ := m_1514
theorem se_X12_readLantern : Cond.selects yX12_readLantern.cls yX12_readLantern yX12_readLantern ∈ wt_ := m_58
theorem ml_X12_usual : ML yX12_usual cX12_usual 2 (some .int) 2 := ⟨m_1518, m_138, by decide +kernel, by decide +kernel, by decide +kernel⟩
theorem sm_X12_usual : Cond.static yX12_usual ∈ wt_ := m_1517
theorem ml_X12_look : ML yX12_look cX12_look 1 (some .int) 0 := ⟨m_1522, m_138, by decide +kernel, by decide +kernel, by decide +kernel⟩
theorem im_X12_look : Cond.instanceMethod yX12_look ∈ wt_ := m_1521
theorem se_X12_look : Cond.selects yX12_look.cls yX12_look yX12_look ∈ wt_ := m_59
theorem ml_X12_here : ML yX12_here cX12_here 1 (some .int) 0 := ⟨m_1526, m_138, by decide +kernel, by decide +kernel, by decide +kernel⟩
theorem im_X12_here : Cond.instanceMethod yX12_here ∈ wt_ := m_1525
theorem se_X12_here : Cond.selects yX12_here.cls yX12_here yX12_here ∈ wt_ := m_60
theorem ml_X12_items : ML yX12_items cX12_items 7 none 4 := ⟨m_1530, m_138, by decide +kernel, by decide +kernel, by decide +kernel⟩
theorem im_X12_items : Cond.instanceMethod yX12_items ∈ wt_ := m_1529
theorem se_X12_items : Cond.selects yX12_items.cls yX12_items yX12_items ∈ wt_ := m_61
theorem ml_X12_itemOf : ML yX12_itemOf cX12_itemOf 2 (some .int) 2 := ⟨m_1533, m_138, by decide +kernel, by decide +kernel, by decide +kernel⟩
theorem sm_X12_itemOf : Cond.static yX12_itemOf ∈ wt_ := m_1532
theorem ml_X12_has : ML yX12_has cX12_has 2 (some .boolean) 2 := ⟨m_1536, m_138, by decide +kernel, by decide +kernel, by decide +kernel⟩
theorem sm_X12_has : Cond.static yX12_has ∈ wt_ := m_1535
theorem ml_X12_highest : ML yX12_highest cX12_highest 2 (some .int) 2 := ⟨m_1539, m_138, by decide +kernel, by decide +kernel, by decide +kernel⟩
theorem sm_X12_highest : Cond.static yX12_highest ∈ wt_ := m_1538
theorem ml_X12_number : ML yX12_number cX12_number 4 (some .int) 2 := ⟨m_1543, m_138, by decide +kernel, by decide +kernel, by decide +kernel⟩
theorem im_X12_number : Cond.instanceMethod yX12_number ∈ wt_ := m_1542
theorem se_X12_number : Cond.selects yX12_number.cls yX12_number yX12_number ∈ wt_ := m_62
theorem ml_X12_isDigit : ML yX12_isDigit cX12_isDigit 1 (some .boolean) 1 := ⟨m_1546, m_138, by decide +kernel, by decide +kernel, by decide +kernel⟩
theorem sm_X12_isDigit : Cond.static yX12_isDigit ∈ wt_ := m_1545
theorem ml_X12_bad : ML yX12_bad cX12_bad 1 none 0 := ⟨m_1550, m_138, by decide +kernel, by decide +kernel, by decide +kernel⟩
theorem im_X12_bad : Cond.instanceMethod yX12_bad ∈ wt_ := m_1549
theorem se_X12_bad : Cond.selects yX12_bad.cls yX12_bad yX12_bad ∈ wt_ := m_63
theorem ml_X12_in : ML yX12_in cX12_in 3 (some .boolean) 3 := ⟨m_1553, m_138, by decide +kernel, by decide +kernel, by decide +kernel⟩
theorem sm_X12_in : Cond.static yX12_in ∈ wt_ := m_1552
theorem ml_X12_readLaw : ML yX12_readLaw cX12_readLaw 2 (some .int) 1 := ⟨m_1557, m_138, by decide +kernel, by decide +kernel, by decide +kernel⟩
theorem im_X12_readLaw : Cond.instanceMethod yX12_readLaw ∈ wt_ := m_1556
theorem se_X12_readLaw : Cond.selects yX12_readLaw.cls yX12_readLaw yX12_readLaw ∈ wt_ := m_64
theorem ml_X12_open : ML yX12_open cX12_open 2 none 1 := ⟨m_1561, m_138, by decide +kernel, by decide +kernel, by decide +kernel⟩
theorem im_X12_open : Cond.instanceMethod yX12_open ∈ wt_ := m_1560
theorem se_X12_open : Cond.selects yX12_open.cls yX12_open yX12_open ∈ wt_ := m_65
theorem ml_X12_clause : ML yX12_clause cX12_clause 3 none 0 := ⟨m_1565, m_138, by decide +kernel, by decide +kernel, by decide +kernel⟩
theorem im_X12_clause : Cond.instanceMethod yX12_clause ∈ wt_ := m_1564
theorem se_X12_clause : Cond.selects yX12_clause.cls yX12_clause yX12_clause ∈ wt_ := m_66
theorem ml_X12_condition : ML yX12_condition cX12_condition 1 none 0 := ⟨m_1569, m_138, by decide +kernel, by decide +kernel, by decide +kernel⟩
theorem im_X12_condition : Cond.instanceMethod yX12_condition ∈ wt_ := m_1568
theorem se_X12_condition : Cond.selects yX12_condition.cls yX12_condition yX12_condition ∈ wt_ := m_67
theorem ml_X12_unit : ML yX12_unit cX12_unit 2 none 0 := ⟨m_1573, m_138, by decide +kernel, by decide +kernel, by decide +kernel⟩
theorem im_X12_unit : Cond.instanceMethod yX12_unit ∈ wt_ := m_1572
theorem se_X12_unit : Cond.selects yX12_unit.cls yX12_unit yX12_unit ∈ wt_ := m_68
theorem ml_X12_opens : ML yX12_opens cX12_opens 1 none 0 := ⟨m_1577, m_138, by decide +kernel, by decide +kernel, by decide +kernel⟩
theorem im_X12_opens : Cond.instanceMethod yX12_opens ∈ wt_ := m_1576
theorem se_X12_opens : Cond.selects yX12_opens.cls yX12_opens yX12_opens ∈ wt_ := m_69
theorem ml_X12_put : ML yX12_put cX12_put 3 none 2 := ⟨m_1581, m_138, by decide +kernel, by decide +kernel, by decide +kernel⟩
theorem im_X12_put : Cond.instanceMethod yX12_put ∈ wt_ := m_1580
theorem se_X12_put : Cond.selects yX12_put.cls yX12_put yX12_put ∈ wt_ := m_70
theorem ml_X12_closes : ML yX12_closes cX12_closes 2 none 1 := ⟨m_1585, m_138, by decide +kernel, by decide +kernel, by decide +kernel⟩
theorem im_X12_closes : Cond.instanceMethod yX12_closes ∈ wt_ := m_1584
theorem se_X12_closes : Cond.selects yX12_closes.cls yX12_closes yX12_closes ∈ wt_ := m_71
theorem ml_X12_sum : ML yX12_sum cX12_sum 2 none 0 := ⟨m_1589, m_138, by decide +kernel, by decide +kernel, by decide +kernel⟩
theorem im_X12_sum : Cond.instanceMethod yX12_sum ∈ wt_ := m_1588
theorem se_X12_sum : Cond.selects yX12_sum.cls yX12_sum yX12_sum ∈ wt_ := m_72
theorem ml_X12_term : ML yX12_term cX12_term 2 none 0 := ⟨m_1593, m_138, by decide +kernel, by decide +kernel, by decide +kernel⟩
theorem im_X12_term : Cond.instanceMethod yX12_term ∈ wt_ := m_1592
theorem se_X12_term : Cond.selects yX12_term.cls yX12_term yX12_term ∈ wt_ := m_73
theorem ml_X12_atom : ML yX12_atom cX12_atom 2 none 0 := ⟨m_1597, m_138, by decide +kernel, by decide +kernel, by decide +kernel⟩
theorem im_X12_atom : Cond.instanceMethod yX12_atom ∈ wt_ := m_1596
theorem se_X12_atom : Cond.selects yX12_atom.cls yX12_atom yX12_atom ∈ wt_ := m_74
theorem ml_X12_plainNumber : ML yX12_plainNumber cX12_plainNumber 3 (some .int) 0 := ⟨m_1601, m_138, by decide +kernel, by decide +kernel, by decide +kernel⟩
theorem im_X12_plainNumber : Cond.instanceMethod yX12_plainNumber ∈ wt_ := m_1600
theorem se_X12_plainNumber : Cond.selects yX12_plainNumber.cls yX12_plainNumber yX12_plainNumber ∈ wt_ := m_75
theorem ml_X12_letterOf : ML yX12_letterOf cX12_letterOf 1 (some .int) 1 := ⟨m_1604, m_138, by decide +kernel, by decide +kernel, by decide +kernel⟩
theorem sm_X12_letterOf : Cond.static yX12_letterOf ∈ wt_ := m_1603
theorem ml_X12_compare : ML yX12_compare cX12_compare 2 none 0 := ⟨m_1608, m_138, by decide +kernel, by decide +kernel, by decide +kernel⟩
theorem im_X12_compare : Cond.instanceMethod yX12_compare ∈ wt_ := m_1607
theorem se_X12_compare : Cond.selects yX12_compare.cls yX12_compare yX12_compare ∈ wt_ := m_76
theorem ml_X12_isSign : ML yX12_isSign cX12_isSign 1 (some .boolean) 1 := ⟨m_1611, m_138, by decide +kernel, by decide +kernel, by decide +kernel⟩
theorem sm_X12_isSign : Cond.static yX12_isSign ∈ wt_ := m_1610
theorem ml_X12_goOnAnd : ML yX12_goOnAnd cX12_goOnAnd 1 none 0 := ⟨m_1615, m_138, by decide +kernel, by decide +kernel, by decide +kernel⟩
theorem im_X12_goOnAnd : Cond.instanceMethod yX12_goOnAnd ∈ wt_ := m_1614
theorem se_X12_goOnAnd : Cond.selects yX12_goOnAnd.cls yX12_goOnAnd yX12_goOnAnd ∈ wt_ := m_77
theorem ml_X12_goOnOr : ML yX12_goOnOr cX12_goOnOr 1 none 0 := ⟨m_1619, m_138, by decide +kernel, by decide +kernel, by decide +kernel⟩
theorem im_X12_goOnOr : Cond.instanceMethod yX12_goOnOr ∈ wt_ := m_1618
theorem se_X12_goOnOr : Cond.selects yX12_goOnOr.cls yX12_goOnOr yX12_goOnOr ∈ wt_ := m_78
theorem ml_X12_atEnd : ML yX12_atEnd cX12_atEnd 1 (some .int) 0 := ⟨m_1623, m_138, by decide +kernel, by decide +kernel, by decide +kernel⟩
theorem im_X12_atEnd : Cond.instanceMethod yX12_atEnd ∈ wt_ := m_1622
theorem se_X12_atEnd : Cond.selects yX12_atEnd.cls yX12_atEnd yX12_atEnd ∈ wt_ := m_79
theorem ml_X12_readStrip : ML yX12_readStrip cX12_readStrip 3 (some .int) 1 := ⟨m_1627, m_138, by decide +kernel, by decide +kernel, by decide +kernel⟩
theorem im_X12_readStrip : Cond.instanceMethod yX12_readStrip ∈ wt_ := m_1626
theorem se_X12_readStrip : Cond.selects yX12_readStrip.cls yX12_readStrip yX12_readStrip ∈ wt_ := m_80
theorem ml_X12_readPicture : ML yX12_readPicture cX12_readPicture 5 none 2 := ⟨m_1631, m_138, by decide +kernel, by decide +kernel, by decide +kernel⟩
theorem im_X12_readPicture : Cond.instanceMethod yX12_readPicture ∈ wt_ := m_1630
theorem se_X12_readPicture : Cond.selects yX12_readPicture.cls yX12_readPicture yX12_readPicture ∈ wt_ := m_81
theorem ml_X12_isPicture : ML yX12_isPicture cX12_isPicture 1 (some .boolean) 1 := ⟨m_1634, m_138, by decide +kernel, by decide +kernel, by decide +kernel⟩
theorem sm_X12_isPicture : Cond.static yX12_isPicture ∈ wt_ := m_1633
theorem ml_X12_text : ML yX12_text cX12_text 2 (some .int) 1 := ⟨m_1638, m_138, by decide +kernel, by decide +kernel, by decide +kernel⟩
theorem im_X12_text : Cond.instanceMethod yX12_text ∈ wt_ := m_1636
theorem se_X12_text : Cond.selects yX12_text.cls yX12_text yX12_text ∈ wt_ := m_1637
theorem ml_X12_takeLantern : ML yX12_takeLantern cX12_takeLantern 2 (some .int) 0 := ⟨m_1642, m_138, by decide +kernel, by decide +kernel, by decide +kernel⟩
theorem im_X12_takeLantern : Cond.instanceMethod yX12_takeLantern ∈ wt_ := m_1641
theorem se_X12_takeLantern : Cond.selects yX12_takeLantern.cls yX12_takeLantern yX12_takeLantern ∈ wt_ := m_82
theorem ml_X12_of : ML yX12_of cX12_of 3 (some .int) 2 := ⟨m_1646, m_138, by decide +kernel, by decide +kernel, by decide +kernel⟩
theorem im_X12_of : Cond.instanceMethod yX12_of ∈ wt_ := m_1645
theorem se_X12_of : Cond.selects yX12_of.cls yX12_of yX12_of ∈ wt_ := m_83
theorem ml_X12_longOf : ML yX12_longOf cX12_longOf 2 (some .int) 1 := ⟨m_1650, m_138, by decide +kernel, by decide +kernel, by decide +kernel⟩
theorem im_X12_longOf : Cond.instanceMethod yX12_longOf ∈ wt_ := m_1649
theorem se_X12_longOf : Cond.selects yX12_longOf.cls yX12_longOf yX12_longOf ∈ wt_ := m_84
theorem ml_X12_stripLongOf : ML yX12_stripLongOf cX12_stripLongOf 2 (some .int) 1 := ⟨m_1654, m_138, by decide +kernel, by decide +kernel, by decide +kernel⟩
theorem im_X12_stripLongOf : Cond.instanceMethod yX12_stripLongOf ∈ wt_ := m_1653
theorem se_X12_stripLongOf : Cond.selects yX12_stripLongOf.cls yX12_stripLongOf yX12_stripLongOf ∈ wt_ := m_85
theorem ml_X12_rule : ML yX12_rule cX12_rule 2 (some .int) 1 := ⟨m_1658, m_138, by decide +kernel, by decide +kernel, by decide +kernel⟩
theorem im_X12_rule : Cond.instanceMethod yX12_rule ∈ wt_ := m_1656
theorem se_X12_rule : Cond.selects yX12_rule.cls yX12_rule yX12_rule ∈ wt_ := m_1657
theorem ml_X12_wheel : ML yX12_wheel cX12_wheel 3 (some .int) 2 := ⟨m_1662, m_138, by decide +kernel, by decide +kernel, by decide +kernel⟩
theorem im_X12_wheel : Cond.instanceMethod yX12_wheel ∈ wt_ := m_1660
theorem se_X12_wheel : Cond.selects yX12_wheel.cls yX12_wheel yX12_wheel ∈ wt_ := m_1661
theorem ml_X12_isWheel : ML yX12_isWheel cX12_isWheel 2 (some .boolean) 1 := ⟨m_1666, m_138, by decide +kernel, by decide +kernel, by decide +kernel⟩
theorem im_X12_isWheel : Cond.instanceMethod yX12_isWheel ∈ wt_ := m_1665
theorem se_X12_isWheel : Cond.selects yX12_isWheel.cls yX12_isWheel yX12_isWheel ∈ wt_ := m_86
theorem ml_X12_showsOf : ML yX12_showsOf cX12_showsOf 2 (some .int) 1 := ⟨m_1670, m_138, by decide +kernel, by decide +kernel, by decide +kernel⟩
theorem im_X12_showsOf : Cond.instanceMethod yX12_showsOf ∈ wt_ := m_1669
theorem se_X12_showsOf : Cond.selects yX12_showsOf.cls yX12_showsOf yX12_showsOf ∈ wt_ := m_87
theorem ml_X12_pictureAt : ML yX12_pictureAt cX12_pictureAt 3 (some .int) 2 := ⟨m_1674, m_138, by decide +kernel, by decide +kernel, by decide +kernel⟩
theorem im_X12_pictureAt : Cond.instanceMethod yX12_pictureAt ∈ wt_ := m_1673
theorem se_X12_pictureAt : Cond.selects yX12_pictureAt.cls yX12_pictureAt yX12_pictureAt ∈ wt_ := m_88
theorem ml_X12_picture : ML yX12_picture cX12_picture 3 (some .int) 2 := ⟨m_1678, m_138, by decide +kernel, by decide +kernel, by decide +kernel⟩
theorem im_X12_picture : Cond.instanceMethod yX12_picture ∈ wt_ := m_1676
theorem se_X12_picture : Cond.selects yX12_picture.cls yX12_picture yX12_picture ∈ wt_ := m_1677
theorem ml_X12_isStrip : ML yX12_isStrip cX12_isStrip 2 (some .boolean) 1 := ⟨m_1682, m_138, by decide +kernel, by decide +kernel, by decide +kernel⟩
theorem im_X12_isStrip : Cond.instanceMethod yX12_isStrip ∈ wt_ := m_1681
theorem se_X12_isStrip : Cond.selects yX12_isStrip.cls yX12_isStrip yX12_isStrip ∈ wt_ := m_89
theorem ml_X12_law : ML yX12_law cX12_law 2 (some .boolean) 1 := ⟨m_1686, m_138, by decide +kernel, by decide +kernel, by decide +kernel⟩
theorem im_X12_law : Cond.instanceMethod yX12_law ∈ wt_ := m_1684
theorem se_X12_law : Cond.selects yX12_law.cls yX12_law yX12_law ∈ wt_ := m_1685
theorem ml_X12_touch : ML yX12_touch cX12_touch 2 (some .boolean) 1 := ⟨m_1690, m_138, by decide +kernel, by decide +kernel, by decide +kernel⟩
theorem im_X12_touch : Cond.instanceMethod yX12_touch ∈ wt_ := m_1688
theorem se_X12_touch : Cond.selects yX12_touch.cls yX12_touch yX12_touch ∈ wt_ := m_1689
theorem ml_X12_ticks : ML yX12_ticks cX12_ticks 3 (some .int) 1 := ⟨m_1694, m_138, by decide +kernel, by decide +kernel, by decide +kernel⟩
theorem im_X12_ticks : Cond.instanceMethod yX12_ticks ∈ wt_ := m_1692
theorem se_X12_ticks : Cond.selects yX12_ticks.cls yX12_ticks yX12_ticks ∈ wt_ := m_1693
theorem ml_X12_areTicks : ML yX12_areTicks cX12_areTicks 2 (some .boolean) 1 := ⟨m_1698, m_138, by decide +kernel, by decide +kernel, by decide +kernel⟩
theorem im_X12_areTicks : Cond.instanceMethod yX12_areTicks ∈ wt_ := m_1697
theorem se_X12_areTicks : Cond.selects yX12_areTicks.cls yX12_areTicks yX12_areTicks ∈ wt_ := m_90
theorem ml_X12_isRefused : ML yX12_isRefused cX12_isRefused 2 (some .boolean) 1 := ⟨m_1702, m_138, by decide +kernel, by decide +kernel, by decide +kernel⟩
theorem im_X12_isRefused : Cond.instanceMethod yX12_isRefused ∈ wt_ := m_1701
theorem se_X12_isRefused : Cond.selects yX12_isRefused.cls yX12_isRefused yX12_isRefused ∈ wt_ := m_91
theorem ml_X12_keep : ML yX12_keep cX12_keep 2 none 0 := ⟨m_1706, m_138, by decide +kernel, by decide +kernel, by decide +kernel⟩
theorem im_X12_keep : Cond.instanceMethod yX12_keep ∈ wt_ := m_1705
theorem se_X12_keep : Cond.selects yX12_keep.cls yX12_keep yX12_keep ∈ wt_ := m_92
theorem ml_X12_passTick : ML yX12_passTick cX12_passTick 2 none 0 := ⟨m_1710, m_138, by decide +kernel, by decide +kernel, by decide +kernel⟩
theorem im_X12_passTick : Cond.instanceMethod yX12_passTick ∈ wt_ := m_1709
theorem se_X12_passTick : Cond.selects yX12_passTick.cls yX12_passTick yX12_passTick ∈ wt_ := m_93
theorem ml_X12_nextOf : ML yX12_nextOf cX12_nextOf 4 (some .int) 3 := ⟨m_1714, m_138, by decide +kernel, by decide +kernel, by decide +kernel⟩
theorem im_X12_nextOf : Cond.instanceMethod yX12_nextOf ∈ wt_ := m_1713
theorem se_X12_nextOf : Cond.selects yX12_nextOf.cls yX12_nextOf yX12_nextOf ∈ wt_ := m_94
theorem ml_X12_moveBy : ML yX12_moveBy cX12_moveBy 5 (some .int) 3 := ⟨m_1718, m_138, by decide +kernel, by decide +kernel, by decide +kernel⟩
theorem im_X12_moveBy : Cond.instanceMethod yX12_moveBy ∈ wt_ := m_1717
theorem se_X12_moveBy : Cond.selects yX12_moveBy.cls yX12_moveBy yX12_moveBy ∈ wt_ := m_95
theorem ml_X12_worthOf : ML yX12_worthOf cX12_worthOf 3 (some .int) 1 := ⟨m_1722, m_138, by decide +kernel, by decide +kernel, by decide +kernel⟩
theorem im_X12_worthOf : Cond.instanceMethod yX12_worthOf ∈ wt_ := m_1721
theorem se_X12_worthOf : Cond.selects yX12_worthOf.cls yX12_worthOf yX12_worthOf ∈ wt_ := m_96
theorem ml_X12_workOut : ML yX12_workOut cX12_workOut 6 (some .int) 3 := ⟨m_1726, m_138, by decide +kernel, by decide +kernel, by decide +kernel⟩
theorem im_X12_workOut : Cond.instanceMethod yX12_workOut ∈ wt_ := m_1725
theorem se_X12_workOut : Cond.selects yX12_workOut.cls yX12_workOut yX12_workOut ∈ wt_ := m_97
theorem ml_X12_worked : ML yX12_worked cX12_worked 5 (some .int) 3 := ⟨m_1729, m_138, by decide +kernel, by decide +kernel, by decide +kernel⟩
theorem sm_X12_worked : Cond.static yX12_worked ∈ wt_ := m_1728
theorem ml_X12_bounded : ML yX12_bounded cX12_bounded 2 (some .int) 1 := ⟨m_1732, m_138, by decide +kernel, by decide +kernel, by decide +kernel⟩
theorem sm_X12_bounded : Cond.static yX12_bounded ∈ wt_ := m_1731
theorem ml_X12_round : ML yX12_round cX12_round 2 (some .int) 2 := ⟨m_1741, m_138, by decide +kernel, by decide +kernel, by decide +kernel⟩
theorem sm_X12_round : Cond.static yX12_round ∈ wt_ := m_1740
theorem ml_X12_putLog : ML yX12_putLog cX12_putLog 3 none 0 := ⟨m_1745, m_138, by decide +kernel, by decide +kernel, by decide +kernel⟩
theorem im_X12_putLog : Cond.instanceMethod yX12_putLog ∈ wt_ := m_1744
theorem se_X12_putLog : Cond.selects yX12_putLog.cls yX12_putLog yX12_putLog ∈ wt_ := m_98
theorem ml_X12_flash : ML yX12_flash cX12_flash 3 (some .int) 1 := ⟨m_1749, m_138, by decide +kernel, by decide +kernel, by decide +kernel⟩
theorem im_X12_flash : Cond.instanceMethod yX12_flash ∈ wt_ := m_1747
theorem se_X12_flash : Cond.selects yX12_flash.cls yX12_flash yX12_flash ∈ wt_ := m_1748
theorem ml_X12_speed : ML yX12_speed cX12_speed 4 (some .int) 2 := ⟨m_1753, m_138, by decide +kernel, by decide +kernel, by decide +kernel⟩
theorem im_X12_speed : Cond.instanceMethod yX12_speed ∈ wt_ := m_1751
theorem se_X12_speed : Cond.selects yX12_speed.cls yX12_speed yX12_speed ∈ wt_ := m_1752
theorem ml_X12_about : ML yX12_about cX12_about 2 (some .int) 1 := ⟨m_1757, m_138, by decide +kernel, by decide +kernel, by decide +kernel⟩
theorem im_X12_about : Cond.instanceMethod yX12_about ∈ wt_ := m_1755
theorem se_X12_about : Cond.selects yX12_about.cls yX12_about yX12_about ∈ wt_ := m_1756
theorem ml_X12_push : ML yX12_push cX12_push 3 (some .int) 2 := ⟨m_1761, m_138, by decide +kernel, by decide +kernel, by decide +kernel⟩
theorem im_X12_push : Cond.instanceMethod yX12_push ∈ wt_ := m_1759
theorem se_X12_push : Cond.selects yX12_push.cls yX12_push yX12_push ∈ wt_ := m_1760
theorem ml_X12_pushNow : ML yX12_pushNow cX12_pushNow 3 none 2 := ⟨m_1765, m_138, by decide +kernel, by decide +kernel, by decide +kernel⟩
theorem im_X12_pushNow : Cond.instanceMethod yX12_pushNow ∈ wt_ := m_1764
theorem se_X12_pushNow : Cond.selects yX12_pushNow.cls yX12_pushNow yX12_pushNow ∈ wt_ := m_99
theorem ml_X12_puts : ML yX12_puts cX12_puts 3 (some .int) 2 := ⟨m_1769, m_138, by decide +kernel, by decide +kernel, by decide +kernel⟩
theorem im_X12_puts : Cond.instanceMethod yX12_puts ∈ wt_ := m_1767
theorem se_X12_puts : Cond.selects yX12_puts.cls yX12_puts yX12_puts ∈ wt_ := m_1768
theorem ml_X12_oil : ML yX12_oil cX12_oil 2 (some .int) 1 := ⟨m_1773, m_138, by decide +kernel, by decide +kernel, by decide +kernel⟩
theorem im_X12_oil : Cond.instanceMethod yX12_oil ∈ wt_ := m_1771
theorem se_X12_oil : Cond.selects yX12_oil.cls yX12_oil yX12_oil ∈ wt_ := m_1772
theorem ml_X12_give : ML yX12_give cX12_give 2 (some .int) 1 := ⟨m_1777, m_138, by decide +kernel, by decide +kernel, by decide +kernel⟩
theorem im_X12_give : Cond.instanceMethod yX12_give ∈ wt_ := m_1775
theorem se_X12_give : Cond.selects yX12_give.cls yX12_give yX12_give ∈ wt_ := m_1776
theorem ml_X12_years : ML yX12_years cX12_years 5 (some .int) 2 := ⟨m_1781, m_138, by decide +kernel, by decide +kernel, by decide +kernel⟩
theorem im_X12_years : Cond.instanceMethod yX12_years ∈ wt_ := m_1779
theorem se_X12_years : Cond.selects yX12_years.cls yX12_years yX12_years ∈ wt_ := m_1780
theorem ml_X12_drawTick : ML yX12_drawTick cX12_drawTick 2 none 0 := ⟨m_1785, m_138, by decide +kernel, by decide +kernel, by decide +kernel⟩
theorem im_X12_drawTick : Cond.instanceMethod yX12_drawTick ∈ wt_ := m_1784
theorem se_X12_drawTick : Cond.selects yX12_drawTick.cls yX12_drawTick yX12_drawTick ∈ wt_ := m_100
theorem ml_X12_draw : ML yX12_draw cX12_draw 2 (some .int) 1 := ⟨m_1789, m_138, by decide +kernel, by decide +kernel, by decide +kernel⟩
theorem im_X12_draw : Cond.instanceMethod yX12_draw ∈ wt_ := m_1788
theorem se_X12_draw : Cond.selects yX12_draw.cls yX12_draw yX12_draw ∈ wt_ := m_101
theorem ml_X12_status : ML yX12_status cX12_status 2 (some .int) 1 := ⟨m_1795, m_138, by decide +kernel, by decide +kernel, by decide +kernel⟩
theorem im_X12_status : Cond.instanceMethod yX12_status ∈ wt_ := m_1793
theorem se_X12_status : Cond.selects yX12_status.cls yX12_status yX12_status ∈ wt_ := m_1794
theorem ml_X12_undo : ML yX12_undo cX12_undo 2 (some .int) 0 := ⟨m_1799, m_138, by decide +kernel, by decide +kernel, by decide +kernel⟩
theorem im_X12_undo : Cond.instanceMethod yX12_undo ∈ wt_ := m_1797
theorem se_X12_undo : Cond.selects yX12_undo.cls yX12_undo yX12_undo ∈ wt_ := m_1798
theorem ml_X12_log : ML yX12_log cX12_log 3 (some .int) 2 := ⟨m_1803, m_138, by decide +kernel, by decide +kernel, by decide +kernel⟩
theorem im_X12_log : Cond.instanceMethod yX12_log ∈ wt_ := m_1801
theorem se_X12_log : Cond.selects yX12_log.cls yX12_log yX12_log ∈ wt_ := m_1802
theorem ml_X12_at : ML yX12_at cX12_at 3 (some .int) 2 := ⟨m_1807, m_138, by decide +kernel, by decide +kernel, by decide +kernel⟩
theorem im_X12_at : Cond.instanceMethod yX12_at ∈ wt_ := m_1805
theorem se_X12_at : Cond.selects yX12_at.cls yX12_at yX12_at ∈ wt_ := m_1806
theorem ml_X12_placeBehind : ML yX12_placeBehind cX12_placeBehind 5 (some .int) 2 := ⟨m_1811, m_138, by decide +kernel, by decide +kernel, by decide +kernel⟩
theorem im_X12_placeBehind : Cond.instanceMethod yX12_placeBehind ∈ wt_ := m_1810
theorem se_X12_placeBehind : Cond.selects yX12_placeBehind.cls yX12_placeBehind yX12_placeBehind ∈ wt_ := m_102
theorem ml_X12_seems : ML yX12_seems cX12_seems 5 (some .int) 2 := ⟨m_1815, m_138, by decide +kernel, by decide +kernel, by decide +kernel⟩
theorem im_X12_seems : Cond.instanceMethod yX12_seems ∈ wt_ := m_1813
theorem se_X12_seems : Cond.selects yX12_seems.cls yX12_seems yX12_seems ∈ wt_ := m_1814
theorem ml_X12_stands : ML yX12_stands cX12_stands 5 (some .int) 2 := ⟨m_1820, m_138, by decide +kernel, by decide +kernel, by decide +kernel⟩
theorem im_X12_stands : Cond.instanceMethod yX12_stands ∈ wt_ := m_1818
theorem se_X12_stands : Cond.selects yX12_stands.cls yX12_stands yX12_stands ∈ wt_ := m_1819
theorem ml_X12_layTrail : ML yX12_layTrail cX12_layTrail 3 none 1 := ⟨m_1824, m_138, by decide +kernel, by decide +kernel, by decide +kernel⟩
theorem im_X12_layTrail : Cond.instanceMethod yX12_layTrail ∈ wt_ := m_1823
theorem se_X12_layTrail : Cond.selects yX12_layTrail.cls yX12_layTrail yX12_layTrail ∈ wt_ := m_103
theorem ml_X12_standsBy : ML yX12_standsBy cX12_standsBy 3 (some .boolean) 1 := ⟨m_1828, m_138, by decide +kernel, by decide +kernel, by decide +kernel⟩
theorem im_X12_standsBy : Cond.instanceMethod yX12_standsBy ∈ wt_ := m_1827
theorem se_X12_standsBy : Cond.selects yX12_standsBy.cls yX12_standsBy yX12_standsBy ∈ wt_ := m_104
theorem ml_X12_together : ML yX12_together cX12_together 3 (some .int) 0 := ⟨m_1832, m_138, by decide +kernel, by decide +kernel, by decide +kernel⟩
theorem im_X12_together : Cond.instanceMethod yX12_together ∈ wt_ := m_1830
theorem se_X12_together : Cond.selects yX12_together.cls yX12_together yX12_together ∈ wt_ := m_1831
theorem ml_X12_again : ML yX12_again cX12_again 4 (some .int) 1 := ⟨m_1836, m_138, by decide +kernel, by decide +kernel, by decide +kernel⟩
theorem im_X12_again : Cond.instanceMethod yX12_again ∈ wt_ := m_1834
theorem se_X12_again : Cond.selects yX12_again.cls yX12_again yX12_again ∈ wt_ := m_1835
theorem ml_X12_startSpots : ML yX12_startSpots cX12_startSpots 2 none 0 := ⟨m_1840, m_138, by decide +kernel, by decide +kernel, by decide +kernel⟩
theorem im_X12_startSpots : Cond.instanceMethod yX12_startSpots ∈ wt_ := m_1839
theorem se_X12_startSpots : Cond.selects yX12_startSpots.cls yX12_startSpots yX12_startSpots ∈ wt_ := m_105
theorem ml_X12_goSpots : ML yX12_goSpots cX12_goSpots 3 none 1 := ⟨m_1844, m_138, by decide +kernel, by decide +kernel, by decide +kernel⟩
theorem im_X12_goSpots : Cond.instanceMethod yX12_goSpots ∈ wt_ := m_1843
theorem se_X12_goSpots : Cond.selects yX12_goSpots.cls yX12_goSpots yX12_goSpots ∈ wt_ := m_106
theorem ml_X12_areHome : ML yX12_areHome cX12_areHome 4 (some .boolean) 1 := ⟨m_1848, m_138, by decide +kernel, by decide +kernel, by decide +kernel⟩
theorem im_X12_areHome : Cond.instanceMethod yX12_areHome ∈ wt_ := m_1847
theorem se_X12_areHome : Cond.selects yX12_areHome.cls yX12_areHome yX12_areHome ∈ wt_ := m_107
theorem ml_X12_meets : ML yX12_meets cX12_meets 4 (some .int) 2 := ⟨m_1852, m_138, by decide +kernel, by decide +kernel, by decide +kernel⟩
theorem im_X12_meets : Cond.instanceMethod yX12_meets ∈ wt_ := m_1850
theorem se_X12_meets : Cond.selects yX12_meets.cls yX12_meets yX12_meets ∈ wt_ := m_1851
theorem ml_X12_spotShows : ML yX12_spotShows cX12_spotShows 2 (some .int) 1 := ⟨m_1856, m_138, by decide +kernel, by decide +kernel, by decide +kernel⟩
theorem im_X12_spotShows : Cond.instanceMethod yX12_spotShows ∈ wt_ := m_1855
theorem se_X12_spotShows : Cond.selects yX12_spotShows.cls yX12_spotShows yX12_spotShows ∈ wt_ := m_108
theorem ml_X12_reads : ML yX12_reads cX12_reads 5 (some .int) 1 := ⟨m_1860, m_138, by decide +kernel, by decide +kernel, by decide +kernel⟩
theorem im_X12_reads : Cond.instanceMethod yX12_reads ∈ wt_ := m_1858
theorem se_X12_reads : Cond.selects yX12_reads.cls yX12_reads yX12_reads ∈ wt_ := m_1859
theorem ml_X12_period : ML yX12_period cX12_period 3 (some .int) 1 := ⟨m_1864, m_138, by decide +kernel, by decide +kernel, by decide +kernel⟩
theorem im_X12_period : Cond.instanceMethod yX12_period ∈ wt_ := m_1862
theorem se_X12_period : Cond.selects yX12_period.cls yX12_period yX12_period ∈ wt_ := m_1863
theorem ml_X12_isAlike : ML yX12_isAlike cX12_isAlike 6 (some .boolean) 4 := ⟨m_1868, m_138, by decide +kernel, by decide +kernel, by decide +kernel⟩
theorem im_X12_isAlike : Cond.instanceMethod yX12_isAlike ∈ wt_ := m_1867
theorem se_X12_isAlike : Cond.selects yX12_isAlike.cls yX12_isAlike yX12_isAlike ∈ wt_ := m_109
theorem ml_X12_turned : ML yX12_turned cX12_turned 7 (some .int) 4 := ⟨m_1872, m_138, by decide +kernel, by decide +kernel, by decide +kernel⟩
theorem im_X12_turned : Cond.instanceMethod yX12_turned ∈ wt_ := m_1871
theorem se_X12_turned : Cond.selects yX12_turned.cls yX12_turned yX12_turned ∈ wt_ := m_110
theorem ml_X12_least : ML yX12_least cX12_least 4 (some .int) 1 := ⟨m_1876, m_138, by decide +kernel, by decide +kernel, by decide +kernel⟩
theorem im_X12_least : Cond.instanceMethod yX12_least ∈ wt_ := m_1874
theorem se_X12_least : Cond.selects yX12_least.cls yX12_least yX12_least ∈ wt_ := m_1875
theorem ml_X12_isAhead : ML yX12_isAhead cX12_isAhead 7 (some .boolean) 3 := ⟨m_1880, m_138, by decide +kernel, by decide +kernel, by decide +kernel⟩
theorem im_X12_isAhead : Cond.instanceMethod yX12_isAhead ∈ wt_ := m_1879
theorem se_X12_isAhead : Cond.selects yX12_isAhead.cls yX12_isAhead yX12_isAhead ∈ wt_ := m_111
theorem ml_X12_alike : ML yX12_alike cX12_alike 4 (some .int) 3 := ⟨m_1884, m_138, by decide +kernel, by decide +kernel, by decide +kernel⟩
theorem im_X12_alike : Cond.instanceMethod yX12_alike ∈ wt_ := m_1882
theorem se_X12_alike : Cond.selects yX12_alike.cls yX12_alike yX12_alike ∈ wt_ := m_1883
theorem ml_X12_alikeBy : ML yX12_alikeBy cX12_alikeBy 5 (some .int) 3 := ⟨m_1888, m_138, by decide +kernel, by decide +kernel, by decide +kernel⟩
theorem im_X12_alikeBy : Cond.instanceMethod yX12_alikeBy ∈ wt_ := m_1887
theorem se_X12_alikeBy : Cond.selects yX12_alikeBy.cls yX12_alikeBy yX12_alikeBy ∈ wt_ := m_112
theorem ml_X12_mirror : ML yX12_mirror cX12_mirror 2 (some .int) 1 := ⟨m_1892, m_138, by decide +kernel, by decide +kernel, by decide +kernel⟩
theorem im_X12_mirror : Cond.instanceMethod yX12_mirror ∈ wt_ := m_1890
theorem se_X12_mirror : Cond.selects yX12_mirror.cls yX12_mirror yX12_mirror ∈ wt_ := m_1891
theorem ml_X12_rows : ML yX12_rows cX12_rows 7 (some .int) 2 := ⟨m_1896, m_138, by decide +kernel, by decide +kernel, by decide +kernel⟩
theorem im_X12_rows : Cond.instanceMethod yX12_rows ∈ wt_ := m_1894
theorem se_X12_rows : Cond.selects yX12_rows.cls yX12_rows yX12_rows ∈ wt_ := m_1895
theorem ml_X12_areRowsAlike : ML yX12_areRowsAlike cX12_areRowsAlike 6 (some .boolean) 4 := ⟨m_1900, m_138, by decide +kernel, by decide +kernel, by decide +kernel⟩
theorem im_X12_areRowsAlike : Cond.instanceMethod yX12_areRowsAlike ∈ wt_ := m_1899
theorem se_X12_areRowsAlike : Cond.selects yX12_areRowsAlike.cls yX12_areRowsAlike yX12_areRowsAlike ∈ wt_ := m_113
theorem ml_X12_kinds : ML yX12_kinds cX12_kinds 7 (some .int) 3 := ⟨m_1904, m_138, by decide +kernel, by decide +kernel, by decide +kernel⟩
theorem im_X12_kinds : Cond.instanceMethod yX12_kinds ∈ wt_ := m_1902
theorem se_X12_kinds : Cond.selects yX12_kinds.cls yX12_kinds yX12_kinds ∈ wt_ := m_1903
theorem ml_X12_commonOf : ML yX12_commonOf cX12_commonOf 2 (some .int) 2 := ⟨m_1907, m_138, by decide +kernel, by decide +kernel, by decide +kernel⟩
theorem sm_X12_commonOf : Cond.static yX12_commonOf ∈ wt_ := m_1906
theorem ml_X12_power : ML yX12_power cX12_power 5 (some .long) 2 := ⟨m_1910, m_138, by decide +kernel, by decide +kernel, by decide +kernel⟩
theorem sm_X12_power : Cond.static yX12_power ∈ wt_ := m_1909
theorem ml_X12_noted : ML yX12_noted cX12_noted 4 (some .int) 3 := ⟨m_1914, m_138, by decide +kernel, by decide +kernel, by decide +kernel⟩
theorem im_X12_noted : Cond.instanceMethod yX12_noted ∈ wt_ := m_1912
theorem se_X12_noted : Cond.selects yX12_noted.cls yX12_noted yX12_noted ∈ wt_ := m_1913
theorem ml_X12_fits : ML yX12_fits cX12_fits 4 (some .int) 1 := ⟨m_1918, m_138, by decide +kernel, by decide +kernel, by decide +kernel⟩
theorem im_X12_fits : Cond.instanceMethod yX12_fits ∈ wt_ := m_1916
theorem se_X12_fits : Cond.selects yX12_fits.cls yX12_fits yX12_fits ∈ wt_ := m_1917
theorem ml_X12_isFit : ML yX12_isFit cX12_isFit 5 (some .boolean) 3 := ⟨m_1922, m_138, by decide +kernel, by decide +kernel, by decide +kernel⟩
theorem im_X12_isFit : Cond.instanceMethod yX12_isFit ∈ wt_ := m_1921
theorem se_X12_isFit : Cond.selects yX12_isFit.cls yX12_isFit yX12_isFit ∈ wt_ := m_114
theorem ml_X12_shownBy : ML yX12_shownBy cX12_shownBy 5 (some .int) 4 := ⟨m_1926, m_138, by decide +kernel, by decide +kernel, by decide +kernel⟩
theorem im_X12_shownBy : Cond.instanceMethod yX12_shownBy ∈ wt_ := m_1925
theorem se_X12_shownBy : Cond.selects yX12_shownBy.cls yX12_shownBy yX12_shownBy ∈ wt_ := m_115
theorem ml_X12_ask : ML yX12_ask cX12_ask 6 (some .int) 0 := ⟨m_1930, m_138, by decide +kernel, by decide +kernel, by decide +kernel⟩
theorem im_X12_ask : Cond.instanceMethod yX12_ask ∈ wt_ := m_1928
theorem se_X12_ask : Cond.selects yX12_ask.cls yX12_ask yX12_ask ∈ wt_ := m_1929
theorem ml_X12_game : ML yX12_game cX12_game 5 (some .int) 4 := ⟨m_1935, m_138, by decide +kernel, by decide +kernel, by decide +kernel⟩
theorem im_X12_game : Cond.instanceMethod yX12_game ∈ wt_ := m_1933
theorem se_X12_game : Cond.selects yX12_game.cls yX12_game yX12_game ∈ wt_ := m_1934
theorem ml_X12_gameOf : ML yX12_gameOf cX12_gameOf 7 (some .int) 4 := ⟨m_1939, m_138, by decide +kernel, by decide +kernel, by decide +kernel⟩
theorem im_X12_gameOf : Cond.instanceMethod yX12_gameOf ∈ wt_ := m_1938
theorem se_X12_gameOf : Cond.selects yX12_gameOf.cls yX12_gameOf yX12_gameOf ∈ wt_ := m_116
theorem ml_X12_rests : ML yX12_rests cX12_rests 5 (some .int) 2 := ⟨m_1945, m_138, by decide +kernel, by decide +kernel, by decide +kernel⟩
theorem im_X12_rests : Cond.instanceMethod yX12_rests ∈ wt_ := m_1943
theorem se_X12_rests : Cond.selects yX12_rests.cls yX12_rests yX12_rests ∈ wt_ := m_1944
theorem ml_X12_isRest : ML yX12_isRest cX12_isRest 5 (some .boolean) 3 := ⟨m_1949, m_138, by decide +kernel, by decide +kernel, by decide +kernel⟩
theorem im_X12_isRest : Cond.instanceMethod yX12_isRest ∈ wt_ := m_1948
theorem se_X12_isRest : Cond.selects yX12_isRest.cls yX12_isRest yX12_isRest ∈ wt_ := m_117
theorem ml_X12_odds : ML yX12_odds cX12_odds 5 (some .int) 4 := ⟨m_1953, m_138, by decide +kernel, by decide +kernel, by decide +kernel⟩
theorem im_X12_odds : Cond.instanceMethod yX12_odds ∈ wt_ := m_1951
theorem se_X12_odds : Cond.selects yX12_odds.cls yX12_odds yX12_odds ∈ wt_ := m_1952
theorem ml_X12_oddsFrom : ML yX12_oddsFrom cX12_oddsFrom 9 (some .int) 7 := ⟨m_1958, m_138, by decide +kernel, by decide +kernel, by decide +kernel⟩
theorem im_X12_oddsFrom : Cond.instanceMethod yX12_oddsFrom ∈ wt_ := m_1957
theorem se_X12_oddsFrom : Cond.selects yX12_oddsFrom.cls yX12_oddsFrom yX12_oddsFrom ∈ wt_ := m_118
theorem ml_X12_shares : ML yX12_shares cX12_shares 5 (some .int) 2 := ⟨m_1963, m_138, by decide +kernel, by decide +kernel, by decide +kernel⟩
theorem im_X12_shares : Cond.instanceMethod yX12_shares ∈ wt_ := m_1961
theorem se_X12_shares : Cond.selects yX12_shares.cls yX12_shares yX12_shares ∈ wt_ := m_1962
theorem ml_X12_most : ML yX12_most cX12_most 2 (some .int) 1 := ⟨m_1967, m_138, by decide +kernel, by decide +kernel, by decide +kernel⟩
theorem im_X12_most : Cond.instanceMethod yX12_most ∈ wt_ := m_1965
theorem se_X12_most : Cond.selects yX12_most.cls yX12_most yX12_most ∈ wt_ := m_1966
theorem ml_X12_topBy : ML yX12_topBy cX12_topBy 5 (some .int) 1 := ⟨m_1971, m_138, by decide +kernel, by decide +kernel, by decide +kernel⟩
theorem im_X12_topBy : Cond.instanceMethod yX12_topBy ∈ wt_ := m_1970
theorem se_X12_topBy : Cond.selects yX12_topBy.cls yX12_topBy yX12_topBy ∈ wt_ := m_119
theorem ml_X12_commonest : ML yX12_commonest cX12_commonest 3 (some .int) 0 := ⟨m_1975, m_138, by decide +kernel, by decide +kernel, by decide +kernel⟩
theorem im_X12_commonest : Cond.instanceMethod yX12_commonest ∈ wt_ := m_1974
theorem se_X12_commonest : Cond.selects yX12_commonest.cls yX12_commonest yX12_commonest ∈ wt_ := m_120
theorem ml_X12_stripsWith : ML yX12_stripsWith cX12_stripsWith 6 (some .int) 1 := ⟨m_1979, m_138, by decide +kernel, by decide +kernel, by decide +kernel⟩
theorem im_X12_stripsWith : Cond.instanceMethod yX12_stripsWith ∈ wt_ := m_1978
theorem se_X12_stripsWith : Cond.selects yX12_stripsWith.cls yX12_stripsWith yX12_stripsWith ∈ wt_ := m_121
theorem ml_X12_shownOnes : ML yX12_shownOnes cX12_shownOnes 3 (some .int) 0 := ⟨m_1983, m_138, by decide +kernel, by decide +kernel, by decide +kernel⟩
theorem im_X12_shownOnes : Cond.instanceMethod yX12_shownOnes ∈ wt_ := m_1982
theorem se_X12_shownOnes : Cond.selects yX12_shownOnes.cls yX12_shownOnes yX12_shownOnes ∈ wt_ := m_122
theorem ml_X12_twins : ML yX12_twins cX12_twins 4 (some .int) 0 := ⟨m_1987, m_138, by decide +kernel, by decide +kernel, by decide +kernel⟩
theorem im_X12_twins : Cond.instanceMethod yX12_twins ∈ wt_ := m_1986
theorem se_X12_twins : Cond.selects yX12_twins.cls yX12_twins yX12_twins ∈ wt_ := m_123
theorem ml_X12_orderRow : ML yX12_orderRow cX12_orderRow 4 (some .int) 0 := ⟨m_1991, m_138, by decide +kernel, by decide +kernel, by decide +kernel⟩
theorem im_X12_orderRow : Cond.instanceMethod yX12_orderRow ∈ wt_ := m_1990
theorem se_X12_orderRow : Cond.selects yX12_orderRow.cls yX12_orderRow yX12_orderRow ∈ wt_ := m_124
theorem ml_X12_onesWho : ML yX12_onesWho cX12_onesWho 5 (some .int) 1 := ⟨m_1995, m_138, by decide +kernel, by decide +kernel, by decide +kernel⟩
theorem im_X12_onesWho : Cond.instanceMethod yX12_onesWho ∈ wt_ := m_1994
theorem se_X12_onesWho : Cond.selects yX12_onesWho.cls yX12_onesWho yX12_onesWho ∈ wt_ := m_125
theorem ml_X12_image : ML yX12_image cX12_image 2 (some .int) 0 := ⟨m_1999, m_138, by decide +kernel, by decide +kernel, by decide +kernel⟩
theorem im_X12_image : Cond.instanceMethod yX12_image ∈ wt_ := m_1997
theorem se_X12_image : Cond.selects yX12_image.cls yX12_image yX12_image ∈ wt_ := m_1998
theorem ml_X12_back : ML yX12_back cX12_back 2 (some .int) 0 := ⟨m_2003, m_138, by decide +kernel, by decide +kernel, by decide +kernel⟩
theorem im_X12_back : Cond.instanceMethod yX12_back ∈ wt_ := m_2001
theorem se_X12_back : Cond.selects yX12_back.cls yX12_back yX12_back ∈ wt_ := m_2002
theorem ml_X12_count : ML yX12_count cX12_count 2 (some .int) 1 := ⟨m_2007, m_138, by decide +kernel, by decide +kernel, by decide +kernel⟩
theorem im_X12_count : Cond.instanceMethod yX12_count ∈ wt_ := m_2005
theorem se_X12_count : Cond.selects yX12_count.cls yX12_count yX12_count ∈ wt_ := m_2006
theorem iz_L : Cond.initialized RL ∈ wt_ := m_126
theorem iz_X11 : Cond.initialized RX11 ∈ wt_ := m_127
theorem iz_X6 : Cond.initialized RX6 ∈ wt_ := m_128
theorem iz_X1 : Cond.initialized RX1 ∈ wt_ := m_129
theorem iz_X3 : Cond.initialized RX3 ∈ wt_ := m_130
theorem iz_X9 : Cond.initialized RX9 ∈ wt_ := m_131
theorem iz_X8 : Cond.initialized RX8 ∈ wt_ := m_132
theorem iz_X7 : Cond.initialized RX7 ∈ wt_ := m_133
theorem iz_X10 : Cond.initialized RX10 ∈ wt_ := m_134
theorem iz_X5 : Cond.initialized RX5 ∈ wt_ := m_135
theorem iz_X4 : Cond.initialized RX4 ∈ wt_ := m_136
theorem iz_X0 : Cond.initialized RX0 ∈ wt_ := m_137
theorem iz_X12 : Cond.initialized RX12 ∈ wt_ := m_138
theorem iz_J9 : Cond.initialized RJ9 ∈ wt_ := m_139
theorem iz_J10 : Cond.initialized RJ10 ∈ wt_ := m_140
theorem iz_J0 : Cond.initialized RJ0 ∈ wt_ := m_141
theorem iz_J1 : Cond.initialized RJ1 ∈ wt_ := m_142
theorem iz_J2 : Cond.initialized RJ2 ∈ wt_ := m_143
theorem iz_J3 : Cond.initialized RJ3 ∈ wt_ := m_144
theorem iz_J11 : Cond.initialized RJ11 ∈ wt_ := m_145
theorem iz_X2 : Cond.initialized RX2 ∈ wt_ := m_146
theorem iz_J7 : Cond.initialized RJ7 ∈ wt_ := m_147
theorem iz_J6 : Cond.initialized RJ6 ∈ wt_ := m_152
theorem kl_L_8 : Cond.classLink RL 8 RX11 ∈ wt_ := m_153
theorem in_X11 : Cond.instantiable RX11 20 ∈ wt_ := m_154
theorem lk_L_15 : Cond.methodLink RL 15 yX11_init ∈ wt_ := m_155
theorem lk_X11_1 : Cond.methodLink RX11 1 ⟨"java/lang/Object", "<init>", "()V"⟩ ∈ wt_ := m_158
theorem kl_X11_17 : Cond.classLink RX11 17 RX1 ∈ wt_ := m_161
theorem in_X1 : Cond.instantiable RX1 7 ∈ wt_ := m_162
theorem lk_X11_19 : (RX11, 19, yX1_init, "SlitDrum") ∈ k_nest := by decide +kernel
theorem lk_X1_3 : (RX1, 3, yX6_init, "SlitDrum") ∈ k_nest := by decide +kernel
theorem lk_X6_3 : Cond.methodLink RX6 3 ⟨"java/lang/Object", "<init>", "()V"⟩ ∈ wt_ := m_169
theorem kl_X11_24 : Cond.classLink RX11 24 RX3 ∈ wt_ := m_200
theorem in_X3 : Cond.instantiable RX3 5 ∈ wt_ := m_201
theorem lk_X11_26 : (RX11, 26, yX3_init, "SlitDrum") ∈ k_nest := by decide +kernel
theorem lk_X3_3 : (RX3, 3, yX6_init, "SlitDrum") ∈ k_nest := by decide +kernel
theorem kl_X11_31 : Cond.classLink RX11 31 RX9 ∈ wt_ := m_216
theorem in_X9 : Cond.instantiable RX9 5 ∈ wt_ := m_217
theorem lk_X11_33 : (RX11, 33, yX9_init, "SlitDrum") ∈ k_nest := by decide +kernel
theorem lk_X9_3 : (RX9, 3, yX6_init, "SlitDrum") ∈ k_nest := by decide +kernel
theorem kl_X11_38 : Cond.classLink RX11 38 RX2 ∈ wt_ := m_232
theorem kl_X11_50 : Cond.classLink RX11 50 RX8 ∈ wt_ := m_234
theorem in_X8 : Cond.instantiable RX8 1 ∈ wt_ := m_236
theorem lk_X11_59 : Cond.methodLink RX11 59 yX8_init ∈ wt_ := m_237
theorem lk_X8_3 : Cond.methodLink RX8 3 ⟨"java/lang/Object", "<init>", "()V"⟩ ∈ wt_ := m_240
theorem kl_X11_72 : Cond.classLink RX11 72 RX7 ∈ wt_ := m_245
theorem in_X7 : Cond.instantiable RX7 8 ∈ wt_ := m_246
theorem lk_X11_74 : Cond.methodLink RX11 74 yX7_init ∈ wt_ := m_247
theorem lk_X7_3 : Cond.methodLink RX7 3 ⟨"java/lang/Object", "<init>", "()V"⟩ ∈ wt_ := m_250
theorem kl_X7_9 : Cond.classLink RX7 9 RX10 ∈ wt_ := m_251
theorem in_X10 : Cond.instantiable RX10 4 ∈ wt_ := m_253
theorem lk_X7_40 : (RX7, 40, yX10_init, "SlitDrum") ∈ k_nest := by decide +kernel
theorem lk_X10_1 : Cond.methodLink RX10 1 ⟨"java/lang/Object", "<init>", "()V"⟩ ∈ wt_ := m_257
theorem kl_X11_79 : Cond.classLink RX11 79 RX5 ∈ wt_ := m_318
theorem in_X5 : Cond.instantiable RX5 3 ∈ wt_ := m_319
theorem lk_X11_81 : Cond.methodLink RX11 81 yX5_init ∈ wt_ := m_320
theorem lk_X5_3 : Cond.methodLink RX5 3 ⟨"java/lang/Object", "<init>", "()V"⟩ ∈ wt_ := m_323
theorem kl_X5_9 : Cond.classLink RX5 9 RX7 ∈ wt_ := m_324
theorem lk_X5_24 : Cond.methodLink RX5 24 yX7_init ∈ wt_ := m_326
theorem kl_X11_93 : Cond.classLink RX11 93 RX4 ∈ wt_ := m_338
theorem in_X4 : Cond.instantiable RX4 7 ∈ wt_ := m_339
theorem lk_X11_95 : (RX11, 95, yX4_init, "SlitDrum") ∈ k_nest := by decide +kernel
theorem lk_X4_3 : Cond.methodLink RX4 3 ⟨"java/lang/Object", "<init>", "()V"⟩ ∈ wt_ := m_343
theorem kl_X11_100 : Cond.classLink RX11 100 RX0 ∈ wt_ := m_369
theorem in_X0 : Cond.instantiable RX0 10 ∈ wt_ := m_371
theorem lk_X11_110 : (RX11, 110, yX0_init, "SlitDrum") ∈ k_nest := by decide +kernel
theorem lk_X0_3 : Cond.methodLink RX0 3 ⟨"java/lang/Object", "<init>", "()V"⟩ ∈ wt_ := m_375
theorem kl_X0_18 : Cond.classLink RX0 18 RX8 ∈ wt_ := m_376
theorem lk_X0_20 : Cond.methodLink RX0 20 yX8_init ∈ wt_ := m_377
theorem lk_L_19 : Cond.methodLink RL 19 yX11_feed ∈ wt_ := m_470
theorem lk_X11_111 : Cond.methodLink RX11 111 yX11_bytesIn ∈ wt_ := m_474
theorem lk_X11_115 : Cond.methodLink RX11 115 yX11_record ∈ wt_ := m_477
theorem lk_L_24 : Cond.methodLink RL 24 yX11_end ∈ wt_ := m_481
theorem lk_L_29 : Cond.methodLink RL 29 yX11_fault ∈ wt_ := m_485
theorem lk_X11_119 : Cond.methodLink RX11 119 yX11_readerOf ∈ wt_ := m_489
theorem lk_X11_142 : Cond.methodLink RX11 142 yX6_start ∈ wt_ := m_493
theorem sa_495 : Cond.sameMethod "SlitDrum$Reader" "SlitDrum$Reader" "start" "([II)V" ∈ wt_ := m_495
theorem se_496 : Cond.selects "SlitDrum$LanternReader" ⟨"SlitDrum$Reader", "start", "([II)V"⟩ ⟨"SlitDrum$Reader", "start", "([II)V"⟩ ∈ wt_ := m_496
theorem se_497 : Cond.selects "SlitDrum$LawReader" ⟨"SlitDrum$Reader", "start", "([II)V"⟩ ⟨"SlitDrum$Reader", "start", "([II)V"⟩ ∈ wt_ := m_497
theorem se_498 : Cond.selects "SlitDrum$StripReader" ⟨"SlitDrum$Reader", "start", "([II)V"⟩ ⟨"SlitDrum$Reader", "start", "([II)V"⟩ ∈ wt_ := m_498
theorem lk_X6_22 : Cond.methodLink RX6 22 yJ9_min_7cf53 ∈ wt_ := m_500
theorem lk_X11_123 : Cond.methodLink RX11 123 ⟨"SlitDrum$Reader", "isWhole", "()Z"⟩ ∈ wt_ := m_503
theorem sa_505 : Cond.sameMethod "SlitDrum$Reader" "SlitDrum$Reader" "isWhole" "()Z" ∈ wt_ := m_505
theorem se_506 : Cond.selects "SlitDrum$LanternReader" ⟨"SlitDrum$Reader", "isWhole", "()Z"⟩ ⟨"SlitDrum$LanternReader", "isWhole", "()Z"⟩ ∈ wt_ := m_506
theorem lk_X1_29 : Cond.methodLink RX1 29 ⟨"java/lang/System", "arraycopy", "(Ljava/lang/Object;ILjava/lang/Object;II)V"⟩ ∈ wt_ := m_511
theorem lk_X1_35 : Cond.methodLink RX1 35 yX1_isClause ∈ wt_ := m_514
theorem lk_X1_39 : Cond.methodLink RX1 39 ⟨"SlitDrum$LanternReader", "takes", "(I)Z"⟩ ∈ wt_ := m_518
theorem sa_519 : Cond.sameMethod "SlitDrum$LanternReader" "SlitDrum$Reader" "takes" "(I)Z" ∈ wt_ := m_519
theorem se_521 : Cond.selects "SlitDrum$LanternReader" ⟨"SlitDrum$LanternReader", "takes", "(I)Z"⟩ ⟨"SlitDrum$Reader", "takes", "(I)Z"⟩ ∈ wt_ := m_521
theorem lk_X6_28 : Cond.methodLink RX6 28 yX6_nextSign ∈ wt_ := m_524
theorem sa_526 : Cond.sameMethod "SlitDrum$Reader" "SlitDrum$Reader" "nextSign" "()I" ∈ wt_ := m_526
theorem se_527 : Cond.selects "SlitDrum$LanternReader" ⟨"SlitDrum$Reader", "nextSign", "()I"⟩ ⟨"SlitDrum$Reader", "nextSign", "()I"⟩ ∈ wt_ := m_527
theorem se_528 : Cond.selects "SlitDrum$LawReader" ⟨"SlitDrum$Reader", "nextSign", "()I"⟩ ⟨"SlitDrum$Reader", "nextSign", "()I"⟩ ∈ wt_ := m_528
theorem se_529 : Cond.selects "SlitDrum$StripReader" ⟨"SlitDrum$Reader", "nextSign", "()I"⟩ ⟨"SlitDrum$Reader", "nextSign", "()I"⟩ ∈ wt_ := m_529
theorem lk_X1_55 : Cond.methodLink RX1 55 yX1_areItems ∈ wt_ := m_536
theorem lk_X1_70 : Cond.methodLink RX1 70 yJ0_length_8abf5 ∈ wt_ := m_540
theorem lk_J0_335 : Cond.methodLink RJ0 335 yJ0_coder_7d493 ∈ wt_ := m_544
theorem lk_X1_43 : Cond.methodLink RX1 43 ⟨"SlitDrum$LanternReader", "nextSign", "()I"⟩ ∈ wt_ := m_550
theorem sa_551 : Cond.sameMethod "SlitDrum$LanternReader" "SlitDrum$Reader" "nextSign" "()I" ∈ wt_ := m_551
theorem se_553 : Cond.selects "SlitDrum$LanternReader" ⟨"SlitDrum$LanternReader", "nextSign", "()I"⟩ ⟨"SlitDrum$Reader", "nextSign", "()I"⟩ ∈ wt_ := m_553
theorem lk_X1_75 : Cond.methodLink RX1 75 ⟨"SlitDrum$LanternReader", "letterOf", "(Ljava/lang/String;I)I"⟩ ∈ wt_ := m_554
theorem sa_555 : Cond.sameMethod "SlitDrum$LanternReader" "SlitDrum$Reader" "letterOf" "(Ljava/lang/String;I)I" ∈ wt_ := m_555
theorem lk_X6_32 : Cond.methodLink RX6 32 yJ0_indexOf_0f7a4 ∈ wt_ := m_558
theorem lk_J0_633 : Cond.methodLink RJ0 633 yJ0_indexOf_7cf53 ∈ wt_ := m_562
theorem lk_J0_492 : Cond.methodLink RJ0 492 yJ0_isLatin1_aae02 ∈ wt_ := m_566
theorem lk_J0_505 : Cond.methodLink RJ0 505 yJ0_length_8abf5 ∈ wt_ := m_570
theorem lk_J0_637 : Cond.methodLink RJ0 637 yJ1_indexOf_4cfef ∈ wt_ := m_571
theorem lk_J1_88 : Cond.methodLink RJ1 88 yJ1_canEncode_9a6ad ∈ wt_ := m_574
theorem lk_J1_92 : Cond.methodLink RJ1 92 yJ9_max_7cf53 ∈ wt_ := m_577
theorem lk_J1_38 : Cond.methodLink RJ1 38 yJ9_min_7cf53 ∈ wt_ := m_580
theorem lk_J1_95 : Cond.methodLink RJ1 95 yJ1_indexOfChar_4cfef ∈ wt_ := m_581
theorem lk_J0_640 : Cond.methodLink RJ0 640 yJ2_indexOf_4cfef ∈ wt_ := m_584
theorem lk_J2_224 : Cond.methodLink RJ2 224 yJ9_max_7cf53 ∈ wt_ := m_587
theorem lk_J2_183 : Cond.methodLink RJ2 183 yJ9_min_7cf53 ∈ wt_ := m_588
theorem kc_J2_227 : Cond.constant RJ2 227 (65536) ∈ wt_ := m_589
theorem lk_J2_228 : Cond.methodLink RJ2 228 yJ2_indexOfChar_4cfef ∈ wt_ := m_590
theorem lk_J2_96 : Cond.methodLink RJ2 96 yJ2_checkBoundsBeginEnd_d044e ∈ wt_ := m_593
theorem lk_J2_48 : Cond.methodLink RJ2 48 yJ2_length_9d52b ∈ wt_ := m_596
theorem lk_J2_241 : Cond.methodLink RJ2 241 yJ0_checkBoundsBeginEnd_23922 ∈ wt_ := m_599
theorem lk_J0_1062 : Cond.methodLink RJ0 1062 yJ3_checkFromToIndex_8c36e ∈ wt_ := m_604
theorem lk_J2_244 : Cond.methodLink RJ2 244 yJ2_indexOfCharUnsafe_4cfef ∈ wt_ := m_607
theorem lk_J2_71 : Cond.methodLink RJ2 71 yJ2_getChar_3b067 ∈ wt_ := m_610
theorem lk_J2_232 : Cond.methodLink RJ2 232 yJ2_indexOfSupplementary_4cfef ∈ wt_ := m_619
theorem lk_J2_164 : Cond.methodLink RJ2 164 yJ11_isValidCodePoint_9a6ad ∈ wt_ := m_622
theorem lk_J2_157 : Cond.methodLink RJ2 157 yJ11_highSurrogate_5068e ∈ wt_ := m_625
theorem kc_J11_110 : Cond.constant RJ11 110 (55232) ∈ wt_ := m_628
theorem lk_J2_161 : Cond.methodLink RJ2 161 yJ11_lowSurrogate_5068e ∈ wt_ := m_629
theorem kc_J11_76 : Cond.constant RJ11 76 (56320) ∈ wt_ := m_632
theorem lk_X1_82 : Cond.methodLink RX1 82 ⟨"SlitDrum$LanternReader", "number", "(III)I"⟩ ∈ wt_ := m_633
theorem sa_634 : Cond.sameMethod "SlitDrum$LanternReader" "SlitDrum$Reader" "number" "(III)I" ∈ wt_ := m_634
theorem se_636 : Cond.selects "SlitDrum$LanternReader" ⟨"SlitDrum$LanternReader", "number", "(III)I"⟩ ⟨"SlitDrum$Reader", "number", "(III)I"⟩ ∈ wt_ := m_636
theorem se_646 : Cond.selects "SlitDrum$LawReader" ⟨"SlitDrum$Reader", "isWhole", "()Z"⟩ ⟨"SlitDrum$LawReader", "isWhole", "()Z"⟩ ∈ wt_ := m_646
theorem lk_X3_19 : Cond.methodLink RX3 19 yX3_isClause ∈ wt_ := m_649
theorem lk_X3_23 : Cond.methodLink RX3 23 ⟨"SlitDrum$LawReader", "takes", "(I)Z"⟩ ∈ wt_ := m_653
theorem sa_654 : Cond.sameMethod "SlitDrum$LawReader" "SlitDrum$Reader" "takes" "(I)Z" ∈ wt_ := m_654
theorem se_655 : Cond.selects "SlitDrum$LawReader" ⟨"SlitDrum$LawReader", "takes", "(I)Z"⟩ ⟨"SlitDrum$Reader", "takes", "(I)Z"⟩ ∈ wt_ := m_655
theorem lk_X3_27 : Cond.methodLink RX3 27 ⟨"SlitDrum$LawReader", "nextSign", "()I"⟩ ∈ wt_ := m_656
theorem sa_657 : Cond.sameMethod "SlitDrum$LawReader" "SlitDrum$Reader" "nextSign" "()I" ∈ wt_ := m_657
theorem se_658 : Cond.selects "SlitDrum$LawReader" ⟨"SlitDrum$LawReader", "nextSign", "()I"⟩ ⟨"SlitDrum$Reader", "nextSign", "()I"⟩ ∈ wt_ := m_658
theorem lk_X3_37 : Cond.methodLink RX3 37 yX3_isCondition ∈ wt_ := m_659
theorem lk_X3_64 : Cond.methodLink RX3 64 yX3_isTruth ∈ wt_ := m_663
theorem lk_X3_71 : Cond.methodLink RX3 71 yX3_isUnit ∈ wt_ := m_667
theorem lk_X3_43 : Cond.methodLink RX3 43 yX3_isSum ∈ wt_ := m_671
theorem lk_X3_77 : Cond.methodLink RX3 77 yX3_isTerm ∈ wt_ := m_675
theorem lk_X3_80 : Cond.methodLink RX3 80 yX3_isAtom ∈ wt_ := m_679
theorem lk_X3_85 : Cond.methodLink RX3 85 ⟨"SlitDrum$LawReader", "letterOf", "(Ljava/lang/String;I)I"⟩ ∈ wt_ := m_684
theorem sa_685 : Cond.sameMethod "SlitDrum$LawReader" "SlitDrum$Reader" "letterOf" "(Ljava/lang/String;I)I" ∈ wt_ := m_685
theorem lk_X3_89 : Cond.methodLink RX3 89 yX2_letterCode ∈ wt_ := m_686
theorem lk_X3_60 : Cond.methodLink RX3 60 yX3_write ∈ wt_ := m_689
theorem lk_X3_92 : Cond.methodLink RX3 92 ⟨"SlitDrum$LawReader", "number", "(III)I"⟩ ∈ wt_ := m_693
theorem sa_694 : Cond.sameMethod "SlitDrum$LawReader" "SlitDrum$Reader" "number" "(III)I" ∈ wt_ := m_694
theorem se_695 : Cond.selects "SlitDrum$LawReader" ⟨"SlitDrum$LawReader", "number", "(III)I"⟩ ⟨"SlitDrum$Reader", "number", "(III)I"⟩ ∈ wt_ := m_695
theorem lk_X3_67 : Cond.methodLink RX3 67 yX2_signCode ∈ wt_ := m_696
theorem lk_X3_49 : Cond.methodLink RX3 49 yX3_isCompared ∈ wt_ := m_699
theorem lk_X3_46 : Cond.methodLink RX3 46 yX3_isComparison ∈ wt_ := m_703
theorem lk_X3_52 : Cond.methodLink RX3 52 yX3_areMoreUnits ∈ wt_ := m_706
theorem lk_X3_55 : Cond.methodLink RX3 55 yX3_areMoreTruths ∈ wt_ := m_710
theorem lk_X3_40 : Cond.methodLink RX3 40 yX3_isAnswerIf ∈ wt_ := m_714
theorem se_718 : Cond.selects "SlitDrum$StripReader" ⟨"SlitDrum$Reader", "isWhole", "()Z"⟩ ⟨"SlitDrum$StripReader", "isWhole", "()Z"⟩ ∈ wt_ := m_718
theorem lk_X9_19 : Cond.methodLink RX9 19 ⟨"SlitDrum$StripReader", "nextSign", "()I"⟩ ∈ wt_ := m_721
theorem sa_722 : Cond.sameMethod "SlitDrum$StripReader" "SlitDrum$Reader" "nextSign" "()I" ∈ wt_ := m_722
theorem se_723 : Cond.selects "SlitDrum$StripReader" ⟨"SlitDrum$StripReader", "nextSign", "()I"⟩ ⟨"SlitDrum$Reader", "nextSign", "()I"⟩ ∈ wt_ := m_723
theorem lk_X9_26 : Cond.methodLink RX9 26 yX9_pictureOf ∈ wt_ := m_724
theorem lk_X9_30 : Cond.methodLink RX9 30 yX9_add ∈ wt_ := m_727
theorem lk_L_34 : Cond.methodLink RL 34 yX11_text ∈ wt_ := m_732
theorem lk_X11_132 : Cond.methodLink RX11 132 yX11_tellLantern ∈ wt_ := m_736
theorem lk_X11_146 : Cond.methodLink RX11 146 yX1_tell ∈ wt_ := m_740
theorem lk_X11_162 : Cond.methodLink RX11 162 yX11_stripOf ∈ wt_ := m_744
theorem lk_X11_221 : Cond.methodLink RX11 221 yX11_isStrip ∈ wt_ := m_748
theorem lk_X11_166 : Cond.methodLink RX11 166 yX8_size ∈ wt_ := m_752
theorem lk_X11_169 : Cond.methodLink RX11 169 yX11_round ∈ wt_ := m_756
theorem lk_X11_421 : Cond.methodLink RX11 421 yJ9_floorMod_7cf53 ∈ wt_ := m_759
theorem lk_X11_173 : Cond.methodLink RX11 173 yX5_clear ∈ wt_ := m_762
theorem lk_X11_176 : Cond.methodLink RX11 176 yX4_clear ∈ wt_ := m_766
theorem lk_X11_136 : Cond.methodLink RX11 136 yX11_tellLaw ∈ wt_ := m_770
theorem in_X2 : Cond.instantiable RX2 3 ∈ wt_ := m_774
theorem lk_X11_177 : Cond.methodLink RX11 177 yX3_written ∈ wt_ := m_775
theorem lk_X3_31 : Cond.methodLink RX3 31 yJ7_copyOf_59c91 ∈ wt_ := m_779
theorem lk_J7_316 : Cond.methodLink RJ7 316 ⟨"[I", "clone", "()Ljava/lang/Object;"⟩ ∈ wt_ := m_782
theorem sa_783 : Cond.sameMethod "[I" "java/lang/Object" "clone" "()Ljava/lang/Object;" ∈ wt_ := m_783
theorem se_786 : Cond.selects "[I" ⟨"[I", "clone", "()Ljava/lang/Object;"⟩ ⟨"java/lang/Object", "clone", "()Ljava/lang/Object;"⟩ ∈ wt_ := m_786
theorem kl_J7_317 : Cond.classLink RJ7 317 "[I" ∈ wt_ := m_788
theorem lk_J7_304 : Cond.methodLink RJ7 304 yJ9_min_7cf53 ∈ wt_ := m_789
theorem lk_J7_150 : Cond.methodLink RJ7 150 ⟨"java/lang/System", "arraycopy", "(Ljava/lang/Object;ILjava/lang/Object;II)V"⟩ ∈ wt_ := m_790
theorem lk_X11_181 : Cond.methodLink RX11 181 yX2_init ∈ wt_ := m_791
theorem lk_X2_1 : Cond.methodLink RX2 1 ⟨"java/lang/Object", "<init>", "()V"⟩ ∈ wt_ := m_794
theorem lk_X11_139 : Cond.methodLink RX11 139 yX11_tellStrip ∈ wt_ := m_805
theorem lk_X11_182 : Cond.methodLink RX11 182 yX9_written ∈ wt_ := m_809
theorem lk_X9_34 : Cond.methodLink RX9 34 yJ7_copyOf_59c91 ∈ wt_ := m_813
theorem lk_L_38 : Cond.methodLink RL 38 yX11_rule ∈ wt_ := m_814
theorem lk_X11_183 : Cond.methodLink RX11 183 yX11_isLit ∈ wt_ := m_818
theorem lk_L_52 : Cond.methodLink RL 52 yX11_picture ∈ wt_ := m_822
theorem lk_X11_224 : Cond.methodLink RX11 224 yX8_shownAt ∈ wt_ := m_826
theorem lk_X8_15 : (RX8, 15, yX11_round, "SlitDrum") ∈ k_nest := by decide +kernel
theorem lk_L_56 : Cond.methodLink RL 56 yX11_law ∈ wt_ := m_831
theorem lk_L_60 : Cond.methodLink RL 60 yX11_touch ∈ wt_ := m_835
theorem lk_L_64 : Cond.methodLink RL 64 yX11_ticks ∈ wt_ := m_839
theorem lk_X11_227 : Cond.methodLink RX11 227 yX11_refused ∈ wt_ := m_843
theorem lk_X11_233 : Cond.methodLink RX11 233 yX5_keep ∈ wt_ := m_847
theorem lk_X5_25 : (RX5, 25, yX11_round, "SlitDrum") ∈ k_nest := by decide +kernel
theorem lk_X5_29 : Cond.methodLink RX5 29 yX7_copyFrom ∈ wt_ := m_852
theorem lk_X7_41 : Cond.methodLink RX7 41 yX10_copyFrom ∈ wt_ := m_856
theorem lk_X7_45 : Cond.methodLink RX7 45 ⟨"java/lang/System", "arraycopy", "(Ljava/lang/Object;ILjava/lang/Object;II)V"⟩ ∈ wt_ := m_860
theorem lk_X5_33 : Cond.methodLink RX5 33 yJ9_min_7cf53 ∈ wt_ := m_861
theorem lk_X11_236 : Cond.methodLink RX11 236 yX11_tickOnce ∈ wt_ := m_862
theorem lk_X11_256 : Cond.methodLink RX11 256 yX11_nextPlace ∈ wt_ := m_866
theorem lk_X11_300 : Cond.methodLink RX11 300 yX11_courseOf ∈ wt_ := m_870
theorem lk_X11_306 : Cond.methodLink RX11 306 yX11_lawNow ∈ wt_ := m_874
theorem lk_X11_310 : Cond.methodLink RX11 310 yX0_set ∈ wt_ := m_878
theorem lk_X0_50 : Cond.methodLink RX0 50 yX10_velocity ∈ wt_ := m_882
theorem lk_X0_58 : Cond.methodLink RX0 58 yX8_size ∈ wt_ := m_886
theorem lk_X11_303 : Cond.methodLink RX11 303 yX0_movedFrom ∈ wt_ := m_887
theorem lk_X0_61 : Cond.methodLink RX0 61 yX8_shownAt ∈ wt_ := m_891
theorem lk_X0_65 : (RX0, 65, yX11_round, "SlitDrum") ∈ k_nest := by decide +kernel
theorem lk_X0_69 : Cond.methodLink RX0 69 yX2_worth ∈ wt_ := m_893
theorem lk_X2_20 : Cond.methodLink RX2 20 yX2_pull ∈ wt_ := m_897
theorem lk_X2_24 : Cond.methodLink RX2 24 yJ9_max_7cf53 ∈ wt_ := m_901
theorem lk_X2_30 : Cond.methodLink RX2 30 yX2_pile ∈ wt_ := m_902
theorem lk_X2_34 : Cond.methodLink RX2 34 yX2_joined ∈ wt_ := m_906
theorem kc_X2_38 : Cond.constant RX2 38 (-1000000) ∈ wt_ := m_909
theorem kc_X2_39 : Cond.constant RX2 39 (1000000) ∈ wt_ := m_910
theorem lk_X2_40 : (RX2, 40, yX11_within, "SlitDrum") ∈ k_nest := by decide +kernel
theorem lk_X11_424 : Cond.methodLink RX11 424 yJ9_min_f86c9 ∈ wt_ := m_914
theorem lk_X11_427 : Cond.methodLink RX11 427 yJ9_max_f86c9 ∈ wt_ := m_917
theorem lk_X0_75 : (RX0, 75, yX11_within, "SlitDrum") ∈ k_nest := by decide +kernel
theorem lk_X11_259 : Cond.methodLink RX11 259 yX11_lookOnce ∈ wt_ := m_921
theorem lk_X11_215 : Cond.methodLink RX11 215 yX11_shown ∈ wt_ := m_925
theorem lk_X11_262 : Cond.methodLink RX11 262 yX7_addRow ∈ wt_ := m_929
theorem lk_X7_51 : (RX7, 51, yX11_round, "SlitDrum") ∈ k_nest := by decide +kernel
theorem lk_X11_265 : Cond.methodLink RX11 265 yX11_allShowOne ∈ wt_ := m_934
theorem lk_L_68 : Cond.methodLink RL 68 yX11_flash ∈ wt_ := m_938
theorem lk_L_72 : Cond.methodLink RL 72 yX11_speed ∈ wt_ := m_942
theorem lk_X11_195 : Cond.methodLink RX11 195 yX11_isWheel ∈ wt_ := m_946
theorem lk_L_76 : Cond.methodLink RL 76 yX11_about ∈ wt_ := m_950
theorem lk_L_80 : Cond.methodLink RL 80 yX11_push ∈ wt_ := m_954
theorem lk_X11_239 : Cond.methodLink RX11 239 yX11_shove ∈ wt_ := m_958
theorem lk_L_84 : Cond.methodLink RL 84 yX11_puts ∈ wt_ := m_962
theorem lk_L_88 : Cond.methodLink RL 88 yX11_oil ∈ wt_ := m_966
theorem lk_L_92 : Cond.methodLink RL 92 yX11_give ∈ wt_ := m_970
theorem lk_L_98 : Cond.methodLink RL 98 yX11_years ∈ wt_ := m_974
theorem lk_X11_243 : Cond.methodLink RX11 243 yX11_meddle ∈ wt_ := m_978
theorem lk_X11_268 : Cond.methodLink RX11 268 yX11_draw ∈ wt_ := m_982
theorem kc_X11_276 : Cond.constantLong RX11 276 (6364136223846793005) ∈ wt_ := m_986
theorem kc_X11_278 : Cond.constantLong RX11 278 (1442695040888963407) ∈ wt_ := m_987
theorem lk_X11_271 : Cond.methodLink RX11 271 yJ9_min_7cf53 ∈ wt_ := m_988
theorem lk_L_103 : Cond.methodLink RL 103 yX11_status ∈ wt_ := m_989
theorem lk_L_107 : Cond.methodLink RL 107 yX11_undo ∈ wt_ := m_993
theorem lk_X11_246 : Cond.methodLink RX11 246 yX5_bringBack ∈ wt_ := m_997
theorem lk_L_111 : Cond.methodLink RL 111 yX11_log ∈ wt_ := m_1001
theorem lk_X11_250 : Cond.methodLink RX11 250 yX7_rowCount ∈ wt_ := m_1005
theorem lk_X7_55 : Cond.methodLink RX7 55 yJ9_min_7cf53 ∈ wt_ := m_1009
theorem lk_X11_253 : Cond.methodLink RX11 253 yX7_rowBefore ∈ wt_ := m_1010
theorem lk_L_115 : Cond.methodLink RL 115 yX11_at ∈ wt_ := m_1014
theorem lk_X11_280 : Cond.methodLink RX11 280 yX11_traced ∈ wt_ := m_1018
theorem lk_X11_314 : Cond.methodLink RX11 314 yX0_trace ∈ wt_ := m_1022
theorem lk_X0_79 : Cond.methodLink RX0 79 yJ7_fill_53178 ∈ wt_ := m_1026
theorem lk_X0_85 : Cond.methodLink RX0 85 yX0_movedFrom ∈ wt_ := m_1029
theorem lk_X11_284 : Cond.methodLink RX11 284 yX0_shownAfter ∈ wt_ := m_1030
theorem lk_X0_88 : Cond.methodLink RX0 88 yX0_placeAfter ∈ wt_ := m_1034
theorem lk_L_119 : Cond.methodLink RL 119 yX11_seems ∈ wt_ := m_1038
theorem kc_X11_287 : Cond.constant RX11 287 (-1000000) ∈ wt_ := m_1042
theorem lk_X11_288 : Cond.methodLink RX11 288 yX0_placeAfter ∈ wt_ := m_1043
theorem lk_L_123 : Cond.methodLink RL 123 yX11_stands ∈ wt_ := m_1044
theorem lk_X11_291 : Cond.methodLink RX11 291 yX0_isStillBy ∈ wt_ := m_1048
theorem lk_X0_91 : Cond.methodLink RX0 91 yX0_isHomeAfter ∈ wt_ := m_1052
theorem lk_L_127 : Cond.methodLink RL 127 yX11_together ∈ wt_ := m_1056
theorem lk_X11_294 : Cond.methodLink RX11 294 yX11_traceAll ∈ wt_ := m_1060
theorem lk_L_131 : Cond.methodLink RL 131 yX11_again ∈ wt_ := m_1064
theorem lk_X11_297 : Cond.methodLink RX11 297 yX0_isHomeAfter ∈ wt_ := m_1068
theorem lk_L_135 : Cond.methodLink RL 135 yX11_meets ∈ wt_ := m_1069
theorem lk_L_139 : Cond.methodLink RL 139 yX11_reads ∈ wt_ := m_1073
theorem lk_L_143 : Cond.methodLink RL 143 yX11_period ∈ wt_ := m_1077
theorem lk_X11_317 : Cond.methodLink RX11 317 yX8_leastPeriod ∈ wt_ := m_1081
theorem lk_X8_19 : Cond.methodLink RX8 19 yX8_size ∈ wt_ := m_1085
theorem lk_X8_23 : Cond.methodLink RX8 23 yX8_isRow ∈ wt_ := m_1086
theorem lk_X8_27 : Cond.methodLink RX8 27 yX8_shownAt ∈ wt_ := m_1090
theorem lk_L_147 : Cond.methodLink RL 147 yX11_least ∈ wt_ := m_1091
theorem lk_X11_320 : Cond.methodLink RX11 320 yX8_leastTurning ∈ wt_ := m_1095
theorem lk_X8_31 : Cond.methodLink RX8 31 yX8_compareRows ∈ wt_ := m_1099
theorem lk_X8_35 : Cond.methodLink RX8 35 yJ6_compare_7cf53 ∈ wt_ := m_1103
theorem lk_L_151 : Cond.methodLink RL 151 yX11_alike ∈ wt_ := m_1106
theorem lk_X11_323 : Cond.methodLink RX11 323 yX8_turningTo ∈ wt_ := m_1110
theorem lk_L_156 : Cond.methodLink RL 156 yX11_mirror ∈ wt_ := m_1114
theorem lk_L_160 : Cond.methodLink RL 160 yX11_rows ∈ wt_ := m_1118
theorem lk_X11_327 : Cond.methodLink RX11 327 yX8_unlikeRows ∈ wt_ := m_1122
theorem lk_L_164 : Cond.methodLink RL 164 yX11_kinds ∈ wt_ := m_1126
theorem lk_X11_330 : Cond.methodLink RX11 330 yX11_commonDivisor ∈ wt_ := m_1130
theorem lk_X11_333 : Cond.methodLink RX11 333 yX11_power ∈ wt_ := m_1133
theorem lk_X11_337 : Cond.methodLink RX11 337 yX11_pairsOver ∈ wt_ := m_1136
theorem lk_L_168 : Cond.methodLink RL 168 yX11_noted ∈ wt_ := m_1139
theorem lk_X11_340 : Cond.methodLink RX11 340 yX4_add ∈ wt_ := m_1143
theorem lk_L_172 : Cond.methodLink RL 172 yX11_fits ∈ wt_ := m_1147
theorem lk_X11_344 : Cond.methodLink RX11 344 yX4_find ∈ wt_ := m_1151
theorem lk_X4_35 : Cond.methodLink RX4 35 yX8_size ∈ wt_ := m_1155
theorem lk_X4_40 : Cond.methodLink RX4 40 yX4_isSo ∈ wt_ := m_1156
theorem lk_X4_44 : Cond.methodLink RX4 44 yX8_shownAt ∈ wt_ := m_1160
theorem lk_X11_351 : Cond.methodLink RX11 351 yX4_foundAt ∈ wt_ := m_1161
theorem lk_L_176 : Cond.methodLink RL 176 yX11_ask ∈ wt_ := m_1165
theorem lk_X11_354 : Cond.methodLink RX11 354 yX4_bestTick ∈ wt_ := m_1169
theorem lk_X4_48 : Cond.methodLink RX4 48 yX4_mostAlike ∈ wt_ := m_1173
theorem lk_X4_52 : Cond.methodLink RX4 52 yJ7_fill_53178 ∈ wt_ := m_1177
theorem lk_X4_58 : Cond.methodLink RX4 58 yJ9_max_7cf53 ∈ wt_ := m_1178
theorem lk_L_180 : Cond.methodLink RL 180 yX11_game ∈ wt_ := m_1179
theorem lk_X11_358 : Cond.methodLink RX11 358 yX11_lookerHas ∈ wt_ := m_1183
theorem lk_X11_369 : Cond.methodLink RX11 369 yX11_unlikeSeen ∈ wt_ := m_1187
theorem lk_X11_373 : Cond.methodLink RX11 373 yX11_withoutBlank ∈ wt_ := m_1191
theorem kc_X11_381 : Cond.constant RX11 381 (67108863) ∈ wt_ := m_1194
theorem lk_X11_376 : Cond.methodLink RX11 376 yJ6_bitCount_0f7a4 ∈ wt_ := m_1195
theorem kc_J6_265 : Cond.constant RJ6 265 (1431655765) ∈ wt_ := m_1198
theorem kc_J6_266 : Cond.constant RJ6 266 (858993459) ∈ wt_ := m_1199
theorem kc_J6_267 : Cond.constant RJ6 267 (252645135) ∈ wt_ := m_1200
theorem lk_X11_362 : Cond.methodLink RX11 362 yX11_turnerHas ∈ wt_ := m_1201
theorem lk_L_185 : Cond.methodLink RL 185 yX11_rests ∈ wt_ := m_1205
theorem lk_X11_365 : Cond.methodLink RX11 365 yX11_isRest ∈ wt_ := m_1209
theorem lk_L_189 : Cond.methodLink RL 189 yX11_odds ∈ wt_ := m_1213
theorem lk_X11_382 : Cond.methodLink RX11 382 yX0_partsShowing ∈ wt_ := m_1217
theorem kc_X0_95 : Cond.constantLong RX0 95 (1000000000) ∈ wt_ := m_1221
theorem lk_X0_97 : Cond.methodLink RX0 97 yJ9_min_7cf53 ∈ wt_ := m_1222
theorem lk_X0_102 : Cond.methodLink RX0 102 yX0_showingOf ∈ wt_ := m_1223
theorem kc_X0_106 : Cond.constantLong RX0 106 (100) ∈ wt_ := m_1227
theorem lk_L_193 : Cond.methodLink RL 193 yX11_shares ∈ wt_ := m_1228
theorem lk_L_197 : Cond.methodLink RL 197 yX11_most ∈ wt_ := m_1232
theorem lk_X11_385 : Cond.methodLink RX11 385 yX11_fastest ∈ wt_ := m_1236
theorem lk_X11_388 : Cond.methodLink RX11 388 yX11_longest ∈ wt_ := m_1240
theorem lk_X11_391 : Cond.methodLink RX11 391 yX11_commonest ∈ wt_ := m_1244
theorem lk_X11_412 : Cond.methodLink RX11 412 yX8_has ∈ wt_ := m_1248
theorem lk_X11_394 : Cond.methodLink RX11 394 yX11_shownNow ∈ wt_ := m_1252
theorem lk_X11_397 : Cond.methodLink RX11 397 yX11_twins ∈ wt_ := m_1256
theorem lk_X11_400 : Cond.methodLink RX11 400 yX11_turningBack ∈ wt_ := m_1260
theorem lk_X11_403 : Cond.methodLink RX11 403 yX11_bareNow ∈ wt_ := m_1264
theorem lk_X11_406 : Cond.methodLink RX11 406 yX11_still ∈ wt_ := m_1268
theorem lk_X11_409 : Cond.methodLink RX11 409 yX11_byPlace ∈ wt_ := m_1272
theorem lk_L_201 : Cond.methodLink RL 201 yX11_image ∈ wt_ := m_1276
theorem lk_X11_415 : Cond.methodLink RX11 415 yX7_copyFrom ∈ wt_ := m_1280
theorem lk_L_205 : Cond.methodLink RL 205 yX11_back ∈ wt_ := m_1281
theorem lk_L_209 : Cond.methodLink RL 209 yX11_count ∈ wt_ := m_1285
theorem lk_L_42 : Cond.methodLink RL 42 yL_wheel ∈ wt_ := m_1289
theorem kl_L_13 : Cond.classLink RL 13 "java/util/NoSuchElementException" ∈ wt_ := m_1292
theorem lk_L_7 : Cond.methodLink RL 7 yX11_wheel ∈ wt_ := m_1293
theorem kl_X11_199 : Cond.classLink RX11 199 "java/util/NoSuchElementException" ∈ wt_ := m_1297
theorem se_1306 : Cond.selects "java/util/NoSuchElementException" ⟨"java/lang/Throwable", "fillInStackTrace", "(I)Ljava/lang/Throwable;"⟩ ⟨"java/lang/Throwable", "fillInStackTrace", "(I)Ljava/lang/Throwable;"⟩ ∈ wt_ := m_1306
theorem se_1307 : Cond.selects "java/util/NoSuchElementException" ⟨"java/lang/Throwable", "fillInStackTrace", "()Ljava/lang/Throwable;"⟩ ⟨"java/lang/Throwable", "fillInStackTrace", "()Ljava/lang/Throwable;"⟩ ∈ wt_ := m_1307
theorem sa_1329 : Cond.sameMethod "java/lang/Throwable" "java/lang/Throwable" "fillInStackTrace" "()Ljava/lang/Throwable;" ∈ wt_ := m_1329
theorem lk_X11_203 : Cond.methodLink RX11 203 ⟨"java/util/NoSuchElementException", "<init>", "(Ljava/lang/String;)V"⟩ ∈ wt_ := m_1337
theorem kl_L_16 : Cond.classLink RL 16 RX12 ∈ wt_ := m_1363
theorem in_X12 : Cond.instantiable RX12 41 ∈ wt_ := m_1364
theorem lk_L_18 : Cond.methodLink RL 18 yX12_init ∈ wt_ := m_1365
theorem lk_X12_3 : Cond.methodLink RX12 3 ⟨"java/lang/Object", "<init>", "()V"⟩ ∈ wt_ := m_1368
theorem lk_L_48 : Cond.methodLink RL 48 yX12_thrown ∈ wt_ := m_1493
theorem lk_L_23 : Cond.methodLink RL 23 yX12_feed ∈ wt_ := m_1497
theorem lk_X12_96 : Cond.methodLink RX12 96 yX12_byteOf ∈ wt_ := m_1501
theorem lk_L_28 : Cond.methodLink RL 28 yX12_end ∈ wt_ := m_1504
theorem lk_L_33 : Cond.methodLink RL 33 yX12_fault ∈ wt_ := m_1508
theorem lk_X12_242 : Cond.methodLink RX12 242 yX12_readLantern ∈ wt_ := m_1512
theorem lk_X12_212 : Cond.methodLink RX12 212 yX12_usual ∈ wt_ := m_1516
theorem lk_X12_122 : Cond.methodLink RX12 122 yX12_look ∈ wt_ := m_1519
theorem lk_X12_106 : Cond.methodLink RX12 106 yX12_here ∈ wt_ := m_1523
theorem lk_X12_232 : Cond.methodLink RX12 232 yX12_items ∈ wt_ := m_1527
theorem lk_X12_216 : Cond.methodLink RX12 216 yX12_itemOf ∈ wt_ := m_1531
theorem lk_X12_219 : Cond.methodLink RX12 219 yX12_has ∈ wt_ := m_1534
theorem lk_X12_223 : Cond.methodLink RX12 223 yX12_highest ∈ wt_ := m_1537
theorem lk_X12_226 : Cond.methodLink RX12 226 yX12_number ∈ wt_ := m_1540
theorem lk_X12_125 : Cond.methodLink RX12 125 yX12_isDigit ∈ wt_ := m_1544
theorem lk_X12_119 : Cond.methodLink RX12 119 yX12_bad ∈ wt_ := m_1547
theorem lk_X12_208 : Cond.methodLink RX12 208 yX12_in ∈ wt_ := m_1551
theorem lk_X12_245 : Cond.methodLink RX12 245 yX12_readLaw ∈ wt_ := m_1554
theorem lk_X12_174 : Cond.methodLink RX12 174 yX12_open ∈ wt_ := m_1558
theorem lk_X12_177 : Cond.methodLink RX12 177 yX12_clause ∈ wt_ := m_1562
theorem lk_X12_162 : Cond.methodLink RX12 162 yX12_condition ∈ wt_ := m_1566
theorem lk_X12_159 : Cond.methodLink RX12 159 yX12_unit ∈ wt_ := m_1570
theorem lk_X12_140 : Cond.methodLink RX12 140 yX12_opens ∈ wt_ := m_1574
theorem lk_X12_132 : Cond.methodLink RX12 132 yX12_put ∈ wt_ := m_1578
theorem lk_X12_146 : Cond.methodLink RX12 146 yX12_closes ∈ wt_ := m_1582
theorem lk_X12_143 : Cond.methodLink RX12 143 yX12_sum ∈ wt_ := m_1586
theorem lk_X12_153 : Cond.methodLink RX12 153 yX12_term ∈ wt_ := m_1590
theorem lk_X12_150 : Cond.methodLink RX12 150 yX12_atom ∈ wt_ := m_1594
theorem lk_X12_129 : Cond.methodLink RX12 129 yX12_plainNumber ∈ wt_ := m_1598
theorem lk_X12_136 : Cond.methodLink RX12 136 yX12_letterOf ∈ wt_ := m_1602
theorem lk_X12_165 : Cond.methodLink RX12 165 yX12_compare ∈ wt_ := m_1605
theorem lk_X12_156 : Cond.methodLink RX12 156 yX12_isSign ∈ wt_ := m_1609
theorem lk_X12_168 : Cond.methodLink RX12 168 yX12_goOnAnd ∈ wt_ := m_1612
theorem lk_X12_171 : Cond.methodLink RX12 171 yX12_goOnOr ∈ wt_ := m_1616
theorem lk_X12_180 : Cond.methodLink RX12 180 yX12_atEnd ∈ wt_ := m_1620
theorem lk_X12_248 : Cond.methodLink RX12 248 yX12_readStrip ∈ wt_ := m_1624
theorem lk_X12_239 : Cond.methodLink RX12 239 yX12_readPicture ∈ wt_ := m_1628
theorem lk_X12_236 : Cond.methodLink RX12 236 yX12_isPicture ∈ wt_ := m_1632
theorem lk_L_37 : Cond.methodLink RL 37 yX12_text ∈ wt_ := m_1635
theorem lk_X12_279 : Cond.methodLink RX12 279 yX12_takeLantern ∈ wt_ := m_1639
theorem lk_X12_254 : Cond.methodLink RX12 254 yX12_of ∈ wt_ := m_1643
theorem lk_X12_266 : Cond.methodLink RX12 266 yX12_longOf ∈ wt_ := m_1647
theorem lk_X12_257 : Cond.methodLink RX12 257 yX12_stripLongOf ∈ wt_ := m_1651
theorem lk_L_41 : Cond.methodLink RL 41 yX12_rule ∈ wt_ := m_1655
theorem lk_L_47 : Cond.methodLink RL 47 yX12_wheel ∈ wt_ := m_1659
theorem lk_X12_307 : Cond.methodLink RX12 307 yX12_isWheel ∈ wt_ := m_1663
theorem lk_X12_304 : Cond.methodLink RX12 304 yX12_showsOf ∈ wt_ := m_1667
theorem lk_X12_260 : Cond.methodLink RX12 260 yX12_pictureAt ∈ wt_ := m_1671
theorem lk_L_55 : Cond.methodLink RL 55 yX12_picture ∈ wt_ := m_1675
theorem lk_X12_310 : Cond.methodLink RX12 310 yX12_isStrip ∈ wt_ := m_1679
theorem lk_L_59 : Cond.methodLink RL 59 yX12_law ∈ wt_ := m_1683
theorem lk_L_63 : Cond.methodLink RL 63 yX12_touch ∈ wt_ := m_1687
theorem lk_L_67 : Cond.methodLink RL 67 yX12_ticks ∈ wt_ := m_1691
theorem lk_X12_313 : Cond.methodLink RX12 313 yX12_areTicks ∈ wt_ := m_1695
theorem lk_X12_316 : Cond.methodLink RX12 316 yX12_isRefused ∈ wt_ := m_1699
theorem lk_X12_319 : Cond.methodLink RX12 319 yX12_keep ∈ wt_ := m_1703
theorem lk_X12_322 : Cond.methodLink RX12 322 yX12_passTick ∈ wt_ := m_1707
theorem lk_X12_298 : Cond.methodLink RX12 298 yX12_nextOf ∈ wt_ := m_1711
theorem lk_X12_292 : Cond.methodLink RX12 292 yX12_moveBy ∈ wt_ := m_1715
theorem lk_X12_285 : Cond.methodLink RX12 285 yX12_worthOf ∈ wt_ := m_1719
theorem lk_X12_204 : Cond.methodLink RX12 204 yX12_workOut ∈ wt_ := m_1723
theorem lk_X12_200 : Cond.methodLink RX12 200 yX12_worked ∈ wt_ := m_1727
theorem lk_X12_196 : Cond.methodLink RX12 196 yX12_bounded ∈ wt_ := m_1730
theorem kc_X12_183 : Cond.constantLong RX12 183 (-1000000) ∈ wt_ := m_1733
theorem kc_X12_185 : Cond.constantLong RX12 185 (1000000) ∈ wt_ := m_1734
theorem lk_X12_187 : Cond.methodLink RX12 187 yJ9_min_f86c9 ∈ wt_ := m_1735
theorem lk_X12_193 : Cond.methodLink RX12 193 yJ9_max_f86c9 ∈ wt_ := m_1736
theorem lk_X12_288 : Cond.methodLink RX12 288 yJ9_min_7cf53 ∈ wt_ := m_1737
theorem lk_X12_290 : Cond.methodLink RX12 290 yJ9_max_7cf53 ∈ wt_ := m_1738
theorem lk_X12_295 : Cond.methodLink RX12 295 yX12_round ∈ wt_ := m_1739
theorem lk_X12_301 : Cond.methodLink RX12 301 yX12_putLog ∈ wt_ := m_1742
theorem lk_L_71 : Cond.methodLink RL 71 yX12_flash ∈ wt_ := m_1746
theorem lk_L_75 : Cond.methodLink RL 75 yX12_speed ∈ wt_ := m_1750
theorem lk_L_79 : Cond.methodLink RL 79 yX12_about ∈ wt_ := m_1754
theorem lk_L_83 : Cond.methodLink RL 83 yX12_push ∈ wt_ := m_1758
theorem lk_X12_325 : Cond.methodLink RX12 325 yX12_pushNow ∈ wt_ := m_1762
theorem lk_L_87 : Cond.methodLink RL 87 yX12_puts ∈ wt_ := m_1766
theorem lk_L_91 : Cond.methodLink RL 91 yX12_oil ∈ wt_ := m_1770
theorem lk_L_95 : Cond.methodLink RL 95 yX12_give ∈ wt_ := m_1774
theorem lk_L_102 : Cond.methodLink RL 102 yX12_years ∈ wt_ := m_1778
theorem lk_X12_339 : Cond.methodLink RX12 339 yX12_drawTick ∈ wt_ := m_1782
theorem lk_X12_336 : Cond.methodLink RX12 336 yX12_draw ∈ wt_ := m_1786
theorem kc_X12_332 : Cond.constantLong RX12 332 (6364136223846793005) ∈ wt_ := m_1790
theorem kc_X12_334 : Cond.constantLong RX12 334 (1442695040888963407) ∈ wt_ := m_1791
theorem lk_L_106 : Cond.methodLink RL 106 yX12_status ∈ wt_ := m_1792
theorem lk_L_110 : Cond.methodLink RL 110 yX12_undo ∈ wt_ := m_1796
theorem lk_L_114 : Cond.methodLink RL 114 yX12_log ∈ wt_ := m_1800
theorem lk_L_118 : Cond.methodLink RL 118 yX12_at ∈ wt_ := m_1804
theorem lk_X12_342 : Cond.methodLink RX12 342 yX12_placeBehind ∈ wt_ := m_1808
theorem lk_L_122 : Cond.methodLink RL 122 yX12_seems ∈ wt_ := m_1812
theorem kc_X12_345 : Cond.constant RX12 345 (-1000000) ∈ wt_ := m_1816
theorem lk_L_126 : Cond.methodLink RL 126 yX12_stands ∈ wt_ := m_1817
theorem lk_X12_346 : Cond.methodLink RX12 346 yX12_layTrail ∈ wt_ := m_1821
theorem lk_X12_349 : Cond.methodLink RX12 349 yX12_standsBy ∈ wt_ := m_1825
theorem lk_L_130 : Cond.methodLink RL 130 yX12_together ∈ wt_ := m_1829
theorem lk_L_134 : Cond.methodLink RL 134 yX12_again ∈ wt_ := m_1833
theorem lk_X12_352 : Cond.methodLink RX12 352 yX12_startSpots ∈ wt_ := m_1837
theorem lk_X12_355 : Cond.methodLink RX12 355 yX12_goSpots ∈ wt_ := m_1841
theorem lk_X12_358 : Cond.methodLink RX12 358 yX12_areHome ∈ wt_ := m_1845
theorem lk_L_138 : Cond.methodLink RL 138 yX12_meets ∈ wt_ := m_1849
theorem lk_X12_361 : Cond.methodLink RX12 361 yX12_spotShows ∈ wt_ := m_1853
theorem lk_L_142 : Cond.methodLink RL 142 yX12_reads ∈ wt_ := m_1857
theorem lk_L_146 : Cond.methodLink RL 146 yX12_period ∈ wt_ := m_1861
theorem lk_X12_368 : Cond.methodLink RX12 368 yX12_isAlike ∈ wt_ := m_1865
theorem lk_X12_364 : Cond.methodLink RX12 364 yX12_turned ∈ wt_ := m_1869
theorem lk_L_150 : Cond.methodLink RL 150 yX12_least ∈ wt_ := m_1873
theorem lk_X12_372 : Cond.methodLink RX12 372 yX12_isAhead ∈ wt_ := m_1877
theorem lk_L_155 : Cond.methodLink RL 155 yX12_alike ∈ wt_ := m_1881
theorem lk_X12_375 : Cond.methodLink RX12 375 yX12_alikeBy ∈ wt_ := m_1885
theorem lk_L_159 : Cond.methodLink RL 159 yX12_mirror ∈ wt_ := m_1889
theorem lk_L_163 : Cond.methodLink RL 163 yX12_rows ∈ wt_ := m_1893
theorem lk_X12_379 : Cond.methodLink RX12 379 yX12_areRowsAlike ∈ wt_ := m_1897
theorem lk_L_167 : Cond.methodLink RL 167 yX12_kinds ∈ wt_ := m_1901
theorem lk_X12_383 : Cond.methodLink RX12 383 yX12_commonOf ∈ wt_ := m_1905
theorem lk_X12_386 : Cond.methodLink RX12 386 yX12_power ∈ wt_ := m_1908
theorem lk_L_171 : Cond.methodLink RL 171 yX12_noted ∈ wt_ := m_1911
theorem lk_L_175 : Cond.methodLink RL 175 yX12_fits ∈ wt_ := m_1915
theorem lk_X12_394 : Cond.methodLink RX12 394 yX12_isFit ∈ wt_ := m_1919
theorem lk_X12_390 : Cond.methodLink RX12 390 yX12_shownBy ∈ wt_ := m_1923
theorem lk_L_179 : Cond.methodLink RL 179 yX12_ask ∈ wt_ := m_1927
theorem lk_X12_397 : Cond.methodLink RX12 397 yX12_fits ∈ wt_ := m_1931
theorem lk_L_184 : Cond.methodLink RL 184 yX12_game ∈ wt_ := m_1932
theorem lk_X12_406 : Cond.methodLink RX12 406 yX12_gameOf ∈ wt_ := m_1936
theorem kc_X12_400 : Cond.constant RX12 400 (67108863) ∈ wt_ := m_1940
theorem lk_X12_401 : Cond.methodLink RX12 401 yJ6_bitCount_0f7a4 ∈ wt_ := m_1941
theorem lk_L_188 : Cond.methodLink RL 188 yX12_rests ∈ wt_ := m_1942
theorem lk_X12_409 : Cond.methodLink RX12 409 yX12_isRest ∈ wt_ := m_1946
theorem lk_L_192 : Cond.methodLink RL 192 yX12_odds ∈ wt_ := m_1950
theorem kc_X12_418 : Cond.constant RX12 418 (1000000000) ∈ wt_ := m_1954
theorem lk_X12_414 : Cond.methodLink RX12 414 yX12_oddsFrom ∈ wt_ := m_1955
theorem kc_X12_412 : Cond.constantLong RX12 412 (100) ∈ wt_ := m_1959
theorem lk_L_196 : Cond.methodLink RL 196 yX12_shares ∈ wt_ := m_1960
theorem lk_L_200 : Cond.methodLink RL 200 yX12_most ∈ wt_ := m_1964
theorem lk_X12_422 : Cond.methodLink RX12 422 yX12_topBy ∈ wt_ := m_1968
theorem lk_X12_426 : Cond.methodLink RX12 426 yX12_commonest ∈ wt_ := m_1972
theorem lk_X12_419 : Cond.methodLink RX12 419 yX12_stripsWith ∈ wt_ := m_1976
theorem lk_X12_429 : Cond.methodLink RX12 429 yX12_shownOnes ∈ wt_ := m_1980
theorem lk_X12_432 : Cond.methodLink RX12 432 yX12_twins ∈ wt_ := m_1984
theorem lk_X12_435 : Cond.methodLink RX12 435 yX12_orderRow ∈ wt_ := m_1988
theorem lk_X12_438 : Cond.methodLink RX12 438 yX12_onesWho ∈ wt_ := m_1992
theorem lk_L_204 : Cond.methodLink RL 204 yX12_image ∈ wt_ := m_1996
theorem lk_L_208 : Cond.methodLink RL 208 yX12_back ∈ wt_ := m_2000
theorem lk_L_212 : Cond.methodLink RL 212 yX12_count ∈ wt_ := m_2004
theorem kc_L_96 : Cond.constantLong RL 96 (4294967295) ∈ wt_ := m_2008
theorem sa_2010 : Cond.sameMethod "java/lang/Throwable" "java/lang/Throwable" "fillInStackTrace" "(I)Ljava/lang/Throwable;" ∈ wt_ := m_2010
theorem na_copy : Cond.native arraycopyName ∈ wt_ := m_513
theorem st_copy : Cond.static arraycopyName ∈ wt_ := m_512
theorem iz_sys : Cond.initialized "java/lang/System" ∈ wt_ := m_140
theorem wt_a_int : Cond.arrayClass .int ∈ wt_ := m_199
theorem wt_a_boolean : Cond.arrayClass .boolean ∈ wt_ := m_368
theorem wt_a_long : Cond.arrayClass .long ∈ wt_ := m_2009
theorem wt_a_byte : Cond.arrayClass .byte ∈ wt_ := m_731
